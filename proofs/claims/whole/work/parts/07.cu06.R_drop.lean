set_option maxHeartbeats 4000000 in
set_option maxRecDepth 100000 in
theorem ct_R_drop (l : Launch) (D : va_G) (ad : Nat → Nat) (cA : Nat → ClassId) (w : Nat) (hJ : Jn_ ad) (x1 : Int32) (st : St_) (post : Int32 → St_ → Prop) (h : wp_R_drop w x1 st post) : Met l yn_R_drop (Cond.code yn_R_drop bc_R_drop 3 (some .int) :: Wk_) rm_R_drop (Pw_ D ad cA w st [.ref (ad 24), .int x1]) (Qi_ D ad cA w post) 0 0 (Aw_ ad) := by
  refine Met.ofW (cc := bc_R_drop) (maxL := 3) (ret := (some .int)) (by decide) rfl ?_
  intro p e s m args below meth c s₁ B hml hv
  obtain ⟨rfl, hP, hK, hN⟩ := hv
  have hx := B.exec
  have hb := B.bytes
  have hr := B.returns
  have hts : ∀ v ∈ Wk_, v.before [.ref (ad 24), .int x1].toArray s = true := fun v hv => atoms_spec (ws := Cond.code yn_R_drop bc_R_drop 3 (some .int) :: Wk_) B.pre v (List.mem_cons_of_mem _ hv)
  have hown : s.vm.findClass Rn_R = some m.cls := findClass_of_methodNamed B.named
  have hlocks := B.notSynchronized
  have hS : va_S (Aw_ ad) s.heap s.heap [] := va_S.rf
  have hl := lv_entry ([.ref (ad 24), .int x1]) (n := 3) (Nat.le_of_ble_eq_true rfl)
  rw [lg_entry_eq]
  generalize (lg_sl ([.ref (ad 24), .int x1]) ++ List.replicate (3 - (lg_sl ([.ref (ad 24), .int x1])).length) Slot.unset).toArray = ls at hl ⊢
  have hl : lv_has ls 3 [(0, .ref (ad 24)), (1, .int x1)] := hl
  refine lv_iload_n hx hb dc_R_drop_0 rfl (lv_at hl 1 rfl) ?_
  refine w_cSi (y := yn_R_isMap) (index := 24) (n := 1) (own := Rn_R) hx hb hml hown hts hK hN hP hS (ct_R_isMap l D ad cA w hJ x1 st _ h) mw_147 mw_148 mw_149 mw_150 (by decide +kernel) ⟨Nat.le_of_ble_eq_true rfl, Nat.le_of_ble_eq_true rfl⟩ rfl rfl rfl hl.1 rfl (lv_room (Nat.le_of_ble_eq_true rfl)) dc_R_drop_1 ⟨Nat.zero_le _, Nat.zero_le _⟩ (fun r102 st101 H locs hP hS h => ?_)
  refine lv_if_ne (tgt := 9) hx hb dc_R_drop_4 (by decide) (fun c => ?_) (fun c => ?_)
  · have h := h.1 c
    refine lv_aload_n hx hb dc_R_drop_9 rfl (lv_at hl 0 rfl) ?_
    refine va_get (D := D) (ci := 5) (v := .ref (ad 16)) (C := Rn_R) (T := Fn_R) (N := 4) hx hb hts in_R hown hK hP 24 rfl rfl 2 (by decide) (hts _ mw_159) (fun _ h9 => h9) rfl dc_R_drop_10 ?_
    refine lv_iload_n hx hb dc_R_drop_13 rfl (lv_at hl 1 rfl) ?_
    refine w_ild 16 (by decide) hx hb hK hP h.1 dc_R_drop_14 ?_
    have h := h.2
    refine lv_topi (fun x103 ex103 => ?_)
    have h := h x103 ex103
    refine lv_istore_n (lv' := [(2, .int x103), (0, .ref (ad 24)), (1, .int x1)]) hx hb dc_R_drop_15 rfl hl (by decide) rfl (fun ls hl => ?_)
    refine lv_aload_n hx hb dc_R_drop_16 rfl (lv_at hl 1 rfl) ?_
    refine lv_iload_n hx hb dc_R_drop_17 rfl (lv_at hl 2 rfl) ?_
    refine lv_iconst (v := 0) hx hb dc_R_drop_18 (by decide) ?_
    refine lv_sipush (v := 4095) hx hb dc_R_drop_19 (by decide) ?_
    refine w_cVi (y := yn_R_cut) (C := Rn_R) (index := 49) (n := 3) (own := Rn_R) 24 hx hb hml hown hts hK hN hP hS (ct_R_cut l D ad cA w hJ x1 0 4095 st101 _ h) mw_220 mw_241 mw_242 mw_243 mw_150 (by decide +kernel) ⟨Nat.le_of_ble_eq_true rfl, Nat.le_of_ble_eq_true rfl⟩ rfl rfl rfl rfl rfl hl.1 rfl (lv_room (Nat.le_of_ble_eq_true rfl)) dc_R_drop_22 ⟨Nat.zero_le _, Nat.zero_le _⟩ (fun r105 st104 H locs hP hS h => ?_)
    refine lv_pop hx hb dc_R_drop_25 rfl ?_
    refine lv_iload_n hx hb dc_R_drop_26 rfl (lv_at hl 0 rfl) ?_
    exact w_iret hx hb hr hlocks hP hS h dc_R_drop_27
  · have h := h.2 c
    refine lv_iconst (v := (-1)) hx hb dc_R_drop_7 (by decide) ?_
    exact w_iret hx hb hr hlocks hP hS h dc_R_drop_8
