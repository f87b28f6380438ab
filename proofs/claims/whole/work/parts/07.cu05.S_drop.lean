set_option maxHeartbeats 4000000 in
set_option maxRecDepth 100000 in
theorem ct_S_drop (l : Launch) (D : va_G) (ad : Nat → Nat) (cA : Nat → ClassId) (w : Nat) (hJ : Jn_ ad) (x1 : Int32) (st : St_) (post : Int32 → St_ → Prop) (h : wp_S_drop w x1 st post) : Met l yn_S_drop (Cond.code yn_S_drop bc_S_drop 3 (some .int) :: Wk_) rm_S_drop (Pw_ D ad cA w st [.ref (ad 18), .int x1]) (Qi_ D ad cA w post) 0 0 (Aw_ ad) := by
  refine Met.ofW (cc := bc_S_drop) (maxL := 3) (ret := (some .int)) (by decide) rfl ?_
  intro p e s m args below meth c s₁ B hml hv
  obtain ⟨rfl, hP, hK, hN⟩ := hv
  have hx := B.exec
  have hb := B.bytes
  have hr := B.returns
  have hts : ∀ v ∈ Wk_, v.before [.ref (ad 18), .int x1].toArray s = true := fun v hv => atoms_spec (ws := Cond.code yn_S_drop bc_S_drop 3 (some .int) :: Wk_) B.pre v (List.mem_cons_of_mem _ hv)
  have hown : s.vm.findClass Rn_S = some m.cls := findClass_of_methodNamed B.named
  have hlocks := B.notSynchronized
  have hS : va_S (Aw_ ad) s.heap s.heap [] := va_S.rf
  have hl := lv_entry ([.ref (ad 18), .int x1]) (n := 3) (Nat.le_of_ble_eq_true rfl)
  rw [lg_entry_eq]
  generalize (lg_sl ([.ref (ad 18), .int x1]) ++ List.replicate (3 - (lg_sl ([.ref (ad 18), .int x1])).length) Slot.unset).toArray = ls at hl ⊢
  have hl : lv_has ls 3 [(0, .ref (ad 18)), (1, .int x1)] := hl
  refine lv_iload_n hx hb dc_S_drop_0 rfl (lv_at hl 1 rfl) ?_
  refine w_cSi (y := yn_S_isMap) (index := 53) (n := 1) (own := Rn_S) hx hb hml hown hts hK hN hP hS (ct_S_isMap l D ad cA w hJ x1 st _ h) mw_0 mw_1 mw_2 mw_3 (by decide +kernel) ⟨Nat.le_of_ble_eq_true rfl, Nat.le_of_ble_eq_true rfl⟩ rfl rfl rfl hl.1 rfl (lv_room (Nat.le_of_ble_eq_true rfl)) dc_S_drop_1 ⟨Nat.zero_le _, Nat.zero_le _⟩ (fun r102 st101 H locs hP hS h => ?_)
  refine lv_if_ne (tgt := 9) hx hb dc_S_drop_4 (by decide) (fun c => ?_) (fun c => ?_)
  · have h := h.1 c
    refine lv_aload_n hx hb dc_S_drop_9 rfl (lv_at hl 0 rfl) ?_
    refine va_get (D := D) (ci := 0) (v := .ref (ad 22)) (C := Rn_S) (T := Fn_S) (N := 5) hx hb hts in_S hown hK hP 18 rfl rfl 3 (by decide) (hts _ mw_12) (fun _ h9 => h9) rfl dc_S_drop_10 ?_
    refine va_getN (D := D) (ci := 4) (v := .ref (ad 11)) (C := Rn_P) (T := Fn_P) (N := 3) (host := nh_) hx hb hts in_P hown hK hP 22 rfl rfl 1 (by decide) (va_Nw.use rfl (hN.1 _ nf_1)) (fun _ h9 => h9) rfl dc_S_drop_13 ?_
    refine lv_iload_n hx hb dc_S_drop_16 rfl (lv_at hl 1 rfl) ?_
    refine w_ild 11 (by decide) hx hb hK hP h.1 dc_S_drop_17 ?_
    have h := h.2
    refine lv_topi (fun x103 ex103 => ?_)
    have h := h x103 ex103
    refine lv_istore_n (lv' := [(2, .int x103), (0, .ref (ad 18)), (1, .int x1)]) hx hb dc_S_drop_18 rfl hl (by decide) rfl (fun ls hl => ?_)
    refine lv_aload_n hx hb dc_S_drop_19 rfl (lv_at hl 1 rfl) ?_
    refine lv_aload_n hx hb dc_S_drop_20 rfl (lv_at hl 1 rfl) ?_
    refine va_get (D := D) (ci := 0) (v := .ref (ad 22)) (C := Rn_S) (T := Fn_S) (N := 5) hx hb hts in_S hown hK hP 18 rfl rfl 3 (by decide) (hts _ mw_12) (fun _ h9 => h9) rfl dc_S_drop_21 ?_
    refine lv_iload_n hx hb dc_S_drop_24 rfl (lv_at hl 2 rfl) ?_
    refine lv_iconst (v := 0) hx hb dc_S_drop_25 (by decide) ?_
    refine lv_iconst (v := 0) hx hb dc_S_drop_26 (by decide) ?_
    refine w_cVv (y := yn_S_lead) (C := Rn_S) (index := 94) (n := 4) (own := Rn_S) 18 hx hb hml hown hts hK hN hP hS (ct_S_lead_22 l D ad cA w hJ x1 0 0 st101 _ h) mw_234 mw_235 mw_236 mw_237 mw_3 (by decide +kernel) ⟨Nat.le_of_ble_eq_true rfl, Nat.le_of_ble_eq_true rfl⟩ rfl rfl rfl rfl rfl hl.1 rfl (lv_room (Nat.le_of_ble_eq_true rfl)) dc_S_drop_27 ⟨Nat.zero_le _, Nat.zero_le _⟩ (fun st104 H locs hP hS h => ?_)
    refine lv_iload_n hx hb dc_S_drop_30 rfl (lv_at hl 0 rfl) ?_
    exact w_iret hx hb hr hlocks hP hS h dc_S_drop_31
  · have h := h.2 c
    refine lv_iconst (v := (-1)) hx hb dc_S_drop_7 (by decide) ?_
    exact w_iret hx hb hr hlocks hP hS h dc_S_drop_8
