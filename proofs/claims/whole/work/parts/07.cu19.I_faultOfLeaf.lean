set_option maxHeartbeats 4000000 in
set_option maxRecDepth 100000 in
theorem ct_I_faultOfLeaf (l : Launch) (D : va_G) (ad : Nat → Nat) (cA : Nat → ClassId) (w : Nat) (hJ : Jn_ ad) (x1 : Int32) (st : St_) (post : Int32 → St_ → Prop) (h : wp_I_faultOfLeaf w x1 st post) : Met l yn_I_faultOfLeaf (Cond.code yn_I_faultOfLeaf bc_I_faultOfLeaf 4 (some .int) :: Wk_) rm_I_faultOfLeaf (Pw_ D ad cA w st [.ref (ad 21), .int x1]) (Qi_ D ad cA w post) 0 0 (Aw_ ad) := by
  refine Met.ofW (cc := bc_I_faultOfLeaf) (maxL := 4) (ret := (some .int)) (by decide) rfl ?_
  intro p e s m args below meth c s₁ B hml hv
  obtain ⟨rfl, hP, hK, hN⟩ := hv
  have hx := B.exec
  have hb := B.bytes
  have hr := B.returns
  have hts : ∀ v ∈ Wk_, v.before [.ref (ad 21), .int x1].toArray s = true := fun v hv => atoms_spec (ws := Cond.code yn_I_faultOfLeaf bc_I_faultOfLeaf 4 (some .int) :: Wk_) B.pre v (List.mem_cons_of_mem _ hv)
  have hown : s.vm.findClass Rn_I = some m.cls := findClass_of_methodNamed B.named
  have hlocks := B.notSynchronized
  have hS : va_S (Aw_ ad) s.heap s.heap [] := va_S.rf
  have Lp_11 : ∀ (n : Nat) (y1 y2 y3 : Int32) (st : St_), wp_I_faultOfLeaf_11 w post n y1 y2 y3 st → ∀ (H : Heap) (locs : List Loc), va_P D sC_ (wd_ ad cA w st) H → va_S (Aw_ ad) s.heap H locs → ∀ ls : Array Slot, lv_has ls 4 [(0, .ref (ad 21)), (1, .int y1), (2, .int y2), (3, .int y3)] → W p l e (headSpec (Cond.code yn_I_faultOfLeaf bc_I_faultOfLeaf 4 (some .int) :: Wk_) rm_I_faultOfLeaf).room s m [.ref (ad 21), .int x1].toArray below meth c H locs 0 0 (MQ below (Qi_ D ad cA w post) [.ref (ad 21), .int x1].toArray s 0 0 (Aw_ ad)) (F0 m 11 ls []) := by
    intro n
    induction n with
    | zero => intro y1 y2 y3 st h; exact h.elim
    | succ n ih =>
      intro y1 y2 y3 st h H locs hP hS ls hl
      refine lv_iload_n hx hb dc_I_faultOfLeaf_11 rfl (lv_at hl 3 rfl) ?_
      refine lv_iload_n hx hb dc_I_faultOfLeaf_12 rfl (lv_at hl 2 rfl) ?_
      refine lv_icmp_ge (tgt := 39) hx hb dc_I_faultOfLeaf_13 (by decide) (fun c => ?_) (fun c => ?_)
      · have h := h.1 c
        refine lv_aload_n hx hb dc_I_faultOfLeaf_39 rfl (lv_at hl 0 rfl) ?_
        refine va_get (D := D) (ci := 3) (v := .ref (ad 7)) (C := Rn_I) (T := Fn_I) (N := 7) hx hb hts in_I hown hK hP 21 rfl rfl 4 (by decide) (hts _ mw_272) (fun _ h9 => h9) rfl dc_I_faultOfLeaf_40 ?_
        refine lv_iload_n hx hb dc_I_faultOfLeaf_43 rfl (lv_at hl 1 rfl) ?_
        refine lv_iload_n hx hb dc_I_faultOfLeaf_44 rfl (lv_at hl 2 rfl) ?_
        refine w_ist 7 (by decide) hJ hx hb hK hP hS h.1 dc_I_faultOfLeaf_45 (fun H locs hP hS => ?_)
        obtain ⟨st103, est103⟩ : ∃ z : St_, z = ws_1 st 7 (y1).toNatClampNeg y2 := ⟨_, rfl⟩
        rw [← est103] at hP
        have h := h.2 st103 est103
        refine lv_aload_n hx hb dc_I_faultOfLeaf_46 rfl (lv_at hl 0 rfl) ?_
        refine va_get (D := D) (ci := 3) (v := .ref (ad 8)) (C := Rn_I) (T := Fn_I) (N := 7) hx hb hts in_I hown hK hP 21 rfl rfl 5 (by decide) (hts _ mw_273) (fun _ h9 => h9) rfl dc_I_faultOfLeaf_47 ?_
        refine lv_iload_n hx hb dc_I_faultOfLeaf_50 rfl (lv_at hl 1 rfl) ?_
        refine lv_aload_n hx hb dc_I_faultOfLeaf_51 rfl (lv_at hl 0 rfl) ?_
        refine va_get (D := D) (ci := 3) (v := .ref (ad 19)) (C := Rn_I) (T := Fn_I) (N := 7) hx hb hts in_I hown hK hP 21 rfl rfl 0 (by decide) (hts _ mw_260) (fun _ h9 => h9) rfl dc_I_faultOfLeaf_52 ?_
        refine lv_iload_n hx hb dc_I_faultOfLeaf_55 rfl (lv_at hl 1 rfl) ?_
        refine lv_iload_n hx hb dc_I_faultOfLeaf_56 rfl (lv_at hl 2 rfl) ?_
        refine lv_iconst (v := 1) hx hb dc_I_faultOfLeaf_57 (by decide) ?_
        refine lv_isub hx hb dc_I_faultOfLeaf_58 ?_
        refine w_cVi (y := yn_B_key) (C := Rn_B) (index := 91) (n := 2) (own := Rn_I) 19 hx hb hml hown hts hK hN hP hS (ct_B_key l D ad cA w hJ y1 (y2 - 1) st103 _ h) mw_43 mw_266 mw_45 mw_46 mw_18 (by decide +kernel) ⟨Nat.le_of_ble_eq_true rfl, Nat.le_of_ble_eq_true rfl⟩ rfl rfl rfl rfl rfl hl.1 rfl (lv_room (Nat.le_of_ble_eq_true rfl)) dc_I_faultOfLeaf_59 ⟨Nat.zero_le _, Nat.zero_le _⟩ (fun r105 st104 H locs hP hS h => ?_)
        refine w_ist 8 (by decide) hJ hx hb hK hP hS h.1 dc_I_faultOfLeaf_62 (fun H locs hP hS => ?_)
        obtain ⟨st106, est106⟩ : ∃ z : St_, z = ws_1 st104 8 (y1).toNatClampNeg r105 := ⟨_, rfl⟩
        rw [← est106] at hP
        have h := h.2 st106 est106
        refine lv_iconst (v := 0) hx hb dc_I_faultOfLeaf_63 (by decide) ?_
        exact w_iret hx hb hr hlocks hP hS h dc_I_faultOfLeaf_64
      · have h := h.2 c
        refine lv_aload_n hx hb dc_I_faultOfLeaf_16 rfl (lv_at hl 0 rfl) ?_
        refine va_get (D := D) (ci := 3) (v := .ref (ad 19)) (C := Rn_I) (T := Fn_I) (N := 7) hx hb hts in_I hown hK hP 21 rfl rfl 0 (by decide) (hts _ mw_260) (fun _ h9 => h9) rfl dc_I_faultOfLeaf_17 ?_
        refine lv_iload_n hx hb dc_I_faultOfLeaf_20 rfl (lv_at hl 1 rfl) ?_
        refine lv_iload_n hx hb dc_I_faultOfLeaf_21 rfl (lv_at hl 3 rfl) ?_
        refine w_cVi (y := yn_B_goal) (C := Rn_B) (index := 97) (n := 2) (own := Rn_I) 19 hx hb hml hown hts hK hN hP hS (ct_B_goal l D ad cA w hJ y1 y3 st _ h) mw_48 mw_274 mw_50 mw_51 mw_18 (by decide +kernel) ⟨Nat.le_of_ble_eq_true rfl, Nat.le_of_ble_eq_true rfl⟩ rfl rfl rfl rfl rfl hl.1 rfl (lv_room (Nat.le_of_ble_eq_true rfl)) dc_I_faultOfLeaf_22 ⟨Nat.zero_le _, Nat.zero_le _⟩ (fun r108 st107 H locs hP hS h => ?_)
        refine w_cNi (y := yn_S_isStamp) (index := 100) (n := 1) (own := Rn_I) (host := nh_) hx hb hml hown hts hK hN hP hS (ct_S_isStamp l D ad cA w hJ r108 st107 _ h) mw_8 (hN.2 _ nm_1) mw_10 mw_3 (by decide +kernel) ⟨Nat.le_of_ble_eq_true rfl, Nat.le_of_ble_eq_true rfl⟩ rfl rfl rfl hl.1 rfl (lv_room (Nat.le_of_ble_eq_true rfl)) dc_I_faultOfLeaf_25 ⟨Nat.zero_le _, Nat.zero_le _⟩ (fun r110 st109 H locs hP hS h => ?_)
        refine lv_if_ne (tgt := 33) hx hb dc_I_faultOfLeaf_28 (by decide) (fun c => ?_) (fun c => ?_)
        · have h := h.1 c
          obtain ⟨x111, ex111⟩ : ∃ y : Int32, y = y3 + 1 := ⟨_, rfl⟩
          have h := h x111 ex111
          refine lv_iinc (v := x111) (lv' := [(3, .int x111), (0, .ref (ad 21)), (1, .int y1), (2, .int y2)]) hx hb dc_I_faultOfLeaf_33 hl (k := 3) rfl (by rw [ex111]; rfl) (by decide) rfl (fun ls hl => ?_)
          refine lv_goto (tgt := 11) hx hb dc_I_faultOfLeaf_36 (by decide) ?_
          exact ih y1 y2 x111 st109 h _ _ hP hS ls (lv_sub hl [1, 2, 3, 0] rfl)
        · have h := h.2 c
          refine lv_iload_n hx hb dc_I_faultOfLeaf_31 rfl (lv_at hl 1 rfl) ?_
          exact w_iret hx hb hr hlocks hP hS h dc_I_faultOfLeaf_32
  have hl := lv_entry ([.ref (ad 21), .int x1]) (n := 4) (Nat.le_of_ble_eq_true rfl)
  rw [lg_entry_eq]
  generalize (lg_sl ([.ref (ad 21), .int x1]) ++ List.replicate (4 - (lg_sl ([.ref (ad 21), .int x1])).length) Slot.unset).toArray = ls at hl ⊢
  have hl : lv_has ls 4 [(0, .ref (ad 21)), (1, .int x1)] := hl
  refine lv_aload_n hx hb dc_I_faultOfLeaf_0 rfl (lv_at hl 0 rfl) ?_
  refine va_get (D := D) (ci := 3) (v := .ref (ad 19)) (C := Rn_I) (T := Fn_I) (N := 7) hx hb hts in_I hown hK hP 21 rfl rfl 0 (by decide) (hts _ mw_260) (fun _ h9 => h9) rfl dc_I_faultOfLeaf_1 ?_
  refine lv_iload_n hx hb dc_I_faultOfLeaf_4 rfl (lv_at hl 1 rfl) ?_
  refine w_cVi (y := yn_B_size) (C := Rn_B) (index := 75) (n := 1) (own := Rn_I) 19 hx hb hml hown hts hK hN hP hS (ct_B_size l D ad cA w hJ x1 st _ h) mw_26 mw_263 mw_28 mw_29 mw_18 (by decide +kernel) ⟨Nat.le_of_ble_eq_true rfl, Nat.le_of_ble_eq_true rfl⟩ rfl rfl rfl rfl rfl hl.1 rfl (lv_room (Nat.le_of_ble_eq_true rfl)) dc_I_faultOfLeaf_5 ⟨Nat.zero_le _, Nat.zero_le _⟩ (fun r102 st101 H locs hP hS h => ?_)
  refine lv_istore_n (lv' := [(2, .int r102), (0, .ref (ad 21)), (1, .int x1)]) hx hb dc_I_faultOfLeaf_8 rfl hl (by decide) rfl (fun ls hl => ?_)
  refine lv_iconst (v := 0) hx hb dc_I_faultOfLeaf_9 (by decide) ?_
  refine lv_istore_n (lv' := [(3, .int 0), (2, .int r102), (0, .ref (ad 21)), (1, .int x1)]) hx hb dc_I_faultOfLeaf_10 rfl hl (by decide) rfl (fun ls hl => ?_)
  obtain ⟨n, h⟩ := h
  exact Lp_11 n x1 r102 0 st101 h _ _ hP hS ls (lv_sub hl [2, 3, 1, 0] rfl)
