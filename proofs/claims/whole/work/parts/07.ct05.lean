set_option maxHeartbeats 4000000 in
set_option maxRecDepth 100000 in
theorem ct_S_next (l : Launch) (D : va_G) (ad : Nat → Nat) (cA : Nat → ClassId) (w : Nat) (hJ : Jn_ ad) (x1 : Int32) (x2 : Int32) (st : St_) (post : Int32 → St_ → Prop) (h : wp_S_next w x1 x2 st post) : Met l yn_S_next (Cond.code yn_S_next bc_S_next 3 (some .int) :: Wk_) rm_S_next (Pw_ D ad cA w st [.ref (ad 18), .int x1, .int x2]) (Qi_ D ad cA w post) 0 0 (Aw_ ad) := by
  refine Met.ofW (cc := bc_S_next) (maxL := 3) (ret := (some .int)) (by decide) rfl ?_
  intro p e s m args below meth c s₁ B hml hv
  obtain ⟨rfl, hP, hK, hN⟩ := hv
  have hx := B.exec
  have hb := B.bytes
  have hr := B.returns
  have hts : ∀ v ∈ Wk_, v.before [.ref (ad 18), .int x1, .int x2].toArray s = true := fun v hv => atoms_spec (ws := Cond.code yn_S_next bc_S_next 3 (some .int) :: Wk_) B.pre v (List.mem_cons_of_mem _ hv)
  have hown : s.vm.findClass Rn_S = some m.cls := findClass_of_methodNamed B.named
  have hlocks := B.notSynchronized
  have hS : va_S (Aw_ ad) s.heap s.heap [] := va_S.rf
  have hl := lv_entry ([.ref (ad 18), .int x1, .int x2]) (n := 3) (Nat.le_of_ble_eq_true rfl)
  rw [lg_entry_eq]
  generalize (lg_sl ([.ref (ad 18), .int x1, .int x2]) ++ List.replicate (3 - (lg_sl ([.ref (ad 18), .int x1, .int x2])).length) Slot.unset).toArray = ls at hl ⊢
  have hl : lv_has ls 3 [(0, .ref (ad 18)), (1, .int x1), (2, .int x2)] := hl
  refine lv_iload_n hx hb dc_S_next_0 rfl (lv_at hl 1 rfl) ?_
  refine w_cSi (y := yn_S_isMap) (index := 53) (n := 1) (own := Rn_S) hx hb hml hown hts hK hN hP hS (ct_S_isMap l D ad cA w hJ x1 st _ h) mw_0 mw_1 mw_2 mw_3 (by decide +kernel) ⟨Nat.le_of_ble_eq_true rfl, Nat.le_of_ble_eq_true rfl⟩ rfl rfl rfl hl.1 rfl (lv_room (Nat.le_of_ble_eq_true rfl)) dc_S_next_1 ⟨Nat.zero_le _, Nat.zero_le _⟩ (fun r102 st101 H locs hP hS h => ?_)
  refine lv_if_eq (tgt := 14) hx hb dc_S_next_4 (by decide) (fun c => ?_) (fun c => ?_)
  · have h := h.1 c
    refine lv_iconst (v := (-1)) hx hb dc_S_next_14 (by decide) ?_
    exact w_iret hx hb hr hlocks hP hS h dc_S_next_15
  · have h := h.2 c
    refine lv_iload_n hx hb dc_S_next_7 rfl (lv_at hl 2 rfl) ?_
    refine w_cSi (y := yn_S_isKey) (index := 57) (n := 1) (own := Rn_S) hx hb hml hown hts hK hN hP hS (ct_S_isKey l D ad cA w hJ x2 st101 _ h) mw_4 mw_5 mw_6 mw_3 (by decide +kernel) ⟨Nat.le_of_ble_eq_true rfl, Nat.le_of_ble_eq_true rfl⟩ rfl rfl rfl hl.1 rfl (lv_room (Nat.le_of_ble_eq_true rfl)) dc_S_next_8 ⟨Nat.zero_le _, Nat.zero_le _⟩ (fun r104 st103 H locs hP hS h => ?_)
    refine lv_if_ne (tgt := 16) hx hb dc_S_next_11 (by decide) (fun c => ?_) (fun c => ?_)
    · have h := h.1 c
      refine lv_aload_n hx hb dc_S_next_16 rfl (lv_at hl 0 rfl) ?_
      refine va_get (D := D) (ci := 0) (v := .ref (ad 20)) (C := Rn_S) (T := Fn_S) (N := 5) hx hb hts in_S hown hK hP 18 rfl rfl 1 (by decide) (hts _ mw_11) (fun _ h9 => h9) rfl dc_S_next_17 ?_
      refine lv_aload_n hx hb dc_S_next_20 rfl (lv_at hl 0 rfl) ?_
      refine va_get (D := D) (ci := 0) (v := .ref (ad 22)) (C := Rn_S) (T := Fn_S) (N := 5) hx hb hts in_S hown hK hP 18 rfl rfl 3 (by decide) (hts _ mw_12) (fun _ h9 => h9) rfl dc_S_next_21 ?_
      refine va_getN (D := D) (ci := 4) (v := .ref (ad 10)) (C := Rn_P) (T := Fn_P) (N := 3) (host := nh_) hx hb hts in_P hown hK hP 22 rfl rfl 0 (by decide) (va_Nw.use rfl (hN.1 _ nf_0)) (fun _ h9 => h9) rfl dc_S_next_24 ?_
      refine lv_iload_n hx hb dc_S_next_27 rfl (lv_at hl 1 rfl) ?_
      refine w_ild 10 (by decide) hx hb hK hP h.1 dc_S_next_28 ?_
      have h := h.2
      refine lv_iload_n hx hb dc_S_next_29 rfl (lv_at hl 2 rfl) ?_
      refine w_cVi (y := yn_T_keyFrom) (C := Rn_T) (index := 91) (n := 2) (own := Rn_S) 20 hx hb hml hown hts hK hN hP hS (ct_T_keyFrom l D ad cA w hJ (st103 10 (x1).toNatClampNeg) x2 st103 _ h) mw_212 mw_213 mw_214 mw_215 mw_59 (by decide +kernel) ⟨Nat.le_of_ble_eq_true rfl, Nat.le_of_ble_eq_true rfl⟩ rfl rfl rfl rfl rfl hl.1 rfl (lv_room (Nat.le_of_ble_eq_true rfl)) dc_S_next_30 ⟨Nat.zero_le _, Nat.zero_le _⟩ (fun r106 st105 H locs hP hS h => ?_)
      exact w_iret hx hb hr hlocks hP hS h dc_S_next_33
    · have h := h.2 c
      refine lv_iconst (v := (-1)) hx hb dc_S_next_14 (by decide) ?_
      exact w_iret hx hb hr hlocks hP hS h dc_S_next_15
set_option maxHeartbeats 4000000 in
set_option maxRecDepth 100000 in
theorem ct_R_next (l : Launch) (D : va_G) (ad : Nat → Nat) (cA : Nat → ClassId) (w : Nat) (hJ : Jn_ ad) (x1 : Int32) (x2 : Int32) (st : St_) (post : Int32 → St_ → Prop) (h : wp_R_next w x1 x2 st post) : Met l yn_R_next (Cond.code yn_R_next bc_R_next 4 (some .int) :: Wk_) rm_R_next (Pw_ D ad cA w st [.ref (ad 24), .int x1, .int x2]) (Qi_ D ad cA w post) 0 0 (Aw_ ad) := by
  refine Met.ofW (cc := bc_R_next) (maxL := 4) (ret := (some .int)) (by decide) rfl ?_
  intro p e s m args below meth c s₁ B hml hv
  obtain ⟨rfl, hP, hK, hN⟩ := hv
  have hx := B.exec
  have hb := B.bytes
  have hr := B.returns
  have hts : ∀ v ∈ Wk_, v.before [.ref (ad 24), .int x1, .int x2].toArray s = true := fun v hv => atoms_spec (ws := Cond.code yn_R_next bc_R_next 4 (some .int) :: Wk_) B.pre v (List.mem_cons_of_mem _ hv)
  have hown : s.vm.findClass Rn_R = some m.cls := findClass_of_methodNamed B.named
  have hlocks := B.notSynchronized
  have hS : va_S (Aw_ ad) s.heap s.heap [] := va_S.rf
  have Lp_18 : ∀ (n : Nat) (y1 y2 y3 : Int32) (st : St_), wp_R_next_18 w post n y1 y2 y3 st → ∀ (H : Heap) (locs : List Loc), va_P D sC_ (wd_ ad cA w st) H → va_S (Aw_ ad) s.heap H locs → ∀ ls : Array Slot, lv_has ls 4 [(0, .ref (ad 24)), (1, .int y1), (2, .int y2), (3, .int y3)] → W p l e (headSpec (Cond.code yn_R_next bc_R_next 4 (some .int) :: Wk_) rm_R_next).room s m [.ref (ad 24), .int x1, .int x2].toArray below meth c H locs 0 0 (MQ below (Qi_ D ad cA w post) [.ref (ad 24), .int x1, .int x2].toArray s 0 0 (Aw_ ad)) (F0 m 18 ls []) := by
    intro n
    induction n with
    | zero => intro y1 y2 y3 st h; exact h.elim
    | succ n ih =>
      intro y1 y2 y3 st h H locs hP hS ls hl
      refine lv_iload_n hx hb dc_R_next_18 rfl (lv_at hl 3 rfl) ?_
      refine lv_sipush (v := 4096) hx hb dc_R_next_19 (by decide) ?_
      refine lv_icmp_ge (tgt := 46) hx hb dc_R_next_22 (by decide) (fun c => ?_) (fun c => ?_)
      · have h := h.1 c
        refine lv_iload_n hx hb dc_R_next_46 rfl (lv_at hl 3 rfl) ?_
        refine lv_sipush (v := 4096) hx hb dc_R_next_47 (by decide) ?_
        refine lv_icmp_ge (tgt := 57) hx hb dc_R_next_50 (by decide) (fun c => ?_) (fun c => ?_)
        · have h := h.1 c
          refine lv_bipush (v := (-2)) hx hb dc_R_next_57 (by decide) ?_
          exact w_iret hx hb hr hlocks hP hS h dc_R_next_59
        · have h := h.2 c
          refine lv_iload_n hx hb dc_R_next_53 rfl (lv_at hl 3 rfl) ?_
          refine lv_goto (tgt := 59) hx hb dc_R_next_54 (by decide) ?_
          exact w_iret hx hb hr hlocks hP hS h dc_R_next_59
      · have h := h.2 c
        refine lv_aload_n hx hb dc_R_next_25 rfl (lv_at hl 0 rfl) ?_
        refine va_get (D := D) (ci := 5) (v := .ref (ad 14)) (C := Rn_R) (T := Fn_R) (N := 4) hx hb hts in_R hown hK hP 24 rfl rfl 0 (by decide) (hts _ mw_158) (fun _ h9 => h9) rfl dc_R_next_26 ?_
        refine lv_sipush (v := 4096) hx hb dc_R_next_29 (by decide) ?_
        refine lv_iload_n hx hb dc_R_next_32 rfl (lv_at hl 1 rfl) ?_
        refine lv_imul hx hb dc_R_next_33 ?_
        refine lv_iload_n hx hb dc_R_next_34 rfl (lv_at hl 3 rfl) ?_
        refine lv_iadd hx hb dc_R_next_35 ?_
        refine w_ild 14 (by decide) hx hb hK hP h.1 dc_R_next_36 ?_
        have h := h.2
        refine lv_if_ne (tgt := 46) hx hb dc_R_next_37 (by decide) (fun c => ?_) (fun c => ?_)
        · have h := h.1 c
          refine lv_iload_n hx hb dc_R_next_46 rfl (lv_at hl 3 rfl) ?_
          refine lv_sipush (v := 4096) hx hb dc_R_next_47 (by decide) ?_
          refine lv_icmp_ge (tgt := 57) hx hb dc_R_next_50 (by decide) (fun c => ?_) (fun c => ?_)
          · have h := h.1 c
            refine lv_bipush (v := (-2)) hx hb dc_R_next_57 (by decide) ?_
            exact w_iret hx hb hr hlocks hP hS h dc_R_next_59
          · have h := h.2 c
            refine lv_iload_n hx hb dc_R_next_53 rfl (lv_at hl 3 rfl) ?_
            refine lv_goto (tgt := 59) hx hb dc_R_next_54 (by decide) ?_
            exact w_iret hx hb hr hlocks hP hS h dc_R_next_59
        · have h := h.2 c
          obtain ⟨x105, ex105⟩ : ∃ y : Int32, y = y3 + 1 := ⟨_, rfl⟩
          have h := h x105 ex105
          refine lv_iinc (v := x105) (lv' := [(3, .int x105), (0, .ref (ad 24)), (1, .int y1), (2, .int y2)]) hx hb dc_R_next_40 hl (k := 3) rfl (by rw [ex105]; rfl) (by decide) rfl (fun ls hl => ?_)
          refine lv_goto (tgt := 18) hx hb dc_R_next_43 (by decide) ?_
          exact ih y1 y2 x105 st h _ _ hP hS ls (lv_sub hl [1, 2, 3, 0] rfl)
  have hl := lv_entry ([.ref (ad 24), .int x1, .int x2]) (n := 4) (Nat.le_of_ble_eq_true rfl)
  rw [lg_entry_eq]
  generalize (lg_sl ([.ref (ad 24), .int x1, .int x2]) ++ List.replicate (4 - (lg_sl ([.ref (ad 24), .int x1, .int x2])).length) Slot.unset).toArray = ls at hl ⊢
  have hl : lv_has ls 4 [(0, .ref (ad 24)), (1, .int x1), (2, .int x2)] := hl
  refine lv_iload_n hx hb dc_R_next_0 rfl (lv_at hl 1 rfl) ?_
  refine w_cSi (y := yn_R_isMap) (index := 24) (n := 1) (own := Rn_R) hx hb hml hown hts hK hN hP hS (ct_R_isMap l D ad cA w hJ x1 st _ h) mw_147 mw_148 mw_149 mw_150 (by decide +kernel) ⟨Nat.le_of_ble_eq_true rfl, Nat.le_of_ble_eq_true rfl⟩ rfl rfl rfl hl.1 rfl (lv_room (Nat.le_of_ble_eq_true rfl)) dc_R_next_1 ⟨Nat.zero_le _, Nat.zero_le _⟩ (fun r102 st101 H locs hP hS h => ?_)
  refine lv_if_eq (tgt := 14) hx hb dc_R_next_4 (by decide) (fun c => ?_) (fun c => ?_)
  · have h := h.1 c
    refine lv_iconst (v := (-1)) hx hb dc_R_next_14 (by decide) ?_
    exact w_iret hx hb hr hlocks hP hS h dc_R_next_15
  · have h := h.2 c
    refine lv_iload_n hx hb dc_R_next_7 rfl (lv_at hl 2 rfl) ?_
    refine w_cSi (y := yn_R_isKey) (index := 28) (n := 1) (own := Rn_R) hx hb hml hown hts hK hN hP hS (ct_R_isKey l D ad cA w hJ x2 st101 _ h) mw_151 mw_152 mw_153 mw_150 (by decide +kernel) ⟨Nat.le_of_ble_eq_true rfl, Nat.le_of_ble_eq_true rfl⟩ rfl rfl rfl hl.1 rfl (lv_room (Nat.le_of_ble_eq_true rfl)) dc_R_next_8 ⟨Nat.zero_le _, Nat.zero_le _⟩ (fun r104 st103 H locs hP hS h => ?_)
    refine lv_if_ne (tgt := 16) hx hb dc_R_next_11 (by decide) (fun c => ?_) (fun c => ?_)
    · have h := h.1 c
      refine lv_iload_n hx hb dc_R_next_16 rfl (lv_at hl 2 rfl) ?_
      refine lv_istore_n (lv' := [(3, .int x2), (0, .ref (ad 24)), (1, .int x1), (2, .int x2)]) hx hb dc_R_next_17 rfl hl (by decide) rfl (fun ls hl => ?_)
      obtain ⟨n, h⟩ := h
      exact Lp_18 n x1 x2 x2 st103 h _ _ hP hS ls (lv_sub hl [1, 2, 3, 0] rfl)
    · have h := h.2 c
      refine lv_iconst (v := (-1)) hx hb dc_R_next_14 (by decide) ?_
      exact w_iret hx hb hr hlocks hP hS h dc_R_next_15
