set_option maxHeartbeats 4000000 in
set_option maxRecDepth 100000 in
theorem ct_T_shrunk (l : Launch) (D : va_G) (ad : Nat → Nat) (cA : Nat → ClassId) (w : Nat) (hJ : Jn_ ad) (x1 : Int32) (st : St_) (post : Int32 → St_ → Prop) (h : wp_T_shrunk w x1 st post) : Met l yn_T_shrunk (Cond.code yn_T_shrunk bc_T_shrunk 3 (some .int) :: Wk_) rm_T_shrunk (Pw_ D ad cA w st [.ref (ad 20), .int x1]) (Qi_ D ad cA w post) 0 0 (Aw_ ad) := by
  refine Met.ofW (cc := bc_T_shrunk) (maxL := 3) (ret := (some .int)) (by decide) rfl ?_
  intro p e s m args below meth c s₁ B hml hv
  obtain ⟨rfl, hP, hK, hN⟩ := hv
  have hx := B.exec
  have hb := B.bytes
  have hr := B.returns
  have hts : ∀ v ∈ Wk_, v.before [.ref (ad 20), .int x1].toArray s = true := fun v hv => atoms_spec (ws := Cond.code yn_T_shrunk bc_T_shrunk 3 (some .int) :: Wk_) B.pre v (List.mem_cons_of_mem _ hv)
  have hown : s.vm.findClass Rn_T = some m.cls := findClass_of_methodNamed B.named
  have hlocks := B.notSynchronized
  have hS : va_S (Aw_ ad) s.heap s.heap [] := va_S.rf
  have hl := lv_entry ([.ref (ad 20), .int x1]) (n := 3) (Nat.le_of_ble_eq_true rfl)
  rw [lg_entry_eq]
  generalize (lg_sl ([.ref (ad 20), .int x1]) ++ List.replicate (3 - (lg_sl ([.ref (ad 20), .int x1])).length) Slot.unset).toArray = ls at hl ⊢
  have hl : lv_has ls 3 [(0, .ref (ad 20)), (1, .int x1)] := hl
  refine lv_aload_n hx hb dc_T_shrunk_0 rfl (lv_at hl 0 rfl) ?_
  refine va_get (D := D) (ci := 2) (v := .ref (ad 19)) (C := Rn_T) (T := Fn_T) (N := 3) hx hb hts in_T hown hK hP 20 rfl rfl 0 (by decide) (hts _ mw_13) (fun _ h9 => h9) rfl dc_T_shrunk_1 ?_
  refine lv_iload_n hx hb dc_T_shrunk_4 rfl (lv_at hl 1 rfl) ?_
  refine w_cVi (y := yn_B_size) (C := Rn_B) (index := 48) (n := 1) (own := Rn_T) 19 hx hb hml hown hts hK hN hP hS (ct_B_size l D ad cA w hJ x1 st _ h) mw_26 mw_113 mw_28 mw_29 mw_18 (by decide +kernel) ⟨Nat.le_of_ble_eq_true rfl, Nat.le_of_ble_eq_true rfl⟩ rfl rfl rfl rfl rfl hl.1 rfl (lv_room (Nat.le_of_ble_eq_true rfl)) dc_T_shrunk_5 ⟨Nat.zero_le _, Nat.zero_le _⟩ (fun r102 st101 H locs hP hS h => ?_)
  refine lv_if_ne (tgt := 21) hx hb dc_T_shrunk_8 (by decide) (fun c => ?_) (fun c => ?_)
  · have h := h.1 c
    refine lv_aload_n hx hb dc_T_shrunk_21 rfl (lv_at hl 0 rfl) ?_
    refine va_get (D := D) (ci := 2) (v := .ref (ad 19)) (C := Rn_T) (T := Fn_T) (N := 3) hx hb hts in_T hown hK hP 20 rfl rfl 0 (by decide) (hts _ mw_13) (fun _ h9 => h9) rfl dc_T_shrunk_22 ?_
    refine lv_iload_n hx hb dc_T_shrunk_25 rfl (lv_at hl 1 rfl) ?_
    refine w_cVi (y := yn_B_level) (C := Rn_B) (index := 26) (n := 1) (own := Rn_T) 19 hx hb hml hown hts hK hN hP hS (ct_B_level l D ad cA w hJ x1 st101 _ h) mw_20 mw_21 mw_22 mw_23 mw_18 (by decide +kernel) ⟨Nat.le_of_ble_eq_true rfl, Nat.le_of_ble_eq_true rfl⟩ rfl rfl rfl rfl rfl hl.1 rfl (lv_room (Nat.le_of_ble_eq_true rfl)) dc_T_shrunk_26 ⟨Nat.zero_le _, Nat.zero_le _⟩ (fun r104 st103 H locs hP hS h => ?_)
    refine lv_if_le (tgt := 64) hx hb dc_T_shrunk_29 (by decide) (fun c => ?_) (fun c => ?_)
    · have h := h.1 c
      refine lv_iload_n hx hb dc_T_shrunk_64 rfl (lv_at hl 1 rfl) ?_
      exact w_iret hx hb hr hlocks hP hS h dc_T_shrunk_65
    · have h := h.2 c
      refine lv_aload_n hx hb dc_T_shrunk_32 rfl (lv_at hl 0 rfl) ?_
      refine va_get (D := D) (ci := 2) (v := .ref (ad 19)) (C := Rn_T) (T := Fn_T) (N := 3) hx hb hts in_T hown hK hP 20 rfl rfl 0 (by decide) (hts _ mw_13) (fun _ h9 => h9) rfl dc_T_shrunk_33 ?_
      refine lv_iload_n hx hb dc_T_shrunk_36 rfl (lv_at hl 1 rfl) ?_
      refine w_cVi (y := yn_B_size) (C := Rn_B) (index := 48) (n := 1) (own := Rn_T) 19 hx hb hml hown hts hK hN hP hS (ct_B_size l D ad cA w hJ x1 st103 _ h) mw_26 mw_113 mw_28 mw_29 mw_18 (by decide +kernel) ⟨Nat.le_of_ble_eq_true rfl, Nat.le_of_ble_eq_true rfl⟩ rfl rfl rfl rfl rfl hl.1 rfl (lv_room (Nat.le_of_ble_eq_true rfl)) dc_T_shrunk_37 ⟨Nat.zero_le _, Nat.zero_le _⟩ (fun r106 st105 H locs hP hS h => ?_)
      refine lv_iconst (v := 1) hx hb dc_T_shrunk_40 (by decide) ?_
      refine lv_icmp_ne (tgt := 64) hx hb dc_T_shrunk_41 (by decide) (fun c => ?_) (fun c => ?_)
      · have h := h.1 c
        refine lv_iload_n hx hb dc_T_shrunk_64 rfl (lv_at hl 1 rfl) ?_
        exact w_iret hx hb hr hlocks hP hS h dc_T_shrunk_65
      · have h := h.2 c
        refine lv_aload_n hx hb dc_T_shrunk_44 rfl (lv_at hl 0 rfl) ?_
        refine va_get (D := D) (ci := 2) (v := .ref (ad 19)) (C := Rn_T) (T := Fn_T) (N := 3) hx hb hts in_T hown hK hP 20 rfl rfl 0 (by decide) (hts _ mw_13) (fun _ h9 => h9) rfl dc_T_shrunk_45 ?_
        refine lv_iload_n hx hb dc_T_shrunk_48 rfl (lv_at hl 1 rfl) ?_
        refine lv_iconst (v := 0) hx hb dc_T_shrunk_49 (by decide) ?_
        refine w_cVi (y := yn_B_goal) (C := Rn_B) (index := 35) (n := 2) (own := Rn_T) 19 hx hb hml hown hts hK hN hP hS (ct_B_goal l D ad cA w hJ x1 0 st105 _ h) mw_48 mw_49 mw_50 mw_51 mw_18 (by decide +kernel) ⟨Nat.le_of_ble_eq_true rfl, Nat.le_of_ble_eq_true rfl⟩ rfl rfl rfl rfl rfl hl.1 rfl (lv_room (Nat.le_of_ble_eq_true rfl)) dc_T_shrunk_50 ⟨Nat.zero_le _, Nat.zero_le _⟩ (fun r108 st107 H locs hP hS h => ?_)
        refine lv_istore_n (lv' := [(2, .int r108), (0, .ref (ad 20)), (1, .int x1)]) hx hb dc_T_shrunk_53 rfl hl (by decide) rfl (fun ls hl => ?_)
        refine lv_aload_n hx hb dc_T_shrunk_54 rfl (lv_at hl 1 rfl) ?_
        refine va_get (D := D) (ci := 2) (v := .ref (ad 19)) (C := Rn_T) (T := Fn_T) (N := 3) hx hb hts in_T hown hK hP 20 rfl rfl 0 (by decide) (hts _ mw_13) (fun _ h9 => h9) rfl dc_T_shrunk_55 ?_
        refine lv_iload_n hx hb dc_T_shrunk_58 rfl (lv_at hl 2 rfl) ?_
        refine w_cVv (y := yn_B_give) (C := Rn_B) (index := 104) (n := 1) (own := Rn_T) 19 hx hb hml hown hts hK hN hP hS (ct_B_give l D ad cA w hJ x1 st107 _ h) mw_187 mw_188 mw_189 mw_190 mw_18 (by decide +kernel) ⟨Nat.le_of_ble_eq_true rfl, Nat.le_of_ble_eq_true rfl⟩ rfl rfl rfl rfl rfl hl.1 rfl (lv_room (Nat.le_of_ble_eq_true rfl)) dc_T_shrunk_59 ⟨Nat.zero_le _, Nat.zero_le _⟩ (fun st109 H locs hP hS h => ?_)
        refine lv_iload_n hx hb dc_T_shrunk_62 rfl (lv_at hl 0 rfl) ?_
        exact w_iret hx hb hr hlocks hP hS h dc_T_shrunk_63
  · have h := h.2 c
    refine lv_aload_n hx hb dc_T_shrunk_11 rfl (lv_at hl 0 rfl) ?_
    refine va_get (D := D) (ci := 2) (v := .ref (ad 19)) (C := Rn_T) (T := Fn_T) (N := 3) hx hb hts in_T hown hK hP 20 rfl rfl 0 (by decide) (hts _ mw_13) (fun _ h9 => h9) rfl dc_T_shrunk_12 ?_
    refine lv_iload_n hx hb dc_T_shrunk_15 rfl (lv_at hl 1 rfl) ?_
    refine w_cVv (y := yn_B_give) (C := Rn_B) (index := 104) (n := 1) (own := Rn_T) 19 hx hb hml hown hts hK hN hP hS (ct_B_give l D ad cA w hJ x1 st101 _ h) mw_187 mw_188 mw_189 mw_190 mw_18 (by decide +kernel) ⟨Nat.le_of_ble_eq_true rfl, Nat.le_of_ble_eq_true rfl⟩ rfl rfl rfl rfl rfl hl.1 rfl (lv_room (Nat.le_of_ble_eq_true rfl)) dc_T_shrunk_16 ⟨Nat.zero_le _, Nat.zero_le _⟩ (fun st110 H locs hP hS h => ?_)
    refine lv_iconst (v := 0) hx hb dc_T_shrunk_19 (by decide) ?_
    exact w_iret hx hb hr hlocks hP hS h dc_T_shrunk_20
set_option maxHeartbeats 4000000 in
set_option maxRecDepth 100000 in
theorem ct_T_without (l : Launch) (D : va_G) (ad : Nat → Nat) (cA : Nat → ClassId) (w : Nat) (hJ : Jn_ ad) (x1 : Int32) (x2 : Int32) (st : St_) (post : Int32 → St_ → Prop) (h : wp_T_without w x1 x2 st post) : Met l yn_T_without (Cond.code yn_T_without bc_T_without 4 (some .int) :: Wk_) rm_T_without (Pw_ D ad cA w st [.ref (ad 20), .int x1, .int x2]) (Qi_ D ad cA w post) 0 0 (Aw_ ad) := by
  refine Met.ofW (cc := bc_T_without) (maxL := 4) (ret := (some .int)) (by decide) rfl ?_
  intro p e s m args below meth c s₁ B hml hv
  obtain ⟨rfl, hP, hK, hN⟩ := hv
  have hx := B.exec
  have hb := B.bytes
  have hr := B.returns
  have hts : ∀ v ∈ Wk_, v.before [.ref (ad 20), .int x1, .int x2].toArray s = true := fun v hv => atoms_spec (ws := Cond.code yn_T_without bc_T_without 4 (some .int) :: Wk_) B.pre v (List.mem_cons_of_mem _ hv)
  have hown : s.vm.findClass Rn_T = some m.cls := findClass_of_methodNamed B.named
  have hlocks := B.notSynchronized
  have hS : va_S (Aw_ ad) s.heap s.heap [] := va_S.rf
  have hl := lv_entry ([.ref (ad 20), .int x1, .int x2]) (n := 4) (Nat.le_of_ble_eq_true rfl)
  rw [lg_entry_eq]
  generalize (lg_sl ([.ref (ad 20), .int x1, .int x2]) ++ List.replicate (4 - (lg_sl ([.ref (ad 20), .int x1, .int x2])).length) Slot.unset).toArray = ls at hl ⊢
  have hl : lv_has ls 4 [(0, .ref (ad 20)), (1, .int x1), (2, .int x2)] := hl
  refine lv_aload_n hx hb dc_T_without_0 rfl (lv_at hl 0 rfl) ?_
  refine va_get (D := D) (ci := 2) (v := .ref (ad 19)) (C := Rn_T) (T := Fn_T) (N := 3) hx hb hts in_T hown hK hP 20 rfl rfl 0 (by decide) (hts _ mw_13) (fun _ h9 => h9) rfl dc_T_without_1 ?_
  refine lv_iload_n hx hb dc_T_without_4 rfl (lv_at hl 1 rfl) ?_
  refine w_cVi (y := yn_B_owned) (C := Rn_B) (index := 59) (n := 1) (own := Rn_T) 19 hx hb hml hown hts hK hN hP hS (ct_B_owned l D ad cA w hJ x1 st _ h) mw_93 mw_94 mw_95 mw_96 mw_18 (by decide +kernel) ⟨Nat.le_of_ble_eq_true rfl, Nat.le_of_ble_eq_true rfl⟩ rfl rfl rfl rfl rfl hl.1 rfl (lv_room (Nat.le_of_ble_eq_true rfl)) dc_T_without_5 ⟨Nat.zero_le _, Nat.zero_le _⟩ (fun r102 st101 H locs hP hS h => ?_)
  refine lv_istore_n (lv' := [(3, .int r102), (0, .ref (ad 20)), (1, .int x1), (2, .int x2)]) hx hb dc_T_without_8 rfl hl (by decide) rfl (fun ls hl => ?_)
  refine lv_aload_n hx hb dc_T_without_9 rfl (lv_at hl 1 rfl) ?_
  refine lv_iload_n hx hb dc_T_without_10 rfl (lv_at hl 0 rfl) ?_
  refine lv_aload_n hx hb dc_T_without_11 rfl (lv_at hl 1 rfl) ?_
  refine va_get (D := D) (ci := 2) (v := .ref (ad 19)) (C := Rn_T) (T := Fn_T) (N := 3) hx hb hts in_T hown hK hP 20 rfl rfl 0 (by decide) (hts _ mw_13) (fun _ h9 => h9) rfl dc_T_without_12 ?_
  refine lv_iload_n hx hb dc_T_without_15 rfl (lv_at hl 0 rfl) ?_
  refine w_cVi (y := yn_B_level) (C := Rn_B) (index := 26) (n := 1) (own := Rn_T) 19 hx hb hml hown hts hK hN hP hS (ct_B_level l D ad cA w hJ r102 st101 _ h) mw_20 mw_21 mw_22 mw_23 mw_18 (by decide +kernel) ⟨Nat.le_of_ble_eq_true rfl, Nat.le_of_ble_eq_true rfl⟩ rfl rfl rfl rfl rfl hl.1 rfl (lv_room (Nat.le_of_ble_eq_true rfl)) dc_T_without_16 ⟨Nat.zero_le _, Nat.zero_le _⟩ (fun r104 st103 H locs hP hS h => ?_)
  refine lv_iload_n hx hb dc_T_without_19 rfl (lv_at hl 3 rfl) ?_
  refine w_cVv (y := yn_T_removeBelow) (C := Rn_T) (index := 92) (n := 3) (own := Rn_T) 20 hx hb hml hown hts hK hN hP hS (ct_T_removeBelow l D ad cA w hJ 20 r102 r104 x2 st103 _ h) mw_175 mw_176 mw_177 mw_178 mw_59 (by decide +kernel) ⟨Nat.le_of_ble_eq_true rfl, Nat.le_of_ble_eq_true rfl⟩ rfl rfl rfl rfl rfl hl.1 rfl (lv_room (Nat.le_of_ble_eq_true rfl)) dc_T_without_20 ⟨Nat.zero_le _, Nat.zero_le _⟩ (fun st105 H locs hP hS h => ?_)
  refine lv_aload_n hx hb dc_T_without_23 rfl (lv_at hl 1 rfl) ?_
  refine lv_iload_n hx hb dc_T_without_24 rfl (lv_at hl 0 rfl) ?_
  refine w_cVi (y := yn_T_shrunk) (C := Rn_T) (index := 95) (n := 1) (own := Rn_T) 20 hx hb hml hown hts hK hN hP hS (ct_T_shrunk l D ad cA w hJ r102 st105 _ h) mw_195 mw_196 mw_197 mw_198 mw_59 (by decide +kernel) ⟨Nat.le_of_ble_eq_true rfl, Nat.le_of_ble_eq_true rfl⟩ rfl rfl rfl rfl rfl hl.1 rfl (lv_room (Nat.le_of_ble_eq_true rfl)) dc_T_without_25 ⟨Nat.zero_le _, Nat.zero_le _⟩ (fun r107 st106 H locs hP hS h => ?_)
  exact w_iret hx hb hr hlocks hP hS h dc_T_without_28
set_option maxHeartbeats 4000000 in
set_option maxRecDepth 100000 in
theorem ct_S_erase (l : Launch) (D : va_G) (ad : Nat → Nat) (cA : Nat → ClassId) (w : Nat) (hJ : Jn_ ad) (x1 : Int32) (x2 : Int32) (st : St_) (post : Int32 → St_ → Prop) (h : wp_S_erase w x1 x2 st post) : Met l yn_S_erase (Cond.code yn_S_erase bc_S_erase 4 (some .int) :: Wk_) rm_S_erase (Pw_ D ad cA w st [.ref (ad 18), .int x1, .int x2]) (Qi_ D ad cA w post) 0 0 (Aw_ ad) := by
  refine Met.ofW (cc := bc_S_erase) (maxL := 4) (ret := (some .int)) (by decide) rfl ?_
  intro p e s m args below meth c s₁ B hml hv
  obtain ⟨rfl, hP, hK, hN⟩ := hv
  have hx := B.exec
  have hb := B.bytes
  have hr := B.returns
  have hts : ∀ v ∈ Wk_, v.before [.ref (ad 18), .int x1, .int x2].toArray s = true := fun v hv => atoms_spec (ws := Cond.code yn_S_erase bc_S_erase 4 (some .int) :: Wk_) B.pre v (List.mem_cons_of_mem _ hv)
  have hown : s.vm.findClass Rn_S = some m.cls := findClass_of_methodNamed B.named
  have hlocks := B.notSynchronized
  have hS : va_S (Aw_ ad) s.heap s.heap [] := va_S.rf
  have hl := lv_entry ([.ref (ad 18), .int x1, .int x2]) (n := 4) (Nat.le_of_ble_eq_true rfl)
  rw [lg_entry_eq]
  generalize (lg_sl ([.ref (ad 18), .int x1, .int x2]) ++ List.replicate (4 - (lg_sl ([.ref (ad 18), .int x1, .int x2])).length) Slot.unset).toArray = ls at hl ⊢
  have hl : lv_has ls 4 [(0, .ref (ad 18)), (1, .int x1), (2, .int x2)] := hl
  refine lv_iload_n hx hb dc_S_erase_0 rfl (lv_at hl 1 rfl) ?_
  refine w_cSi (y := yn_S_isMap) (index := 53) (n := 1) (own := Rn_S) hx hb hml hown hts hK hN hP hS (ct_S_isMap l D ad cA w hJ x1 st _ h) mw_0 mw_1 mw_2 mw_3 (by decide +kernel) ⟨Nat.le_of_ble_eq_true rfl, Nat.le_of_ble_eq_true rfl⟩ rfl rfl rfl hl.1 rfl (lv_room (Nat.le_of_ble_eq_true rfl)) dc_S_erase_1 ⟨Nat.zero_le _, Nat.zero_le _⟩ (fun r102 st101 H locs hP hS h => ?_)
  refine lv_if_eq (tgt := 14) hx hb dc_S_erase_4 (by decide) (fun c => ?_) (fun c => ?_)
  · have h := h.1 c
    refine lv_iconst (v := (-1)) hx hb dc_S_erase_14 (by decide) ?_
    exact w_iret hx hb hr hlocks hP hS h dc_S_erase_15
  · have h := h.2 c
    refine lv_iload_n hx hb dc_S_erase_7 rfl (lv_at hl 2 rfl) ?_
    refine w_cSi (y := yn_S_isKey) (index := 57) (n := 1) (own := Rn_S) hx hb hml hown hts hK hN hP hS (ct_S_isKey l D ad cA w hJ x2 st101 _ h) mw_4 mw_5 mw_6 mw_3 (by decide +kernel) ⟨Nat.le_of_ble_eq_true rfl, Nat.le_of_ble_eq_true rfl⟩ rfl rfl rfl hl.1 rfl (lv_room (Nat.le_of_ble_eq_true rfl)) dc_S_erase_8 ⟨Nat.zero_le _, Nat.zero_le _⟩ (fun r104 st103 H locs hP hS h => ?_)
    refine lv_if_ne (tgt := 16) hx hb dc_S_erase_11 (by decide) (fun c => ?_) (fun c => ?_)
    · have h := h.1 c
      refine lv_aload_n hx hb dc_S_erase_16 rfl (lv_at hl 0 rfl) ?_
      refine va_get (D := D) (ci := 0) (v := .ref (ad 20)) (C := Rn_S) (T := Fn_S) (N := 5) hx hb hts in_S hown hK hP 18 rfl rfl 1 (by decide) (hts _ mw_11) (fun _ h9 => h9) rfl dc_S_erase_17 ?_
      refine lv_aload_n hx hb dc_S_erase_20 rfl (lv_at hl 0 rfl) ?_
      refine va_get (D := D) (ci := 0) (v := .ref (ad 22)) (C := Rn_S) (T := Fn_S) (N := 5) hx hb hts in_S hown hK hP 18 rfl rfl 3 (by decide) (hts _ mw_12) (fun _ h9 => h9) rfl dc_S_erase_21 ?_
      refine va_getN (D := D) (ci := 4) (v := .ref (ad 10)) (C := Rn_P) (T := Fn_P) (N := 3) (host := nh_) hx hb hts in_P hown hK hP 22 rfl rfl 0 (by decide) (va_Nw.use rfl (hN.1 _ nf_0)) (fun _ h9 => h9) rfl dc_S_erase_24 ?_
      refine lv_iload_n hx hb dc_S_erase_27 rfl (lv_at hl 1 rfl) ?_
      refine w_ild 10 (by decide) hx hb hK hP h.1 dc_S_erase_28 ?_
      have h := h.2
      refine lv_iload_n hx hb dc_S_erase_29 rfl (lv_at hl 2 rfl) ?_
      refine w_cVi (y := yn_T_stampOf) (C := Rn_T) (index := 67) (n := 2) (own := Rn_S) 20 hx hb hml hown hts hK hN hP hS (ct_T_stampOf l D ad cA w hJ (st103 10 (x1).toNatClampNeg) x2 st103 _ h) mw_60 mw_61 mw_62 mw_63 mw_59 (by decide +kernel) ⟨Nat.le_of_ble_eq_true rfl, Nat.le_of_ble_eq_true rfl⟩ rfl rfl rfl rfl rfl hl.1 rfl (lv_room (Nat.le_of_ble_eq_true rfl)) dc_S_erase_30 ⟨Nat.zero_le _, Nat.zero_le _⟩ (fun r106 st105 H locs hP hS h => ?_)
      refine lv_istore_n (lv' := [(3, .int r106), (0, .ref (ad 18)), (1, .int x1), (2, .int x2)]) hx hb dc_S_erase_33 rfl hl (by decide) rfl (fun ls hl => ?_)
      refine lv_iload_n hx hb dc_S_erase_34 rfl (lv_at hl 0 rfl) ?_
      refine lv_bipush (v := (-2)) hx hb dc_S_erase_35 (by decide) ?_
      refine lv_icmp_eq (tgt := 75) hx hb dc_S_erase_37 (by decide) (fun c => ?_) (fun c => ?_)
      · have h := h.1 c
        refine lv_iload_n hx hb dc_S_erase_75 rfl (lv_at hl 0 rfl) ?_
        exact w_iret hx hb hr hlocks hP hS h dc_S_erase_76
      · have h := h.2 c
        refine lv_aload_n hx hb dc_S_erase_40 rfl (lv_at hl 1 rfl) ?_
        refine va_get (D := D) (ci := 0) (v := .ref (ad 22)) (C := Rn_S) (T := Fn_S) (N := 5) hx hb hts in_S hown hK hP 18 rfl rfl 3 (by decide) (hts _ mw_12) (fun _ h9 => h9) rfl dc_S_erase_41 ?_
        refine va_getN (D := D) (ci := 4) (v := .ref (ad 10)) (C := Rn_P) (T := Fn_P) (N := 3) (host := nh_) hx hb hts in_P hown hK hP 22 rfl rfl 0 (by decide) (va_Nw.use rfl (hN.1 _ nf_0)) (fun _ h9 => h9) rfl dc_S_erase_44 ?_
        refine lv_iload_n hx hb dc_S_erase_47 rfl (lv_at hl 2 rfl) ?_
        refine lv_aload_n hx hb dc_S_erase_48 rfl (lv_at hl 1 rfl) ?_
        refine va_get (D := D) (ci := 0) (v := .ref (ad 20)) (C := Rn_S) (T := Fn_S) (N := 5) hx hb hts in_S hown hK hP 18 rfl rfl 1 (by decide) (hts _ mw_11) (fun _ h9 => h9) rfl dc_S_erase_49 ?_
        refine lv_aload_n hx hb dc_S_erase_52 rfl (lv_at hl 1 rfl) ?_
        refine va_get (D := D) (ci := 0) (v := .ref (ad 22)) (C := Rn_S) (T := Fn_S) (N := 5) hx hb hts in_S hown hK hP 18 rfl rfl 3 (by decide) (hts _ mw_12) (fun _ h9 => h9) rfl dc_S_erase_53 ?_
        refine va_getN (D := D) (ci := 4) (v := .ref (ad 10)) (C := Rn_P) (T := Fn_P) (N := 3) (host := nh_) hx hb hts in_P hown hK hP 22 rfl rfl 0 (by decide) (va_Nw.use rfl (hN.1 _ nf_0)) (fun _ h9 => h9) rfl dc_S_erase_56 ?_
        refine lv_iload_n hx hb dc_S_erase_59 rfl (lv_at hl 2 rfl) ?_
        refine w_ild 10 (by decide) hx hb hK hP h.1 dc_S_erase_60 ?_
        have h := h.2
        refine lv_iload_n hx hb dc_S_erase_61 rfl (lv_at hl 3 rfl) ?_
        refine w_cVi (y := yn_T_without) (C := Rn_T) (index := 88) (n := 2) (own := Rn_S) 20 hx hb hml hown hts hK hN hP hS (ct_T_without l D ad cA w hJ (st105 10 (x1).toNatClampNeg) x2 st105 _ h) mw_199 mw_200 mw_201 mw_202 mw_59 (by decide +kernel) ⟨Nat.le_of_ble_eq_true rfl, Nat.le_of_ble_eq_true rfl⟩ rfl rfl rfl rfl rfl hl.1 rfl (lv_room (Nat.le_of_ble_eq_true rfl)) dc_S_erase_62 ⟨Nat.zero_le _, Nat.zero_le _⟩ (fun r108 st107 H locs hP hS h => ?_)
        refine w_ist 10 (by decide) hJ hx hb hK hP hS h.1 dc_S_erase_65 (fun H locs hP hS => ?_)
        obtain ⟨st109, est109⟩ : ∃ z : St_, z = ws_1 st107 10 (x1).toNatClampNeg r108 := ⟨_, rfl⟩
        rw [← est109] at hP
        have h := h.2 st109 est109
        refine lv_aload_n hx hb dc_S_erase_66 rfl (lv_at hl 1 rfl) ?_
        refine va_get (D := D) (ci := 0) (v := .ref (ad 22)) (C := Rn_S) (T := Fn_S) (N := 5) hx hb hts in_S hown hK hP 18 rfl rfl 3 (by decide) (hts _ mw_12) (fun _ h9 => h9) rfl dc_S_erase_67 ?_
        refine lv_iload_n hx hb dc_S_erase_70 rfl (lv_at hl 2 rfl) ?_
        refine lv_iconst (v := (-1)) hx hb dc_S_erase_71 (by decide) ?_
        refine w_cSv (y := yn_S_changeCount) (index := 78) (n := 3) (own := Rn_S) hx hb hml hown hts hK hN hP hS (ct_S_changeCount_22 l D ad cA w hJ x1 (-1) st109 _ h) mw_143 mw_144 mw_145 mw_3 (by decide +kernel) ⟨Nat.le_of_ble_eq_true rfl, Nat.le_of_ble_eq_true rfl⟩ rfl rfl rfl hl.1 rfl (lv_room (Nat.le_of_ble_eq_true rfl)) dc_S_erase_72 ⟨Nat.zero_le _, Nat.zero_le _⟩ (fun st110 H locs hP hS h => ?_)
        refine lv_iload_n hx hb dc_S_erase_75 rfl (lv_at hl 0 rfl) ?_
        exact w_iret hx hb hr hlocks hP hS h dc_S_erase_76
    · have h := h.2 c
      refine lv_iconst (v := (-1)) hx hb dc_S_erase_14 (by decide) ?_
      exact w_iret hx hb hr hlocks hP hS h dc_S_erase_15
set_option maxHeartbeats 4000000 in
set_option maxRecDepth 100000 in
theorem ct_R_erase (l : Launch) (D : va_G) (ad : Nat → Nat) (cA : Nat → ClassId) (w : Nat) (hJ : Jn_ ad) (x1 : Int32) (x2 : Int32) (st : St_) (post : Int32 → St_ → Prop) (h : wp_R_erase w x1 x2 st post) : Met l yn_R_erase (Cond.code yn_R_erase bc_R_erase 4 (some .int) :: Wk_) rm_R_erase (Pw_ D ad cA w st [.ref (ad 24), .int x1, .int x2]) (Qi_ D ad cA w post) 0 0 (Aw_ ad) := by
  refine Met.ofW (cc := bc_R_erase) (maxL := 4) (ret := (some .int)) (by decide) rfl ?_
  intro p e s m args below meth c s₁ B hml hv
  obtain ⟨rfl, hP, hK, hN⟩ := hv
  have hx := B.exec
  have hb := B.bytes
  have hr := B.returns
  have hts : ∀ v ∈ Wk_, v.before [.ref (ad 24), .int x1, .int x2].toArray s = true := fun v hv => atoms_spec (ws := Cond.code yn_R_erase bc_R_erase 4 (some .int) :: Wk_) B.pre v (List.mem_cons_of_mem _ hv)
  have hown : s.vm.findClass Rn_R = some m.cls := findClass_of_methodNamed B.named
  have hlocks := B.notSynchronized
  have hS : va_S (Aw_ ad) s.heap s.heap [] := va_S.rf
  have hl := lv_entry ([.ref (ad 24), .int x1, .int x2]) (n := 4) (Nat.le_of_ble_eq_true rfl)
  rw [lg_entry_eq]
  generalize (lg_sl ([.ref (ad 24), .int x1, .int x2]) ++ List.replicate (4 - (lg_sl ([.ref (ad 24), .int x1, .int x2])).length) Slot.unset).toArray = ls at hl ⊢
  have hl : lv_has ls 4 [(0, .ref (ad 24)), (1, .int x1), (2, .int x2)] := hl
  refine lv_aload_n hx hb dc_R_erase_0 rfl (lv_at hl 0 rfl) ?_
  refine lv_iload_n hx hb dc_R_erase_1 rfl (lv_at hl 1 rfl) ?_
  refine lv_iload_n hx hb dc_R_erase_2 rfl (lv_at hl 2 rfl) ?_
  refine w_cVi (y := yn_R_read) (C := Rn_R) (index := 42) (n := 2) (own := Rn_R) 24 hx hb hml hown hts hK hN hP hS (ct_R_read l D ad cA w hJ x1 x2 st _ h) mw_174 mw_204 mw_205 mw_206 mw_150 (by decide +kernel) ⟨Nat.le_of_ble_eq_true rfl, Nat.le_of_ble_eq_true rfl⟩ rfl rfl rfl rfl rfl hl.1 rfl (lv_room (Nat.le_of_ble_eq_true rfl)) dc_R_erase_3 ⟨Nat.zero_le _, Nat.zero_le _⟩ (fun r102 st101 H locs hP hS h => ?_)
  refine lv_istore_n (lv' := [(3, .int r102), (0, .ref (ad 24)), (1, .int x1), (2, .int x2)]) hx hb dc_R_erase_6 rfl hl (by decide) rfl (fun ls hl => ?_)
  refine lv_iload_n hx hb dc_R_erase_7 rfl (lv_at hl 0 rfl) ?_
  refine lv_if_lt (tgt := 34) hx hb dc_R_erase_8 (by decide) (fun c => ?_) (fun c => ?_)
  · have h := h.1 c
    refine lv_iload_n hx hb dc_R_erase_34 rfl (lv_at hl 0 rfl) ?_
    exact w_iret hx hb hr hlocks hP hS h dc_R_erase_35
  · have h := h.2 c
    refine lv_aload_n hx hb dc_R_erase_11 rfl (lv_at hl 1 rfl) ?_
    refine va_get (D := D) (ci := 5) (v := .ref (ad 14)) (C := Rn_R) (T := Fn_R) (N := 4) hx hb hts in_R hown hK hP 24 rfl rfl 0 (by decide) (hts _ mw_158) (fun _ h9 => h9) rfl dc_R_erase_12 ?_
    refine lv_sipush (v := 4096) hx hb dc_R_erase_15 (by decide) ?_
    refine lv_iload_n hx hb dc_R_erase_18 rfl (lv_at hl 2 rfl) ?_
    refine lv_imul hx hb dc_R_erase_19 ?_
    refine lv_iload_n hx hb dc_R_erase_20 rfl (lv_at hl 3 rfl) ?_
    refine lv_iadd hx hb dc_R_erase_21 ?_
    refine lv_iconst (v := 0) hx hb dc_R_erase_22 (by decide) ?_
    refine w_ist 14 (by decide) hJ hx hb hK hP hS h.1 dc_R_erase_23 (fun H locs hP hS => ?_)
    obtain ⟨st103, est103⟩ : ∃ z : St_, z = ws_1 st101 14 (((4096 * x1) + x2)).toNatClampNeg 0 := ⟨_, rfl⟩
    rw [← est103] at hP
    have h := h.2 st103 est103
    refine lv_aload_n hx hb dc_R_erase_24 rfl (lv_at hl 1 rfl) ?_
    refine va_get (D := D) (ci := 5) (v := .ref (ad 16)) (C := Rn_R) (T := Fn_R) (N := 4) hx hb hts in_R hown hK hP 24 rfl rfl 2 (by decide) (hts _ mw_159) (fun _ h9 => h9) rfl dc_R_erase_25 ?_
    refine lv_iload_n hx hb dc_R_erase_28 rfl (lv_at hl 2 rfl) ?_
    refine lv_dup2_11 hx hb dc_R_erase_29 rfl rfl ?_
    refine w_ild 16 (by decide) hx hb hK hP h.1 dc_R_erase_30 ?_
    have h := h.2
    refine lv_iconst (v := 1) hx hb dc_R_erase_31 (by decide) ?_
    refine lv_isub hx hb dc_R_erase_32 ?_
    refine w_ist 16 (by decide) hJ hx hb hK hP hS h.1 dc_R_erase_33 (fun H locs hP hS => ?_)
    obtain ⟨st104, est104⟩ : ∃ z : St_, z = ws_1 st103 16 (x1).toNatClampNeg ((st103 16 (x1).toNatClampNeg) - 1) := ⟨_, rfl⟩
    rw [← est104] at hP
    have h := h.2 st104 est104
    refine lv_iload_n hx hb dc_R_erase_34 rfl (lv_at hl 0 rfl) ?_
    exact w_iret hx hb hr hlocks hP hS h dc_R_erase_35
set_option maxHeartbeats 4000000 in
set_option maxRecDepth 100000 in
theorem ct_T_keyOr (l : Launch) (D : va_G) (ad : Nat → Nat) (cA : Nat → ClassId) (w : Nat) (hJ : Jn_ ad) (x1 : Int32) (x2 : Int32) (x3 : Int32) (st : St_) (post : Int32 → St_ → Prop) (h : wp_T_keyOr w x1 x2 x3 st post) : Met l yn_T_keyOr (Cond.code yn_T_keyOr bc_T_keyOr 4 (some .int) :: Wk_) rm_T_keyOr (Pw_ D ad cA w st [.ref (ad 20), .int x1, .int x2, .int x3]) (Qi_ D ad cA w post) 0 0 (Aw_ ad) := by
  refine Met.ofW (cc := bc_T_keyOr) (maxL := 4) (ret := (some .int)) (by decide) rfl ?_
  intro p e s m args below meth c s₁ B hml hv
  obtain ⟨rfl, hP, hK, hN⟩ := hv
  have hx := B.exec
  have hb := B.bytes
  have hr := B.returns
  have hts : ∀ v ∈ Wk_, v.before [.ref (ad 20), .int x1, .int x2, .int x3].toArray s = true := fun v hv => atoms_spec (ws := Cond.code yn_T_keyOr bc_T_keyOr 4 (some .int) :: Wk_) B.pre v (List.mem_cons_of_mem _ hv)
  have hown : s.vm.findClass Rn_T = some m.cls := findClass_of_methodNamed B.named
  have hlocks := B.notSynchronized
  have hS : va_S (Aw_ ad) s.heap s.heap [] := va_S.rf
  have hl := lv_entry ([.ref (ad 20), .int x1, .int x2, .int x3]) (n := 4) (Nat.le_of_ble_eq_true rfl)
  rw [lg_entry_eq]
  generalize (lg_sl ([.ref (ad 20), .int x1, .int x2, .int x3]) ++ List.replicate (4 - (lg_sl ([.ref (ad 20), .int x1, .int x2, .int x3])).length) Slot.unset).toArray = ls at hl ⊢
  have hl : lv_has ls 4 [(0, .ref (ad 20)), (1, .int x1), (2, .int x2), (3, .int x3)] := hl
  refine lv_iload_n hx hb dc_T_keyOr_0 rfl (lv_at hl 2 rfl) ?_
  refine lv_aload_n hx hb dc_T_keyOr_1 rfl (lv_at hl 0 rfl) ?_
  refine va_get (D := D) (ci := 2) (v := .ref (ad 19)) (C := Rn_T) (T := Fn_T) (N := 3) hx hb hts in_T hown hK hP 20 rfl rfl 0 (by decide) (hts _ mw_13) (fun _ h9 => h9) rfl dc_T_keyOr_2 ?_
  refine lv_iload_n hx hb dc_T_keyOr_5 rfl (lv_at hl 1 rfl) ?_
  refine w_cVi (y := yn_B_size) (C := Rn_B) (index := 48) (n := 1) (own := Rn_T) 19 hx hb hml hown hts hK hN hP hS (ct_B_size l D ad cA w hJ x1 st _ h) mw_26 mw_113 mw_28 mw_29 mw_18 (by decide +kernel) ⟨Nat.le_of_ble_eq_true rfl, Nat.le_of_ble_eq_true rfl⟩ rfl rfl rfl rfl rfl hl.1 rfl (lv_room (Nat.le_of_ble_eq_true rfl)) dc_T_keyOr_6 ⟨Nat.zero_le _, Nat.zero_le _⟩ (fun r102 st101 H locs hP hS h => ?_)
  refine lv_icmp_ge (tgt := 24) hx hb dc_T_keyOr_9 (by decide) (fun c => ?_) (fun c => ?_)
  · have h := h.1 c
    refine lv_iload_n hx hb dc_T_keyOr_24 rfl (lv_at hl 3 rfl) ?_
    exact w_iret hx hb hr hlocks hP hS h dc_T_keyOr_25
  · have h := h.2 c
    refine lv_aload_n hx hb dc_T_keyOr_12 rfl (lv_at hl 0 rfl) ?_
    refine va_get (D := D) (ci := 2) (v := .ref (ad 19)) (C := Rn_T) (T := Fn_T) (N := 3) hx hb hts in_T hown hK hP 20 rfl rfl 0 (by decide) (hts _ mw_13) (fun _ h9 => h9) rfl dc_T_keyOr_13 ?_
    refine lv_iload_n hx hb dc_T_keyOr_16 rfl (lv_at hl 1 rfl) ?_
    refine lv_iload_n hx hb dc_T_keyOr_17 rfl (lv_at hl 2 rfl) ?_
    refine w_cVi (y := yn_B_key) (C := Rn_B) (index := 41) (n := 2) (own := Rn_T) 19 hx hb hml hown hts hK hN hP hS (ct_B_key l D ad cA w hJ x1 x2 st101 _ h) mw_43 mw_44 mw_45 mw_46 mw_18 (by decide +kernel) ⟨Nat.le_of_ble_eq_true rfl, Nat.le_of_ble_eq_true rfl⟩ rfl rfl rfl rfl rfl hl.1 rfl (lv_room (Nat.le_of_ble_eq_true rfl)) dc_T_keyOr_18 ⟨Nat.zero_le _, Nat.zero_le _⟩ (fun r104 st103 H locs hP hS h => ?_)
    refine lv_goto (tgt := 25) hx hb dc_T_keyOr_21 (by decide) ?_
    exact w_iret hx hb hr hlocks hP hS h dc_T_keyOr_25
set_option maxHeartbeats 4000000 in
set_option maxRecDepth 100000 in
theorem ct_T_keyFrom (l : Launch) (D : va_G) (ad : Nat → Nat) (cA : Nat → ClassId) (w : Nat) (hJ : Jn_ ad) (x1 : Int32) (x2 : Int32) (st : St_) (post : Int32 → St_ → Prop) (h : wp_T_keyFrom w x1 x2 st post) : Met l yn_T_keyFrom (Cond.code yn_T_keyFrom bc_T_keyFrom 7 (some .int) :: Wk_) rm_T_keyFrom (Pw_ D ad cA w st [.ref (ad 20), .int x1, .int x2]) (Qi_ D ad cA w post) 0 0 (Aw_ ad) := by
  refine Met.ofW (cc := bc_T_keyFrom) (maxL := 7) (ret := (some .int)) (by decide) rfl ?_
  intro p e s m args below meth c s₁ B hml hv
  obtain ⟨rfl, hP, hK, hN⟩ := hv
  have hx := B.exec
  have hb := B.bytes
  have hr := B.returns
  have hts : ∀ v ∈ Wk_, v.before [.ref (ad 20), .int x1, .int x2].toArray s = true := fun v hv => atoms_spec (ws := Cond.code yn_T_keyFrom bc_T_keyFrom 7 (some .int) :: Wk_) B.pre v (List.mem_cons_of_mem _ hv)
  have hown : s.vm.findClass Rn_T = some m.cls := findClass_of_methodNamed B.named
  have hlocks := B.notSynchronized
  have hS : va_S (Aw_ ad) s.heap s.heap [] := va_S.rf
  have Lp_16 : ∀ (n : Nat) (y1 y2 y3 y4 y5 : Int32) (st : St_), wp_T_keyFrom_16 w post n y1 y2 y3 y4 y5 st → ∀ (H : Heap) (locs : List Loc), va_P D sC_ (wd_ ad cA w st) H → va_S (Aw_ ad) s.heap H locs → ∀ ls : Array Slot, lv_has ls 7 [(0, .ref (ad 20)), (1, .int y1), (2, .int y2), (3, .int y3), (4, .int y4), (5, .int y5)] → W p l e (headSpec (Cond.code yn_T_keyFrom bc_T_keyFrom 7 (some .int) :: Wk_) rm_T_keyFrom).room s m [.ref (ad 20), .int x1, .int x2].toArray below meth c H locs 0 0 (MQ below (Qi_ D ad cA w post) [.ref (ad 20), .int x1, .int x2].toArray s 0 0 (Aw_ ad)) (F0 m 16 ls []) := by
    intro n
    induction n with
    | zero => intro y1 y2 y3 y4 y5 st h; exact h.elim
    | succ n ih =>
      intro y1 y2 y3 y4 y5 st h H locs hP hS ls hl
      refine lv_iload hx hb dc_T_keyFrom_16 (lv_at hl 5 rfl) ?_
      refine lv_if_le (tgt := 59) hx hb dc_T_keyFrom_18 (by decide) (fun c => ?_) (fun c => ?_)
      · have h := h.1 c
        refine lv_aload_n hx hb dc_T_keyFrom_59 rfl (lv_at hl 0 rfl) ?_
        refine va_get (D := D) (ci := 2) (v := .ref (ad 19)) (C := Rn_T) (T := Fn_T) (N := 3) hx hb hts in_T hown hK hP 20 rfl rfl 0 (by decide) (hts _ mw_13) (fun _ h9 => h9) rfl dc_T_keyFrom_60 ?_
        refine lv_iload_n hx hb dc_T_keyFrom_63 rfl (lv_at hl 3 rfl) ?_
        refine lv_iload_n hx hb dc_T_keyFrom_64 rfl (lv_at hl 2 rfl) ?_
        refine w_cVi (y := yn_B_slotOf) (C := Rn_B) (index := 38) (n := 2) (own := Rn_T) 19 hx hb hml hown hts hK hN hP hS (ct_B_slotOf l D ad cA w hJ y3 y2 st _ h) mw_35 mw_36 mw_37 mw_38 mw_18 (by decide +kernel) ⟨Nat.le_of_ble_eq_true rfl, Nat.le_of_ble_eq_true rfl⟩ rfl rfl rfl rfl rfl hl.1 rfl (lv_room (Nat.le_of_ble_eq_true rfl)) dc_T_keyFrom_65 ⟨Nat.zero_le _, Nat.zero_le _⟩ (fun r104 st103 H locs hP hS h => ?_)
        refine lv_istore (lv' := [(5, .int r104), (0, .ref (ad 20)), (1, .int y1), (2, .int y2), (3, .int y3), (4, .int y4)]) hx hb dc_T_keyFrom_68 hl (by decide) rfl (fun ls hl => ?_)
        refine lv_aload_n hx hb dc_T_keyFrom_70 rfl (lv_at hl 1 rfl) ?_
        refine va_get (D := D) (ci := 2) (v := .ref (ad 19)) (C := Rn_T) (T := Fn_T) (N := 3) hx hb hts in_T hown hK hP 20 rfl rfl 0 (by decide) (hts _ mw_13) (fun _ h9 => h9) rfl dc_T_keyFrom_71 ?_
        refine lv_iload_n hx hb dc_T_keyFrom_74 rfl (lv_at hl 4 rfl) ?_
        refine lv_iload hx hb dc_T_keyFrom_75 (lv_at hl 0 rfl) ?_
        refine w_cVi (y := yn_B_key) (C := Rn_B) (index := 41) (n := 2) (own := Rn_T) 19 hx hb hml hown hts hK hN hP hS (ct_B_key l D ad cA w hJ y3 r104 st103 _ h) mw_43 mw_44 mw_45 mw_46 mw_18 (by decide +kernel) ⟨Nat.le_of_ble_eq_true rfl, Nat.le_of_ble_eq_true rfl⟩ rfl rfl rfl rfl rfl hl.1 rfl (lv_room (Nat.le_of_ble_eq_true rfl)) dc_T_keyFrom_77 ⟨Nat.zero_le _, Nat.zero_le _⟩ (fun r106 st105 H locs hP hS h => ?_)
        refine lv_iload_n hx hb dc_T_keyFrom_80 rfl (lv_at hl 3 rfl) ?_
        refine lv_icmp_ne (tgt := 88) hx hb dc_T_keyFrom_81 (by decide) (fun c => ?_) (fun c => ?_)
        · have h := h.1 c
          refine lv_aload_n hx hb dc_T_keyFrom_88 rfl (lv_at hl 1 rfl) ?_
          refine lv_iload_n hx hb dc_T_keyFrom_89 rfl (lv_at hl 4 rfl) ?_
          refine lv_iload hx hb dc_T_keyFrom_90 (lv_at hl 0 rfl) ?_
          refine lv_iconst (v := 1) hx hb dc_T_keyFrom_92 (by decide) ?_
          refine lv_iadd hx hb dc_T_keyFrom_93 ?_
          refine lv_iload hx hb dc_T_keyFrom_94 (lv_at hl 5 rfl) ?_
          refine w_cVi (y := yn_T_keyOr) (C := Rn_T) (index := 44) (n := 3) (own := Rn_T) 20 hx hb hml hown hts hK hN hP hS (ct_T_keyOr l D ad cA w hJ y3 (r104 + 1) y4 st105 _ h) mw_208 mw_209 mw_210 mw_211 mw_59 (by decide +kernel) ⟨Nat.le_of_ble_eq_true rfl, Nat.le_of_ble_eq_true rfl⟩ rfl rfl rfl rfl rfl hl.1 rfl (lv_room (Nat.le_of_ble_eq_true rfl)) dc_T_keyFrom_96 ⟨Nat.zero_le _, Nat.zero_le _⟩ (fun r108 st107 H locs hP hS h => ?_)
          exact w_iret hx hb hr hlocks hP hS h dc_T_keyFrom_99
        · have h := h.2 c
          refine lv_iload_n hx hb dc_T_keyFrom_84 rfl (lv_at hl 3 rfl) ?_
          refine lv_goto (tgt := 99) hx hb dc_T_keyFrom_85 (by decide) ?_
          exact w_iret hx hb hr hlocks hP hS h dc_T_keyFrom_99
      · have h := h.2 c
        refine lv_aload_n hx hb dc_T_keyFrom_21 rfl (lv_at hl 0 rfl) ?_
        refine lv_iload_n hx hb dc_T_keyFrom_22 rfl (lv_at hl 3 rfl) ?_
        refine lv_iload_n hx hb dc_T_keyFrom_23 rfl (lv_at hl 2 rfl) ?_
        refine w_cVi (y := yn_T_slotToward) (C := Rn_T) (index := 31) (n := 2) (own := Rn_T) 20 hx hb hml hown hts hK hN hP hS (ct_T_slotToward l D ad cA w hJ y3 y2 st _ h) mw_55 mw_56 mw_57 mw_58 mw_59 (by decide +kernel) ⟨Nat.le_of_ble_eq_true rfl, Nat.le_of_ble_eq_true rfl⟩ rfl rfl rfl rfl rfl hl.1 rfl (lv_room (Nat.le_of_ble_eq_true rfl)) dc_T_keyFrom_24 ⟨Nat.zero_le _, Nat.zero_le _⟩ (fun r110 st109 H locs hP hS h => ?_)
        refine lv_istore (lv' := [(6, .int r110), (0, .ref (ad 20)), (1, .int y1), (2, .int y2), (3, .int y3), (4, .int y4), (5, .int y5)]) hx hb dc_T_keyFrom_27 hl (by decide) rfl (fun ls hl => ?_)
        refine lv_aload_n hx hb dc_T_keyFrom_29 rfl (lv_at hl 1 rfl) ?_
        refine lv_iload_n hx hb dc_T_keyFrom_30 rfl (lv_at hl 4 rfl) ?_
        refine lv_iload hx hb dc_T_keyFrom_31 (lv_at hl 0 rfl) ?_
        refine lv_iconst (v := 1) hx hb dc_T_keyFrom_33 (by decide) ?_
        refine lv_iadd hx hb dc_T_keyFrom_34 ?_
        refine lv_iload hx hb dc_T_keyFrom_35 (lv_at hl 5 rfl) ?_
        refine w_cVi (y := yn_T_keyOr) (C := Rn_T) (index := 44) (n := 3) (own := Rn_T) 20 hx hb hml hown hts hK hN hP hS (ct_T_keyOr l D ad cA w hJ y3 (r110 + 1) y4 st109 _ h) mw_208 mw_209 mw_210 mw_211 mw_59 (by decide +kernel) ⟨Nat.le_of_ble_eq_true rfl, Nat.le_of_ble_eq_true rfl⟩ rfl rfl rfl rfl rfl hl.1 rfl (lv_room (Nat.le_of_ble_eq_true rfl)) dc_T_keyFrom_37 ⟨Nat.zero_le _, Nat.zero_le _⟩ (fun r112 st111 H locs hP hS h => ?_)
        refine lv_istore (lv' := [(4, .int r112), (6, .int r110), (0, .ref (ad 20)), (1, .int y1), (2, .int y2), (3, .int y3), (5, .int y5)]) hx hb dc_T_keyFrom_40 hl (by decide) rfl (fun ls hl => ?_)
        refine lv_aload_n hx hb dc_T_keyFrom_42 rfl (lv_at hl 2 rfl) ?_
        refine va_get (D := D) (ci := 2) (v := .ref (ad 19)) (C := Rn_T) (T := Fn_T) (N := 3) hx hb hts in_T hown hK hP 20 rfl rfl 0 (by decide) (hts _ mw_13) (fun _ h9 => h9) rfl dc_T_keyFrom_43 ?_
        refine lv_iload_n hx hb dc_T_keyFrom_46 rfl (lv_at hl 5 rfl) ?_
        refine lv_iload hx hb dc_T_keyFrom_47 (lv_at hl 1 rfl) ?_
        refine w_cVi (y := yn_B_goal) (C := Rn_B) (index := 35) (n := 2) (own := Rn_T) 19 hx hb hml hown hts hK hN hP hS (ct_B_goal l D ad cA w hJ y3 r110 st111 _ h) mw_48 mw_49 mw_50 mw_51 mw_18 (by decide +kernel) ⟨Nat.le_of_ble_eq_true rfl, Nat.le_of_ble_eq_true rfl⟩ rfl rfl rfl rfl rfl hl.1 rfl (lv_room (Nat.le_of_ble_eq_true rfl)) dc_T_keyFrom_49 ⟨Nat.zero_le _, Nat.zero_le _⟩ (fun r114 st113 H locs hP hS h => ?_)
        refine lv_istore_n (lv' := [(3, .int r114), (4, .int r112), (6, .int r110), (0, .ref (ad 20)), (1, .int y1), (2, .int y2), (5, .int y5)]) hx hb dc_T_keyFrom_52 rfl hl (by decide) rfl (fun ls hl => ?_)
        obtain ⟨x115, ex115⟩ : ∃ y : Int32, y = y5 + (-1) := ⟨_, rfl⟩
        have h := h x115 ex115
        refine lv_iinc (v := x115) (lv' := [(5, .int x115), (3, .int r114), (4, .int r112), (6, .int r110), (0, .ref (ad 20)), (1, .int y1), (2, .int y2)]) hx hb dc_T_keyFrom_53 hl (k := 6) rfl (by rw [ex115]; rfl) (by decide) rfl (fun ls hl => ?_)
        refine lv_goto (tgt := 16) hx hb dc_T_keyFrom_56 (by decide) ?_
        exact ih y1 y2 r114 r112 x115 st113 h _ _ hP hS ls (lv_sub hl [4, 5, 6, 1, 2, 0] rfl)
  have hl := lv_entry ([.ref (ad 20), .int x1, .int x2]) (n := 7) (Nat.le_of_ble_eq_true rfl)
  rw [lg_entry_eq]
  generalize (lg_sl ([.ref (ad 20), .int x1, .int x2]) ++ List.replicate (7 - (lg_sl ([.ref (ad 20), .int x1, .int x2])).length) Slot.unset).toArray = ls at hl ⊢
  have hl : lv_has ls 7 [(0, .ref (ad 20)), (1, .int x1), (2, .int x2)] := hl
  refine lv_iload_n hx hb dc_T_keyFrom_0 rfl (lv_at hl 1 rfl) ?_
  refine lv_istore_n (lv' := [(3, .int x1), (0, .ref (ad 20)), (1, .int x1), (2, .int x2)]) hx hb dc_T_keyFrom_1 rfl hl (by decide) rfl (fun ls hl => ?_)
  refine lv_bipush (v := (-2)) hx hb dc_T_keyFrom_2 (by decide) ?_
  refine lv_istore (lv' := [(4, .int (-2)), (3, .int x1), (0, .ref (ad 20)), (1, .int x1), (2, .int x2)]) hx hb dc_T_keyFrom_4 hl (by decide) rfl (fun ls hl => ?_)
  refine lv_aload_n hx hb dc_T_keyFrom_6 rfl (lv_at hl 2 rfl) ?_
  refine va_get (D := D) (ci := 2) (v := .ref (ad 19)) (C := Rn_T) (T := Fn_T) (N := 3) hx hb hts in_T hown hK hP 20 rfl rfl 0 (by decide) (hts _ mw_13) (fun _ h9 => h9) rfl dc_T_keyFrom_7 ?_
  refine lv_iload_n hx hb dc_T_keyFrom_10 rfl (lv_at hl 3 rfl) ?_
  refine w_cVi (y := yn_B_level) (C := Rn_B) (index := 26) (n := 1) (own := Rn_T) 19 hx hb hml hown hts hK hN hP hS (ct_B_level l D ad cA w hJ x1 st _ h) mw_20 mw_21 mw_22 mw_23 mw_18 (by decide +kernel) ⟨Nat.le_of_ble_eq_true rfl, Nat.le_of_ble_eq_true rfl⟩ rfl rfl rfl rfl rfl hl.1 rfl (lv_room (Nat.le_of_ble_eq_true rfl)) dc_T_keyFrom_11 ⟨Nat.zero_le _, Nat.zero_le _⟩ (fun r102 st101 H locs hP hS h => ?_)
  refine lv_istore (lv' := [(5, .int r102), (4, .int (-2)), (3, .int x1), (0, .ref (ad 20)), (1, .int x1), (2, .int x2)]) hx hb dc_T_keyFrom_14 hl (by decide) rfl (fun ls hl => ?_)
  obtain ⟨n, h⟩ := h
  exact Lp_16 n x1 x2 x1 (-2) r102 st101 h _ _ hP hS ls (lv_sub hl [3, 4, 5, 2, 1, 0] rfl)
set_option maxHeartbeats 4000000 in
set_option maxRecDepth 100000 in
theorem ct_S_cut (l : Launch) (D : va_G) (ad : Nat → Nat) (cA : Nat → ClassId) (w : Nat) (hJ : Jn_ ad) (x1 : Int32) (x2 : Int32) (x3 : Int32) (st : St_) (post : Int32 → St_ → Prop) (h : wp_S_cut w x1 x2 x3 st post) : Met l yn_S_cut (Cond.code yn_S_cut bc_S_cut 6 (some .int) :: Wk_) rm_S_cut (Pw_ D ad cA w st [.ref (ad 18), .int x1, .int x2, .int x3]) (Qi_ D ad cA w post) 0 0 (Aw_ ad) := by
  refine Met.ofW (cc := bc_S_cut) (maxL := 6) (ret := (some .int)) (by decide) rfl ?_
  intro p e s m args below meth c s₁ B hml hv
  obtain ⟨rfl, hP, hK, hN⟩ := hv
  have hx := B.exec
  have hb := B.bytes
  have hr := B.returns
  have hts : ∀ v ∈ Wk_, v.before [.ref (ad 18), .int x1, .int x2, .int x3].toArray s = true := fun v hv => atoms_spec (ws := Cond.code yn_S_cut bc_S_cut 6 (some .int) :: Wk_) B.pre v (List.mem_cons_of_mem _ hv)
  have hown : s.vm.findClass Rn_S = some m.cls := findClass_of_methodNamed B.named
  have hlocks := B.notSynchronized
  have hS : va_S (Aw_ ad) s.heap s.heap [] := va_S.rf
  have Lp_50 : ∀ (n : Nat) (y1 y2 y3 y4 y5 : Int32) (st : St_), wp_S_cut_50 w post n y1 y2 y3 y4 y5 st → ∀ (H : Heap) (locs : List Loc), va_P D sC_ (wd_ ad cA w st) H → va_S (Aw_ ad) s.heap H locs → ∀ ls : Array Slot, lv_has ls 6 [(0, .ref (ad 18)), (1, .int y1), (2, .int y2), (3, .int y3), (4, .int y4), (5, .int y5)] → W p l e (headSpec (Cond.code yn_S_cut bc_S_cut 6 (some .int) :: Wk_) rm_S_cut).room s m [.ref (ad 18), .int x1, .int x2, .int x3].toArray below meth c H locs 0 0 (MQ below (Qi_ D ad cA w post) [.ref (ad 18), .int x1, .int x2, .int x3].toArray s 0 0 (Aw_ ad)) (F0 m 50 ls []) := by
    intro n
    induction n with
    | zero => intro y1 y2 y3 y4 y5 st h; exact h.elim
    | succ n ih =>
      intro y1 y2 y3 y4 y5 st h H locs hP hS ls hl
      refine lv_iload hx hb dc_S_cut_50 (lv_at hl 4 rfl) ?_
      refine lv_sipush (v := 600) hx hb dc_S_cut_52 (by decide) ?_
      refine lv_icmp_ge (tgt := 124) hx hb dc_S_cut_55 (by decide) (fun c => ?_) (fun c => ?_)
      · have h := h.1 c
        refine lv_aload_n hx hb dc_S_cut_124 rfl (lv_at hl 0 rfl) ?_
        refine va_get (D := D) (ci := 0) (v := .ref (ad 22)) (C := Rn_S) (T := Fn_S) (N := 5) hx hb hts in_S hown hK hP 18 rfl rfl 3 (by decide) (hts _ mw_12) (fun _ h9 => h9) rfl dc_S_cut_125 ?_
        refine lv_iload_n hx hb dc_S_cut_128 rfl (lv_at hl 1 rfl) ?_
        refine lv_iload hx hb dc_S_cut_129 (lv_at hl 4 rfl) ?_
        refine lv_ineg hx hb dc_S_cut_131 ?_
        refine w_cSv (y := yn_S_changeCount) (index := 78) (n := 3) (own := Rn_S) hx hb hml hown hts hK hN hP hS (ct_S_changeCount_22 l D ad cA w hJ y1 (-y4) st _ h) mw_143 mw_144 mw_145 mw_3 (by decide +kernel) ⟨Nat.le_of_ble_eq_true rfl, Nat.le_of_ble_eq_true rfl⟩ rfl rfl rfl hl.1 rfl (lv_room (Nat.le_of_ble_eq_true rfl)) dc_S_cut_132 ⟨Nat.zero_le _, Nat.zero_le _⟩ (fun st109 H locs hP hS h => ?_)
        refine lv_iload hx hb dc_S_cut_135 (lv_at hl 4 rfl) ?_
        exact w_iret hx hb hr hlocks hP hS h dc_S_cut_137
      · have h := h.2 c
        refine lv_iload hx hb dc_S_cut_58 (lv_at hl 5 rfl) ?_
        refine lv_bipush (v := (-2)) hx hb dc_S_cut_60 (by decide) ?_
        refine lv_icmp_eq (tgt := 124) hx hb dc_S_cut_62 (by decide) (fun c => ?_) (fun c => ?_)
        · have h := h.1 c
          refine lv_aload_n hx hb dc_S_cut_124 rfl (lv_at hl 0 rfl) ?_
          refine va_get (D := D) (ci := 0) (v := .ref (ad 22)) (C := Rn_S) (T := Fn_S) (N := 5) hx hb hts in_S hown hK hP 18 rfl rfl 3 (by decide) (hts _ mw_12) (fun _ h9 => h9) rfl dc_S_cut_125 ?_
          refine lv_iload_n hx hb dc_S_cut_128 rfl (lv_at hl 1 rfl) ?_
          refine lv_iload hx hb dc_S_cut_129 (lv_at hl 4 rfl) ?_
          refine lv_ineg hx hb dc_S_cut_131 ?_
          refine w_cSv (y := yn_S_changeCount) (index := 78) (n := 3) (own := Rn_S) hx hb hml hown hts hK hN hP hS (ct_S_changeCount_22 l D ad cA w hJ y1 (-y4) st _ h) mw_143 mw_144 mw_145 mw_3 (by decide +kernel) ⟨Nat.le_of_ble_eq_true rfl, Nat.le_of_ble_eq_true rfl⟩ rfl rfl rfl hl.1 rfl (lv_room (Nat.le_of_ble_eq_true rfl)) dc_S_cut_132 ⟨Nat.zero_le _, Nat.zero_le _⟩ (fun st110 H locs hP hS h => ?_)
          refine lv_iload hx hb dc_S_cut_135 (lv_at hl 4 rfl) ?_
          exact w_iret hx hb hr hlocks hP hS h dc_S_cut_137
        · have h := h.2 c
          refine lv_iload hx hb dc_S_cut_65 (lv_at hl 5 rfl) ?_
          refine lv_iload_n hx hb dc_S_cut_67 rfl (lv_at hl 3 rfl) ?_
          refine lv_icmp_gt (tgt := 124) hx hb dc_S_cut_68 (by decide) (fun c => ?_) (fun c => ?_)
          · have h := h.1 c
            refine lv_aload_n hx hb dc_S_cut_124 rfl (lv_at hl 0 rfl) ?_
            refine va_get (D := D) (ci := 0) (v := .ref (ad 22)) (C := Rn_S) (T := Fn_S) (N := 5) hx hb hts in_S hown hK hP 18 rfl rfl 3 (by decide) (hts _ mw_12) (fun _ h9 => h9) rfl dc_S_cut_125 ?_
            refine lv_iload_n hx hb dc_S_cut_128 rfl (lv_at hl 1 rfl) ?_
            refine lv_iload hx hb dc_S_cut_129 (lv_at hl 4 rfl) ?_
            refine lv_ineg hx hb dc_S_cut_131 ?_
            refine w_cSv (y := yn_S_changeCount) (index := 78) (n := 3) (own := Rn_S) hx hb hml hown hts hK hN hP hS (ct_S_changeCount_22 l D ad cA w hJ y1 (-y4) st _ h) mw_143 mw_144 mw_145 mw_3 (by decide +kernel) ⟨Nat.le_of_ble_eq_true rfl, Nat.le_of_ble_eq_true rfl⟩ rfl rfl rfl hl.1 rfl (lv_room (Nat.le_of_ble_eq_true rfl)) dc_S_cut_132 ⟨Nat.zero_le _, Nat.zero_le _⟩ (fun st111 H locs hP hS h => ?_)
            refine lv_iload hx hb dc_S_cut_135 (lv_at hl 4 rfl) ?_
            exact w_iret hx hb hr hlocks hP hS h dc_S_cut_137
          · have h := h.2 c
            refine lv_aload_n hx hb dc_S_cut_71 rfl (lv_at hl 0 rfl) ?_
            refine va_get (D := D) (ci := 0) (v := .ref (ad 22)) (C := Rn_S) (T := Fn_S) (N := 5) hx hb hts in_S hown hK hP 18 rfl rfl 3 (by decide) (hts _ mw_12) (fun _ h9 => h9) rfl dc_S_cut_72 ?_
            refine va_getN (D := D) (ci := 4) (v := .ref (ad 10)) (C := Rn_P) (T := Fn_P) (N := 3) (host := nh_) hx hb hts in_P hown hK hP 22 rfl rfl 0 (by decide) (va_Nw.use rfl (hN.1 _ nf_0)) (fun _ h9 => h9) rfl dc_S_cut_75 ?_
            refine lv_iload_n hx hb dc_S_cut_78 rfl (lv_at hl 1 rfl) ?_
            refine lv_aload_n hx hb dc_S_cut_79 rfl (lv_at hl 0 rfl) ?_
            refine va_get (D := D) (ci := 0) (v := .ref (ad 20)) (C := Rn_S) (T := Fn_S) (N := 5) hx hb hts in_S hown hK hP 18 rfl rfl 1 (by decide) (hts _ mw_11) (fun _ h9 => h9) rfl dc_S_cut_80 ?_
            refine lv_aload_n hx hb dc_S_cut_83 rfl (lv_at hl 0 rfl) ?_
            refine va_get (D := D) (ci := 0) (v := .ref (ad 22)) (C := Rn_S) (T := Fn_S) (N := 5) hx hb hts in_S hown hK hP 18 rfl rfl 3 (by decide) (hts _ mw_12) (fun _ h9 => h9) rfl dc_S_cut_84 ?_
            refine va_getN (D := D) (ci := 4) (v := .ref (ad 10)) (C := Rn_P) (T := Fn_P) (N := 3) (host := nh_) hx hb hts in_P hown hK hP 22 rfl rfl 0 (by decide) (va_Nw.use rfl (hN.1 _ nf_0)) (fun _ h9 => h9) rfl dc_S_cut_87 ?_
            refine lv_iload_n hx hb dc_S_cut_90 rfl (lv_at hl 1 rfl) ?_
            refine w_ild 10 (by decide) hx hb hK hP h.1 dc_S_cut_91 ?_
            have h := h.2
            refine lv_iload hx hb dc_S_cut_92 (lv_at hl 5 rfl) ?_
            refine w_cVi (y := yn_T_without) (C := Rn_T) (index := 88) (n := 2) (own := Rn_S) 20 hx hb hml hown hts hK hN hP hS (ct_T_without l D ad cA w hJ (st 10 (y1).toNatClampNeg) y5 st _ h) mw_199 mw_200 mw_201 mw_202 mw_59 (by decide +kernel) ⟨Nat.le_of_ble_eq_true rfl, Nat.le_of_ble_eq_true rfl⟩ rfl rfl rfl rfl rfl hl.1 rfl (lv_room (Nat.le_of_ble_eq_true rfl)) dc_S_cut_94 ⟨Nat.zero_le _, Nat.zero_le _⟩ (fun r113 st112 H locs hP hS h => ?_)
            refine w_ist 10 (by decide) hJ hx hb hK hP hS h.1 dc_S_cut_97 (fun H locs hP hS => ?_)
            obtain ⟨st114, est114⟩ : ∃ z : St_, z = ws_1 st112 10 (y1).toNatClampNeg r113 := ⟨_, rfl⟩
            rw [← est114] at hP
            have h := h.2 st114 est114
            obtain ⟨x115, ex115⟩ : ∃ y : Int32, y = y4 + 1 := ⟨_, rfl⟩
            have h := h x115 ex115
            refine lv_iinc (v := x115) (lv' := [(4, .int x115), (0, .ref (ad 18)), (1, .int y1), (2, .int y2), (3, .int y3), (5, .int y5)]) hx hb dc_S_cut_98 hl (k := 4) rfl (by rw [ex115]; rfl) (by decide) rfl (fun ls hl => ?_)
            refine lv_aload_n hx hb dc_S_cut_101 rfl (lv_at hl 1 rfl) ?_
            refine va_get (D := D) (ci := 0) (v := .ref (ad 20)) (C := Rn_S) (T := Fn_S) (N := 5) hx hb hts in_S hown hK hP 18 rfl rfl 1 (by decide) (hts _ mw_11) (fun _ h9 => h9) rfl dc_S_cut_102 ?_
            refine lv_aload_n hx hb dc_S_cut_105 rfl (lv_at hl 1 rfl) ?_
            refine va_get (D := D) (ci := 0) (v := .ref (ad 22)) (C := Rn_S) (T := Fn_S) (N := 5) hx hb hts in_S hown hK hP 18 rfl rfl 3 (by decide) (hts _ mw_12) (fun _ h9 => h9) rfl dc_S_cut_106 ?_
            refine va_getN (D := D) (ci := 4) (v := .ref (ad 10)) (C := Rn_P) (T := Fn_P) (N := 3) (host := nh_) hx hb hts in_P hown hK hP 22 rfl rfl 0 (by decide) (va_Nw.use rfl (hN.1 _ nf_0)) (fun _ h9 => h9) rfl dc_S_cut_109 ?_
            refine lv_iload_n hx hb dc_S_cut_112 rfl (lv_at hl 2 rfl) ?_
            refine w_ild 10 (by decide) hx hb hK hP h.1 dc_S_cut_113 ?_
            have h := h.2
            refine lv_iload hx hb dc_S_cut_114 (lv_at hl 5 rfl) ?_
            refine w_cVi (y := yn_T_keyFrom) (C := Rn_T) (index := 91) (n := 2) (own := Rn_S) 20 hx hb hml hown hts hK hN hP hS (ct_T_keyFrom l D ad cA w hJ (st114 10 (y1).toNatClampNeg) y5 st114 _ h) mw_212 mw_213 mw_214 mw_215 mw_59 (by decide +kernel) ⟨Nat.le_of_ble_eq_true rfl, Nat.le_of_ble_eq_true rfl⟩ rfl rfl rfl rfl rfl hl.1 rfl (lv_room (Nat.le_of_ble_eq_true rfl)) dc_S_cut_116 ⟨Nat.zero_le _, Nat.zero_le _⟩ (fun r117 st116 H locs hP hS h => ?_)
            refine lv_istore (lv' := [(5, .int r117), (4, .int x115), (0, .ref (ad 18)), (1, .int y1), (2, .int y2), (3, .int y3)]) hx hb dc_S_cut_119 hl (by decide) rfl (fun ls hl => ?_)
            refine lv_goto (tgt := 50) hx hb dc_S_cut_121 (by decide) ?_
            exact ih y1 y2 y3 x115 r117 st116 h _ _ hP hS ls (lv_sub hl [2, 3, 4, 5, 1, 0] rfl)
  have hl := lv_entry ([.ref (ad 18), .int x1, .int x2, .int x3]) (n := 6) (Nat.le_of_ble_eq_true rfl)
  rw [lg_entry_eq]
  generalize (lg_sl ([.ref (ad 18), .int x1, .int x2, .int x3]) ++ List.replicate (6 - (lg_sl ([.ref (ad 18), .int x1, .int x2, .int x3])).length) Slot.unset).toArray = ls at hl ⊢
  have hl : lv_has ls 6 [(0, .ref (ad 18)), (1, .int x1), (2, .int x2), (3, .int x3)] := hl
  refine lv_iload_n hx hb dc_S_cut_0 rfl (lv_at hl 1 rfl) ?_
  refine w_cSi (y := yn_S_isMap) (index := 53) (n := 1) (own := Rn_S) hx hb hml hown hts hK hN hP hS (ct_S_isMap l D ad cA w hJ x1 st _ h) mw_0 mw_1 mw_2 mw_3 (by decide +kernel) ⟨Nat.le_of_ble_eq_true rfl, Nat.le_of_ble_eq_true rfl⟩ rfl rfl rfl hl.1 rfl (lv_room (Nat.le_of_ble_eq_true rfl)) dc_S_cut_1 ⟨Nat.zero_le _, Nat.zero_le _⟩ (fun r102 st101 H locs hP hS h => ?_)
  refine lv_if_eq (tgt := 26) hx hb dc_S_cut_4 (by decide) (fun c => ?_) (fun c => ?_)
  · have h := h.1 c
    refine lv_iconst (v := (-1)) hx hb dc_S_cut_26 (by decide) ?_
    exact w_iret hx hb hr hlocks hP hS h dc_S_cut_27
  · have h := h.2 c
    refine lv_iload_n hx hb dc_S_cut_7 rfl (lv_at hl 2 rfl) ?_
    refine w_cSi (y := yn_S_isKey) (index := 57) (n := 1) (own := Rn_S) hx hb hml hown hts hK hN hP hS (ct_S_isKey l D ad cA w hJ x2 st101 _ h) mw_4 mw_5 mw_6 mw_3 (by decide +kernel) ⟨Nat.le_of_ble_eq_true rfl, Nat.le_of_ble_eq_true rfl⟩ rfl rfl rfl hl.1 rfl (lv_room (Nat.le_of_ble_eq_true rfl)) dc_S_cut_8 ⟨Nat.zero_le _, Nat.zero_le _⟩ (fun r104 st103 H locs hP hS h => ?_)
    refine lv_if_eq (tgt := 26) hx hb dc_S_cut_11 (by decide) (fun c => ?_) (fun c => ?_)
    · have h := h.1 c
      refine lv_iconst (v := (-1)) hx hb dc_S_cut_26 (by decide) ?_
      exact w_iret hx hb hr hlocks hP hS h dc_S_cut_27
    · have h := h.2 c
      refine lv_iload_n hx hb dc_S_cut_14 rfl (lv_at hl 3 rfl) ?_
      refine w_cSi (y := yn_S_isKey) (index := 57) (n := 1) (own := Rn_S) hx hb hml hown hts hK hN hP hS (ct_S_isKey l D ad cA w hJ x3 st103 _ h) mw_4 mw_5 mw_6 mw_3 (by decide +kernel) ⟨Nat.le_of_ble_eq_true rfl, Nat.le_of_ble_eq_true rfl⟩ rfl rfl rfl hl.1 rfl (lv_room (Nat.le_of_ble_eq_true rfl)) dc_S_cut_15 ⟨Nat.zero_le _, Nat.zero_le _⟩ (fun r106 st105 H locs hP hS h => ?_)
      refine lv_if_eq (tgt := 26) hx hb dc_S_cut_18 (by decide) (fun c => ?_) (fun c => ?_)
      · have h := h.1 c
        refine lv_iconst (v := (-1)) hx hb dc_S_cut_26 (by decide) ?_
        exact w_iret hx hb hr hlocks hP hS h dc_S_cut_27
      · have h := h.2 c
        refine lv_iload_n hx hb dc_S_cut_21 rfl (lv_at hl 3 rfl) ?_
        refine lv_iload_n hx hb dc_S_cut_22 rfl (lv_at hl 2 rfl) ?_
        refine lv_icmp_ge (tgt := 28) hx hb dc_S_cut_23 (by decide) (fun c => ?_) (fun c => ?_)
        · have h := h.1 c
          refine lv_iconst (v := 0) hx hb dc_S_cut_28 (by decide) ?_
          refine lv_istore (lv' := [(4, .int 0), (0, .ref (ad 18)), (1, .int x1), (2, .int x2), (3, .int x3)]) hx hb dc_S_cut_29 hl (by decide) rfl (fun ls hl => ?_)
          refine lv_aload_n hx hb dc_S_cut_31 rfl (lv_at hl 1 rfl) ?_
          refine va_get (D := D) (ci := 0) (v := .ref (ad 20)) (C := Rn_S) (T := Fn_S) (N := 5) hx hb hts in_S hown hK hP 18 rfl rfl 1 (by decide) (hts _ mw_11) (fun _ h9 => h9) rfl dc_S_cut_32 ?_
          refine lv_aload_n hx hb dc_S_cut_35 rfl (lv_at hl 1 rfl) ?_
          refine va_get (D := D) (ci := 0) (v := .ref (ad 22)) (C := Rn_S) (T := Fn_S) (N := 5) hx hb hts in_S hown hK hP 18 rfl rfl 3 (by decide) (hts _ mw_12) (fun _ h9 => h9) rfl dc_S_cut_36 ?_
          refine va_getN (D := D) (ci := 4) (v := .ref (ad 10)) (C := Rn_P) (T := Fn_P) (N := 3) (host := nh_) hx hb hts in_P hown hK hP 22 rfl rfl 0 (by decide) (va_Nw.use rfl (hN.1 _ nf_0)) (fun _ h9 => h9) rfl dc_S_cut_39 ?_
          refine lv_iload_n hx hb dc_S_cut_42 rfl (lv_at hl 2 rfl) ?_
          refine w_ild 10 (by decide) hx hb hK hP h.1 dc_S_cut_43 ?_
          have h := h.2
          refine lv_iload_n hx hb dc_S_cut_44 rfl (lv_at hl 3 rfl) ?_
          refine w_cVi (y := yn_T_keyFrom) (C := Rn_T) (index := 91) (n := 2) (own := Rn_S) 20 hx hb hml hown hts hK hN hP hS (ct_T_keyFrom l D ad cA w hJ (st105 10 (x1).toNatClampNeg) x2 st105 _ h) mw_212 mw_213 mw_214 mw_215 mw_59 (by decide +kernel) ⟨Nat.le_of_ble_eq_true rfl, Nat.le_of_ble_eq_true rfl⟩ rfl rfl rfl rfl rfl hl.1 rfl (lv_room (Nat.le_of_ble_eq_true rfl)) dc_S_cut_45 ⟨Nat.zero_le _, Nat.zero_le _⟩ (fun r108 st107 H locs hP hS h => ?_)
          refine lv_istore (lv' := [(5, .int r108), (4, .int 0), (0, .ref (ad 18)), (1, .int x1), (2, .int x2), (3, .int x3)]) hx hb dc_S_cut_48 hl (by decide) rfl (fun ls hl => ?_)
          obtain ⟨n, h⟩ := h
          exact Lp_50 n x1 x2 x3 0 r108 st107 h _ _ hP hS ls (lv_sub hl [2, 3, 4, 5, 1, 0] rfl)
        · have h := h.2 c
          refine lv_iconst (v := (-1)) hx hb dc_S_cut_26 (by decide) ?_
          exact w_iret hx hb hr hlocks hP hS h dc_S_cut_27
set_option maxHeartbeats 4000000 in
set_option maxRecDepth 100000 in
theorem ct_R_cut (l : Launch) (D : va_G) (ad : Nat → Nat) (cA : Nat → ClassId) (w : Nat) (hJ : Jn_ ad) (x1 : Int32) (x2 : Int32) (x3 : Int32) (st : St_) (post : Int32 → St_ → Prop) (h : wp_R_cut w x1 x2 x3 st post) : Met l yn_R_cut (Cond.code yn_R_cut bc_R_cut 6 (some .int) :: Wk_) rm_R_cut (Pw_ D ad cA w st [.ref (ad 24), .int x1, .int x2, .int x3]) (Qi_ D ad cA w post) 0 0 (Aw_ ad) := by
  refine Met.ofW (cc := bc_R_cut) (maxL := 6) (ret := (some .int)) (by decide) rfl ?_
  intro p e s m args below meth c s₁ B hml hv
  obtain ⟨rfl, hP, hK, hN⟩ := hv
  have hx := B.exec
  have hb := B.bytes
  have hr := B.returns
  have hts : ∀ v ∈ Wk_, v.before [.ref (ad 24), .int x1, .int x2, .int x3].toArray s = true := fun v hv => atoms_spec (ws := Cond.code yn_R_cut bc_R_cut 6 (some .int) :: Wk_) B.pre v (List.mem_cons_of_mem _ hv)
  have hown : s.vm.findClass Rn_R = some m.cls := findClass_of_methodNamed B.named
  have hlocks := B.notSynchronized
  have hS : va_S (Aw_ ad) s.heap s.heap [] := va_S.rf
  have Lp_34 : ∀ (n : Nat) (y1 y2 y3 y4 y5 : Int32) (st : St_), wp_R_cut_34 w post n y1 y2 y3 y4 y5 st → ∀ (H : Heap) (locs : List Loc), va_P D sC_ (wd_ ad cA w st) H → va_S (Aw_ ad) s.heap H locs → ∀ ls : Array Slot, lv_has ls 6 [(0, .ref (ad 24)), (1, .int y1), (2, .int y2), (3, .int y3), (4, .int y4), (5, .int y5)] → W p l e (headSpec (Cond.code yn_R_cut bc_R_cut 6 (some .int) :: Wk_) rm_R_cut).room s m [.ref (ad 24), .int x1, .int x2, .int x3].toArray below meth c H locs 0 0 (MQ below (Qi_ D ad cA w post) [.ref (ad 24), .int x1, .int x2, .int x3].toArray s 0 0 (Aw_ ad)) (F0 m 34 ls []) := by
    intro n
    induction n with
    | zero => intro y1 y2 y3 y4 y5 st h; exact h.elim
    | succ n ih =>
      intro y1 y2 y3 y4 y5 st h H locs hP hS ls hl
      refine lv_iload hx hb dc_R_cut_34 (lv_at hl 5 rfl) ?_
      refine lv_iload_n hx hb dc_R_cut_36 rfl (lv_at hl 3 rfl) ?_
      refine lv_icmp_gt (tgt := 66) hx hb dc_R_cut_37 (by decide) (fun c => ?_) (fun c => ?_)
      · have h := h.1 c
        refine lv_iload hx hb dc_R_cut_66 (lv_at hl 4 rfl) ?_
        exact w_iret hx hb hr hlocks hP hS h dc_R_cut_68
      · have h := h.2 c
        refine lv_iload hx hb dc_R_cut_40 (lv_at hl 4 rfl) ?_
        refine lv_aload_n hx hb dc_R_cut_42 rfl (lv_at hl 0 rfl) ?_
        refine lv_iload_n hx hb dc_R_cut_43 rfl (lv_at hl 1 rfl) ?_
        refine lv_iload hx hb dc_R_cut_44 (lv_at hl 5 rfl) ?_
        refine w_cVi (y := yn_R_erase) (C := Rn_R) (index := 46) (n := 2) (own := Rn_R) 24 hx hb hml hown hts hK hN hP hS (ct_R_erase l D ad cA w hJ y1 y5 st _ h) mw_207 mw_217 mw_218 mw_219 mw_150 (by decide +kernel) ⟨Nat.le_of_ble_eq_true rfl, Nat.le_of_ble_eq_true rfl⟩ rfl rfl rfl rfl rfl hl.1 rfl (lv_room (Nat.le_of_ble_eq_true rfl)) dc_R_cut_46 ⟨Nat.zero_le _, Nat.zero_le _⟩ (fun r108 st107 H locs hP hS h => ?_)
        refine lv_if_lt (tgt := 56) hx hb dc_R_cut_49 (by decide) (fun c => ?_) (fun c => ?_)
        · have h := h.1 c
          refine lv_iconst (v := 0) hx hb dc_R_cut_56 (by decide) ?_
          refine lv_iadd hx hb dc_R_cut_57 ?_
          refine lv_topi (fun x109 ex109 => ?_)
          have h := h x109 ex109
          refine lv_istore (lv' := [(4, .int x109), (0, .ref (ad 24)), (1, .int y1), (2, .int y2), (3, .int y3), (5, .int y5)]) hx hb dc_R_cut_58 hl (by decide) rfl (fun ls hl => ?_)
          obtain ⟨x110, ex110⟩ : ∃ y : Int32, y = y5 + 1 := ⟨_, rfl⟩
          have h := h x110 ex110
          refine lv_iinc (v := x110) (lv' := [(5, .int x110), (4, .int x109), (0, .ref (ad 24)), (1, .int y1), (2, .int y2), (3, .int y3)]) hx hb dc_R_cut_60 hl (k := 5) rfl (by rw [ex110]; rfl) (by decide) rfl (fun ls hl => ?_)
          refine lv_goto (tgt := 34) hx hb dc_R_cut_63 (by decide) ?_
          exact ih y1 y2 y3 x109 x110 st107 h _ _ hP hS ls (lv_sub hl [2, 3, 4, 5, 1, 0] rfl)
        · have h := h.2 c
          refine lv_iconst (v := 1) hx hb dc_R_cut_52 (by decide) ?_
          refine lv_goto (tgt := 57) hx hb dc_R_cut_53 (by decide) ?_
          refine lv_iadd hx hb dc_R_cut_57 ?_
          refine lv_topi (fun x111 ex111 => ?_)
          have h := h x111 ex111
          refine lv_istore (lv' := [(4, .int x111), (0, .ref (ad 24)), (1, .int y1), (2, .int y2), (3, .int y3), (5, .int y5)]) hx hb dc_R_cut_58 hl (by decide) rfl (fun ls hl => ?_)
          obtain ⟨x112, ex112⟩ : ∃ y : Int32, y = y5 + 1 := ⟨_, rfl⟩
          have h := h x112 ex112
          refine lv_iinc (v := x112) (lv' := [(5, .int x112), (4, .int x111), (0, .ref (ad 24)), (1, .int y1), (2, .int y2), (3, .int y3)]) hx hb dc_R_cut_60 hl (k := 5) rfl (by rw [ex112]; rfl) (by decide) rfl (fun ls hl => ?_)
          refine lv_goto (tgt := 34) hx hb dc_R_cut_63 (by decide) ?_
          exact ih y1 y2 y3 x111 x112 st107 h _ _ hP hS ls (lv_sub hl [2, 3, 4, 5, 1, 0] rfl)
  have hl := lv_entry ([.ref (ad 24), .int x1, .int x2, .int x3]) (n := 6) (Nat.le_of_ble_eq_true rfl)
  rw [lg_entry_eq]
  generalize (lg_sl ([.ref (ad 24), .int x1, .int x2, .int x3]) ++ List.replicate (6 - (lg_sl ([.ref (ad 24), .int x1, .int x2, .int x3])).length) Slot.unset).toArray = ls at hl ⊢
  have hl : lv_has ls 6 [(0, .ref (ad 24)), (1, .int x1), (2, .int x2), (3, .int x3)] := hl
  refine lv_iload_n hx hb dc_R_cut_0 rfl (lv_at hl 1 rfl) ?_
  refine w_cSi (y := yn_R_isMap) (index := 24) (n := 1) (own := Rn_R) hx hb hml hown hts hK hN hP hS (ct_R_isMap l D ad cA w hJ x1 st _ h) mw_147 mw_148 mw_149 mw_150 (by decide +kernel) ⟨Nat.le_of_ble_eq_true rfl, Nat.le_of_ble_eq_true rfl⟩ rfl rfl rfl hl.1 rfl (lv_room (Nat.le_of_ble_eq_true rfl)) dc_R_cut_1 ⟨Nat.zero_le _, Nat.zero_le _⟩ (fun r102 st101 H locs hP hS h => ?_)
  refine lv_if_eq (tgt := 26) hx hb dc_R_cut_4 (by decide) (fun c => ?_) (fun c => ?_)
  · have h := h.1 c
    refine lv_iconst (v := (-1)) hx hb dc_R_cut_26 (by decide) ?_
    exact w_iret hx hb hr hlocks hP hS h dc_R_cut_27
  · have h := h.2 c
    refine lv_iload_n hx hb dc_R_cut_7 rfl (lv_at hl 2 rfl) ?_
    refine w_cSi (y := yn_R_isKey) (index := 28) (n := 1) (own := Rn_R) hx hb hml hown hts hK hN hP hS (ct_R_isKey l D ad cA w hJ x2 st101 _ h) mw_151 mw_152 mw_153 mw_150 (by decide +kernel) ⟨Nat.le_of_ble_eq_true rfl, Nat.le_of_ble_eq_true rfl⟩ rfl rfl rfl hl.1 rfl (lv_room (Nat.le_of_ble_eq_true rfl)) dc_R_cut_8 ⟨Nat.zero_le _, Nat.zero_le _⟩ (fun r104 st103 H locs hP hS h => ?_)
    refine lv_if_eq (tgt := 26) hx hb dc_R_cut_11 (by decide) (fun c => ?_) (fun c => ?_)
    · have h := h.1 c
      refine lv_iconst (v := (-1)) hx hb dc_R_cut_26 (by decide) ?_
      exact w_iret hx hb hr hlocks hP hS h dc_R_cut_27
    · have h := h.2 c
      refine lv_iload_n hx hb dc_R_cut_14 rfl (lv_at hl 3 rfl) ?_
      refine w_cSi (y := yn_R_isKey) (index := 28) (n := 1) (own := Rn_R) hx hb hml hown hts hK hN hP hS (ct_R_isKey l D ad cA w hJ x3 st103 _ h) mw_151 mw_152 mw_153 mw_150 (by decide +kernel) ⟨Nat.le_of_ble_eq_true rfl, Nat.le_of_ble_eq_true rfl⟩ rfl rfl rfl hl.1 rfl (lv_room (Nat.le_of_ble_eq_true rfl)) dc_R_cut_15 ⟨Nat.zero_le _, Nat.zero_le _⟩ (fun r106 st105 H locs hP hS h => ?_)
      refine lv_if_eq (tgt := 26) hx hb dc_R_cut_18 (by decide) (fun c => ?_) (fun c => ?_)
      · have h := h.1 c
        refine lv_iconst (v := (-1)) hx hb dc_R_cut_26 (by decide) ?_
        exact w_iret hx hb hr hlocks hP hS h dc_R_cut_27
      · have h := h.2 c
        refine lv_iload_n hx hb dc_R_cut_21 rfl (lv_at hl 3 rfl) ?_
        refine lv_iload_n hx hb dc_R_cut_22 rfl (lv_at hl 2 rfl) ?_
        refine lv_icmp_ge (tgt := 28) hx hb dc_R_cut_23 (by decide) (fun c => ?_) (fun c => ?_)
        · have h := h.1 c
          refine lv_iconst (v := 0) hx hb dc_R_cut_28 (by decide) ?_
          refine lv_istore (lv' := [(4, .int 0), (0, .ref (ad 24)), (1, .int x1), (2, .int x2), (3, .int x3)]) hx hb dc_R_cut_29 hl (by decide) rfl (fun ls hl => ?_)
          refine lv_iload_n hx hb dc_R_cut_31 rfl (lv_at hl 3 rfl) ?_
          refine lv_istore (lv' := [(5, .int x2), (4, .int 0), (0, .ref (ad 24)), (1, .int x1), (2, .int x2), (3, .int x3)]) hx hb dc_R_cut_32 hl (by decide) rfl (fun ls hl => ?_)
          obtain ⟨n, h⟩ := h
          exact Lp_34 n x1 x2 x3 0 x2 st105 h _ _ hP hS ls (lv_sub hl [2, 3, 4, 5, 1, 0] rfl)
        · have h := h.2 c
          refine lv_iconst (v := (-1)) hx hb dc_R_cut_26 (by decide) ?_
          exact w_iret hx hb hr hlocks hP hS h dc_R_cut_27
