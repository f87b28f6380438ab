set_option maxHeartbeats 4000000 in
set_option maxRecDepth 100000 in
theorem ct_T_grown (l : Launch) (D : va_G) (ad : Nat → Nat) (cA : Nat → ClassId) (w : Nat) (hJ : Jn_ ad) (x1 : Int32) (st : St_) (post : Int32 → St_ → Prop) (h : wp_T_grown w x1 st post) : Met l yn_T_grown (Cond.code yn_T_grown bc_T_grown 3 (some .int) :: Wk_) rm_T_grown (Pw_ D ad cA w st [.ref (ad 20), .int x1]) (Qi_ D ad cA w post) 0 0 (Aw_ ad) := by
  refine Met.ofW (cc := bc_T_grown) (maxL := 3) (ret := (some .int)) (by decide) rfl ?_
  intro p e s m args below meth c s₁ B hml hv
  obtain ⟨rfl, hP, hK, hN⟩ := hv
  have hx := B.exec
  have hb := B.bytes
  have hr := B.returns
  have hts : ∀ v ∈ Wk_, v.before [.ref (ad 20), .int x1].toArray s = true := fun v hv => atoms_spec (ws := Cond.code yn_T_grown bc_T_grown 3 (some .int) :: Wk_) B.pre v (List.mem_cons_of_mem _ hv)
  have hown : s.vm.findClass Rn_T = some m.cls := findClass_of_methodNamed B.named
  have hlocks := B.notSynchronized
  have hS : va_S (Aw_ ad) s.heap s.heap [] := va_S.rf
  have hl := lv_entry ([.ref (ad 20), .int x1]) (n := 3) (Nat.le_of_ble_eq_true rfl)
  rw [lg_entry_eq]
  generalize (lg_sl ([.ref (ad 20), .int x1]) ++ List.replicate (3 - (lg_sl ([.ref (ad 20), .int x1])).length) Slot.unset).toArray = ls at hl ⊢
  have hl : lv_has ls 3 [(0, .ref (ad 20)), (1, .int x1)] := hl
  refine lv_aload_n hx hb dc_T_grown_0 rfl (lv_at hl 0 rfl) ?_
  refine va_get (D := D) (ci := 2) (v := .ref (ad 19)) (C := Rn_T) (T := Fn_T) (N := 3) hx hb hts in_T hown hK hP 20 rfl rfl 0 (by decide) (hts _ mw_13) (fun _ h9 => h9) rfl dc_T_grown_1 ?_
  refine lv_aload_n hx hb dc_T_grown_4 rfl (lv_at hl 0 rfl) ?_
  refine va_get (D := D) (ci := 2) (v := .ref (ad 19)) (C := Rn_T) (T := Fn_T) (N := 3) hx hb hts in_T hown hK hP 20 rfl rfl 0 (by decide) (hts _ mw_13) (fun _ h9 => h9) rfl dc_T_grown_5 ?_
  refine lv_iload_n hx hb dc_T_grown_8 rfl (lv_at hl 1 rfl) ?_
  refine w_cVi (y := yn_B_level) (C := Rn_B) (index := 26) (n := 1) (own := Rn_T) 19 hx hb hml hown hts hK hN hP hS (ct_B_level l D ad cA w hJ x1 st _ h) mw_20 mw_21 mw_22 mw_23 mw_18 (by decide +kernel) ⟨Nat.le_of_ble_eq_true rfl, Nat.le_of_ble_eq_true rfl⟩ rfl rfl rfl rfl rfl hl.1 rfl (lv_room (Nat.le_of_ble_eq_true rfl)) dc_T_grown_9 ⟨Nat.zero_le _, Nat.zero_le _⟩ (fun r102 st101 H locs hP hS h => ?_)
  refine lv_iconst (v := 1) hx hb dc_T_grown_12 (by decide) ?_
  refine lv_iadd hx hb dc_T_grown_13 ?_
  refine w_cVi (y := yn_B_take) (C := Rn_B) (index := 56) (n := 1) (own := Rn_T) 19 hx hb hml hown hts hK hN hP hS (ct_B_take l D ad cA w hJ (r102 + 1) st101 _ h) mw_72 mw_115 mw_74 mw_75 mw_18 (by decide +kernel) ⟨Nat.le_of_ble_eq_true rfl, Nat.le_of_ble_eq_true rfl⟩ rfl rfl rfl rfl rfl hl.1 rfl (lv_room (Nat.le_of_ble_eq_true rfl)) dc_T_grown_14 ⟨Nat.zero_le _, Nat.zero_le _⟩ (fun r104 st103 H locs hP hS h => ?_)
  refine lv_istore_n (lv' := [(2, .int r104), (0, .ref (ad 20)), (1, .int x1)]) hx hb dc_T_grown_17 rfl hl (by decide) rfl (fun ls hl => ?_)
  refine lv_aload_n hx hb dc_T_grown_18 rfl (lv_at hl 1 rfl) ?_
  refine va_get (D := D) (ci := 2) (v := .ref (ad 19)) (C := Rn_T) (T := Fn_T) (N := 3) hx hb hts in_T hown hK hP 20 rfl rfl 0 (by decide) (hts _ mw_13) (fun _ h9 => h9) rfl dc_T_grown_19 ?_
  refine lv_iload_n hx hb dc_T_grown_22 rfl (lv_at hl 0 rfl) ?_
  refine lv_iconst (v := 0) hx hb dc_T_grown_23 (by decide) ?_
  refine lv_aload_n hx hb dc_T_grown_24 rfl (lv_at hl 1 rfl) ?_
  refine va_get (D := D) (ci := 2) (v := .ref (ad 19)) (C := Rn_T) (T := Fn_T) (N := 3) hx hb hts in_T hown hK hP 20 rfl rfl 0 (by decide) (hts _ mw_13) (fun _ h9 => h9) rfl dc_T_grown_25 ?_
  refine lv_iload_n hx hb dc_T_grown_28 rfl (lv_at hl 2 rfl) ?_
  refine lv_iconst (v := 0) hx hb dc_T_grown_29 (by decide) ?_
  refine w_cVi (y := yn_B_key) (C := Rn_B) (index := 41) (n := 2) (own := Rn_T) 19 hx hb hml hown hts hK hN hP hS (ct_B_key l D ad cA w hJ x1 0 st103 _ h) mw_43 mw_44 mw_45 mw_46 mw_18 (by decide +kernel) ⟨Nat.le_of_ble_eq_true rfl, Nat.le_of_ble_eq_true rfl⟩ rfl rfl rfl rfl rfl hl.1 rfl (lv_room (Nat.le_of_ble_eq_true rfl)) dc_T_grown_30 ⟨Nat.zero_le _, Nat.zero_le _⟩ (fun r106 st105 H locs hP hS h => ?_)
  refine lv_iload_n hx hb dc_T_grown_33 rfl (lv_at hl 2 rfl) ?_
  refine w_cVv (y := yn_B_insert) (C := Rn_B) (index := 86) (n := 4) (own := Rn_T) 19 hx hb hml hown hts hK hN hP hS (ct_B_insert l D ad cA w hJ r104 0 r106 x1 st105 _ h) mw_118 mw_126 mw_120 mw_121 mw_18 (by decide +kernel) ⟨Nat.le_of_ble_eq_true rfl, Nat.le_of_ble_eq_true rfl⟩ rfl rfl rfl rfl rfl hl.1 rfl (lv_room (Nat.le_of_ble_eq_true rfl)) dc_T_grown_34 ⟨Nat.zero_le _, Nat.zero_le _⟩ (fun st107 H locs hP hS h => ?_)
  refine lv_aload_n hx hb dc_T_grown_37 rfl (lv_at hl 1 rfl) ?_
  refine lv_iload_n hx hb dc_T_grown_38 rfl (lv_at hl 0 rfl) ?_
  refine lv_iconst (v := 0) hx hb dc_T_grown_39 (by decide) ?_
  refine w_cVv (y := yn_T_split) (C := Rn_T) (index := 79) (n := 2) (own := Rn_T) 20 hx hb hml hown hts hK hN hP hS (ct_T_split l D ad cA w hJ r104 0 st107 _ h) mw_127 mw_128 mw_129 mw_130 mw_59 (by decide +kernel) ⟨Nat.le_of_ble_eq_true rfl, Nat.le_of_ble_eq_true rfl⟩ rfl rfl rfl rfl rfl hl.1 rfl (lv_room (Nat.le_of_ble_eq_true rfl)) dc_T_grown_40 ⟨Nat.zero_le _, Nat.zero_le _⟩ (fun st108 H locs hP hS h => ?_)
  refine lv_iload_n hx hb dc_T_grown_43 rfl (lv_at hl 0 rfl) ?_
  exact w_iret hx hb hr hlocks hP hS h dc_T_grown_44
set_option maxHeartbeats 4000000 in
set_option maxRecDepth 100000 in
theorem ct_T_with (l : Launch) (D : va_G) (ad : Nat → Nat) (cA : Nat → ClassId) (w : Nat) (hJ : Jn_ ad) (x1 : Int32) (x2 : Int32) (x3 : Int32) (st : St_) (post : Int32 → St_ → Prop) (h : wp_T_with w x1 x2 x3 st post) : Met l yn_T_with (Cond.code yn_T_with bc_T_with 5 (some .int) :: Wk_) rm_T_with (Pw_ D ad cA w st [.ref (ad 20), .int x1, .int x2, .int x3]) (Qi_ D ad cA w post) 0 0 (Aw_ ad) := by
  refine Met.ofW (cc := bc_T_with) (maxL := 5) (ret := (some .int)) (by decide) rfl ?_
  intro p e s m args below meth c s₁ B hml hv
  obtain ⟨rfl, hP, hK, hN⟩ := hv
  have hx := B.exec
  have hb := B.bytes
  have hr := B.returns
  have hts : ∀ v ∈ Wk_, v.before [.ref (ad 20), .int x1, .int x2, .int x3].toArray s = true := fun v hv => atoms_spec (ws := Cond.code yn_T_with bc_T_with 5 (some .int) :: Wk_) B.pre v (List.mem_cons_of_mem _ hv)
  have hown : s.vm.findClass Rn_T = some m.cls := findClass_of_methodNamed B.named
  have hlocks := B.notSynchronized
  have hS : va_S (Aw_ ad) s.heap s.heap [] := va_S.rf
  have hl := lv_entry ([.ref (ad 20), .int x1, .int x2, .int x3]) (n := 5) (Nat.le_of_ble_eq_true rfl)
  rw [lg_entry_eq]
  generalize (lg_sl ([.ref (ad 20), .int x1, .int x2, .int x3]) ++ List.replicate (5 - (lg_sl ([.ref (ad 20), .int x1, .int x2, .int x3])).length) Slot.unset).toArray = ls at hl ⊢
  have hl : lv_has ls 5 [(0, .ref (ad 20)), (1, .int x1), (2, .int x2), (3, .int x3)] := hl
  refine lv_iload_n hx hb dc_T_with_0 rfl (lv_at hl 1 rfl) ?_
  refine lv_if_ne (tgt := 15) hx hb dc_T_with_1 (by decide) (fun c => ?_) (fun c => ?_)
  · have h := h.1 c
    refine lv_aload_n hx hb dc_T_with_15 rfl (lv_at hl 0 rfl) ?_
    refine va_get (D := D) (ci := 2) (v := .ref (ad 19)) (C := Rn_T) (T := Fn_T) (N := 3) hx hb hts in_T hown hK hP 20 rfl rfl 0 (by decide) (hts _ mw_13) (fun _ h9 => h9) rfl dc_T_with_16 ?_
    refine lv_iload_n hx hb dc_T_with_19 rfl (lv_at hl 1 rfl) ?_
    refine w_cVi (y := yn_B_owned) (C := Rn_B) (index := 59) (n := 1) (own := Rn_T) 19 hx hb hml hown hts hK hN hP hS (ct_B_owned l D ad cA w hJ x1 st _ h) mw_93 mw_94 mw_95 mw_96 mw_18 (by decide +kernel) ⟨Nat.le_of_ble_eq_true rfl, Nat.le_of_ble_eq_true rfl⟩ rfl rfl rfl rfl rfl hl.1 rfl (lv_room (Nat.le_of_ble_eq_true rfl)) dc_T_with_20 ⟨Nat.zero_le _, Nat.zero_le _⟩ (fun r102 st101 H locs hP hS h => ?_)
    refine lv_istore (lv' := [(4, .int r102), (0, .ref (ad 20)), (1, .int x1), (2, .int x2), (3, .int x3)]) hx hb dc_T_with_23 hl (by decide) rfl (fun ls hl => ?_)
    refine lv_aload_n hx hb dc_T_with_25 rfl (lv_at hl 1 rfl) ?_
    refine lv_iload hx hb dc_T_with_26 (lv_at hl 0 rfl) ?_
    refine lv_aload_n hx hb dc_T_with_28 rfl (lv_at hl 1 rfl) ?_
    refine va_get (D := D) (ci := 2) (v := .ref (ad 19)) (C := Rn_T) (T := Fn_T) (N := 3) hx hb hts in_T hown hK hP 20 rfl rfl 0 (by decide) (hts _ mw_13) (fun _ h9 => h9) rfl dc_T_with_29 ?_
    refine lv_iload hx hb dc_T_with_32 (lv_at hl 0 rfl) ?_
    refine w_cVi (y := yn_B_level) (C := Rn_B) (index := 26) (n := 1) (own := Rn_T) 19 hx hb hml hown hts hK hN hP hS (ct_B_level l D ad cA w hJ r102 st101 _ h) mw_20 mw_21 mw_22 mw_23 mw_18 (by decide +kernel) ⟨Nat.le_of_ble_eq_true rfl, Nat.le_of_ble_eq_true rfl⟩ rfl rfl rfl rfl rfl hl.1 rfl (lv_room (Nat.le_of_ble_eq_true rfl)) dc_T_with_34 ⟨Nat.zero_le _, Nat.zero_le _⟩ (fun r104 st103 H locs hP hS h => ?_)
    refine lv_iload_n hx hb dc_T_with_37 rfl (lv_at hl 3 rfl) ?_
    refine lv_iload_n hx hb dc_T_with_38 rfl (lv_at hl 4 rfl) ?_
    refine w_cVv (y := yn_T_putBelow) (C := Rn_T) (index := 62) (n := 4) (own := Rn_T) 20 hx hb hml hown hts hK hN hP hS (ct_T_putBelow l D ad cA w hJ 20 r102 r104 x2 x3 st103 _ h) mw_105 mw_106 mw_107 mw_108 mw_59 (by decide +kernel) ⟨Nat.le_of_ble_eq_true rfl, Nat.le_of_ble_eq_true rfl⟩ rfl rfl rfl rfl rfl hl.1 rfl (lv_room (Nat.le_of_ble_eq_true rfl)) dc_T_with_39 ⟨Nat.zero_le _, Nat.zero_le _⟩ (fun st105 H locs hP hS h => ?_)
    refine lv_aload_n hx hb dc_T_with_42 rfl (lv_at hl 1 rfl) ?_
    refine va_get (D := D) (ci := 2) (v := .ref (ad 19)) (C := Rn_T) (T := Fn_T) (N := 3) hx hb hts in_T hown hK hP 20 rfl rfl 0 (by decide) (hts _ mw_13) (fun _ h9 => h9) rfl dc_T_with_43 ?_
    refine lv_iload hx hb dc_T_with_46 (lv_at hl 0 rfl) ?_
    refine w_cVi (y := yn_B_size) (C := Rn_B) (index := 48) (n := 1) (own := Rn_T) 19 hx hb hml hown hts hK hN hP hS (ct_B_size l D ad cA w hJ r102 st105 _ h) mw_26 mw_113 mw_28 mw_29 mw_18 (by decide +kernel) ⟨Nat.le_of_ble_eq_true rfl, Nat.le_of_ble_eq_true rfl⟩ rfl rfl rfl rfl rfl hl.1 rfl (lv_room (Nat.le_of_ble_eq_true rfl)) dc_T_with_48 ⟨Nat.zero_le _, Nat.zero_le _⟩ (fun r107 st106 H locs hP hS h => ?_)
    refine lv_aload_n hx hb dc_T_with_51 rfl (lv_at hl 1 rfl) ?_
    refine va_get (D := D) (ci := 2) (v := .int (nI (w - 1))) (C := Rn_T) (T := Fn_T) (N := 3) hx hb hts in_T hown hK hP 20 rfl rfl 1 (by decide) (hts _ mw_114) (fun _ h9 => h9) rfl dc_T_with_52 ?_
    refine lv_icmp_le (tgt := 67) hx hb dc_T_with_55 (by decide) (fun c => ?_) (fun c => ?_)
    · have h := h.1 c
      refine lv_iload hx hb dc_T_with_67 (lv_at hl 0 rfl) ?_
      exact w_iret hx hb hr hlocks hP hS h dc_T_with_69
    · have h := h.2 c
      refine lv_aload_n hx hb dc_T_with_58 rfl (lv_at hl 1 rfl) ?_
      refine lv_iload hx hb dc_T_with_59 (lv_at hl 0 rfl) ?_
      refine w_cVi (y := yn_T_grown) (C := Rn_T) (index := 66) (n := 1) (own := Rn_T) 20 hx hb hml hown hts hK hN hP hS (ct_T_grown l D ad cA w hJ r102 st106 _ h) mw_135 mw_136 mw_137 mw_138 mw_59 (by decide +kernel) ⟨Nat.le_of_ble_eq_true rfl, Nat.le_of_ble_eq_true rfl⟩ rfl rfl rfl rfl rfl hl.1 rfl (lv_room (Nat.le_of_ble_eq_true rfl)) dc_T_with_61 ⟨Nat.zero_le _, Nat.zero_le _⟩ (fun r109 st108 H locs hP hS h => ?_)
      refine lv_goto (tgt := 69) hx hb dc_T_with_64 (by decide) ?_
      exact w_iret hx hb hr hlocks hP hS h dc_T_with_69
  · have h := h.2 c
    refine lv_aload_n hx hb dc_T_with_4 rfl (lv_at hl 0 rfl) ?_
    refine va_get (D := D) (ci := 2) (v := .ref (ad 19)) (C := Rn_T) (T := Fn_T) (N := 3) hx hb hts in_T hown hK hP 20 rfl rfl 0 (by decide) (hts _ mw_13) (fun _ h9 => h9) rfl dc_T_with_5 ?_
    refine lv_iconst (v := 0) hx hb dc_T_with_8 (by decide) ?_
    refine w_cVi (y := yn_B_take) (C := Rn_B) (index := 56) (n := 1) (own := Rn_T) 19 hx hb hml hown hts hK hN hP hS (ct_B_take l D ad cA w hJ 0 st _ h) mw_72 mw_115 mw_74 mw_75 mw_18 (by decide +kernel) ⟨Nat.le_of_ble_eq_true rfl, Nat.le_of_ble_eq_true rfl⟩ rfl rfl rfl rfl rfl hl.1 rfl (lv_room (Nat.le_of_ble_eq_true rfl)) dc_T_with_9 ⟨Nat.zero_le _, Nat.zero_le _⟩ (fun r111 st110 H locs hP hS h => ?_)
    refine lv_goto (tgt := 23) hx hb dc_T_with_12 (by decide) ?_
    refine lv_istore (lv' := [(4, .int r111), (0, .ref (ad 20)), (1, .int x1), (2, .int x2), (3, .int x3)]) hx hb dc_T_with_23 hl (by decide) rfl (fun ls hl => ?_)
    refine lv_aload_n hx hb dc_T_with_25 rfl (lv_at hl 1 rfl) ?_
    refine lv_iload hx hb dc_T_with_26 (lv_at hl 0 rfl) ?_
    refine lv_aload_n hx hb dc_T_with_28 rfl (lv_at hl 1 rfl) ?_
    refine va_get (D := D) (ci := 2) (v := .ref (ad 19)) (C := Rn_T) (T := Fn_T) (N := 3) hx hb hts in_T hown hK hP 20 rfl rfl 0 (by decide) (hts _ mw_13) (fun _ h9 => h9) rfl dc_T_with_29 ?_
    refine lv_iload hx hb dc_T_with_32 (lv_at hl 0 rfl) ?_
    refine w_cVi (y := yn_B_level) (C := Rn_B) (index := 26) (n := 1) (own := Rn_T) 19 hx hb hml hown hts hK hN hP hS (ct_B_level l D ad cA w hJ r111 st110 _ h) mw_20 mw_21 mw_22 mw_23 mw_18 (by decide +kernel) ⟨Nat.le_of_ble_eq_true rfl, Nat.le_of_ble_eq_true rfl⟩ rfl rfl rfl rfl rfl hl.1 rfl (lv_room (Nat.le_of_ble_eq_true rfl)) dc_T_with_34 ⟨Nat.zero_le _, Nat.zero_le _⟩ (fun r113 st112 H locs hP hS h => ?_)
    refine lv_iload_n hx hb dc_T_with_37 rfl (lv_at hl 3 rfl) ?_
    refine lv_iload_n hx hb dc_T_with_38 rfl (lv_at hl 4 rfl) ?_
    refine w_cVv (y := yn_T_putBelow) (C := Rn_T) (index := 62) (n := 4) (own := Rn_T) 20 hx hb hml hown hts hK hN hP hS (ct_T_putBelow l D ad cA w hJ 20 r111 r113 x2 x3 st112 _ h) mw_105 mw_106 mw_107 mw_108 mw_59 (by decide +kernel) ⟨Nat.le_of_ble_eq_true rfl, Nat.le_of_ble_eq_true rfl⟩ rfl rfl rfl rfl rfl hl.1 rfl (lv_room (Nat.le_of_ble_eq_true rfl)) dc_T_with_39 ⟨Nat.zero_le _, Nat.zero_le _⟩ (fun st114 H locs hP hS h => ?_)
    refine lv_aload_n hx hb dc_T_with_42 rfl (lv_at hl 1 rfl) ?_
    refine va_get (D := D) (ci := 2) (v := .ref (ad 19)) (C := Rn_T) (T := Fn_T) (N := 3) hx hb hts in_T hown hK hP 20 rfl rfl 0 (by decide) (hts _ mw_13) (fun _ h9 => h9) rfl dc_T_with_43 ?_
    refine lv_iload hx hb dc_T_with_46 (lv_at hl 0 rfl) ?_
    refine w_cVi (y := yn_B_size) (C := Rn_B) (index := 48) (n := 1) (own := Rn_T) 19 hx hb hml hown hts hK hN hP hS (ct_B_size l D ad cA w hJ r111 st114 _ h) mw_26 mw_113 mw_28 mw_29 mw_18 (by decide +kernel) ⟨Nat.le_of_ble_eq_true rfl, Nat.le_of_ble_eq_true rfl⟩ rfl rfl rfl rfl rfl hl.1 rfl (lv_room (Nat.le_of_ble_eq_true rfl)) dc_T_with_48 ⟨Nat.zero_le _, Nat.zero_le _⟩ (fun r116 st115 H locs hP hS h => ?_)
    refine lv_aload_n hx hb dc_T_with_51 rfl (lv_at hl 1 rfl) ?_
    refine va_get (D := D) (ci := 2) (v := .int (nI (w - 1))) (C := Rn_T) (T := Fn_T) (N := 3) hx hb hts in_T hown hK hP 20 rfl rfl 1 (by decide) (hts _ mw_114) (fun _ h9 => h9) rfl dc_T_with_52 ?_
    refine lv_icmp_le (tgt := 67) hx hb dc_T_with_55 (by decide) (fun c => ?_) (fun c => ?_)
    · have h := h.1 c
      refine lv_iload hx hb dc_T_with_67 (lv_at hl 0 rfl) ?_
      exact w_iret hx hb hr hlocks hP hS h dc_T_with_69
    · have h := h.2 c
      refine lv_aload_n hx hb dc_T_with_58 rfl (lv_at hl 1 rfl) ?_
      refine lv_iload hx hb dc_T_with_59 (lv_at hl 0 rfl) ?_
      refine w_cVi (y := yn_T_grown) (C := Rn_T) (index := 66) (n := 1) (own := Rn_T) 20 hx hb hml hown hts hK hN hP hS (ct_T_grown l D ad cA w hJ r111 st115 _ h) mw_135 mw_136 mw_137 mw_138 mw_59 (by decide +kernel) ⟨Nat.le_of_ble_eq_true rfl, Nat.le_of_ble_eq_true rfl⟩ rfl rfl rfl rfl rfl hl.1 rfl (lv_room (Nat.le_of_ble_eq_true rfl)) dc_T_with_61 ⟨Nat.zero_le _, Nat.zero_le _⟩ (fun r118 st117 H locs hP hS h => ?_)
      refine lv_goto (tgt := 69) hx hb dc_T_with_64 (by decide) ?_
      exact w_iret hx hb hr hlocks hP hS h dc_T_with_69
set_option maxHeartbeats 4000000 in
set_option maxRecDepth 100000 in
theorem ct_S_changeCount_22 (l : Launch) (D : va_G) (ad : Nat → Nat) (cA : Nat → ClassId) (w : Nat) (hJ : Jn_ ad) (x1 : Int32) (x2 : Int32) (st : St_) (post : St_ → Prop) (h : wp_S_changeCount_22 w x1 x2 st post) : Met l yn_S_changeCount (Cond.code yn_S_changeCount bc_S_changeCount 3 none :: Wk_) rm_S_changeCount_22 (Pw_ D ad cA w st [.ref (ad 22), .int x1, .int x2]) (Qv_ D ad cA w post) 0 0 (Aw_ ad) := by
  refine Met.ofW (cc := bc_S_changeCount) (maxL := 3) (ret := none) (by decide) rfl ?_
  intro p e s m args below meth c s₁ B hml hv
  obtain ⟨rfl, hP, hK, hN⟩ := hv
  have hx := B.exec
  have hb := B.bytes
  have hr := B.returns
  have hts : ∀ v ∈ Wk_, v.before [.ref (ad 22), .int x1, .int x2].toArray s = true := fun v hv => atoms_spec (ws := Cond.code yn_S_changeCount bc_S_changeCount 3 none :: Wk_) B.pre v (List.mem_cons_of_mem _ hv)
  have hown : s.vm.findClass Rn_S = some m.cls := findClass_of_methodNamed B.named
  have hlocks := B.notSynchronized
  have hS : va_S (Aw_ ad) s.heap s.heap [] := va_S.rf
  have hl := lv_entry ([.ref (ad 22), .int x1, .int x2]) (n := 3) (Nat.le_of_ble_eq_true rfl)
  rw [lg_entry_eq]
  generalize (lg_sl ([.ref (ad 22), .int x1, .int x2]) ++ List.replicate (3 - (lg_sl ([.ref (ad 22), .int x1, .int x2])).length) Slot.unset).toArray = ls at hl ⊢
  have hl : lv_has ls 3 [(0, .ref (ad 22)), (1, .int x1), (2, .int x2)] := hl
  refine lv_aload_n hx hb dc_S_changeCount_0 rfl (lv_at hl 0 rfl) ?_
  refine va_getN (D := D) (ci := 4) (v := .ref (ad 11)) (C := Rn_P) (T := Fn_P) (N := 3) (host := nh_) hx hb hts in_P hown hK hP 22 rfl rfl 1 (by decide) (va_Nw.use rfl (hN.1 _ nf_1)) (fun _ h9 => h9) rfl dc_S_changeCount_1 ?_
  refine lv_iload_n hx hb dc_S_changeCount_4 rfl (lv_at hl 1 rfl) ?_
  refine lv_dup2_11 hx hb dc_S_changeCount_5 rfl rfl ?_
  refine w_ild 11 (by decide) hx hb hK hP h.1 dc_S_changeCount_6 ?_
  have h := h.2
  refine lv_iload_n hx hb dc_S_changeCount_7 rfl (lv_at hl 2 rfl) ?_
  refine lv_iadd hx hb dc_S_changeCount_8 ?_
  refine w_ist 11 (by decide) hJ hx hb hK hP hS h.1 dc_S_changeCount_9 (fun H locs hP hS => ?_)
  obtain ⟨st101, est101⟩ : ∃ z : St_, z = ws_1 st 11 (x1).toNatClampNeg ((st 11 (x1).toNatClampNeg) + x2) := ⟨_, rfl⟩
  rw [← est101] at hP
  have h := h.2 st101 est101
  refine lv_aload_n hx hb dc_S_changeCount_10 rfl (lv_at hl 0 rfl) ?_
  refine lv_dup hx hb dc_S_changeCount_11 rfl ?_
  refine va_getN (D := D) (ci := 4) (v := .int (st101 19 0)) (C := Rn_P) (T := Fn_P) (N := 3) (host := nh_) hx hb hts in_P hown hK hP 22 rfl rfl 2 (by decide) (va_Nw.use rfl (hN.1 _ nf_2)) (fun _ h9 => h9) rfl dc_S_changeCount_12 ?_
  refine lv_iload_n hx hb dc_S_changeCount_15 rfl (lv_at hl 2 rfl) ?_
  refine lv_iadd hx hb dc_S_changeCount_16 ?_
  refine va_putN (D := D) (ci := 4) (v := .int ((st101 19 0) + x2)) (ty := .int) (C := Rn_P) (T := Fn_P) (N := 3) (host := nh_) hx hb hts in_P Tn_P to_P nn_P hown hK hP (wd_D hJ) hS 22 rfl rfl 2 (by decide) (va_Nw.use rfl (hN.1 _ nf_2)) (fun _ h9 => h9) rfl (by decide +kernel) rfl rfl (Nat.le_of_ble_eq_true rfl) dc_S_changeCount_17 (fun H locs hP _ hS => ?_)
  obtain ⟨st102, est102⟩ : ∃ z : St_, z = ws_1 st101 19 0 ((st101 19 0) + x2) := ⟨_, rfl⟩
  have hP : va_P D sC_ (wd_ ad cA w st102) H := by rw [est102]; exact hP
  have h := h st102 est102
  exact w_vret hx hb hr hlocks hP hS h dc_S_changeCount_20
set_option maxHeartbeats 4000000 in
set_option maxRecDepth 100000 in
theorem ct_S_write (l : Launch) (D : va_G) (ad : Nat → Nat) (cA : Nat → ClassId) (w : Nat) (hJ : Jn_ ad) (x1 : Int32) (x2 : Int32) (x3 : Int32) (st : St_) (post : Int32 → St_ → Prop) (h : wp_S_write w x1 x2 x3 st post) : Met l yn_S_write (Cond.code yn_S_write bc_S_write 5 (some .int) :: Wk_) rm_S_write (Pw_ D ad cA w st [.ref (ad 18), .int x1, .int x2, .int x3]) (Qi_ D ad cA w post) 0 0 (Aw_ ad) := by
  refine Met.ofW (cc := bc_S_write) (maxL := 5) (ret := (some .int)) (by decide) rfl ?_
  intro p e s m args below meth c s₁ B hml hv
  obtain ⟨rfl, hP, hK, hN⟩ := hv
  have hx := B.exec
  have hb := B.bytes
  have hr := B.returns
  have hts : ∀ v ∈ Wk_, v.before [.ref (ad 18), .int x1, .int x2, .int x3].toArray s = true := fun v hv => atoms_spec (ws := Cond.code yn_S_write bc_S_write 5 (some .int) :: Wk_) B.pre v (List.mem_cons_of_mem _ hv)
  have hown : s.vm.findClass Rn_S = some m.cls := findClass_of_methodNamed B.named
  have hlocks := B.notSynchronized
  have hS : va_S (Aw_ ad) s.heap s.heap [] := va_S.rf
  have hl := lv_entry ([.ref (ad 18), .int x1, .int x2, .int x3]) (n := 5) (Nat.le_of_ble_eq_true rfl)
  rw [lg_entry_eq]
  generalize (lg_sl ([.ref (ad 18), .int x1, .int x2, .int x3]) ++ List.replicate (5 - (lg_sl ([.ref (ad 18), .int x1, .int x2, .int x3])).length) Slot.unset).toArray = ls at hl ⊢
  have hl : lv_has ls 5 [(0, .ref (ad 18)), (1, .int x1), (2, .int x2), (3, .int x3)] := hl
  refine lv_iload_n hx hb dc_S_write_0 rfl (lv_at hl 1 rfl) ?_
  refine w_cSi (y := yn_S_isMap) (index := 53) (n := 1) (own := Rn_S) hx hb hml hown hts hK hN hP hS (ct_S_isMap l D ad cA w hJ x1 st _ h) mw_0 mw_1 mw_2 mw_3 (by decide +kernel) ⟨Nat.le_of_ble_eq_true rfl, Nat.le_of_ble_eq_true rfl⟩ rfl rfl rfl hl.1 rfl (lv_room (Nat.le_of_ble_eq_true rfl)) dc_S_write_1 ⟨Nat.zero_le _, Nat.zero_le _⟩ (fun r102 st101 H locs hP hS h => ?_)
  refine lv_if_eq (tgt := 21) hx hb dc_S_write_4 (by decide) (fun c => ?_) (fun c => ?_)
  · have h := h.1 c
    refine lv_iconst (v := (-1)) hx hb dc_S_write_21 (by decide) ?_
    exact w_iret hx hb hr hlocks hP hS h dc_S_write_22
  · have h := h.2 c
    refine lv_iload_n hx hb dc_S_write_7 rfl (lv_at hl 2 rfl) ?_
    refine w_cSi (y := yn_S_isKey) (index := 57) (n := 1) (own := Rn_S) hx hb hml hown hts hK hN hP hS (ct_S_isKey l D ad cA w hJ x2 st101 _ h) mw_4 mw_5 mw_6 mw_3 (by decide +kernel) ⟨Nat.le_of_ble_eq_true rfl, Nat.le_of_ble_eq_true rfl⟩ rfl rfl rfl hl.1 rfl (lv_room (Nat.le_of_ble_eq_true rfl)) dc_S_write_8 ⟨Nat.zero_le _, Nat.zero_le _⟩ (fun r104 st103 H locs hP hS h => ?_)
    refine lv_if_eq (tgt := 21) hx hb dc_S_write_11 (by decide) (fun c => ?_) (fun c => ?_)
    · have h := h.1 c
      refine lv_iconst (v := (-1)) hx hb dc_S_write_21 (by decide) ?_
      exact w_iret hx hb hr hlocks hP hS h dc_S_write_22
    · have h := h.2 c
      refine lv_iload_n hx hb dc_S_write_14 rfl (lv_at hl 3 rfl) ?_
      refine w_cSi (y := yn_S_isStamp) (index := 60) (n := 1) (own := Rn_S) hx hb hml hown hts hK hN hP hS (ct_S_isStamp l D ad cA w hJ x3 st103 _ h) mw_8 mw_9 mw_10 mw_3 (by decide +kernel) ⟨Nat.le_of_ble_eq_true rfl, Nat.le_of_ble_eq_true rfl⟩ rfl rfl rfl hl.1 rfl (lv_room (Nat.le_of_ble_eq_true rfl)) dc_S_write_15 ⟨Nat.zero_le _, Nat.zero_le _⟩ (fun r106 st105 H locs hP hS h => ?_)
      refine lv_if_ne (tgt := 23) hx hb dc_S_write_18 (by decide) (fun c => ?_) (fun c => ?_)
      · have h := h.1 c
        refine lv_aload_n hx hb dc_S_write_23 rfl (lv_at hl 0 rfl) ?_
        refine va_get (D := D) (ci := 0) (v := .ref (ad 20)) (C := Rn_S) (T := Fn_S) (N := 5) hx hb hts in_S hown hK hP 18 rfl rfl 1 (by decide) (hts _ mw_11) (fun _ h9 => h9) rfl dc_S_write_24 ?_
        refine lv_aload_n hx hb dc_S_write_27 rfl (lv_at hl 0 rfl) ?_
        refine va_get (D := D) (ci := 0) (v := .ref (ad 22)) (C := Rn_S) (T := Fn_S) (N := 5) hx hb hts in_S hown hK hP 18 rfl rfl 3 (by decide) (hts _ mw_12) (fun _ h9 => h9) rfl dc_S_write_28 ?_
        refine va_getN (D := D) (ci := 4) (v := .ref (ad 10)) (C := Rn_P) (T := Fn_P) (N := 3) (host := nh_) hx hb hts in_P hown hK hP 22 rfl rfl 0 (by decide) (va_Nw.use rfl (hN.1 _ nf_0)) (fun _ h9 => h9) rfl dc_S_write_31 ?_
        refine lv_iload_n hx hb dc_S_write_34 rfl (lv_at hl 1 rfl) ?_
        refine w_ild 10 (by decide) hx hb hK hP h.1 dc_S_write_35 ?_
        have h := h.2
        refine lv_iload_n hx hb dc_S_write_36 rfl (lv_at hl 2 rfl) ?_
        refine w_cVi (y := yn_T_stampOf) (C := Rn_T) (index := 67) (n := 2) (own := Rn_S) 20 hx hb hml hown hts hK hN hP hS (ct_T_stampOf l D ad cA w hJ (st105 10 (x1).toNatClampNeg) x2 st105 _ h) mw_60 mw_61 mw_62 mw_63 mw_59 (by decide +kernel) ⟨Nat.le_of_ble_eq_true rfl, Nat.le_of_ble_eq_true rfl⟩ rfl rfl rfl rfl rfl hl.1 rfl (lv_room (Nat.le_of_ble_eq_true rfl)) dc_S_write_37 ⟨Nat.zero_le _, Nat.zero_le _⟩ (fun r108 st107 H locs hP hS h => ?_)
        refine lv_bipush (v := (-2)) hx hb dc_S_write_40 (by decide) ?_
        refine lv_icmp_ne (tgt := 49) hx hb dc_S_write_42 (by decide) (fun c => ?_) (fun c => ?_)
        · have h := h.1 c
          refine lv_iconst (v := 0) hx hb dc_S_write_49 (by decide) ?_
          refine lv_istore (lv' := [(4, .int 0), (0, .ref (ad 18)), (1, .int x1), (2, .int x2), (3, .int x3)]) hx hb dc_S_write_50 hl (by decide) rfl (fun ls hl => ?_)
          refine lv_iload hx hb dc_S_write_52 (lv_at hl 0 rfl) ?_
          refine lv_if_eq (tgt := 73) hx hb dc_S_write_54 (by decide) (fun c => ?_) (fun c => absurd c (by decide))
          refine lv_aload_n hx hb dc_S_write_73 rfl (lv_at hl 1 rfl) ?_
          refine va_get (D := D) (ci := 0) (v := .ref (ad 22)) (C := Rn_S) (T := Fn_S) (N := 5) hx hb hts in_S hown hK hP 18 rfl rfl 3 (by decide) (hts _ mw_12) (fun _ h9 => h9) rfl dc_S_write_74 ?_
          refine va_getN (D := D) (ci := 4) (v := .ref (ad 10)) (C := Rn_P) (T := Fn_P) (N := 3) (host := nh_) hx hb hts in_P hown hK hP 22 rfl rfl 0 (by decide) (va_Nw.use rfl (hN.1 _ nf_0)) (fun _ h9 => h9) rfl dc_S_write_77 ?_
          refine lv_iload_n hx hb dc_S_write_80 rfl (lv_at hl 2 rfl) ?_
          refine lv_aload_n hx hb dc_S_write_81 rfl (lv_at hl 1 rfl) ?_
          refine va_get (D := D) (ci := 0) (v := .ref (ad 20)) (C := Rn_S) (T := Fn_S) (N := 5) hx hb hts in_S hown hK hP 18 rfl rfl 1 (by decide) (hts _ mw_11) (fun _ h9 => h9) rfl dc_S_write_82 ?_
          refine lv_aload_n hx hb dc_S_write_85 rfl (lv_at hl 1 rfl) ?_
          refine va_get (D := D) (ci := 0) (v := .ref (ad 22)) (C := Rn_S) (T := Fn_S) (N := 5) hx hb hts in_S hown hK hP 18 rfl rfl 3 (by decide) (hts _ mw_12) (fun _ h9 => h9) rfl dc_S_write_86 ?_
          refine va_getN (D := D) (ci := 4) (v := .ref (ad 10)) (C := Rn_P) (T := Fn_P) (N := 3) (host := nh_) hx hb hts in_P hown hK hP 22 rfl rfl 0 (by decide) (va_Nw.use rfl (hN.1 _ nf_0)) (fun _ h9 => h9) rfl dc_S_write_89 ?_
          refine lv_iload_n hx hb dc_S_write_92 rfl (lv_at hl 2 rfl) ?_
          refine w_ild 10 (by decide) hx hb hK hP h.1 dc_S_write_93 ?_
          have h := h.2
          refine lv_iload_n hx hb dc_S_write_94 rfl (lv_at hl 3 rfl) ?_
          refine lv_iload_n hx hb dc_S_write_95 rfl (lv_at hl 4 rfl) ?_
          refine w_cVi (y := yn_T_with) (C := Rn_T) (index := 74) (n := 3) (own := Rn_S) 20 hx hb hml hown hts hK hN hP hS (ct_T_with l D ad cA w hJ (st107 10 (x1).toNatClampNeg) x2 x3 st107 _ h) mw_139 mw_140 mw_141 mw_142 mw_59 (by decide +kernel) ⟨Nat.le_of_ble_eq_true rfl, Nat.le_of_ble_eq_true rfl⟩ rfl rfl rfl rfl rfl hl.1 rfl (lv_room (Nat.le_of_ble_eq_true rfl)) dc_S_write_96 ⟨Nat.zero_le _, Nat.zero_le _⟩ (fun r110 st109 H locs hP hS h => ?_)
          refine w_ist 10 (by decide) hJ hx hb hK hP hS h.1 dc_S_write_99 (fun H locs hP hS => ?_)
          obtain ⟨st111, est111⟩ : ∃ z : St_, z = ws_1 st109 10 (x1).toNatClampNeg r110 := ⟨_, rfl⟩
          rw [← est111] at hP
          have h := h.2 st111 est111
          refine lv_iload hx hb dc_S_write_100 (lv_at hl 0 rfl) ?_
          refine lv_if_eq (tgt := 114) hx hb dc_S_write_102 (by decide) (fun c => ?_) (fun c => absurd c (by decide))
          refine lv_aload_n hx hb dc_S_write_114 rfl (lv_at hl 1 rfl) ?_
          refine va_get (D := D) (ci := 0) (v := .ref (ad 22)) (C := Rn_S) (T := Fn_S) (N := 5) hx hb hts in_S hown hK hP 18 rfl rfl 3 (by decide) (hts _ mw_12) (fun _ h9 => h9) rfl dc_S_write_115 ?_
          refine va_getN (D := D) (ci := 4) (v := .ref (ad 11)) (C := Rn_P) (T := Fn_P) (N := 3) (host := nh_) hx hb hts in_P hown hK hP 22 rfl rfl 1 (by decide) (va_Nw.use rfl (hN.1 _ nf_1)) (fun _ h9 => h9) rfl dc_S_write_118 ?_
          refine lv_iload_n hx hb dc_S_write_121 rfl (lv_at hl 2 rfl) ?_
          refine w_ild 11 (by decide) hx hb hK hP h.1 dc_S_write_122 ?_
          have h := h.2
          exact w_iret hx hb hr hlocks hP hS h dc_S_write_123
        · have h := h.2 c
          refine lv_iconst (v := 1) hx hb dc_S_write_45 (by decide) ?_
          refine lv_goto (tgt := 50) hx hb dc_S_write_46 (by decide) ?_
          refine lv_istore (lv' := [(4, .int 1), (0, .ref (ad 18)), (1, .int x1), (2, .int x2), (3, .int x3)]) hx hb dc_S_write_50 hl (by decide) rfl (fun ls hl => ?_)
          refine lv_iload hx hb dc_S_write_52 (lv_at hl 0 rfl) ?_
          refine lv_if_eq (tgt := 73) hx hb dc_S_write_54 (by decide) (fun c => absurd c (by decide)) (fun c => ?_)
          refine lv_aload_n hx hb dc_S_write_57 rfl (lv_at hl 1 rfl) ?_
          refine va_get (D := D) (ci := 0) (v := .ref (ad 22)) (C := Rn_S) (T := Fn_S) (N := 5) hx hb hts in_S hown hK hP 18 rfl rfl 3 (by decide) (hts _ mw_12) (fun _ h9 => h9) rfl dc_S_write_58 ?_
          refine va_getN (D := D) (ci := 4) (v := .int (st107 19 0)) (C := Rn_P) (T := Fn_P) (N := 3) (host := nh_) hx hb hts in_P hown hK hP 22 rfl rfl 2 (by decide) (va_Nw.use rfl (hN.1 _ nf_2)) (fun _ h9 => h9) rfl dc_S_write_61 ?_
          refine lv_sipush (v := 600) hx hb dc_S_write_64 (by decide) ?_
          refine lv_icmp_lt (tgt := 73) hx hb dc_S_write_67 (by decide) (fun c => ?_) (fun c => ?_)
          · have h := h.1 c
            refine lv_aload_n hx hb dc_S_write_73 rfl (lv_at hl 1 rfl) ?_
            refine va_get (D := D) (ci := 0) (v := .ref (ad 22)) (C := Rn_S) (T := Fn_S) (N := 5) hx hb hts in_S hown hK hP 18 rfl rfl 3 (by decide) (hts _ mw_12) (fun _ h9 => h9) rfl dc_S_write_74 ?_
            refine va_getN (D := D) (ci := 4) (v := .ref (ad 10)) (C := Rn_P) (T := Fn_P) (N := 3) (host := nh_) hx hb hts in_P hown hK hP 22 rfl rfl 0 (by decide) (va_Nw.use rfl (hN.1 _ nf_0)) (fun _ h9 => h9) rfl dc_S_write_77 ?_
            refine lv_iload_n hx hb dc_S_write_80 rfl (lv_at hl 2 rfl) ?_
            refine lv_aload_n hx hb dc_S_write_81 rfl (lv_at hl 1 rfl) ?_
            refine va_get (D := D) (ci := 0) (v := .ref (ad 20)) (C := Rn_S) (T := Fn_S) (N := 5) hx hb hts in_S hown hK hP 18 rfl rfl 1 (by decide) (hts _ mw_11) (fun _ h9 => h9) rfl dc_S_write_82 ?_
            refine lv_aload_n hx hb dc_S_write_85 rfl (lv_at hl 1 rfl) ?_
            refine va_get (D := D) (ci := 0) (v := .ref (ad 22)) (C := Rn_S) (T := Fn_S) (N := 5) hx hb hts in_S hown hK hP 18 rfl rfl 3 (by decide) (hts _ mw_12) (fun _ h9 => h9) rfl dc_S_write_86 ?_
            refine va_getN (D := D) (ci := 4) (v := .ref (ad 10)) (C := Rn_P) (T := Fn_P) (N := 3) (host := nh_) hx hb hts in_P hown hK hP 22 rfl rfl 0 (by decide) (va_Nw.use rfl (hN.1 _ nf_0)) (fun _ h9 => h9) rfl dc_S_write_89 ?_
            refine lv_iload_n hx hb dc_S_write_92 rfl (lv_at hl 2 rfl) ?_
            refine w_ild 10 (by decide) hx hb hK hP h.1 dc_S_write_93 ?_
            have h := h.2
            refine lv_iload_n hx hb dc_S_write_94 rfl (lv_at hl 3 rfl) ?_
            refine lv_iload_n hx hb dc_S_write_95 rfl (lv_at hl 4 rfl) ?_
            refine w_cVi (y := yn_T_with) (C := Rn_T) (index := 74) (n := 3) (own := Rn_S) 20 hx hb hml hown hts hK hN hP hS (ct_T_with l D ad cA w hJ (st107 10 (x1).toNatClampNeg) x2 x3 st107 _ h) mw_139 mw_140 mw_141 mw_142 mw_59 (by decide +kernel) ⟨Nat.le_of_ble_eq_true rfl, Nat.le_of_ble_eq_true rfl⟩ rfl rfl rfl rfl rfl hl.1 rfl (lv_room (Nat.le_of_ble_eq_true rfl)) dc_S_write_96 ⟨Nat.zero_le _, Nat.zero_le _⟩ (fun r113 st112 H locs hP hS h => ?_)
            refine w_ist 10 (by decide) hJ hx hb hK hP hS h.1 dc_S_write_99 (fun H locs hP hS => ?_)
            obtain ⟨st114, est114⟩ : ∃ z : St_, z = ws_1 st112 10 (x1).toNatClampNeg r113 := ⟨_, rfl⟩
            rw [← est114] at hP
            have h := h.2 st114 est114
            refine lv_iload hx hb dc_S_write_100 (lv_at hl 0 rfl) ?_
            refine lv_if_eq (tgt := 114) hx hb dc_S_write_102 (by decide) (fun c => absurd c (by decide)) (fun c => ?_)
            refine lv_aload_n hx hb dc_S_write_105 rfl (lv_at hl 1 rfl) ?_
            refine va_get (D := D) (ci := 0) (v := .ref (ad 22)) (C := Rn_S) (T := Fn_S) (N := 5) hx hb hts in_S hown hK hP 18 rfl rfl 3 (by decide) (hts _ mw_12) (fun _ h9 => h9) rfl dc_S_write_106 ?_
            refine lv_iload_n hx hb dc_S_write_109 rfl (lv_at hl 2 rfl) ?_
            refine lv_iconst (v := 1) hx hb dc_S_write_110 (by decide) ?_
            refine w_cSv (y := yn_S_changeCount) (index := 78) (n := 3) (own := Rn_S) hx hb hml hown hts hK hN hP hS (ct_S_changeCount_22 l D ad cA w hJ x1 1 st114 _ h) mw_143 mw_144 mw_145 mw_3 (by decide +kernel) ⟨Nat.le_of_ble_eq_true rfl, Nat.le_of_ble_eq_true rfl⟩ rfl rfl rfl hl.1 rfl (lv_room (Nat.le_of_ble_eq_true rfl)) dc_S_write_111 ⟨Nat.zero_le _, Nat.zero_le _⟩ (fun st115 H locs hP hS h => ?_)
            refine lv_aload_n hx hb dc_S_write_114 rfl (lv_at hl 1 rfl) ?_
            refine va_get (D := D) (ci := 0) (v := .ref (ad 22)) (C := Rn_S) (T := Fn_S) (N := 5) hx hb hts in_S hown hK hP 18 rfl rfl 3 (by decide) (hts _ mw_12) (fun _ h9 => h9) rfl dc_S_write_115 ?_
            refine va_getN (D := D) (ci := 4) (v := .ref (ad 11)) (C := Rn_P) (T := Fn_P) (N := 3) (host := nh_) hx hb hts in_P hown hK hP 22 rfl rfl 1 (by decide) (va_Nw.use rfl (hN.1 _ nf_1)) (fun _ h9 => h9) rfl dc_S_write_118 ?_
            refine lv_iload_n hx hb dc_S_write_121 rfl (lv_at hl 2 rfl) ?_
            refine w_ild 11 (by decide) hx hb hK hP h.1 dc_S_write_122 ?_
            have h := h.2
            exact w_iret hx hb hr hlocks hP hS h dc_S_write_123
          · have h := h.2 c
            refine lv_bipush (v := (-3)) hx hb dc_S_write_70 (by decide) ?_
            exact w_iret hx hb hr hlocks hP hS h dc_S_write_72
      · have h := h.2 c
        refine lv_iconst (v := (-1)) hx hb dc_S_write_21 (by decide) ?_
        exact w_iret hx hb hr hlocks hP hS h dc_S_write_22
set_option maxHeartbeats 4000000 in
set_option maxRecDepth 100000 in
theorem ct_R_isMap (l : Launch) (D : va_G) (ad : Nat → Nat) (cA : Nat → ClassId) (w : Nat) (hJ : Jn_ ad) (x0 : Int32) (st : St_) (post : Int32 → St_ → Prop) (h : wp_R_isMap w x0 st post) : Met l yn_R_isMap (Cond.code yn_R_isMap bc_R_isMap 1 (some .boolean) :: Wk_) rm_R_isMap (Pw_ D ad cA w st [.int x0]) (Qi_ D ad cA w post) 0 0 (Aw_ ad) := by
  refine Met.ofW (cc := bc_R_isMap) (maxL := 1) (ret := (some .boolean)) (by decide) rfl ?_
  intro p e s m args below meth c s₁ B hml hv
  obtain ⟨rfl, hP, hK, hN⟩ := hv
  have hx := B.exec
  have hb := B.bytes
  have hr := B.returns
  have hts : ∀ v ∈ Wk_, v.before [.int x0].toArray s = true := fun v hv => atoms_spec (ws := Cond.code yn_R_isMap bc_R_isMap 1 (some .boolean) :: Wk_) B.pre v (List.mem_cons_of_mem _ hv)
  have hown : s.vm.findClass Rn_R = some m.cls := findClass_of_methodNamed B.named
  have hlocks := B.notSynchronized
  have hS : va_S (Aw_ ad) s.heap s.heap [] := va_S.rf
  have hl := lv_entry ([.int x0]) (n := 1) (Nat.le_of_ble_eq_true rfl)
  rw [lg_entry_eq]
  generalize (lg_sl ([.int x0]) ++ List.replicate (1 - (lg_sl ([.int x0])).length) Slot.unset).toArray = ls at hl ⊢
  have hl : lv_has ls 1 [(0, .int x0)] := hl
  refine lv_iload_n hx hb dc_R_isMap_0 rfl (lv_at hl 0 rfl) ?_
  refine lv_if_lt (tgt := 14) hx hb dc_R_isMap_1 (by decide) (fun c => ?_) (fun c => ?_)
  · have h := h.1 c
    refine lv_iconst (v := 0) hx hb dc_R_isMap_14 (by decide) ?_
    exact w_zret hx hb hr rfl hlocks hP hS h dc_R_isMap_15
  · have h := h.2 c
    refine lv_iload_n hx hb dc_R_isMap_4 rfl (lv_at hl 0 rfl) ?_
    refine lv_bipush (v := 8) hx hb dc_R_isMap_5 (by decide) ?_
    refine lv_icmp_ge (tgt := 14) hx hb dc_R_isMap_7 (by decide) (fun c => ?_) (fun c => ?_)
    · have h := h.1 c
      refine lv_iconst (v := 0) hx hb dc_R_isMap_14 (by decide) ?_
      exact w_zret hx hb hr rfl hlocks hP hS h dc_R_isMap_15
    · have h := h.2 c
      refine lv_iconst (v := 1) hx hb dc_R_isMap_10 (by decide) ?_
      refine lv_goto (tgt := 15) hx hb dc_R_isMap_11 (by decide) ?_
      exact w_zret hx hb hr rfl hlocks hP hS h dc_R_isMap_15
set_option maxHeartbeats 4000000 in
set_option maxRecDepth 100000 in
theorem ct_R_isKey (l : Launch) (D : va_G) (ad : Nat → Nat) (cA : Nat → ClassId) (w : Nat) (hJ : Jn_ ad) (x0 : Int32) (st : St_) (post : Int32 → St_ → Prop) (h : wp_R_isKey w x0 st post) : Met l yn_R_isKey (Cond.code yn_R_isKey bc_R_isKey 1 (some .boolean) :: Wk_) rm_R_isKey (Pw_ D ad cA w st [.int x0]) (Qi_ D ad cA w post) 0 0 (Aw_ ad) := by
  refine Met.ofW (cc := bc_R_isKey) (maxL := 1) (ret := (some .boolean)) (by decide) rfl ?_
  intro p e s m args below meth c s₁ B hml hv
  obtain ⟨rfl, hP, hK, hN⟩ := hv
  have hx := B.exec
  have hb := B.bytes
  have hr := B.returns
  have hts : ∀ v ∈ Wk_, v.before [.int x0].toArray s = true := fun v hv => atoms_spec (ws := Cond.code yn_R_isKey bc_R_isKey 1 (some .boolean) :: Wk_) B.pre v (List.mem_cons_of_mem _ hv)
  have hown : s.vm.findClass Rn_R = some m.cls := findClass_of_methodNamed B.named
  have hlocks := B.notSynchronized
  have hS : va_S (Aw_ ad) s.heap s.heap [] := va_S.rf
  have hl := lv_entry ([.int x0]) (n := 1) (Nat.le_of_ble_eq_true rfl)
  rw [lg_entry_eq]
  generalize (lg_sl ([.int x0]) ++ List.replicate (1 - (lg_sl ([.int x0])).length) Slot.unset).toArray = ls at hl ⊢
  have hl : lv_has ls 1 [(0, .int x0)] := hl
  refine lv_iload_n hx hb dc_R_isKey_0 rfl (lv_at hl 0 rfl) ?_
  refine lv_if_lt (tgt := 15) hx hb dc_R_isKey_1 (by decide) (fun c => ?_) (fun c => ?_)
  · have h := h.1 c
    refine lv_iconst (v := 0) hx hb dc_R_isKey_15 (by decide) ?_
    exact w_zret hx hb hr rfl hlocks hP hS h dc_R_isKey_16
  · have h := h.2 c
    refine lv_iload_n hx hb dc_R_isKey_4 rfl (lv_at hl 0 rfl) ?_
    refine lv_sipush (v := 4096) hx hb dc_R_isKey_5 (by decide) ?_
    refine lv_icmp_ge (tgt := 15) hx hb dc_R_isKey_8 (by decide) (fun c => ?_) (fun c => ?_)
    · have h := h.1 c
      refine lv_iconst (v := 0) hx hb dc_R_isKey_15 (by decide) ?_
      exact w_zret hx hb hr rfl hlocks hP hS h dc_R_isKey_16
    · have h := h.2 c
      refine lv_iconst (v := 1) hx hb dc_R_isKey_11 (by decide) ?_
      refine lv_goto (tgt := 16) hx hb dc_R_isKey_12 (by decide) ?_
      exact w_zret hx hb hr rfl hlocks hP hS h dc_R_isKey_16
set_option maxHeartbeats 4000000 in
set_option maxRecDepth 100000 in
theorem ct_R_isStamp (l : Launch) (D : va_G) (ad : Nat → Nat) (cA : Nat → ClassId) (w : Nat) (hJ : Jn_ ad) (x0 : Int32) (st : St_) (post : Int32 → St_ → Prop) (h : wp_R_isStamp w x0 st post) : Met l yn_R_isStamp (Cond.code yn_R_isStamp bc_R_isStamp 1 (some .boolean) :: Wk_) rm_R_isStamp (Pw_ D ad cA w st [.int x0]) (Qi_ D ad cA w post) 0 0 (Aw_ ad) := by
  refine Met.ofW (cc := bc_R_isStamp) (maxL := 1) (ret := (some .boolean)) (by decide) rfl ?_
  intro p e s m args below meth c s₁ B hml hv
  obtain ⟨rfl, hP, hK, hN⟩ := hv
  have hx := B.exec
  have hb := B.bytes
  have hr := B.returns
  have hts : ∀ v ∈ Wk_, v.before [.int x0].toArray s = true := fun v hv => atoms_spec (ws := Cond.code yn_R_isStamp bc_R_isStamp 1 (some .boolean) :: Wk_) B.pre v (List.mem_cons_of_mem _ hv)
  have hown : s.vm.findClass Rn_R = some m.cls := findClass_of_methodNamed B.named
  have hlocks := B.notSynchronized
  have hS : va_S (Aw_ ad) s.heap s.heap [] := va_S.rf
  have hl := lv_entry ([.int x0]) (n := 1) (Nat.le_of_ble_eq_true rfl)
  rw [lg_entry_eq]
  generalize (lg_sl ([.int x0]) ++ List.replicate (1 - (lg_sl ([.int x0])).length) Slot.unset).toArray = ls at hl ⊢
  have hl : lv_has ls 1 [(0, .int x0)] := hl
  refine lv_iload_n hx hb dc_R_isStamp_0 rfl (lv_at hl 0 rfl) ?_
  refine lv_if_lt (tgt := 14) hx hb dc_R_isStamp_1 (by decide) (fun c => ?_) (fun c => ?_)
  · have h := h.1 c
    refine lv_iconst (v := 0) hx hb dc_R_isStamp_14 (by decide) ?_
    exact w_zret hx hb hr rfl hlocks hP hS h dc_R_isStamp_15
  · have h := h.2 c
    refine lv_iload_n hx hb dc_R_isStamp_4 rfl (lv_at hl 0 rfl) ?_
    refine lv_ldc hx hb hown (hts _ mw_154) dc_R_isStamp_5 ?_
    refine lv_icmp_gt (tgt := 14) hx hb dc_R_isStamp_7 (by decide) (fun c => ?_) (fun c => ?_)
    · have h := h.1 c
      refine lv_iconst (v := 0) hx hb dc_R_isStamp_14 (by decide) ?_
      exact w_zret hx hb hr rfl hlocks hP hS h dc_R_isStamp_15
    · have h := h.2 c
      refine lv_iconst (v := 1) hx hb dc_R_isStamp_10 (by decide) ?_
      refine lv_goto (tgt := 15) hx hb dc_R_isStamp_11 (by decide) ?_
      exact w_zret hx hb hr rfl hlocks hP hS h dc_R_isStamp_15
set_option maxHeartbeats 4000000 in
set_option maxRecDepth 100000 in
theorem ct_R_all (l : Launch) (D : va_G) (ad : Nat → Nat) (cA : Nat → ClassId) (w : Nat) (hJ : Jn_ ad) (st : St_) (post : Int32 → St_ → Prop) (h : wp_R_all w st post) : Met l yn_R_all (Cond.code yn_R_all bc_R_all 3 (some .int) :: Wk_) rm_R_all (Pw_ D ad cA w st [.ref (ad 24)]) (Qi_ D ad cA w post) 0 0 (Aw_ ad) := by
  refine Met.ofW (cc := bc_R_all) (maxL := 3) (ret := (some .int)) (by decide) rfl ?_
  intro p e s m args below meth c s₁ B hml hv
  obtain ⟨rfl, hP, hK, hN⟩ := hv
  have hx := B.exec
  have hb := B.bytes
  have hr := B.returns
  have hts : ∀ v ∈ Wk_, v.before [.ref (ad 24)].toArray s = true := fun v hv => atoms_spec (ws := Cond.code yn_R_all bc_R_all 3 (some .int) :: Wk_) B.pre v (List.mem_cons_of_mem _ hv)
  have hown : s.vm.findClass Rn_R = some m.cls := findClass_of_methodNamed B.named
  have hlocks := B.notSynchronized
  have hS : va_S (Aw_ ad) s.heap s.heap [] := va_S.rf
  have Lp_4 : ∀ (n : Nat) (y1 y2 : Int32) (st : St_), wp_R_all_4 w post n y1 y2 st → ∀ (H : Heap) (locs : List Loc), va_P D sC_ (wd_ ad cA w st) H → va_S (Aw_ ad) s.heap H locs → ∀ ls : Array Slot, lv_has ls 3 [(0, .ref (ad 24)), (1, .int y1), (2, .int y2)] → W p l e (headSpec (Cond.code yn_R_all bc_R_all 3 (some .int) :: Wk_) rm_R_all).room s m [.ref (ad 24)].toArray below meth c H locs 0 0 (MQ below (Qi_ D ad cA w post) [.ref (ad 24)].toArray s 0 0 (Aw_ ad)) (F0 m 4 ls []) := by
    intro n
    induction n with
    | zero => intro y1 y2 st h; exact h.elim
    | succ n ih =>
      intro y1 y2 st h H locs hP hS ls hl
      refine lv_iload_n hx hb dc_R_all_4 rfl (lv_at hl 2 rfl) ?_
      refine lv_bipush (v := 8) hx hb dc_R_all_5 (by decide) ?_
      refine lv_icmp_ge (tgt := 25) hx hb dc_R_all_7 (by decide) (fun c => ?_) (fun c => ?_)
      · have h := h.1 c
        refine lv_iload_n hx hb dc_R_all_25 rfl (lv_at hl 1 rfl) ?_
        exact w_iret hx hb hr hlocks hP hS h dc_R_all_26
      · have h := h.2 c
        refine lv_iload_n hx hb dc_R_all_10 rfl (lv_at hl 1 rfl) ?_
        refine lv_aload_n hx hb dc_R_all_11 rfl (lv_at hl 0 rfl) ?_
        refine va_get (D := D) (ci := 5) (v := .ref (ad 16)) (C := Rn_R) (T := Fn_R) (N := 4) hx hb hts in_R hown hK hP 24 rfl rfl 2 (by decide) (hts _ mw_159) (fun _ h9 => h9) rfl dc_R_all_12 ?_
        refine lv_iload_n hx hb dc_R_all_15 rfl (lv_at hl 2 rfl) ?_
        refine w_ild 16 (by decide) hx hb hK hP h.1 dc_R_all_16 ?_
        have h := h.2
        refine lv_iadd hx hb dc_R_all_17 ?_
        refine lv_topi (fun x101 ex101 => ?_)
        have h := h x101 ex101
        refine lv_istore_n (lv' := [(1, .int x101), (0, .ref (ad 24)), (2, .int y2)]) hx hb dc_R_all_18 rfl hl (by decide) rfl (fun ls hl => ?_)
        obtain ⟨x102, ex102⟩ : ∃ y : Int32, y = y2 + 1 := ⟨_, rfl⟩
        have h := h x102 ex102
        refine lv_iinc (v := x102) (lv' := [(2, .int x102), (1, .int x101), (0, .ref (ad 24))]) hx hb dc_R_all_19 hl (k := 2) rfl (by rw [ex102]; rfl) (by decide) rfl (fun ls hl => ?_)
        refine lv_goto (tgt := 4) hx hb dc_R_all_22 (by decide) ?_
        exact ih x101 x102 st h _ _ hP hS ls (lv_sub hl [2, 1, 0] rfl)
  have hl := lv_entry ([.ref (ad 24)]) (n := 3) (Nat.le_of_ble_eq_true rfl)
  rw [lg_entry_eq]
  generalize (lg_sl ([.ref (ad 24)]) ++ List.replicate (3 - (lg_sl ([.ref (ad 24)])).length) Slot.unset).toArray = ls at hl ⊢
  have hl : lv_has ls 3 [(0, .ref (ad 24))] := hl
  refine lv_iconst (v := 0) hx hb dc_R_all_0 (by decide) ?_
  refine lv_istore_n (lv' := [(1, .int 0), (0, .ref (ad 24))]) hx hb dc_R_all_1 rfl hl (by decide) rfl (fun ls hl => ?_)
  refine lv_iconst (v := 0) hx hb dc_R_all_2 (by decide) ?_
  refine lv_istore_n (lv' := [(2, .int 0), (1, .int 0), (0, .ref (ad 24))]) hx hb dc_R_all_3 rfl hl (by decide) rfl (fun ls hl => ?_)
  obtain ⟨n, h⟩ := h
  exact Lp_4 n 0 0 st h _ _ hP hS ls (lv_sub hl [2, 1, 0] rfl)
set_option maxHeartbeats 4000000 in
set_option maxRecDepth 100000 in
theorem ct_R_write (l : Launch) (D : va_G) (ad : Nat → Nat) (cA : Nat → ClassId) (w : Nat) (hJ : Jn_ ad) (x1 : Int32) (x2 : Int32) (x3 : Int32) (st : St_) (post : Int32 → St_ → Prop) (h : wp_R_write w x1 x2 x3 st post) : Met l yn_R_write (Cond.code yn_R_write bc_R_write 5 (some .int) :: Wk_) rm_R_write (Pw_ D ad cA w st [.ref (ad 24), .int x1, .int x2, .int x3]) (Qi_ D ad cA w post) 0 0 (Aw_ ad) := by
  refine Met.ofW (cc := bc_R_write) (maxL := 5) (ret := (some .int)) (by decide) rfl ?_
  intro p e s m args below meth c s₁ B hml hv
  obtain ⟨rfl, hP, hK, hN⟩ := hv
  have hx := B.exec
  have hb := B.bytes
  have hr := B.returns
  have hts : ∀ v ∈ Wk_, v.before [.ref (ad 24), .int x1, .int x2, .int x3].toArray s = true := fun v hv => atoms_spec (ws := Cond.code yn_R_write bc_R_write 5 (some .int) :: Wk_) B.pre v (List.mem_cons_of_mem _ hv)
  have hown : s.vm.findClass Rn_R = some m.cls := findClass_of_methodNamed B.named
  have hlocks := B.notSynchronized
  have hS : va_S (Aw_ ad) s.heap s.heap [] := va_S.rf
  have hl := lv_entry ([.ref (ad 24), .int x1, .int x2, .int x3]) (n := 5) (Nat.le_of_ble_eq_true rfl)
  rw [lg_entry_eq]
  generalize (lg_sl ([.ref (ad 24), .int x1, .int x2, .int x3]) ++ List.replicate (5 - (lg_sl ([.ref (ad 24), .int x1, .int x2, .int x3])).length) Slot.unset).toArray = ls at hl ⊢
  have hl : lv_has ls 5 [(0, .ref (ad 24)), (1, .int x1), (2, .int x2), (3, .int x3)] := hl
  refine lv_iload_n hx hb dc_R_write_0 rfl (lv_at hl 1 rfl) ?_
  refine w_cSi (y := yn_R_isMap) (index := 24) (n := 1) (own := Rn_R) hx hb hml hown hts hK hN hP hS (ct_R_isMap l D ad cA w hJ x1 st _ h) mw_147 mw_148 mw_149 mw_150 (by decide +kernel) ⟨Nat.le_of_ble_eq_true rfl, Nat.le_of_ble_eq_true rfl⟩ rfl rfl rfl hl.1 rfl (lv_room (Nat.le_of_ble_eq_true rfl)) dc_R_write_1 ⟨Nat.zero_le _, Nat.zero_le _⟩ (fun r102 st101 H locs hP hS h => ?_)
  refine lv_if_eq (tgt := 21) hx hb dc_R_write_4 (by decide) (fun c => ?_) (fun c => ?_)
  · have h := h.1 c
    refine lv_iconst (v := (-1)) hx hb dc_R_write_21 (by decide) ?_
    exact w_iret hx hb hr hlocks hP hS h dc_R_write_22
  · have h := h.2 c
    refine lv_iload_n hx hb dc_R_write_7 rfl (lv_at hl 2 rfl) ?_
    refine w_cSi (y := yn_R_isKey) (index := 28) (n := 1) (own := Rn_R) hx hb hml hown hts hK hN hP hS (ct_R_isKey l D ad cA w hJ x2 st101 _ h) mw_151 mw_152 mw_153 mw_150 (by decide +kernel) ⟨Nat.le_of_ble_eq_true rfl, Nat.le_of_ble_eq_true rfl⟩ rfl rfl rfl hl.1 rfl (lv_room (Nat.le_of_ble_eq_true rfl)) dc_R_write_8 ⟨Nat.zero_le _, Nat.zero_le _⟩ (fun r104 st103 H locs hP hS h => ?_)
    refine lv_if_eq (tgt := 21) hx hb dc_R_write_11 (by decide) (fun c => ?_) (fun c => ?_)
    · have h := h.1 c
      refine lv_iconst (v := (-1)) hx hb dc_R_write_21 (by decide) ?_
      exact w_iret hx hb hr hlocks hP hS h dc_R_write_22
    · have h := h.2 c
      refine lv_iload_n hx hb dc_R_write_14 rfl (lv_at hl 3 rfl) ?_
      refine w_cSi (y := yn_R_isStamp) (index := 31) (n := 1) (own := Rn_R) hx hb hml hown hts hK hN hP hS (ct_R_isStamp l D ad cA w hJ x3 st103 _ h) mw_155 mw_156 mw_157 mw_150 (by decide +kernel) ⟨Nat.le_of_ble_eq_true rfl, Nat.le_of_ble_eq_true rfl⟩ rfl rfl rfl hl.1 rfl (lv_room (Nat.le_of_ble_eq_true rfl)) dc_R_write_15 ⟨Nat.zero_le _, Nat.zero_le _⟩ (fun r106 st105 H locs hP hS h => ?_)
      refine lv_if_ne (tgt := 23) hx hb dc_R_write_18 (by decide) (fun c => ?_) (fun c => ?_)
      · have h := h.1 c
        refine lv_sipush (v := 4096) hx hb dc_R_write_23 (by decide) ?_
        refine lv_iload_n hx hb dc_R_write_26 rfl (lv_at hl 1 rfl) ?_
        refine lv_imul hx hb dc_R_write_27 ?_
        refine lv_iload_n hx hb dc_R_write_28 rfl (lv_at hl 2 rfl) ?_
        refine lv_iadd hx hb dc_R_write_29 ?_
        refine lv_topi (fun x107 ex107 => ?_)
        have h := h x107 ex107
        refine lv_istore (lv' := [(4, .int x107), (0, .ref (ad 24)), (1, .int x1), (2, .int x2), (3, .int x3)]) hx hb dc_R_write_30 hl (by decide) rfl (fun ls hl => ?_)
        refine lv_aload_n hx hb dc_R_write_32 rfl (lv_at hl 1 rfl) ?_
        refine va_get (D := D) (ci := 5) (v := .ref (ad 14)) (C := Rn_R) (T := Fn_R) (N := 4) hx hb hts in_R hown hK hP 24 rfl rfl 0 (by decide) (hts _ mw_158) (fun _ h9 => h9) rfl dc_R_write_33 ?_
        refine lv_iload hx hb dc_R_write_36 (lv_at hl 0 rfl) ?_
        refine w_ild 14 (by decide) hx hb hK hP h.1 dc_R_write_38 ?_
        have h := h.2
        refine lv_if_ne (tgt := 65) hx hb dc_R_write_39 (by decide) (fun c => ?_) (fun c => ?_)
        · have h := h.1 c
          refine lv_aload_n hx hb dc_R_write_65 rfl (lv_at hl 1 rfl) ?_
          refine va_get (D := D) (ci := 5) (v := .ref (ad 14)) (C := Rn_R) (T := Fn_R) (N := 4) hx hb hts in_R hown hK hP 24 rfl rfl 0 (by decide) (hts _ mw_158) (fun _ h9 => h9) rfl dc_R_write_66 ?_
          refine lv_iload hx hb dc_R_write_69 (lv_at hl 0 rfl) ?_
          refine lv_iload_n hx hb dc_R_write_71 rfl (lv_at hl 4 rfl) ?_
          refine lv_iconst (v := 1) hx hb dc_R_write_72 (by decide) ?_
          refine lv_iadd hx hb dc_R_write_73 ?_
          refine w_ist 14 (by decide) hJ hx hb hK hP hS h.1 dc_R_write_74 (fun H locs hP hS => ?_)
          obtain ⟨st108, est108⟩ : ∃ z : St_, z = ws_1 st105 14 (x107).toNatClampNeg (x3 + 1) := ⟨_, rfl⟩
          rw [← est108] at hP
          have h := h.2 st108 est108
          refine lv_aload_n hx hb dc_R_write_75 rfl (lv_at hl 1 rfl) ?_
          refine va_get (D := D) (ci := 5) (v := .ref (ad 16)) (C := Rn_R) (T := Fn_R) (N := 4) hx hb hts in_R hown hK hP 24 rfl rfl 2 (by decide) (hts _ mw_159) (fun _ h9 => h9) rfl dc_R_write_76 ?_
          refine lv_iload_n hx hb dc_R_write_79 rfl (lv_at hl 2 rfl) ?_
          refine w_ild 16 (by decide) hx hb hK hP h.1 dc_R_write_80 ?_
          have h := h.2
          exact w_iret hx hb hr hlocks hP hS h dc_R_write_81
        · have h := h.2 c
          refine lv_aload_n hx hb dc_R_write_42 rfl (lv_at hl 1 rfl) ?_
          refine w_cVi (y := yn_R_all) (C := Rn_R) (index := 34) (n := 0) (own := Rn_R) 24 hx hb hml hown hts hK hN hP hS (ct_R_all l D ad cA w hJ st105 _ h) mw_160 mw_161 mw_162 mw_163 mw_150 (by decide +kernel) ⟨Nat.le_of_ble_eq_true rfl, Nat.le_of_ble_eq_true rfl⟩ rfl rfl rfl rfl rfl hl.1 rfl (lv_room (Nat.le_of_ble_eq_true rfl)) dc_R_write_43 ⟨Nat.zero_le _, Nat.zero_le _⟩ (fun r110 st109 H locs hP hS h => ?_)
          refine lv_sipush (v := 600) hx hb dc_R_write_46 (by decide) ?_
          refine lv_icmp_ne (tgt := 55) hx hb dc_R_write_49 (by decide) (fun c => ?_) (fun c => ?_)
          · have h := h.1 c
            refine lv_aload_n hx hb dc_R_write_55 rfl (lv_at hl 1 rfl) ?_
            refine va_get (D := D) (ci := 5) (v := .ref (ad 16)) (C := Rn_R) (T := Fn_R) (N := 4) hx hb hts in_R hown hK hP 24 rfl rfl 2 (by decide) (hts _ mw_159) (fun _ h9 => h9) rfl dc_R_write_56 ?_
            refine lv_iload_n hx hb dc_R_write_59 rfl (lv_at hl 2 rfl) ?_
            refine lv_dup2_11 hx hb dc_R_write_60 rfl rfl ?_
            refine w_ild 16 (by decide) hx hb hK hP h.1 dc_R_write_61 ?_
            have h := h.2
            refine lv_iconst (v := 1) hx hb dc_R_write_62 (by decide) ?_
            refine lv_iadd hx hb dc_R_write_63 ?_
            refine w_ist 16 (by decide) hJ hx hb hK hP hS h.1 dc_R_write_64 (fun H locs hP hS => ?_)
            obtain ⟨st111, est111⟩ : ∃ z : St_, z = ws_1 st109 16 (x1).toNatClampNeg ((st109 16 (x1).toNatClampNeg) + 1) := ⟨_, rfl⟩
            rw [← est111] at hP
            have h := h.2 st111 est111
            refine lv_aload_n hx hb dc_R_write_65 rfl (lv_at hl 1 rfl) ?_
            refine va_get (D := D) (ci := 5) (v := .ref (ad 14)) (C := Rn_R) (T := Fn_R) (N := 4) hx hb hts in_R hown hK hP 24 rfl rfl 0 (by decide) (hts _ mw_158) (fun _ h9 => h9) rfl dc_R_write_66 ?_
            refine lv_iload hx hb dc_R_write_69 (lv_at hl 0 rfl) ?_
            refine lv_iload_n hx hb dc_R_write_71 rfl (lv_at hl 4 rfl) ?_
            refine lv_iconst (v := 1) hx hb dc_R_write_72 (by decide) ?_
            refine lv_iadd hx hb dc_R_write_73 ?_
            refine w_ist 14 (by decide) hJ hx hb hK hP hS h.1 dc_R_write_74 (fun H locs hP hS => ?_)
            obtain ⟨st112, est112⟩ : ∃ z : St_, z = ws_1 st111 14 (x107).toNatClampNeg (x3 + 1) := ⟨_, rfl⟩
            rw [← est112] at hP
            have h := h.2 st112 est112
            refine lv_aload_n hx hb dc_R_write_75 rfl (lv_at hl 1 rfl) ?_
            refine va_get (D := D) (ci := 5) (v := .ref (ad 16)) (C := Rn_R) (T := Fn_R) (N := 4) hx hb hts in_R hown hK hP 24 rfl rfl 2 (by decide) (hts _ mw_159) (fun _ h9 => h9) rfl dc_R_write_76 ?_
            refine lv_iload_n hx hb dc_R_write_79 rfl (lv_at hl 2 rfl) ?_
            refine w_ild 16 (by decide) hx hb hK hP h.1 dc_R_write_80 ?_
            have h := h.2
            exact w_iret hx hb hr hlocks hP hS h dc_R_write_81
          · have h := h.2 c
            refine lv_bipush (v := (-3)) hx hb dc_R_write_52 (by decide) ?_
            exact w_iret hx hb hr hlocks hP hS h dc_R_write_54
      · have h := h.2 c
        refine lv_iconst (v := (-1)) hx hb dc_R_write_21 (by decide) ?_
        exact w_iret hx hb hr hlocks hP hS h dc_R_write_22
set_option maxHeartbeats 4000000 in
set_option maxRecDepth 100000 in
theorem ct_S_spread (l : Launch) (D : va_G) (ad : Nat → Nat) (cA : Nat → ClassId) (w : Nat) (hJ : Jn_ ad) (x1 : Int32) (x2 : Int32) (x3 : Int32) (x4 : Int32) (x5 : Int32) (st : St_) (post : Int32 → St_ → Prop) (h : wp_S_spread w x1 x2 x3 x4 x5 st post) : Met l yn_S_spread (Cond.code yn_S_spread bc_S_spread 7 (some .int) :: Wk_) rm_S_spread (Pw_ D ad cA w st [.ref (ad 18), .int x1, .int x2, .int x3, .int x4, .int x5]) (Qi_ D ad cA w post) 0 0 (Aw_ ad) := by
  refine Met.ofW (cc := bc_S_spread) (maxL := 7) (ret := (some .int)) (by decide) rfl ?_
  intro p e s m args below meth c s₁ B hml hv
  obtain ⟨rfl, hP, hK, hN⟩ := hv
  have hx := B.exec
  have hb := B.bytes
  have hr := B.returns
  have hts : ∀ v ∈ Wk_, v.before [.ref (ad 18), .int x1, .int x2, .int x3, .int x4, .int x5].toArray s = true := fun v hv => atoms_spec (ws := Cond.code yn_S_spread bc_S_spread 7 (some .int) :: Wk_) B.pre v (List.mem_cons_of_mem _ hv)
  have hown : s.vm.findClass Rn_S = some m.cls := findClass_of_methodNamed B.named
  have hlocks := B.notSynchronized
  have hS : va_S (Aw_ ad) s.heap s.heap [] := va_S.rf
  have Lp_54 : ∀ (n : Nat) (y1 y2 y3 y4 y5 y6 : Int32) (st : St_), wp_S_spread_54 w post n y1 y2 y3 y4 y5 y6 st → ∀ (H : Heap) (locs : List Loc), va_P D sC_ (wd_ ad cA w st) H → va_S (Aw_ ad) s.heap H locs → ∀ ls : Array Slot, lv_has ls 7 [(0, .ref (ad 18)), (1, .int y1), (2, .int y2), (3, .int y3), (4, .int y4), (5, .int y5), (6, .int y6)] → W p l e (headSpec (Cond.code yn_S_spread bc_S_spread 7 (some .int) :: Wk_) rm_S_spread).room s m [.ref (ad 18), .int x1, .int x2, .int x3, .int x4, .int x5].toArray below meth c H locs 0 0 (MQ below (Qi_ D ad cA w post) [.ref (ad 18), .int x1, .int x2, .int x3, .int x4, .int x5].toArray s 0 0 (Aw_ ad)) (F0 m 54 ls []) := by
    intro n
    induction n with
    | zero => intro y1 y2 y3 y4 y5 y6 st h; exact h.elim
    | succ n ih =>
      intro y1 y2 y3 y4 y5 y6 st h H locs hP hS ls hl
      refine lv_iload hx hb dc_S_spread_54 (lv_at hl 6 rfl) ?_
      refine lv_iload hx hb dc_S_spread_56 (lv_at hl 4 rfl) ?_
      refine lv_icmp_ge (tgt := 86) hx hb dc_S_spread_58 (by decide) (fun c => ?_) (fun c => ?_)
      · have h := h.1 c
        refine lv_iload hx hb dc_S_spread_86 (lv_at hl 6 rfl) ?_
        exact w_iret hx hb hr hlocks hP hS h dc_S_spread_88
      · have h := h.2 c
        refine lv_aload_n hx hb dc_S_spread_61 rfl (lv_at hl 0 rfl) ?_
        refine lv_iload_n hx hb dc_S_spread_62 rfl (lv_at hl 1 rfl) ?_
        refine lv_iload_n hx hb dc_S_spread_63 rfl (lv_at hl 2 rfl) ?_
        refine lv_iload hx hb dc_S_spread_64 (lv_at hl 6 rfl) ?_
        refine lv_iload_n hx hb dc_S_spread_66 rfl (lv_at hl 3 rfl) ?_
        refine lv_imul hx hb dc_S_spread_67 ?_
        refine lv_iadd hx hb dc_S_spread_68 ?_
        refine lv_iload hx hb dc_S_spread_69 (lv_at hl 5 rfl) ?_
        refine lv_iload hx hb dc_S_spread_71 (lv_at hl 6 rfl) ?_
        refine lv_iadd hx hb dc_S_spread_73 ?_
        refine w_cVi (y := yn_S_write) (C := Rn_S) (index := 85) (n := 3) (own := Rn_S) 18 hx hb hml hown hts hK hN hP hS (ct_S_write l D ad cA w hJ y1 (y2 + (y6 * y3)) (y5 + y6) st _ h) mw_146 mw_165 mw_166 mw_167 mw_3 (by decide +kernel) ⟨Nat.le_of_ble_eq_true rfl, Nat.le_of_ble_eq_true rfl⟩ rfl rfl rfl rfl rfl hl.1 rfl (lv_room (Nat.le_of_ble_eq_true rfl)) dc_S_spread_74 ⟨Nat.zero_le _, Nat.zero_le _⟩ (fun r108 st107 H locs hP hS h => ?_)
        refine lv_if_lt (tgt := 86) hx hb dc_S_spread_77 (by decide) (fun c => ?_) (fun c => ?_)
        · have h := h.1 c
          refine lv_iload hx hb dc_S_spread_86 (lv_at hl 6 rfl) ?_
          exact w_iret hx hb hr hlocks hP hS h dc_S_spread_88
        · have h := h.2 c
          obtain ⟨x109, ex109⟩ : ∃ y : Int32, y = y6 + 1 := ⟨_, rfl⟩
          have h := h x109 ex109
          refine lv_iinc (v := x109) (lv' := [(6, .int x109), (0, .ref (ad 18)), (1, .int y1), (2, .int y2), (3, .int y3), (4, .int y4), (5, .int y5)]) hx hb dc_S_spread_80 hl (k := 6) rfl (by rw [ex109]; rfl) (by decide) rfl (fun ls hl => ?_)
          refine lv_goto (tgt := 54) hx hb dc_S_spread_83 (by decide) ?_
          exact ih y1 y2 y3 y4 y5 x109 st107 h _ _ hP hS ls (lv_sub hl [1, 2, 3, 4, 5, 6, 0] rfl)
  have hl := lv_entry ([.ref (ad 18), .int x1, .int x2, .int x3, .int x4, .int x5]) (n := 7) (Nat.le_of_ble_eq_true rfl)
  rw [lg_entry_eq]
  generalize (lg_sl ([.ref (ad 18), .int x1, .int x2, .int x3, .int x4, .int x5]) ++ List.replicate (7 - (lg_sl ([.ref (ad 18), .int x1, .int x2, .int x3, .int x4, .int x5])).length) Slot.unset).toArray = ls at hl ⊢
  have hl : lv_has ls 7 [(0, .ref (ad 18)), (1, .int x1), (2, .int x2), (3, .int x3), (4, .int x4), (5, .int x5)] := hl
  refine lv_iload_n hx hb dc_S_spread_0 rfl (lv_at hl 1 rfl) ?_
  refine w_cSi (y := yn_S_isMap) (index := 53) (n := 1) (own := Rn_S) hx hb hml hown hts hK hN hP hS (ct_S_isMap l D ad cA w hJ x1 st _ h) mw_0 mw_1 mw_2 mw_3 (by decide +kernel) ⟨Nat.le_of_ble_eq_true rfl, Nat.le_of_ble_eq_true rfl⟩ rfl rfl rfl hl.1 rfl (lv_room (Nat.le_of_ble_eq_true rfl)) dc_S_spread_1 ⟨Nat.zero_le _, Nat.zero_le _⟩ (fun r102 st101 H locs hP hS h => ?_)
  refine lv_if_eq (tgt := 22) hx hb dc_S_spread_4 (by decide) (fun c => ?_) (fun c => ?_)
  · have h := h.1 c
    refine lv_iconst (v := (-1)) hx hb dc_S_spread_22 (by decide) ?_
    exact w_iret hx hb hr hlocks hP hS h dc_S_spread_23
  · have h := h.2 c
    refine lv_iload_n hx hb dc_S_spread_7 rfl (lv_at hl 2 rfl) ?_
    refine w_cSi (y := yn_S_isKey) (index := 57) (n := 1) (own := Rn_S) hx hb hml hown hts hK hN hP hS (ct_S_isKey l D ad cA w hJ x2 st101 _ h) mw_4 mw_5 mw_6 mw_3 (by decide +kernel) ⟨Nat.le_of_ble_eq_true rfl, Nat.le_of_ble_eq_true rfl⟩ rfl rfl rfl hl.1 rfl (lv_room (Nat.le_of_ble_eq_true rfl)) dc_S_spread_8 ⟨Nat.zero_le _, Nat.zero_le _⟩ (fun r104 st103 H locs hP hS h => ?_)
    refine lv_if_eq (tgt := 22) hx hb dc_S_spread_11 (by decide) (fun c => ?_) (fun c => ?_)
    · have h := h.1 c
      refine lv_iconst (v := (-1)) hx hb dc_S_spread_22 (by decide) ?_
      exact w_iret hx hb hr hlocks hP hS h dc_S_spread_23
    · have h := h.2 c
      refine lv_iload hx hb dc_S_spread_14 (lv_at hl 5 rfl) ?_
      refine w_cSi (y := yn_S_isStamp) (index := 60) (n := 1) (own := Rn_S) hx hb hml hown hts hK hN hP hS (ct_S_isStamp l D ad cA w hJ x5 st103 _ h) mw_8 mw_9 mw_10 mw_3 (by decide +kernel) ⟨Nat.le_of_ble_eq_true rfl, Nat.le_of_ble_eq_true rfl⟩ rfl rfl rfl hl.1 rfl (lv_room (Nat.le_of_ble_eq_true rfl)) dc_S_spread_16 ⟨Nat.zero_le _, Nat.zero_le _⟩ (fun r106 st105 H locs hP hS h => ?_)
      refine lv_if_ne (tgt := 24) hx hb dc_S_spread_19 (by decide) (fun c => ?_) (fun c => ?_)
      · have h := h.1 c
        refine lv_iload_n hx hb dc_S_spread_24 rfl (lv_at hl 3 rfl) ?_
        refine lv_iconst (v := 1) hx hb dc_S_spread_25 (by decide) ?_
        refine lv_icmp_lt (tgt := 49) hx hb dc_S_spread_26 (by decide) (fun c => ?_) (fun c => ?_)
        · have h := h.1 c
          refine lv_iconst (v := (-1)) hx hb dc_S_spread_49 (by decide) ?_
          exact w_iret hx hb hr hlocks hP hS h dc_S_spread_50
        · have h := h.2 c
          refine lv_iload_n hx hb dc_S_spread_29 rfl (lv_at hl 3 rfl) ?_
          refine lv_sipush (v := 4095) hx hb dc_S_spread_30 (by decide) ?_
          refine lv_icmp_gt (tgt := 49) hx hb dc_S_spread_33 (by decide) (fun c => ?_) (fun c => ?_)
          · have h := h.1 c
            refine lv_iconst (v := (-1)) hx hb dc_S_spread_49 (by decide) ?_
            exact w_iret hx hb hr hlocks hP hS h dc_S_spread_50
          · have h := h.2 c
            refine lv_iload hx hb dc_S_spread_36 (lv_at hl 4 rfl) ?_
            refine lv_if_lt (tgt := 49) hx hb dc_S_spread_38 (by decide) (fun c => ?_) (fun c => ?_)
            · have h := h.1 c
              refine lv_iconst (v := (-1)) hx hb dc_S_spread_49 (by decide) ?_
              exact w_iret hx hb hr hlocks hP hS h dc_S_spread_50
            · have h := h.2 c
              refine lv_iload hx hb dc_S_spread_41 (lv_at hl 4 rfl) ?_
              refine lv_sipush (v := 600) hx hb dc_S_spread_43 (by decide) ?_
              refine lv_icmp_le (tgt := 51) hx hb dc_S_spread_46 (by decide) (fun c => ?_) (fun c => ?_)
              · have h := h.1 c
                refine lv_iconst (v := 0) hx hb dc_S_spread_51 (by decide) ?_
                refine lv_istore (lv' := [(6, .int 0), (0, .ref (ad 18)), (1, .int x1), (2, .int x2), (3, .int x3), (4, .int x4), (5, .int x5)]) hx hb dc_S_spread_52 hl (by decide) rfl (fun ls hl => ?_)
                obtain ⟨n, h⟩ := h
                exact Lp_54 n x1 x2 x3 x4 x5 0 st105 h _ _ hP hS ls (lv_sub hl [1, 2, 3, 4, 5, 6, 0] rfl)
              · have h := h.2 c
                refine lv_iconst (v := (-1)) hx hb dc_S_spread_49 (by decide) ?_
                exact w_iret hx hb hr hlocks hP hS h dc_S_spread_50
      · have h := h.2 c
        refine lv_iconst (v := (-1)) hx hb dc_S_spread_22 (by decide) ?_
        exact w_iret hx hb hr hlocks hP hS h dc_S_spread_23
