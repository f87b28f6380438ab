set_option maxHeartbeats 4000000 in
set_option maxRecDepth 100000 in
theorem ct_S_clone (l : Launch) (D : va_G) (ad : Nat → Nat) (cA : Nat → ClassId) (w : Nat) (hJ : Jn_ ad) (x1 : Int32) (x2 : Int32) (st : St_) (post : Int32 → St_ → Prop) (h : wp_S_clone w x1 x2 st post) : Met l yn_S_clone (Cond.code yn_S_clone bc_S_clone 3 (some .int) :: Wk_) rm_S_clone (Pw_ D ad cA w st [.ref (ad 18), .int x1, .int x2]) (Qi_ D ad cA w post) 0 0 (Aw_ ad) := by
  refine Met.ofW (cc := bc_S_clone) (maxL := 3) (ret := (some .int)) (by decide) rfl ?_
  intro p e s m args below meth c s₁ B hml hv
  obtain ⟨rfl, hP, hK, hN⟩ := hv
  have hx := B.exec
  have hb := B.bytes
  have hr := B.returns
  have hts : ∀ v ∈ Wk_, v.before [.ref (ad 18), .int x1, .int x2].toArray s = true := fun v hv => atoms_spec (ws := Cond.code yn_S_clone bc_S_clone 3 (some .int) :: Wk_) B.pre v (List.mem_cons_of_mem _ hv)
  have hown : s.vm.findClass Rn_S = some m.cls := findClass_of_methodNamed B.named
  have hlocks := B.notSynchronized
  have hS : va_S (Aw_ ad) s.heap s.heap [] := va_S.rf
  have hl := lv_entry ([.ref (ad 18), .int x1, .int x2]) (n := 3) (Nat.le_of_ble_eq_true rfl)
  rw [lg_entry_eq]
  generalize (lg_sl ([.ref (ad 18), .int x1, .int x2]) ++ List.replicate (3 - (lg_sl ([.ref (ad 18), .int x1, .int x2])).length) Slot.unset).toArray = ls at hl ⊢
  have hl : lv_has ls 3 [(0, .ref (ad 18)), (1, .int x1), (2, .int x2)] := hl
  refine lv_iload_n hx hb dc_S_clone_0 rfl (lv_at hl 1 rfl) ?_
  refine w_cSi (y := yn_S_isMap) (index := 53) (n := 1) (own := Rn_S) hx hb hml hown hts hK hN hP hS (ct_S_isMap l D ad cA w hJ x1 st _ h) mw_0 mw_1 mw_2 mw_3 (by decide +kernel) ⟨Nat.le_of_ble_eq_true rfl, Nat.le_of_ble_eq_true rfl⟩ rfl rfl rfl hl.1 rfl (lv_room (Nat.le_of_ble_eq_true rfl)) dc_S_clone_1 ⟨Nat.zero_le _, Nat.zero_le _⟩ (fun r102 st101 H locs hP hS h => ?_)
  refine lv_if_eq (tgt := 19) hx hb dc_S_clone_4 (by decide) (fun c => ?_) (fun c => ?_)
  · have h := h.1 c
    refine lv_iconst (v := (-1)) hx hb dc_S_clone_19 (by decide) ?_
    exact w_iret hx hb hr hlocks hP hS h dc_S_clone_20
  · have h := h.2 c
    refine lv_iload_n hx hb dc_S_clone_7 rfl (lv_at hl 2 rfl) ?_
    refine w_cSi (y := yn_S_isMap) (index := 53) (n := 1) (own := Rn_S) hx hb hml hown hts hK hN hP hS (ct_S_isMap l D ad cA w hJ x2 st101 _ h) mw_0 mw_1 mw_2 mw_3 (by decide +kernel) ⟨Nat.le_of_ble_eq_true rfl, Nat.le_of_ble_eq_true rfl⟩ rfl rfl rfl hl.1 rfl (lv_room (Nat.le_of_ble_eq_true rfl)) dc_S_clone_8 ⟨Nat.zero_le _, Nat.zero_le _⟩ (fun r104 st103 H locs hP hS h => ?_)
    refine lv_if_eq (tgt := 19) hx hb dc_S_clone_11 (by decide) (fun c => ?_) (fun c => ?_)
    · have h := h.1 c
      refine lv_iconst (v := (-1)) hx hb dc_S_clone_19 (by decide) ?_
      exact w_iret hx hb hr hlocks hP hS h dc_S_clone_20
    · have h := h.2 c
      refine lv_iload_n hx hb dc_S_clone_14 rfl (lv_at hl 1 rfl) ?_
      refine lv_iload_n hx hb dc_S_clone_15 rfl (lv_at hl 2 rfl) ?_
      refine lv_icmp_ne (tgt := 21) hx hb dc_S_clone_16 (by decide) (fun c => ?_) (fun c => ?_)
      · have h := h.1 c
        refine lv_aload_n hx hb dc_S_clone_21 rfl (lv_at hl 0 rfl) ?_
        refine va_get (D := D) (ci := 0) (v := .ref (ad 22)) (C := Rn_S) (T := Fn_S) (N := 5) hx hb hts in_S hown hK hP 18 rfl rfl 3 (by decide) (hts _ mw_12) (fun _ h9 => h9) rfl dc_S_clone_22 ?_
        refine va_getN (D := D) (ci := 4) (v := .int (st103 19 0)) (C := Rn_P) (T := Fn_P) (N := 3) (host := nh_) hx hb hts in_P hown hK hP 22 rfl rfl 2 (by decide) (va_Nw.use rfl (hN.1 _ nf_2)) (fun _ h9 => h9) rfl dc_S_clone_25 ?_
        refine lv_aload_n hx hb dc_S_clone_28 rfl (lv_at hl 0 rfl) ?_
        refine va_get (D := D) (ci := 0) (v := .ref (ad 22)) (C := Rn_S) (T := Fn_S) (N := 5) hx hb hts in_S hown hK hP 18 rfl rfl 3 (by decide) (hts _ mw_12) (fun _ h9 => h9) rfl dc_S_clone_29 ?_
        refine va_getN (D := D) (ci := 4) (v := .ref (ad 11)) (C := Rn_P) (T := Fn_P) (N := 3) (host := nh_) hx hb hts in_P hown hK hP 22 rfl rfl 1 (by decide) (va_Nw.use rfl (hN.1 _ nf_1)) (fun _ h9 => h9) rfl dc_S_clone_32 ?_
        refine lv_iload_n hx hb dc_S_clone_35 rfl (lv_at hl 1 rfl) ?_
        refine w_ild 11 (by decide) hx hb hK hP h.1 dc_S_clone_36 ?_
        have h := h.2
        refine lv_isub hx hb dc_S_clone_37 ?_
        refine lv_aload_n hx hb dc_S_clone_38 rfl (lv_at hl 0 rfl) ?_
        refine va_get (D := D) (ci := 0) (v := .ref (ad 22)) (C := Rn_S) (T := Fn_S) (N := 5) hx hb hts in_S hown hK hP 18 rfl rfl 3 (by decide) (hts _ mw_12) (fun _ h9 => h9) rfl dc_S_clone_39 ?_
        refine va_getN (D := D) (ci := 4) (v := .ref (ad 11)) (C := Rn_P) (T := Fn_P) (N := 3) (host := nh_) hx hb hts in_P hown hK hP 22 rfl rfl 1 (by decide) (va_Nw.use rfl (hN.1 _ nf_1)) (fun _ h9 => h9) rfl dc_S_clone_42 ?_
        refine lv_iload_n hx hb dc_S_clone_45 rfl (lv_at hl 2 rfl) ?_
        refine w_ild 11 (by decide) hx hb hK hP h.1 dc_S_clone_46 ?_
        have h := h.2
        refine lv_iadd hx hb dc_S_clone_47 ?_
        refine lv_sipush (v := 600) hx hb dc_S_clone_48 (by decide) ?_
        refine lv_icmp_le (tgt := 57) hx hb dc_S_clone_51 (by decide) (fun c => ?_) (fun c => ?_)
        · have h := h.1 c
          refine lv_aload_n hx hb dc_S_clone_57 rfl (lv_at hl 0 rfl) ?_
          refine lv_aload_n hx hb dc_S_clone_58 rfl (lv_at hl 0 rfl) ?_
          refine va_get (D := D) (ci := 0) (v := .ref (ad 22)) (C := Rn_S) (T := Fn_S) (N := 5) hx hb hts in_S hown hK hP 18 rfl rfl 3 (by decide) (hts _ mw_12) (fun _ h9 => h9) rfl dc_S_clone_59 ?_
          refine lv_iload_n hx hb dc_S_clone_62 rfl (lv_at hl 1 rfl) ?_
          refine lv_aload_n hx hb dc_S_clone_63 rfl (lv_at hl 0 rfl) ?_
          refine va_get (D := D) (ci := 0) (v := .ref (ad 22)) (C := Rn_S) (T := Fn_S) (N := 5) hx hb hts in_S hown hK hP 18 rfl rfl 3 (by decide) (hts _ mw_12) (fun _ h9 => h9) rfl dc_S_clone_64 ?_
          refine va_getN (D := D) (ci := 4) (v := .ref (ad 10)) (C := Rn_P) (T := Fn_P) (N := 3) (host := nh_) hx hb hts in_P hown hK hP 22 rfl rfl 0 (by decide) (va_Nw.use rfl (hN.1 _ nf_0)) (fun _ h9 => h9) rfl dc_S_clone_67 ?_
          refine lv_iload_n hx hb dc_S_clone_70 rfl (lv_at hl 2 rfl) ?_
          refine w_ild 10 (by decide) hx hb hK hP h.1 dc_S_clone_71 ?_
          have h := h.2
          refine lv_aload_n hx hb dc_S_clone_72 rfl (lv_at hl 0 rfl) ?_
          refine va_get (D := D) (ci := 0) (v := .ref (ad 22)) (C := Rn_S) (T := Fn_S) (N := 5) hx hb hts in_S hown hK hP 18 rfl rfl 3 (by decide) (hts _ mw_12) (fun _ h9 => h9) rfl dc_S_clone_73 ?_
          refine va_getN (D := D) (ci := 4) (v := .ref (ad 11)) (C := Rn_P) (T := Fn_P) (N := 3) (host := nh_) hx hb hts in_P hown hK hP 22 rfl rfl 1 (by decide) (va_Nw.use rfl (hN.1 _ nf_1)) (fun _ h9 => h9) rfl dc_S_clone_76 ?_
          refine lv_iload_n hx hb dc_S_clone_79 rfl (lv_at hl 2 rfl) ?_
          refine w_ild 11 (by decide) hx hb hK hP h.1 dc_S_clone_80 ?_
          have h := h.2
          refine w_cVv (y := yn_S_lead) (C := Rn_S) (index := 94) (n := 4) (own := Rn_S) 18 hx hb hml hown hts hK hN hP hS (ct_S_lead_22 l D ad cA w hJ x1 (st103 10 (x2).toNatClampNeg) (st103 11 (x2).toNatClampNeg) st103 _ h) mw_234 mw_235 mw_236 mw_237 mw_3 (by decide +kernel) ⟨Nat.le_of_ble_eq_true rfl, Nat.le_of_ble_eq_true rfl⟩ rfl rfl rfl rfl rfl hl.1 rfl (lv_room (Nat.le_of_ble_eq_true rfl)) dc_S_clone_81 ⟨Nat.zero_le _, Nat.zero_le _⟩ (fun st105 H locs hP hS h => ?_)
          refine lv_aload_n hx hb dc_S_clone_84 rfl (lv_at hl 0 rfl) ?_
          refine va_get (D := D) (ci := 0) (v := .ref (ad 22)) (C := Rn_S) (T := Fn_S) (N := 5) hx hb hts in_S hown hK hP 18 rfl rfl 3 (by decide) (hts _ mw_12) (fun _ h9 => h9) rfl dc_S_clone_85 ?_
          refine va_getN (D := D) (ci := 4) (v := .ref (ad 11)) (C := Rn_P) (T := Fn_P) (N := 3) (host := nh_) hx hb hts in_P hown hK hP 22 rfl rfl 1 (by decide) (va_Nw.use rfl (hN.1 _ nf_1)) (fun _ h9 => h9) rfl dc_S_clone_88 ?_
          refine lv_iload_n hx hb dc_S_clone_91 rfl (lv_at hl 1 rfl) ?_
          refine w_ild 11 (by decide) hx hb hK hP h.1 dc_S_clone_92 ?_
          have h := h.2
          exact w_iret hx hb hr hlocks hP hS h dc_S_clone_93
        · have h := h.2 c
          refine lv_bipush (v := (-3)) hx hb dc_S_clone_54 (by decide) ?_
          exact w_iret hx hb hr hlocks hP hS h dc_S_clone_56
      · have h := h.2 c
        refine lv_iconst (v := (-1)) hx hb dc_S_clone_19 (by decide) ?_
        exact w_iret hx hb hr hlocks hP hS h dc_S_clone_20
