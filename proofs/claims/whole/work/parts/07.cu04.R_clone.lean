set_option maxHeartbeats 4000000 in
set_option maxRecDepth 100000 in
theorem ct_R_clone (l : Launch) (D : va_G) (ad : Nat → Nat) (cA : Nat → ClassId) (w : Nat) (hJ : Jn_ ad) (x1 : Int32) (x2 : Int32) (st : St_) (post : Int32 → St_ → Prop) (h : wp_R_clone w x1 x2 st post) : Met l yn_R_clone (Cond.code yn_R_clone bc_R_clone 4 (some .int) :: Wk_) rm_R_clone (Pw_ D ad cA w st [.ref (ad 24), .int x1, .int x2]) (Qi_ D ad cA w post) 0 0 (Aw_ ad) := by
  refine Met.ofW (cc := bc_R_clone) (maxL := 4) (ret := (some .int)) (by decide) rfl ?_
  intro p e s m args below meth c s₁ B hml hv
  obtain ⟨rfl, hP, hK, hN⟩ := hv
  have hx := B.exec
  have hb := B.bytes
  have hr := B.returns
  have hts : ∀ v ∈ Wk_, v.before [.ref (ad 24), .int x1, .int x2].toArray s = true := fun v hv => atoms_spec (ws := Cond.code yn_R_clone bc_R_clone 4 (some .int) :: Wk_) B.pre v (List.mem_cons_of_mem _ hv)
  have hown : s.vm.findClass Rn_R = some m.cls := findClass_of_methodNamed B.named
  have hlocks := B.notSynchronized
  have hS : va_S (Aw_ ad) s.heap s.heap [] := va_S.rf
  have Lp_50 : ∀ (n : Nat) (y1 y2 y3 : Int32) (st : St_), wp_R_clone_50 w post n y1 y2 y3 st → ∀ (H : Heap) (locs : List Loc), va_P D sC_ (wd_ ad cA w st) H → va_S (Aw_ ad) s.heap H locs → ∀ ls : Array Slot, lv_has ls 4 [(0, .ref (ad 24)), (1, .int y1), (2, .int y2), (3, .int y3)] → W p l e (headSpec (Cond.code yn_R_clone bc_R_clone 4 (some .int) :: Wk_) rm_R_clone).room s m [.ref (ad 24), .int x1, .int x2].toArray below meth c H locs 0 0 (MQ below (Qi_ D ad cA w post) [.ref (ad 24), .int x1, .int x2].toArray s 0 0 (Aw_ ad)) (F0 m 50 ls []) := by
    intro n
    induction n with
    | zero => intro y1 y2 y3 st h; exact h.elim
    | succ n ih =>
      intro y1 y2 y3 st h H locs hP hS ls hl
      refine lv_iload_n hx hb dc_R_clone_50 rfl (lv_at hl 3 rfl) ?_
      refine lv_sipush (v := 4096) hx hb dc_R_clone_51 (by decide) ?_
      refine lv_icmp_ge (tgt := 87) hx hb dc_R_clone_54 (by decide) (fun c => ?_) (fun c => ?_)
      · have h := h.1 c
        refine lv_aload_n hx hb dc_R_clone_87 rfl (lv_at hl 0 rfl) ?_
        refine va_get (D := D) (ci := 5) (v := .ref (ad 16)) (C := Rn_R) (T := Fn_R) (N := 4) hx hb hts in_R hown hK hP 24 rfl rfl 2 (by decide) (hts _ mw_159) (fun _ h9 => h9) rfl dc_R_clone_88 ?_
        refine lv_iload_n hx hb dc_R_clone_91 rfl (lv_at hl 1 rfl) ?_
        refine lv_aload_n hx hb dc_R_clone_92 rfl (lv_at hl 0 rfl) ?_
        refine va_get (D := D) (ci := 5) (v := .ref (ad 16)) (C := Rn_R) (T := Fn_R) (N := 4) hx hb hts in_R hown hK hP 24 rfl rfl 2 (by decide) (hts _ mw_159) (fun _ h9 => h9) rfl dc_R_clone_93 ?_
        refine lv_iload_n hx hb dc_R_clone_96 rfl (lv_at hl 2 rfl) ?_
        refine w_ild 16 (by decide) hx hb hK hP h.1 dc_R_clone_97 ?_
        have h := h.2
        refine w_ist 16 (by decide) hJ hx hb hK hP hS h.1 dc_R_clone_98 (fun H locs hP hS => ?_)
        obtain ⟨st107, est107⟩ : ∃ z : St_, z = ws_1 st 16 (y1).toNatClampNeg (st 16 (y2).toNatClampNeg) := ⟨_, rfl⟩
        rw [← est107] at hP
        have h := h.2 st107 est107
        refine lv_aload_n hx hb dc_R_clone_99 rfl (lv_at hl 0 rfl) ?_
        refine va_get (D := D) (ci := 5) (v := .ref (ad 16)) (C := Rn_R) (T := Fn_R) (N := 4) hx hb hts in_R hown hK hP 24 rfl rfl 2 (by decide) (hts _ mw_159) (fun _ h9 => h9) rfl dc_R_clone_100 ?_
        refine lv_iload_n hx hb dc_R_clone_103 rfl (lv_at hl 1 rfl) ?_
        refine w_ild 16 (by decide) hx hb hK hP h.1 dc_R_clone_104 ?_
        have h := h.2
        exact w_iret hx hb hr hlocks hP hS h dc_R_clone_105
      · have h := h.2 c
        refine lv_aload_n hx hb dc_R_clone_57 rfl (lv_at hl 0 rfl) ?_
        refine va_get (D := D) (ci := 5) (v := .ref (ad 14)) (C := Rn_R) (T := Fn_R) (N := 4) hx hb hts in_R hown hK hP 24 rfl rfl 0 (by decide) (hts _ mw_158) (fun _ h9 => h9) rfl dc_R_clone_58 ?_
        refine lv_sipush (v := 4096) hx hb dc_R_clone_61 (by decide) ?_
        refine lv_iload_n hx hb dc_R_clone_64 rfl (lv_at hl 1 rfl) ?_
        refine lv_imul hx hb dc_R_clone_65 ?_
        refine lv_iload_n hx hb dc_R_clone_66 rfl (lv_at hl 3 rfl) ?_
        refine lv_iadd hx hb dc_R_clone_67 ?_
        refine lv_aload_n hx hb dc_R_clone_68 rfl (lv_at hl 0 rfl) ?_
        refine va_get (D := D) (ci := 5) (v := .ref (ad 14)) (C := Rn_R) (T := Fn_R) (N := 4) hx hb hts in_R hown hK hP 24 rfl rfl 0 (by decide) (hts _ mw_158) (fun _ h9 => h9) rfl dc_R_clone_69 ?_
        refine lv_sipush (v := 4096) hx hb dc_R_clone_72 (by decide) ?_
        refine lv_iload_n hx hb dc_R_clone_75 rfl (lv_at hl 2 rfl) ?_
        refine lv_imul hx hb dc_R_clone_76 ?_
        refine lv_iload_n hx hb dc_R_clone_77 rfl (lv_at hl 3 rfl) ?_
        refine lv_iadd hx hb dc_R_clone_78 ?_
        refine w_ild 14 (by decide) hx hb hK hP h.1 dc_R_clone_79 ?_
        have h := h.2
        refine w_ist 14 (by decide) hJ hx hb hK hP hS h.1 dc_R_clone_80 (fun H locs hP hS => ?_)
        obtain ⟨st108, est108⟩ : ∃ z : St_, z = ws_1 st 14 (((4096 * y1) + y3)).toNatClampNeg (st 14 (((4096 * y2) + y3)).toNatClampNeg) := ⟨_, rfl⟩
        rw [← est108] at hP
        have h := h.2 st108 est108
        obtain ⟨x109, ex109⟩ : ∃ y : Int32, y = y3 + 1 := ⟨_, rfl⟩
        have h := h x109 ex109
        refine lv_iinc (v := x109) (lv' := [(3, .int x109), (0, .ref (ad 24)), (1, .int y1), (2, .int y2)]) hx hb dc_R_clone_81 hl (k := 3) rfl (by rw [ex109]; rfl) (by decide) rfl (fun ls hl => ?_)
        refine lv_goto (tgt := 50) hx hb dc_R_clone_84 (by decide) ?_
        exact ih y1 y2 x109 st108 h _ _ hP hS ls (lv_sub hl [1, 2, 3, 0] rfl)
  have hl := lv_entry ([.ref (ad 24), .int x1, .int x2]) (n := 4) (Nat.le_of_ble_eq_true rfl)
  rw [lg_entry_eq]
  generalize (lg_sl ([.ref (ad 24), .int x1, .int x2]) ++ List.replicate (4 - (lg_sl ([.ref (ad 24), .int x1, .int x2])).length) Slot.unset).toArray = ls at hl ⊢
  have hl : lv_has ls 4 [(0, .ref (ad 24)), (1, .int x1), (2, .int x2)] := hl
  refine lv_iload_n hx hb dc_R_clone_0 rfl (lv_at hl 1 rfl) ?_
  refine w_cSi (y := yn_R_isMap) (index := 24) (n := 1) (own := Rn_R) hx hb hml hown hts hK hN hP hS (ct_R_isMap l D ad cA w hJ x1 st _ h) mw_147 mw_148 mw_149 mw_150 (by decide +kernel) ⟨Nat.le_of_ble_eq_true rfl, Nat.le_of_ble_eq_true rfl⟩ rfl rfl rfl hl.1 rfl (lv_room (Nat.le_of_ble_eq_true rfl)) dc_R_clone_1 ⟨Nat.zero_le _, Nat.zero_le _⟩ (fun r102 st101 H locs hP hS h => ?_)
  refine lv_if_eq (tgt := 19) hx hb dc_R_clone_4 (by decide) (fun c => ?_) (fun c => ?_)
  · have h := h.1 c
    refine lv_iconst (v := (-1)) hx hb dc_R_clone_19 (by decide) ?_
    exact w_iret hx hb hr hlocks hP hS h dc_R_clone_20
  · have h := h.2 c
    refine lv_iload_n hx hb dc_R_clone_7 rfl (lv_at hl 2 rfl) ?_
    refine w_cSi (y := yn_R_isMap) (index := 24) (n := 1) (own := Rn_R) hx hb hml hown hts hK hN hP hS (ct_R_isMap l D ad cA w hJ x2 st101 _ h) mw_147 mw_148 mw_149 mw_150 (by decide +kernel) ⟨Nat.le_of_ble_eq_true rfl, Nat.le_of_ble_eq_true rfl⟩ rfl rfl rfl hl.1 rfl (lv_room (Nat.le_of_ble_eq_true rfl)) dc_R_clone_8 ⟨Nat.zero_le _, Nat.zero_le _⟩ (fun r104 st103 H locs hP hS h => ?_)
    refine lv_if_eq (tgt := 19) hx hb dc_R_clone_11 (by decide) (fun c => ?_) (fun c => ?_)
    · have h := h.1 c
      refine lv_iconst (v := (-1)) hx hb dc_R_clone_19 (by decide) ?_
      exact w_iret hx hb hr hlocks hP hS h dc_R_clone_20
    · have h := h.2 c
      refine lv_iload_n hx hb dc_R_clone_14 rfl (lv_at hl 1 rfl) ?_
      refine lv_iload_n hx hb dc_R_clone_15 rfl (lv_at hl 2 rfl) ?_
      refine lv_icmp_ne (tgt := 21) hx hb dc_R_clone_16 (by decide) (fun c => ?_) (fun c => ?_)
      · have h := h.1 c
        refine lv_aload_n hx hb dc_R_clone_21 rfl (lv_at hl 0 rfl) ?_
        refine w_cVi (y := yn_R_all) (C := Rn_R) (index := 34) (n := 0) (own := Rn_R) 24 hx hb hml hown hts hK hN hP hS (ct_R_all l D ad cA w hJ st103 _ h) mw_160 mw_161 mw_162 mw_163 mw_150 (by decide +kernel) ⟨Nat.le_of_ble_eq_true rfl, Nat.le_of_ble_eq_true rfl⟩ rfl rfl rfl rfl rfl hl.1 rfl (lv_room (Nat.le_of_ble_eq_true rfl)) dc_R_clone_22 ⟨Nat.zero_le _, Nat.zero_le _⟩ (fun r106 st105 H locs hP hS h => ?_)
        refine lv_aload_n hx hb dc_R_clone_25 rfl (lv_at hl 0 rfl) ?_
        refine va_get (D := D) (ci := 5) (v := .ref (ad 16)) (C := Rn_R) (T := Fn_R) (N := 4) hx hb hts in_R hown hK hP 24 rfl rfl 2 (by decide) (hts _ mw_159) (fun _ h9 => h9) rfl dc_R_clone_26 ?_
        refine lv_iload_n hx hb dc_R_clone_29 rfl (lv_at hl 1 rfl) ?_
        refine w_ild 16 (by decide) hx hb hK hP h.1 dc_R_clone_30 ?_
        have h := h.2
        refine lv_isub hx hb dc_R_clone_31 ?_
        refine lv_aload_n hx hb dc_R_clone_32 rfl (lv_at hl 0 rfl) ?_
        refine va_get (D := D) (ci := 5) (v := .ref (ad 16)) (C := Rn_R) (T := Fn_R) (N := 4) hx hb hts in_R hown hK hP 24 rfl rfl 2 (by decide) (hts _ mw_159) (fun _ h9 => h9) rfl dc_R_clone_33 ?_
        refine lv_iload_n hx hb dc_R_clone_36 rfl (lv_at hl 2 rfl) ?_
        refine w_ild 16 (by decide) hx hb hK hP h.1 dc_R_clone_37 ?_
        have h := h.2
        refine lv_iadd hx hb dc_R_clone_38 ?_
        refine lv_sipush (v := 600) hx hb dc_R_clone_39 (by decide) ?_
        refine lv_icmp_le (tgt := 48) hx hb dc_R_clone_42 (by decide) (fun c => ?_) (fun c => ?_)
        · have h := h.1 c
          refine lv_iconst (v := 0) hx hb dc_R_clone_48 (by decide) ?_
          refine lv_istore_n (lv' := [(3, .int 0), (0, .ref (ad 24)), (1, .int x1), (2, .int x2)]) hx hb dc_R_clone_49 rfl hl (by decide) rfl (fun ls hl => ?_)
          obtain ⟨n, h⟩ := h
          exact Lp_50 n x1 x2 0 st105 h _ _ hP hS ls (lv_sub hl [1, 2, 3, 0] rfl)
        · have h := h.2 c
          refine lv_bipush (v := (-3)) hx hb dc_R_clone_45 (by decide) ?_
          exact w_iret hx hb hr hlocks hP hS h dc_R_clone_47
      · have h := h.2 c
        refine lv_iconst (v := (-1)) hx hb dc_R_clone_19 (by decide) ?_
        exact w_iret hx hb hr hlocks hP hS h dc_R_clone_20
