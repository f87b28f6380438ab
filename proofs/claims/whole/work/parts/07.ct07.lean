set_option maxHeartbeats 4000000 in
set_option maxRecDepth 100000 in
theorem ct_I_faultOfTree (l : Launch) (D : va_G) (ad : Nat → Nat) (cA : Nat → ClassId) (w : Nat) (hJ : Jn_ ad) (x1 : Int32) (x2 : Int32) (x3 : Int32) (st : St_) (post : Int32 → St_ → Prop) (h : wp_I_faultOfTree w x1 x2 x3 st post) : Met l yn_I_faultOfTree (Cond.code yn_I_faultOfTree bc_I_faultOfTree 6 (some .int) :: Wk_) rm_I_faultOfTree (Pw_ D ad cA w st [.ref (ad 21), .int x1, .int x2, .int x3]) (Qi_ D ad cA w post) 0 0 (Aw_ ad) := by
  refine Met.ofW (cc := bc_I_faultOfTree) (maxL := 6) (ret := (some .int)) (by decide) rfl ?_
  intro p e s m args below meth c s₁ B hml hv
  obtain ⟨rfl, hP, hK, hN⟩ := hv
  have hx := B.exec
  have hb := B.bytes
  have hr := B.returns
  have hts : ∀ v ∈ Wk_, v.before [.ref (ad 21), .int x1, .int x2, .int x3].toArray s = true := fun v hv => atoms_spec (ws := Cond.code yn_I_faultOfTree bc_I_faultOfTree 6 (some .int) :: Wk_) B.pre v (List.mem_cons_of_mem _ hv)
  have hown : s.vm.findClass Rn_I = some m.cls := findClass_of_methodNamed B.named
  have hlocks := B.notSynchronized
  have hS : va_S (Aw_ ad) s.heap s.heap [] := va_S.rf
  have hl := lv_entry ([.ref (ad 21), .int x1, .int x2, .int x3]) (n := 6) (Nat.le_of_ble_eq_true rfl)
  rw [lg_entry_eq]
  generalize (lg_sl ([.ref (ad 21), .int x1, .int x2, .int x3]) ++ List.replicate (6 - (lg_sl ([.ref (ad 21), .int x1, .int x2, .int x3])).length) Slot.unset).toArray = ls at hl ⊢
  have hl : lv_has ls 6 [(0, .ref (ad 21)), (1, .int x1), (2, .int x2), (3, .int x3)] := hl
  refine lv_iload_n hx hb dc_I_faultOfTree_0 rfl (lv_at hl 1 rfl) ?_
  refine lv_if_ne (tgt := 14) hx hb dc_I_faultOfTree_1 (by decide) (fun c => ?_) (fun c => ?_)
  · have h := h.1 c
    refine lv_aload_n hx hb dc_I_faultOfTree_14 rfl (lv_at hl 0 rfl) ?_
    refine va_get (D := D) (ci := 3) (v := .ref (ad 19)) (C := Rn_I) (T := Fn_I) (N := 7) hx hb hts in_I hown hK hP 21 rfl rfl 0 (by decide) (hts _ mw_257) (fun _ h9 => h9) rfl dc_I_faultOfTree_15 ?_
    refine lv_iload_n hx hb dc_I_faultOfTree_18 rfl (lv_at hl 1 rfl) ?_
    refine w_cVi (y := yn_B_isBlock) (C := Rn_B) (index := 66) (n := 1) (own := Rn_I) 19 hx hb hml hown hts hK hN hP hS (ct_B_isBlock l D ad cA w hJ x1 st _ h) mw_14 mw_258 mw_16 mw_17 mw_18 (by decide +kernel) ⟨Nat.le_of_ble_eq_true rfl, Nat.le_of_ble_eq_true rfl⟩ rfl rfl rfl rfl rfl hl.1 rfl (lv_room (Nat.le_of_ble_eq_true rfl)) dc_I_faultOfTree_19 ⟨Nat.zero_le _, Nat.zero_le _⟩ (fun r102 st101 H locs hP hS h => ?_)
    refine lv_if_ne (tgt := 27) hx hb dc_I_faultOfTree_22 (by decide) (fun c => ?_) (fun c => ?_)
    · have h := h.1 c
      refine lv_aload_n hx hb dc_I_faultOfTree_27 rfl (lv_at hl 0 rfl) ?_
      refine va_get (D := D) (ci := 3) (v := .ref (ad 19)) (C := Rn_I) (T := Fn_I) (N := 7) hx hb hts in_I hown hK hP 21 rfl rfl 0 (by decide) (hts _ mw_257) (fun _ h9 => h9) rfl dc_I_faultOfTree_28 ?_
      refine lv_iload_n hx hb dc_I_faultOfTree_31 rfl (lv_at hl 1 rfl) ?_
      refine w_cVi (y := yn_B_level) (C := Rn_B) (index := 72) (n := 1) (own := Rn_I) 19 hx hb hml hown hts hK hN hP hS (ct_B_level l D ad cA w hJ x1 st101 _ h) mw_20 mw_259 mw_22 mw_23 mw_18 (by decide +kernel) ⟨Nat.le_of_ble_eq_true rfl, Nat.le_of_ble_eq_true rfl⟩ rfl rfl rfl rfl rfl hl.1 rfl (lv_room (Nat.le_of_ble_eq_true rfl)) dc_I_faultOfTree_32 ⟨Nat.zero_le _, Nat.zero_le _⟩ (fun r104 st103 H locs hP hS h => ?_)
      refine lv_istore (lv' := [(4, .int r104), (0, .ref (ad 21)), (1, .int x1), (2, .int x2), (3, .int x3)]) hx hb dc_I_faultOfTree_35 hl (by decide) rfl (fun ls hl => ?_)
      refine lv_aload_n hx hb dc_I_faultOfTree_37 rfl (lv_at hl 1 rfl) ?_
      refine va_get (D := D) (ci := 3) (v := .ref (ad 19)) (C := Rn_I) (T := Fn_I) (N := 7) hx hb hts in_I hown hK hP 21 rfl rfl 0 (by decide) (hts _ mw_257) (fun _ h9 => h9) rfl dc_I_faultOfTree_38 ?_
      refine lv_iload_n hx hb dc_I_faultOfTree_41 rfl (lv_at hl 2 rfl) ?_
      refine w_cVi (y := yn_B_size) (C := Rn_B) (index := 75) (n := 1) (own := Rn_I) 19 hx hb hml hown hts hK hN hP hS (ct_B_size l D ad cA w hJ x1 st103 _ h) mw_26 mw_260 mw_28 mw_29 mw_18 (by decide +kernel) ⟨Nat.le_of_ble_eq_true rfl, Nat.le_of_ble_eq_true rfl⟩ rfl rfl rfl rfl rfl hl.1 rfl (lv_room (Nat.le_of_ble_eq_true rfl)) dc_I_faultOfTree_42 ⟨Nat.zero_le _, Nat.zero_le _⟩ (fun r106 st105 H locs hP hS h => ?_)
      refine lv_iload hx hb dc_I_faultOfTree_45 (lv_at hl 0 rfl) ?_
      refine lv_if_ne (tgt := 54) hx hb dc_I_faultOfTree_47 (by decide) (fun c => ?_) (fun c => ?_)
      · have h := h.1 c
        refine lv_iconst (v := 2) hx hb dc_I_faultOfTree_54 (by decide) ?_
        refine lv_icmp_ge (tgt := 60) hx hb dc_I_faultOfTree_55 (by decide) (fun c => ?_) (fun c => ?_)
        · have h := h.1 c
          refine lv_aload_n hx hb dc_I_faultOfTree_60 rfl (lv_at hl 1 rfl) ?_
          refine lv_iload_n hx hb dc_I_faultOfTree_61 rfl (lv_at hl 2 rfl) ?_
          refine lv_iload hx hb dc_I_faultOfTree_62 (lv_at hl 0 rfl) ?_
          refine w_cVi (y := yn_I_faultBelow) (C := Rn_I) (index := 78) (n := 2) (own := Rn_I) 21 hx hb hml hown hts hK hN hP hS (ct_I_faultBelow l D ad cA w hJ 20 x1 r104 st105 _ h) mw_273 mw_274 mw_275 mw_276 mw_268 (by decide +kernel) ⟨Nat.le_of_ble_eq_true rfl, Nat.le_of_ble_eq_true rfl⟩ rfl rfl rfl rfl rfl hl.1 rfl (lv_room (Nat.le_of_ble_eq_true rfl)) dc_I_faultOfTree_64 ⟨Nat.zero_le _, Nat.zero_le _⟩ (fun r108 st107 H locs hP hS h => ?_)
          refine lv_istore (lv' := [(5, .int r108), (4, .int r104), (0, .ref (ad 21)), (1, .int x1), (2, .int x2), (3, .int x3)]) hx hb dc_I_faultOfTree_67 hl (by decide) rfl (fun ls hl => ?_)
          refine lv_iload hx hb dc_I_faultOfTree_69 (lv_at hl 0 rfl) ?_
          refine lv_if_eq (tgt := 77) hx hb dc_I_faultOfTree_71 (by decide) (fun c => ?_) (fun c => ?_)
          · have h := h.1 c
            refine lv_aload_n hx hb dc_I_faultOfTree_77 rfl (lv_at hl 2 rfl) ?_
            refine va_get (D := D) (ci := 3) (v := .ref (ad 7)) (C := Rn_I) (T := Fn_I) (N := 7) hx hb hts in_I hown hK hP 21 rfl rfl 4 (by decide) (hts _ mw_269) (fun _ h9 => h9) rfl dc_I_faultOfTree_78 ?_
            refine lv_iload_n hx hb dc_I_faultOfTree_81 rfl (lv_at hl 3 rfl) ?_
            refine w_ild 7 (by decide) hx hb hK hP h.1 dc_I_faultOfTree_82 ?_
            have h := h.2
            refine lv_iload_n hx hb dc_I_faultOfTree_83 rfl (lv_at hl 4 rfl) ?_
            refine lv_icmp_ne (tgt := 91) hx hb dc_I_faultOfTree_84 (by decide) (fun c => ?_) (fun c => ?_)
            · have h := h.1 c
              refine lv_iload_n hx hb dc_I_faultOfTree_91 rfl (lv_at hl 5 rfl) ?_
              exact w_iret hx hb hr hlocks hP hS h dc_I_faultOfTree_92
            · have h := h.2 c
              refine lv_iconst (v := 0) hx hb dc_I_faultOfTree_87 (by decide) ?_
              refine lv_goto (tgt := 92) hx hb dc_I_faultOfTree_88 (by decide) ?_
              exact w_iret hx hb hr hlocks hP hS h dc_I_faultOfTree_92
          · have h := h.2 c
            refine lv_iload hx hb dc_I_faultOfTree_74 (lv_at hl 0 rfl) ?_
            exact w_iret hx hb hr hlocks hP hS h dc_I_faultOfTree_76
        · have h := h.2 c
          refine lv_iload_n hx hb dc_I_faultOfTree_58 rfl (lv_at hl 2 rfl) ?_
          exact w_iret hx hb hr hlocks hP hS h dc_I_faultOfTree_59
      · have h := h.2 c
        refine lv_iconst (v := 1) hx hb dc_I_faultOfTree_50 (by decide) ?_
        refine lv_goto (tgt := 55) hx hb dc_I_faultOfTree_51 (by decide) ?_
        refine lv_icmp_ge (tgt := 60) hx hb dc_I_faultOfTree_55 (by decide) (fun c => ?_) (fun c => ?_)
        · have h := h.1 c
          refine lv_aload_n hx hb dc_I_faultOfTree_60 rfl (lv_at hl 1 rfl) ?_
          refine lv_iload_n hx hb dc_I_faultOfTree_61 rfl (lv_at hl 2 rfl) ?_
          refine lv_iload hx hb dc_I_faultOfTree_62 (lv_at hl 0 rfl) ?_
          refine w_cVi (y := yn_I_faultBelow) (C := Rn_I) (index := 78) (n := 2) (own := Rn_I) 21 hx hb hml hown hts hK hN hP hS (ct_I_faultBelow l D ad cA w hJ 20 x1 r104 st105 _ h) mw_273 mw_274 mw_275 mw_276 mw_268 (by decide +kernel) ⟨Nat.le_of_ble_eq_true rfl, Nat.le_of_ble_eq_true rfl⟩ rfl rfl rfl rfl rfl hl.1 rfl (lv_room (Nat.le_of_ble_eq_true rfl)) dc_I_faultOfTree_64 ⟨Nat.zero_le _, Nat.zero_le _⟩ (fun r110 st109 H locs hP hS h => ?_)
          refine lv_istore (lv' := [(5, .int r110), (4, .int r104), (0, .ref (ad 21)), (1, .int x1), (2, .int x2), (3, .int x3)]) hx hb dc_I_faultOfTree_67 hl (by decide) rfl (fun ls hl => ?_)
          refine lv_iload hx hb dc_I_faultOfTree_69 (lv_at hl 0 rfl) ?_
          refine lv_if_eq (tgt := 77) hx hb dc_I_faultOfTree_71 (by decide) (fun c => ?_) (fun c => ?_)
          · have h := h.1 c
            refine lv_aload_n hx hb dc_I_faultOfTree_77 rfl (lv_at hl 2 rfl) ?_
            refine va_get (D := D) (ci := 3) (v := .ref (ad 7)) (C := Rn_I) (T := Fn_I) (N := 7) hx hb hts in_I hown hK hP 21 rfl rfl 4 (by decide) (hts _ mw_269) (fun _ h9 => h9) rfl dc_I_faultOfTree_78 ?_
            refine lv_iload_n hx hb dc_I_faultOfTree_81 rfl (lv_at hl 3 rfl) ?_
            refine w_ild 7 (by decide) hx hb hK hP h.1 dc_I_faultOfTree_82 ?_
            have h := h.2
            refine lv_iload_n hx hb dc_I_faultOfTree_83 rfl (lv_at hl 4 rfl) ?_
            refine lv_icmp_ne (tgt := 91) hx hb dc_I_faultOfTree_84 (by decide) (fun c => ?_) (fun c => ?_)
            · have h := h.1 c
              refine lv_iload_n hx hb dc_I_faultOfTree_91 rfl (lv_at hl 5 rfl) ?_
              exact w_iret hx hb hr hlocks hP hS h dc_I_faultOfTree_92
            · have h := h.2 c
              refine lv_iconst (v := 0) hx hb dc_I_faultOfTree_87 (by decide) ?_
              refine lv_goto (tgt := 92) hx hb dc_I_faultOfTree_88 (by decide) ?_
              exact w_iret hx hb hr hlocks hP hS h dc_I_faultOfTree_92
          · have h := h.2 c
            refine lv_iload hx hb dc_I_faultOfTree_74 (lv_at hl 0 rfl) ?_
            exact w_iret hx hb hr hlocks hP hS h dc_I_faultOfTree_76
        · have h := h.2 c
          refine lv_iload_n hx hb dc_I_faultOfTree_58 rfl (lv_at hl 2 rfl) ?_
          exact w_iret hx hb hr hlocks hP hS h dc_I_faultOfTree_59
    · have h := h.2 c
      refine lv_iload_n hx hb dc_I_faultOfTree_25 rfl (lv_at hl 3 rfl) ?_
      exact w_iret hx hb hr hlocks hP hS h dc_I_faultOfTree_26
  · have h := h.2 c
    refine lv_iload_n hx hb dc_I_faultOfTree_4 rfl (lv_at hl 2 rfl) ?_
    refine lv_if_ne (tgt := 12) hx hb dc_I_faultOfTree_5 (by decide) (fun c => ?_) (fun c => ?_)
    · have h := h.1 c
      refine lv_iload_n hx hb dc_I_faultOfTree_12 rfl (lv_at hl 3 rfl) ?_
      exact w_iret hx hb hr hlocks hP hS h dc_I_faultOfTree_13
    · have h := h.2 c
      refine lv_iconst (v := 0) hx hb dc_I_faultOfTree_8 (by decide) ?_
      refine lv_goto (tgt := 13) hx hb dc_I_faultOfTree_9 (by decide) ?_
      exact w_iret hx hb hr hlocks hP hS h dc_I_faultOfTree_13
set_option maxHeartbeats 4000000 in
set_option maxRecDepth 100000 in
theorem ct_I_faultOfMaps_22 (l : Launch) (D : va_G) (ad : Nat → Nat) (cA : Nat → ClassId) (w : Nat) (hJ : Jn_ ad) (x2 : Int32) (st : St_) (post : Int32 → St_ → Prop) (h : wp_I_faultOfMaps_22 w x2 st post) : Met l yn_I_faultOfMaps (Cond.code yn_I_faultOfMaps bc_I_faultOfMaps 6 (some .int) :: Wk_) rm_I_faultOfMaps_22 (Pw_ D ad cA w st [.ref (ad 21), .ref (ad 22), .int x2]) (Qi_ D ad cA w post) 0 0 (Aw_ ad) := by
  refine Met.ofW (cc := bc_I_faultOfMaps) (maxL := 6) (ret := (some .int)) (by decide) rfl ?_
  intro p e s m args below meth c s₁ B hml hv
  obtain ⟨rfl, hP, hK, hN⟩ := hv
  have hx := B.exec
  have hb := B.bytes
  have hr := B.returns
  have hts : ∀ v ∈ Wk_, v.before [.ref (ad 21), .ref (ad 22), .int x2].toArray s = true := fun v hv => atoms_spec (ws := Cond.code yn_I_faultOfMaps bc_I_faultOfMaps 6 (some .int) :: Wk_) B.pre v (List.mem_cons_of_mem _ hv)
  have hown : s.vm.findClass Rn_I = some m.cls := findClass_of_methodNamed B.named
  have hlocks := B.notSynchronized
  have hS : va_S (Aw_ ad) s.heap s.heap [] := va_S.rf
  have Lp_5 : ∀ (n : Nat) (y2 y3 y4 : Int32) (st : St_), wp_I_faultOfMaps_22_5 w post n y2 y3 y4 st → ∀ (H : Heap) (locs : List Loc), va_P D sC_ (wd_ ad cA w st) H → va_S (Aw_ ad) s.heap H locs → ∀ ls : Array Slot, lv_has ls 6 [(0, .ref (ad 21)), (1, .ref (ad 22)), (2, .int y2), (3, .int y3), (4, .int y4)] → W p l e (headSpec (Cond.code yn_I_faultOfMaps bc_I_faultOfMaps 6 (some .int) :: Wk_) rm_I_faultOfMaps_22).room s m [.ref (ad 21), .ref (ad 22), .int x2].toArray below meth c H locs 0 0 (MQ below (Qi_ D ad cA w post) [.ref (ad 21), .ref (ad 22), .int x2].toArray s 0 0 (Aw_ ad)) (F0 m 5 ls []) := by
    intro n
    induction n with
    | zero => intro y2 y3 y4 st h; exact h.elim
    | succ n ih =>
      intro y2 y3 y4 st h H locs hP hS ls hl
      refine lv_iload hx hb dc_I_faultOfMaps_5 (lv_at hl 4 rfl) ?_
      refine lv_bipush (v := 8) hx hb dc_I_faultOfMaps_7 (by decide) ?_
      refine lv_icmp_ge (tgt := 60) hx hb dc_I_faultOfMaps_9 (by decide) (fun c => ?_) (fun c => ?_)
      · have h := h.1 c
        refine lv_iload_n hx hb dc_I_faultOfMaps_60 rfl (lv_at hl 3 rfl) ?_
        refine lv_aload_n hx hb dc_I_faultOfMaps_61 rfl (lv_at hl 1 rfl) ?_
        refine va_getN (D := D) (ci := 4) (v := .int (st 19 0)) (C := Rn_P) (T := Fn_P) (N := 3) (host := nh_) hx hb hts in_P hown hK hP 22 rfl rfl 2 (by decide) (va_Nw.use rfl (hN.1 _ nf_3)) (fun _ h9 => h9) rfl dc_I_faultOfMaps_62 ?_
        refine lv_icmp_ne (tgt := 79) hx hb dc_I_faultOfMaps_65 (by decide) (fun c => ?_) (fun c => ?_)
        · have h := h.1 c
          refine lv_sipush (v := 1217) hx hb dc_I_faultOfMaps_79 (by decide) ?_
          exact w_iret hx hb hr hlocks hP hS h dc_I_faultOfMaps_82
        · have h := h.2 c
          refine lv_iload_n hx hb dc_I_faultOfMaps_68 rfl (lv_at hl 3 rfl) ?_
          refine lv_sipush (v := 600) hx hb dc_I_faultOfMaps_69 (by decide) ?_
          refine lv_icmp_gt (tgt := 79) hx hb dc_I_faultOfMaps_72 (by decide) (fun c => ?_) (fun c => ?_)
          · have h := h.1 c
            refine lv_sipush (v := 1217) hx hb dc_I_faultOfMaps_79 (by decide) ?_
            exact w_iret hx hb hr hlocks hP hS h dc_I_faultOfMaps_82
          · have h := h.2 c
            refine lv_iconst (v := 0) hx hb dc_I_faultOfMaps_75 (by decide) ?_
            refine lv_goto (tgt := 82) hx hb dc_I_faultOfMaps_76 (by decide) ?_
            exact w_iret hx hb hr hlocks hP hS h dc_I_faultOfMaps_82
      · have h := h.2 c
        refine lv_aload_n hx hb dc_I_faultOfMaps_12 rfl (lv_at hl 0 rfl) ?_
        refine lv_aload_n hx hb dc_I_faultOfMaps_13 rfl (lv_at hl 1 rfl) ?_
        refine va_getN (D := D) (ci := 4) (v := .ref (ad 10)) (C := Rn_P) (T := Fn_P) (N := 3) (host := nh_) hx hb hts in_P hown hK hP 22 rfl rfl 0 (by decide) (va_Nw.use rfl (hN.1 _ nf_4)) (fun _ h9 => h9) rfl dc_I_faultOfMaps_14 ?_
        refine lv_iload hx hb dc_I_faultOfMaps_17 (lv_at hl 4 rfl) ?_
        refine w_ild 10 (by decide) hx hb hK hP h.1 dc_I_faultOfMaps_19 ?_
        have h := h.2
        refine lv_aload_n hx hb dc_I_faultOfMaps_20 rfl (lv_at hl 1 rfl) ?_
        refine va_getN (D := D) (ci := 4) (v := .ref (ad 11)) (C := Rn_P) (T := Fn_P) (N := 3) (host := nh_) hx hb hts in_P hown hK hP 22 rfl rfl 1 (by decide) (va_Nw.use rfl (hN.1 _ nf_5)) (fun _ h9 => h9) rfl dc_I_faultOfMaps_21 ?_
        refine lv_iload hx hb dc_I_faultOfMaps_24 (lv_at hl 4 rfl) ?_
        refine w_ild 11 (by decide) hx hb hK hP h.1 dc_I_faultOfMaps_26 ?_
        have h := h.2
        refine lv_iload_n hx hb dc_I_faultOfMaps_27 rfl (lv_at hl 2 rfl) ?_
        refine lv_iload hx hb dc_I_faultOfMaps_28 (lv_at hl 4 rfl) ?_
        refine lv_iadd hx hb dc_I_faultOfMaps_30 ?_
        refine w_cVi (y := yn_I_faultOfTree) (C := Rn_I) (index := 59) (n := 3) (own := Rn_I) 21 hx hb hml hown hts hK hN hP hS (ct_I_faultOfTree l D ad cA w hJ (st 10 (y4).toNatClampNeg) (st 11 (y4).toNatClampNeg) (y2 + y4) st _ h) mw_285 mw_286 mw_287 mw_288 mw_268 (by decide +kernel) ⟨Nat.le_of_ble_eq_true rfl, Nat.le_of_ble_eq_true rfl⟩ rfl rfl rfl rfl rfl hl.1 rfl (lv_room (Nat.le_of_ble_eq_true rfl)) dc_I_faultOfMaps_31 ⟨Nat.zero_le _, Nat.zero_le _⟩ (fun r102 st101 H locs hP hS h => ?_)
        refine lv_istore (lv' := [(5, .int r102), (0, .ref (ad 21)), (1, .ref (ad 22)), (2, .int y2), (3, .int y3), (4, .int y4)]) hx hb dc_I_faultOfMaps_34 hl (by decide) rfl (fun ls hl => ?_)
        refine lv_iload hx hb dc_I_faultOfMaps_36 (lv_at hl 0 rfl) ?_
        refine lv_if_eq (tgt := 44) hx hb dc_I_faultOfMaps_38 (by decide) (fun c => ?_) (fun c => ?_)
        · have h := h.1 c
          refine lv_iload_n hx hb dc_I_faultOfMaps_44 rfl (lv_at hl 4 rfl) ?_
          refine lv_aload_n hx hb dc_I_faultOfMaps_45 rfl (lv_at hl 2 rfl) ?_
          refine va_getN (D := D) (ci := 4) (v := .ref (ad 11)) (C := Rn_P) (T := Fn_P) (N := 3) (host := nh_) hx hb hts in_P hown hK hP 22 rfl rfl 1 (by decide) (va_Nw.use rfl (hN.1 _ nf_5)) (fun _ h9 => h9) rfl dc_I_faultOfMaps_46 ?_
          refine lv_iload hx hb dc_I_faultOfMaps_49 (lv_at hl 5 rfl) ?_
          refine w_ild 11 (by decide) hx hb hK hP h.1 dc_I_faultOfMaps_51 ?_
          have h := h.2
          refine lv_iadd hx hb dc_I_faultOfMaps_52 ?_
          refine lv_topi (fun x103 ex103 => ?_)
          have h := h x103 ex103
          refine lv_istore_n (lv' := [(3, .int x103), (5, .int r102), (0, .ref (ad 21)), (1, .ref (ad 22)), (2, .int y2), (4, .int y4)]) hx hb dc_I_faultOfMaps_53 rfl hl (by decide) rfl (fun ls hl => ?_)
          obtain ⟨x104, ex104⟩ : ∃ y : Int32, y = y4 + 1 := ⟨_, rfl⟩
          have h := h x104 ex104
          refine lv_iinc (v := x104) (lv' := [(4, .int x104), (3, .int x103), (5, .int r102), (0, .ref (ad 21)), (1, .ref (ad 22)), (2, .int y2)]) hx hb dc_I_faultOfMaps_54 hl (k := 5) rfl (by rw [ex104]; rfl) (by decide) rfl (fun ls hl => ?_)
          refine lv_goto (tgt := 5) hx hb dc_I_faultOfMaps_57 (by decide) ?_
          exact ih y2 x103 x104 st101 h _ _ hP hS ls (lv_sub hl [3, 4, 5, 1, 0] rfl)
        · have h := h.2 c
          refine lv_iload hx hb dc_I_faultOfMaps_41 (lv_at hl 0 rfl) ?_
          exact w_iret hx hb hr hlocks hP hS h dc_I_faultOfMaps_43
  have hl := lv_entry ([.ref (ad 21), .ref (ad 22), .int x2]) (n := 6) (Nat.le_of_ble_eq_true rfl)
  rw [lg_entry_eq]
  generalize (lg_sl ([.ref (ad 21), .ref (ad 22), .int x2]) ++ List.replicate (6 - (lg_sl ([.ref (ad 21), .ref (ad 22), .int x2])).length) Slot.unset).toArray = ls at hl ⊢
  have hl : lv_has ls 6 [(0, .ref (ad 21)), (1, .ref (ad 22)), (2, .int x2)] := hl
  refine lv_iconst (v := 0) hx hb dc_I_faultOfMaps_0 (by decide) ?_
  refine lv_istore_n (lv' := [(3, .int 0), (0, .ref (ad 21)), (1, .ref (ad 22)), (2, .int x2)]) hx hb dc_I_faultOfMaps_1 rfl hl (by decide) rfl (fun ls hl => ?_)
  refine lv_iconst (v := 0) hx hb dc_I_faultOfMaps_2 (by decide) ?_
  refine lv_istore (lv' := [(4, .int 0), (3, .int 0), (0, .ref (ad 21)), (1, .ref (ad 22)), (2, .int x2)]) hx hb dc_I_faultOfMaps_3 hl (by decide) rfl (fun ls hl => ?_)
  obtain ⟨n, h⟩ := h
  exact Lp_5 n x2 0 0 st h _ _ hP hS ls (lv_sub hl [2, 3, 4, 1, 0] rfl)
set_option maxHeartbeats 4000000 in
set_option maxRecDepth 100000 in
theorem ct_I_faultOfWays (l : Launch) (D : va_G) (ad : Nat → Nat) (cA : Nat → ClassId) (w : Nat) (hJ : Jn_ ad) (st : St_) (post : Int32 → St_ → Prop) (h : wp_I_faultOfWays w st post) : Met l yn_I_faultOfWays (Cond.code yn_I_faultOfWays bc_I_faultOfWays 3 (some .int) :: Wk_) rm_I_faultOfWays (Pw_ D ad cA w st [.ref (ad 21)]) (Qi_ D ad cA w post) 0 0 (Aw_ ad) := by
  refine Met.ofW (cc := bc_I_faultOfWays) (maxL := 3) (ret := (some .int)) (by decide) rfl ?_
  intro p e s m args below meth c s₁ B hml hv
  obtain ⟨rfl, hP, hK, hN⟩ := hv
  have hx := B.exec
  have hb := B.bytes
  have hr := B.returns
  have hts : ∀ v ∈ Wk_, v.before [.ref (ad 21)].toArray s = true := fun v hv => atoms_spec (ws := Cond.code yn_I_faultOfWays bc_I_faultOfWays 3 (some .int) :: Wk_) B.pre v (List.mem_cons_of_mem _ hv)
  have hown : s.vm.findClass Rn_I = some m.cls := findClass_of_methodNamed B.named
  have hlocks := B.notSynchronized
  have hS : va_S (Aw_ ad) s.heap s.heap [] := va_S.rf
  have Lp_2 : ∀ (n : Nat) (y1 : Int32) (st : St_), wp_I_faultOfWays_2 w post n y1 st → ∀ (H : Heap) (locs : List Loc), va_P D sC_ (wd_ ad cA w st) H → va_S (Aw_ ad) s.heap H locs → ∀ ls : Array Slot, lv_has ls 3 [(0, .ref (ad 21)), (1, .int y1)] → W p l e (headSpec (Cond.code yn_I_faultOfWays bc_I_faultOfWays 3 (some .int) :: Wk_) rm_I_faultOfWays).room s m [.ref (ad 21)].toArray below meth c H locs 0 0 (MQ below (Qi_ D ad cA w post) [.ref (ad 21)].toArray s 0 0 (Aw_ ad)) (F0 m 2 ls []) := by
    intro n
    induction n with
    | zero => intro y1 st h; exact h.elim
    | succ n ih =>
      intro y1 st h H locs hP hS ls hl
      refine lv_iload_n hx hb dc_I_faultOfWays_2 rfl (lv_at hl 1 rfl) ?_
      refine lv_sipush (v := 1200) hx hb dc_I_faultOfWays_3 (by decide) ?_
      refine lv_icmp_gt (tgt := 59) hx hb dc_I_faultOfWays_6 (by decide) (fun c => ?_) (fun c => ?_)
      · have h := h.1 c
        refine lv_iconst (v := 0) hx hb dc_I_faultOfWays_59 (by decide) ?_
        exact w_iret hx hb hr hlocks hP hS h dc_I_faultOfWays_60
      · have h := h.2 c
        refine lv_aload_n hx hb dc_I_faultOfWays_9 rfl (lv_at hl 0 rfl) ?_
        refine va_get (D := D) (ci := 3) (v := .ref (ad 6)) (C := Rn_I) (T := Fn_I) (N := 7) hx hb hts in_I hown hK hP 21 rfl rfl 3 (by decide) (hts _ mw_261) (fun _ h9 => h9) rfl dc_I_faultOfWays_10 ?_
        refine lv_iload_n hx hb dc_I_faultOfWays_13 rfl (lv_at hl 1 rfl) ?_
        refine w_ild 6 (by decide) hx hb hK hP h.1 dc_I_faultOfWays_14 ?_
        have h := h.2
        refine lv_if_ne (tgt := 22) hx hb dc_I_faultOfWays_15 (by decide) (fun c => ?_) (fun c => ?_)
        · have h := h.1 c
          refine lv_iconst (v := 0) hx hb dc_I_faultOfWays_22 (by decide) ?_
          refine lv_istore_n (lv' := [(2, .int 0), (0, .ref (ad 21)), (1, .int y1)]) hx hb dc_I_faultOfWays_23 rfl hl (by decide) rfl (fun ls hl => ?_)
          refine lv_aload_n hx hb dc_I_faultOfWays_24 rfl (lv_at hl 1 rfl) ?_
          refine va_get (D := D) (ci := 3) (v := .ref (ad 19)) (C := Rn_I) (T := Fn_I) (N := 7) hx hb hts in_I hown hK hP 21 rfl rfl 0 (by decide) (hts _ mw_257) (fun _ h9 => h9) rfl dc_I_faultOfWays_25 ?_
          refine lv_iload_n hx hb dc_I_faultOfWays_28 rfl (lv_at hl 2 rfl) ?_
          refine w_cVi (y := yn_B_ways) (C := Rn_B) (index := 109) (n := 1) (own := Rn_I) 19 hx hb hml hown hts hK hN hP hS (ct_B_ways l D ad cA w hJ y1 st _ h) mw_65 mw_293 mw_67 mw_68 mw_18 (by decide +kernel) ⟨Nat.le_of_ble_eq_true rfl, Nat.le_of_ble_eq_true rfl⟩ rfl rfl rfl rfl rfl hl.1 rfl (lv_room (Nat.le_of_ble_eq_true rfl)) dc_I_faultOfWays_29 ⟨Nat.zero_le _, Nat.zero_le _⟩ (fun r102 st101 H locs hP hS h => ?_)
          refine lv_aload_n hx hb dc_I_faultOfWays_32 rfl (lv_at hl 1 rfl) ?_
          refine va_get (D := D) (ci := 3) (v := .ref (ad 6)) (C := Rn_I) (T := Fn_I) (N := 7) hx hb hts in_I hown hK hP 21 rfl rfl 3 (by decide) (hts _ mw_261) (fun _ h9 => h9) rfl dc_I_faultOfWays_33 ?_
          refine lv_iload_n hx hb dc_I_faultOfWays_36 rfl (lv_at hl 2 rfl) ?_
          refine w_ild 6 (by decide) hx hb hK hP h.1 dc_I_faultOfWays_37 ?_
          have h := h.2
          refine lv_icmp_ne (tgt := 51) hx hb dc_I_faultOfWays_38 (by decide) (fun c => ?_) (fun c => ?_)
          · have h := h.1 c
            refine lv_iload_n hx hb dc_I_faultOfWays_51 rfl (lv_at hl 2 rfl) ?_
            exact w_iret hx hb hr hlocks hP hS h dc_I_faultOfWays_52
          · have h := h.2 c
            refine lv_aload_n hx hb dc_I_faultOfWays_41 rfl (lv_at hl 1 rfl) ?_
            refine va_get (D := D) (ci := 3) (v := .ref (ad 9)) (C := Rn_I) (T := Fn_I) (N := 7) hx hb hts in_I hown hK hP 21 rfl rfl 6 (by decide) (hts _ mw_294) (fun _ h9 => h9) rfl dc_I_faultOfWays_42 ?_
            refine lv_iload_n hx hb dc_I_faultOfWays_45 rfl (lv_at hl 2 rfl) ?_
            refine w_zld hx hb hK hP h.1 dc_I_faultOfWays_46 ?_
            have h := h.2
            refine lv_iload_n hx hb dc_I_faultOfWays_47 rfl (lv_at hl 0 rfl) ?_
            refine lv_icmp_eq (tgt := 53) hx hb dc_I_faultOfWays_48 (by decide) (fun c => ?_) (fun c => ?_)
            · have h := h.1 c
              obtain ⟨x103, ex103⟩ : ∃ y : Int32, y = y1 + 1 := ⟨_, rfl⟩
              have h := h x103 ex103
              refine lv_iinc (v := x103) (lv' := [(1, .int x103), (2, .int 0), (0, .ref (ad 21))]) hx hb dc_I_faultOfWays_53 hl (k := 2) rfl (by rw [ex103]; rfl) (by decide) rfl (fun ls hl => ?_)
              refine lv_goto (tgt := 2) hx hb dc_I_faultOfWays_56 (by decide) ?_
              exact ih x103 st101 h _ _ hP hS ls (lv_sub hl [2, 0] rfl)
            · have h := h.2 c
              refine lv_iload_n hx hb dc_I_faultOfWays_51 rfl (lv_at hl 2 rfl) ?_
              exact w_iret hx hb hr hlocks hP hS h dc_I_faultOfWays_52
        · have h := h.2 c
          refine lv_iconst (v := 1) hx hb dc_I_faultOfWays_18 (by decide) ?_
          refine lv_goto (tgt := 23) hx hb dc_I_faultOfWays_19 (by decide) ?_
          refine lv_istore_n (lv' := [(2, .int 1), (0, .ref (ad 21)), (1, .int y1)]) hx hb dc_I_faultOfWays_23 rfl hl (by decide) rfl (fun ls hl => ?_)
          refine lv_aload_n hx hb dc_I_faultOfWays_24 rfl (lv_at hl 1 rfl) ?_
          refine va_get (D := D) (ci := 3) (v := .ref (ad 19)) (C := Rn_I) (T := Fn_I) (N := 7) hx hb hts in_I hown hK hP 21 rfl rfl 0 (by decide) (hts _ mw_257) (fun _ h9 => h9) rfl dc_I_faultOfWays_25 ?_
          refine lv_iload_n hx hb dc_I_faultOfWays_28 rfl (lv_at hl 2 rfl) ?_
          refine w_cVi (y := yn_B_ways) (C := Rn_B) (index := 109) (n := 1) (own := Rn_I) 19 hx hb hml hown hts hK hN hP hS (ct_B_ways l D ad cA w hJ y1 st _ h) mw_65 mw_293 mw_67 mw_68 mw_18 (by decide +kernel) ⟨Nat.le_of_ble_eq_true rfl, Nat.le_of_ble_eq_true rfl⟩ rfl rfl rfl rfl rfl hl.1 rfl (lv_room (Nat.le_of_ble_eq_true rfl)) dc_I_faultOfWays_29 ⟨Nat.zero_le _, Nat.zero_le _⟩ (fun r105 st104 H locs hP hS h => ?_)
          refine lv_aload_n hx hb dc_I_faultOfWays_32 rfl (lv_at hl 1 rfl) ?_
          refine va_get (D := D) (ci := 3) (v := .ref (ad 6)) (C := Rn_I) (T := Fn_I) (N := 7) hx hb hts in_I hown hK hP 21 rfl rfl 3 (by decide) (hts _ mw_261) (fun _ h9 => h9) rfl dc_I_faultOfWays_33 ?_
          refine lv_iload_n hx hb dc_I_faultOfWays_36 rfl (lv_at hl 2 rfl) ?_
          refine w_ild 6 (by decide) hx hb hK hP h.1 dc_I_faultOfWays_37 ?_
          have h := h.2
          refine lv_icmp_ne (tgt := 51) hx hb dc_I_faultOfWays_38 (by decide) (fun c => ?_) (fun c => ?_)
          · have h := h.1 c
            refine lv_iload_n hx hb dc_I_faultOfWays_51 rfl (lv_at hl 2 rfl) ?_
            exact w_iret hx hb hr hlocks hP hS h dc_I_faultOfWays_52
          · have h := h.2 c
            refine lv_aload_n hx hb dc_I_faultOfWays_41 rfl (lv_at hl 1 rfl) ?_
            refine va_get (D := D) (ci := 3) (v := .ref (ad 9)) (C := Rn_I) (T := Fn_I) (N := 7) hx hb hts in_I hown hK hP 21 rfl rfl 6 (by decide) (hts _ mw_294) (fun _ h9 => h9) rfl dc_I_faultOfWays_42 ?_
            refine lv_iload_n hx hb dc_I_faultOfWays_45 rfl (lv_at hl 2 rfl) ?_
            refine w_zld hx hb hK hP h.1 dc_I_faultOfWays_46 ?_
            have h := h.2
            refine lv_iload_n hx hb dc_I_faultOfWays_47 rfl (lv_at hl 0 rfl) ?_
            refine lv_icmp_eq (tgt := 53) hx hb dc_I_faultOfWays_48 (by decide) (fun c => ?_) (fun c => ?_)
            · have h := h.1 c
              obtain ⟨x106, ex106⟩ : ∃ y : Int32, y = y1 + 1 := ⟨_, rfl⟩
              have h := h x106 ex106
              refine lv_iinc (v := x106) (lv' := [(1, .int x106), (2, .int 1), (0, .ref (ad 21))]) hx hb dc_I_faultOfWays_53 hl (k := 2) rfl (by rw [ex106]; rfl) (by decide) rfl (fun ls hl => ?_)
              refine lv_goto (tgt := 2) hx hb dc_I_faultOfWays_56 (by decide) ?_
              exact ih x106 st104 h _ _ hP hS ls (lv_sub hl [2, 0] rfl)
            · have h := h.2 c
              refine lv_iload_n hx hb dc_I_faultOfWays_51 rfl (lv_at hl 2 rfl) ?_
              exact w_iret hx hb hr hlocks hP hS h dc_I_faultOfWays_52
  have hl := lv_entry ([.ref (ad 21)]) (n := 3) (Nat.le_of_ble_eq_true rfl)
  rw [lg_entry_eq]
  generalize (lg_sl ([.ref (ad 21)]) ++ List.replicate (3 - (lg_sl ([.ref (ad 21)])).length) Slot.unset).toArray = ls at hl ⊢
  have hl : lv_has ls 3 [(0, .ref (ad 21))] := hl
  refine lv_iconst (v := 1) hx hb dc_I_faultOfWays_0 (by decide) ?_
  refine lv_istore_n (lv' := [(1, .int 1), (0, .ref (ad 21))]) hx hb dc_I_faultOfWays_1 rfl hl (by decide) rfl (fun ls hl => ?_)
  obtain ⟨n, h⟩ := h
  exact Lp_2 n 1 st h _ _ hP hS ls (lv_sub hl [1, 0] rfl)
set_option maxHeartbeats 4000000 in
set_option maxRecDepth 100000 in
theorem ct_B_freeCount (l : Launch) (D : va_G) (ad : Nat → Nat) (cA : Nat → ClassId) (w : Nat) (hJ : Jn_ ad) (st : St_) (post : Int32 → St_ → Prop) (h : wp_B_freeCount w st post) : Met l yn_B_freeCount (Cond.code yn_B_freeCount bc_B_freeCount 1 (some .int) :: Wk_) rm_B_freeCount (Pw_ D ad cA w st [.ref (ad 19)]) (Qi_ D ad cA w post) 0 0 (Aw_ ad) := by
  refine Met.ofW (cc := bc_B_freeCount) (maxL := 1) (ret := (some .int)) (by decide) rfl ?_
  intro p e s m args below meth c s₁ B hml hv
  obtain ⟨rfl, hP, hK, hN⟩ := hv
  have hx := B.exec
  have hb := B.bytes
  have hr := B.returns
  have hts : ∀ v ∈ Wk_, v.before [.ref (ad 19)].toArray s = true := fun v hv => atoms_spec (ws := Cond.code yn_B_freeCount bc_B_freeCount 1 (some .int) :: Wk_) B.pre v (List.mem_cons_of_mem _ hv)
  have hown : s.vm.findClass Rn_B = some m.cls := findClass_of_methodNamed B.named
  have hlocks := B.notSynchronized
  have hS : va_S (Aw_ ad) s.heap s.heap [] := va_S.rf
  have hl := lv_entry ([.ref (ad 19)]) (n := 1) (Nat.le_of_ble_eq_true rfl)
  rw [lg_entry_eq]
  generalize (lg_sl ([.ref (ad 19)]) ++ List.replicate (1 - (lg_sl ([.ref (ad 19)])).length) Slot.unset).toArray = ls at hl ⊢
  have hl : lv_has ls 1 [(0, .ref (ad 19))] := hl
  refine lv_aload_n hx hb dc_B_freeCount_0 rfl (lv_at hl 0 rfl) ?_
  refine va_get (D := D) (ci := 1) (v := .int (st 18 0)) (C := Rn_B) (T := Fn_B) (N := 8) hx hb hts in_B hown hK hP 19 rfl rfl 7 (by decide) (hts _ mw_70) (fun _ h9 => h9) rfl dc_B_freeCount_1 ?_
  exact w_iret hx hb hr hlocks hP hS h dc_B_freeCount_4
set_option maxHeartbeats 4000000 in
set_option maxRecDepth 100000 in
theorem ct_B_freeBlock (l : Launch) (D : va_G) (ad : Nat → Nat) (cA : Nat → ClassId) (w : Nat) (hJ : Jn_ ad) (x1 : Int32) (st : St_) (post : Int32 → St_ → Prop) (h : wp_B_freeBlock w x1 st post) : Met l yn_B_freeBlock (Cond.code yn_B_freeBlock bc_B_freeBlock 2 (some .int) :: Wk_) rm_B_freeBlock (Pw_ D ad cA w st [.ref (ad 19), .int x1]) (Qi_ D ad cA w post) 0 0 (Aw_ ad) := by
  refine Met.ofW (cc := bc_B_freeBlock) (maxL := 2) (ret := (some .int)) (by decide) rfl ?_
  intro p e s m args below meth c s₁ B hml hv
  obtain ⟨rfl, hP, hK, hN⟩ := hv
  have hx := B.exec
  have hb := B.bytes
  have hr := B.returns
  have hts : ∀ v ∈ Wk_, v.before [.ref (ad 19), .int x1].toArray s = true := fun v hv => atoms_spec (ws := Cond.code yn_B_freeBlock bc_B_freeBlock 2 (some .int) :: Wk_) B.pre v (List.mem_cons_of_mem _ hv)
  have hown : s.vm.findClass Rn_B = some m.cls := findClass_of_methodNamed B.named
  have hlocks := B.notSynchronized
  have hS : va_S (Aw_ ad) s.heap s.heap [] := va_S.rf
  have hl := lv_entry ([.ref (ad 19), .int x1]) (n := 2) (Nat.le_of_ble_eq_true rfl)
  rw [lg_entry_eq]
  generalize (lg_sl ([.ref (ad 19), .int x1]) ++ List.replicate (2 - (lg_sl ([.ref (ad 19), .int x1])).length) Slot.unset).toArray = ls at hl ⊢
  have hl : lv_has ls 2 [(0, .ref (ad 19)), (1, .int x1)] := hl
  refine lv_iload_n hx hb dc_B_freeBlock_0 rfl (lv_at hl 1 rfl) ?_
  refine lv_if_lt (tgt := 28) hx hb dc_B_freeBlock_1 (by decide) (fun c => ?_) (fun c => ?_)
  · have h := h.1 c
    refine lv_iconst (v := 0) hx hb dc_B_freeBlock_28 (by decide) ?_
    exact w_iret hx hb hr hlocks hP hS h dc_B_freeBlock_29
  · have h := h.2 c
    refine lv_iload_n hx hb dc_B_freeBlock_4 rfl (lv_at hl 1 rfl) ?_
    refine lv_aload_n hx hb dc_B_freeBlock_5 rfl (lv_at hl 0 rfl) ?_
    refine va_get (D := D) (ci := 1) (v := .int (st 18 0)) (C := Rn_B) (T := Fn_B) (N := 8) hx hb hts in_B hown hK hP 19 rfl rfl 7 (by decide) (hts _ mw_70) (fun _ h9 => h9) rfl dc_B_freeBlock_6 ?_
    refine lv_icmp_ge (tgt := 28) hx hb dc_B_freeBlock_9 (by decide) (fun c => ?_) (fun c => ?_)
    · have h := h.1 c
      refine lv_iconst (v := 0) hx hb dc_B_freeBlock_28 (by decide) ?_
      exact w_iret hx hb hr hlocks hP hS h dc_B_freeBlock_29
    · have h := h.2 c
      refine lv_iload_n hx hb dc_B_freeBlock_12 rfl (lv_at hl 1 rfl) ?_
      refine lv_sipush (v := 1200) hx hb dc_B_freeBlock_13 (by decide) ?_
      refine lv_icmp_ge (tgt := 28) hx hb dc_B_freeBlock_16 (by decide) (fun c => ?_) (fun c => ?_)
      · have h := h.1 c
        refine lv_iconst (v := 0) hx hb dc_B_freeBlock_28 (by decide) ?_
        exact w_iret hx hb hr hlocks hP hS h dc_B_freeBlock_29
      · have h := h.2 c
        refine lv_aload_n hx hb dc_B_freeBlock_19 rfl (lv_at hl 0 rfl) ?_
        refine va_get (D := D) (ci := 1) (v := .ref (ad 5)) (C := Rn_B) (T := Fn_B) (N := 8) hx hb hts in_B hown hK hP 19 rfl rfl 6 (by decide) (hts _ mw_71) (fun _ h9 => h9) rfl dc_B_freeBlock_20 ?_
        refine lv_iload_n hx hb dc_B_freeBlock_23 rfl (lv_at hl 1 rfl) ?_
        refine w_ild 5 (by decide) hx hb hK hP h.1 dc_B_freeBlock_24 ?_
        have h := h.2
        refine lv_goto (tgt := 29) hx hb dc_B_freeBlock_25 (by decide) ?_
        exact w_iret hx hb hr hlocks hP hS h dc_B_freeBlock_29
set_option maxHeartbeats 4000000 in
set_option maxRecDepth 100000 in
theorem ct_I_faultOfFree (l : Launch) (D : va_G) (ad : Nat → Nat) (cA : Nat → ClassId) (w : Nat) (hJ : Jn_ ad) (st : St_) (post : Int32 → St_ → Prop) (h : wp_I_faultOfFree w st post) : Met l yn_I_faultOfFree (Cond.code yn_I_faultOfFree bc_I_faultOfFree 4 (some .int) :: Wk_) rm_I_faultOfFree (Pw_ D ad cA w st [.ref (ad 21)]) (Qi_ D ad cA w post) 0 0 (Aw_ ad) := by
  refine Met.ofW (cc := bc_I_faultOfFree) (maxL := 4) (ret := (some .int)) (by decide) rfl ?_
  intro p e s m args below meth c s₁ B hml hv
  obtain ⟨rfl, hP, hK, hN⟩ := hv
  have hx := B.exec
  have hb := B.bytes
  have hr := B.returns
  have hts : ∀ v ∈ Wk_, v.before [.ref (ad 21)].toArray s = true := fun v hv => atoms_spec (ws := Cond.code yn_I_faultOfFree bc_I_faultOfFree 4 (some .int) :: Wk_) B.pre v (List.mem_cons_of_mem _ hv)
  have hown : s.vm.findClass Rn_I = some m.cls := findClass_of_methodNamed B.named
  have hlocks := B.notSynchronized
  have hS : va_S (Aw_ ad) s.heap s.heap [] := va_S.rf
  have Lp_25 : ∀ (n : Nat) (y1 y2 : Int32) (st : St_), wp_I_faultOfFree_25 w post n y1 y2 st → ∀ (H : Heap) (locs : List Loc), va_P D sC_ (wd_ ad cA w st) H → va_S (Aw_ ad) s.heap H locs → ∀ ls : Array Slot, lv_has ls 4 [(0, .ref (ad 21)), (1, .int y1), (2, .int y2)] → W p l e (headSpec (Cond.code yn_I_faultOfFree bc_I_faultOfFree 4 (some .int) :: Wk_) rm_I_faultOfFree).room s m [.ref (ad 21)].toArray below meth c H locs 0 0 (MQ below (Qi_ D ad cA w post) [.ref (ad 21)].toArray s 0 0 (Aw_ ad)) (F0 m 25 ls []) := by
    intro n
    induction n with
    | zero => intro y1 y2 st h; exact h.elim
    | succ n ih =>
      intro y1 y2 st h H locs hP hS ls hl
      refine lv_iload_n hx hb dc_I_faultOfFree_25 rfl (lv_at hl 2 rfl) ?_
      refine lv_iload_n hx hb dc_I_faultOfFree_26 rfl (lv_at hl 1 rfl) ?_
      refine lv_icmp_ge (tgt := 76) hx hb dc_I_faultOfFree_27 (by decide) (fun c => ?_) (fun c => ?_)
      · have h := h.1 c
        refine lv_iconst (v := 0) hx hb dc_I_faultOfFree_76 (by decide) ?_
        exact w_iret hx hb hr hlocks hP hS h dc_I_faultOfFree_77
      · have h := h.2 c
        refine lv_aload_n hx hb dc_I_faultOfFree_30 rfl (lv_at hl 0 rfl) ?_
        refine va_get (D := D) (ci := 3) (v := .ref (ad 19)) (C := Rn_I) (T := Fn_I) (N := 7) hx hb hts in_I hown hK hP 21 rfl rfl 0 (by decide) (hts _ mw_257) (fun _ h9 => h9) rfl dc_I_faultOfFree_31 ?_
        refine lv_iload_n hx hb dc_I_faultOfFree_34 rfl (lv_at hl 2 rfl) ?_
        refine w_cVi (y := yn_B_freeBlock) (C := Rn_B) (index := 106) (n := 1) (own := Rn_I) 19 hx hb hml hown hts hK hN hP hS (ct_B_freeBlock l D ad cA w hJ y2 st _ h) mw_303 mw_304 mw_305 mw_306 mw_18 (by decide +kernel) ⟨Nat.le_of_ble_eq_true rfl, Nat.le_of_ble_eq_true rfl⟩ rfl rfl rfl rfl rfl hl.1 rfl (lv_room (Nat.le_of_ble_eq_true rfl)) dc_I_faultOfFree_35 ⟨Nat.zero_le _, Nat.zero_le _⟩ (fun r104 st103 H locs hP hS h => ?_)
        refine lv_istore_n (lv' := [(3, .int r104), (0, .ref (ad 21)), (1, .int y1), (2, .int y2)]) hx hb dc_I_faultOfFree_38 rfl hl (by decide) rfl (fun ls hl => ?_)
        refine lv_aload_n hx hb dc_I_faultOfFree_39 rfl (lv_at hl 1 rfl) ?_
        refine va_get (D := D) (ci := 3) (v := .ref (ad 19)) (C := Rn_I) (T := Fn_I) (N := 7) hx hb hts in_I hown hK hP 21 rfl rfl 0 (by decide) (hts _ mw_257) (fun _ h9 => h9) rfl dc_I_faultOfFree_40 ?_
        refine lv_iload_n hx hb dc_I_faultOfFree_43 rfl (lv_at hl 0 rfl) ?_
        refine w_cVi (y := yn_B_isBlock) (C := Rn_B) (index := 66) (n := 1) (own := Rn_I) 19 hx hb hml hown hts hK hN hP hS (ct_B_isBlock l D ad cA w hJ r104 st103 _ h) mw_14 mw_258 mw_16 mw_17 mw_18 (by decide +kernel) ⟨Nat.le_of_ble_eq_true rfl, Nat.le_of_ble_eq_true rfl⟩ rfl rfl rfl rfl rfl hl.1 rfl (lv_room (Nat.le_of_ble_eq_true rfl)) dc_I_faultOfFree_44 ⟨Nat.zero_le _, Nat.zero_le _⟩ (fun r106 st105 H locs hP hS h => ?_)
        refine lv_if_eq (tgt := 59) hx hb dc_I_faultOfFree_47 (by decide) (fun c => ?_) (fun c => ?_)
        · have h := h.1 c
          refine lv_sipush (v := 1218) hx hb dc_I_faultOfFree_59 (by decide) ?_
          exact w_iret hx hb hr hlocks hP hS h dc_I_faultOfFree_62
        · have h := h.2 c
          refine lv_aload_n hx hb dc_I_faultOfFree_50 rfl (lv_at hl 1 rfl) ?_
          refine va_get (D := D) (ci := 3) (v := .ref (ad 9)) (C := Rn_I) (T := Fn_I) (N := 7) hx hb hts in_I hown hK hP 21 rfl rfl 6 (by decide) (hts _ mw_294) (fun _ h9 => h9) rfl dc_I_faultOfFree_51 ?_
          refine lv_iload_n hx hb dc_I_faultOfFree_54 rfl (lv_at hl 0 rfl) ?_
          refine w_zld hx hb hK hP h.1 dc_I_faultOfFree_55 ?_
          have h := h.2
          refine lv_if_eq (tgt := 63) hx hb dc_I_faultOfFree_56 (by decide) (fun c => ?_) (fun c => ?_)
          · have h := h.1 c
            refine lv_aload_n hx hb dc_I_faultOfFree_63 rfl (lv_at hl 1 rfl) ?_
            refine va_get (D := D) (ci := 3) (v := .ref (ad 9)) (C := Rn_I) (T := Fn_I) (N := 7) hx hb hts in_I hown hK hP 21 rfl rfl 6 (by decide) (hts _ mw_294) (fun _ h9 => h9) rfl dc_I_faultOfFree_64 ?_
            refine lv_iload_n hx hb dc_I_faultOfFree_67 rfl (lv_at hl 0 rfl) ?_
            refine lv_iconst (v := 1) hx hb dc_I_faultOfFree_68 (by decide) ?_
            refine w_zst hJ hx hb hK hP hS h.1 dc_I_faultOfFree_69 (fun H locs hP hS => ?_)
            obtain ⟨st107, est107⟩ : ∃ z : St_, z = ws_1 st105 9 (r104).toNatClampNeg (vp_nar .boolean 1) := ⟨_, rfl⟩
            rw [← est107] at hP
            have h := h.2 st107 est107
            obtain ⟨x108, ex108⟩ : ∃ y : Int32, y = y2 + 1 := ⟨_, rfl⟩
            have h := h x108 ex108
            refine lv_iinc (v := x108) (lv' := [(2, .int x108), (3, .int r104), (0, .ref (ad 21)), (1, .int y1)]) hx hb dc_I_faultOfFree_70 hl (k := 3) rfl (by rw [ex108]; rfl) (by decide) rfl (fun ls hl => ?_)
            refine lv_goto (tgt := 25) hx hb dc_I_faultOfFree_73 (by decide) ?_
            exact ih y1 x108 st107 h _ _ hP hS ls (lv_sub hl [2, 3, 0] rfl)
          · have h := h.2 c
            refine lv_sipush (v := 1218) hx hb dc_I_faultOfFree_59 (by decide) ?_
            exact w_iret hx hb hr hlocks hP hS h dc_I_faultOfFree_62
  have hl := lv_entry ([.ref (ad 21)]) (n := 4) (Nat.le_of_ble_eq_true rfl)
  rw [lg_entry_eq]
  generalize (lg_sl ([.ref (ad 21)]) ++ List.replicate (4 - (lg_sl ([.ref (ad 21)])).length) Slot.unset).toArray = ls at hl ⊢
  have hl : lv_has ls 4 [(0, .ref (ad 21))] := hl
  refine lv_aload_n hx hb dc_I_faultOfFree_0 rfl (lv_at hl 0 rfl) ?_
  refine va_get (D := D) (ci := 3) (v := .ref (ad 19)) (C := Rn_I) (T := Fn_I) (N := 7) hx hb hts in_I hown hK hP 21 rfl rfl 0 (by decide) (hts _ mw_257) (fun _ h9 => h9) rfl dc_I_faultOfFree_1 ?_
  refine w_cVi (y := yn_B_freeCount) (C := Rn_B) (index := 103) (n := 0) (own := Rn_I) 19 hx hb hml hown hts hK hN hP hS (ct_B_freeCount l D ad cA w hJ st _ h) mw_299 mw_300 mw_301 mw_302 mw_18 (by decide +kernel) ⟨Nat.le_of_ble_eq_true rfl, Nat.le_of_ble_eq_true rfl⟩ rfl rfl rfl rfl rfl hl.1 rfl (lv_room (Nat.le_of_ble_eq_true rfl)) dc_I_faultOfFree_4 ⟨Nat.zero_le _, Nat.zero_le _⟩ (fun r102 st101 H locs hP hS h => ?_)
  refine lv_istore_n (lv' := [(1, .int r102), (0, .ref (ad 21))]) hx hb dc_I_faultOfFree_7 rfl hl (by decide) rfl (fun ls hl => ?_)
  refine lv_iload_n hx hb dc_I_faultOfFree_8 rfl (lv_at hl 0 rfl) ?_
  refine lv_if_lt (tgt := 19) hx hb dc_I_faultOfFree_9 (by decide) (fun c => ?_) (fun c => ?_)
  · have h := h.1 c
    refine lv_sipush (v := 1218) hx hb dc_I_faultOfFree_19 (by decide) ?_
    exact w_iret hx hb hr hlocks hP hS h dc_I_faultOfFree_22
  · have h := h.2 c
    refine lv_iload_n hx hb dc_I_faultOfFree_12 rfl (lv_at hl 0 rfl) ?_
    refine lv_sipush (v := 1200) hx hb dc_I_faultOfFree_13 (by decide) ?_
    refine lv_icmp_le (tgt := 23) hx hb dc_I_faultOfFree_16 (by decide) (fun c => ?_) (fun c => ?_)
    · have h := h.1 c
      refine lv_iconst (v := 0) hx hb dc_I_faultOfFree_23 (by decide) ?_
      refine lv_istore_n (lv' := [(2, .int 0), (1, .int r102), (0, .ref (ad 21))]) hx hb dc_I_faultOfFree_24 rfl hl (by decide) rfl (fun ls hl => ?_)
      obtain ⟨n, h⟩ := h
      exact Lp_25 n r102 0 st101 h _ _ hP hS ls (lv_sub hl [2, 1, 0] rfl)
    · have h := h.2 c
      refine lv_sipush (v := 1218) hx hb dc_I_faultOfFree_19 (by decide) ?_
      exact w_iret hx hb hr hlocks hP hS h dc_I_faultOfFree_22
set_option maxHeartbeats 4000000 in
set_option maxRecDepth 100000 in
theorem ct_I_faultOfMaps_23 (l : Launch) (D : va_G) (ad : Nat → Nat) (cA : Nat → ClassId) (w : Nat) (hJ : Jn_ ad) (x2 : Int32) (st : St_) (post : Int32 → St_ → Prop) (h : wp_I_faultOfMaps_23 w x2 st post) : Met l yn_I_faultOfMaps (Cond.code yn_I_faultOfMaps bc_I_faultOfMaps 6 (some .int) :: Wk_) rm_I_faultOfMaps_23 (Pw_ D ad cA w st [.ref (ad 21), .ref (ad 23), .int x2]) (Qi_ D ad cA w post) 0 0 (Aw_ ad) := by
  refine Met.ofW (cc := bc_I_faultOfMaps) (maxL := 6) (ret := (some .int)) (by decide) rfl ?_
  intro p e s m args below meth c s₁ B hml hv
  obtain ⟨rfl, hP, hK, hN⟩ := hv
  have hx := B.exec
  have hb := B.bytes
  have hr := B.returns
  have hts : ∀ v ∈ Wk_, v.before [.ref (ad 21), .ref (ad 23), .int x2].toArray s = true := fun v hv => atoms_spec (ws := Cond.code yn_I_faultOfMaps bc_I_faultOfMaps 6 (some .int) :: Wk_) B.pre v (List.mem_cons_of_mem _ hv)
  have hown : s.vm.findClass Rn_I = some m.cls := findClass_of_methodNamed B.named
  have hlocks := B.notSynchronized
  have hS : va_S (Aw_ ad) s.heap s.heap [] := va_S.rf
  have Lp_5 : ∀ (n : Nat) (y2 y3 y4 : Int32) (st : St_), wp_I_faultOfMaps_23_5 w post n y2 y3 y4 st → ∀ (H : Heap) (locs : List Loc), va_P D sC_ (wd_ ad cA w st) H → va_S (Aw_ ad) s.heap H locs → ∀ ls : Array Slot, lv_has ls 6 [(0, .ref (ad 21)), (1, .ref (ad 23)), (2, .int y2), (3, .int y3), (4, .int y4)] → W p l e (headSpec (Cond.code yn_I_faultOfMaps bc_I_faultOfMaps 6 (some .int) :: Wk_) rm_I_faultOfMaps_23).room s m [.ref (ad 21), .ref (ad 23), .int x2].toArray below meth c H locs 0 0 (MQ below (Qi_ D ad cA w post) [.ref (ad 21), .ref (ad 23), .int x2].toArray s 0 0 (Aw_ ad)) (F0 m 5 ls []) := by
    intro n
    induction n with
    | zero => intro y2 y3 y4 st h; exact h.elim
    | succ n ih =>
      intro y2 y3 y4 st h H locs hP hS ls hl
      refine lv_iload hx hb dc_I_faultOfMaps_5 (lv_at hl 4 rfl) ?_
      refine lv_bipush (v := 8) hx hb dc_I_faultOfMaps_7 (by decide) ?_
      refine lv_icmp_ge (tgt := 60) hx hb dc_I_faultOfMaps_9 (by decide) (fun c => ?_) (fun c => ?_)
      · have h := h.1 c
        refine lv_iload_n hx hb dc_I_faultOfMaps_60 rfl (lv_at hl 3 rfl) ?_
        refine lv_aload_n hx hb dc_I_faultOfMaps_61 rfl (lv_at hl 1 rfl) ?_
        refine va_getN (D := D) (ci := 4) (v := .int (st 20 0)) (C := Rn_P) (T := Fn_P) (N := 3) (host := nh_) hx hb hts in_P hown hK hP 23 rfl rfl 2 (by decide) (va_Nw.use rfl (hN.1 _ nf_3)) (fun _ h9 => h9) rfl dc_I_faultOfMaps_62 ?_
        refine lv_icmp_ne (tgt := 79) hx hb dc_I_faultOfMaps_65 (by decide) (fun c => ?_) (fun c => ?_)
        · have h := h.1 c
          refine lv_sipush (v := 1217) hx hb dc_I_faultOfMaps_79 (by decide) ?_
          exact w_iret hx hb hr hlocks hP hS h dc_I_faultOfMaps_82
        · have h := h.2 c
          refine lv_iload_n hx hb dc_I_faultOfMaps_68 rfl (lv_at hl 3 rfl) ?_
          refine lv_sipush (v := 600) hx hb dc_I_faultOfMaps_69 (by decide) ?_
          refine lv_icmp_gt (tgt := 79) hx hb dc_I_faultOfMaps_72 (by decide) (fun c => ?_) (fun c => ?_)
          · have h := h.1 c
            refine lv_sipush (v := 1217) hx hb dc_I_faultOfMaps_79 (by decide) ?_
            exact w_iret hx hb hr hlocks hP hS h dc_I_faultOfMaps_82
          · have h := h.2 c
            refine lv_iconst (v := 0) hx hb dc_I_faultOfMaps_75 (by decide) ?_
            refine lv_goto (tgt := 82) hx hb dc_I_faultOfMaps_76 (by decide) ?_
            exact w_iret hx hb hr hlocks hP hS h dc_I_faultOfMaps_82
      · have h := h.2 c
        refine lv_aload_n hx hb dc_I_faultOfMaps_12 rfl (lv_at hl 0 rfl) ?_
        refine lv_aload_n hx hb dc_I_faultOfMaps_13 rfl (lv_at hl 1 rfl) ?_
        refine va_getN (D := D) (ci := 4) (v := .ref (ad 12)) (C := Rn_P) (T := Fn_P) (N := 3) (host := nh_) hx hb hts in_P hown hK hP 23 rfl rfl 0 (by decide) (va_Nw.use rfl (hN.1 _ nf_4)) (fun _ h9 => h9) rfl dc_I_faultOfMaps_14 ?_
        refine lv_iload hx hb dc_I_faultOfMaps_17 (lv_at hl 4 rfl) ?_
        refine w_ild 12 (by decide) hx hb hK hP h.1 dc_I_faultOfMaps_19 ?_
        have h := h.2
        refine lv_aload_n hx hb dc_I_faultOfMaps_20 rfl (lv_at hl 1 rfl) ?_
        refine va_getN (D := D) (ci := 4) (v := .ref (ad 13)) (C := Rn_P) (T := Fn_P) (N := 3) (host := nh_) hx hb hts in_P hown hK hP 23 rfl rfl 1 (by decide) (va_Nw.use rfl (hN.1 _ nf_5)) (fun _ h9 => h9) rfl dc_I_faultOfMaps_21 ?_
        refine lv_iload hx hb dc_I_faultOfMaps_24 (lv_at hl 4 rfl) ?_
        refine w_ild 13 (by decide) hx hb hK hP h.1 dc_I_faultOfMaps_26 ?_
        have h := h.2
        refine lv_iload_n hx hb dc_I_faultOfMaps_27 rfl (lv_at hl 2 rfl) ?_
        refine lv_iload hx hb dc_I_faultOfMaps_28 (lv_at hl 4 rfl) ?_
        refine lv_iadd hx hb dc_I_faultOfMaps_30 ?_
        refine w_cVi (y := yn_I_faultOfTree) (C := Rn_I) (index := 59) (n := 3) (own := Rn_I) 21 hx hb hml hown hts hK hN hP hS (ct_I_faultOfTree l D ad cA w hJ (st 12 (y4).toNatClampNeg) (st 13 (y4).toNatClampNeg) (y2 + y4) st _ h) mw_285 mw_286 mw_287 mw_288 mw_268 (by decide +kernel) ⟨Nat.le_of_ble_eq_true rfl, Nat.le_of_ble_eq_true rfl⟩ rfl rfl rfl rfl rfl hl.1 rfl (lv_room (Nat.le_of_ble_eq_true rfl)) dc_I_faultOfMaps_31 ⟨Nat.zero_le _, Nat.zero_le _⟩ (fun r102 st101 H locs hP hS h => ?_)
        refine lv_istore (lv' := [(5, .int r102), (0, .ref (ad 21)), (1, .ref (ad 23)), (2, .int y2), (3, .int y3), (4, .int y4)]) hx hb dc_I_faultOfMaps_34 hl (by decide) rfl (fun ls hl => ?_)
        refine lv_iload hx hb dc_I_faultOfMaps_36 (lv_at hl 0 rfl) ?_
        refine lv_if_eq (tgt := 44) hx hb dc_I_faultOfMaps_38 (by decide) (fun c => ?_) (fun c => ?_)
        · have h := h.1 c
          refine lv_iload_n hx hb dc_I_faultOfMaps_44 rfl (lv_at hl 4 rfl) ?_
          refine lv_aload_n hx hb dc_I_faultOfMaps_45 rfl (lv_at hl 2 rfl) ?_
          refine va_getN (D := D) (ci := 4) (v := .ref (ad 13)) (C := Rn_P) (T := Fn_P) (N := 3) (host := nh_) hx hb hts in_P hown hK hP 23 rfl rfl 1 (by decide) (va_Nw.use rfl (hN.1 _ nf_5)) (fun _ h9 => h9) rfl dc_I_faultOfMaps_46 ?_
          refine lv_iload hx hb dc_I_faultOfMaps_49 (lv_at hl 5 rfl) ?_
          refine w_ild 13 (by decide) hx hb hK hP h.1 dc_I_faultOfMaps_51 ?_
          have h := h.2
          refine lv_iadd hx hb dc_I_faultOfMaps_52 ?_
          refine lv_topi (fun x103 ex103 => ?_)
          have h := h x103 ex103
          refine lv_istore_n (lv' := [(3, .int x103), (5, .int r102), (0, .ref (ad 21)), (1, .ref (ad 23)), (2, .int y2), (4, .int y4)]) hx hb dc_I_faultOfMaps_53 rfl hl (by decide) rfl (fun ls hl => ?_)
          obtain ⟨x104, ex104⟩ : ∃ y : Int32, y = y4 + 1 := ⟨_, rfl⟩
          have h := h x104 ex104
          refine lv_iinc (v := x104) (lv' := [(4, .int x104), (3, .int x103), (5, .int r102), (0, .ref (ad 21)), (1, .ref (ad 23)), (2, .int y2)]) hx hb dc_I_faultOfMaps_54 hl (k := 5) rfl (by rw [ex104]; rfl) (by decide) rfl (fun ls hl => ?_)
          refine lv_goto (tgt := 5) hx hb dc_I_faultOfMaps_57 (by decide) ?_
          exact ih y2 x103 x104 st101 h _ _ hP hS ls (lv_sub hl [3, 4, 5, 1, 0] rfl)
        · have h := h.2 c
          refine lv_iload hx hb dc_I_faultOfMaps_41 (lv_at hl 0 rfl) ?_
          exact w_iret hx hb hr hlocks hP hS h dc_I_faultOfMaps_43
  have hl := lv_entry ([.ref (ad 21), .ref (ad 23), .int x2]) (n := 6) (Nat.le_of_ble_eq_true rfl)
  rw [lg_entry_eq]
  generalize (lg_sl ([.ref (ad 21), .ref (ad 23), .int x2]) ++ List.replicate (6 - (lg_sl ([.ref (ad 21), .ref (ad 23), .int x2])).length) Slot.unset).toArray = ls at hl ⊢
  have hl : lv_has ls 6 [(0, .ref (ad 21)), (1, .ref (ad 23)), (2, .int x2)] := hl
  refine lv_iconst (v := 0) hx hb dc_I_faultOfMaps_0 (by decide) ?_
  refine lv_istore_n (lv' := [(3, .int 0), (0, .ref (ad 21)), (1, .ref (ad 23)), (2, .int x2)]) hx hb dc_I_faultOfMaps_1 rfl hl (by decide) rfl (fun ls hl => ?_)
  refine lv_iconst (v := 0) hx hb dc_I_faultOfMaps_2 (by decide) ?_
  refine lv_istore (lv' := [(4, .int 0), (3, .int 0), (0, .ref (ad 21)), (1, .ref (ad 23)), (2, .int x2)]) hx hb dc_I_faultOfMaps_3 hl (by decide) rfl (fun ls hl => ?_)
  obtain ⟨n, h⟩ := h
  exact Lp_5 n x2 0 0 st h _ _ hP hS ls (lv_sub hl [2, 3, 4, 1, 0] rfl)
set_option maxHeartbeats 4000000 in
set_option maxRecDepth 100000 in
theorem ct_I_firstFault_22_23 (l : Launch) (D : va_G) (ad : Nat → Nat) (cA : Nat → ClassId) (w : Nat) (hJ : Jn_ ad) (st : St_) (post : Int32 → St_ → Prop) (h : wp_I_firstFault_22_23 w st post) : Met l yn_I_firstFault (Cond.code yn_I_firstFault bc_I_firstFault 4 (some .int) :: Wk_) rm_I_firstFault_22_23 (Pw_ D ad cA w st [.ref (ad 21), .ref (ad 22), .ref (ad 23)]) (Qi_ D ad cA w post) 0 0 (Aw_ ad) := by
  refine Met.ofW (cc := bc_I_firstFault) (maxL := 4) (ret := (some .int)) (by decide) rfl ?_
  intro p e s m args below meth c s₁ B hml hv
  obtain ⟨rfl, hP, hK, hN⟩ := hv
  have hx := B.exec
  have hb := B.bytes
  have hr := B.returns
  have hts : ∀ v ∈ Wk_, v.before [.ref (ad 21), .ref (ad 22), .ref (ad 23)].toArray s = true := fun v hv => atoms_spec (ws := Cond.code yn_I_firstFault bc_I_firstFault 4 (some .int) :: Wk_) B.pre v (List.mem_cons_of_mem _ hv)
  have hown : s.vm.findClass Rn_I = some m.cls := findClass_of_methodNamed B.named
  have hlocks := B.notSynchronized
  have hS : va_S (Aw_ ad) s.heap s.heap [] := va_S.rf
  have Lp_2 : ∀ (n : Nat) (y3 : Int32) (st : St_), wp_I_firstFault_22_23_2 w post n y3 st → ∀ (H : Heap) (locs : List Loc), va_P D sC_ (wd_ ad cA w st) H → va_S (Aw_ ad) s.heap H locs → ∀ ls : Array Slot, lv_has ls 4 [(0, .ref (ad 21)), (1, .ref (ad 22)), (2, .ref (ad 23)), (3, .int y3)] → W p l e (headSpec (Cond.code yn_I_firstFault bc_I_firstFault 4 (some .int) :: Wk_) rm_I_firstFault_22_23).room s m [.ref (ad 21), .ref (ad 22), .ref (ad 23)].toArray below meth c H locs 0 0 (MQ below (Qi_ D ad cA w post) [.ref (ad 21), .ref (ad 22), .ref (ad 23)].toArray s 0 0 (Aw_ ad)) (F0 m 2 ls []) := by
    intro n
    induction n with
    | zero => intro y3 st h; exact h.elim
    | succ n ih =>
      intro y3 st h H locs hP hS ls hl
      refine lv_iload_n hx hb dc_I_firstFault_2 rfl (lv_at hl 3 rfl) ?_
      refine lv_sipush (v := 1200) hx hb dc_I_firstFault_3 (by decide) ?_
      refine lv_icmp_gt (tgt := 29) hx hb dc_I_firstFault_6 (by decide) (fun c => ?_) (fun c => ?_)
      · have h := h.1 c
        refine lv_aload_n hx hb dc_I_firstFault_29 rfl (lv_at hl 0 rfl) ?_
        refine lv_aload_n hx hb dc_I_firstFault_30 rfl (lv_at hl 1 rfl) ?_
        refine lv_sipush (v := 1201) hx hb dc_I_firstFault_31 (by decide) ?_
        refine w_cVi (y := yn_I_faultOfMaps) (C := Rn_I) (index := 40) (n := 2) (own := Rn_I) 21 hx hb hml hown hts hK hN hP hS (ct_I_faultOfMaps_22 l D ad cA w hJ 1201 st _ h) mw_289 mw_290 mw_291 mw_292 mw_268 (by decide +kernel) ⟨Nat.le_of_ble_eq_true rfl, Nat.le_of_ble_eq_true rfl⟩ rfl rfl rfl rfl rfl hl.1 rfl (lv_room (Nat.le_of_ble_eq_true rfl)) dc_I_firstFault_34 ⟨Nat.zero_le _, Nat.zero_le _⟩ (fun r102 st101 H locs hP hS h => ?_)
        refine lv_istore_n (lv' := [(3, .int r102), (0, .ref (ad 21)), (1, .ref (ad 22)), (2, .ref (ad 23))]) hx hb dc_I_firstFault_37 rfl hl (by decide) rfl (fun ls hl => ?_)
        refine lv_iload_n hx hb dc_I_firstFault_38 rfl (lv_at hl 0 rfl) ?_
        refine lv_if_ne (tgt := 51) hx hb dc_I_firstFault_39 (by decide) (fun c => ?_) (fun c => ?_)
        · have h := h.1 c
          refine lv_iload_n hx hb dc_I_firstFault_51 rfl (lv_at hl 0 rfl) ?_
          refine lv_if_ne (tgt := 60) hx hb dc_I_firstFault_52 (by decide) (fun c => ?_) (fun c => ?_)
          · have h := h.1 c
            refine lv_iload_n hx hb dc_I_firstFault_60 rfl (lv_at hl 0 rfl) ?_
            refine lv_if_eq (tgt := 68) hx hb dc_I_firstFault_61 (by decide) (fun c => ?_) (fun c => ?_)
            · have h := h.1 c
              refine lv_aload_n hx hb dc_I_firstFault_68 rfl (lv_at hl 1 rfl) ?_
              refine w_cVi (y := yn_I_faultOfWays) (C := Rn_I) (index := 48) (n := 0) (own := Rn_I) 21 hx hb hml hown hts hK hN hP hS (ct_I_faultOfWays l D ad cA w hJ st101 _ h) mw_295 mw_296 mw_297 mw_298 mw_268 (by decide +kernel) ⟨Nat.le_of_ble_eq_true rfl, Nat.le_of_ble_eq_true rfl⟩ rfl rfl rfl rfl rfl hl.1 rfl (lv_room (Nat.le_of_ble_eq_true rfl)) dc_I_firstFault_69 ⟨Nat.zero_le _, Nat.zero_le _⟩ (fun r104 st103 H locs hP hS h => ?_)
              exact w_iret hx hb hr hlocks hP hS h dc_I_firstFault_72
            · have h := h.2 c
              refine lv_iload_n hx hb dc_I_firstFault_64 rfl (lv_at hl 0 rfl) ?_
              refine lv_goto (tgt := 72) hx hb dc_I_firstFault_65 (by decide) ?_
              exact w_iret hx hb hr hlocks hP hS h dc_I_firstFault_72
          · have h := h.2 c
            refine lv_aload_n hx hb dc_I_firstFault_55 rfl (lv_at hl 1 rfl) ?_
            refine w_cVi (y := yn_I_faultOfFree) (C := Rn_I) (index := 44) (n := 0) (own := Rn_I) 21 hx hb hml hown hts hK hN hP hS (ct_I_faultOfFree l D ad cA w hJ st101 _ h) mw_307 mw_308 mw_309 mw_310 mw_268 (by decide +kernel) ⟨Nat.le_of_ble_eq_true rfl, Nat.le_of_ble_eq_true rfl⟩ rfl rfl rfl rfl rfl hl.1 rfl (lv_room (Nat.le_of_ble_eq_true rfl)) dc_I_firstFault_56 ⟨Nat.zero_le _, Nat.zero_le _⟩ (fun r106 st105 H locs hP hS h => ?_)
            refine lv_istore_n (lv' := [(3, .int r106), (0, .ref (ad 21)), (1, .ref (ad 22)), (2, .ref (ad 23))]) hx hb dc_I_firstFault_59 rfl hl (by decide) rfl (fun ls hl => ?_)
            refine lv_iload_n hx hb dc_I_firstFault_60 rfl (lv_at hl 0 rfl) ?_
            refine lv_if_eq (tgt := 68) hx hb dc_I_firstFault_61 (by decide) (fun c => ?_) (fun c => ?_)
            · have h := h.1 c
              refine lv_aload_n hx hb dc_I_firstFault_68 rfl (lv_at hl 1 rfl) ?_
              refine w_cVi (y := yn_I_faultOfWays) (C := Rn_I) (index := 48) (n := 0) (own := Rn_I) 21 hx hb hml hown hts hK hN hP hS (ct_I_faultOfWays l D ad cA w hJ st105 _ h) mw_295 mw_296 mw_297 mw_298 mw_268 (by decide +kernel) ⟨Nat.le_of_ble_eq_true rfl, Nat.le_of_ble_eq_true rfl⟩ rfl rfl rfl rfl rfl hl.1 rfl (lv_room (Nat.le_of_ble_eq_true rfl)) dc_I_firstFault_69 ⟨Nat.zero_le _, Nat.zero_le _⟩ (fun r108 st107 H locs hP hS h => ?_)
              exact w_iret hx hb hr hlocks hP hS h dc_I_firstFault_72
            · have h := h.2 c
              refine lv_iload_n hx hb dc_I_firstFault_64 rfl (lv_at hl 0 rfl) ?_
              refine lv_goto (tgt := 72) hx hb dc_I_firstFault_65 (by decide) ?_
              exact w_iret hx hb hr hlocks hP hS h dc_I_firstFault_72
        · have h := h.2 c
          refine lv_aload_n hx hb dc_I_firstFault_42 rfl (lv_at hl 1 rfl) ?_
          refine lv_aload_n hx hb dc_I_firstFault_43 rfl (lv_at hl 3 rfl) ?_
          refine lv_sipush (v := 1209) hx hb dc_I_firstFault_44 (by decide) ?_
          refine w_cVi (y := yn_I_faultOfMaps) (C := Rn_I) (index := 40) (n := 2) (own := Rn_I) 21 hx hb hml hown hts hK hN hP hS (ct_I_faultOfMaps_23 l D ad cA w hJ 1209 st101 _ h) mw_289 mw_290 mw_291 mw_292 mw_268 (by decide +kernel) ⟨Nat.le_of_ble_eq_true rfl, Nat.le_of_ble_eq_true rfl⟩ rfl rfl rfl rfl rfl hl.1 rfl (lv_room (Nat.le_of_ble_eq_true rfl)) dc_I_firstFault_47 ⟨Nat.zero_le _, Nat.zero_le _⟩ (fun r110 st109 H locs hP hS h => ?_)
          refine lv_istore_n (lv' := [(3, .int r110), (0, .ref (ad 21)), (1, .ref (ad 22)), (2, .ref (ad 23))]) hx hb dc_I_firstFault_50 rfl hl (by decide) rfl (fun ls hl => ?_)
          refine lv_iload_n hx hb dc_I_firstFault_51 rfl (lv_at hl 0 rfl) ?_
          refine lv_if_ne (tgt := 60) hx hb dc_I_firstFault_52 (by decide) (fun c => ?_) (fun c => ?_)
          · have h := h.1 c
            refine lv_iload_n hx hb dc_I_firstFault_60 rfl (lv_at hl 0 rfl) ?_
            refine lv_if_eq (tgt := 68) hx hb dc_I_firstFault_61 (by decide) (fun c => ?_) (fun c => ?_)
            · have h := h.1 c
              refine lv_aload_n hx hb dc_I_firstFault_68 rfl (lv_at hl 1 rfl) ?_
              refine w_cVi (y := yn_I_faultOfWays) (C := Rn_I) (index := 48) (n := 0) (own := Rn_I) 21 hx hb hml hown hts hK hN hP hS (ct_I_faultOfWays l D ad cA w hJ st109 _ h) mw_295 mw_296 mw_297 mw_298 mw_268 (by decide +kernel) ⟨Nat.le_of_ble_eq_true rfl, Nat.le_of_ble_eq_true rfl⟩ rfl rfl rfl rfl rfl hl.1 rfl (lv_room (Nat.le_of_ble_eq_true rfl)) dc_I_firstFault_69 ⟨Nat.zero_le _, Nat.zero_le _⟩ (fun r112 st111 H locs hP hS h => ?_)
              exact w_iret hx hb hr hlocks hP hS h dc_I_firstFault_72
            · have h := h.2 c
              refine lv_iload_n hx hb dc_I_firstFault_64 rfl (lv_at hl 0 rfl) ?_
              refine lv_goto (tgt := 72) hx hb dc_I_firstFault_65 (by decide) ?_
              exact w_iret hx hb hr hlocks hP hS h dc_I_firstFault_72
          · have h := h.2 c
            refine lv_aload_n hx hb dc_I_firstFault_55 rfl (lv_at hl 1 rfl) ?_
            refine w_cVi (y := yn_I_faultOfFree) (C := Rn_I) (index := 44) (n := 0) (own := Rn_I) 21 hx hb hml hown hts hK hN hP hS (ct_I_faultOfFree l D ad cA w hJ st109 _ h) mw_307 mw_308 mw_309 mw_310 mw_268 (by decide +kernel) ⟨Nat.le_of_ble_eq_true rfl, Nat.le_of_ble_eq_true rfl⟩ rfl rfl rfl rfl rfl hl.1 rfl (lv_room (Nat.le_of_ble_eq_true rfl)) dc_I_firstFault_56 ⟨Nat.zero_le _, Nat.zero_le _⟩ (fun r114 st113 H locs hP hS h => ?_)
            refine lv_istore_n (lv' := [(3, .int r114), (0, .ref (ad 21)), (1, .ref (ad 22)), (2, .ref (ad 23))]) hx hb dc_I_firstFault_59 rfl hl (by decide) rfl (fun ls hl => ?_)
            refine lv_iload_n hx hb dc_I_firstFault_60 rfl (lv_at hl 0 rfl) ?_
            refine lv_if_eq (tgt := 68) hx hb dc_I_firstFault_61 (by decide) (fun c => ?_) (fun c => ?_)
            · have h := h.1 c
              refine lv_aload_n hx hb dc_I_firstFault_68 rfl (lv_at hl 1 rfl) ?_
              refine w_cVi (y := yn_I_faultOfWays) (C := Rn_I) (index := 48) (n := 0) (own := Rn_I) 21 hx hb hml hown hts hK hN hP hS (ct_I_faultOfWays l D ad cA w hJ st113 _ h) mw_295 mw_296 mw_297 mw_298 mw_268 (by decide +kernel) ⟨Nat.le_of_ble_eq_true rfl, Nat.le_of_ble_eq_true rfl⟩ rfl rfl rfl rfl rfl hl.1 rfl (lv_room (Nat.le_of_ble_eq_true rfl)) dc_I_firstFault_69 ⟨Nat.zero_le _, Nat.zero_le _⟩ (fun r116 st115 H locs hP hS h => ?_)
              exact w_iret hx hb hr hlocks hP hS h dc_I_firstFault_72
            · have h := h.2 c
              refine lv_iload_n hx hb dc_I_firstFault_64 rfl (lv_at hl 0 rfl) ?_
              refine lv_goto (tgt := 72) hx hb dc_I_firstFault_65 (by decide) ?_
              exact w_iret hx hb hr hlocks hP hS h dc_I_firstFault_72
      · have h := h.2 c
        refine lv_aload_n hx hb dc_I_firstFault_9 rfl (lv_at hl 0 rfl) ?_
        refine va_get (D := D) (ci := 3) (v := .ref (ad 6)) (C := Rn_I) (T := Fn_I) (N := 7) hx hb hts in_I hown hK hP 21 rfl rfl 3 (by decide) (hts _ mw_261) (fun _ h9 => h9) rfl dc_I_firstFault_10 ?_
        refine lv_iload_n hx hb dc_I_firstFault_13 rfl (lv_at hl 3 rfl) ?_
        refine lv_iconst (v := 0) hx hb dc_I_firstFault_14 (by decide) ?_
        refine w_ist 6 (by decide) hJ hx hb hK hP hS h.1 dc_I_firstFault_15 (fun H locs hP hS => ?_)
        obtain ⟨st117, est117⟩ : ∃ z : St_, z = ws_1 st 6 (y3).toNatClampNeg 0 := ⟨_, rfl⟩
        rw [← est117] at hP
        have h := h.2 st117 est117
        refine lv_aload_n hx hb dc_I_firstFault_16 rfl (lv_at hl 0 rfl) ?_
        refine va_get (D := D) (ci := 3) (v := .ref (ad 9)) (C := Rn_I) (T := Fn_I) (N := 7) hx hb hts in_I hown hK hP 21 rfl rfl 6 (by decide) (hts _ mw_294) (fun _ h9 => h9) rfl dc_I_firstFault_17 ?_
        refine lv_iload_n hx hb dc_I_firstFault_20 rfl (lv_at hl 3 rfl) ?_
        refine lv_iconst (v := 0) hx hb dc_I_firstFault_21 (by decide) ?_
        refine w_zst hJ hx hb hK hP hS h.1 dc_I_firstFault_22 (fun H locs hP hS => ?_)
        obtain ⟨st118, est118⟩ : ∃ z : St_, z = ws_1 st117 9 (y3).toNatClampNeg (vp_nar .boolean 0) := ⟨_, rfl⟩
        rw [← est118] at hP
        have h := h.2 st118 est118
        obtain ⟨x119, ex119⟩ : ∃ y : Int32, y = y3 + 1 := ⟨_, rfl⟩
        have h := h x119 ex119
        refine lv_iinc (v := x119) (lv' := [(3, .int x119), (0, .ref (ad 21)), (1, .ref (ad 22)), (2, .ref (ad 23))]) hx hb dc_I_firstFault_23 hl (k := 3) rfl (by rw [ex119]; rfl) (by decide) rfl (fun ls hl => ?_)
        refine lv_goto (tgt := 2) hx hb dc_I_firstFault_26 (by decide) ?_
        exact ih x119 st118 h _ _ hP hS ls (lv_sub hl [1, 2, 3, 0] rfl)
  have hl := lv_entry ([.ref (ad 21), .ref (ad 22), .ref (ad 23)]) (n := 4) (Nat.le_of_ble_eq_true rfl)
  rw [lg_entry_eq]
  generalize (lg_sl ([.ref (ad 21), .ref (ad 22), .ref (ad 23)]) ++ List.replicate (4 - (lg_sl ([.ref (ad 21), .ref (ad 22), .ref (ad 23)])).length) Slot.unset).toArray = ls at hl ⊢
  have hl : lv_has ls 4 [(0, .ref (ad 21)), (1, .ref (ad 22)), (2, .ref (ad 23))] := hl
  refine lv_iconst (v := 0) hx hb dc_I_firstFault_0 (by decide) ?_
  refine lv_istore_n (lv' := [(3, .int 0), (0, .ref (ad 21)), (1, .ref (ad 22)), (2, .ref (ad 23))]) hx hb dc_I_firstFault_1 rfl hl (by decide) rfl (fun ls hl => ?_)
  obtain ⟨n, h⟩ := h
  exact Lp_2 n 0 st h _ _ hP hS ls (lv_sub hl [1, 2, 3, 0] rfl)
