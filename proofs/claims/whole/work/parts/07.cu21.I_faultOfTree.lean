set_option maxHeartbeats 4000000 in
set_option maxRecDepth 100000 in
theorem ct_I_faultOfTree (l : Launch) (D : va_G) (ad : Nat → Nat) (cA : Nat → ClassId) (w : Nat) (hJ : Jn_ ad) (x1 : Int32) (x2 : Int32) (x3 : Int32) (st : St_) (post : Int32 → St_ → Prop) (h : wp_I_faultOfTree w x1 x2 x3 st post) : Met l yn_I_faultOfTree (Cond.code yn_I_faultOfTree bc_I_faultOfTree 6 (some .int) :: Wk_) rm_I_faultOfTree (Pw_ D ad cA w st [.ref (ad 21), .int x1, .int x2, .int x3]) (Qi_ D ad cA w post) 0 0 (Aw_ ad) := by
  refine Met.ofW (cc := bc_I_faultOfTree) (maxL := 6) (ret := (some .int)) (by decide) rfl ?_
  intro p e s m args below meth c s₁ B hml hv
  obtain ⟨rfl, hP, hK, hN⟩ := hv
  have hx := B.exec
  have hb := B.bytes
  have hr := B.returns
  have hts : ∀ v ∈ Wk_, v.before [.ref (ad 21), .int x1, .int x2, .int x3].toArray s = true := fun v hv => atoms_spec (ws := Cond.code yn_I_faultOfTree bc_I_faultOfTree 6 (some .int) :: Wk_) B.pre v (List.mem_cons_of_mem _ hv)
  have hown : s.vm.findClass Rn_I = some m.cls := findClass_of_methodNamed B.named
  have hlocks := B.notSynchronized
  have hS : va_S (Aw_ ad) s.heap s.heap [] := va_S.rf
  have hl := lv_entry ([.ref (ad 21), .int x1, .int x2, .int x3]) (n := 6) (Nat.le_of_ble_eq_true rfl)
  rw [lg_entry_eq]
  generalize (lg_sl ([.ref (ad 21), .int x1, .int x2, .int x3]) ++ List.replicate (6 - (lg_sl ([.ref (ad 21), .int x1, .int x2, .int x3])).length) Slot.unset).toArray = ls at hl ⊢
  have hl : lv_has ls 6 [(0, .ref (ad 21)), (1, .int x1), (2, .int x2), (3, .int x3)] := hl
  refine lv_iload_n hx hb dc_I_faultOfTree_0 rfl (lv_at hl 1 rfl) ?_
  refine lv_if_ne (tgt := 14) hx hb dc_I_faultOfTree_1 (by decide) (fun c => ?_) (fun c => ?_)
  · have h := h.1 c
    refine lv_aload_n hx hb dc_I_faultOfTree_14 rfl (lv_at hl 0 rfl) ?_
    refine va_get (D := D) (ci := 3) (v := .ref (ad 19)) (C := Rn_I) (T := Fn_I) (N := 7) hx hb hts in_I hown hK hP 21 rfl rfl 0 (by decide) (hts _ mw_260) (fun _ h9 => h9) rfl dc_I_faultOfTree_15 ?_
    refine lv_iload_n hx hb dc_I_faultOfTree_18 rfl (lv_at hl 1 rfl) ?_
    refine w_cVi (y := yn_B_isBlock) (C := Rn_B) (index := 66) (n := 1) (own := Rn_I) 19 hx hb hml hown hts hK hN hP hS (ct_B_isBlock l D ad cA w hJ x1 st _ h) mw_14 mw_261 mw_16 mw_17 mw_18 (by decide +kernel) ⟨Nat.le_of_ble_eq_true rfl, Nat.le_of_ble_eq_true rfl⟩ rfl rfl rfl rfl rfl hl.1 rfl (lv_room (Nat.le_of_ble_eq_true rfl)) dc_I_faultOfTree_19 ⟨Nat.zero_le _, Nat.zero_le _⟩ (fun r102 st101 H locs hP hS h => ?_)
    refine lv_if_ne (tgt := 27) hx hb dc_I_faultOfTree_22 (by decide) (fun c => ?_) (fun c => ?_)
    · have h := h.1 c
      refine lv_aload_n hx hb dc_I_faultOfTree_27 rfl (lv_at hl 0 rfl) ?_
      refine va_get (D := D) (ci := 3) (v := .ref (ad 19)) (C := Rn_I) (T := Fn_I) (N := 7) hx hb hts in_I hown hK hP 21 rfl rfl 0 (by decide) (hts _ mw_260) (fun _ h9 => h9) rfl dc_I_faultOfTree_28 ?_
      refine lv_iload_n hx hb dc_I_faultOfTree_31 rfl (lv_at hl 1 rfl) ?_
      refine w_cVi (y := yn_B_level) (C := Rn_B) (index := 72) (n := 1) (own := Rn_I) 19 hx hb hml hown hts hK hN hP hS (ct_B_level l D ad cA w hJ x1 st101 _ h) mw_20 mw_262 mw_22 mw_23 mw_18 (by decide +kernel) ⟨Nat.le_of_ble_eq_true rfl, Nat.le_of_ble_eq_true rfl⟩ rfl rfl rfl rfl rfl hl.1 rfl (lv_room (Nat.le_of_ble_eq_true rfl)) dc_I_faultOfTree_32 ⟨Nat.zero_le _, Nat.zero_le _⟩ (fun r104 st103 H locs hP hS h => ?_)
      refine lv_istore (lv' := [(4, .int r104), (0, .ref (ad 21)), (1, .int x1), (2, .int x2), (3, .int x3)]) hx hb dc_I_faultOfTree_35 hl (by decide) rfl (fun ls hl => ?_)
      refine lv_aload_n hx hb dc_I_faultOfTree_37 rfl (lv_at hl 1 rfl) ?_
      refine va_get (D := D) (ci := 3) (v := .ref (ad 19)) (C := Rn_I) (T := Fn_I) (N := 7) hx hb hts in_I hown hK hP 21 rfl rfl 0 (by decide) (hts _ mw_260) (fun _ h9 => h9) rfl dc_I_faultOfTree_38 ?_
      refine lv_iload_n hx hb dc_I_faultOfTree_41 rfl (lv_at hl 2 rfl) ?_
      refine w_cVi (y := yn_B_size) (C := Rn_B) (index := 75) (n := 1) (own := Rn_I) 19 hx hb hml hown hts hK hN hP hS (ct_B_size l D ad cA w hJ x1 st103 _ h) mw_26 mw_263 mw_28 mw_29 mw_18 (by decide +kernel) ⟨Nat.le_of_ble_eq_true rfl, Nat.le_of_ble_eq_true rfl⟩ rfl rfl rfl rfl rfl hl.1 rfl (lv_room (Nat.le_of_ble_eq_true rfl)) dc_I_faultOfTree_42 ⟨Nat.zero_le _, Nat.zero_le _⟩ (fun r106 st105 H locs hP hS h => ?_)
      refine lv_iload hx hb dc_I_faultOfTree_45 (lv_at hl 0 rfl) ?_
      refine lv_if_ne (tgt := 54) hx hb dc_I_faultOfTree_47 (by decide) (fun c => ?_) (fun c => ?_)
      · have h := h.1 c
        refine lv_iconst (v := 2) hx hb dc_I_faultOfTree_54 (by decide) ?_
        refine lv_icmp_ge (tgt := 60) hx hb dc_I_faultOfTree_55 (by decide) (fun c => ?_) (fun c => ?_)
        · have h := h.1 c
          refine lv_aload_n hx hb dc_I_faultOfTree_60 rfl (lv_at hl 1 rfl) ?_
          refine lv_iload_n hx hb dc_I_faultOfTree_61 rfl (lv_at hl 2 rfl) ?_
          refine lv_iload hx hb dc_I_faultOfTree_62 (lv_at hl 0 rfl) ?_
          refine w_cVi (y := yn_I_faultBelow) (C := Rn_I) (index := 78) (n := 2) (own := Rn_I) 21 hx hb hml hown hts hK hN hP hS (ct_I_faultBelow l D ad cA w hJ 20 x1 r104 st105 _ h) mw_276 mw_277 mw_278 mw_279 mw_271 (by decide +kernel) ⟨Nat.le_of_ble_eq_true rfl, Nat.le_of_ble_eq_true rfl⟩ rfl rfl rfl rfl rfl hl.1 rfl (lv_room (Nat.le_of_ble_eq_true rfl)) dc_I_faultOfTree_64 ⟨Nat.zero_le _, Nat.zero_le _⟩ (fun r108 st107 H locs hP hS h => ?_)
          refine lv_istore (lv' := [(5, .int r108), (4, .int r104), (0, .ref (ad 21)), (1, .int x1), (2, .int x2), (3, .int x3)]) hx hb dc_I_faultOfTree_67 hl (by decide) rfl (fun ls hl => ?_)
          refine lv_iload hx hb dc_I_faultOfTree_69 (lv_at hl 0 rfl) ?_
          refine lv_if_eq (tgt := 77) hx hb dc_I_faultOfTree_71 (by decide) (fun c => ?_) (fun c => ?_)
          · have h := h.1 c
            refine lv_aload_n hx hb dc_I_faultOfTree_77 rfl (lv_at hl 2 rfl) ?_
            refine va_get (D := D) (ci := 3) (v := .ref (ad 7)) (C := Rn_I) (T := Fn_I) (N := 7) hx hb hts in_I hown hK hP 21 rfl rfl 4 (by decide) (hts _ mw_272) (fun _ h9 => h9) rfl dc_I_faultOfTree_78 ?_
            refine lv_iload_n hx hb dc_I_faultOfTree_81 rfl (lv_at hl 3 rfl) ?_
            refine w_ild 7 (by decide) hx hb hK hP h.1 dc_I_faultOfTree_82 ?_
            have h := h.2
            refine lv_iload_n hx hb dc_I_faultOfTree_83 rfl (lv_at hl 4 rfl) ?_
            refine lv_icmp_ne (tgt := 91) hx hb dc_I_faultOfTree_84 (by decide) (fun c => ?_) (fun c => ?_)
            · have h := h.1 c
              refine lv_iload_n hx hb dc_I_faultOfTree_91 rfl (lv_at hl 5 rfl) ?_
              exact w_iret hx hb hr hlocks hP hS h dc_I_faultOfTree_92
            · have h := h.2 c
              refine lv_iconst (v := 0) hx hb dc_I_faultOfTree_87 (by decide) ?_
              refine lv_goto (tgt := 92) hx hb dc_I_faultOfTree_88 (by decide) ?_
              exact w_iret hx hb hr hlocks hP hS h dc_I_faultOfTree_92
          · have h := h.2 c
            refine lv_iload hx hb dc_I_faultOfTree_74 (lv_at hl 0 rfl) ?_
            exact w_iret hx hb hr hlocks hP hS h dc_I_faultOfTree_76
        · have h := h.2 c
          refine lv_iload_n hx hb dc_I_faultOfTree_58 rfl (lv_at hl 2 rfl) ?_
          exact w_iret hx hb hr hlocks hP hS h dc_I_faultOfTree_59
      · have h := h.2 c
        refine lv_iconst (v := 1) hx hb dc_I_faultOfTree_50 (by decide) ?_
        refine lv_goto (tgt := 55) hx hb dc_I_faultOfTree_51 (by decide) ?_
        refine lv_icmp_ge (tgt := 60) hx hb dc_I_faultOfTree_55 (by decide) (fun c => ?_) (fun c => ?_)
        · have h := h.1 c
          refine lv_aload_n hx hb dc_I_faultOfTree_60 rfl (lv_at hl 1 rfl) ?_
          refine lv_iload_n hx hb dc_I_faultOfTree_61 rfl (lv_at hl 2 rfl) ?_
          refine lv_iload hx hb dc_I_faultOfTree_62 (lv_at hl 0 rfl) ?_
          refine w_cVi (y := yn_I_faultBelow) (C := Rn_I) (index := 78) (n := 2) (own := Rn_I) 21 hx hb hml hown hts hK hN hP hS (ct_I_faultBelow l D ad cA w hJ 20 x1 r104 st105 _ h) mw_276 mw_277 mw_278 mw_279 mw_271 (by decide +kernel) ⟨Nat.le_of_ble_eq_true rfl, Nat.le_of_ble_eq_true rfl⟩ rfl rfl rfl rfl rfl hl.1 rfl (lv_room (Nat.le_of_ble_eq_true rfl)) dc_I_faultOfTree_64 ⟨Nat.zero_le _, Nat.zero_le _⟩ (fun r110 st109 H locs hP hS h => ?_)
          refine lv_istore (lv' := [(5, .int r110), (4, .int r104), (0, .ref (ad 21)), (1, .int x1), (2, .int x2), (3, .int x3)]) hx hb dc_I_faultOfTree_67 hl (by decide) rfl (fun ls hl => ?_)
          refine lv_iload hx hb dc_I_faultOfTree_69 (lv_at hl 0 rfl) ?_
          refine lv_if_eq (tgt := 77) hx hb dc_I_faultOfTree_71 (by decide) (fun c => ?_) (fun c => ?_)
          · have h := h.1 c
            refine lv_aload_n hx hb dc_I_faultOfTree_77 rfl (lv_at hl 2 rfl) ?_
            refine va_get (D := D) (ci := 3) (v := .ref (ad 7)) (C := Rn_I) (T := Fn_I) (N := 7) hx hb hts in_I hown hK hP 21 rfl rfl 4 (by decide) (hts _ mw_272) (fun _ h9 => h9) rfl dc_I_faultOfTree_78 ?_
            refine lv_iload_n hx hb dc_I_faultOfTree_81 rfl (lv_at hl 3 rfl) ?_
            refine w_ild 7 (by decide) hx hb hK hP h.1 dc_I_faultOfTree_82 ?_
            have h := h.2
            refine lv_iload_n hx hb dc_I_faultOfTree_83 rfl (lv_at hl 4 rfl) ?_
            refine lv_icmp_ne (tgt := 91) hx hb dc_I_faultOfTree_84 (by decide) (fun c => ?_) (fun c => ?_)
            · have h := h.1 c
              refine lv_iload_n hx hb dc_I_faultOfTree_91 rfl (lv_at hl 5 rfl) ?_
              exact w_iret hx hb hr hlocks hP hS h dc_I_faultOfTree_92
            · have h := h.2 c
              refine lv_iconst (v := 0) hx hb dc_I_faultOfTree_87 (by decide) ?_
              refine lv_goto (tgt := 92) hx hb dc_I_faultOfTree_88 (by decide) ?_
              exact w_iret hx hb hr hlocks hP hS h dc_I_faultOfTree_92
          · have h := h.2 c
            refine lv_iload hx hb dc_I_faultOfTree_74 (lv_at hl 0 rfl) ?_
            exact w_iret hx hb hr hlocks hP hS h dc_I_faultOfTree_76
        · have h := h.2 c
          refine lv_iload_n hx hb dc_I_faultOfTree_58 rfl (lv_at hl 2 rfl) ?_
          exact w_iret hx hb hr hlocks hP hS h dc_I_faultOfTree_59
    · have h := h.2 c
      refine lv_iload_n hx hb dc_I_faultOfTree_25 rfl (lv_at hl 3 rfl) ?_
      exact w_iret hx hb hr hlocks hP hS h dc_I_faultOfTree_26
  · have h := h.2 c
    refine lv_iload_n hx hb dc_I_faultOfTree_4 rfl (lv_at hl 2 rfl) ?_
    refine lv_if_ne (tgt := 12) hx hb dc_I_faultOfTree_5 (by decide) (fun c => ?_) (fun c => ?_)
    · have h := h.1 c
      refine lv_iload_n hx hb dc_I_faultOfTree_12 rfl (lv_at hl 3 rfl) ?_
      exact w_iret hx hb hr hlocks hP hS h dc_I_faultOfTree_13
    · have h := h.2 c
      refine lv_iconst (v := 0) hx hb dc_I_faultOfTree_8 (by decide) ?_
      refine lv_goto (tgt := 13) hx hb dc_I_faultOfTree_9 (by decide) ?_
      exact w_iret hx hb hr hlocks hP hS h dc_I_faultOfTree_13
