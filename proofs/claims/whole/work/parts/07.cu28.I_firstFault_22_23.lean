set_option maxHeartbeats 4000000 in
set_option maxRecDepth 100000 in
theorem ct_I_firstFault_22_23 (l : Launch) (D : va_G) (ad : Nat → Nat) (cA : Nat → ClassId) (w : Nat) (hJ : Jn_ ad) (st : St_) (post : Int32 → St_ → Prop) (h : wp_I_firstFault_22_23 w st post) : Met l yn_I_firstFault (Cond.code yn_I_firstFault bc_I_firstFault 4 (some .int) :: Wk_) rm_I_firstFault_22_23 (Pw_ D ad cA w st [.ref (ad 21), .ref (ad 22), .ref (ad 23)]) (Qi_ D ad cA w post) 0 0 (Aw_ ad) := by
  refine Met.ofW (cc := bc_I_firstFault) (maxL := 4) (ret := (some .int)) (by decide) rfl ?_
  intro p e s m args below meth c s₁ B hml hv
  obtain ⟨rfl, hP, hK, hN⟩ := hv
  have hx := B.exec
  have hb := B.bytes
  have hr := B.returns
  have hts : ∀ v ∈ Wk_, v.before [.ref (ad 21), .ref (ad 22), .ref (ad 23)].toArray s = true := fun v hv => atoms_spec (ws := Cond.code yn_I_firstFault bc_I_firstFault 4 (some .int) :: Wk_) B.pre v (List.mem_cons_of_mem _ hv)
  have hown : s.vm.findClass Rn_I = some m.cls := findClass_of_methodNamed B.named
  have hlocks := B.notSynchronized
  have hS : va_S (Aw_ ad) s.heap s.heap [] := va_S.rf
  have Lp_2 : ∀ (n : Nat) (y3 : Int32) (st : St_), wp_I_firstFault_22_23_2 w post n y3 st → ∀ (H : Heap) (locs : List Loc), va_P D sC_ (wd_ ad cA w st) H → va_S (Aw_ ad) s.heap H locs → ∀ ls : Array Slot, lv_has ls 4 [(0, .ref (ad 21)), (1, .ref (ad 22)), (2, .ref (ad 23)), (3, .int y3)] → W p l e (headSpec (Cond.code yn_I_firstFault bc_I_firstFault 4 (some .int) :: Wk_) rm_I_firstFault_22_23).room s m [.ref (ad 21), .ref (ad 22), .ref (ad 23)].toArray below meth c H locs 0 0 (MQ below (Qi_ D ad cA w post) [.ref (ad 21), .ref (ad 22), .ref (ad 23)].toArray s 0 0 (Aw_ ad)) (F0 m 2 ls []) := by
    intro n
    induction n with
    | zero => intro y3 st h; exact h.elim
    | succ n ih =>
      intro y3 st h H locs hP hS ls hl
      refine lv_iload_n hx hb dc_I_firstFault_2 rfl (lv_at hl 3 rfl) ?_
      refine lv_sipush (v := 1200) hx hb dc_I_firstFault_3 (by decide) ?_
      refine lv_icmp_gt (tgt := 29) hx hb dc_I_firstFault_6 (by decide) (fun c => ?_) (fun c => ?_)
      · have h := h.1 c
        refine lv_aload_n hx hb dc_I_firstFault_29 rfl (lv_at hl 0 rfl) ?_
        refine lv_aload_n hx hb dc_I_firstFault_30 rfl (lv_at hl 1 rfl) ?_
        refine lv_sipush (v := 1201) hx hb dc_I_firstFault_31 (by decide) ?_
        refine w_cVi (y := yn_I_faultOfMaps) (C := Rn_I) (index := 40) (n := 2) (own := Rn_I) 21 hx hb hml hown hts hK hN hP hS (ct_I_faultOfMaps_22 l D ad cA w hJ 1201 st _ h) mw_292 mw_293 mw_294 mw_295 mw_271 (by decide +kernel) ⟨Nat.le_of_ble_eq_true rfl, Nat.le_of_ble_eq_true rfl⟩ rfl rfl rfl rfl rfl hl.1 rfl (lv_room (Nat.le_of_ble_eq_true rfl)) dc_I_firstFault_34 ⟨Nat.zero_le _, Nat.zero_le _⟩ (fun r102 st101 H locs hP hS h => ?_)
        refine lv_istore_n (lv' := [(3, .int r102), (0, .ref (ad 21)), (1, .ref (ad 22)), (2, .ref (ad 23))]) hx hb dc_I_firstFault_37 rfl hl (by decide) rfl (fun ls hl => ?_)
        refine lv_iload_n hx hb dc_I_firstFault_38 rfl (lv_at hl 0 rfl) ?_
        refine lv_if_ne (tgt := 51) hx hb dc_I_firstFault_39 (by decide) (fun c => ?_) (fun c => ?_)
        · have h := h.1 c
          refine lv_iload_n hx hb dc_I_firstFault_51 rfl (lv_at hl 0 rfl) ?_
          refine lv_if_ne (tgt := 60) hx hb dc_I_firstFault_52 (by decide) (fun c => ?_) (fun c => ?_)
          · have h := h.1 c
            refine lv_iload_n hx hb dc_I_firstFault_60 rfl (lv_at hl 0 rfl) ?_
            refine lv_if_eq (tgt := 68) hx hb dc_I_firstFault_61 (by decide) (fun c => ?_) (fun c => ?_)
            · have h := h.1 c
              refine lv_aload_n hx hb dc_I_firstFault_68 rfl (lv_at hl 1 rfl) ?_
              refine w_cVi (y := yn_I_faultOfWays) (C := Rn_I) (index := 48) (n := 0) (own := Rn_I) 21 hx hb hml hown hts hK hN hP hS (ct_I_faultOfWays l D ad cA w hJ st101 _ h) mw_298 mw_299 mw_300 mw_301 mw_271 (by decide +kernel) ⟨Nat.le_of_ble_eq_true rfl, Nat.le_of_ble_eq_true rfl⟩ rfl rfl rfl rfl rfl hl.1 rfl (lv_room (Nat.le_of_ble_eq_true rfl)) dc_I_firstFault_69 ⟨Nat.zero_le _, Nat.zero_le _⟩ (fun r104 st103 H locs hP hS h => ?_)
              exact w_iret hx hb hr hlocks hP hS h dc_I_firstFault_72
            · have h := h.2 c
              refine lv_iload_n hx hb dc_I_firstFault_64 rfl (lv_at hl 0 rfl) ?_
              refine lv_goto (tgt := 72) hx hb dc_I_firstFault_65 (by decide) ?_
              exact w_iret hx hb hr hlocks hP hS h dc_I_firstFault_72
          · have h := h.2 c
            refine lv_aload_n hx hb dc_I_firstFault_55 rfl (lv_at hl 1 rfl) ?_
            refine w_cVi (y := yn_I_faultOfFree) (C := Rn_I) (index := 44) (n := 0) (own := Rn_I) 21 hx hb hml hown hts hK hN hP hS (ct_I_faultOfFree l D ad cA w hJ st101 _ h) mw_310 mw_311 mw_312 mw_313 mw_271 (by decide +kernel) ⟨Nat.le_of_ble_eq_true rfl, Nat.le_of_ble_eq_true rfl⟩ rfl rfl rfl rfl rfl hl.1 rfl (lv_room (Nat.le_of_ble_eq_true rfl)) dc_I_firstFault_56 ⟨Nat.zero_le _, Nat.zero_le _⟩ (fun r106 st105 H locs hP hS h => ?_)
            refine lv_istore_n (lv' := [(3, .int r106), (0, .ref (ad 21)), (1, .ref (ad 22)), (2, .ref (ad 23))]) hx hb dc_I_firstFault_59 rfl hl (by decide) rfl (fun ls hl => ?_)
            refine lv_iload_n hx hb dc_I_firstFault_60 rfl (lv_at hl 0 rfl) ?_
            refine lv_if_eq (tgt := 68) hx hb dc_I_firstFault_61 (by decide) (fun c => ?_) (fun c => ?_)
            · have h := h.1 c
              refine lv_aload_n hx hb dc_I_firstFault_68 rfl (lv_at hl 1 rfl) ?_
              refine w_cVi (y := yn_I_faultOfWays) (C := Rn_I) (index := 48) (n := 0) (own := Rn_I) 21 hx hb hml hown hts hK hN hP hS (ct_I_faultOfWays l D ad cA w hJ st105 _ h) mw_298 mw_299 mw_300 mw_301 mw_271 (by decide +kernel) ⟨Nat.le_of_ble_eq_true rfl, Nat.le_of_ble_eq_true rfl⟩ rfl rfl rfl rfl rfl hl.1 rfl (lv_room (Nat.le_of_ble_eq_true rfl)) dc_I_firstFault_69 ⟨Nat.zero_le _, Nat.zero_le _⟩ (fun r108 st107 H locs hP hS h => ?_)
              exact w_iret hx hb hr hlocks hP hS h dc_I_firstFault_72
            · have h := h.2 c
              refine lv_iload_n hx hb dc_I_firstFault_64 rfl (lv_at hl 0 rfl) ?_
              refine lv_goto (tgt := 72) hx hb dc_I_firstFault_65 (by decide) ?_
              exact w_iret hx hb hr hlocks hP hS h dc_I_firstFault_72
        · have h := h.2 c
          refine lv_aload_n hx hb dc_I_firstFault_42 rfl (lv_at hl 1 rfl) ?_
          refine lv_aload_n hx hb dc_I_firstFault_43 rfl (lv_at hl 3 rfl) ?_
          refine lv_sipush (v := 1209) hx hb dc_I_firstFault_44 (by decide) ?_
          refine w_cVi (y := yn_I_faultOfMaps) (C := Rn_I) (index := 40) (n := 2) (own := Rn_I) 21 hx hb hml hown hts hK hN hP hS (ct_I_faultOfMaps_23 l D ad cA w hJ 1209 st101 _ h) mw_292 mw_293 mw_294 mw_295 mw_271 (by decide +kernel) ⟨Nat.le_of_ble_eq_true rfl, Nat.le_of_ble_eq_true rfl⟩ rfl rfl rfl rfl rfl hl.1 rfl (lv_room (Nat.le_of_ble_eq_true rfl)) dc_I_firstFault_47 ⟨Nat.zero_le _, Nat.zero_le _⟩ (fun r110 st109 H locs hP hS h => ?_)
          refine lv_istore_n (lv' := [(3, .int r110), (0, .ref (ad 21)), (1, .ref (ad 22)), (2, .ref (ad 23))]) hx hb dc_I_firstFault_50 rfl hl (by decide) rfl (fun ls hl => ?_)
          refine lv_iload_n hx hb dc_I_firstFault_51 rfl (lv_at hl 0 rfl) ?_
          refine lv_if_ne (tgt := 60) hx hb dc_I_firstFault_52 (by decide) (fun c => ?_) (fun c => ?_)
          · have h := h.1 c
            refine lv_iload_n hx hb dc_I_firstFault_60 rfl (lv_at hl 0 rfl) ?_
            refine lv_if_eq (tgt := 68) hx hb dc_I_firstFault_61 (by decide) (fun c => ?_) (fun c => ?_)
            · have h := h.1 c
              refine lv_aload_n hx hb dc_I_firstFault_68 rfl (lv_at hl 1 rfl) ?_
              refine w_cVi (y := yn_I_faultOfWays) (C := Rn_I) (index := 48) (n := 0) (own := Rn_I) 21 hx hb hml hown hts hK hN hP hS (ct_I_faultOfWays l D ad cA w hJ st109 _ h) mw_298 mw_299 mw_300 mw_301 mw_271 (by decide +kernel) ⟨Nat.le_of_ble_eq_true rfl, Nat.le_of_ble_eq_true rfl⟩ rfl rfl rfl rfl rfl hl.1 rfl (lv_room (Nat.le_of_ble_eq_true rfl)) dc_I_firstFault_69 ⟨Nat.zero_le _, Nat.zero_le _⟩ (fun r112 st111 H locs hP hS h => ?_)
              exact w_iret hx hb hr hlocks hP hS h dc_I_firstFault_72
            · have h := h.2 c
              refine lv_iload_n hx hb dc_I_firstFault_64 rfl (lv_at hl 0 rfl) ?_
              refine lv_goto (tgt := 72) hx hb dc_I_firstFault_65 (by decide) ?_
              exact w_iret hx hb hr hlocks hP hS h dc_I_firstFault_72
          · have h := h.2 c
            refine lv_aload_n hx hb dc_I_firstFault_55 rfl (lv_at hl 1 rfl) ?_
            refine w_cVi (y := yn_I_faultOfFree) (C := Rn_I) (index := 44) (n := 0) (own := Rn_I) 21 hx hb hml hown hts hK hN hP hS (ct_I_faultOfFree l D ad cA w hJ st109 _ h) mw_310 mw_311 mw_312 mw_313 mw_271 (by decide +kernel) ⟨Nat.le_of_ble_eq_true rfl, Nat.le_of_ble_eq_true rfl⟩ rfl rfl rfl rfl rfl hl.1 rfl (lv_room (Nat.le_of_ble_eq_true rfl)) dc_I_firstFault_56 ⟨Nat.zero_le _, Nat.zero_le _⟩ (fun r114 st113 H locs hP hS h => ?_)
            refine lv_istore_n (lv' := [(3, .int r114), (0, .ref (ad 21)), (1, .ref (ad 22)), (2, .ref (ad 23))]) hx hb dc_I_firstFault_59 rfl hl (by decide) rfl (fun ls hl => ?_)
            refine lv_iload_n hx hb dc_I_firstFault_60 rfl (lv_at hl 0 rfl) ?_
            refine lv_if_eq (tgt := 68) hx hb dc_I_firstFault_61 (by decide) (fun c => ?_) (fun c => ?_)
            · have h := h.1 c
              refine lv_aload_n hx hb dc_I_firstFault_68 rfl (lv_at hl 1 rfl) ?_
              refine w_cVi (y := yn_I_faultOfWays) (C := Rn_I) (index := 48) (n := 0) (own := Rn_I) 21 hx hb hml hown hts hK hN hP hS (ct_I_faultOfWays l D ad cA w hJ st113 _ h) mw_298 mw_299 mw_300 mw_301 mw_271 (by decide +kernel) ⟨Nat.le_of_ble_eq_true rfl, Nat.le_of_ble_eq_true rfl⟩ rfl rfl rfl rfl rfl hl.1 rfl (lv_room (Nat.le_of_ble_eq_true rfl)) dc_I_firstFault_69 ⟨Nat.zero_le _, Nat.zero_le _⟩ (fun r116 st115 H locs hP hS h => ?_)
              exact w_iret hx hb hr hlocks hP hS h dc_I_firstFault_72
            · have h := h.2 c
              refine lv_iload_n hx hb dc_I_firstFault_64 rfl (lv_at hl 0 rfl) ?_
              refine lv_goto (tgt := 72) hx hb dc_I_firstFault_65 (by decide) ?_
              exact w_iret hx hb hr hlocks hP hS h dc_I_firstFault_72
      · have h := h.2 c
        refine lv_aload_n hx hb dc_I_firstFault_9 rfl (lv_at hl 0 rfl) ?_
        refine va_get (D := D) (ci := 3) (v := .ref (ad 6)) (C := Rn_I) (T := Fn_I) (N := 7) hx hb hts in_I hown hK hP 21 rfl rfl 3 (by decide) (hts _ mw_264) (fun _ h9 => h9) rfl dc_I_firstFault_10 ?_
        refine lv_iload_n hx hb dc_I_firstFault_13 rfl (lv_at hl 3 rfl) ?_
        refine lv_iconst (v := 0) hx hb dc_I_firstFault_14 (by decide) ?_
        refine w_ist 6 (by decide) hJ hx hb hK hP hS h.1 dc_I_firstFault_15 (fun H locs hP hS => ?_)
        obtain ⟨st117, est117⟩ : ∃ z : St_, z = ws_1 st 6 (y3).toNatClampNeg 0 := ⟨_, rfl⟩
        rw [← est117] at hP
        have h := h.2 st117 est117
        refine lv_aload_n hx hb dc_I_firstFault_16 rfl (lv_at hl 0 rfl) ?_
        refine va_get (D := D) (ci := 3) (v := .ref (ad 9)) (C := Rn_I) (T := Fn_I) (N := 7) hx hb hts in_I hown hK hP 21 rfl rfl 6 (by decide) (hts _ mw_297) (fun _ h9 => h9) rfl dc_I_firstFault_17 ?_
        refine lv_iload_n hx hb dc_I_firstFault_20 rfl (lv_at hl 3 rfl) ?_
        refine lv_iconst (v := 0) hx hb dc_I_firstFault_21 (by decide) ?_
        refine w_zst hJ hx hb hK hP hS h.1 dc_I_firstFault_22 (fun H locs hP hS => ?_)
        obtain ⟨st118, est118⟩ : ∃ z : St_, z = ws_1 st117 9 (y3).toNatClampNeg (vp_nar .boolean 0) := ⟨_, rfl⟩
        rw [← est118] at hP
        have h := h.2 st118 est118
        obtain ⟨x119, ex119⟩ : ∃ y : Int32, y = y3 + 1 := ⟨_, rfl⟩
        have h := h x119 ex119
        refine lv_iinc (v := x119) (lv' := [(3, .int x119), (0, .ref (ad 21)), (1, .ref (ad 22)), (2, .ref (ad 23))]) hx hb dc_I_firstFault_23 hl (k := 3) rfl (by rw [ex119]; rfl) (by decide) rfl (fun ls hl => ?_)
        refine lv_goto (tgt := 2) hx hb dc_I_firstFault_26 (by decide) ?_
        exact ih x119 st118 h _ _ hP hS ls (lv_sub hl [1, 2, 3, 0] rfl)
  have hl := lv_entry ([.ref (ad 21), .ref (ad 22), .ref (ad 23)]) (n := 4) (Nat.le_of_ble_eq_true rfl)
  rw [lg_entry_eq]
  generalize (lg_sl ([.ref (ad 21), .ref (ad 22), .ref (ad 23)]) ++ List.replicate (4 - (lg_sl ([.ref (ad 21), .ref (ad 22), .ref (ad 23)])).length) Slot.unset).toArray = ls at hl ⊢
  have hl : lv_has ls 4 [(0, .ref (ad 21)), (1, .ref (ad 22)), (2, .ref (ad 23))] := hl
  refine lv_iconst (v := 0) hx hb dc_I_firstFault_0 (by decide) ?_
  refine lv_istore_n (lv' := [(3, .int 0), (0, .ref (ad 21)), (1, .ref (ad 22)), (2, .ref (ad 23))]) hx hb dc_I_firstFault_1 rfl hl (by decide) rfl (fun ls hl => ?_)
  obtain ⟨n, h⟩ := h
  exact Lp_2 n 0 st h _ _ hP hS ls (lv_sub hl [1, 2, 3, 0] rfl)
