set_option maxHeartbeats 4000000 in
set_option maxRecDepth 100000 in
theorem ct_I_faultOfWays (l : Launch) (D : va_G) (ad : Nat → Nat) (cA : Nat → ClassId) (w : Nat) (hJ : Jn_ ad) (st : St_) (post : Int32 → St_ → Prop) (h : wp_I_faultOfWays w st post) : Met l yn_I_faultOfWays (Cond.code yn_I_faultOfWays bc_I_faultOfWays 3 (some .int) :: Wk_) rm_I_faultOfWays (Pw_ D ad cA w st [.ref (ad 21)]) (Qi_ D ad cA w post) 0 0 (Aw_ ad) := by
  refine Met.ofW (cc := bc_I_faultOfWays) (maxL := 3) (ret := (some .int)) (by decide) rfl ?_
  intro p e s m args below meth c s₁ B hml hv
  obtain ⟨rfl, hP, hK, hN⟩ := hv
  have hx := B.exec
  have hb := B.bytes
  have hr := B.returns
  have hts : ∀ v ∈ Wk_, v.before [.ref (ad 21)].toArray s = true := fun v hv => atoms_spec (ws := Cond.code yn_I_faultOfWays bc_I_faultOfWays 3 (some .int) :: Wk_) B.pre v (List.mem_cons_of_mem _ hv)
  have hown : s.vm.findClass Rn_I = some m.cls := findClass_of_methodNamed B.named
  have hlocks := B.notSynchronized
  have hS : va_S (Aw_ ad) s.heap s.heap [] := va_S.rf
  have Lp_2 : ∀ (n : Nat) (y1 : Int32) (st : St_), wp_I_faultOfWays_2 w post n y1 st → ∀ (H : Heap) (locs : List Loc), va_P D sC_ (wd_ ad cA w st) H → va_S (Aw_ ad) s.heap H locs → ∀ ls : Array Slot, lv_has ls 3 [(0, .ref (ad 21)), (1, .int y1)] → W p l e (headSpec (Cond.code yn_I_faultOfWays bc_I_faultOfWays 3 (some .int) :: Wk_) rm_I_faultOfWays).room s m [.ref (ad 21)].toArray below meth c H locs 0 0 (MQ below (Qi_ D ad cA w post) [.ref (ad 21)].toArray s 0 0 (Aw_ ad)) (F0 m 2 ls []) := by
    intro n
    induction n with
    | zero => intro y1 st h; exact h.elim
    | succ n ih =>
      intro y1 st h H locs hP hS ls hl
      refine lv_iload_n hx hb dc_I_faultOfWays_2 rfl (lv_at hl 1 rfl) ?_
      refine lv_sipush (v := 1200) hx hb dc_I_faultOfWays_3 (by decide) ?_
      refine lv_icmp_gt (tgt := 59) hx hb dc_I_faultOfWays_6 (by decide) (fun c => ?_) (fun c => ?_)
      · have h := h.1 c
        refine lv_iconst (v := 0) hx hb dc_I_faultOfWays_59 (by decide) ?_
        exact w_iret hx hb hr hlocks hP hS h dc_I_faultOfWays_60
      · have h := h.2 c
        refine lv_aload_n hx hb dc_I_faultOfWays_9 rfl (lv_at hl 0 rfl) ?_
        refine va_get (D := D) (ci := 3) (v := .ref (ad 6)) (C := Rn_I) (T := Fn_I) (N := 7) hx hb hts in_I hown hK hP 21 rfl rfl 3 (by decide) (hts _ mw_264) (fun _ h9 => h9) rfl dc_I_faultOfWays_10 ?_
        refine lv_iload_n hx hb dc_I_faultOfWays_13 rfl (lv_at hl 1 rfl) ?_
        refine w_ild 6 (by decide) hx hb hK hP h.1 dc_I_faultOfWays_14 ?_
        have h := h.2
        refine lv_if_ne (tgt := 22) hx hb dc_I_faultOfWays_15 (by decide) (fun c => ?_) (fun c => ?_)
        · have h := h.1 c
          refine lv_iconst (v := 0) hx hb dc_I_faultOfWays_22 (by decide) ?_
          refine lv_istore_n (lv' := [(2, .int 0), (0, .ref (ad 21)), (1, .int y1)]) hx hb dc_I_faultOfWays_23 rfl hl (by decide) rfl (fun ls hl => ?_)
          refine lv_aload_n hx hb dc_I_faultOfWays_24 rfl (lv_at hl 1 rfl) ?_
          refine va_get (D := D) (ci := 3) (v := .ref (ad 19)) (C := Rn_I) (T := Fn_I) (N := 7) hx hb hts in_I hown hK hP 21 rfl rfl 0 (by decide) (hts _ mw_260) (fun _ h9 => h9) rfl dc_I_faultOfWays_25 ?_
          refine lv_iload_n hx hb dc_I_faultOfWays_28 rfl (lv_at hl 2 rfl) ?_
          refine w_cVi (y := yn_B_ways) (C := Rn_B) (index := 109) (n := 1) (own := Rn_I) 19 hx hb hml hown hts hK hN hP hS (ct_B_ways l D ad cA w hJ y1 st _ h) mw_65 mw_296 mw_67 mw_68 mw_18 (by decide +kernel) ⟨Nat.le_of_ble_eq_true rfl, Nat.le_of_ble_eq_true rfl⟩ rfl rfl rfl rfl rfl hl.1 rfl (lv_room (Nat.le_of_ble_eq_true rfl)) dc_I_faultOfWays_29 ⟨Nat.zero_le _, Nat.zero_le _⟩ (fun r102 st101 H locs hP hS h => ?_)
          refine lv_aload_n hx hb dc_I_faultOfWays_32 rfl (lv_at hl 1 rfl) ?_
          refine va_get (D := D) (ci := 3) (v := .ref (ad 6)) (C := Rn_I) (T := Fn_I) (N := 7) hx hb hts in_I hown hK hP 21 rfl rfl 3 (by decide) (hts _ mw_264) (fun _ h9 => h9) rfl dc_I_faultOfWays_33 ?_
          refine lv_iload_n hx hb dc_I_faultOfWays_36 rfl (lv_at hl 2 rfl) ?_
          refine w_ild 6 (by decide) hx hb hK hP h.1 dc_I_faultOfWays_37 ?_
          have h := h.2
          refine lv_icmp_ne (tgt := 51) hx hb dc_I_faultOfWays_38 (by decide) (fun c => ?_) (fun c => ?_)
          · have h := h.1 c
            refine lv_iload_n hx hb dc_I_faultOfWays_51 rfl (lv_at hl 2 rfl) ?_
            exact w_iret hx hb hr hlocks hP hS h dc_I_faultOfWays_52
          · have h := h.2 c
            refine lv_aload_n hx hb dc_I_faultOfWays_41 rfl (lv_at hl 1 rfl) ?_
            refine va_get (D := D) (ci := 3) (v := .ref (ad 9)) (C := Rn_I) (T := Fn_I) (N := 7) hx hb hts in_I hown hK hP 21 rfl rfl 6 (by decide) (hts _ mw_297) (fun _ h9 => h9) rfl dc_I_faultOfWays_42 ?_
            refine lv_iload_n hx hb dc_I_faultOfWays_45 rfl (lv_at hl 2 rfl) ?_
            refine w_zld hx hb hK hP h.1 dc_I_faultOfWays_46 ?_
            have h := h.2
            refine lv_iload_n hx hb dc_I_faultOfWays_47 rfl (lv_at hl 0 rfl) ?_
            refine lv_icmp_eq (tgt := 53) hx hb dc_I_faultOfWays_48 (by decide) (fun c => ?_) (fun c => ?_)
            · have h := h.1 c
              obtain ⟨x103, ex103⟩ : ∃ y : Int32, y = y1 + 1 := ⟨_, rfl⟩
              have h := h x103 ex103
              refine lv_iinc (v := x103) (lv' := [(1, .int x103), (2, .int 0), (0, .ref (ad 21))]) hx hb dc_I_faultOfWays_53 hl (k := 2) rfl (by rw [ex103]; rfl) (by decide) rfl (fun ls hl => ?_)
              refine lv_goto (tgt := 2) hx hb dc_I_faultOfWays_56 (by decide) ?_
              exact ih x103 st101 h _ _ hP hS ls (lv_sub hl [2, 0] rfl)
            · have h := h.2 c
              refine lv_iload_n hx hb dc_I_faultOfWays_51 rfl (lv_at hl 2 rfl) ?_
              exact w_iret hx hb hr hlocks hP hS h dc_I_faultOfWays_52
        · have h := h.2 c
          refine lv_iconst (v := 1) hx hb dc_I_faultOfWays_18 (by decide) ?_
          refine lv_goto (tgt := 23) hx hb dc_I_faultOfWays_19 (by decide) ?_
          refine lv_istore_n (lv' := [(2, .int 1), (0, .ref (ad 21)), (1, .int y1)]) hx hb dc_I_faultOfWays_23 rfl hl (by decide) rfl (fun ls hl => ?_)
          refine lv_aload_n hx hb dc_I_faultOfWays_24 rfl (lv_at hl 1 rfl) ?_
          refine va_get (D := D) (ci := 3) (v := .ref (ad 19)) (C := Rn_I) (T := Fn_I) (N := 7) hx hb hts in_I hown hK hP 21 rfl rfl 0 (by decide) (hts _ mw_260) (fun _ h9 => h9) rfl dc_I_faultOfWays_25 ?_
          refine lv_iload_n hx hb dc_I_faultOfWays_28 rfl (lv_at hl 2 rfl) ?_
          refine w_cVi (y := yn_B_ways) (C := Rn_B) (index := 109) (n := 1) (own := Rn_I) 19 hx hb hml hown hts hK hN hP hS (ct_B_ways l D ad cA w hJ y1 st _ h) mw_65 mw_296 mw_67 mw_68 mw_18 (by decide +kernel) ⟨Nat.le_of_ble_eq_true rfl, Nat.le_of_ble_eq_true rfl⟩ rfl rfl rfl rfl rfl hl.1 rfl (lv_room (Nat.le_of_ble_eq_true rfl)) dc_I_faultOfWays_29 ⟨Nat.zero_le _, Nat.zero_le _⟩ (fun r105 st104 H locs hP hS h => ?_)
          refine lv_aload_n hx hb dc_I_faultOfWays_32 rfl (lv_at hl 1 rfl) ?_
          refine va_get (D := D) (ci := 3) (v := .ref (ad 6)) (C := Rn_I) (T := Fn_I) (N := 7) hx hb hts in_I hown hK hP 21 rfl rfl 3 (by decide) (hts _ mw_264) (fun _ h9 => h9) rfl dc_I_faultOfWays_33 ?_
          refine lv_iload_n hx hb dc_I_faultOfWays_36 rfl (lv_at hl 2 rfl) ?_
          refine w_ild 6 (by decide) hx hb hK hP h.1 dc_I_faultOfWays_37 ?_
          have h := h.2
          refine lv_icmp_ne (tgt := 51) hx hb dc_I_faultOfWays_38 (by decide) (fun c => ?_) (fun c => ?_)
          · have h := h.1 c
            refine lv_iload_n hx hb dc_I_faultOfWays_51 rfl (lv_at hl 2 rfl) ?_
            exact w_iret hx hb hr hlocks hP hS h dc_I_faultOfWays_52
          · have h := h.2 c
            refine lv_aload_n hx hb dc_I_faultOfWays_41 rfl (lv_at hl 1 rfl) ?_
            refine va_get (D := D) (ci := 3) (v := .ref (ad 9)) (C := Rn_I) (T := Fn_I) (N := 7) hx hb hts in_I hown hK hP 21 rfl rfl 6 (by decide) (hts _ mw_297) (fun _ h9 => h9) rfl dc_I_faultOfWays_42 ?_
            refine lv_iload_n hx hb dc_I_faultOfWays_45 rfl (lv_at hl 2 rfl) ?_
            refine w_zld hx hb hK hP h.1 dc_I_faultOfWays_46 ?_
            have h := h.2
            refine lv_iload_n hx hb dc_I_faultOfWays_47 rfl (lv_at hl 0 rfl) ?_
            refine lv_icmp_eq (tgt := 53) hx hb dc_I_faultOfWays_48 (by decide) (fun c => ?_) (fun c => ?_)
            · have h := h.1 c
              obtain ⟨x106, ex106⟩ : ∃ y : Int32, y = y1 + 1 := ⟨_, rfl⟩
              have h := h x106 ex106
              refine lv_iinc (v := x106) (lv' := [(1, .int x106), (2, .int 1), (0, .ref (ad 21))]) hx hb dc_I_faultOfWays_53 hl (k := 2) rfl (by rw [ex106]; rfl) (by decide) rfl (fun ls hl => ?_)
              refine lv_goto (tgt := 2) hx hb dc_I_faultOfWays_56 (by decide) ?_
              exact ih x106 st104 h _ _ hP hS ls (lv_sub hl [2, 0] rfl)
            · have h := h.2 c
              refine lv_iload_n hx hb dc_I_faultOfWays_51 rfl (lv_at hl 2 rfl) ?_
              exact w_iret hx hb hr hlocks hP hS h dc_I_faultOfWays_52
  have hl := lv_entry ([.ref (ad 21)]) (n := 3) (Nat.le_of_ble_eq_true rfl)
  rw [lg_entry_eq]
  generalize (lg_sl ([.ref (ad 21)]) ++ List.replicate (3 - (lg_sl ([.ref (ad 21)])).length) Slot.unset).toArray = ls at hl ⊢
  have hl : lv_has ls 3 [(0, .ref (ad 21))] := hl
  refine lv_iconst (v := 1) hx hb dc_I_faultOfWays_0 (by decide) ?_
  refine lv_istore_n (lv' := [(1, .int 1), (0, .ref (ad 21))]) hx hb dc_I_faultOfWays_1 rfl hl (by decide) rfl (fun ls hl => ?_)
  obtain ⟨n, h⟩ := h
  exact Lp_2 n 1 st h _ _ hP hS ls (lv_sub hl [1, 0] rfl)
