set_option maxHeartbeats 4000000 in
set_option maxRecDepth 100000 in
theorem ct_T_releaseBelow (l : Launch) (D : va_G) (ad : Nat → Nat) (cA : Nat → ClassId) (w : Nat) (hJ : Jn_ ad) (d : Nat) : ∀ (x1 : Int32) (x2 : Int32) (st : St_) (post : St_ → Prop), wp_T_releaseBelow w d x1 x2 st post → Met l yn_T_releaseBelow (Cond.code yn_T_releaseBelow bc_T_releaseBelow 4 none :: Wk_) (rm_T_releaseBelow d) (Pw_ D ad cA w st [.ref (ad 20), .int x1, .int x2]) (Qv_ D ad cA w post) 0 0 (Aw_ ad) := by
  induction d with
  | zero =>
    intro x1 x2 st post h
    exact h.elim
  | succ d ihd =>
    intro x1 x2 st post h
    refine Met.ofW (cc := bc_T_releaseBelow) (maxL := 4) (ret := none) (by decide) rfl ?_
    intro p e s m args below meth c s₁ B hml hv
    obtain ⟨rfl, hP, hK, hN⟩ := hv
    have hx := B.exec
    have hb := B.bytes
    have hr := B.returns
    have hts : ∀ v ∈ Wk_, v.before [.ref (ad 20), .int x1, .int x2].toArray s = true := fun v hv => atoms_spec (ws := Cond.code yn_T_releaseBelow bc_T_releaseBelow 4 none :: Wk_) B.pre v (List.mem_cons_of_mem _ hv)
    have hown : s.vm.findClass Rn_T = some m.cls := findClass_of_methodNamed B.named
    have hlocks := B.notSynchronized
    have hS : va_S (Aw_ ad) s.heap s.heap [] := va_S.rf
    have Lp_28 : ∀ (n : Nat) (y1 y2 y3 : Int32) (st : St_), wp_T_releaseBelow_28 w (wp_T_releaseBelow w d) post n y1 y2 y3 st → ∀ (H : Heap) (locs : List Loc), va_P D sC_ (wd_ ad cA w st) H → va_S (Aw_ ad) s.heap H locs → ∀ ls : Array Slot, lv_has ls 4 [(0, .ref (ad 20)), (1, .int y1), (2, .int y2), (3, .int y3)] → W p l e (headSpec (Cond.code yn_T_releaseBelow bc_T_releaseBelow 4 none :: Wk_) (rm_T_releaseBelow (d + 1))).room s m [.ref (ad 20), .int x1, .int x2].toArray below meth c H locs 0 0 (MQ below (Qv_ D ad cA w post) [.ref (ad 20), .int x1, .int x2].toArray s 0 0 (Aw_ ad)) (F0 m 28 ls []) := by
      intro n
      induction n with
      | zero => intro y1 y2 y3 st h; exact h.elim
      | succ n ih =>
        intro y1 y2 y3 st h H locs hP hS ls hl
        refine lv_iload_n hx hb dc_T_releaseBelow_28 rfl (lv_at hl 3 rfl) ?_
        refine lv_aload_n hx hb dc_T_releaseBelow_29 rfl (lv_at hl 0 rfl) ?_
        refine va_get (D := D) (ci := 2) (v := .ref (ad 19)) (C := Rn_T) (T := Fn_T) (N := 3) hx hb hts in_T hown hK hP 20 rfl rfl 0 (by decide) (hts _ mw_13) (fun _ h9 => h9) rfl dc_T_releaseBelow_30 ?_
        refine lv_iload_n hx hb dc_T_releaseBelow_33 rfl (lv_at hl 1 rfl) ?_
        refine w_cVi (y := yn_B_size) (C := Rn_B) (index := 48) (n := 1) (own := Rn_T) 19 hx hb hml hown hts hK hN hP hS (ct_B_size l D ad cA w hJ y1 st _ h) mw_26 mw_113 mw_28 mw_29 mw_18 (by decide +kernel) (by refine ⟨?_, ?_⟩ <;> (try dsimp only [headSpec]) <;> omega) rfl rfl rfl rfl rfl hl.1 rfl (lv_room (Nat.le_of_ble_eq_true rfl)) dc_T_releaseBelow_34 ⟨Nat.zero_le _, Nat.zero_le _⟩ (fun r105 st104 H locs hP hS h => ?_)
        refine lv_icmp_ge (tgt := 62) hx hb dc_T_releaseBelow_37 (by decide) (fun c => ?_) (fun c => ?_)
        · have h := h.1 c
          refine lv_aload_n hx hb dc_T_releaseBelow_62 rfl (lv_at hl 0 rfl) ?_
          refine va_get (D := D) (ci := 2) (v := .ref (ad 19)) (C := Rn_T) (T := Fn_T) (N := 3) hx hb hts in_T hown hK hP 20 rfl rfl 0 (by decide) (hts _ mw_13) (fun _ h9 => h9) rfl dc_T_releaseBelow_63 ?_
          refine lv_iload_n hx hb dc_T_releaseBelow_66 rfl (lv_at hl 1 rfl) ?_
          refine w_cVv (y := yn_B_give) (C := Rn_B) (index := 104) (n := 1) (own := Rn_T) 19 hx hb hml hown hts hK hN hP hS (ct_B_give l D ad cA w hJ y1 st104 _ h) mw_187 mw_188 mw_189 mw_190 mw_18 (by decide +kernel) (by refine ⟨?_, ?_⟩ <;> (try dsimp only [headSpec]) <;> omega) rfl rfl rfl rfl rfl hl.1 rfl (lv_room (Nat.le_of_ble_eq_true rfl)) dc_T_releaseBelow_67 ⟨Nat.zero_le _, Nat.zero_le _⟩ (fun st106 H locs hP hS h => ?_)
          exact w_vret hx hb hr hlocks hP hS h dc_T_releaseBelow_70
        · have h := h.2 c
          refine lv_aload_n hx hb dc_T_releaseBelow_40 rfl (lv_at hl 0 rfl) ?_
          refine lv_aload_n hx hb dc_T_releaseBelow_41 rfl (lv_at hl 0 rfl) ?_
          refine va_get (D := D) (ci := 2) (v := .ref (ad 19)) (C := Rn_T) (T := Fn_T) (N := 3) hx hb hts in_T hown hK hP 20 rfl rfl 0 (by decide) (hts _ mw_13) (fun _ h9 => h9) rfl dc_T_releaseBelow_42 ?_
          refine lv_iload_n hx hb dc_T_releaseBelow_45 rfl (lv_at hl 1 rfl) ?_
          refine lv_iload_n hx hb dc_T_releaseBelow_46 rfl (lv_at hl 3 rfl) ?_
          refine w_cVi (y := yn_B_goal) (C := Rn_B) (index := 35) (n := 2) (own := Rn_T) 19 hx hb hml hown hts hK hN hP hS (ct_B_goal l D ad cA w hJ y1 y3 st104 _ h) mw_48 mw_49 mw_50 mw_51 mw_18 (by decide +kernel) (by refine ⟨?_, ?_⟩ <;> (try dsimp only [headSpec]) <;> omega) rfl rfl rfl rfl rfl hl.1 rfl (lv_room (Nat.le_of_ble_eq_true rfl)) dc_T_releaseBelow_47 ⟨Nat.zero_le _, Nat.zero_le _⟩ (fun r108 st107 H locs hP hS h => ?_)
          refine lv_iload_n hx hb dc_T_releaseBelow_50 rfl (lv_at hl 2 rfl) ?_
          refine lv_iconst (v := 1) hx hb dc_T_releaseBelow_51 (by decide) ?_
          refine lv_isub hx hb dc_T_releaseBelow_52 ?_
          refine w_cVv (y := yn_T_releaseBelow) (C := Rn_T) (index := 111) (n := 2) (own := Rn_T) 20 hx hb hml hown hts hK hN hP hS (ihd r108 (y2 - 1) st107 _ h) mw_226 mw_227 mw_228 mw_229 mw_59 (by decide +kernel) (by refine ⟨?_, ?_⟩ <;> (try dsimp only [headSpec]) <;> omega) rfl rfl rfl rfl rfl hl.1 rfl (lv_room (Nat.le_of_ble_eq_true rfl)) dc_T_releaseBelow_53 ⟨Nat.zero_le _, Nat.zero_le _⟩ (fun st109 H locs hP hS h => ?_)
          obtain ⟨x110, ex110⟩ : ∃ y : Int32, y = y3 + 1 := ⟨_, rfl⟩
          have h := h x110 ex110
          refine lv_iinc (v := x110) (lv' := [(3, .int x110), (0, .ref (ad 20)), (1, .int y1), (2, .int y2)]) hx hb dc_T_releaseBelow_56 hl (k := 3) rfl (by rw [ex110]; rfl) (by decide) rfl (fun ls hl => ?_)
          refine lv_goto (tgt := 28) hx hb dc_T_releaseBelow_59 (by decide) ?_
          exact ih y1 y2 x110 st109 h _ _ hP hS ls (lv_sub hl [1, 2, 3, 0] rfl)
    have hl := lv_entry ([.ref (ad 20), .int x1, .int x2]) (n := 4) (Nat.le_of_ble_eq_true rfl)
    rw [lg_entry_eq]
    generalize (lg_sl ([.ref (ad 20), .int x1, .int x2]) ++ List.replicate (4 - (lg_sl ([.ref (ad 20), .int x1, .int x2])).length) Slot.unset).toArray = ls at hl ⊢
    have hl : lv_has ls 4 [(0, .ref (ad 20)), (1, .int x1), (2, .int x2)] := hl
    refine lv_iload_n hx hb dc_T_releaseBelow_0 rfl (lv_at hl 2 rfl) ?_
    refine lv_if_lt (tgt := 21) hx hb dc_T_releaseBelow_1 (by decide) (fun c => ?_) (fun c => ?_)
    · have h := h.1 c
      exact w_vret hx hb hr hlocks hP hS h dc_T_releaseBelow_21
    · have h := h.2 c
      refine lv_iload_n hx hb dc_T_releaseBelow_4 rfl (lv_at hl 2 rfl) ?_
      refine lv_bipush (v := 16) hx hb dc_T_releaseBelow_5 (by decide) ?_
      refine lv_icmp_gt (tgt := 21) hx hb dc_T_releaseBelow_7 (by decide) (fun c => ?_) (fun c => ?_)
      · have h := h.1 c
        exact w_vret hx hb hr hlocks hP hS h dc_T_releaseBelow_21
      · have h := h.2 c
        refine lv_aload_n hx hb dc_T_releaseBelow_10 rfl (lv_at hl 0 rfl) ?_
        refine va_get (D := D) (ci := 2) (v := .ref (ad 19)) (C := Rn_T) (T := Fn_T) (N := 3) hx hb hts in_T hown hK hP 20 rfl rfl 0 (by decide) (hts _ mw_13) (fun _ h9 => h9) rfl dc_T_releaseBelow_11 ?_
        refine lv_iload_n hx hb dc_T_releaseBelow_14 rfl (lv_at hl 1 rfl) ?_
        refine w_cVi (y := yn_B_lose) (C := Rn_B) (index := 114) (n := 1) (own := Rn_T) 19 hx hb hml hown hts hK hN hP hS (ct_B_lose l D ad cA w hJ x1 st _ h) mw_84 mw_225 mw_86 mw_87 mw_18 (by decide +kernel) (by refine ⟨?_, ?_⟩ <;> (try dsimp only [headSpec]) <;> omega) rfl rfl rfl rfl rfl hl.1 rfl (lv_room (Nat.le_of_ble_eq_true rfl)) dc_T_releaseBelow_15 ⟨Nat.zero_le _, Nat.zero_le _⟩ (fun r102 st101 H locs hP hS h => ?_)
        refine lv_if_ne (tgt := 22) hx hb dc_T_releaseBelow_18 (by decide) (fun c => ?_) (fun c => ?_)
        · have h := h.1 c
          refine lv_iload_n hx hb dc_T_releaseBelow_22 rfl (lv_at hl 2 rfl) ?_
          refine lv_if_le (tgt := 62) hx hb dc_T_releaseBelow_23 (by decide) (fun c => ?_) (fun c => ?_)
          · have h := h.1 c
            refine lv_aload_n hx hb dc_T_releaseBelow_62 rfl (lv_at hl 0 rfl) ?_
            refine va_get (D := D) (ci := 2) (v := .ref (ad 19)) (C := Rn_T) (T := Fn_T) (N := 3) hx hb hts in_T hown hK hP 20 rfl rfl 0 (by decide) (hts _ mw_13) (fun _ h9 => h9) rfl dc_T_releaseBelow_63 ?_
            refine lv_iload_n hx hb dc_T_releaseBelow_66 rfl (lv_at hl 1 rfl) ?_
            refine w_cVv (y := yn_B_give) (C := Rn_B) (index := 104) (n := 1) (own := Rn_T) 19 hx hb hml hown hts hK hN hP hS (ct_B_give l D ad cA w hJ x1 st101 _ h) mw_187 mw_188 mw_189 mw_190 mw_18 (by decide +kernel) (by refine ⟨?_, ?_⟩ <;> (try dsimp only [headSpec]) <;> omega) rfl rfl rfl rfl rfl hl.1 rfl (lv_room (Nat.le_of_ble_eq_true rfl)) dc_T_releaseBelow_67 ⟨Nat.zero_le _, Nat.zero_le _⟩ (fun st103 H locs hP hS h => ?_)
            exact w_vret hx hb hr hlocks hP hS h dc_T_releaseBelow_70
          · have h := h.2 c
            refine lv_iconst (v := 0) hx hb dc_T_releaseBelow_26 (by decide) ?_
            refine lv_istore_n (lv' := [(3, .int 0), (0, .ref (ad 20)), (1, .int x1), (2, .int x2)]) hx hb dc_T_releaseBelow_27 rfl hl (by decide) rfl (fun ls hl => ?_)
            obtain ⟨n, h⟩ := h
            exact Lp_28 n x1 x2 0 st101 h _ _ hP hS ls (lv_sub hl [1, 2, 3, 0] rfl)
        · have h := h.2 c
          exact w_vret hx hb hr hlocks hP hS h dc_T_releaseBelow_21
