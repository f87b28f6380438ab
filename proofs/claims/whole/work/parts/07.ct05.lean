set_option maxHeartbeats 4000000 in
set_option maxRecDepth 100000 in
theorem ct_T_releaseBelow (l : Launch) (D : va_G) (ad : Nat → Nat) (cA : Nat → ClassId) (w : Nat) (hJ : Jn_ ad) (d : Nat) : ∀ (x1 : Int32) (x2 : Int32) (st : St_) (post : St_ → Prop), wp_T_releaseBelow w d x1 x2 st post → Met l yn_T_releaseBelow (Cond.code yn_T_releaseBelow bc_T_releaseBelow 4 none :: Wk_) (rm_T_releaseBelow d) (Pw_ D ad cA w st [.ref (ad 20), .int x1, .int x2]) (Qv_ D ad cA w post) 0 0 (Aw_ ad) := by
  induction d with
  | zero =>
    intro x1 x2 st post h
    exact h.elim
  | succ d ihd =>
    intro x1 x2 st post h
    refine Met.ofW (cc := bc_T_releaseBelow) (maxL := 4) (ret := none) (by decide) rfl ?_
    intro p e s m args below meth c s₁ B hml hv
    obtain ⟨rfl, hP, hK, hN⟩ := hv
    have hx := B.exec
    have hb := B.bytes
    have hr := B.returns
    have hts : ∀ v ∈ Wk_, v.before [.ref (ad 20), .int x1, .int x2].toArray s = true := fun v hv => atoms_spec (ws := Cond.code yn_T_releaseBelow bc_T_releaseBelow 4 none :: Wk_) B.pre v (List.mem_cons_of_mem _ hv)
    have hown : s.vm.findClass Rn_T = some m.cls := findClass_of_methodNamed B.named
    have hlocks := B.notSynchronized
    have hS : va_S (Aw_ ad) s.heap s.heap [] := va_S.rf
    have Lp_28 : ∀ (n : Nat) (y1 y2 y3 : Int32) (st : St_), wp_T_releaseBelow_28 w (wp_T_releaseBelow w d) post n y1 y2 y3 st → ∀ (H : Heap) (locs : List Loc), va_P D sC_ (wd_ ad cA w st) H → va_S (Aw_ ad) s.heap H locs → ∀ ls : Array Slot, lv_has ls 4 [(0, .ref (ad 20)), (1, .int y1), (2, .int y2), (3, .int y3)] → W p l e (headSpec (Cond.code yn_T_releaseBelow bc_T_releaseBelow 4 none :: Wk_) (rm_T_releaseBelow (d + 1))).room s m [.ref (ad 20), .int x1, .int x2].toArray below meth c H locs 0 0 (MQ below (Qv_ D ad cA w post) [.ref (ad 20), .int x1, .int x2].toArray s 0 0 (Aw_ ad)) (F0 m 28 ls []) := by
      intro n
      induction n with
      | zero => intro y1 y2 y3 st h; exact h.elim
      | succ n ih =>
        intro y1 y2 y3 st h H locs hP hS ls hl
        refine lv_iload_n hx hb dc_T_releaseBelow_28 rfl (lv_at hl 3 rfl) ?_
        refine lv_aload_n hx hb dc_T_releaseBelow_29 rfl (lv_at hl 0 rfl) ?_
        refine va_get (D := D) (ci := 2) (v := .ref (ad 19)) (C := Rn_T) (T := Fn_T) (N := 3) hx hb hts in_T hown hK hP 20 rfl rfl 0 (by decide) (hts _ mw_13) (fun _ h9 => h9) rfl dc_T_releaseBelow_30 ?_
        refine lv_iload_n hx hb dc_T_releaseBelow_33 rfl (lv_at hl 1 rfl) ?_
        refine w_cVi (y := yn_B_size) (C := Rn_B) (index := 48) (n := 1) (own := Rn_T) 19 hx hb hml hown hts hK hN hP hS (ct_B_size l D ad cA w hJ y1 st _ h) mw_26 mw_114 mw_28 mw_29 mw_18 (by decide +kernel) (by refine ⟨?_, ?_⟩ <;> (try dsimp only [headSpec]) <;> omega) rfl rfl rfl rfl rfl hl.1 rfl (lv_room (Nat.le_of_ble_eq_true rfl)) dc_T_releaseBelow_34 ⟨Nat.zero_le _, Nat.zero_le _⟩ (fun r105 st104 H locs hP hS h => ?_)
        refine lv_icmp_ge (tgt := 62) hx hb dc_T_releaseBelow_37 (by decide) (fun c => ?_) (fun c => ?_)
        · have h := h.1 c
          refine lv_aload_n hx hb dc_T_releaseBelow_62 rfl (lv_at hl 0 rfl) ?_
          refine va_get (D := D) (ci := 2) (v := .ref (ad 19)) (C := Rn_T) (T := Fn_T) (N := 3) hx hb hts in_T hown hK hP 20 rfl rfl 0 (by decide) (hts _ mw_13) (fun _ h9 => h9) rfl dc_T_releaseBelow_63 ?_
          refine lv_iload_n hx hb dc_T_releaseBelow_66 rfl (lv_at hl 1 rfl) ?_
          refine w_cVv (y := yn_B_give) (C := Rn_B) (index := 104) (n := 1) (own := Rn_T) 19 hx hb hml hown hts hK hN hP hS (ct_B_give l D ad cA w hJ y1 st104 _ h) mw_180 mw_181 mw_182 mw_183 mw_18 (by decide +kernel) (by refine ⟨?_, ?_⟩ <;> (try dsimp only [headSpec]) <;> omega) rfl rfl rfl rfl rfl hl.1 rfl (lv_room (Nat.le_of_ble_eq_true rfl)) dc_T_releaseBelow_67 ⟨Nat.zero_le _, Nat.zero_le _⟩ (fun st106 H locs hP hS h => ?_)
          exact w_vret hx hb hr hlocks hP hS h dc_T_releaseBelow_70
        · have h := h.2 c
          refine lv_aload_n hx hb dc_T_releaseBelow_40 rfl (lv_at hl 0 rfl) ?_
          refine lv_aload_n hx hb dc_T_releaseBelow_41 rfl (lv_at hl 0 rfl) ?_
          refine va_get (D := D) (ci := 2) (v := .ref (ad 19)) (C := Rn_T) (T := Fn_T) (N := 3) hx hb hts in_T hown hK hP 20 rfl rfl 0 (by decide) (hts _ mw_13) (fun _ h9 => h9) rfl dc_T_releaseBelow_42 ?_
          refine lv_iload_n hx hb dc_T_releaseBelow_45 rfl (lv_at hl 1 rfl) ?_
          refine lv_iload_n hx hb dc_T_releaseBelow_46 rfl (lv_at hl 3 rfl) ?_
          refine w_cVi (y := yn_B_goal) (C := Rn_B) (index := 35) (n := 2) (own := Rn_T) 19 hx hb hml hown hts hK hN hP hS (ct_B_goal l D ad cA w hJ y1 y3 st104 _ h) mw_48 mw_49 mw_50 mw_51 mw_18 (by decide +kernel) (by refine ⟨?_, ?_⟩ <;> (try dsimp only [headSpec]) <;> omega) rfl rfl rfl rfl rfl hl.1 rfl (lv_room (Nat.le_of_ble_eq_true rfl)) dc_T_releaseBelow_47 ⟨Nat.zero_le _, Nat.zero_le _⟩ (fun r108 st107 H locs hP hS h => ?_)
          refine lv_iload_n hx hb dc_T_releaseBelow_50 rfl (lv_at hl 2 rfl) ?_
          refine lv_iconst (v := 1) hx hb dc_T_releaseBelow_51 (by decide) ?_
          refine lv_isub hx hb dc_T_releaseBelow_52 ?_
          refine w_cVv (y := yn_T_releaseBelow) (C := Rn_T) (index := 111) (n := 2) (own := Rn_T) 20 hx hb hml hown hts hK hN hP hS (ihd r108 (y2 - 1) st107 _ h) mw_223 mw_224 mw_225 mw_226 mw_59 (by decide +kernel) (by refine ⟨?_, ?_⟩ <;> (try dsimp only [headSpec]) <;> omega) rfl rfl rfl rfl rfl hl.1 rfl (lv_room (Nat.le_of_ble_eq_true rfl)) dc_T_releaseBelow_53 ⟨Nat.zero_le _, Nat.zero_le _⟩ (fun st109 H locs hP hS h => ?_)
          obtain ⟨x110, ex110⟩ : ∃ y : Int32, y = y3 + 1 := ⟨_, rfl⟩
          have h := h x110 ex110
          refine lv_iinc (v := x110) (lv' := [(3, .int x110), (0, .ref (ad 20)), (1, .int y1), (2, .int y2)]) hx hb dc_T_releaseBelow_56 hl (k := 3) rfl (by rw [ex110]; rfl) (by decide) rfl (fun ls hl => ?_)
          refine lv_goto (tgt := 28) hx hb dc_T_releaseBelow_59 (by decide) ?_
          exact ih y1 y2 x110 st109 h _ _ hP hS ls (lv_sub hl [1, 2, 3, 0] rfl)
    have hl := lv_entry ([.ref (ad 20), .int x1, .int x2]) (n := 4) (Nat.le_of_ble_eq_true rfl)
    rw [lg_entry_eq]
    generalize (lg_sl ([.ref (ad 20), .int x1, .int x2]) ++ List.replicate (4 - (lg_sl ([.ref (ad 20), .int x1, .int x2])).length) Slot.unset).toArray = ls at hl ⊢
    have hl : lv_has ls 4 [(0, .ref (ad 20)), (1, .int x1), (2, .int x2)] := hl
    refine lv_iload_n hx hb dc_T_releaseBelow_0 rfl (lv_at hl 2 rfl) ?_
    refine lv_if_lt (tgt := 21) hx hb dc_T_releaseBelow_1 (by decide) (fun c => ?_) (fun c => ?_)
    · have h := h.1 c
      exact w_vret hx hb hr hlocks hP hS h dc_T_releaseBelow_21
    · have h := h.2 c
      refine lv_iload_n hx hb dc_T_releaseBelow_4 rfl (lv_at hl 2 rfl) ?_
      refine lv_bipush (v := 16) hx hb dc_T_releaseBelow_5 (by decide) ?_
      refine lv_icmp_gt (tgt := 21) hx hb dc_T_releaseBelow_7 (by decide) (fun c => ?_) (fun c => ?_)
      · have h := h.1 c
        exact w_vret hx hb hr hlocks hP hS h dc_T_releaseBelow_21
      · have h := h.2 c
        refine lv_aload_n hx hb dc_T_releaseBelow_10 rfl (lv_at hl 0 rfl) ?_
        refine va_get (D := D) (ci := 2) (v := .ref (ad 19)) (C := Rn_T) (T := Fn_T) (N := 3) hx hb hts in_T hown hK hP 20 rfl rfl 0 (by decide) (hts _ mw_13) (fun _ h9 => h9) rfl dc_T_releaseBelow_11 ?_
        refine lv_iload_n hx hb dc_T_releaseBelow_14 rfl (lv_at hl 1 rfl) ?_
        refine w_cVi (y := yn_B_lose) (C := Rn_B) (index := 114) (n := 1) (own := Rn_T) 19 hx hb hml hown hts hK hN hP hS (ct_B_lose l D ad cA w hJ x1 st _ h) mw_76 mw_222 mw_78 mw_79 mw_18 (by decide +kernel) (by refine ⟨?_, ?_⟩ <;> (try dsimp only [headSpec]) <;> omega) rfl rfl rfl rfl rfl hl.1 rfl (lv_room (Nat.le_of_ble_eq_true rfl)) dc_T_releaseBelow_15 ⟨Nat.zero_le _, Nat.zero_le _⟩ (fun r102 st101 H locs hP hS h => ?_)
        refine lv_if_ne (tgt := 22) hx hb dc_T_releaseBelow_18 (by decide) (fun c => ?_) (fun c => ?_)
        · have h := h.1 c
          refine lv_iload_n hx hb dc_T_releaseBelow_22 rfl (lv_at hl 2 rfl) ?_
          refine lv_if_le (tgt := 62) hx hb dc_T_releaseBelow_23 (by decide) (fun c => ?_) (fun c => ?_)
          · have h := h.1 c
            refine lv_aload_n hx hb dc_T_releaseBelow_62 rfl (lv_at hl 0 rfl) ?_
            refine va_get (D := D) (ci := 2) (v := .ref (ad 19)) (C := Rn_T) (T := Fn_T) (N := 3) hx hb hts in_T hown hK hP 20 rfl rfl 0 (by decide) (hts _ mw_13) (fun _ h9 => h9) rfl dc_T_releaseBelow_63 ?_
            refine lv_iload_n hx hb dc_T_releaseBelow_66 rfl (lv_at hl 1 rfl) ?_
            refine w_cVv (y := yn_B_give) (C := Rn_B) (index := 104) (n := 1) (own := Rn_T) 19 hx hb hml hown hts hK hN hP hS (ct_B_give l D ad cA w hJ x1 st101 _ h) mw_180 mw_181 mw_182 mw_183 mw_18 (by decide +kernel) (by refine ⟨?_, ?_⟩ <;> (try dsimp only [headSpec]) <;> omega) rfl rfl rfl rfl rfl hl.1 rfl (lv_room (Nat.le_of_ble_eq_true rfl)) dc_T_releaseBelow_67 ⟨Nat.zero_le _, Nat.zero_le _⟩ (fun st103 H locs hP hS h => ?_)
            exact w_vret hx hb hr hlocks hP hS h dc_T_releaseBelow_70
          · have h := h.2 c
            refine lv_iconst (v := 0) hx hb dc_T_releaseBelow_26 (by decide) ?_
            refine lv_istore_n (lv' := [(3, .int 0), (0, .ref (ad 20)), (1, .int x1), (2, .int x2)]) hx hb dc_T_releaseBelow_27 rfl hl (by decide) rfl (fun ls hl => ?_)
            obtain ⟨n, h⟩ := h
            exact Lp_28 n x1 x2 0 st101 h _ _ hP hS ls (lv_sub hl [1, 2, 3, 0] rfl)
        · have h := h.2 c
          exact w_vret hx hb hr hlocks hP hS h dc_T_releaseBelow_21
set_option maxHeartbeats 4000000 in
set_option maxRecDepth 100000 in
theorem ct_T_release (l : Launch) (D : va_G) (ad : Nat → Nat) (cA : Nat → ClassId) (w : Nat) (hJ : Jn_ ad) (x1 : Int32) (st : St_) (post : St_ → Prop) (h : wp_T_release w x1 st post) : Met l yn_T_release (Cond.code yn_T_release bc_T_release 2 none :: Wk_) rm_T_release (Pw_ D ad cA w st [.ref (ad 20), .int x1]) (Qv_ D ad cA w post) 0 0 (Aw_ ad) := by
  refine Met.ofW (cc := bc_T_release) (maxL := 2) (ret := none) (by decide) rfl ?_
  intro p e s m args below meth c s₁ B hml hv
  obtain ⟨rfl, hP, hK, hN⟩ := hv
  have hx := B.exec
  have hb := B.bytes
  have hr := B.returns
  have hts : ∀ v ∈ Wk_, v.before [.ref (ad 20), .int x1].toArray s = true := fun v hv => atoms_spec (ws := Cond.code yn_T_release bc_T_release 2 none :: Wk_) B.pre v (List.mem_cons_of_mem _ hv)
  have hown : s.vm.findClass Rn_T = some m.cls := findClass_of_methodNamed B.named
  have hlocks := B.notSynchronized
  have hS : va_S (Aw_ ad) s.heap s.heap [] := va_S.rf
  have hl := lv_entry ([.ref (ad 20), .int x1]) (n := 2) (Nat.le_of_ble_eq_true rfl)
  rw [lg_entry_eq]
  generalize (lg_sl ([.ref (ad 20), .int x1]) ++ List.replicate (2 - (lg_sl ([.ref (ad 20), .int x1])).length) Slot.unset).toArray = ls at hl ⊢
  have hl : lv_has ls 2 [(0, .ref (ad 20)), (1, .int x1)] := hl
  refine lv_aload_n hx hb dc_T_release_0 rfl (lv_at hl 0 rfl) ?_
  refine lv_iload_n hx hb dc_T_release_1 rfl (lv_at hl 1 rfl) ?_
  refine lv_aload_n hx hb dc_T_release_2 rfl (lv_at hl 0 rfl) ?_
  refine va_get (D := D) (ci := 2) (v := .ref (ad 19)) (C := Rn_T) (T := Fn_T) (N := 3) hx hb hts in_T hown hK hP 20 rfl rfl 0 (by decide) (hts _ mw_13) (fun _ h9 => h9) rfl dc_T_release_3 ?_
  refine lv_iload_n hx hb dc_T_release_6 rfl (lv_at hl 1 rfl) ?_
  refine w_cVi (y := yn_B_level) (C := Rn_B) (index := 26) (n := 1) (own := Rn_T) 19 hx hb hml hown hts hK hN hP hS (ct_B_level l D ad cA w hJ x1 st _ h) mw_20 mw_21 mw_22 mw_23 mw_18 (by decide +kernel) ⟨Nat.le_of_ble_eq_true rfl, Nat.le_of_ble_eq_true rfl⟩ rfl rfl rfl rfl rfl hl.1 rfl (lv_room (Nat.le_of_ble_eq_true rfl)) dc_T_release_7 ⟨Nat.zero_le _, Nat.zero_le _⟩ (fun r102 st101 H locs hP hS h => ?_)
  refine w_cVv (y := yn_T_releaseBelow) (C := Rn_T) (index := 111) (n := 2) (own := Rn_T) 20 hx hb hml hown hts hK hN hP hS (ct_T_releaseBelow l D ad cA w hJ 20 x1 r102 st101 _ h) mw_223 mw_224 mw_225 mw_226 mw_59 (by decide +kernel) ⟨Nat.le_of_ble_eq_true rfl, Nat.le_of_ble_eq_true rfl⟩ rfl rfl rfl rfl rfl hl.1 rfl (lv_room (Nat.le_of_ble_eq_true rfl)) dc_T_release_10 ⟨Nat.zero_le _, Nat.zero_le _⟩ (fun st103 H locs hP hS h => ?_)
  exact w_vret hx hb hr hlocks hP hS h dc_T_release_13
set_option maxHeartbeats 4000000 in
set_option maxRecDepth 100000 in
theorem ct_S_lead_22 (l : Launch) (D : va_G) (ad : Nat → Nat) (cA : Nat → ClassId) (w : Nat) (hJ : Jn_ ad) (x2 : Int32) (x3 : Int32) (x4 : Int32) (st : St_) (post : St_ → Prop) (h : wp_S_lead_22 w x2 x3 x4 st post) : Met l yn_S_lead (Cond.code yn_S_lead bc_S_lead 5 none :: Wk_) rm_S_lead_22 (Pw_ D ad cA w st [.ref (ad 18), .ref (ad 22), .int x2, .int x3, .int x4]) (Qv_ D ad cA w post) 0 0 (Aw_ ad) := by
  refine Met.ofW (cc := bc_S_lead) (maxL := 5) (ret := none) (by decide) rfl ?_
  intro p e s m args below meth c s₁ B hml hv
  obtain ⟨rfl, hP, hK, hN⟩ := hv
  have hx := B.exec
  have hb := B.bytes
  have hr := B.returns
  have hts : ∀ v ∈ Wk_, v.before [.ref (ad 18), .ref (ad 22), .int x2, .int x3, .int x4].toArray s = true := fun v hv => atoms_spec (ws := Cond.code yn_S_lead bc_S_lead 5 none :: Wk_) B.pre v (List.mem_cons_of_mem _ hv)
  have hown : s.vm.findClass Rn_S = some m.cls := findClass_of_methodNamed B.named
  have hlocks := B.notSynchronized
  have hS : va_S (Aw_ ad) s.heap s.heap [] := va_S.rf
  have hl := lv_entry ([.ref (ad 18), .ref (ad 22), .int x2, .int x3, .int x4]) (n := 5) (Nat.le_of_ble_eq_true rfl)
  rw [lg_entry_eq]
  generalize (lg_sl ([.ref (ad 18), .ref (ad 22), .int x2, .int x3, .int x4]) ++ List.replicate (5 - (lg_sl ([.ref (ad 18), .ref (ad 22), .int x2, .int x3, .int x4])).length) Slot.unset).toArray = ls at hl ⊢
  have hl : lv_has ls 5 [(0, .ref (ad 18)), (1, .ref (ad 22)), (2, .int x2), (3, .int x3), (4, .int x4)] := hl
  refine lv_aload_n hx hb dc_S_lead_0 rfl (lv_at hl 0 rfl) ?_
  refine va_get (D := D) (ci := 0) (v := .ref (ad 19)) (C := Rn_S) (T := Fn_S) (N := 5) hx hb hts in_S hown hK hP 18 rfl rfl 0 (by decide) (hts _ mw_220) (fun _ h9 => h9) rfl dc_S_lead_1 ?_
  refine lv_iload_n hx hb dc_S_lead_4 rfl (lv_at hl 3 rfl) ?_
  refine w_cVv (y := yn_B_share) (C := Rn_B) (index := 107) (n := 1) (own := Rn_S) 19 hx hb hml hown hts hK hN hP hS (ct_B_share l D ad cA w hJ x3 st _ h) mw_90 mw_221 mw_92 mw_93 mw_18 (by decide +kernel) ⟨Nat.le_of_ble_eq_true rfl, Nat.le_of_ble_eq_true rfl⟩ rfl rfl rfl rfl rfl hl.1 rfl (lv_room (Nat.le_of_ble_eq_true rfl)) dc_S_lead_5 ⟨Nat.zero_le _, Nat.zero_le _⟩ (fun st101 H locs hP hS h => ?_)
  refine lv_aload_n hx hb dc_S_lead_8 rfl (lv_at hl 0 rfl) ?_
  refine va_get (D := D) (ci := 0) (v := .ref (ad 20)) (C := Rn_S) (T := Fn_S) (N := 5) hx hb hts in_S hown hK hP 18 rfl rfl 1 (by decide) (hts _ mw_11) (fun _ h9 => h9) rfl dc_S_lead_9 ?_
  refine lv_aload_n hx hb dc_S_lead_12 rfl (lv_at hl 1 rfl) ?_
  refine va_getN (D := D) (ci := 4) (v := .ref (ad 10)) (C := Rn_P) (T := Fn_P) (N := 3) (host := nh_) hx hb hts in_P hown hK hP 22 rfl rfl 0 (by decide) (va_Nw.use rfl (hN.1 _ nf_0)) (fun _ h9 => h9) rfl dc_S_lead_13 ?_
  refine lv_iload_n hx hb dc_S_lead_16 rfl (lv_at hl 2 rfl) ?_
  refine w_ild 10 (by decide) hx hb hK hP h.1 dc_S_lead_17 ?_
  have h := h.2
  refine w_cVv (y := yn_T_release) (C := Rn_T) (index := 110) (n := 1) (own := Rn_S) 20 hx hb hml hown hts hK hN hP hS (ct_T_release l D ad cA w hJ (st101 10 (x2).toNatClampNeg) st101 _ h) mw_227 mw_228 mw_229 mw_230 mw_59 (by decide +kernel) ⟨Nat.le_of_ble_eq_true rfl, Nat.le_of_ble_eq_true rfl⟩ rfl rfl rfl rfl rfl hl.1 rfl (lv_room (Nat.le_of_ble_eq_true rfl)) dc_S_lead_18 ⟨Nat.zero_le _, Nat.zero_le _⟩ (fun st102 H locs hP hS h => ?_)
  refine lv_aload_n hx hb dc_S_lead_21 rfl (lv_at hl 1 rfl) ?_
  refine va_getN (D := D) (ci := 4) (v := .ref (ad 10)) (C := Rn_P) (T := Fn_P) (N := 3) (host := nh_) hx hb hts in_P hown hK hP 22 rfl rfl 0 (by decide) (va_Nw.use rfl (hN.1 _ nf_0)) (fun _ h9 => h9) rfl dc_S_lead_22 ?_
  refine lv_iload_n hx hb dc_S_lead_25 rfl (lv_at hl 2 rfl) ?_
  refine lv_iload_n hx hb dc_S_lead_26 rfl (lv_at hl 3 rfl) ?_
  refine w_ist 10 (by decide) hJ hx hb hK hP hS h.1 dc_S_lead_27 (fun H locs hP hS => ?_)
  obtain ⟨st103, est103⟩ : ∃ z : St_, z = ws_1 st102 10 (x2).toNatClampNeg x3 := ⟨_, rfl⟩
  rw [← est103] at hP
  have h := h.2 st103 est103
  refine lv_aload_n hx hb dc_S_lead_28 rfl (lv_at hl 1 rfl) ?_
  refine lv_dup hx hb dc_S_lead_29 rfl ?_
  refine va_getN (D := D) (ci := 4) (v := .int (st103 19 0)) (C := Rn_P) (T := Fn_P) (N := 3) (host := nh_) hx hb hts in_P hown hK hP 22 rfl rfl 2 (by decide) (va_Nw.use rfl (hN.1 _ nf_2)) (fun _ h9 => h9) rfl dc_S_lead_30 ?_
  refine lv_iload hx hb dc_S_lead_33 (lv_at hl 4 rfl) ?_
  refine lv_aload_n hx hb dc_S_lead_35 rfl (lv_at hl 1 rfl) ?_
  refine va_getN (D := D) (ci := 4) (v := .ref (ad 11)) (C := Rn_P) (T := Fn_P) (N := 3) (host := nh_) hx hb hts in_P hown hK hP 22 rfl rfl 1 (by decide) (va_Nw.use rfl (hN.1 _ nf_1)) (fun _ h9 => h9) rfl dc_S_lead_36 ?_
  refine lv_iload_n hx hb dc_S_lead_39 rfl (lv_at hl 2 rfl) ?_
  refine w_ild 11 (by decide) hx hb hK hP h.1 dc_S_lead_40 ?_
  have h := h.2
  refine lv_isub hx hb dc_S_lead_41 ?_
  refine lv_iadd hx hb dc_S_lead_42 ?_
  refine va_putN (D := D) (ci := 4) (v := .int ((st103 19 0) + (x4 - (st103 11 (x2).toNatClampNeg)))) (ty := .int) (C := Rn_P) (T := Fn_P) (N := 3) (host := nh_) hx hb hts in_P Tn_P to_P nn_P hown hK hP (wd_D hJ) hS 22 rfl rfl 2 (by decide) (va_Nw.use rfl (hN.1 _ nf_2)) (fun _ h9 => h9) rfl (by decide +kernel) rfl rfl (Nat.le_of_ble_eq_true rfl) dc_S_lead_43 (fun H locs hP _ hS => ?_)
  obtain ⟨st104, est104⟩ : ∃ z : St_, z = ws_1 st103 19 0 ((st103 19 0) + (x4 - (st103 11 (x2).toNatClampNeg))) := ⟨_, rfl⟩
  have hP : va_P D sC_ (wd_ ad cA w st104) H := by rw [est104]; exact hP
  have h := h st104 est104
  refine lv_aload_n hx hb dc_S_lead_46 rfl (lv_at hl 1 rfl) ?_
  refine va_getN (D := D) (ci := 4) (v := .ref (ad 11)) (C := Rn_P) (T := Fn_P) (N := 3) (host := nh_) hx hb hts in_P hown hK hP 22 rfl rfl 1 (by decide) (va_Nw.use rfl (hN.1 _ nf_1)) (fun _ h9 => h9) rfl dc_S_lead_47 ?_
  refine lv_iload_n hx hb dc_S_lead_50 rfl (lv_at hl 2 rfl) ?_
  refine lv_iload hx hb dc_S_lead_51 (lv_at hl 4 rfl) ?_
  refine w_ist 11 (by decide) hJ hx hb hK hP hS h.1 dc_S_lead_53 (fun H locs hP hS => ?_)
  obtain ⟨st105, est105⟩ : ∃ z : St_, z = ws_1 st104 11 (x2).toNatClampNeg x4 := ⟨_, rfl⟩
  rw [← est105] at hP
  have h := h.2 st105 est105
  exact w_vret hx hb hr hlocks hP hS h dc_S_lead_54
set_option maxHeartbeats 4000000 in
set_option maxRecDepth 100000 in
theorem ct_S_clone (l : Launch) (D : va_G) (ad : Nat → Nat) (cA : Nat → ClassId) (w : Nat) (hJ : Jn_ ad) (x1 : Int32) (x2 : Int32) (st : St_) (post : Int32 → St_ → Prop) (h : wp_S_clone w x1 x2 st post) : Met l yn_S_clone (Cond.code yn_S_clone bc_S_clone 3 (some .int) :: Wk_) rm_S_clone (Pw_ D ad cA w st [.ref (ad 18), .int x1, .int x2]) (Qi_ D ad cA w post) 0 0 (Aw_ ad) := by
  refine Met.ofW (cc := bc_S_clone) (maxL := 3) (ret := (some .int)) (by decide) rfl ?_
  intro p e s m args below meth c s₁ B hml hv
  obtain ⟨rfl, hP, hK, hN⟩ := hv
  have hx := B.exec
  have hb := B.bytes
  have hr := B.returns
  have hts : ∀ v ∈ Wk_, v.before [.ref (ad 18), .int x1, .int x2].toArray s = true := fun v hv => atoms_spec (ws := Cond.code yn_S_clone bc_S_clone 3 (some .int) :: Wk_) B.pre v (List.mem_cons_of_mem _ hv)
  have hown : s.vm.findClass Rn_S = some m.cls := findClass_of_methodNamed B.named
  have hlocks := B.notSynchronized
  have hS : va_S (Aw_ ad) s.heap s.heap [] := va_S.rf
  have hl := lv_entry ([.ref (ad 18), .int x1, .int x2]) (n := 3) (Nat.le_of_ble_eq_true rfl)
  rw [lg_entry_eq]
  generalize (lg_sl ([.ref (ad 18), .int x1, .int x2]) ++ List.replicate (3 - (lg_sl ([.ref (ad 18), .int x1, .int x2])).length) Slot.unset).toArray = ls at hl ⊢
  have hl : lv_has ls 3 [(0, .ref (ad 18)), (1, .int x1), (2, .int x2)] := hl
  refine lv_iload_n hx hb dc_S_clone_0 rfl (lv_at hl 1 rfl) ?_
  refine w_cSi (y := yn_S_isMap) (index := 53) (n := 1) (own := Rn_S) hx hb hml hown hts hK hN hP hS (ct_S_isMap l D ad cA w hJ x1 st _ h) mw_0 mw_1 mw_2 mw_3 (by decide +kernel) ⟨Nat.le_of_ble_eq_true rfl, Nat.le_of_ble_eq_true rfl⟩ rfl rfl rfl hl.1 rfl (lv_room (Nat.le_of_ble_eq_true rfl)) dc_S_clone_1 ⟨Nat.zero_le _, Nat.zero_le _⟩ (fun r102 st101 H locs hP hS h => ?_)
  refine lv_if_eq (tgt := 19) hx hb dc_S_clone_4 (by decide) (fun c => ?_) (fun c => ?_)
  · have h := h.1 c
    refine lv_iconst (v := (-1)) hx hb dc_S_clone_19 (by decide) ?_
    exact w_iret hx hb hr hlocks hP hS h dc_S_clone_20
  · have h := h.2 c
    refine lv_iload_n hx hb dc_S_clone_7 rfl (lv_at hl 2 rfl) ?_
    refine w_cSi (y := yn_S_isMap) (index := 53) (n := 1) (own := Rn_S) hx hb hml hown hts hK hN hP hS (ct_S_isMap l D ad cA w hJ x2 st101 _ h) mw_0 mw_1 mw_2 mw_3 (by decide +kernel) ⟨Nat.le_of_ble_eq_true rfl, Nat.le_of_ble_eq_true rfl⟩ rfl rfl rfl hl.1 rfl (lv_room (Nat.le_of_ble_eq_true rfl)) dc_S_clone_8 ⟨Nat.zero_le _, Nat.zero_le _⟩ (fun r104 st103 H locs hP hS h => ?_)
    refine lv_if_eq (tgt := 19) hx hb dc_S_clone_11 (by decide) (fun c => ?_) (fun c => ?_)
    · have h := h.1 c
      refine lv_iconst (v := (-1)) hx hb dc_S_clone_19 (by decide) ?_
      exact w_iret hx hb hr hlocks hP hS h dc_S_clone_20
    · have h := h.2 c
      refine lv_iload_n hx hb dc_S_clone_14 rfl (lv_at hl 1 rfl) ?_
      refine lv_iload_n hx hb dc_S_clone_15 rfl (lv_at hl 2 rfl) ?_
      refine lv_icmp_ne (tgt := 21) hx hb dc_S_clone_16 (by decide) (fun c => ?_) (fun c => ?_)
      · have h := h.1 c
        refine lv_aload_n hx hb dc_S_clone_21 rfl (lv_at hl 0 rfl) ?_
        refine va_get (D := D) (ci := 0) (v := .ref (ad 22)) (C := Rn_S) (T := Fn_S) (N := 5) hx hb hts in_S hown hK hP 18 rfl rfl 3 (by decide) (hts _ mw_12) (fun _ h9 => h9) rfl dc_S_clone_22 ?_
        refine va_getN (D := D) (ci := 4) (v := .int (st103 19 0)) (C := Rn_P) (T := Fn_P) (N := 3) (host := nh_) hx hb hts in_P hown hK hP 22 rfl rfl 2 (by decide) (va_Nw.use rfl (hN.1 _ nf_2)) (fun _ h9 => h9) rfl dc_S_clone_25 ?_
        refine lv_aload_n hx hb dc_S_clone_28 rfl (lv_at hl 0 rfl) ?_
        refine va_get (D := D) (ci := 0) (v := .ref (ad 22)) (C := Rn_S) (T := Fn_S) (N := 5) hx hb hts in_S hown hK hP 18 rfl rfl 3 (by decide) (hts _ mw_12) (fun _ h9 => h9) rfl dc_S_clone_29 ?_
        refine va_getN (D := D) (ci := 4) (v := .ref (ad 11)) (C := Rn_P) (T := Fn_P) (N := 3) (host := nh_) hx hb hts in_P hown hK hP 22 rfl rfl 1 (by decide) (va_Nw.use rfl (hN.1 _ nf_1)) (fun _ h9 => h9) rfl dc_S_clone_32 ?_
        refine lv_iload_n hx hb dc_S_clone_35 rfl (lv_at hl 1 rfl) ?_
        refine w_ild 11 (by decide) hx hb hK hP h.1 dc_S_clone_36 ?_
        have h := h.2
        refine lv_isub hx hb dc_S_clone_37 ?_
        refine lv_aload_n hx hb dc_S_clone_38 rfl (lv_at hl 0 rfl) ?_
        refine va_get (D := D) (ci := 0) (v := .ref (ad 22)) (C := Rn_S) (T := Fn_S) (N := 5) hx hb hts in_S hown hK hP 18 rfl rfl 3 (by decide) (hts _ mw_12) (fun _ h9 => h9) rfl dc_S_clone_39 ?_
        refine va_getN (D := D) (ci := 4) (v := .ref (ad 11)) (C := Rn_P) (T := Fn_P) (N := 3) (host := nh_) hx hb hts in_P hown hK hP 22 rfl rfl 1 (by decide) (va_Nw.use rfl (hN.1 _ nf_1)) (fun _ h9 => h9) rfl dc_S_clone_42 ?_
        refine lv_iload_n hx hb dc_S_clone_45 rfl (lv_at hl 2 rfl) ?_
        refine w_ild 11 (by decide) hx hb hK hP h.1 dc_S_clone_46 ?_
        have h := h.2
        refine lv_iadd hx hb dc_S_clone_47 ?_
        refine lv_sipush (v := 600) hx hb dc_S_clone_48 (by decide) ?_
        refine lv_icmp_le (tgt := 57) hx hb dc_S_clone_51 (by decide) (fun c => ?_) (fun c => ?_)
        · have h := h.1 c
          refine lv_aload_n hx hb dc_S_clone_57 rfl (lv_at hl 0 rfl) ?_
          refine lv_aload_n hx hb dc_S_clone_58 rfl (lv_at hl 0 rfl) ?_
          refine va_get (D := D) (ci := 0) (v := .ref (ad 22)) (C := Rn_S) (T := Fn_S) (N := 5) hx hb hts in_S hown hK hP 18 rfl rfl 3 (by decide) (hts _ mw_12) (fun _ h9 => h9) rfl dc_S_clone_59 ?_
          refine lv_iload_n hx hb dc_S_clone_62 rfl (lv_at hl 1 rfl) ?_
          refine lv_aload_n hx hb dc_S_clone_63 rfl (lv_at hl 0 rfl) ?_
          refine va_get (D := D) (ci := 0) (v := .ref (ad 22)) (C := Rn_S) (T := Fn_S) (N := 5) hx hb hts in_S hown hK hP 18 rfl rfl 3 (by decide) (hts _ mw_12) (fun _ h9 => h9) rfl dc_S_clone_64 ?_
          refine va_getN (D := D) (ci := 4) (v := .ref (ad 10)) (C := Rn_P) (T := Fn_P) (N := 3) (host := nh_) hx hb hts in_P hown hK hP 22 rfl rfl 0 (by decide) (va_Nw.use rfl (hN.1 _ nf_0)) (fun _ h9 => h9) rfl dc_S_clone_67 ?_
          refine lv_iload_n hx hb dc_S_clone_70 rfl (lv_at hl 2 rfl) ?_
          refine w_ild 10 (by decide) hx hb hK hP h.1 dc_S_clone_71 ?_
          have h := h.2
          refine lv_aload_n hx hb dc_S_clone_72 rfl (lv_at hl 0 rfl) ?_
          refine va_get (D := D) (ci := 0) (v := .ref (ad 22)) (C := Rn_S) (T := Fn_S) (N := 5) hx hb hts in_S hown hK hP 18 rfl rfl 3 (by decide) (hts _ mw_12) (fun _ h9 => h9) rfl dc_S_clone_73 ?_
          refine va_getN (D := D) (ci := 4) (v := .ref (ad 11)) (C := Rn_P) (T := Fn_P) (N := 3) (host := nh_) hx hb hts in_P hown hK hP 22 rfl rfl 1 (by decide) (va_Nw.use rfl (hN.1 _ nf_1)) (fun _ h9 => h9) rfl dc_S_clone_76 ?_
          refine lv_iload_n hx hb dc_S_clone_79 rfl (lv_at hl 2 rfl) ?_
          refine w_ild 11 (by decide) hx hb hK hP h.1 dc_S_clone_80 ?_
          have h := h.2
          refine w_cVv (y := yn_S_lead) (C := Rn_S) (index := 91) (n := 4) (own := Rn_S) 18 hx hb hml hown hts hK hN hP hS (ct_S_lead_22 l D ad cA w hJ x1 (st103 10 (x2).toNatClampNeg) (st103 11 (x2).toNatClampNeg) st103 _ h) mw_231 mw_232 mw_233 mw_234 mw_3 (by decide +kernel) ⟨Nat.le_of_ble_eq_true rfl, Nat.le_of_ble_eq_true rfl⟩ rfl rfl rfl rfl rfl hl.1 rfl (lv_room (Nat.le_of_ble_eq_true rfl)) dc_S_clone_81 ⟨Nat.zero_le _, Nat.zero_le _⟩ (fun st105 H locs hP hS h => ?_)
          refine lv_aload_n hx hb dc_S_clone_84 rfl (lv_at hl 0 rfl) ?_
          refine va_get (D := D) (ci := 0) (v := .ref (ad 22)) (C := Rn_S) (T := Fn_S) (N := 5) hx hb hts in_S hown hK hP 18 rfl rfl 3 (by decide) (hts _ mw_12) (fun _ h9 => h9) rfl dc_S_clone_85 ?_
          refine va_getN (D := D) (ci := 4) (v := .ref (ad 11)) (C := Rn_P) (T := Fn_P) (N := 3) (host := nh_) hx hb hts in_P hown hK hP 22 rfl rfl 1 (by decide) (va_Nw.use rfl (hN.1 _ nf_1)) (fun _ h9 => h9) rfl dc_S_clone_88 ?_
          refine lv_iload_n hx hb dc_S_clone_91 rfl (lv_at hl 1 rfl) ?_
          refine w_ild 11 (by decide) hx hb hK hP h.1 dc_S_clone_92 ?_
          have h := h.2
          exact w_iret hx hb hr hlocks hP hS h dc_S_clone_93
        · have h := h.2 c
          refine lv_bipush (v := (-3)) hx hb dc_S_clone_54 (by decide) ?_
          exact w_iret hx hb hr hlocks hP hS h dc_S_clone_56
      · have h := h.2 c
        refine lv_iconst (v := (-1)) hx hb dc_S_clone_19 (by decide) ?_
        exact w_iret hx hb hr hlocks hP hS h dc_S_clone_20
set_option maxHeartbeats 4000000 in
set_option maxRecDepth 100000 in
theorem ct_R_clone (l : Launch) (D : va_G) (ad : Nat → Nat) (cA : Nat → ClassId) (w : Nat) (hJ : Jn_ ad) (x1 : Int32) (x2 : Int32) (st : St_) (post : Int32 → St_ → Prop) (h : wp_R_clone w x1 x2 st post) : Met l yn_R_clone (Cond.code yn_R_clone bc_R_clone 4 (some .int) :: Wk_) rm_R_clone (Pw_ D ad cA w st [.ref (ad 24), .int x1, .int x2]) (Qi_ D ad cA w post) 0 0 (Aw_ ad) := by
  refine Met.ofW (cc := bc_R_clone) (maxL := 4) (ret := (some .int)) (by decide) rfl ?_
  intro p e s m args below meth c s₁ B hml hv
  obtain ⟨rfl, hP, hK, hN⟩ := hv
  have hx := B.exec
  have hb := B.bytes
  have hr := B.returns
  have hts : ∀ v ∈ Wk_, v.before [.ref (ad 24), .int x1, .int x2].toArray s = true := fun v hv => atoms_spec (ws := Cond.code yn_R_clone bc_R_clone 4 (some .int) :: Wk_) B.pre v (List.mem_cons_of_mem _ hv)
  have hown : s.vm.findClass Rn_R = some m.cls := findClass_of_methodNamed B.named
  have hlocks := B.notSynchronized
  have hS : va_S (Aw_ ad) s.heap s.heap [] := va_S.rf
  have Lp_50 : ∀ (n : Nat) (y1 y2 y3 : Int32) (st : St_), wp_R_clone_50 w post n y1 y2 y3 st → ∀ (H : Heap) (locs : List Loc), va_P D sC_ (wd_ ad cA w st) H → va_S (Aw_ ad) s.heap H locs → ∀ ls : Array Slot, lv_has ls 4 [(0, .ref (ad 24)), (1, .int y1), (2, .int y2), (3, .int y3)] → W p l e (headSpec (Cond.code yn_R_clone bc_R_clone 4 (some .int) :: Wk_) rm_R_clone).room s m [.ref (ad 24), .int x1, .int x2].toArray below meth c H locs 0 0 (MQ below (Qi_ D ad cA w post) [.ref (ad 24), .int x1, .int x2].toArray s 0 0 (Aw_ ad)) (F0 m 50 ls []) := by
    intro n
    induction n with
    | zero => intro y1 y2 y3 st h; exact h.elim
    | succ n ih =>
      intro y1 y2 y3 st h H locs hP hS ls hl
      refine lv_iload_n hx hb dc_R_clone_50 rfl (lv_at hl 3 rfl) ?_
      refine lv_sipush (v := 4096) hx hb dc_R_clone_51 (by decide) ?_
      refine lv_icmp_ge (tgt := 87) hx hb dc_R_clone_54 (by decide) (fun c => ?_) (fun c => ?_)
      · have h := h.1 c
        refine lv_aload_n hx hb dc_R_clone_87 rfl (lv_at hl 0 rfl) ?_
        refine va_get (D := D) (ci := 5) (v := .ref (ad 16)) (C := Rn_R) (T := Fn_R) (N := 4) hx hb hts in_R hown hK hP 24 rfl rfl 2 (by decide) (hts _ mw_152) (fun _ h9 => h9) rfl dc_R_clone_88 ?_
        refine lv_iload_n hx hb dc_R_clone_91 rfl (lv_at hl 1 rfl) ?_
        refine lv_aload_n hx hb dc_R_clone_92 rfl (lv_at hl 0 rfl) ?_
        refine va_get (D := D) (ci := 5) (v := .ref (ad 16)) (C := Rn_R) (T := Fn_R) (N := 4) hx hb hts in_R hown hK hP 24 rfl rfl 2 (by decide) (hts _ mw_152) (fun _ h9 => h9) rfl dc_R_clone_93 ?_
        refine lv_iload_n hx hb dc_R_clone_96 rfl (lv_at hl 2 rfl) ?_
        refine w_ild 16 (by decide) hx hb hK hP h.1 dc_R_clone_97 ?_
        have h := h.2
        refine w_ist 16 (by decide) hJ hx hb hK hP hS h.1 dc_R_clone_98 (fun H locs hP hS => ?_)
        obtain ⟨st107, est107⟩ : ∃ z : St_, z = ws_1 st 16 (y1).toNatClampNeg (st 16 (y2).toNatClampNeg) := ⟨_, rfl⟩
        rw [← est107] at hP
        have h := h.2 st107 est107
        refine lv_aload_n hx hb dc_R_clone_99 rfl (lv_at hl 0 rfl) ?_
        refine va_get (D := D) (ci := 5) (v := .ref (ad 16)) (C := Rn_R) (T := Fn_R) (N := 4) hx hb hts in_R hown hK hP 24 rfl rfl 2 (by decide) (hts _ mw_152) (fun _ h9 => h9) rfl dc_R_clone_100 ?_
        refine lv_iload_n hx hb dc_R_clone_103 rfl (lv_at hl 1 rfl) ?_
        refine w_ild 16 (by decide) hx hb hK hP h.1 dc_R_clone_104 ?_
        have h := h.2
        exact w_iret hx hb hr hlocks hP hS h dc_R_clone_105
      · have h := h.2 c
        refine lv_aload_n hx hb dc_R_clone_57 rfl (lv_at hl 0 rfl) ?_
        refine va_get (D := D) (ci := 5) (v := .ref (ad 14)) (C := Rn_R) (T := Fn_R) (N := 4) hx hb hts in_R hown hK hP 24 rfl rfl 0 (by decide) (hts _ mw_151) (fun _ h9 => h9) rfl dc_R_clone_58 ?_
        refine lv_sipush (v := 4096) hx hb dc_R_clone_61 (by decide) ?_
        refine lv_iload_n hx hb dc_R_clone_64 rfl (lv_at hl 1 rfl) ?_
        refine lv_imul hx hb dc_R_clone_65 ?_
        refine lv_iload_n hx hb dc_R_clone_66 rfl (lv_at hl 3 rfl) ?_
        refine lv_iadd hx hb dc_R_clone_67 ?_
        refine lv_aload_n hx hb dc_R_clone_68 rfl (lv_at hl 0 rfl) ?_
        refine va_get (D := D) (ci := 5) (v := .ref (ad 14)) (C := Rn_R) (T := Fn_R) (N := 4) hx hb hts in_R hown hK hP 24 rfl rfl 0 (by decide) (hts _ mw_151) (fun _ h9 => h9) rfl dc_R_clone_69 ?_
        refine lv_sipush (v := 4096) hx hb dc_R_clone_72 (by decide) ?_
        refine lv_iload_n hx hb dc_R_clone_75 rfl (lv_at hl 2 rfl) ?_
        refine lv_imul hx hb dc_R_clone_76 ?_
        refine lv_iload_n hx hb dc_R_clone_77 rfl (lv_at hl 3 rfl) ?_
        refine lv_iadd hx hb dc_R_clone_78 ?_
        refine w_ild 14 (by decide) hx hb hK hP h.1 dc_R_clone_79 ?_
        have h := h.2
        refine w_ist 14 (by decide) hJ hx hb hK hP hS h.1 dc_R_clone_80 (fun H locs hP hS => ?_)
        obtain ⟨st108, est108⟩ : ∃ z : St_, z = ws_1 st 14 (((4096 * y1) + y3)).toNatClampNeg (st 14 (((4096 * y2) + y3)).toNatClampNeg) := ⟨_, rfl⟩
        rw [← est108] at hP
        have h := h.2 st108 est108
        obtain ⟨x109, ex109⟩ : ∃ y : Int32, y = y3 + 1 := ⟨_, rfl⟩
        have h := h x109 ex109
        refine lv_iinc (v := x109) (lv' := [(3, .int x109), (0, .ref (ad 24)), (1, .int y1), (2, .int y2)]) hx hb dc_R_clone_81 hl (k := 3) rfl (by rw [ex109]; rfl) (by decide) rfl (fun ls hl => ?_)
        refine lv_goto (tgt := 50) hx hb dc_R_clone_84 (by decide) ?_
        exact ih y1 y2 x109 st108 h _ _ hP hS ls (lv_sub hl [1, 2, 3, 0] rfl)
  have hl := lv_entry ([.ref (ad 24), .int x1, .int x2]) (n := 4) (Nat.le_of_ble_eq_true rfl)
  rw [lg_entry_eq]
  generalize (lg_sl ([.ref (ad 24), .int x1, .int x2]) ++ List.replicate (4 - (lg_sl ([.ref (ad 24), .int x1, .int x2])).length) Slot.unset).toArray = ls at hl ⊢
  have hl : lv_has ls 4 [(0, .ref (ad 24)), (1, .int x1), (2, .int x2)] := hl
  refine lv_iload_n hx hb dc_R_clone_0 rfl (lv_at hl 1 rfl) ?_
  refine w_cSi (y := yn_R_isMap) (index := 24) (n := 1) (own := Rn_R) hx hb hml hown hts hK hN hP hS (ct_R_isMap l D ad cA w hJ x1 st _ h) mw_140 mw_141 mw_142 mw_143 (by decide +kernel) ⟨Nat.le_of_ble_eq_true rfl, Nat.le_of_ble_eq_true rfl⟩ rfl rfl rfl hl.1 rfl (lv_room (Nat.le_of_ble_eq_true rfl)) dc_R_clone_1 ⟨Nat.zero_le _, Nat.zero_le _⟩ (fun r102 st101 H locs hP hS h => ?_)
  refine lv_if_eq (tgt := 19) hx hb dc_R_clone_4 (by decide) (fun c => ?_) (fun c => ?_)
  · have h := h.1 c
    refine lv_iconst (v := (-1)) hx hb dc_R_clone_19 (by decide) ?_
    exact w_iret hx hb hr hlocks hP hS h dc_R_clone_20
  · have h := h.2 c
    refine lv_iload_n hx hb dc_R_clone_7 rfl (lv_at hl 2 rfl) ?_
    refine w_cSi (y := yn_R_isMap) (index := 24) (n := 1) (own := Rn_R) hx hb hml hown hts hK hN hP hS (ct_R_isMap l D ad cA w hJ x2 st101 _ h) mw_140 mw_141 mw_142 mw_143 (by decide +kernel) ⟨Nat.le_of_ble_eq_true rfl, Nat.le_of_ble_eq_true rfl⟩ rfl rfl rfl hl.1 rfl (lv_room (Nat.le_of_ble_eq_true rfl)) dc_R_clone_8 ⟨Nat.zero_le _, Nat.zero_le _⟩ (fun r104 st103 H locs hP hS h => ?_)
    refine lv_if_eq (tgt := 19) hx hb dc_R_clone_11 (by decide) (fun c => ?_) (fun c => ?_)
    · have h := h.1 c
      refine lv_iconst (v := (-1)) hx hb dc_R_clone_19 (by decide) ?_
      exact w_iret hx hb hr hlocks hP hS h dc_R_clone_20
    · have h := h.2 c
      refine lv_iload_n hx hb dc_R_clone_14 rfl (lv_at hl 1 rfl) ?_
      refine lv_iload_n hx hb dc_R_clone_15 rfl (lv_at hl 2 rfl) ?_
      refine lv_icmp_ne (tgt := 21) hx hb dc_R_clone_16 (by decide) (fun c => ?_) (fun c => ?_)
      · have h := h.1 c
        refine lv_aload_n hx hb dc_R_clone_21 rfl (lv_at hl 0 rfl) ?_
        refine w_cVi (y := yn_R_all) (C := Rn_R) (index := 34) (n := 0) (own := Rn_R) 24 hx hb hml hown hts hK hN hP hS (ct_R_all l D ad cA w hJ st103 _ h) mw_153 mw_154 mw_155 mw_156 mw_143 (by decide +kernel) ⟨Nat.le_of_ble_eq_true rfl, Nat.le_of_ble_eq_true rfl⟩ rfl rfl rfl rfl rfl hl.1 rfl (lv_room (Nat.le_of_ble_eq_true rfl)) dc_R_clone_22 ⟨Nat.zero_le _, Nat.zero_le _⟩ (fun r106 st105 H locs hP hS h => ?_)
        refine lv_aload_n hx hb dc_R_clone_25 rfl (lv_at hl 0 rfl) ?_
        refine va_get (D := D) (ci := 5) (v := .ref (ad 16)) (C := Rn_R) (T := Fn_R) (N := 4) hx hb hts in_R hown hK hP 24 rfl rfl 2 (by decide) (hts _ mw_152) (fun _ h9 => h9) rfl dc_R_clone_26 ?_
        refine lv_iload_n hx hb dc_R_clone_29 rfl (lv_at hl 1 rfl) ?_
        refine w_ild 16 (by decide) hx hb hK hP h.1 dc_R_clone_30 ?_
        have h := h.2
        refine lv_isub hx hb dc_R_clone_31 ?_
        refine lv_aload_n hx hb dc_R_clone_32 rfl (lv_at hl 0 rfl) ?_
        refine va_get (D := D) (ci := 5) (v := .ref (ad 16)) (C := Rn_R) (T := Fn_R) (N := 4) hx hb hts in_R hown hK hP 24 rfl rfl 2 (by decide) (hts _ mw_152) (fun _ h9 => h9) rfl dc_R_clone_33 ?_
        refine lv_iload_n hx hb dc_R_clone_36 rfl (lv_at hl 2 rfl) ?_
        refine w_ild 16 (by decide) hx hb hK hP h.1 dc_R_clone_37 ?_
        have h := h.2
        refine lv_iadd hx hb dc_R_clone_38 ?_
        refine lv_sipush (v := 600) hx hb dc_R_clone_39 (by decide) ?_
        refine lv_icmp_le (tgt := 48) hx hb dc_R_clone_42 (by decide) (fun c => ?_) (fun c => ?_)
        · have h := h.1 c
          refine lv_iconst (v := 0) hx hb dc_R_clone_48 (by decide) ?_
          refine lv_istore_n (lv' := [(3, .int 0), (0, .ref (ad 24)), (1, .int x1), (2, .int x2)]) hx hb dc_R_clone_49 rfl hl (by decide) rfl (fun ls hl => ?_)
          obtain ⟨n, h⟩ := h
          exact Lp_50 n x1 x2 0 st105 h _ _ hP hS ls (lv_sub hl [1, 2, 3, 0] rfl)
        · have h := h.2 c
          refine lv_bipush (v := (-3)) hx hb dc_R_clone_45 (by decide) ?_
          exact w_iret hx hb hr hlocks hP hS h dc_R_clone_47
      · have h := h.2 c
        refine lv_iconst (v := (-1)) hx hb dc_R_clone_19 (by decide) ?_
        exact w_iret hx hb hr hlocks hP hS h dc_R_clone_20
set_option maxHeartbeats 4000000 in
set_option maxRecDepth 100000 in
theorem ct_S_drop (l : Launch) (D : va_G) (ad : Nat → Nat) (cA : Nat → ClassId) (w : Nat) (hJ : Jn_ ad) (x1 : Int32) (st : St_) (post : Int32 → St_ → Prop) (h : wp_S_drop w x1 st post) : Met l yn_S_drop (Cond.code yn_S_drop bc_S_drop 3 (some .int) :: Wk_) rm_S_drop (Pw_ D ad cA w st [.ref (ad 18), .int x1]) (Qi_ D ad cA w post) 0 0 (Aw_ ad) := by
  refine Met.ofW (cc := bc_S_drop) (maxL := 3) (ret := (some .int)) (by decide) rfl ?_
  intro p e s m args below meth c s₁ B hml hv
  obtain ⟨rfl, hP, hK, hN⟩ := hv
  have hx := B.exec
  have hb := B.bytes
  have hr := B.returns
  have hts : ∀ v ∈ Wk_, v.before [.ref (ad 18), .int x1].toArray s = true := fun v hv => atoms_spec (ws := Cond.code yn_S_drop bc_S_drop 3 (some .int) :: Wk_) B.pre v (List.mem_cons_of_mem _ hv)
  have hown : s.vm.findClass Rn_S = some m.cls := findClass_of_methodNamed B.named
  have hlocks := B.notSynchronized
  have hS : va_S (Aw_ ad) s.heap s.heap [] := va_S.rf
  have hl := lv_entry ([.ref (ad 18), .int x1]) (n := 3) (Nat.le_of_ble_eq_true rfl)
  rw [lg_entry_eq]
  generalize (lg_sl ([.ref (ad 18), .int x1]) ++ List.replicate (3 - (lg_sl ([.ref (ad 18), .int x1])).length) Slot.unset).toArray = ls at hl ⊢
  have hl : lv_has ls 3 [(0, .ref (ad 18)), (1, .int x1)] := hl
  refine lv_iload_n hx hb dc_S_drop_0 rfl (lv_at hl 1 rfl) ?_
  refine w_cSi (y := yn_S_isMap) (index := 53) (n := 1) (own := Rn_S) hx hb hml hown hts hK hN hP hS (ct_S_isMap l D ad cA w hJ x1 st _ h) mw_0 mw_1 mw_2 mw_3 (by decide +kernel) ⟨Nat.le_of_ble_eq_true rfl, Nat.le_of_ble_eq_true rfl⟩ rfl rfl rfl hl.1 rfl (lv_room (Nat.le_of_ble_eq_true rfl)) dc_S_drop_1 ⟨Nat.zero_le _, Nat.zero_le _⟩ (fun r102 st101 H locs hP hS h => ?_)
  refine lv_if_ne (tgt := 9) hx hb dc_S_drop_4 (by decide) (fun c => ?_) (fun c => ?_)
  · have h := h.1 c
    refine lv_aload_n hx hb dc_S_drop_9 rfl (lv_at hl 0 rfl) ?_
    refine va_get (D := D) (ci := 0) (v := .ref (ad 22)) (C := Rn_S) (T := Fn_S) (N := 5) hx hb hts in_S hown hK hP 18 rfl rfl 3 (by decide) (hts _ mw_12) (fun _ h9 => h9) rfl dc_S_drop_10 ?_
    refine va_getN (D := D) (ci := 4) (v := .ref (ad 11)) (C := Rn_P) (T := Fn_P) (N := 3) (host := nh_) hx hb hts in_P hown hK hP 22 rfl rfl 1 (by decide) (va_Nw.use rfl (hN.1 _ nf_1)) (fun _ h9 => h9) rfl dc_S_drop_13 ?_
    refine lv_iload_n hx hb dc_S_drop_16 rfl (lv_at hl 1 rfl) ?_
    refine w_ild 11 (by decide) hx hb hK hP h.1 dc_S_drop_17 ?_
    have h := h.2
    refine lv_topi (fun x103 ex103 => ?_)
    have h := h x103 ex103
    refine lv_istore_n (lv' := [(2, .int x103), (0, .ref (ad 18)), (1, .int x1)]) hx hb dc_S_drop_18 rfl hl (by decide) rfl (fun ls hl => ?_)
    refine lv_aload_n hx hb dc_S_drop_19 rfl (lv_at hl 1 rfl) ?_
    refine lv_aload_n hx hb dc_S_drop_20 rfl (lv_at hl 1 rfl) ?_
    refine va_get (D := D) (ci := 0) (v := .ref (ad 22)) (C := Rn_S) (T := Fn_S) (N := 5) hx hb hts in_S hown hK hP 18 rfl rfl 3 (by decide) (hts _ mw_12) (fun _ h9 => h9) rfl dc_S_drop_21 ?_
    refine lv_iload_n hx hb dc_S_drop_24 rfl (lv_at hl 2 rfl) ?_
    refine lv_iconst (v := 0) hx hb dc_S_drop_25 (by decide) ?_
    refine lv_iconst (v := 0) hx hb dc_S_drop_26 (by decide) ?_
    refine w_cVv (y := yn_S_lead) (C := Rn_S) (index := 91) (n := 4) (own := Rn_S) 18 hx hb hml hown hts hK hN hP hS (ct_S_lead_22 l D ad cA w hJ x1 0 0 st101 _ h) mw_231 mw_232 mw_233 mw_234 mw_3 (by decide +kernel) ⟨Nat.le_of_ble_eq_true rfl, Nat.le_of_ble_eq_true rfl⟩ rfl rfl rfl rfl rfl hl.1 rfl (lv_room (Nat.le_of_ble_eq_true rfl)) dc_S_drop_27 ⟨Nat.zero_le _, Nat.zero_le _⟩ (fun st104 H locs hP hS h => ?_)
    refine lv_iload_n hx hb dc_S_drop_30 rfl (lv_at hl 0 rfl) ?_
    exact w_iret hx hb hr hlocks hP hS h dc_S_drop_31
  · have h := h.2 c
    refine lv_iconst (v := (-1)) hx hb dc_S_drop_7 (by decide) ?_
    exact w_iret hx hb hr hlocks hP hS h dc_S_drop_8
set_option maxHeartbeats 4000000 in
set_option maxRecDepth 100000 in
theorem ct_R_drop (l : Launch) (D : va_G) (ad : Nat → Nat) (cA : Nat → ClassId) (w : Nat) (hJ : Jn_ ad) (x1 : Int32) (st : St_) (post : Int32 → St_ → Prop) (h : wp_R_drop w x1 st post) : Met l yn_R_drop (Cond.code yn_R_drop bc_R_drop 3 (some .int) :: Wk_) rm_R_drop (Pw_ D ad cA w st [.ref (ad 24), .int x1]) (Qi_ D ad cA w post) 0 0 (Aw_ ad) := by
  refine Met.ofW (cc := bc_R_drop) (maxL := 3) (ret := (some .int)) (by decide) rfl ?_
  intro p e s m args below meth c s₁ B hml hv
  obtain ⟨rfl, hP, hK, hN⟩ := hv
  have hx := B.exec
  have hb := B.bytes
  have hr := B.returns
  have hts : ∀ v ∈ Wk_, v.before [.ref (ad 24), .int x1].toArray s = true := fun v hv => atoms_spec (ws := Cond.code yn_R_drop bc_R_drop 3 (some .int) :: Wk_) B.pre v (List.mem_cons_of_mem _ hv)
  have hown : s.vm.findClass Rn_R = some m.cls := findClass_of_methodNamed B.named
  have hlocks := B.notSynchronized
  have hS : va_S (Aw_ ad) s.heap s.heap [] := va_S.rf
  have hl := lv_entry ([.ref (ad 24), .int x1]) (n := 3) (Nat.le_of_ble_eq_true rfl)
  rw [lg_entry_eq]
  generalize (lg_sl ([.ref (ad 24), .int x1]) ++ List.replicate (3 - (lg_sl ([.ref (ad 24), .int x1])).length) Slot.unset).toArray = ls at hl ⊢
  have hl : lv_has ls 3 [(0, .ref (ad 24)), (1, .int x1)] := hl
  refine lv_iload_n hx hb dc_R_drop_0 rfl (lv_at hl 1 rfl) ?_
  refine w_cSi (y := yn_R_isMap) (index := 24) (n := 1) (own := Rn_R) hx hb hml hown hts hK hN hP hS (ct_R_isMap l D ad cA w hJ x1 st _ h) mw_140 mw_141 mw_142 mw_143 (by decide +kernel) ⟨Nat.le_of_ble_eq_true rfl, Nat.le_of_ble_eq_true rfl⟩ rfl rfl rfl hl.1 rfl (lv_room (Nat.le_of_ble_eq_true rfl)) dc_R_drop_1 ⟨Nat.zero_le _, Nat.zero_le _⟩ (fun r102 st101 H locs hP hS h => ?_)
  refine lv_if_ne (tgt := 9) hx hb dc_R_drop_4 (by decide) (fun c => ?_) (fun c => ?_)
  · have h := h.1 c
    refine lv_aload_n hx hb dc_R_drop_9 rfl (lv_at hl 0 rfl) ?_
    refine va_get (D := D) (ci := 5) (v := .ref (ad 16)) (C := Rn_R) (T := Fn_R) (N := 4) hx hb hts in_R hown hK hP 24 rfl rfl 2 (by decide) (hts _ mw_152) (fun _ h9 => h9) rfl dc_R_drop_10 ?_
    refine lv_iload_n hx hb dc_R_drop_13 rfl (lv_at hl 1 rfl) ?_
    refine w_ild 16 (by decide) hx hb hK hP h.1 dc_R_drop_14 ?_
    have h := h.2
    refine lv_topi (fun x103 ex103 => ?_)
    have h := h x103 ex103
    refine lv_istore_n (lv' := [(2, .int x103), (0, .ref (ad 24)), (1, .int x1)]) hx hb dc_R_drop_15 rfl hl (by decide) rfl (fun ls hl => ?_)
    refine lv_aload_n hx hb dc_R_drop_16 rfl (lv_at hl 1 rfl) ?_
    refine lv_iload_n hx hb dc_R_drop_17 rfl (lv_at hl 2 rfl) ?_
    refine lv_iconst (v := 0) hx hb dc_R_drop_18 (by decide) ?_
    refine lv_sipush (v := 4095) hx hb dc_R_drop_19 (by decide) ?_
    refine w_cVi (y := yn_R_cut) (C := Rn_R) (index := 49) (n := 3) (own := Rn_R) 24 hx hb hml hown hts hK hN hP hS (ct_R_cut l D ad cA w hJ x1 0 4095 st101 _ h) mw_217 mw_238 mw_239 mw_240 mw_143 (by decide +kernel) ⟨Nat.le_of_ble_eq_true rfl, Nat.le_of_ble_eq_true rfl⟩ rfl rfl rfl rfl rfl hl.1 rfl (lv_room (Nat.le_of_ble_eq_true rfl)) dc_R_drop_22 ⟨Nat.zero_le _, Nat.zero_le _⟩ (fun r105 st104 H locs hP hS h => ?_)
    refine lv_pop hx hb dc_R_drop_25 rfl ?_
    refine lv_iload_n hx hb dc_R_drop_26 rfl (lv_at hl 0 rfl) ?_
    exact w_iret hx hb hr hlocks hP hS h dc_R_drop_27
  · have h := h.2 c
    refine lv_iconst (v := (-1)) hx hb dc_R_drop_7 (by decide) ?_
    exact w_iret hx hb hr hlocks hP hS h dc_R_drop_8
set_option maxHeartbeats 4000000 in
set_option maxRecDepth 100000 in
theorem ct_S_lead_23 (l : Launch) (D : va_G) (ad : Nat → Nat) (cA : Nat → ClassId) (w : Nat) (hJ : Jn_ ad) (x2 : Int32) (x3 : Int32) (x4 : Int32) (st : St_) (post : St_ → Prop) (h : wp_S_lead_23 w x2 x3 x4 st post) : Met l yn_S_lead (Cond.code yn_S_lead bc_S_lead 5 none :: Wk_) rm_S_lead_23 (Pw_ D ad cA w st [.ref (ad 18), .ref (ad 23), .int x2, .int x3, .int x4]) (Qv_ D ad cA w post) 0 0 (Aw_ ad) := by
  refine Met.ofW (cc := bc_S_lead) (maxL := 5) (ret := none) (by decide) rfl ?_
  intro p e s m args below meth c s₁ B hml hv
  obtain ⟨rfl, hP, hK, hN⟩ := hv
  have hx := B.exec
  have hb := B.bytes
  have hr := B.returns
  have hts : ∀ v ∈ Wk_, v.before [.ref (ad 18), .ref (ad 23), .int x2, .int x3, .int x4].toArray s = true := fun v hv => atoms_spec (ws := Cond.code yn_S_lead bc_S_lead 5 none :: Wk_) B.pre v (List.mem_cons_of_mem _ hv)
  have hown : s.vm.findClass Rn_S = some m.cls := findClass_of_methodNamed B.named
  have hlocks := B.notSynchronized
  have hS : va_S (Aw_ ad) s.heap s.heap [] := va_S.rf
  have hl := lv_entry ([.ref (ad 18), .ref (ad 23), .int x2, .int x3, .int x4]) (n := 5) (Nat.le_of_ble_eq_true rfl)
  rw [lg_entry_eq]
  generalize (lg_sl ([.ref (ad 18), .ref (ad 23), .int x2, .int x3, .int x4]) ++ List.replicate (5 - (lg_sl ([.ref (ad 18), .ref (ad 23), .int x2, .int x3, .int x4])).length) Slot.unset).toArray = ls at hl ⊢
  have hl : lv_has ls 5 [(0, .ref (ad 18)), (1, .ref (ad 23)), (2, .int x2), (3, .int x3), (4, .int x4)] := hl
  refine lv_aload_n hx hb dc_S_lead_0 rfl (lv_at hl 0 rfl) ?_
  refine va_get (D := D) (ci := 0) (v := .ref (ad 19)) (C := Rn_S) (T := Fn_S) (N := 5) hx hb hts in_S hown hK hP 18 rfl rfl 0 (by decide) (hts _ mw_220) (fun _ h9 => h9) rfl dc_S_lead_1 ?_
  refine lv_iload_n hx hb dc_S_lead_4 rfl (lv_at hl 3 rfl) ?_
  refine w_cVv (y := yn_B_share) (C := Rn_B) (index := 107) (n := 1) (own := Rn_S) 19 hx hb hml hown hts hK hN hP hS (ct_B_share l D ad cA w hJ x3 st _ h) mw_90 mw_221 mw_92 mw_93 mw_18 (by decide +kernel) ⟨Nat.le_of_ble_eq_true rfl, Nat.le_of_ble_eq_true rfl⟩ rfl rfl rfl rfl rfl hl.1 rfl (lv_room (Nat.le_of_ble_eq_true rfl)) dc_S_lead_5 ⟨Nat.zero_le _, Nat.zero_le _⟩ (fun st101 H locs hP hS h => ?_)
  refine lv_aload_n hx hb dc_S_lead_8 rfl (lv_at hl 0 rfl) ?_
  refine va_get (D := D) (ci := 0) (v := .ref (ad 20)) (C := Rn_S) (T := Fn_S) (N := 5) hx hb hts in_S hown hK hP 18 rfl rfl 1 (by decide) (hts _ mw_11) (fun _ h9 => h9) rfl dc_S_lead_9 ?_
  refine lv_aload_n hx hb dc_S_lead_12 rfl (lv_at hl 1 rfl) ?_
  refine va_getN (D := D) (ci := 4) (v := .ref (ad 12)) (C := Rn_P) (T := Fn_P) (N := 3) (host := nh_) hx hb hts in_P hown hK hP 23 rfl rfl 0 (by decide) (va_Nw.use rfl (hN.1 _ nf_0)) (fun _ h9 => h9) rfl dc_S_lead_13 ?_
  refine lv_iload_n hx hb dc_S_lead_16 rfl (lv_at hl 2 rfl) ?_
  refine w_ild 12 (by decide) hx hb hK hP h.1 dc_S_lead_17 ?_
  have h := h.2
  refine w_cVv (y := yn_T_release) (C := Rn_T) (index := 110) (n := 1) (own := Rn_S) 20 hx hb hml hown hts hK hN hP hS (ct_T_release l D ad cA w hJ (st101 12 (x2).toNatClampNeg) st101 _ h) mw_227 mw_228 mw_229 mw_230 mw_59 (by decide +kernel) ⟨Nat.le_of_ble_eq_true rfl, Nat.le_of_ble_eq_true rfl⟩ rfl rfl rfl rfl rfl hl.1 rfl (lv_room (Nat.le_of_ble_eq_true rfl)) dc_S_lead_18 ⟨Nat.zero_le _, Nat.zero_le _⟩ (fun st102 H locs hP hS h => ?_)
  refine lv_aload_n hx hb dc_S_lead_21 rfl (lv_at hl 1 rfl) ?_
  refine va_getN (D := D) (ci := 4) (v := .ref (ad 12)) (C := Rn_P) (T := Fn_P) (N := 3) (host := nh_) hx hb hts in_P hown hK hP 23 rfl rfl 0 (by decide) (va_Nw.use rfl (hN.1 _ nf_0)) (fun _ h9 => h9) rfl dc_S_lead_22 ?_
  refine lv_iload_n hx hb dc_S_lead_25 rfl (lv_at hl 2 rfl) ?_
  refine lv_iload_n hx hb dc_S_lead_26 rfl (lv_at hl 3 rfl) ?_
  refine w_ist 12 (by decide) hJ hx hb hK hP hS h.1 dc_S_lead_27 (fun H locs hP hS => ?_)
  obtain ⟨st103, est103⟩ : ∃ z : St_, z = ws_1 st102 12 (x2).toNatClampNeg x3 := ⟨_, rfl⟩
  rw [← est103] at hP
  have h := h.2 st103 est103
  refine lv_aload_n hx hb dc_S_lead_28 rfl (lv_at hl 1 rfl) ?_
  refine lv_dup hx hb dc_S_lead_29 rfl ?_
  refine va_getN (D := D) (ci := 4) (v := .int (st103 20 0)) (C := Rn_P) (T := Fn_P) (N := 3) (host := nh_) hx hb hts in_P hown hK hP 23 rfl rfl 2 (by decide) (va_Nw.use rfl (hN.1 _ nf_2)) (fun _ h9 => h9) rfl dc_S_lead_30 ?_
  refine lv_iload hx hb dc_S_lead_33 (lv_at hl 4 rfl) ?_
  refine lv_aload_n hx hb dc_S_lead_35 rfl (lv_at hl 1 rfl) ?_
  refine va_getN (D := D) (ci := 4) (v := .ref (ad 13)) (C := Rn_P) (T := Fn_P) (N := 3) (host := nh_) hx hb hts in_P hown hK hP 23 rfl rfl 1 (by decide) (va_Nw.use rfl (hN.1 _ nf_1)) (fun _ h9 => h9) rfl dc_S_lead_36 ?_
  refine lv_iload_n hx hb dc_S_lead_39 rfl (lv_at hl 2 rfl) ?_
  refine w_ild 13 (by decide) hx hb hK hP h.1 dc_S_lead_40 ?_
  have h := h.2
  refine lv_isub hx hb dc_S_lead_41 ?_
  refine lv_iadd hx hb dc_S_lead_42 ?_
  refine va_putN (D := D) (ci := 4) (v := .int ((st103 20 0) + (x4 - (st103 13 (x2).toNatClampNeg)))) (ty := .int) (C := Rn_P) (T := Fn_P) (N := 3) (host := nh_) hx hb hts in_P Tn_P to_P nn_P hown hK hP (wd_D hJ) hS 23 rfl rfl 2 (by decide) (va_Nw.use rfl (hN.1 _ nf_2)) (fun _ h9 => h9) rfl (by decide +kernel) rfl rfl (Nat.le_of_ble_eq_true rfl) dc_S_lead_43 (fun H locs hP _ hS => ?_)
  obtain ⟨st104, est104⟩ : ∃ z : St_, z = ws_1 st103 20 0 ((st103 20 0) + (x4 - (st103 13 (x2).toNatClampNeg))) := ⟨_, rfl⟩
  have hP : va_P D sC_ (wd_ ad cA w st104) H := by rw [est104]; exact hP
  have h := h st104 est104
  refine lv_aload_n hx hb dc_S_lead_46 rfl (lv_at hl 1 rfl) ?_
  refine va_getN (D := D) (ci := 4) (v := .ref (ad 13)) (C := Rn_P) (T := Fn_P) (N := 3) (host := nh_) hx hb hts in_P hown hK hP 23 rfl rfl 1 (by decide) (va_Nw.use rfl (hN.1 _ nf_1)) (fun _ h9 => h9) rfl dc_S_lead_47 ?_
  refine lv_iload_n hx hb dc_S_lead_50 rfl (lv_at hl 2 rfl) ?_
  refine lv_iload hx hb dc_S_lead_51 (lv_at hl 4 rfl) ?_
  refine w_ist 13 (by decide) hJ hx hb hK hP hS h.1 dc_S_lead_53 (fun H locs hP hS => ?_)
  obtain ⟨st105, est105⟩ : ∃ z : St_, z = ws_1 st104 13 (x2).toNatClampNeg x4 := ⟨_, rfl⟩
  rw [← est105] at hP
  have h := h.2 st105 est105
  exact w_vret hx hb hr hlocks hP hS h dc_S_lead_54
set_option maxHeartbeats 4000000 in
set_option maxRecDepth 100000 in
theorem ct_S_leadAll_23_22 (l : Launch) (D : va_G) (ad : Nat → Nat) (cA : Nat → ClassId) (w : Nat) (hJ : Jn_ ad) (st : St_) (post : St_ → Prop) (h : wp_S_leadAll_23_22 w st post) : Met l yn_S_leadAll (Cond.code yn_S_leadAll bc_S_leadAll 4 none :: Wk_) rm_S_leadAll_23_22 (Pw_ D ad cA w st [.ref (ad 18), .ref (ad 23), .ref (ad 22)]) (Qv_ D ad cA w post) 0 0 (Aw_ ad) := by
  refine Met.ofW (cc := bc_S_leadAll) (maxL := 4) (ret := none) (by decide) rfl ?_
  intro p e s m args below meth c s₁ B hml hv
  obtain ⟨rfl, hP, hK, hN⟩ := hv
  have hx := B.exec
  have hb := B.bytes
  have hr := B.returns
  have hts : ∀ v ∈ Wk_, v.before [.ref (ad 18), .ref (ad 23), .ref (ad 22)].toArray s = true := fun v hv => atoms_spec (ws := Cond.code yn_S_leadAll bc_S_leadAll 4 none :: Wk_) B.pre v (List.mem_cons_of_mem _ hv)
  have hown : s.vm.findClass Rn_S = some m.cls := findClass_of_methodNamed B.named
  have hlocks := B.notSynchronized
  have hS : va_S (Aw_ ad) s.heap s.heap [] := va_S.rf
  have Lp_2 : ∀ (n : Nat) (y3 : Int32) (st : St_), wp_S_leadAll_23_22_2 w post n y3 st → ∀ (H : Heap) (locs : List Loc), va_P D sC_ (wd_ ad cA w st) H → va_S (Aw_ ad) s.heap H locs → ∀ ls : Array Slot, lv_has ls 4 [(0, .ref (ad 18)), (1, .ref (ad 23)), (2, .ref (ad 22)), (3, .int y3)] → W p l e (headSpec (Cond.code yn_S_leadAll bc_S_leadAll 4 none :: Wk_) rm_S_leadAll_23_22).room s m [.ref (ad 18), .ref (ad 23), .ref (ad 22)].toArray below meth c H locs 0 0 (MQ below (Qv_ D ad cA w post) [.ref (ad 18), .ref (ad 23), .ref (ad 22)].toArray s 0 0 (Aw_ ad)) (F0 m 2 ls []) := by
    intro n
    induction n with
    | zero => intro y3 st h; exact h.elim
    | succ n ih =>
      intro y3 st h H locs hP hS ls hl
      refine lv_iload_n hx hb dc_S_leadAll_2 rfl (lv_at hl 3 rfl) ?_
      refine lv_bipush (v := 8) hx hb dc_S_leadAll_3 (by decide) ?_
      refine lv_icmp_ge (tgt := 32) hx hb dc_S_leadAll_5 (by decide) (fun c => ?_) (fun c => ?_)
      · have h := h.1 c
        exact w_vret hx hb hr hlocks hP hS h dc_S_leadAll_32
      · have h := h.2 c
        refine lv_aload_n hx hb dc_S_leadAll_8 rfl (lv_at hl 0 rfl) ?_
        refine lv_aload_n hx hb dc_S_leadAll_9 rfl (lv_at hl 1 rfl) ?_
        refine lv_iload_n hx hb dc_S_leadAll_10 rfl (lv_at hl 3 rfl) ?_
        refine lv_aload_n hx hb dc_S_leadAll_11 rfl (lv_at hl 2 rfl) ?_
        refine va_getN (D := D) (ci := 4) (v := .ref (ad 10)) (C := Rn_P) (T := Fn_P) (N := 3) (host := nh_) hx hb hts in_P hown hK hP 22 rfl rfl 0 (by decide) (va_Nw.use rfl (hN.1 _ nf_0)) (fun _ h9 => h9) rfl dc_S_leadAll_12 ?_
        refine lv_iload_n hx hb dc_S_leadAll_15 rfl (lv_at hl 3 rfl) ?_
        refine w_ild 10 (by decide) hx hb hK hP h.1 dc_S_leadAll_16 ?_
        have h := h.2
        refine lv_aload_n hx hb dc_S_leadAll_17 rfl (lv_at hl 2 rfl) ?_
        refine va_getN (D := D) (ci := 4) (v := .ref (ad 11)) (C := Rn_P) (T := Fn_P) (N := 3) (host := nh_) hx hb hts in_P hown hK hP 22 rfl rfl 1 (by decide) (va_Nw.use rfl (hN.1 _ nf_1)) (fun _ h9 => h9) rfl dc_S_leadAll_18 ?_
        refine lv_iload_n hx hb dc_S_leadAll_21 rfl (lv_at hl 3 rfl) ?_
        refine w_ild 11 (by decide) hx hb hK hP h.1 dc_S_leadAll_22 ?_
        have h := h.2
        refine w_cVv (y := yn_S_lead) (C := Rn_S) (index := 91) (n := 4) (own := Rn_S) 18 hx hb hml hown hts hK hN hP hS (ct_S_lead_23 l D ad cA w hJ y3 (st 10 (y3).toNatClampNeg) (st 11 (y3).toNatClampNeg) st _ h) mw_231 mw_232 mw_233 mw_234 mw_3 (by decide +kernel) ⟨Nat.le_of_ble_eq_true rfl, Nat.le_of_ble_eq_true rfl⟩ rfl rfl rfl rfl rfl hl.1 rfl (lv_room (Nat.le_of_ble_eq_true rfl)) dc_S_leadAll_23 ⟨Nat.zero_le _, Nat.zero_le _⟩ (fun st101 H locs hP hS h => ?_)
        obtain ⟨x102, ex102⟩ : ∃ y : Int32, y = y3 + 1 := ⟨_, rfl⟩
        have h := h x102 ex102
        refine lv_iinc (v := x102) (lv' := [(3, .int x102), (0, .ref (ad 18)), (1, .ref (ad 23)), (2, .ref (ad 22))]) hx hb dc_S_leadAll_26 hl (k := 3) rfl (by rw [ex102]; rfl) (by decide) rfl (fun ls hl => ?_)
        refine lv_goto (tgt := 2) hx hb dc_S_leadAll_29 (by decide) ?_
        exact ih x102 st101 h _ _ hP hS ls (lv_sub hl [1, 2, 3, 0] rfl)
  have hl := lv_entry ([.ref (ad 18), .ref (ad 23), .ref (ad 22)]) (n := 4) (Nat.le_of_ble_eq_true rfl)
  rw [lg_entry_eq]
  generalize (lg_sl ([.ref (ad 18), .ref (ad 23), .ref (ad 22)]) ++ List.replicate (4 - (lg_sl ([.ref (ad 18), .ref (ad 23), .ref (ad 22)])).length) Slot.unset).toArray = ls at hl ⊢
  have hl : lv_has ls 4 [(0, .ref (ad 18)), (1, .ref (ad 23)), (2, .ref (ad 22))] := hl
  refine lv_iconst (v := 0) hx hb dc_S_leadAll_0 (by decide) ?_
  refine lv_istore_n (lv' := [(3, .int 0), (0, .ref (ad 18)), (1, .ref (ad 23)), (2, .ref (ad 22))]) hx hb dc_S_leadAll_1 rfl hl (by decide) rfl (fun ls hl => ?_)
  obtain ⟨n, h⟩ := h
  exact Lp_2 n 0 st h _ _ hP hS ls (lv_sub hl [1, 2, 3, 0] rfl)
set_option maxHeartbeats 4000000 in
set_option maxRecDepth 100000 in
theorem ct_S_keep (l : Launch) (D : va_G) (ad : Nat → Nat) (cA : Nat → ClassId) (w : Nat) (hJ : Jn_ ad) (st : St_) (post : Int32 → St_ → Prop) (h : wp_S_keep w st post) : Met l yn_S_keep (Cond.code yn_S_keep bc_S_keep 1 (some .int) :: Wk_) rm_S_keep (Pw_ D ad cA w st [.ref (ad 18)]) (Qi_ D ad cA w post) 0 0 (Aw_ ad) := by
  refine Met.ofW (cc := bc_S_keep) (maxL := 1) (ret := (some .int)) (by decide) rfl ?_
  intro p e s m args below meth c s₁ B hml hv
  obtain ⟨rfl, hP, hK, hN⟩ := hv
  have hx := B.exec
  have hb := B.bytes
  have hr := B.returns
  have hts : ∀ v ∈ Wk_, v.before [.ref (ad 18)].toArray s = true := fun v hv => atoms_spec (ws := Cond.code yn_S_keep bc_S_keep 1 (some .int) :: Wk_) B.pre v (List.mem_cons_of_mem _ hv)
  have hown : s.vm.findClass Rn_S = some m.cls := findClass_of_methodNamed B.named
  have hlocks := B.notSynchronized
  have hS : va_S (Aw_ ad) s.heap s.heap [] := va_S.rf
  have hl := lv_entry ([.ref (ad 18)]) (n := 1) (Nat.le_of_ble_eq_true rfl)
  rw [lg_entry_eq]
  generalize (lg_sl ([.ref (ad 18)]) ++ List.replicate (1 - (lg_sl ([.ref (ad 18)])).length) Slot.unset).toArray = ls at hl ⊢
  have hl : lv_has ls 1 [(0, .ref (ad 18))] := hl
  refine lv_aload_n hx hb dc_S_keep_0 rfl (lv_at hl 0 rfl) ?_
  refine lv_aload_n hx hb dc_S_keep_1 rfl (lv_at hl 0 rfl) ?_
  refine va_get (D := D) (ci := 0) (v := .ref (ad 23)) (C := Rn_S) (T := Fn_S) (N := 5) hx hb hts in_S hown hK hP 18 rfl rfl 4 (by decide) (hts _ mw_242) (fun _ h9 => h9) rfl dc_S_keep_2 ?_
  refine lv_aload_n hx hb dc_S_keep_5 rfl (lv_at hl 0 rfl) ?_
  refine va_get (D := D) (ci := 0) (v := .ref (ad 22)) (C := Rn_S) (T := Fn_S) (N := 5) hx hb hts in_S hown hK hP 18 rfl rfl 3 (by decide) (hts _ mw_12) (fun _ h9 => h9) rfl dc_S_keep_6 ?_
  refine w_cVv (y := yn_S_leadAll) (C := Rn_S) (index := 95) (n := 2) (own := Rn_S) 18 hx hb hml hown hts hK hN hP hS (ct_S_leadAll_23_22 l D ad cA w hJ st _ h) mw_243 mw_244 mw_245 mw_246 mw_3 (by decide +kernel) ⟨Nat.le_of_ble_eq_true rfl, Nat.le_of_ble_eq_true rfl⟩ rfl rfl rfl rfl rfl hl.1 rfl (lv_room (Nat.le_of_ble_eq_true rfl)) dc_S_keep_9 ⟨Nat.zero_le _, Nat.zero_le _⟩ (fun st101 H locs hP hS h => ?_)
  refine lv_aload_n hx hb dc_S_keep_12 rfl (lv_at hl 0 rfl) ?_
  refine va_get (D := D) (ci := 0) (v := .ref (ad 22)) (C := Rn_S) (T := Fn_S) (N := 5) hx hb hts in_S hown hK hP 18 rfl rfl 3 (by decide) (hts _ mw_12) (fun _ h9 => h9) rfl dc_S_keep_13 ?_
  refine va_getN (D := D) (ci := 4) (v := .int (st101 19 0)) (C := Rn_P) (T := Fn_P) (N := 3) (host := nh_) hx hb hts in_P hown hK hP 22 rfl rfl 2 (by decide) (va_Nw.use rfl (hN.1 _ nf_2)) (fun _ h9 => h9) rfl dc_S_keep_16 ?_
  exact w_iret hx hb hr hlocks hP hS h dc_S_keep_19
set_option maxHeartbeats 4000000 in
set_option maxRecDepth 100000 in
theorem ct_R_keep (l : Launch) (D : va_G) (ad : Nat → Nat) (cA : Nat → ClassId) (w : Nat) (hJ : Jn_ ad) (st : St_) (post : Int32 → St_ → Prop) (h : wp_R_keep w st post) : Met l yn_R_keep (Cond.code yn_R_keep bc_R_keep 2 (some .int) :: Wk_) rm_R_keep (Pw_ D ad cA w st [.ref (ad 24)]) (Qi_ D ad cA w post) 0 0 (Aw_ ad) := by
  refine Met.ofW (cc := bc_R_keep) (maxL := 2) (ret := (some .int)) (by decide) rfl ?_
  intro p e s m args below meth c s₁ B hml hv
  obtain ⟨rfl, hP, hK, hN⟩ := hv
  have hx := B.exec
  have hb := B.bytes
  have hr := B.returns
  have hts : ∀ v ∈ Wk_, v.before [.ref (ad 24)].toArray s = true := fun v hv => atoms_spec (ws := Cond.code yn_R_keep bc_R_keep 2 (some .int) :: Wk_) B.pre v (List.mem_cons_of_mem _ hv)
  have hown : s.vm.findClass Rn_R = some m.cls := findClass_of_methodNamed B.named
  have hlocks := B.notSynchronized
  have hS : va_S (Aw_ ad) s.heap s.heap [] := va_S.rf
  have Lp_28 : ∀ (n : Nat) (y1 : Int32) (st : St_), wp_R_keep_28 w post n y1 st → ∀ (H : Heap) (locs : List Loc), va_P D sC_ (wd_ ad cA w st) H → va_S (Aw_ ad) s.heap H locs → ∀ ls : Array Slot, lv_has ls 2 [(0, .ref (ad 24)), (1, .int y1)] → W p l e (headSpec (Cond.code yn_R_keep bc_R_keep 2 (some .int) :: Wk_) rm_R_keep).room s m [.ref (ad 24)].toArray below meth c H locs 0 0 (MQ below (Qi_ D ad cA w post) [.ref (ad 24)].toArray s 0 0 (Aw_ ad)) (F0 m 28 ls []) := by
    intro n
    induction n with
    | zero => intro y1 st h; exact h.elim
    | succ n ih =>
      intro y1 st h H locs hP hS ls hl
      refine lv_iload_n hx hb dc_R_keep_28 rfl (lv_at hl 1 rfl) ?_
      refine lv_bipush (v := 8) hx hb dc_R_keep_29 (by decide) ?_
      refine lv_icmp_ge (tgt := 52) hx hb dc_R_keep_31 (by decide) (fun c => ?_) (fun c => ?_)
      · have h := h.1 c
        refine lv_aload_n hx hb dc_R_keep_52 rfl (lv_at hl 0 rfl) ?_
        refine w_cVi (y := yn_R_all) (C := Rn_R) (index := 34) (n := 0) (own := Rn_R) 24 hx hb hml hown hts hK hN hP hS (ct_R_all l D ad cA w hJ st _ h) mw_153 mw_154 mw_155 mw_156 mw_143 (by decide +kernel) ⟨Nat.le_of_ble_eq_true rfl, Nat.le_of_ble_eq_true rfl⟩ rfl rfl rfl rfl rfl hl.1 rfl (lv_room (Nat.le_of_ble_eq_true rfl)) dc_R_keep_53 ⟨Nat.zero_le _, Nat.zero_le _⟩ (fun r102 st101 H locs hP hS h => ?_)
        exact w_iret hx hb hr hlocks hP hS h dc_R_keep_56
      · have h := h.2 c
        refine lv_aload_n hx hb dc_R_keep_34 rfl (lv_at hl 0 rfl) ?_
        refine va_get (D := D) (ci := 5) (v := .ref (ad 17)) (C := Rn_R) (T := Fn_R) (N := 4) hx hb hts in_R hown hK hP 24 rfl rfl 3 (by decide) (hts _ mw_249) (fun _ h9 => h9) rfl dc_R_keep_35 ?_
        refine lv_iload_n hx hb dc_R_keep_38 rfl (lv_at hl 1 rfl) ?_
        refine lv_aload_n hx hb dc_R_keep_39 rfl (lv_at hl 0 rfl) ?_
        refine va_get (D := D) (ci := 5) (v := .ref (ad 16)) (C := Rn_R) (T := Fn_R) (N := 4) hx hb hts in_R hown hK hP 24 rfl rfl 2 (by decide) (hts _ mw_152) (fun _ h9 => h9) rfl dc_R_keep_40 ?_
        refine lv_iload_n hx hb dc_R_keep_43 rfl (lv_at hl 1 rfl) ?_
        refine w_ild 16 (by decide) hx hb hK hP h.1 dc_R_keep_44 ?_
        have h := h.2
        refine w_ist 17 (by decide) hJ hx hb hK hP hS h.1 dc_R_keep_45 (fun H locs hP hS => ?_)
        obtain ⟨st103, est103⟩ : ∃ z : St_, z = ws_1 st 17 (y1).toNatClampNeg (st 16 (y1).toNatClampNeg) := ⟨_, rfl⟩
        rw [← est103] at hP
        have h := h.2 st103 est103
        obtain ⟨x104, ex104⟩ : ∃ y : Int32, y = y1 + 1 := ⟨_, rfl⟩
        have h := h x104 ex104
        refine lv_iinc (v := x104) (lv' := [(1, .int x104), (0, .ref (ad 24))]) hx hb dc_R_keep_46 hl (k := 1) rfl (by rw [ex104]; rfl) (by decide) rfl (fun ls hl => ?_)
        refine lv_goto (tgt := 28) hx hb dc_R_keep_49 (by decide) ?_
        exact ih x104 st103 h _ _ hP hS ls (lv_sub hl [1, 0] rfl)
  have Lp_2 : ∀ (n : Nat) (y1 : Int32) (st : St_), wp_R_keep_2 w post n y1 st → ∀ (H : Heap) (locs : List Loc), va_P D sC_ (wd_ ad cA w st) H → va_S (Aw_ ad) s.heap H locs → ∀ ls : Array Slot, lv_has ls 2 [(0, .ref (ad 24)), (1, .int y1)] → W p l e (headSpec (Cond.code yn_R_keep bc_R_keep 2 (some .int) :: Wk_) rm_R_keep).room s m [.ref (ad 24)].toArray below meth c H locs 0 0 (MQ below (Qi_ D ad cA w post) [.ref (ad 24)].toArray s 0 0 (Aw_ ad)) (F0 m 2 ls []) := by
    intro n
    induction n with
    | zero => intro y1 st h; exact h.elim
    | succ n ih =>
      intro y1 st h H locs hP hS ls hl
      refine lv_iload_n hx hb dc_R_keep_2 rfl (lv_at hl 1 rfl) ?_
      refine lv_ldc hx hb hown (hts _ mw_248) dc_R_keep_3 ?_
      refine lv_icmp_ge (tgt := 26) hx hb dc_R_keep_5 (by decide) (fun c => ?_) (fun c => ?_)
      · have h := h.1 c
        refine lv_iconst (v := 0) hx hb dc_R_keep_26 (by decide) ?_
        refine lv_istore_n (lv' := [(1, .int 0), (0, .ref (ad 24))]) hx hb dc_R_keep_27 rfl hl (by decide) rfl (fun ls hl => ?_)
        obtain ⟨n, h⟩ := h
        exact Lp_28 n 0 st h _ _ hP hS ls (lv_sub hl [1, 0] rfl)
      · have h := h.2 c
        refine lv_aload_n hx hb dc_R_keep_8 rfl (lv_at hl 0 rfl) ?_
        refine va_get (D := D) (ci := 5) (v := .ref (ad 15)) (C := Rn_R) (T := Fn_R) (N := 4) hx hb hts in_R hown hK hP 24 rfl rfl 1 (by decide) (hts _ mw_250) (fun _ h9 => h9) rfl dc_R_keep_9 ?_
        refine lv_iload_n hx hb dc_R_keep_12 rfl (lv_at hl 1 rfl) ?_
        refine lv_aload_n hx hb dc_R_keep_13 rfl (lv_at hl 0 rfl) ?_
        refine va_get (D := D) (ci := 5) (v := .ref (ad 14)) (C := Rn_R) (T := Fn_R) (N := 4) hx hb hts in_R hown hK hP 24 rfl rfl 0 (by decide) (hts _ mw_151) (fun _ h9 => h9) rfl dc_R_keep_14 ?_
        refine lv_iload_n hx hb dc_R_keep_17 rfl (lv_at hl 1 rfl) ?_
        refine w_ild 14 (by decide) hx hb hK hP h.1 dc_R_keep_18 ?_
        have h := h.2
        refine w_ist 15 (by decide) hJ hx hb hK hP hS h.1 dc_R_keep_19 (fun H locs hP hS => ?_)
        obtain ⟨st105, est105⟩ : ∃ z : St_, z = ws_1 st 15 (y1).toNatClampNeg (st 14 (y1).toNatClampNeg) := ⟨_, rfl⟩
        rw [← est105] at hP
        have h := h.2 st105 est105
        obtain ⟨x106, ex106⟩ : ∃ y : Int32, y = y1 + 1 := ⟨_, rfl⟩
        have h := h x106 ex106
        refine lv_iinc (v := x106) (lv' := [(1, .int x106), (0, .ref (ad 24))]) hx hb dc_R_keep_20 hl (k := 1) rfl (by rw [ex106]; rfl) (by decide) rfl (fun ls hl => ?_)
        refine lv_goto (tgt := 2) hx hb dc_R_keep_23 (by decide) ?_
        exact ih x106 st105 h _ _ hP hS ls (lv_sub hl [1, 0] rfl)
  have hl := lv_entry ([.ref (ad 24)]) (n := 2) (Nat.le_of_ble_eq_true rfl)
  rw [lg_entry_eq]
  generalize (lg_sl ([.ref (ad 24)]) ++ List.replicate (2 - (lg_sl ([.ref (ad 24)])).length) Slot.unset).toArray = ls at hl ⊢
  have hl : lv_has ls 2 [(0, .ref (ad 24))] := hl
  refine lv_iconst (v := 0) hx hb dc_R_keep_0 (by decide) ?_
  refine lv_istore_n (lv' := [(1, .int 0), (0, .ref (ad 24))]) hx hb dc_R_keep_1 rfl hl (by decide) rfl (fun ls hl => ?_)
  obtain ⟨n, h⟩ := h
  exact Lp_2 n 0 st h _ _ hP hS ls (lv_sub hl [1, 0] rfl)
