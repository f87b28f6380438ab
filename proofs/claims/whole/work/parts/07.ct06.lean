set_option maxHeartbeats 4000000 in
set_option maxRecDepth 100000 in
theorem ct_S_leadAll_22_23 (l : Launch) (D : va_G) (ad : Nat → Nat) (cA : Nat → ClassId) (w : Nat) (hJ : Jn_ ad) (st : St_) (post : St_ → Prop) (h : wp_S_leadAll_22_23 w st post) : Met l yn_S_leadAll (Cond.code yn_S_leadAll bc_S_leadAll 4 none :: Wk_) rm_S_leadAll_22_23 (Pw_ D ad cA w st [.ref (ad 18), .ref (ad 22), .ref (ad 23)]) (Qv_ D ad cA w post) 0 0 (Aw_ ad) := by
  refine Met.ofW (cc := bc_S_leadAll) (maxL := 4) (ret := none) (by decide) rfl ?_
  intro p e s m args below meth c s₁ B hml hv
  obtain ⟨rfl, hP, hK, hN⟩ := hv
  have hx := B.exec
  have hb := B.bytes
  have hr := B.returns
  have hts : ∀ v ∈ Wk_, v.before [.ref (ad 18), .ref (ad 22), .ref (ad 23)].toArray s = true := fun v hv => atoms_spec (ws := Cond.code yn_S_leadAll bc_S_leadAll 4 none :: Wk_) B.pre v (List.mem_cons_of_mem _ hv)
  have hown : s.vm.findClass Rn_S = some m.cls := findClass_of_methodNamed B.named
  have hlocks := B.notSynchronized
  have hS : va_S (Aw_ ad) s.heap s.heap [] := va_S.rf
  have Lp_2 : ∀ (n : Nat) (y3 : Int32) (st : St_), wp_S_leadAll_22_23_2 w post n y3 st → ∀ (H : Heap) (locs : List Loc), va_P D sC_ (wd_ ad cA w st) H → va_S (Aw_ ad) s.heap H locs → ∀ ls : Array Slot, lv_has ls 4 [(0, .ref (ad 18)), (1, .ref (ad 22)), (2, .ref (ad 23)), (3, .int y3)] → W p l e (headSpec (Cond.code yn_S_leadAll bc_S_leadAll 4 none :: Wk_) rm_S_leadAll_22_23).room s m [.ref (ad 18), .ref (ad 22), .ref (ad 23)].toArray below meth c H locs 0 0 (MQ below (Qv_ D ad cA w post) [.ref (ad 18), .ref (ad 22), .ref (ad 23)].toArray s 0 0 (Aw_ ad)) (F0 m 2 ls []) := by
    intro n
    induction n with
    | zero => intro y3 st h; exact h.elim
    | succ n ih =>
      intro y3 st h H locs hP hS ls hl
      refine lv_iload_n hx hb dc_S_leadAll_2 rfl (lv_at hl 3 rfl) ?_
      refine lv_bipush (v := 8) hx hb dc_S_leadAll_3 (by decide) ?_
      refine lv_icmp_ge (tgt := 32) hx hb dc_S_leadAll_5 (by decide) (fun c => ?_) (fun c => ?_)
      · have h := h.1 c
        exact w_vret hx hb hr hlocks hP hS h dc_S_leadAll_32
      · have h := h.2 c
        refine lv_aload_n hx hb dc_S_leadAll_8 rfl (lv_at hl 0 rfl) ?_
        refine lv_aload_n hx hb dc_S_leadAll_9 rfl (lv_at hl 1 rfl) ?_
        refine lv_iload_n hx hb dc_S_leadAll_10 rfl (lv_at hl 3 rfl) ?_
        refine lv_aload_n hx hb dc_S_leadAll_11 rfl (lv_at hl 2 rfl) ?_
        refine va_getN (D := D) (ci := 4) (v := .ref (ad 12)) (C := Rn_P) (T := Fn_P) (N := 3) (host := nh_) hx hb hts in_P hown hK hP 23 rfl rfl 0 (by decide) (va_Nw.use rfl (hN.1 _ nf_0)) (fun _ h9 => h9) rfl dc_S_leadAll_12 ?_
        refine lv_iload_n hx hb dc_S_leadAll_15 rfl (lv_at hl 3 rfl) ?_
        refine w_ild 12 (by decide) hx hb hK hP h.1 dc_S_leadAll_16 ?_
        have h := h.2
        refine lv_aload_n hx hb dc_S_leadAll_17 rfl (lv_at hl 2 rfl) ?_
        refine va_getN (D := D) (ci := 4) (v := .ref (ad 13)) (C := Rn_P) (T := Fn_P) (N := 3) (host := nh_) hx hb hts in_P hown hK hP 23 rfl rfl 1 (by decide) (va_Nw.use rfl (hN.1 _ nf_1)) (fun _ h9 => h9) rfl dc_S_leadAll_18 ?_
        refine lv_iload_n hx hb dc_S_leadAll_21 rfl (lv_at hl 3 rfl) ?_
        refine w_ild 13 (by decide) hx hb hK hP h.1 dc_S_leadAll_22 ?_
        have h := h.2
        refine w_cVv (y := yn_S_lead) (C := Rn_S) (index := 91) (n := 4) (own := Rn_S) 18 hx hb hml hown hts hK hN hP hS (ct_S_lead_22 l D ad cA w hJ y3 (st 12 (y3).toNatClampNeg) (st 13 (y3).toNatClampNeg) st _ h) mw_231 mw_232 mw_233 mw_234 mw_3 (by decide +kernel) ⟨Nat.le_of_ble_eq_true rfl, Nat.le_of_ble_eq_true rfl⟩ rfl rfl rfl rfl rfl hl.1 rfl (lv_room (Nat.le_of_ble_eq_true rfl)) dc_S_leadAll_23 ⟨Nat.zero_le _, Nat.zero_le _⟩ (fun st101 H locs hP hS h => ?_)
        obtain ⟨x102, ex102⟩ : ∃ y : Int32, y = y3 + 1 := ⟨_, rfl⟩
        have h := h x102 ex102
        refine lv_iinc (v := x102) (lv' := [(3, .int x102), (0, .ref (ad 18)), (1, .ref (ad 22)), (2, .ref (ad 23))]) hx hb dc_S_leadAll_26 hl (k := 3) rfl (by rw [ex102]; rfl) (by decide) rfl (fun ls hl => ?_)
        refine lv_goto (tgt := 2) hx hb dc_S_leadAll_29 (by decide) ?_
        exact ih x102 st101 h _ _ hP hS ls (lv_sub hl [1, 2, 3, 0] rfl)
  have hl := lv_entry ([.ref (ad 18), .ref (ad 22), .ref (ad 23)]) (n := 4) (Nat.le_of_ble_eq_true rfl)
  rw [lg_entry_eq]
  generalize (lg_sl ([.ref (ad 18), .ref (ad 22), .ref (ad 23)]) ++ List.replicate (4 - (lg_sl ([.ref (ad 18), .ref (ad 22), .ref (ad 23)])).length) Slot.unset).toArray = ls at hl ⊢
  have hl : lv_has ls 4 [(0, .ref (ad 18)), (1, .ref (ad 22)), (2, .ref (ad 23))] := hl
  refine lv_iconst (v := 0) hx hb dc_S_leadAll_0 (by decide) ?_
  refine lv_istore_n (lv' := [(3, .int 0), (0, .ref (ad 18)), (1, .ref (ad 22)), (2, .ref (ad 23))]) hx hb dc_S_leadAll_1 rfl hl (by decide) rfl (fun ls hl => ?_)
  obtain ⟨n, h⟩ := h
  exact Lp_2 n 0 st h _ _ hP hS ls (lv_sub hl [1, 2, 3, 0] rfl)
set_option maxHeartbeats 4000000 in
set_option maxRecDepth 100000 in
theorem ct_S_back (l : Launch) (D : va_G) (ad : Nat → Nat) (cA : Nat → ClassId) (w : Nat) (hJ : Jn_ ad) (st : St_) (post : Int32 → St_ → Prop) (h : wp_S_back w st post) : Met l yn_S_back (Cond.code yn_S_back bc_S_back 1 (some .int) :: Wk_) rm_S_back (Pw_ D ad cA w st [.ref (ad 18)]) (Qi_ D ad cA w post) 0 0 (Aw_ ad) := by
  refine Met.ofW (cc := bc_S_back) (maxL := 1) (ret := (some .int)) (by decide) rfl ?_
  intro p e s m args below meth c s₁ B hml hv
  obtain ⟨rfl, hP, hK, hN⟩ := hv
  have hx := B.exec
  have hb := B.bytes
  have hr := B.returns
  have hts : ∀ v ∈ Wk_, v.before [.ref (ad 18)].toArray s = true := fun v hv => atoms_spec (ws := Cond.code yn_S_back bc_S_back 1 (some .int) :: Wk_) B.pre v (List.mem_cons_of_mem _ hv)
  have hown : s.vm.findClass Rn_S = some m.cls := findClass_of_methodNamed B.named
  have hlocks := B.notSynchronized
  have hS : va_S (Aw_ ad) s.heap s.heap [] := va_S.rf
  have hl := lv_entry ([.ref (ad 18)]) (n := 1) (Nat.le_of_ble_eq_true rfl)
  rw [lg_entry_eq]
  generalize (lg_sl ([.ref (ad 18)]) ++ List.replicate (1 - (lg_sl ([.ref (ad 18)])).length) Slot.unset).toArray = ls at hl ⊢
  have hl : lv_has ls 1 [(0, .ref (ad 18))] := hl
  refine lv_aload_n hx hb dc_S_back_0 rfl (lv_at hl 0 rfl) ?_
  refine lv_aload_n hx hb dc_S_back_1 rfl (lv_at hl 0 rfl) ?_
  refine va_get (D := D) (ci := 0) (v := .ref (ad 22)) (C := Rn_S) (T := Fn_S) (N := 5) hx hb hts in_S hown hK hP 18 rfl rfl 3 (by decide) (hts _ mw_12) (fun _ h9 => h9) rfl dc_S_back_2 ?_
  refine lv_aload_n hx hb dc_S_back_5 rfl (lv_at hl 0 rfl) ?_
  refine va_get (D := D) (ci := 0) (v := .ref (ad 23)) (C := Rn_S) (T := Fn_S) (N := 5) hx hb hts in_S hown hK hP 18 rfl rfl 4 (by decide) (hts _ mw_242) (fun _ h9 => h9) rfl dc_S_back_6 ?_
  refine w_cVv (y := yn_S_leadAll) (C := Rn_S) (index := 95) (n := 2) (own := Rn_S) 18 hx hb hml hown hts hK hN hP hS (ct_S_leadAll_22_23 l D ad cA w hJ st _ h) mw_243 mw_244 mw_245 mw_246 mw_3 (by decide +kernel) ⟨Nat.le_of_ble_eq_true rfl, Nat.le_of_ble_eq_true rfl⟩ rfl rfl rfl rfl rfl hl.1 rfl (lv_room (Nat.le_of_ble_eq_true rfl)) dc_S_back_9 ⟨Nat.zero_le _, Nat.zero_le _⟩ (fun st101 H locs hP hS h => ?_)
  refine lv_aload_n hx hb dc_S_back_12 rfl (lv_at hl 0 rfl) ?_
  refine va_get (D := D) (ci := 0) (v := .ref (ad 22)) (C := Rn_S) (T := Fn_S) (N := 5) hx hb hts in_S hown hK hP 18 rfl rfl 3 (by decide) (hts _ mw_12) (fun _ h9 => h9) rfl dc_S_back_13 ?_
  refine va_getN (D := D) (ci := 4) (v := .int (st101 19 0)) (C := Rn_P) (T := Fn_P) (N := 3) (host := nh_) hx hb hts in_P hown hK hP 22 rfl rfl 2 (by decide) (va_Nw.use rfl (hN.1 _ nf_2)) (fun _ h9 => h9) rfl dc_S_back_16 ?_
  exact w_iret hx hb hr hlocks hP hS h dc_S_back_19
set_option maxHeartbeats 4000000 in
set_option maxRecDepth 100000 in
theorem ct_R_back (l : Launch) (D : va_G) (ad : Nat → Nat) (cA : Nat → ClassId) (w : Nat) (hJ : Jn_ ad) (st : St_) (post : Int32 → St_ → Prop) (h : wp_R_back w st post) : Met l yn_R_back (Cond.code yn_R_back bc_R_back 2 (some .int) :: Wk_) rm_R_back (Pw_ D ad cA w st [.ref (ad 24)]) (Qi_ D ad cA w post) 0 0 (Aw_ ad) := by
  refine Met.ofW (cc := bc_R_back) (maxL := 2) (ret := (some .int)) (by decide) rfl ?_
  intro p e s m args below meth c s₁ B hml hv
  obtain ⟨rfl, hP, hK, hN⟩ := hv
  have hx := B.exec
  have hb := B.bytes
  have hr := B.returns
  have hts : ∀ v ∈ Wk_, v.before [.ref (ad 24)].toArray s = true := fun v hv => atoms_spec (ws := Cond.code yn_R_back bc_R_back 2 (some .int) :: Wk_) B.pre v (List.mem_cons_of_mem _ hv)
  have hown : s.vm.findClass Rn_R = some m.cls := findClass_of_methodNamed B.named
  have hlocks := B.notSynchronized
  have hS : va_S (Aw_ ad) s.heap s.heap [] := va_S.rf
  have Lp_28 : ∀ (n : Nat) (y1 : Int32) (st : St_), wp_R_back_28 w post n y1 st → ∀ (H : Heap) (locs : List Loc), va_P D sC_ (wd_ ad cA w st) H → va_S (Aw_ ad) s.heap H locs → ∀ ls : Array Slot, lv_has ls 2 [(0, .ref (ad 24)), (1, .int y1)] → W p l e (headSpec (Cond.code yn_R_back bc_R_back 2 (some .int) :: Wk_) rm_R_back).room s m [.ref (ad 24)].toArray below meth c H locs 0 0 (MQ below (Qi_ D ad cA w post) [.ref (ad 24)].toArray s 0 0 (Aw_ ad)) (F0 m 28 ls []) := by
    intro n
    induction n with
    | zero => intro y1 st h; exact h.elim
    | succ n ih =>
      intro y1 st h H locs hP hS ls hl
      refine lv_iload_n hx hb dc_R_back_28 rfl (lv_at hl 1 rfl) ?_
      refine lv_bipush (v := 8) hx hb dc_R_back_29 (by decide) ?_
      refine lv_icmp_ge (tgt := 52) hx hb dc_R_back_31 (by decide) (fun c => ?_) (fun c => ?_)
      · have h := h.1 c
        refine lv_aload_n hx hb dc_R_back_52 rfl (lv_at hl 0 rfl) ?_
        refine w_cVi (y := yn_R_all) (C := Rn_R) (index := 34) (n := 0) (own := Rn_R) 24 hx hb hml hown hts hK hN hP hS (ct_R_all l D ad cA w hJ st _ h) mw_153 mw_154 mw_155 mw_156 mw_143 (by decide +kernel) ⟨Nat.le_of_ble_eq_true rfl, Nat.le_of_ble_eq_true rfl⟩ rfl rfl rfl rfl rfl hl.1 rfl (lv_room (Nat.le_of_ble_eq_true rfl)) dc_R_back_53 ⟨Nat.zero_le _, Nat.zero_le _⟩ (fun r102 st101 H locs hP hS h => ?_)
        exact w_iret hx hb hr hlocks hP hS h dc_R_back_56
      · have h := h.2 c
        refine lv_aload_n hx hb dc_R_back_34 rfl (lv_at hl 0 rfl) ?_
        refine va_get (D := D) (ci := 5) (v := .ref (ad 16)) (C := Rn_R) (T := Fn_R) (N := 4) hx hb hts in_R hown hK hP 24 rfl rfl 2 (by decide) (hts _ mw_152) (fun _ h9 => h9) rfl dc_R_back_35 ?_
        refine lv_iload_n hx hb dc_R_back_38 rfl (lv_at hl 1 rfl) ?_
        refine lv_aload_n hx hb dc_R_back_39 rfl (lv_at hl 0 rfl) ?_
        refine va_get (D := D) (ci := 5) (v := .ref (ad 17)) (C := Rn_R) (T := Fn_R) (N := 4) hx hb hts in_R hown hK hP 24 rfl rfl 3 (by decide) (hts _ mw_249) (fun _ h9 => h9) rfl dc_R_back_40 ?_
        refine lv_iload_n hx hb dc_R_back_43 rfl (lv_at hl 1 rfl) ?_
        refine w_ild 17 (by decide) hx hb hK hP h.1 dc_R_back_44 ?_
        have h := h.2
        refine w_ist 16 (by decide) hJ hx hb hK hP hS h.1 dc_R_back_45 (fun H locs hP hS => ?_)
        obtain ⟨st103, est103⟩ : ∃ z : St_, z = ws_1 st 16 (y1).toNatClampNeg (st 17 (y1).toNatClampNeg) := ⟨_, rfl⟩
        rw [← est103] at hP
        have h := h.2 st103 est103
        obtain ⟨x104, ex104⟩ : ∃ y : Int32, y = y1 + 1 := ⟨_, rfl⟩
        have h := h x104 ex104
        refine lv_iinc (v := x104) (lv' := [(1, .int x104), (0, .ref (ad 24))]) hx hb dc_R_back_46 hl (k := 1) rfl (by rw [ex104]; rfl) (by decide) rfl (fun ls hl => ?_)
        refine lv_goto (tgt := 28) hx hb dc_R_back_49 (by decide) ?_
        exact ih x104 st103 h _ _ hP hS ls (lv_sub hl [1, 0] rfl)
  have Lp_2 : ∀ (n : Nat) (y1 : Int32) (st : St_), wp_R_back_2 w post n y1 st → ∀ (H : Heap) (locs : List Loc), va_P D sC_ (wd_ ad cA w st) H → va_S (Aw_ ad) s.heap H locs → ∀ ls : Array Slot, lv_has ls 2 [(0, .ref (ad 24)), (1, .int y1)] → W p l e (headSpec (Cond.code yn_R_back bc_R_back 2 (some .int) :: Wk_) rm_R_back).room s m [.ref (ad 24)].toArray below meth c H locs 0 0 (MQ below (Qi_ D ad cA w post) [.ref (ad 24)].toArray s 0 0 (Aw_ ad)) (F0 m 2 ls []) := by
    intro n
    induction n with
    | zero => intro y1 st h; exact h.elim
    | succ n ih =>
      intro y1 st h H locs hP hS ls hl
      refine lv_iload_n hx hb dc_R_back_2 rfl (lv_at hl 1 rfl) ?_
      refine lv_ldc hx hb hown (hts _ mw_248) dc_R_back_3 ?_
      refine lv_icmp_ge (tgt := 26) hx hb dc_R_back_5 (by decide) (fun c => ?_) (fun c => ?_)
      · have h := h.1 c
        refine lv_iconst (v := 0) hx hb dc_R_back_26 (by decide) ?_
        refine lv_istore_n (lv' := [(1, .int 0), (0, .ref (ad 24))]) hx hb dc_R_back_27 rfl hl (by decide) rfl (fun ls hl => ?_)
        obtain ⟨n, h⟩ := h
        exact Lp_28 n 0 st h _ _ hP hS ls (lv_sub hl [1, 0] rfl)
      · have h := h.2 c
        refine lv_aload_n hx hb dc_R_back_8 rfl (lv_at hl 0 rfl) ?_
        refine va_get (D := D) (ci := 5) (v := .ref (ad 14)) (C := Rn_R) (T := Fn_R) (N := 4) hx hb hts in_R hown hK hP 24 rfl rfl 0 (by decide) (hts _ mw_151) (fun _ h9 => h9) rfl dc_R_back_9 ?_
        refine lv_iload_n hx hb dc_R_back_12 rfl (lv_at hl 1 rfl) ?_
        refine lv_aload_n hx hb dc_R_back_13 rfl (lv_at hl 0 rfl) ?_
        refine va_get (D := D) (ci := 5) (v := .ref (ad 15)) (C := Rn_R) (T := Fn_R) (N := 4) hx hb hts in_R hown hK hP 24 rfl rfl 1 (by decide) (hts _ mw_250) (fun _ h9 => h9) rfl dc_R_back_14 ?_
        refine lv_iload_n hx hb dc_R_back_17 rfl (lv_at hl 1 rfl) ?_
        refine w_ild 15 (by decide) hx hb hK hP h.1 dc_R_back_18 ?_
        have h := h.2
        refine w_ist 14 (by decide) hJ hx hb hK hP hS h.1 dc_R_back_19 (fun H locs hP hS => ?_)
        obtain ⟨st105, est105⟩ : ∃ z : St_, z = ws_1 st 14 (y1).toNatClampNeg (st 15 (y1).toNatClampNeg) := ⟨_, rfl⟩
        rw [← est105] at hP
        have h := h.2 st105 est105
        obtain ⟨x106, ex106⟩ : ∃ y : Int32, y = y1 + 1 := ⟨_, rfl⟩
        have h := h x106 ex106
        refine lv_iinc (v := x106) (lv' := [(1, .int x106), (0, .ref (ad 24))]) hx hb dc_R_back_20 hl (k := 1) rfl (by rw [ex106]; rfl) (by decide) rfl (fun ls hl => ?_)
        refine lv_goto (tgt := 2) hx hb dc_R_back_23 (by decide) ?_
        exact ih x106 st105 h _ _ hP hS ls (lv_sub hl [1, 0] rfl)
  have hl := lv_entry ([.ref (ad 24)]) (n := 2) (Nat.le_of_ble_eq_true rfl)
  rw [lg_entry_eq]
  generalize (lg_sl ([.ref (ad 24)]) ++ List.replicate (2 - (lg_sl ([.ref (ad 24)])).length) Slot.unset).toArray = ls at hl ⊢
  have hl : lv_has ls 2 [(0, .ref (ad 24))] := hl
  refine lv_iconst (v := 0) hx hb dc_R_back_0 (by decide) ?_
  refine lv_istore_n (lv' := [(1, .int 0), (0, .ref (ad 24))]) hx hb dc_R_back_1 rfl hl (by decide) rfl (fun ls hl => ?_)
  obtain ⟨n, h⟩ := h
  exact Lp_2 n 0 st h _ _ hP hS ls (lv_sub hl [1, 0] rfl)
set_option maxHeartbeats 4000000 in
set_option maxRecDepth 100000 in
theorem ct_S_keys (l : Launch) (D : va_G) (ad : Nat → Nat) (cA : Nat → ClassId) (w : Nat) (hJ : Jn_ ad) (x1 : Int32) (st : St_) (post : Int32 → St_ → Prop) (h : wp_S_keys w x1 st post) : Met l yn_S_keys (Cond.code yn_S_keys bc_S_keys 2 (some .int) :: Wk_) rm_S_keys (Pw_ D ad cA w st [.ref (ad 18), .int x1]) (Qi_ D ad cA w post) 0 0 (Aw_ ad) := by
  refine Met.ofW (cc := bc_S_keys) (maxL := 2) (ret := (some .int)) (by decide) rfl ?_
  intro p e s m args below meth c s₁ B hml hv
  obtain ⟨rfl, hP, hK, hN⟩ := hv
  have hx := B.exec
  have hb := B.bytes
  have hr := B.returns
  have hts : ∀ v ∈ Wk_, v.before [.ref (ad 18), .int x1].toArray s = true := fun v hv => atoms_spec (ws := Cond.code yn_S_keys bc_S_keys 2 (some .int) :: Wk_) B.pre v (List.mem_cons_of_mem _ hv)
  have hown : s.vm.findClass Rn_S = some m.cls := findClass_of_methodNamed B.named
  have hlocks := B.notSynchronized
  have hS : va_S (Aw_ ad) s.heap s.heap [] := va_S.rf
  have hl := lv_entry ([.ref (ad 18), .int x1]) (n := 2) (Nat.le_of_ble_eq_true rfl)
  rw [lg_entry_eq]
  generalize (lg_sl ([.ref (ad 18), .int x1]) ++ List.replicate (2 - (lg_sl ([.ref (ad 18), .int x1])).length) Slot.unset).toArray = ls at hl ⊢
  have hl : lv_has ls 2 [(0, .ref (ad 18)), (1, .int x1)] := hl
  refine lv_iload_n hx hb dc_S_keys_0 rfl (lv_at hl 1 rfl) ?_
  refine lv_iconst (v := (-1)) hx hb dc_S_keys_1 (by decide) ?_
  refine lv_icmp_ne (tgt := 13) hx hb dc_S_keys_2 (by decide) (fun c => ?_) (fun c => ?_)
  · have h := h.1 c
    refine lv_iload_n hx hb dc_S_keys_13 rfl (lv_at hl 1 rfl) ?_
    refine w_cSi (y := yn_S_isMap) (index := 53) (n := 1) (own := Rn_S) hx hb hml hown hts hK hN hP hS (ct_S_isMap l D ad cA w hJ x1 st _ h) mw_0 mw_1 mw_2 mw_3 (by decide +kernel) ⟨Nat.le_of_ble_eq_true rfl, Nat.le_of_ble_eq_true rfl⟩ rfl rfl rfl hl.1 rfl (lv_room (Nat.le_of_ble_eq_true rfl)) dc_S_keys_14 ⟨Nat.zero_le _, Nat.zero_le _⟩ (fun r102 st101 H locs hP hS h => ?_)
    refine lv_if_eq (tgt := 32) hx hb dc_S_keys_17 (by decide) (fun c => ?_) (fun c => ?_)
    · have h := h.1 c
      refine lv_iconst (v := (-1)) hx hb dc_S_keys_32 (by decide) ?_
      exact w_iret hx hb hr hlocks hP hS h dc_S_keys_33
    · have h := h.2 c
      refine lv_aload_n hx hb dc_S_keys_20 rfl (lv_at hl 0 rfl) ?_
      refine va_get (D := D) (ci := 0) (v := .ref (ad 22)) (C := Rn_S) (T := Fn_S) (N := 5) hx hb hts in_S hown hK hP 18 rfl rfl 3 (by decide) (hts _ mw_12) (fun _ h9 => h9) rfl dc_S_keys_21 ?_
      refine va_getN (D := D) (ci := 4) (v := .ref (ad 11)) (C := Rn_P) (T := Fn_P) (N := 3) (host := nh_) hx hb hts in_P hown hK hP 22 rfl rfl 1 (by decide) (va_Nw.use rfl (hN.1 _ nf_1)) (fun _ h9 => h9) rfl dc_S_keys_24 ?_
      refine lv_iload_n hx hb dc_S_keys_27 rfl (lv_at hl 1 rfl) ?_
      refine w_ild 11 (by decide) hx hb hK hP h.1 dc_S_keys_28 ?_
      have h := h.2
      refine lv_goto (tgt := 33) hx hb dc_S_keys_29 (by decide) ?_
      exact w_iret hx hb hr hlocks hP hS h dc_S_keys_33
  · have h := h.2 c
    refine lv_aload_n hx hb dc_S_keys_5 rfl (lv_at hl 0 rfl) ?_
    refine va_get (D := D) (ci := 0) (v := .ref (ad 22)) (C := Rn_S) (T := Fn_S) (N := 5) hx hb hts in_S hown hK hP 18 rfl rfl 3 (by decide) (hts _ mw_12) (fun _ h9 => h9) rfl dc_S_keys_6 ?_
    refine va_getN (D := D) (ci := 4) (v := .int (st 19 0)) (C := Rn_P) (T := Fn_P) (N := 3) (host := nh_) hx hb hts in_P hown hK hP 22 rfl rfl 2 (by decide) (va_Nw.use rfl (hN.1 _ nf_2)) (fun _ h9 => h9) rfl dc_S_keys_9 ?_
    exact w_iret hx hb hr hlocks hP hS h dc_S_keys_12
set_option maxHeartbeats 4000000 in
set_option maxRecDepth 100000 in
theorem ct_R_keys (l : Launch) (D : va_G) (ad : Nat → Nat) (cA : Nat → ClassId) (w : Nat) (hJ : Jn_ ad) (x1 : Int32) (st : St_) (post : Int32 → St_ → Prop) (h : wp_R_keys w x1 st post) : Met l yn_R_keys (Cond.code yn_R_keys bc_R_keys 2 (some .int) :: Wk_) rm_R_keys (Pw_ D ad cA w st [.ref (ad 24), .int x1]) (Qi_ D ad cA w post) 0 0 (Aw_ ad) := by
  refine Met.ofW (cc := bc_R_keys) (maxL := 2) (ret := (some .int)) (by decide) rfl ?_
  intro p e s m args below meth c s₁ B hml hv
  obtain ⟨rfl, hP, hK, hN⟩ := hv
  have hx := B.exec
  have hb := B.bytes
  have hr := B.returns
  have hts : ∀ v ∈ Wk_, v.before [.ref (ad 24), .int x1].toArray s = true := fun v hv => atoms_spec (ws := Cond.code yn_R_keys bc_R_keys 2 (some .int) :: Wk_) B.pre v (List.mem_cons_of_mem _ hv)
  have hown : s.vm.findClass Rn_R = some m.cls := findClass_of_methodNamed B.named
  have hlocks := B.notSynchronized
  have hS : va_S (Aw_ ad) s.heap s.heap [] := va_S.rf
  have hl := lv_entry ([.ref (ad 24), .int x1]) (n := 2) (Nat.le_of_ble_eq_true rfl)
  rw [lg_entry_eq]
  generalize (lg_sl ([.ref (ad 24), .int x1]) ++ List.replicate (2 - (lg_sl ([.ref (ad 24), .int x1])).length) Slot.unset).toArray = ls at hl ⊢
  have hl : lv_has ls 2 [(0, .ref (ad 24)), (1, .int x1)] := hl
  refine lv_iload_n hx hb dc_R_keys_0 rfl (lv_at hl 1 rfl) ?_
  refine lv_iconst (v := (-1)) hx hb dc_R_keys_1 (by decide) ?_
  refine lv_icmp_ne (tgt := 12) hx hb dc_R_keys_2 (by decide) (fun c => ?_) (fun c => ?_)
  · have h := h.1 c
    refine lv_iload_n hx hb dc_R_keys_12 rfl (lv_at hl 1 rfl) ?_
    refine w_cSi (y := yn_R_isMap) (index := 24) (n := 1) (own := Rn_R) hx hb hml hown hts hK hN hP hS (ct_R_isMap l D ad cA w hJ x1 st _ h) mw_140 mw_141 mw_142 mw_143 (by decide +kernel) ⟨Nat.le_of_ble_eq_true rfl, Nat.le_of_ble_eq_true rfl⟩ rfl rfl rfl hl.1 rfl (lv_room (Nat.le_of_ble_eq_true rfl)) dc_R_keys_13 ⟨Nat.zero_le _, Nat.zero_le _⟩ (fun r102 st101 H locs hP hS h => ?_)
    refine lv_if_eq (tgt := 28) hx hb dc_R_keys_16 (by decide) (fun c => ?_) (fun c => ?_)
    · have h := h.1 c
      refine lv_iconst (v := (-1)) hx hb dc_R_keys_28 (by decide) ?_
      exact w_iret hx hb hr hlocks hP hS h dc_R_keys_29
    · have h := h.2 c
      refine lv_aload_n hx hb dc_R_keys_19 rfl (lv_at hl 0 rfl) ?_
      refine va_get (D := D) (ci := 5) (v := .ref (ad 16)) (C := Rn_R) (T := Fn_R) (N := 4) hx hb hts in_R hown hK hP 24 rfl rfl 2 (by decide) (hts _ mw_152) (fun _ h9 => h9) rfl dc_R_keys_20 ?_
      refine lv_iload_n hx hb dc_R_keys_23 rfl (lv_at hl 1 rfl) ?_
      refine w_ild 16 (by decide) hx hb hK hP h.1 dc_R_keys_24 ?_
      have h := h.2
      refine lv_goto (tgt := 29) hx hb dc_R_keys_25 (by decide) ?_
      exact w_iret hx hb hr hlocks hP hS h dc_R_keys_29
  · have h := h.2 c
    refine lv_aload_n hx hb dc_R_keys_5 rfl (lv_at hl 0 rfl) ?_
    refine w_cVi (y := yn_R_all) (C := Rn_R) (index := 34) (n := 0) (own := Rn_R) 24 hx hb hml hown hts hK hN hP hS (ct_R_all l D ad cA w hJ st _ h) mw_153 mw_154 mw_155 mw_156 mw_143 (by decide +kernel) ⟨Nat.le_of_ble_eq_true rfl, Nat.le_of_ble_eq_true rfl⟩ rfl rfl rfl rfl rfl hl.1 rfl (lv_room (Nat.le_of_ble_eq_true rfl)) dc_R_keys_6 ⟨Nat.zero_le _, Nat.zero_le _⟩ (fun r104 st103 H locs hP hS h => ?_)
    refine lv_goto (tgt := 29) hx hb dc_R_keys_9 (by decide) ?_
    exact w_iret hx hb hr hlocks hP hS h dc_R_keys_29
set_option maxHeartbeats 4000000 in
set_option maxRecDepth 100000 in
theorem ct_I_hasOrder (l : Launch) (D : va_G) (ad : Nat → Nat) (cA : Nat → ClassId) (w : Nat) (hJ : Jn_ ad) (x1 : Int32) (st : St_) (post : Int32 → St_ → Prop) (h : wp_I_hasOrder w x1 st post) : Met l yn_I_hasOrder (Cond.code yn_I_hasOrder bc_I_hasOrder 4 (some .boolean) :: Wk_) rm_I_hasOrder (Pw_ D ad cA w st [.ref (ad 21), .int x1]) (Qi_ D ad cA w post) 0 0 (Aw_ ad) := by
  refine Met.ofW (cc := bc_I_hasOrder) (maxL := 4) (ret := (some .boolean)) (by decide) rfl ?_
  intro p e s m args below meth c s₁ B hml hv
  obtain ⟨rfl, hP, hK, hN⟩ := hv
  have hx := B.exec
  have hb := B.bytes
  have hr := B.returns
  have hts : ∀ v ∈ Wk_, v.before [.ref (ad 21), .int x1].toArray s = true := fun v hv => atoms_spec (ws := Cond.code yn_I_hasOrder bc_I_hasOrder 4 (some .boolean) :: Wk_) B.pre v (List.mem_cons_of_mem _ hv)
  have hown : s.vm.findClass Rn_I = some m.cls := findClass_of_methodNamed B.named
  have hlocks := B.notSynchronized
  have hS : va_S (Aw_ ad) s.heap s.heap [] := va_S.rf
  have Lp_26 : ∀ (n : Nat) (y1 y2 y3 : Int32) (st : St_), wp_I_hasOrder_26 w post n y1 y2 y3 st → ∀ (H : Heap) (locs : List Loc), va_P D sC_ (wd_ ad cA w st) H → va_S (Aw_ ad) s.heap H locs → ∀ ls : Array Slot, lv_has ls 4 [(0, .ref (ad 21)), (1, .int y1), (2, .int y2), (3, .int y3)] → W p l e (headSpec (Cond.code yn_I_hasOrder bc_I_hasOrder 4 (some .boolean) :: Wk_) rm_I_hasOrder).room s m [.ref (ad 21), .int x1].toArray below meth c H locs 0 0 (MQ below (Qi_ D ad cA w post) [.ref (ad 21), .int x1].toArray s 0 0 (Aw_ ad)) (F0 m 26 ls []) := by
    intro n
    induction n with
    | zero => intro y1 y2 y3 st h; exact h.elim
    | succ n ih =>
      intro y1 y2 y3 st h H locs hP hS ls hl
      refine lv_iload_n hx hb dc_I_hasOrder_26 rfl (lv_at hl 3 rfl) ?_
      refine lv_iload_n hx hb dc_I_hasOrder_27 rfl (lv_at hl 2 rfl) ?_
      refine lv_icmp_ge (tgt := 62) hx hb dc_I_hasOrder_28 (by decide) (fun c => ?_) (fun c => ?_)
      · have h := h.1 c
        refine lv_aload_n hx hb dc_I_hasOrder_62 rfl (lv_at hl 0 rfl) ?_
        refine va_get (D := D) (ci := 3) (v := .ref (ad 19)) (C := Rn_I) (T := Fn_I) (N := 7) hx hb hts in_I hown hK hP 21 rfl rfl 0 (by decide) (hts _ mw_257) (fun _ h9 => h9) rfl dc_I_hasOrder_63 ?_
        refine lv_iload_n hx hb dc_I_hasOrder_66 rfl (lv_at hl 1 rfl) ?_
        refine lv_iconst (v := 0) hx hb dc_I_hasOrder_67 (by decide) ?_
        refine w_cVi (y := yn_B_key) (C := Rn_B) (index := 91) (n := 2) (own := Rn_I) 19 hx hb hml hown hts hK hN hP hS (ct_B_key l D ad cA w hJ y1 0 st _ h) mw_43 mw_263 mw_45 mw_46 mw_18 (by decide +kernel) ⟨Nat.le_of_ble_eq_true rfl, Nat.le_of_ble_eq_true rfl⟩ rfl rfl rfl rfl rfl hl.1 rfl (lv_room (Nat.le_of_ble_eq_true rfl)) dc_I_hasOrder_68 ⟨Nat.zero_le _, Nat.zero_le _⟩ (fun r104 st103 H locs hP hS h => ?_)
        refine w_cNi (y := yn_S_isKey) (index := 94) (n := 1) (own := Rn_I) (host := nh_) hx hb hml hown hts hK hN hP hS (ct_S_isKey l D ad cA w hJ r104 st103 _ h) mw_4 (hN.2 _ nm_0) mw_6 mw_3 (by decide +kernel) ⟨Nat.le_of_ble_eq_true rfl, Nat.le_of_ble_eq_true rfl⟩ rfl rfl rfl hl.1 rfl (lv_room (Nat.le_of_ble_eq_true rfl)) dc_I_hasOrder_71 ⟨Nat.zero_le _, Nat.zero_le _⟩ (fun r106 st105 H locs hP hS h => ?_)
        refine lv_if_eq (tgt := 98) hx hb dc_I_hasOrder_74 (by decide) (fun c => ?_) (fun c => ?_)
        · have h := h.1 c
          refine lv_iconst (v := 0) hx hb dc_I_hasOrder_98 (by decide) ?_
          exact w_zret hx hb hr rfl hlocks hP hS h dc_I_hasOrder_99
        · have h := h.2 c
          refine lv_aload_n hx hb dc_I_hasOrder_77 rfl (lv_at hl 0 rfl) ?_
          refine va_get (D := D) (ci := 3) (v := .ref (ad 19)) (C := Rn_I) (T := Fn_I) (N := 7) hx hb hts in_I hown hK hP 21 rfl rfl 0 (by decide) (hts _ mw_257) (fun _ h9 => h9) rfl dc_I_hasOrder_78 ?_
          refine lv_iload_n hx hb dc_I_hasOrder_81 rfl (lv_at hl 1 rfl) ?_
          refine lv_iload_n hx hb dc_I_hasOrder_82 rfl (lv_at hl 2 rfl) ?_
          refine lv_iconst (v := 1) hx hb dc_I_hasOrder_83 (by decide) ?_
          refine lv_isub hx hb dc_I_hasOrder_84 ?_
          refine w_cVi (y := yn_B_key) (C := Rn_B) (index := 91) (n := 2) (own := Rn_I) 19 hx hb hml hown hts hK hN hP hS (ct_B_key l D ad cA w hJ y1 (y2 - 1) st105 _ h) mw_43 mw_263 mw_45 mw_46 mw_18 (by decide +kernel) ⟨Nat.le_of_ble_eq_true rfl, Nat.le_of_ble_eq_true rfl⟩ rfl rfl rfl rfl rfl hl.1 rfl (lv_room (Nat.le_of_ble_eq_true rfl)) dc_I_hasOrder_85 ⟨Nat.zero_le _, Nat.zero_le _⟩ (fun r108 st107 H locs hP hS h => ?_)
          refine w_cNi (y := yn_S_isKey) (index := 94) (n := 1) (own := Rn_I) (host := nh_) hx hb hml hown hts hK hN hP hS (ct_S_isKey l D ad cA w hJ r108 st107 _ h) mw_4 (hN.2 _ nm_0) mw_6 mw_3 (by decide +kernel) ⟨Nat.le_of_ble_eq_true rfl, Nat.le_of_ble_eq_true rfl⟩ rfl rfl rfl hl.1 rfl (lv_room (Nat.le_of_ble_eq_true rfl)) dc_I_hasOrder_88 ⟨Nat.zero_le _, Nat.zero_le _⟩ (fun r110 st109 H locs hP hS h => ?_)
          refine lv_if_eq (tgt := 98) hx hb dc_I_hasOrder_91 (by decide) (fun c => ?_) (fun c => ?_)
          · have h := h.1 c
            refine lv_iconst (v := 0) hx hb dc_I_hasOrder_98 (by decide) ?_
            exact w_zret hx hb hr rfl hlocks hP hS h dc_I_hasOrder_99
          · have h := h.2 c
            refine lv_iconst (v := 1) hx hb dc_I_hasOrder_94 (by decide) ?_
            refine lv_goto (tgt := 99) hx hb dc_I_hasOrder_95 (by decide) ?_
            exact w_zret hx hb hr rfl hlocks hP hS h dc_I_hasOrder_99
      · have h := h.2 c
        refine lv_aload_n hx hb dc_I_hasOrder_31 rfl (lv_at hl 0 rfl) ?_
        refine va_get (D := D) (ci := 3) (v := .ref (ad 19)) (C := Rn_I) (T := Fn_I) (N := 7) hx hb hts in_I hown hK hP 21 rfl rfl 0 (by decide) (hts _ mw_257) (fun _ h9 => h9) rfl dc_I_hasOrder_32 ?_
        refine lv_iload_n hx hb dc_I_hasOrder_35 rfl (lv_at hl 1 rfl) ?_
        refine lv_iload_n hx hb dc_I_hasOrder_36 rfl (lv_at hl 3 rfl) ?_
        refine lv_iconst (v := 1) hx hb dc_I_hasOrder_37 (by decide) ?_
        refine lv_isub hx hb dc_I_hasOrder_38 ?_
        refine w_cVi (y := yn_B_key) (C := Rn_B) (index := 91) (n := 2) (own := Rn_I) 19 hx hb hml hown hts hK hN hP hS (ct_B_key l D ad cA w hJ y1 (y3 - 1) st _ h) mw_43 mw_263 mw_45 mw_46 mw_18 (by decide +kernel) ⟨Nat.le_of_ble_eq_true rfl, Nat.le_of_ble_eq_true rfl⟩ rfl rfl rfl rfl rfl hl.1 rfl (lv_room (Nat.le_of_ble_eq_true rfl)) dc_I_hasOrder_39 ⟨Nat.zero_le _, Nat.zero_le _⟩ (fun r112 st111 H locs hP hS h => ?_)
        refine lv_aload_n hx hb dc_I_hasOrder_42 rfl (lv_at hl 0 rfl) ?_
        refine va_get (D := D) (ci := 3) (v := .ref (ad 19)) (C := Rn_I) (T := Fn_I) (N := 7) hx hb hts in_I hown hK hP 21 rfl rfl 0 (by decide) (hts _ mw_257) (fun _ h9 => h9) rfl dc_I_hasOrder_43 ?_
        refine lv_iload_n hx hb dc_I_hasOrder_46 rfl (lv_at hl 1 rfl) ?_
        refine lv_iload_n hx hb dc_I_hasOrder_47 rfl (lv_at hl 3 rfl) ?_
        refine w_cVi (y := yn_B_key) (C := Rn_B) (index := 91) (n := 2) (own := Rn_I) 19 hx hb hml hown hts hK hN hP hS (ct_B_key l D ad cA w hJ y1 y3 st111 _ h) mw_43 mw_263 mw_45 mw_46 mw_18 (by decide +kernel) ⟨Nat.le_of_ble_eq_true rfl, Nat.le_of_ble_eq_true rfl⟩ rfl rfl rfl rfl rfl hl.1 rfl (lv_room (Nat.le_of_ble_eq_true rfl)) dc_I_hasOrder_48 ⟨Nat.zero_le _, Nat.zero_le _⟩ (fun r114 st113 H locs hP hS h => ?_)
        refine lv_icmp_lt (tgt := 56) hx hb dc_I_hasOrder_51 (by decide) (fun c => ?_) (fun c => ?_)
        · have h := h.1 c
          obtain ⟨x115, ex115⟩ : ∃ y : Int32, y = y3 + 1 := ⟨_, rfl⟩
          have h := h x115 ex115
          refine lv_iinc (v := x115) (lv' := [(3, .int x115), (0, .ref (ad 21)), (1, .int y1), (2, .int y2)]) hx hb dc_I_hasOrder_56 hl (k := 3) rfl (by rw [ex115]; rfl) (by decide) rfl (fun ls hl => ?_)
          refine lv_goto (tgt := 26) hx hb dc_I_hasOrder_59 (by decide) ?_
          exact ih y1 y2 x115 st113 h _ _ hP hS ls (lv_sub hl [1, 2, 3, 0] rfl)
        · have h := h.2 c
          refine lv_iconst (v := 0) hx hb dc_I_hasOrder_54 (by decide) ?_
          exact w_zret hx hb hr rfl hlocks hP hS h dc_I_hasOrder_55
  have hl := lv_entry ([.ref (ad 21), .int x1]) (n := 4) (Nat.le_of_ble_eq_true rfl)
  rw [lg_entry_eq]
  generalize (lg_sl ([.ref (ad 21), .int x1]) ++ List.replicate (4 - (lg_sl ([.ref (ad 21), .int x1])).length) Slot.unset).toArray = ls at hl ⊢
  have hl : lv_has ls 4 [(0, .ref (ad 21)), (1, .int x1)] := hl
  refine lv_aload_n hx hb dc_I_hasOrder_0 rfl (lv_at hl 0 rfl) ?_
  refine va_get (D := D) (ci := 3) (v := .ref (ad 19)) (C := Rn_I) (T := Fn_I) (N := 7) hx hb hts in_I hown hK hP 21 rfl rfl 0 (by decide) (hts _ mw_257) (fun _ h9 => h9) rfl dc_I_hasOrder_1 ?_
  refine lv_iload_n hx hb dc_I_hasOrder_4 rfl (lv_at hl 1 rfl) ?_
  refine w_cVi (y := yn_B_size) (C := Rn_B) (index := 75) (n := 1) (own := Rn_I) 19 hx hb hml hown hts hK hN hP hS (ct_B_size l D ad cA w hJ x1 st _ h) mw_26 mw_260 mw_28 mw_29 mw_18 (by decide +kernel) ⟨Nat.le_of_ble_eq_true rfl, Nat.le_of_ble_eq_true rfl⟩ rfl rfl rfl rfl rfl hl.1 rfl (lv_room (Nat.le_of_ble_eq_true rfl)) dc_I_hasOrder_5 ⟨Nat.zero_le _, Nat.zero_le _⟩ (fun r102 st101 H locs hP hS h => ?_)
  refine lv_istore_n (lv' := [(2, .int r102), (0, .ref (ad 21)), (1, .int x1)]) hx hb dc_I_hasOrder_8 rfl hl (by decide) rfl (fun ls hl => ?_)
  refine lv_iload_n hx hb dc_I_hasOrder_9 rfl (lv_at hl 0 rfl) ?_
  refine lv_iconst (v := 1) hx hb dc_I_hasOrder_10 (by decide) ?_
  refine lv_icmp_lt (tgt := 22) hx hb dc_I_hasOrder_11 (by decide) (fun c => ?_) (fun c => ?_)
  · have h := h.1 c
    refine lv_iconst (v := 0) hx hb dc_I_hasOrder_22 (by decide) ?_
    exact w_zret hx hb hr rfl hlocks hP hS h dc_I_hasOrder_23
  · have h := h.2 c
    refine lv_iload_n hx hb dc_I_hasOrder_14 rfl (lv_at hl 0 rfl) ?_
    refine lv_aload_n hx hb dc_I_hasOrder_15 rfl (lv_at hl 1 rfl) ?_
    refine va_get (D := D) (ci := 3) (v := .int (nI (w - 1))) (C := Rn_I) (T := Fn_I) (N := 7) hx hb hts in_I hown hK hP 21 rfl rfl 1 (by decide) (hts _ mw_262) (fun _ h9 => h9) rfl dc_I_hasOrder_16 ?_
    refine lv_icmp_le (tgt := 24) hx hb dc_I_hasOrder_19 (by decide) (fun c => ?_) (fun c => ?_)
    · have h := h.1 c
      refine lv_iconst (v := 1) hx hb dc_I_hasOrder_24 (by decide) ?_
      refine lv_istore_n (lv' := [(3, .int 1), (2, .int r102), (0, .ref (ad 21)), (1, .int x1)]) hx hb dc_I_hasOrder_25 rfl hl (by decide) rfl (fun ls hl => ?_)
      obtain ⟨n, h⟩ := h
      exact Lp_26 n x1 r102 1 st101 h _ _ hP hS ls (lv_sub hl [2, 3, 1, 0] rfl)
    · have h := h.2 c
      refine lv_iconst (v := 0) hx hb dc_I_hasOrder_22 (by decide) ?_
      exact w_zret hx hb hr rfl hlocks hP hS h dc_I_hasOrder_23
set_option maxHeartbeats 4000000 in
set_option maxRecDepth 100000 in
theorem ct_I_faultOfNode (l : Launch) (D : va_G) (ad : Nat → Nat) (cA : Nat → ClassId) (w : Nat) (hJ : Jn_ ad) (d : Nat) (rec : Int32 → Int32 → St_ → (Int32 → St_ → Prop) → Prop) (hrec : ∀ (z0 : Int32) (z1 : Int32) (st : St_) (post : Int32 → St_ → Prop), rec z0 z1 st post → Met l yn_I_faultBelow (Cond.code yn_I_faultBelow bc_I_faultBelow 3 (some .int) :: Wk_) (rm_I_faultBelow d) (Pw_ D ad cA w st [.ref (ad 21), .int z0, .int z1]) (Qi_ D ad cA w post) 0 0 (Aw_ ad)) (x1 : Int32) (x2 : Int32) (st : St_) (post : Int32 → St_ → Prop) (h : wp_I_faultOfNode w rec x1 x2 st post) : Met l yn_I_faultOfNode (Cond.code yn_I_faultOfNode bc_I_faultOfNode 10 (some .int) :: Wk_) (rm_I_faultOfNode d) (Pw_ D ad cA w st [.ref (ad 21), .int x1, .int x2]) (Qi_ D ad cA w post) 0 0 (Aw_ ad) := by
  refine Met.ofW (cc := bc_I_faultOfNode) (maxL := 10) (ret := (some .int)) (by decide) rfl ?_
  intro p e s m args below meth c s₁ B hml hv
  obtain ⟨rfl, hP, hK, hN⟩ := hv
  have hx := B.exec
  have hb := B.bytes
  have hr := B.returns
  have hts : ∀ v ∈ Wk_, v.before [.ref (ad 21), .int x1, .int x2].toArray s = true := fun v hv => atoms_spec (ws := Cond.code yn_I_faultOfNode bc_I_faultOfNode 10 (some .int) :: Wk_) B.pre v (List.mem_cons_of_mem _ hv)
  have hown : s.vm.findClass Rn_I = some m.cls := findClass_of_methodNamed B.named
  have hlocks := B.notSynchronized
  have hS : va_S (Aw_ ad) s.heap s.heap [] := va_S.rf
  have Lp_19 : ∀ (n : Nat) (y1 y2 y3 y4 y5 y6 : Int32) (st : St_), wp_I_faultOfNode_19 w rec post n y1 y2 y3 y4 y5 y6 st → ∀ (H : Heap) (locs : List Loc), va_P D sC_ (wd_ ad cA w st) H → va_S (Aw_ ad) s.heap H locs → ∀ ls : Array Slot, lv_has ls 10 [(0, .ref (ad 21)), (1, .int y1), (2, .int y2), (3, .int y3), (4, .int y4), (5, .int y5), (6, .int y6)] → W p l e (headSpec (Cond.code yn_I_faultOfNode bc_I_faultOfNode 10 (some .int) :: Wk_) (rm_I_faultOfNode d)).room s m [.ref (ad 21), .int x1, .int x2].toArray below meth c H locs 0 0 (MQ below (Qi_ D ad cA w post) [.ref (ad 21), .int x1, .int x2].toArray s 0 0 (Aw_ ad)) (F0 m 19 ls []) := by
    intro n
    induction n with
    | zero => intro y1 y2 y3 y4 y5 y6 st h; exact h.elim
    | succ n ih =>
      intro y1 y2 y3 y4 y5 y6 st h H locs hP hS ls hl
      refine lv_iload hx hb dc_I_faultOfNode_19 (lv_at hl 6 rfl) ?_
      refine lv_iload_n hx hb dc_I_faultOfNode_21 rfl (lv_at hl 3 rfl) ?_
      refine lv_icmp_ge (tgt := 167) hx hb dc_I_faultOfNode_22 (by decide) (fun c => ?_) (fun c => ?_)
      · have h := h.1 c
        refine lv_aload_n hx hb dc_I_faultOfNode_167 rfl (lv_at hl 0 rfl) ?_
        refine va_get (D := D) (ci := 3) (v := .ref (ad 7)) (C := Rn_I) (T := Fn_I) (N := 7) hx hb hts in_I hown hK hP 21 rfl rfl 4 (by decide) (hts _ mw_269) (fun _ h9 => h9) rfl dc_I_faultOfNode_168 ?_
        refine lv_iload_n hx hb dc_I_faultOfNode_171 rfl (lv_at hl 1 rfl) ?_
        refine lv_iload hx hb dc_I_faultOfNode_172 (lv_at hl 4 rfl) ?_
        refine w_ist 7 (by decide) hJ hx hb hK hP hS h.1 dc_I_faultOfNode_174 (fun H locs hP hS => ?_)
        obtain ⟨st103, est103⟩ : ∃ z : St_, z = ws_1 st 7 (y1).toNatClampNeg y4 := ⟨_, rfl⟩
        rw [← est103] at hP
        have h := h.2 st103 est103
        refine lv_aload_n hx hb dc_I_faultOfNode_175 rfl (lv_at hl 0 rfl) ?_
        refine va_get (D := D) (ci := 3) (v := .ref (ad 8)) (C := Rn_I) (T := Fn_I) (N := 7) hx hb hts in_I hown hK hP 21 rfl rfl 5 (by decide) (hts _ mw_270) (fun _ h9 => h9) rfl dc_I_faultOfNode_176 ?_
        refine lv_iload_n hx hb dc_I_faultOfNode_179 rfl (lv_at hl 1 rfl) ?_
        refine lv_iload hx hb dc_I_faultOfNode_180 (lv_at hl 5 rfl) ?_
        refine w_ist 8 (by decide) hJ hx hb hK hP hS h.1 dc_I_faultOfNode_182 (fun H locs hP hS => ?_)
        obtain ⟨st104, est104⟩ : ∃ z : St_, z = ws_1 st103 8 (y1).toNatClampNeg y5 := ⟨_, rfl⟩
        rw [← est104] at hP
        have h := h.2 st104 est104
        refine lv_iconst (v := 0) hx hb dc_I_faultOfNode_183 (by decide) ?_
        exact w_iret hx hb hr hlocks hP hS h dc_I_faultOfNode_184
      · have h := h.2 c
        refine lv_aload_n hx hb dc_I_faultOfNode_25 rfl (lv_at hl 0 rfl) ?_
        refine va_get (D := D) (ci := 3) (v := .ref (ad 19)) (C := Rn_I) (T := Fn_I) (N := 7) hx hb hts in_I hown hK hP 21 rfl rfl 0 (by decide) (hts _ mw_257) (fun _ h9 => h9) rfl dc_I_faultOfNode_26 ?_
        refine lv_iload_n hx hb dc_I_faultOfNode_29 rfl (lv_at hl 1 rfl) ?_
        refine lv_iload hx hb dc_I_faultOfNode_30 (lv_at hl 6 rfl) ?_
        refine w_cVi (y := yn_B_goal) (C := Rn_B) (index := 97) (n := 2) (own := Rn_I) 19 hx hb hml hown hts hK hN hP hS (ct_B_goal l D ad cA w hJ y1 y6 st _ h) mw_48 mw_271 mw_50 mw_51 mw_18 (by decide +kernel) (by refine ⟨?_, ?_⟩ <;> (try dsimp only [headSpec]) <;> omega) rfl rfl rfl rfl rfl hl.1 rfl (lv_room (Nat.le_of_ble_eq_true rfl)) dc_I_faultOfNode_32 ⟨Nat.zero_le _, Nat.zero_le _⟩ (fun r106 st105 H locs hP hS h => ?_)
        refine lv_istore (lv' := [(7, .int r106), (0, .ref (ad 21)), (1, .int y1), (2, .int y2), (3, .int y3), (4, .int y4), (5, .int y5), (6, .int y6)]) hx hb dc_I_faultOfNode_35 hl (by decide) rfl (fun ls hl => ?_)
        refine lv_aload_n hx hb dc_I_faultOfNode_37 rfl (lv_at hl 1 rfl) ?_
        refine va_get (D := D) (ci := 3) (v := .ref (ad 19)) (C := Rn_I) (T := Fn_I) (N := 7) hx hb hts in_I hown hK hP 21 rfl rfl 0 (by decide) (hts _ mw_257) (fun _ h9 => h9) rfl dc_I_faultOfNode_38 ?_
        refine lv_iload hx hb dc_I_faultOfNode_41 (lv_at hl 0 rfl) ?_
        refine w_cVi (y := yn_B_isBlock) (C := Rn_B) (index := 66) (n := 1) (own := Rn_I) 19 hx hb hml hown hts hK hN hP hS (ct_B_isBlock l D ad cA w hJ r106 st105 _ h) mw_14 mw_258 mw_16 mw_17 mw_18 (by decide +kernel) (by refine ⟨?_, ?_⟩ <;> (try dsimp only [headSpec]) <;> omega) rfl rfl rfl rfl rfl hl.1 rfl (lv_room (Nat.le_of_ble_eq_true rfl)) dc_I_faultOfNode_43 ⟨Nat.zero_le _, Nat.zero_le _⟩ (fun r108 st107 H locs hP hS h => ?_)
        refine lv_if_eq (tgt := 64) hx hb dc_I_faultOfNode_46 (by decide) (fun c => ?_) (fun c => ?_)
        · have h := h.1 c
          refine lv_iload_n hx hb dc_I_faultOfNode_64 rfl (lv_at hl 2 rfl) ?_
          exact w_iret hx hb hr hlocks hP hS h dc_I_faultOfNode_65
        · have h := h.2 c
          refine lv_aload_n hx hb dc_I_faultOfNode_49 rfl (lv_at hl 1 rfl) ?_
          refine va_get (D := D) (ci := 3) (v := .ref (ad 19)) (C := Rn_I) (T := Fn_I) (N := 7) hx hb hts in_I hown hK hP 21 rfl rfl 0 (by decide) (hts _ mw_257) (fun _ h9 => h9) rfl dc_I_faultOfNode_50 ?_
          refine lv_iload hx hb dc_I_faultOfNode_53 (lv_at hl 0 rfl) ?_
          refine w_cVi (y := yn_B_level) (C := Rn_B) (index := 72) (n := 1) (own := Rn_I) 19 hx hb hml hown hts hK hN hP hS (ct_B_level l D ad cA w hJ r106 st107 _ h) mw_20 mw_259 mw_22 mw_23 mw_18 (by decide +kernel) (by refine ⟨?_, ?_⟩ <;> (try dsimp only [headSpec]) <;> omega) rfl rfl rfl rfl rfl hl.1 rfl (lv_room (Nat.le_of_ble_eq_true rfl)) dc_I_faultOfNode_55 ⟨Nat.zero_le _, Nat.zero_le _⟩ (fun r110 st109 H locs hP hS h => ?_)
          refine lv_iload_n hx hb dc_I_faultOfNode_58 rfl (lv_at hl 3 rfl) ?_
          refine lv_iconst (v := 1) hx hb dc_I_faultOfNode_59 (by decide) ?_
          refine lv_isub hx hb dc_I_faultOfNode_60 ?_
          refine lv_icmp_eq (tgt := 66) hx hb dc_I_faultOfNode_61 (by decide) (fun c => ?_) (fun c => ?_)
          · have h := h.1 c
            refine lv_aload_n hx hb dc_I_faultOfNode_66 rfl (lv_at hl 1 rfl) ?_
            refine va_get (D := D) (ci := 3) (v := .ref (ad 19)) (C := Rn_I) (T := Fn_I) (N := 7) hx hb hts in_I hown hK hP 21 rfl rfl 0 (by decide) (hts _ mw_257) (fun _ h9 => h9) rfl dc_I_faultOfNode_67 ?_
            refine lv_iload hx hb dc_I_faultOfNode_70 (lv_at hl 0 rfl) ?_
            refine w_cVi (y := yn_B_size) (C := Rn_B) (index := 75) (n := 1) (own := Rn_I) 19 hx hb hml hown hts hK hN hP hS (ct_B_size l D ad cA w hJ r106 st109 _ h) mw_26 mw_260 mw_28 mw_29 mw_18 (by decide +kernel) (by refine ⟨?_, ?_⟩ <;> (try dsimp only [headSpec]) <;> omega) rfl rfl rfl rfl rfl hl.1 rfl (lv_room (Nat.le_of_ble_eq_true rfl)) dc_I_faultOfNode_72 ⟨Nat.zero_le _, Nat.zero_le _⟩ (fun r112 st111 H locs hP hS h => ?_)
            refine lv_aload_n hx hb dc_I_faultOfNode_75 rfl (lv_at hl 1 rfl) ?_
            refine va_get (D := D) (ci := 3) (v := .int (nI (w / 2))) (C := Rn_I) (T := Fn_I) (N := 7) hx hb hts in_I hown hK hP 21 rfl rfl 2 (by decide) (hts _ mw_272) (fun _ h9 => h9) rfl dc_I_faultOfNode_76 ?_
            refine lv_icmp_ge (tgt := 85) hx hb dc_I_faultOfNode_79 (by decide) (fun c => ?_) (fun c => ?_)
            · have h := h.1 c
              refine lv_aload_n hx hb dc_I_faultOfNode_85 rfl (lv_at hl 1 rfl) ?_
              refine lv_iload hx hb dc_I_faultOfNode_86 (lv_at hl 0 rfl) ?_
              refine lv_iload_n hx hb dc_I_faultOfNode_88 rfl (lv_at hl 3 rfl) ?_
              refine lv_iconst (v := 1) hx hb dc_I_faultOfNode_89 (by decide) ?_
              refine lv_isub hx hb dc_I_faultOfNode_90 ?_
              refine w_cVi (y := yn_I_faultBelow) (C := Rn_I) (index := 78) (n := 2) (own := Rn_I) 21 hx hb hml hown hts hK hN hP hS (hrec r106 (y2 - 1) st111 _ h) mw_273 mw_274 mw_275 mw_276 mw_268 (by decide +kernel) (by refine ⟨?_, ?_⟩ <;> (try dsimp only [headSpec]) <;> omega) rfl rfl rfl rfl rfl hl.1 rfl (lv_room (Nat.le_of_ble_eq_true rfl)) dc_I_faultOfNode_91 ⟨Nat.zero_le _, Nat.zero_le _⟩ (fun r114 st113 H locs hP hS h => ?_)
              refine lv_istore (lv' := [(8, .int r114), (7, .int r106), (0, .ref (ad 21)), (1, .int y1), (2, .int y2), (3, .int y3), (4, .int y4), (5, .int y5), (6, .int y6)]) hx hb dc_I_faultOfNode_94 hl (by decide) rfl (fun ls hl => ?_)
              refine lv_iload hx hb dc_I_faultOfNode_96 (lv_at hl 0 rfl) ?_
              refine lv_if_eq (tgt := 104) hx hb dc_I_faultOfNode_98 (by decide) (fun c => ?_) (fun c => ?_)
              · have h := h.1 c
                refine lv_aload_n hx hb dc_I_faultOfNode_104 rfl (lv_at hl 2 rfl) ?_
                refine va_get (D := D) (ci := 3) (v := .ref (ad 19)) (C := Rn_I) (T := Fn_I) (N := 7) hx hb hts in_I hown hK hP 21 rfl rfl 0 (by decide) (hts _ mw_257) (fun _ h9 => h9) rfl dc_I_faultOfNode_105 ?_
                refine lv_iload_n hx hb dc_I_faultOfNode_108 rfl (lv_at hl 3 rfl) ?_
                refine lv_iload hx hb dc_I_faultOfNode_109 (lv_at hl 8 rfl) ?_
                refine w_cVi (y := yn_B_key) (C := Rn_B) (index := 91) (n := 2) (own := Rn_I) 19 hx hb hml hown hts hK hN hP hS (ct_B_key l D ad cA w hJ y1 y6 st113 _ h) mw_43 mw_263 mw_45 mw_46 mw_18 (by decide +kernel) (by refine ⟨?_, ?_⟩ <;> (try dsimp only [headSpec]) <;> omega) rfl rfl rfl rfl rfl hl.1 rfl (lv_room (Nat.le_of_ble_eq_true rfl)) dc_I_faultOfNode_111 ⟨Nat.zero_le _, Nat.zero_le _⟩ (fun r116 st115 H locs hP hS h => ?_)
                refine lv_istore (lv' := [(9, .int r116), (8, .int r114), (7, .int r106), (0, .ref (ad 21)), (1, .int y1), (2, .int y2), (3, .int y3), (4, .int y4), (5, .int y5), (6, .int y6)]) hx hb dc_I_faultOfNode_114 hl (by decide) rfl (fun ls hl => ?_)
                refine lv_iload hx hb dc_I_faultOfNode_116 (lv_at hl 0 rfl) ?_
                refine lv_aload_n hx hb dc_I_faultOfNode_118 rfl (lv_at hl 3 rfl) ?_
                refine va_get (D := D) (ci := 3) (v := .ref (ad 19)) (C := Rn_I) (T := Fn_I) (N := 7) hx hb hts in_I hown hK hP 21 rfl rfl 0 (by decide) (hts _ mw_257) (fun _ h9 => h9) rfl dc_I_faultOfNode_119 ?_
                refine lv_iload hx hb dc_I_faultOfNode_122 (lv_at hl 2 rfl) ?_
                refine lv_iconst (v := 0) hx hb dc_I_faultOfNode_124 (by decide) ?_
                refine w_cVi (y := yn_B_key) (C := Rn_B) (index := 91) (n := 2) (own := Rn_I) 19 hx hb hml hown hts hK hN hP hS (ct_B_key l D ad cA w hJ r106 0 st115 _ h) mw_43 mw_263 mw_45 mw_46 mw_18 (by decide +kernel) (by refine ⟨?_, ?_⟩ <;> (try dsimp only [headSpec]) <;> omega) rfl rfl rfl rfl rfl hl.1 rfl (lv_room (Nat.le_of_ble_eq_true rfl)) dc_I_faultOfNode_125 ⟨Nat.zero_le _, Nat.zero_le _⟩ (fun r118 st117 H locs hP hS h => ?_)
                refine lv_icmp_ne (tgt := 138) hx hb dc_I_faultOfNode_128 (by decide) (fun c => ?_) (fun c => ?_)
                · have h := h.1 c
                  refine lv_iload_n hx hb dc_I_faultOfNode_138 rfl (lv_at hl 4 rfl) ?_
                  exact w_iret hx hb hr hlocks hP hS h dc_I_faultOfNode_139
                · have h := h.2 c
                  refine lv_iload hx hb dc_I_faultOfNode_131 (lv_at hl 0 rfl) ?_
                  refine lv_iload hx hb dc_I_faultOfNode_133 (lv_at hl 8 rfl) ?_
                  refine lv_icmp_gt (tgt := 140) hx hb dc_I_faultOfNode_135 (by decide) (fun c => ?_) (fun c => ?_)
                  · have h := h.1 c
                    refine lv_aload_n hx hb dc_I_faultOfNode_140 rfl (lv_at hl 3 rfl) ?_
                    refine va_get (D := D) (ci := 3) (v := .ref (ad 8)) (C := Rn_I) (T := Fn_I) (N := 7) hx hb hts in_I hown hK hP 21 rfl rfl 5 (by decide) (hts _ mw_270) (fun _ h9 => h9) rfl dc_I_faultOfNode_141 ?_
                    refine lv_iload hx hb dc_I_faultOfNode_144 (lv_at hl 2 rfl) ?_
                    refine w_ild 8 (by decide) hx hb hK hP h.1 dc_I_faultOfNode_146 ?_
                    have h := h.2
                    refine lv_topi (fun x119 ex119 => ?_)
                    have h := h x119 ex119
                    refine lv_istore (lv' := [(5, .int x119), (9, .int r116), (8, .int r114), (7, .int r106), (0, .ref (ad 21)), (1, .int y1), (2, .int y2), (3, .int y3), (4, .int y4), (6, .int y6)]) hx hb dc_I_faultOfNode_147 hl (by decide) rfl (fun ls hl => ?_)
                    refine lv_iload hx hb dc_I_faultOfNode_149 (lv_at hl 8 rfl) ?_
                    refine lv_aload_n hx hb dc_I_faultOfNode_151 rfl (lv_at hl 4 rfl) ?_
                    refine va_get (D := D) (ci := 3) (v := .ref (ad 7)) (C := Rn_I) (T := Fn_I) (N := 7) hx hb hts in_I hown hK hP 21 rfl rfl 4 (by decide) (hts _ mw_269) (fun _ h9 => h9) rfl dc_I_faultOfNode_152 ?_
                    refine lv_iload hx hb dc_I_faultOfNode_155 (lv_at hl 3 rfl) ?_
                    refine w_ild 7 (by decide) hx hb hK hP h.1 dc_I_faultOfNode_157 ?_
                    have h := h.2
                    refine lv_iadd hx hb dc_I_faultOfNode_158 ?_
                    refine lv_topi (fun x120 ex120 => ?_)
                    have h := h x120 ex120
                    refine lv_istore (lv' := [(4, .int x120), (5, .int x119), (9, .int r116), (8, .int r114), (7, .int r106), (0, .ref (ad 21)), (1, .int y1), (2, .int y2), (3, .int y3), (6, .int y6)]) hx hb dc_I_faultOfNode_159 hl (by decide) rfl (fun ls hl => ?_)
                    obtain ⟨x121, ex121⟩ : ∃ y : Int32, y = y6 + 1 := ⟨_, rfl⟩
                    have h := h x121 ex121
                    refine lv_iinc (v := x121) (lv' := [(6, .int x121), (4, .int x120), (5, .int x119), (9, .int r116), (8, .int r114), (7, .int r106), (0, .ref (ad 21)), (1, .int y1), (2, .int y2), (3, .int y3)]) hx hb dc_I_faultOfNode_161 hl (k := 9) rfl (by rw [ex121]; rfl) (by decide) rfl (fun ls hl => ?_)
                    refine lv_goto (tgt := 19) hx hb dc_I_faultOfNode_164 (by decide) ?_
                    exact ih y1 y2 y3 x120 x119 x121 st117 h _ _ hP hS ls (lv_sub hl [6, 7, 8, 9, 1, 2, 0] rfl)
                  · have h := h.2 c
                    refine lv_iload_n hx hb dc_I_faultOfNode_138 rfl (lv_at hl 4 rfl) ?_
                    exact w_iret hx hb hr hlocks hP hS h dc_I_faultOfNode_139
              · have h := h.2 c
                refine lv_iload hx hb dc_I_faultOfNode_101 (lv_at hl 0 rfl) ?_
                exact w_iret hx hb hr hlocks hP hS h dc_I_faultOfNode_103
            · have h := h.2 c
              refine lv_iload hx hb dc_I_faultOfNode_82 (lv_at hl 0 rfl) ?_
              exact w_iret hx hb hr hlocks hP hS h dc_I_faultOfNode_84
          · have h := h.2 c
            refine lv_iload_n hx hb dc_I_faultOfNode_64 rfl (lv_at hl 2 rfl) ?_
            exact w_iret hx hb hr hlocks hP hS h dc_I_faultOfNode_65
  have hl := lv_entry ([.ref (ad 21), .int x1, .int x2]) (n := 10) (Nat.le_of_ble_eq_true rfl)
  rw [lg_entry_eq]
  generalize (lg_sl ([.ref (ad 21), .int x1, .int x2]) ++ List.replicate (10 - (lg_sl ([.ref (ad 21), .int x1, .int x2])).length) Slot.unset).toArray = ls at hl ⊢
  have hl : lv_has ls 10 [(0, .ref (ad 21)), (1, .int x1), (2, .int x2)] := hl
  refine lv_aload_n hx hb dc_I_faultOfNode_0 rfl (lv_at hl 0 rfl) ?_
  refine va_get (D := D) (ci := 3) (v := .ref (ad 19)) (C := Rn_I) (T := Fn_I) (N := 7) hx hb hts in_I hown hK hP 21 rfl rfl 0 (by decide) (hts _ mw_257) (fun _ h9 => h9) rfl dc_I_faultOfNode_1 ?_
  refine lv_iload_n hx hb dc_I_faultOfNode_4 rfl (lv_at hl 1 rfl) ?_
  refine w_cVi (y := yn_B_size) (C := Rn_B) (index := 75) (n := 1) (own := Rn_I) 19 hx hb hml hown hts hK hN hP hS (ct_B_size l D ad cA w hJ x1 st _ h) mw_26 mw_260 mw_28 mw_29 mw_18 (by decide +kernel) (by refine ⟨?_, ?_⟩ <;> (try dsimp only [headSpec]) <;> omega) rfl rfl rfl rfl rfl hl.1 rfl (lv_room (Nat.le_of_ble_eq_true rfl)) dc_I_faultOfNode_5 ⟨Nat.zero_le _, Nat.zero_le _⟩ (fun r102 st101 H locs hP hS h => ?_)
  refine lv_istore_n (lv' := [(3, .int r102), (0, .ref (ad 21)), (1, .int x1), (2, .int x2)]) hx hb dc_I_faultOfNode_8 rfl hl (by decide) rfl (fun ls hl => ?_)
  refine lv_iconst (v := 0) hx hb dc_I_faultOfNode_9 (by decide) ?_
  refine lv_istore (lv' := [(4, .int 0), (3, .int r102), (0, .ref (ad 21)), (1, .int x1), (2, .int x2)]) hx hb dc_I_faultOfNode_10 hl (by decide) rfl (fun ls hl => ?_)
  refine lv_bipush (v := (-2)) hx hb dc_I_faultOfNode_12 (by decide) ?_
  refine lv_istore (lv' := [(5, .int (-2)), (4, .int 0), (3, .int r102), (0, .ref (ad 21)), (1, .int x1), (2, .int x2)]) hx hb dc_I_faultOfNode_14 hl (by decide) rfl (fun ls hl => ?_)
  refine lv_iconst (v := 0) hx hb dc_I_faultOfNode_16 (by decide) ?_
  refine lv_istore (lv' := [(6, .int 0), (5, .int (-2)), (4, .int 0), (3, .int r102), (0, .ref (ad 21)), (1, .int x1), (2, .int x2)]) hx hb dc_I_faultOfNode_17 hl (by decide) rfl (fun ls hl => ?_)
  obtain ⟨n, h⟩ := h
  exact Lp_19 n x1 x2 r102 0 (-2) 0 st101 h _ _ hP hS ls (lv_sub hl [4, 5, 6, 3, 2, 1, 0] rfl)
set_option maxHeartbeats 4000000 in
set_option maxRecDepth 100000 in
theorem ct_I_faultOfLeaf (l : Launch) (D : va_G) (ad : Nat → Nat) (cA : Nat → ClassId) (w : Nat) (hJ : Jn_ ad) (x1 : Int32) (st : St_) (post : Int32 → St_ → Prop) (h : wp_I_faultOfLeaf w x1 st post) : Met l yn_I_faultOfLeaf (Cond.code yn_I_faultOfLeaf bc_I_faultOfLeaf 4 (some .int) :: Wk_) rm_I_faultOfLeaf (Pw_ D ad cA w st [.ref (ad 21), .int x1]) (Qi_ D ad cA w post) 0 0 (Aw_ ad) := by
  refine Met.ofW (cc := bc_I_faultOfLeaf) (maxL := 4) (ret := (some .int)) (by decide) rfl ?_
  intro p e s m args below meth c s₁ B hml hv
  obtain ⟨rfl, hP, hK, hN⟩ := hv
  have hx := B.exec
  have hb := B.bytes
  have hr := B.returns
  have hts : ∀ v ∈ Wk_, v.before [.ref (ad 21), .int x1].toArray s = true := fun v hv => atoms_spec (ws := Cond.code yn_I_faultOfLeaf bc_I_faultOfLeaf 4 (some .int) :: Wk_) B.pre v (List.mem_cons_of_mem _ hv)
  have hown : s.vm.findClass Rn_I = some m.cls := findClass_of_methodNamed B.named
  have hlocks := B.notSynchronized
  have hS : va_S (Aw_ ad) s.heap s.heap [] := va_S.rf
  have Lp_11 : ∀ (n : Nat) (y1 y2 y3 : Int32) (st : St_), wp_I_faultOfLeaf_11 w post n y1 y2 y3 st → ∀ (H : Heap) (locs : List Loc), va_P D sC_ (wd_ ad cA w st) H → va_S (Aw_ ad) s.heap H locs → ∀ ls : Array Slot, lv_has ls 4 [(0, .ref (ad 21)), (1, .int y1), (2, .int y2), (3, .int y3)] → W p l e (headSpec (Cond.code yn_I_faultOfLeaf bc_I_faultOfLeaf 4 (some .int) :: Wk_) rm_I_faultOfLeaf).room s m [.ref (ad 21), .int x1].toArray below meth c H locs 0 0 (MQ below (Qi_ D ad cA w post) [.ref (ad 21), .int x1].toArray s 0 0 (Aw_ ad)) (F0 m 11 ls []) := by
    intro n
    induction n with
    | zero => intro y1 y2 y3 st h; exact h.elim
    | succ n ih =>
      intro y1 y2 y3 st h H locs hP hS ls hl
      refine lv_iload_n hx hb dc_I_faultOfLeaf_11 rfl (lv_at hl 3 rfl) ?_
      refine lv_iload_n hx hb dc_I_faultOfLeaf_12 rfl (lv_at hl 2 rfl) ?_
      refine lv_icmp_ge (tgt := 39) hx hb dc_I_faultOfLeaf_13 (by decide) (fun c => ?_) (fun c => ?_)
      · have h := h.1 c
        refine lv_aload_n hx hb dc_I_faultOfLeaf_39 rfl (lv_at hl 0 rfl) ?_
        refine va_get (D := D) (ci := 3) (v := .ref (ad 7)) (C := Rn_I) (T := Fn_I) (N := 7) hx hb hts in_I hown hK hP 21 rfl rfl 4 (by decide) (hts _ mw_269) (fun _ h9 => h9) rfl dc_I_faultOfLeaf_40 ?_
        refine lv_iload_n hx hb dc_I_faultOfLeaf_43 rfl (lv_at hl 1 rfl) ?_
        refine lv_iload_n hx hb dc_I_faultOfLeaf_44 rfl (lv_at hl 2 rfl) ?_
        refine w_ist 7 (by decide) hJ hx hb hK hP hS h.1 dc_I_faultOfLeaf_45 (fun H locs hP hS => ?_)
        obtain ⟨st103, est103⟩ : ∃ z : St_, z = ws_1 st 7 (y1).toNatClampNeg y2 := ⟨_, rfl⟩
        rw [← est103] at hP
        have h := h.2 st103 est103
        refine lv_aload_n hx hb dc_I_faultOfLeaf_46 rfl (lv_at hl 0 rfl) ?_
        refine va_get (D := D) (ci := 3) (v := .ref (ad 8)) (C := Rn_I) (T := Fn_I) (N := 7) hx hb hts in_I hown hK hP 21 rfl rfl 5 (by decide) (hts _ mw_270) (fun _ h9 => h9) rfl dc_I_faultOfLeaf_47 ?_
        refine lv_iload_n hx hb dc_I_faultOfLeaf_50 rfl (lv_at hl 1 rfl) ?_
        refine lv_aload_n hx hb dc_I_faultOfLeaf_51 rfl (lv_at hl 0 rfl) ?_
        refine va_get (D := D) (ci := 3) (v := .ref (ad 19)) (C := Rn_I) (T := Fn_I) (N := 7) hx hb hts in_I hown hK hP 21 rfl rfl 0 (by decide) (hts _ mw_257) (fun _ h9 => h9) rfl dc_I_faultOfLeaf_52 ?_
        refine lv_iload_n hx hb dc_I_faultOfLeaf_55 rfl (lv_at hl 1 rfl) ?_
        refine lv_iload_n hx hb dc_I_faultOfLeaf_56 rfl (lv_at hl 2 rfl) ?_
        refine lv_iconst (v := 1) hx hb dc_I_faultOfLeaf_57 (by decide) ?_
        refine lv_isub hx hb dc_I_faultOfLeaf_58 ?_
        refine w_cVi (y := yn_B_key) (C := Rn_B) (index := 91) (n := 2) (own := Rn_I) 19 hx hb hml hown hts hK hN hP hS (ct_B_key l D ad cA w hJ y1 (y2 - 1) st103 _ h) mw_43 mw_263 mw_45 mw_46 mw_18 (by decide +kernel) ⟨Nat.le_of_ble_eq_true rfl, Nat.le_of_ble_eq_true rfl⟩ rfl rfl rfl rfl rfl hl.1 rfl (lv_room (Nat.le_of_ble_eq_true rfl)) dc_I_faultOfLeaf_59 ⟨Nat.zero_le _, Nat.zero_le _⟩ (fun r105 st104 H locs hP hS h => ?_)
        refine w_ist 8 (by decide) hJ hx hb hK hP hS h.1 dc_I_faultOfLeaf_62 (fun H locs hP hS => ?_)
        obtain ⟨st106, est106⟩ : ∃ z : St_, z = ws_1 st104 8 (y1).toNatClampNeg r105 := ⟨_, rfl⟩
        rw [← est106] at hP
        have h := h.2 st106 est106
        refine lv_iconst (v := 0) hx hb dc_I_faultOfLeaf_63 (by decide) ?_
        exact w_iret hx hb hr hlocks hP hS h dc_I_faultOfLeaf_64
      · have h := h.2 c
        refine lv_aload_n hx hb dc_I_faultOfLeaf_16 rfl (lv_at hl 0 rfl) ?_
        refine va_get (D := D) (ci := 3) (v := .ref (ad 19)) (C := Rn_I) (T := Fn_I) (N := 7) hx hb hts in_I hown hK hP 21 rfl rfl 0 (by decide) (hts _ mw_257) (fun _ h9 => h9) rfl dc_I_faultOfLeaf_17 ?_
        refine lv_iload_n hx hb dc_I_faultOfLeaf_20 rfl (lv_at hl 1 rfl) ?_
        refine lv_iload_n hx hb dc_I_faultOfLeaf_21 rfl (lv_at hl 3 rfl) ?_
        refine w_cVi (y := yn_B_goal) (C := Rn_B) (index := 97) (n := 2) (own := Rn_I) 19 hx hb hml hown hts hK hN hP hS (ct_B_goal l D ad cA w hJ y1 y3 st _ h) mw_48 mw_271 mw_50 mw_51 mw_18 (by decide +kernel) ⟨Nat.le_of_ble_eq_true rfl, Nat.le_of_ble_eq_true rfl⟩ rfl rfl rfl rfl rfl hl.1 rfl (lv_room (Nat.le_of_ble_eq_true rfl)) dc_I_faultOfLeaf_22 ⟨Nat.zero_le _, Nat.zero_le _⟩ (fun r108 st107 H locs hP hS h => ?_)
        refine w_cNi (y := yn_S_isStamp) (index := 100) (n := 1) (own := Rn_I) (host := nh_) hx hb hml hown hts hK hN hP hS (ct_S_isStamp l D ad cA w hJ r108 st107 _ h) mw_8 (hN.2 _ nm_1) mw_10 mw_3 (by decide +kernel) ⟨Nat.le_of_ble_eq_true rfl, Nat.le_of_ble_eq_true rfl⟩ rfl rfl rfl hl.1 rfl (lv_room (Nat.le_of_ble_eq_true rfl)) dc_I_faultOfLeaf_25 ⟨Nat.zero_le _, Nat.zero_le _⟩ (fun r110 st109 H locs hP hS h => ?_)
        refine lv_if_ne (tgt := 33) hx hb dc_I_faultOfLeaf_28 (by decide) (fun c => ?_) (fun c => ?_)
        · have h := h.1 c
          obtain ⟨x111, ex111⟩ : ∃ y : Int32, y = y3 + 1 := ⟨_, rfl⟩
          have h := h x111 ex111
          refine lv_iinc (v := x111) (lv' := [(3, .int x111), (0, .ref (ad 21)), (1, .int y1), (2, .int y2)]) hx hb dc_I_faultOfLeaf_33 hl (k := 3) rfl (by rw [ex111]; rfl) (by decide) rfl (fun ls hl => ?_)
          refine lv_goto (tgt := 11) hx hb dc_I_faultOfLeaf_36 (by decide) ?_
          exact ih y1 y2 x111 st109 h _ _ hP hS ls (lv_sub hl [1, 2, 3, 0] rfl)
        · have h := h.2 c
          refine lv_iload_n hx hb dc_I_faultOfLeaf_31 rfl (lv_at hl 1 rfl) ?_
          exact w_iret hx hb hr hlocks hP hS h dc_I_faultOfLeaf_32
  have hl := lv_entry ([.ref (ad 21), .int x1]) (n := 4) (Nat.le_of_ble_eq_true rfl)
  rw [lg_entry_eq]
  generalize (lg_sl ([.ref (ad 21), .int x1]) ++ List.replicate (4 - (lg_sl ([.ref (ad 21), .int x1])).length) Slot.unset).toArray = ls at hl ⊢
  have hl : lv_has ls 4 [(0, .ref (ad 21)), (1, .int x1)] := hl
  refine lv_aload_n hx hb dc_I_faultOfLeaf_0 rfl (lv_at hl 0 rfl) ?_
  refine va_get (D := D) (ci := 3) (v := .ref (ad 19)) (C := Rn_I) (T := Fn_I) (N := 7) hx hb hts in_I hown hK hP 21 rfl rfl 0 (by decide) (hts _ mw_257) (fun _ h9 => h9) rfl dc_I_faultOfLeaf_1 ?_
  refine lv_iload_n hx hb dc_I_faultOfLeaf_4 rfl (lv_at hl 1 rfl) ?_
  refine w_cVi (y := yn_B_size) (C := Rn_B) (index := 75) (n := 1) (own := Rn_I) 19 hx hb hml hown hts hK hN hP hS (ct_B_size l D ad cA w hJ x1 st _ h) mw_26 mw_260 mw_28 mw_29 mw_18 (by decide +kernel) ⟨Nat.le_of_ble_eq_true rfl, Nat.le_of_ble_eq_true rfl⟩ rfl rfl rfl rfl rfl hl.1 rfl (lv_room (Nat.le_of_ble_eq_true rfl)) dc_I_faultOfLeaf_5 ⟨Nat.zero_le _, Nat.zero_le _⟩ (fun r102 st101 H locs hP hS h => ?_)
  refine lv_istore_n (lv' := [(2, .int r102), (0, .ref (ad 21)), (1, .int x1)]) hx hb dc_I_faultOfLeaf_8 rfl hl (by decide) rfl (fun ls hl => ?_)
  refine lv_iconst (v := 0) hx hb dc_I_faultOfLeaf_9 (by decide) ?_
  refine lv_istore_n (lv' := [(3, .int 0), (2, .int r102), (0, .ref (ad 21)), (1, .int x1)]) hx hb dc_I_faultOfLeaf_10 rfl hl (by decide) rfl (fun ls hl => ?_)
  obtain ⟨n, h⟩ := h
  exact Lp_11 n x1 r102 0 st101 h _ _ hP hS ls (lv_sub hl [2, 3, 1, 0] rfl)
set_option maxHeartbeats 4000000 in
set_option maxRecDepth 100000 in
theorem ct_I_faultBelow (l : Launch) (D : va_G) (ad : Nat → Nat) (cA : Nat → ClassId) (w : Nat) (hJ : Jn_ ad) (d : Nat) : ∀ (x1 : Int32) (x2 : Int32) (st : St_) (post : Int32 → St_ → Prop), wp_I_faultBelow w d x1 x2 st post → Met l yn_I_faultBelow (Cond.code yn_I_faultBelow bc_I_faultBelow 3 (some .int) :: Wk_) (rm_I_faultBelow d) (Pw_ D ad cA w st [.ref (ad 21), .int x1, .int x2]) (Qi_ D ad cA w post) 0 0 (Aw_ ad) := by
  induction d with
  | zero =>
    intro x1 x2 st post h
    exact h.elim
  | succ d ihd =>
    intro x1 x2 st post h
    refine Met.ofW (cc := bc_I_faultBelow) (maxL := 3) (ret := (some .int)) (by decide) rfl ?_
    intro p e s m args below meth c s₁ B hml hv
    obtain ⟨rfl, hP, hK, hN⟩ := hv
    have hx := B.exec
    have hb := B.bytes
    have hr := B.returns
    have hts : ∀ v ∈ Wk_, v.before [.ref (ad 21), .int x1, .int x2].toArray s = true := fun v hv => atoms_spec (ws := Cond.code yn_I_faultBelow bc_I_faultBelow 3 (some .int) :: Wk_) B.pre v (List.mem_cons_of_mem _ hv)
    have hown : s.vm.findClass Rn_I = some m.cls := findClass_of_methodNamed B.named
    have hlocks := B.notSynchronized
    have hS : va_S (Aw_ ad) s.heap s.heap [] := va_S.rf
    have hl := lv_entry ([.ref (ad 21), .int x1, .int x2]) (n := 3) (Nat.le_of_ble_eq_true rfl)
    rw [lg_entry_eq]
    generalize (lg_sl ([.ref (ad 21), .int x1, .int x2]) ++ List.replicate (3 - (lg_sl ([.ref (ad 21), .int x1, .int x2])).length) Slot.unset).toArray = ls at hl ⊢
    have hl : lv_has ls 3 [(0, .ref (ad 21)), (1, .int x1), (2, .int x2)] := hl
    refine lv_iload_n hx hb dc_I_faultBelow_0 rfl (lv_at hl 2 rfl) ?_
    refine lv_if_lt (tgt := 21) hx hb dc_I_faultBelow_1 (by decide) (fun c => ?_) (fun c => ?_)
    · have h := h.1 c
      refine lv_sipush (v := 1219) hx hb dc_I_faultBelow_21 (by decide) ?_
      exact w_iret hx hb hr hlocks hP hS h dc_I_faultBelow_24
    · have h := h.2 c
      refine lv_iload_n hx hb dc_I_faultBelow_4 rfl (lv_at hl 2 rfl) ?_
      refine lv_bipush (v := 16) hx hb dc_I_faultBelow_5 (by decide) ?_
      refine lv_icmp_gt (tgt := 21) hx hb dc_I_faultBelow_7 (by decide) (fun c => ?_) (fun c => ?_)
      · have h := h.1 c
        refine lv_sipush (v := 1219) hx hb dc_I_faultBelow_21 (by decide) ?_
        exact w_iret hx hb hr hlocks hP hS h dc_I_faultBelow_24
      · have h := h.2 c
        refine lv_aload_n hx hb dc_I_faultBelow_10 rfl (lv_at hl 0 rfl) ?_
        refine va_get (D := D) (ci := 3) (v := .ref (ad 19)) (C := Rn_I) (T := Fn_I) (N := 7) hx hb hts in_I hown hK hP 21 rfl rfl 0 (by decide) (hts _ mw_257) (fun _ h9 => h9) rfl dc_I_faultBelow_11 ?_
        refine lv_iload_n hx hb dc_I_faultBelow_14 rfl (lv_at hl 1 rfl) ?_
        refine w_cVi (y := yn_B_isBlock) (C := Rn_B) (index := 66) (n := 1) (own := Rn_I) 19 hx hb hml hown hts hK hN hP hS (ct_B_isBlock l D ad cA w hJ x1 st _ h) mw_14 mw_258 mw_16 mw_17 mw_18 (by decide +kernel) (by refine ⟨?_, ?_⟩ <;> (try dsimp only [headSpec]) <;> omega) rfl rfl rfl rfl rfl hl.1 rfl (lv_room (Nat.le_of_ble_eq_true rfl)) dc_I_faultBelow_15 ⟨Nat.zero_le _, Nat.zero_le _⟩ (fun r102 st101 H locs hP hS h => ?_)
        refine lv_if_ne (tgt := 25) hx hb dc_I_faultBelow_18 (by decide) (fun c => ?_) (fun c => ?_)
        · have h := h.1 c
          refine lv_aload_n hx hb dc_I_faultBelow_25 rfl (lv_at hl 0 rfl) ?_
          refine va_get (D := D) (ci := 3) (v := .ref (ad 6)) (C := Rn_I) (T := Fn_I) (N := 7) hx hb hts in_I hown hK hP 21 rfl rfl 3 (by decide) (hts _ mw_261) (fun _ h9 => h9) rfl dc_I_faultBelow_26 ?_
          refine lv_iload_n hx hb dc_I_faultBelow_29 rfl (lv_at hl 1 rfl) ?_
          refine lv_dup2_11 hx hb dc_I_faultBelow_30 rfl rfl ?_
          refine w_ild 6 (by decide) hx hb hK hP h.1 dc_I_faultBelow_31 ?_
          have h := h.2
          refine lv_iconst (v := 1) hx hb dc_I_faultBelow_32 (by decide) ?_
          refine lv_iadd hx hb dc_I_faultBelow_33 ?_
          refine w_ist 6 (by decide) hJ hx hb hK hP hS h.1 dc_I_faultBelow_34 (fun H locs hP hS => ?_)
          obtain ⟨st103, est103⟩ : ∃ z : St_, z = ws_1 st101 6 (x1).toNatClampNeg ((st101 6 (x1).toNatClampNeg) + 1) := ⟨_, rfl⟩
          rw [← est103] at hP
          have h := h.2 st103 est103
          refine lv_aload_n hx hb dc_I_faultBelow_35 rfl (lv_at hl 0 rfl) ?_
          refine va_get (D := D) (ci := 3) (v := .ref (ad 6)) (C := Rn_I) (T := Fn_I) (N := 7) hx hb hts in_I hown hK hP 21 rfl rfl 3 (by decide) (hts _ mw_261) (fun _ h9 => h9) rfl dc_I_faultBelow_36 ?_
          refine lv_iload_n hx hb dc_I_faultBelow_39 rfl (lv_at hl 1 rfl) ?_
          refine w_ild 6 (by decide) hx hb hK hP h.1 dc_I_faultBelow_40 ?_
          have h := h.2
          refine lv_iconst (v := 1) hx hb dc_I_faultBelow_41 (by decide) ?_
          refine lv_icmp_le (tgt := 47) hx hb dc_I_faultBelow_42 (by decide) (fun c => ?_) (fun c => ?_)
          · have h := h.1 c
            refine lv_aload_n hx hb dc_I_faultBelow_47 rfl (lv_at hl 0 rfl) ?_
            refine lv_iload_n hx hb dc_I_faultBelow_48 rfl (lv_at hl 1 rfl) ?_
            refine w_cVi (y := yn_I_hasOrder) (C := Rn_I) (index := 82) (n := 1) (own := Rn_I) 21 hx hb hml hown hts hK hN hP hS (ct_I_hasOrder l D ad cA w hJ x1 st103 _ h) mw_264 mw_265 mw_266 mw_267 mw_268 (by decide +kernel) (by refine ⟨?_, ?_⟩ <;> (try dsimp only [headSpec]) <;> omega) rfl rfl rfl rfl rfl hl.1 rfl (lv_room (Nat.le_of_ble_eq_true rfl)) dc_I_faultBelow_49 ⟨Nat.zero_le _, Nat.zero_le _⟩ (fun r105 st104 H locs hP hS h => ?_)
            refine lv_if_ne (tgt := 57) hx hb dc_I_faultBelow_52 (by decide) (fun c => ?_) (fun c => ?_)
            · have h := h.1 c
              refine lv_iload_n hx hb dc_I_faultBelow_57 rfl (lv_at hl 2 rfl) ?_
              refine lv_if_ne (tgt := 69) hx hb dc_I_faultBelow_58 (by decide) (fun c => ?_) (fun c => ?_)
              · have h := h.1 c
                refine lv_aload_n hx hb dc_I_faultBelow_69 rfl (lv_at hl 0 rfl) ?_
                refine lv_iload_n hx hb dc_I_faultBelow_70 rfl (lv_at hl 1 rfl) ?_
                refine lv_iload_n hx hb dc_I_faultBelow_71 rfl (lv_at hl 2 rfl) ?_
                refine w_cVi (y := yn_I_faultOfNode) (C := Rn_I) (index := 88) (n := 2) (own := Rn_I) 21 hx hb hml hown hts hK hN hP hS (ct_I_faultOfNode l D ad cA w hJ d (wp_I_faultBelow w d) ihd x1 x2 st104 _ h) mw_277 mw_278 mw_279 mw_280 mw_268 (by decide +kernel) (by refine ⟨?_, ?_⟩ <;> (try dsimp only [headSpec]) <;> omega) rfl rfl rfl rfl rfl hl.1 rfl (lv_room (Nat.le_of_ble_eq_true rfl)) dc_I_faultBelow_72 ⟨Nat.zero_le _, Nat.zero_le _⟩ (fun r107 st106 H locs hP hS h => ?_)
                exact w_iret hx hb hr hlocks hP hS h dc_I_faultBelow_75
              · have h := h.2 c
                refine lv_aload_n hx hb dc_I_faultBelow_61 rfl (lv_at hl 0 rfl) ?_
                refine lv_iload_n hx hb dc_I_faultBelow_62 rfl (lv_at hl 1 rfl) ?_
                refine w_cVi (y := yn_I_faultOfLeaf) (C := Rn_I) (index := 85) (n := 1) (own := Rn_I) 21 hx hb hml hown hts hK hN hP hS (ct_I_faultOfLeaf l D ad cA w hJ x1 st104 _ h) mw_281 mw_282 mw_283 mw_284 mw_268 (by decide +kernel) (by refine ⟨?_, ?_⟩ <;> (try dsimp only [headSpec]) <;> omega) rfl rfl rfl rfl rfl hl.1 rfl (lv_room (Nat.le_of_ble_eq_true rfl)) dc_I_faultBelow_63 ⟨Nat.zero_le _, Nat.zero_le _⟩ (fun r109 st108 H locs hP hS h => ?_)
                refine lv_goto (tgt := 75) hx hb dc_I_faultBelow_66 (by decide) ?_
                exact w_iret hx hb hr hlocks hP hS h dc_I_faultBelow_75
            · have h := h.2 c
              refine lv_iload_n hx hb dc_I_faultBelow_55 rfl (lv_at hl 1 rfl) ?_
              exact w_iret hx hb hr hlocks hP hS h dc_I_faultBelow_56
          · have h := h.2 c
            refine lv_iconst (v := 0) hx hb dc_I_faultBelow_45 (by decide) ?_
            exact w_iret hx hb hr hlocks hP hS h dc_I_faultBelow_46
        · have h := h.2 c
          refine lv_sipush (v := 1219) hx hb dc_I_faultBelow_21 (by decide) ?_
          exact w_iret hx hb hr hlocks hP hS h dc_I_faultBelow_24
