set_option maxHeartbeats 4000000 in
set_option maxRecDepth 100000 in
theorem ct_R_back (l : Launch) (D : va_G) (ad : Nat → Nat) (cA : Nat → ClassId) (w : Nat) (hJ : Jn_ ad) (st : St_) (post : Int32 → St_ → Prop) (h : wp_R_back w st post) : Met l yn_R_back (Cond.code yn_R_back bc_R_back 2 (some .int) :: Wk_) rm_R_back (Pw_ D ad cA w st [.ref (ad 24)]) (Qi_ D ad cA w post) 0 0 (Aw_ ad) := by
  refine Met.ofW (cc := bc_R_back) (maxL := 2) (ret := (some .int)) (by decide) rfl ?_
  intro p e s m args below meth c s₁ B hml hv
  obtain ⟨rfl, hP, hK, hN⟩ := hv
  have hx := B.exec
  have hb := B.bytes
  have hr := B.returns
  have hts : ∀ v ∈ Wk_, v.before [.ref (ad 24)].toArray s = true := fun v hv => atoms_spec (ws := Cond.code yn_R_back bc_R_back 2 (some .int) :: Wk_) B.pre v (List.mem_cons_of_mem _ hv)
  have hown : s.vm.findClass Rn_R = some m.cls := findClass_of_methodNamed B.named
  have hlocks := B.notSynchronized
  have hS : va_S (Aw_ ad) s.heap s.heap [] := va_S.rf
  have Lp_28 : ∀ (n : Nat) (y1 : Int32) (st : St_), wp_R_back_28 w post n y1 st → ∀ (H : Heap) (locs : List Loc), va_P D sC_ (wd_ ad cA w st) H → va_S (Aw_ ad) s.heap H locs → ∀ ls : Array Slot, lv_has ls 2 [(0, .ref (ad 24)), (1, .int y1)] → W p l e (headSpec (Cond.code yn_R_back bc_R_back 2 (some .int) :: Wk_) rm_R_back).room s m [.ref (ad 24)].toArray below meth c H locs 0 0 (MQ below (Qi_ D ad cA w post) [.ref (ad 24)].toArray s 0 0 (Aw_ ad)) (F0 m 28 ls []) := by
    intro n
    induction n with
    | zero => intro y1 st h; exact h.elim
    | succ n ih =>
      intro y1 st h H locs hP hS ls hl
      refine lv_iload_n hx hb dc_R_back_28 rfl (lv_at hl 1 rfl) ?_
      refine lv_bipush (v := 8) hx hb dc_R_back_29 (by decide) ?_
      refine lv_icmp_ge (tgt := 52) hx hb dc_R_back_31 (by decide) (fun c => ?_) (fun c => ?_)
      · have h := h.1 c
        refine lv_aload_n hx hb dc_R_back_52 rfl (lv_at hl 0 rfl) ?_
        refine w_cVi (y := yn_R_all) (C := Rn_R) (index := 34) (n := 0) (own := Rn_R) 24 hx hb hml hown hts hK hN hP hS (ct_R_all l D ad cA w hJ st _ h) mw_160 mw_161 mw_162 mw_163 mw_150 (by decide +kernel) ⟨Nat.le_of_ble_eq_true rfl, Nat.le_of_ble_eq_true rfl⟩ rfl rfl rfl rfl rfl hl.1 rfl (lv_room (Nat.le_of_ble_eq_true rfl)) dc_R_back_53 ⟨Nat.zero_le _, Nat.zero_le _⟩ (fun r102 st101 H locs hP hS h => ?_)
        exact w_iret hx hb hr hlocks hP hS h dc_R_back_56
      · have h := h.2 c
        refine lv_aload_n hx hb dc_R_back_34 rfl (lv_at hl 0 rfl) ?_
        refine va_get (D := D) (ci := 5) (v := .ref (ad 16)) (C := Rn_R) (T := Fn_R) (N := 4) hx hb hts in_R hown hK hP 24 rfl rfl 2 (by decide) (hts _ mw_159) (fun _ h9 => h9) rfl dc_R_back_35 ?_
        refine lv_iload_n hx hb dc_R_back_38 rfl (lv_at hl 1 rfl) ?_
        refine lv_aload_n hx hb dc_R_back_39 rfl (lv_at hl 0 rfl) ?_
        refine va_get (D := D) (ci := 5) (v := .ref (ad 17)) (C := Rn_R) (T := Fn_R) (N := 4) hx hb hts in_R hown hK hP 24 rfl rfl 3 (by decide) (hts _ mw_252) (fun _ h9 => h9) rfl dc_R_back_40 ?_
        refine lv_iload_n hx hb dc_R_back_43 rfl (lv_at hl 1 rfl) ?_
        refine w_ild 17 (by decide) hx hb hK hP h.1 dc_R_back_44 ?_
        have h := h.2
        refine w_ist 16 (by decide) hJ hx hb hK hP hS h.1 dc_R_back_45 (fun H locs hP hS => ?_)
        obtain ⟨st103, est103⟩ : ∃ z : St_, z = ws_1 st 16 (y1).toNatClampNeg (st 17 (y1).toNatClampNeg) := ⟨_, rfl⟩
        rw [← est103] at hP
        have h := h.2 st103 est103
        obtain ⟨x104, ex104⟩ : ∃ y : Int32, y = y1 + 1 := ⟨_, rfl⟩
        have h := h x104 ex104
        refine lv_iinc (v := x104) (lv' := [(1, .int x104), (0, .ref (ad 24))]) hx hb dc_R_back_46 hl (k := 1) rfl (by rw [ex104]; rfl) (by decide) rfl (fun ls hl => ?_)
        refine lv_goto (tgt := 28) hx hb dc_R_back_49 (by decide) ?_
        exact ih x104 st103 h _ _ hP hS ls (lv_sub hl [1, 0] rfl)
  have Lp_2 : ∀ (n : Nat) (y1 : Int32) (st : St_), wp_R_back_2 w post n y1 st → ∀ (H : Heap) (locs : List Loc), va_P D sC_ (wd_ ad cA w st) H → va_S (Aw_ ad) s.heap H locs → ∀ ls : Array Slot, lv_has ls 2 [(0, .ref (ad 24)), (1, .int y1)] → W p l e (headSpec (Cond.code yn_R_back bc_R_back 2 (some .int) :: Wk_) rm_R_back).room s m [.ref (ad 24)].toArray below meth c H locs 0 0 (MQ below (Qi_ D ad cA w post) [.ref (ad 24)].toArray s 0 0 (Aw_ ad)) (F0 m 2 ls []) := by
    intro n
    induction n with
    | zero => intro y1 st h; exact h.elim
    | succ n ih =>
      intro y1 st h H locs hP hS ls hl
      refine lv_iload_n hx hb dc_R_back_2 rfl (lv_at hl 1 rfl) ?_
      refine lv_ldc hx hb hown (hts _ mw_251) dc_R_back_3 ?_
      refine lv_icmp_ge (tgt := 26) hx hb dc_R_back_5 (by decide) (fun c => ?_) (fun c => ?_)
      · have h := h.1 c
        refine lv_iconst (v := 0) hx hb dc_R_back_26 (by decide) ?_
        refine lv_istore_n (lv' := [(1, .int 0), (0, .ref (ad 24))]) hx hb dc_R_back_27 rfl hl (by decide) rfl (fun ls hl => ?_)
        obtain ⟨n, h⟩ := h
        exact Lp_28 n 0 st h _ _ hP hS ls (lv_sub hl [1, 0] rfl)
      · have h := h.2 c
        refine lv_aload_n hx hb dc_R_back_8 rfl (lv_at hl 0 rfl) ?_
        refine va_get (D := D) (ci := 5) (v := .ref (ad 14)) (C := Rn_R) (T := Fn_R) (N := 4) hx hb hts in_R hown hK hP 24 rfl rfl 0 (by decide) (hts _ mw_158) (fun _ h9 => h9) rfl dc_R_back_9 ?_
        refine lv_iload_n hx hb dc_R_back_12 rfl (lv_at hl 1 rfl) ?_
        refine lv_aload_n hx hb dc_R_back_13 rfl (lv_at hl 0 rfl) ?_
        refine va_get (D := D) (ci := 5) (v := .ref (ad 15)) (C := Rn_R) (T := Fn_R) (N := 4) hx hb hts in_R hown hK hP 24 rfl rfl 1 (by decide) (hts _ mw_253) (fun _ h9 => h9) rfl dc_R_back_14 ?_
        refine lv_iload_n hx hb dc_R_back_17 rfl (lv_at hl 1 rfl) ?_
        refine w_ild 15 (by decide) hx hb hK hP h.1 dc_R_back_18 ?_
        have h := h.2
        refine w_ist 14 (by decide) hJ hx hb hK hP hS h.1 dc_R_back_19 (fun H locs hP hS => ?_)
        obtain ⟨st105, est105⟩ : ∃ z : St_, z = ws_1 st 14 (y1).toNatClampNeg (st 15 (y1).toNatClampNeg) := ⟨_, rfl⟩
        rw [← est105] at hP
        have h := h.2 st105 est105
        obtain ⟨x106, ex106⟩ : ∃ y : Int32, y = y1 + 1 := ⟨_, rfl⟩
        have h := h x106 ex106
        refine lv_iinc (v := x106) (lv' := [(1, .int x106), (0, .ref (ad 24))]) hx hb dc_R_back_20 hl (k := 1) rfl (by rw [ex106]; rfl) (by decide) rfl (fun ls hl => ?_)
        refine lv_goto (tgt := 2) hx hb dc_R_back_23 (by decide) ?_
        exact ih x106 st105 h _ _ hP hS ls (lv_sub hl [1, 0] rfl)
  have hl := lv_entry ([.ref (ad 24)]) (n := 2) (Nat.le_of_ble_eq_true rfl)
  rw [lg_entry_eq]
  generalize (lg_sl ([.ref (ad 24)]) ++ List.replicate (2 - (lg_sl ([.ref (ad 24)])).length) Slot.unset).toArray = ls at hl ⊢
  have hl : lv_has ls 2 [(0, .ref (ad 24))] := hl
  refine lv_iconst (v := 0) hx hb dc_R_back_0 (by decide) ?_
  refine lv_istore_n (lv' := [(1, .int 0), (0, .ref (ad 24))]) hx hb dc_R_back_1 rfl hl (by decide) rfl (fun ls hl => ?_)
  obtain ⟨n, h⟩ := h
  exact Lp_2 n 0 st h _ _ hP hS ls (lv_sub hl [1, 0] rfl)
