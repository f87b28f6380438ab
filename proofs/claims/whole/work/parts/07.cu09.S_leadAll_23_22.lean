set_option maxHeartbeats 4000000 in
set_option maxRecDepth 100000 in
theorem ct_S_leadAll_23_22 (l : Launch) (D : va_G) (ad : Nat → Nat) (cA : Nat → ClassId) (w : Nat) (hJ : Jn_ ad) (st : St_) (post : St_ → Prop) (h : wp_S_leadAll_23_22 w st post) : Met l yn_S_leadAll (Cond.code yn_S_leadAll bc_S_leadAll 4 none :: Wk_) rm_S_leadAll_23_22 (Pw_ D ad cA w st [.ref (ad 18), .ref (ad 23), .ref (ad 22)]) (Qv_ D ad cA w post) 0 0 (Aw_ ad) := by
  refine Met.ofW (cc := bc_S_leadAll) (maxL := 4) (ret := none) (by decide) rfl ?_
  intro p e s m args below meth c s₁ B hml hv
  obtain ⟨rfl, hP, hK, hN⟩ := hv
  have hx := B.exec
  have hb := B.bytes
  have hr := B.returns
  have hts : ∀ v ∈ Wk_, v.before [.ref (ad 18), .ref (ad 23), .ref (ad 22)].toArray s = true := fun v hv => atoms_spec (ws := Cond.code yn_S_leadAll bc_S_leadAll 4 none :: Wk_) B.pre v (List.mem_cons_of_mem _ hv)
  have hown : s.vm.findClass Rn_S = some m.cls := findClass_of_methodNamed B.named
  have hlocks := B.notSynchronized
  have hS : va_S (Aw_ ad) s.heap s.heap [] := va_S.rf
  have Lp_2 : ∀ (n : Nat) (y3 : Int32) (st : St_), wp_S_leadAll_23_22_2 w post n y3 st → ∀ (H : Heap) (locs : List Loc), va_P D sC_ (wd_ ad cA w st) H → va_S (Aw_ ad) s.heap H locs → ∀ ls : Array Slot, lv_has ls 4 [(0, .ref (ad 18)), (1, .ref (ad 23)), (2, .ref (ad 22)), (3, .int y3)] → W p l e (headSpec (Cond.code yn_S_leadAll bc_S_leadAll 4 none :: Wk_) rm_S_leadAll_23_22).room s m [.ref (ad 18), .ref (ad 23), .ref (ad 22)].toArray below meth c H locs 0 0 (MQ below (Qv_ D ad cA w post) [.ref (ad 18), .ref (ad 23), .ref (ad 22)].toArray s 0 0 (Aw_ ad)) (F0 m 2 ls []) := by
    intro n
    induction n with
    | zero => intro y3 st h; exact h.elim
    | succ n ih =>
      intro y3 st h H locs hP hS ls hl
      refine lv_iload_n hx hb dc_S_leadAll_2 rfl (lv_at hl 3 rfl) ?_
      refine lv_bipush (v := 8) hx hb dc_S_leadAll_3 (by decide) ?_
      refine lv_icmp_ge (tgt := 32) hx hb dc_S_leadAll_5 (by decide) (fun c => ?_) (fun c => ?_)
      · have h := h.1 c
        exact w_vret hx hb hr hlocks hP hS h dc_S_leadAll_32
      · have h := h.2 c
        refine lv_aload_n hx hb dc_S_leadAll_8 rfl (lv_at hl 0 rfl) ?_
        refine lv_aload_n hx hb dc_S_leadAll_9 rfl (lv_at hl 1 rfl) ?_
        refine lv_iload_n hx hb dc_S_leadAll_10 rfl (lv_at hl 3 rfl) ?_
        refine lv_aload_n hx hb dc_S_leadAll_11 rfl (lv_at hl 2 rfl) ?_
        refine va_getN (D := D) (ci := 4) (v := .ref (ad 10)) (C := Rn_P) (T := Fn_P) (N := 3) (host := nh_) hx hb hts in_P hown hK hP 22 rfl rfl 0 (by decide) (va_Nw.use rfl (hN.1 _ nf_0)) (fun _ h9 => h9) rfl dc_S_leadAll_12 ?_
        refine lv_iload_n hx hb dc_S_leadAll_15 rfl (lv_at hl 3 rfl) ?_
        refine w_ild 10 (by decide) hx hb hK hP h.1 dc_S_leadAll_16 ?_
        have h := h.2
        refine lv_aload_n hx hb dc_S_leadAll_17 rfl (lv_at hl 2 rfl) ?_
        refine va_getN (D := D) (ci := 4) (v := .ref (ad 11)) (C := Rn_P) (T := Fn_P) (N := 3) (host := nh_) hx hb hts in_P hown hK hP 22 rfl rfl 1 (by decide) (va_Nw.use rfl (hN.1 _ nf_1)) (fun _ h9 => h9) rfl dc_S_leadAll_18 ?_
        refine lv_iload_n hx hb dc_S_leadAll_21 rfl (lv_at hl 3 rfl) ?_
        refine w_ild 11 (by decide) hx hb hK hP h.1 dc_S_leadAll_22 ?_
        have h := h.2
        refine w_cVv (y := yn_S_lead) (C := Rn_S) (index := 94) (n := 4) (own := Rn_S) 18 hx hb hml hown hts hK hN hP hS (ct_S_lead_23 l D ad cA w hJ y3 (st 10 (y3).toNatClampNeg) (st 11 (y3).toNatClampNeg) st _ h) mw_234 mw_235 mw_236 mw_237 mw_3 (by decide +kernel) ⟨Nat.le_of_ble_eq_true rfl, Nat.le_of_ble_eq_true rfl⟩ rfl rfl rfl rfl rfl hl.1 rfl (lv_room (Nat.le_of_ble_eq_true rfl)) dc_S_leadAll_23 ⟨Nat.zero_le _, Nat.zero_le _⟩ (fun st101 H locs hP hS h => ?_)
        obtain ⟨x102, ex102⟩ : ∃ y : Int32, y = y3 + 1 := ⟨_, rfl⟩
        have h := h x102 ex102
        refine lv_iinc (v := x102) (lv' := [(3, .int x102), (0, .ref (ad 18)), (1, .ref (ad 23)), (2, .ref (ad 22))]) hx hb dc_S_leadAll_26 hl (k := 3) rfl (by rw [ex102]; rfl) (by decide) rfl (fun ls hl => ?_)
        refine lv_goto (tgt := 2) hx hb dc_S_leadAll_29 (by decide) ?_
        exact ih x102 st101 h _ _ hP hS ls (lv_sub hl [1, 2, 3, 0] rfl)
  have hl := lv_entry ([.ref (ad 18), .ref (ad 23), .ref (ad 22)]) (n := 4) (Nat.le_of_ble_eq_true rfl)
  rw [lg_entry_eq]
  generalize (lg_sl ([.ref (ad 18), .ref (ad 23), .ref (ad 22)]) ++ List.replicate (4 - (lg_sl ([.ref (ad 18), .ref (ad 23), .ref (ad 22)])).length) Slot.unset).toArray = ls at hl ⊢
  have hl : lv_has ls 4 [(0, .ref (ad 18)), (1, .ref (ad 23)), (2, .ref (ad 22))] := hl
  refine lv_iconst (v := 0) hx hb dc_S_leadAll_0 (by decide) ?_
  refine lv_istore_n (lv' := [(3, .int 0), (0, .ref (ad 18)), (1, .ref (ad 23)), (2, .ref (ad 22))]) hx hb dc_S_leadAll_1 rfl hl (by decide) rfl (fun ls hl => ?_)
  obtain ⟨n, h⟩ := h
  exact Lp_2 n 0 st h _ _ hP hS ls (lv_sub hl [1, 2, 3, 0] rfl)
