set_option maxHeartbeats 4000000 in
set_option maxRecDepth 100000 in
theorem ct_B_lose (l : Launch) (D : va_G) (ad : Nat → Nat) (cA : Nat → ClassId) (w : Nat) (hJ : Jn_ ad) (x1 : Int32) (st : St_) (post : Int32 → St_ → Prop) (h : wp_B_lose w x1 st post) : Met l yn_B_lose (Cond.code yn_B_lose bc_B_lose 2 (some .boolean) :: Wk_) rm_B_lose (Pw_ D ad cA w st [.ref (ad 19), .int x1]) (Qi_ D ad cA w post) 0 0 (Aw_ ad) := by
  refine Met.ofW (cc := bc_B_lose) (maxL := 2) (ret := (some .boolean)) (by decide) rfl ?_
  intro p e s m args below meth c s₁ B hml hv
  obtain ⟨rfl, hP, hK, hN⟩ := hv
  have hx := B.exec
  have hb := B.bytes
  have hr := B.returns
  have hts : ∀ v ∈ Wk_, v.before [.ref (ad 19), .int x1].toArray s = true := fun v hv => atoms_spec (ws := Cond.code yn_B_lose bc_B_lose 2 (some .boolean) :: Wk_) B.pre v (List.mem_cons_of_mem _ hv)
  have hown : s.vm.findClass Rn_B = some m.cls := findClass_of_methodNamed B.named
  have hlocks := B.notSynchronized
  have hS : va_S (Aw_ ad) s.heap s.heap [] := va_S.rf
  have hl := lv_entry ([.ref (ad 19), .int x1]) (n := 2) (Nat.le_of_ble_eq_true rfl)
  rw [lg_entry_eq]
  generalize (lg_sl ([.ref (ad 19), .int x1]) ++ List.replicate (2 - (lg_sl ([.ref (ad 19), .int x1])).length) Slot.unset).toArray = ls at hl ⊢
  have hl : lv_has ls 2 [(0, .ref (ad 19)), (1, .int x1)] := hl
  refine lv_aload_n hx hb dc_B_lose_0 rfl (lv_at hl 0 rfl) ?_
  refine lv_iload_n hx hb dc_B_lose_1 rfl (lv_at hl 1 rfl) ?_
  refine w_cVi (y := yn_B_isBlock) (C := Rn_B) (index := 37) (n := 1) (own := Rn_B) 19 hx hb hml hown hts hK hN hP hS (ct_B_isBlock l D ad cA w hJ x1 st _ h) mw_14 mw_15 mw_16 mw_17 mw_18 (by decide +kernel) ⟨Nat.le_of_ble_eq_true rfl, Nat.le_of_ble_eq_true rfl⟩ rfl rfl rfl rfl rfl hl.1 rfl (lv_room (Nat.le_of_ble_eq_true rfl)) dc_B_lose_2 ⟨Nat.zero_le _, Nat.zero_le _⟩ (fun r102 st101 H locs hP hS h => ?_)
  refine lv_if_eq (tgt := 17) hx hb dc_B_lose_5 (by decide) (fun c => ?_) (fun c => ?_)
  · have h := h.1 c
    refine lv_iconst (v := 0) hx hb dc_B_lose_17 (by decide) ?_
    exact w_zret hx hb hr rfl hlocks hP hS h dc_B_lose_18
  · have h := h.2 c
    refine lv_aload_n hx hb dc_B_lose_8 rfl (lv_at hl 0 rfl) ?_
    refine va_get (D := D) (ci := 1) (v := .ref (ad 0)) (C := Rn_B) (T := Fn_B) (N := 8) hx hb hts in_B hown hK hP 19 rfl rfl 1 (by decide) (hts _ mw_64) (fun _ h9 => h9) rfl dc_B_lose_9 ?_
    refine lv_iload_n hx hb dc_B_lose_12 rfl (lv_at hl 1 rfl) ?_
    refine w_ild 0 (by decide) hx hb hK hP h.1 dc_B_lose_13 ?_
    have h := h.2
    refine lv_if_gt (tgt := 19) hx hb dc_B_lose_14 (by decide) (fun c => ?_) (fun c => ?_)
    · have h := h.1 c
      refine lv_aload_n hx hb dc_B_lose_19 rfl (lv_at hl 0 rfl) ?_
      refine va_get (D := D) (ci := 1) (v := .ref (ad 0)) (C := Rn_B) (T := Fn_B) (N := 8) hx hb hts in_B hown hK hP 19 rfl rfl 1 (by decide) (hts _ mw_64) (fun _ h9 => h9) rfl dc_B_lose_20 ?_
      refine lv_iload_n hx hb dc_B_lose_23 rfl (lv_at hl 1 rfl) ?_
      refine lv_dup2_11 hx hb dc_B_lose_24 rfl rfl ?_
      refine w_ild 0 (by decide) hx hb hK hP h.1 dc_B_lose_25 ?_
      have h := h.2
      refine lv_iconst (v := 1) hx hb dc_B_lose_26 (by decide) ?_
      refine lv_isub hx hb dc_B_lose_27 ?_
      refine w_ist 0 (by decide) hJ hx hb hK hP hS h.1 dc_B_lose_28 (fun H locs hP hS => ?_)
      obtain ⟨st103, est103⟩ : ∃ z : St_, z = ws_1 st101 0 (x1).toNatClampNeg ((st101 0 (x1).toNatClampNeg) - 1) := ⟨_, rfl⟩
      rw [← est103] at hP
      have h := h.2 st103 est103
      refine lv_aload_n hx hb dc_B_lose_29 rfl (lv_at hl 0 rfl) ?_
      refine va_get (D := D) (ci := 1) (v := .ref (ad 0)) (C := Rn_B) (T := Fn_B) (N := 8) hx hb hts in_B hown hK hP 19 rfl rfl 1 (by decide) (hts _ mw_64) (fun _ h9 => h9) rfl dc_B_lose_30 ?_
      refine lv_iload_n hx hb dc_B_lose_33 rfl (lv_at hl 1 rfl) ?_
      refine w_ild 0 (by decide) hx hb hK hP h.1 dc_B_lose_34 ?_
      have h := h.2
      refine lv_if_ne (tgt := 42) hx hb dc_B_lose_35 (by decide) (fun c => ?_) (fun c => ?_)
      · have h := h.1 c
        refine lv_iconst (v := 0) hx hb dc_B_lose_42 (by decide) ?_
        exact w_zret hx hb hr rfl hlocks hP hS h dc_B_lose_43
      · have h := h.2 c
        refine lv_iconst (v := 1) hx hb dc_B_lose_38 (by decide) ?_
        refine lv_goto (tgt := 43) hx hb dc_B_lose_39 (by decide) ?_
        exact w_zret hx hb hr rfl hlocks hP hS h dc_B_lose_43
    · have h := h.2 c
      refine lv_iconst (v := 0) hx hb dc_B_lose_17 (by decide) ?_
      exact w_zret hx hb hr rfl hlocks hP hS h dc_B_lose_18
set_option maxHeartbeats 4000000 in
set_option maxRecDepth 100000 in
theorem ct_B_share (l : Launch) (D : va_G) (ad : Nat → Nat) (cA : Nat → ClassId) (w : Nat) (hJ : Jn_ ad) (x1 : Int32) (st : St_) (post : St_ → Prop) (h : wp_B_share w x1 st post) : Met l yn_B_share (Cond.code yn_B_share bc_B_share 2 none :: Wk_) rm_B_share (Pw_ D ad cA w st [.ref (ad 19), .int x1]) (Qv_ D ad cA w post) 0 0 (Aw_ ad) := by
  refine Met.ofW (cc := bc_B_share) (maxL := 2) (ret := none) (by decide) rfl ?_
  intro p e s m args below meth c s₁ B hml hv
  obtain ⟨rfl, hP, hK, hN⟩ := hv
  have hx := B.exec
  have hb := B.bytes
  have hr := B.returns
  have hts : ∀ v ∈ Wk_, v.before [.ref (ad 19), .int x1].toArray s = true := fun v hv => atoms_spec (ws := Cond.code yn_B_share bc_B_share 2 none :: Wk_) B.pre v (List.mem_cons_of_mem _ hv)
  have hown : s.vm.findClass Rn_B = some m.cls := findClass_of_methodNamed B.named
  have hlocks := B.notSynchronized
  have hS : va_S (Aw_ ad) s.heap s.heap [] := va_S.rf
  have hl := lv_entry ([.ref (ad 19), .int x1]) (n := 2) (Nat.le_of_ble_eq_true rfl)
  rw [lg_entry_eq]
  generalize (lg_sl ([.ref (ad 19), .int x1]) ++ List.replicate (2 - (lg_sl ([.ref (ad 19), .int x1])).length) Slot.unset).toArray = ls at hl ⊢
  have hl : lv_has ls 2 [(0, .ref (ad 19)), (1, .int x1)] := hl
  refine lv_aload_n hx hb dc_B_share_0 rfl (lv_at hl 0 rfl) ?_
  refine lv_iload_n hx hb dc_B_share_1 rfl (lv_at hl 1 rfl) ?_
  refine w_cVi (y := yn_B_isBlock) (C := Rn_B) (index := 37) (n := 1) (own := Rn_B) 19 hx hb hml hown hts hK hN hP hS (ct_B_isBlock l D ad cA w hJ x1 st _ h) mw_14 mw_15 mw_16 mw_17 mw_18 (by decide +kernel) ⟨Nat.le_of_ble_eq_true rfl, Nat.le_of_ble_eq_true rfl⟩ rfl rfl rfl rfl rfl hl.1 rfl (lv_room (Nat.le_of_ble_eq_true rfl)) dc_B_share_2 ⟨Nat.zero_le _, Nat.zero_le _⟩ (fun r102 st101 H locs hP hS h => ?_)
  refine lv_if_eq (tgt := 18) hx hb dc_B_share_5 (by decide) (fun c => ?_) (fun c => ?_)
  · have h := h.1 c
    exact w_vret hx hb hr hlocks hP hS h dc_B_share_18
  · have h := h.2 c
    refine lv_aload_n hx hb dc_B_share_8 rfl (lv_at hl 0 rfl) ?_
    refine va_get (D := D) (ci := 1) (v := .ref (ad 0)) (C := Rn_B) (T := Fn_B) (N := 8) hx hb hts in_B hown hK hP 19 rfl rfl 1 (by decide) (hts _ mw_64) (fun _ h9 => h9) rfl dc_B_share_9 ?_
    refine lv_iload_n hx hb dc_B_share_12 rfl (lv_at hl 1 rfl) ?_
    refine lv_dup2_11 hx hb dc_B_share_13 rfl rfl ?_
    refine w_ild 0 (by decide) hx hb hK hP h.1 dc_B_share_14 ?_
    have h := h.2
    refine lv_iconst (v := 1) hx hb dc_B_share_15 (by decide) ?_
    refine lv_iadd hx hb dc_B_share_16 ?_
    refine w_ist 0 (by decide) hJ hx hb hK hP hS h.1 dc_B_share_17 (fun H locs hP hS => ?_)
    obtain ⟨st103, est103⟩ : ∃ z : St_, z = ws_1 st101 0 (x1).toNatClampNeg ((st101 0 (x1).toNatClampNeg) + 1) := ⟨_, rfl⟩
    rw [← est103] at hP
    have h := h.2 st103 est103
    exact w_vret hx hb hr hlocks hP hS h dc_B_share_18
set_option maxHeartbeats 4000000 in
set_option maxRecDepth 100000 in
theorem ct_B_owned (l : Launch) (D : va_G) (ad : Nat → Nat) (cA : Nat → ClassId) (w : Nat) (hJ : Jn_ ad) (x1 : Int32) (st : St_) (post : Int32 → St_ → Prop) (h : wp_B_owned w x1 st post) : Met l yn_B_owned (Cond.code yn_B_owned bc_B_owned 4 (some .int) :: Wk_) rm_B_owned (Pw_ D ad cA w st [.ref (ad 19), .int x1]) (Qi_ D ad cA w post) 0 0 (Aw_ ad) := by
  refine Met.ofW (cc := bc_B_owned) (maxL := 4) (ret := (some .int)) (by decide) rfl ?_
  intro p e s m args below meth c s₁ B hml hv
  obtain ⟨rfl, hP, hK, hN⟩ := hv
  have hx := B.exec
  have hb := B.bytes
  have hr := B.returns
  have hts : ∀ v ∈ Wk_, v.before [.ref (ad 19), .int x1].toArray s = true := fun v hv => atoms_spec (ws := Cond.code yn_B_owned bc_B_owned 4 (some .int) :: Wk_) B.pre v (List.mem_cons_of_mem _ hv)
  have hown : s.vm.findClass Rn_B = some m.cls := findClass_of_methodNamed B.named
  have hlocks := B.notSynchronized
  have hS : va_S (Aw_ ad) s.heap s.heap [] := va_S.rf
  have Lp_37 : ∀ (n : Nat) (y1 y2 y3 : Int32) (st : St_), wp_B_owned_37 w post n y1 y2 y3 st → ∀ (H : Heap) (locs : List Loc), va_P D sC_ (wd_ ad cA w st) H → va_S (Aw_ ad) s.heap H locs → ∀ ls : Array Slot, lv_has ls 4 [(0, .ref (ad 19)), (1, .int y1), (2, .int y2), (3, .int y3)] → W p l e (headSpec (Cond.code yn_B_owned bc_B_owned 4 (some .int) :: Wk_) rm_B_owned).room s m [.ref (ad 19), .int x1].toArray below meth c H locs 0 0 (MQ below (Qi_ D ad cA w post) [.ref (ad 19), .int x1].toArray s 0 0 (Aw_ ad)) (F0 m 37 ls []) := by
    intro n
    induction n with
    | zero => intro y1 y2 y3 st h; exact h.elim
    | succ n ih =>
      intro y1 y2 y3 st h H locs hP hS ls hl
      refine lv_iload_n hx hb dc_B_owned_37 rfl (lv_at hl 3 rfl) ?_
      refine lv_aload_n hx hb dc_B_owned_38 rfl (lv_at hl 0 rfl) ?_
      refine lv_iload_n hx hb dc_B_owned_39 rfl (lv_at hl 1 rfl) ?_
      refine w_cVi (y := yn_B_size) (C := Rn_B) (index := 45) (n := 1) (own := Rn_B) 19 hx hb hml hown hts hK hN hP hS (ct_B_size l D ad cA w hJ y1 st _ h) mw_26 mw_27 mw_28 mw_29 mw_18 (by decide +kernel) ⟨Nat.le_of_ble_eq_true rfl, Nat.le_of_ble_eq_true rfl⟩ rfl rfl rfl rfl rfl hl.1 rfl (lv_room (Nat.le_of_ble_eq_true rfl)) dc_B_owned_40 ⟨Nat.zero_le _, Nat.zero_le _⟩ (fun r113 st112 H locs hP hS h => ?_)
      refine lv_icmp_ge (tgt := 62) hx hb dc_B_owned_43 (by decide) (fun c => ?_) (fun c => ?_)
      · have h := h.1 c
        refine lv_aload_n hx hb dc_B_owned_62 rfl (lv_at hl 0 rfl) ?_
        refine lv_iload_n hx hb dc_B_owned_63 rfl (lv_at hl 1 rfl) ?_
        refine w_cVi (y := yn_B_lose) (C := Rn_B) (index := 74) (n := 1) (own := Rn_B) 19 hx hb hml hown hts hK hN hP hS (ct_B_lose l D ad cA w hJ y1 st112 _ h) mw_84 mw_85 mw_86 mw_87 mw_18 (by decide +kernel) ⟨Nat.le_of_ble_eq_true rfl, Nat.le_of_ble_eq_true rfl⟩ rfl rfl rfl rfl rfl hl.1 rfl (lv_room (Nat.le_of_ble_eq_true rfl)) dc_B_owned_64 ⟨Nat.zero_le _, Nat.zero_le _⟩ (fun r115 st114 H locs hP hS h => ?_)
        refine lv_pop hx hb dc_B_owned_67 rfl ?_
        refine lv_iload_n hx hb dc_B_owned_68 rfl (lv_at hl 2 rfl) ?_
        exact w_iret hx hb hr hlocks hP hS h dc_B_owned_69
      · have h := h.2 c
        refine lv_aload_n hx hb dc_B_owned_46 rfl (lv_at hl 0 rfl) ?_
        refine lv_aload_n hx hb dc_B_owned_47 rfl (lv_at hl 0 rfl) ?_
        refine lv_iload_n hx hb dc_B_owned_48 rfl (lv_at hl 1 rfl) ?_
        refine lv_iload_n hx hb dc_B_owned_49 rfl (lv_at hl 3 rfl) ?_
        refine w_cVi (y := yn_B_goal) (C := Rn_B) (index := 67) (n := 2) (own := Rn_B) 19 hx hb hml hown hts hK hN hP hS (ct_B_goal l D ad cA w hJ y1 y3 st112 _ h) mw_48 mw_88 mw_50 mw_51 mw_18 (by decide +kernel) ⟨Nat.le_of_ble_eq_true rfl, Nat.le_of_ble_eq_true rfl⟩ rfl rfl rfl rfl rfl hl.1 rfl (lv_room (Nat.le_of_ble_eq_true rfl)) dc_B_owned_50 ⟨Nat.zero_le _, Nat.zero_le _⟩ (fun r117 st116 H locs hP hS h => ?_)
        refine w_cVv (y := yn_B_share) (C := Rn_B) (index := 70) (n := 1) (own := Rn_B) 19 hx hb hml hown hts hK hN hP hS (ct_B_share l D ad cA w hJ r117 st116 _ h) mw_89 mw_90 mw_91 mw_92 mw_18 (by decide +kernel) ⟨Nat.le_of_ble_eq_true rfl, Nat.le_of_ble_eq_true rfl⟩ rfl rfl rfl rfl rfl hl.1 rfl (lv_room (Nat.le_of_ble_eq_true rfl)) dc_B_owned_53 ⟨Nat.zero_le _, Nat.zero_le _⟩ (fun st118 H locs hP hS h => ?_)
        obtain ⟨x119, ex119⟩ : ∃ y : Int32, y = y3 + 1 := ⟨_, rfl⟩
        have h := h x119 ex119
        refine lv_iinc (v := x119) (lv' := [(3, .int x119), (0, .ref (ad 19)), (1, .int y1), (2, .int y2)]) hx hb dc_B_owned_56 hl (k := 3) rfl (by rw [ex119]; rfl) (by decide) rfl (fun ls hl => ?_)
        refine lv_goto (tgt := 37) hx hb dc_B_owned_59 (by decide) ?_
        exact ih y1 y2 x119 st118 h _ _ hP hS ls (lv_sub hl [1, 2, 3, 0] rfl)
  have hl := lv_entry ([.ref (ad 19), .int x1]) (n := 4) (Nat.le_of_ble_eq_true rfl)
  rw [lg_entry_eq]
  generalize (lg_sl ([.ref (ad 19), .int x1]) ++ List.replicate (4 - (lg_sl ([.ref (ad 19), .int x1])).length) Slot.unset).toArray = ls at hl ⊢
  have hl : lv_has ls 4 [(0, .ref (ad 19)), (1, .int x1)] := hl
  refine lv_aload_n hx hb dc_B_owned_0 rfl (lv_at hl 0 rfl) ?_
  refine lv_iload_n hx hb dc_B_owned_1 rfl (lv_at hl 1 rfl) ?_
  refine w_cVi (y := yn_B_ways) (C := Rn_B) (index := 55) (n := 1) (own := Rn_B) 19 hx hb hml hown hts hK hN hP hS (ct_B_ways l D ad cA w hJ x1 st _ h) mw_65 mw_66 mw_67 mw_68 mw_18 (by decide +kernel) ⟨Nat.le_of_ble_eq_true rfl, Nat.le_of_ble_eq_true rfl⟩ rfl rfl rfl rfl rfl hl.1 rfl (lv_room (Nat.le_of_ble_eq_true rfl)) dc_B_owned_2 ⟨Nat.zero_le _, Nat.zero_le _⟩ (fun r102 st101 H locs hP hS h => ?_)
  refine lv_iconst (v := 1) hx hb dc_B_owned_5 (by decide) ?_
  refine lv_icmp_gt (tgt := 11) hx hb dc_B_owned_6 (by decide) (fun c => ?_) (fun c => ?_)
  · have h := h.1 c
    refine lv_aload_n hx hb dc_B_owned_11 rfl (lv_at hl 0 rfl) ?_
    refine lv_aload_n hx hb dc_B_owned_12 rfl (lv_at hl 0 rfl) ?_
    refine lv_iload_n hx hb dc_B_owned_13 rfl (lv_at hl 1 rfl) ?_
    refine w_cVi (y := yn_B_level) (C := Rn_B) (index := 57) (n := 1) (own := Rn_B) 19 hx hb hml hown hts hK hN hP hS (ct_B_level l D ad cA w hJ x1 st101 _ h) mw_20 mw_69 mw_22 mw_23 mw_18 (by decide +kernel) ⟨Nat.le_of_ble_eq_true rfl, Nat.le_of_ble_eq_true rfl⟩ rfl rfl rfl rfl rfl hl.1 rfl (lv_room (Nat.le_of_ble_eq_true rfl)) dc_B_owned_14 ⟨Nat.zero_le _, Nat.zero_le _⟩ (fun r104 st103 H locs hP hS h => ?_)
    refine w_cVi (y := yn_B_take) (C := Rn_B) (index := 60) (n := 1) (own := Rn_B) 19 hx hb hml hown hts hK hN hP hS (ct_B_take l D ad cA w hJ r104 st103 _ h) mw_72 mw_73 mw_74 mw_75 mw_18 (by decide +kernel) ⟨Nat.le_of_ble_eq_true rfl, Nat.le_of_ble_eq_true rfl⟩ rfl rfl rfl rfl rfl hl.1 rfl (lv_room (Nat.le_of_ble_eq_true rfl)) dc_B_owned_17 ⟨Nat.zero_le _, Nat.zero_le _⟩ (fun r106 st105 H locs hP hS h => ?_)
    refine lv_istore_n (lv' := [(2, .int r106), (0, .ref (ad 19)), (1, .int x1)]) hx hb dc_B_owned_20 rfl hl (by decide) rfl (fun ls hl => ?_)
    refine lv_aload_n hx hb dc_B_owned_21 rfl (lv_at hl 1 rfl) ?_
    refine lv_iload_n hx hb dc_B_owned_22 rfl (lv_at hl 2 rfl) ?_
    refine lv_iload_n hx hb dc_B_owned_23 rfl (lv_at hl 0 rfl) ?_
    refine w_cVv (y := yn_B_copyEntries) (C := Rn_B) (index := 63) (n := 2) (own := Rn_B) 19 hx hb hml hown hts hK hN hP hS (ct_B_copyEntries l D ad cA w hJ x1 r106 st105 _ h) mw_80 mw_81 mw_82 mw_83 mw_18 (by decide +kernel) ⟨Nat.le_of_ble_eq_true rfl, Nat.le_of_ble_eq_true rfl⟩ rfl rfl rfl rfl rfl hl.1 rfl (lv_room (Nat.le_of_ble_eq_true rfl)) dc_B_owned_24 ⟨Nat.zero_le _, Nat.zero_le _⟩ (fun st107 H locs hP hS h => ?_)
    refine lv_aload_n hx hb dc_B_owned_27 rfl (lv_at hl 1 rfl) ?_
    refine lv_iload_n hx hb dc_B_owned_28 rfl (lv_at hl 2 rfl) ?_
    refine w_cVi (y := yn_B_level) (C := Rn_B) (index := 57) (n := 1) (own := Rn_B) 19 hx hb hml hown hts hK hN hP hS (ct_B_level l D ad cA w hJ x1 st107 _ h) mw_20 mw_69 mw_22 mw_23 mw_18 (by decide +kernel) ⟨Nat.le_of_ble_eq_true rfl, Nat.le_of_ble_eq_true rfl⟩ rfl rfl rfl rfl rfl hl.1 rfl (lv_room (Nat.le_of_ble_eq_true rfl)) dc_B_owned_29 ⟨Nat.zero_le _, Nat.zero_le _⟩ (fun r109 st108 H locs hP hS h => ?_)
    refine lv_if_le (tgt := 62) hx hb dc_B_owned_32 (by decide) (fun c => ?_) (fun c => ?_)
    · have h := h.1 c
      refine lv_aload_n hx hb dc_B_owned_62 rfl (lv_at hl 1 rfl) ?_
      refine lv_iload_n hx hb dc_B_owned_63 rfl (lv_at hl 2 rfl) ?_
      refine w_cVi (y := yn_B_lose) (C := Rn_B) (index := 74) (n := 1) (own := Rn_B) 19 hx hb hml hown hts hK hN hP hS (ct_B_lose l D ad cA w hJ x1 st108 _ h) mw_84 mw_85 mw_86 mw_87 mw_18 (by decide +kernel) ⟨Nat.le_of_ble_eq_true rfl, Nat.le_of_ble_eq_true rfl⟩ rfl rfl rfl rfl rfl hl.1 rfl (lv_room (Nat.le_of_ble_eq_true rfl)) dc_B_owned_64 ⟨Nat.zero_le _, Nat.zero_le _⟩ (fun r111 st110 H locs hP hS h => ?_)
      refine lv_pop hx hb dc_B_owned_67 rfl ?_
      refine lv_iload_n hx hb dc_B_owned_68 rfl (lv_at hl 0 rfl) ?_
      exact w_iret hx hb hr hlocks hP hS h dc_B_owned_69
    · have h := h.2 c
      refine lv_iconst (v := 0) hx hb dc_B_owned_35 (by decide) ?_
      refine lv_istore_n (lv' := [(3, .int 0), (2, .int r106), (0, .ref (ad 19)), (1, .int x1)]) hx hb dc_B_owned_36 rfl hl (by decide) rfl (fun ls hl => ?_)
      obtain ⟨n, h⟩ := h
      exact Lp_37 n x1 r106 0 st108 h _ _ hP hS ls (lv_sub hl [2, 3, 1, 0] rfl)
  · have h := h.2 c
    refine lv_iload_n hx hb dc_B_owned_9 rfl (lv_at hl 1 rfl) ?_
    exact w_iret hx hb hr hlocks hP hS h dc_B_owned_10
set_option maxHeartbeats 4000000 in
set_option maxRecDepth 100000 in
theorem ct_B_setGoal (l : Launch) (D : va_G) (ad : Nat → Nat) (cA : Nat → ClassId) (w : Nat) (hJ : Jn_ ad) (x1 : Int32) (x2 : Int32) (x3 : Int32) (st : St_) (post : St_ → Prop) (h : wp_B_setGoal w x1 x2 x3 st post) : Met l yn_B_setGoal (Cond.code yn_B_setGoal bc_B_setGoal 4 none :: Wk_) rm_B_setGoal (Pw_ D ad cA w st [.ref (ad 19), .int x1, .int x2, .int x3]) (Qv_ D ad cA w post) 0 0 (Aw_ ad) := by
  refine Met.ofW (cc := bc_B_setGoal) (maxL := 4) (ret := none) (by decide) rfl ?_
  intro p e s m args below meth c s₁ B hml hv
  obtain ⟨rfl, hP, hK, hN⟩ := hv
  have hx := B.exec
  have hb := B.bytes
  have hr := B.returns
  have hts : ∀ v ∈ Wk_, v.before [.ref (ad 19), .int x1, .int x2, .int x3].toArray s = true := fun v hv => atoms_spec (ws := Cond.code yn_B_setGoal bc_B_setGoal 4 none :: Wk_) B.pre v (List.mem_cons_of_mem _ hv)
  have hown : s.vm.findClass Rn_B = some m.cls := findClass_of_methodNamed B.named
  have hlocks := B.notSynchronized
  have hS : va_S (Aw_ ad) s.heap s.heap [] := va_S.rf
  have hl := lv_entry ([.ref (ad 19), .int x1, .int x2, .int x3]) (n := 4) (Nat.le_of_ble_eq_true rfl)
  rw [lg_entry_eq]
  generalize (lg_sl ([.ref (ad 19), .int x1, .int x2, .int x3]) ++ List.replicate (4 - (lg_sl ([.ref (ad 19), .int x1, .int x2, .int x3])).length) Slot.unset).toArray = ls at hl ⊢
  have hl : lv_has ls 4 [(0, .ref (ad 19)), (1, .int x1), (2, .int x2), (3, .int x3)] := hl
  refine lv_aload_n hx hb dc_B_setGoal_0 rfl (lv_at hl 0 rfl) ?_
  refine lv_iload_n hx hb dc_B_setGoal_1 rfl (lv_at hl 1 rfl) ?_
  refine lv_iload_n hx hb dc_B_setGoal_2 rfl (lv_at hl 2 rfl) ?_
  refine w_cVi (y := yn_B_isEntry) (C := Rn_B) (index := 41) (n := 2) (own := Rn_B) 19 hx hb hml hown hts hK hN hP hS (ct_B_isEntry l D ad cA w hJ x1 x2 st _ h) mw_39 mw_40 mw_41 mw_42 mw_18 (by decide +kernel) ⟨Nat.le_of_ble_eq_true rfl, Nat.le_of_ble_eq_true rfl⟩ rfl rfl rfl rfl rfl hl.1 rfl (lv_room (Nat.le_of_ble_eq_true rfl)) dc_B_setGoal_3 ⟨Nat.zero_le _, Nat.zero_le _⟩ (fun r102 st101 H locs hP hS h => ?_)
  refine lv_if_eq (tgt := 23) hx hb dc_B_setGoal_6 (by decide) (fun c => ?_) (fun c => ?_)
  · have h := h.1 c
    exact w_vret hx hb hr hlocks hP hS h dc_B_setGoal_23
  · have h := h.2 c
    refine lv_aload_n hx hb dc_B_setGoal_9 rfl (lv_at hl 0 rfl) ?_
    refine va_get (D := D) (ci := 1) (v := .ref (ad 4)) (C := Rn_B) (T := Fn_B) (N := 8) hx hb hts in_B hown hK hP 19 rfl rfl 5 (by decide) (hts _ mw_47) (fun _ h9 => h9) rfl dc_B_setGoal_10 ?_
    refine lv_iload_n hx hb dc_B_setGoal_13 rfl (lv_at hl 1 rfl) ?_
    refine lv_aload_n hx hb dc_B_setGoal_14 rfl (lv_at hl 0 rfl) ?_
    refine va_get (D := D) (ci := 1) (v := .int (nI w)) (C := Rn_B) (T := Fn_B) (N := 8) hx hb hts in_B hown hK hP 19 rfl rfl 0 (by decide) (hts _ mw_24) (fun _ h9 => h9) rfl dc_B_setGoal_15 ?_
    refine lv_imul hx hb dc_B_setGoal_18 ?_
    refine lv_iload_n hx hb dc_B_setGoal_19 rfl (lv_at hl 2 rfl) ?_
    refine lv_iadd hx hb dc_B_setGoal_20 ?_
    refine lv_iload_n hx hb dc_B_setGoal_21 rfl (lv_at hl 3 rfl) ?_
    refine w_ist 4 (by decide) hJ hx hb hK hP hS h.1 dc_B_setGoal_22 (fun H locs hP hS => ?_)
    obtain ⟨st103, est103⟩ : ∃ z : St_, z = ws_1 st101 4 (((x1 * (nI w)) + x2)).toNatClampNeg x3 := ⟨_, rfl⟩
    rw [← est103] at hP
    have h := h.2 st103 est103
    exact w_vret hx hb hr hlocks hP hS h dc_B_setGoal_23
set_option maxHeartbeats 4000000 in
set_option maxRecDepth 100000 in
theorem ct_T_ownedChild (l : Launch) (D : va_G) (ad : Nat → Nat) (cA : Nat → ClassId) (w : Nat) (hJ : Jn_ ad) (x1 : Int32) (x2 : Int32) (st : St_) (post : Int32 → St_ → Prop) (h : wp_T_ownedChild w x1 x2 st post) : Met l yn_T_ownedChild (Cond.code yn_T_ownedChild bc_T_ownedChild 4 (some .int) :: Wk_) rm_T_ownedChild (Pw_ D ad cA w st [.ref (ad 20), .int x1, .int x2]) (Qi_ D ad cA w post) 0 0 (Aw_ ad) := by
  refine Met.ofW (cc := bc_T_ownedChild) (maxL := 4) (ret := (some .int)) (by decide) rfl ?_
  intro p e s m args below meth c s₁ B hml hv
  obtain ⟨rfl, hP, hK, hN⟩ := hv
  have hx := B.exec
  have hb := B.bytes
  have hr := B.returns
  have hts : ∀ v ∈ Wk_, v.before [.ref (ad 20), .int x1, .int x2].toArray s = true := fun v hv => atoms_spec (ws := Cond.code yn_T_ownedChild bc_T_ownedChild 4 (some .int) :: Wk_) B.pre v (List.mem_cons_of_mem _ hv)
  have hown : s.vm.findClass Rn_T = some m.cls := findClass_of_methodNamed B.named
  have hlocks := B.notSynchronized
  have hS : va_S (Aw_ ad) s.heap s.heap [] := va_S.rf
  have hl := lv_entry ([.ref (ad 20), .int x1, .int x2]) (n := 4) (Nat.le_of_ble_eq_true rfl)
  rw [lg_entry_eq]
  generalize (lg_sl ([.ref (ad 20), .int x1, .int x2]) ++ List.replicate (4 - (lg_sl ([.ref (ad 20), .int x1, .int x2])).length) Slot.unset).toArray = ls at hl ⊢
  have hl : lv_has ls 4 [(0, .ref (ad 20)), (1, .int x1), (2, .int x2)] := hl
  refine lv_aload_n hx hb dc_T_ownedChild_0 rfl (lv_at hl 0 rfl) ?_
  refine va_get (D := D) (ci := 2) (v := .ref (ad 19)) (C := Rn_T) (T := Fn_T) (N := 3) hx hb hts in_T hown hK hP 20 rfl rfl 0 (by decide) (hts _ mw_13) (fun _ h9 => h9) rfl dc_T_ownedChild_1 ?_
  refine lv_aload_n hx hb dc_T_ownedChild_4 rfl (lv_at hl 0 rfl) ?_
  refine va_get (D := D) (ci := 2) (v := .ref (ad 19)) (C := Rn_T) (T := Fn_T) (N := 3) hx hb hts in_T hown hK hP 20 rfl rfl 0 (by decide) (hts _ mw_13) (fun _ h9 => h9) rfl dc_T_ownedChild_5 ?_
  refine lv_iload_n hx hb dc_T_ownedChild_8 rfl (lv_at hl 1 rfl) ?_
  refine lv_iload_n hx hb dc_T_ownedChild_9 rfl (lv_at hl 2 rfl) ?_
  refine w_cVi (y := yn_B_goal) (C := Rn_B) (index := 35) (n := 2) (own := Rn_T) 19 hx hb hml hown hts hK hN hP hS (ct_B_goal l D ad cA w hJ x1 x2 st _ h) mw_48 mw_49 mw_50 mw_51 mw_18 (by decide +kernel) ⟨Nat.le_of_ble_eq_true rfl, Nat.le_of_ble_eq_true rfl⟩ rfl rfl rfl rfl rfl hl.1 rfl (lv_room (Nat.le_of_ble_eq_true rfl)) dc_T_ownedChild_10 ⟨Nat.zero_le _, Nat.zero_le _⟩ (fun r102 st101 H locs hP hS h => ?_)
  refine w_cVi (y := yn_B_owned) (C := Rn_B) (index := 59) (n := 1) (own := Rn_T) 19 hx hb hml hown hts hK hN hP hS (ct_B_owned l D ad cA w hJ r102 st101 _ h) mw_93 mw_94 mw_95 mw_96 mw_18 (by decide +kernel) ⟨Nat.le_of_ble_eq_true rfl, Nat.le_of_ble_eq_true rfl⟩ rfl rfl rfl rfl rfl hl.1 rfl (lv_room (Nat.le_of_ble_eq_true rfl)) dc_T_ownedChild_13 ⟨Nat.zero_le _, Nat.zero_le _⟩ (fun r104 st103 H locs hP hS h => ?_)
  refine lv_istore_n (lv' := [(3, .int r104), (0, .ref (ad 20)), (1, .int x1), (2, .int x2)]) hx hb dc_T_ownedChild_16 rfl hl (by decide) rfl (fun ls hl => ?_)
  refine lv_aload_n hx hb dc_T_ownedChild_17 rfl (lv_at hl 1 rfl) ?_
  refine va_get (D := D) (ci := 2) (v := .ref (ad 19)) (C := Rn_T) (T := Fn_T) (N := 3) hx hb hts in_T hown hK hP 20 rfl rfl 0 (by decide) (hts _ mw_13) (fun _ h9 => h9) rfl dc_T_ownedChild_18 ?_
  refine lv_iload_n hx hb dc_T_ownedChild_21 rfl (lv_at hl 2 rfl) ?_
  refine lv_iload_n hx hb dc_T_ownedChild_22 rfl (lv_at hl 3 rfl) ?_
  refine lv_iload_n hx hb dc_T_ownedChild_23 rfl (lv_at hl 0 rfl) ?_
  refine w_cVv (y := yn_B_setGoal) (C := Rn_B) (index := 83) (n := 3) (own := Rn_T) 19 hx hb hml hown hts hK hN hP hS (ct_B_setGoal l D ad cA w hJ x1 x2 r104 st103 _ h) mw_97 mw_98 mw_99 mw_100 mw_18 (by decide +kernel) ⟨Nat.le_of_ble_eq_true rfl, Nat.le_of_ble_eq_true rfl⟩ rfl rfl rfl rfl rfl hl.1 rfl (lv_room (Nat.le_of_ble_eq_true rfl)) dc_T_ownedChild_24 ⟨Nat.zero_le _, Nat.zero_le _⟩ (fun st105 H locs hP hS h => ?_)
  refine lv_iload_n hx hb dc_T_ownedChild_27 rfl (lv_at hl 0 rfl) ?_
  exact w_iret hx hb hr hlocks hP hS h dc_T_ownedChild_28
set_option maxHeartbeats 4000000 in
set_option maxRecDepth 100000 in
theorem ct_B_setKey (l : Launch) (D : va_G) (ad : Nat → Nat) (cA : Nat → ClassId) (w : Nat) (hJ : Jn_ ad) (x1 : Int32) (x2 : Int32) (x3 : Int32) (st : St_) (post : St_ → Prop) (h : wp_B_setKey w x1 x2 x3 st post) : Met l yn_B_setKey (Cond.code yn_B_setKey bc_B_setKey 4 none :: Wk_) rm_B_setKey (Pw_ D ad cA w st [.ref (ad 19), .int x1, .int x2, .int x3]) (Qv_ D ad cA w post) 0 0 (Aw_ ad) := by
  refine Met.ofW (cc := bc_B_setKey) (maxL := 4) (ret := none) (by decide) rfl ?_
  intro p e s m args below meth c s₁ B hml hv
  obtain ⟨rfl, hP, hK, hN⟩ := hv
  have hx := B.exec
  have hb := B.bytes
  have hr := B.returns
  have hts : ∀ v ∈ Wk_, v.before [.ref (ad 19), .int x1, .int x2, .int x3].toArray s = true := fun v hv => atoms_spec (ws := Cond.code yn_B_setKey bc_B_setKey 4 none :: Wk_) B.pre v (List.mem_cons_of_mem _ hv)
  have hown : s.vm.findClass Rn_B = some m.cls := findClass_of_methodNamed B.named
  have hlocks := B.notSynchronized
  have hS : va_S (Aw_ ad) s.heap s.heap [] := va_S.rf
  have hl := lv_entry ([.ref (ad 19), .int x1, .int x2, .int x3]) (n := 4) (Nat.le_of_ble_eq_true rfl)
  rw [lg_entry_eq]
  generalize (lg_sl ([.ref (ad 19), .int x1, .int x2, .int x3]) ++ List.replicate (4 - (lg_sl ([.ref (ad 19), .int x1, .int x2, .int x3])).length) Slot.unset).toArray = ls at hl ⊢
  have hl : lv_has ls 4 [(0, .ref (ad 19)), (1, .int x1), (2, .int x2), (3, .int x3)] := hl
  refine lv_aload_n hx hb dc_B_setKey_0 rfl (lv_at hl 0 rfl) ?_
  refine lv_iload_n hx hb dc_B_setKey_1 rfl (lv_at hl 1 rfl) ?_
  refine lv_iload_n hx hb dc_B_setKey_2 rfl (lv_at hl 2 rfl) ?_
  refine w_cVi (y := yn_B_isEntry) (C := Rn_B) (index := 41) (n := 2) (own := Rn_B) 19 hx hb hml hown hts hK hN hP hS (ct_B_isEntry l D ad cA w hJ x1 x2 st _ h) mw_39 mw_40 mw_41 mw_42 mw_18 (by decide +kernel) ⟨Nat.le_of_ble_eq_true rfl, Nat.le_of_ble_eq_true rfl⟩ rfl rfl rfl rfl rfl hl.1 rfl (lv_room (Nat.le_of_ble_eq_true rfl)) dc_B_setKey_3 ⟨Nat.zero_le _, Nat.zero_le _⟩ (fun r102 st101 H locs hP hS h => ?_)
  refine lv_if_eq (tgt := 23) hx hb dc_B_setKey_6 (by decide) (fun c => ?_) (fun c => ?_)
  · have h := h.1 c
    exact w_vret hx hb hr hlocks hP hS h dc_B_setKey_23
  · have h := h.2 c
    refine lv_aload_n hx hb dc_B_setKey_9 rfl (lv_at hl 0 rfl) ?_
    refine va_get (D := D) (ci := 1) (v := .ref (ad 3)) (C := Rn_B) (T := Fn_B) (N := 8) hx hb hts in_B hown hK hP 19 rfl rfl 4 (by decide) (hts _ mw_34) (fun _ h9 => h9) rfl dc_B_setKey_10 ?_
    refine lv_iload_n hx hb dc_B_setKey_13 rfl (lv_at hl 1 rfl) ?_
    refine lv_aload_n hx hb dc_B_setKey_14 rfl (lv_at hl 0 rfl) ?_
    refine va_get (D := D) (ci := 1) (v := .int (nI w)) (C := Rn_B) (T := Fn_B) (N := 8) hx hb hts in_B hown hK hP 19 rfl rfl 0 (by decide) (hts _ mw_24) (fun _ h9 => h9) rfl dc_B_setKey_15 ?_
    refine lv_imul hx hb dc_B_setKey_18 ?_
    refine lv_iload_n hx hb dc_B_setKey_19 rfl (lv_at hl 2 rfl) ?_
    refine lv_iadd hx hb dc_B_setKey_20 ?_
    refine lv_iload_n hx hb dc_B_setKey_21 rfl (lv_at hl 3 rfl) ?_
    refine w_ist 3 (by decide) hJ hx hb hK hP hS h.1 dc_B_setKey_22 (fun H locs hP hS => ?_)
    obtain ⟨st103, est103⟩ : ∃ z : St_, z = ws_1 st101 3 (((x1 * (nI w)) + x2)).toNatClampNeg x3 := ⟨_, rfl⟩
    rw [← est103] at hP
    have h := h.2 st103 est103
    exact w_vret hx hb hr hlocks hP hS h dc_B_setKey_23
set_option maxHeartbeats 4000000 in
set_option maxRecDepth 100000 in
theorem ct_B_insert (l : Launch) (D : va_G) (ad : Nat → Nat) (cA : Nat → ClassId) (w : Nat) (hJ : Jn_ ad) (x1 : Int32) (x2 : Int32) (x3 : Int32) (x4 : Int32) (st : St_) (post : St_ → Prop) (h : wp_B_insert w x1 x2 x3 x4 st post) : Met l yn_B_insert (Cond.code yn_B_insert bc_B_insert 7 none :: Wk_) rm_B_insert (Pw_ D ad cA w st [.ref (ad 19), .int x1, .int x2, .int x3, .int x4]) (Qv_ D ad cA w post) 0 0 (Aw_ ad) := by
  refine Met.ofW (cc := bc_B_insert) (maxL := 7) (ret := none) (by decide) rfl ?_
  intro p e s m args below meth c s₁ B hml hv
  obtain ⟨rfl, hP, hK, hN⟩ := hv
  have hx := B.exec
  have hb := B.bytes
  have hr := B.returns
  have hts : ∀ v ∈ Wk_, v.before [.ref (ad 19), .int x1, .int x2, .int x3, .int x4].toArray s = true := fun v hv => atoms_spec (ws := Cond.code yn_B_insert bc_B_insert 7 none :: Wk_) B.pre v (List.mem_cons_of_mem _ hv)
  have hown : s.vm.findClass Rn_B = some m.cls := findClass_of_methodNamed B.named
  have hlocks := B.notSynchronized
  have hS : va_S (Aw_ ad) s.heap s.heap [] := va_S.rf
  have hl := lv_entry ([.ref (ad 19), .int x1, .int x2, .int x3, .int x4]) (n := 7) (Nat.le_of_ble_eq_true rfl)
  rw [lg_entry_eq]
  generalize (lg_sl ([.ref (ad 19), .int x1, .int x2, .int x3, .int x4]) ++ List.replicate (7 - (lg_sl ([.ref (ad 19), .int x1, .int x2, .int x3, .int x4])).length) Slot.unset).toArray = ls at hl ⊢
  have hl : lv_has ls 7 [(0, .ref (ad 19)), (1, .int x1), (2, .int x2), (3, .int x3), (4, .int x4)] := hl
  refine lv_aload_n hx hb dc_B_insert_0 rfl (lv_at hl 0 rfl) ?_
  refine lv_iload_n hx hb dc_B_insert_1 rfl (lv_at hl 1 rfl) ?_
  refine w_cVi (y := yn_B_isBlock) (C := Rn_B) (index := 37) (n := 1) (own := Rn_B) 19 hx hb hml hown hts hK hN hP hS (ct_B_isBlock l D ad cA w hJ x1 st _ h) mw_14 mw_15 mw_16 mw_17 mw_18 (by decide +kernel) ⟨Nat.le_of_ble_eq_true rfl, Nat.le_of_ble_eq_true rfl⟩ rfl rfl rfl rfl rfl hl.1 rfl (lv_room (Nat.le_of_ble_eq_true rfl)) dc_B_insert_2 ⟨Nat.zero_le _, Nat.zero_le _⟩ (fun r102 st101 H locs hP hS h => ?_)
  refine lv_if_eq (tgt := 35) hx hb dc_B_insert_5 (by decide) (fun c => ?_) (fun c => ?_)
  · have h := h.1 c
    exact w_vret hx hb hr hlocks hP hS h dc_B_insert_35
  · have h := h.2 c
    refine lv_iload_n hx hb dc_B_insert_8 rfl (lv_at hl 2 rfl) ?_
    refine lv_if_lt (tgt := 35) hx hb dc_B_insert_9 (by decide) (fun c => ?_) (fun c => ?_)
    · have h := h.1 c
      exact w_vret hx hb hr hlocks hP hS h dc_B_insert_35
    · have h := h.2 c
      refine lv_iload_n hx hb dc_B_insert_12 rfl (lv_at hl 2 rfl) ?_
      refine lv_aload_n hx hb dc_B_insert_13 rfl (lv_at hl 0 rfl) ?_
      refine va_get (D := D) (ci := 1) (v := .ref (ad 2)) (C := Rn_B) (T := Fn_B) (N := 8) hx hb hts in_B hown hK hP 19 rfl rfl 3 (by decide) (hts _ mw_25) (fun _ h9 => h9) rfl dc_B_insert_14 ?_
      refine lv_iload_n hx hb dc_B_insert_17 rfl (lv_at hl 1 rfl) ?_
      refine w_ild 2 (by decide) hx hb hK hP h.1 dc_B_insert_18 ?_
      have h := h.2
      refine lv_icmp_gt (tgt := 35) hx hb dc_B_insert_19 (by decide) (fun c => ?_) (fun c => ?_)
      · have h := h.1 c
        exact w_vret hx hb hr hlocks hP hS h dc_B_insert_35
      · have h := h.2 c
        refine lv_aload_n hx hb dc_B_insert_22 rfl (lv_at hl 0 rfl) ?_
        refine va_get (D := D) (ci := 1) (v := .ref (ad 2)) (C := Rn_B) (T := Fn_B) (N := 8) hx hb hts in_B hown hK hP 19 rfl rfl 3 (by decide) (hts _ mw_25) (fun _ h9 => h9) rfl dc_B_insert_23 ?_
        refine lv_iload_n hx hb dc_B_insert_26 rfl (lv_at hl 1 rfl) ?_
        refine w_ild 2 (by decide) hx hb hK hP h.1 dc_B_insert_27 ?_
        have h := h.2
        refine lv_aload_n hx hb dc_B_insert_28 rfl (lv_at hl 0 rfl) ?_
        refine va_get (D := D) (ci := 1) (v := .int (nI w)) (C := Rn_B) (T := Fn_B) (N := 8) hx hb hts in_B hown hK hP 19 rfl rfl 0 (by decide) (hts _ mw_24) (fun _ h9 => h9) rfl dc_B_insert_29 ?_
        refine lv_icmp_lt (tgt := 36) hx hb dc_B_insert_32 (by decide) (fun c => ?_) (fun c => ?_)
        · have h := h.1 c
          refine lv_aload_n hx hb dc_B_insert_36 rfl (lv_at hl 0 rfl) ?_
          refine va_get (D := D) (ci := 1) (v := .ref (ad 2)) (C := Rn_B) (T := Fn_B) (N := 8) hx hb hts in_B hown hK hP 19 rfl rfl 3 (by decide) (hts _ mw_25) (fun _ h9 => h9) rfl dc_B_insert_37 ?_
          refine lv_iload_n hx hb dc_B_insert_40 rfl (lv_at hl 1 rfl) ?_
          refine w_ild 2 (by decide) hx hb hK hP h.1 dc_B_insert_41 ?_
          have h := h.2
          refine lv_topi (fun x103 ex103 => ?_)
          have h := h x103 ex103
          refine lv_istore (lv' := [(5, .int x103), (0, .ref (ad 19)), (1, .int x1), (2, .int x2), (3, .int x3), (4, .int x4)]) hx hb dc_B_insert_42 hl (by decide) rfl (fun ls hl => ?_)
          refine lv_iload_n hx hb dc_B_insert_44 rfl (lv_at hl 2 rfl) ?_
          refine lv_aload_n hx hb dc_B_insert_45 rfl (lv_at hl 1 rfl) ?_
          refine va_get (D := D) (ci := 1) (v := .int (nI w)) (C := Rn_B) (T := Fn_B) (N := 8) hx hb hts in_B hown hK hP 19 rfl rfl 0 (by decide) (hts _ mw_24) (fun _ h9 => h9) rfl dc_B_insert_46 ?_
          refine lv_imul hx hb dc_B_insert_49 ?_
          refine lv_iload_n hx hb dc_B_insert_50 rfl (lv_at hl 3 rfl) ?_
          refine lv_iadd hx hb dc_B_insert_51 ?_
          refine lv_topi (fun x104 ex104 => ?_)
          have h := h x104 ex104
          refine lv_istore (lv' := [(6, .int x104), (5, .int x103), (0, .ref (ad 19)), (1, .int x1), (2, .int x2), (3, .int x3), (4, .int x4)]) hx hb dc_B_insert_52 hl (by decide) rfl (fun ls hl => ?_)
          refine lv_aload_n hx hb dc_B_insert_54 rfl (lv_at hl 2 rfl) ?_
          refine va_get (D := D) (ci := 1) (v := .ref (ad 3)) (C := Rn_B) (T := Fn_B) (N := 8) hx hb hts in_B hown hK hP 19 rfl rfl 4 (by decide) (hts _ mw_34) (fun _ h9 => h9) rfl dc_B_insert_55 ?_
          refine lv_iload hx hb dc_B_insert_58 (lv_at hl 0 rfl) ?_
          refine lv_aload_n hx hb dc_B_insert_60 rfl (lv_at hl 2 rfl) ?_
          refine va_get (D := D) (ci := 1) (v := .ref (ad 3)) (C := Rn_B) (T := Fn_B) (N := 8) hx hb hts in_B hown hK hP 19 rfl rfl 4 (by decide) (hts _ mw_34) (fun _ h9 => h9) rfl dc_B_insert_61 ?_
          refine lv_iload hx hb dc_B_insert_64 (lv_at hl 0 rfl) ?_
          refine lv_iconst (v := 1) hx hb dc_B_insert_66 (by decide) ?_
          refine lv_iadd hx hb dc_B_insert_67 ?_
          refine lv_iload hx hb dc_B_insert_68 (lv_at hl 1 rfl) ?_
          refine lv_iload_n hx hb dc_B_insert_70 rfl (lv_at hl 4 rfl) ?_
          refine lv_isub hx hb dc_B_insert_71 ?_
          refine w_cpy 3 3 (by decide) (by decide) hJ hx hb (hml.trans hl.1.symm) hown (hts _ mw_76) (hts _ mw_77) (hts _ mw_78) (hts _ mw_79) hK hP hS h.1 (Nat.le_of_ble_eq_true rfl) (Nat.le_of_ble_eq_true rfl) dc_B_insert_72 (fun H locs hP hS => ?_)
          obtain ⟨st105, est105⟩ : ∃ z : St_, z = ws_c st101 3 3 (x104).toNatClampNeg ((x104 + 1)).toNatClampNeg ((x103 - x2)).toNatClampNeg := ⟨_, rfl⟩
          rw [← est105] at hP
          have h := h.2 st105 est105
          refine lv_aload_n hx hb dc_B_insert_75 rfl (lv_at hl 2 rfl) ?_
          refine va_get (D := D) (ci := 1) (v := .ref (ad 4)) (C := Rn_B) (T := Fn_B) (N := 8) hx hb hts in_B hown hK hP 19 rfl rfl 5 (by decide) (hts _ mw_47) (fun _ h9 => h9) rfl dc_B_insert_76 ?_
          refine lv_iload hx hb dc_B_insert_79 (lv_at hl 0 rfl) ?_
          refine lv_aload_n hx hb dc_B_insert_81 rfl (lv_at hl 2 rfl) ?_
          refine va_get (D := D) (ci := 1) (v := .ref (ad 4)) (C := Rn_B) (T := Fn_B) (N := 8) hx hb hts in_B hown hK hP 19 rfl rfl 5 (by decide) (hts _ mw_47) (fun _ h9 => h9) rfl dc_B_insert_82 ?_
          refine lv_iload hx hb dc_B_insert_85 (lv_at hl 0 rfl) ?_
          refine lv_iconst (v := 1) hx hb dc_B_insert_87 (by decide) ?_
          refine lv_iadd hx hb dc_B_insert_88 ?_
          refine lv_iload hx hb dc_B_insert_89 (lv_at hl 1 rfl) ?_
          refine lv_iload_n hx hb dc_B_insert_91 rfl (lv_at hl 4 rfl) ?_
          refine lv_isub hx hb dc_B_insert_92 ?_
          refine w_cpy 4 4 (by decide) (by decide) hJ hx hb (hml.trans hl.1.symm) hown (hts _ mw_76) (hts _ mw_77) (hts _ mw_78) (hts _ mw_79) hK hP hS h.1 (Nat.le_of_ble_eq_true rfl) (Nat.le_of_ble_eq_true rfl) dc_B_insert_93 (fun H locs hP hS => ?_)
          obtain ⟨st106, est106⟩ : ∃ z : St_, z = ws_c st105 4 4 (x104).toNatClampNeg ((x104 + 1)).toNatClampNeg ((x103 - x2)).toNatClampNeg := ⟨_, rfl⟩
          rw [← est106] at hP
          have h := h.2 st106 est106
          refine lv_aload_n hx hb dc_B_insert_96 rfl (lv_at hl 2 rfl) ?_
          refine va_get (D := D) (ci := 1) (v := .ref (ad 3)) (C := Rn_B) (T := Fn_B) (N := 8) hx hb hts in_B hown hK hP 19 rfl rfl 4 (by decide) (hts _ mw_34) (fun _ h9 => h9) rfl dc_B_insert_97 ?_
          refine lv_iload hx hb dc_B_insert_100 (lv_at hl 0 rfl) ?_
          refine lv_iload_n hx hb dc_B_insert_102 rfl (lv_at hl 5 rfl) ?_
          refine w_ist 3 (by decide) hJ hx hb hK hP hS h.1 dc_B_insert_103 (fun H locs hP hS => ?_)
          obtain ⟨st107, est107⟩ : ∃ z : St_, z = ws_1 st106 3 (x104).toNatClampNeg x3 := ⟨_, rfl⟩
          rw [← est107] at hP
          have h := h.2 st107 est107
          refine lv_aload_n hx hb dc_B_insert_104 rfl (lv_at hl 2 rfl) ?_
          refine va_get (D := D) (ci := 1) (v := .ref (ad 4)) (C := Rn_B) (T := Fn_B) (N := 8) hx hb hts in_B hown hK hP 19 rfl rfl 5 (by decide) (hts _ mw_47) (fun _ h9 => h9) rfl dc_B_insert_105 ?_
          refine lv_iload hx hb dc_B_insert_108 (lv_at hl 0 rfl) ?_
          refine lv_iload hx hb dc_B_insert_110 (lv_at hl 6 rfl) ?_
          refine w_ist 4 (by decide) hJ hx hb hK hP hS h.1 dc_B_insert_112 (fun H locs hP hS => ?_)
          obtain ⟨st108, est108⟩ : ∃ z : St_, z = ws_1 st107 4 (x104).toNatClampNeg x4 := ⟨_, rfl⟩
          rw [← est108] at hP
          have h := h.2 st108 est108
          refine lv_aload_n hx hb dc_B_insert_113 rfl (lv_at hl 2 rfl) ?_
          refine va_get (D := D) (ci := 1) (v := .ref (ad 2)) (C := Rn_B) (T := Fn_B) (N := 8) hx hb hts in_B hown hK hP 19 rfl rfl 3 (by decide) (hts _ mw_25) (fun _ h9 => h9) rfl dc_B_insert_114 ?_
          refine lv_iload_n hx hb dc_B_insert_117 rfl (lv_at hl 3 rfl) ?_
          refine lv_iload hx hb dc_B_insert_118 (lv_at hl 1 rfl) ?_
          refine lv_iconst (v := 1) hx hb dc_B_insert_120 (by decide) ?_
          refine lv_iadd hx hb dc_B_insert_121 ?_
          refine w_ist 2 (by decide) hJ hx hb hK hP hS h.1 dc_B_insert_122 (fun H locs hP hS => ?_)
          obtain ⟨st109, est109⟩ : ∃ z : St_, z = ws_1 st108 2 (x1).toNatClampNeg (x103 + 1) := ⟨_, rfl⟩
          rw [← est109] at hP
          have h := h.2 st109 est109
          exact w_vret hx hb hr hlocks hP hS h dc_B_insert_123
        · have h := h.2 c
          exact w_vret hx hb hr hlocks hP hS h dc_B_insert_35
set_option maxHeartbeats 4000000 in
set_option maxRecDepth 100000 in
theorem ct_B_moveTail (l : Launch) (D : va_G) (ad : Nat → Nat) (cA : Nat → ClassId) (w : Nat) (hJ : Jn_ ad) (x1 : Int32) (x2 : Int32) (x3 : Int32) (st : St_) (post : St_ → Prop) (h : wp_B_moveTail w x1 x2 x3 st post) : Met l yn_B_moveTail (Cond.code yn_B_moveTail bc_B_moveTail 5 none :: Wk_) rm_B_moveTail (Pw_ D ad cA w st [.ref (ad 19), .int x1, .int x2, .int x3]) (Qv_ D ad cA w post) 0 0 (Aw_ ad) := by
  refine Met.ofW (cc := bc_B_moveTail) (maxL := 5) (ret := none) (by decide) rfl ?_
  intro p e s m args below meth c s₁ B hml hv
  obtain ⟨rfl, hP, hK, hN⟩ := hv
  have hx := B.exec
  have hb := B.bytes
  have hr := B.returns
  have hts : ∀ v ∈ Wk_, v.before [.ref (ad 19), .int x1, .int x2, .int x3].toArray s = true := fun v hv => atoms_spec (ws := Cond.code yn_B_moveTail bc_B_moveTail 5 none :: Wk_) B.pre v (List.mem_cons_of_mem _ hv)
  have hown : s.vm.findClass Rn_B = some m.cls := findClass_of_methodNamed B.named
  have hlocks := B.notSynchronized
  have hS : va_S (Aw_ ad) s.heap s.heap [] := va_S.rf
  have Lp_3 : ∀ (n : Nat) (y1 y2 y3 y4 : Int32) (st : St_), wp_B_moveTail_3 w post n y1 y2 y3 y4 st → ∀ (H : Heap) (locs : List Loc), va_P D sC_ (wd_ ad cA w st) H → va_S (Aw_ ad) s.heap H locs → ∀ ls : Array Slot, lv_has ls 5 [(0, .ref (ad 19)), (1, .int y1), (2, .int y2), (3, .int y3), (4, .int y4)] → W p l e (headSpec (Cond.code yn_B_moveTail bc_B_moveTail 5 none :: Wk_) rm_B_moveTail).room s m [.ref (ad 19), .int x1, .int x2, .int x3].toArray below meth c H locs 0 0 (MQ below (Qv_ D ad cA w post) [.ref (ad 19), .int x1, .int x2, .int x3].toArray s 0 0 (Aw_ ad)) (F0 m 3 ls []) := by
    intro n
    induction n with
    | zero => intro y1 y2 y3 y4 st h; exact h.elim
    | succ n ih =>
      intro y1 y2 y3 y4 st h H locs hP hS ls hl
      refine lv_iload hx hb dc_B_moveTail_3 (lv_at hl 4 rfl) ?_
      refine lv_aload_n hx hb dc_B_moveTail_5 rfl (lv_at hl 0 rfl) ?_
      refine lv_iload_n hx hb dc_B_moveTail_6 rfl (lv_at hl 1 rfl) ?_
      refine w_cVi (y := yn_B_size) (C := Rn_B) (index := 45) (n := 1) (own := Rn_B) 19 hx hb hml hown hts hK hN hP hS (ct_B_size l D ad cA w hJ y1 st _ h) mw_26 mw_27 mw_28 mw_29 mw_18 (by decide +kernel) ⟨Nat.le_of_ble_eq_true rfl, Nat.le_of_ble_eq_true rfl⟩ rfl rfl rfl rfl rfl hl.1 rfl (lv_room (Nat.le_of_ble_eq_true rfl)) dc_B_moveTail_7 ⟨Nat.zero_le _, Nat.zero_le _⟩ (fun r102 st101 H locs hP hS h => ?_)
      refine lv_icmp_ge (tgt := 43) hx hb dc_B_moveTail_10 (by decide) (fun c => ?_) (fun c => ?_)
      · have h := h.1 c
        refine lv_aload_n hx hb dc_B_moveTail_43 rfl (lv_at hl 0 rfl) ?_
        refine lv_iload_n hx hb dc_B_moveTail_44 rfl (lv_at hl 1 rfl) ?_
        refine w_cVi (y := yn_B_isBlock) (C := Rn_B) (index := 37) (n := 1) (own := Rn_B) 19 hx hb hml hown hts hK hN hP hS (ct_B_isBlock l D ad cA w hJ y1 st101 _ h) mw_14 mw_15 mw_16 mw_17 mw_18 (by decide +kernel) ⟨Nat.le_of_ble_eq_true rfl, Nat.le_of_ble_eq_true rfl⟩ rfl rfl rfl rfl rfl hl.1 rfl (lv_room (Nat.le_of_ble_eq_true rfl)) dc_B_moveTail_45 ⟨Nat.zero_le _, Nat.zero_le _⟩ (fun r104 st103 H locs hP hS h => ?_)
        refine lv_if_eq (tgt := 72) hx hb dc_B_moveTail_48 (by decide) (fun c => ?_) (fun c => ?_)
        · have h := h.1 c
          exact w_vret hx hb hr hlocks hP hS h dc_B_moveTail_72
        · have h := h.2 c
          refine lv_iload_n hx hb dc_B_moveTail_51 rfl (lv_at hl 2 rfl) ?_
          refine lv_if_lt (tgt := 72) hx hb dc_B_moveTail_52 (by decide) (fun c => ?_) (fun c => ?_)
          · have h := h.1 c
            exact w_vret hx hb hr hlocks hP hS h dc_B_moveTail_72
          · have h := h.2 c
            refine lv_iload_n hx hb dc_B_moveTail_55 rfl (lv_at hl 2 rfl) ?_
            refine lv_aload_n hx hb dc_B_moveTail_56 rfl (lv_at hl 0 rfl) ?_
            refine va_get (D := D) (ci := 1) (v := .ref (ad 2)) (C := Rn_B) (T := Fn_B) (N := 8) hx hb hts in_B hown hK hP 19 rfl rfl 3 (by decide) (hts _ mw_25) (fun _ h9 => h9) rfl dc_B_moveTail_57 ?_
            refine lv_iload_n hx hb dc_B_moveTail_60 rfl (lv_at hl 1 rfl) ?_
            refine w_ild 2 (by decide) hx hb hK hP h.1 dc_B_moveTail_61 ?_
            have h := h.2
            refine lv_icmp_ge (tgt := 72) hx hb dc_B_moveTail_62 (by decide) (fun c => ?_) (fun c => ?_)
            · have h := h.1 c
              exact w_vret hx hb hr hlocks hP hS h dc_B_moveTail_72
            · have h := h.2 c
              refine lv_aload_n hx hb dc_B_moveTail_65 rfl (lv_at hl 0 rfl) ?_
              refine va_get (D := D) (ci := 1) (v := .ref (ad 2)) (C := Rn_B) (T := Fn_B) (N := 8) hx hb hts in_B hown hK hP 19 rfl rfl 3 (by decide) (hts _ mw_25) (fun _ h9 => h9) rfl dc_B_moveTail_66 ?_
              refine lv_iload_n hx hb dc_B_moveTail_69 rfl (lv_at hl 1 rfl) ?_
              refine lv_iload_n hx hb dc_B_moveTail_70 rfl (lv_at hl 2 rfl) ?_
              refine w_ist 2 (by decide) hJ hx hb hK hP hS h.1 dc_B_moveTail_71 (fun H locs hP hS => ?_)
              obtain ⟨st105, est105⟩ : ∃ z : St_, z = ws_1 st103 2 (y1).toNatClampNeg y2 := ⟨_, rfl⟩
              rw [← est105] at hP
              have h := h.2 st105 est105
              exact w_vret hx hb hr hlocks hP hS h dc_B_moveTail_72
      · have h := h.2 c
        refine lv_aload_n hx hb dc_B_moveTail_13 rfl (lv_at hl 0 rfl) ?_
        refine lv_iload_n hx hb dc_B_moveTail_14 rfl (lv_at hl 3 rfl) ?_
        refine lv_aload_n hx hb dc_B_moveTail_15 rfl (lv_at hl 0 rfl) ?_
        refine lv_iload_n hx hb dc_B_moveTail_16 rfl (lv_at hl 3 rfl) ?_
        refine w_cVi (y := yn_B_size) (C := Rn_B) (index := 45) (n := 1) (own := Rn_B) 19 hx hb hml hown hts hK hN hP hS (ct_B_size l D ad cA w hJ y3 st101 _ h) mw_26 mw_27 mw_28 mw_29 mw_18 (by decide +kernel) ⟨Nat.le_of_ble_eq_true rfl, Nat.le_of_ble_eq_true rfl⟩ rfl rfl rfl rfl rfl hl.1 rfl (lv_room (Nat.le_of_ble_eq_true rfl)) dc_B_moveTail_17 ⟨Nat.zero_le _, Nat.zero_le _⟩ (fun r107 st106 H locs hP hS h => ?_)
        refine lv_aload_n hx hb dc_B_moveTail_20 rfl (lv_at hl 0 rfl) ?_
        refine lv_iload_n hx hb dc_B_moveTail_21 rfl (lv_at hl 1 rfl) ?_
        refine lv_iload hx hb dc_B_moveTail_22 (lv_at hl 4 rfl) ?_
        refine w_cVi (y := yn_B_key) (C := Rn_B) (index := 83) (n := 2) (own := Rn_B) 19 hx hb hml hown hts hK hN hP hS (ct_B_key l D ad cA w hJ y1 y4 st106 _ h) mw_43 mw_117 mw_45 mw_46 mw_18 (by decide +kernel) ⟨Nat.le_of_ble_eq_true rfl, Nat.le_of_ble_eq_true rfl⟩ rfl rfl rfl rfl rfl hl.1 rfl (lv_room (Nat.le_of_ble_eq_true rfl)) dc_B_moveTail_24 ⟨Nat.zero_le _, Nat.zero_le _⟩ (fun r109 st108 H locs hP hS h => ?_)
        refine lv_aload_n hx hb dc_B_moveTail_27 rfl (lv_at hl 0 rfl) ?_
        refine lv_iload_n hx hb dc_B_moveTail_28 rfl (lv_at hl 1 rfl) ?_
        refine lv_iload hx hb dc_B_moveTail_29 (lv_at hl 4 rfl) ?_
        refine w_cVi (y := yn_B_goal) (C := Rn_B) (index := 67) (n := 2) (own := Rn_B) 19 hx hb hml hown hts hK hN hP hS (ct_B_goal l D ad cA w hJ y1 y4 st108 _ h) mw_48 mw_88 mw_50 mw_51 mw_18 (by decide +kernel) ⟨Nat.le_of_ble_eq_true rfl, Nat.le_of_ble_eq_true rfl⟩ rfl rfl rfl rfl rfl hl.1 rfl (lv_room (Nat.le_of_ble_eq_true rfl)) dc_B_moveTail_31 ⟨Nat.zero_le _, Nat.zero_le _⟩ (fun r111 st110 H locs hP hS h => ?_)
        refine w_cVv (y := yn_B_insert) (C := Rn_B) (index := 86) (n := 4) (own := Rn_B) 19 hx hb hml hown hts hK hN hP hS (ct_B_insert l D ad cA w hJ y3 r107 r109 r111 st110 _ h) mw_118 mw_119 mw_120 mw_121 mw_18 (by decide +kernel) ⟨Nat.le_of_ble_eq_true rfl, Nat.le_of_ble_eq_true rfl⟩ rfl rfl rfl rfl rfl hl.1 rfl (lv_room (Nat.le_of_ble_eq_true rfl)) dc_B_moveTail_34 ⟨Nat.zero_le _, Nat.zero_le _⟩ (fun st112 H locs hP hS h => ?_)
        obtain ⟨x113, ex113⟩ : ∃ y : Int32, y = y4 + 1 := ⟨_, rfl⟩
        have h := h x113 ex113
        refine lv_iinc (v := x113) (lv' := [(4, .int x113), (0, .ref (ad 19)), (1, .int y1), (2, .int y2), (3, .int y3)]) hx hb dc_B_moveTail_37 hl (k := 4) rfl (by rw [ex113]; rfl) (by decide) rfl (fun ls hl => ?_)
        refine lv_goto (tgt := 3) hx hb dc_B_moveTail_40 (by decide) ?_
        exact ih y1 y2 y3 x113 st112 h _ _ hP hS ls (lv_sub hl [1, 2, 3, 4, 0] rfl)
  have hl := lv_entry ([.ref (ad 19), .int x1, .int x2, .int x3]) (n := 5) (Nat.le_of_ble_eq_true rfl)
  rw [lg_entry_eq]
  generalize (lg_sl ([.ref (ad 19), .int x1, .int x2, .int x3]) ++ List.replicate (5 - (lg_sl ([.ref (ad 19), .int x1, .int x2, .int x3])).length) Slot.unset).toArray = ls at hl ⊢
  have hl : lv_has ls 5 [(0, .ref (ad 19)), (1, .int x1), (2, .int x2), (3, .int x3)] := hl
  refine lv_iload_n hx hb dc_B_moveTail_0 rfl (lv_at hl 2 rfl) ?_
  refine lv_istore (lv' := [(4, .int x2), (0, .ref (ad 19)), (1, .int x1), (2, .int x2), (3, .int x3)]) hx hb dc_B_moveTail_1 hl (by decide) rfl (fun ls hl => ?_)
  obtain ⟨n, h⟩ := h
  exact Lp_3 n x1 x2 x3 x2 st h _ _ hP hS ls (lv_sub hl [1, 2, 3, 4, 0] rfl)
set_option maxHeartbeats 4000000 in
set_option maxRecDepth 100000 in
theorem ct_T_split (l : Launch) (D : va_G) (ad : Nat → Nat) (cA : Nat → ClassId) (w : Nat) (hJ : Jn_ ad) (x1 : Int32) (x2 : Int32) (st : St_) (post : St_ → Prop) (h : wp_T_split w x1 x2 st post) : Met l yn_T_split (Cond.code yn_T_split bc_T_split 5 none :: Wk_) rm_T_split (Pw_ D ad cA w st [.ref (ad 20), .int x1, .int x2]) (Qv_ D ad cA w post) 0 0 (Aw_ ad) := by
  refine Met.ofW (cc := bc_T_split) (maxL := 5) (ret := none) (by decide) rfl ?_
  intro p e s m args below meth c s₁ B hml hv
  obtain ⟨rfl, hP, hK, hN⟩ := hv
  have hx := B.exec
  have hb := B.bytes
  have hr := B.returns
  have hts : ∀ v ∈ Wk_, v.before [.ref (ad 20), .int x1, .int x2].toArray s = true := fun v hv => atoms_spec (ws := Cond.code yn_T_split bc_T_split 5 none :: Wk_) B.pre v (List.mem_cons_of_mem _ hv)
  have hown : s.vm.findClass Rn_T = some m.cls := findClass_of_methodNamed B.named
  have hlocks := B.notSynchronized
  have hS : va_S (Aw_ ad) s.heap s.heap [] := va_S.rf
  have hl := lv_entry ([.ref (ad 20), .int x1, .int x2]) (n := 5) (Nat.le_of_ble_eq_true rfl)
  rw [lg_entry_eq]
  generalize (lg_sl ([.ref (ad 20), .int x1, .int x2]) ++ List.replicate (5 - (lg_sl ([.ref (ad 20), .int x1, .int x2])).length) Slot.unset).toArray = ls at hl ⊢
  have hl : lv_has ls 5 [(0, .ref (ad 20)), (1, .int x1), (2, .int x2)] := hl
  refine lv_aload_n hx hb dc_T_split_0 rfl (lv_at hl 0 rfl) ?_
  refine va_get (D := D) (ci := 2) (v := .ref (ad 19)) (C := Rn_T) (T := Fn_T) (N := 3) hx hb hts in_T hown hK hP 20 rfl rfl 0 (by decide) (hts _ mw_13) (fun _ h9 => h9) rfl dc_T_split_1 ?_
  refine lv_iload_n hx hb dc_T_split_4 rfl (lv_at hl 1 rfl) ?_
  refine lv_iload_n hx hb dc_T_split_5 rfl (lv_at hl 2 rfl) ?_
  refine w_cVi (y := yn_B_goal) (C := Rn_B) (index := 35) (n := 2) (own := Rn_T) 19 hx hb hml hown hts hK hN hP hS (ct_B_goal l D ad cA w hJ x1 x2 st _ h) mw_48 mw_49 mw_50 mw_51 mw_18 (by decide +kernel) ⟨Nat.le_of_ble_eq_true rfl, Nat.le_of_ble_eq_true rfl⟩ rfl rfl rfl rfl rfl hl.1 rfl (lv_room (Nat.le_of_ble_eq_true rfl)) dc_T_split_6 ⟨Nat.zero_le _, Nat.zero_le _⟩ (fun r102 st101 H locs hP hS h => ?_)
  refine lv_istore_n (lv' := [(3, .int r102), (0, .ref (ad 20)), (1, .int x1), (2, .int x2)]) hx hb dc_T_split_9 rfl hl (by decide) rfl (fun ls hl => ?_)
  refine lv_aload_n hx hb dc_T_split_10 rfl (lv_at hl 1 rfl) ?_
  refine va_get (D := D) (ci := 2) (v := .ref (ad 19)) (C := Rn_T) (T := Fn_T) (N := 3) hx hb hts in_T hown hK hP 20 rfl rfl 0 (by decide) (hts _ mw_13) (fun _ h9 => h9) rfl dc_T_split_11 ?_
  refine lv_aload_n hx hb dc_T_split_14 rfl (lv_at hl 1 rfl) ?_
  refine va_get (D := D) (ci := 2) (v := .ref (ad 19)) (C := Rn_T) (T := Fn_T) (N := 3) hx hb hts in_T hown hK hP 20 rfl rfl 0 (by decide) (hts _ mw_13) (fun _ h9 => h9) rfl dc_T_split_15 ?_
  refine lv_iload_n hx hb dc_T_split_18 rfl (lv_at hl 0 rfl) ?_
  refine w_cVi (y := yn_B_level) (C := Rn_B) (index := 26) (n := 1) (own := Rn_T) 19 hx hb hml hown hts hK hN hP hS (ct_B_level l D ad cA w hJ r102 st101 _ h) mw_20 mw_21 mw_22 mw_23 mw_18 (by decide +kernel) ⟨Nat.le_of_ble_eq_true rfl, Nat.le_of_ble_eq_true rfl⟩ rfl rfl rfl rfl rfl hl.1 rfl (lv_room (Nat.le_of_ble_eq_true rfl)) dc_T_split_19 ⟨Nat.zero_le _, Nat.zero_le _⟩ (fun r104 st103 H locs hP hS h => ?_)
  refine w_cVi (y := yn_B_take) (C := Rn_B) (index := 56) (n := 1) (own := Rn_T) 19 hx hb hml hown hts hK hN hP hS (ct_B_take l D ad cA w hJ r104 st103 _ h) mw_72 mw_115 mw_74 mw_75 mw_18 (by decide +kernel) ⟨Nat.le_of_ble_eq_true rfl, Nat.le_of_ble_eq_true rfl⟩ rfl rfl rfl rfl rfl hl.1 rfl (lv_room (Nat.le_of_ble_eq_true rfl)) dc_T_split_22 ⟨Nat.zero_le _, Nat.zero_le _⟩ (fun r106 st105 H locs hP hS h => ?_)
  refine lv_istore (lv' := [(4, .int r106), (3, .int r102), (0, .ref (ad 20)), (1, .int x1), (2, .int x2)]) hx hb dc_T_split_25 hl (by decide) rfl (fun ls hl => ?_)
  refine lv_aload_n hx hb dc_T_split_27 rfl (lv_at hl 2 rfl) ?_
  refine va_get (D := D) (ci := 2) (v := .ref (ad 19)) (C := Rn_T) (T := Fn_T) (N := 3) hx hb hts in_T hown hK hP 20 rfl rfl 0 (by decide) (hts _ mw_13) (fun _ h9 => h9) rfl dc_T_split_28 ?_
  refine lv_iload_n hx hb dc_T_split_31 rfl (lv_at hl 1 rfl) ?_
  refine lv_aload_n hx hb dc_T_split_32 rfl (lv_at hl 2 rfl) ?_
  refine va_get (D := D) (ci := 2) (v := .int (nI (w / 2))) (C := Rn_T) (T := Fn_T) (N := 3) hx hb hts in_T hown hK hP 20 rfl rfl 2 (by decide) (hts _ mw_116) (fun _ h9 => h9) rfl dc_T_split_33 ?_
  refine lv_iload hx hb dc_T_split_36 (lv_at hl 0 rfl) ?_
  refine w_cVv (y := yn_B_moveTail) (C := Rn_B) (index := 89) (n := 3) (own := Rn_T) 19 hx hb hml hown hts hK hN hP hS (ct_B_moveTail l D ad cA w hJ r102 (nI (w / 2)) r106 st105 _ h) mw_122 mw_123 mw_124 mw_125 mw_18 (by decide +kernel) ⟨Nat.le_of_ble_eq_true rfl, Nat.le_of_ble_eq_true rfl⟩ rfl rfl rfl rfl rfl hl.1 rfl (lv_room (Nat.le_of_ble_eq_true rfl)) dc_T_split_38 ⟨Nat.zero_le _, Nat.zero_le _⟩ (fun st107 H locs hP hS h => ?_)
  refine lv_aload_n hx hb dc_T_split_41 rfl (lv_at hl 2 rfl) ?_
  refine va_get (D := D) (ci := 2) (v := .ref (ad 19)) (C := Rn_T) (T := Fn_T) (N := 3) hx hb hts in_T hown hK hP 20 rfl rfl 0 (by decide) (hts _ mw_13) (fun _ h9 => h9) rfl dc_T_split_42 ?_
  refine lv_iload_n hx hb dc_T_split_45 rfl (lv_at hl 3 rfl) ?_
  refine lv_iload_n hx hb dc_T_split_46 rfl (lv_at hl 4 rfl) ?_
  refine lv_iconst (v := 1) hx hb dc_T_split_47 (by decide) ?_
  refine lv_iadd hx hb dc_T_split_48 ?_
  refine lv_aload_n hx hb dc_T_split_49 rfl (lv_at hl 2 rfl) ?_
  refine va_get (D := D) (ci := 2) (v := .ref (ad 19)) (C := Rn_T) (T := Fn_T) (N := 3) hx hb hts in_T hown hK hP 20 rfl rfl 0 (by decide) (hts _ mw_13) (fun _ h9 => h9) rfl dc_T_split_50 ?_
  refine lv_iload hx hb dc_T_split_53 (lv_at hl 0 rfl) ?_
  refine lv_iconst (v := 0) hx hb dc_T_split_55 (by decide) ?_
  refine w_cVi (y := yn_B_key) (C := Rn_B) (index := 41) (n := 2) (own := Rn_T) 19 hx hb hml hown hts hK hN hP hS (ct_B_key l D ad cA w hJ r106 0 st107 _ h) mw_43 mw_44 mw_45 mw_46 mw_18 (by decide +kernel) ⟨Nat.le_of_ble_eq_true rfl, Nat.le_of_ble_eq_true rfl⟩ rfl rfl rfl rfl rfl hl.1 rfl (lv_room (Nat.le_of_ble_eq_true rfl)) dc_T_split_56 ⟨Nat.zero_le _, Nat.zero_le _⟩ (fun r109 st108 H locs hP hS h => ?_)
  refine lv_iload hx hb dc_T_split_59 (lv_at hl 0 rfl) ?_
  refine w_cVv (y := yn_B_insert) (C := Rn_B) (index := 86) (n := 4) (own := Rn_T) 19 hx hb hml hown hts hK hN hP hS (ct_B_insert l D ad cA w hJ x1 (x2 + 1) r109 r106 st108 _ h) mw_118 mw_126 mw_120 mw_121 mw_18 (by decide +kernel) ⟨Nat.le_of_ble_eq_true rfl, Nat.le_of_ble_eq_true rfl⟩ rfl rfl rfl rfl rfl hl.1 rfl (lv_room (Nat.le_of_ble_eq_true rfl)) dc_T_split_61 ⟨Nat.zero_le _, Nat.zero_le _⟩ (fun st110 H locs hP hS h => ?_)
  exact w_vret hx hb hr hlocks hP hS h dc_T_split_64
set_option maxHeartbeats 4000000 in
set_option maxRecDepth 100000 in
theorem ct_T_putInLeaf (l : Launch) (D : va_G) (ad : Nat → Nat) (cA : Nat → ClassId) (w : Nat) (hJ : Jn_ ad) (x1 : Int32) (x2 : Int32) (x3 : Int32) (st : St_) (post : St_ → Prop) (h : wp_T_putInLeaf w x1 x2 x3 st post) : Met l yn_T_putInLeaf (Cond.code yn_T_putInLeaf bc_T_putInLeaf 5 none :: Wk_) rm_T_putInLeaf (Pw_ D ad cA w st [.ref (ad 20), .int x1, .int x2, .int x3]) (Qv_ D ad cA w post) 0 0 (Aw_ ad) := by
  refine Met.ofW (cc := bc_T_putInLeaf) (maxL := 5) (ret := none) (by decide) rfl ?_
  intro p e s m args below meth c s₁ B hml hv
  obtain ⟨rfl, hP, hK, hN⟩ := hv
  have hx := B.exec
  have hb := B.bytes
  have hr := B.returns
  have hts : ∀ v ∈ Wk_, v.before [.ref (ad 20), .int x1, .int x2, .int x3].toArray s = true := fun v hv => atoms_spec (ws := Cond.code yn_T_putInLeaf bc_T_putInLeaf 5 none :: Wk_) B.pre v (List.mem_cons_of_mem _ hv)
  have hown : s.vm.findClass Rn_T = some m.cls := findClass_of_methodNamed B.named
  have hlocks := B.notSynchronized
  have hS : va_S (Aw_ ad) s.heap s.heap [] := va_S.rf
  have hl := lv_entry ([.ref (ad 20), .int x1, .int x2, .int x3]) (n := 5) (Nat.le_of_ble_eq_true rfl)
  rw [lg_entry_eq]
  generalize (lg_sl ([.ref (ad 20), .int x1, .int x2, .int x3]) ++ List.replicate (5 - (lg_sl ([.ref (ad 20), .int x1, .int x2, .int x3])).length) Slot.unset).toArray = ls at hl ⊢
  have hl : lv_has ls 5 [(0, .ref (ad 20)), (1, .int x1), (2, .int x2), (3, .int x3)] := hl
  refine lv_aload_n hx hb dc_T_putInLeaf_0 rfl (lv_at hl 0 rfl) ?_
  refine va_get (D := D) (ci := 2) (v := .ref (ad 19)) (C := Rn_T) (T := Fn_T) (N := 3) hx hb hts in_T hown hK hP 20 rfl rfl 0 (by decide) (hts _ mw_13) (fun _ h9 => h9) rfl dc_T_putInLeaf_1 ?_
  refine lv_iload_n hx hb dc_T_putInLeaf_4 rfl (lv_at hl 1 rfl) ?_
  refine lv_iload_n hx hb dc_T_putInLeaf_5 rfl (lv_at hl 2 rfl) ?_
  refine w_cVi (y := yn_B_slotOf) (C := Rn_B) (index := 38) (n := 2) (own := Rn_T) 19 hx hb hml hown hts hK hN hP hS (ct_B_slotOf l D ad cA w hJ x1 x2 st _ h) mw_35 mw_36 mw_37 mw_38 mw_18 (by decide +kernel) ⟨Nat.le_of_ble_eq_true rfl, Nat.le_of_ble_eq_true rfl⟩ rfl rfl rfl rfl rfl hl.1 rfl (lv_room (Nat.le_of_ble_eq_true rfl)) dc_T_putInLeaf_6 ⟨Nat.zero_le _, Nat.zero_le _⟩ (fun r102 st101 H locs hP hS h => ?_)
  refine lv_istore (lv' := [(4, .int r102), (0, .ref (ad 20)), (1, .int x1), (2, .int x2), (3, .int x3)]) hx hb dc_T_putInLeaf_9 hl (by decide) rfl (fun ls hl => ?_)
  refine lv_aload_n hx hb dc_T_putInLeaf_11 rfl (lv_at hl 1 rfl) ?_
  refine va_get (D := D) (ci := 2) (v := .ref (ad 19)) (C := Rn_T) (T := Fn_T) (N := 3) hx hb hts in_T hown hK hP 20 rfl rfl 0 (by decide) (hts _ mw_13) (fun _ h9 => h9) rfl dc_T_putInLeaf_12 ?_
  refine lv_iload_n hx hb dc_T_putInLeaf_15 rfl (lv_at hl 2 rfl) ?_
  refine lv_iload hx hb dc_T_putInLeaf_16 (lv_at hl 0 rfl) ?_
  refine w_cVi (y := yn_B_key) (C := Rn_B) (index := 41) (n := 2) (own := Rn_T) 19 hx hb hml hown hts hK hN hP hS (ct_B_key l D ad cA w hJ x1 r102 st101 _ h) mw_43 mw_44 mw_45 mw_46 mw_18 (by decide +kernel) ⟨Nat.le_of_ble_eq_true rfl, Nat.le_of_ble_eq_true rfl⟩ rfl rfl rfl rfl rfl hl.1 rfl (lv_room (Nat.le_of_ble_eq_true rfl)) dc_T_putInLeaf_18 ⟨Nat.zero_le _, Nat.zero_le _⟩ (fun r104 st103 H locs hP hS h => ?_)
  refine lv_iload_n hx hb dc_T_putInLeaf_21 rfl (lv_at hl 3 rfl) ?_
  refine lv_icmp_ne (tgt := 39) hx hb dc_T_putInLeaf_22 (by decide) (fun c => ?_) (fun c => ?_)
  · have h := h.1 c
    refine lv_aload_n hx hb dc_T_putInLeaf_39 rfl (lv_at hl 1 rfl) ?_
    refine va_get (D := D) (ci := 2) (v := .ref (ad 19)) (C := Rn_T) (T := Fn_T) (N := 3) hx hb hts in_T hown hK hP 20 rfl rfl 0 (by decide) (hts _ mw_13) (fun _ h9 => h9) rfl dc_T_putInLeaf_40 ?_
    refine lv_iload_n hx hb dc_T_putInLeaf_43 rfl (lv_at hl 2 rfl) ?_
    refine lv_iload hx hb dc_T_putInLeaf_44 (lv_at hl 0 rfl) ?_
    refine lv_iconst (v := 1) hx hb dc_T_putInLeaf_46 (by decide) ?_
    refine lv_iadd hx hb dc_T_putInLeaf_47 ?_
    refine lv_iload_n hx hb dc_T_putInLeaf_48 rfl (lv_at hl 3 rfl) ?_
    refine lv_iload_n hx hb dc_T_putInLeaf_49 rfl (lv_at hl 4 rfl) ?_
    refine w_cVv (y := yn_B_insert) (C := Rn_B) (index := 86) (n := 4) (own := Rn_T) 19 hx hb hml hown hts hK hN hP hS (ct_B_insert l D ad cA w hJ x1 (r102 + 1) x2 x3 st103 _ h) mw_118 mw_126 mw_120 mw_121 mw_18 (by decide +kernel) ⟨Nat.le_of_ble_eq_true rfl, Nat.le_of_ble_eq_true rfl⟩ rfl rfl rfl rfl rfl hl.1 rfl (lv_room (Nat.le_of_ble_eq_true rfl)) dc_T_putInLeaf_50 ⟨Nat.zero_le _, Nat.zero_le _⟩ (fun st105 H locs hP hS h => ?_)
    exact w_vret hx hb hr hlocks hP hS h dc_T_putInLeaf_53
  · have h := h.2 c
    refine lv_aload_n hx hb dc_T_putInLeaf_25 rfl (lv_at hl 1 rfl) ?_
    refine va_get (D := D) (ci := 2) (v := .ref (ad 19)) (C := Rn_T) (T := Fn_T) (N := 3) hx hb hts in_T hown hK hP 20 rfl rfl 0 (by decide) (hts _ mw_13) (fun _ h9 => h9) rfl dc_T_putInLeaf_26 ?_
    refine lv_iload_n hx hb dc_T_putInLeaf_29 rfl (lv_at hl 2 rfl) ?_
    refine lv_iload hx hb dc_T_putInLeaf_30 (lv_at hl 0 rfl) ?_
    refine lv_iload_n hx hb dc_T_putInLeaf_32 rfl (lv_at hl 4 rfl) ?_
    refine w_cVv (y := yn_B_setGoal) (C := Rn_B) (index := 83) (n := 3) (own := Rn_T) 19 hx hb hml hown hts hK hN hP hS (ct_B_setGoal l D ad cA w hJ x1 r102 x3 st103 _ h) mw_97 mw_98 mw_99 mw_100 mw_18 (by decide +kernel) ⟨Nat.le_of_ble_eq_true rfl, Nat.le_of_ble_eq_true rfl⟩ rfl rfl rfl rfl rfl hl.1 rfl (lv_room (Nat.le_of_ble_eq_true rfl)) dc_T_putInLeaf_33 ⟨Nat.zero_le _, Nat.zero_le _⟩ (fun st106 H locs hP hS h => ?_)
    refine lv_goto (tgt := 53) hx hb dc_T_putInLeaf_36 (by decide) ?_
    exact w_vret hx hb hr hlocks hP hS h dc_T_putInLeaf_53
set_option maxHeartbeats 4000000 in
set_option maxRecDepth 100000 in
theorem ct_T_putBelow (l : Launch) (D : va_G) (ad : Nat → Nat) (cA : Nat → ClassId) (w : Nat) (hJ : Jn_ ad) (d : Nat) : ∀ (x1 : Int32) (x2 : Int32) (x3 : Int32) (x4 : Int32) (st : St_) (post : St_ → Prop), wp_T_putBelow w d x1 x2 x3 x4 st post → Met l yn_T_putBelow (Cond.code yn_T_putBelow bc_T_putBelow 7 none :: Wk_) (rm_T_putBelow d) (Pw_ D ad cA w st [.ref (ad 20), .int x1, .int x2, .int x3, .int x4]) (Qv_ D ad cA w post) 0 0 (Aw_ ad) := by
  induction d with
  | zero =>
    intro x1 x2 x3 x4 st post h
    exact h.elim
  | succ d ihd =>
    intro x1 x2 x3 x4 st post h
    refine Met.ofW (cc := bc_T_putBelow) (maxL := 7) (ret := none) (by decide) rfl ?_
    intro p e s m args below meth c s₁ B hml hv
    obtain ⟨rfl, hP, hK, hN⟩ := hv
    have hx := B.exec
    have hb := B.bytes
    have hr := B.returns
    have hts : ∀ v ∈ Wk_, v.before [.ref (ad 20), .int x1, .int x2, .int x3, .int x4].toArray s = true := fun v hv => atoms_spec (ws := Cond.code yn_T_putBelow bc_T_putBelow 7 none :: Wk_) B.pre v (List.mem_cons_of_mem _ hv)
    have hown : s.vm.findClass Rn_T = some m.cls := findClass_of_methodNamed B.named
    have hlocks := B.notSynchronized
    have hS : va_S (Aw_ ad) s.heap s.heap [] := va_S.rf
    have hl := lv_entry ([.ref (ad 20), .int x1, .int x2, .int x3, .int x4]) (n := 7) (Nat.le_of_ble_eq_true rfl)
    rw [lg_entry_eq]
    generalize (lg_sl ([.ref (ad 20), .int x1, .int x2, .int x3, .int x4]) ++ List.replicate (7 - (lg_sl ([.ref (ad 20), .int x1, .int x2, .int x3, .int x4])).length) Slot.unset).toArray = ls at hl ⊢
    have hl : lv_has ls 7 [(0, .ref (ad 20)), (1, .int x1), (2, .int x2), (3, .int x3), (4, .int x4)] := hl
    refine lv_iload_n hx hb dc_T_putBelow_0 rfl (lv_at hl 2 rfl) ?_
    refine lv_bipush (v := 16) hx hb dc_T_putBelow_1 (by decide) ?_
    refine lv_icmp_le (tgt := 7) hx hb dc_T_putBelow_3 (by decide) (fun c => ?_) (fun c => ?_)
    · have h := h.1 c
      refine lv_iload_n hx hb dc_T_putBelow_7 rfl (lv_at hl 2 rfl) ?_
      refine lv_if_gt (tgt := 20) hx hb dc_T_putBelow_8 (by decide) (fun c => ?_) (fun c => ?_)
      · have h := h.1 c
        refine lv_aload_n hx hb dc_T_putBelow_20 rfl (lv_at hl 0 rfl) ?_
        refine lv_iload_n hx hb dc_T_putBelow_21 rfl (lv_at hl 1 rfl) ?_
        refine lv_iload_n hx hb dc_T_putBelow_22 rfl (lv_at hl 3 rfl) ?_
        refine w_cVi (y := yn_T_slotToward) (C := Rn_T) (index := 31) (n := 2) (own := Rn_T) 20 hx hb hml hown hts hK hN hP hS (ct_T_slotToward l D ad cA w hJ x1 x3 st _ h) mw_55 mw_56 mw_57 mw_58 mw_59 (by decide +kernel) (by refine ⟨?_, ?_⟩ <;> (try dsimp only [headSpec]) <;> omega) rfl rfl rfl rfl rfl hl.1 rfl (lv_room (Nat.le_of_ble_eq_true rfl)) dc_T_putBelow_23 ⟨Nat.zero_le _, Nat.zero_le _⟩ (fun r102 st101 H locs hP hS h => ?_)
        refine lv_istore (lv' := [(5, .int r102), (0, .ref (ad 20)), (1, .int x1), (2, .int x2), (3, .int x3), (4, .int x4)]) hx hb dc_T_putBelow_26 hl (by decide) rfl (fun ls hl => ?_)
        refine lv_aload_n hx hb dc_T_putBelow_28 rfl (lv_at hl 1 rfl) ?_
        refine lv_iload_n hx hb dc_T_putBelow_29 rfl (lv_at hl 2 rfl) ?_
        refine lv_iload hx hb dc_T_putBelow_30 (lv_at hl 0 rfl) ?_
        refine w_cVi (y := yn_T_ownedChild) (C := Rn_T) (index := 73) (n := 2) (own := Rn_T) 20 hx hb hml hown hts hK hN hP hS (ct_T_ownedChild l D ad cA w hJ x1 r102 st101 _ h) mw_101 mw_102 mw_103 mw_104 mw_59 (by decide +kernel) (by refine ⟨?_, ?_⟩ <;> (try dsimp only [headSpec]) <;> omega) rfl rfl rfl rfl rfl hl.1 rfl (lv_room (Nat.le_of_ble_eq_true rfl)) dc_T_putBelow_32 ⟨Nat.zero_le _, Nat.zero_le _⟩ (fun r104 st103 H locs hP hS h => ?_)
        refine lv_istore (lv' := [(6, .int r104), (5, .int r102), (0, .ref (ad 20)), (1, .int x1), (2, .int x2), (3, .int x3), (4, .int x4)]) hx hb dc_T_putBelow_35 hl (by decide) rfl (fun ls hl => ?_)
        refine lv_aload_n hx hb dc_T_putBelow_37 rfl (lv_at hl 2 rfl) ?_
        refine lv_iload hx hb dc_T_putBelow_38 (lv_at hl 0 rfl) ?_
        refine lv_iload_n hx hb dc_T_putBelow_40 rfl (lv_at hl 4 rfl) ?_
        refine lv_iconst (v := 1) hx hb dc_T_putBelow_41 (by decide) ?_
        refine lv_isub hx hb dc_T_putBelow_42 ?_
        refine lv_iload_n hx hb dc_T_putBelow_43 rfl (lv_at hl 5 rfl) ?_
        refine lv_iload hx hb dc_T_putBelow_44 (lv_at hl 6 rfl) ?_
        refine w_cVv (y := yn_T_putBelow) (C := Rn_T) (index := 62) (n := 4) (own := Rn_T) 20 hx hb hml hown hts hK hN hP hS (ihd r104 (x2 - 1) x3 x4 st103 _ h) mw_105 mw_106 mw_107 mw_108 mw_59 (by decide +kernel) (by refine ⟨?_, ?_⟩ <;> (try dsimp only [headSpec]) <;> omega) rfl rfl rfl rfl rfl hl.1 rfl (lv_room (Nat.le_of_ble_eq_true rfl)) dc_T_putBelow_46 ⟨Nat.zero_le _, Nat.zero_le _⟩ (fun st105 H locs hP hS h => ?_)
        refine lv_aload_n hx hb dc_T_putBelow_49 rfl (lv_at hl 2 rfl) ?_
        refine va_get (D := D) (ci := 2) (v := .ref (ad 19)) (C := Rn_T) (T := Fn_T) (N := 3) hx hb hts in_T hown hK hP 20 rfl rfl 0 (by decide) (hts _ mw_13) (fun _ h9 => h9) rfl dc_T_putBelow_50 ?_
        refine lv_iload_n hx hb dc_T_putBelow_53 rfl (lv_at hl 3 rfl) ?_
        refine lv_iload hx hb dc_T_putBelow_54 (lv_at hl 1 rfl) ?_
        refine lv_aload_n hx hb dc_T_putBelow_56 rfl (lv_at hl 2 rfl) ?_
        refine va_get (D := D) (ci := 2) (v := .ref (ad 19)) (C := Rn_T) (T := Fn_T) (N := 3) hx hb hts in_T hown hK hP 20 rfl rfl 0 (by decide) (hts _ mw_13) (fun _ h9 => h9) rfl dc_T_putBelow_57 ?_
        refine lv_iload hx hb dc_T_putBelow_60 (lv_at hl 0 rfl) ?_
        refine lv_iconst (v := 0) hx hb dc_T_putBelow_62 (by decide) ?_
        refine w_cVi (y := yn_B_key) (C := Rn_B) (index := 41) (n := 2) (own := Rn_T) 19 hx hb hml hown hts hK hN hP hS (ct_B_key l D ad cA w hJ r104 0 st105 _ h) mw_43 mw_44 mw_45 mw_46 mw_18 (by decide +kernel) (by refine ⟨?_, ?_⟩ <;> (try dsimp only [headSpec]) <;> omega) rfl rfl rfl rfl rfl hl.1 rfl (lv_room (Nat.le_of_ble_eq_true rfl)) dc_T_putBelow_63 ⟨Nat.zero_le _, Nat.zero_le _⟩ (fun r107 st106 H locs hP hS h => ?_)
        refine w_cVv (y := yn_B_setKey) (C := Rn_B) (index := 76) (n := 3) (own := Rn_T) 19 hx hb hml hown hts hK hN hP hS (ct_B_setKey l D ad cA w hJ x1 r102 r107 st106 _ h) mw_109 mw_110 mw_111 mw_112 mw_18 (by decide +kernel) (by refine ⟨?_, ?_⟩ <;> (try dsimp only [headSpec]) <;> omega) rfl rfl rfl rfl rfl hl.1 rfl (lv_room (Nat.le_of_ble_eq_true rfl)) dc_T_putBelow_66 ⟨Nat.zero_le _, Nat.zero_le _⟩ (fun st108 H locs hP hS h => ?_)
        refine lv_aload_n hx hb dc_T_putBelow_69 rfl (lv_at hl 2 rfl) ?_
        refine va_get (D := D) (ci := 2) (v := .ref (ad 19)) (C := Rn_T) (T := Fn_T) (N := 3) hx hb hts in_T hown hK hP 20 rfl rfl 0 (by decide) (hts _ mw_13) (fun _ h9 => h9) rfl dc_T_putBelow_70 ?_
        refine lv_iload hx hb dc_T_putBelow_73 (lv_at hl 0 rfl) ?_
        refine w_cVi (y := yn_B_size) (C := Rn_B) (index := 48) (n := 1) (own := Rn_T) 19 hx hb hml hown hts hK hN hP hS (ct_B_size l D ad cA w hJ r104 st108 _ h) mw_26 mw_113 mw_28 mw_29 mw_18 (by decide +kernel) (by refine ⟨?_, ?_⟩ <;> (try dsimp only [headSpec]) <;> omega) rfl rfl rfl rfl rfl hl.1 rfl (lv_room (Nat.le_of_ble_eq_true rfl)) dc_T_putBelow_75 ⟨Nat.zero_le _, Nat.zero_le _⟩ (fun r110 st109 H locs hP hS h => ?_)
        refine lv_aload_n hx hb dc_T_putBelow_78 rfl (lv_at hl 2 rfl) ?_
        refine va_get (D := D) (ci := 2) (v := .int (nI (w - 1))) (C := Rn_T) (T := Fn_T) (N := 3) hx hb hts in_T hown hK hP 20 rfl rfl 1 (by decide) (hts _ mw_114) (fun _ h9 => h9) rfl dc_T_putBelow_79 ?_
        refine lv_icmp_le (tgt := 92) hx hb dc_T_putBelow_82 (by decide) (fun c => ?_) (fun c => ?_)
        · have h := h.1 c
          exact w_vret hx hb hr hlocks hP hS h dc_T_putBelow_92
        · have h := h.2 c
          refine lv_aload_n hx hb dc_T_putBelow_85 rfl (lv_at hl 2 rfl) ?_
          refine lv_iload_n hx hb dc_T_putBelow_86 rfl (lv_at hl 3 rfl) ?_
          refine lv_iload hx hb dc_T_putBelow_87 (lv_at hl 1 rfl) ?_
          refine w_cVv (y := yn_T_split) (C := Rn_T) (index := 79) (n := 2) (own := Rn_T) 20 hx hb hml hown hts hK hN hP hS (ct_T_split l D ad cA w hJ x1 r102 st109 _ h) mw_127 mw_128 mw_129 mw_130 mw_59 (by decide +kernel) (by refine ⟨?_, ?_⟩ <;> (try dsimp only [headSpec]) <;> omega) rfl rfl rfl rfl rfl hl.1 rfl (lv_room (Nat.le_of_ble_eq_true rfl)) dc_T_putBelow_89 ⟨Nat.zero_le _, Nat.zero_le _⟩ (fun st111 H locs hP hS h => ?_)
          exact w_vret hx hb hr hlocks hP hS h dc_T_putBelow_92
      · have h := h.2 c
        refine lv_aload_n hx hb dc_T_putBelow_11 rfl (lv_at hl 0 rfl) ?_
        refine lv_iload_n hx hb dc_T_putBelow_12 rfl (lv_at hl 1 rfl) ?_
        refine lv_iload_n hx hb dc_T_putBelow_13 rfl (lv_at hl 3 rfl) ?_
        refine lv_iload hx hb dc_T_putBelow_14 (lv_at hl 4 rfl) ?_
        refine w_cVv (y := yn_T_putInLeaf) (C := Rn_T) (index := 69) (n := 3) (own := Rn_T) 20 hx hb hml hown hts hK hN hP hS (ct_T_putInLeaf l D ad cA w hJ x1 x3 x4 st _ h) mw_131 mw_132 mw_133 mw_134 mw_59 (by decide +kernel) (by refine ⟨?_, ?_⟩ <;> (try dsimp only [headSpec]) <;> omega) rfl rfl rfl rfl rfl hl.1 rfl (lv_room (Nat.le_of_ble_eq_true rfl)) dc_T_putBelow_16 ⟨Nat.zero_le _, Nat.zero_le _⟩ (fun st112 H locs hP hS h => ?_)
        exact w_vret hx hb hr hlocks hP hS h dc_T_putBelow_19
    · have h := h.2 c
      exact w_vret hx hb hr hlocks hP hS h dc_T_putBelow_6
