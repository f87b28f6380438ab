set_option maxHeartbeats 4000000 in
set_option maxRecDepth 100000 in
theorem ct_R_spread (l : Launch) (D : va_G) (ad : Nat → Nat) (cA : Nat → ClassId) (w : Nat) (hJ : Jn_ ad) (x1 : Int32) (x2 : Int32) (x3 : Int32) (x4 : Int32) (x5 : Int32) (st : St_) (post : Int32 → St_ → Prop) (h : wp_R_spread w x1 x2 x3 x4 x5 st post) : Met l yn_R_spread (Cond.code yn_R_spread bc_R_spread 7 (some .int) :: Wk_) rm_R_spread (Pw_ D ad cA w st [.ref (ad 24), .int x1, .int x2, .int x3, .int x4, .int x5]) (Qi_ D ad cA w post) 0 0 (Aw_ ad) := by
  refine Met.ofW (cc := bc_R_spread) (maxL := 7) (ret := (some .int)) (by decide) rfl ?_
  intro p e s m args below meth c s₁ B hml hv
  obtain ⟨rfl, hP, hK, hN⟩ := hv
  have hx := B.exec
  have hb := B.bytes
  have hr := B.returns
  have hts : ∀ v ∈ Wk_, v.before [.ref (ad 24), .int x1, .int x2, .int x3, .int x4, .int x5].toArray s = true := fun v hv => atoms_spec (ws := Cond.code yn_R_spread bc_R_spread 7 (some .int) :: Wk_) B.pre v (List.mem_cons_of_mem _ hv)
  have hown : s.vm.findClass Rn_R = some m.cls := findClass_of_methodNamed B.named
  have hlocks := B.notSynchronized
  have hS : va_S (Aw_ ad) s.heap s.heap [] := va_S.rf
  have Lp_52 : ∀ (n : Nat) (y1 y2 y3 y4 y5 y6 : Int32) (st : St_), wp_R_spread_52 w post n y1 y2 y3 y4 y5 y6 st → ∀ (H : Heap) (locs : List Loc), va_P D sC_ (wd_ ad cA w st) H → va_S (Aw_ ad) s.heap H locs → ∀ ls : Array Slot, lv_has ls 7 [(0, .ref (ad 24)), (1, .int y1), (2, .int y2), (3, .int y3), (4, .int y4), (5, .int y5), (6, .int y6)] → W p l e (headSpec (Cond.code yn_R_spread bc_R_spread 7 (some .int) :: Wk_) rm_R_spread).room s m [.ref (ad 24), .int x1, .int x2, .int x3, .int x4, .int x5].toArray below meth c H locs 0 0 (MQ below (Qi_ D ad cA w post) [.ref (ad 24), .int x1, .int x2, .int x3, .int x4, .int x5].toArray s 0 0 (Aw_ ad)) (F0 m 52 ls []) := by
    intro n
    induction n with
    | zero => intro y1 y2 y3 y4 y5 y6 st h; exact h.elim
    | succ n ih =>
      intro y1 y2 y3 y4 y5 y6 st h H locs hP hS ls hl
      refine lv_iload hx hb dc_R_spread_52 (lv_at hl 6 rfl) ?_
      refine lv_iload hx hb dc_R_spread_54 (lv_at hl 4 rfl) ?_
      refine lv_icmp_ge (tgt := 84) hx hb dc_R_spread_56 (by decide) (fun c => ?_) (fun c => ?_)
      · have h := h.1 c
        refine lv_iload hx hb dc_R_spread_84 (lv_at hl 6 rfl) ?_
        exact w_iret hx hb hr hlocks hP hS h dc_R_spread_86
      · have h := h.2 c
        refine lv_aload_n hx hb dc_R_spread_59 rfl (lv_at hl 0 rfl) ?_
        refine lv_iload_n hx hb dc_R_spread_60 rfl (lv_at hl 1 rfl) ?_
        refine lv_iload_n hx hb dc_R_spread_61 rfl (lv_at hl 2 rfl) ?_
        refine lv_iload hx hb dc_R_spread_62 (lv_at hl 6 rfl) ?_
        refine lv_iload_n hx hb dc_R_spread_64 rfl (lv_at hl 3 rfl) ?_
        refine lv_imul hx hb dc_R_spread_65 ?_
        refine lv_iadd hx hb dc_R_spread_66 ?_
        refine lv_iload hx hb dc_R_spread_67 (lv_at hl 5 rfl) ?_
        refine lv_iload hx hb dc_R_spread_69 (lv_at hl 6 rfl) ?_
        refine lv_iadd hx hb dc_R_spread_71 ?_
        refine w_cVi (y := yn_R_write) (C := Rn_R) (index := 38) (n := 3) (own := Rn_R) 24 hx hb hml hown hts hK hN hP hS (ct_R_write l D ad cA w hJ y1 (y2 + (y6 * y3)) (y5 + y6) st _ h) mw_164 mw_169 mw_170 mw_171 mw_150 (by decide +kernel) ⟨Nat.le_of_ble_eq_true rfl, Nat.le_of_ble_eq_true rfl⟩ rfl rfl rfl rfl rfl hl.1 rfl (lv_room (Nat.le_of_ble_eq_true rfl)) dc_R_spread_72 ⟨Nat.zero_le _, Nat.zero_le _⟩ (fun r108 st107 H locs hP hS h => ?_)
        refine lv_if_lt (tgt := 84) hx hb dc_R_spread_75 (by decide) (fun c => ?_) (fun c => ?_)
        · have h := h.1 c
          refine lv_iload hx hb dc_R_spread_84 (lv_at hl 6 rfl) ?_
          exact w_iret hx hb hr hlocks hP hS h dc_R_spread_86
        · have h := h.2 c
          obtain ⟨x109, ex109⟩ : ∃ y : Int32, y = y6 + 1 := ⟨_, rfl⟩
          have h := h x109 ex109
          refine lv_iinc (v := x109) (lv' := [(6, .int x109), (0, .ref (ad 24)), (1, .int y1), (2, .int y2), (3, .int y3), (4, .int y4), (5, .int y5)]) hx hb dc_R_spread_78 hl (k := 6) rfl (by rw [ex109]; rfl) (by decide) rfl (fun ls hl => ?_)
          refine lv_goto (tgt := 52) hx hb dc_R_spread_81 (by decide) ?_
          exact ih y1 y2 y3 y4 y5 x109 st107 h _ _ hP hS ls (lv_sub hl [1, 2, 3, 4, 5, 6, 0] rfl)
  have hl := lv_entry ([.ref (ad 24), .int x1, .int x2, .int x3, .int x4, .int x5]) (n := 7) (Nat.le_of_ble_eq_true rfl)
  rw [lg_entry_eq]
  generalize (lg_sl ([.ref (ad 24), .int x1, .int x2, .int x3, .int x4, .int x5]) ++ List.replicate (7 - (lg_sl ([.ref (ad 24), .int x1, .int x2, .int x3, .int x4, .int x5])).length) Slot.unset).toArray = ls at hl ⊢
  have hl : lv_has ls 7 [(0, .ref (ad 24)), (1, .int x1), (2, .int x2), (3, .int x3), (4, .int x4), (5, .int x5)] := hl
  refine lv_iload_n hx hb dc_R_spread_0 rfl (lv_at hl 1 rfl) ?_
  refine w_cSi (y := yn_R_isMap) (index := 24) (n := 1) (own := Rn_R) hx hb hml hown hts hK hN hP hS (ct_R_isMap l D ad cA w hJ x1 st _ h) mw_147 mw_148 mw_149 mw_150 (by decide +kernel) ⟨Nat.le_of_ble_eq_true rfl, Nat.le_of_ble_eq_true rfl⟩ rfl rfl rfl hl.1 rfl (lv_room (Nat.le_of_ble_eq_true rfl)) dc_R_spread_1 ⟨Nat.zero_le _, Nat.zero_le _⟩ (fun r102 st101 H locs hP hS h => ?_)
  refine lv_if_eq (tgt := 47) hx hb dc_R_spread_4 (by decide) (fun c => ?_) (fun c => ?_)
  · have h := h.1 c
    refine lv_iconst (v := (-1)) hx hb dc_R_spread_47 (by decide) ?_
    exact w_iret hx hb hr hlocks hP hS h dc_R_spread_48
  · have h := h.2 c
    refine lv_iload_n hx hb dc_R_spread_7 rfl (lv_at hl 2 rfl) ?_
    refine w_cSi (y := yn_R_isKey) (index := 28) (n := 1) (own := Rn_R) hx hb hml hown hts hK hN hP hS (ct_R_isKey l D ad cA w hJ x2 st101 _ h) mw_151 mw_152 mw_153 mw_150 (by decide +kernel) ⟨Nat.le_of_ble_eq_true rfl, Nat.le_of_ble_eq_true rfl⟩ rfl rfl rfl hl.1 rfl (lv_room (Nat.le_of_ble_eq_true rfl)) dc_R_spread_8 ⟨Nat.zero_le _, Nat.zero_le _⟩ (fun r104 st103 H locs hP hS h => ?_)
    refine lv_if_eq (tgt := 47) hx hb dc_R_spread_11 (by decide) (fun c => ?_) (fun c => ?_)
    · have h := h.1 c
      refine lv_iconst (v := (-1)) hx hb dc_R_spread_47 (by decide) ?_
      exact w_iret hx hb hr hlocks hP hS h dc_R_spread_48
    · have h := h.2 c
      refine lv_iload_n hx hb dc_R_spread_14 rfl (lv_at hl 3 rfl) ?_
      refine lv_iconst (v := 1) hx hb dc_R_spread_15 (by decide) ?_
      refine lv_icmp_lt (tgt := 47) hx hb dc_R_spread_16 (by decide) (fun c => ?_) (fun c => ?_)
      · have h := h.1 c
        refine lv_iconst (v := (-1)) hx hb dc_R_spread_47 (by decide) ?_
        exact w_iret hx hb hr hlocks hP hS h dc_R_spread_48
      · have h := h.2 c
        refine lv_iload_n hx hb dc_R_spread_19 rfl (lv_at hl 3 rfl) ?_
        refine lv_sipush (v := 4095) hx hb dc_R_spread_20 (by decide) ?_
        refine lv_icmp_gt (tgt := 47) hx hb dc_R_spread_23 (by decide) (fun c => ?_) (fun c => ?_)
        · have h := h.1 c
          refine lv_iconst (v := (-1)) hx hb dc_R_spread_47 (by decide) ?_
          exact w_iret hx hb hr hlocks hP hS h dc_R_spread_48
        · have h := h.2 c
          refine lv_iload hx hb dc_R_spread_26 (lv_at hl 4 rfl) ?_
          refine lv_if_lt (tgt := 47) hx hb dc_R_spread_28 (by decide) (fun c => ?_) (fun c => ?_)
          · have h := h.1 c
            refine lv_iconst (v := (-1)) hx hb dc_R_spread_47 (by decide) ?_
            exact w_iret hx hb hr hlocks hP hS h dc_R_spread_48
          · have h := h.2 c
            refine lv_iload hx hb dc_R_spread_31 (lv_at hl 4 rfl) ?_
            refine lv_sipush (v := 600) hx hb dc_R_spread_33 (by decide) ?_
            refine lv_icmp_gt (tgt := 47) hx hb dc_R_spread_36 (by decide) (fun c => ?_) (fun c => ?_)
            · have h := h.1 c
              refine lv_iconst (v := (-1)) hx hb dc_R_spread_47 (by decide) ?_
              exact w_iret hx hb hr hlocks hP hS h dc_R_spread_48
            · have h := h.2 c
              refine lv_iload hx hb dc_R_spread_39 (lv_at hl 5 rfl) ?_
              refine w_cSi (y := yn_R_isStamp) (index := 31) (n := 1) (own := Rn_R) hx hb hml hown hts hK hN hP hS (ct_R_isStamp l D ad cA w hJ x5 st103 _ h) mw_155 mw_156 mw_157 mw_150 (by decide +kernel) ⟨Nat.le_of_ble_eq_true rfl, Nat.le_of_ble_eq_true rfl⟩ rfl rfl rfl hl.1 rfl (lv_room (Nat.le_of_ble_eq_true rfl)) dc_R_spread_41 ⟨Nat.zero_le _, Nat.zero_le _⟩ (fun r106 st105 H locs hP hS h => ?_)
              refine lv_if_ne (tgt := 49) hx hb dc_R_spread_44 (by decide) (fun c => ?_) (fun c => ?_)
              · have h := h.1 c
                refine lv_iconst (v := 0) hx hb dc_R_spread_49 (by decide) ?_
                refine lv_istore (lv' := [(6, .int 0), (0, .ref (ad 24)), (1, .int x1), (2, .int x2), (3, .int x3), (4, .int x4), (5, .int x5)]) hx hb dc_R_spread_50 hl (by decide) rfl (fun ls hl => ?_)
                obtain ⟨n, h⟩ := h
                exact Lp_52 n x1 x2 x3 x4 x5 0 st105 h _ _ hP hS ls (lv_sub hl [1, 2, 3, 4, 5, 6, 0] rfl)
              · have h := h.2 c
                refine lv_iconst (v := (-1)) hx hb dc_R_spread_47 (by decide) ?_
                exact w_iret hx hb hr hlocks hP hS h dc_R_spread_48
set_option maxHeartbeats 4000000 in
set_option maxRecDepth 100000 in
theorem ct_S_read (l : Launch) (D : va_G) (ad : Nat → Nat) (cA : Nat → ClassId) (w : Nat) (hJ : Jn_ ad) (x1 : Int32) (x2 : Int32) (st : St_) (post : Int32 → St_ → Prop) (h : wp_S_read w x1 x2 st post) : Met l yn_S_read (Cond.code yn_S_read bc_S_read 3 (some .int) :: Wk_) rm_S_read (Pw_ D ad cA w st [.ref (ad 18), .int x1, .int x2]) (Qi_ D ad cA w post) 0 0 (Aw_ ad) := by
  refine Met.ofW (cc := bc_S_read) (maxL := 3) (ret := (some .int)) (by decide) rfl ?_
  intro p e s m args below meth c s₁ B hml hv
  obtain ⟨rfl, hP, hK, hN⟩ := hv
  have hx := B.exec
  have hb := B.bytes
  have hr := B.returns
  have hts : ∀ v ∈ Wk_, v.before [.ref (ad 18), .int x1, .int x2].toArray s = true := fun v hv => atoms_spec (ws := Cond.code yn_S_read bc_S_read 3 (some .int) :: Wk_) B.pre v (List.mem_cons_of_mem _ hv)
  have hown : s.vm.findClass Rn_S = some m.cls := findClass_of_methodNamed B.named
  have hlocks := B.notSynchronized
  have hS : va_S (Aw_ ad) s.heap s.heap [] := va_S.rf
  have hl := lv_entry ([.ref (ad 18), .int x1, .int x2]) (n := 3) (Nat.le_of_ble_eq_true rfl)
  rw [lg_entry_eq]
  generalize (lg_sl ([.ref (ad 18), .int x1, .int x2]) ++ List.replicate (3 - (lg_sl ([.ref (ad 18), .int x1, .int x2])).length) Slot.unset).toArray = ls at hl ⊢
  have hl : lv_has ls 3 [(0, .ref (ad 18)), (1, .int x1), (2, .int x2)] := hl
  refine lv_iload_n hx hb dc_S_read_0 rfl (lv_at hl 1 rfl) ?_
  refine w_cSi (y := yn_S_isMap) (index := 53) (n := 1) (own := Rn_S) hx hb hml hown hts hK hN hP hS (ct_S_isMap l D ad cA w hJ x1 st _ h) mw_0 mw_1 mw_2 mw_3 (by decide +kernel) ⟨Nat.le_of_ble_eq_true rfl, Nat.le_of_ble_eq_true rfl⟩ rfl rfl rfl hl.1 rfl (lv_room (Nat.le_of_ble_eq_true rfl)) dc_S_read_1 ⟨Nat.zero_le _, Nat.zero_le _⟩ (fun r102 st101 H locs hP hS h => ?_)
  refine lv_if_eq (tgt := 14) hx hb dc_S_read_4 (by decide) (fun c => ?_) (fun c => ?_)
  · have h := h.1 c
    refine lv_iconst (v := (-1)) hx hb dc_S_read_14 (by decide) ?_
    exact w_iret hx hb hr hlocks hP hS h dc_S_read_15
  · have h := h.2 c
    refine lv_iload_n hx hb dc_S_read_7 rfl (lv_at hl 2 rfl) ?_
    refine w_cSi (y := yn_S_isKey) (index := 57) (n := 1) (own := Rn_S) hx hb hml hown hts hK hN hP hS (ct_S_isKey l D ad cA w hJ x2 st101 _ h) mw_4 mw_5 mw_6 mw_3 (by decide +kernel) ⟨Nat.le_of_ble_eq_true rfl, Nat.le_of_ble_eq_true rfl⟩ rfl rfl rfl hl.1 rfl (lv_room (Nat.le_of_ble_eq_true rfl)) dc_S_read_8 ⟨Nat.zero_le _, Nat.zero_le _⟩ (fun r104 st103 H locs hP hS h => ?_)
    refine lv_if_ne (tgt := 16) hx hb dc_S_read_11 (by decide) (fun c => ?_) (fun c => ?_)
    · have h := h.1 c
      refine lv_aload_n hx hb dc_S_read_16 rfl (lv_at hl 0 rfl) ?_
      refine va_get (D := D) (ci := 0) (v := .ref (ad 20)) (C := Rn_S) (T := Fn_S) (N := 5) hx hb hts in_S hown hK hP 18 rfl rfl 1 (by decide) (hts _ mw_11) (fun _ h9 => h9) rfl dc_S_read_17 ?_
      refine lv_aload_n hx hb dc_S_read_20 rfl (lv_at hl 0 rfl) ?_
      refine va_get (D := D) (ci := 0) (v := .ref (ad 22)) (C := Rn_S) (T := Fn_S) (N := 5) hx hb hts in_S hown hK hP 18 rfl rfl 3 (by decide) (hts _ mw_12) (fun _ h9 => h9) rfl dc_S_read_21 ?_
      refine va_getN (D := D) (ci := 4) (v := .ref (ad 10)) (C := Rn_P) (T := Fn_P) (N := 3) (host := nh_) hx hb hts in_P hown hK hP 22 rfl rfl 0 (by decide) (va_Nw.use rfl (hN.1 _ nf_0)) (fun _ h9 => h9) rfl dc_S_read_24 ?_
      refine lv_iload_n hx hb dc_S_read_27 rfl (lv_at hl 1 rfl) ?_
      refine w_ild 10 (by decide) hx hb hK hP h.1 dc_S_read_28 ?_
      have h := h.2
      refine lv_iload_n hx hb dc_S_read_29 rfl (lv_at hl 2 rfl) ?_
      refine w_cVi (y := yn_T_stampOf) (C := Rn_T) (index := 67) (n := 2) (own := Rn_S) 20 hx hb hml hown hts hK hN hP hS (ct_T_stampOf l D ad cA w hJ (st103 10 (x1).toNatClampNeg) x2 st103 _ h) mw_60 mw_61 mw_62 mw_63 mw_59 (by decide +kernel) ⟨Nat.le_of_ble_eq_true rfl, Nat.le_of_ble_eq_true rfl⟩ rfl rfl rfl rfl rfl hl.1 rfl (lv_room (Nat.le_of_ble_eq_true rfl)) dc_S_read_30 ⟨Nat.zero_le _, Nat.zero_le _⟩ (fun r106 st105 H locs hP hS h => ?_)
      exact w_iret hx hb hr hlocks hP hS h dc_S_read_33
    · have h := h.2 c
      refine lv_iconst (v := (-1)) hx hb dc_S_read_14 (by decide) ?_
      exact w_iret hx hb hr hlocks hP hS h dc_S_read_15
set_option maxHeartbeats 4000000 in
set_option maxRecDepth 100000 in
theorem ct_R_read (l : Launch) (D : va_G) (ad : Nat → Nat) (cA : Nat → ClassId) (w : Nat) (hJ : Jn_ ad) (x1 : Int32) (x2 : Int32) (st : St_) (post : Int32 → St_ → Prop) (h : wp_R_read w x1 x2 st post) : Met l yn_R_read (Cond.code yn_R_read bc_R_read 4 (some .int) :: Wk_) rm_R_read (Pw_ D ad cA w st [.ref (ad 24), .int x1, .int x2]) (Qi_ D ad cA w post) 0 0 (Aw_ ad) := by
  refine Met.ofW (cc := bc_R_read) (maxL := 4) (ret := (some .int)) (by decide) rfl ?_
  intro p e s m args below meth c s₁ B hml hv
  obtain ⟨rfl, hP, hK, hN⟩ := hv
  have hx := B.exec
  have hb := B.bytes
  have hr := B.returns
  have hts : ∀ v ∈ Wk_, v.before [.ref (ad 24), .int x1, .int x2].toArray s = true := fun v hv => atoms_spec (ws := Cond.code yn_R_read bc_R_read 4 (some .int) :: Wk_) B.pre v (List.mem_cons_of_mem _ hv)
  have hown : s.vm.findClass Rn_R = some m.cls := findClass_of_methodNamed B.named
  have hlocks := B.notSynchronized
  have hS : va_S (Aw_ ad) s.heap s.heap [] := va_S.rf
  have hl := lv_entry ([.ref (ad 24), .int x1, .int x2]) (n := 4) (Nat.le_of_ble_eq_true rfl)
  rw [lg_entry_eq]
  generalize (lg_sl ([.ref (ad 24), .int x1, .int x2]) ++ List.replicate (4 - (lg_sl ([.ref (ad 24), .int x1, .int x2])).length) Slot.unset).toArray = ls at hl ⊢
  have hl : lv_has ls 4 [(0, .ref (ad 24)), (1, .int x1), (2, .int x2)] := hl
  refine lv_iload_n hx hb dc_R_read_0 rfl (lv_at hl 1 rfl) ?_
  refine w_cSi (y := yn_R_isMap) (index := 24) (n := 1) (own := Rn_R) hx hb hml hown hts hK hN hP hS (ct_R_isMap l D ad cA w hJ x1 st _ h) mw_147 mw_148 mw_149 mw_150 (by decide +kernel) ⟨Nat.le_of_ble_eq_true rfl, Nat.le_of_ble_eq_true rfl⟩ rfl rfl rfl hl.1 rfl (lv_room (Nat.le_of_ble_eq_true rfl)) dc_R_read_1 ⟨Nat.zero_le _, Nat.zero_le _⟩ (fun r102 st101 H locs hP hS h => ?_)
  refine lv_if_eq (tgt := 14) hx hb dc_R_read_4 (by decide) (fun c => ?_) (fun c => ?_)
  · have h := h.1 c
    refine lv_iconst (v := (-1)) hx hb dc_R_read_14 (by decide) ?_
    exact w_iret hx hb hr hlocks hP hS h dc_R_read_15
  · have h := h.2 c
    refine lv_iload_n hx hb dc_R_read_7 rfl (lv_at hl 2 rfl) ?_
    refine w_cSi (y := yn_R_isKey) (index := 28) (n := 1) (own := Rn_R) hx hb hml hown hts hK hN hP hS (ct_R_isKey l D ad cA w hJ x2 st101 _ h) mw_151 mw_152 mw_153 mw_150 (by decide +kernel) ⟨Nat.le_of_ble_eq_true rfl, Nat.le_of_ble_eq_true rfl⟩ rfl rfl rfl hl.1 rfl (lv_room (Nat.le_of_ble_eq_true rfl)) dc_R_read_8 ⟨Nat.zero_le _, Nat.zero_le _⟩ (fun r104 st103 H locs hP hS h => ?_)
    refine lv_if_ne (tgt := 16) hx hb dc_R_read_11 (by decide) (fun c => ?_) (fun c => ?_)
    · have h := h.1 c
      refine lv_aload_n hx hb dc_R_read_16 rfl (lv_at hl 0 rfl) ?_
      refine va_get (D := D) (ci := 5) (v := .ref (ad 14)) (C := Rn_R) (T := Fn_R) (N := 4) hx hb hts in_R hown hK hP 24 rfl rfl 0 (by decide) (hts _ mw_158) (fun _ h9 => h9) rfl dc_R_read_17 ?_
      refine lv_sipush (v := 4096) hx hb dc_R_read_20 (by decide) ?_
      refine lv_iload_n hx hb dc_R_read_23 rfl (lv_at hl 1 rfl) ?_
      refine lv_imul hx hb dc_R_read_24 ?_
      refine lv_iload_n hx hb dc_R_read_25 rfl (lv_at hl 2 rfl) ?_
      refine lv_iadd hx hb dc_R_read_26 ?_
      refine w_ild 14 (by decide) hx hb hK hP h.1 dc_R_read_27 ?_
      have h := h.2
      refine lv_topi (fun x105 ex105 => ?_)
      have h := h x105 ex105
      refine lv_istore_n (lv' := [(3, .int x105), (0, .ref (ad 24)), (1, .int x1), (2, .int x2)]) hx hb dc_R_read_28 rfl hl (by decide) rfl (fun ls hl => ?_)
      refine lv_iload_n hx hb dc_R_read_29 rfl (lv_at hl 0 rfl) ?_
      refine lv_if_ne (tgt := 38) hx hb dc_R_read_30 (by decide) (fun c => ?_) (fun c => ?_)
      · have h := h.1 c
        refine lv_iload_n hx hb dc_R_read_38 rfl (lv_at hl 0 rfl) ?_
        refine lv_iconst (v := 1) hx hb dc_R_read_39 (by decide) ?_
        refine lv_isub hx hb dc_R_read_40 ?_
        exact w_iret hx hb hr hlocks hP hS h dc_R_read_41
      · have h := h.2 c
        refine lv_bipush (v := (-2)) hx hb dc_R_read_33 (by decide) ?_
        refine lv_goto (tgt := 41) hx hb dc_R_read_35 (by decide) ?_
        exact w_iret hx hb hr hlocks hP hS h dc_R_read_41
    · have h := h.2 c
      refine lv_iconst (v := (-1)) hx hb dc_R_read_14 (by decide) ?_
      exact w_iret hx hb hr hlocks hP hS h dc_R_read_15
set_option maxHeartbeats 4000000 in
set_option maxRecDepth 100000 in
theorem ct_B_remove (l : Launch) (D : va_G) (ad : Nat → Nat) (cA : Nat → ClassId) (w : Nat) (hJ : Jn_ ad) (x1 : Int32) (x2 : Int32) (st : St_) (post : St_ → Prop) (h : wp_B_remove w x1 x2 st post) : Met l yn_B_remove (Cond.code yn_B_remove bc_B_remove 5 none :: Wk_) rm_B_remove (Pw_ D ad cA w st [.ref (ad 19), .int x1, .int x2]) (Qv_ D ad cA w post) 0 0 (Aw_ ad) := by
  refine Met.ofW (cc := bc_B_remove) (maxL := 5) (ret := none) (by decide) rfl ?_
  intro p e s m args below meth c s₁ B hml hv
  obtain ⟨rfl, hP, hK, hN⟩ := hv
  have hx := B.exec
  have hb := B.bytes
  have hr := B.returns
  have hts : ∀ v ∈ Wk_, v.before [.ref (ad 19), .int x1, .int x2].toArray s = true := fun v hv => atoms_spec (ws := Cond.code yn_B_remove bc_B_remove 5 none :: Wk_) B.pre v (List.mem_cons_of_mem _ hv)
  have hown : s.vm.findClass Rn_B = some m.cls := findClass_of_methodNamed B.named
  have hlocks := B.notSynchronized
  have hS : va_S (Aw_ ad) s.heap s.heap [] := va_S.rf
  have hl := lv_entry ([.ref (ad 19), .int x1, .int x2]) (n := 5) (Nat.le_of_ble_eq_true rfl)
  rw [lg_entry_eq]
  generalize (lg_sl ([.ref (ad 19), .int x1, .int x2]) ++ List.replicate (5 - (lg_sl ([.ref (ad 19), .int x1, .int x2])).length) Slot.unset).toArray = ls at hl ⊢
  have hl : lv_has ls 5 [(0, .ref (ad 19)), (1, .int x1), (2, .int x2)] := hl
  refine lv_aload_n hx hb dc_B_remove_0 rfl (lv_at hl 0 rfl) ?_
  refine lv_iload_n hx hb dc_B_remove_1 rfl (lv_at hl 1 rfl) ?_
  refine w_cVi (y := yn_B_size) (C := Rn_B) (index := 45) (n := 1) (own := Rn_B) 19 hx hb hml hown hts hK hN hP hS (ct_B_size l D ad cA w hJ x1 st _ h) mw_26 mw_27 mw_28 mw_29 mw_18 (by decide +kernel) ⟨Nat.le_of_ble_eq_true rfl, Nat.le_of_ble_eq_true rfl⟩ rfl rfl rfl rfl rfl hl.1 rfl (lv_room (Nat.le_of_ble_eq_true rfl)) dc_B_remove_2 ⟨Nat.zero_le _, Nat.zero_le _⟩ (fun r102 st101 H locs hP hS h => ?_)
  refine lv_istore_n (lv' := [(3, .int r102), (0, .ref (ad 19)), (1, .int x1), (2, .int x2)]) hx hb dc_B_remove_5 rfl hl (by decide) rfl (fun ls hl => ?_)
  refine lv_aload_n hx hb dc_B_remove_6 rfl (lv_at hl 1 rfl) ?_
  refine lv_iload_n hx hb dc_B_remove_7 rfl (lv_at hl 2 rfl) ?_
  refine lv_iload_n hx hb dc_B_remove_8 rfl (lv_at hl 3 rfl) ?_
  refine w_cVi (y := yn_B_isEntry) (C := Rn_B) (index := 41) (n := 2) (own := Rn_B) 19 hx hb hml hown hts hK hN hP hS (ct_B_isEntry l D ad cA w hJ x1 x2 st101 _ h) mw_39 mw_40 mw_41 mw_42 mw_18 (by decide +kernel) ⟨Nat.le_of_ble_eq_true rfl, Nat.le_of_ble_eq_true rfl⟩ rfl rfl rfl rfl rfl hl.1 rfl (lv_room (Nat.le_of_ble_eq_true rfl)) dc_B_remove_9 ⟨Nat.zero_le _, Nat.zero_le _⟩ (fun r104 st103 H locs hP hS h => ?_)
  refine lv_if_eq (tgt := 23) hx hb dc_B_remove_12 (by decide) (fun c => ?_) (fun c => ?_)
  · have h := h.1 c
    exact w_vret hx hb hr hlocks hP hS h dc_B_remove_23
  · have h := h.2 c
    refine lv_iload_n hx hb dc_B_remove_15 rfl (lv_at hl 0 rfl) ?_
    refine lv_aload_n hx hb dc_B_remove_16 rfl (lv_at hl 1 rfl) ?_
    refine va_get (D := D) (ci := 1) (v := .int (nI w)) (C := Rn_B) (T := Fn_B) (N := 8) hx hb hts in_B hown hK hP 19 rfl rfl 0 (by decide) (hts _ mw_24) (fun _ h9 => h9) rfl dc_B_remove_17 ?_
    refine lv_icmp_le (tgt := 24) hx hb dc_B_remove_20 (by decide) (fun c => ?_) (fun c => ?_)
    · have h := h.1 c
      refine lv_iload_n hx hb dc_B_remove_24 rfl (lv_at hl 2 rfl) ?_
      refine lv_aload_n hx hb dc_B_remove_25 rfl (lv_at hl 1 rfl) ?_
      refine va_get (D := D) (ci := 1) (v := .int (nI w)) (C := Rn_B) (T := Fn_B) (N := 8) hx hb hts in_B hown hK hP 19 rfl rfl 0 (by decide) (hts _ mw_24) (fun _ h9 => h9) rfl dc_B_remove_26 ?_
      refine lv_imul hx hb dc_B_remove_29 ?_
      refine lv_iload_n hx hb dc_B_remove_30 rfl (lv_at hl 3 rfl) ?_
      refine lv_iadd hx hb dc_B_remove_31 ?_
      refine lv_topi (fun x105 ex105 => ?_)
      have h := h x105 ex105
      refine lv_istore (lv' := [(4, .int x105), (3, .int r102), (0, .ref (ad 19)), (1, .int x1), (2, .int x2)]) hx hb dc_B_remove_32 hl (by decide) rfl (fun ls hl => ?_)
      refine lv_aload_n hx hb dc_B_remove_34 rfl (lv_at hl 2 rfl) ?_
      refine va_get (D := D) (ci := 1) (v := .ref (ad 3)) (C := Rn_B) (T := Fn_B) (N := 8) hx hb hts in_B hown hK hP 19 rfl rfl 4 (by decide) (hts _ mw_34) (fun _ h9 => h9) rfl dc_B_remove_35 ?_
      refine lv_iload hx hb dc_B_remove_38 (lv_at hl 0 rfl) ?_
      refine lv_iconst (v := 1) hx hb dc_B_remove_40 (by decide) ?_
      refine lv_iadd hx hb dc_B_remove_41 ?_
      refine lv_aload_n hx hb dc_B_remove_42 rfl (lv_at hl 2 rfl) ?_
      refine va_get (D := D) (ci := 1) (v := .ref (ad 3)) (C := Rn_B) (T := Fn_B) (N := 8) hx hb hts in_B hown hK hP 19 rfl rfl 4 (by decide) (hts _ mw_34) (fun _ h9 => h9) rfl dc_B_remove_43 ?_
      refine lv_iload hx hb dc_B_remove_46 (lv_at hl 0 rfl) ?_
      refine lv_iload_n hx hb dc_B_remove_48 rfl (lv_at hl 1 rfl) ?_
      refine lv_iload_n hx hb dc_B_remove_49 rfl (lv_at hl 4 rfl) ?_
      refine lv_isub hx hb dc_B_remove_50 ?_
      refine lv_iconst (v := 1) hx hb dc_B_remove_51 (by decide) ?_
      refine lv_isub hx hb dc_B_remove_52 ?_
      refine w_cpy 3 3 (by decide) (by decide) hJ hx hb (hml.trans hl.1.symm) hown (hts _ mw_76) (hts _ mw_77) (hts _ mw_78) (hts _ mw_79) hK hP hS h.1 (Nat.le_of_ble_eq_true rfl) (Nat.le_of_ble_eq_true rfl) dc_B_remove_53 (fun H locs hP hS => ?_)
      obtain ⟨st106, est106⟩ : ∃ z : St_, z = ws_c st103 3 3 ((x105 + 1)).toNatClampNeg (x105).toNatClampNeg (((r102 - x2) - 1)).toNatClampNeg := ⟨_, rfl⟩
      rw [← est106] at hP
      have h := h.2 st106 est106
      refine lv_aload_n hx hb dc_B_remove_56 rfl (lv_at hl 2 rfl) ?_
      refine va_get (D := D) (ci := 1) (v := .ref (ad 4)) (C := Rn_B) (T := Fn_B) (N := 8) hx hb hts in_B hown hK hP 19 rfl rfl 5 (by decide) (hts _ mw_47) (fun _ h9 => h9) rfl dc_B_remove_57 ?_
      refine lv_iload hx hb dc_B_remove_60 (lv_at hl 0 rfl) ?_
      refine lv_iconst (v := 1) hx hb dc_B_remove_62 (by decide) ?_
      refine lv_iadd hx hb dc_B_remove_63 ?_
      refine lv_aload_n hx hb dc_B_remove_64 rfl (lv_at hl 2 rfl) ?_
      refine va_get (D := D) (ci := 1) (v := .ref (ad 4)) (C := Rn_B) (T := Fn_B) (N := 8) hx hb hts in_B hown hK hP 19 rfl rfl 5 (by decide) (hts _ mw_47) (fun _ h9 => h9) rfl dc_B_remove_65 ?_
      refine lv_iload hx hb dc_B_remove_68 (lv_at hl 0 rfl) ?_
      refine lv_iload_n hx hb dc_B_remove_70 rfl (lv_at hl 1 rfl) ?_
      refine lv_iload_n hx hb dc_B_remove_71 rfl (lv_at hl 4 rfl) ?_
      refine lv_isub hx hb dc_B_remove_72 ?_
      refine lv_iconst (v := 1) hx hb dc_B_remove_73 (by decide) ?_
      refine lv_isub hx hb dc_B_remove_74 ?_
      refine w_cpy 4 4 (by decide) (by decide) hJ hx hb (hml.trans hl.1.symm) hown (hts _ mw_76) (hts _ mw_77) (hts _ mw_78) (hts _ mw_79) hK hP hS h.1 (Nat.le_of_ble_eq_true rfl) (Nat.le_of_ble_eq_true rfl) dc_B_remove_75 (fun H locs hP hS => ?_)
      obtain ⟨st107, est107⟩ : ∃ z : St_, z = ws_c st106 4 4 ((x105 + 1)).toNatClampNeg (x105).toNatClampNeg (((r102 - x2) - 1)).toNatClampNeg := ⟨_, rfl⟩
      rw [← est107] at hP
      have h := h.2 st107 est107
      refine lv_aload_n hx hb dc_B_remove_78 rfl (lv_at hl 2 rfl) ?_
      refine va_get (D := D) (ci := 1) (v := .ref (ad 2)) (C := Rn_B) (T := Fn_B) (N := 8) hx hb hts in_B hown hK hP 19 rfl rfl 3 (by decide) (hts _ mw_25) (fun _ h9 => h9) rfl dc_B_remove_79 ?_
      refine lv_iload_n hx hb dc_B_remove_82 rfl (lv_at hl 3 rfl) ?_
      refine lv_iload_n hx hb dc_B_remove_83 rfl (lv_at hl 1 rfl) ?_
      refine lv_iconst (v := 1) hx hb dc_B_remove_84 (by decide) ?_
      refine lv_isub hx hb dc_B_remove_85 ?_
      refine w_ist 2 (by decide) hJ hx hb hK hP hS h.1 dc_B_remove_86 (fun H locs hP hS => ?_)
      obtain ⟨st108, est108⟩ : ∃ z : St_, z = ws_1 st107 2 (x1).toNatClampNeg (r102 - 1) := ⟨_, rfl⟩
      rw [← est108] at hP
      have h := h.2 st108 est108
      exact w_vret hx hb hr hlocks hP hS h dc_B_remove_87
    · have h := h.2 c
      exact w_vret hx hb hr hlocks hP hS h dc_B_remove_23
set_option maxHeartbeats 4000000 in
set_option maxRecDepth 100000 in
theorem ct_T_moveEntry (l : Launch) (D : va_G) (ad : Nat → Nat) (cA : Nat → ClassId) (w : Nat) (hJ : Jn_ ad) (x1 : Int32) (x2 : Int32) (x3 : Int32) (x4 : Int32) (st : St_) (post : St_ → Prop) (h : wp_T_moveEntry w x1 x2 x3 x4 st post) : Met l yn_T_moveEntry (Cond.code yn_T_moveEntry bc_T_moveEntry 5 none :: Wk_) rm_T_moveEntry (Pw_ D ad cA w st [.ref (ad 20), .int x1, .int x2, .int x3, .int x4]) (Qv_ D ad cA w post) 0 0 (Aw_ ad) := by
  refine Met.ofW (cc := bc_T_moveEntry) (maxL := 5) (ret := none) (by decide) rfl ?_
  intro p e s m args below meth c s₁ B hml hv
  obtain ⟨rfl, hP, hK, hN⟩ := hv
  have hx := B.exec
  have hb := B.bytes
  have hr := B.returns
  have hts : ∀ v ∈ Wk_, v.before [.ref (ad 20), .int x1, .int x2, .int x3, .int x4].toArray s = true := fun v hv => atoms_spec (ws := Cond.code yn_T_moveEntry bc_T_moveEntry 5 none :: Wk_) B.pre v (List.mem_cons_of_mem _ hv)
  have hown : s.vm.findClass Rn_T = some m.cls := findClass_of_methodNamed B.named
  have hlocks := B.notSynchronized
  have hS : va_S (Aw_ ad) s.heap s.heap [] := va_S.rf
  have hl := lv_entry ([.ref (ad 20), .int x1, .int x2, .int x3, .int x4]) (n := 5) (Nat.le_of_ble_eq_true rfl)
  rw [lg_entry_eq]
  generalize (lg_sl ([.ref (ad 20), .int x1, .int x2, .int x3, .int x4]) ++ List.replicate (5 - (lg_sl ([.ref (ad 20), .int x1, .int x2, .int x3, .int x4])).length) Slot.unset).toArray = ls at hl ⊢
  have hl : lv_has ls 5 [(0, .ref (ad 20)), (1, .int x1), (2, .int x2), (3, .int x3), (4, .int x4)] := hl
  refine lv_aload_n hx hb dc_T_moveEntry_0 rfl (lv_at hl 0 rfl) ?_
  refine va_get (D := D) (ci := 2) (v := .ref (ad 19)) (C := Rn_T) (T := Fn_T) (N := 3) hx hb hts in_T hown hK hP 20 rfl rfl 0 (by decide) (hts _ mw_13) (fun _ h9 => h9) rfl dc_T_moveEntry_1 ?_
  refine lv_iload_n hx hb dc_T_moveEntry_4 rfl (lv_at hl 3 rfl) ?_
  refine lv_iload hx hb dc_T_moveEntry_5 (lv_at hl 4 rfl) ?_
  refine lv_aload_n hx hb dc_T_moveEntry_7 rfl (lv_at hl 0 rfl) ?_
  refine va_get (D := D) (ci := 2) (v := .ref (ad 19)) (C := Rn_T) (T := Fn_T) (N := 3) hx hb hts in_T hown hK hP 20 rfl rfl 0 (by decide) (hts _ mw_13) (fun _ h9 => h9) rfl dc_T_moveEntry_8 ?_
  refine lv_iload_n hx hb dc_T_moveEntry_11 rfl (lv_at hl 1 rfl) ?_
  refine lv_iload_n hx hb dc_T_moveEntry_12 rfl (lv_at hl 2 rfl) ?_
  refine w_cVi (y := yn_B_key) (C := Rn_B) (index := 41) (n := 2) (own := Rn_T) 19 hx hb hml hown hts hK hN hP hS (ct_B_key l D ad cA w hJ x1 x2 st _ h) mw_43 mw_44 mw_45 mw_46 mw_18 (by decide +kernel) ⟨Nat.le_of_ble_eq_true rfl, Nat.le_of_ble_eq_true rfl⟩ rfl rfl rfl rfl rfl hl.1 rfl (lv_room (Nat.le_of_ble_eq_true rfl)) dc_T_moveEntry_13 ⟨Nat.zero_le _, Nat.zero_le _⟩ (fun r102 st101 H locs hP hS h => ?_)
  refine lv_aload_n hx hb dc_T_moveEntry_16 rfl (lv_at hl 0 rfl) ?_
  refine va_get (D := D) (ci := 2) (v := .ref (ad 19)) (C := Rn_T) (T := Fn_T) (N := 3) hx hb hts in_T hown hK hP 20 rfl rfl 0 (by decide) (hts _ mw_13) (fun _ h9 => h9) rfl dc_T_moveEntry_17 ?_
  refine lv_iload_n hx hb dc_T_moveEntry_20 rfl (lv_at hl 1 rfl) ?_
  refine lv_iload_n hx hb dc_T_moveEntry_21 rfl (lv_at hl 2 rfl) ?_
  refine w_cVi (y := yn_B_goal) (C := Rn_B) (index := 35) (n := 2) (own := Rn_T) 19 hx hb hml hown hts hK hN hP hS (ct_B_goal l D ad cA w hJ x1 x2 st101 _ h) mw_48 mw_49 mw_50 mw_51 mw_18 (by decide +kernel) ⟨Nat.le_of_ble_eq_true rfl, Nat.le_of_ble_eq_true rfl⟩ rfl rfl rfl rfl rfl hl.1 rfl (lv_room (Nat.le_of_ble_eq_true rfl)) dc_T_moveEntry_22 ⟨Nat.zero_le _, Nat.zero_le _⟩ (fun r104 st103 H locs hP hS h => ?_)
  refine w_cVv (y := yn_B_insert) (C := Rn_B) (index := 86) (n := 4) (own := Rn_T) 19 hx hb hml hown hts hK hN hP hS (ct_B_insert l D ad cA w hJ x3 x4 r102 r104 st103 _ h) mw_118 mw_126 mw_120 mw_121 mw_18 (by decide +kernel) ⟨Nat.le_of_ble_eq_true rfl, Nat.le_of_ble_eq_true rfl⟩ rfl rfl rfl rfl rfl hl.1 rfl (lv_room (Nat.le_of_ble_eq_true rfl)) dc_T_moveEntry_25 ⟨Nat.zero_le _, Nat.zero_le _⟩ (fun st105 H locs hP hS h => ?_)
  refine lv_aload_n hx hb dc_T_moveEntry_28 rfl (lv_at hl 0 rfl) ?_
  refine va_get (D := D) (ci := 2) (v := .ref (ad 19)) (C := Rn_T) (T := Fn_T) (N := 3) hx hb hts in_T hown hK hP 20 rfl rfl 0 (by decide) (hts _ mw_13) (fun _ h9 => h9) rfl dc_T_moveEntry_29 ?_
  refine lv_iload_n hx hb dc_T_moveEntry_32 rfl (lv_at hl 1 rfl) ?_
  refine lv_iload_n hx hb dc_T_moveEntry_33 rfl (lv_at hl 2 rfl) ?_
  refine w_cVv (y := yn_B_remove) (C := Rn_B) (index := 98) (n := 2) (own := Rn_T) 19 hx hb hml hown hts hK hN hP hS (ct_B_remove l D ad cA w hJ x1 x2 st105 _ h) mw_179 mw_180 mw_181 mw_182 mw_18 (by decide +kernel) ⟨Nat.le_of_ble_eq_true rfl, Nat.le_of_ble_eq_true rfl⟩ rfl rfl rfl rfl rfl hl.1 rfl (lv_room (Nat.le_of_ble_eq_true rfl)) dc_T_moveEntry_34 ⟨Nat.zero_le _, Nat.zero_le _⟩ (fun st106 H locs hP hS h => ?_)
  exact w_vret hx hb hr hlocks hP hS h dc_T_moveEntry_37
set_option maxHeartbeats 4000000 in
set_option maxRecDepth 100000 in
theorem ct_B_give (l : Launch) (D : va_G) (ad : Nat → Nat) (cA : Nat → ClassId) (w : Nat) (hJ : Jn_ ad) (x1 : Int32) (st : St_) (post : St_ → Prop) (h : wp_B_give w x1 st post) : Met l yn_B_give (Cond.code yn_B_give bc_B_give 2 none :: Wk_) rm_B_give (Pw_ D ad cA w st [.ref (ad 19), .int x1]) (Qv_ D ad cA w post) 0 0 (Aw_ ad) := by
  refine Met.ofW (cc := bc_B_give) (maxL := 2) (ret := none) (by decide) rfl ?_
  intro p e s m args below meth c s₁ B hml hv
  obtain ⟨rfl, hP, hK, hN⟩ := hv
  have hx := B.exec
  have hb := B.bytes
  have hr := B.returns
  have hts : ∀ v ∈ Wk_, v.before [.ref (ad 19), .int x1].toArray s = true := fun v hv => atoms_spec (ws := Cond.code yn_B_give bc_B_give 2 none :: Wk_) B.pre v (List.mem_cons_of_mem _ hv)
  have hown : s.vm.findClass Rn_B = some m.cls := findClass_of_methodNamed B.named
  have hlocks := B.notSynchronized
  have hS : va_S (Aw_ ad) s.heap s.heap [] := va_S.rf
  have hl := lv_entry ([.ref (ad 19), .int x1]) (n := 2) (Nat.le_of_ble_eq_true rfl)
  rw [lg_entry_eq]
  generalize (lg_sl ([.ref (ad 19), .int x1]) ++ List.replicate (2 - (lg_sl ([.ref (ad 19), .int x1])).length) Slot.unset).toArray = ls at hl ⊢
  have hl : lv_has ls 2 [(0, .ref (ad 19)), (1, .int x1)] := hl
  refine lv_aload_n hx hb dc_B_give_0 rfl (lv_at hl 0 rfl) ?_
  refine lv_iload_n hx hb dc_B_give_1 rfl (lv_at hl 1 rfl) ?_
  refine w_cVi (y := yn_B_isBlock) (C := Rn_B) (index := 37) (n := 1) (own := Rn_B) 19 hx hb hml hown hts hK hN hP hS (ct_B_isBlock l D ad cA w hJ x1 st _ h) mw_14 mw_15 mw_16 mw_17 mw_18 (by decide +kernel) ⟨Nat.le_of_ble_eq_true rfl, Nat.le_of_ble_eq_true rfl⟩ rfl rfl rfl rfl rfl hl.1 rfl (lv_room (Nat.le_of_ble_eq_true rfl)) dc_B_give_2 ⟨Nat.zero_le _, Nat.zero_le _⟩ (fun r102 st101 H locs hP hS h => ?_)
  refine lv_if_eq (tgt := 66) hx hb dc_B_give_5 (by decide) (fun c => ?_) (fun c => ?_)
  · have h := h.1 c
    exact w_vret hx hb hr hlocks hP hS h dc_B_give_66
  · have h := h.2 c
    refine lv_aload_n hx hb dc_B_give_8 rfl (lv_at hl 0 rfl) ?_
    refine va_get (D := D) (ci := 1) (v := .int (st101 18 0)) (C := Rn_B) (T := Fn_B) (N := 8) hx hb hts in_B hown hK hP 19 rfl rfl 7 (by decide) (hts _ mw_70) (fun _ h9 => h9) rfl dc_B_give_9 ?_
    refine lv_if_lt (tgt := 66) hx hb dc_B_give_12 (by decide) (fun c => ?_) (fun c => ?_)
    · have h := h.1 c
      exact w_vret hx hb hr hlocks hP hS h dc_B_give_66
    · have h := h.2 c
      refine lv_aload_n hx hb dc_B_give_15 rfl (lv_at hl 0 rfl) ?_
      refine va_get (D := D) (ci := 1) (v := .int (st101 18 0)) (C := Rn_B) (T := Fn_B) (N := 8) hx hb hts in_B hown hK hP 19 rfl rfl 7 (by decide) (hts _ mw_70) (fun _ h9 => h9) rfl dc_B_give_16 ?_
      refine lv_sipush (v := 1200) hx hb dc_B_give_19 (by decide) ?_
      refine lv_icmp_ge (tgt := 66) hx hb dc_B_give_22 (by decide) (fun c => ?_) (fun c => ?_)
      · have h := h.1 c
        exact w_vret hx hb hr hlocks hP hS h dc_B_give_66
      · have h := h.2 c
        refine lv_aload_n hx hb dc_B_give_25 rfl (lv_at hl 0 rfl) ?_
        refine va_get (D := D) (ci := 1) (v := .ref (ad 0)) (C := Rn_B) (T := Fn_B) (N := 8) hx hb hts in_B hown hK hP 19 rfl rfl 1 (by decide) (hts _ mw_64) (fun _ h9 => h9) rfl dc_B_give_26 ?_
        refine lv_iload_n hx hb dc_B_give_29 rfl (lv_at hl 1 rfl) ?_
        refine lv_iconst (v := 0) hx hb dc_B_give_30 (by decide) ?_
        refine w_ist 0 (by decide) hJ hx hb hK hP hS h.1 dc_B_give_31 (fun H locs hP hS => ?_)
        obtain ⟨st103, est103⟩ : ∃ z : St_, z = ws_1 st101 0 (x1).toNatClampNeg 0 := ⟨_, rfl⟩
        rw [← est103] at hP
        have h := h.2 st103 est103
        refine lv_aload_n hx hb dc_B_give_32 rfl (lv_at hl 0 rfl) ?_
        refine va_get (D := D) (ci := 1) (v := .ref (ad 1)) (C := Rn_B) (T := Fn_B) (N := 8) hx hb hts in_B hown hK hP 19 rfl rfl 2 (by decide) (hts _ mw_19) (fun _ h9 => h9) rfl dc_B_give_33 ?_
        refine lv_iload_n hx hb dc_B_give_36 rfl (lv_at hl 1 rfl) ?_
        refine lv_iconst (v := 0) hx hb dc_B_give_37 (by decide) ?_
        refine w_ist 1 (by decide) hJ hx hb hK hP hS h.1 dc_B_give_38 (fun H locs hP hS => ?_)
        obtain ⟨st104, est104⟩ : ∃ z : St_, z = ws_1 st103 1 (x1).toNatClampNeg 0 := ⟨_, rfl⟩
        rw [← est104] at hP
        have h := h.2 st104 est104
        refine lv_aload_n hx hb dc_B_give_39 rfl (lv_at hl 0 rfl) ?_
        refine va_get (D := D) (ci := 1) (v := .ref (ad 2)) (C := Rn_B) (T := Fn_B) (N := 8) hx hb hts in_B hown hK hP 19 rfl rfl 3 (by decide) (hts _ mw_25) (fun _ h9 => h9) rfl dc_B_give_40 ?_
        refine lv_iload_n hx hb dc_B_give_43 rfl (lv_at hl 1 rfl) ?_
        refine lv_iconst (v := 0) hx hb dc_B_give_44 (by decide) ?_
        refine w_ist 2 (by decide) hJ hx hb hK hP hS h.1 dc_B_give_45 (fun H locs hP hS => ?_)
        obtain ⟨st105, est105⟩ : ∃ z : St_, z = ws_1 st104 2 (x1).toNatClampNeg 0 := ⟨_, rfl⟩
        rw [← est105] at hP
        have h := h.2 st105 est105
        refine lv_aload_n hx hb dc_B_give_46 rfl (lv_at hl 0 rfl) ?_
        refine va_get (D := D) (ci := 1) (v := .ref (ad 5)) (C := Rn_B) (T := Fn_B) (N := 8) hx hb hts in_B hown hK hP 19 rfl rfl 6 (by decide) (hts _ mw_71) (fun _ h9 => h9) rfl dc_B_give_47 ?_
        refine lv_aload_n hx hb dc_B_give_50 rfl (lv_at hl 0 rfl) ?_
        refine va_get (D := D) (ci := 1) (v := .int (st105 18 0)) (C := Rn_B) (T := Fn_B) (N := 8) hx hb hts in_B hown hK hP 19 rfl rfl 7 (by decide) (hts _ mw_70) (fun _ h9 => h9) rfl dc_B_give_51 ?_
        refine lv_iload_n hx hb dc_B_give_54 rfl (lv_at hl 1 rfl) ?_
        refine w_ist 5 (by decide) hJ hx hb hK hP hS h.1 dc_B_give_55 (fun H locs hP hS => ?_)
        obtain ⟨st106, est106⟩ : ∃ z : St_, z = ws_1 st105 5 ((st105 18 0)).toNatClampNeg x1 := ⟨_, rfl⟩
        rw [← est106] at hP
        have h := h.2 st106 est106
        refine lv_aload_n hx hb dc_B_give_56 rfl (lv_at hl 0 rfl) ?_
        refine lv_dup hx hb dc_B_give_57 rfl ?_
        refine va_get (D := D) (ci := 1) (v := .int (st106 18 0)) (C := Rn_B) (T := Fn_B) (N := 8) hx hb hts in_B hown hK hP 19 rfl rfl 7 (by decide) (hts _ mw_70) (fun _ h9 => h9) rfl dc_B_give_58 ?_
        refine lv_iconst (v := 1) hx hb dc_B_give_61 (by decide) ?_
        refine lv_iadd hx hb dc_B_give_62 ?_
        refine va_put (D := D) (ci := 1) (v := .int ((st106 18 0) + 1)) (ty := .int) (C := Rn_B) (T := Fn_B) (N := 8) hx hb hts in_B Tn_B to_B nn_B hown hK hP (wd_D hJ) hS 19 rfl rfl 7 (by decide) (hts _ mw_70) (fun _ h9 => h9) rfl (by decide +kernel) rfl rfl (Nat.le_of_ble_eq_true rfl) dc_B_give_63 (fun H locs hP _ hS => ?_)
        obtain ⟨st107, est107⟩ : ∃ z : St_, z = ws_1 st106 18 0 ((st106 18 0) + 1) := ⟨_, rfl⟩
        have hP : va_P D sC_ (wd_ ad cA w st107) H := by rw [est107]; exact hP
        have h := h st107 est107
        exact w_vret hx hb hr hlocks hP hS h dc_B_give_66
set_option maxHeartbeats 4000000 in
set_option maxRecDepth 100000 in
theorem ct_T_fill (l : Launch) (D : va_G) (ad : Nat → Nat) (cA : Nat → ClassId) (w : Nat) (hJ : Jn_ ad) (x1 : Int32) (x2 : Int32) (st : St_) (post : St_ → Prop) (h : wp_T_fill w x1 x2 st post) : Met l yn_T_fill (Cond.code yn_T_fill bc_T_fill 5 none :: Wk_) rm_T_fill (Pw_ D ad cA w st [.ref (ad 20), .int x1, .int x2]) (Qv_ D ad cA w post) 0 0 (Aw_ ad) := by
  refine Met.ofW (cc := bc_T_fill) (maxL := 5) (ret := none) (by decide) rfl ?_
  intro p e s m args below meth c s₁ B hml hv
  obtain ⟨rfl, hP, hK, hN⟩ := hv
  have hx := B.exec
  have hb := B.bytes
  have hr := B.returns
  have hts : ∀ v ∈ Wk_, v.before [.ref (ad 20), .int x1, .int x2].toArray s = true := fun v hv => atoms_spec (ws := Cond.code yn_T_fill bc_T_fill 5 none :: Wk_) B.pre v (List.mem_cons_of_mem _ hv)
  have hown : s.vm.findClass Rn_T = some m.cls := findClass_of_methodNamed B.named
  have hlocks := B.notSynchronized
  have hS : va_S (Aw_ ad) s.heap s.heap [] := va_S.rf
  have hl := lv_entry ([.ref (ad 20), .int x1, .int x2]) (n := 5) (Nat.le_of_ble_eq_true rfl)
  rw [lg_entry_eq]
  generalize (lg_sl ([.ref (ad 20), .int x1, .int x2]) ++ List.replicate (5 - (lg_sl ([.ref (ad 20), .int x1, .int x2])).length) Slot.unset).toArray = ls at hl ⊢
  have hl : lv_has ls 5 [(0, .ref (ad 20)), (1, .int x1), (2, .int x2)] := hl
  refine lv_aload_n hx hb dc_T_fill_0 rfl (lv_at hl 0 rfl) ?_
  refine lv_iload_n hx hb dc_T_fill_1 rfl (lv_at hl 1 rfl) ?_
  refine lv_iload_n hx hb dc_T_fill_2 rfl (lv_at hl 2 rfl) ?_
  refine w_cVi (y := yn_T_ownedChild) (C := Rn_T) (index := 73) (n := 2) (own := Rn_T) 20 hx hb hml hown hts hK hN hP hS (ct_T_ownedChild l D ad cA w hJ x1 x2 st _ h) mw_101 mw_102 mw_103 mw_104 mw_59 (by decide +kernel) ⟨Nat.le_of_ble_eq_true rfl, Nat.le_of_ble_eq_true rfl⟩ rfl rfl rfl rfl rfl hl.1 rfl (lv_room (Nat.le_of_ble_eq_true rfl)) dc_T_fill_3 ⟨Nat.zero_le _, Nat.zero_le _⟩ (fun r102 st101 H locs hP hS h => ?_)
  refine lv_istore_n (lv' := [(3, .int r102), (0, .ref (ad 20)), (1, .int x1), (2, .int x2)]) hx hb dc_T_fill_6 rfl hl (by decide) rfl (fun ls hl => ?_)
  refine lv_aload_n hx hb dc_T_fill_7 rfl (lv_at hl 1 rfl) ?_
  refine lv_iload_n hx hb dc_T_fill_8 rfl (lv_at hl 2 rfl) ?_
  refine lv_iload_n hx hb dc_T_fill_9 rfl (lv_at hl 3 rfl) ?_
  refine lv_iconst (v := 1) hx hb dc_T_fill_10 (by decide) ?_
  refine lv_iadd hx hb dc_T_fill_11 ?_
  refine w_cVi (y := yn_T_ownedChild) (C := Rn_T) (index := 73) (n := 2) (own := Rn_T) 20 hx hb hml hown hts hK hN hP hS (ct_T_ownedChild l D ad cA w hJ x1 (x2 + 1) st101 _ h) mw_101 mw_102 mw_103 mw_104 mw_59 (by decide +kernel) ⟨Nat.le_of_ble_eq_true rfl, Nat.le_of_ble_eq_true rfl⟩ rfl rfl rfl rfl rfl hl.1 rfl (lv_room (Nat.le_of_ble_eq_true rfl)) dc_T_fill_12 ⟨Nat.zero_le _, Nat.zero_le _⟩ (fun r104 st103 H locs hP hS h => ?_)
  refine lv_istore (lv' := [(4, .int r104), (3, .int r102), (0, .ref (ad 20)), (1, .int x1), (2, .int x2)]) hx hb dc_T_fill_15 hl (by decide) rfl (fun ls hl => ?_)
  refine lv_aload_n hx hb dc_T_fill_17 rfl (lv_at hl 2 rfl) ?_
  refine va_get (D := D) (ci := 2) (v := .ref (ad 19)) (C := Rn_T) (T := Fn_T) (N := 3) hx hb hts in_T hown hK hP 20 rfl rfl 0 (by decide) (hts _ mw_13) (fun _ h9 => h9) rfl dc_T_fill_18 ?_
  refine lv_iload_n hx hb dc_T_fill_21 rfl (lv_at hl 1 rfl) ?_
  refine w_cVi (y := yn_B_size) (C := Rn_B) (index := 48) (n := 1) (own := Rn_T) 19 hx hb hml hown hts hK hN hP hS (ct_B_size l D ad cA w hJ r102 st103 _ h) mw_26 mw_113 mw_28 mw_29 mw_18 (by decide +kernel) ⟨Nat.le_of_ble_eq_true rfl, Nat.le_of_ble_eq_true rfl⟩ rfl rfl rfl rfl rfl hl.1 rfl (lv_room (Nat.le_of_ble_eq_true rfl)) dc_T_fill_22 ⟨Nat.zero_le _, Nat.zero_le _⟩ (fun r106 st105 H locs hP hS h => ?_)
  refine lv_aload_n hx hb dc_T_fill_25 rfl (lv_at hl 2 rfl) ?_
  refine va_get (D := D) (ci := 2) (v := .ref (ad 19)) (C := Rn_T) (T := Fn_T) (N := 3) hx hb hts in_T hown hK hP 20 rfl rfl 0 (by decide) (hts _ mw_13) (fun _ h9 => h9) rfl dc_T_fill_26 ?_
  refine lv_iload hx hb dc_T_fill_29 (lv_at hl 0 rfl) ?_
  refine w_cVi (y := yn_B_size) (C := Rn_B) (index := 48) (n := 1) (own := Rn_T) 19 hx hb hml hown hts hK hN hP hS (ct_B_size l D ad cA w hJ r104 st105 _ h) mw_26 mw_113 mw_28 mw_29 mw_18 (by decide +kernel) ⟨Nat.le_of_ble_eq_true rfl, Nat.le_of_ble_eq_true rfl⟩ rfl rfl rfl rfl rfl hl.1 rfl (lv_room (Nat.le_of_ble_eq_true rfl)) dc_T_fill_31 ⟨Nat.zero_le _, Nat.zero_le _⟩ (fun r108 st107 H locs hP hS h => ?_)
  refine lv_iadd hx hb dc_T_fill_34 ?_
  refine lv_aload_n hx hb dc_T_fill_35 rfl (lv_at hl 2 rfl) ?_
  refine va_get (D := D) (ci := 2) (v := .int (nI (w - 1))) (C := Rn_T) (T := Fn_T) (N := 3) hx hb hts in_T hown hK hP 20 rfl rfl 1 (by decide) (hts _ mw_114) (fun _ h9 => h9) rfl dc_T_fill_36 ?_
  refine lv_icmp_gt (tgt := 74) hx hb dc_T_fill_39 (by decide) (fun c => ?_) (fun c => ?_)
  · have h := h.1 c
    refine lv_aload_n hx hb dc_T_fill_74 rfl (lv_at hl 2 rfl) ?_
    refine va_get (D := D) (ci := 2) (v := .ref (ad 19)) (C := Rn_T) (T := Fn_T) (N := 3) hx hb hts in_T hown hK hP 20 rfl rfl 0 (by decide) (hts _ mw_13) (fun _ h9 => h9) rfl dc_T_fill_75 ?_
    refine lv_iload_n hx hb dc_T_fill_78 rfl (lv_at hl 1 rfl) ?_
    refine w_cVi (y := yn_B_size) (C := Rn_B) (index := 48) (n := 1) (own := Rn_T) 19 hx hb hml hown hts hK hN hP hS (ct_B_size l D ad cA w hJ r102 st107 _ h) mw_26 mw_113 mw_28 mw_29 mw_18 (by decide +kernel) ⟨Nat.le_of_ble_eq_true rfl, Nat.le_of_ble_eq_true rfl⟩ rfl rfl rfl rfl rfl hl.1 rfl (lv_room (Nat.le_of_ble_eq_true rfl)) dc_T_fill_79 ⟨Nat.zero_le _, Nat.zero_le _⟩ (fun r110 st109 H locs hP hS h => ?_)
    refine lv_aload_n hx hb dc_T_fill_82 rfl (lv_at hl 2 rfl) ?_
    refine va_get (D := D) (ci := 2) (v := .ref (ad 19)) (C := Rn_T) (T := Fn_T) (N := 3) hx hb hts in_T hown hK hP 20 rfl rfl 0 (by decide) (hts _ mw_13) (fun _ h9 => h9) rfl dc_T_fill_83 ?_
    refine lv_iload hx hb dc_T_fill_86 (lv_at hl 0 rfl) ?_
    refine w_cVi (y := yn_B_size) (C := Rn_B) (index := 48) (n := 1) (own := Rn_T) 19 hx hb hml hown hts hK hN hP hS (ct_B_size l D ad cA w hJ r104 st109 _ h) mw_26 mw_113 mw_28 mw_29 mw_18 (by decide +kernel) ⟨Nat.le_of_ble_eq_true rfl, Nat.le_of_ble_eq_true rfl⟩ rfl rfl rfl rfl rfl hl.1 rfl (lv_room (Nat.le_of_ble_eq_true rfl)) dc_T_fill_88 ⟨Nat.zero_le _, Nat.zero_le _⟩ (fun r112 st111 H locs hP hS h => ?_)
    refine lv_icmp_ge (tgt := 113) hx hb dc_T_fill_91 (by decide) (fun c => ?_) (fun c => ?_)
    · have h := h.1 c
      refine lv_aload_n hx hb dc_T_fill_113 rfl (lv_at hl 2 rfl) ?_
      refine lv_iload_n hx hb dc_T_fill_114 rfl (lv_at hl 1 rfl) ?_
      refine lv_aload_n hx hb dc_T_fill_115 rfl (lv_at hl 2 rfl) ?_
      refine va_get (D := D) (ci := 2) (v := .ref (ad 19)) (C := Rn_T) (T := Fn_T) (N := 3) hx hb hts in_T hown hK hP 20 rfl rfl 0 (by decide) (hts _ mw_13) (fun _ h9 => h9) rfl dc_T_fill_116 ?_
      refine lv_iload_n hx hb dc_T_fill_119 rfl (lv_at hl 1 rfl) ?_
      refine w_cVi (y := yn_B_size) (C := Rn_B) (index := 48) (n := 1) (own := Rn_T) 19 hx hb hml hown hts hK hN hP hS (ct_B_size l D ad cA w hJ r102 st111 _ h) mw_26 mw_113 mw_28 mw_29 mw_18 (by decide +kernel) ⟨Nat.le_of_ble_eq_true rfl, Nat.le_of_ble_eq_true rfl⟩ rfl rfl rfl rfl rfl hl.1 rfl (lv_room (Nat.le_of_ble_eq_true rfl)) dc_T_fill_120 ⟨Nat.zero_le _, Nat.zero_le _⟩ (fun r114 st113 H locs hP hS h => ?_)
      refine lv_iconst (v := 1) hx hb dc_T_fill_123 (by decide) ?_
      refine lv_isub hx hb dc_T_fill_124 ?_
      refine lv_iload hx hb dc_T_fill_125 (lv_at hl 0 rfl) ?_
      refine lv_iconst (v := 0) hx hb dc_T_fill_127 (by decide) ?_
      refine w_cVv (y := yn_T_moveEntry) (C := Rn_T) (index := 108) (n := 4) (own := Rn_T) 20 hx hb hml hown hts hK hN hP hS (ct_T_moveEntry l D ad cA w hJ r102 (r114 - 1) r104 0 st113 _ h) mw_183 mw_184 mw_185 mw_186 mw_59 (by decide +kernel) ⟨Nat.le_of_ble_eq_true rfl, Nat.le_of_ble_eq_true rfl⟩ rfl rfl rfl rfl rfl hl.1 rfl (lv_room (Nat.le_of_ble_eq_true rfl)) dc_T_fill_128 ⟨Nat.zero_le _, Nat.zero_le _⟩ (fun st115 H locs hP hS h => ?_)
      refine lv_aload_n hx hb dc_T_fill_131 rfl (lv_at hl 2 rfl) ?_
      refine va_get (D := D) (ci := 2) (v := .ref (ad 19)) (C := Rn_T) (T := Fn_T) (N := 3) hx hb hts in_T hown hK hP 20 rfl rfl 0 (by decide) (hts _ mw_13) (fun _ h9 => h9) rfl dc_T_fill_132 ?_
      refine lv_iload_n hx hb dc_T_fill_135 rfl (lv_at hl 3 rfl) ?_
      refine lv_iload_n hx hb dc_T_fill_136 rfl (lv_at hl 4 rfl) ?_
      refine lv_iconst (v := 1) hx hb dc_T_fill_137 (by decide) ?_
      refine lv_iadd hx hb dc_T_fill_138 ?_
      refine lv_aload_n hx hb dc_T_fill_139 rfl (lv_at hl 2 rfl) ?_
      refine va_get (D := D) (ci := 2) (v := .ref (ad 19)) (C := Rn_T) (T := Fn_T) (N := 3) hx hb hts in_T hown hK hP 20 rfl rfl 0 (by decide) (hts _ mw_13) (fun _ h9 => h9) rfl dc_T_fill_140 ?_
      refine lv_iload hx hb dc_T_fill_143 (lv_at hl 0 rfl) ?_
      refine lv_iconst (v := 0) hx hb dc_T_fill_145 (by decide) ?_
      refine w_cVi (y := yn_B_key) (C := Rn_B) (index := 41) (n := 2) (own := Rn_T) 19 hx hb hml hown hts hK hN hP hS (ct_B_key l D ad cA w hJ r104 0 st115 _ h) mw_43 mw_44 mw_45 mw_46 mw_18 (by decide +kernel) ⟨Nat.le_of_ble_eq_true rfl, Nat.le_of_ble_eq_true rfl⟩ rfl rfl rfl rfl rfl hl.1 rfl (lv_room (Nat.le_of_ble_eq_true rfl)) dc_T_fill_146 ⟨Nat.zero_le _, Nat.zero_le _⟩ (fun r117 st116 H locs hP hS h => ?_)
      refine w_cVv (y := yn_B_setKey) (C := Rn_B) (index := 76) (n := 3) (own := Rn_T) 19 hx hb hml hown hts hK hN hP hS (ct_B_setKey l D ad cA w hJ x1 (x2 + 1) r117 st116 _ h) mw_109 mw_110 mw_111 mw_112 mw_18 (by decide +kernel) ⟨Nat.le_of_ble_eq_true rfl, Nat.le_of_ble_eq_true rfl⟩ rfl rfl rfl rfl rfl hl.1 rfl (lv_room (Nat.le_of_ble_eq_true rfl)) dc_T_fill_149 ⟨Nat.zero_le _, Nat.zero_le _⟩ (fun st118 H locs hP hS h => ?_)
      exact w_vret hx hb hr hlocks hP hS h dc_T_fill_152
    · have h := h.2 c
      refine lv_aload_n hx hb dc_T_fill_94 rfl (lv_at hl 2 rfl) ?_
      refine lv_iload hx hb dc_T_fill_95 (lv_at hl 0 rfl) ?_
      refine lv_iconst (v := 0) hx hb dc_T_fill_97 (by decide) ?_
      refine lv_iload_n hx hb dc_T_fill_98 rfl (lv_at hl 1 rfl) ?_
      refine lv_aload_n hx hb dc_T_fill_99 rfl (lv_at hl 2 rfl) ?_
      refine va_get (D := D) (ci := 2) (v := .ref (ad 19)) (C := Rn_T) (T := Fn_T) (N := 3) hx hb hts in_T hown hK hP 20 rfl rfl 0 (by decide) (hts _ mw_13) (fun _ h9 => h9) rfl dc_T_fill_100 ?_
      refine lv_iload_n hx hb dc_T_fill_103 rfl (lv_at hl 1 rfl) ?_
      refine w_cVi (y := yn_B_size) (C := Rn_B) (index := 48) (n := 1) (own := Rn_T) 19 hx hb hml hown hts hK hN hP hS (ct_B_size l D ad cA w hJ r102 st111 _ h) mw_26 mw_113 mw_28 mw_29 mw_18 (by decide +kernel) ⟨Nat.le_of_ble_eq_true rfl, Nat.le_of_ble_eq_true rfl⟩ rfl rfl rfl rfl rfl hl.1 rfl (lv_room (Nat.le_of_ble_eq_true rfl)) dc_T_fill_104 ⟨Nat.zero_le _, Nat.zero_le _⟩ (fun r120 st119 H locs hP hS h => ?_)
      refine w_cVv (y := yn_T_moveEntry) (C := Rn_T) (index := 108) (n := 4) (own := Rn_T) 20 hx hb hml hown hts hK hN hP hS (ct_T_moveEntry l D ad cA w hJ r104 0 r102 r120 st119 _ h) mw_183 mw_184 mw_185 mw_186 mw_59 (by decide +kernel) ⟨Nat.le_of_ble_eq_true rfl, Nat.le_of_ble_eq_true rfl⟩ rfl rfl rfl rfl rfl hl.1 rfl (lv_room (Nat.le_of_ble_eq_true rfl)) dc_T_fill_107 ⟨Nat.zero_le _, Nat.zero_le _⟩ (fun st121 H locs hP hS h => ?_)
      refine lv_goto (tgt := 131) hx hb dc_T_fill_110 (by decide) ?_
      refine lv_aload_n hx hb dc_T_fill_131 rfl (lv_at hl 2 rfl) ?_
      refine va_get (D := D) (ci := 2) (v := .ref (ad 19)) (C := Rn_T) (T := Fn_T) (N := 3) hx hb hts in_T hown hK hP 20 rfl rfl 0 (by decide) (hts _ mw_13) (fun _ h9 => h9) rfl dc_T_fill_132 ?_
      refine lv_iload_n hx hb dc_T_fill_135 rfl (lv_at hl 3 rfl) ?_
      refine lv_iload_n hx hb dc_T_fill_136 rfl (lv_at hl 4 rfl) ?_
      refine lv_iconst (v := 1) hx hb dc_T_fill_137 (by decide) ?_
      refine lv_iadd hx hb dc_T_fill_138 ?_
      refine lv_aload_n hx hb dc_T_fill_139 rfl (lv_at hl 2 rfl) ?_
      refine va_get (D := D) (ci := 2) (v := .ref (ad 19)) (C := Rn_T) (T := Fn_T) (N := 3) hx hb hts in_T hown hK hP 20 rfl rfl 0 (by decide) (hts _ mw_13) (fun _ h9 => h9) rfl dc_T_fill_140 ?_
      refine lv_iload hx hb dc_T_fill_143 (lv_at hl 0 rfl) ?_
      refine lv_iconst (v := 0) hx hb dc_T_fill_145 (by decide) ?_
      refine w_cVi (y := yn_B_key) (C := Rn_B) (index := 41) (n := 2) (own := Rn_T) 19 hx hb hml hown hts hK hN hP hS (ct_B_key l D ad cA w hJ r104 0 st121 _ h) mw_43 mw_44 mw_45 mw_46 mw_18 (by decide +kernel) ⟨Nat.le_of_ble_eq_true rfl, Nat.le_of_ble_eq_true rfl⟩ rfl rfl rfl rfl rfl hl.1 rfl (lv_room (Nat.le_of_ble_eq_true rfl)) dc_T_fill_146 ⟨Nat.zero_le _, Nat.zero_le _⟩ (fun r123 st122 H locs hP hS h => ?_)
      refine w_cVv (y := yn_B_setKey) (C := Rn_B) (index := 76) (n := 3) (own := Rn_T) 19 hx hb hml hown hts hK hN hP hS (ct_B_setKey l D ad cA w hJ x1 (x2 + 1) r123 st122 _ h) mw_109 mw_110 mw_111 mw_112 mw_18 (by decide +kernel) ⟨Nat.le_of_ble_eq_true rfl, Nat.le_of_ble_eq_true rfl⟩ rfl rfl rfl rfl rfl hl.1 rfl (lv_room (Nat.le_of_ble_eq_true rfl)) dc_T_fill_149 ⟨Nat.zero_le _, Nat.zero_le _⟩ (fun st124 H locs hP hS h => ?_)
      exact w_vret hx hb hr hlocks hP hS h dc_T_fill_152
  · have h := h.2 c
    refine lv_aload_n hx hb dc_T_fill_42 rfl (lv_at hl 2 rfl) ?_
    refine va_get (D := D) (ci := 2) (v := .ref (ad 19)) (C := Rn_T) (T := Fn_T) (N := 3) hx hb hts in_T hown hK hP 20 rfl rfl 0 (by decide) (hts _ mw_13) (fun _ h9 => h9) rfl dc_T_fill_43 ?_
    refine lv_iload hx hb dc_T_fill_46 (lv_at hl 0 rfl) ?_
    refine lv_iconst (v := 0) hx hb dc_T_fill_48 (by decide) ?_
    refine lv_iload_n hx hb dc_T_fill_49 rfl (lv_at hl 1 rfl) ?_
    refine w_cVv (y := yn_B_moveTail) (C := Rn_B) (index := 89) (n := 3) (own := Rn_T) 19 hx hb hml hown hts hK hN hP hS (ct_B_moveTail l D ad cA w hJ r104 0 r102 st107 _ h) mw_122 mw_123 mw_124 mw_125 mw_18 (by decide +kernel) ⟨Nat.le_of_ble_eq_true rfl, Nat.le_of_ble_eq_true rfl⟩ rfl rfl rfl rfl rfl hl.1 rfl (lv_room (Nat.le_of_ble_eq_true rfl)) dc_T_fill_50 ⟨Nat.zero_le _, Nat.zero_le _⟩ (fun st125 H locs hP hS h => ?_)
    refine lv_aload_n hx hb dc_T_fill_53 rfl (lv_at hl 2 rfl) ?_
    refine va_get (D := D) (ci := 2) (v := .ref (ad 19)) (C := Rn_T) (T := Fn_T) (N := 3) hx hb hts in_T hown hK hP 20 rfl rfl 0 (by decide) (hts _ mw_13) (fun _ h9 => h9) rfl dc_T_fill_54 ?_
    refine lv_iload hx hb dc_T_fill_57 (lv_at hl 0 rfl) ?_
    refine w_cVv (y := yn_B_give) (C := Rn_B) (index := 104) (n := 1) (own := Rn_T) 19 hx hb hml hown hts hK hN hP hS (ct_B_give l D ad cA w hJ r104 st125 _ h) mw_187 mw_188 mw_189 mw_190 mw_18 (by decide +kernel) ⟨Nat.le_of_ble_eq_true rfl, Nat.le_of_ble_eq_true rfl⟩ rfl rfl rfl rfl rfl hl.1 rfl (lv_room (Nat.le_of_ble_eq_true rfl)) dc_T_fill_59 ⟨Nat.zero_le _, Nat.zero_le _⟩ (fun st126 H locs hP hS h => ?_)
    refine lv_aload_n hx hb dc_T_fill_62 rfl (lv_at hl 2 rfl) ?_
    refine va_get (D := D) (ci := 2) (v := .ref (ad 19)) (C := Rn_T) (T := Fn_T) (N := 3) hx hb hts in_T hown hK hP 20 rfl rfl 0 (by decide) (hts _ mw_13) (fun _ h9 => h9) rfl dc_T_fill_63 ?_
    refine lv_iload_n hx hb dc_T_fill_66 rfl (lv_at hl 3 rfl) ?_
    refine lv_iload_n hx hb dc_T_fill_67 rfl (lv_at hl 4 rfl) ?_
    refine lv_iconst (v := 1) hx hb dc_T_fill_68 (by decide) ?_
    refine lv_iadd hx hb dc_T_fill_69 ?_
    refine w_cVv (y := yn_B_remove) (C := Rn_B) (index := 98) (n := 2) (own := Rn_T) 19 hx hb hml hown hts hK hN hP hS (ct_B_remove l D ad cA w hJ x1 (x2 + 1) st126 _ h) mw_179 mw_180 mw_181 mw_182 mw_18 (by decide +kernel) ⟨Nat.le_of_ble_eq_true rfl, Nat.le_of_ble_eq_true rfl⟩ rfl rfl rfl rfl rfl hl.1 rfl (lv_room (Nat.le_of_ble_eq_true rfl)) dc_T_fill_70 ⟨Nat.zero_le _, Nat.zero_le _⟩ (fun st127 H locs hP hS h => ?_)
    exact w_vret hx hb hr hlocks hP hS h dc_T_fill_73
set_option maxHeartbeats 4000000 in
set_option maxRecDepth 100000 in
theorem ct_T_removeBelow (l : Launch) (D : va_G) (ad : Nat → Nat) (cA : Nat → ClassId) (w : Nat) (hJ : Jn_ ad) (d : Nat) : ∀ (x1 : Int32) (x2 : Int32) (x3 : Int32) (st : St_) (post : St_ → Prop), wp_T_removeBelow w d x1 x2 x3 st post → Met l yn_T_removeBelow (Cond.code yn_T_removeBelow bc_T_removeBelow 6 none :: Wk_) (rm_T_removeBelow d) (Pw_ D ad cA w st [.ref (ad 20), .int x1, .int x2, .int x3]) (Qv_ D ad cA w post) 0 0 (Aw_ ad) := by
  induction d with
  | zero =>
    intro x1 x2 x3 st post h
    exact h.elim
  | succ d ihd =>
    intro x1 x2 x3 st post h
    refine Met.ofW (cc := bc_T_removeBelow) (maxL := 6) (ret := none) (by decide) rfl ?_
    intro p e s m args below meth c s₁ B hml hv
    obtain ⟨rfl, hP, hK, hN⟩ := hv
    have hx := B.exec
    have hb := B.bytes
    have hr := B.returns
    have hts : ∀ v ∈ Wk_, v.before [.ref (ad 20), .int x1, .int x2, .int x3].toArray s = true := fun v hv => atoms_spec (ws := Cond.code yn_T_removeBelow bc_T_removeBelow 6 none :: Wk_) B.pre v (List.mem_cons_of_mem _ hv)
    have hown : s.vm.findClass Rn_T = some m.cls := findClass_of_methodNamed B.named
    have hlocks := B.notSynchronized
    have hS : va_S (Aw_ ad) s.heap s.heap [] := va_S.rf
    have hl := lv_entry ([.ref (ad 20), .int x1, .int x2, .int x3]) (n := 6) (Nat.le_of_ble_eq_true rfl)
    rw [lg_entry_eq]
    generalize (lg_sl ([.ref (ad 20), .int x1, .int x2, .int x3]) ++ List.replicate (6 - (lg_sl ([.ref (ad 20), .int x1, .int x2, .int x3])).length) Slot.unset).toArray = ls at hl ⊢
    have hl : lv_has ls 6 [(0, .ref (ad 20)), (1, .int x1), (2, .int x2), (3, .int x3)] := hl
    refine lv_iload_n hx hb dc_T_removeBelow_0 rfl (lv_at hl 2 rfl) ?_
    refine lv_bipush (v := 16) hx hb dc_T_removeBelow_1 (by decide) ?_
    refine lv_icmp_le (tgt := 7) hx hb dc_T_removeBelow_3 (by decide) (fun c => ?_) (fun c => ?_)
    · have h := h.1 c
      refine lv_iload_n hx hb dc_T_removeBelow_7 rfl (lv_at hl 2 rfl) ?_
      refine lv_if_gt (tgt := 29) hx hb dc_T_removeBelow_8 (by decide) (fun c => ?_) (fun c => ?_)
      · have h := h.1 c
        refine lv_aload_n hx hb dc_T_removeBelow_29 rfl (lv_at hl 0 rfl) ?_
        refine lv_iload_n hx hb dc_T_removeBelow_30 rfl (lv_at hl 1 rfl) ?_
        refine lv_iload_n hx hb dc_T_removeBelow_31 rfl (lv_at hl 3 rfl) ?_
        refine w_cVi (y := yn_T_slotToward) (C := Rn_T) (index := 31) (n := 2) (own := Rn_T) 20 hx hb hml hown hts hK hN hP hS (ct_T_slotToward l D ad cA w hJ x1 x3 st _ h) mw_55 mw_56 mw_57 mw_58 mw_59 (by decide +kernel) (by refine ⟨?_, ?_⟩ <;> (try dsimp only [headSpec]) <;> omega) rfl rfl rfl rfl rfl hl.1 rfl (lv_room (Nat.le_of_ble_eq_true rfl)) dc_T_removeBelow_32 ⟨Nat.zero_le _, Nat.zero_le _⟩ (fun r102 st101 H locs hP hS h => ?_)
        refine lv_istore (lv' := [(4, .int r102), (0, .ref (ad 20)), (1, .int x1), (2, .int x2), (3, .int x3)]) hx hb dc_T_removeBelow_35 hl (by decide) rfl (fun ls hl => ?_)
        refine lv_aload_n hx hb dc_T_removeBelow_37 rfl (lv_at hl 1 rfl) ?_
        refine lv_iload_n hx hb dc_T_removeBelow_38 rfl (lv_at hl 2 rfl) ?_
        refine lv_iload hx hb dc_T_removeBelow_39 (lv_at hl 0 rfl) ?_
        refine w_cVi (y := yn_T_ownedChild) (C := Rn_T) (index := 73) (n := 2) (own := Rn_T) 20 hx hb hml hown hts hK hN hP hS (ct_T_ownedChild l D ad cA w hJ x1 r102 st101 _ h) mw_101 mw_102 mw_103 mw_104 mw_59 (by decide +kernel) (by refine ⟨?_, ?_⟩ <;> (try dsimp only [headSpec]) <;> omega) rfl rfl rfl rfl rfl hl.1 rfl (lv_room (Nat.le_of_ble_eq_true rfl)) dc_T_removeBelow_41 ⟨Nat.zero_le _, Nat.zero_le _⟩ (fun r104 st103 H locs hP hS h => ?_)
        refine lv_istore (lv' := [(5, .int r104), (4, .int r102), (0, .ref (ad 20)), (1, .int x1), (2, .int x2), (3, .int x3)]) hx hb dc_T_removeBelow_44 hl (by decide) rfl (fun ls hl => ?_)
        refine lv_aload_n hx hb dc_T_removeBelow_46 rfl (lv_at hl 2 rfl) ?_
        refine lv_iload hx hb dc_T_removeBelow_47 (lv_at hl 0 rfl) ?_
        refine lv_iload_n hx hb dc_T_removeBelow_49 rfl (lv_at hl 4 rfl) ?_
        refine lv_iconst (v := 1) hx hb dc_T_removeBelow_50 (by decide) ?_
        refine lv_isub hx hb dc_T_removeBelow_51 ?_
        refine lv_iload_n hx hb dc_T_removeBelow_52 rfl (lv_at hl 5 rfl) ?_
        refine w_cVv (y := yn_T_removeBelow) (C := Rn_T) (index := 92) (n := 3) (own := Rn_T) 20 hx hb hml hown hts hK hN hP hS (ihd r104 (x2 - 1) x3 st103 _ h) mw_175 mw_176 mw_177 mw_178 mw_59 (by decide +kernel) (by refine ⟨?_, ?_⟩ <;> (try dsimp only [headSpec]) <;> omega) rfl rfl rfl rfl rfl hl.1 rfl (lv_room (Nat.le_of_ble_eq_true rfl)) dc_T_removeBelow_53 ⟨Nat.zero_le _, Nat.zero_le _⟩ (fun st105 H locs hP hS h => ?_)
        refine lv_aload_n hx hb dc_T_removeBelow_56 rfl (lv_at hl 2 rfl) ?_
        refine va_get (D := D) (ci := 2) (v := .ref (ad 19)) (C := Rn_T) (T := Fn_T) (N := 3) hx hb hts in_T hown hK hP 20 rfl rfl 0 (by decide) (hts _ mw_13) (fun _ h9 => h9) rfl dc_T_removeBelow_57 ?_
        refine lv_iload_n hx hb dc_T_removeBelow_60 rfl (lv_at hl 3 rfl) ?_
        refine lv_iload hx hb dc_T_removeBelow_61 (lv_at hl 1 rfl) ?_
        refine lv_aload_n hx hb dc_T_removeBelow_63 rfl (lv_at hl 2 rfl) ?_
        refine va_get (D := D) (ci := 2) (v := .ref (ad 19)) (C := Rn_T) (T := Fn_T) (N := 3) hx hb hts in_T hown hK hP 20 rfl rfl 0 (by decide) (hts _ mw_13) (fun _ h9 => h9) rfl dc_T_removeBelow_64 ?_
        refine lv_iload hx hb dc_T_removeBelow_67 (lv_at hl 0 rfl) ?_
        refine lv_iconst (v := 0) hx hb dc_T_removeBelow_69 (by decide) ?_
        refine w_cVi (y := yn_B_key) (C := Rn_B) (index := 41) (n := 2) (own := Rn_T) 19 hx hb hml hown hts hK hN hP hS (ct_B_key l D ad cA w hJ r104 0 st105 _ h) mw_43 mw_44 mw_45 mw_46 mw_18 (by decide +kernel) (by refine ⟨?_, ?_⟩ <;> (try dsimp only [headSpec]) <;> omega) rfl rfl rfl rfl rfl hl.1 rfl (lv_room (Nat.le_of_ble_eq_true rfl)) dc_T_removeBelow_70 ⟨Nat.zero_le _, Nat.zero_le _⟩ (fun r107 st106 H locs hP hS h => ?_)
        refine w_cVv (y := yn_B_setKey) (C := Rn_B) (index := 76) (n := 3) (own := Rn_T) 19 hx hb hml hown hts hK hN hP hS (ct_B_setKey l D ad cA w hJ x1 r102 r107 st106 _ h) mw_109 mw_110 mw_111 mw_112 mw_18 (by decide +kernel) (by refine ⟨?_, ?_⟩ <;> (try dsimp only [headSpec]) <;> omega) rfl rfl rfl rfl rfl hl.1 rfl (lv_room (Nat.le_of_ble_eq_true rfl)) dc_T_removeBelow_73 ⟨Nat.zero_le _, Nat.zero_le _⟩ (fun st108 H locs hP hS h => ?_)
        refine lv_aload_n hx hb dc_T_removeBelow_76 rfl (lv_at hl 2 rfl) ?_
        refine va_get (D := D) (ci := 2) (v := .ref (ad 19)) (C := Rn_T) (T := Fn_T) (N := 3) hx hb hts in_T hown hK hP 20 rfl rfl 0 (by decide) (hts _ mw_13) (fun _ h9 => h9) rfl dc_T_removeBelow_77 ?_
        refine lv_iload hx hb dc_T_removeBelow_80 (lv_at hl 0 rfl) ?_
        refine w_cVi (y := yn_B_size) (C := Rn_B) (index := 48) (n := 1) (own := Rn_T) 19 hx hb hml hown hts hK hN hP hS (ct_B_size l D ad cA w hJ r104 st108 _ h) mw_26 mw_113 mw_28 mw_29 mw_18 (by decide +kernel) (by refine ⟨?_, ?_⟩ <;> (try dsimp only [headSpec]) <;> omega) rfl rfl rfl rfl rfl hl.1 rfl (lv_room (Nat.le_of_ble_eq_true rfl)) dc_T_removeBelow_82 ⟨Nat.zero_le _, Nat.zero_le _⟩ (fun r110 st109 H locs hP hS h => ?_)
        refine lv_aload_n hx hb dc_T_removeBelow_85 rfl (lv_at hl 2 rfl) ?_
        refine va_get (D := D) (ci := 2) (v := .int (nI (w / 2))) (C := Rn_T) (T := Fn_T) (N := 3) hx hb hts in_T hown hK hP 20 rfl rfl 2 (by decide) (hts _ mw_116) (fun _ h9 => h9) rfl dc_T_removeBelow_86 ?_
        refine lv_icmp_ge (tgt := 105) hx hb dc_T_removeBelow_89 (by decide) (fun c => ?_) (fun c => ?_)
        · have h := h.1 c
          exact w_vret hx hb hr hlocks hP hS h dc_T_removeBelow_105
        · have h := h.2 c
          refine lv_aload_n hx hb dc_T_removeBelow_92 rfl (lv_at hl 2 rfl) ?_
          refine lv_iload_n hx hb dc_T_removeBelow_93 rfl (lv_at hl 3 rfl) ?_
          refine lv_iconst (v := 0) hx hb dc_T_removeBelow_94 (by decide) ?_
          refine lv_iload hx hb dc_T_removeBelow_95 (lv_at hl 1 rfl) ?_
          refine lv_iconst (v := 1) hx hb dc_T_removeBelow_97 (by decide) ?_
          refine lv_isub hx hb dc_T_removeBelow_98 ?_
          refine va_mmax hx hb (hml.trans hl.1.symm) hown (hts _ mw_52) (hts _ mw_53) (hts _ mw_32) (hts _ mw_54) (by (try dsimp only [headSpec]); omega) (by (try dsimp only [headSpec]); (try simp [Value.category]); omega) (Nat.zero_le _) (Nat.zero_le _) dc_T_removeBelow_99 ?_
          refine w_cVv (y := yn_T_fill) (C := Rn_T) (index := 101) (n := 2) (own := Rn_T) 20 hx hb hml hown hts hK hN hP hS (ct_T_fill l D ad cA w hJ x1 (if 0 < (r102 - 1) then (r102 - 1) else 0) st109 _ h) mw_191 mw_192 mw_193 mw_194 mw_59 (by decide +kernel) (by refine ⟨?_, ?_⟩ <;> (try dsimp only [headSpec]) <;> omega) rfl rfl rfl rfl rfl hl.1 rfl (lv_room (Nat.le_of_ble_eq_true rfl)) dc_T_removeBelow_102 ⟨Nat.zero_le _, Nat.zero_le _⟩ (fun st111 H locs hP hS h => ?_)
          exact w_vret hx hb hr hlocks hP hS h dc_T_removeBelow_105
      · have h := h.2 c
        refine lv_aload_n hx hb dc_T_removeBelow_11 rfl (lv_at hl 0 rfl) ?_
        refine va_get (D := D) (ci := 2) (v := .ref (ad 19)) (C := Rn_T) (T := Fn_T) (N := 3) hx hb hts in_T hown hK hP 20 rfl rfl 0 (by decide) (hts _ mw_13) (fun _ h9 => h9) rfl dc_T_removeBelow_12 ?_
        refine lv_iload_n hx hb dc_T_removeBelow_15 rfl (lv_at hl 1 rfl) ?_
        refine lv_aload_n hx hb dc_T_removeBelow_16 rfl (lv_at hl 0 rfl) ?_
        refine va_get (D := D) (ci := 2) (v := .ref (ad 19)) (C := Rn_T) (T := Fn_T) (N := 3) hx hb hts in_T hown hK hP 20 rfl rfl 0 (by decide) (hts _ mw_13) (fun _ h9 => h9) rfl dc_T_removeBelow_17 ?_
        refine lv_iload_n hx hb dc_T_removeBelow_20 rfl (lv_at hl 1 rfl) ?_
        refine lv_iload_n hx hb dc_T_removeBelow_21 rfl (lv_at hl 3 rfl) ?_
        refine w_cVi (y := yn_B_slotOf) (C := Rn_B) (index := 38) (n := 2) (own := Rn_T) 19 hx hb hml hown hts hK hN hP hS (ct_B_slotOf l D ad cA w hJ x1 x3 st _ h) mw_35 mw_36 mw_37 mw_38 mw_18 (by decide +kernel) (by refine ⟨?_, ?_⟩ <;> (try dsimp only [headSpec]) <;> omega) rfl rfl rfl rfl rfl hl.1 rfl (lv_room (Nat.le_of_ble_eq_true rfl)) dc_T_removeBelow_22 ⟨Nat.zero_le _, Nat.zero_le _⟩ (fun r113 st112 H locs hP hS h => ?_)
        refine w_cVv (y := yn_B_remove) (C := Rn_B) (index := 98) (n := 2) (own := Rn_T) 19 hx hb hml hown hts hK hN hP hS (ct_B_remove l D ad cA w hJ x1 r113 st112 _ h) mw_179 mw_180 mw_181 mw_182 mw_18 (by decide +kernel) (by refine ⟨?_, ?_⟩ <;> (try dsimp only [headSpec]) <;> omega) rfl rfl rfl rfl rfl hl.1 rfl (lv_room (Nat.le_of_ble_eq_true rfl)) dc_T_removeBelow_25 ⟨Nat.zero_le _, Nat.zero_le _⟩ (fun st114 H locs hP hS h => ?_)
        exact w_vret hx hb hr hlocks hP hS h dc_T_removeBelow_28
    · have h := h.2 c
      exact w_vret hx hb hr hlocks hP hS h dc_T_removeBelow_6
