set_option maxHeartbeats 4000000 in
set_option maxRecDepth 100000 in
theorem ct_I_hasOrder (l : Launch) (D : va_G) (ad : Nat → Nat) (cA : Nat → ClassId) (w : Nat) (hJ : Jn_ ad) (x1 : Int32) (st : St_) (post : Int32 → St_ → Prop) (h : wp_I_hasOrder w x1 st post) : Met l yn_I_hasOrder (Cond.code yn_I_hasOrder bc_I_hasOrder 4 (some .boolean) :: Wk_) rm_I_hasOrder (Pw_ D ad cA w st [.ref (ad 21), .int x1]) (Qi_ D ad cA w post) 0 0 (Aw_ ad) := by
  refine Met.ofW (cc := bc_I_hasOrder) (maxL := 4) (ret := (some .boolean)) (by decide) rfl ?_
  intro p e s m args below meth c s₁ B hml hv
  obtain ⟨rfl, hP, hK, hN⟩ := hv
  have hx := B.exec
  have hb := B.bytes
  have hr := B.returns
  have hts : ∀ v ∈ Wk_, v.before [.ref (ad 21), .int x1].toArray s = true := fun v hv => atoms_spec (ws := Cond.code yn_I_hasOrder bc_I_hasOrder 4 (some .boolean) :: Wk_) B.pre v (List.mem_cons_of_mem _ hv)
  have hown : s.vm.findClass Rn_I = some m.cls := findClass_of_methodNamed B.named
  have hlocks := B.notSynchronized
  have hS : va_S (Aw_ ad) s.heap s.heap [] := va_S.rf
  have Lp_26 : ∀ (n : Nat) (y1 y2 y3 : Int32) (st : St_), wp_I_hasOrder_26 w post n y1 y2 y3 st → ∀ (H : Heap) (locs : List Loc), va_P D sC_ (wd_ ad cA w st) H → va_S (Aw_ ad) s.heap H locs → ∀ ls : Array Slot, lv_has ls 4 [(0, .ref (ad 21)), (1, .int y1), (2, .int y2), (3, .int y3)] → W p l e (headSpec (Cond.code yn_I_hasOrder bc_I_hasOrder 4 (some .boolean) :: Wk_) rm_I_hasOrder).room s m [.ref (ad 21), .int x1].toArray below meth c H locs 0 0 (MQ below (Qi_ D ad cA w post) [.ref (ad 21), .int x1].toArray s 0 0 (Aw_ ad)) (F0 m 26 ls []) := by
    intro n
    induction n with
    | zero => intro y1 y2 y3 st h; exact h.elim
    | succ n ih =>
      intro y1 y2 y3 st h H locs hP hS ls hl
      refine lv_iload_n hx hb dc_I_hasOrder_26 rfl (lv_at hl 3 rfl) ?_
      refine lv_iload_n hx hb dc_I_hasOrder_27 rfl (lv_at hl 2 rfl) ?_
      refine lv_icmp_ge (tgt := 62) hx hb dc_I_hasOrder_28 (by decide) (fun c => ?_) (fun c => ?_)
      · have h := h.1 c
        refine lv_aload_n hx hb dc_I_hasOrder_62 rfl (lv_at hl 0 rfl) ?_
        refine va_get (D := D) (ci := 3) (v := .ref (ad 19)) (C := Rn_I) (T := Fn_I) (N := 7) hx hb hts in_I hown hK hP 21 rfl rfl 0 (by decide) (hts _ mw_260) (fun _ h9 => h9) rfl dc_I_hasOrder_63 ?_
        refine lv_iload_n hx hb dc_I_hasOrder_66 rfl (lv_at hl 1 rfl) ?_
        refine lv_iconst (v := 0) hx hb dc_I_hasOrder_67 (by decide) ?_
        refine w_cVi (y := yn_B_key) (C := Rn_B) (index := 91) (n := 2) (own := Rn_I) 19 hx hb hml hown hts hK hN hP hS (ct_B_key l D ad cA w hJ y1 0 st _ h) mw_43 mw_266 mw_45 mw_46 mw_18 (by decide +kernel) ⟨Nat.le_of_ble_eq_true rfl, Nat.le_of_ble_eq_true rfl⟩ rfl rfl rfl rfl rfl hl.1 rfl (lv_room (Nat.le_of_ble_eq_true rfl)) dc_I_hasOrder_68 ⟨Nat.zero_le _, Nat.zero_le _⟩ (fun r104 st103 H locs hP hS h => ?_)
        refine w_cNi (y := yn_S_isKey) (index := 94) (n := 1) (own := Rn_I) (host := nh_) hx hb hml hown hts hK hN hP hS (ct_S_isKey l D ad cA w hJ r104 st103 _ h) mw_4 (hN.2 _ nm_0) mw_6 mw_3 (by decide +kernel) ⟨Nat.le_of_ble_eq_true rfl, Nat.le_of_ble_eq_true rfl⟩ rfl rfl rfl hl.1 rfl (lv_room (Nat.le_of_ble_eq_true rfl)) dc_I_hasOrder_71 ⟨Nat.zero_le _, Nat.zero_le _⟩ (fun r106 st105 H locs hP hS h => ?_)
        refine lv_if_eq (tgt := 98) hx hb dc_I_hasOrder_74 (by decide) (fun c => ?_) (fun c => ?_)
        · have h := h.1 c
          refine lv_iconst (v := 0) hx hb dc_I_hasOrder_98 (by decide) ?_
          exact w_zret hx hb hr rfl hlocks hP hS h dc_I_hasOrder_99
        · have h := h.2 c
          refine lv_aload_n hx hb dc_I_hasOrder_77 rfl (lv_at hl 0 rfl) ?_
          refine va_get (D := D) (ci := 3) (v := .ref (ad 19)) (C := Rn_I) (T := Fn_I) (N := 7) hx hb hts in_I hown hK hP 21 rfl rfl 0 (by decide) (hts _ mw_260) (fun _ h9 => h9) rfl dc_I_hasOrder_78 ?_
          refine lv_iload_n hx hb dc_I_hasOrder_81 rfl (lv_at hl 1 rfl) ?_
          refine lv_iload_n hx hb dc_I_hasOrder_82 rfl (lv_at hl 2 rfl) ?_
          refine lv_iconst (v := 1) hx hb dc_I_hasOrder_83 (by decide) ?_
          refine lv_isub hx hb dc_I_hasOrder_84 ?_
          refine w_cVi (y := yn_B_key) (C := Rn_B) (index := 91) (n := 2) (own := Rn_I) 19 hx hb hml hown hts hK hN hP hS (ct_B_key l D ad cA w hJ y1 (y2 - 1) st105 _ h) mw_43 mw_266 mw_45 mw_46 mw_18 (by decide +kernel) ⟨Nat.le_of_ble_eq_true rfl, Nat.le_of_ble_eq_true rfl⟩ rfl rfl rfl rfl rfl hl.1 rfl (lv_room (Nat.le_of_ble_eq_true rfl)) dc_I_hasOrder_85 ⟨Nat.zero_le _, Nat.zero_le _⟩ (fun r108 st107 H locs hP hS h => ?_)
          refine w_cNi (y := yn_S_isKey) (index := 94) (n := 1) (own := Rn_I) (host := nh_) hx hb hml hown hts hK hN hP hS (ct_S_isKey l D ad cA w hJ r108 st107 _ h) mw_4 (hN.2 _ nm_0) mw_6 mw_3 (by decide +kernel) ⟨Nat.le_of_ble_eq_true rfl, Nat.le_of_ble_eq_true rfl⟩ rfl rfl rfl hl.1 rfl (lv_room (Nat.le_of_ble_eq_true rfl)) dc_I_hasOrder_88 ⟨Nat.zero_le _, Nat.zero_le _⟩ (fun r110 st109 H locs hP hS h => ?_)
          refine lv_if_eq (tgt := 98) hx hb dc_I_hasOrder_91 (by decide) (fun c => ?_) (fun c => ?_)
          · have h := h.1 c
            refine lv_iconst (v := 0) hx hb dc_I_hasOrder_98 (by decide) ?_
            exact w_zret hx hb hr rfl hlocks hP hS h dc_I_hasOrder_99
          · have h := h.2 c
            refine lv_iconst (v := 1) hx hb dc_I_hasOrder_94 (by decide) ?_
            refine lv_goto (tgt := 99) hx hb dc_I_hasOrder_95 (by decide) ?_
            exact w_zret hx hb hr rfl hlocks hP hS h dc_I_hasOrder_99
      · have h := h.2 c
        refine lv_aload_n hx hb dc_I_hasOrder_31 rfl (lv_at hl 0 rfl) ?_
        refine va_get (D := D) (ci := 3) (v := .ref (ad 19)) (C := Rn_I) (T := Fn_I) (N := 7) hx hb hts in_I hown hK hP 21 rfl rfl 0 (by decide) (hts _ mw_260) (fun _ h9 => h9) rfl dc_I_hasOrder_32 ?_
        refine lv_iload_n hx hb dc_I_hasOrder_35 rfl (lv_at hl 1 rfl) ?_
        refine lv_iload_n hx hb dc_I_hasOrder_36 rfl (lv_at hl 3 rfl) ?_
        refine lv_iconst (v := 1) hx hb dc_I_hasOrder_37 (by decide) ?_
        refine lv_isub hx hb dc_I_hasOrder_38 ?_
        refine w_cVi (y := yn_B_key) (C := Rn_B) (index := 91) (n := 2) (own := Rn_I) 19 hx hb hml hown hts hK hN hP hS (ct_B_key l D ad cA w hJ y1 (y3 - 1) st _ h) mw_43 mw_266 mw_45 mw_46 mw_18 (by decide +kernel) ⟨Nat.le_of_ble_eq_true rfl, Nat.le_of_ble_eq_true rfl⟩ rfl rfl rfl rfl rfl hl.1 rfl (lv_room (Nat.le_of_ble_eq_true rfl)) dc_I_hasOrder_39 ⟨Nat.zero_le _, Nat.zero_le _⟩ (fun r112 st111 H locs hP hS h => ?_)
        refine lv_aload_n hx hb dc_I_hasOrder_42 rfl (lv_at hl 0 rfl) ?_
        refine va_get (D := D) (ci := 3) (v := .ref (ad 19)) (C := Rn_I) (T := Fn_I) (N := 7) hx hb hts in_I hown hK hP 21 rfl rfl 0 (by decide) (hts _ mw_260) (fun _ h9 => h9) rfl dc_I_hasOrder_43 ?_
        refine lv_iload_n hx hb dc_I_hasOrder_46 rfl (lv_at hl 1 rfl) ?_
        refine lv_iload_n hx hb dc_I_hasOrder_47 rfl (lv_at hl 3 rfl) ?_
        refine w_cVi (y := yn_B_key) (C := Rn_B) (index := 91) (n := 2) (own := Rn_I) 19 hx hb hml hown hts hK hN hP hS (ct_B_key l D ad cA w hJ y1 y3 st111 _ h) mw_43 mw_266 mw_45 mw_46 mw_18 (by decide +kernel) ⟨Nat.le_of_ble_eq_true rfl, Nat.le_of_ble_eq_true rfl⟩ rfl rfl rfl rfl rfl hl.1 rfl (lv_room (Nat.le_of_ble_eq_true rfl)) dc_I_hasOrder_48 ⟨Nat.zero_le _, Nat.zero_le _⟩ (fun r114 st113 H locs hP hS h => ?_)
        refine lv_icmp_lt (tgt := 56) hx hb dc_I_hasOrder_51 (by decide) (fun c => ?_) (fun c => ?_)
        · have h := h.1 c
          obtain ⟨x115, ex115⟩ : ∃ y : Int32, y = y3 + 1 := ⟨_, rfl⟩
          have h := h x115 ex115
          refine lv_iinc (v := x115) (lv' := [(3, .int x115), (0, .ref (ad 21)), (1, .int y1), (2, .int y2)]) hx hb dc_I_hasOrder_56 hl (k := 3) rfl (by rw [ex115]; rfl) (by decide) rfl (fun ls hl => ?_)
          refine lv_goto (tgt := 26) hx hb dc_I_hasOrder_59 (by decide) ?_
          exact ih y1 y2 x115 st113 h _ _ hP hS ls (lv_sub hl [1, 2, 3, 0] rfl)
        · have h := h.2 c
          refine lv_iconst (v := 0) hx hb dc_I_hasOrder_54 (by decide) ?_
          exact w_zret hx hb hr rfl hlocks hP hS h dc_I_hasOrder_55
  have hl := lv_entry ([.ref (ad 21), .int x1]) (n := 4) (Nat.le_of_ble_eq_true rfl)
  rw [lg_entry_eq]
  generalize (lg_sl ([.ref (ad 21), .int x1]) ++ List.replicate (4 - (lg_sl ([.ref (ad 21), .int x1])).length) Slot.unset).toArray = ls at hl ⊢
  have hl : lv_has ls 4 [(0, .ref (ad 21)), (1, .int x1)] := hl
  refine lv_aload_n hx hb dc_I_hasOrder_0 rfl (lv_at hl 0 rfl) ?_
  refine va_get (D := D) (ci := 3) (v := .ref (ad 19)) (C := Rn_I) (T := Fn_I) (N := 7) hx hb hts in_I hown hK hP 21 rfl rfl 0 (by decide) (hts _ mw_260) (fun _ h9 => h9) rfl dc_I_hasOrder_1 ?_
  refine lv_iload_n hx hb dc_I_hasOrder_4 rfl (lv_at hl 1 rfl) ?_
  refine w_cVi (y := yn_B_size) (C := Rn_B) (index := 75) (n := 1) (own := Rn_I) 19 hx hb hml hown hts hK hN hP hS (ct_B_size l D ad cA w hJ x1 st _ h) mw_26 mw_263 mw_28 mw_29 mw_18 (by decide +kernel) ⟨Nat.le_of_ble_eq_true rfl, Nat.le_of_ble_eq_true rfl⟩ rfl rfl rfl rfl rfl hl.1 rfl (lv_room (Nat.le_of_ble_eq_true rfl)) dc_I_hasOrder_5 ⟨Nat.zero_le _, Nat.zero_le _⟩ (fun r102 st101 H locs hP hS h => ?_)
  refine lv_istore_n (lv' := [(2, .int r102), (0, .ref (ad 21)), (1, .int x1)]) hx hb dc_I_hasOrder_8 rfl hl (by decide) rfl (fun ls hl => ?_)
  refine lv_iload_n hx hb dc_I_hasOrder_9 rfl (lv_at hl 0 rfl) ?_
  refine lv_iconst (v := 1) hx hb dc_I_hasOrder_10 (by decide) ?_
  refine lv_icmp_lt (tgt := 22) hx hb dc_I_hasOrder_11 (by decide) (fun c => ?_) (fun c => ?_)
  · have h := h.1 c
    refine lv_iconst (v := 0) hx hb dc_I_hasOrder_22 (by decide) ?_
    exact w_zret hx hb hr rfl hlocks hP hS h dc_I_hasOrder_23
  · have h := h.2 c
    refine lv_iload_n hx hb dc_I_hasOrder_14 rfl (lv_at hl 0 rfl) ?_
    refine lv_aload_n hx hb dc_I_hasOrder_15 rfl (lv_at hl 1 rfl) ?_
    refine va_get (D := D) (ci := 3) (v := .int (nI (w - 1))) (C := Rn_I) (T := Fn_I) (N := 7) hx hb hts in_I hown hK hP 21 rfl rfl 1 (by decide) (hts _ mw_265) (fun _ h9 => h9) rfl dc_I_hasOrder_16 ?_
    refine lv_icmp_le (tgt := 24) hx hb dc_I_hasOrder_19 (by decide) (fun c => ?_) (fun c => ?_)
    · have h := h.1 c
      refine lv_iconst (v := 1) hx hb dc_I_hasOrder_24 (by decide) ?_
      refine lv_istore_n (lv' := [(3, .int 1), (2, .int r102), (0, .ref (ad 21)), (1, .int x1)]) hx hb dc_I_hasOrder_25 rfl hl (by decide) rfl (fun ls hl => ?_)
      obtain ⟨n, h⟩ := h
      exact Lp_26 n x1 r102 1 st101 h _ _ hP hS ls (lv_sub hl [2, 3, 1, 0] rfl)
    · have h := h.2 c
      refine lv_iconst (v := 0) hx hb dc_I_hasOrder_22 (by decide) ?_
      exact w_zret hx hb hr rfl hlocks hP hS h dc_I_hasOrder_23
