set_option maxHeartbeats 4000000 in
set_option maxRecDepth 100000 in
theorem ct_I_faultOfFree (l : Launch) (D : va_G) (ad : Nat → Nat) (cA : Nat → ClassId) (w : Nat) (hJ : Jn_ ad) (st : St_) (post : Int32 → St_ → Prop) (h : wp_I_faultOfFree w st post) : Met l yn_I_faultOfFree (Cond.code yn_I_faultOfFree bc_I_faultOfFree 4 (some .int) :: Wk_) rm_I_faultOfFree (Pw_ D ad cA w st [.ref (ad 21)]) (Qi_ D ad cA w post) 0 0 (Aw_ ad) := by
  refine Met.ofW (cc := bc_I_faultOfFree) (maxL := 4) (ret := (some .int)) (by decide) rfl ?_
  intro p e s m args below meth c s₁ B hml hv
  obtain ⟨rfl, hP, hK, hN⟩ := hv
  have hx := B.exec
  have hb := B.bytes
  have hr := B.returns
  have hts : ∀ v ∈ Wk_, v.before [.ref (ad 21)].toArray s = true := fun v hv => atoms_spec (ws := Cond.code yn_I_faultOfFree bc_I_faultOfFree 4 (some .int) :: Wk_) B.pre v (List.mem_cons_of_mem _ hv)
  have hown : s.vm.findClass Rn_I = some m.cls := findClass_of_methodNamed B.named
  have hlocks := B.notSynchronized
  have hS : va_S (Aw_ ad) s.heap s.heap [] := va_S.rf
  have Lp_25 : ∀ (n : Nat) (y1 y2 : Int32) (st : St_), wp_I_faultOfFree_25 w post n y1 y2 st → ∀ (H : Heap) (locs : List Loc), va_P D sC_ (wd_ ad cA w st) H → va_S (Aw_ ad) s.heap H locs → ∀ ls : Array Slot, lv_has ls 4 [(0, .ref (ad 21)), (1, .int y1), (2, .int y2)] → W p l e (headSpec (Cond.code yn_I_faultOfFree bc_I_faultOfFree 4 (some .int) :: Wk_) rm_I_faultOfFree).room s m [.ref (ad 21)].toArray below meth c H locs 0 0 (MQ below (Qi_ D ad cA w post) [.ref (ad 21)].toArray s 0 0 (Aw_ ad)) (F0 m 25 ls []) := by
    intro n
    induction n with
    | zero => intro y1 y2 st h; exact h.elim
    | succ n ih =>
      intro y1 y2 st h H locs hP hS ls hl
      refine lv_iload_n hx hb dc_I_faultOfFree_25 rfl (lv_at hl 2 rfl) ?_
      refine lv_iload_n hx hb dc_I_faultOfFree_26 rfl (lv_at hl 1 rfl) ?_
      refine lv_icmp_ge (tgt := 76) hx hb dc_I_faultOfFree_27 (by decide) (fun c => ?_) (fun c => ?_)
      · have h := h.1 c
        refine lv_iconst (v := 0) hx hb dc_I_faultOfFree_76 (by decide) ?_
        exact w_iret hx hb hr hlocks hP hS h dc_I_faultOfFree_77
      · have h := h.2 c
        refine lv_aload_n hx hb dc_I_faultOfFree_30 rfl (lv_at hl 0 rfl) ?_
        refine va_get (D := D) (ci := 3) (v := .ref (ad 19)) (C := Rn_I) (T := Fn_I) (N := 7) hx hb hts in_I hown hK hP 21 rfl rfl 0 (by decide) (hts _ mw_260) (fun _ h9 => h9) rfl dc_I_faultOfFree_31 ?_
        refine lv_iload_n hx hb dc_I_faultOfFree_34 rfl (lv_at hl 2 rfl) ?_
        refine w_cVi (y := yn_B_freeBlock) (C := Rn_B) (index := 106) (n := 1) (own := Rn_I) 19 hx hb hml hown hts hK hN hP hS (ct_B_freeBlock l D ad cA w hJ y2 st _ h) mw_306 mw_307 mw_308 mw_309 mw_18 (by decide +kernel) ⟨Nat.le_of_ble_eq_true rfl, Nat.le_of_ble_eq_true rfl⟩ rfl rfl rfl rfl rfl hl.1 rfl (lv_room (Nat.le_of_ble_eq_true rfl)) dc_I_faultOfFree_35 ⟨Nat.zero_le _, Nat.zero_le _⟩ (fun r104 st103 H locs hP hS h => ?_)
        refine lv_istore_n (lv' := [(3, .int r104), (0, .ref (ad 21)), (1, .int y1), (2, .int y2)]) hx hb dc_I_faultOfFree_38 rfl hl (by decide) rfl (fun ls hl => ?_)
        refine lv_aload_n hx hb dc_I_faultOfFree_39 rfl (lv_at hl 1 rfl) ?_
        refine va_get (D := D) (ci := 3) (v := .ref (ad 19)) (C := Rn_I) (T := Fn_I) (N := 7) hx hb hts in_I hown hK hP 21 rfl rfl 0 (by decide) (hts _ mw_260) (fun _ h9 => h9) rfl dc_I_faultOfFree_40 ?_
        refine lv_iload_n hx hb dc_I_faultOfFree_43 rfl (lv_at hl 0 rfl) ?_
        refine w_cVi (y := yn_B_isBlock) (C := Rn_B) (index := 66) (n := 1) (own := Rn_I) 19 hx hb hml hown hts hK hN hP hS (ct_B_isBlock l D ad cA w hJ r104 st103 _ h) mw_14 mw_261 mw_16 mw_17 mw_18 (by decide +kernel) ⟨Nat.le_of_ble_eq_true rfl, Nat.le_of_ble_eq_true rfl⟩ rfl rfl rfl rfl rfl hl.1 rfl (lv_room (Nat.le_of_ble_eq_true rfl)) dc_I_faultOfFree_44 ⟨Nat.zero_le _, Nat.zero_le _⟩ (fun r106 st105 H locs hP hS h => ?_)
        refine lv_if_eq (tgt := 59) hx hb dc_I_faultOfFree_47 (by decide) (fun c => ?_) (fun c => ?_)
        · have h := h.1 c
          refine lv_sipush (v := 1218) hx hb dc_I_faultOfFree_59 (by decide) ?_
          exact w_iret hx hb hr hlocks hP hS h dc_I_faultOfFree_62
        · have h := h.2 c
          refine lv_aload_n hx hb dc_I_faultOfFree_50 rfl (lv_at hl 1 rfl) ?_
          refine va_get (D := D) (ci := 3) (v := .ref (ad 9)) (C := Rn_I) (T := Fn_I) (N := 7) hx hb hts in_I hown hK hP 21 rfl rfl 6 (by decide) (hts _ mw_297) (fun _ h9 => h9) rfl dc_I_faultOfFree_51 ?_
          refine lv_iload_n hx hb dc_I_faultOfFree_54 rfl (lv_at hl 0 rfl) ?_
          refine w_zld hx hb hK hP h.1 dc_I_faultOfFree_55 ?_
          have h := h.2
          refine lv_if_eq (tgt := 63) hx hb dc_I_faultOfFree_56 (by decide) (fun c => ?_) (fun c => ?_)
          · have h := h.1 c
            refine lv_aload_n hx hb dc_I_faultOfFree_63 rfl (lv_at hl 1 rfl) ?_
            refine va_get (D := D) (ci := 3) (v := .ref (ad 9)) (C := Rn_I) (T := Fn_I) (N := 7) hx hb hts in_I hown hK hP 21 rfl rfl 6 (by decide) (hts _ mw_297) (fun _ h9 => h9) rfl dc_I_faultOfFree_64 ?_
            refine lv_iload_n hx hb dc_I_faultOfFree_67 rfl (lv_at hl 0 rfl) ?_
            refine lv_iconst (v := 1) hx hb dc_I_faultOfFree_68 (by decide) ?_
            refine w_zst hJ hx hb hK hP hS h.1 dc_I_faultOfFree_69 (fun H locs hP hS => ?_)
            obtain ⟨st107, est107⟩ : ∃ z : St_, z = ws_1 st105 9 (r104).toNatClampNeg (vp_nar .boolean 1) := ⟨_, rfl⟩
            rw [← est107] at hP
            have h := h.2 st107 est107
            obtain ⟨x108, ex108⟩ : ∃ y : Int32, y = y2 + 1 := ⟨_, rfl⟩
            have h := h x108 ex108
            refine lv_iinc (v := x108) (lv' := [(2, .int x108), (3, .int r104), (0, .ref (ad 21)), (1, .int y1)]) hx hb dc_I_faultOfFree_70 hl (k := 3) rfl (by rw [ex108]; rfl) (by decide) rfl (fun ls hl => ?_)
            refine lv_goto (tgt := 25) hx hb dc_I_faultOfFree_73 (by decide) ?_
            exact ih y1 x108 st107 h _ _ hP hS ls (lv_sub hl [2, 3, 0] rfl)
          · have h := h.2 c
            refine lv_sipush (v := 1218) hx hb dc_I_faultOfFree_59 (by decide) ?_
            exact w_iret hx hb hr hlocks hP hS h dc_I_faultOfFree_62
  have hl := lv_entry ([.ref (ad 21)]) (n := 4) (Nat.le_of_ble_eq_true rfl)
  rw [lg_entry_eq]
  generalize (lg_sl ([.ref (ad 21)]) ++ List.replicate (4 - (lg_sl ([.ref (ad 21)])).length) Slot.unset).toArray = ls at hl ⊢
  have hl : lv_has ls 4 [(0, .ref (ad 21))] := hl
  refine lv_aload_n hx hb dc_I_faultOfFree_0 rfl (lv_at hl 0 rfl) ?_
  refine va_get (D := D) (ci := 3) (v := .ref (ad 19)) (C := Rn_I) (T := Fn_I) (N := 7) hx hb hts in_I hown hK hP 21 rfl rfl 0 (by decide) (hts _ mw_260) (fun _ h9 => h9) rfl dc_I_faultOfFree_1 ?_
  refine w_cVi (y := yn_B_freeCount) (C := Rn_B) (index := 103) (n := 0) (own := Rn_I) 19 hx hb hml hown hts hK hN hP hS (ct_B_freeCount l D ad cA w hJ st _ h) mw_302 mw_303 mw_304 mw_305 mw_18 (by decide +kernel) ⟨Nat.le_of_ble_eq_true rfl, Nat.le_of_ble_eq_true rfl⟩ rfl rfl rfl rfl rfl hl.1 rfl (lv_room (Nat.le_of_ble_eq_true rfl)) dc_I_faultOfFree_4 ⟨Nat.zero_le _, Nat.zero_le _⟩ (fun r102 st101 H locs hP hS h => ?_)
  refine lv_istore_n (lv' := [(1, .int r102), (0, .ref (ad 21))]) hx hb dc_I_faultOfFree_7 rfl hl (by decide) rfl (fun ls hl => ?_)
  refine lv_iload_n hx hb dc_I_faultOfFree_8 rfl (lv_at hl 0 rfl) ?_
  refine lv_if_lt (tgt := 19) hx hb dc_I_faultOfFree_9 (by decide) (fun c => ?_) (fun c => ?_)
  · have h := h.1 c
    refine lv_sipush (v := 1218) hx hb dc_I_faultOfFree_19 (by decide) ?_
    exact w_iret hx hb hr hlocks hP hS h dc_I_faultOfFree_22
  · have h := h.2 c
    refine lv_iload_n hx hb dc_I_faultOfFree_12 rfl (lv_at hl 0 rfl) ?_
    refine lv_sipush (v := 1200) hx hb dc_I_faultOfFree_13 (by decide) ?_
    refine lv_icmp_le (tgt := 23) hx hb dc_I_faultOfFree_16 (by decide) (fun c => ?_) (fun c => ?_)
    · have h := h.1 c
      refine lv_iconst (v := 0) hx hb dc_I_faultOfFree_23 (by decide) ?_
      refine lv_istore_n (lv' := [(2, .int 0), (1, .int r102), (0, .ref (ad 21))]) hx hb dc_I_faultOfFree_24 rfl hl (by decide) rfl (fun ls hl => ?_)
      obtain ⟨n, h⟩ := h
      exact Lp_25 n r102 0 st101 h _ _ hP hS ls (lv_sub hl [2, 1, 0] rfl)
    · have h := h.2 c
      refine lv_sipush (v := 1218) hx hb dc_I_faultOfFree_19 (by decide) ?_
      exact w_iret hx hb hr hlocks hP hS h dc_I_faultOfFree_22
