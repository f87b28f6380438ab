set_option maxHeartbeats 4000000 in
set_option maxRecDepth 100000 in
theorem ct_I_faultOfMaps_22 (l : Launch) (D : va_G) (ad : Nat → Nat) (cA : Nat → ClassId) (w : Nat) (hJ : Jn_ ad) (x2 : Int32) (st : St_) (post : Int32 → St_ → Prop) (h : wp_I_faultOfMaps_22 w x2 st post) : Met l yn_I_faultOfMaps (Cond.code yn_I_faultOfMaps bc_I_faultOfMaps 6 (some .int) :: Wk_) rm_I_faultOfMaps_22 (Pw_ D ad cA w st [.ref (ad 21), .ref (ad 22), .int x2]) (Qi_ D ad cA w post) 0 0 (Aw_ ad) := by
  refine Met.ofW (cc := bc_I_faultOfMaps) (maxL := 6) (ret := (some .int)) (by decide) rfl ?_
  intro p e s m args below meth c s₁ B hml hv
  obtain ⟨rfl, hP, hK, hN⟩ := hv
  have hx := B.exec
  have hb := B.bytes
  have hr := B.returns
  have hts : ∀ v ∈ Wk_, v.before [.ref (ad 21), .ref (ad 22), .int x2].toArray s = true := fun v hv => atoms_spec (ws := Cond.code yn_I_faultOfMaps bc_I_faultOfMaps 6 (some .int) :: Wk_) B.pre v (List.mem_cons_of_mem _ hv)
  have hown : s.vm.findClass Rn_I = some m.cls := findClass_of_methodNamed B.named
  have hlocks := B.notSynchronized
  have hS : va_S (Aw_ ad) s.heap s.heap [] := va_S.rf
  have Lp_5 : ∀ (n : Nat) (y2 y3 y4 : Int32) (st : St_), wp_I_faultOfMaps_22_5 w post n y2 y3 y4 st → ∀ (H : Heap) (locs : List Loc), va_P D sC_ (wd_ ad cA w st) H → va_S (Aw_ ad) s.heap H locs → ∀ ls : Array Slot, lv_has ls 6 [(0, .ref (ad 21)), (1, .ref (ad 22)), (2, .int y2), (3, .int y3), (4, .int y4)] → W p l e (headSpec (Cond.code yn_I_faultOfMaps bc_I_faultOfMaps 6 (some .int) :: Wk_) rm_I_faultOfMaps_22).room s m [.ref (ad 21), .ref (ad 22), .int x2].toArray below meth c H locs 0 0 (MQ below (Qi_ D ad cA w post) [.ref (ad 21), .ref (ad 22), .int x2].toArray s 0 0 (Aw_ ad)) (F0 m 5 ls []) := by
    intro n
    induction n with
    | zero => intro y2 y3 y4 st h; exact h.elim
    | succ n ih =>
      intro y2 y3 y4 st h H locs hP hS ls hl
      refine lv_iload hx hb dc_I_faultOfMaps_5 (lv_at hl 4 rfl) ?_
      refine lv_bipush (v := 8) hx hb dc_I_faultOfMaps_7 (by decide) ?_
      refine lv_icmp_ge (tgt := 60) hx hb dc_I_faultOfMaps_9 (by decide) (fun c => ?_) (fun c => ?_)
      · have h := h.1 c
        refine lv_iload_n hx hb dc_I_faultOfMaps_60 rfl (lv_at hl 3 rfl) ?_
        refine lv_aload_n hx hb dc_I_faultOfMaps_61 rfl (lv_at hl 1 rfl) ?_
        refine va_getN (D := D) (ci := 4) (v := .int (st 19 0)) (C := Rn_P) (T := Fn_P) (N := 3) (host := nh_) hx hb hts in_P hown hK hP 22 rfl rfl 2 (by decide) (va_Nw.use rfl (hN.1 _ nf_3)) (fun _ h9 => h9) rfl dc_I_faultOfMaps_62 ?_
        refine lv_icmp_ne (tgt := 79) hx hb dc_I_faultOfMaps_65 (by decide) (fun c => ?_) (fun c => ?_)
        · have h := h.1 c
          refine lv_sipush (v := 1217) hx hb dc_I_faultOfMaps_79 (by decide) ?_
          exact w_iret hx hb hr hlocks hP hS h dc_I_faultOfMaps_82
        · have h := h.2 c
          refine lv_iload_n hx hb dc_I_faultOfMaps_68 rfl (lv_at hl 3 rfl) ?_
          refine lv_sipush (v := 600) hx hb dc_I_faultOfMaps_69 (by decide) ?_
          refine lv_icmp_gt (tgt := 79) hx hb dc_I_faultOfMaps_72 (by decide) (fun c => ?_) (fun c => ?_)
          · have h := h.1 c
            refine lv_sipush (v := 1217) hx hb dc_I_faultOfMaps_79 (by decide) ?_
            exact w_iret hx hb hr hlocks hP hS h dc_I_faultOfMaps_82
          · have h := h.2 c
            refine lv_iconst (v := 0) hx hb dc_I_faultOfMaps_75 (by decide) ?_
            refine lv_goto (tgt := 82) hx hb dc_I_faultOfMaps_76 (by decide) ?_
            exact w_iret hx hb hr hlocks hP hS h dc_I_faultOfMaps_82
      · have h := h.2 c
        refine lv_aload_n hx hb dc_I_faultOfMaps_12 rfl (lv_at hl 0 rfl) ?_
        refine lv_aload_n hx hb dc_I_faultOfMaps_13 rfl (lv_at hl 1 rfl) ?_
        refine va_getN (D := D) (ci := 4) (v := .ref (ad 10)) (C := Rn_P) (T := Fn_P) (N := 3) (host := nh_) hx hb hts in_P hown hK hP 22 rfl rfl 0 (by decide) (va_Nw.use rfl (hN.1 _ nf_4)) (fun _ h9 => h9) rfl dc_I_faultOfMaps_14 ?_
        refine lv_iload hx hb dc_I_faultOfMaps_17 (lv_at hl 4 rfl) ?_
        refine w_ild 10 (by decide) hx hb hK hP h.1 dc_I_faultOfMaps_19 ?_
        have h := h.2
        refine lv_aload_n hx hb dc_I_faultOfMaps_20 rfl (lv_at hl 1 rfl) ?_
        refine va_getN (D := D) (ci := 4) (v := .ref (ad 11)) (C := Rn_P) (T := Fn_P) (N := 3) (host := nh_) hx hb hts in_P hown hK hP 22 rfl rfl 1 (by decide) (va_Nw.use rfl (hN.1 _ nf_5)) (fun _ h9 => h9) rfl dc_I_faultOfMaps_21 ?_
        refine lv_iload hx hb dc_I_faultOfMaps_24 (lv_at hl 4 rfl) ?_
        refine w_ild 11 (by decide) hx hb hK hP h.1 dc_I_faultOfMaps_26 ?_
        have h := h.2
        refine lv_iload_n hx hb dc_I_faultOfMaps_27 rfl (lv_at hl 2 rfl) ?_
        refine lv_iload hx hb dc_I_faultOfMaps_28 (lv_at hl 4 rfl) ?_
        refine lv_iadd hx hb dc_I_faultOfMaps_30 ?_
        refine w_cVi (y := yn_I_faultOfTree) (C := Rn_I) (index := 59) (n := 3) (own := Rn_I) 21 hx hb hml hown hts hK hN hP hS (ct_I_faultOfTree l D ad cA w hJ (st 10 (y4).toNatClampNeg) (st 11 (y4).toNatClampNeg) (y2 + y4) st _ h) mw_288 mw_289 mw_290 mw_291 mw_271 (by decide +kernel) ⟨Nat.le_of_ble_eq_true rfl, Nat.le_of_ble_eq_true rfl⟩ rfl rfl rfl rfl rfl hl.1 rfl (lv_room (Nat.le_of_ble_eq_true rfl)) dc_I_faultOfMaps_31 ⟨Nat.zero_le _, Nat.zero_le _⟩ (fun r102 st101 H locs hP hS h => ?_)
        refine lv_istore (lv' := [(5, .int r102), (0, .ref (ad 21)), (1, .ref (ad 22)), (2, .int y2), (3, .int y3), (4, .int y4)]) hx hb dc_I_faultOfMaps_34 hl (by decide) rfl (fun ls hl => ?_)
        refine lv_iload hx hb dc_I_faultOfMaps_36 (lv_at hl 0 rfl) ?_
        refine lv_if_eq (tgt := 44) hx hb dc_I_faultOfMaps_38 (by decide) (fun c => ?_) (fun c => ?_)
        · have h := h.1 c
          refine lv_iload_n hx hb dc_I_faultOfMaps_44 rfl (lv_at hl 4 rfl) ?_
          refine lv_aload_n hx hb dc_I_faultOfMaps_45 rfl (lv_at hl 2 rfl) ?_
          refine va_getN (D := D) (ci := 4) (v := .ref (ad 11)) (C := Rn_P) (T := Fn_P) (N := 3) (host := nh_) hx hb hts in_P hown hK hP 22 rfl rfl 1 (by decide) (va_Nw.use rfl (hN.1 _ nf_5)) (fun _ h9 => h9) rfl dc_I_faultOfMaps_46 ?_
          refine lv_iload hx hb dc_I_faultOfMaps_49 (lv_at hl 5 rfl) ?_
          refine w_ild 11 (by decide) hx hb hK hP h.1 dc_I_faultOfMaps_51 ?_
          have h := h.2
          refine lv_iadd hx hb dc_I_faultOfMaps_52 ?_
          refine lv_topi (fun x103 ex103 => ?_)
          have h := h x103 ex103
          refine lv_istore_n (lv' := [(3, .int x103), (5, .int r102), (0, .ref (ad 21)), (1, .ref (ad 22)), (2, .int y2), (4, .int y4)]) hx hb dc_I_faultOfMaps_53 rfl hl (by decide) rfl (fun ls hl => ?_)
          obtain ⟨x104, ex104⟩ : ∃ y : Int32, y = y4 + 1 := ⟨_, rfl⟩
          have h := h x104 ex104
          refine lv_iinc (v := x104) (lv' := [(4, .int x104), (3, .int x103), (5, .int r102), (0, .ref (ad 21)), (1, .ref (ad 22)), (2, .int y2)]) hx hb dc_I_faultOfMaps_54 hl (k := 5) rfl (by rw [ex104]; rfl) (by decide) rfl (fun ls hl => ?_)
          refine lv_goto (tgt := 5) hx hb dc_I_faultOfMaps_57 (by decide) ?_
          exact ih y2 x103 x104 st101 h _ _ hP hS ls (lv_sub hl [3, 4, 5, 1, 0] rfl)
        · have h := h.2 c
          refine lv_iload hx hb dc_I_faultOfMaps_41 (lv_at hl 0 rfl) ?_
          exact w_iret hx hb hr hlocks hP hS h dc_I_faultOfMaps_43
  have hl := lv_entry ([.ref (ad 21), .ref (ad 22), .int x2]) (n := 6) (Nat.le_of_ble_eq_true rfl)
  rw [lg_entry_eq]
  generalize (lg_sl ([.ref (ad 21), .ref (ad 22), .int x2]) ++ List.replicate (6 - (lg_sl ([.ref (ad 21), .ref (ad 22), .int x2])).length) Slot.unset).toArray = ls at hl ⊢
  have hl : lv_has ls 6 [(0, .ref (ad 21)), (1, .ref (ad 22)), (2, .int x2)] := hl
  refine lv_iconst (v := 0) hx hb dc_I_faultOfMaps_0 (by decide) ?_
  refine lv_istore_n (lv' := [(3, .int 0), (0, .ref (ad 21)), (1, .ref (ad 22)), (2, .int x2)]) hx hb dc_I_faultOfMaps_1 rfl hl (by decide) rfl (fun ls hl => ?_)
  refine lv_iconst (v := 0) hx hb dc_I_faultOfMaps_2 (by decide) ?_
  refine lv_istore (lv' := [(4, .int 0), (3, .int 0), (0, .ref (ad 21)), (1, .ref (ad 22)), (2, .int x2)]) hx hb dc_I_faultOfMaps_3 hl (by decide) rfl (fun ls hl => ?_)
  obtain ⟨n, h⟩ := h
  exact Lp_5 n x2 0 0 st h _ _ hP hS ls (lv_sub hl [2, 3, 4, 1, 0] rfl)
