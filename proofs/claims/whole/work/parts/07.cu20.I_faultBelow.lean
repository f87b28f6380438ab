set_option maxHeartbeats 4000000 in
set_option maxRecDepth 100000 in
theorem ct_I_faultBelow (l : Launch) (D : va_G) (ad : Nat → Nat) (cA : Nat → ClassId) (w : Nat) (hJ : Jn_ ad) (d : Nat) : ∀ (x1 : Int32) (x2 : Int32) (st : St_) (post : Int32 → St_ → Prop), wp_I_faultBelow w d x1 x2 st post → Met l yn_I_faultBelow (Cond.code yn_I_faultBelow bc_I_faultBelow 3 (some .int) :: Wk_) (rm_I_faultBelow d) (Pw_ D ad cA w st [.ref (ad 21), .int x1, .int x2]) (Qi_ D ad cA w post) 0 0 (Aw_ ad) := by
  induction d with
  | zero =>
    intro x1 x2 st post h
    exact h.elim
  | succ d ihd =>
    intro x1 x2 st post h
    refine Met.ofW (cc := bc_I_faultBelow) (maxL := 3) (ret := (some .int)) (by decide) rfl ?_
    intro p e s m args below meth c s₁ B hml hv
    obtain ⟨rfl, hP, hK, hN⟩ := hv
    have hx := B.exec
    have hb := B.bytes
    have hr := B.returns
    have hts : ∀ v ∈ Wk_, v.before [.ref (ad 21), .int x1, .int x2].toArray s = true := fun v hv => atoms_spec (ws := Cond.code yn_I_faultBelow bc_I_faultBelow 3 (some .int) :: Wk_) B.pre v (List.mem_cons_of_mem _ hv)
    have hown : s.vm.findClass Rn_I = some m.cls := findClass_of_methodNamed B.named
    have hlocks := B.notSynchronized
    have hS : va_S (Aw_ ad) s.heap s.heap [] := va_S.rf
    have hl := lv_entry ([.ref (ad 21), .int x1, .int x2]) (n := 3) (Nat.le_of_ble_eq_true rfl)
    rw [lg_entry_eq]
    generalize (lg_sl ([.ref (ad 21), .int x1, .int x2]) ++ List.replicate (3 - (lg_sl ([.ref (ad 21), .int x1, .int x2])).length) Slot.unset).toArray = ls at hl ⊢
    have hl : lv_has ls 3 [(0, .ref (ad 21)), (1, .int x1), (2, .int x2)] := hl
    refine lv_iload_n hx hb dc_I_faultBelow_0 rfl (lv_at hl 2 rfl) ?_
    refine lv_if_lt (tgt := 21) hx hb dc_I_faultBelow_1 (by decide) (fun c => ?_) (fun c => ?_)
    · have h := h.1 c
      refine lv_sipush (v := 1219) hx hb dc_I_faultBelow_21 (by decide) ?_
      exact w_iret hx hb hr hlocks hP hS h dc_I_faultBelow_24
    · have h := h.2 c
      refine lv_iload_n hx hb dc_I_faultBelow_4 rfl (lv_at hl 2 rfl) ?_
      refine lv_bipush (v := 16) hx hb dc_I_faultBelow_5 (by decide) ?_
      refine lv_icmp_gt (tgt := 21) hx hb dc_I_faultBelow_7 (by decide) (fun c => ?_) (fun c => ?_)
      · have h := h.1 c
        refine lv_sipush (v := 1219) hx hb dc_I_faultBelow_21 (by decide) ?_
        exact w_iret hx hb hr hlocks hP hS h dc_I_faultBelow_24
      · have h := h.2 c
        refine lv_aload_n hx hb dc_I_faultBelow_10 rfl (lv_at hl 0 rfl) ?_
        refine va_get (D := D) (ci := 3) (v := .ref (ad 19)) (C := Rn_I) (T := Fn_I) (N := 7) hx hb hts in_I hown hK hP 21 rfl rfl 0 (by decide) (hts _ mw_260) (fun _ h9 => h9) rfl dc_I_faultBelow_11 ?_
        refine lv_iload_n hx hb dc_I_faultBelow_14 rfl (lv_at hl 1 rfl) ?_
        refine w_cVi (y := yn_B_isBlock) (C := Rn_B) (index := 66) (n := 1) (own := Rn_I) 19 hx hb hml hown hts hK hN hP hS (ct_B_isBlock l D ad cA w hJ x1 st _ h) mw_14 mw_261 mw_16 mw_17 mw_18 (by decide +kernel) (by refine ⟨?_, ?_⟩ <;> (try dsimp only [headSpec]) <;> omega) rfl rfl rfl rfl rfl hl.1 rfl (lv_room (Nat.le_of_ble_eq_true rfl)) dc_I_faultBelow_15 ⟨Nat.zero_le _, Nat.zero_le _⟩ (fun r102 st101 H locs hP hS h => ?_)
        refine lv_if_ne (tgt := 25) hx hb dc_I_faultBelow_18 (by decide) (fun c => ?_) (fun c => ?_)
        · have h := h.1 c
          refine lv_aload_n hx hb dc_I_faultBelow_25 rfl (lv_at hl 0 rfl) ?_
          refine va_get (D := D) (ci := 3) (v := .ref (ad 6)) (C := Rn_I) (T := Fn_I) (N := 7) hx hb hts in_I hown hK hP 21 rfl rfl 3 (by decide) (hts _ mw_264) (fun _ h9 => h9) rfl dc_I_faultBelow_26 ?_
          refine lv_iload_n hx hb dc_I_faultBelow_29 rfl (lv_at hl 1 rfl) ?_
          refine lv_dup2_11 hx hb dc_I_faultBelow_30 rfl rfl ?_
          refine w_ild 6 (by decide) hx hb hK hP h.1 dc_I_faultBelow_31 ?_
          have h := h.2
          refine lv_iconst (v := 1) hx hb dc_I_faultBelow_32 (by decide) ?_
          refine lv_iadd hx hb dc_I_faultBelow_33 ?_
          refine w_ist 6 (by decide) hJ hx hb hK hP hS h.1 dc_I_faultBelow_34 (fun H locs hP hS => ?_)
          obtain ⟨st103, est103⟩ : ∃ z : St_, z = ws_1 st101 6 (x1).toNatClampNeg ((st101 6 (x1).toNatClampNeg) + 1) := ⟨_, rfl⟩
          rw [← est103] at hP
          have h := h.2 st103 est103
          refine lv_aload_n hx hb dc_I_faultBelow_35 rfl (lv_at hl 0 rfl) ?_
          refine va_get (D := D) (ci := 3) (v := .ref (ad 6)) (C := Rn_I) (T := Fn_I) (N := 7) hx hb hts in_I hown hK hP 21 rfl rfl 3 (by decide) (hts _ mw_264) (fun _ h9 => h9) rfl dc_I_faultBelow_36 ?_
          refine lv_iload_n hx hb dc_I_faultBelow_39 rfl (lv_at hl 1 rfl) ?_
          refine w_ild 6 (by decide) hx hb hK hP h.1 dc_I_faultBelow_40 ?_
          have h := h.2
          refine lv_iconst (v := 1) hx hb dc_I_faultBelow_41 (by decide) ?_
          refine lv_icmp_le (tgt := 47) hx hb dc_I_faultBelow_42 (by decide) (fun c => ?_) (fun c => ?_)
          · have h := h.1 c
            refine lv_aload_n hx hb dc_I_faultBelow_47 rfl (lv_at hl 0 rfl) ?_
            refine lv_iload_n hx hb dc_I_faultBelow_48 rfl (lv_at hl 1 rfl) ?_
            refine w_cVi (y := yn_I_hasOrder) (C := Rn_I) (index := 82) (n := 1) (own := Rn_I) 21 hx hb hml hown hts hK hN hP hS (ct_I_hasOrder l D ad cA w hJ x1 st103 _ h) mw_267 mw_268 mw_269 mw_270 mw_271 (by decide +kernel) (by refine ⟨?_, ?_⟩ <;> (try dsimp only [headSpec]) <;> omega) rfl rfl rfl rfl rfl hl.1 rfl (lv_room (Nat.le_of_ble_eq_true rfl)) dc_I_faultBelow_49 ⟨Nat.zero_le _, Nat.zero_le _⟩ (fun r105 st104 H locs hP hS h => ?_)
            refine lv_if_ne (tgt := 57) hx hb dc_I_faultBelow_52 (by decide) (fun c => ?_) (fun c => ?_)
            · have h := h.1 c
              refine lv_iload_n hx hb dc_I_faultBelow_57 rfl (lv_at hl 2 rfl) ?_
              refine lv_if_ne (tgt := 69) hx hb dc_I_faultBelow_58 (by decide) (fun c => ?_) (fun c => ?_)
              · have h := h.1 c
                refine lv_aload_n hx hb dc_I_faultBelow_69 rfl (lv_at hl 0 rfl) ?_
                refine lv_iload_n hx hb dc_I_faultBelow_70 rfl (lv_at hl 1 rfl) ?_
                refine lv_iload_n hx hb dc_I_faultBelow_71 rfl (lv_at hl 2 rfl) ?_
                refine w_cVi (y := yn_I_faultOfNode) (C := Rn_I) (index := 88) (n := 2) (own := Rn_I) 21 hx hb hml hown hts hK hN hP hS (ct_I_faultOfNode l D ad cA w hJ d (wp_I_faultBelow w d) ihd x1 x2 st104 _ h) mw_280 mw_281 mw_282 mw_283 mw_271 (by decide +kernel) (by refine ⟨?_, ?_⟩ <;> (try dsimp only [headSpec]) <;> omega) rfl rfl rfl rfl rfl hl.1 rfl (lv_room (Nat.le_of_ble_eq_true rfl)) dc_I_faultBelow_72 ⟨Nat.zero_le _, Nat.zero_le _⟩ (fun r107 st106 H locs hP hS h => ?_)
                exact w_iret hx hb hr hlocks hP hS h dc_I_faultBelow_75
              · have h := h.2 c
                refine lv_aload_n hx hb dc_I_faultBelow_61 rfl (lv_at hl 0 rfl) ?_
                refine lv_iload_n hx hb dc_I_faultBelow_62 rfl (lv_at hl 1 rfl) ?_
                refine w_cVi (y := yn_I_faultOfLeaf) (C := Rn_I) (index := 85) (n := 1) (own := Rn_I) 21 hx hb hml hown hts hK hN hP hS (ct_I_faultOfLeaf l D ad cA w hJ x1 st104 _ h) mw_284 mw_285 mw_286 mw_287 mw_271 (by decide +kernel) (by refine ⟨?_, ?_⟩ <;> (try dsimp only [headSpec]) <;> omega) rfl rfl rfl rfl rfl hl.1 rfl (lv_room (Nat.le_of_ble_eq_true rfl)) dc_I_faultBelow_63 ⟨Nat.zero_le _, Nat.zero_le _⟩ (fun r109 st108 H locs hP hS h => ?_)
                refine lv_goto (tgt := 75) hx hb dc_I_faultBelow_66 (by decide) ?_
                exact w_iret hx hb hr hlocks hP hS h dc_I_faultBelow_75
            · have h := h.2 c
              refine lv_iload_n hx hb dc_I_faultBelow_55 rfl (lv_at hl 1 rfl) ?_
              exact w_iret hx hb hr hlocks hP hS h dc_I_faultBelow_56
          · have h := h.2 c
            refine lv_iconst (v := 0) hx hb dc_I_faultBelow_45 (by decide) ?_
            exact w_iret hx hb hr hlocks hP hS h dc_I_faultBelow_46
        · have h := h.2 c
          refine lv_sipush (v := 1219) hx hb dc_I_faultBelow_21 (by decide) ?_
          exact w_iret hx hb hr hlocks hP hS h dc_I_faultBelow_24
