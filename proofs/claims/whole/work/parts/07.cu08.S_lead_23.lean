set_option maxHeartbeats 4000000 in
set_option maxRecDepth 100000 in
theorem ct_S_lead_23 (l : Launch) (D : va_G) (ad : Nat → Nat) (cA : Nat → ClassId) (w : Nat) (hJ : Jn_ ad) (x2 : Int32) (x3 : Int32) (x4 : Int32) (st : St_) (post : St_ → Prop) (h : wp_S_lead_23 w x2 x3 x4 st post) : Met l yn_S_lead (Cond.code yn_S_lead bc_S_lead 5 none :: Wk_) rm_S_lead_23 (Pw_ D ad cA w st [.ref (ad 18), .ref (ad 23), .int x2, .int x3, .int x4]) (Qv_ D ad cA w post) 0 0 (Aw_ ad) := by
  refine Met.ofW (cc := bc_S_lead) (maxL := 5) (ret := none) (by decide) rfl ?_
  intro p e s m args below meth c s₁ B hml hv
  obtain ⟨rfl, hP, hK, hN⟩ := hv
  have hx := B.exec
  have hb := B.bytes
  have hr := B.returns
  have hts : ∀ v ∈ Wk_, v.before [.ref (ad 18), .ref (ad 23), .int x2, .int x3, .int x4].toArray s = true := fun v hv => atoms_spec (ws := Cond.code yn_S_lead bc_S_lead 5 none :: Wk_) B.pre v (List.mem_cons_of_mem _ hv)
  have hown : s.vm.findClass Rn_S = some m.cls := findClass_of_methodNamed B.named
  have hlocks := B.notSynchronized
  have hS : va_S (Aw_ ad) s.heap s.heap [] := va_S.rf
  have hl := lv_entry ([.ref (ad 18), .ref (ad 23), .int x2, .int x3, .int x4]) (n := 5) (Nat.le_of_ble_eq_true rfl)
  rw [lg_entry_eq]
  generalize (lg_sl ([.ref (ad 18), .ref (ad 23), .int x2, .int x3, .int x4]) ++ List.replicate (5 - (lg_sl ([.ref (ad 18), .ref (ad 23), .int x2, .int x3, .int x4])).length) Slot.unset).toArray = ls at hl ⊢
  have hl : lv_has ls 5 [(0, .ref (ad 18)), (1, .ref (ad 23)), (2, .int x2), (3, .int x3), (4, .int x4)] := hl
  refine lv_aload_n hx hb dc_S_lead_0 rfl (lv_at hl 0 rfl) ?_
  refine va_get (D := D) (ci := 0) (v := .ref (ad 19)) (C := Rn_S) (T := Fn_S) (N := 5) hx hb hts in_S hown hK hP 18 rfl rfl 0 (by decide) (hts _ mw_223) (fun _ h9 => h9) rfl dc_S_lead_1 ?_
  refine lv_iload_n hx hb dc_S_lead_4 rfl (lv_at hl 3 rfl) ?_
  refine w_cVv (y := yn_B_share) (C := Rn_B) (index := 107) (n := 1) (own := Rn_S) 19 hx hb hml hown hts hK hN hP hS (ct_B_share l D ad cA w hJ x3 st _ h) mw_89 mw_224 mw_91 mw_92 mw_18 (by decide +kernel) ⟨Nat.le_of_ble_eq_true rfl, Nat.le_of_ble_eq_true rfl⟩ rfl rfl rfl rfl rfl hl.1 rfl (lv_room (Nat.le_of_ble_eq_true rfl)) dc_S_lead_5 ⟨Nat.zero_le _, Nat.zero_le _⟩ (fun st101 H locs hP hS h => ?_)
  refine lv_aload_n hx hb dc_S_lead_8 rfl (lv_at hl 0 rfl) ?_
  refine va_get (D := D) (ci := 0) (v := .ref (ad 20)) (C := Rn_S) (T := Fn_S) (N := 5) hx hb hts in_S hown hK hP 18 rfl rfl 1 (by decide) (hts _ mw_11) (fun _ h9 => h9) rfl dc_S_lead_9 ?_
  refine lv_aload_n hx hb dc_S_lead_12 rfl (lv_at hl 1 rfl) ?_
  refine va_getN (D := D) (ci := 4) (v := .ref (ad 12)) (C := Rn_P) (T := Fn_P) (N := 3) (host := nh_) hx hb hts in_P hown hK hP 23 rfl rfl 0 (by decide) (va_Nw.use rfl (hN.1 _ nf_0)) (fun _ h9 => h9) rfl dc_S_lead_13 ?_
  refine lv_iload_n hx hb dc_S_lead_16 rfl (lv_at hl 2 rfl) ?_
  refine w_ild 12 (by decide) hx hb hK hP h.1 dc_S_lead_17 ?_
  have h := h.2
  refine w_cVv (y := yn_T_release) (C := Rn_T) (index := 110) (n := 1) (own := Rn_S) 20 hx hb hml hown hts hK hN hP hS (ct_T_release l D ad cA w hJ (st101 12 (x2).toNatClampNeg) st101 _ h) mw_230 mw_231 mw_232 mw_233 mw_59 (by decide +kernel) ⟨Nat.le_of_ble_eq_true rfl, Nat.le_of_ble_eq_true rfl⟩ rfl rfl rfl rfl rfl hl.1 rfl (lv_room (Nat.le_of_ble_eq_true rfl)) dc_S_lead_18 ⟨Nat.zero_le _, Nat.zero_le _⟩ (fun st102 H locs hP hS h => ?_)
  refine lv_aload_n hx hb dc_S_lead_21 rfl (lv_at hl 1 rfl) ?_
  refine va_getN (D := D) (ci := 4) (v := .ref (ad 12)) (C := Rn_P) (T := Fn_P) (N := 3) (host := nh_) hx hb hts in_P hown hK hP 23 rfl rfl 0 (by decide) (va_Nw.use rfl (hN.1 _ nf_0)) (fun _ h9 => h9) rfl dc_S_lead_22 ?_
  refine lv_iload_n hx hb dc_S_lead_25 rfl (lv_at hl 2 rfl) ?_
  refine lv_iload_n hx hb dc_S_lead_26 rfl (lv_at hl 3 rfl) ?_
  refine w_ist 12 (by decide) hJ hx hb hK hP hS h.1 dc_S_lead_27 (fun H locs hP hS => ?_)
  obtain ⟨st103, est103⟩ : ∃ z : St_, z = ws_1 st102 12 (x2).toNatClampNeg x3 := ⟨_, rfl⟩
  rw [← est103] at hP
  have h := h.2 st103 est103
  refine lv_aload_n hx hb dc_S_lead_28 rfl (lv_at hl 1 rfl) ?_
  refine lv_iload_n hx hb dc_S_lead_29 rfl (lv_at hl 2 rfl) ?_
  refine lv_iload hx hb dc_S_lead_30 (lv_at hl 4 rfl) ?_
  refine lv_aload_n hx hb dc_S_lead_32 rfl (lv_at hl 1 rfl) ?_
  refine va_getN (D := D) (ci := 4) (v := .ref (ad 13)) (C := Rn_P) (T := Fn_P) (N := 3) (host := nh_) hx hb hts in_P hown hK hP 23 rfl rfl 1 (by decide) (va_Nw.use rfl (hN.1 _ nf_1)) (fun _ h9 => h9) rfl dc_S_lead_33 ?_
  refine lv_iload_n hx hb dc_S_lead_36 rfl (lv_at hl 2 rfl) ?_
  refine w_ild 13 (by decide) hx hb hK hP h.1 dc_S_lead_37 ?_
  have h := h.2
  refine lv_isub hx hb dc_S_lead_38 ?_
  refine w_cSv (y := yn_S_changeCount) (index := 78) (n := 3) (own := Rn_S) hx hb hml hown hts hK hN hP hS (ct_S_changeCount_23 l D ad cA w hJ x2 (x4 - (st103 13 (x2).toNatClampNeg)) st103 _ h) mw_143 mw_144 mw_145 mw_3 (by decide +kernel) ⟨Nat.le_of_ble_eq_true rfl, Nat.le_of_ble_eq_true rfl⟩ rfl rfl rfl hl.1 rfl (lv_room (Nat.le_of_ble_eq_true rfl)) dc_S_lead_39 ⟨Nat.zero_le _, Nat.zero_le _⟩ (fun st104 H locs hP hS h => ?_)
  exact w_vret hx hb hr hlocks hP hS h dc_S_lead_42
