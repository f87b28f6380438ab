set_option maxHeartbeats 4000000 in
set_option maxRecDepth 100000 in
theorem ct_S_keep (l : Launch) (D : va_G) (ad : Nat → Nat) (cA : Nat → ClassId) (w : Nat) (hJ : Jn_ ad) (st : St_) (post : Int32 → St_ → Prop) (h : wp_S_keep w st post) : Met l yn_S_keep (Cond.code yn_S_keep bc_S_keep 1 (some .int) :: Wk_) rm_S_keep (Pw_ D ad cA w st [.ref (ad 18)]) (Qi_ D ad cA w post) 0 0 (Aw_ ad) := by
  refine Met.ofW (cc := bc_S_keep) (maxL := 1) (ret := (some .int)) (by decide) rfl ?_
  intro p e s m args below meth c s₁ B hml hv
  obtain ⟨rfl, hP, hK, hN⟩ := hv
  have hx := B.exec
  have hb := B.bytes
  have hr := B.returns
  have hts : ∀ v ∈ Wk_, v.before [.ref (ad 18)].toArray s = true := fun v hv => atoms_spec (ws := Cond.code yn_S_keep bc_S_keep 1 (some .int) :: Wk_) B.pre v (List.mem_cons_of_mem _ hv)
  have hown : s.vm.findClass Rn_S = some m.cls := findClass_of_methodNamed B.named
  have hlocks := B.notSynchronized
  have hS : va_S (Aw_ ad) s.heap s.heap [] := va_S.rf
  have hl := lv_entry ([.ref (ad 18)]) (n := 1) (Nat.le_of_ble_eq_true rfl)
  rw [lg_entry_eq]
  generalize (lg_sl ([.ref (ad 18)]) ++ List.replicate (1 - (lg_sl ([.ref (ad 18)])).length) Slot.unset).toArray = ls at hl ⊢
  have hl : lv_has ls 1 [(0, .ref (ad 18))] := hl
  refine lv_aload_n hx hb dc_S_keep_0 rfl (lv_at hl 0 rfl) ?_
  refine lv_aload_n hx hb dc_S_keep_1 rfl (lv_at hl 0 rfl) ?_
  refine va_get (D := D) (ci := 0) (v := .ref (ad 23)) (C := Rn_S) (T := Fn_S) (N := 5) hx hb hts in_S hown hK hP 18 rfl rfl 4 (by decide) (hts _ mw_245) (fun _ h9 => h9) rfl dc_S_keep_2 ?_
  refine lv_aload_n hx hb dc_S_keep_5 rfl (lv_at hl 0 rfl) ?_
  refine va_get (D := D) (ci := 0) (v := .ref (ad 22)) (C := Rn_S) (T := Fn_S) (N := 5) hx hb hts in_S hown hK hP 18 rfl rfl 3 (by decide) (hts _ mw_12) (fun _ h9 => h9) rfl dc_S_keep_6 ?_
  refine w_cVv (y := yn_S_leadAll) (C := Rn_S) (index := 98) (n := 2) (own := Rn_S) 18 hx hb hml hown hts hK hN hP hS (ct_S_leadAll_23_22 l D ad cA w hJ st _ h) mw_246 mw_247 mw_248 mw_249 mw_3 (by decide +kernel) ⟨Nat.le_of_ble_eq_true rfl, Nat.le_of_ble_eq_true rfl⟩ rfl rfl rfl rfl rfl hl.1 rfl (lv_room (Nat.le_of_ble_eq_true rfl)) dc_S_keep_9 ⟨Nat.zero_le _, Nat.zero_le _⟩ (fun st101 H locs hP hS h => ?_)
  refine lv_aload_n hx hb dc_S_keep_12 rfl (lv_at hl 0 rfl) ?_
  refine va_get (D := D) (ci := 0) (v := .ref (ad 22)) (C := Rn_S) (T := Fn_S) (N := 5) hx hb hts in_S hown hK hP 18 rfl rfl 3 (by decide) (hts _ mw_12) (fun _ h9 => h9) rfl dc_S_keep_13 ?_
  refine va_getN (D := D) (ci := 4) (v := .int (st101 19 0)) (C := Rn_P) (T := Fn_P) (N := 3) (host := nh_) hx hb hts in_P hown hK hP 22 rfl rfl 2 (by decide) (va_Nw.use rfl (hN.1 _ nf_2)) (fun _ h9 => h9) rfl dc_S_keep_16 ?_
  exact w_iret hx hb hr hlocks hP hS h dc_S_keep_19
