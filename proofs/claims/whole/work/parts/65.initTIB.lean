-- contracts of leastEntries, Blocks(), Trees(), Inspection()
theorem le_v {w : Nat} (hw : 5 ≤ w ∧ w ≤ 32) : (nI (w - 1) + 1) / 2 = nI (w / 2) := by
  rw [nI_1, show w - 1 + 1 = w by omega, show (2 : Int32) = nI 2 from rfl, pk_div (by omega) (by omega) (by omega)]
set_option maxHeartbeats 4000000 in
set_option maxRecDepth 100000 in
theorem ci_le (l : Launch) (k : Int32) : Met l yn_S_leastEntries (Cond.code yn_S_leastEntries bc_S_leastEntries 1 (some .int) :: Wi_) ({ frames := 0, cells := 0, slots := 0, locals := 0 }) (va_Pc [.int k] (fun _ => True)) (va_Qi (fun r (_ : Unit) => r = (k + 1) / 2) (fun _ _ => True) (fun _ => False)) 0 0 (fun _ => False) := by
  refine Met.ofW (cc := bc_S_leastEntries) (maxL := 1) (ret := (some .int)) (by decide) rfl ?_
  intro p e s m args below meth c s₁ B hml hv
  obtain ⟨rfl, -⟩ := hv
  have hx := B.exec
  have hb := B.bytes
  have hr := B.returns
  have hlocks := B.notSynchronized
  have hS : va_S (fun _ => False) s.heap s.heap [] := va_S.rf
  have hl := lv_entry ([.int k]) (n := 1) (Nat.le_of_ble_eq_true rfl)
  rw [lg_entry_eq]
  generalize (lg_sl ([.int k]) ++ List.replicate (1 - (lg_sl ([.int k])).length) Slot.unset).toArray = ls at hl ⊢
  have hl : lv_has ls 1 [(0, .int k)] := hl
  refine lv_iload_n hx hb dc_S_leastEntries_0 rfl (lv_at hl 0 rfl) ?_
  refine lv_iconst (v := 1) hx hb dc_S_leastEntries_1 (by decide) ?_
  refine lv_iadd hx hb dc_S_leastEntries_2 ?_
  refine lv_iconst (v := 2) hx hb dc_S_leastEntries_3 (by decide) ?_
  refine lv_idiv hx hb dc_S_leastEntries_4 (by decide) ?_
  exact W.iret (v := (k + 1) / 2) hx hb hr (fun t ht hW => ⟨⟨(k + 1) / 2, (), rfl, rfl, trivial⟩, hS.F ht⟩) hS.2.2 dc_S_leastEntries_5
set_option maxHeartbeats 4000000 in
set_option maxRecDepth 100000 in
theorem ci_T (l : Launch) (D : va_G) (h0 sz : Nat) (hB w : Nat) (hw : 5 ≤ w ∧ w ≤ 32) : Met l yn_T_init (Cond.code yn_T_init bc_T_init 3 none :: Wi_) ({ frames := 1, cells := 0, slots := 0, locals := 40 }) (va_Pc [.ref h0, .ref hB, .int (nI (w - 1))] (fun U => U.heap.size = sz ∧ va_P D sC_ [(h0, .inr (2, [.null, .int 0, .int 0]))] U.heap ∧ va_K D sC_ [] U ∧ va_D (fun _ => True) [(h0, .inr (2, [.null, .int 0, .int 0]))] ∧ NI_ U)) (va_Qv (fun _ : Unit => True) (fun _ t => ∃ _ : Unit, va_P D sC_ [(h0, .inr (2, [.ref hB, .int (nI (w - 1)), .int (nI (w / 2))]))] t.heap ∧ va_K D sC_ [] t ∧ va_D (va_A [(h0, .inr (2, [.null, .int 0, .int 0]))] sz) [(h0, .inr (2, [.ref hB, .int (nI (w - 1)), .int (nI (w / 2))]))] ∧ True) (va_A [(h0, .inr (2, [.null, .int 0, .int 0]))] sz)) 0 0 (va_A [(h0, .inr (2, [.null, .int 0, .int 0]))] sz) := by
  refine Met.ofW (cc := bc_T_init) (maxL := 3) (ret := none) (by decide) rfl ?_
  intro p e s m args below meth c s₁ B hml hv
  obtain ⟨rfl, hsz, hP, hK, hD0, hN⟩ := hv
  have hx := B.exec
  have hb := B.bytes
  have hr := B.returns
  have hts : ∀ v ∈ Wi_, v.before [.ref h0, .ref hB, .int (nI (w - 1))].toArray s = true := fun v hv => atoms_spec (ws := Cond.code yn_T_init bc_T_init 3 none :: Wi_) B.pre v (List.mem_cons_of_mem _ hv)
  have hown : s.vm.findClass Rn_T = some m.cls := findClass_of_methodNamed B.named
  have hlocks := B.notSynchronized
  have hin : meth.name = "<init>" := (name_of_methodNamed B.named B.method).1
  subst hsz
  have hD := hD0.self (sz := s.heap.size)
  generalize hAe : va_A [(h0, .inr (2, [.null, .int 0, .int 0]))] s.heap.size = A at hD ⊢
  have hA : ∀ q : Nat, s.heap.size ≤ q → A q := fun q h => by rw [← hAe]; exact Or.inr h
  have hS : va_S A s.heap s.heap [] := va_S.rf
  have hl := lv_entry ([.ref h0, .ref hB, .int (nI (w - 1))]) (n := 3) (Nat.le_of_ble_eq_true rfl)
  rw [lg_entry_eq]
  generalize (lg_sl ([.ref h0, .ref hB, .int (nI (w - 1))]) ++ List.replicate (3 - (lg_sl ([.ref h0, .ref hB, .int (nI (w - 1))])).length) Slot.unset).toArray = ls at hl ⊢
  have hP : va_P D sC_ [(h0, .inr (2, [.null, .int 0, .int 0]))] s.heap := hP
  have hl : lv_has ls 3 [(0, .ref h0), (1, .ref hB), (2, .int (nI (w - 1)))] := hl
  refine lv_aload_n hx hb dc_T_init_0 rfl (lv_at hl 0 rfl) ?_
  refine W.objInit hx hb hown (hts _ mi_4) (hts _ mi_1) (hts _ mi_0) rfl (by rw [hml]; exact hl.1) rfl dc_T_init_1 (Nat.le_of_ble_eq_true rfl) (Nat.le_of_ble_eq_true rfl) ?_
  refine W.eq (g2 := F0 m 4 ls []) rfl ?_
  refine lv_aload_n hx hb dc_T_init_4 rfl (lv_at hl 0 rfl) ?_
  refine lv_aload_n hx hb dc_T_init_5 rfl (lv_at hl 1 rfl) ?_
  refine va_putF (D := D) (ci := 2) (v := .ref hB) (ty := .object "SharedTrees$Blocks") (C := Rn_T) (T := Fn_T) (N := 3) hx hb hts ii_T Tn_T to_T nn_T hown hK hP hD hS 0 rfl rfl 0 (by decide) (hts _ mi_36) (fun _ h9 => h9) rfl hin rfl (by decide +kernel) rfl rfl (Nat.le_of_ble_eq_true rfl) dc_T_init_6 (fun H locs hP hD hS => ?_)
  have hP : va_P D sC_ [(h0, .inr (2, [.ref hB, .int 0, .int 0]))] H := hP
  have hD : va_D A [(h0, .inr (2, [.ref hB, .int 0, .int 0]))] := hD
  refine lv_aload_n hx hb dc_T_init_9 rfl (lv_at hl 0 rfl) ?_
  refine lv_iload_n hx hb dc_T_init_10 rfl (lv_at hl 2 rfl) ?_
  refine va_putF (D := D) (ci := 2) (v := .int (nI (w - 1))) (ty := .int) (C := Rn_T) (T := Fn_T) (N := 3) hx hb hts ii_T Tn_T to_T nn_T hown hK hP hD hS 0 rfl rfl 1 (by decide) (hts _ mi_37) (fun _ h9 => h9) rfl hin rfl (by decide +kernel) rfl rfl (Nat.le_of_ble_eq_true rfl) dc_T_init_11 (fun H locs hP hD hS => ?_)
  have hP : va_P D sC_ [(h0, .inr (2, [.ref hB, .int (nI (w - 1)), .int 0]))] H := hP
  have hD : va_D A [(h0, .inr (2, [.ref hB, .int (nI (w - 1)), .int 0]))] := hD
  refine lv_aload_n hx hb dc_T_init_14 rfl (lv_at hl 0 rfl) ?_
  refine lv_iload_n hx hb dc_T_init_15 rfl (lv_at hl 2 rfl) ?_
  refine va_calli (va_runSN (As := [.int (nI (w - 1))]) (rest := [.ref h0]) ⟨hx, hb, hml, hown, hts⟩ (ci_le l (nI (w - 1))) ⟨va_cnB 1 hts (wi_in mi_70) rfl rfl rfl (hN _ ni_1) (hts _ mi_16) (by decide +kernel) ⟨Nat.le_of_ble_eq_true rfl, Nat.le_of_ble_eq_true rfl⟩, hts _ mi_69, trivial⟩ ⟨fun a U g mk q => q, fun U hU hW => ⟨rfl, trivial⟩⟩ rfl rfl hl.1 rfl (lv_room (Nat.le_of_ble_eq_true rfl)) dc_T_init_16 ⟨Nat.le_of_ble_eq_true rfl, Nat.le_of_ble_eq_true rfl⟩) hS (fun q _ h => h.elim) (fun q h => h.elim) (fun r9 u9 t9 H1 locs ht9 hvm9 hw9 hB9 hz9 hk9 hS => ?_)
  have hP : va_P D sC_ [(h0, .inr (2, [.ref hB, .int (nI (w - 1)), .int 0]))] H1 := hP.kept (fun k x hx => hk9 x.1 ((hP k x hx).lt) (fun q => q))
  rw [le_v hw] at hw9
  subst hw9
  refine va_putF (D := D) (ci := 2) (v := .int (nI (w / 2))) (ty := .int) (C := Rn_T) (T := Fn_T) (N := 3) hx hb hts ii_T Tn_T to_T nn_T hown hK hP hD hS 0 rfl rfl 2 (by decide) (hts _ mi_38) (fun _ h9 => h9) rfl hin rfl (by decide +kernel) rfl rfl (Nat.le_of_ble_eq_true rfl) dc_T_init_19 (fun H locs hP hD hS => ?_)
  have hP : va_P D sC_ [(h0, .inr (2, [.ref hB, .int (nI (w - 1)), .int (nI (w / 2))]))] H := hP
  have hD : va_D A [(h0, .inr (2, [.ref hB, .int (nI (w - 1)), .int (nI (w / 2))]))] := hD
  exact W.vret hx hb hr (fun t ht hW => ⟨⟨(), rfl, trivial, (), by rw [ht]; exact hP, va_K.moved hW.alike hK, hD, trivial⟩, hS.F ht⟩) hS.2.2 dc_T_init_22
set_option maxHeartbeats 4000000 in
set_option maxRecDepth 100000 in
theorem ci_I (l : Launch) (D : va_G) (h0 sz : Nat) (hB w : Nat) (hw : 5 ≤ w ∧ w ≤ 32) : Met l yn_I_init (Cond.code yn_I_init bc_I_init 3 none :: Wi_) ({ frames := 1, cells := 4, slots := 4804, locals := 40 }) (va_Pc [.ref h0, .ref hB, .int (nI (w - 1))] (fun U => U.heap.size = sz ∧ va_P D sC_ [(h0, .inr (3, [.null, .int 0, .int 0, .null, .null, .null, .null]))] U.heap ∧ va_K D sC_ [] U ∧ va_D (fun _ => True) [(h0, .inr (3, [.null, .int 0, .int 0, .null, .null, .null, .null]))] ∧ NI_ U)) (va_Qv (fun _ : Unit => True) (fun _ t => ∃ (q1 q2 q3 q4 : Nat) (c1 c2 c3 c4 : ClassId), va_P D sC_ [(h0, .inr (3, [.ref hB, .int (nI (w - 1)), .int (nI (w / 2)), .ref q1, .ref q2, .ref q3, .ref q4])), (q1, .inl (c1, 1201, .inl (fun _ => 0))), (q2, .inl (c2, 1201, .inl (fun _ => 0))), (q3, .inl (c3, 1201, .inl (fun _ => 0))), (q4, .inl (c4, 1201, .inl (fun _ => 0)))] t.heap ∧ va_K D sC_ [(c1, .int), (c2, .int), (c3, .int), (c4, .boolean)] t ∧ va_D (va_A [(h0, .inr (3, [.null, .int 0, .int 0, .null, .null, .null, .null]))] sz) [(h0, .inr (3, [.ref hB, .int (nI (w - 1)), .int (nI (w / 2)), .ref q1, .ref q2, .ref q3, .ref q4])), (q1, .inl (c1, 1201, .inl (fun _ => 0))), (q2, .inl (c2, 1201, .inl (fun _ => 0))), (q3, .inl (c3, 1201, .inl (fun _ => 0))), (q4, .inl (c4, 1201, .inl (fun _ => 0)))] ∧ True) (va_A [(h0, .inr (3, [.null, .int 0, .int 0, .null, .null, .null, .null]))] sz)) 4 4804 (va_A [(h0, .inr (3, [.null, .int 0, .int 0, .null, .null, .null, .null]))] sz) := by
  refine Met.ofW (cc := bc_I_init) (maxL := 3) (ret := none) (by decide) rfl ?_
  intro p e s m args below meth c s₁ B hml hv
  obtain ⟨rfl, hsz, hP, hK, hD0, hN⟩ := hv
  have hx := B.exec
  have hb := B.bytes
  have hr := B.returns
  have hts : ∀ v ∈ Wi_, v.before [.ref h0, .ref hB, .int (nI (w - 1))].toArray s = true := fun v hv => atoms_spec (ws := Cond.code yn_I_init bc_I_init 3 none :: Wi_) B.pre v (List.mem_cons_of_mem _ hv)
  have hown : s.vm.findClass Rn_I = some m.cls := findClass_of_methodNamed B.named
  have hlocks := B.notSynchronized
  have hin : meth.name = "<init>" := (name_of_methodNamed B.named B.method).1
  subst hsz
  have hD := hD0.self (sz := s.heap.size)
  generalize hAe : va_A [(h0, .inr (3, [.null, .int 0, .int 0, .null, .null, .null, .null]))] s.heap.size = A at hD ⊢
  have hA : ∀ q : Nat, s.heap.size ≤ q → A q := fun q h => by rw [← hAe]; exact Or.inr h
  have hS : va_S A s.heap s.heap [] := va_S.rf
  have hl := lv_entry ([.ref h0, .ref hB, .int (nI (w - 1))]) (n := 3) (Nat.le_of_ble_eq_true rfl)
  rw [lg_entry_eq]
  generalize (lg_sl ([.ref h0, .ref hB, .int (nI (w - 1))]) ++ List.replicate (3 - (lg_sl ([.ref h0, .ref hB, .int (nI (w - 1))])).length) Slot.unset).toArray = ls at hl ⊢
  have hP : va_P D sC_ [(h0, .inr (3, [.null, .int 0, .int 0, .null, .null, .null, .null]))] s.heap := hP
  have hl : lv_has ls 3 [(0, .ref h0), (1, .ref hB), (2, .int (nI (w - 1)))] := hl
  refine lv_aload_n hx hb dc_I_init_0 rfl (lv_at hl 0 rfl) ?_
  refine W.objInit hx hb hown (hts _ mi_5) (hts _ mi_1) (hts _ mi_0) rfl (by rw [hml]; exact hl.1) rfl dc_I_init_1 (Nat.le_of_ble_eq_true rfl) (Nat.le_of_ble_eq_true rfl) ?_
  refine W.eq (g2 := F0 m 4 ls []) rfl ?_
  refine lv_aload_n hx hb dc_I_init_4 rfl (lv_at hl 0 rfl) ?_
  refine lv_sipush (v := 1201) hx hb dc_I_init_5 (by decide) ?_
  refine va_newa (atype := .int) (ty := .int) (a0 := (1201, .inl (fun _ => 0))) hx hb (hts _ mi_102) rfl hK hP hD hS hA (vz_int _) (by decide +kernel) (by decide +kernel) (by decide) (Nat.le_of_ble_eq_true rfl) (Nat.le_of_ble_eq_true rfl) dc_I_init_8 (fun q1 c1 H hK hP hD hS => ?_)
  have hP : va_P D sC_ [(h0, .inr (3, [.null, .int 0, .int 0, .null, .null, .null, .null])), (q1, .inl (c1, 1201, .inl (fun _ => 0)))] H := hP
  have hD : va_D A [(h0, .inr (3, [.null, .int 0, .int 0, .null, .null, .null, .null])), (q1, .inl (c1, 1201, .inl (fun _ => 0)))] := hD
  have hK : va_K D sC_ [(c1, .int)] s := hK
  refine W.widen (k := 1) (n := 1201) (by omega) (by omega) ?_
  refine va_putF (D := D) (ci := 3) (v := .ref q1) (ty := .array .int) (C := Rn_I) (T := Fn_I) (N := 7) hx hb hts ii_I Tn_I to_I nn_I hown hK hP hD hS 0 rfl rfl 3 (by decide) (hts _ mi_39) (fun _ h9 => h9) rfl hin rfl (by decide +kernel) rfl rfl (Nat.le_of_ble_eq_true rfl) dc_I_init_10 (fun H locs hP hD hS => ?_)
  have hP : va_P D sC_ [(h0, .inr (3, [.null, .int 0, .int 0, .ref q1, .null, .null, .null])), (q1, .inl (c1, 1201, .inl (fun _ => 0)))] H := hP
  have hD : va_D A [(h0, .inr (3, [.null, .int 0, .int 0, .ref q1, .null, .null, .null])), (q1, .inl (c1, 1201, .inl (fun _ => 0)))] := hD
  refine lv_aload_n hx hb dc_I_init_13 rfl (lv_at hl 0 rfl) ?_
  refine lv_sipush (v := 1201) hx hb dc_I_init_14 (by decide) ?_
  refine va_newa (atype := .int) (ty := .int) (a0 := (1201, .inl (fun _ => 0))) hx hb (hts _ mi_102) rfl hK hP hD hS hA (vz_int _) (by decide +kernel) (by decide +kernel) (by decide) (Nat.le_of_ble_eq_true rfl) (Nat.le_of_ble_eq_true rfl) dc_I_init_17 (fun q2 c2 H hK hP hD hS => ?_)
  have hP : va_P D sC_ [(h0, .inr (3, [.null, .int 0, .int 0, .ref q1, .null, .null, .null])), (q1, .inl (c1, 1201, .inl (fun _ => 0))), (q2, .inl (c2, 1201, .inl (fun _ => 0)))] H := hP
  have hD : va_D A [(h0, .inr (3, [.null, .int 0, .int 0, .ref q1, .null, .null, .null])), (q1, .inl (c1, 1201, .inl (fun _ => 0))), (q2, .inl (c2, 1201, .inl (fun _ => 0)))] := hD
  have hK : va_K D sC_ [(c1, .int), (c2, .int)] s := hK
  refine W.widen (k := 2) (n := 2402) (by omega) (by omega) ?_
  refine va_putF (D := D) (ci := 3) (v := .ref q2) (ty := .array .int) (C := Rn_I) (T := Fn_I) (N := 7) hx hb hts ii_I Tn_I to_I nn_I hown hK hP hD hS 0 rfl rfl 4 (by decide) (hts _ mi_40) (fun _ h9 => h9) rfl hin rfl (by decide +kernel) rfl rfl (Nat.le_of_ble_eq_true rfl) dc_I_init_19 (fun H locs hP hD hS => ?_)
  have hP : va_P D sC_ [(h0, .inr (3, [.null, .int 0, .int 0, .ref q1, .ref q2, .null, .null])), (q1, .inl (c1, 1201, .inl (fun _ => 0))), (q2, .inl (c2, 1201, .inl (fun _ => 0)))] H := hP
  have hD : va_D A [(h0, .inr (3, [.null, .int 0, .int 0, .ref q1, .ref q2, .null, .null])), (q1, .inl (c1, 1201, .inl (fun _ => 0))), (q2, .inl (c2, 1201, .inl (fun _ => 0)))] := hD
  refine lv_aload_n hx hb dc_I_init_22 rfl (lv_at hl 0 rfl) ?_
  refine lv_sipush (v := 1201) hx hb dc_I_init_23 (by decide) ?_
  refine va_newa (atype := .int) (ty := .int) (a0 := (1201, .inl (fun _ => 0))) hx hb (hts _ mi_102) rfl hK hP hD hS hA (vz_int _) (by decide +kernel) (by decide +kernel) (by decide) (Nat.le_of_ble_eq_true rfl) (Nat.le_of_ble_eq_true rfl) dc_I_init_26 (fun q3 c3 H hK hP hD hS => ?_)
  have hP : va_P D sC_ [(h0, .inr (3, [.null, .int 0, .int 0, .ref q1, .ref q2, .null, .null])), (q1, .inl (c1, 1201, .inl (fun _ => 0))), (q2, .inl (c2, 1201, .inl (fun _ => 0))), (q3, .inl (c3, 1201, .inl (fun _ => 0)))] H := hP
  have hD : va_D A [(h0, .inr (3, [.null, .int 0, .int 0, .ref q1, .ref q2, .null, .null])), (q1, .inl (c1, 1201, .inl (fun _ => 0))), (q2, .inl (c2, 1201, .inl (fun _ => 0))), (q3, .inl (c3, 1201, .inl (fun _ => 0)))] := hD
  have hK : va_K D sC_ [(c1, .int), (c2, .int), (c3, .int)] s := hK
  refine W.widen (k := 3) (n := 3603) (by omega) (by omega) ?_
  refine va_putF (D := D) (ci := 3) (v := .ref q3) (ty := .array .int) (C := Rn_I) (T := Fn_I) (N := 7) hx hb hts ii_I Tn_I to_I nn_I hown hK hP hD hS 0 rfl rfl 5 (by decide) (hts _ mi_41) (fun _ h9 => h9) rfl hin rfl (by decide +kernel) rfl rfl (Nat.le_of_ble_eq_true rfl) dc_I_init_28 (fun H locs hP hD hS => ?_)
  have hP : va_P D sC_ [(h0, .inr (3, [.null, .int 0, .int 0, .ref q1, .ref q2, .ref q3, .null])), (q1, .inl (c1, 1201, .inl (fun _ => 0))), (q2, .inl (c2, 1201, .inl (fun _ => 0))), (q3, .inl (c3, 1201, .inl (fun _ => 0)))] H := hP
  have hD : va_D A [(h0, .inr (3, [.null, .int 0, .int 0, .ref q1, .ref q2, .ref q3, .null])), (q1, .inl (c1, 1201, .inl (fun _ => 0))), (q2, .inl (c2, 1201, .inl (fun _ => 0))), (q3, .inl (c3, 1201, .inl (fun _ => 0)))] := hD
  refine lv_aload_n hx hb dc_I_init_31 rfl (lv_at hl 0 rfl) ?_
  refine lv_sipush (v := 1201) hx hb dc_I_init_32 (by decide) ?_
  refine va_newa (atype := .boolean) (ty := .boolean) (a0 := (1201, .inl (fun _ => 0))) hx hb (hts _ mi_103) rfl hK hP hD hS hA (vz_boolean _) (by decide +kernel) (by decide +kernel) (by decide) (Nat.le_of_ble_eq_true rfl) (Nat.le_of_ble_eq_true rfl) dc_I_init_35 (fun q4 c4 H hK hP hD hS => ?_)
  have hP : va_P D sC_ [(h0, .inr (3, [.null, .int 0, .int 0, .ref q1, .ref q2, .ref q3, .null])), (q1, .inl (c1, 1201, .inl (fun _ => 0))), (q2, .inl (c2, 1201, .inl (fun _ => 0))), (q3, .inl (c3, 1201, .inl (fun _ => 0))), (q4, .inl (c4, 1201, .inl (fun _ => 0)))] H := hP
  have hD : va_D A [(h0, .inr (3, [.null, .int 0, .int 0, .ref q1, .ref q2, .ref q3, .null])), (q1, .inl (c1, 1201, .inl (fun _ => 0))), (q2, .inl (c2, 1201, .inl (fun _ => 0))), (q3, .inl (c3, 1201, .inl (fun _ => 0))), (q4, .inl (c4, 1201, .inl (fun _ => 0)))] := hD
  have hK : va_K D sC_ [(c1, .int), (c2, .int), (c3, .int), (c4, .boolean)] s := hK
  refine W.widen (k := 4) (n := 4804) (by omega) (by omega) ?_
  refine va_putF (D := D) (ci := 3) (v := .ref q4) (ty := .array .boolean) (C := Rn_I) (T := Fn_I) (N := 7) hx hb hts ii_I Tn_I to_I nn_I hown hK hP hD hS 0 rfl rfl 6 (by decide) (hts _ mi_42) (fun _ h9 => h9) rfl hin rfl (by decide +kernel) rfl rfl (Nat.le_of_ble_eq_true rfl) dc_I_init_37 (fun H locs hP hD hS => ?_)
  have hP : va_P D sC_ [(h0, .inr (3, [.null, .int 0, .int 0, .ref q1, .ref q2, .ref q3, .ref q4])), (q1, .inl (c1, 1201, .inl (fun _ => 0))), (q2, .inl (c2, 1201, .inl (fun _ => 0))), (q3, .inl (c3, 1201, .inl (fun _ => 0))), (q4, .inl (c4, 1201, .inl (fun _ => 0)))] H := hP
  have hD : va_D A [(h0, .inr (3, [.null, .int 0, .int 0, .ref q1, .ref q2, .ref q3, .ref q4])), (q1, .inl (c1, 1201, .inl (fun _ => 0))), (q2, .inl (c2, 1201, .inl (fun _ => 0))), (q3, .inl (c3, 1201, .inl (fun _ => 0))), (q4, .inl (c4, 1201, .inl (fun _ => 0)))] := hD
  refine lv_aload_n hx hb dc_I_init_40 rfl (lv_at hl 0 rfl) ?_
  refine lv_aload_n hx hb dc_I_init_41 rfl (lv_at hl 1 rfl) ?_
  refine va_putF (D := D) (ci := 3) (v := .ref hB) (ty := .object "SharedTrees$Blocks") (C := Rn_I) (T := Fn_I) (N := 7) hx hb hts ii_I Tn_I to_I nn_I hown hK hP hD hS 0 rfl rfl 0 (by decide) (hts _ mi_43) (fun _ h9 => h9) rfl hin rfl (by decide +kernel) rfl rfl (Nat.le_of_ble_eq_true rfl) dc_I_init_42 (fun H locs hP hD hS => ?_)
  have hP : va_P D sC_ [(h0, .inr (3, [.ref hB, .int 0, .int 0, .ref q1, .ref q2, .ref q3, .ref q4])), (q1, .inl (c1, 1201, .inl (fun _ => 0))), (q2, .inl (c2, 1201, .inl (fun _ => 0))), (q3, .inl (c3, 1201, .inl (fun _ => 0))), (q4, .inl (c4, 1201, .inl (fun _ => 0)))] H := hP
  have hD : va_D A [(h0, .inr (3, [.ref hB, .int 0, .int 0, .ref q1, .ref q2, .ref q3, .ref q4])), (q1, .inl (c1, 1201, .inl (fun _ => 0))), (q2, .inl (c2, 1201, .inl (fun _ => 0))), (q3, .inl (c3, 1201, .inl (fun _ => 0))), (q4, .inl (c4, 1201, .inl (fun _ => 0)))] := hD
  refine lv_aload_n hx hb dc_I_init_45 rfl (lv_at hl 0 rfl) ?_
  refine lv_iload_n hx hb dc_I_init_46 rfl (lv_at hl 2 rfl) ?_
  refine va_putF (D := D) (ci := 3) (v := .int (nI (w - 1))) (ty := .int) (C := Rn_I) (T := Fn_I) (N := 7) hx hb hts ii_I Tn_I to_I nn_I hown hK hP hD hS 0 rfl rfl 1 (by decide) (hts _ mi_44) (fun _ h9 => h9) rfl hin rfl (by decide +kernel) rfl rfl (Nat.le_of_ble_eq_true rfl) dc_I_init_47 (fun H locs hP hD hS => ?_)
  have hP : va_P D sC_ [(h0, .inr (3, [.ref hB, .int (nI (w - 1)), .int 0, .ref q1, .ref q2, .ref q3, .ref q4])), (q1, .inl (c1, 1201, .inl (fun _ => 0))), (q2, .inl (c2, 1201, .inl (fun _ => 0))), (q3, .inl (c3, 1201, .inl (fun _ => 0))), (q4, .inl (c4, 1201, .inl (fun _ => 0)))] H := hP
  have hD : va_D A [(h0, .inr (3, [.ref hB, .int (nI (w - 1)), .int 0, .ref q1, .ref q2, .ref q3, .ref q4])), (q1, .inl (c1, 1201, .inl (fun _ => 0))), (q2, .inl (c2, 1201, .inl (fun _ => 0))), (q3, .inl (c3, 1201, .inl (fun _ => 0))), (q4, .inl (c4, 1201, .inl (fun _ => 0)))] := hD
  refine lv_aload_n hx hb dc_I_init_50 rfl (lv_at hl 0 rfl) ?_
  refine lv_iload_n hx hb dc_I_init_51 rfl (lv_at hl 2 rfl) ?_
  refine va_calli (va_runSN (As := [.int (nI (w - 1))]) (rest := [.ref h0]) ⟨hx, hb, hml, hown, hts⟩ (ci_le l (nI (w - 1))) ⟨va_cnB 1 hts (wi_in mi_70) rfl rfl rfl (hN _ ni_2) (hts _ mi_16) (by decide +kernel) ⟨Nat.le_of_ble_eq_true rfl, Nat.le_of_ble_eq_true rfl⟩, hts _ mi_69, trivial⟩ ⟨fun a U g mk q => q, fun U hU hW => ⟨rfl, trivial⟩⟩ rfl rfl hl.1 rfl (lv_room (Nat.le_of_ble_eq_true rfl)) dc_I_init_52 ⟨Nat.le_of_ble_eq_true rfl, Nat.le_of_ble_eq_true rfl⟩) hS (fun q _ h => h.elim) (fun q h => h.elim) (fun r9 u9 t9 H1 locs ht9 hvm9 hw9 hB9 hz9 hk9 hS => ?_)
  have hP : va_P D sC_ [(h0, .inr (3, [.ref hB, .int (nI (w - 1)), .int 0, .ref q1, .ref q2, .ref q3, .ref q4])), (q1, .inl (c1, 1201, .inl (fun _ => 0))), (q2, .inl (c2, 1201, .inl (fun _ => 0))), (q3, .inl (c3, 1201, .inl (fun _ => 0))), (q4, .inl (c4, 1201, .inl (fun _ => 0)))] H1 := hP.kept (fun k x hx => hk9 x.1 ((hP k x hx).lt) (fun q => q))
  rw [le_v hw] at hw9
  subst hw9
  refine va_putF (D := D) (ci := 3) (v := .int (nI (w / 2))) (ty := .int) (C := Rn_I) (T := Fn_I) (N := 7) hx hb hts ii_I Tn_I to_I nn_I hown hK hP hD hS 0 rfl rfl 2 (by decide) (hts _ mi_45) (fun _ h9 => h9) rfl hin rfl (by decide +kernel) rfl rfl (Nat.le_of_ble_eq_true rfl) dc_I_init_55 (fun H locs hP hD hS => ?_)
  have hP : va_P D sC_ [(h0, .inr (3, [.ref hB, .int (nI (w - 1)), .int (nI (w / 2)), .ref q1, .ref q2, .ref q3, .ref q4])), (q1, .inl (c1, 1201, .inl (fun _ => 0))), (q2, .inl (c2, 1201, .inl (fun _ => 0))), (q3, .inl (c3, 1201, .inl (fun _ => 0))), (q4, .inl (c4, 1201, .inl (fun _ => 0)))] H := hP
  have hD : va_D A [(h0, .inr (3, [.ref hB, .int (nI (w - 1)), .int (nI (w / 2)), .ref q1, .ref q2, .ref q3, .ref q4])), (q1, .inl (c1, 1201, .inl (fun _ => 0))), (q2, .inl (c2, 1201, .inl (fun _ => 0))), (q3, .inl (c3, 1201, .inl (fun _ => 0))), (q4, .inl (c4, 1201, .inl (fun _ => 0)))] := hD
  exact W.vret hx hb hr (fun t ht hW => ⟨⟨(), rfl, trivial, q1, q2, q3, q4, c1, c2, c3, c4, by rw [ht]; exact hP, va_K.moved hW.alike hK, hD, trivial⟩, hS.F ht⟩) hS.2.2 dc_I_init_58
set_option maxHeartbeats 4000000 in
set_option maxRecDepth 100000 in
theorem bl_loop {p : Program} {l : Launch} {e : Env} {R : Room} {s : State} {m : MethodId} {args : Array Value} {below : List Frame} {meth : Method} {c : Code} {cells slots : Nat} {Q : State → Prop} {D : va_G} {A : Nat → Prop} {h0 q1 q2 q3 q4 q5 q6 w : Nat} {c1 c2 c3 c4 c5 c6 : ClassId} (hx : p.tables.exec = Jvm.exec) (hb : c.code = bc_B_init) (hts : ∀ v ∈ Wi_, v.before args s = true) (hown : s.vm.findClass Rn_B = some m.cls) (hK : va_K D sC_ [(c1, .int), (c2, .int), (c3, .int), (c4, .int), (c5, .int), (c6, .int)] s) (hA : ∀ q : Nat, s.heap.size ≤ q → A q)
    (kk : ∀ (H : Heap) (locs : List Loc) (f : Nat → Int32) (ls : Array Slot), (∀ j, j < 1200 → f j = nI (1200 - j)) → va_P D sC_ [(h0, .inr (1, [.int (nI w), .ref q1, .ref q2, .ref q3, .ref q5, .ref q6, .ref q4, .int 1200])), (q1, .inl (c1, 1201, .inl (fun _ => 0))), (q2, .inl (c2, 1201, .inl (fun _ => 0))), (q3, .inl (c3, 1201, .inl (fun _ => 0))), (q4, .inl (c4, 1200, .inl f)), (q5, .inl (c5, 1201 * w, .inl (fun _ => 0))), (q6, .inl (c6, 1201 * w, .inl (fun _ => 0)))] H → va_D A [(h0, .inr (1, [.int (nI w), .ref q1, .ref q2, .ref q3, .ref q5, .ref q6, .ref q4, .int 1200])), (q1, .inl (c1, 1201, .inl (fun _ => 0))), (q2, .inl (c2, 1201, .inl (fun _ => 0))), (q3, .inl (c3, 1201, .inl (fun _ => 0))), (q4, .inl (c4, 1200, .inl f)), (q5, .inl (c5, 1201 * w, .inl (fun _ => 0))), (q6, .inl (c6, 1201 * w, .inl (fun _ => 0)))] → va_S A s.heap H locs → lv_has ls 3 [(2, .int (nI 1200)), (0, .ref h0), (1, .int (nI (w - 1)))] → W p l e R s m args below meth c H locs cells slots Q (F0 m 108 ls [])) :
    ∀ (n i : Nat) (H : Heap) (locs : List Loc) (f : Nat → Int32) (ls : Array Slot), i ≤ 1200 → 1200 < n + i → (∀ j, j < i → f j = nI (1200 - j)) → va_P D sC_ [(h0, .inr (1, [.int (nI w), .ref q1, .ref q2, .ref q3, .ref q5, .ref q6, .ref q4, .int 1200])), (q1, .inl (c1, 1201, .inl (fun _ => 0))), (q2, .inl (c2, 1201, .inl (fun _ => 0))), (q3, .inl (c3, 1201, .inl (fun _ => 0))), (q4, .inl (c4, 1200, .inl f)), (q5, .inl (c5, 1201 * w, .inl (fun _ => 0))), (q6, .inl (c6, 1201 * w, .inl (fun _ => 0)))] H → va_D A [(h0, .inr (1, [.int (nI w), .ref q1, .ref q2, .ref q3, .ref q5, .ref q6, .ref q4, .int 1200])), (q1, .inl (c1, 1201, .inl (fun _ => 0))), (q2, .inl (c2, 1201, .inl (fun _ => 0))), (q3, .inl (c3, 1201, .inl (fun _ => 0))), (q4, .inl (c4, 1200, .inl f)), (q5, .inl (c5, 1201 * w, .inl (fun _ => 0))), (q6, .inl (c6, 1201 * w, .inl (fun _ => 0)))] → va_S A s.heap H locs → lv_has ls 3 [(2, .int (nI i)), (0, .ref h0), (1, .int (nI (w - 1)))] → W p l e R s m args below meth c H locs cells slots Q (F0 m 84 ls []) := by
  intro n
  induction n with
  | zero => intro i H locs f ls h1 h2; omega
  | succ n ih =>
    intro i H locs f ls hi hn hf hP hD hS hl
    refine lv_iload_n hx hb dc_B_init_84 rfl (lv_at hl 0 rfl) ?_
    refine lv_sipush (v := 1200) hx hb dc_B_init_85 (by decide) ?_
    refine lv_icmp_ge (tgt := 108) hx hb dc_B_init_88 (by decide) (fun c1 => ?_) (fun c1 => ?_)
    · have he : i = 1200 := by
        have := (nI_leI (a := 1200) (b := i) (by omega) (by omega)).mp c1
        omega
      subst he
      exact kk H locs f ls hf hP hD hS hl
    · have hlt : i < 1200 := by
        rcases Nat.lt_or_ge i 1200 with q | q
        · exact q
        · exact absurd (nI_le (a := 1200) q (by omega)) c1
      refine lv_aload_n hx hb dc_B_init_91 rfl (lv_at hl 1 rfl) ?_
      refine va_get (D := D) (ci := 1) (v := .ref q4) (C := Rn_B) (T := Fn_B) (N := 8) hx hb hts ii_B hown hK hP 0 rfl rfl 6 (by decide) (hts _ mi_31) (fun _ h9 => h9) rfl dc_B_init_92 ?_
      refine lv_iload_n hx hb dc_B_init_95 rfl (lv_at hl 0 rfl) ?_
      refine lv_sipush (v := 1200) hx hb dc_B_init_96 (by decide) ?_
      refine lv_iload_n hx hb dc_B_init_99 rfl (lv_at hl 0 rfl) ?_
      refine lv_isub hx hb dc_B_init_100 ?_
      refine lv_topi (fun y9 ey9 => ?_)
      rw [show (1200 : Int32) = nI 1200 from rfl, pk_sub (by omega)] at ey9
      subst ey9
      refine va_iast hx hb hK hP hD hS 4 3 rfl rfl (vp_in_nI hlt (by omega)) dc_B_init_101 (fun H locs hP hD hS => ?_)
      rw [nI_clamp (n := i) (by omega)] at hP hD
      obtain ⟨x9, ex9⟩ : ∃ y : Int32, y = nI i + 1 := ⟨_, rfl⟩
      refine lv_iinc (v := x9) (lv' := [(2, .int x9), (0, .ref h0), (1, .int (nI (w - 1)))]) hx hb dc_B_init_102 hl (k := 0) rfl (by rw [ex9]; rfl) (by decide) rfl (fun ls hl => ?_)
      rw [nI_1] at ex9
      subst ex9
      refine lv_goto (tgt := 84) hx hb dc_B_init_105 (by decide) ?_
      refine ih (i + 1) H locs (upd f i (nI (1200 - i))) ls (by omega) (by omega) (fun j hj => ?_) hP hD hS hl
      by_cases e : j = i
      · subst e; rw [pk_us]
      · rw [pk_un e]; exact hf j (by omega)
set_option maxHeartbeats 4000000 in
set_option maxRecDepth 100000 in
theorem ci_B (l : Launch) (D : va_G) (h0 sz : Nat) (w : Nat) (hw : 5 ≤ w ∧ w ≤ 32) : Met l yn_B_init (Cond.code yn_B_init bc_B_init 3 none :: Wi_) ({ frames := 1, cells := 6, slots := 81667, locals := 40 }) (va_Pc [.ref h0, .int (nI (w - 1))] (fun U => U.heap.size = sz ∧ va_P D sC_ [(h0, .inr (1, [.int 0, .null, .null, .null, .null, .null, .null, .int 0]))] U.heap ∧ va_K D sC_ [] U ∧ va_D (fun _ => True) [(h0, .inr (1, [.int 0, .null, .null, .null, .null, .null, .null, .int 0]))] ∧ True)) (va_Qv (fun _ : Unit => True) (fun _ t => ∃ (q1 q2 q3 q4 q5 q6 : Nat) (c1 c2 c3 c4 c5 c6 : ClassId) (f : Nat → Int32), va_P D sC_ [(h0, .inr (1, [.int (nI w), .ref q1, .ref q2, .ref q3, .ref q5, .ref q6, .ref q4, .int 1200])), (q1, .inl (c1, 1201, .inl (fun _ => 0))), (q2, .inl (c2, 1201, .inl (fun _ => 0))), (q3, .inl (c3, 1201, .inl (fun _ => 0))), (q4, .inl (c4, 1200, .inl f)), (q5, .inl (c5, 1201 * w, .inl (fun _ => 0))), (q6, .inl (c6, 1201 * w, .inl (fun _ => 0)))] t.heap ∧ va_K D sC_ [(c1, .int), (c2, .int), (c3, .int), (c4, .int), (c5, .int), (c6, .int)] t ∧ va_D (va_A [(h0, .inr (1, [.int 0, .null, .null, .null, .null, .null, .null, .int 0]))] sz) [(h0, .inr (1, [.int (nI w), .ref q1, .ref q2, .ref q3, .ref q5, .ref q6, .ref q4, .int 1200])), (q1, .inl (c1, 1201, .inl (fun _ => 0))), (q2, .inl (c2, 1201, .inl (fun _ => 0))), (q3, .inl (c3, 1201, .inl (fun _ => 0))), (q4, .inl (c4, 1200, .inl f)), (q5, .inl (c5, 1201 * w, .inl (fun _ => 0))), (q6, .inl (c6, 1201 * w, .inl (fun _ => 0)))] ∧ (∀ j, j < 1200 → f j = nI (1200 - j))) (va_A [(h0, .inr (1, [.int 0, .null, .null, .null, .null, .null, .null, .int 0]))] sz)) 6 81667 (va_A [(h0, .inr (1, [.int 0, .null, .null, .null, .null, .null, .null, .int 0]))] sz) := by
  refine Met.ofW (cc := bc_B_init) (maxL := 3) (ret := none) (by decide) rfl ?_
  intro p e s m args below meth c s₁ B hml hv
  obtain ⟨rfl, hsz, hP, hK, hD0, hN⟩ := hv
  have hx := B.exec
  have hb := B.bytes
  have hr := B.returns
  have hts : ∀ v ∈ Wi_, v.before [.ref h0, .int (nI (w - 1))].toArray s = true := fun v hv => atoms_spec (ws := Cond.code yn_B_init bc_B_init 3 none :: Wi_) B.pre v (List.mem_cons_of_mem _ hv)
  have hown : s.vm.findClass Rn_B = some m.cls := findClass_of_methodNamed B.named
  have hlocks := B.notSynchronized
  have hin : meth.name = "<init>" := (name_of_methodNamed B.named B.method).1
  subst hsz
  have hD := hD0.self (sz := s.heap.size)
  generalize hAe : va_A [(h0, .inr (1, [.int 0, .null, .null, .null, .null, .null, .null, .int 0]))] s.heap.size = A at hD ⊢
  have hA : ∀ q : Nat, s.heap.size ≤ q → A q := fun q h => by rw [← hAe]; exact Or.inr h
  have hS : va_S A s.heap s.heap [] := va_S.rf
  have hl := lv_entry ([.ref h0, .int (nI (w - 1))]) (n := 3) (Nat.le_of_ble_eq_true rfl)
  rw [lg_entry_eq]
  generalize (lg_sl ([.ref h0, .int (nI (w - 1))]) ++ List.replicate (3 - (lg_sl ([.ref h0, .int (nI (w - 1))])).length) Slot.unset).toArray = ls at hl ⊢
  have hP : va_P D sC_ [(h0, .inr (1, [.int 0, .null, .null, .null, .null, .null, .null, .int 0]))] s.heap := hP
  have hl : lv_has ls 3 [(0, .ref h0), (1, .int (nI (w - 1)))] := hl
  refine lv_aload_n hx hb dc_B_init_0 rfl (lv_at hl 0 rfl) ?_
  refine W.objInit hx hb hown (hts _ mi_3) (hts _ mi_1) (hts _ mi_0) rfl (by rw [hml]; exact hl.1) rfl dc_B_init_1 (Nat.le_of_ble_eq_true rfl) (Nat.le_of_ble_eq_true rfl) ?_
  refine W.eq (g2 := F0 m 4 ls []) rfl ?_
  refine lv_aload_n hx hb dc_B_init_4 rfl (lv_at hl 0 rfl) ?_
  refine lv_sipush (v := 1201) hx hb dc_B_init_5 (by decide) ?_
  refine va_newa (atype := .int) (ty := .int) (a0 := (1201, .inl (fun _ => 0))) hx hb (hts _ mi_102) rfl hK hP hD hS hA (vz_int _) (by decide +kernel) (by decide +kernel) (by decide) (Nat.le_of_ble_eq_true rfl) (Nat.le_of_ble_eq_true rfl) dc_B_init_8 (fun q1 c1 H hK hP hD hS => ?_)
  have hP : va_P D sC_ [(h0, .inr (1, [.int 0, .null, .null, .null, .null, .null, .null, .int 0])), (q1, .inl (c1, 1201, .inl (fun _ => 0)))] H := hP
  have hD : va_D A [(h0, .inr (1, [.int 0, .null, .null, .null, .null, .null, .null, .int 0])), (q1, .inl (c1, 1201, .inl (fun _ => 0)))] := hD
  have hK : va_K D sC_ [(c1, .int)] s := hK
  refine W.widen (k := 1) (n := 1201) (by omega) (by omega) ?_
  refine va_putF (D := D) (ci := 1) (v := .ref q1) (ty := .array .int) (C := Rn_B) (T := Fn_B) (N := 8) hx hb hts ii_B Tn_B to_B nn_B hown hK hP hD hS 0 rfl rfl 1 (by decide) (hts _ mi_28) (fun _ h9 => h9) rfl hin rfl (by decide +kernel) rfl rfl (Nat.le_of_ble_eq_true rfl) dc_B_init_10 (fun H locs hP hD hS => ?_)
  have hP : va_P D sC_ [(h0, .inr (1, [.int 0, .ref q1, .null, .null, .null, .null, .null, .int 0])), (q1, .inl (c1, 1201, .inl (fun _ => 0)))] H := hP
  have hD : va_D A [(h0, .inr (1, [.int 0, .ref q1, .null, .null, .null, .null, .null, .int 0])), (q1, .inl (c1, 1201, .inl (fun _ => 0)))] := hD
  refine lv_aload_n hx hb dc_B_init_13 rfl (lv_at hl 0 rfl) ?_
  refine lv_sipush (v := 1201) hx hb dc_B_init_14 (by decide) ?_
  refine va_newa (atype := .int) (ty := .int) (a0 := (1201, .inl (fun _ => 0))) hx hb (hts _ mi_102) rfl hK hP hD hS hA (vz_int _) (by decide +kernel) (by decide +kernel) (by decide) (Nat.le_of_ble_eq_true rfl) (Nat.le_of_ble_eq_true rfl) dc_B_init_17 (fun q2 c2 H hK hP hD hS => ?_)
  have hP : va_P D sC_ [(h0, .inr (1, [.int 0, .ref q1, .null, .null, .null, .null, .null, .int 0])), (q1, .inl (c1, 1201, .inl (fun _ => 0))), (q2, .inl (c2, 1201, .inl (fun _ => 0)))] H := hP
  have hD : va_D A [(h0, .inr (1, [.int 0, .ref q1, .null, .null, .null, .null, .null, .int 0])), (q1, .inl (c1, 1201, .inl (fun _ => 0))), (q2, .inl (c2, 1201, .inl (fun _ => 0)))] := hD
  have hK : va_K D sC_ [(c1, .int), (c2, .int)] s := hK
  refine W.widen (k := 2) (n := 2402) (by omega) (by omega) ?_
  refine va_putF (D := D) (ci := 1) (v := .ref q2) (ty := .array .int) (C := Rn_B) (T := Fn_B) (N := 8) hx hb hts ii_B Tn_B to_B nn_B hown hK hP hD hS 0 rfl rfl 2 (by decide) (hts _ mi_29) (fun _ h9 => h9) rfl hin rfl (by decide +kernel) rfl rfl (Nat.le_of_ble_eq_true rfl) dc_B_init_19 (fun H locs hP hD hS => ?_)
  have hP : va_P D sC_ [(h0, .inr (1, [.int 0, .ref q1, .ref q2, .null, .null, .null, .null, .int 0])), (q1, .inl (c1, 1201, .inl (fun _ => 0))), (q2, .inl (c2, 1201, .inl (fun _ => 0)))] H := hP
  have hD : va_D A [(h0, .inr (1, [.int 0, .ref q1, .ref q2, .null, .null, .null, .null, .int 0])), (q1, .inl (c1, 1201, .inl (fun _ => 0))), (q2, .inl (c2, 1201, .inl (fun _ => 0)))] := hD
  refine lv_aload_n hx hb dc_B_init_22 rfl (lv_at hl 0 rfl) ?_
  refine lv_sipush (v := 1201) hx hb dc_B_init_23 (by decide) ?_
  refine va_newa (atype := .int) (ty := .int) (a0 := (1201, .inl (fun _ => 0))) hx hb (hts _ mi_102) rfl hK hP hD hS hA (vz_int _) (by decide +kernel) (by decide +kernel) (by decide) (Nat.le_of_ble_eq_true rfl) (Nat.le_of_ble_eq_true rfl) dc_B_init_26 (fun q3 c3 H hK hP hD hS => ?_)
  have hP : va_P D sC_ [(h0, .inr (1, [.int 0, .ref q1, .ref q2, .null, .null, .null, .null, .int 0])), (q1, .inl (c1, 1201, .inl (fun _ => 0))), (q2, .inl (c2, 1201, .inl (fun _ => 0))), (q3, .inl (c3, 1201, .inl (fun _ => 0)))] H := hP
  have hD : va_D A [(h0, .inr (1, [.int 0, .ref q1, .ref q2, .null, .null, .null, .null, .int 0])), (q1, .inl (c1, 1201, .inl (fun _ => 0))), (q2, .inl (c2, 1201, .inl (fun _ => 0))), (q3, .inl (c3, 1201, .inl (fun _ => 0)))] := hD
  have hK : va_K D sC_ [(c1, .int), (c2, .int), (c3, .int)] s := hK
  refine W.widen (k := 3) (n := 3603) (by omega) (by omega) ?_
  refine va_putF (D := D) (ci := 1) (v := .ref q3) (ty := .array .int) (C := Rn_B) (T := Fn_B) (N := 8) hx hb hts ii_B Tn_B to_B nn_B hown hK hP hD hS 0 rfl rfl 3 (by decide) (hts _ mi_30) (fun _ h9 => h9) rfl hin rfl (by decide +kernel) rfl rfl (Nat.le_of_ble_eq_true rfl) dc_B_init_28 (fun H locs hP hD hS => ?_)
  have hP : va_P D sC_ [(h0, .inr (1, [.int 0, .ref q1, .ref q2, .ref q3, .null, .null, .null, .int 0])), (q1, .inl (c1, 1201, .inl (fun _ => 0))), (q2, .inl (c2, 1201, .inl (fun _ => 0))), (q3, .inl (c3, 1201, .inl (fun _ => 0)))] H := hP
  have hD : va_D A [(h0, .inr (1, [.int 0, .ref q1, .ref q2, .ref q3, .null, .null, .null, .int 0])), (q1, .inl (c1, 1201, .inl (fun _ => 0))), (q2, .inl (c2, 1201, .inl (fun _ => 0))), (q3, .inl (c3, 1201, .inl (fun _ => 0)))] := hD
  refine lv_aload_n hx hb dc_B_init_31 rfl (lv_at hl 0 rfl) ?_
  refine lv_sipush (v := 1200) hx hb dc_B_init_32 (by decide) ?_
  refine va_newa (atype := .int) (ty := .int) (a0 := (1200, .inl (fun _ => 0))) hx hb (hts _ mi_102) rfl hK hP hD hS hA (vz_int _) (by decide +kernel) (by decide +kernel) (by decide) (Nat.le_of_ble_eq_true rfl) (Nat.le_of_ble_eq_true rfl) dc_B_init_35 (fun q4 c4 H hK hP hD hS => ?_)
  have hP : va_P D sC_ [(h0, .inr (1, [.int 0, .ref q1, .ref q2, .ref q3, .null, .null, .null, .int 0])), (q1, .inl (c1, 1201, .inl (fun _ => 0))), (q2, .inl (c2, 1201, .inl (fun _ => 0))), (q3, .inl (c3, 1201, .inl (fun _ => 0))), (q4, .inl (c4, 1200, .inl (fun _ => 0)))] H := hP
  have hD : va_D A [(h0, .inr (1, [.int 0, .ref q1, .ref q2, .ref q3, .null, .null, .null, .int 0])), (q1, .inl (c1, 1201, .inl (fun _ => 0))), (q2, .inl (c2, 1201, .inl (fun _ => 0))), (q3, .inl (c3, 1201, .inl (fun _ => 0))), (q4, .inl (c4, 1200, .inl (fun _ => 0)))] := hD
  have hK : va_K D sC_ [(c1, .int), (c2, .int), (c3, .int), (c4, .int)] s := hK
  refine W.widen (k := 4) (n := 4803) (by omega) (by omega) ?_
  refine va_putF (D := D) (ci := 1) (v := .ref q4) (ty := .array .int) (C := Rn_B) (T := Fn_B) (N := 8) hx hb hts ii_B Tn_B to_B nn_B hown hK hP hD hS 0 rfl rfl 6 (by decide) (hts _ mi_31) (fun _ h9 => h9) rfl hin rfl (by decide +kernel) rfl rfl (Nat.le_of_ble_eq_true rfl) dc_B_init_37 (fun H locs hP hD hS => ?_)
  have hP : va_P D sC_ [(h0, .inr (1, [.int 0, .ref q1, .ref q2, .ref q3, .null, .null, .ref q4, .int 0])), (q1, .inl (c1, 1201, .inl (fun _ => 0))), (q2, .inl (c2, 1201, .inl (fun _ => 0))), (q3, .inl (c3, 1201, .inl (fun _ => 0))), (q4, .inl (c4, 1200, .inl (fun _ => 0)))] H := hP
  have hD : va_D A [(h0, .inr (1, [.int 0, .ref q1, .ref q2, .ref q3, .null, .null, .ref q4, .int 0])), (q1, .inl (c1, 1201, .inl (fun _ => 0))), (q2, .inl (c2, 1201, .inl (fun _ => 0))), (q3, .inl (c3, 1201, .inl (fun _ => 0))), (q4, .inl (c4, 1200, .inl (fun _ => 0)))] := hD
  refine lv_aload_n hx hb dc_B_init_40 rfl (lv_at hl 0 rfl) ?_
  refine lv_sipush (v := 1200) hx hb dc_B_init_41 (by decide) ?_
  refine va_put (D := D) (ci := 1) (v := .int 1200) (ty := .int) (C := Rn_B) (T := Fn_B) (N := 8) hx hb hts ii_B Tn_B to_B nn_B hown hK hP hD hS 0 rfl rfl 7 (by decide) (hts _ mi_32) (fun _ h9 => h9) rfl (by decide +kernel) rfl rfl (Nat.le_of_ble_eq_true rfl) dc_B_init_44 (fun H locs hP hD hS => ?_)
  have hP : va_P D sC_ [(h0, .inr (1, [.int 0, .ref q1, .ref q2, .ref q3, .null, .null, .ref q4, .int 1200])), (q1, .inl (c1, 1201, .inl (fun _ => 0))), (q2, .inl (c2, 1201, .inl (fun _ => 0))), (q3, .inl (c3, 1201, .inl (fun _ => 0))), (q4, .inl (c4, 1200, .inl (fun _ => 0)))] H := hP
  have hD : va_D A [(h0, .inr (1, [.int 0, .ref q1, .ref q2, .ref q3, .null, .null, .ref q4, .int 1200])), (q1, .inl (c1, 1201, .inl (fun _ => 0))), (q2, .inl (c2, 1201, .inl (fun _ => 0))), (q3, .inl (c3, 1201, .inl (fun _ => 0))), (q4, .inl (c4, 1200, .inl (fun _ => 0)))] := hD
  refine lv_aload_n hx hb dc_B_init_47 rfl (lv_at hl 0 rfl) ?_
  refine lv_iload_n hx hb dc_B_init_48 rfl (lv_at hl 1 rfl) ?_
  refine lv_iconst (v := 1) hx hb dc_B_init_49 (by decide) ?_
  refine lv_iadd hx hb dc_B_init_50 ?_
  refine lv_topi (fun y9 ey9 => ?_)
  rw [nI_1, show w - 1 + 1 = w by omega] at ey9
  subst ey9
  refine va_putF (D := D) (ci := 1) (v := .int (nI w)) (ty := .int) (C := Rn_B) (T := Fn_B) (N := 8) hx hb hts ii_B Tn_B to_B nn_B hown hK hP hD hS 0 rfl rfl 0 (by decide) (hts _ mi_33) (fun _ h9 => h9) rfl hin rfl (by decide +kernel) rfl rfl (Nat.le_of_ble_eq_true rfl) dc_B_init_51 (fun H locs hP hD hS => ?_)
  have hP : va_P D sC_ [(h0, .inr (1, [.int (nI w), .ref q1, .ref q2, .ref q3, .null, .null, .ref q4, .int 1200])), (q1, .inl (c1, 1201, .inl (fun _ => 0))), (q2, .inl (c2, 1201, .inl (fun _ => 0))), (q3, .inl (c3, 1201, .inl (fun _ => 0))), (q4, .inl (c4, 1200, .inl (fun _ => 0)))] H := hP
  have hD : va_D A [(h0, .inr (1, [.int (nI w), .ref q1, .ref q2, .ref q3, .null, .null, .ref q4, .int 1200])), (q1, .inl (c1, 1201, .inl (fun _ => 0))), (q2, .inl (c2, 1201, .inl (fun _ => 0))), (q3, .inl (c3, 1201, .inl (fun _ => 0))), (q4, .inl (c4, 1200, .inl (fun _ => 0)))] := hD
  refine lv_aload_n hx hb dc_B_init_54 rfl (lv_at hl 0 rfl) ?_
  refine lv_sipush (v := 1201) hx hb dc_B_init_55 (by decide) ?_
  refine lv_aload_n hx hb dc_B_init_58 rfl (lv_at hl 0 rfl) ?_
  refine va_get (D := D) (ci := 1) (v := .int (nI w)) (C := Rn_B) (T := Fn_B) (N := 8) hx hb hts ii_B hown hK hP 0 rfl rfl 0 (by decide) (hts _ mi_33) (fun _ h9 => h9) rfl dc_B_init_59 ?_
  refine lv_imul hx hb dc_B_init_62 ?_
  refine lv_topi (fun y9 ey9 => ?_)
  rw [show (1201 : Int32) = nI 1201 from rfl, pk_mul] at ey9
  subst ey9
  refine va_newa (atype := .int) (ty := .int) (a0 := (1201 * w, .inl (fun _ => 0))) hx hb (hts _ mi_102) rfl hK hP hD hS hA (vz_int _) (nI_pos (by omega)) (nI_clamp (by omega)) (by show 1201 * w * 4 ≤ 536870912; omega) (Nat.le_of_ble_eq_true rfl) (by show 4803 + 1201 * w ≤ 81667; omega) dc_B_init_63 (fun q5 c5 H hK hP hD hS => ?_)
  have hP : va_P D sC_ [(h0, .inr (1, [.int (nI w), .ref q1, .ref q2, .ref q3, .null, .null, .ref q4, .int 1200])), (q1, .inl (c1, 1201, .inl (fun _ => 0))), (q2, .inl (c2, 1201, .inl (fun _ => 0))), (q3, .inl (c3, 1201, .inl (fun _ => 0))), (q4, .inl (c4, 1200, .inl (fun _ => 0))), (q5, .inl (c5, 1201 * w, .inl (fun _ => 0)))] H := hP
  have hD : va_D A [(h0, .inr (1, [.int (nI w), .ref q1, .ref q2, .ref q3, .null, .null, .ref q4, .int 1200])), (q1, .inl (c1, 1201, .inl (fun _ => 0))), (q2, .inl (c2, 1201, .inl (fun _ => 0))), (q3, .inl (c3, 1201, .inl (fun _ => 0))), (q4, .inl (c4, 1200, .inl (fun _ => 0))), (q5, .inl (c5, 1201 * w, .inl (fun _ => 0)))] := hD
  have hK : va_K D sC_ [(c1, .int), (c2, .int), (c3, .int), (c4, .int), (c5, .int)] s := hK
  refine W.widen (k := 5) (n := 43235) (by omega) (by omega) ?_
  refine va_putF (D := D) (ci := 1) (v := .ref q5) (ty := .array .int) (C := Rn_B) (T := Fn_B) (N := 8) hx hb hts ii_B Tn_B to_B nn_B hown hK hP hD hS 0 rfl rfl 4 (by decide) (hts _ mi_34) (fun _ h9 => h9) rfl hin rfl (by decide +kernel) rfl rfl (Nat.le_of_ble_eq_true rfl) dc_B_init_65 (fun H locs hP hD hS => ?_)
  have hP : va_P D sC_ [(h0, .inr (1, [.int (nI w), .ref q1, .ref q2, .ref q3, .ref q5, .null, .ref q4, .int 1200])), (q1, .inl (c1, 1201, .inl (fun _ => 0))), (q2, .inl (c2, 1201, .inl (fun _ => 0))), (q3, .inl (c3, 1201, .inl (fun _ => 0))), (q4, .inl (c4, 1200, .inl (fun _ => 0))), (q5, .inl (c5, 1201 * w, .inl (fun _ => 0)))] H := hP
  have hD : va_D A [(h0, .inr (1, [.int (nI w), .ref q1, .ref q2, .ref q3, .ref q5, .null, .ref q4, .int 1200])), (q1, .inl (c1, 1201, .inl (fun _ => 0))), (q2, .inl (c2, 1201, .inl (fun _ => 0))), (q3, .inl (c3, 1201, .inl (fun _ => 0))), (q4, .inl (c4, 1200, .inl (fun _ => 0))), (q5, .inl (c5, 1201 * w, .inl (fun _ => 0)))] := hD
  refine lv_aload_n hx hb dc_B_init_68 rfl (lv_at hl 0 rfl) ?_
  refine lv_sipush (v := 1201) hx hb dc_B_init_69 (by decide) ?_
  refine lv_aload_n hx hb dc_B_init_72 rfl (lv_at hl 0 rfl) ?_
  refine va_get (D := D) (ci := 1) (v := .int (nI w)) (C := Rn_B) (T := Fn_B) (N := 8) hx hb hts ii_B hown hK hP 0 rfl rfl 0 (by decide) (hts _ mi_33) (fun _ h9 => h9) rfl dc_B_init_73 ?_
  refine lv_imul hx hb dc_B_init_76 ?_
  refine lv_topi (fun y9 ey9 => ?_)
  rw [show (1201 : Int32) = nI 1201 from rfl, pk_mul] at ey9
  subst ey9
  refine va_newa (atype := .int) (ty := .int) (a0 := (1201 * w, .inl (fun _ => 0))) hx hb (hts _ mi_102) rfl hK hP hD hS hA (vz_int _) (nI_pos (by omega)) (nI_clamp (by omega)) (by show 1201 * w * 4 ≤ 536870912; omega) (Nat.le_of_ble_eq_true rfl) (by show 43235 + 1201 * w ≤ 81667; omega) dc_B_init_77 (fun q6 c6 H hK hP hD hS => ?_)
  have hP : va_P D sC_ [(h0, .inr (1, [.int (nI w), .ref q1, .ref q2, .ref q3, .ref q5, .null, .ref q4, .int 1200])), (q1, .inl (c1, 1201, .inl (fun _ => 0))), (q2, .inl (c2, 1201, .inl (fun _ => 0))), (q3, .inl (c3, 1201, .inl (fun _ => 0))), (q4, .inl (c4, 1200, .inl (fun _ => 0))), (q5, .inl (c5, 1201 * w, .inl (fun _ => 0))), (q6, .inl (c6, 1201 * w, .inl (fun _ => 0)))] H := hP
  have hD : va_D A [(h0, .inr (1, [.int (nI w), .ref q1, .ref q2, .ref q3, .ref q5, .null, .ref q4, .int 1200])), (q1, .inl (c1, 1201, .inl (fun _ => 0))), (q2, .inl (c2, 1201, .inl (fun _ => 0))), (q3, .inl (c3, 1201, .inl (fun _ => 0))), (q4, .inl (c4, 1200, .inl (fun _ => 0))), (q5, .inl (c5, 1201 * w, .inl (fun _ => 0))), (q6, .inl (c6, 1201 * w, .inl (fun _ => 0)))] := hD
  have hK : va_K D sC_ [(c1, .int), (c2, .int), (c3, .int), (c4, .int), (c5, .int), (c6, .int)] s := hK
  refine W.widen (k := 6) (n := 81667) (by omega) (by omega) ?_
  refine va_putF (D := D) (ci := 1) (v := .ref q6) (ty := .array .int) (C := Rn_B) (T := Fn_B) (N := 8) hx hb hts ii_B Tn_B to_B nn_B hown hK hP hD hS 0 rfl rfl 5 (by decide) (hts _ mi_35) (fun _ h9 => h9) rfl hin rfl (by decide +kernel) rfl rfl (Nat.le_of_ble_eq_true rfl) dc_B_init_79 (fun H locs hP hD hS => ?_)
  have hP : va_P D sC_ [(h0, .inr (1, [.int (nI w), .ref q1, .ref q2, .ref q3, .ref q5, .ref q6, .ref q4, .int 1200])), (q1, .inl (c1, 1201, .inl (fun _ => 0))), (q2, .inl (c2, 1201, .inl (fun _ => 0))), (q3, .inl (c3, 1201, .inl (fun _ => 0))), (q4, .inl (c4, 1200, .inl (fun _ => 0))), (q5, .inl (c5, 1201 * w, .inl (fun _ => 0))), (q6, .inl (c6, 1201 * w, .inl (fun _ => 0)))] H := hP
  have hD : va_D A [(h0, .inr (1, [.int (nI w), .ref q1, .ref q2, .ref q3, .ref q5, .ref q6, .ref q4, .int 1200])), (q1, .inl (c1, 1201, .inl (fun _ => 0))), (q2, .inl (c2, 1201, .inl (fun _ => 0))), (q3, .inl (c3, 1201, .inl (fun _ => 0))), (q4, .inl (c4, 1200, .inl (fun _ => 0))), (q5, .inl (c5, 1201 * w, .inl (fun _ => 0))), (q6, .inl (c6, 1201 * w, .inl (fun _ => 0)))] := hD
  refine lv_iconst (v := 0) hx hb dc_B_init_82 (by decide) ?_
  refine lv_istore_n (lv' := [(2, .int 0), (0, .ref h0), (1, .int (nI (w - 1)))]) hx hb dc_B_init_83 rfl hl (by decide) rfl (fun ls hl => ?_)
  refine bl_loop hx hb hts hown hK hA (fun H locs f ls hf hP hD hS hl => ?_) 1201 0 H locs (fun _ => 0) ls (by omega) (by omega) (fun j hj => by omega) hP hD hS hl
  exact W.vret hx hb hr (fun t ht hW => ⟨⟨(), rfl, trivial, q1, q2, q3, q4, q5, q6, c1, c2, c3, c4, c5, c6, f, by rw [ht]; exact hP, va_K.moved hW.alike hK, hD, hf⟩, hS.F ht⟩) hS.2.2 dc_B_init_108
