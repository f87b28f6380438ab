-- contracts of the constructors
theorem vz_int (N : Nat) : ∀ cA : ClassId, vp_cell cA (N, .inl (fun _ => 0)) = arrV cA N (fun _ => defaultValue .int) := fun _ => rfl
theorem vz_boolean (N : Nat) : ∀ cA : ClassId, vp_cell cA (N, .inl (fun _ => 0)) = arrV cA N (fun _ => defaultValue .boolean) := fun _ => rfl
set_option maxHeartbeats 4000000 in
set_option maxRecDepth 100000 in
theorem ci_P (l : Launch) (D : va_G) (h0 sz : Nat) : Met l yn_P_init (Cond.code yn_P_init bc_P_init 1 none :: Wi_) ({ frames := 1, cells := 2, slots := 16, locals := 40 }) (va_Pc [.ref h0] (fun U => U.heap.size = sz ∧ va_P D sC_ [(h0, .inr (4, [.null, .null, .int 0]))] U.heap ∧ va_K D sC_ [] U ∧ va_D (fun _ => True) [(h0, .inr (4, [.null, .null, .int 0]))] ∧ True)) (va_Qv (fun _ : Unit => True) (fun _ t => ∃ (q1 q2 : Nat) (c1 c2 : ClassId), va_P D sC_ [(h0, .inr (4, [.ref q1, .ref q2, .int 0])), (q1, .inl (c1, 8, .inl (fun _ => 0))), (q2, .inl (c2, 8, .inl (fun _ => 0)))] t.heap ∧ va_K D sC_ [(c1, .int), (c2, .int)] t ∧ va_D (va_A [(h0, .inr (4, [.null, .null, .int 0]))] sz) [(h0, .inr (4, [.ref q1, .ref q2, .int 0])), (q1, .inl (c1, 8, .inl (fun _ => 0))), (q2, .inl (c2, 8, .inl (fun _ => 0)))] ∧ True) (va_A [(h0, .inr (4, [.null, .null, .int 0]))] sz)) 2 16 (va_A [(h0, .inr (4, [.null, .null, .int 0]))] sz) := by
  refine Met.ofW (cc := bc_P_init) (maxL := 1) (ret := none) (by decide) rfl ?_
  intro p e s m args below meth c s₁ B hml hv
  obtain ⟨rfl, hsz, hP, hK, hD0, hN⟩ := hv
  have hx := B.exec
  have hb := B.bytes
  have hr := B.returns
  have hts : ∀ v ∈ Wi_, v.before [.ref h0].toArray s = true := fun v hv => atoms_spec (ws := Cond.code yn_P_init bc_P_init 1 none :: Wi_) B.pre v (List.mem_cons_of_mem _ hv)
  have hown : s.vm.findClass Rn_P = some m.cls := findClass_of_methodNamed B.named
  have hlocks := B.notSynchronized
  have hin : meth.name = "<init>" := (name_of_methodNamed B.named B.method).1
  subst hsz
  have hD := hD0.self (sz := s.heap.size)
  generalize hAe : va_A [(h0, .inr (4, [.null, .null, .int 0]))] s.heap.size = A at hD ⊢
  have hA : ∀ q : Nat, s.heap.size ≤ q → A q := fun q h => by rw [← hAe]; exact Or.inr h
  have hS : va_S A s.heap s.heap [] := va_S.rf
  have hl := lv_entry ([.ref h0]) (n := 1) (Nat.le_of_ble_eq_true rfl)
  rw [lg_entry_eq]
  generalize (lg_sl ([.ref h0]) ++ List.replicate (1 - (lg_sl ([.ref h0])).length) Slot.unset).toArray = ls at hl ⊢
  have hP : va_P D sC_ [(h0, .inr (4, [.null, .null, .int 0]))] s.heap := hP
  have hl : lv_has ls 1 [(0, .ref h0)] := hl
  refine lv_aload_n hx hb dc_P_init_0 rfl (lv_at hl 0 rfl) ?_
  refine W.objInit hx hb hown (hts _ mi_6) (hts _ mi_1) (hts _ mi_0) rfl (by rw [hml]; exact hl.1) rfl dc_P_init_1 (Nat.le_of_ble_eq_true rfl) (Nat.le_of_ble_eq_true rfl) ?_
  refine W.eq (g2 := F0 m 4 ls []) rfl ?_
  refine lv_aload_n hx hb dc_P_init_4 rfl (lv_at hl 0 rfl) ?_
  refine lv_bipush (v := 8) hx hb dc_P_init_5 (by decide) ?_
  refine va_newa (atype := .int) (ty := .int) (a0 := (8, .inl (fun _ => 0))) hx hb (hts _ mi_102) rfl hK hP hD hS hA (vz_int _) (by decide +kernel) (by decide +kernel) (by decide) (Nat.le_of_ble_eq_true rfl) (Nat.le_of_ble_eq_true rfl) dc_P_init_7 (fun q1 c1 H hK hP hD hS => ?_)
  have hP : va_P D sC_ [(h0, .inr (4, [.null, .null, .int 0])), (q1, .inl (c1, 8, .inl (fun _ => 0)))] H := hP
  have hD : va_D A [(h0, .inr (4, [.null, .null, .int 0])), (q1, .inl (c1, 8, .inl (fun _ => 0)))] := hD
  have hK : va_K D sC_ [(c1, .int)] s := hK
  refine W.widen (k := 1) (n := 8) (by omega) (by omega) ?_
  refine va_putF (D := D) (ci := 4) (v := .ref q1) (ty := .array .int) (C := Rn_P) (T := Fn_P) (N := 3) hx hb hts ii_P Tn_P to_P nn_P hown hK hP hD hS 0 rfl rfl 0 (by decide) (hts _ mi_46) (fun _ h9 => h9) rfl hin rfl (by decide +kernel) rfl rfl (Nat.le_of_ble_eq_true rfl) dc_P_init_9 (fun H locs hP hD hS => ?_)
  have hP : va_P D sC_ [(h0, .inr (4, [.ref q1, .null, .int 0])), (q1, .inl (c1, 8, .inl (fun _ => 0)))] H := hP
  have hD : va_D A [(h0, .inr (4, [.ref q1, .null, .int 0])), (q1, .inl (c1, 8, .inl (fun _ => 0)))] := hD
  refine lv_aload_n hx hb dc_P_init_12 rfl (lv_at hl 0 rfl) ?_
  refine lv_bipush (v := 8) hx hb dc_P_init_13 (by decide) ?_
  refine va_newa (atype := .int) (ty := .int) (a0 := (8, .inl (fun _ => 0))) hx hb (hts _ mi_102) rfl hK hP hD hS hA (vz_int _) (by decide +kernel) (by decide +kernel) (by decide) (Nat.le_of_ble_eq_true rfl) (Nat.le_of_ble_eq_true rfl) dc_P_init_15 (fun q2 c2 H hK hP hD hS => ?_)
  have hP : va_P D sC_ [(h0, .inr (4, [.ref q1, .null, .int 0])), (q1, .inl (c1, 8, .inl (fun _ => 0))), (q2, .inl (c2, 8, .inl (fun _ => 0)))] H := hP
  have hD : va_D A [(h0, .inr (4, [.ref q1, .null, .int 0])), (q1, .inl (c1, 8, .inl (fun _ => 0))), (q2, .inl (c2, 8, .inl (fun _ => 0)))] := hD
  have hK : va_K D sC_ [(c1, .int), (c2, .int)] s := hK
  refine W.widen (k := 2) (n := 16) (by omega) (by omega) ?_
  refine va_putF (D := D) (ci := 4) (v := .ref q2) (ty := .array .int) (C := Rn_P) (T := Fn_P) (N := 3) hx hb hts ii_P Tn_P to_P nn_P hown hK hP hD hS 0 rfl rfl 1 (by decide) (hts _ mi_47) (fun _ h9 => h9) rfl hin rfl (by decide +kernel) rfl rfl (Nat.le_of_ble_eq_true rfl) dc_P_init_17 (fun H locs hP hD hS => ?_)
  have hP : va_P D sC_ [(h0, .inr (4, [.ref q1, .ref q2, .int 0])), (q1, .inl (c1, 8, .inl (fun _ => 0))), (q2, .inl (c2, 8, .inl (fun _ => 0)))] H := hP
  have hD : va_D A [(h0, .inr (4, [.ref q1, .ref q2, .int 0])), (q1, .inl (c1, 8, .inl (fun _ => 0))), (q2, .inl (c2, 8, .inl (fun _ => 0)))] := hD
  exact W.vret hx hb hr (fun t ht hW => ⟨⟨(), rfl, trivial, q1, q2, c1, c2, by rw [ht]; exact hP, va_K.moved hW.alike hK, hD, trivial⟩, hS.F ht⟩) hS.2.2 dc_P_init_20
set_option maxHeartbeats 4000000 in
set_option maxRecDepth 100000 in
theorem ci_R (l : Launch) (D : va_G) (h0 sz : Nat) (k : Int32) : Met l yn_R_init (Cond.code yn_R_init bc_R_init 2 none :: Wi_) ({ frames := 1, cells := 4, slots := 65552, locals := 40 }) (va_Pc [.ref h0, .int k] (fun U => U.heap.size = sz ∧ va_P D sC_ [(h0, .inr (5, [.null, .null, .null, .null]))] U.heap ∧ va_K D sC_ [] U ∧ va_D (fun _ => True) [(h0, .inr (5, [.null, .null, .null, .null]))] ∧ True)) (va_Qv (fun _ : Unit => True) (fun _ t => ∃ (q1 q2 q3 q4 : Nat) (c1 c2 c3 c4 : ClassId), va_P D sC_ [(h0, .inr (5, [.ref q1, .ref q2, .ref q3, .ref q4])), (q1, .inl (c1, 32768, .inl (fun _ => 0))), (q2, .inl (c2, 32768, .inl (fun _ => 0))), (q3, .inl (c3, 8, .inl (fun _ => 0))), (q4, .inl (c4, 8, .inl (fun _ => 0)))] t.heap ∧ va_K D sC_ [(c1, .int), (c2, .int), (c3, .int), (c4, .int)] t ∧ va_D (va_A [(h0, .inr (5, [.null, .null, .null, .null]))] sz) [(h0, .inr (5, [.ref q1, .ref q2, .ref q3, .ref q4])), (q1, .inl (c1, 32768, .inl (fun _ => 0))), (q2, .inl (c2, 32768, .inl (fun _ => 0))), (q3, .inl (c3, 8, .inl (fun _ => 0))), (q4, .inl (c4, 8, .inl (fun _ => 0)))] ∧ True) (va_A [(h0, .inr (5, [.null, .null, .null, .null]))] sz)) 4 65552 (va_A [(h0, .inr (5, [.null, .null, .null, .null]))] sz) := by
  refine Met.ofW (cc := bc_R_init) (maxL := 2) (ret := none) (by decide) rfl ?_
  intro p e s m args below meth c s₁ B hml hv
  obtain ⟨rfl, hsz, hP, hK, hD0, hN⟩ := hv
  have hx := B.exec
  have hb := B.bytes
  have hr := B.returns
  have hts : ∀ v ∈ Wi_, v.before [.ref h0, .int k].toArray s = true := fun v hv => atoms_spec (ws := Cond.code yn_R_init bc_R_init 2 none :: Wi_) B.pre v (List.mem_cons_of_mem _ hv)
  have hown : s.vm.findClass Rn_R = some m.cls := findClass_of_methodNamed B.named
  have hlocks := B.notSynchronized
  have hin : meth.name = "<init>" := (name_of_methodNamed B.named B.method).1
  subst hsz
  have hD := hD0.self (sz := s.heap.size)
  generalize hAe : va_A [(h0, .inr (5, [.null, .null, .null, .null]))] s.heap.size = A at hD ⊢
  have hA : ∀ q : Nat, s.heap.size ≤ q → A q := fun q h => by rw [← hAe]; exact Or.inr h
  have hS : va_S A s.heap s.heap [] := va_S.rf
  have hl := lv_entry ([.ref h0, .int k]) (n := 2) (Nat.le_of_ble_eq_true rfl)
  rw [lg_entry_eq]
  generalize (lg_sl ([.ref h0, .int k]) ++ List.replicate (2 - (lg_sl ([.ref h0, .int k])).length) Slot.unset).toArray = ls at hl ⊢
  have hP : va_P D sC_ [(h0, .inr (5, [.null, .null, .null, .null]))] s.heap := hP
  have hl : lv_has ls 2 [(0, .ref h0), (1, .int k)] := hl
  refine lv_aload_n hx hb dc_R_init_0 rfl (lv_at hl 0 rfl) ?_
  refine W.objInit hx hb hown (hts _ mi_7) (hts _ mi_1) (hts _ mi_0) rfl (by rw [hml]; exact hl.1) rfl dc_R_init_1 (Nat.le_of_ble_eq_true rfl) (Nat.le_of_ble_eq_true rfl) ?_
  refine W.eq (g2 := F0 m 4 ls []) rfl ?_
  refine lv_aload_n hx hb dc_R_init_4 rfl (lv_at hl 0 rfl) ?_
  refine lv_ldc hx hb hown (hts _ mi_71) dc_R_init_5 ?_
  refine va_newa (atype := .int) (ty := .int) (a0 := (32768, .inl (fun _ => 0))) hx hb (hts _ mi_102) rfl hK hP hD hS hA (vz_int _) (by decide +kernel) (by decide +kernel) (by decide) (Nat.le_of_ble_eq_true rfl) (Nat.le_of_ble_eq_true rfl) dc_R_init_7 (fun q1 c1 H hK hP hD hS => ?_)
  have hP : va_P D sC_ [(h0, .inr (5, [.null, .null, .null, .null])), (q1, .inl (c1, 32768, .inl (fun _ => 0)))] H := hP
  have hD : va_D A [(h0, .inr (5, [.null, .null, .null, .null])), (q1, .inl (c1, 32768, .inl (fun _ => 0)))] := hD
  have hK : va_K D sC_ [(c1, .int)] s := hK
  refine W.widen (k := 1) (n := 32768) (by omega) (by omega) ?_
  refine va_putF (D := D) (ci := 5) (v := .ref q1) (ty := .array .int) (C := Rn_R) (T := Fn_R) (N := 4) hx hb hts ii_R Tn_R to_R nn_R hown hK hP hD hS 0 rfl rfl 0 (by decide) (hts _ mi_48) (fun _ h9 => h9) rfl hin rfl (by decide +kernel) rfl rfl (Nat.le_of_ble_eq_true rfl) dc_R_init_9 (fun H locs hP hD hS => ?_)
  have hP : va_P D sC_ [(h0, .inr (5, [.ref q1, .null, .null, .null])), (q1, .inl (c1, 32768, .inl (fun _ => 0)))] H := hP
  have hD : va_D A [(h0, .inr (5, [.ref q1, .null, .null, .null])), (q1, .inl (c1, 32768, .inl (fun _ => 0)))] := hD
  refine lv_aload_n hx hb dc_R_init_12 rfl (lv_at hl 0 rfl) ?_
  refine lv_ldc hx hb hown (hts _ mi_71) dc_R_init_13 ?_
  refine va_newa (atype := .int) (ty := .int) (a0 := (32768, .inl (fun _ => 0))) hx hb (hts _ mi_102) rfl hK hP hD hS hA (vz_int _) (by decide +kernel) (by decide +kernel) (by decide) (Nat.le_of_ble_eq_true rfl) (Nat.le_of_ble_eq_true rfl) dc_R_init_15 (fun q2 c2 H hK hP hD hS => ?_)
  have hP : va_P D sC_ [(h0, .inr (5, [.ref q1, .null, .null, .null])), (q1, .inl (c1, 32768, .inl (fun _ => 0))), (q2, .inl (c2, 32768, .inl (fun _ => 0)))] H := hP
  have hD : va_D A [(h0, .inr (5, [.ref q1, .null, .null, .null])), (q1, .inl (c1, 32768, .inl (fun _ => 0))), (q2, .inl (c2, 32768, .inl (fun _ => 0)))] := hD
  have hK : va_K D sC_ [(c1, .int), (c2, .int)] s := hK
  refine W.widen (k := 2) (n := 65536) (by omega) (by omega) ?_
  refine va_putF (D := D) (ci := 5) (v := .ref q2) (ty := .array .int) (C := Rn_R) (T := Fn_R) (N := 4) hx hb hts ii_R Tn_R to_R nn_R hown hK hP hD hS 0 rfl rfl 1 (by decide) (hts _ mi_49) (fun _ h9 => h9) rfl hin rfl (by decide +kernel) rfl rfl (Nat.le_of_ble_eq_true rfl) dc_R_init_17 (fun H locs hP hD hS => ?_)
  have hP : va_P D sC_ [(h0, .inr (5, [.ref q1, .ref q2, .null, .null])), (q1, .inl (c1, 32768, .inl (fun _ => 0))), (q2, .inl (c2, 32768, .inl (fun _ => 0)))] H := hP
  have hD : va_D A [(h0, .inr (5, [.ref q1, .ref q2, .null, .null])), (q1, .inl (c1, 32768, .inl (fun _ => 0))), (q2, .inl (c2, 32768, .inl (fun _ => 0)))] := hD
  refine lv_aload_n hx hb dc_R_init_20 rfl (lv_at hl 0 rfl) ?_
  refine lv_bipush (v := 8) hx hb dc_R_init_21 (by decide) ?_
  refine va_newa (atype := .int) (ty := .int) (a0 := (8, .inl (fun _ => 0))) hx hb (hts _ mi_102) rfl hK hP hD hS hA (vz_int _) (by decide +kernel) (by decide +kernel) (by decide) (Nat.le_of_ble_eq_true rfl) (Nat.le_of_ble_eq_true rfl) dc_R_init_23 (fun q3 c3 H hK hP hD hS => ?_)
  have hP : va_P D sC_ [(h0, .inr (5, [.ref q1, .ref q2, .null, .null])), (q1, .inl (c1, 32768, .inl (fun _ => 0))), (q2, .inl (c2, 32768, .inl (fun _ => 0))), (q3, .inl (c3, 8, .inl (fun _ => 0)))] H := hP
  have hD : va_D A [(h0, .inr (5, [.ref q1, .ref q2, .null, .null])), (q1, .inl (c1, 32768, .inl (fun _ => 0))), (q2, .inl (c2, 32768, .inl (fun _ => 0))), (q3, .inl (c3, 8, .inl (fun _ => 0)))] := hD
  have hK : va_K D sC_ [(c1, .int), (c2, .int), (c3, .int)] s := hK
  refine W.widen (k := 3) (n := 65544) (by omega) (by omega) ?_
  refine va_putF (D := D) (ci := 5) (v := .ref q3) (ty := .array .int) (C := Rn_R) (T := Fn_R) (N := 4) hx hb hts ii_R Tn_R to_R nn_R hown hK hP hD hS 0 rfl rfl 2 (by decide) (hts _ mi_50) (fun _ h9 => h9) rfl hin rfl (by decide +kernel) rfl rfl (Nat.le_of_ble_eq_true rfl) dc_R_init_25 (fun H locs hP hD hS => ?_)
  have hP : va_P D sC_ [(h0, .inr (5, [.ref q1, .ref q2, .ref q3, .null])), (q1, .inl (c1, 32768, .inl (fun _ => 0))), (q2, .inl (c2, 32768, .inl (fun _ => 0))), (q3, .inl (c3, 8, .inl (fun _ => 0)))] H := hP
  have hD : va_D A [(h0, .inr (5, [.ref q1, .ref q2, .ref q3, .null])), (q1, .inl (c1, 32768, .inl (fun _ => 0))), (q2, .inl (c2, 32768, .inl (fun _ => 0))), (q3, .inl (c3, 8, .inl (fun _ => 0)))] := hD
  refine lv_aload_n hx hb dc_R_init_28 rfl (lv_at hl 0 rfl) ?_
  refine lv_bipush (v := 8) hx hb dc_R_init_29 (by decide) ?_
  refine va_newa (atype := .int) (ty := .int) (a0 := (8, .inl (fun _ => 0))) hx hb (hts _ mi_102) rfl hK hP hD hS hA (vz_int _) (by decide +kernel) (by decide +kernel) (by decide) (Nat.le_of_ble_eq_true rfl) (Nat.le_of_ble_eq_true rfl) dc_R_init_31 (fun q4 c4 H hK hP hD hS => ?_)
  have hP : va_P D sC_ [(h0, .inr (5, [.ref q1, .ref q2, .ref q3, .null])), (q1, .inl (c1, 32768, .inl (fun _ => 0))), (q2, .inl (c2, 32768, .inl (fun _ => 0))), (q3, .inl (c3, 8, .inl (fun _ => 0))), (q4, .inl (c4, 8, .inl (fun _ => 0)))] H := hP
  have hD : va_D A [(h0, .inr (5, [.ref q1, .ref q2, .ref q3, .null])), (q1, .inl (c1, 32768, .inl (fun _ => 0))), (q2, .inl (c2, 32768, .inl (fun _ => 0))), (q3, .inl (c3, 8, .inl (fun _ => 0))), (q4, .inl (c4, 8, .inl (fun _ => 0)))] := hD
  have hK : va_K D sC_ [(c1, .int), (c2, .int), (c3, .int), (c4, .int)] s := hK
  refine W.widen (k := 4) (n := 65552) (by omega) (by omega) ?_
  refine va_putF (D := D) (ci := 5) (v := .ref q4) (ty := .array .int) (C := Rn_R) (T := Fn_R) (N := 4) hx hb hts ii_R Tn_R to_R nn_R hown hK hP hD hS 0 rfl rfl 3 (by decide) (hts _ mi_51) (fun _ h9 => h9) rfl hin rfl (by decide +kernel) rfl rfl (Nat.le_of_ble_eq_true rfl) dc_R_init_33 (fun H locs hP hD hS => ?_)
  have hP : va_P D sC_ [(h0, .inr (5, [.ref q1, .ref q2, .ref q3, .ref q4])), (q1, .inl (c1, 32768, .inl (fun _ => 0))), (q2, .inl (c2, 32768, .inl (fun _ => 0))), (q3, .inl (c3, 8, .inl (fun _ => 0))), (q4, .inl (c4, 8, .inl (fun _ => 0)))] H := hP
  have hD : va_D A [(h0, .inr (5, [.ref q1, .ref q2, .ref q3, .ref q4])), (q1, .inl (c1, 32768, .inl (fun _ => 0))), (q2, .inl (c2, 32768, .inl (fun _ => 0))), (q3, .inl (c3, 8, .inl (fun _ => 0))), (q4, .inl (c4, 8, .inl (fun _ => 0)))] := hD
  exact W.vret hx hb hr (fun t ht hW => ⟨⟨(), rfl, trivial, q1, q2, q3, q4, c1, c2, c3, c4, by rw [ht]; exact hP, va_K.moved hW.alike hK, hD, trivial⟩, hS.F ht⟩) hS.2.2 dc_R_init_36
