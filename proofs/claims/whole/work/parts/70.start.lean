-- the law, from its entry
set_option maxHeartbeats 4000000 in
set_option maxRecDepth 100000 in
theorem whole_start {p : Program} {e : Env} {s : State} {m : MethodId} {below : List Frame} {meth : Method} {c : Code} (l : Launch) {b L : Nat} {xs : Nat → Int32} (hL : L ≤ 3073) (C0 : lw_At p s m meth c b L xs) : W p l e room_1 s m #[Value.ref b] below meth c s.heap [] 0 0 (lw_Z below #[Value.ref b] s) (entryFrame m ([Value.ref b] : List Value).toArray 4) := by
  obtain ⟨hx, hb, hr, hml, hown, hts, hX, hbl, hlocks, hgv⟩ := id C0
  have htsi : ∀ v ∈ Wi_, v.before #[Value.ref b] s = true := fun v hv => hts v (wi_tbl v hv)
  have hN := NI_law hts
  have hA : ∀ q : Nat, s.heap.size ≤ q → (fun q : Nat => s.heap.size ≤ q) q := fun _ h => h
  have hbA : ¬ (fun q : Nat => s.heap.size ≤ q) b := Nat.not_le.mpr hbl
  obtain ⟨x0, iS0, hKn0⟩ := u_known (C := Rn_S) (T := Fn_S) (N := 5) (n := 5) htsi ii_S (hts _ (wl_tbl _ ml_99))
  obtain ⟨x1, iS1, hKn1⟩ := u_known (C := Rn_B) (T := Fn_B) (N := 8) (n := 8) htsi ii_B (htsi _ mi_12)
  obtain ⟨x2, iS2, hKn2⟩ := u_known (C := Rn_T) (T := Fn_T) (N := 3) (n := 3) htsi ii_T (htsi _ mi_13)
  obtain ⟨x3, iS3, hKn3⟩ := u_known (C := Rn_I) (T := Fn_I) (N := 7) (n := 7) htsi ii_I (htsi _ mi_14)
  obtain ⟨x4, iS4, hKn4⟩ := u_known (C := Rn_P) (T := Fn_P) (N := 3) (n := 3) htsi ii_P (htsi _ mi_15)
  obtain ⟨x5, iS5, hKn5⟩ := u_known (C := Rn_R) (T := Fn_R) (N := 4) (n := 4) htsi ii_R (hts _ (wl_tbl _ ml_104))
  obtain ⟨D, hKc⟩ : ∃ D : va_G, ∀ (k : Nat) (q : vw_C), sC_[k]? = some q → u_Kn s q.1 q.2.1 q.2.2 (D.1 k) (D.2 k) := by
    refine ⟨(fun k => [x0, x1, x2, x3, x4, x5].getD k x0, fun k => [iS0, iS1, iS2, iS3, iS4, iS5].getD k iS0), ?_⟩
    intro k q hq
    match k, hq with
    | 0, hq => cases hq; exact hKn0
    | 1, hq => cases hq; exact hKn1
    | 2, hq => cases hq; exact hKn2
    | 3, hq => cases hq; exact hKn3
    | 4, hq => cases hq; exact hKn4
    | 5, hq => cases hq; exact hKn5
    | k + 6, hq => simp [sC_] at hq
  have hS : va_S (fun q : Nat => s.heap.size ≤ q) s.heap s.heap [] := va_S.rf
  have hK : va_K D sC_ [] s := ⟨hKc, fun k q h => by simp at h⟩
  have hP : va_P D sC_ [] s.heap := fun k q h => by simp at h
  have hD : va_D (fun q : Nat => s.heap.size ≤ q) [] := ⟨fun i j p q h => by simp at h, fun k q h => by simp at h⟩
  have hGc : GoodIn lw_tbl (wsS Rn_L 9 yn_L_cell [Cond.code yn_L_cell bc_L_cell 2 (some .int)]) := by
    intro q hq
    simp only [wsS, List.mem_append, List.mem_cons, List.not_mem_nil, or_false] at hq
    rcases hq with (rfl | rfl | rfl) | rfl
    · exact ⟨wl_tbl _ ml_108, wl_good _ ml_108⟩
    · exact ⟨wl_tbl _ ml_109, wl_good _ ml_109⟩
    · exact ⟨wl_tbl _ ml_111, wl_good _ ml_111⟩
    · exact ⟨wl_tbl _ ml_110, wl_good _ ml_110⟩
  have hl := lv_entry ([.ref b]) (n := 4) (Nat.le_of_ble_eq_true rfl)
  rw [lg_entry_eq]
  generalize (lg_sl ([.ref b]) ++ List.replicate (4 - (lg_sl ([.ref b])).length) Slot.unset).toArray = ls at hl ⊢
  have hl : lv_has ls 4 [(0, .ref b)] := hl
  refine va_new (ci := 0) (fs := [.null, .null, .null, .null, .null]) (C := Rn_S) (T := Fn_S) (N := 5) hx hb htsi ii_S Tn_S to_S hown (hts _ (wl_tbl _ ml_98)) (hts _ (wl_tbl _ ml_99)) (hts _ (wl_tbl _ ml_48)) hK hP hD hS hA rfl (fun j hj => by rcases (show j = 0 ∨ j = 1 ∨ j = 2 ∨ j = 3 ∨ j = 4 by omega) with rfl | rfl | rfl | rfl | rfl <;> rfl) (Nat.le_of_ble_eq_true rfl) (Nat.le_of_ble_eq_true rfl) dc_L_law_0 (fun q0 H hP hD hS => ?_)
  have hP : va_P D sC_ [(q0, .inr (0, [.null, .null, .null, .null, .null]))] H := hP
  have hD : va_D (fun q : Nat => s.heap.size ≤ q) [(q0, .inr (0, [.null, .null, .null, .null, .null]))] := hD
  refine W.widen (k := 1) (n := 5) (by omega) (by omega) ?_
  refine lv_dup hx hb dc_L_law_3 rfl ?_
  refine lv_aload_n hx hb dc_L_law_4 rfl (lv_at hl 0 rfl) ?_
  refine lv_iconst (v := 0) hx hb dc_L_law_5 (by decide) ?_
  refine va_calli (va_runS (As := [.ref b, .int 0]) (rest := [.ref q0, .ref q0]) ⟨hx, hb, hml, hown, hts⟩ (ci_cell l b L xs hL) (cwS 2 hts hGc rfl rfl rfl (by decide +kernel) ⟨Nat.le_of_ble_eq_true rfl, Nat.le_of_ble_eq_true rfl⟩) ⟨fun a U g mk q => ⟨q.1, va_X.moved (u := U) (U := U.calling g mk a) (Vm.Alike.refl U.vm) q.2.1, q.2.2⟩, fun U hU hW => ⟨rfl, by rw [hU]; exact va_X.moved hW.alike (hX.kept (hS.2.1 b hbl hbA)), by rw [hU]; exact Nat.lt_of_lt_of_le hbl hS.1⟩⟩ rfl rfl hl.1 rfl (lv_room (Nat.le_of_ble_eq_true rfl)) dc_L_law_6 ⟨Nat.le_of_ble_eq_true rfl, Nat.le_of_ble_eq_true rfl⟩) hS (fun q _ h => h.elim) (fun q h => h.elim) (fun ra u9 t9 H1 locs ht9 hvm9 hw9 hB9 hz9 hk9 hS => ?_)
  have hP : va_P D sC_ [(q0, .inr (0, [.null, .null, .null, .null, .null]))] H1 := hP.kept (fun k x hx => hk9 x.1 ((hP k x hx).lt) (fun q => q))
  generalize H1 = H at hP hS ⊢
  have hPc := hP.sub (ws' := [(q0, .inr (0, [.null, .null, .null, .null, .null]))]) [0] rfl
  have hDc := hD.sub (ws' := [(q0, .inr (0, [.null, .null, .null, .null, .null]))]) [0] (by decide) rfl
  have hKc := hK.sub (tys' := []) [] rfl
  have hFc := va_free (wc := [(q0, .inr (0, [.null, .null, .null, .null, .null]))]) hD hS hA [0] rfl
  refine va_callv (va_runI (As := [.int ra]) (rest := [.ref q0]) ⟨hx, hb, hml, hown, hts⟩ (ci_S l D q0 H.size ra) (cwI 1 hts (wi_law ml_102) rfl rfl rfl (hts _ (wl_tbl _ ml_48)) (hts _ (wl_tbl _ ml_100)) (hts _ (wl_tbl _ ml_101)) rfl (by decide +kernel) ⟨Nat.le_of_ble_eq_true rfl, Nat.le_of_ble_eq_true rfl⟩) ⟨fun a U g mk q => by obtain ⟨q0, q1, qP, qK, qD, qN⟩ := q; exact ⟨q0, q1, qP, va_K.moved (u := U) (U := U.calling g mk a) (Vm.Alike.refl U.vm) qK, qD, NI_same (s := U) (U := U.calling g mk a) rfl qN⟩, fun U hU hW => ⟨rfl, by rw [hU], by rw [hU]; exact hPc, va_K.moved hW.alike hKc, hDc.weaken (fun _ _ _ _ => trivial), NI_moved hW hN⟩⟩ rfl rfl hl.1 rfl (lv_room (Nat.le_of_ble_eq_true rfl)) dc_L_law_9 ⟨Nat.le_of_ble_eq_true rfl, Nat.le_of_ble_eq_true rfl⟩) hS (fun q _ h => hFc q h) hFc (fun u9 t9 H1 locs ht9 hvm9 hw9 hB9 hz9 hk9 hS => ?_)
  obtain ⟨w, qB, b1, b2, b3, b4, b5, b6, qT, qI, i1, i2, i3, i4, qN, n1, n2, qK, k1, k2, c1, c2, c3, c4, c5, c6, d1, d2, d3, d4, e1, e2, g1, g2, f, hP1, hK1, hD1, hX1⟩ := hB9
  rw [ht9] at hP1
  have hK1 := va_K.moved hvm9.symm hK1
  obtain ⟨hP, hD⟩ := va_join (wr := []) (w1 := [(q0, .inr (0, [.ref qB, .ref qT, .ref qI, .ref qN, .ref qK])), (qB, .inr (1, [.int (nI w), .ref b1, .ref b2, .ref b3, .ref b5, .ref b6, .ref b4, .int 1200])), (b1, .inl (c1, 1201, .inl (fun _ => 0))), (b2, .inl (c2, 1201, .inl (fun _ => 0))), (b3, .inl (c3, 1201, .inl (fun _ => 0))), (b4, .inl (c4, 1200, .inl f)), (b5, .inl (c5, 1201 * w, .inl (fun _ => 0))), (b6, .inl (c6, 1201 * w, .inl (fun _ => 0))), (qT, .inr (2, [.ref qB, .int (nI (w - 1)), .int (nI (w / 2))])), (qI, .inr (3, [.ref qB, .int (nI (w - 1)), .int (nI (w / 2)), .ref i1, .ref i2, .ref i3, .ref i4])), (i1, .inl (d1, 1201, .inl (fun _ => 0))), (i2, .inl (d2, 1201, .inl (fun _ => 0))), (i3, .inl (d3, 1201, .inl (fun _ => 0))), (i4, .inl (d4, 1201, .inl (fun _ => 0))), (qN, .inr (4, [.ref n1, .ref n2, .int 0])), (n1, .inl (e1, 8, .inl (fun _ => 0))), (n2, .inl (e2, 8, .inl (fun _ => 0))), (qK, .inr (4, [.ref k1, .ref k2, .int 0])), (k1, .inl (g1, 8, .inl (fun _ => 0))), (k2, .inl (g2, 8, .inl (fun _ => 0)))]) hP hD [0] [] rfl rfl (by decide) (by decide) hk9 hFc hP1 hD1
  have hK := (hK.sub (tys' := []) [] rfl).app hK1
  generalize H1 = H at hP hS ⊢
  have hP : va_P D sC_ [(q0, .inr (0, [.ref qB, .ref qT, .ref qI, .ref qN, .ref qK])), (qB, .inr (1, [.int (nI w), .ref b1, .ref b2, .ref b3, .ref b5, .ref b6, .ref b4, .int 1200])), (b1, .inl (c1, 1201, .inl (fun _ => 0))), (b2, .inl (c2, 1201, .inl (fun _ => 0))), (b3, .inl (c3, 1201, .inl (fun _ => 0))), (b4, .inl (c4, 1200, .inl f)), (b5, .inl (c5, 1201 * w, .inl (fun _ => 0))), (b6, .inl (c6, 1201 * w, .inl (fun _ => 0))), (qT, .inr (2, [.ref qB, .int (nI (w - 1)), .int (nI (w / 2))])), (qI, .inr (3, [.ref qB, .int (nI (w - 1)), .int (nI (w / 2)), .ref i1, .ref i2, .ref i3, .ref i4])), (i1, .inl (d1, 1201, .inl (fun _ => 0))), (i2, .inl (d2, 1201, .inl (fun _ => 0))), (i3, .inl (d3, 1201, .inl (fun _ => 0))), (i4, .inl (d4, 1201, .inl (fun _ => 0))), (qN, .inr (4, [.ref n1, .ref n2, .int 0])), (n1, .inl (e1, 8, .inl (fun _ => 0))), (n2, .inl (e2, 8, .inl (fun _ => 0))), (qK, .inr (4, [.ref k1, .ref k2, .int 0])), (k1, .inl (g1, 8, .inl (fun _ => 0))), (k2, .inl (g2, 8, .inl (fun _ => 0)))] H := hP
  have hD : va_D (fun q : Nat => s.heap.size ≤ q) [(q0, .inr (0, [.ref qB, .ref qT, .ref qI, .ref qN, .ref qK])), (qB, .inr (1, [.int (nI w), .ref b1, .ref b2, .ref b3, .ref b5, .ref b6, .ref b4, .int 1200])), (b1, .inl (c1, 1201, .inl (fun _ => 0))), (b2, .inl (c2, 1201, .inl (fun _ => 0))), (b3, .inl (c3, 1201, .inl (fun _ => 0))), (b4, .inl (c4, 1200, .inl f)), (b5, .inl (c5, 1201 * w, .inl (fun _ => 0))), (b6, .inl (c6, 1201 * w, .inl (fun _ => 0))), (qT, .inr (2, [.ref qB, .int (nI (w - 1)), .int (nI (w / 2))])), (qI, .inr (3, [.ref qB, .int (nI (w - 1)), .int (nI (w / 2)), .ref i1, .ref i2, .ref i3, .ref i4])), (i1, .inl (d1, 1201, .inl (fun _ => 0))), (i2, .inl (d2, 1201, .inl (fun _ => 0))), (i3, .inl (d3, 1201, .inl (fun _ => 0))), (i4, .inl (d4, 1201, .inl (fun _ => 0))), (qN, .inr (4, [.ref n1, .ref n2, .int 0])), (n1, .inl (e1, 8, .inl (fun _ => 0))), (n2, .inl (e2, 8, .inl (fun _ => 0))), (qK, .inr (4, [.ref k1, .ref k2, .int 0])), (k1, .inl (g1, 8, .inl (fun _ => 0))), (k2, .inl (g2, 8, .inl (fun _ => 0)))] := hD
  have hK : va_K D sC_ [(c1, .int), (c2, .int), (c3, .int), (c4, .int), (c5, .int), (c6, .int), (d1, .int), (d2, .int), (d3, .int), (d4, .boolean), (e1, .int), (e2, .int), (g1, .int), (g2, .int)] s := hK
  obtain ⟨hw, hf⟩ := hX1
  refine W.widen (k := 20) (n := 86532) (by omega) (by omega) ?_
  refine lv_astore_n (lv' := [(1, .ref q0), (0, .ref b)]) hx hb dc_L_law_12 rfl hl (by decide) rfl (fun ls hl => ?_)
  refine va_new (ci := 5) (fs := [.null, .null, .null, .null]) (C := Rn_R) (T := Fn_R) (N := 4) hx hb htsi ii_R Tn_R to_R hown (hts _ (wl_tbl _ ml_103)) (hts _ (wl_tbl _ ml_104)) (hts _ (wl_tbl _ ml_97)) hK hP hD hS hA rfl (fun j hj => by rcases (show j = 0 ∨ j = 1 ∨ j = 2 ∨ j = 3 by omega) with rfl | rfl | rfl | rfl <;> rfl) (Nat.le_of_ble_eq_true rfl) (Nat.le_of_ble_eq_true rfl) dc_L_law_13 (fun qR H hP hD hS => ?_)
  have hP : va_P D sC_ [(q0, .inr (0, [.ref qB, .ref qT, .ref qI, .ref qN, .ref qK])), (qB, .inr (1, [.int (nI w), .ref b1, .ref b2, .ref b3, .ref b5, .ref b6, .ref b4, .int 1200])), (b1, .inl (c1, 1201, .inl (fun _ => 0))), (b2, .inl (c2, 1201, .inl (fun _ => 0))), (b3, .inl (c3, 1201, .inl (fun _ => 0))), (b4, .inl (c4, 1200, .inl f)), (b5, .inl (c5, 1201 * w, .inl (fun _ => 0))), (b6, .inl (c6, 1201 * w, .inl (fun _ => 0))), (qT, .inr (2, [.ref qB, .int (nI (w - 1)), .int (nI (w / 2))])), (qI, .inr (3, [.ref qB, .int (nI (w - 1)), .int (nI (w / 2)), .ref i1, .ref i2, .ref i3, .ref i4])), (i1, .inl (d1, 1201, .inl (fun _ => 0))), (i2, .inl (d2, 1201, .inl (fun _ => 0))), (i3, .inl (d3, 1201, .inl (fun _ => 0))), (i4, .inl (d4, 1201, .inl (fun _ => 0))), (qN, .inr (4, [.ref n1, .ref n2, .int 0])), (n1, .inl (e1, 8, .inl (fun _ => 0))), (n2, .inl (e2, 8, .inl (fun _ => 0))), (qK, .inr (4, [.ref k1, .ref k2, .int 0])), (k1, .inl (g1, 8, .inl (fun _ => 0))), (k2, .inl (g2, 8, .inl (fun _ => 0))), (qR, .inr (5, [.null, .null, .null, .null]))] H := hP
  have hD : va_D (fun q : Nat => s.heap.size ≤ q) [(q0, .inr (0, [.ref qB, .ref qT, .ref qI, .ref qN, .ref qK])), (qB, .inr (1, [.int (nI w), .ref b1, .ref b2, .ref b3, .ref b5, .ref b6, .ref b4, .int 1200])), (b1, .inl (c1, 1201, .inl (fun _ => 0))), (b2, .inl (c2, 1201, .inl (fun _ => 0))), (b3, .inl (c3, 1201, .inl (fun _ => 0))), (b4, .inl (c4, 1200, .inl f)), (b5, .inl (c5, 1201 * w, .inl (fun _ => 0))), (b6, .inl (c6, 1201 * w, .inl (fun _ => 0))), (qT, .inr (2, [.ref qB, .int (nI (w - 1)), .int (nI (w / 2))])), (qI, .inr (3, [.ref qB, .int (nI (w - 1)), .int (nI (w / 2)), .ref i1, .ref i2, .ref i3, .ref i4])), (i1, .inl (d1, 1201, .inl (fun _ => 0))), (i2, .inl (d2, 1201, .inl (fun _ => 0))), (i3, .inl (d3, 1201, .inl (fun _ => 0))), (i4, .inl (d4, 1201, .inl (fun _ => 0))), (qN, .inr (4, [.ref n1, .ref n2, .int 0])), (n1, .inl (e1, 8, .inl (fun _ => 0))), (n2, .inl (e2, 8, .inl (fun _ => 0))), (qK, .inr (4, [.ref k1, .ref k2, .int 0])), (k1, .inl (g1, 8, .inl (fun _ => 0))), (k2, .inl (g2, 8, .inl (fun _ => 0))), (qR, .inr (5, [.null, .null, .null, .null]))] := hD
  refine W.widen (k := 21) (n := 86536) (by omega) (by omega) ?_
  refine lv_dup hx hb dc_L_law_16 rfl ?_
  refine lv_aload_n hx hb dc_L_law_17 rfl (lv_at hl 1 rfl) ?_
  refine lv_iconst (v := 0) hx hb dc_L_law_18 (by decide) ?_
  refine va_calli (va_runS (As := [.ref b, .int 0]) (rest := [.ref qR, .ref qR]) ⟨hx, hb, hml, hown, hts⟩ (ci_cell l b L xs hL) (cwS 2 hts hGc rfl rfl rfl (by decide +kernel) ⟨Nat.le_of_ble_eq_true rfl, Nat.le_of_ble_eq_true rfl⟩) ⟨fun a U g mk q => ⟨q.1, va_X.moved (u := U) (U := U.calling g mk a) (Vm.Alike.refl U.vm) q.2.1, q.2.2⟩, fun U hU hW => ⟨rfl, by rw [hU]; exact va_X.moved hW.alike (hX.kept (hS.2.1 b hbl hbA)), by rw [hU]; exact Nat.lt_of_lt_of_le hbl hS.1⟩⟩ rfl rfl hl.1 rfl (lv_room (Nat.le_of_ble_eq_true rfl)) dc_L_law_19 ⟨Nat.le_of_ble_eq_true rfl, Nat.le_of_ble_eq_true rfl⟩) hS (fun q _ h => h.elim) (fun q h => h.elim) (fun rb u9 t9 H1 locs ht9 hvm9 hw9 hB9 hz9 hk9 hS => ?_)
  have hP : va_P D sC_ [(q0, .inr (0, [.ref qB, .ref qT, .ref qI, .ref qN, .ref qK])), (qB, .inr (1, [.int (nI w), .ref b1, .ref b2, .ref b3, .ref b5, .ref b6, .ref b4, .int 1200])), (b1, .inl (c1, 1201, .inl (fun _ => 0))), (b2, .inl (c2, 1201, .inl (fun _ => 0))), (b3, .inl (c3, 1201, .inl (fun _ => 0))), (b4, .inl (c4, 1200, .inl f)), (b5, .inl (c5, 1201 * w, .inl (fun _ => 0))), (b6, .inl (c6, 1201 * w, .inl (fun _ => 0))), (qT, .inr (2, [.ref qB, .int (nI (w - 1)), .int (nI (w / 2))])), (qI, .inr (3, [.ref qB, .int (nI (w - 1)), .int (nI (w / 2)), .ref i1, .ref i2, .ref i3, .ref i4])), (i1, .inl (d1, 1201, .inl (fun _ => 0))), (i2, .inl (d2, 1201, .inl (fun _ => 0))), (i3, .inl (d3, 1201, .inl (fun _ => 0))), (i4, .inl (d4, 1201, .inl (fun _ => 0))), (qN, .inr (4, [.ref n1, .ref n2, .int 0])), (n1, .inl (e1, 8, .inl (fun _ => 0))), (n2, .inl (e2, 8, .inl (fun _ => 0))), (qK, .inr (4, [.ref k1, .ref k2, .int 0])), (k1, .inl (g1, 8, .inl (fun _ => 0))), (k2, .inl (g2, 8, .inl (fun _ => 0))), (qR, .inr (5, [.null, .null, .null, .null]))] H1 := hP.kept (fun k x hx => hk9 x.1 ((hP k x hx).lt) (fun q => q))
  generalize H1 = H at hP hS ⊢
  have hPc := hP.sub (ws' := [(qR, .inr (5, [.null, .null, .null, .null]))]) [20] rfl
  have hDc := hD.sub (ws' := [(qR, .inr (5, [.null, .null, .null, .null]))]) [20] (by decide) rfl
  have hKc := hK.sub (tys' := []) [] rfl
  have hFc := va_free (wc := [(qR, .inr (5, [.null, .null, .null, .null]))]) hD hS hA [20] rfl
  refine va_callv (va_runI (As := [.int rb]) (rest := [.ref qR]) ⟨hx, hb, hml, hown, hts⟩ (ci_R l D qR H.size rb) (cwI 1 hts (wi_law ml_107) rfl rfl rfl (hts _ (wl_tbl _ ml_97)) (hts _ (wl_tbl _ ml_105)) (hts _ (wl_tbl _ ml_106)) rfl (by decide +kernel) ⟨Nat.le_of_ble_eq_true rfl, Nat.le_of_ble_eq_true rfl⟩) ⟨fun a U g mk q => by obtain ⟨q0, q1, qP, qK, qD, qN⟩ := q; exact ⟨q0, q1, qP, va_K.moved (u := U) (U := U.calling g mk a) (Vm.Alike.refl U.vm) qK, qD, trivial⟩, fun U hU hW => ⟨rfl, by rw [hU], by rw [hU]; exact hPc, va_K.moved hW.alike hKc, hDc.weaken (fun _ _ _ _ => trivial), trivial⟩⟩ rfl rfl hl.1 rfl (lv_room (Nat.le_of_ble_eq_true rfl)) dc_L_law_22 ⟨Nat.le_of_ble_eq_true rfl, Nat.le_of_ble_eq_true rfl⟩) hS (fun q _ h => hFc q h) hFc (fun u9 t9 H1 locs ht9 hvm9 hw9 hB9 hz9 hk9 hS => ?_)
  obtain ⟨r1, r2, r3, r4, j1, j2, j3, j4, hP1, hK1, hD1, hX1⟩ := hB9
  rw [ht9] at hP1
  have hK1 := va_K.moved hvm9.symm hK1
  obtain ⟨hP, hD⟩ := va_join (wr := [(q0, .inr (0, [.ref qB, .ref qT, .ref qI, .ref qN, .ref qK])), (qB, .inr (1, [.int (nI w), .ref b1, .ref b2, .ref b3, .ref b5, .ref b6, .ref b4, .int 1200])), (b1, .inl (c1, 1201, .inl (fun _ => 0))), (b2, .inl (c2, 1201, .inl (fun _ => 0))), (b3, .inl (c3, 1201, .inl (fun _ => 0))), (b4, .inl (c4, 1200, .inl f)), (b5, .inl (c5, 1201 * w, .inl (fun _ => 0))), (b6, .inl (c6, 1201 * w, .inl (fun _ => 0))), (qT, .inr (2, [.ref qB, .int (nI (w - 1)), .int (nI (w / 2))])), (qI, .inr (3, [.ref qB, .int (nI (w - 1)), .int (nI (w / 2)), .ref i1, .ref i2, .ref i3, .ref i4])), (i1, .inl (d1, 1201, .inl (fun _ => 0))), (i2, .inl (d2, 1201, .inl (fun _ => 0))), (i3, .inl (d3, 1201, .inl (fun _ => 0))), (i4, .inl (d4, 1201, .inl (fun _ => 0))), (qN, .inr (4, [.ref n1, .ref n2, .int 0])), (n1, .inl (e1, 8, .inl (fun _ => 0))), (n2, .inl (e2, 8, .inl (fun _ => 0))), (qK, .inr (4, [.ref k1, .ref k2, .int 0])), (k1, .inl (g1, 8, .inl (fun _ => 0))), (k2, .inl (g2, 8, .inl (fun _ => 0)))]) (w1 := [(qR, .inr (5, [.ref r1, .ref r2, .ref r3, .ref r4])), (r1, .inl (j1, 32768, .inl (fun _ => 0))), (r2, .inl (j2, 32768, .inl (fun _ => 0))), (r3, .inl (j3, 8, .inl (fun _ => 0))), (r4, .inl (j4, 8, .inl (fun _ => 0)))]) hP hD [20] [0, 1, 2, 3, 4, 5, 6, 7, 8, 9, 10, 11, 12, 13, 14, 15, 16, 17, 18, 19] rfl rfl (by decide) (by decide) hk9 hFc hP1 hD1
  have hK := (hK.sub (tys' := [(c1, .int), (c2, .int), (c3, .int), (c4, .int), (c5, .int), (c6, .int), (d1, .int), (d2, .int), (d3, .int), (d4, .boolean), (e1, .int), (e2, .int), (g1, .int), (g2, .int)]) [0, 1, 2, 3, 4, 5, 6, 7, 8, 9, 10, 11, 12, 13] rfl).app hK1
  generalize H1 = H at hP hS ⊢
  have hP : va_P D sC_ [(q0, .inr (0, [.ref qB, .ref qT, .ref qI, .ref qN, .ref qK])), (qB, .inr (1, [.int (nI w), .ref b1, .ref b2, .ref b3, .ref b5, .ref b6, .ref b4, .int 1200])), (b1, .inl (c1, 1201, .inl (fun _ => 0))), (b2, .inl (c2, 1201, .inl (fun _ => 0))), (b3, .inl (c3, 1201, .inl (fun _ => 0))), (b4, .inl (c4, 1200, .inl f)), (b5, .inl (c5, 1201 * w, .inl (fun _ => 0))), (b6, .inl (c6, 1201 * w, .inl (fun _ => 0))), (qT, .inr (2, [.ref qB, .int (nI (w - 1)), .int (nI (w / 2))])), (qI, .inr (3, [.ref qB, .int (nI (w - 1)), .int (nI (w / 2)), .ref i1, .ref i2, .ref i3, .ref i4])), (i1, .inl (d1, 1201, .inl (fun _ => 0))), (i2, .inl (d2, 1201, .inl (fun _ => 0))), (i3, .inl (d3, 1201, .inl (fun _ => 0))), (i4, .inl (d4, 1201, .inl (fun _ => 0))), (qN, .inr (4, [.ref n1, .ref n2, .int 0])), (n1, .inl (e1, 8, .inl (fun _ => 0))), (n2, .inl (e2, 8, .inl (fun _ => 0))), (qK, .inr (4, [.ref k1, .ref k2, .int 0])), (k1, .inl (g1, 8, .inl (fun _ => 0))), (k2, .inl (g2, 8, .inl (fun _ => 0))), (qR, .inr (5, [.ref r1, .ref r2, .ref r3, .ref r4])), (r1, .inl (j1, 32768, .inl (fun _ => 0))), (r2, .inl (j2, 32768, .inl (fun _ => 0))), (r3, .inl (j3, 8, .inl (fun _ => 0))), (r4, .inl (j4, 8, .inl (fun _ => 0)))] H := hP
  have hD : va_D (fun q : Nat => s.heap.size ≤ q) [(q0, .inr (0, [.ref qB, .ref qT, .ref qI, .ref qN, .ref qK])), (qB, .inr (1, [.int (nI w), .ref b1, .ref b2, .ref b3, .ref b5, .ref b6, .ref b4, .int 1200])), (b1, .inl (c1, 1201, .inl (fun _ => 0))), (b2, .inl (c2, 1201, .inl (fun _ => 0))), (b3, .inl (c3, 1201, .inl (fun _ => 0))), (b4, .inl (c4, 1200, .inl f)), (b5, .inl (c5, 1201 * w, .inl (fun _ => 0))), (b6, .inl (c6, 1201 * w, .inl (fun _ => 0))), (qT, .inr (2, [.ref qB, .int (nI (w - 1)), .int (nI (w / 2))])), (qI, .inr (3, [.ref qB, .int (nI (w - 1)), .int (nI (w / 2)), .ref i1, .ref i2, .ref i3, .ref i4])), (i1, .inl (d1, 1201, .inl (fun _ => 0))), (i2, .inl (d2, 1201, .inl (fun _ => 0))), (i3, .inl (d3, 1201, .inl (fun _ => 0))), (i4, .inl (d4, 1201, .inl (fun _ => 0))), (qN, .inr (4, [.ref n1, .ref n2, .int 0])), (n1, .inl (e1, 8, .inl (fun _ => 0))), (n2, .inl (e2, 8, .inl (fun _ => 0))), (qK, .inr (4, [.ref k1, .ref k2, .int 0])), (k1, .inl (g1, 8, .inl (fun _ => 0))), (k2, .inl (g2, 8, .inl (fun _ => 0))), (qR, .inr (5, [.ref r1, .ref r2, .ref r3, .ref r4])), (r1, .inl (j1, 32768, .inl (fun _ => 0))), (r2, .inl (j2, 32768, .inl (fun _ => 0))), (r3, .inl (j3, 8, .inl (fun _ => 0))), (r4, .inl (j4, 8, .inl (fun _ => 0)))] := hD
  have hK : va_K D sC_ [(c1, .int), (c2, .int), (c3, .int), (c4, .int), (c5, .int), (c6, .int), (d1, .int), (d2, .int), (d3, .int), (d4, .boolean), (e1, .int), (e2, .int), (g1, .int), (g2, .int), (j1, .int), (j2, .int), (j3, .int), (j4, .int)] s := hK
  refine W.widen (k := 25) (n := 152088) (by omega) (by omega) ?_
  refine lv_astore_n (lv' := [(2, .ref qR), (1, .ref q0), (0, .ref b)]) hx hb dc_L_law_25 rfl hl (by decide) rfl (fun ls hl => ?_)
  refine lv_iconst (v := 1) hx hb dc_L_law_26 (by decide) ?_
  refine lv_istore_n (lv' := [(3, .int 1), (2, .ref qR), (1, .ref q0), (0, .ref b)]) hx hb dc_L_law_27 rfl hl (by decide) rfl (fun ls hl => ?_)
  obtain ⟨ad, ead⟩ : ∃ ad : Nat → Nat, ad = fun k => [b1, b2, b3, b5, b6, b4, i1, i2, i3, i4, n1, n2, k1, k2, r1, r2, r3, r4, q0, qB, qT, qI, qN, qK, qR].getD k 0 := ⟨_, rfl⟩
  obtain ⟨cA, ecA⟩ : ∃ cA : Nat → ClassId, cA = fun k => [c1, c2, c3, c5, c6, c4, d1, d2, d3, d4, e1, e2, g1, g2, j1, j2, j3, j4].getD k c1 := ⟨_, rfl⟩
  obtain ⟨st, est⟩ : ∃ st : St_, st = fun k => ([(fun _ => 0), (fun _ => 0), (fun _ => 0), (fun _ => 0), (fun _ => 0), f, (fun _ => 0), (fun _ => 0), (fun _ => 0), (fun _ => 0), (fun _ => 0), (fun _ => 0), (fun _ => 0), (fun _ => 0), (fun _ => 0), (fun _ => 0), (fun _ => 0), (fun _ => 0), (fun _ => 1200), (fun _ => 0), (fun _ => 0)] : List (Nat → Int32)).getD k (fun _ => 0) := ⟨_, rfl⟩
  have hP : va_P D sC_ (wd_ ad cA w st) H := by subst ead ecA est; exact hP.sub [2, 3, 4, 6, 7, 5, 10, 11, 12, 13, 15, 16, 18, 19, 21, 22, 23, 24, 0, 1, 8, 9, 14, 17, 20] rfl
  have hD : va_D (fun q : Nat => s.heap.size ≤ q) (wd_ ad cA w st) := by subst ead ecA est; exact hD.sub [2, 3, 4, 6, 7, 5, 10, 11, 12, 13, 15, 16, 18, 19, 21, 22, 23, 24, 0, 1, 8, 9, 14, 17, 20] (by decide) rfl
  have hK : va_K D sC_ (ty_ cA) s := by subst ecA; exact hK.sub [0, 1, 2, 4, 5, 3, 6, 7, 8, 9, 10, 11, 12, 13, 14, 15, 16, 17] rfl
  have h18 : ad 18 = q0 := by rw [ead]; rfl
  have h24 : ad 24 = qR := by rw [ead]; rfl
  rw [← h18, ← h24] at hl
  obtain ⟨hJ, hAd⟩ := Jn_of hD
  have hV : IV_ w st := by
    refine IV_init (fun i hi => ?_) ?_ (fun k k1 k2 k3 i => ?_)
    · rw [est]; exact hf i hi
    · rw [est]; rfl
    · rw [est]
      rcases (show k = 0 ∨ k = 1 ∨ k = 2 ∨ k = 3 ∨ k = 4 ∨ k = 6 ∨ k = 7 ∨ k = 8 ∨ k = 9 ∨ k = 10 ∨ k = 11 ∨ k = 12 ∨ k = 13 ∨ k = 14 ∨ k = 15 ∨ k = 16 ∨ k = 17 ∨ k = 19 ∨ k = 20 by omega) with rfl | rfl | rfl | rfl | rfl | rfl | rfl | rfl | rfl | rfl | rfl | rfl | rfl | rfl | rfl | rfl | rfl | rfl | rfl <;> rfl
  refine va_forget (fun q hq => hS.2.2 q hq) ?_
  exact law_loop l hL C0 hw hJ hAd hK (L + 7) 1 st H ls (by omega) (by omega) hV hP ⟨hS.1, hS.2.1, fun q hq => absurd hq List.not_mem_nil⟩ (lv_sub hl [0, 3, 2, 1] rfl)
