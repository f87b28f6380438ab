-- the law: its loop, its entry
set_option maxHeartbeats 4000000 in
set_option maxRecDepth 100000 in
theorem law_loop {p : Program} {e : Env} {s : State} {m : MethodId} {below : List Frame} {meth : Method} {c : Code} (l : Launch) {b L : Nat} {xs : Nat → Int32} (hL : L ≤ 3073) (C0 : lw_At p s m meth c b L xs) {D : va_G} {ad : Nat → Nat} {cA : Nat → ClassId} {w : Nat} (hw : 5 ≤ w ∧ w ≤ 32) (hJ : Jn_ ad) (hAd : ∀ k, k < 25 → s.heap.size ≤ ad k) (hK : va_K D sC_ (ty_ cA) s) : ∀ (n i : Nat) (st : St_) (H : Heap) (ls : Array Slot), L + 6 < n + i → i ≤ L + 6 → IV_ w st → va_P D sC_ (wd_ ad cA w st) H → va_S (fun q : Nat => s.heap.size ≤ q) s.heap H [] → lv_has ls 4 [(3, .int (nI i)), (0, .ref b), (1, .ref (ad 18)), (2, .ref (ad 24))] → W p l e room_1 s m #[Value.ref b] below meth c H [] 25 152088 (lw_Z below #[Value.ref b] s) (F0 m 28 ls []) := by
  obtain ⟨hx, hb, hr, hml, hown, hts, hX, hbl, hlocks, hgv⟩ := id C0
  have hbA0 : ¬ (fun q : Nat => s.heap.size ≤ q) b := Nat.not_le.mpr hbl
  intro n
  induction n with
  | zero => intro i st H ls h1 h2; omega
  | succ n ih =>
    intro i st H ls hn hi hV hP hS0 hl
    refine lv_iload_n hx hb dc_L_law_28 rfl (lv_at hl 0 rfl) ?_
    refine lv_aload_n hx hb dc_L_law_29 rfl (lv_at hl 1 rfl) ?_
    refine va_slen hx hb hX hbl hbA0 hS0 dc_L_law_30 ?_
    refine lv_bipush (v := 6) hx hb dc_L_law_31 (by decide) ?_
    refine lv_isub hx hb dc_L_law_33 ?_
    refine lv_icmp_gt (tgt := 476) hx hb dc_L_law_34 (by decide) (fun c1 => ?_) (fun c1 => ?_)
    · refine lv_iconst (v := 1) hx hb dc_L_law_476 (by decide) ?_
      refine W.widen (k := 600000) (n := 7302250) (by omega) (by omega) ?_
      exact lw_ret hx hb hr hlocks dc_L_law_477
    · have h6 : i + 6 ≤ L := by
        have c2 : ¬ nI L - nI 6 < nI i := c1
        rcases Nat.lt_or_ge L 6 with q | q
        · have h3 : nI L - nI 6 < 0 := pk_sneg (by omega) q
          have h4 : (0 : Int32) ≤ nI i := nI_pos' (by omega)
          exact absurd (Int32.lt_of_lt_of_le h3 h4) c2
        · rw [pk_sub q] at c2
          rcases Nat.lt_or_ge (L - 6) i with q2 | q2
          · exact absurd (nI_lt q2 (by omega)) c2
          · omega
      have hend : ∀ (st2 : St_) (H2 : Heap), IV_ w st2 → va_P D sC_ (wd_ ad cA w st2) H2 → va_S (fun q : Nat => s.heap.size ≤ q) s.heap H2 [] → W p l e room_1 s m #[Value.ref b] below meth c H2 [] 25 152088 (lw_Z below #[Value.ref b] s) (F0 m 470 ls []) := fun st2 H2 hV2 hP2 hS2 => by
        obtain ⟨x9, ex9⟩ : ∃ y : Int32, y = nI i + 6 := ⟨_, rfl⟩
        refine lv_iinc (v := x9) (lv' := [(3, .int x9), (0, .ref b), (1, .ref (ad 18)), (2, .ref (ad 24))]) hx hb dc_L_law_470 hl (k := 0) rfl (by rw [ex9]; rfl) (by decide) rfl (fun ls hl => ?_)
        rw [show (6 : Int32) = nI 6 from rfl, nI_add] at ex9
        subst ex9
        refine lv_goto (tgt := 28) hx hb dc_L_law_473 (by decide) ?_
        exact ih (i + 6) st2 H2 ls (by omega) (by omega) hV2 hP2 hS2 hl
      refine lv_aload_n hx hb dc_L_law_37 rfl (lv_at hl 1 rfl) ?_
      refine lv_iload_n hx hb dc_L_law_38 rfl (lv_at hl 0 rfl) ?_
      refine va_sld hx hb hX hbl hbA0 hS0 (vp_in_nI (by omega) (by omega)) dc_L_law_39 ?_
      refine lv_bipush (v := 15) hx hb dc_L_law_40 (by decide) ?_
      refine lv_iand hx hb dc_L_law_42 ?_
      obtain ⟨j, hj, ej⟩ := pk_andE (xs (nI i).toNatClampNeg) (m := 15) 4 (by decide)
      rw [ej]
      rcases (show j = 0 ∨ j = 1 ∨ j = 2 ∨ j = 3 ∨ j = 4 ∨ j = 5 ∨ j = 6 ∨ j = 7 ∨ j = 8 ∨ j = 9 ∨ j = 10 ∨ j = 11 ∨ 12 ≤ j by omega) with rfl | rfl | rfl | rfl | rfl | rfl | rfl | rfl | rfl | rfl | rfl | rfl | hj12
      · refine lv_tableIn (off := 61) (tgt := 104) hx hb dc_L_law_43 (by decide) (by decide) (by decide) (by decide) ?_
        exact arm_write l hL C0 hw hJ hAd hK h6 hV hP hS0 hl hend
      · refine lv_tableIn (off := 104) (tgt := 147) hx hb dc_L_law_43 (by decide) (by decide) (by decide) (by decide) ?_
        exact arm_spread l hL C0 hw hJ hAd hK h6 hV hP hS0 hl hend
      · refine lv_tableIn (off := 167) (tgt := 210) hx hb dc_L_law_43 (by decide) (by decide) (by decide) (by decide) ?_
        exact arm_read l hL C0 hw hJ hAd hK h6 hV hP hS0 hl hend
      · refine lv_tableIn (off := 200) (tgt := 243) hx hb dc_L_law_43 (by decide) (by decide) (by decide) (by decide) ?_
        exact arm_erase l hL C0 hw hJ hAd hK h6 hV hP hS0 hl hend
      · refine lv_tableIn (off := 233) (tgt := 276) hx hb dc_L_law_43 (by decide) (by decide) (by decide) (by decide) ?_
        exact arm_cut l hL C0 hw hJ hAd hK h6 hV hP hS0 hl hend
      · refine lv_tableIn (off := 276) (tgt := 319) hx hb dc_L_law_43 (by decide) (by decide) (by decide) (by decide) ?_
        exact arm_next l hL C0 hw hJ hAd hK h6 hV hP hS0 hl hend
      · refine lv_tableIn (off := 309) (tgt := 352) hx hb dc_L_law_43 (by decide) (by decide) (by decide) (by decide) ?_
        exact arm_clone l hL C0 hw hJ hAd hK h6 hV hP hS0 hl hend
      · refine lv_tableIn (off := 342) (tgt := 385) hx hb dc_L_law_43 (by decide) (by decide) (by decide) (by decide) ?_
        exact arm_drop l hL C0 hw hJ hAd hK h6 hV hP hS0 hl hend
      · refine lv_tableIn (off := 365) (tgt := 408) hx hb dc_L_law_43 (by decide) (by decide) (by decide) (by decide) ?_
        exact arm_keep l hL C0 hw hJ hAd hK h6 hV hP hS0 hl hend
      · refine lv_tableIn (off := 378) (tgt := 421) hx hb dc_L_law_43 (by decide) (by decide) (by decide) (by decide) ?_
        exact arm_back l hL C0 hw hJ hAd hK h6 hV hP hS0 hl hend
      · refine lv_tableIn (off := 391) (tgt := 434) hx hb dc_L_law_43 (by decide) (by decide) (by decide) (by decide) ?_
        exact arm_keys l hL C0 hw hJ hAd hK h6 hV hP hS0 hl hend
      · refine lv_tableIn (off := 414) (tgt := 457) hx hb dc_L_law_43 (by decide) (by decide) (by decide) (by decide) ?_
        exact arm_check l hL C0 hw hJ hAd hK h6 hV hP hS0 hl hend
      · refine lv_tableOut (tgt := 470) hx hb dc_L_law_43 (Or.inr ?_) (by decide) ?_
        · rw [nI_toInt (by omega)]; omega
        · exact hend st H hV hP hS0
