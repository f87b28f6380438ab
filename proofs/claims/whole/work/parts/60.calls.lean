-- PURE: each call answers as the reference does, and keeps what holds
def IV_ (w : Nat) (st : St_) : Prop := ∃ N K, TA_ w st N K ∧ MA_ st N K
abbrev same_ (w : Nat) (r : Int32) : Int32 → St_ → Prop := fun r2 st2 => r = r2 ∧ IV_ w st2
section CA
variable {w : Nat} {st : St_}
theorem iv_ {st1 st2 : St_} {N K N' K' : Nat → List (Nat × Nat)} (hT : TA_ w st1 N K) (hM : MA_ st2 N' K') (hF : Fo_ st1 st2) (e1 : N' = N) (e2 : K' = K) : IV_ w st2 := by
  subst e1 e2
  exact ⟨N', K', hT.fo hF, hM⟩
theorem c_write (hw : 5 ≤ w ∧ w ≤ 32) (h : IV_ w st) (a b c : Int32) : wp_S_write w a b c st (fun r st1 => wp_R_write w a b c st1 (same_ w r)) := by
  have hb : ∀ P : Prop, (a < 0 ∨ nI 8 ≤ a → P) → (∀ m, m < 8 → a = nI m → P) → P := fun P h1 h2 => by
    rcases pk_ix a (n := 8) (by omega) with q | q | ⟨m, hm, q⟩
    · exact h1 (Or.inl q)
    · exact h1 (Or.inr q)
    · exact h2 m hm q
  refine hb _ (fun q => ?_) (fun m hm ha => ?_)
  · unfold wp_S_write
    refine p_S_isMap0 q (br_t rfl ?_)
    unfold wp_R_write
    exact p_R_isMap0 q (br_t rfl ⟨rfl, h⟩)
  subst ha
  have hk : b < 0 ∨ nI 4096 ≤ b ∨ ∃ x, x < 4096 ∧ b = nI x := pk_ix b (by omega)
  rcases (or_assoc.mpr hk) with q | ⟨x, hx, hb⟩
  · unfold wp_S_write
    refine p_S_isMap1 hm (br_f (by decide) (p_S_isKey0 q (br_t rfl ?_)))
    unfold wp_R_write
    exact p_R_isMap1 hm (br_f (by decide) (p_R_isKey0 q (br_t rfl ⟨rfl, h⟩)))
  subst hb
  rcases (or_assoc.mpr (pk_ix c (n := 1000000001) (by omega))) with q | ⟨s, hs, hc⟩
  · unfold wp_S_write
    refine p_S_isMap1 hm (br_f (by decide) (p_S_isKey1 hx (br_f (by decide) (p_S_isStamp0 q (rb_f rfl ?_)))))
    unfold wp_R_write
    exact p_R_isMap1 hm (br_f (by decide) (p_R_isKey1 hx (br_f (by decide) (p_R_isStamp0 q (rb_f rfl ⟨rfl, h⟩)))))
  subst hc
  obtain ⟨N, K, hT, hM⟩ := h
  refine p_S_write hw hT hm hx (by omega) (fun f1 f2 => ?_) (fun s1 hT1 hF1 hor => ?_)
  · refine p_R_write hM hm hx (by omega) (fun _ _ => ⟨rfl, N, K, hT, hM⟩) (fun s2 hM2 hF2 hor => ?_)
    rcases hor with ⟨t, ht⟩ | hlt
    · exact absurd ht (f1 t)
    · omega
  · refine p_R_write (hM.fm hF1) hm hx (by omega) (fun f1 f2 => ?_) (fun s2 hM2 hF2 _ => ⟨rfl, iv_ hT1 hM2 hF2 rfl rfl⟩)
    rcases hor with ⟨t, ht⟩ | hlt
    · exact absurd ht (f1 t)
    · omega
theorem c_spread (hw : 5 ≤ w ∧ w ≤ 32) (h : IV_ w st) (a b c d e : Int32) : wp_S_spread w a b c d e st (fun r st1 => wp_R_spread w a b c d e st1 (same_ w r)) := by
  rcases (or_assoc.mpr (pk_ix a (n := 8) (by omega))) with q | ⟨m, hm, ha⟩
  · unfold wp_S_spread
    refine p_S_isMap0 q (br_t rfl ?_)
    unfold wp_R_spread
    exact p_R_isMap0 q (br_t rfl ⟨rfl, h⟩)
  subst ha
  rcases (or_assoc.mpr (pk_ix b (n := 4096) (by omega))) with q | ⟨x, hx, hb⟩
  · unfold wp_S_spread
    refine p_S_isMap1 hm (br_f (by decide) (p_S_isKey0 q (br_t rfl ?_)))
    unfold wp_R_spread
    exact p_R_isMap1 hm (br_f (by decide) (p_R_isKey0 q (br_t rfl ⟨rfl, h⟩)))
  subst hb
  rcases (or_assoc.mpr (pk_ix e (n := 1000000001) (by omega))) with q | ⟨s, hs, he⟩
  · unfold wp_S_spread
    refine p_S_isMap1 hm (br_f (by decide) (p_S_isKey1 hx (br_f (by decide) (p_S_isStamp0 q (rb_f rfl ?_)))))
    unfold wp_R_spread
    refine p_R_isMap1 hm (br_f (by decide) (p_R_isKey1 hx (br_f (by decide) (br_c (fun _ => ⟨rfl, h⟩) (fun _ => br_c (fun _ => ⟨rfl, h⟩) (fun _ => br_c (fun _ => ⟨rfl, h⟩) (fun _ => br_c (fun _ => ⟨rfl, h⟩) (fun _ => p_R_isStamp0 q (rb_f rfl ⟨rfl, h⟩)))))))))
  subst he
  have hbad : (c < 1 ∨ 4095 < c ∨ d < 0 ∨ ¬ d ≤ 600) → wp_S_spread w (nI m) (nI x) c d (nI s) st (fun r st1 => wp_R_spread w (nI m) (nI x) c d (nI s) st1 (same_ w r)) := fun q => by
    have hR : wp_R_spread w (nI m) (nI x) c d (nI s) st (same_ w (-1)) := by
      unfold wp_R_spread
      refine p_R_isMap1 hm (br_f (by decide) (p_R_isKey1 hx (br_f (by decide) (br_c (fun _ => ⟨rfl, h⟩) (fun q1 => br_c (fun _ => ⟨rfl, h⟩) (fun q2 => br_c (fun _ => ⟨rfl, h⟩) (fun q3 => br_c (fun _ => ⟨rfl, h⟩) (fun q4 => ?_))))))))
      exfalso
      rcases q with q | q | q | q
      · exact q1 q
      · exact q2 q
      · exact q3 q
      · exact q (Int32.not_lt.mp q4)
    unfold wp_S_spread
    refine p_S_isMap1 hm (br_f (by decide) (p_S_isKey1 hx (br_f (by decide) (p_S_isStamp1 (by omega) (rb_t (by decide) (br_c (fun _ => hR) (fun q1 => br_c (fun _ => hR) (fun q2 => br_c (fun _ => hR) (fun q3 => br_f (fun q4 => ?_) hR)))))))))
    rcases q with q | q | q | q
    · exact q1 q
    · exact q2 q
    · exact q3 q
    · exact q q4
  rcases (or_assoc.mpr (pk_ix c (n := 4096) (by omega))) with q | ⟨t, ht, hc⟩
  · refine hbad ?_
    rcases q with q | q
    · exact Or.inl (Int32.lt_trans q (by decide))
    · exact Or.inr (Or.inl ((i_le_lt (n := 4095) (by omega)).mp q))
  subst hc
  by_cases ht0 : t = 0
  · subst ht0
    exact hbad (Or.inl (by decide))
  rcases (or_assoc.mpr (pk_ix d (n := 601) (by omega))) with q | ⟨u, hu, hd⟩
  · refine hbad ?_
    rcases q with q | q
    · exact Or.inr (Or.inr (Or.inl q))
    · exact Or.inr (Or.inr (Or.inr (Int32.not_le.mpr ((i_le_lt (n := 600) (by omega)).mp q))))
  subst hd
  obtain ⟨N, K, hT, hM⟩ := h
  refine p_S_spread hw hT hm hx (by omega) (by omega) (by omega) (by omega) (fun s1 hT1 hF1 => ?_)
  exact p_R_spread (hM.fm hF1) hm hx (by omega) (by omega) (by omega) (by omega) (fun s2 hM2 hF2 => ⟨rfl, iv_ hT1 hM2 hF2 rfl rfl⟩)
theorem c_read (hw : 5 ≤ w ∧ w ≤ 32) (h : IV_ w st) (a b : Int32) : wp_S_read w a b st (fun r st1 => wp_R_read w a b st1 (same_ w r)) := by
  rcases (or_assoc.mpr (pk_ix a (n := 8) (by omega))) with q | ⟨m, hm, ha⟩
  · unfold wp_S_read
    refine p_S_isMap0 q (br_t rfl ?_)
    unfold wp_R_read
    exact p_R_isMap0 q (br_t rfl ⟨rfl, h⟩)
  subst ha
  rcases (or_assoc.mpr (pk_ix b (n := 4096) (by omega))) with q | ⟨x, hx, hb⟩
  · unfold wp_S_read
    refine p_S_isMap1 hm (br_f (by decide) (p_S_isKey0 q (rb_f rfl ?_)))
    unfold wp_R_read
    exact p_R_isMap1 hm (br_f (by decide) (p_R_isKey0 q (rb_f rfl ⟨rfl, h⟩)))
  subst hb
  obtain ⟨N, K, hT, hM⟩ := h
  refine p_S_read hw hT hm hx (fun s hs => ?_) (fun hn => ?_)
  · exact p_R_read hM hm hx (fun t ht => ⟨by rw [so_fun (hT.so hm) hs ht], N, K, hT, hM⟩) (fun hn => absurd hs (hn s))
  · exact p_R_read hM hm hx (fun t ht => absurd ht (hn t)) (fun _ => ⟨rfl, N, K, hT, hM⟩)
theorem c_erase (hw : 5 ≤ w ∧ w ≤ 32) (h : IV_ w st) (a b : Int32) : wp_S_erase w a b st (fun r st1 => wp_R_erase w a b st1 (same_ w r)) := by
  rcases (or_assoc.mpr (pk_ix a (n := 8) (by omega))) with q | ⟨m, hm, ha⟩
  · unfold wp_S_erase
    refine p_S_isMap0 q (br_t rfl ?_)
    unfold wp_R_erase wp_R_read
    exact p_R_isMap0 q (br_t rfl (br_t (by decide) ⟨rfl, h⟩))
  subst ha
  rcases (or_assoc.mpr (pk_ix b (n := 4096) (by omega))) with q | ⟨x, hx, hb⟩
  · unfold wp_S_erase
    refine p_S_isMap1 hm (br_f (by decide) (p_S_isKey0 q (rb_f rfl ?_)))
    unfold wp_R_erase wp_R_read
    exact p_R_isMap1 hm (br_f (by decide) (p_R_isKey0 q (rb_f rfl (br_t (by decide) ⟨rfl, h⟩))))
  subst hb
  obtain ⟨N, K, hT, hM⟩ := h
  refine p_S_erase hw hT hm hx (fun s hs s1 hT1 hF1 => ?_) (fun hn => ?_)
  · exact p_R_erase (hM.fm hF1) hm hx (fun t ht s2 hM2 hF2 => ⟨by rw [so_fun (hT.so hm) hs ht], iv_ hT1 hM2 hF2 rfl rfl⟩) (fun hn => absurd hs (hn s))
  · exact p_R_erase hM hm hx (fun t ht => absurd ht (hn t)) (fun _ => ⟨rfl, N, K, hT, hM⟩)
theorem c_cut (hw : 5 ≤ w ∧ w ≤ 32) (h : IV_ w st) (a b c : Int32) : wp_S_cut w a b c st (fun r st1 => wp_R_cut w a b c st1 (same_ w r)) := by
  rcases (or_assoc.mpr (pk_ix a (n := 8) (by omega))) with q | ⟨m, hm, ha⟩
  · unfold wp_S_cut
    refine p_S_isMap0 q (br_t rfl ?_)
    unfold wp_R_cut
    exact p_R_isMap0 q (br_t rfl ⟨rfl, h⟩)
  subst ha
  rcases (or_assoc.mpr (pk_ix b (n := 4096) (by omega))) with q | ⟨x, hx, hb⟩
  · unfold wp_S_cut
    refine p_S_isMap1 hm (br_f (by decide) (p_S_isKey0 q (br_t rfl ?_)))
    unfold wp_R_cut
    exact p_R_isMap1 hm (br_f (by decide) (p_R_isKey0 q (br_t rfl ⟨rfl, h⟩)))
  subst hb
  rcases (or_assoc.mpr (pk_ix c (n := 4096) (by omega))) with q | ⟨z, hz, hc⟩
  · unfold wp_S_cut
    refine p_S_isMap1 hm (br_f (by decide) (p_S_isKey1 hx (br_f (by decide) (p_S_isKey0 q (br_t rfl ?_)))))
    unfold wp_R_cut
    exact p_R_isMap1 hm (br_f (by decide) (p_R_isKey1 hx (br_f (by decide) (p_R_isKey0 q (br_t rfl ⟨rfl, h⟩)))))
  subst hc
  by_cases hxz : x ≤ z
  · obtain ⟨N, K, hT, hM⟩ := h
    refine p_S_cut hw hT hm hx hz hxz (fun s1 hT1 hF1 => ?_)
    exact p_R_cut (hM.fm hF1) hm hx hz hxz (fun s2 hM2 hF2 => ⟨rfl, iv_ hT1 hM2 hF2 rfl rfl⟩)
  · unfold wp_S_cut
    refine p_S_isMap1 hm (br_f (by decide) (p_S_isKey1 hx (br_f (by decide) (p_S_isKey1 hz (br_f (by decide) (br_f (nI_ge (by omega) (by omega)) ?_))))))
    unfold wp_R_cut
    exact p_R_isMap1 hm (br_f (by decide) (p_R_isKey1 hx (br_f (by decide) (p_R_isKey1 hz (br_f (by decide) (br_f (nI_ge (by omega) (by omega)) ⟨rfl, h⟩))))))
theorem c_next (hw : 5 ≤ w ∧ w ≤ 32) (h : IV_ w st) (a b : Int32) : wp_S_next w a b st (fun r st1 => wp_R_next w a b st1 (same_ w r)) := by
  rcases (or_assoc.mpr (pk_ix a (n := 8) (by omega))) with q | ⟨m, hm, ha⟩
  · unfold wp_S_next
    refine p_S_isMap0 q (br_t rfl ?_)
    unfold wp_R_next
    exact p_R_isMap0 q (br_t rfl ⟨rfl, h⟩)
  subst ha
  rcases (or_assoc.mpr (pk_ix b (n := 4096) (by omega))) with q | ⟨x, hx, hb⟩
  · unfold wp_S_next
    refine p_S_isMap1 hm (br_f (by decide) (p_S_isKey0 q (rb_f rfl ?_)))
    unfold wp_R_next
    exact p_R_isMap1 hm (br_f (by decide) (p_R_isKey0 q (rb_f rfl ⟨rfl, h⟩)))
  subst hb
  obtain ⟨N, K, hT, hM⟩ := h
  exact p_S_next hw hT hm hx (fun r hr => p_R_next hM hm hx (fun r2 hr2 => ⟨LK_fun hr hr2, N, K, hT, hM⟩))
theorem c_clone (hw : 5 ≤ w ∧ w ≤ 32) (h : IV_ w st) (a b : Int32) : wp_S_clone w a b st (fun r st1 => wp_R_clone w a b st1 (same_ w r)) := by
  rcases (or_assoc.mpr (pk_ix a (n := 8) (by omega))) with q | ⟨m, hm, ha⟩
  · unfold wp_S_clone
    refine p_S_isMap0 q (br_t rfl ?_)
    unfold wp_R_clone
    exact p_R_isMap0 q (br_t rfl ⟨rfl, h⟩)
  subst ha
  rcases (or_assoc.mpr (pk_ix b (n := 8) (by omega))) with q | ⟨f, hf, hb⟩
  · unfold wp_S_clone
    refine p_S_isMap1 hm (br_f (by decide) (p_S_isMap0 q (br_t rfl ?_)))
    unfold wp_R_clone
    exact p_R_isMap1 hm (br_f (by decide) (p_R_isMap0 q (br_t rfl ⟨rfl, h⟩)))
  subst hb
  by_cases hne : m = f
  · subst hne
    unfold wp_S_clone
    refine p_S_isMap1 hm (br_f (by decide) (p_S_isMap1 hm (br_f (by decide) (rb_f rfl ?_))))
    unfold wp_R_clone
    exact p_R_isMap1 hm (br_f (by decide) (p_R_isMap1 hm (br_f (by decide) (rb_f rfl ⟨rfl, h⟩))))
  · obtain ⟨N, K, hT, hM⟩ := h
    refine p_S_clone hw hT hm hf hne (fun hF => ?_) (fun hO s1 hT1 hF1 => ?_)
    · exact p_R_clone hM hm hf hne (fun _ => ⟨rfl, N, K, hT, hM⟩) (fun hO => by omega)
    · exact p_R_clone (hM.fm hF1) hm hf hne (fun hF => by omega) (fun _ s2 hM2 hF2 => ⟨rfl, iv_ hT1 hM2 hF2 rfl rfl⟩)
theorem c_drop (hw : 5 ≤ w ∧ w ≤ 32) (h : IV_ w st) (a : Int32) : wp_S_drop w a st (fun r st1 => wp_R_drop w a st1 (same_ w r)) := by
  rcases (or_assoc.mpr (pk_ix a (n := 8) (by omega))) with q | ⟨m, hm, ha⟩
  · unfold wp_S_drop
    refine p_S_isMap0 q (rb_f rfl ?_)
    unfold wp_R_drop
    exact p_R_isMap0 q (rb_f rfl ⟨rfl, h⟩)
  subst ha
  obtain ⟨N, K, hT, hM⟩ := h
  exact p_S_drop hw hT hm (fun s1 hT1 hF1 => p_R_drop (hM.fm hF1) hm (fun s2 hM2 hF2 => ⟨rfl, iv_ hT1 hM2 hF2 rfl rfl⟩))
theorem c_keep (hw : 5 ≤ w ∧ w ≤ 32) (h : IV_ w st) : wp_S_keep w st (fun r st1 => wp_R_keep w st1 (same_ w r)) := by
  obtain ⟨N, K, hT, hM⟩ := h
  exact p_S_keep hw hT (fun s1 hT1 hF1 => p_R_keep (hM.fm hF1) (fun s2 hM2 hF2 => ⟨rfl, iv_ hT1 hM2 hF2 rfl rfl⟩))
theorem c_back (hw : 5 ≤ w ∧ w ≤ 32) (h : IV_ w st) : wp_S_back w st (fun r st1 => wp_R_back w st1 (same_ w r)) := by
  obtain ⟨N, K, hT, hM⟩ := h
  exact p_S_back hw hT (fun s1 hT1 hF1 => p_R_back (hM.fm hF1) (fun s2 hM2 hF2 => ⟨rfl, iv_ hT1 hM2 hF2 rfl rfl⟩))
theorem c_keys (h : IV_ w st) (a : Int32) : wp_S_keys w a st (fun r st1 => wp_R_keys w a st1 (same_ w r)) := by
  by_cases e : a = -1
  · subst e
    obtain ⟨N, K, hT, hM⟩ := h
    exact p_S_keysA hT (p_R_keysA hM ⟨rfl, N, K, hT, hM⟩)
  rcases (or_assoc.mpr (pk_ix a (n := 8) (by omega))) with q | ⟨m, hm, ha⟩
  · unfold wp_S_keys
    refine rb_t e (p_S_isMap0 q (br_t rfl ?_))
    unfold wp_R_keys
    exact rb_t e (p_R_isMap0 q (br_t rfl ⟨rfl, h⟩))
  subst ha
  obtain ⟨N, K, hT, hM⟩ := h
  exact p_S_keys hT hm (p_R_keys hM hm ⟨rfl, N, K, hT, hM⟩)
theorem c_check (hw : 5 ≤ w ∧ w ≤ 32) (h : IV_ w st) : wp_S_check w st (fun r st1 => wp_R_check w st1 (same_ w r)) := by
  obtain ⟨N, K, hT, hM⟩ := h
  exact p_S_check hw hT (fun s1 hT1 hF1 => ⟨rfl, N, K, hT1, hM.fm hF1⟩)
end CA
