-- PURE: the class's methods over eight lists now (N) and eight kept (K)
theorem i_le_lt {n : Nat} {x : Int32} (h : n + 1 < 2 ^ 31) : nI (n + 1) ≤ x ↔ nI n < x := by
  rw [Int32.le_iff_toInt_le, Int32.lt_iff_toInt_lt, nI_toInt h, nI_toInt (by omega)]
  omega
theorem i_nlt0 {m : Nat} (h : m < 2 ^ 31) : ¬ nI m < 0 := nI_pos h
def TA_ (w : Nat) (st : St_) (N K : Nat → List (Nat × Nat)) : Prop := ∃ G rn rk, T1_ w st G rn rk ∧ (∀ i, i < 8 → N i = tr_ G (rn i)) ∧ (∀ i, i < 8 → K i = tr_ G (rk i))
def Fm_ (st st' : St_) : Prop := ∀ k, 14 ≤ k → k ≤ 17 → st' k = st k
abbrev nl8_ (N : Nat → List (Nat × Nat)) : Nat := sm_ 8 (fun i => (N i).length)
theorem i_asb (a b c : Int32) : a + (b - c) = a + b - c := by
  apply Int32.toBitVec_inj.mp
  simp [BitVec.sub_eq_add_neg, BitVec.add_assoc]
theorem i_ng1 {r : Nat} : -nI r - 1 = -nI (r + 1) := by
  rw [← nI_1, Int32.neg_add]
/-- what changeCount does: a map's count and the total -/
def cc_ (a b : Nat) (s : St_) (m : Nat) (d : Int32) : St_ := ws_1 (ws_1 s a m (s a m + d)) b 0 (s b 0 + d)
section CC
variable {a b m i k w : Nat} {s t : St_} {d : Int32}
theorem cc_a (h : a ≠ b) : cc_ a b s m d a m = s a m + d := by unfold cc_; rw [ws_1_arr h, ws_1_at]
theorem cc_an (h : a ≠ b) (hi : i ≠ m) : cc_ a b s m d a i = s a i := by unfold cc_; rw [ws_1_arr h, ws_1_ne hi]
theorem cc_b : cc_ a b s m d b 0 = s b 0 + d := by unfold cc_; rw [ws_1_at]
theorem cc_bn (h : b ≠ a) (hi : i ≠ 0) : cc_ a b s m d b i = s b i := by unfold cc_; rw [ws_1_ne hi, ws_1_arr h]
theorem cc_o (h1 : k ≠ a) (h2 : k ≠ b) : cc_ a b s m d k = s k := by unfold cc_; rw [ws_1_arr h2, ws_1_arr h1]
theorem cc_0 : cc_ 11 19 s m 0 = s := by
  funext k i
  by_cases h1 : k = 19
  · subst h1
    by_cases h2 : i = 0
    · subst h2; rw [cc_b, Int32.add_zero]
    · rw [cc_bn (by decide) h2]
  · by_cases h2 : k = 11
    · subst h2
      by_cases h3 : i = m
      · subst h3; rw [cc_a (by decide), Int32.add_zero]
      · rw [cc_an (by decide) h3]
    · rw [cc_o h2 h1]
theorem cc_fr (h : Fr_ s t) : Fr_ (cc_ 11 19 s m d) (cc_ 11 19 t m d) := fun k k1 k2 => by
  have h11 := h 11 (by decide) (by decide)
  have h19 := h 19 (by decide) (by decide)
  funext i
  by_cases h1 : k = 19
  · subst h1
    by_cases h2 : i = 0
    · subst h2; rw [cc_b, cc_b, h19]
    · rw [cc_bn (by decide) h2, cc_bn (by decide) h2, h19]
  · by_cases h2 : k = 11
    · subst h2
      by_cases h3 : i = m
      · subst h3; rw [cc_a (by decide), cc_a (by decide), h11]
      · rw [cc_an (by decide) h3, cc_an (by decide) h3, h11]
    · rw [cc_o h2 h1, cc_o h2 h1, h k k1 k2]
theorem cc_fm (h : Fm_ s t) : Fm_ s (cc_ 11 19 t m d) := fun k k1 k2 => by
  rw [cc_o (by omega) (by omega)]; exact h k k1 k2
theorem p_cc22 {post : St_ → Prop} (hm : m < 8) (k : post (cc_ 11 19 s m d)) : wp_S_changeCount_22 w (nI m) d s post := by
  unfold wp_S_changeCount_22
  refine ⟨vp_in_nI hm (by omega), vp_in_nI hm (by omega), fun s1 e1 s2 e2 => ?_⟩
  rw [nI_clamp (n := m) (by omega)] at e1
  have e : s2 = cc_ 11 19 s m d := by rw [e2, e1, ws_1_arr (by decide)]; rfl
  rw [e]; exact k
theorem p_cc23 {post : St_ → Prop} (hm : m < 8) (k : post (cc_ 13 20 s m d)) : wp_S_changeCount_23 w (nI m) d s post := by
  unfold wp_S_changeCount_23
  refine ⟨vp_in_nI hm (by omega), vp_in_nI hm (by omega), fun s1 e1 s2 e2 => ?_⟩
  rw [nI_clamp (n := m) (by omega)] at e1
  have e : s2 = cc_ 13 20 s m d := by rw [e2, e1, ws_1_arr (by decide)]; rfl
  rw [e]; exact k
end CC
section CL
variable {w : Nat} {st : St_} {G : Sg_} {rn rk : Nat → Nat} {N K : Nat → List (Nat × Nat)}
theorem p_S_isMap1 {m : Nat} {post : Int32 → St_ → Prop} (h : m < 8) (k : post 1 st) : wp_S_isMap w (nI m) st post := by
  unfold wp_S_isMap
  exact br_f (nI_pos (by omega)) (br_f (nI_ge (b := 8) h (by omega)) k)
theorem p_S_isMap0 {x : Int32} {post : Int32 → St_ → Prop} (h : x < 0 ∨ nI 8 ≤ x) (k : post 0 st) : wp_S_isMap w x st post := by
  unfold wp_S_isMap
  refine br_c (fun _ => k) (fun c => br_t ?_ k)
  rcases h with h | h
  · exact absurd h c
  · exact h
theorem p_S_isKey1 {m : Nat} {post : Int32 → St_ → Prop} (h : m < 4096) (k : post 1 st) : wp_S_isKey w (nI m) st post := by
  unfold wp_S_isKey
  exact br_f (nI_pos (by omega)) (br_f (nI_nlt (a := 4095) (by omega) (by omega)) k)
theorem p_S_isKey0 {x : Int32} {post : Int32 → St_ → Prop} (h : x < 0 ∨ nI 4096 ≤ x) (k : post 0 st) : wp_S_isKey w x st post := by
  unfold wp_S_isKey
  refine br_c (fun _ => k) (fun c => br_t ?_ k)
  rcases h with h | h
  · exact absurd h c
  · exact (i_le_lt (n := 4095) (by omega)).mp h
theorem p_S_isStamp1 {m : Nat} {post : Int32 → St_ → Prop} (h : m ≤ 1000000000) (k : post 1 st) : wp_S_isStamp w (nI m) st post := by
  unfold wp_S_isStamp
  exact br_f (nI_pos (by omega)) (br_f (nI_nlt (a := 1000000000) h (by omega)) k)
theorem p_S_isStamp0 {x : Int32} {post : Int32 → St_ → Prop} (h : x < 0 ∨ nI 1000000001 ≤ x) (k : post 0 st) : wp_S_isStamp w x st post := by
  unfold wp_S_isStamp
  refine br_c (fun _ => k) (fun c => br_t ?_ k)
  rcases h with h | h
  · exact absurd h c
  · exact (i_le_lt (n := 1000000000) (by omega)).mp h
theorem T0_.used (h : T0_ w st G rn rk) {m : Nat} (hm : m < 8) (h1 : 1 ≤ rn m) : 1 ≤ gw_ G (rn m) := by
  have h2 := h.2.1.2.2.1 (rn m) h1
  have h3 : RR_ rn rk (rn m) = rt_ (RM_ rn rk m) (rn m) (rn m) := by rw [RR_rt hm]
  simp only [rt_, if_true] at h3
  omega
theorem p_stR {m x : Nat} {post : Int32 → St_ → Prop} (hw : 5 ≤ w ∧ w ≤ 32) (h : T0_ w st G rn rk) (hm : m < 8) (hx : x < 4096) (k1 : ∀ s, (x, s) ∈ tr_ G (rn m) → post (nI s) st) (k2 : (∀ s, (x, s) ∉ tr_ G (rn m)) → post (-2) st) : wp_T_stampOf w (nI (rn m)) (nI x) st post := by
  by_cases h0 : rn m = 0
  · rw [h0] at k2 ⊢
    exact p_stampOf0 hw h.1 hx (k2 (fun s hs => by simp [tr_] at hs))
  · rw [tr_1 (by omega)] at k1 k2
    exact p_stampOf hw h.1 h.2.1 (h.used hm (by omega)) hx k1 k2
theorem p_kfR {m x : Nat} {post : Int32 → St_ → Prop} (hw : 5 ≤ w ∧ w ≤ 32) (h : T0_ w st G rn rk) (hm : m < 8) (hx : x < 4096) (k : ∀ r, LK_ (tr_ G (rn m)) x r → post r st) : wp_T_keyFrom w (nI (rn m)) (nI x) st post := by
  by_cases h0 : rn m = 0
  · rw [h0] at k ⊢
    exact p_keyFrom0 hw h.1 hx (k _ (Or.inr ⟨rfl, fun p hp => by simp [tr_] at hp⟩))
  · rw [tr_1 (by omega)] at k
    exact p_keyFrom hw h.1 h.2.1 (h.used hm (by omega)) hx k
theorem T0_.so (h : T0_ w st G rn rk) {m : Nat} (hm : m < 8) : so_ (tr_ G (rn m)) := by
  by_cases h0 : rn m = 0
  · rw [h0]; exact so_nil
  · rw [tr_1 (by omega)]
    have hu := h.used hm (by omega)
    exact (h.2.1.2.2.2 _ hu ((h.2.1.1 _ hu).2.2)).2.1
theorem T0_.ic (h : T0_ w st G rn rk) {m : Nat} (hm : m < 8) : Ic_ w [] 16 (rt_ (RM_ rn rk m) (rn m)) [] G := by rw [← RR_rt hm]; exact h.2.1
theorem p_S_write {m x s : Nat} {post : Int32 → St_ → Prop} (hw : 5 ≤ w ∧ w ≤ 32) (h : TA_ w st N K) (hm : m < 8) (hx : x < 4096) (hs : s ≤ 1000000000)
    (kF : (∀ t, (x, t) ∉ N m) → 600 ≤ nl8_ N → post (-3) st) (kO : ∀ st', TA_ w st' (va_up N m (iz_ x s (N m))) K → Fm_ st st' → ((∃ t, (x, t) ∈ N m) ∨ nl8_ N < 600) → post (nI (iz_ x s (N m)).length) st') : wp_S_write w (nI m) (nI x) (nI s) st post := by
  unfold wp_S_write
  obtain ⟨G, rn, rk, ⟨h, h600, hk600⟩, hN, hK⟩ := h
  have hNm := hN m hm
  have hnl : nl8_ N = sm_ 8 (ln_ G rn) := sm_congr (fun i hi => by rw [hN i hi])
  have hsum := h.sum
  obtain ⟨q1, q2, q3, q4⟩ := h.2.2.1 m hm
  have hso := h.so hm
  refine p_S_isMap1 hm (br_f (by decide) (p_S_isKey1 hx (br_f (by decide) (p_S_isStamp1 hs (rb_t (by decide) ⟨vp_in_nI hm (by omega), ?_⟩)))))
  rw [nI_clamp (n := m) (by omega), q2]
  -- the result, whatever the counts
  have hset : ∀ (st1 st2 : St_) (G' : Sg_) (r : Nat), Rp_ w st1 G' → Fr_ st st1 → Ic_ w [] 16 (rt_ (RM_ rn rk m) r) [] G' → 1 ≤ r → tr_ G' r = iz_ x s (tr_ G (rn m)) → (gl_ G' r = 0 ∨ 2 ≤ (ge_ G' r).length) → (∀ y, 1 ≤ y → 1 ≤ RM_ rn rk m y → ge_ G' y = ge_ G y ∧ gl_ G' y = gl_ G y ∧ et_ (ge_ G') (gl_ G y) y = et_ (ge_ G) (gl_ G y) y) →
      st2 10 m = nI r → (∀ i, i ≠ m → st2 10 i = st 10 i) → st2 11 m = nI (tr_ G' r).length → (∀ i, i ≠ m → st2 11 i = st 11 i) → (∀ s : Nat, s + (tr_ G (rn m)).length = sm_ 8 (ln_ G rn) + (tr_ G' r).length → st2 19 0 = nI s) → (∀ k, k ≠ 10 → k ≠ 11 → k ≠ 19 → st2 k = st1 k) → (tr_ G' r).length + sm_ 8 (ln_ G rn) ≤ 600 + (tr_ G (rn m)).length → TA_ w st2 (va_up N m (iz_ x s (N m))) K ∧ Fm_ st st2 := by
    intro st1 st2 G' r hR1 hF1 hI1 hr1 htr hok hfr e10 e10' e11 e11' e19 eo hle
    have hu := hI1.2.2.1 r hr1
    simp only [rt_, if_true] at hu
    obtain ⟨t1, t2, t3, t4⟩ := T0_set h hm hR1 hF1 hI1 ((hI1.1 r (by omega)).2.1) (fun _ => hok) hfr e10 e10' e11 e11' e19 eo
    refine ⟨⟨G', va_up rn m r, rk, ⟨t1, by omega, ?_⟩, fun i hi => ?_, fun i hi => by rw [t3 i hi]; exact hK i hi⟩, fun k k1 k2 => ?_⟩
    · rw [show sm_ 8 (ln_ G' rk) = sm_ 8 (ln_ G rk) from sm_congr (fun i hi => by show (tr_ G' (rk i)).length = (tr_ G (rk i)).length; rw [t3 i hi])]
      exact hk600
    · by_cases e : i = m
      · subst e; rw [va_up_self, va_up_self, htr, hNm]
      · rw [vu_ne e, vu_ne e, t2 i hi e]; exact hN i hi
    · rw [eo k (by omega) (by omega) (by omega)]; exact hF1 k (by omega) (by omega)
  refine p_stR hw h hm hx (fun t ht => ?_) (fun hno => ?_)
  · -- the key is there
    refine rb_t (nI_m2 (by
      have : t ≤ 1000000000 := by
        by_cases h0 : rn m = 0
        · rw [h0] at ht; simp [tr_] at ht
        · rw [tr_1 (by omega)] at ht
          have hu := h.used hm (by omega)
          have : ∀ n y, 1 ≤ gw_ G y → gl_ G y = n → ∀ q ∈ et_ (ge_ G) n y, q.2 ≤ 1000000000 := by
            intro n
            induction n with
            | zero => intro y _ _ q hq; exact (h.1.2.1 y q hq).2
            | succ n ih =>
              intro y y1 y2 q hq
              rw [et_succ] at hq
              obtain ⟨e, he, hqe⟩ := List.mem_flatMap.mp hq
              obtain ⟨g1, g2, -, -⟩ := h.2.1.child y1 ((h.2.1.1 y y1).2.2) (by omega) he
              exact ih e.2 g1 (by omega) q hqe
          exact this _ _ hu rfl _ ht
      omega)) ⟨vp_in_nI hm (by omega), ?_⟩
    rw [q2]
    have hl := iz_len1 (s := s) hso ht
    refine p_with (a := 0) (T := 1200) hw h.1 (h.ic hm) (RM_le _ _ _) (by rw [← RR_rt hm]; exact h.roots) (by rw [← RR_rt hm, hsum]; omega) (by omega) hx hs q1 (by omega) (fun st1 G' r hR1 hF1 hI1 hr1 htr hok hfr => ⟨vp_in_nI hm (by omega), fun st2 e2 => ⟨vp_in_nI hm (by omega), ?_⟩⟩)
    have f11 : st1 11 = st 11 := hF1 11 (by decide) (by decide)
    have f10 : st1 10 = st 10 := hF1 10 (by decide) (by decide)
    have f19 : st1 19 = st 19 := hF1 19 (by decide) (by decide)
    have g11 : st2 11 = st 11 := by rw [e2, ws_1_arr (by decide), f11]
    obtain ⟨t1, t2⟩ := hset st1 st2 G' r hR1 hF1 hI1 hr1 htr hok hfr (by rw [e2, ws_1_at]) (fun i hi => by rw [e2, ws_1_ne hi, f10]) (by rw [g11, q3, htr, hl]) (fun i _ => by rw [g11]) (fun u hu => by
        rw [htr, hl] at hu
        rw [e2, ws_1_arr (by decide), f19, h.2.2.2.2.1]; congr 1; omega) (fun k k1 k2 k3 => by rw [e2, ws_1_arr k1]) (by rw [htr, hl]; omega)
    have hk := kO st2 t1 t2 (Or.inl ⟨t, by rw [hNm]; exact ht⟩)
    rw [g11, q3]
    rw [hNm, hl] at hk
    exact hk
  · -- it is new
    refine rb_f rfl ?_
    rw [h.2.2.2.2.1]
    refine pk_lt (sm_ 8 (ln_ G rn)) 600 (fun hlt => ?_) (fun hge => ?_) rfl rfl (by omega) (by omega)
    · refine ⟨vp_in_nI hm (by omega), ?_⟩
      rw [q2]
      have hl := iz_len0 (s := s) hno
      refine p_with (a := 1) (T := 1199) hw h.1 (h.ic hm) (RM_le _ _ _) (by rw [← RR_rt hm]; exact h.roots) (by rw [← RR_rt hm, hsum]; omega) (by omega) hx hs q1 (by omega) (fun st1 G' r hR1 hF1 hI1 hr1 htr hok hfr => ⟨vp_in_nI hm (by omega), fun st2 e2 => p_cc22 hm ⟨vp_in_nI hm (by omega), ?_⟩⟩)
      have f11 : st1 11 = st 11 := hF1 11 (by decide) (by decide)
      have f10 : st1 10 = st 10 := hF1 10 (by decide) (by decide)
      have f19 : st1 19 = st 19 := hF1 19 (by decide) (by decide)
      have g11 : st2 11 = st 11 := by rw [e2, ws_1_arr (by decide), f11]
      have g19 : st2 19 = st 19 := by rw [e2, ws_1_arr (by decide), f19]
      obtain ⟨st4, e4⟩ : ∃ z : St_, z = cc_ 11 19 st2 m 1 := ⟨_, rfl⟩
      rw [← e4]
      have h11 : st4 11 m = nI ((tr_ G (rn m)).length + 1) := by rw [e4, cc_a (by decide), g11, q3, nI_1]
      have h19 : st4 19 0 = nI (sm_ 8 (ln_ G rn) + 1) := by rw [e4, cc_b, g19, h.2.2.2.2.1, nI_1]
      obtain ⟨t1, t2⟩ := hset st1 st4 G' r hR1 hF1 hI1 hr1 htr hok hfr (by rw [e4, cc_o (by decide) (by decide), e2, ws_1_at]) (fun i hi => by rw [e4, cc_o (by decide) (by decide), e2, ws_1_ne hi, f10]) (by rw [h11, htr, hl]) (fun i hi => by rw [e4, cc_an (by decide) hi, g11]) (fun u hu => by
          rw [htr, hl] at hu
          rw [h19]; congr 1; omega) (fun k k1 k2 k3 => by rw [e4, cc_o k2 k3, e2, ws_1_arr k1]) (by rw [htr, hl]; omega)
      have hk := kO st4 t1 t2 (Or.inr (by rw [hnl]; exact hlt))
      rw [h11]
      rw [hNm, hl] at hk
      exact hk
    · exact kF (fun t => by rw [hNm]; exact hno t) (by rw [hnl]; exact hge)
theorem TA_.so (h : TA_ w st N K) {m : Nat} (hm : m < 8) : so_ (N m) := by
  obtain ⟨G, rn, rk, ⟨h, -, -⟩, hN, -⟩ := h
  rw [hN m hm]; exact h.so hm
theorem TA_.bd (h : TA_ w st N K) {m : Nat} (hm : m < 8) : ∀ q ∈ N m, q.1 < 4096 ∧ q.2 ≤ 1000000000 := by
  obtain ⟨G, rn, rk, ⟨h, -, -⟩, hN, -⟩ := h
  rw [hN m hm]
  intro q hq
  by_cases h0 : rn m = 0
  · rw [h0] at hq; simp [tr_] at hq
  · rw [tr_1 (by omega)] at hq
    have hu := h.used hm (by omega)
    have : ∀ n y, 1 ≤ gw_ G y → gl_ G y = n → ∀ q ∈ et_ (ge_ G) n y, q.1 < 4096 ∧ q.2 ≤ 1000000000 := by
      intro n
      induction n with
      | zero => intro y _ _ q hq; exact h.1.2.1 y q hq
      | succ n ih =>
        intro y y1 y2 q hq
        rw [et_succ] at hq
        obtain ⟨e, he, hqe⟩ := List.mem_flatMap.mp hq
        obtain ⟨g1, g2, -, -⟩ := h.2.1.child y1 ((h.2.1.1 y y1).2.2) (by omega) he
        exact ih e.2 g1 (by omega) q hqe
    exact this _ _ hu rfl _ hq
theorem TA_.sum (h : TA_ w st N K) : nl8_ N ≤ 600 ∧ nl8_ K ≤ 600 := by
  obtain ⟨G, rn, rk, ⟨h, h1, h2⟩, hN, hK⟩ := h
  have e1 : nl8_ N = sm_ 8 (ln_ G rn) := sm_congr (fun i hi => by rw [hN i hi])
  have e2 : nl8_ K = sm_ 8 (ln_ G rk) := sm_congr (fun i hi => by rw [hK i hi])
  omega
theorem p_S_read {m x : Nat} {post : Int32 → St_ → Prop} (hw : 5 ≤ w ∧ w ≤ 32) (h : TA_ w st N K) (hm : m < 8) (hx : x < 4096) (k1 : ∀ s, (x, s) ∈ N m → post (nI s) st) (k2 : (∀ s, (x, s) ∉ N m) → post (-2) st) : wp_S_read w (nI m) (nI x) st post := by
  unfold wp_S_read
  obtain ⟨G, rn, rk, ⟨h, h600, hk600⟩, hN, hK⟩ := h
  obtain ⟨q1, q2, q3, q4⟩ := h.2.2.1 m hm
  refine p_S_isMap1 hm (br_f (by decide) (p_S_isKey1 hx (rb_t (by decide) ⟨vp_in_nI hm (by omega), ?_⟩)))
  rw [nI_clamp (n := m) (by omega), q2]
  exact p_stR hw h hm hx (fun s hs => k1 s (by rw [hN m hm]; exact hs)) (fun hs => k2 (fun s => by rw [hN m hm]; exact hs s))
theorem p_S_next {m x : Nat} {post : Int32 → St_ → Prop} (hw : 5 ≤ w ∧ w ≤ 32) (h : TA_ w st N K) (hm : m < 8) (hx : x < 4096) (k : ∀ r, LK_ (N m) x r → post r st) : wp_S_next w (nI m) (nI x) st post := by
  unfold wp_S_next
  obtain ⟨G, rn, rk, ⟨h, h600, hk600⟩, hN, hK⟩ := h
  obtain ⟨q1, q2, q3, q4⟩ := h.2.2.1 m hm
  refine p_S_isMap1 hm (br_f (by decide) (p_S_isKey1 hx (rb_t (by decide) ⟨vp_in_nI hm (by omega), ?_⟩)))
  rw [nI_clamp (n := m) (by omega), q2]
  exact p_kfR hw h hm hx (fun r hr => k r (by rw [hN m hm]; exact hr))
theorem p_rem {m x : Nat} {d : Int32} {P : St_ → Prop} (hw : 5 ≤ w ∧ w ≤ 32) (h : TA_ w (cc_ 11 19 st m d) N K) (hm : m < 8) (hx : x < 4096) (hex : ∃ t, (x, t) ∈ N m) (k : ∀ st', TA_ w (cc_ 11 19 st' m (d - 1)) (va_up N m (dz_ x (N m))) K → Fm_ st st' → P st') :
    wp_T_without w (st 10 m) (nI x) st (fun (r : Int32) (st1 : St_) => vp_in (nI m) 8 ∧ (∀ st2 : St_, st2 = ws_1 st1 10 m r → P st2)) := by
  obtain ⟨G, rn, rk, ⟨h, h600, hk600⟩, hN, hK⟩ := h
  have hNm := hN m hm
  have hsum := h.sum
  obtain ⟨q1, q2, q3, q4⟩ := h.2.2.1 m hm
  rw [cc_o (by decide) (by decide)] at q2
  rw [cc_a (by decide)] at q3
  have q19 := h.2.2.2.2.1
  rw [cc_b] at q19
  have hso := h.so hm
  obtain ⟨t, ht⟩ := hex
  rw [hNm] at ht
  have hl := dz_len1 hso ht
  have hr1 : 1 ≤ rn m := by
    rcases Nat.eq_zero_or_pos (rn m) with h0 | h0
    · rw [h0] at ht; simp [tr_] at ht
    · exact h0
  have hR0 : Rp_ w st G := h.1.cong (fun k hk => (cc_o (by omega) (by omega)).symm)
  rw [q2]
  refine p_without (T := 1200) hw hR0 (h.ic hm) (RM_le _ _ _) (by rw [← RR_rt hm]; exact h.roots) (by rw [← RR_rt hm, hsum]; omega) (by omega) hx hr1 ⟨t, ht⟩ (fun st1 G' r hR1 hF1 hI1 hr2 htr hok hfr => ⟨vp_in_nI hm (by omega), fun st2 e2 => ?_⟩)
  have f11 : st1 11 = st 11 := hF1 11 (by decide) (by decide)
  have f10 : st1 10 = st 10 := hF1 10 (by decide) (by decide)
  have f19 : st1 19 = st 19 := hF1 19 (by decide) (by decide)
  have g11 : st2 11 = st 11 := by rw [e2, ws_1_arr (by decide), f11]
  have g19 : st2 19 = st 19 := by rw [e2, ws_1_arr (by decide), f19]
  have hln : ln_ G rn m = (tr_ G (rn m)).length := rfl
  have hge := sm_one (n := 8) (k := m) (ln_ G rn) hm
  have c11 : cc_ 11 19 st2 m (d - 1) 11 m = nI (ln_ G rn m - 1) := by rw [cc_a (by decide), g11, i_asb, q3, nI_p (by omega)]
  have c19 : cc_ 11 19 st2 m (d - 1) 19 0 = nI (sm_ 8 (ln_ G rn) - 1) := by rw [cc_b, g19, i_asb, q19, nI_p (by omega)]
  obtain ⟨t1, t2, t3, t4⟩ := T0_set (st1 := cc_ 11 19 st1 m d) (st2 := cc_ 11 19 st2 m (d - 1)) h hm (hR1.cong (fun k hk => cc_o (by omega) (by omega))) (cc_fr hF1) hI1 hr2 hok hfr (by rw [cc_o (by decide) (by decide), e2, ws_1_at]) (fun i hi => by rw [cc_o (by decide) (by decide), cc_o (by decide) (by decide), e2, ws_1_ne hi, f10]) (by rw [c11, htr]; congr 1; omega) (fun i hi => by rw [cc_an (by decide) hi, cc_an (by decide) hi, g11]) (fun u hu => by
      rw [htr] at hu
      rw [c19]; congr 1; omega) (fun k k1 k2 k3 => by rw [cc_o k2 k3, cc_o k2 k3, e2, ws_1_arr k1])
  refine k st2 ⟨G', va_up rn m r, rk, ⟨t1, by rw [htr] at t4; omega, ?_⟩, fun i hi => ?_, fun i hi => by rw [t3 i hi]; exact hK i hi⟩ (fun k k1 k2 => ?_)
  · rw [show sm_ 8 (ln_ G' rk) = sm_ 8 (ln_ G rk) from sm_congr (fun i hi => by show (tr_ G' (rk i)).length = (tr_ G (rk i)).length; rw [t3 i hi])]
    exact hk600
  · by_cases e : i = m
    · subst e; rw [va_up_self, va_up_self, htr, hNm]
    · rw [vu_ne e, vu_ne e, t2 i hi e]; exact hN i hi
  · rw [e2, ws_1_arr (by omega)]; exact hF1 k (by omega) (by omega)
theorem p_S_erase {m x : Nat} {post : Int32 → St_ → Prop} (hw : 5 ≤ w ∧ w ≤ 32) (h : TA_ w st N K) (hm : m < 8) (hx : x < 4096) (k1 : ∀ s, (x, s) ∈ N m → ∀ st', TA_ w st' (va_up N m (dz_ x (N m))) K → Fm_ st st' → post (nI s) st') (k2 : (∀ s, (x, s) ∉ N m) → post (-2) st) : wp_S_erase w (nI m) (nI x) st post := by
  unfold wp_S_erase
  have hTA := h
  obtain ⟨G, rn, rk, ⟨h, h600, hk600⟩, hN, hK⟩ := h
  obtain ⟨q1, q2, q3, q4⟩ := h.2.2.1 m hm
  refine p_S_isMap1 hm (br_f (by decide) (p_S_isKey1 hx (rb_t (by decide) ⟨vp_in_nI hm (by omega), ?_⟩)))
  rw [nI_clamp (n := m) (by omega), q2]
  refine p_stR hw h hm hx (fun s hs => ?_) (fun hs => br_t rfl (k2 (fun s => by rw [hN m hm]; exact hs s)))
  have hs' : (x, s) ∈ N m := by rw [hN m hm]; exact hs
  have := (hTA.bd hm _ hs').2
  exact br_f (nI_m2 (by simp only at this; omega)) ⟨vp_in_nI hm (by omega), p_rem (d := 0) hw (by rw [cc_0]; exact hTA) hm hx ⟨s, hs'⟩ (fun st1 t1 t2 => p_cc22 hm (by
    rw [show (0 : Int32) - 1 = -1 by decide] at t1
    exact k1 s hs' _ t1 (cc_fm t2)))⟩
end CL
