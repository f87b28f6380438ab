-- PURE: a map is led to another tree
theorem nI_asb {a b c : Nat} (h : c ≤ a + b) : nI a + (nI b - nI c) = nI (a + b - c) := by
  rw [i_asb, nI_add, pk_sub h]
section LD
variable {w : Nat}
theorem share_1 {R : Nat → Nat} {Z : List Nat} {G : Sg_} {b : Nat} (hI : Ic_ w [] 16 R Z G) (hb : 1 ≤ gw_ G b) : Ic_ w [] 16 (rt_ R b) Z (sw_ G b (gw_ G b + 1)) := by
  generalize hG' : sw_ G b (gw_ G b + 1) = G'
  have hgw : ∀ y, gw_ G' y = if y = b then gw_ G b + 1 else gw_ G y := fun y => by rw [← hG']; rfl
  have hgl : ∀ y, gl_ G' y = gl_ G y := fun y => by rw [← hG']
  have hge : ge_ G' = ge_ G := by rw [← hG']
  have hgf : gf_ G' = gf_ G := by rw [← hG']
  have hz : ∀ y, gw_ G' y = 0 ↔ gw_ G y = 0 := fun y => by
    rw [hgw]
    by_cases e : y = b
    · rw [if_pos e, e]; omega
    · rw [if_neg e]
  refine ⟨fun y hy => ?_, ⟨by rw [hgf]; exact hI.2.1.1, fun y hy => ?_, fun y y1 y2 y3 => ?_⟩, fun y hy => ?_, fun y hy hyl => ?_⟩
  · rw [hgl]
    exact hI.1 y (by have := (hz y); omega)
  · rw [hgf] at hy
    obtain ⟨q1, q2, q3⟩ := hI.2.1.2.1 y hy
    exact ⟨q1, q2, (hz y).mpr q3⟩
  · rw [hgf]; exact hI.2.1.2.2 y y1 y2 ((hz y).mp y3)
  · have h1 := hI.2.2.1 y hy
    have h2 : eg_ G' y = eg_ G y := sm_congr (fun p _ => by simp only [hz p, hgl, hge])
    rw [h2, hgw]
    simp only [rt_]
    by_cases e : y = b
    · rw [if_pos e, if_pos e]
      rw [← e]; omega
    · rw [if_neg e, if_neg e]; exact h1
  · have hy' : 1 ≤ gw_ G y := by have := (hz y); omega
    rw [hgl] at hyl
    have hv := hI.2.2.2 y hy' hyl
    refine ⟨fun h => by rw [hge]; exact hv.1 h, by rw [hge, hgl]; exact hv.2.1, fun h0 e he => ?_⟩
    rw [hgl] at h0
    rw [hge] at he ⊢
    obtain ⟨q1, q2, q3, q4⟩ := hv.2.2 h0 e he
    rw [hgl, hgl]
    refine ⟨?_, q2, q3, q4⟩
    have := (hz e.2); omega
theorem p_shareR {R : Nat → Nat} {G : Sg_} {r : Nat} {st : St_} {post : St_ → Prop} (hR : Rp_ w st G) (hI : Ic_ w [] 16 R [] G) (hr : r = 0 ∨ 1 ≤ gw_ G r)
    (k : ∀ st' G', Rp_ w st' G' → Fr_ st st' → Ic_ w [] 16 (rt_ R r) [] G' → ge_ G' = ge_ G → gl_ G' = gl_ G → post st') : wp_B_share w (nI r) st post := by
  by_cases h0 : r = 0
  · subst h0
    exact p_share0 (k st G hR Fr_.rf (hI.congR (fun y hy => by simp only [rt_]; rw [if_neg (by omega)]; rfl)) rfl rfl)
  · have hu : 1 ≤ gw_ G r := by rcases hr with h | h; exact absurd h h0; exact h
    obtain ⟨b1, b2, b3⟩ := hI.1 r hu
    exact p_share hR ⟨b1, b2⟩ (fun s1 hR1 hF1 => k s1 _ hR1 hF1 (share_1 hI hu) rfl rfl)
theorem p_releaseR {R' : Nat → Nat} {G : Sg_} {b : Nat} {st : St_} {post : St_ → Prop} (hw : 5 ≤ w ∧ w ≤ 32) (hR : Rp_ w st G) (hI : Ic_ w [] 16 (rt_ R' b) [] G) (hr : ∀ y, R' y ≤ 900)
    (k : ∀ st' G', Rp_ w st' G' → Fr_ st st' → Ic_ w [] 16 R' [] G' → (∀ y, 1 ≤ y → 1 ≤ R' y → ge_ G' y = ge_ G y ∧ gl_ G' y = gl_ G y ∧ et_ (ge_ G') (gl_ G y) y = et_ (ge_ G) (gl_ G y) y) → post st') : wp_T_release w (nI b) st post := by
  by_cases h0 : b = 0
  · subst h0
    exact p_release0 (k st G hR Fr_.rf (hI.congR (fun y hy => by simp only [rt_]; rw [if_neg (by omega)]; rfl)) (fun y _ _ => ⟨rfl, rfl, rfl⟩))
  · exact p_release hw hR hI hr (by omega) k
theorem RM_le16 (rn rk : Nat → Nat) (m y : Nat) : RM_ rn rk m y ≤ 16 := by
  have h1 : sm_ 8 (fun i => if i = m then 0 else if rn i = y then 1 else 0) ≤ 8 := sm_le8 (fun i _ => by split <;> (try split) <;> omega)
  have h2 : sm_ 8 (fun i => if rk i = y then 1 else 0) ≤ 8 := sm_le8 (fun i _ => by split <;> omega)
  simp only [RM_]; omega
end LD
/-- as TA_, with no word of how many keys there are -/
def TB_ (w : Nat) (st : St_) (N K : Nat → List (Nat × Nat)) : Prop := ∃ G rn rk, T0_ w st G rn rk ∧ (∀ i, i < 8 → N i = tr_ G (rn i)) ∧ (∀ i, i < 8 → K i = tr_ G (rk i))
section LE
variable {w : Nat} {st : St_} {G : Sg_} {rn rk : Nat → Nat} {N K : Nat → List (Nat × Nat)}
theorem TA_.b (h : TA_ w st N K) : TB_ w st N K := by
  obtain ⟨G, rn, rk, ⟨h, -, -⟩, hN, hK⟩ := h
  exact ⟨G, rn, rk, h, hN, hK⟩
theorem TB_.a (h : TB_ w st N K) (h1 : nl8_ N ≤ 600) (h2 : nl8_ K ≤ 600) : TA_ w st N K := by
  obtain ⟨G, rn, rk, h, hN, hK⟩ := h
  have e1 : nl8_ N = sm_ 8 (ln_ G rn) := sm_congr (fun i hi => by rw [hN i hi])
  have e2 : nl8_ K = sm_ 8 (ln_ G rk) := sm_congr (fun i hi => by rw [hK i hi])
  exact ⟨G, rn, rk, ⟨h, by omega, by omega⟩, hN, hK⟩
theorem TB_.cong {N' K' : Nat → List (Nat × Nat)} (h : TB_ w st N K) (h1 : ∀ i, i < 8 → N' i = N i) (h2 : ∀ i, i < 8 → K' i = K i) : TB_ w st N' K' := by
  obtain ⟨G, rn, rk, h, hN, hK⟩ := h
  exact ⟨G, rn, rk, h, fun i hi => by rw [h1 i hi]; exact hN i hi, fun i hi => by rw [h2 i hi]; exact hK i hi⟩
theorem TB_.cnt (h : TB_ w st N K) : (∀ i, i < 8 → st 11 i = nI (N i).length) ∧ (∀ i, i < 8 → st 13 i = nI (K i).length) ∧ st 19 0 = nI (nl8_ N) ∧ st 20 0 = nI (nl8_ K) := by
  obtain ⟨G, rn, rk, h, hN, hK⟩ := h
  refine ⟨fun i hi => by rw [hN i hi]; exact (h.2.2.1 i hi).2.2.1, fun i hi => by rw [hK i hi]; exact (h.2.2.2.1 i hi).2.2.1, ?_, ?_⟩
  · rw [show nl8_ N = sm_ 8 (ln_ G rn) from sm_congr (fun i hi => by rw [hN i hi])]; exact h.2.2.2.2.1
  · rw [show nl8_ K = sm_ 8 (ln_ G rk) from sm_congr (fun i hi => by rw [hK i hi])]; exact h.2.2.2.2.2
theorem T0_.usedk (h : T0_ w st G rn rk) {m : Nat} (hm : m < 8) (h1 : 1 ≤ rk m) : 1 ≤ gw_ G (rk m) := by
  have h2 := h.2.1.2.2.1 (rk m) h1
  have h3 : RR_ rn rk (rk m) = rt_ (RM_ rk rn m) (rk m) (rk m) := by rw [RR_comm, RR_rt hm]
  simp only [rt_, if_true] at h3
  omega
theorem p_lead22 {m r : Nat} {post : St_ → Prop} (hw : 5 ≤ w ∧ w ≤ 32) (h : T0_ w st G rn rk) (hm : m < 8) (hr : r = 0 ∨ 1 ≤ gw_ G r) (hr2 : r ≤ 1200) (hok : ok_ G r)
    (k : ∀ st', (∃ G' rn' rk', T0_ w st' G' rn' rk' ∧ (∀ j, j < 8 → tr_ G' (rn' j) = if j = m then tr_ G r else tr_ G (rn j)) ∧ (∀ j, j < 8 → tr_ G' (rk' j) = tr_ G (rk j))) → Fm_ st st' → post st') : wp_S_lead_22 w (nI m) (nI r) (nI (tr_ G r).length) st post := by
  unfold wp_S_lead_22
  obtain ⟨q1, q2, q3, q4⟩ := h.2.2.1 m hm
  have hI := h.2.1
  rw [RR_rt hm] at hI
  refine p_shareR h.1 hI hr (fun s1 G1 hR1 hF1 hI1 e1 e2 => ⟨vp_in_nI hm (by omega), ?_⟩)
  have f10 : s1 10 = st 10 := hF1 10 (by decide) (by decide)
  rw [nI_clamp (n := m) (by omega), f10, q2]
  have hI1' : Ic_ w [] 16 (rt_ (rt_ (RM_ rn rk m) r) (rn m)) [] G1 := hI1.congR (fun y _ => by simp only [rt_]; omega)
  refine p_releaseR hw hR1 hI1' (fun y => by have := RM_le16 rn rk m y; simp only [rt_]; split <;> omega) (fun s2 G2 hR2 hF2 hI2 hfr => ⟨vp_in_nI hm (by omega), fun s3 e3 => ⟨vp_in_nI hm (by omega), p_cc22 hm ?_⟩⟩)
  have hfr' : ∀ y, 1 ≤ y → 1 ≤ rt_ (RM_ rn rk m) r y → ge_ G2 y = ge_ G y ∧ gl_ G2 y = gl_ G y ∧ et_ (ge_ G2) (gl_ G y) y = et_ (ge_ G) (gl_ G y) y := fun y y1 y2 => by
    have := hfr y y1 y2
    rw [e1, e2] at this
    exact this
  have hF := hF1.tr hF2
  have htr : tr_ G2 r = tr_ G r ∧ ok_ G2 r := by
    by_cases h0 : r = 0
    · rw [h0]; exact ⟨rfl, fun q => by omega⟩
    · obtain ⟨x1, x2, x3⟩ := hfr' r (by omega) (by simp only [rt_, if_true]; omega)
      rw [tr_1 (by omega), tr_1 (by omega), x2]
      exact ⟨x3, fun q => by rw [x1, x2]; exact hok q⟩
  have hsum := sm_one (n := 8) (k := m) (ln_ G rn) hm
  have hln : ln_ G rn m = (tr_ G (rn m)).length := rfl
  have g11 : s3 11 = st 11 := by rw [e3, ws_1_arr (by decide)]; exact hF 11 (by decide) (by decide)
  have g19 : s3 19 = st 19 := by rw [e3, ws_1_arr (by decide)]; exact hF 19 (by decide) (by decide)
  obtain ⟨s5, e5⟩ : ∃ z : St_, z = cc_ 11 19 s3 m (nI (tr_ G r).length - s3 11 m) := ⟨_, rfl⟩
  rw [← e5]
  have c11 : s5 11 m = nI (tr_ G r).length := by
    rw [e5, cc_a (by decide), g11, q3, nI_asb (by omega)]; congr 1; omega
  have c19 : s5 19 0 = nI (sm_ 8 (ln_ G rn) + (tr_ G r).length - ln_ G rn m) := by
    rw [e5, cc_b, g11, q3, g19, h.2.2.2.2.1, nI_asb (by omega)]
  obtain ⟨t1, t2, t3, t4⟩ := T0_set h hm hR2 hF hI2 hr2 htr.2 (fun y y1 y2 => hfr' y y1 (by simp only [rt_]; omega)) (st2 := s5)
    (by rw [e5, cc_o (by decide) (by decide), e3, ws_1_at]) (fun i hi => by rw [e5, cc_o (by decide) (by decide), e3, ws_1_ne hi]; rw [hF 10 (by decide) (by decide)])
    (by rw [c11, htr.1]) (fun i hi => by rw [e5, cc_an (by decide) hi, g11])
    (fun u hu => by
      rw [htr.1] at hu
      rw [c19]; congr 1; omega)
    (fun q k1 k2 k3 => by rw [e5, cc_o k2 k3, e3, ws_1_arr k1])
  refine k s5 ⟨G2, va_up rn m r, rk, t1, fun j hj => ?_, t3⟩ (fun q k1 k2 => by rw [e5, cc_o (by omega) (by omega), e3, ws_1_arr (by omega)]; exact hF q (by omega) (by omega))
  by_cases e : j = m
  · subst e; rw [va_up_self, if_pos rfl]; exact htr.1
  · rw [vu_ne e, if_neg e]; exact t2 j hj e
theorem p_lead23 {m r : Nat} {post : St_ → Prop} (hw : 5 ≤ w ∧ w ≤ 32) (h : T0_ w st G rn rk) (hm : m < 8) (hr : r = 0 ∨ 1 ≤ gw_ G r) (hr2 : r ≤ 1200) (hok : ok_ G r)
    (k : ∀ st', (∃ G' rn' rk', T0_ w st' G' rn' rk' ∧ (∀ j, j < 8 → tr_ G' (rk' j) = if j = m then tr_ G r else tr_ G (rk j)) ∧ (∀ j, j < 8 → tr_ G' (rn' j) = tr_ G (rn j))) → Fm_ st st' → post st') : wp_S_lead_23 w (nI m) (nI r) (nI (tr_ G r).length) st post := by
  unfold wp_S_lead_23
  obtain ⟨q1, q2, q3, q4⟩ := h.2.2.2.1 m hm
  have hI := h.2.1
  rw [RR_comm, RR_rt hm] at hI
  refine p_shareR h.1 hI hr (fun s1 G1 hR1 hF1 hI1 e1 e2 => ⟨vp_in_nI hm (by omega), ?_⟩)
  have f10 : s1 12 = st 12 := hF1 12 (by decide) (by decide)
  rw [nI_clamp (n := m) (by omega), f10, q2]
  have hI1' : Ic_ w [] 16 (rt_ (rt_ (RM_ rk rn m) r) (rk m)) [] G1 := hI1.congR (fun y _ => by simp only [rt_]; omega)
  refine p_releaseR hw hR1 hI1' (fun y => by have := RM_le16 rk rn m y; simp only [rt_]; split <;> omega) (fun s2 G2 hR2 hF2 hI2 hfr => ⟨vp_in_nI hm (by omega), fun s3 e3 => ⟨vp_in_nI hm (by omega), p_cc23 hm ?_⟩⟩)
  have hfr' : ∀ y, 1 ≤ y → 1 ≤ rt_ (RM_ rk rn m) r y → ge_ G2 y = ge_ G y ∧ gl_ G2 y = gl_ G y ∧ et_ (ge_ G2) (gl_ G y) y = et_ (ge_ G) (gl_ G y) y := fun y y1 y2 => by
    have := hfr y y1 y2
    rw [e1, e2] at this
    exact this
  have hF := hF1.tr hF2
  have htr : tr_ G2 r = tr_ G r ∧ ok_ G2 r := by
    by_cases h0 : r = 0
    · rw [h0]; exact ⟨rfl, fun q => by omega⟩
    · obtain ⟨x1, x2, x3⟩ := hfr' r (by omega) (by simp only [rt_, if_true]; omega)
      rw [tr_1 (by omega), tr_1 (by omega), x2]
      exact ⟨x3, fun q => by rw [x1, x2]; exact hok q⟩
  have hsum := sm_one (n := 8) (k := m) (ln_ G rk) hm
  have hln : ln_ G rk m = (tr_ G (rk m)).length := rfl
  have g11 : s3 13 = st 13 := by rw [e3, ws_1_arr (by decide)]; exact hF 13 (by decide) (by decide)
  have g19 : s3 20 = st 20 := by rw [e3, ws_1_arr (by decide)]; exact hF 20 (by decide) (by decide)
  obtain ⟨s5, e5⟩ : ∃ z : St_, z = cc_ 13 20 s3 m (nI (tr_ G r).length - s3 13 m) := ⟨_, rfl⟩
  rw [← e5]
  have c11 : s5 13 m = nI (tr_ G r).length := by
    rw [e5, cc_a (by decide), g11, q3, nI_asb (by omega)]; congr 1; omega
  have c19 : s5 20 0 = nI (sm_ 8 (ln_ G rk) + (tr_ G r).length - ln_ G rk m) := by
    rw [e5, cc_b, g11, q3, g19, h.2.2.2.2.2, nI_asb (by omega)]
  obtain ⟨t1, t2, t3, t4⟩ := T0_setk h hm hR2 hF hI2 hr2 htr.2 (fun y y1 y2 => hfr' y y1 (by simp only [rt_]; omega)) (st2 := s5)
    (by rw [e5, cc_o (by decide) (by decide), e3, ws_1_at]) (fun i hi => by rw [e5, cc_o (by decide) (by decide), e3, ws_1_ne hi]; rw [hF 12 (by decide) (by decide)])
    (by rw [c11, htr.1]) (fun i hi => by rw [e5, cc_an (by decide) hi, g11])
    (fun u hu => by
      rw [htr.1] at hu
      rw [c19]; congr 1; omega)
    (fun q k1 k2 k3 => by rw [e5, cc_o k2 k3, e3, ws_1_arr k1])
  refine k s5 ⟨G2, rn, va_up rk m r, t1, fun j hj => ?_, t3⟩ (fun q k1 k2 => by rw [e5, cc_o (by omega) (by omega), e3, ws_1_arr (by omega)]; exact hF q (by omega) (by omega))
  by_cases e : j = m
  · subst e; rw [va_up_self, if_pos rfl]; exact htr.1
  · rw [vu_ne e, if_neg e]; exact t2 j hj e
theorem p_lead0 {m : Nat} {post : St_ → Prop} (hw : 5 ≤ w ∧ w ≤ 32) (h : TB_ w st N K) (hm : m < 8) (k : ∀ st', TB_ w st' (va_up N m []) K → Fm_ st st' → post st') : wp_S_lead_22 w (nI m) 0 0 st post := by
  obtain ⟨G, rn, rk, h, hN, hK⟩ := h
  refine p_lead22 (r := 0) hw h hm (Or.inl rfl) (by omega) (fun q => by omega) (fun s1 hs hF => ?_)
  obtain ⟨G', rn', rk', t1, t2, t3⟩ := hs
  refine k s1 ⟨G', rn', rk', t1, fun i hi => ?_, fun i hi => by rw [t3 i hi]; exact hK i hi⟩ hF
  rw [t2 i hi]
  by_cases e : i = m
  · subst e; rw [va_up_self, if_pos rfl]; rfl
  · rw [vu_ne e, if_neg e]; exact hN i hi
theorem p_leadN {m j : Nat} {post : St_ → Prop} (hw : 5 ≤ w ∧ w ≤ 32) (h : TB_ w st N K) (hm : m < 8) (hj : j < 8) (k : ∀ st', TB_ w st' (va_up N m (N j)) K → Fm_ st st' → post st') : wp_S_lead_22 w (nI m) (st 10 j) (st 11 j) st post := by
  obtain ⟨G, rn, rk, h, hN, hK⟩ := h
  obtain ⟨q1, q2, q3, q4⟩ := h.2.2.1 j hj
  rw [q2, q3]
  refine p_lead22 (r := rn j) hw h hm (by rcases Nat.eq_zero_or_pos (rn j) with e | e; exact Or.inl e; exact Or.inr (h.used hj e)) q1 q4 (fun s1 hs hF => ?_)
  obtain ⟨G', rn', rk', t1, t2, t3⟩ := hs
  refine k s1 ⟨G', rn', rk', t1, fun i hi => ?_, fun i hi => by rw [t3 i hi]; exact hK i hi⟩ hF
  rw [t2 i hi]
  by_cases e : i = m
  · subst e; rw [va_up_self, if_pos rfl]; exact hN j hj
  · rw [vu_ne e, if_neg e]; exact hN i hi
theorem p_leadK {m j : Nat} {post : St_ → Prop} (hw : 5 ≤ w ∧ w ≤ 32) (h : TB_ w st N K) (hm : m < 8) (hj : j < 8) (k : ∀ st', TB_ w st' (va_up N m (K j)) K → Fm_ st st' → post st') : wp_S_lead_22 w (nI m) (st 12 j) (st 13 j) st post := by
  obtain ⟨G, rn, rk, h, hN, hK⟩ := h
  obtain ⟨q1, q2, q3, q4⟩ := h.2.2.2.1 j hj
  rw [q2, q3]
  refine p_lead22 (r := rk j) hw h hm (by rcases Nat.eq_zero_or_pos (rk j) with e | e; exact Or.inl e; exact Or.inr (h.usedk hj e)) q1 q4 (fun s1 hs hF => ?_)
  obtain ⟨G', rn', rk', t1, t2, t3⟩ := hs
  refine k s1 ⟨G', rn', rk', t1, fun i hi => ?_, fun i hi => by rw [t3 i hi]; exact hK i hi⟩ hF
  rw [t2 i hi]
  by_cases e : i = m
  · subst e; rw [va_up_self, if_pos rfl]; exact hK j hj
  · rw [vu_ne e, if_neg e]; exact hN i hi
theorem p_leadkN {m j : Nat} {post : St_ → Prop} (hw : 5 ≤ w ∧ w ≤ 32) (h : TB_ w st N K) (hm : m < 8) (hj : j < 8) (k : ∀ st', TB_ w st' N (va_up K m (N j)) → Fm_ st st' → post st') : wp_S_lead_23 w (nI m) (st 10 j) (st 11 j) st post := by
  obtain ⟨G, rn, rk, h, hN, hK⟩ := h
  obtain ⟨q1, q2, q3, q4⟩ := h.2.2.1 j hj
  rw [q2, q3]
  refine p_lead23 (r := rn j) hw h hm (by rcases Nat.eq_zero_or_pos (rn j) with e | e; exact Or.inl e; exact Or.inr (h.used hj e)) q1 q4 (fun s1 hs hF => ?_)
  obtain ⟨G', rn', rk', t1, t2, t3⟩ := hs
  refine k s1 ⟨G', rn', rk', t1, fun i hi => by rw [t3 i hi]; exact hN i hi, fun i hi => ?_⟩ hF
  rw [t2 i hi]
  by_cases e : i = m
  · subst e; rw [va_up_self, if_pos rfl]; exact hN j hj
  · rw [vu_ne e, if_neg e]; exact hK i hi
theorem Fm_.rf {st : St_} : Fm_ st st := fun _ _ _ => rfl
theorem Fm_.tr {a b c : St_} (h1 : Fm_ a b) (h2 : Fm_ b c) : Fm_ a c := fun k h3 h4 => (h2 k h3 h4).trans (h1 k h3 h4)
theorem p_back_loop {post : St_ → Prop} (hw : 5 ≤ w ∧ w ≤ 32) (st0 : St_) (k : ∀ st', TB_ w st' K K → Fm_ st0 st' → post st') :
    ∀ (n i : Nat) (s : St_) (N' : Nat → List (Nat × Nat)), i ≤ 8 → 8 < n + i → TB_ w s N' K → (∀ j, j < i → N' j = K j) → Fm_ st0 s → wp_S_leadAll_22_23_2 w post n (nI i) s := by
  intro n
  induction n with
  | zero => intro i s N' h1 h2; omega
  | succ n ih =>
    intro i s N' h1 h2 hT hj hF
    refine pk_le 8 i (fun hle => ?_) (fun hlt => ?_) rfl rfl (by omega) (by omega)
    · exact k s (hT.cong (fun j h => (hj j (by omega)).symm) (fun _ _ => rfl)) hF
    · refine ⟨vp_in_nI hlt (by omega), vp_in_nI hlt (by omega), ?_⟩
      rw [nI_clamp (n := i) (by omega)]
      refine p_leadK hw hT hlt hlt (fun s1 hT1 hF1 y hy => ?_)
      rw [hy, nI_1]
      refine ih (i + 1) s1 _ (by omega) (by omega) hT1 (fun j h => ?_) (hF.tr hF1)
      by_cases e : j = i
      · subst e; rw [va_up_self]
      · rw [vu_ne e]; exact hj j (by omega)
theorem p_keep_loop {post : St_ → Prop} (hw : 5 ≤ w ∧ w ≤ 32) (st0 : St_) (k : ∀ st', TB_ w st' N N → Fm_ st0 st' → post st') :
    ∀ (n i : Nat) (s : St_) (K' : Nat → List (Nat × Nat)), i ≤ 8 → 8 < n + i → TB_ w s N K' → (∀ j, j < i → K' j = N j) → Fm_ st0 s → wp_S_leadAll_23_22_2 w post n (nI i) s := by
  intro n
  induction n with
  | zero => intro i s N' h1 h2; omega
  | succ n ih =>
    intro i s K' h1 h2 hT hj hF
    refine pk_le 8 i (fun hle => ?_) (fun hlt => ?_) rfl rfl (by omega) (by omega)
    · exact k s (hT.cong (fun _ _ => rfl) (fun j h => (hj j (by omega)).symm)) hF
    · refine ⟨vp_in_nI hlt (by omega), vp_in_nI hlt (by omega), ?_⟩
      rw [nI_clamp (n := i) (by omega)]
      refine p_leadkN hw hT hlt hlt (fun s1 hT1 hF1 y hy => ?_)
      rw [hy, nI_1]
      refine ih (i + 1) s1 _ (by omega) (by omega) hT1 (fun j h => ?_) (hF.tr hF1)
      by_cases e : j = i
      · subst e; rw [va_up_self]
      · rw [vu_ne e]; exact hj j (by omega)
theorem p_S_keep {post : Int32 → St_ → Prop} (hw : 5 ≤ w ∧ w ≤ 32) (h : TA_ w st N K) (k : ∀ st', TA_ w st' N N → Fm_ st st' → post (nI (nl8_ N)) st') : wp_S_keep w st post := by
  unfold wp_S_keep
  refine ⟨9, p_keep_loop (N := N) hw st (fun s1 hT hF => ?_) 9 0 st K (by omega) (by omega) h.b (fun j hj => by omega) Fm_.rf⟩
  rw [hT.cnt.2.2.1]
  exact k s1 (hT.a h.sum.1 h.sum.1) hF
theorem p_S_back {post : Int32 → St_ → Prop} (hw : 5 ≤ w ∧ w ≤ 32) (h : TA_ w st N K) (k : ∀ st', TA_ w st' K K → Fm_ st st' → post (nI (nl8_ K)) st') : wp_S_back w st post := by
  unfold wp_S_back
  refine ⟨9, p_back_loop (K := K) hw st (fun s1 hT hF => ?_) 9 0 st N (by omega) (by omega) h.b (fun j hj => by omega) Fm_.rf⟩
  rw [hT.cnt.2.2.1]
  exact k s1 (hT.a h.sum.2 h.sum.2) hF
theorem p_S_drop {m : Nat} {post : Int32 → St_ → Prop} (hw : 5 ≤ w ∧ w ≤ 32) (h : TA_ w st N K) (hm : m < 8) (k : ∀ st', TA_ w st' (va_up N m []) K → Fm_ st st' → post (nI (N m).length) st') : wp_S_drop w (nI m) st post := by
  unfold wp_S_drop
  refine p_S_isMap1 hm (rb_t (by decide) ⟨vp_in_nI hm (by omega), fun y hy => ?_⟩)
  rw [nI_clamp (n := m) (by omega), h.b.cnt.1 m hm] at hy
  rw [hy]
  refine p_lead0 hw h.b hm (fun s1 hT hF => k s1 (hT.a ?_ h.sum.2) hF)
  have h1 : nl8_ (va_up N m []) ≤ nl8_ N := sm_le (n := 8) (f := fun i => (va_up N m [] i).length) (g := fun i => (N i).length) (fun i _ => by
    by_cases e : i = m
    · subst e; rw [va_up_self]; simp
    · rw [vu_ne e]; exact Nat.le_refl _)
  exact Nat.le_trans h1 h.sum.1
theorem nl8_up {m : Nat} {L : List (Nat × Nat)} (hm : m < 8) : nl8_ (va_up N m L) + (N m).length = nl8_ N + L.length := by
  have h := sm_up (n := 8) (k := m) (f := fun i => (N i).length) (g := fun i => (va_up N m L i).length) hm (fun i _ hi => by rw [vu_ne hi])
  simp only [va_up_self] at h
  exact h
theorem p_S_clone {m j : Nat} {post : Int32 → St_ → Prop} (hw : 5 ≤ w ∧ w ≤ 32) (h : TA_ w st N K) (hm : m < 8) (hj : j < 8) (hne : m ≠ j)
    (kF : 600 < nl8_ N - (N m).length + (N j).length → post (-3) st) (kO : nl8_ N - (N m).length + (N j).length ≤ 600 → ∀ st', TA_ w st' (va_up N m (N j)) K → Fm_ st st' → post (nI (N j).length) st') : wp_S_clone w (nI m) (nI j) st post := by
  unfold wp_S_clone
  have hc := h.b.cnt
  have hle : (N m).length ≤ nl8_ N := sm_one (n := 8) (k := m) (fun i => (N i).length) hm
  have hle2 : (N j).length ≤ nl8_ N := sm_one (n := 8) (k := j) (fun i => (N i).length) hj
  have hs := h.sum
  refine p_S_isMap1 hm (br_f (by decide) (p_S_isMap1 hj (br_f (by decide) (rb_t (fun e => hne ((nI_eq (by omega) (by omega)).mp e)) ⟨vp_in_nI hm (by omega), vp_in_nI hj (by omega), ?_⟩))))
  rw [nI_clamp (n := m) (by omega), nI_clamp (n := j) (by omega), hc.2.2.1, hc.1 m hm]
  refine pk_le (nl8_ N - (N m).length + (N j).length) 600 (fun hle => ⟨vp_in_nI hj (by omega), vp_in_nI hj (by omega), ?_⟩) (fun hlt => kF hlt) (by rw [hc.1 j hj, pk_sub (by exact hle), nI_add]) rfl (by omega) (by omega)
  refine p_leadN hw h.b hm hj (fun s1 hT hF => ⟨vp_in_nI hm (by omega), ?_⟩)
  have hu := nl8_up (N := N) (L := N j) hm
  have hk := kO hle s1 (hT.a (by omega) hs.2) hF
  rw [hT.cnt.1 m hm, va_up_self]
  exact hk
theorem p_S_keys {m : Nat} {post : Int32 → St_ → Prop} (h : TA_ w st N K) (hm : m < 8) (k : post (nI (N m).length) st) : wp_S_keys w (nI m) st post := by
  unfold wp_S_keys
  refine rb_t (fun e => nI_pos (n := m) (by omega) (by rw [e]; decide)) (p_S_isMap1 hm (br_f (by decide) ⟨vp_in_nI hm (by omega), ?_⟩))
  rw [nI_clamp (n := m) (by omega), h.b.cnt.1 m hm]
  exact k
theorem p_S_keysA {post : Int32 → St_ → Prop} (h : TA_ w st N K) (k : post (nI (nl8_ N)) st) : wp_S_keys w (-1) st post := by
  unfold wp_S_keys
  refine rb_f rfl ?_
  rw [h.b.cnt.2.2.1]
  exact k
end LE
