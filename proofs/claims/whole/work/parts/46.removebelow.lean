-- PURE: Trees.removeBelow
section PRB
variable {w : Nat}
theorem lf_del {L : List (Nat × Nat)} {x j : Nat} (hs : so_ L) (hj : fk_ L x j) (h : ∃ t, (x, t) ∈ L) : 1 ≤ j ∧ el_ L (j - 1) = dz_ x L := by
  obtain ⟨t, ht⟩ := h
  have hj0 : ¬ (j = 0 ∨ (L.getD (j - 1) (0, 0)).1 ≠ x) := fun q => fk_no hs hj q t ht
  have h1 : 1 ≤ j := by
    rcases Nat.eq_zero_or_pos j with q | q
    · exact absurd (Or.inl q) hj0
    · exact q
  have hk : (L.getD (j - 1) (0, 0)).1 = x := by
    by_cases q : (L.getD (j - 1) (0, 0)).1 = x
    · exact q
    · exact absurd (Or.inr q) hj0
  have hji : j - 1 < L.length := by have := hj.1; omega
  refine ⟨h1, ?_⟩
  have h2 := hs
  rw [spl_ hji] at h2
  obtain ⟨s1, s2, s3⟩ := so_app.mp h2
  obtain ⟨s4, s5⟩ := so_cons.mp s2
  conv => rhs; rw [spl_ hji]
  have e2 : dz_ x (L.getD (j - 1) (0, 0) :: L.drop (j - 1 + 1)) = dz_ x (L.drop (j - 1 + 1)) := by
    simp only [dz_]
    rw [List.filter_cons_of_neg (by rw [hk]; simp)]
  rw [dz_app, e2, dz_no (fun u hu => by
    have := s3 _ hu _ List.mem_cons_self
    rw [hk] at this
    simp at this), dz_no (fun u hu => by
    have := s4 _ hu
    rw [hk] at this
    simp at this)]
theorem p_removeBelow {x : Nat} (hw : 5 ≤ w ∧ w ≤ 32) (hx : x < 4096) {R : Nat → Nat} (hr : ∀ y, R y ≤ 1000) :
    ∀ (n d b a : Nat) (G : Sg_) (st : St_) (post : St_ → Prop), n < d → Rp_ w st G → In_ w [b] n R a G → gw_ G b = 1 → gl_ G b = n → (n ≠ 0 → 2 ≤ (ge_ G b).length) → (∃ t, (x, t) ∈ et_ (ge_ G) n b) →
    (∀ st' G' a', Rp_ w st' G' → Fr_ st st' → In_ w [b] n R a' G' → a' + (if (ge_ G' b).length ≤ 1 then 1 else 0) = a + 1 → Cp_ n R G G' b → et_ (ge_ G') n b = dz_ x (et_ (ge_ G) n b) → (ge_ G b).length ≤ (ge_ G' b).length + 1 → (n ≠ 0 → 1 ≤ (ge_ G' b).length) → (ge_ G' b).length ≤ (ge_ G b).length → post st') →
    wp_T_removeBelow w d (nI b) (nI n) (nI x) st post := by
  intro n
  induction n with
  | zero =>
    intro d b a G st post hd hR hI hb1 hb0 _ hex k
    obtain ⟨d, rfl⟩ : ∃ q, d = q + 1 := ⟨d - 1, by omega⟩
    obtain ⟨b1, b2, b3⟩ := hI.1.1 b (by omega)
    have hso : so_ (ge_ G b) := by
      have := (hI.1.2.2.2 b (by omega) (by omega)).2.1
      rw [hb0] at this
      exact this
    show (_ → _) ∧ (_ → _)
    refine br_t (by decide) (br_f (by decide) ?_)
    refine p_slotOf hw hR ⟨b1, b2⟩ hx (fun j hj => ?_)
    obtain ⟨j1, hdz⟩ := lf_del hso hj hex
    have hji : j - 1 < (ge_ G b).length := by have := hj.1; omega
    have hel := el_len hji
    rw [nI_p j1]
    refine p_remove hw hR ⟨b1, b2⟩ hji (fun s1 hR1 hF1 => ?_)
    rw [hdz] at hR1 hel
    obtain ⟨q1, q2⟩ := leaf_In (a' := a + 1 - (if (dz_ x (ge_ G b)).length ≤ 1 then 1 else 0)) (L := dz_ x (ge_ G b)) hI hb1 hb0 (dz_so hso) (by split <;> omega)
    refine k s1 (se_ G b (dz_ x (ge_ G b))) _ hR1 hF1 q1 ?_ q2 ?_ ?_ ?_ ?_
    · rw [se_at]
      split <;> omega
    · exact se_at _ _ _
    · rw [se_at]; omega
    · intro h; exact absurd rfl h
    · rw [se_at]; omega
  | succ n ih =>
    intro d b a G st post hd hR hI hb1 hbn hne hex k
    obtain ⟨d, rfl⟩ : ∃ q, d = q + 1 := ⟨d - 1, by omega⟩
    obtain ⟨b1, b2, b3⟩ := hI.1.1 b (by omega)
    have hne := hne (by omega)
    show (_ → _) ∧ (_ → _)
    refine br_t (nI_le (b := 16) (by omega) (by omega)) (br_t (nI_lt (a := 0) (by omega) (by omega)) ?_)
    refine p_slotToward hw hR ⟨b1, b2⟩ hx (fun j hj => ?_)
    obtain ⟨hi, -, -⟩ := loc_ hw.1 hI.1 (by omega) (by omega) hbn (by omega) hj
    have hch0 := hI.1.child (b := b) (by omega) (by omega) (by omega) (gd_mem hi)
    have hb0 : ((ge_ G b).getD (j - 1) (0, 0)).2 ∉ [b] := by
      intro q
      rw [List.mem_singleton] at q
      rw [q] at hch0; omega
    refine own_ hw hR hI hr (by omega) (by omega) (by omega) hi (fun _ => hb0) (fun _ h0 e he => ?_) (fun s1 G1 c hR1 hF1 hI1 hO => ?_)
    · have hq := hI.1.child hch0.1 (by omega) h0 he
      intro q
      rw [List.mem_singleton] at q
      rw [q] at hq; omega
    have hCo := Cp_ow (R := R) hb1 hbn hO
    obtain ⟨o1, o2, o3, o4, o5, o6, o7, o8, o9, o10, o11, o12, o13⟩ := hO
    have hcn : gl_ G1 c = n := by omega
    have hbn1 : gl_ G1 b = n + 1 := by rw [o5]; exact hbn
    have hbw1 : gw_ G1 b = 1 := by rw [o6]; exact hb1
    have hl1 : (ge_ G1 b).length = (ge_ G b).length := by rw [o4, List.length_set]
    have hi1 : j - 1 < (ge_ G1 b).length := by omega
    have hc : ((ge_ G1 b).getD (j - 1) (0, 0)).2 = c := by
      rw [o4, getD_set hi]; simp
    have hj1 : fk_ (ge_ G1 b) x j := by rw [o4]; exact fk_sg hi hj
    obtain ⟨-, hA, hB⟩ := loc_ hw.1 hI1.1 (by omega) (by omega) hbn1 (by omega) hj1
    have hm1 := et_mid (E := ge_ G1) (n := n) hi1
    rw [hc] at hm1
    have hetb : et_ (ge_ G1) (n + 1) b = et_ (ge_ G) (n + 1) b := by
      have := o11 b (by omega) (by omega)
      rw [hbn] at this
      exact this
    have hnA : ∀ u, (x, u) ∉ fm_ (ge_ G1) n ((ge_ G1 b).take (j - 1)) := fun u hu => by have := hA _ hu; simp at this
    have hnB : ∀ u, (x, u) ∉ fm_ (ge_ G1) n ((ge_ G1 b).drop (j - 1 + 1)) := fun u hu => by have := hB _ hu; simp at this
    have hdz : dz_ x (et_ (ge_ G) (n + 1) b) = fm_ (ge_ G1) n ((ge_ G1 b).take (j - 1)) ++ (dz_ x (et_ (ge_ G1) n c) ++ fm_ (ge_ G1) n ((ge_ G1 b).drop (j - 1 + 1))) := by
      rw [← hetb, hm1, dz_app, dz_app, dz_no hnA, dz_no hnB]
    have hexc : ∃ t, (x, t) ∈ et_ (ge_ G1) n c := by
      obtain ⟨t, ht⟩ := hex
      rw [← hetb, hm1] at ht
      rcases List.mem_append.mp ht with h | h
      · exact absurd h (hnA t)
      · rcases List.mem_append.mp h with h | h
        · exact ⟨t, h⟩
        · exact absurd h (hnB t)
    have hcX : c ∉ [b] := by
      intro q
      rw [List.mem_singleton] at q
      rw [q] at hcn; omega
    have hcv := (hI1.1.2.2.2 c (by omega) (by omega)).1 hcX
    have hlow := (hI1.low.nob (by omega)).mono (Y := [c]) (fun y h => by simp at h)
    have hw2c : w / 2 ≤ (ge_ G1 c).length := by
      have := (hI1.1.child (b := b) (by omega) (by omega) (by omega) (gd_mem hi1)).2.2.1
      rw [hc] at this
      exact this hcX
    rw [show nI (n + 1) - 1 = nI n from nI_pred n]
    refine ih d c (a + TL_ (n + 1) G1) G1 s1 _ (by omega) hR1 hlow o1 hcn (fun _ => by omega) hexc (fun s2 G2 a2 hR2 hF2 hI2 ha2 hC2 het2 hlc _ hlu => ?_)
    have hl1c : 1 ≤ (ge_ G2 c).length := by omega
    obtain ⟨c1, c2, c3⟩ := hI2.1.1 c (by have := hC2.1; omega)
    have hkb := hR2.bd (b := c) (i := 0) (by omega)
    refine p_key (i := 0) hw hR2 ⟨c1, c2⟩ (by omega) ?_
    have hcbne : c ≠ b := fun q => hcX (by rw [q]; exact List.mem_singleton.mpr rfl)
    have hra := raise_ (a2 := a + 1 - (if (ge_ G2 c).length ≤ 1 then 1 else 0)) (k0 := ((ge_ G2 c).getD 0 (0, 0)).1) hw.1 hI1 hbw1 hbn1 hi1 hc o1 hC2 (hI2.less (by split at ha2 <;> split <;> omega)) (gd_hd hl1c) (by
      rw [het2, ← hdz]
      refine dz_so ?_
      have := (hI.1.2.2.2 b (by omega) (by omega)).2.1
      rw [hbn] at this
      exact this)
    obtain ⟨r1, r2, r3, r4, r5, r6⟩ := hra
    have hi2 : j - 1 < (ge_ G2 b).length := by rw [r4]; exact hi1
    refine p_setKey hw hR2 ⟨b1, b2⟩ hi2 hkb.1 (fun s3 hR3 hF3 => ?_)
    have hcs : ge_ (se_ G2 b (sk_ (ge_ G2 b) (j - 1) ((ge_ G2 c).getD 0 (0, 0)).1)) c = ge_ G2 c := se_ne _ _ hcbne
    have hbs : (ge_ (se_ G2 b (sk_ (ge_ G2 b) (j - 1) ((ge_ G2 c).getD 0 (0, 0)).1)) b).length = (ge_ G b).length := by
      rw [se_at, List.length_set, r4, hl1]
    have hclw := (hR2.1 c c1 c2).2.2.2.1
    refine p_size hR3 ⟨c1, c2⟩ ?_
    rw [hcs]
    have het3 : et_ (ge_ (se_ G2 b (sk_ (ge_ G2 b) (j - 1) ((ge_ G2 c).getD 0 (0, 0)).1))) (n + 1) b = dz_ x (et_ (ge_ G) (n + 1) b) := by
      rw [r3, het2, ← hdz]
    refine pk_le (w / 2) (ge_ G2 c).length (fun hle => ?_) (fun hgt => ?_) rfl rfl (by omega) (by omega)
    · refine k s3 _ _ hR3 ((hF1.tr hF2).tr hF3) (r1.fit (by rw [hcs]; omega) (by rw [hcs]; omega) (by rw [hcs]; omega)) ?_ (hCo.tr r2) het3 (by rw [hbs]; omega) (fun _ => by rw [hbs]; omega) (by rw [hbs]; exact Nat.le_refl _)
      rw [hbs, if_neg (show ¬ (ge_ G b).length ≤ 1 by omega), if_neg (show ¬ (ge_ G2 c).length ≤ 1 by omega)]
      omega
    · have hcw3 : gw_ (se_ G2 b (sk_ (ge_ G2 b) (j - 1) ((ge_ G2 c).getD 0 (0, 0)).1)) c = 1 := hC2.1
      have hc3 : ((ge_ (se_ G2 b (sk_ (ge_ G2 b) (j - 1) ((ge_ G2 c).getD 0 (0, 0)).1)) b).getD (j - 1) (0, 0)).2 = c := by
        rw [se_at, getD_set hi2]
        simp only [if_true]
        rw [r4]; exact hc
      have hblw := (hR2.1 b b1 b2).2.2.2.1
      rw [st_ofj (j - 1) (by omega)]
      refine p_fill hw hR3 r1 hr r2.1 r2.2.1 (by rw [hbs]; omega) ?_ hcw3 (by rw [hcs]; omega) ?_ (fun s4 G4 a4 hR4 hF4 hI4 ha4 hC4 het4 hlo4 hl14 hhi4 => ?_)
      · by_cases h0 : j - 1 = 0
        · left
          rw [h0] at hc3 ⊢
          exact hc3
        · right
          rw [show j - 1 - 1 + 1 = j - 1 by omega]
          exact hc3
      · rw [hcs]; split <;> omega
      · rw [hbs] at hlo4 hhi4
        refine k s4 _ a4 hR4 (((hF1.tr hF2).tr hF3).tr hF4) hI4 ?_ ((hCo.tr r2).tr hC4) (het4.trans het3) hlo4 (fun _ => hl14) hhi4
        rw [hcs] at ha4
        rw [ha4]
        split <;> omega
end PRB
