-- PURE: Trees.putBelow
section PPB
variable {w : Nat}
theorem et_mid {E : Nat → List (Nat × Nat)} {n b i : Nat} (hi : i < (E b).length) : et_ E (n + 1) b = fm_ E n ((E b).take i) ++ (et_ E n ((E b).getD i (0, 0)).2 ++ fm_ E n ((E b).drop (i + 1))) := by
  rw [et_succ]
  conv => lhs; rw [spl_ hi]
  rw [fm_app, fm_cons]
theorem p_putBelow {x s : Nat} (hw : 5 ≤ w ∧ w ≤ 32) (hx : x < 4096) (hs : s ≤ 1000000000) {R : Nat → Nat} (hr : ∀ y, R y ≤ 1000) :
    ∀ (n d b a : Nat) (G : Sg_) (st : St_) (post : St_ → Prop), n < d → Rp_ w st G → In_ w [b] n R a G → gw_ G b = 1 → gl_ G b = n → (ge_ G b).length + 1 ≤ w → (n ≠ 0 → 1 ≤ (ge_ G b).length) → (iz_ x s (et_ (ge_ G) n b)).length ≤ a + (et_ (ge_ G) n b).length →
    (∀ st' G' a', Rp_ w st' G' → Fr_ st st' → In_ w [b] n R a' G' → a' + (iz_ x s (et_ (ge_ G) n b)).length = a + (et_ (ge_ G) n b).length → Cp_ n R G G' b → et_ (ge_ G') n b = iz_ x s (et_ (ge_ G) n b) → (ge_ G b).length ≤ (ge_ G' b).length → 1 ≤ (ge_ G' b).length → post st') →
    wp_T_putBelow w d (nI b) (nI n) (nI x) (nI s) st post := by
  intro n
  induction n with
  | zero =>
    intro d b a G st post hd hR hI hb1 hb0 hbl _ hroom k
    obtain ⟨d, rfl⟩ : ∃ q, d = q + 1 := ⟨d - 1, by omega⟩
    obtain ⟨b1, b2, b3⟩ := hI.1.1 b (by omega)
    have hso : so_ (ge_ G b) := by
      have := (hI.1.2.2.2 b (by omega) (by omega)).2.1
      rw [hb0] at this
      exact this
    show (_ → _) ∧ (_ → _)
    refine br_t (by decide) (br_f (by decide) ?_)
    refine p_putInLeaf hw hR ⟨b1, b2⟩ hx hs hso hbl (fun s1 hR1 hF1 => ?_)
    have hroom' : (iz_ x s (ge_ G b)).length ≤ a + (ge_ G b).length := hroom
    have hge : (ge_ G b).length ≤ (iz_ x s (ge_ G b)).length ∧ 1 ≤ (iz_ x s (ge_ G b)).length := by
      by_cases hp : ∃ t, (x, t) ∈ ge_ G b
      · obtain ⟨t, ht⟩ := hp
        rw [iz_len1 hso ht]
        exact ⟨Nat.le_refl _, by have := List.length_pos_of_mem ht; omega⟩
      · rw [iz_len0 (fun t ht => hp ⟨t, ht⟩)]
        omega
    obtain ⟨q1, q2⟩ := leaf_In (a' := a + (ge_ G b).length - (iz_ x s (ge_ G b)).length) (L := iz_ x s (ge_ G b)) hI hb1 hb0 (iz_so hso) (by omega)
    refine k s1 (se_ G b (iz_ x s (ge_ G b))) (a + (ge_ G b).length - (iz_ x s (ge_ G b)).length) hR1 hF1 q1 ?_ q2 ?_ ?_ ?_
    · show a + (ge_ G b).length - (iz_ x s (ge_ G b)).length + (iz_ x s (ge_ G b)).length = a + (ge_ G b).length
      omega
    · exact se_at _ _ _
    · rw [se_at]; exact hge.1
    · rw [se_at]; exact hge.2
  | succ n ih =>
    intro d b a G st post hd hR hI hb1 hbn hbl hne hroom k
    obtain ⟨d, rfl⟩ : ∃ q, d = q + 1 := ⟨d - 1, by omega⟩
    obtain ⟨b1, b2, b3⟩ := hI.1.1 b (by omega)
    have hne := hne (by omega)
    show (_ → _) ∧ (_ → _)
    refine br_t (nI_le (b := 16) (by omega) (by omega)) (br_t (nI_lt (a := 0) (by omega) (by omega)) ?_)
    refine p_slotToward hw hR ⟨b1, b2⟩ hx (fun j hj => ?_)
    obtain ⟨hi, -, -⟩ := loc_ hw.1 hI.1 (by omega) (by omega) hbn hne hj
    have hch0 := hI.1.child (b := b) (by omega) (by omega) (by omega) (gd_mem hi)
    have hb0 : ((ge_ G b).getD (j - 1) (0, 0)).2 ∉ [b] := by
      intro q
      rw [List.mem_singleton] at q
      rw [q] at hch0; omega
    refine own_ hw hR hI hr (by omega) (by omega) (by omega) hi (fun _ => hb0) (fun _ h0 e he => ?_) (fun s1 G1 c hR1 hF1 hI1 hO => ?_)
    · have hq := hI.1.child hch0.1 (by omega) h0 he
      intro q
      rw [List.mem_singleton] at q
      rw [q] at hq; omega
    have hCo := Cp_ow (R := R) hb1 hbn hO
    obtain ⟨o1, o2, o3, o4, o5, o6, o7, o8, o9, o10, o11, o12, o13⟩ := hO
    have hcn : gl_ G1 c = n := by omega
    have hbn1 : gl_ G1 b = n + 1 := by rw [o5]; exact hbn
    have hbw1 : gw_ G1 b = 1 := by rw [o6]; exact hb1
    have hl1 : (ge_ G1 b).length = (ge_ G b).length := by rw [o4, List.length_set]
    have hi1 : j - 1 < (ge_ G1 b).length := by omega
    have hc : ((ge_ G1 b).getD (j - 1) (0, 0)).2 = c := by
      rw [o4, getD_set hi]; simp
    have hj1 : fk_ (ge_ G1 b) x j := by rw [o4]; exact fk_sg hi hj
    obtain ⟨-, hA, hB⟩ := loc_ hw.1 hI1.1 (by omega) (by omega) hbn1 (by omega) hj1
    have hm1 := et_mid (E := ge_ G1) (n := n) hi1
    rw [hc] at hm1
    have hetb : et_ (ge_ G1) (n + 1) b = et_ (ge_ G) (n + 1) b := by
      have := o11 b (by omega) (by omega)
      rw [hbn] at this
      exact this
    have hiz : iz_ x s (et_ (ge_ G) (n + 1) b) = fm_ (ge_ G1) n ((ge_ G1 b).take (j - 1)) ++ (iz_ x s (et_ (ge_ G1) n c) ++ fm_ (ge_ G1) n ((ge_ G1 b).drop (j - 1 + 1))) := by
      rw [← hetb, hm1, iz_left hA, iz_right hB]
    have hlen1 : (iz_ x s (et_ (ge_ G) (n + 1) b)).length + (et_ (ge_ G1) n c).length = (et_ (ge_ G) (n + 1) b).length + (iz_ x s (et_ (ge_ G1) n c)).length := by
      rw [hiz, ← hetb, hm1]
      simp only [List.length_append]
      omega
    have hcX : c ∉ [b] := by
      intro q
      rw [List.mem_singleton] at q
      rw [q] at hcn; omega
    have hcv := (hI1.1.2.2.2 c (by omega) (by omega)).1 hcX
    have hlow := (hI1.low.nob (by omega)).mono (Y := [c]) (fun y h => by simp at h)
    have hw2c : w / 2 ≤ (ge_ G1 c).length := by
      have := (hI1.1.child (b := b) (by omega) (by omega) (by omega) (gd_mem hi1)).2.2.1
      rw [hc] at this
      exact this hcX
    rw [show nI (n + 1) - 1 = nI n from nI_pred n]
    refine ih d c (a + TL_ (n + 1) G1) G1 s1 _ (by omega) hR1 hlow o1 hcn hcv.2 (fun _ => hcv.1) (by omega) (fun s2 G2 a2 hR2 hF2 hI2 ha2 hC2 het2 hlc hl1c => ?_)
    obtain ⟨c1, c2, c3⟩ := hI2.1.1 c (by have := hC2.1; omega)
    have hkb := hR2.bd (b := c) (i := 0) (by omega)
    refine p_key (i := 0) hw hR2 ⟨c1, c2⟩ (by omega) ?_
    have hcbne : c ≠ b := fun q => hcX (by rw [q]; exact List.mem_singleton.mpr rfl)
    have hra := raise_ (a2 := a + (et_ (ge_ G1) n c).length - (iz_ x s (et_ (ge_ G1) n c)).length) (k0 := ((ge_ G2 c).getD 0 (0, 0)).1) hw.1 hI1 hbw1 hbn1 hi1 hc o1 hC2 (hI2.less (by omega)) (gd_hd hl1c) (by
      rw [het2, ← hiz]
      refine iz_so ?_
      have := (hI.1.2.2.2 b (by omega) (by omega)).2.1
      rw [hbn] at this
      exact this)
    obtain ⟨r1, r2, r3, r4, r5, r6⟩ := hra
    have hi2 : j - 1 < (ge_ G2 b).length := by rw [r4]; exact hi1
    refine p_setKey hw hR2 ⟨b1, b2⟩ hi2 hkb.1 (fun s3 hR3 hF3 => ?_)
    have hcs : ge_ (se_ G2 b (sk_ (ge_ G2 b) (j - 1) ((ge_ G2 c).getD 0 (0, 0)).1)) c = ge_ G2 c := se_ne _ _ hcbne
    have hbs : (ge_ (se_ G2 b (sk_ (ge_ G2 b) (j - 1) ((ge_ G2 c).getD 0 (0, 0)).1)) b).length = (ge_ G b).length := by
      rw [se_at, List.length_set, r4, hl1]
    have hclw := (hR2.1 c c1 c2).2.2.2.1
    refine p_size hR3 ⟨c1, c2⟩ ?_
    rw [hcs]
    have het3 : et_ (ge_ (se_ G2 b (sk_ (ge_ G2 b) (j - 1) ((ge_ G2 c).getD 0 (0, 0)).1))) (n + 1) b = iz_ x s (et_ (ge_ G) (n + 1) b) := by
      rw [r3, het2, ← hiz]
    refine pk_le (ge_ G2 c).length (w - 1) (fun hle => ?_) (fun hgt => ?_) rfl rfl (by omega) (by omega)
    · refine k s3 _ _ hR3 ((hF1.tr hF2).tr hF3) (r1.fit (by rw [hcs]; omega) (by rw [hcs]; omega) (by rw [hcs]; omega)) (by omega) (hCo.tr r2) het3 (by rw [hbs]; exact Nat.le_refl _) (by rw [hbs]; omega)
    · have hcw3 : gw_ (se_ G2 b (sk_ (ge_ G2 b) (j - 1) ((ge_ G2 c).getD 0 (0, 0)).1)) c = 1 := hC2.1
      have hc3 : ((ge_ (se_ G2 b (sk_ (ge_ G2 b) (j - 1) ((ge_ G2 c).getD 0 (0, 0)).1)) b).getD (j - 1) (0, 0)).2 = c := by
        rw [se_at, getD_set hi2]
        simp only [if_true]
        rw [r4]; exact hc
      refine p_split hw hR3 r1 r2.1 r2.2.1 (by rw [hbs]; omega) hc3 hcw3 (by rw [hcs]; omega) (by rw [hbs]; exact hbl) (fun s4 G4 hR4 hF4 hI4 hC4 het4 hlen4 => ?_)
      refine k s4 _ _ hR4 (((hF1.tr hF2).tr hF3).tr hF4) hI4 (by omega) ((hCo.tr r2).tr hC4) (het4.trans het3) (by rw [hlen4, hbs]; omega) (by rw [hlen4]; omega)
end PPB
