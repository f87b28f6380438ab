-- PURE: Trees.moveEntry, Trees.fill
section FW
variable {w a n : Nat} {R : Nat → Nat} {G : Sg_} {st : St_}
theorem sm_c1 (n : Nat) : sm_ n (fun _ => 1) = n := by
  induction n with
  | zero => rfl
  | succ n ih => show sm_ n (fun _ => 1) + 1 = n + 1; rw [ih]
theorem gf_lt {X : List Nat} {l : Nat} (hI : Ic_ w X l R [] G) {b : Nat} (hb : 1 ≤ gw_ G b) : (gf_ G).length < 1200 := by
  obtain ⟨b1, b2, b3⟩ := hI.1 b hb
  have h1 := nd_len (fun y => gw_ G y = 0) 1200 (gf_ G) hI.2.1.1 (fun y => ⟨fun h => hI.2.1.2.1 y h, fun h => by
    rcases hI.2.1.2.2 y h.1 h.2.1 h.2.2 with q | q
    · exact q
    · simp at q⟩)
  have h2 := sm_up (n := 1200) (k := b - 1) (f := fun _ => 1) (g := va_up (fun _ => 1) (b - 1) 0) (by omega) (fun i _ hi => by simp [va_up, hi])
  have h3 : sm_ 1200 (fun i => if gw_ G (i + 1) = 0 then 1 else 0) ≤ sm_ 1200 (va_up (fun _ => 1) (b - 1) 0) := sm_le (fun i _ => by
    by_cases e : i = b - 1
    · subst e
      rw [show b - 1 + 1 = b by omega, if_neg (by omega)]
      omega
    · simp only [va_up, e, if_false]
      split <;> omega)
  rw [sm_c1] at h2
  have h4 : va_up (fun _ => 1) (b - 1) 0 (b - 1) = 0 := by simp [va_up]
  rw [h4] at h2
  rw [h1]
  omega
theorem p_moveEntry {f s t i : Nat} {post : St_ → Prop} (hw : 5 ≤ w ∧ w ≤ 32) (hR : Rp_ w st G) (hf : 1 ≤ f ∧ f ≤ 1200) (ht : 1 ≤ t ∧ t ≤ 1200) (hne : f ≠ t) (hs : s < (ge_ G f).length) (hi : i ≤ (ge_ G t).length) (hl : (ge_ G t).length < w)
    (k : ∀ st', Rp_ w st' (se_ (se_ G t (il_ (ge_ G t) i ((ge_ G f).getD s (0, 0)))) f (el_ (ge_ G f) s)) → Fr_ st st' → post st') : wp_T_moveEntry w (nI f) (nI s) (nI t) (nI i) st post := by
  unfold wp_T_moveEntry
  have hbd := hR.bd hs
  refine p_key hw hR hf hs (p_goal hw hR hf hs (p_insert hw hR ht hi hl hbd.1 hbd.2 (fun s1 hR1 hF1 => ?_)))
  have e : ge_ (se_ G t (il_ (ge_ G t) i ((ge_ G f).getD s (0, 0)))) f = ge_ G f := se_ne _ _ hne
  refine p_remove hw hR1 hf (by rw [e]; exact hs) (fun s2 hR2 hF2 => ?_)
  rw [e] at hR2
  exact k s2 hR2 (hF1.tr hF2)
theorem cn2_ {L : List (Nat × Nat)} {i p : Nat} (hi : i + 1 < L.length) (h1 : (L.getD i (0, 0)).2 = p) (h2 : (L.getD (i + 1) (0, 0)).2 = p) : 2 ≤ cn_ p L := by
  rw [spl2_ hi, cn_app]
  simp only [cn_, h1, h2, if_true]
  omega
theorem sg_ne {L : List (Nat × Nat)} {i j c : Nat} (hi : i < L.length) (h : j ≠ i) : (sg_ L i c).getD j (0, 0) = L.getD j (0, 0) := by
  rw [getD_set hi, if_neg h]
theorem sg_at {L : List (Nat × Nat)} {i c : Nat} (hi : i < L.length) : ((sg_ L i c).getD i (0, 0)).2 = c := by
  rw [getD_set hi, if_pos rfl]
theorem p_fill {b i c : Nat} {post : St_ → Prop} (hw : 5 ≤ w ∧ w ≤ 32) (hR : Rp_ w st G) (hI : In_ w [b, c] (n + 1) R a G) (hr : ∀ y, R y ≤ 1000) (hb1 : gw_ G b = 1) (hbn : gl_ G b = n + 1) (hi : i + 1 < (ge_ G b).length)
    (hc : ((ge_ G b).getD i (0, 0)).2 = c ∨ ((ge_ G b).getD (i + 1) (0, 0)).2 = c) (hc1 : gw_ G c = 1) (hcl : (ge_ G c).length + 1 = w / 2) (ha1 : 1 ≤ a + (if (ge_ G c).length ≤ 1 then 1 else 0))
    (k : ∀ st' G' a', Rp_ w st' G' → Fr_ st st' → In_ w [b] (n + 1) R a' G' → a' + (if (ge_ G' b).length ≤ 1 then 1 else 0) = a + (if (ge_ G c).length ≤ 1 then 1 else 0) → Cp_ (n + 1) R G G' b → et_ (ge_ G') (n + 1) b = et_ (ge_ G) (n + 1) b → (ge_ G b).length ≤ (ge_ G' b).length + 1 → 1 ≤ (ge_ G' b).length → (ge_ G' b).length ≤ (ge_ G b).length → post st') :
    wp_T_fill w (nI b) (nI i) st post := by
  unfold wp_T_fill
  obtain ⟨b1, b2, b3⟩ := hI.1.1 b (by omega)
  have hi0 : i < (ge_ G b).length := by omega
  have hblw := (hR.1 b b1 b2).2.2.2.1
  -- neighbours
  have hcl1 : 1 ≤ gw_ G c ∧ gl_ G c + 1 = gl_ G b ∧ 1 ≤ (ge_ G c).length := by
    rcases hc with h | h
    · have := hI.1.child (b := b) (by omega) (by omega) (by omega) (gd_mem hi0)
      rw [h] at this
      exact ⟨this.1, this.2.1, hd_len this.2.2.2⟩
    · have := hI.1.child (b := b) (by omega) (by omega) (by omega) (gd_mem hi)
      rw [h] at this
      exact ⟨this.1, this.2.1, hd_len this.2.2.2⟩
  obtain ⟨cw0, cn0, cl0⟩ := hcl1
  have hcb : c ≠ b := fun e => by rw [e] at cn0; omega
  -- any child with two ways is no exception
  have hX : ∀ (H : Sg_), Ic_ w [b, c] (n + 1) R [] H → gw_ H b = 1 → gl_ H b = n + 1 → gw_ H c = 1 → gl_ H c = n → ∀ z, 1 ≤ gw_ H z → gl_ H z = n → 2 ≤ gw_ H z → z ∉ [b, c] ∧ (gl_ H z ≠ 0 → ∀ e ∈ ge_ H z, e.2 ∉ [b, c]) := by
    intro H hH hb hbl hcw hcl z z1 z2 z3
    refine ⟨?_, fun h0 e he => ?_⟩
    · simp only [List.mem_cons, List.not_mem_nil, or_false, not_or]
      exact ⟨fun e => by rw [e] at z3; omega, fun e => by rw [e] at z3; omega⟩
    · obtain ⟨t1, t2, -, -⟩ := hH.child z1 (by omega) h0 he
      simp only [List.mem_cons, List.not_mem_nil, or_false, not_or]
      exact ⟨fun e => by rw [e] at t2; omega, fun e => by rw [e] at t2; omega⟩
  have hk1 := hI.1.child (b := b) (by omega) (by omega) (by omega) (gd_mem hi0)
  have hk2 := hI.1.child (b := b) (by omega) (by omega) (by omega) (gd_mem hi)
  generalize hz1 : ((ge_ G b).getD i (0, 0)).2 = z1 at hc hk1
  generalize hz2 : ((ge_ G b).getD (i + 1) (0, 0)).2 = z2 at hc hk2
  have hz1b : z1 ≠ b := fun e => by rw [e] at hk1; omega
  have hz2b : z2 ≠ b := fun e => by rw [e] at hk2; omega
  refine own_ hw hR hI hr (by omega) (by omega) (by omega) hi0 (fun h => by rw [hz1] at h ⊢; exact (hX G hI.1 hb1 hbn hc1 (by omega) z1 hk1.1 (by omega) h).1) (fun h => by rw [hz1] at h ⊢; exact (hX G hI.1 hb1 hbn hc1 (by omega) z1 hk1.1 (by omega) h).2) (fun s1 G1 p hR1 hF1 hI1 hO1 => ?_)
  have hCo1 := Cp_ow (R := R) hb1 hbn hO1
  obtain ⟨o1, o2, o3, o4, o5, o6, o7, o8, o9, o10, o11, o12, o13⟩ := hO1
  rw [hz1] at o3 o9 o12 o13
  have hb1' : gw_ G1 b = 1 := by rw [o6]; exact hb1
  have hbn' : gl_ G1 b = n + 1 := by rw [o5]; exact hbn
  have hpn : gl_ G1 p = n := by omega
  have hl1 : (ge_ G1 b).length = (ge_ G b).length := by rw [o4, List.length_set]
  have hi1 : i + 1 < (ge_ G1 b).length := by omega
  have hip : ((ge_ G1 b).getD i (0, 0)).2 = p := by rw [o4]; exact sg_at hi0
  have hi2' : ((ge_ G1 b).getD (i + 1) (0, 0)).2 = z2 := by rw [o4, sg_ne hi0 (by omega)]; exact hz2
  -- c in the first step
  have hcz : z1 = c → p = c := fun e => by
    rcases o13 with h | h
    · rw [h, e]
    · rw [e] at h; omega
  have hc1' : gw_ G1 c = 1 ∧ ge_ G1 c = ge_ G c ∧ gl_ G1 c = n := by
    by_cases e : z1 = c
    · have := hcz e
      subst this
      exact ⟨o1, by rw [o3, e], hpn⟩
    · refine ⟨by rw [o9 c (by omega) (by omega) (fun h => e h.symm)]; exact hc1, (o7 c (by omega) hcb).1, by rw [(o7 c (by omega) hcb).2.1]; omega⟩
  obtain ⟨cw1, ce1, cn1⟩ := hc1'
  have hk2' := hI1.1.child (b := b) (by omega) (by omega) (by omega) (gd_mem hi1)
  rw [hi2'] at hk2'
  have hz2g : ge_ G1 z2 = ge_ G z2 := (o7 z2 hk2.1 hz2b).1
  have hpz : p ≠ z2 := fun e => by
    have h1 := uniq_ hI1.1 (p := b) (c := p) (by omega) (by omega) o1 (cn_mem (gd_mem (by omega)) hip)
    have h2 := cn2_ hi1 hip (by rw [hi2', e])
    omega
  rw [nI_1]
  refine own_ hw hR1 hI1 hr (by omega) (by omega) (by omega) hi1 (fun h => by rw [hi2'] at h ⊢; exact (hX G1 hI1.1 hb1' hbn' cw1 cn1 z2 hk2'.1 (by omega) h).1) (fun h => by rw [hi2'] at h ⊢; exact (hX G1 hI1.1 hb1' hbn' cw1 cn1 z2 hk2'.1 (by omega) h).2) (fun s2 G2 q hR2 hF2 hI2 hO2 => ?_)
  have hCo2 := Cp_ow (R := R) hb1' hbn' hO2
  obtain ⟨r1, r2, r3, r4, r5, r6, r7, r8, r9, r10, r11, r12, r13⟩ := hO2
  rw [hi2'] at r3 r9 r12 r13
  have hb12 : gw_ G2 b = 1 := by rw [r6]; exact hb1'
  have hbn2 : gl_ G2 b = n + 1 := by rw [r5]; exact hbn'
  have hpb : p ≠ b := fun e => by rw [e] at hpn; omega
  have hqn : gl_ G2 q = n := by omega
  have hl2 : (ge_ G2 b).length = (ge_ G b).length := by rw [r4, List.length_set, hl1]
  have hi22 : i + 1 < (ge_ G2 b).length := by omega
  have hp2 : ((ge_ G2 b).getD i (0, 0)).2 = p := by rw [r4, sg_ne hi1 (by omega)]; exact hip
  have hq2 : ((ge_ G2 b).getD (i + 1) (0, 0)).2 = q := by rw [r4]; exact sg_at hi1
  have hpw2 : gw_ G2 p = 1 := by rw [r9 p (by omega) (by omega) hpz]; exact o1
  have hpe2 : ge_ G2 p = ge_ G z1 := by rw [(r7 p (by omega) hpb).1]; exact o3
  have hqe2 : ge_ G2 q = ge_ G z2 := by rw [r3]; exact hz2g
  have hpq : p ≠ q := fun e => by
    have h1 := uniq_ hI2.1 (p := b) (c := p) (by omega) (by omega) hpw2 (cn_mem (gd_mem (by omega)) hp2)
    have h2 := cn2_ hi22 hp2 (by rw [hq2, e])
    omega
  have hcq : z2 = c → q = c := fun e => by
    rcases r13 with h | h
    · rw [h, e]
    · rw [e] at h; omega
  obtain ⟨p1, p2, p3⟩ := hI2.1.1 p (by omega)
  obtain ⟨q1, q2, q3⟩ := hI2.1.1 q (by omega)
  -- lengths
  have hlen : ((ge_ G2 p).length = (ge_ G c).length ∧ w / 2 ≤ (ge_ G2 q).length ∧ (ge_ G2 q).length + 1 ≤ w) ∨ ((ge_ G2 q).length = (ge_ G c).length ∧ w / 2 ≤ (ge_ G2 p).length ∧ (ge_ G2 p).length + 1 ≤ w) := by
    have hother : ∀ z, z ≠ c → z ≠ b → 1 ≤ gw_ G z → gl_ G z = n → (z ∉ [b, c] → w / 2 ≤ (ge_ G z).length) → w / 2 ≤ (ge_ G z).length ∧ (ge_ G z).length + 1 ≤ w := fun z h1 h2 h3 h4 h5 => by
      have hn : z ∉ [b, c] := by simp [h1, h2]
      exact ⟨h5 hn, ((hI.1.2.2.2 z h3 (by omega)).1 hn).2⟩
    have hzz : z1 ≠ z2 := fun e => by
      rcases hc with h | h
      · have h1 := uniq_ hI.1 (p := b) (c := c) (by omega) (by omega) hc1 (cn_mem (gd_mem hi0) (by rw [hz1]; exact h))
        have h2 := cn2_ (p := c) hi (by rw [hz1]; exact h) (by rw [hz2, ← e]; exact h)
        omega
      · have h1 := uniq_ hI.1 (p := b) (c := c) (by omega) (by omega) hc1 (cn_mem (gd_mem hi) (by rw [hz2]; exact h))
        have h2 := cn2_ (p := c) hi (by rw [hz1, e]; exact h) (by rw [hz2]; exact h)
        omega
    rcases hc with h | h
    · left
      rw [hpe2, hqe2, h]
      obtain ⟨x1, x2⟩ := hother z2 (fun e => hzz (by rw [h, e])) hz2b hk2.1 (by omega) hk2.2.2.1
      exact ⟨rfl, x1, x2⟩
    · right
      rw [hpe2, hqe2, h]
      obtain ⟨x1, x2⟩ := hother z1 (fun e => hzz (by rw [h, e])) hz1b hk1.1 (by omega) hk1.2.2.1
      exact ⟨rfl, x1, x2⟩
  have hI3 : In_ w [b, p, q] (n + 1) R a G2 := hI2.mono (fun y hy => by
    simp only [List.mem_cons, List.not_mem_nil, or_false] at hy ⊢
    rcases hy with h | h
    · exact Or.inl h
    · rcases hc with e | e
      · exact Or.inr (Or.inl (by rw [h, hcz e]))
      · exact Or.inr (Or.inr (by rw [h, hcq e])))
  have hCo := hCo1.tr hCo2
  have hetb : et_ (ge_ G2) (n + 1) b = et_ (ge_ G) (n + 1) b := by
    have h1 := r11 b (by omega) (by omega)
    have h2 := o11 b (by omega) (by omega)
    rw [hbn'] at h1
    rw [hbn] at h2
    rw [h1, h2]
  have hplw := (hR2.1 p p1 p2).2.2.2.1
  have hqlw := (hR2.1 q q1 q2).2.2.2.1
  refine p_size hR2 ⟨p1, p2⟩ (p_size hR2 ⟨q1, q2⟩ ?_)
  rw [nI_add]
  refine pk_lt (w - 1) ((ge_ G2 p).length + (ge_ G2 q).length) (fun hgt => ?_) (fun hle => ?_) rfl rfl (by omega) (by omega)
  · refine p_size hR2 ⟨p1, p2⟩ (p_size hR2 ⟨q1, q2⟩ ?_)
    refine pk_le (ge_ G2 q).length (ge_ G2 p).length (fun hqp => ?_) (fun hqp => ?_) rfl rfl (by omega) (by omega)
    · -- the last of p goes to the front of q
      refine p_size hR2 ⟨p1, p2⟩ ?_
      rw [nI_p (show 1 ≤ (ge_ G2 p).length by omega)]
      refine p_moveEntry (i := 0) hw hR2 ⟨p1, p2⟩ ⟨q1, q2⟩ hpq (by omega) (by omega) (by omega) (fun s3 hR3 hF3 => ?_)
      have hel := el_len (l := ge_ G2 p) (i := (ge_ G2 p).length - 1) (by omega)
      have hilq : (il_ (ge_ G2 q) 0 ((ge_ G2 p).getD ((ge_ G2 p).length - 1) (0, 0))) = (ge_ G2 p).getD ((ge_ G2 p).length - 1) (0, 0) :: ge_ G2 q := by
        show (ge_ G2 q).take 0 ++ _ :: (ge_ G2 q).drop 0 = _
        rfl
      rw [hilq] at hR3
      have hq3e : ge_ (se_ (se_ G2 q ((ge_ G2 p).getD ((ge_ G2 p).length - 1) (0, 0) :: ge_ G2 q)) p (el_ (ge_ G2 p) ((ge_ G2 p).length - 1))) q = (ge_ G2 p).getD ((ge_ G2 p).length - 1) (0, 0) :: ge_ G2 q := by
        rw [se_ne _ _ (Ne.symm hpq), se_at]
      have hb3e : ge_ (se_ (se_ G2 q ((ge_ G2 p).getD ((ge_ G2 p).length - 1) (0, 0) :: ge_ G2 q)) p (el_ (ge_ G2 p) ((ge_ G2 p).length - 1))) b = ge_ G2 b := by
        rw [se_ne _ _ (Ne.symm hpb), se_ne _ _ (fun e => by rw [← e] at hqn; omega)]
      have h0 : 0 < (ge_ (se_ (se_ G2 q ((ge_ G2 p).getD ((ge_ G2 p).length - 1) (0, 0) :: ge_ G2 q)) p (el_ (ge_ G2 p) ((ge_ G2 p).length - 1))) q).length := by rw [hq3e]; simp
      have hbd := hR3.bd h0
      refine p_key (i := 0) hw hR3 ⟨q1, q2⟩ h0 ?_
      rw [hq3e] at hbd ⊢
      refine p_setKey hw hR3 ⟨b1, b2⟩ (by rw [hb3e]; exact hi22) hbd.1 (fun s4 hR4 hF4 => ?_)
      rw [hb3e] at hR4
      obtain ⟨m1, m2, m3⟩ := redist_pure (a' := a + (if (ge_ G c).length ≤ 1 then 1 else 0)) (kq := (((ge_ G2 p).getD ((ge_ G2 p).length - 1) (0, 0) :: ge_ G2 q).getD 0 (0, 0)).1) (Lp := el_ (ge_ G2 p) ((ge_ G2 p).length - 1)) (Lq := (ge_ G2 p).getD ((ge_ G2 p).length - 1) (0, 0) :: ge_ G2 q) hw.1 hI3 hb12 hbn2 hi22 hp2 hq2 hpw2 r1 hpq (by
          conv => rhs; rw [spl_ (show (ge_ G2 p).length - 1 < (ge_ G2 p).length by omega)]
          show (ge_ G2 p).take _ ++ (ge_ G2 p).drop _ ++ _ = _
          rw [show (ge_ G2 p).length - 1 + 1 = (ge_ G2 p).length by omega, List.drop_length]
          simp) (by omega) (by omega) (by simp; omega) (by simp; omega) (by simp) (by
          rw [List.length_cons]
          split <;> omega)
      have hR5 : Rp_ w s4 (rd_ G2 b p q (el_ (ge_ G2 p) ((ge_ G2 p).length - 1)) ((ge_ G2 p).getD ((ge_ G2 p).length - 1) (0, 0) :: ge_ G2 q) (sk_ (ge_ G2 b) (i + 1) (((ge_ G2 p).getD ((ge_ G2 p).length - 1) (0, 0) :: ge_ G2 q).getD 0 (0, 0)).1)) := by
        refine hR4.eq (Sg_ext (fun _ => rfl) (fun _ => rfl) (fun x => ?_) rfl)
        by_cases x1 : x = b
        · subst x1; simp [va_up]
        · by_cases x2 : x = p
          · subst x2; simp [va_up, x1, hpq]
          · by_cases x3 : x = q
            · subst x3; simp [va_up, x1, x2]
            · simp [va_up, x1, x2, x3]
      have hbl : (ge_ (rd_ G2 b p q (el_ (ge_ G2 p) ((ge_ G2 p).length - 1)) ((ge_ G2 p).getD ((ge_ G2 p).length - 1) (0, 0) :: ge_ G2 q) (sk_ (ge_ G2 b) (i + 1) (((ge_ G2 p).getD ((ge_ G2 p).length - 1) (0, 0) :: ge_ G2 q).getD 0 (0, 0)).1)) b).length = (ge_ G b).length := by
        have : ge_ (rd_ G2 b p q (el_ (ge_ G2 p) ((ge_ G2 p).length - 1)) ((ge_ G2 p).getD ((ge_ G2 p).length - 1) (0, 0) :: ge_ G2 q) (sk_ (ge_ G2 b) (i + 1) (((ge_ G2 p).getD ((ge_ G2 p).length - 1) (0, 0) :: ge_ G2 q).getD 0 (0, 0)).1)) b = sk_ (ge_ G2 b) (i + 1) (((ge_ G2 p).getD ((ge_ G2 p).length - 1) (0, 0) :: ge_ G2 q).getD 0 (0, 0)).1 := by simp [ge_, rd_, va_up]
        rw [this, List.length_set, hl2]
      refine k s4 _ _ hR5 (((hF1.tr hF2).tr hF3).tr hF4) m1 ?_ (hCo.tr m2) (m3.trans hetb) (by rw [hbl]; omega) (by rw [hbl]; omega) (by rw [hbl]; omega)
      rw [hbl, if_neg (show ¬ (ge_ G b).length ≤ 1 by omega)]
      rfl
    · -- the first of q goes behind p
      refine p_size hR2 ⟨p1, p2⟩ ?_
      refine p_moveEntry (s := 0) hw hR2 ⟨q1, q2⟩ ⟨p1, p2⟩ (Ne.symm hpq) (by omega) (Nat.le_refl _) (by omega) (fun s3 hR3 hF3 => ?_)
      rw [il_end] at hR3
      have hel := el_len (l := ge_ G2 q) (i := 0) (by omega)
      have hq3e : ge_ (se_ (se_ G2 p (ge_ G2 p ++ [(ge_ G2 q).getD 0 (0, 0)])) q (el_ (ge_ G2 q) 0)) q = el_ (ge_ G2 q) 0 := se_at _ _ _
      have hb3e : ge_ (se_ (se_ G2 p (ge_ G2 p ++ [(ge_ G2 q).getD 0 (0, 0)])) q (el_ (ge_ G2 q) 0)) b = ge_ G2 b := by
        rw [se_ne _ _ (fun e => by rw [← e] at hqn; omega), se_ne _ _ (Ne.symm hpb)]
      have h0 : 0 < (ge_ (se_ (se_ G2 p (ge_ G2 p ++ [(ge_ G2 q).getD 0 (0, 0)])) q (el_ (ge_ G2 q) 0)) q).length := by rw [hq3e]; omega
      have hbd := hR3.bd h0
      refine p_key (i := 0) hw hR3 ⟨q1, q2⟩ h0 ?_
      rw [hq3e] at hbd ⊢
      refine p_setKey hw hR3 ⟨b1, b2⟩ (by rw [hb3e]; exact hi22) hbd.1 (fun s4 hR4 hF4 => ?_)
      rw [hb3e] at hR4
      obtain ⟨m1, m2, m3⟩ := redist_pure (a' := a + (if (ge_ G c).length ≤ 1 then 1 else 0)) (kq := ((el_ (ge_ G2 q) 0).getD 0 (0, 0)).1) (Lp := ge_ G2 p ++ [(ge_ G2 q).getD 0 (0, 0)]) (Lq := el_ (ge_ G2 q) 0) hw.1 hI3 hb12 hbn2 hi22 hp2 hq2 hpw2 r1 hpq (by
          conv => rhs; rw [spl_ (L := ge_ G2 q) (i := 0) (by omega)]
          show (ge_ G2 p ++ [(ge_ G2 q).getD 0 (0, 0)]) ++ ((ge_ G2 q).take 0 ++ (ge_ G2 q).drop (0 + 1)) = _
          simp) (by simp; omega) (by simp; omega) (by omega) (by omega) (gd_hd (by omega)) (by
          rw [List.length_append, List.length_singleton]
          split <;> omega)
      have hR5 : Rp_ w s4 (rd_ G2 b p q (ge_ G2 p ++ [(ge_ G2 q).getD 0 (0, 0)]) (el_ (ge_ G2 q) 0) (sk_ (ge_ G2 b) (i + 1) ((el_ (ge_ G2 q) 0).getD 0 (0, 0)).1)) := by
        refine hR4.eq (Sg_ext (fun _ => rfl) (fun _ => rfl) (fun x => ?_) rfl)
        by_cases x1 : x = b
        · subst x1; simp [va_up]
        · by_cases x2 : x = p
          · subst x2; simp [va_up, x1, hpq]
          · by_cases x3 : x = q
            · subst x3; simp [va_up, x1, x2]
            · simp [va_up, x1, x2, x3]
      have hbl : (ge_ (rd_ G2 b p q (ge_ G2 p ++ [(ge_ G2 q).getD 0 (0, 0)]) (el_ (ge_ G2 q) 0) (sk_ (ge_ G2 b) (i + 1) ((el_ (ge_ G2 q) 0).getD 0 (0, 0)).1)) b).length = (ge_ G b).length := by
        have : ge_ (rd_ G2 b p q (ge_ G2 p ++ [(ge_ G2 q).getD 0 (0, 0)]) (el_ (ge_ G2 q) 0) (sk_ (ge_ G2 b) (i + 1) ((el_ (ge_ G2 q) 0).getD 0 (0, 0)).1)) b = sk_ (ge_ G2 b) (i + 1) ((el_ (ge_ G2 q) 0).getD 0 (0, 0)).1 := by simp [ge_, rd_, va_up]
        rw [this, List.length_set, hl2]
      refine k s4 _ _ hR5 (((hF1.tr hF2).tr hF3).tr hF4) m1 ?_ (hCo.tr m2) (m3.trans hetb) (by rw [hbl]; omega) (by rw [hbl]; omega) (by rw [hbl]; omega)
      rw [hbl, if_neg (show ¬ (ge_ G b).length ≤ 1 by omega)]
      rfl
  · -- one block is enough
    refine p_moveTail (s := 0) hw hR2 ⟨q1, q2⟩ ⟨p1, p2⟩ (Ne.symm hpq) (by omega) (by omega) (fun s3 hR3 hF3 => ?_)
    rw [List.drop_zero, List.take_zero] at hR3
    have hgl : (gf_ G2).length < 1200 := gf_lt hI2.1 (b := b) (by omega)
    refine p_give hR3 (by show (gf_ G2).length < 1200; exact hgl) ⟨q1, q2⟩ (fun s4 hR4 hF4 => ?_)
    have hb4e : ge_ (gv_ (se_ (se_ G2 p (ge_ G2 p ++ ge_ G2 q)) q []) q) b = ge_ G2 b := by
      have hbq : b ≠ q := fun e => by rw [← e] at hqn; omega
      simp [ge_, gv_, se_, va_up, hbq, Ne.symm hpb]
    refine p_remove hw hR4 ⟨b1, b2⟩ (by rw [hb4e]; exact hi22) (fun s5 hR5 hF5 => ?_)
    rw [hb4e] at hR5
    have hel := el_len hi22
    obtain ⟨m1, m2, m3⟩ := merge_pure (a' := a + (if (ge_ G c).length ≤ 1 then 1 else 0) - (if (ge_ G b).length ≤ 2 then 1 else 0)) hw.1 hI3 hb12 hbn2 hi22 hp2 hq2 hpw2 r1 hpq (by omega) (by omega) (by
      rw [hl2]
      split <;> split <;> rename_i hx1 hx2 <;> (try rw [if_pos hx1] at ha1) <;> (try rw [if_neg hx1] at ha1) <;> omega)
    have hR6 : Rp_ w s5 (mg_ G2 b p q (ge_ G2 p ++ ge_ G2 q) (el_ (ge_ G2 b) (i + 1))) := by
      refine hR5.eq (Sg_ext (fun _ => rfl) (fun _ => rfl) (fun x => ?_) rfl)
      by_cases x1 : x = b
      · subst x1; simp [va_up]
      · by_cases x3 : x = q
        · subst x3; simp [va_up, x1]
        · by_cases x2 : x = p
          · subst x2; simp [va_up, x1, x3]
          · simp [va_up, x1, x2, x3]
    have hbl : (ge_ (mg_ G2 b p q (ge_ G2 p ++ ge_ G2 q) (el_ (ge_ G2 b) (i + 1))) b).length = (ge_ G b).length - 1 := by
      have : ge_ (mg_ G2 b p q (ge_ G2 p ++ ge_ G2 q) (el_ (ge_ G2 b) (i + 1))) b = el_ (ge_ G2 b) (i + 1) := by simp [ge_, mg_, va_up]
      rw [this]; omega
    refine k s5 _ _ hR6 ((((hF1.tr hF2).tr hF3).tr hF4).tr hF5) m1 ?_ (hCo.tr m2) (m3.trans hetb) (by rw [hbl]; omega) (by rw [hbl]; omega) (by rw [hbl]; omega)
    rw [hbl]
    by_cases h2 : (ge_ G b).length ≤ 2
    · rw [if_pos h2, if_pos (show (ge_ G b).length - 1 ≤ 1 by omega)]; omega
    · rw [if_neg h2, if_neg (show ¬ (ge_ G b).length - 1 ≤ 1 by omega)]; omega
end FW
