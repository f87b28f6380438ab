-- PURE: Trees.split, putInLeaf, putBelow
theorem gd_hd {L : List (Nat × Nat)} (h : 1 ≤ L.length) : L.head?.map Prod.fst = some (L.getD 0 (0, 0)).1 := by
  cases L with
  | nil => simp at h
  | cons e L => rfl
section PT
variable {w a n : Nat} {R : Nat → Nat} {G : Sg_} {st : St_}
theorem p_split {b i c : Nat} {post : St_ → Prop} (hw : 5 ≤ w ∧ w ≤ 32) (hR : Rp_ w st G) (hI : In_ w [b, c] (n + 1) R a G) (hb1 : gw_ G b = 1) (hbn : gl_ G b = n + 1) (hi : i < (ge_ G b).length) (hc : ((ge_ G b).getD i (0, 0)).2 = c) (hc1 : gw_ G c = 1) (hcl : (ge_ G c).length = w) (hbl : (ge_ G b).length + 1 ≤ w)
    (k : ∀ st' G', Rp_ w st' G' → Fr_ st st' → In_ w [b] (n + 1) R a G' → Cp_ (n + 1) R G G' b → et_ (ge_ G') (n + 1) b = et_ (ge_ G) (n + 1) b → (ge_ G' b).length = (ge_ G b).length + 1 → post st') : wp_T_split w (nI b) (nI i) st post := by
  unfold wp_T_split
  obtain ⟨b1, b2, b3⟩ := hI.1.1 b (by omega)
  obtain ⟨c1, c2, c3⟩ := hI.1.1 c (by omega)
  have hch := hI.1.child (b := b) (by omega) (by omega) (by omega) (gd_mem hi)
  rw [hc] at hch
  obtain ⟨g1, g2, g3, g4⟩ := hch
  have hcn : gl_ G c = n := by omega
  have hcb : c ≠ b := fun e => by rw [e] at g2; omega
  have hsl := SL_one (l := n + 1) (G := G) (y := c) (by omega) c2 (by omega)
  have hslc : sl_ G c = w - 2 := by simp [sl_, hc1, hcl]
  obtain ⟨f, r, hf⟩ : ∃ f c, gf_ G = f ++ [c] := by
    have hne : gf_ G ≠ [] := fun e => by have := hI.2; rw [e] at this; simp at this; omega
    exact ⟨(gf_ G).dropLast, (gf_ G).getLast hne, (List.dropLast_concat_getLast hne).symm⟩
  obtain ⟨r1, r2, r3, r4, r5⟩ := fr_last hI.1 hf
  have hrb : r ≠ b := fun e => by rw [e] at r3; omega
  have hrc : r ≠ c := fun e => by rw [e] at r3; omega
  refine p_goal hw hR ⟨b1, b2⟩ hi ?_
  rw [hc]
  refine p_level hR ⟨c1, c2⟩ ?_
  rw [hcn]
  refine p_take hR hf ⟨r1, r2⟩ (fun s1 hR1 hF1 => ?_)
  have t1 : ge_ (tk_ G r n f) c = ge_ G c := by simp [ge_, tk_, va_up, Ne.symm hrc]
  have t2 : ge_ (tk_ G r n f) r = [] := by simp [ge_, tk_, va_up]
  have t3 : ge_ (tk_ G r n f) b = ge_ G b := by simp [ge_, tk_, va_up, Ne.symm hrb]
  refine p_moveTail hw hR1 ⟨c1, c2⟩ ⟨r1, r2⟩ (Ne.symm hrc) (by rw [t1]; omega) (by rw [t1, t2, hcl]; simp) (fun s2 hR2 hF2 => ?_)
  rw [t1, t2, List.nil_append] at hR2
  have u1 : ge_ (se_ (se_ (tk_ G r n f) r ((ge_ G c).drop (w / 2))) c ((ge_ G c).take (w / 2))) r = (ge_ G c).drop (w / 2) := by
    rw [se_ne _ _ hrc, se_at]
  have u2 : ge_ (se_ (se_ (tk_ G r n f) r ((ge_ G c).drop (w / 2))) c ((ge_ G c).take (w / 2))) b = ge_ G b := by
    rw [se_ne _ _ (Ne.symm hcb), se_ne _ _ (Ne.symm hrb), t3]
  have hdl : 1 ≤ ((ge_ G c).drop (w / 2)).length := by simp; omega
  have hi0 : 0 < (ge_ (se_ (se_ (tk_ G r n f) r ((ge_ G c).drop (w / 2))) c ((ge_ G c).take (w / 2))) r).length := by rw [u1]; omega
  have hkb := hR2.bd hi0
  rw [u1] at hkb
  refine p_key (i := 0) hw hR2 ⟨r1, r2⟩ hi0 ?_
  rw [u1, nI_1]
  refine p_insert hw hR2 ⟨b1, b2⟩ (by rw [u2]; omega) (by rw [u2]; omega) hkb.1 (by omega) (fun s3 hR3 hF3 => ?_)
  rw [u2] at hR3
  obtain ⟨q1, q2, q3⟩ := split_pure hw.1 hI hb1 hbn hi hc hc1 hcl hf (gd_hd hdl)
  have hR4 : Rp_ w s3 (sp_ w G b c r n f (il_ (ge_ G b) (i + 1) ((((ge_ G c).drop (w / 2)).getD 0 (0, 0)).1, r))) := by
    refine hR3.eq (Sg_ext (fun _ => rfl) (fun _ => rfl) (fun x => ?_) rfl)
    by_cases x1 : x = b
    · subst x1; simp [va_up]
    · by_cases x2 : x = c
      · subst x2; simp [va_up, x1]
      · by_cases x3 : x = r
        · subst x3; simp [va_up, x1, x2]
        · simp [va_up, x1, x2, x3]
  refine k s3 _ hR4 ((hF1.tr hF2).tr hF3) q1 q2 q3 ?_
  · have e : ge_ (sp_ w G b c r n f (il_ (ge_ G b) (i + 1) ((((ge_ G c).drop (w / 2)).getD 0 (0, 0)).1, r))) b = il_ (ge_ G b) (i + 1) ((((ge_ G c).drop (w / 2)).getD 0 (0, 0)).1, r) := by simp [ge_, sp_, va_up]
    rw [e, il_len (by omega)]
theorem iz_all {x s : Nat} {q : List (Nat × Nat)} (h : ∀ e ∈ q, x < e.1) : iz_ x s q = (x, s) :: q := by
  have := iz_right (k := x) (s := s) (l := []) h
  exact this
theorem lf_new {L : List (Nat × Nat)} {x s j : Nat} (hs : so_ L) (hj : fk_ L x j) (h : j = 0 ∨ (L.getD (j - 1) (0, 0)).1 ≠ x) : il_ L j (x, s) = iz_ x s L := by
  have hlow : ∀ q ∈ L.take j, q.1 < x := by
    intro q hq
    have hq2 := List.mem_of_mem_take hq
    obtain ⟨i, hi, he⟩ := mem_ix hq
    have hij : i < j := by simp at hi; omega
    have he2 : L.getD i (0, 0) = q := by
      rw [← he]
      simp only [List.getD_eq_getElem?_getD, List.getElem?_take_of_lt hij]
    have h1 := hj.2.1 i hij
    rw [he2] at h1
    rcases Nat.lt_or_ge q.1 x with h2 | h2
    · exact h2
    · exfalso
      have : (x, q.2) ∈ L := by rw [show x = q.1 by omega]; exact hq2
      exact fk_no hs hj h q.2 this
  have hhi : ∀ q ∈ L.drop j, x < q.1 := by
    intro q hq
    obtain ⟨i, hi, he⟩ := mem_ix hq
    have hil : j + i < L.length := by simp at hi; omega
    have he2 : L.getD (j + i) (0, 0) = q := by
      rw [← he]
      simp only [List.getD_eq_getElem?_getD, List.getElem?_drop]
    have := (fk_lo hs hj hil).2 (by omega)
    rw [he2] at this
    exact this
  conv => rhs; rw [← List.take_append_drop j L]
  rw [iz_left hlow, iz_all hhi]
theorem lf_old {L : List (Nat × Nat)} {x s j : Nat} (hs : so_ L) (hj : fk_ L x j) (h0 : 1 ≤ j) (h : (L.getD (j - 1) (0, 0)).1 = x) : sg_ L (j - 1) s = iz_ x s L := by
  have hji : j - 1 < L.length := by have := hj.1; omega
  show L.set (j - 1) ((L.getD (j - 1) (0, 0)).1, s) = _
  rw [List.set_eq_take_append_cons_drop, if_pos hji, h]
  have hlow : ∀ q ∈ L.take (j - 1), q.1 < x := by
    have h2 := hs
    rw [spl_ hji] at h2
    intro q hq
    have := (so_app.mp h2).2.2 q hq _ List.mem_cons_self
    rw [h] at this
    exact this
  conv => rhs; rw [spl_ hji]
  rw [iz_left hlow]
  simp only [iz_]
  rw [if_neg (by omega), if_pos h.symm]
/-- a leaf gets other entries -/
theorem leaf_In {a' b : Nat} {L : List (Nat × Nat)} (hI : In_ w [b] 0 R a G) (hb1 : gw_ G b = 1) (hb0 : gl_ G b = 0) (hs : so_ L) (ha : a' + (L.length - 2) ≤ a + ((ge_ G b).length - 2)) : In_ w [b] 0 R a' (se_ G b L) ∧ Cp_ 0 R G (se_ G b L) b := by
  obtain ⟨hI, hsl⟩ := hI
  obtain ⟨b1, b2, b3⟩ := hI.1 b (by omega)
  refine ⟨⟨⟨hI.1, hI.2.1, fun y hy => ?_, fun y hy hyl => ?_⟩, ?_⟩, hb1, hb0, fun y y1 y2 y3 => ⟨se_ne _ _ y2, rfl, y1, fun h => ?_⟩, fun _ _ _ _ => rfl, fun y h _ => ⟨h, rfl⟩⟩
  · have h1 := hI.2.2.1 y hy
    have h2 : eg_ (se_ G b L) y = eg_ G y := by
      refine sm_congr (fun p _ => ?_)
      show (if gw_ G p = 0 ∨ gl_ G p = 0 then 0 else cn_ y (ge_ (se_ G b L) p)) = if gw_ G p = 0 ∨ gl_ G p = 0 then 0 else cn_ y (ge_ G p)
      by_cases hp : p = b
      · subst hp; simp [hb0]
      · rw [se_ne _ _ hp]
    rw [h2]; exact h1
  · have hyl' : gl_ G y ≤ 0 := hyl
    have hy' : 1 ≤ gw_ G y := hy
    have h0 : gl_ (se_ G b L) y = 0 := by show gl_ G y = 0; omega
    have hv := hI.2.2.2 y hy' hyl'
    refine ⟨fun h => ?_, ?_, fun h => absurd h0 h⟩
    · rw [se_ne _ _ (by simpa using h)]; exact hv.1 h
    · rw [h0]
      show so_ (ge_ (se_ G b L) y)
      by_cases hyb : y = b
      · subst hyb; rw [se_at]; exact hs
      · rw [se_ne _ _ hyb]
        have := hv.2.1
        rw [show gl_ G y = 0 by omega] at this
        exact this
  · have h2 := sm_up (n := 1201) (k := b) (f := fun y => if gw_ G y = 0 ∨ 0 < gl_ G y then 0 else sl_ G y) (g := fun y => if gw_ (se_ G b L) y = 0 ∨ 0 < gl_ (se_ G b L) y then 0 else sl_ (se_ G b L) y) (by omega) (fun y _ hy => by
      show (if gw_ G y = 0 ∨ 0 < gl_ G y then 0 else sl_ (se_ G b L) y) = if gw_ G y = 0 ∨ 0 < gl_ G y then 0 else sl_ G y
      split
      · rfl
      · next hu =>
        show (gw_ G y - 1) * max ((et_ (ge_ (se_ G b L)) (gl_ G y) y).length - 1) 1 + ((ge_ (se_ G b L) y).length - 2) = (gw_ G y - 1) * max ((et_ (ge_ G) (gl_ G y) y).length - 1) 1 + ((ge_ G y).length - 2)
        rw [show gl_ G y = 0 by omega]
        show (gw_ G y - 1) * max ((ge_ (se_ G b L) y).length - 1) 1 + _ = (gw_ G y - 1) * max ((ge_ G y).length - 1) 1 + _
        rw [se_ne _ _ hy])
    have v1 : (if gw_ G b = 0 ∨ 0 < gl_ G b then 0 else sl_ G b) = (ge_ G b).length - 2 := by
      rw [if_neg (by omega)]; simp [sl_, hb1]
    have v2 : (if gw_ (se_ G b L) b = 0 ∨ 0 < gl_ (se_ G b L) b then 0 else sl_ (se_ G b L) b) = L.length - 2 := by
      show (if gw_ G b = 0 ∨ 0 < gl_ G b then 0 else sl_ (se_ G b L) b) = _
      rw [if_neg (by omega)]
      show (gw_ G b - 1) * _ + ((ge_ (se_ G b L) b).length - 2) = _
      rw [hb1, se_at]; simp
    rw [v1, v2] at h2
    have e1 : SL_ 0 G = sm_ 1201 (fun y => if gw_ G y = 0 ∨ 0 < gl_ G y then 0 else sl_ G y) := rfl
    have e2 : SL_ 0 (se_ G b L) = sm_ 1201 (fun y => if gw_ (se_ G b L) y = 0 ∨ 0 < gl_ (se_ G b L) y then 0 else sl_ (se_ G b L) y) := rfl
    rw [← e1, ← e2] at h2
    show a' + SL_ 0 (se_ G b L) ≤ (gf_ G).length
    omega
  · rw [show gl_ G y = 0 by omega]
    exact se_ne _ _ y2
theorem In_.nob {b : Nat} (hI : In_ w [b] n R a G) (hb : n < gl_ G b) : In_ w [] n R a G := by
  obtain ⟨⟨h1, h2, h3, h4⟩, h5⟩ := hI
  refine ⟨⟨h1, h2, h3, fun y hy hl => ?_⟩, h5⟩
  have hv := h4 y hy hl
  have hyb : y ∉ [b] := by
    intro q
    rw [List.mem_singleton] at q
    rw [q] at hl; omega
  refine ⟨fun _ => hv.1 hyb, hv.2.1, fun h0 e he => ?_⟩
  obtain ⟨q1, q2, q3, q4⟩ := hv.2.2 h0 e he
  refine ⟨q1, q2, fun _ => q3 ?_, q4⟩
  intro q
  rw [List.mem_singleton] at q
  rw [q] at q2; omega
theorem In_.fit {l b c : Nat} (hI : In_ w [b, c] l R a G) (h1 : 1 ≤ (ge_ G c).length) (h2 : (ge_ G c).length + 1 ≤ w) (h3 : w / 2 ≤ (ge_ G c).length) : In_ w [b] l R a G := by
  obtain ⟨⟨g1, g2, g3, g4⟩, g5⟩ := hI
  refine ⟨⟨g1, g2, g3, fun y hy hl => ?_⟩, g5⟩
  have hv := g4 y hy hl
  refine ⟨fun h => ?_, hv.2.1, fun h0 e he => ?_⟩
  · by_cases hyc : y = c
    · subst hyc; exact ⟨h1, h2⟩
    · exact hv.1 (by simp at h ⊢; exact ⟨h, hyc⟩)
  · obtain ⟨q1, q2, q3, q4⟩ := hv.2.2 h0 e he
    refine ⟨q1, q2, fun h => ?_, q4⟩
    by_cases hec : e.2 = c
    · rw [hec]; exact h3
    · exact q3 (by simp at h ⊢; exact ⟨h, hec⟩)
theorem fk_sg {L : List (Nat × Nat)} {x j i c : Nat} (hi : i < L.length) (hj : fk_ L x j) : fk_ (sg_ L i c) x j := by
  have hk : ∀ t, ((sg_ L i c).getD t (0, 0)).1 = (L.getD t (0, 0)).1 := fun t => by
    rw [getD_set hi]
    by_cases e : t = i
    · subst e; simp
    · simp [e]
  obtain ⟨h1, h2, h3⟩ := hj
  refine ⟨by rw [List.length_set]; exact h1, fun t ht => by rw [hk]; exact h2 t ht, fun ht => by rw [hk]; rw [List.length_set] at ht; exact h3 ht⟩
theorem p_putInLeaf {b x s : Nat} {post : St_ → Prop} (hw : 5 ≤ w ∧ w ≤ 32) (hR : Rp_ w st G) (hb : 1 ≤ b ∧ b ≤ 1200) (hx : x < 4096) (hs : s ≤ 1000000000) (hso : so_ (ge_ G b)) (hl : (ge_ G b).length + 1 ≤ w)
    (k : ∀ st', Rp_ w st' (se_ G b (iz_ x s (ge_ G b))) → Fr_ st st' → post st') : wp_T_putInLeaf w (nI b) (nI x) (nI s) st post := by
  unfold wp_T_putInLeaf
  refine p_slotOf hw hR hb hx (fun j hj => ?_)
  have hins : (j = 0 ∨ ((ge_ G b).getD (j - 1) (0, 0)).1 ≠ x) → wp_B_insert w (nI b) (nI j - 1 + 1) (nI x) (nI s) st (fun st105 => post st105) := by
    intro h
    rw [i_sac]
    refine p_insert hw hR hb hj.1 (by omega) hx hs (fun s1 hR1 hF1 => ?_)
    rw [lf_new hso hj h] at hR1
    exact k s1 hR1 hF1
  by_cases hj0 : j = 0
  · subst hj0
    exact p_keyM hb i_m1 (rb_t (fun e => nI_m2 (by omega) e.symm) (hins (Or.inl rfl)))
  · have hf := hins
    rw [nI_p (by omega)] at hf ⊢
    have hji : j - 1 < (ge_ G b).length := by have := hj.1; omega
    have hbd := hR.bd hji
    refine p_key hw hR hb hji ?_
    by_cases he : ((ge_ G b).getD (j - 1) (0, 0)).1 = x
    · refine rb_f (by rw [he]) (p_setGoal hw hR hb hji hs (fun s1 hR1 hF1 => ?_))
      rw [lf_old hso hj (by omega) he] at hR1
      exact k s1 hR1 hF1
    · exact rb_t (fun e => he ((nI_eq (by omega) (by omega)).mp e)) (hf (Or.inr he))
end PT
