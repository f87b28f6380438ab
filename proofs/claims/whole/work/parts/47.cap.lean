-- PURE: there are blocks enough; what holds up to a level holds above it, too
theorem sm_pos {n : Nat} {f : Nat → Nat} (h : 1 ≤ sm_ n f) : ∃ i, i < n ∧ 1 ≤ f i := by
  induction n with
  | zero => simp [sm_] at h
  | succ n ih =>
    have h' : 1 ≤ sm_ n f + f n := h
    by_cases h1 : 1 ≤ f n
    · exact ⟨n, by omega, h1⟩
    · obtain ⟨i, h2, h3⟩ := ih (by omega)
      exact ⟨i, by omega, h3⟩
theorem sm_shift (n : Nat) (f : Nat → Nat) : sm_ (n + 1) f = f 0 + sm_ n (fun i => f (i + 1)) := by
  induction n with
  | zero => simp [sm_]
  | succ n ih =>
    show sm_ (n + 1) f + f (n + 1) = f 0 + (sm_ n (fun i => f (i + 1)) + f (n + 1))
    rw [ih]; omega
section CP
variable {w : Nat} {R : Nat → Nat} {G : Sg_}
theorem eg_kid (hI : Ic_ w [] 16 R [] G) {y : Nat} (h : 1 ≤ eg_ G y) : 1 ≤ gw_ G y ∧ w / 2 ≤ (ge_ G y).length := by
  obtain ⟨p, -, hp⟩ := sm_pos h
  by_cases hu : gw_ G p = 0 ∨ gl_ G p = 0
  · simp [hu] at hp
  · simp only [hu, if_false] at hp
    obtain ⟨e, he, hy⟩ := cn_pos hp
    obtain ⟨g1, g2, g3, g4⟩ := hI.child (b := p) (by omega) ((hI.1 p (by omega)).2.2) (by omega) he
    rw [hy] at g1 g3
    exact ⟨g1, g3 (by simp)⟩
theorem fr_cnt (hI : Ic_ w [] 16 R [] G) : (gf_ G).length + sm_ 1201 (fun y => if gw_ G y = 0 then 0 else 1) = 1200 := by
  have h1 := nd_len (fun y => gw_ G y = 0) 1200 (gf_ G) hI.2.1.1 (fun y => ⟨fun h => hI.2.1.2.1 y h, fun h => by
    rcases hI.2.1.2.2 y h.1 h.2.1 h.2.2 with q | q
    · exact q
    · simp at q⟩)
  have h0 : gw_ G 0 = 0 := by
    rcases Nat.eq_zero_or_pos (gw_ G 0) with h | h
    · exact h
    · have := (hI.1 0 h).1; omega
  rw [sm_shift 1200 (fun y => if gw_ G y = 0 then 0 else 1), h1]
  simp only [h0, if_true]
  have h2 : sm_ 1200 (fun i => (if gw_ G (i + 1) = 0 then 1 else 0) + (if gw_ G (i + 1) = 0 then 0 else 1)) = 1200 := (sm_congr (g := fun _ => 1) (fun i _ => by split <;> rfl)).trans (sm_c1 1200)
  rw [sm_add] at h2
  omega
theorem cap_sum (hw : 5 ≤ w) (hI : Ic_ w [] 16 R [] G) (hrt : ∀ b, 1 ≤ b → 1 ≤ R b → gl_ G b = 0 ∨ 2 ≤ (ge_ G b).length) :
    sm_ 1201 (fun y => if gw_ G y = 0 then 0 else 1) + SL_ 16 G + sm_ 1201 (fun y => if y = 0 ∨ (ge_ G y).length < 2 then 0 else R y) ≤ sm_ 1201 (fun y => if y = 0 then 0 else R y * kp_ G y) := by
  have hsw : sm_ 1201 (fun y => eg_ G y * (kp_ G y - 1)) = sm_ 1201 (fun p => if gw_ G p = 0 ∨ gl_ G p = 0 then 0 else su_ (fun y => kp_ G y - 1) (ge_ G p)) := by
    have h1 : sm_ 1201 (fun y => eg_ G y * (kp_ G y - 1)) = sm_ 1201 (fun y => sm_ 1201 (fun p => (if gw_ G p = 0 ∨ gl_ G p = 0 then 0 else cn_ y (ge_ G p)) * (kp_ G y - 1))) := sm_congr (fun y _ => (sm_mul 1201 (kp_ G y - 1) _).symm)
    rw [h1, sm_swap]
    refine sm_congr (fun p _ => ?_)
    by_cases hu : gw_ G p = 0 ∨ gl_ G p = 0
    · simp only [hu, if_true]
      exact sm_0 (fun _ _ => by simp)
    · simp only [hu, if_false]
      refine sm_cn (fun y => kp_ G y - 1) (fun e he => ?_)
      have := hI.child (b := p) (by omega) ((hI.1 p (by omega)).2.2) (by omega) he
      have := (hI.1 e.2 this.1).2.1
      omega
  have hle : sm_ 1201 (fun y => ((((if gw_ G y = 0 then 0 else 1) + (if gw_ G y = 0 ∨ 16 < gl_ G y then 0 else sl_ G y)) + (if y = 0 ∨ (ge_ G y).length < 2 then 0 else R y)) + (if gw_ G y = 0 ∨ gl_ G y = 0 then 0 else su_ (fun y => kp_ G y - 1) (ge_ G y)))) ≤ sm_ 1201 (fun y => (if y = 0 then 0 else R y * kp_ G y) + eg_ G y * (kp_ G y - 1)) := by
    refine sm_le (fun y _ => ?_)
    by_cases hy0 : y = 0
    · subst hy0
      have h0 : gw_ G 0 = 0 := by
        rcases Nat.eq_zero_or_pos (gw_ G 0) with h | h
        · exact h
        · have := (hI.1 0 h).1; omega
      simp [h0]
    · have hc := hI.2.2.1 y (by omega)
      by_cases hu : gw_ G y = 0
      · have : R y = 0 := by omega
        simp [hu, this]
      · have hyu := hI.1 y (by omega)
        have hv := hI.2.2.2 y (by omega) hyu.2.2
        have hl1 := (hv.1 (by simp)).1
        have hkl := kp_len hw hI (gl_ G y) y (by omega) rfl hyu.2.2
        have hkl' : (ge_ G y).length ≤ kp_ G y := hkl
        simp only [hu, hy0, false_or, if_false, show ¬ 16 < gl_ G y by omega]
        have hexp : R y * kp_ G y + eg_ G y * (kp_ G y - 1) = gw_ G y * (kp_ G y - 1) + R y := by
          obtain ⟨v, hv2⟩ : ∃ v, kp_ G y = v + 1 := ⟨kp_ G y - 1, by omega⟩
          rw [hv2, hc, Nat.add_sub_cancel, Nat.add_mul, Nat.mul_add]
          omega
        have hw1 : gw_ G y * (kp_ G y - 1) = (gw_ G y - 1) * (kp_ G y - 1) + (kp_ G y - 1) := by
          obtain ⟨v, hv2⟩ : ∃ v, gw_ G y = v + 1 := ⟨gw_ G y - 1, by omega⟩
          rw [hv2, Nat.add_mul]; simp
        by_cases hlt : (ge_ G y).length < 2
        · have heg : eg_ G y = 0 := by
            rcases Nat.eq_zero_or_pos (eg_ G y) with h | h
            · exact h
            · have := (eg_kid hI h).2; omega
          have hgl : gl_ G y = 0 := by
            rcases hrt y (by omega) (by omega) with h | h
            · exact h
            · omega
          have hk1 : kp_ G y = 1 := by
            show (et_ (ge_ G) (gl_ G y) y).length = 1
            rw [hgl]
            show (ge_ G y).length = 1
            omega
          have hsl : sl_ G y = gw_ G y - 1 := by
            show (gw_ G y - 1) * max (kp_ G y - 1) 1 + ((ge_ G y).length - 2) = _
            rw [hk1, show (ge_ G y).length - 2 = 0 by omega]; simp
          rw [hsl, hk1, heg, hgl]
          simp only [hlt, if_true]
          simp
          omega
        · simp only [hlt, if_false]
          have hsl : sl_ G y = (gw_ G y - 1) * (kp_ G y - 1) + ((ge_ G y).length - 2) := by
            show (gw_ G y - 1) * max (kp_ G y - 1) 1 + ((ge_ G y).length - 2) = _
            rw [show max (kp_ G y - 1) 1 = kp_ G y - 1 by omega]
          rw [hexp, hw1, hsl]
          by_cases hgl : gl_ G y = 0
          · have hk1 : kp_ G y = (ge_ G y).length := by
              show (et_ (ge_ G) (gl_ G y) y).length = _
              rw [hgl]; rfl
            simp only [hgl, if_true]
            omega
          · simp only [hgl, if_false]
            obtain ⟨n, hn⟩ : ∃ n, gl_ G y = n + 1 := ⟨gl_ G y - 1, by omega⟩
            have h3 : su_ (fun y => kp_ G y - 1) (ge_ G y) + (ge_ G y).length = kp_ G y := by
              show _ = (et_ (ge_ G) (gl_ G y) y).length
              rw [hn, et_succ, fm_su, ← su_1, ← su_add]
              refine su_congr (fun e he => ?_)
              obtain ⟨g1, g2, -, -⟩ := hI.child (by omega) hyu.2.2 hgl he
              have h5 := kp_one hw hI (by omega) hyu.2.2 hn he
              show (et_ (ge_ G) (gl_ G e.2) e.2).length - 1 + 1 = _
              rw [show gl_ G e.2 = n by omega]
              omega
            omega
  rw [sm_add, sm_add, sm_add, sm_add, hsw] at hle
  have e1 : SL_ 16 G = sm_ 1201 (fun y => if gw_ G y = 0 ∨ 16 < gl_ G y then 0 else sl_ G y) := rfl
  rw [← e1] at hle
  omega
theorem cap_ {T a : Nat} (hw : 5 ≤ w) (hI : Ic_ w [] 16 R [] G) (hrt : ∀ b, 1 ≤ b → 1 ≤ R b → gl_ G b = 0 ∨ 2 ≤ (ge_ G b).length) (hT : sm_ 1201 (fun y => if y = 0 then 0 else R y * kp_ G y) ≤ T) (ha : a + T ≤ 1200) : In_ w [] 16 R a G := by
  refine ⟨hI, ?_⟩
  have h1 := cap_sum hw hI hrt
  have h2 := fr_cnt hI
  omega
theorem cap_1 {T a r : Nat} (hw : 5 ≤ w) (hI : Ic_ w [] 16 R [] G) (hrt : ∀ b, 1 ≤ b → 1 ≤ R b → gl_ G b = 0 ∨ 2 ≤ (ge_ G b).length) (hT : sm_ 1201 (fun y => if y = 0 then 0 else R y * kp_ G y) ≤ T) (ha : a + T ≤ 1200) (hr : 1 ≤ R r) (hr1 : 1 ≤ r) (hr2 : 2 ≤ (ge_ G r).length) : In_ w [] 16 R (a + 1) G := by
  refine ⟨hI, ?_⟩
  have h1 := cap_sum hw hI hrt
  have h2 := fr_cnt hI
  have hc := hI.2.2.1 r hr1
  have hru := hI.1 r (by omega)
  have h3 := sm_one (n := 1201) (k := r) (fun y => if y = 0 ∨ (ge_ G y).length < 2 then 0 else R y) (by omega)
  simp only [show ¬ (r = 0 ∨ (ge_ G r).length < 2) by omega, if_false] at h3
  omega
end CP
def TH_ (n : Nat) (G : Sg_) : Nat := sm_ 1201 (fun y => if gw_ G y = 0 ∨ gl_ G y ≤ n then 0 else sl_ G y)
section UP
variable {w n a : Nat} {R : Nat → Nat}
theorem SL_TH {X : List Nat} {l : Nat} {Z : List Nat} {G : Sg_} (hI : Ic_ w X l R Z G) (hn : n ≤ 16) : SL_ 16 G = SL_ n G + TH_ n G := by
  simp only [SL_, TH_]
  rw [← sm_add]
  refine sm_congr (fun y _ => ?_)
  by_cases h0 : gw_ G y = 0
  · simp [h0]
  · have := (hI.1 y (by omega)).2.2
    by_cases h1 : gl_ G y ≤ n
    · simp only [h0, h1, false_or, show ¬ 16 < gl_ G y by omega, show ¬ n < gl_ G y by omega, if_false, if_true, Nat.add_zero]
    · simp only [h0, h1, false_or, show ¬ 16 < gl_ G y by omega, show n < gl_ G y by omega, if_false, if_true, Nat.zero_add]
theorem In_.down {X : List Nat} {G : Sg_} (hn : n ≤ 16) (hI : In_ w X 16 R a G) : In_ w X n R (a + TH_ n G) G := by
  obtain ⟨⟨h1, h2, h3, h4⟩, h5⟩ := hI
  have h6 := SL_TH (n := n) ⟨h1, h2, h3, h4⟩ hn
  exact ⟨⟨h1, h2, h3, fun b hb hl => h4 b hb (by omega)⟩, by omega⟩
theorem up_et {G1 G2 : Sg_} {t : Nat} {X : List Nat} (h1 : Ic_ w X 16 R [] G1) (ht : gw_ G1 t = 1) (hRt : R t = 1) (hC : Cp_ n R G1 G2 t) : ∀ (m y : Nat), 1 ≤ gw_ G1 y → y ≠ t → gl_ G1 y = m → (n ≤ m ∨ 1 ≤ R y) → et_ (ge_ G2) m y = et_ (ge_ G1) m y := by
  obtain ⟨cw, cl, F1, F2, F3⟩ := hC
  have ht1 := h1.1 t (by omega)
  have hc := h1.2.2.1 t ht1.1
  have hno : ∀ y, 1 ≤ gw_ G1 y → gl_ G1 y ≠ 0 → ∀ e ∈ ge_ G1 y, e.2 ≠ t := fun y y1 y2 e he q => by
    have h2 := cn_mem he q
    have h3 := sm_one (n := 1201) (k := y) (fun p => if gw_ G1 p = 0 ∨ gl_ G1 p = 0 then 0 else cn_ t (ge_ G1 p)) (by have := (h1.1 y y1).2.1; omega)
    simp only [show ¬ (gw_ G1 y = 0 ∨ gl_ G1 y = 0) by omega, if_false] at h3
    have h4 : eg_ G1 t = sm_ 1201 (fun p => if gw_ G1 p = 0 ∨ gl_ G1 p = 0 then 0 else cn_ t (ge_ G1 p)) := rfl
    omega
  intro m
  induction m with
  | zero =>
    intro y y1 y2 y3 y4
    exact (F1 y y1 y2 (by omega)).1
  | succ m ih =>
    intro y y1 y2 y3 y4
    obtain ⟨r1, r2, r3, r4⟩ := F1 y y1 y2 (by omega)
    by_cases hm : m + 1 ≤ n
    · have := r4 (by omega)
      rw [y3] at this
      exact this
    · rw [et_succ, et_succ, r1]
      refine fm_congr (fun e he => ?_)
      obtain ⟨g1, g2, -, -⟩ := h1.child y1 ((h1.1 y y1).2.2) (by omega) he
      exact ih e.2 g1 (hno y y1 (by omega) e he) (by omega) (Or.inl (by omega))
theorem up_Ic {G1 G2 : Sg_} {t : Nat} {X : List Nat} (hX : ∀ z ∈ X, z = t ∨ gl_ G1 z < n) (h1 : Ic_ w X 16 R [] G1) (ht : gw_ G1 t = 1) (hRt : R t = 1) (hC : Cp_ n R G1 G2 t) (h2 : Ic_ w [t] n R [] G2) : Ic_ w [t] 16 R [] G2 := by
  have het := up_et h1 ht hRt hC
  obtain ⟨cw, cl, F1, F2, F3⟩ := hC
  have ht1 := h1.1 t (by omega)
  have hc := h1.2.2.1 t ht1.1
  have hno : ∀ y, 1 ≤ gw_ G1 y → gl_ G1 y ≠ 0 → ∀ e ∈ ge_ G1 y, e.2 ≠ t := fun y y1 y2 e he q => by
    have h2 := cn_mem he q
    have h3 := sm_one (n := 1201) (k := y) (fun p => if gw_ G1 p = 0 ∨ gl_ G1 p = 0 then 0 else cn_ t (ge_ G1 p)) (by have := (h1.1 y y1).2.1; omega)
    simp only [show ¬ (gw_ G1 y = 0 ∨ gl_ G1 y = 0) by omega, if_false] at h3
    have h4 : eg_ G1 t = sm_ 1201 (fun p => if gw_ G1 p = 0 ∨ gl_ G1 p = 0 then 0 else cn_ t (ge_ G1 p)) := rfl
    omega
  refine ⟨h2.1, h2.2.1, h2.2.2.1, fun y hy _ => ?_⟩
  by_cases hyn : gl_ G2 y ≤ n
  · exact h2.2.2.2 y hy hyn
  · obtain ⟨f1, f2⟩ := F3 y hy (by omega)
    have hyt : y ≠ t := fun q => by rw [q] at hyn; omega
    obtain ⟨r1, r2, r3, -⟩ := F1 y f1 hyt (Or.inl (by omega))
    have hv := h1.2.2.2 y f1 ((h1.1 y f1).2.2)
    refine ⟨fun hx => by
      rw [r1]
      refine hv.1 (fun q => ?_)
      rcases hX y q with h | h
      · exact hyt h
      · omega, ?_, fun h0 e he => ?_⟩
    · rw [r2, het _ y f1 hyt rfl (Or.inl (by omega))]; exact hv.2.1
    · rw [r1] at he
      obtain ⟨s1, s2, s3, s4⟩ := hv.2.2 (by omega) e he
      have hne := hno y f1 (by omega) e he
      obtain ⟨q1, q2, q3, -⟩ := F1 e.2 s1 hne (Or.inl (by omega))
      rw [q1, q2, r2]
      refine ⟨q3, s2, fun _ => s3 (fun q => ?_), s4⟩
      rcases hX e.2 q with h | h
      · exact hne h
      · omega
theorem up_In {G1 G2 : Sg_} {t : Nat} {X : List Nat} (hX : ∀ z ∈ X, z = t ∨ gl_ G1 z < n) (hn : n ≤ 16) (h1 : Ic_ w X 16 R [] G1) (ht : gw_ G1 t = 1) (hRt : R t = 1) (htn : gl_ G1 t = n) (hC : Cp_ n R G1 G2 t) (h2 : In_ w [t] n R (a + TH_ n G1) G2) : In_ w [t] 16 R a G2 := by
  have hI := up_Ic hX h1 ht hRt hC h2.1
  refine ⟨hI, ?_⟩
  have h3 := SL_TH (n := n) hI hn
  have het := up_et h1 ht hRt hC
  obtain ⟨cw, cl, F1, F2, F3⟩ := hC
  have h4 : TH_ n G2 = TH_ n G1 := by
    refine sm_congr (fun y _ => ?_)
    by_cases hu : gw_ G1 y = 0 ∨ gl_ G1 y ≤ n
    · have hu2 : gw_ G2 y = 0 ∨ gl_ G2 y ≤ n := by
        by_cases h : gw_ G2 y = 0
        · exact Or.inl h
        · refine Or.inr ?_
          rcases Nat.lt_or_ge n (gl_ G2 y) with q | q
          · obtain ⟨f1, f2⟩ := F3 y (by omega) (by omega)
            omega
          · exact q
      simp only [hu, hu2, if_true]
    · have hyt : y ≠ t := fun q => by rw [q] at hu; omega
      obtain ⟨r1, r2, r3, -⟩ := F1 y (by omega) hyt (Or.inl (by omega))
      have hw2 := F2 y hyt (by omega) (by omega)
      have hu2 : ¬ (gw_ G2 y = 0 ∨ gl_ G2 y ≤ n) := by omega
      simp only [hu, hu2, if_false]
      show (gw_ G2 y - 1) * max ((et_ (ge_ G2) (gl_ G2 y) y).length - 1) 1 + ((ge_ G2 y).length - 2) = (gw_ G1 y - 1) * max ((et_ (ge_ G1) (gl_ G1 y) y).length - 1) 1 + ((ge_ G1 y).length - 2)
      rw [hw2, r1, r2, het _ y (by omega) hyt rfl (Or.inl (by omega))]
  have h5 := h2.2
  omega
end UP
