-- PURE: what an operation below a block leaves as it was; one level up
/-- from G to G' all that is held from outside level n, but for c, is as it was -/
def Cp_ (n : Nat) (R : Nat → Nat) (G G' : Sg_) (c : Nat) : Prop :=
  gw_ G' c = 1 ∧ gl_ G' c = n ∧
  (∀ y, 1 ≤ gw_ G y → y ≠ c → (n ≤ gl_ G y ∨ 1 ≤ R y) → ge_ G' y = ge_ G y ∧ gl_ G' y = gl_ G y ∧ 1 ≤ gw_ G' y ∧ (gl_ G y ≤ n → et_ (ge_ G') (gl_ G y) y = et_ (ge_ G) (gl_ G y) y)) ∧
  (∀ y, y ≠ c → n ≤ gl_ G y → 1 ≤ gw_ G y → gw_ G' y = gw_ G y) ∧
  (∀ y, 1 ≤ gw_ G' y → n ≤ gl_ G' y → 1 ≤ gw_ G y ∧ gl_ G y = gl_ G' y)
theorem Cp_.rf {n : Nat} {R : Nat → Nat} {G : Sg_} {c : Nat} (h1 : gw_ G c = 1) (h2 : gl_ G c = n) : Cp_ n R G G c :=
  ⟨h1, h2, fun _ h _ _ => ⟨rfl, rfl, h, fun _ => rfl⟩, fun _ _ _ _ => rfl, fun _ h _ => ⟨h, rfl⟩⟩
theorem Cp_.tr {n : Nat} {R : Nat → Nat} {G G1 G2 : Sg_} {c : Nat} (h1 : Cp_ n R G G1 c) (h2 : Cp_ n R G1 G2 c) : Cp_ n R G G2 c := by
  obtain ⟨a1, a2, a3, a4, a5⟩ := h1
  obtain ⟨b1, b2, b3, b4, b5⟩ := h2
  refine ⟨b1, b2, fun y y1 y2 y3 => ?_, fun y y1 y2 y3 => ?_, fun y y1 y2 => ?_⟩
  · obtain ⟨c1, c2, c3, c4⟩ := a3 y y1 y2 y3
    obtain ⟨d1, d2, d3, d4⟩ := b3 y c3 y2 (by rw [c2]; exact y3)
    refine ⟨d1.trans c1, d2.trans c2, d3, fun h => ?_⟩
    have := d4 (by rw [c2]; exact h)
    rw [c2] at this
    exact this.trans (c4 h)
  · obtain ⟨c1, c2, c3, c4⟩ := a3 y y3 y1 (Or.inl y2)
    rw [b4 y y1 (by rw [c2]; exact y2) c3]
    exact a4 y y1 y2 y3
  · obtain ⟨c1, c2⟩ := b5 y y1 y2
    obtain ⟨d1, d2⟩ := a5 y c1 (by rw [c2]; exact y2)
    exact ⟨d1, d2.trans c2⟩
theorem Cp_ow {n i b c : Nat} {R : Nat → Nat} {G G' : Sg_} (hw : gw_ G b = 1) (hn : gl_ G b = n + 1) (h : Ow_ (n + 1) G G' b i c) : Cp_ (n + 1) R G G' b := by
  obtain ⟨o1, o2, o3, o4, o5, o6, o7, o8, o9, o10, o11, o12, o13⟩ := h
  refine ⟨by rw [o6]; exact hw, by rw [o5]; exact hn, fun y y1 y2 y3 => ?_, fun y y1 y2 y3 => o8 y y3 (by omega), fun y y1 y2 => ?_⟩
  · obtain ⟨c1, c2, c3⟩ := o7 y y1 y2
    exact ⟨c1, c2, c3, fun h => o11 y y1 h⟩
  · by_cases hy : y = b
    · subst hy; exact ⟨by omega, o5.symm⟩
    · rcases o10 y y1 with h | h
      · exact ⟨h, (o7 y h hy).2.1.symm⟩
      · subst h; omega
section RS
variable {w l a n : Nat} {X : List Nat} {R : Nat → Nat} {Z : List Nat} {G : Sg_}
/-- a block with one way: it is the one from p -/
theorem uniq_ (hI : Ic_ w X l R Z G) {p c : Nat} (hp : 1 ≤ gw_ G p) (hp0 : gl_ G p ≠ 0) (hc : gw_ G c = 1) (hm : 1 ≤ cn_ c (ge_ G p)) : R c = 0 ∧ cn_ c (ge_ G p) = 1 ∧ ∀ q, 1 ≤ gw_ G q → gl_ G q ≠ 0 → q ≠ p → cn_ c (ge_ G q) = 0 := by
  obtain ⟨c1, c2, c3⟩ := hI.1 c (by omega)
  have h1 := hI.2.2.1 c c1
  obtain ⟨p1, p2, p3⟩ := hI.1 p hp
  have h2 := sm_one (n := 1201) (k := p) (fun p => if gw_ G p = 0 ∨ gl_ G p = 0 then 0 else cn_ c (ge_ G p)) (by omega)
  simp only [show ¬ (gw_ G p = 0 ∨ gl_ G p = 0) by omega, if_false] at h2
  have h3 : eg_ G c = sm_ 1201 (fun p => if gw_ G p = 0 ∨ gl_ G p = 0 then 0 else cn_ c (ge_ G p)) := rfl
  refine ⟨by omega, by omega, fun q q1 q2 q3 => ?_⟩
  obtain ⟨r1, r2, r3⟩ := hI.1 q q1
  have h4 := sm_two (n := 1201) (j := p) (k := q) (fun p => if gw_ G p = 0 ∨ gl_ G p = 0 then 0 else cn_ c (ge_ G p)) (by omega) (by omega) (Ne.symm q3)
  simp only [show ¬ (gw_ G p = 0 ∨ gl_ G p = 0) by omega, show ¬ (gw_ G q = 0 ∨ gl_ G q = 0) by omega, if_false] at h4
  omega
theorem cn_split (c : Nat) {L : List (Nat × Nat)} {i : Nat} (hi : i < L.length) (hc : (L.getD i (0, 0)).2 = c) : cn_ c L = cn_ c (L.take i) + 1 + cn_ c (L.drop (i + 1)) := by
  conv => lhs; rw [spl_ hi]
  rw [cn_app]
  simp only [cn_, hc, if_true]
  omega
def TL_ (m : Nat) (G : Sg_) : Nat := sm_ 1201 (fun y => if gw_ G y = 0 ∨ gl_ G y ≠ m then 0 else sl_ G y)
theorem SL_succ (n : Nat) (G : Sg_) : SL_ (n + 1) G = SL_ n G + TL_ (n + 1) G := by
  simp only [SL_, TL_]
  rw [← sm_add]
  refine sm_congr (fun y _ => ?_)
  by_cases h0 : gw_ G y = 0
  · simp [h0]
  · by_cases h1 : gl_ G y = n + 1
    · simp [h0, h1]
    · by_cases h2 : n < gl_ G y
      · simp only [h0, h1, false_or, show n + 1 < gl_ G y by omega, h2, if_true, ne_eq, not_false_eq_true]
      · simp only [h0, h1, false_or, show ¬ (n + 1 < gl_ G y) by omega, h2, if_false, ne_eq, not_false_eq_true, if_true, Nat.add_zero]
theorem In_.low (hI : In_ w X (n + 1) R a G) : In_ w X n R (a + TL_ (n + 1) G) G := by
  obtain ⟨⟨h1, h2, h3, h4⟩, h5⟩ := hI
  refine ⟨⟨h1, h2, h3, fun b hb hl => h4 b hb (by omega)⟩, ?_⟩
  rw [SL_succ] at h5
  omega
theorem Vn_.mono {X Y : List Nat} (h : ∀ y, y ∈ X → y ∈ Y) {b : Nat} (hv : Vn_ w X G b) : Vn_ w Y G b :=
  ⟨fun hb => hv.1 (fun q => hb (h _ q)), hv.2.1, fun h0 e he => ⟨(hv.2.2 h0 e he).1, (hv.2.2 h0 e he).2.1, fun q => (hv.2.2 h0 e he).2.2.1 (fun z => q (h _ z)), (hv.2.2 h0 e he).2.2.2⟩⟩
theorem In_.mono {X Y : List Nat} (h : ∀ y, y ∈ X → y ∈ Y) (hI : In_ w X l R a G) : In_ w Y l R a G :=
  ⟨⟨hI.1.1, hI.1.2.1, hI.1.2.2.1, fun b hb hl => (hI.1.2.2.2 b hb hl).mono h⟩, hI.2⟩
theorem In_.less {a' : Nat} (h : a' ≤ a) (hI : In_ w X l R a G) : In_ w X l R a' G := ⟨hI.1, by have := hI.2; omega⟩
/-- blocks of level n or less do not see an entry of a block above -/
theorem et_up {m b : Nat} {L : List (Nat × Nat)} (hI : Ic_ w X m R Z G) (hb : m < gl_ G b) {y : Nat} (hy : 1 ≤ gw_ G y) (hl : gl_ G y ≤ m) : et_ (ge_ (se_ G b L)) (gl_ G y) y = et_ (ge_ G) (gl_ G y) y := by
  refine et_same (fun n y => 1 ≤ gw_ G y ∧ gl_ G y = n ∧ n ≤ m) (fun n y h => se_ne _ _ (fun e => by rw [e] at h; omega)) (fun n y h e he => ?_) _ y ⟨hy, rfl, hl⟩
  obtain ⟨g1, g2, -, -⟩ := hI.child h.1 (by omega) (by omega) he
  exact ⟨g1, by omega, by omega⟩
/-- one level up: the child c of b has changed, b's entry gets its key -/
theorem raise_ {G1 G2 : Sg_} {b i c a2 k0 : Nat} (hw : 5 ≤ w) (hI1 : In_ w [b] (n + 1) R a G1) (hb1 : gw_ G1 b = 1) (hbn : gl_ G1 b = n + 1) (hi : i < (ge_ G1 b).length) (hc : ((ge_ G1 b).getD i (0, 0)).2 = c) (hc1 : gw_ G1 c = 1)
    (hC : Cp_ n R G1 G2 c) (hI2 : In_ w [c] n R (a2 + TL_ (n + 1) G1) G2) (hk : (ge_ G2 c).head?.map Prod.fst = some k0)
    (hso : so_ (fm_ (ge_ G1) n ((ge_ G1 b).take i) ++ (et_ (ge_ G2) n c ++ fm_ (ge_ G1) n ((ge_ G1 b).drop (i + 1))))) :
    In_ w [b, c] (n + 1) R a2 (se_ G2 b (sk_ (ge_ G2 b) i k0)) ∧ Cp_ (n + 1) R G1 (se_ G2 b (sk_ (ge_ G2 b) i k0)) b ∧
    et_ (ge_ (se_ G2 b (sk_ (ge_ G2 b) i k0))) (n + 1) b = fm_ (ge_ G1) n ((ge_ G1 b).take i) ++ (et_ (ge_ G2) n c ++ fm_ (ge_ G1) n ((ge_ G1 b).drop (i + 1))) ∧
    ge_ G2 b = ge_ G1 b ∧ c ≠ b ∧ gw_ G2 b = 1 := by
  obtain ⟨cw, cl, F1, F2, F3⟩ := hC
  have hcm : ((ge_ G1 b).getD i (0, 0)) ∈ ge_ G1 b := gd_mem hi
  have hch := hI1.1.child (by omega) (by omega) (by omega) hcm
  rw [hc] at hch
  obtain ⟨g1, g2, g3, g4⟩ := hch
  have hcb : c ≠ b := fun e => by rw [e] at g2; omega
  have hun := uniq_ hI1.1 (p := b) (c := c) (by omega) (by omega) hc1 (cn_mem hcm hc)
  obtain ⟨u1, u2, u3⟩ := hun
  obtain ⟨e1, e2, e3, -⟩ := F1 b (by omega) (Ne.symm hcb) (Or.inl (by omega))
  have hwb : gw_ G2 b = 1 := by rw [F2 b (Ne.symm hcb) (by omega) (by omega)]; exact hb1
  have hlb : gl_ G2 b = n + 1 := by rw [e2]; exact hbn
  -- other entries of level n + 1 lead elsewhere
  have hoth : ∀ y, 1 ≤ gw_ G1 y → gl_ G1 y = n + 1 → y ≠ b → ∀ e ∈ ge_ G1 y, e.2 ≠ c := fun y y1 y2 y3 e he q => by
    have h1 := u3 y y1 (by omega) y3
    have h2 := cn_mem he q
    omega
  have hsp := cn_split c hi hc
  have hA : ∀ e ∈ (ge_ G1 b).take i, e.2 ≠ c := fun e he q => by have := cn_mem he q; omega
  have hB : ∀ e ∈ (ge_ G1 b).drop (i + 1), e.2 ≠ c := fun e he q => by have := cn_mem he q; omega
  -- children other than c are as they were
  have hkid : ∀ y, 1 ≤ gw_ G1 y → gl_ G1 y = n + 1 → ∀ e ∈ ge_ G1 y, e.2 ≠ c → 1 ≤ gw_ G2 e.2 ∧ gl_ G2 e.2 = n ∧ ge_ G2 e.2 = ge_ G1 e.2 ∧ et_ (ge_ G2) n e.2 = et_ (ge_ G1) n e.2 := fun y y1 y2 e he hne => by
    obtain ⟨q1, q2, -, -⟩ := hI1.1.child y1 (by omega) (by omega) he
    obtain ⟨r1, r2, r3, r4⟩ := F1 e.2 q1 hne (Or.inl (by omega))
    have := r4 (by omega)
    rw [show gl_ G1 e.2 = n by omega] at this
    exact ⟨r3, by omega, r1, this⟩
  -- et at level n and below in the new store
  have hetn : ∀ y, 1 ≤ gw_ G2 y → gl_ G2 y ≤ n → et_ (ge_ (se_ G2 b (sk_ (ge_ G2 b) i k0))) (gl_ G2 y) y = et_ (ge_ G2) (gl_ G2 y) y := fun y y1 y2 => et_up hI2.1 (by omega) y1 y2
  have hi2 : i < (ge_ G2 b).length := by rw [e1]; exact hi
  have hset : sk_ (ge_ G2 b) i k0 = (ge_ G1 b).take i ++ (k0, c) :: (ge_ G1 b).drop (i + 1) := by
    rw [e1]
    show (ge_ G1 b).set i (k0, ((ge_ G1 b).getD i (0, 0)).2) = _
    rw [hc, List.set_eq_take_append_cons_drop, if_pos hi]
  have hfm : ∀ L : List (Nat × Nat), (∀ e ∈ L, e ∈ ge_ G1 b ∧ e.2 ≠ c) → fm_ (ge_ (se_ G2 b (sk_ (ge_ G2 b) i k0))) n L = fm_ (ge_ G1) n L := fun L hL => by
    refine fm_congr (fun e he => ?_)
    obtain ⟨q1, q2, q3, q4⟩ := hkid b (by omega) hbn e (hL e he).1 (hL e he).2
    have := hetn e.2 q1 (by omega)
    rw [q2] at this
    rw [this, q4]
  have het : et_ (ge_ (se_ G2 b (sk_ (ge_ G2 b) i k0))) (n + 1) b = fm_ (ge_ G1) n ((ge_ G1 b).take i) ++ (et_ (ge_ G2) n c ++ fm_ (ge_ G1) n ((ge_ G1 b).drop (i + 1))) := by
    have hbb : ge_ (se_ G2 b (sk_ (ge_ G2 b) i k0)) b = (ge_ G1 b).take i ++ (k0, c) :: (ge_ G1 b).drop (i + 1) := (se_at _ _ _).trans hset
    rw [et_succ, hbb, fm_app, fm_cons]
    rw [hfm _ (fun e he => ⟨List.mem_of_mem_take he, hA e he⟩), hfm _ (fun e he => ⟨List.mem_of_mem_drop he, hB e he⟩)]
    have := hetn c (by omega) (by omega)
    rw [cl] at this
    rw [this]
  have hety : ∀ y, 1 ≤ gw_ G1 y → gl_ G1 y = n + 1 → y ≠ b → et_ (ge_ (se_ G2 b (sk_ (ge_ G2 b) i k0))) (n + 1) y = et_ (ge_ G1) (n + 1) y := fun y y1 y2 y3 => by
    obtain ⟨r1, r2, r3, -⟩ := F1 y y1 (fun q => by rw [q] at y2; omega) (Or.inl (by omega))
    rw [et_succ, et_succ, se_ne _ _ y3, r1]
    refine fm_congr (fun e he => ?_)
    obtain ⟨q1, q2, q3, q4⟩ := hkid y y1 y2 e he (hoth y y1 y2 y3 e he)
    have := hetn e.2 q1 (by omega)
    rw [q2] at this
    rw [this, q4]
  have hCp : Cp_ (n + 1) R G1 (se_ G2 b (sk_ (ge_ G2 b) i k0)) b := by
    refine ⟨hwb, hlb, fun y y1 y2 y3 => ?_, fun y y1 y2 y3 => F2 y (fun q => by rw [q] at y2; omega) (by omega) y3, fun y y1 y2 => F3 y y1 (by have : n + 1 ≤ gl_ G2 y := y2; omega)⟩
    have hyc : y ≠ c := fun q => by
      rw [q] at y3
      rcases y3 with h | h <;> omega
    obtain ⟨r1, r2, r3, r4⟩ := F1 y y1 hyc (by omega)
    refine ⟨by rw [se_ne _ _ y2]; exact r1, r2, r3, fun hy => ?_⟩
    by_cases hyn : gl_ G1 y = n + 1
    · rw [hyn]; exact hety y y1 hyn y2
    · have h5 := r4 (by omega)
      have h6 := hetn y r3 (by omega)
      rw [r2] at h6
      rw [h6]; exact h5
  refine ⟨⟨⟨hI2.1.1, hI2.1.2.1, fun y hy => ?_, fun y hy hyl => ?_⟩, ?_⟩, hCp, het, e1, hcb, hwb⟩
  · have h1 := hI2.1.2.2.1 y hy
    have h2 : eg_ (se_ G2 b (sk_ (ge_ G2 b) i k0)) y = eg_ G2 y := by
      refine sm_congr (fun p _ => ?_)
      show (if gw_ G2 p = 0 ∨ gl_ G2 p = 0 then 0 else cn_ y (ge_ (se_ G2 b (sk_ (ge_ G2 b) i k0)) p)) = if gw_ G2 p = 0 ∨ gl_ G2 p = 0 then 0 else cn_ y (ge_ G2 p)
      by_cases hp : p = b
      · subst hp
        rw [se_at]
        have h9 : cn_ y (sk_ (ge_ G2 p) i k0) + (if ((ge_ G2 p).getD i (0, 0)).2 = y then 1 else 0) = cn_ y (ge_ G2 p) + (if ((ge_ G2 p).getD i (0, 0)).2 = y then 1 else 0) := cn_set y (ge_ G2 p) i (k0, ((ge_ G2 p).getD i (0, 0)).2) hi2
        rw [show cn_ y (sk_ (ge_ G2 p) i k0) = cn_ y (ge_ G2 p) by omega]
      · rw [se_ne _ _ hp]
    rw [h2]; exact h1
  · have hyl' : gl_ G2 y ≤ n + 1 := hyl
    have hy' : 1 ≤ gw_ G2 y := hy
    by_cases hyb : y = b
    · subst hyb
      refine ⟨fun h => absurd (by simp) h, ?_, fun _ e he => ?_⟩
      · show so_ (et_ _ (gl_ G2 y) y)
        rw [hlb, het]; exact hso
      · rw [se_at, hset] at he
        have hold : ∀ e ∈ ge_ G1 y, e.2 ≠ c → 1 ≤ gw_ G2 e.2 ∧ gl_ G2 e.2 + 1 = gl_ G2 y ∧ (e.2 ∉ [y, c] → w / 2 ≤ (ge_ (se_ G2 y (sk_ (ge_ G2 y) i k0)) e.2).length) ∧ (ge_ (se_ G2 y (sk_ (ge_ G2 y) i k0)) e.2).head?.map Prod.fst = some e.1 := fun e he hne => by
          obtain ⟨q1, q2, q3, q4⟩ := hkid y (by omega) hbn e he hne
          obtain ⟨s1, s2, s3, s4⟩ := hI1.1.child (by omega) (by omega) (by omega) he
          have hney : e.2 ≠ y := fun q => by rw [q] at s2; omega
          rw [se_ne _ _ hney, q3]
          exact ⟨q1, by omega, fun h => s3 (fun q => h (by simp at q; exact absurd q hney)), s4⟩
        rcases List.mem_append.mp he with h | h
        · exact hold e (List.mem_of_mem_take h) (hA e h)
        · rcases List.mem_cons.mp h with h | h
          · subst h
            refine ⟨by show 1 ≤ gw_ G2 c; omega, by show gl_ G2 c + 1 = gl_ G2 y; omega, fun h => absurd (by simp) h, ?_⟩
            show (ge_ (se_ G2 y (sk_ (ge_ G2 y) i k0)) c).head?.map Prod.fst = some k0
            rw [se_ne _ _ hcb]; exact hk
          · exact hold e (List.mem_of_mem_drop h) (hB e h)
    · by_cases hyn : gl_ G2 y = n + 1
      · have hyc : y ≠ c := fun q => by rw [q] at hyn; omega
        obtain ⟨f1, f2⟩ := F3 y hy' (by omega)
        obtain ⟨r1, r2, r3, -⟩ := F1 y f1 hyc (Or.inl (by omega))
        have hv := hI1.1.2.2.2 y f1 (by omega)
        refine ⟨fun h => ?_, ?_, fun _ e he => ?_⟩
        · rw [se_ne _ _ hyb, r1]
          exact hv.1 (by simpa using hyb)
        · show so_ (et_ _ (gl_ G2 y) y)
          rw [hyn, hety y f1 (by omega) hyb]
          have := hv.2.1
          rw [f2, hyn] at this
          exact this
        · rw [se_ne _ _ hyb, r1] at he
          have hne := hoth y f1 (by omega) hyb e he
          obtain ⟨q1, q2, q3, q4⟩ := hkid y f1 (by omega) e he hne
          obtain ⟨s1, s2, s3, s4⟩ := hI1.1.child f1 (by omega) (by omega) he
          have hneb : e.2 ≠ b := fun q => by rw [q] at s2; omega
          rw [se_ne _ _ hneb, q3]
          exact ⟨q1, by show gl_ G2 e.2 + 1 = gl_ G2 y; omega, fun h => s3 (fun q => h (by simp at q; exact absurd q hneb)), s4⟩
      · have hv := hI2.1.2.2.2 y hy' (by omega)
        refine ⟨fun h => ?_, ?_, fun h0 e he => ?_⟩
        · rw [se_ne _ _ hyb]
          exact hv.1 (fun q => h (by simp at q; simp [q]))
        · show so_ (et_ _ (gl_ G2 y) y)
          rw [hetn y hy' (by omega)]; exact hv.2.1
        · rw [se_ne _ _ hyb] at he
          obtain ⟨s1, s2, s3, s4⟩ := hv.2.2 h0 e he
          have hneb : e.2 ≠ b := fun q => by rw [q, hlb] at s2; have : gl_ G2 y ≤ n + 1 := hyl'; omega
          rw [se_ne _ _ hneb]
          exact ⟨s1, s2, fun h => s3 (fun q => h (by simp at q; simp [q])), s4⟩
  · have h1 := hI2.2
    rw [SL_succ]
    have h2 : SL_ n (se_ G2 b (sk_ (ge_ G2 b) i k0)) = SL_ n G2 := by
      refine sm_congr (fun y _ => ?_)
      show (if gw_ G2 y = 0 ∨ n < gl_ G2 y then 0 else sl_ (se_ G2 b (sk_ (ge_ G2 b) i k0)) y) = if gw_ G2 y = 0 ∨ n < gl_ G2 y then 0 else sl_ G2 y
      split
      · rfl
      · next hu =>
        have hyb : y ≠ b := fun q => by rw [q] at hu; omega
        show (gw_ G2 y - 1) * max ((et_ (ge_ (se_ G2 b (sk_ (ge_ G2 b) i k0))) (gl_ G2 y) y).length - 1) 1 + ((ge_ (se_ G2 b (sk_ (ge_ G2 b) i k0)) y).length - 2) = (gw_ G2 y - 1) * max ((et_ (ge_ G2) (gl_ G2 y) y).length - 1) 1 + ((ge_ G2 y).length - 2)
        rw [hetn y (by omega) (by omega), se_ne _ _ hyb]
    have h3 : TL_ (n + 1) (se_ G2 b (sk_ (ge_ G2 b) i k0)) = TL_ (n + 1) G1 := by
      refine sm_congr (fun y _ => ?_)
      show (if gw_ G2 y = 0 ∨ gl_ G2 y ≠ n + 1 then 0 else sl_ (se_ G2 b (sk_ (ge_ G2 b) i k0)) y) = if gw_ G1 y = 0 ∨ gl_ G1 y ≠ n + 1 then 0 else sl_ G1 y
      by_cases hu : gw_ G1 y = 0 ∨ gl_ G1 y ≠ n + 1
      · have hu2 : gw_ G2 y = 0 ∨ gl_ G2 y ≠ n + 1 := by
          rcases Nat.eq_zero_or_pos (gw_ G2 y) with h | h
          · exact Or.inl h
          · refine Or.inr (fun q => ?_)
            obtain ⟨f1, f2⟩ := F3 y h (by omega)
            omega
        simp only [hu, hu2, if_true]
      · have hyu : 1 ≤ gw_ G1 y := by omega
        have hyn : gl_ G1 y = n + 1 := by omega
        have hyc : y ≠ c := fun q => by rw [q] at hyn; omega
        obtain ⟨r1, r2, r3, -⟩ := F1 y hyu hyc (Or.inl (by omega))
        have hw2 := F2 y hyc (by omega) hyu
        have hu2 : ¬ (gw_ G2 y = 0 ∨ gl_ G2 y ≠ n + 1) := by omega
        simp only [hu, hu2, if_false]
        show (gw_ G2 y - 1) * max ((et_ (ge_ (se_ G2 b (sk_ (ge_ G2 b) i k0))) (gl_ G2 y) y).length - 1) 1 + ((ge_ (se_ G2 b (sk_ (ge_ G2 b) i k0)) y).length - 2) = (gw_ G1 y - 1) * max ((et_ (ge_ G1) (gl_ G1 y) y).length - 1) 1 + ((ge_ G1 y).length - 2)
        by_cases hyb : y = b
        · subst hyb
          rw [hw2, hb1, se_at, List.length_set, e1]
          simp
        · rw [hw2, se_ne _ _ hyb, r1, r2, hyn, hety y hyu hyn hyb]
    show a2 + (SL_ n (se_ G2 b (sk_ (ge_ G2 b) i k0)) + TL_ (n + 1) (se_ G2 b (sk_ (ge_ G2 b) i k0))) ≤ (gf_ G2).length
    rw [h2, h3]
    omega
end RS
