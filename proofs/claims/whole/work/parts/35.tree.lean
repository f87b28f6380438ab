-- PURE: trees in the store
/-- what a block holds, level l: its pairs of a key and a stamp, in order -/
def et_ (E : Nat → List (Nat × Nat)) : Nat → Nat → List (Nat × Nat)
  | 0, b => E b
  | l + 1, b => (E b).flatMap (fun e => et_ E l e.2)
abbrev fm_ (E : Nat → List (Nat × Nat)) (l : Nat) (L : List (Nat × Nat)) : List (Nat × Nat) := L.flatMap (fun e => et_ E l e.2)
theorem fm_congr {E E' : Nat → List (Nat × Nat)} {l : Nat} {L : List (Nat × Nat)} (h : ∀ e ∈ L, et_ E' l e.2 = et_ E l e.2) : fm_ E' l L = fm_ E l L := by
  induction L with
  | nil => rfl
  | cons e L ih =>
    simp only [fm_, List.flatMap_cons]
    rw [h e List.mem_cons_self]
    have := ih (fun d hd => h d (List.mem_cons_of_mem _ hd))
    simp only [fm_] at this
    rw [this]
theorem et_same {E E' : Nat → List (Nat × Nat)} (P : Nat → Nat → Prop) (h : ∀ l y, P l y → E' y = E y) (hc : ∀ l y, P (l + 1) y → ∀ e ∈ E y, P l e.2) : ∀ l y, P l y → et_ E' l y = et_ E l y := by
  intro l
  induction l with
  | zero => intro y hy; exact h 0 y hy
  | succ l ih =>
    intro y hy
    show (E' y).flatMap _ = (E y).flatMap _
    rw [h _ y hy]
    exact fm_congr (fun e he => ih e.2 (hc l y hy e he))
theorem et_succ (E : Nat → List (Nat × Nat)) (l b : Nat) : et_ E (l + 1) b = fm_ E l (E b) := rfl
theorem fm_app (E : Nat → List (Nat × Nat)) (l : Nat) (A B : List (Nat × Nat)) : fm_ E l (A ++ B) = fm_ E l A ++ fm_ E l B := by simp [fm_]
theorem fm_cons (E : Nat → List (Nat × Nat)) (l : Nat) (e : Nat × Nat) (B : List (Nat × Nat)) : fm_ E l (e :: B) = et_ E l e.2 ++ fm_ E l B := by simp [fm_]
theorem fm_nil (E : Nat → List (Nat × Nat)) (l : Nat) : fm_ E l [] = [] := rfl
theorem fm_su (E : Nat → List (Nat × Nat)) (l : Nat) (L : List (Nat × Nat)) : (fm_ E l L).length = su_ (fun y => (et_ E l y).length) L := by
  induction L with
  | nil => rfl
  | cons e L ih => rw [fm_cons, List.length_append, ih]; rfl
/-- the number of ways to x from nodes -/
def eg_ (G : Sg_) (x : Nat) : Nat := sm_ 1201 (fun p => if gw_ G p = 0 ∨ gl_ G p = 0 then 0 else cn_ x (ge_ G p))
/-- a block is as it should be; X: blocks that may have too many or too few entries -/
def Vn_ (w : Nat) (X : List Nat) (G : Sg_) (b : Nat) : Prop :=
  (b ∉ X → 1 ≤ (ge_ G b).length ∧ (ge_ G b).length + 1 ≤ w) ∧ so_ (et_ (ge_ G) (gl_ G b) b) ∧
  (gl_ G b ≠ 0 → ∀ e ∈ ge_ G b, 1 ≤ gw_ G e.2 ∧ gl_ G e.2 + 1 = gl_ G b ∧ (e.2 ∉ X → w / 2 ≤ (ge_ G e.2).length) ∧ (ge_ G e.2).head?.map Prod.fst = some e.1)
/-- ways are counted, the free are listed, blocks up to level l are as they should be; R: the ways from outside; Z: blocks that are being freed -/
def Ic_ (w : Nat) (X : List Nat) (l : Nat) (R : Nat → Nat) (Z : List Nat) (G : Sg_) : Prop :=
  (∀ b, 1 ≤ gw_ G b → 1 ≤ b ∧ b ≤ 1200 ∧ gl_ G b ≤ 16) ∧
  ((gf_ G).Nodup ∧ (∀ b ∈ gf_ G, 1 ≤ b ∧ b ≤ 1200 ∧ gw_ G b = 0) ∧ ∀ b, 1 ≤ b → b ≤ 1200 → gw_ G b = 0 → b ∈ gf_ G ∨ b ∈ Z) ∧
  (∀ b, 1 ≤ b → gw_ G b = R b + eg_ G b) ∧
  (∀ b, 1 ≤ gw_ G b → gl_ G b ≤ l → Vn_ w X G b)
abbrev kp_ (G : Sg_) (y : Nat) : Nat := (et_ (ge_ G) (gl_ G y) y).length
section TR
variable {w l : Nat} {X : List Nat} {R : Nat → Nat} {Z : List Nat} {G : Sg_}
theorem Ic_.child (hI : Ic_ w X l R Z G) {b : Nat} (hb : 1 ≤ gw_ G b) (hl : gl_ G b ≤ l) (h0 : gl_ G b ≠ 0) {e : Nat × Nat} (he : e ∈ ge_ G b) :
    1 ≤ gw_ G e.2 ∧ gl_ G e.2 + 1 = gl_ G b ∧ (e.2 ∉ X → w / 2 ≤ (ge_ G e.2).length) ∧ (ge_ G e.2).head?.map Prod.fst = some e.1 := (hI.2.2.2 b hb hl).2.2 h0 e he
theorem hd_len {L : List (Nat × Nat)} {h : Nat} (hh : L.head?.map Prod.fst = some h) : 1 ≤ L.length := by
  cases L with
  | nil => simp at hh
  | cons e L => simp
theorem fm_len {E : Nat → List (Nat × Nat)} {l : Nat} {L : List (Nat × Nat)} (h : ∀ e ∈ L, 1 ≤ (et_ E l e.2).length) : L.length ≤ (fm_ E l L).length := by
  induction L with
  | nil => exact Nat.le_refl _
  | cons e L ih =>
    rw [fm_cons, List.length_append, List.length_cons]
    have h1 := h e List.mem_cons_self
    have h2 := ih (fun d hd => h d (List.mem_cons_of_mem _ hd))
    omega
theorem kp_len (hw : 5 ≤ w) (hI : Ic_ w X l R Z G) : ∀ (n y : Nat), 1 ≤ gw_ G y → gl_ G y = n → n ≤ l → (ge_ G y).length ≤ (et_ (ge_ G) n y).length := by
  intro n
  induction n with
  | zero => intro y _ _ _; exact Nat.le_refl _
  | succ n ih =>
    intro y h1 h2 h3
    refine fm_len (fun e he => ?_)
    obtain ⟨g1, g2, g3, g4⟩ := hI.child h1 (by omega) (by omega) he
    have := ih e.2 g1 (by omega) (by omega)
    have := hd_len g4
    omega
theorem kp_one (hw : 5 ≤ w) (hI : Ic_ w X l R Z G) {b n : Nat} (hb : 1 ≤ gw_ G b) (hl : gl_ G b ≤ l) (hn : gl_ G b = n + 1) {e : Nat × Nat} (he : e ∈ ge_ G b) : 1 ≤ (et_ (ge_ G) n e.2).length := by
  obtain ⟨g1, g2, g3, g4⟩ := hI.child hb hl (by omega) he
  have := kp_len hw hI n e.2 g1 (by omega) (by omega)
  have := hd_len g4
  omega
theorem kp_kid (hw : 5 ≤ w) (hI : Ic_ w X l R Z G) {b n : Nat} (hb : 1 ≤ gw_ G b) (hl : gl_ G b ≤ l) (hn : gl_ G b = n + 1) {e : Nat × Nat} (he : e ∈ ge_ G b) (heX : e.2 ∉ X) : 2 ≤ (et_ (ge_ G) n e.2).length := by
  obtain ⟨g1, g2, g3, g4⟩ := hI.child hb hl (by omega) he
  have := kp_len hw hI n e.2 g1 (by omega) (by omega)
  have := g3 heX
  omega
theorem et_hd (hw : 5 ≤ w) (hI : Ic_ w X l R Z G) : ∀ (n y : Nat), 1 ≤ gw_ G y → gl_ G y = n → n ≤ l → (et_ (ge_ G) n y).head?.map Prod.fst = (ge_ G y).head?.map Prod.fst := by
  intro n
  induction n with
  | zero => intro y _ _ _; rfl
  | succ n ih =>
    intro y h1 h2 h3
    rw [et_succ]
    cases hy : ge_ G y with
    | nil => rfl
    | cons e L =>
      have he : e ∈ ge_ G y := by rw [hy]; exact List.mem_cons_self
      obtain ⟨g1, g2, g3, g4⟩ := hI.child h1 (by omega) (by omega) he
      have h4 := ih e.2 g1 (by omega) (by omega)
      have h5 := kp_one hw hI h1 (by omega) h2 he
      rw [fm_cons]
      cases hc : et_ (ge_ G) n e.2 with
      | nil => rw [hc] at h5; simp at h5
      | cons d D =>
        rw [hc] at h4
        simp only [List.cons_append, List.head?_cons, Option.map_some] at h4 ⊢
        rw [h4, g4]
theorem kp_pow (hw : 5 ≤ w) (hI : Ic_ w [] l R Z G) : ∀ (n y : Nat), 1 ≤ gw_ G y → gl_ G y = n → n ≤ l → 2 ≤ (ge_ G y).length → 2 ^ (n + 1) ≤ (et_ (ge_ G) n y).length := by
  intro n
  induction n with
  | zero => intro y _ _ _ h; exact h
  | succ n ih =>
    intro y h1 h2 h3 h4
    have hk : ∀ e ∈ ge_ G y, 2 ^ (n + 1) ≤ (et_ (ge_ G) n e.2).length := fun e he => by
      obtain ⟨g1, g2, g3, g4⟩ := hI.child h1 (by omega) (by omega) he
      have := g3 (by simp)
      exact ih e.2 g1 (by omega) (by omega) (by omega)
    have hs : ∀ L : List (Nat × Nat), (∀ e ∈ L, 2 ^ (n + 1) ≤ (et_ (ge_ G) n e.2).length) → L.length * 2 ^ (n + 1) ≤ (fm_ (ge_ G) n L).length := by
      intro L
      induction L with
      | nil => intro _; simp
      | cons e L ihL =>
        intro hL
        have a1 := hL e List.mem_cons_self
        have a2 := ihL (fun d hd => hL d (List.mem_cons_of_mem _ hd))
        rw [fm_cons, List.length_append, List.length_cons, Nat.add_mul]
        omega
    have h5 := hs _ hk
    rw [et_succ]
    have h6 : 2 * 2 ^ (n + 1) ≤ (ge_ G y).length * 2 ^ (n + 1) := Nat.mul_le_mul_right _ h4
    rw [Nat.pow_succ]
    omega
theorem so_hd {L : List (Nat × Nat)} (hs : so_ L) {h : Nat} (hh : L.head?.map Prod.fst = some h) : ∀ q ∈ L, h ≤ q.1 := by
  cases L with
  | nil => simp at hh
  | cons e L =>
    simp only [List.head?_cons, Option.map_some, Option.some.injEq] at hh
    intro q hq
    rcases List.mem_cons.mp hq with rfl | hq
    · omega
    · have := (so_cons.mp hs).1 q hq
      omega
theorem hd_mem {L : List (Nat × Nat)} {h : Nat} (hh : L.head?.map Prod.fst = some h) : ∃ q ∈ L, q.1 = h := by
  cases L with
  | nil => simp at hh
  | cons e L =>
    simp only [List.head?_cons, Option.map_some, Option.some.injEq] at hh
    exact ⟨e, List.mem_cons_self, hh⟩
theorem spl_ {L : List (Nat × Nat)} {i : Nat} (hi : i < L.length) : L = L.take i ++ L.getD i (0, 0) :: L.drop (i + 1) := by
  have h1 : L.drop i = L.getD i (0, 0) :: L.drop (i + 1) := by
    rw [List.drop_eq_getElem_cons hi, List.getD_eq_getElem?_getD, List.getElem?_eq_getElem hi]
    rfl
  rw [← h1, List.take_append_drop]
/-- on the way down: what lies left of the child has lesser keys, what lies right of it greater ones -/
theorem loc_ (hw : 5 ≤ w) (hI : Ic_ w X l R Z G) {b n k j : Nat} (hb : 1 ≤ gw_ G b) (hl : gl_ G b ≤ l) (hn : gl_ G b = n + 1) (h1 : 1 ≤ (ge_ G b).length) (hj : fk_ (ge_ G b) k j) :
    j - 1 < (ge_ G b).length ∧ (∀ q ∈ fm_ (ge_ G) n ((ge_ G b).take (j - 1)), q.1 < k) ∧ (∀ q ∈ fm_ (ge_ G) n ((ge_ G b).drop (j - 1 + 1)), k < q.1) := by
  obtain ⟨j1, j2, j3⟩ := hj
  have hi : j - 1 < (ge_ G b).length := by omega
  have hso := (hI.2.2.2 b hb hl).2.1
  rw [hn, et_succ, spl_ hi, fm_app, fm_cons] at hso
  obtain ⟨s1, s2, s3⟩ := so_app.mp hso
  obtain ⟨s4, s5, s6⟩ := so_app.mp s2
  have hcm := gd_mem hi
  obtain ⟨g1, g2, g3, g4⟩ := hI.child hb hl (by omega) hcm
  have hh := et_hd hw hI n ((ge_ G b).getD (j - 1) (0, 0)).2 g1 (by omega) (by omega)
  rw [g4] at hh
  obtain ⟨c0, hc0, hc1⟩ := hd_mem hh
  refine ⟨hi, fun q hq => ?_, fun q hq => ?_⟩
  · by_cases hj0 : j = 0
    · subst hj0; simp [fm_] at hq
    · have h2 := s3 q hq c0 (List.mem_append_left _ hc0)
      have h3 := j2 (j - 1) (by omega)
      omega
  · by_cases hj0 : j = 0
    · subst hj0
      have h2 := s6 c0 hc0 q hq
      have h3 := j3 (by omega)
      simp only [Nat.zero_sub] at hc1
      omega
    · have hjl : j < (ge_ G b).length := by
        rcases Nat.lt_or_ge j (ge_ G b).length with h | h
        · exact h
        · rw [List.drop_eq_nil_of_le (by omega)] at hq
          simp [fm_] at hq
      have h3 := j3 hjl
      have hd : (ge_ G b).drop (j - 1 + 1) = (ge_ G b).getD j (0, 0) :: (ge_ G b).drop (j + 1) := by
        rw [show j - 1 + 1 = j by omega, List.drop_eq_getElem_cons hjl, List.getD_eq_getElem?_getD, List.getElem?_eq_getElem hjl]
        rfl
      have hcm2 := gd_mem hjl
      obtain ⟨k1, k2, k3, k4⟩ := hI.child hb hl (by omega) hcm2
      have hh2 := et_hd hw hI n ((ge_ G b).getD j (0, 0)).2 k1 (by omega) (by omega)
      rw [k4] at hh2
      have h5 : (fm_ (ge_ G) n ((ge_ G b).drop (j - 1 + 1))).head?.map Prod.fst = some ((ge_ G b).getD j (0, 0)).1 := by
        rw [hd, fm_cons]
        cases hc : et_ (ge_ G) n ((ge_ G b).getD j (0, 0)).2 with
        | nil => rw [hc] at hh2; simp at hh2
        | cons d D => rw [hc] at hh2; simpa using hh2
      have h6 := so_hd s5 h5 q hq
      omega
end TR
