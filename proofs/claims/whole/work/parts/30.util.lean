-- PURE: sums over the first n numbers, lists of pairs, sorted lists
def sm_ : Nat → (Nat → Nat) → Nat
  | 0, _ => 0
  | n + 1, f => sm_ n f + f n
theorem sm_congr {n : Nat} {f g : Nat → Nat} (h : ∀ i, i < n → f i = g i) : sm_ n f = sm_ n g := by
  induction n with
  | zero => rfl
  | succ n ih =>
    show sm_ n f + f n = sm_ n g + g n
    rw [ih (fun i hi => h i (by omega)), h n (by omega)]
theorem sm_add (n : Nat) (f g : Nat → Nat) : sm_ n (fun i => f i + g i) = sm_ n f + sm_ n g := by
  induction n with
  | zero => rfl
  | succ n ih =>
    show sm_ n (fun i => f i + g i) + (f n + g n) = (sm_ n f + f n) + (sm_ n g + g n)
    rw [ih]; omega
theorem sm_le {n : Nat} {f g : Nat → Nat} (h : ∀ i, i < n → f i ≤ g i) : sm_ n f ≤ sm_ n g := by
  induction n with
  | zero => exact Nat.le_refl _
  | succ n ih =>
    show sm_ n f + f n ≤ sm_ n g + g n
    have h1 := ih (fun i hi => h i (by omega))
    have h2 := h n (by omega)
    omega
theorem sm_0 {n : Nat} {f : Nat → Nat} (h : ∀ i, i < n → f i = 0) : sm_ n f = 0 := by
  induction n with
  | zero => rfl
  | succ n ih =>
    show sm_ n f + f n = 0
    rw [ih (fun i hi => h i (by omega)), h n (by omega)]
theorem sm_one {n k : Nat} (f : Nat → Nat) (hk : k < n) : f k ≤ sm_ n f := by
  induction n with
  | zero => omega
  | succ n ih =>
    show f k ≤ sm_ n f + f n
    by_cases h : k = n
    · subst h; omega
    · have := ih (by omega); omega
theorem sm_two {n j k : Nat} (f : Nat → Nat) (hj : j < n) (hk : k < n) (hne : j ≠ k) : f j + f k ≤ sm_ n f := by
  induction n with
  | zero => omega
  | succ n ih =>
    show f j + f k ≤ sm_ n f + f n
    by_cases h : k = n
    · subst h
      have := sm_one (n := k) f (k := j) (by omega)
      omega
    · by_cases h2 : j = n
      · subst h2
        have := sm_one (n := j) f (k := k) (by omega)
        omega
      · have := ih (by omega) (by omega); omega
/-- one summand is changed -/
theorem sm_up {n k : Nat} {f g : Nat → Nat} (hk : k < n) (h : ∀ i, i < n → i ≠ k → g i = f i) : sm_ n g + f k = sm_ n f + g k := by
  induction n with
  | zero => omega
  | succ n ih =>
    show sm_ n g + g n + f k = sm_ n f + f n + g k
    by_cases e : k = n
    · subst e
      rw [sm_congr (fun i hi => h i (by omega) (by omega))]
      omega
    · have h1 := ih (by omega) (fun i hi => h i (by omega))
      have h2 := h n (by omega) (by omega)
      omega
/-- two summands are changed -/
theorem sm_up2 {n j k : Nat} {f g : Nat → Nat} (hj : j < n) (hk : k < n) (hne : j ≠ k) (h : ∀ i, i < n → i ≠ j → i ≠ k → g i = f i) : sm_ n g + f j + f k = sm_ n f + g j + g k := by
  have h1 := sm_up (f := f) (g := va_up f j (g j)) hj (fun i _ hi => by simp [va_up, hi])
  have h2 := sm_up (f := va_up f j (g j)) (g := g) hk (fun i hi hik => by
    by_cases e : i = j
    · subst e; simp [va_up]
    · simp [va_up, e]; exact h i hi e hik)
  simp only [va_up, if_true] at h1
  rw [show va_up f j (g j) k = f k by simp [va_up, Ne.symm hne]] at h2
  omega
theorem sm_swap (n m : Nat) (f : Nat → Nat → Nat) : sm_ n (fun i => sm_ m (fun j => f i j)) = sm_ m (fun j => sm_ n (fun i => f i j)) := by
  induction n with
  | zero => exact (sm_0 (fun _ _ => rfl)).symm
  | succ n ih =>
    show sm_ n (fun i => sm_ m (fun j => f i j)) + sm_ m (fun j => f n j) = sm_ m (fun j => sm_ n (fun i => f i j) + f n j)
    rw [ih, sm_add]
theorem sm_mul (n c : Nat) (f : Nat → Nat) : sm_ n (fun i => f i * c) = sm_ n f * c := by
  induction n with
  | zero => simp [sm_]
  | succ n ih =>
    show sm_ n (fun i => f i * c) + f n * c = (sm_ n f + f n) * c
    rw [ih, Nat.add_mul]
/-- how often a list of pairs leads to x -/
def cn_ (x : Nat) : List (Nat × Nat) → Nat
  | [] => 0
  | e :: l => (if e.2 = x then 1 else 0) + cn_ x l
/-- the sum of f over what a list of pairs leads to -/
def su_ (f : Nat → Nat) : List (Nat × Nat) → Nat
  | [] => 0
  | e :: l => f e.2 + su_ f l
theorem cn_app (x : Nat) (a b : List (Nat × Nat)) : cn_ x (a ++ b) = cn_ x a + cn_ x b := by
  induction a with
  | nil => simp [cn_]
  | cons e l ih => simp only [List.cons_append, cn_, ih]; omega
theorem su_app (f : Nat → Nat) (a b : List (Nat × Nat)) : su_ f (a ++ b) = su_ f a + su_ f b := by
  induction a with
  | nil => simp [su_]
  | cons e l ih => simp only [List.cons_append, su_, ih]; omega
theorem cn_mem {x : Nat} {l : List (Nat × Nat)} {e : Nat × Nat} (h : e ∈ l) (hx : e.2 = x) : 1 ≤ cn_ x l := by
  induction l with
  | nil => simp at h
  | cons d l ih =>
    rcases List.mem_cons.mp h with rfl | h
    · simp [cn_, hx]
    · have := ih h
      simp only [cn_]; omega
theorem cn_pos {x : Nat} {l : List (Nat × Nat)} (h : 1 ≤ cn_ x l) : ∃ e ∈ l, e.2 = x := by
  induction l with
  | nil => simp [cn_] at h
  | cons d l ih =>
    by_cases hd : d.2 = x
    · exact ⟨d, List.mem_cons_self, hd⟩
    · simp only [cn_, hd, if_false] at h
      obtain ⟨e, h1, h2⟩ := ih (by omega)
      exact ⟨e, List.mem_cons_of_mem _ h1, h2⟩
theorem cn_0 {x : Nat} {l : List (Nat × Nat)} (h : ∀ e ∈ l, e.2 ≠ x) : cn_ x l = 0 := by
  rcases Nat.eq_zero_or_pos (cn_ x l) with h0 | h0
  · exact h0
  · obtain ⟨e, h1, h2⟩ := cn_pos h0
    exact absurd h2 (h e h1)
theorem cn_len (x : Nat) (l : List (Nat × Nat)) : cn_ x l ≤ l.length := by
  induction l with
  | nil => simp [cn_]
  | cons e l ih => simp only [cn_, List.length_cons]; split <;> omega
theorem su_congr {f g : Nat → Nat} {l : List (Nat × Nat)} (h : ∀ e ∈ l, f e.2 = g e.2) : su_ f l = su_ g l := by
  induction l with
  | nil => rfl
  | cons e l ih =>
    simp only [su_]
    rw [h e List.mem_cons_self, ih (fun d hd => h d (List.mem_cons_of_mem _ hd))]
theorem su_1 (l : List (Nat × Nat)) : su_ (fun _ => 1) l = l.length := by
  induction l with
  | nil => rfl
  | cons e l ih => simp only [su_, ih, List.length_cons]; omega
theorem su_add (f g : Nat → Nat) (l : List (Nat × Nat)) : su_ (fun x => f x + g x) l = su_ f l + su_ g l := by
  induction l with
  | nil => rfl
  | cons e l ih => simp only [su_, ih]; omega
theorem sm_cn {n : Nat} (f : Nat → Nat) {l : List (Nat × Nat)} (h : ∀ e ∈ l, e.2 < n) : sm_ n (fun z => cn_ z l * f z) = su_ f l := by
  induction l with
  | nil => exact sm_0 (fun _ _ => by simp [cn_])
  | cons e l ih =>
    have h1 : sm_ n (fun z => cn_ z (e :: l) * f z) = sm_ n (fun z => (if e.2 = z then 1 else 0) * f z + cn_ z l * f z) := sm_congr (fun i _ => by simp only [cn_, Nat.add_mul])
    rw [h1, sm_add, ih (fun d hd => h d (List.mem_cons_of_mem _ hd))]
    have h2 := sm_up (n := n) (k := e.2) (f := fun _ => 0) (g := fun z => (if e.2 = z then 1 else 0) * f z) (h e List.mem_cons_self) (fun i _ hi => by simp [Ne.symm hi])
    rw [sm_0 (f := fun _ => 0) (fun _ _ => rfl)] at h2
    simp only [if_true, Nat.one_mul] at h2
    simp only [su_]
    omega
-- sorted lists of pairs
def so_ (l : List (Nat × Nat)) : Prop := l.Pairwise (fun a b => a.1 < b.1)
theorem so_app {a b : List (Nat × Nat)} : so_ (a ++ b) ↔ so_ a ∧ so_ b ∧ ∀ x ∈ a, ∀ y ∈ b, x.1 < y.1 := List.pairwise_append
theorem so_cons {e : Nat × Nat} {l : List (Nat × Nat)} : so_ (e :: l) ↔ (∀ y ∈ l, e.1 < y.1) ∧ so_ l := List.pairwise_cons
theorem so_nil : so_ [] := List.Pairwise.nil
/-- put (k, s) in -/
def iz_ (k s : Nat) : List (Nat × Nat) → List (Nat × Nat)
  | [] => [(k, s)]
  | e :: l => if k < e.1 then (k, s) :: e :: l else if k = e.1 then (k, s) :: l else e :: iz_ k s l
/-- take k out -/
def dz_ (k : Nat) (l : List (Nat × Nat)) : List (Nat × Nat) := l.filter (fun e => !(e.1 == k))
theorem iz_left {k s : Nat} {p l : List (Nat × Nat)} (h : ∀ e ∈ p, e.1 < k) : iz_ k s (p ++ l) = p ++ iz_ k s l := by
  induction p with
  | nil => rfl
  | cons e p ih =>
    have he := h e List.mem_cons_self
    simp only [List.cons_append, iz_]
    rw [if_neg (by omega), if_neg (by omega), ih (fun d hd => h d (List.mem_cons_of_mem _ hd))]
theorem iz_right {k s : Nat} {l q : List (Nat × Nat)} (h : ∀ e ∈ q, k < e.1) : iz_ k s (l ++ q) = iz_ k s l ++ q := by
  induction l with
  | nil =>
    cases q with
    | nil => rfl
    | cons e q =>
      have he := h e List.mem_cons_self
      simp only [List.nil_append, iz_]
      rw [if_pos he]
      rfl
  | cons e l ih =>
    simp only [List.cons_append, iz_]
    split
    · rfl
    · split
      · rfl
      · rw [ih]; rfl
theorem iz_mem {k s : Nat} {l : List (Nat × Nat)} (hs : so_ l) (a t : Nat) : (a, t) ∈ iz_ k s l ↔ (a = k ∧ t = s) ∨ (a ≠ k ∧ (a, t) ∈ l) := by
  induction l with
  | nil =>
    simp only [iz_, List.mem_singleton, Prod.mk.injEq, List.not_mem_nil, and_false, or_false]
  | cons e l ih =>
    obtain ⟨h1, h2⟩ := so_cons.mp hs
    have ih := ih h2
    simp only [iz_]
    split
    · next hk =>
      simp only [List.mem_cons, Prod.mk.injEq]
      constructor
      · rintro (⟨rfl, rfl⟩ | h)
        · exact Or.inl ⟨rfl, rfl⟩
        · refine Or.inr ⟨?_, h⟩
          rcases h with h | h
          · have : a = e.1 := by rw [← h]
            omega
          · have := h1 _ h
            simp only at this
            omega
      · rintro (⟨rfl, rfl⟩ | ⟨_, h⟩)
        · exact Or.inl ⟨rfl, rfl⟩
        · exact Or.inr h
    · split
      · next hk =>
        simp only [List.mem_cons, Prod.mk.injEq]
        constructor
        · rintro (⟨rfl, rfl⟩ | h)
          · exact Or.inl ⟨rfl, rfl⟩
          · have := h1 _ h
            simp only at this
            exact Or.inr ⟨by omega, Or.inr h⟩
        · rintro (⟨rfl, rfl⟩ | ⟨hn, h⟩)
          · exact Or.inl ⟨rfl, rfl⟩
          · rcases h with h | h
            · have : a = e.1 := by rw [← h]
              exact absurd (this.trans hk.symm) hn
            · exact Or.inr h
      · next hk1 hk2 =>
        simp only [List.mem_cons]
        constructor
        · rintro (h | h)
          · have : a = e.1 := by rw [← h]
            exact Or.inr ⟨by omega, Or.inl h⟩
          · rcases ih.mp h with h | ⟨hn, h⟩
            · exact Or.inl h
            · exact Or.inr ⟨hn, Or.inr h⟩
        · rintro (h | ⟨hn, h⟩)
          · exact Or.inr (ih.mpr (Or.inl h))
          · rcases h with h | h
            · exact Or.inl h
            · exact Or.inr (ih.mpr (Or.inr ⟨hn, h⟩))
theorem iz_so {k s : Nat} {l : List (Nat × Nat)} (hs : so_ l) : so_ (iz_ k s l) := by
  induction l with
  | nil => simp [iz_, so_]
  | cons e l ih =>
    obtain ⟨h1, h2⟩ := so_cons.mp hs
    simp only [iz_]
    split
    · next hk =>
      refine so_cons.mpr ⟨fun y hy => ?_, hs⟩
      rcases List.mem_cons.mp hy with rfl | hy
      · exact hk
      · have := h1 y hy
        show k < y.1
        omega
    · split
      · next hk =>
        refine so_cons.mpr ⟨fun y hy => ?_, h2⟩
        have := h1 y hy
        show k < y.1
        omega
      · refine so_cons.mpr ⟨fun y hy => ?_, ih h2⟩
        obtain ⟨a, t⟩ := y
        rcases (iz_mem h2 a t).mp hy with ⟨rfl, rfl⟩ | ⟨_, h⟩
        · show e.1 < a
          omega
        · exact h1 _ h
theorem iz_len0 {k s : Nat} {l : List (Nat × Nat)} (h : ∀ t, (k, t) ∉ l) : (iz_ k s l).length = l.length + 1 := by
  induction l with
  | nil => rfl
  | cons e l ih =>
    have he : e.1 ≠ k := fun q => h e.2 (by rw [← q]; exact List.mem_cons_self)
    simp only [iz_]
    split
    · simp
    · rw [if_neg (Ne.symm he)]
      simp only [List.length_cons]
      rw [ih (fun t ht => h t (List.mem_cons_of_mem _ ht))]
theorem iz_len1 {k s t : Nat} {l : List (Nat × Nat)} (hs : so_ l) (h : (k, t) ∈ l) : (iz_ k s l).length = l.length := by
  induction l with
  | nil => simp at h
  | cons e l ih =>
    obtain ⟨h1, h2⟩ := so_cons.mp hs
    simp only [iz_]
    rcases List.mem_cons.mp h with h | h
    · have : k = e.1 := by rw [← h]
      rw [if_neg (by omega), if_pos this]; rfl
    · have := h1 _ h
      simp only at this
      rw [if_neg (by omega), if_neg (by omega)]
      simp only [List.length_cons]
      rw [ih h2 h]
theorem dz_app (k : Nat) (a b : List (Nat × Nat)) : dz_ k (a ++ b) = dz_ k a ++ dz_ k b := by simp [dz_]
theorem dz_no {k : Nat} {l : List (Nat × Nat)} (h : ∀ t, (k, t) ∉ l) : dz_ k l = l := by
  simp only [dz_]
  rw [List.filter_eq_self]
  intro e he
  have : e.1 ≠ k := fun q => h e.2 (by rw [← q]; exact he)
  simp [this]
theorem dz_mem (k a t : Nat) (l : List (Nat × Nat)) : (a, t) ∈ dz_ k l ↔ a ≠ k ∧ (a, t) ∈ l := by
  simp only [dz_, List.mem_filter]
  constructor
  · rintro ⟨h1, h2⟩
    exact ⟨by simpa using h2, h1⟩
  · rintro ⟨h1, h2⟩
    exact ⟨h2, by simpa using h1⟩
theorem dz_so {k : Nat} {l : List (Nat × Nat)} (hs : so_ l) : so_ (dz_ k l) := List.Pairwise.filter _ hs
theorem dz_len1 {k t : Nat} {l : List (Nat × Nat)} (hs : so_ l) (h : (k, t) ∈ l) : (dz_ k l).length + 1 = l.length := by
  induction l with
  | nil => simp at h
  | cons e l ih =>
    obtain ⟨h1, h2⟩ := so_cons.mp hs
    rcases List.mem_cons.mp h with h | h
    · have he : e.1 = k := by rw [← h]
      have hn : dz_ k l = l := dz_no (fun t ht => by have := h1 _ ht; simp only at this; omega)
      have : dz_ k (e :: l) = dz_ k l := by simp [dz_, he]
      rw [this, hn]; rfl
    · have := h1 _ h
      simp only at this
      have hd : dz_ k (e :: l) = e :: dz_ k l := by
        simp only [dz_]
        rw [List.filter_cons_of_pos (by simp; omega)]
      rw [hd]
      simp only [List.length_cons]
      rw [ih h2 h]
theorem so_fun {l : List (Nat × Nat)} (hs : so_ l) {a t u : Nat} (h1 : (a, t) ∈ l) (h2 : (a, u) ∈ l) : t = u := by
  induction l with
  | nil => simp at h1
  | cons e l ih =>
    obtain ⟨g1, g2⟩ := so_cons.mp hs
    rcases List.mem_cons.mp h1 with e1 | h1 <;> rcases List.mem_cons.mp h2 with e2 | h2
    · rw [← e1] at e2; exact (Prod.mk.inj e2).2.symm
    · have := g1 _ h2; rw [← e1] at this; simp at this
    · have := g1 _ h1; rw [← e2] at this; simp at this
    · exact ih g2 h1 h2
/-- a list with no entry twice, that holds just those of 1 .. n with P, has as many entries as there are such -/
theorem nd_len (P : Nat → Prop) [DecidablePred P] (n : Nat) : ∀ (l : List Nat), l.Nodup → (∀ b, b ∈ l ↔ 1 ≤ b ∧ b ≤ n ∧ P b) → l.length = sm_ n (fun i => if P (i + 1) then 1 else 0) := by
  induction n with
  | zero =>
    intro l _ h
    cases l with
    | nil => rfl
    | cons b l => have := (h b).mp List.mem_cons_self; omega
  | succ n ih =>
    intro l hn h
    have h1 := ih (l.filter (fun b => !(b == n + 1))) (List.Pairwise.filter _ hn) (fun b => by
      simp only [List.mem_filter, h, Bool.not_eq_true', beq_eq_false_iff_ne]
      constructor
      · rintro ⟨⟨a, b1, c⟩, d⟩; exact ⟨a, by omega, c⟩
      · rintro ⟨a, b1, c⟩; exact ⟨⟨a, by omega, c⟩, by omega⟩)
    show l.length = sm_ n (fun i => if P (i + 1) then 1 else 0) + (if P (n + 1) then 1 else 0)
    rw [← h1]
    by_cases hp : P (n + 1)
    · rw [if_pos hp]
      have hm : n + 1 ∈ l := (h _).mpr ⟨by omega, by omega, hp⟩
      clear h h1 ih
      induction l with
      | nil => simp at hm
      | cons b l ihl =>
        rw [List.nodup_cons] at hn
        by_cases hb : b = n + 1
        · subst hb
          have : (l.filter (fun b => !(b == n + 1))) = l := by
            rw [List.filter_eq_self]
            intro q hq
            have : q ≠ n + 1 := fun e => hn.1 (e ▸ hq)
            simp [this]
          simp [this]
        · have hm2 : n + 1 ∈ l := by
            rcases List.mem_cons.mp hm with e | h
            · exact absurd e.symm hb
            · exact h
          have := ihl hn.2 hm2
          rw [List.filter_cons_of_pos (by simp [hb])]
          simp only [List.length_cons]
          omega
    · rw [if_neg hp]
      have : (l.filter (fun b => !(b == n + 1))) = l := by
        rw [List.filter_eq_self]
        intro q hq
        have : q ≠ n + 1 := fun e => hp (by have := ((h q).mp hq).2.2; rw [e] at this; exact this)
        simp [this]
      rw [this]; rfl
