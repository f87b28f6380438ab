-- PURE: all maps: the roots, how many keys they have
theorem vu_ne {α : Type} {f : Nat → α} {k j : Nat} {v : α} (h : j ≠ k) : va_up f k v j = f j := by simp [va_up, h]
def RR_ (rn rk : Nat → Nat) : Nat → Nat := fun y => sm_ 8 (fun i => if rn i = y then 1 else 0) + sm_ 8 (fun i => if rk i = y then 1 else 0)
def RM_ (rn rk : Nat → Nat) (m : Nat) : Nat → Nat := fun y => sm_ 8 (fun i => if i = m then 0 else if rn i = y then 1 else 0) + sm_ 8 (fun i => if rk i = y then 1 else 0)
theorem RR_comm (rn rk : Nat → Nat) : RR_ rn rk = RR_ rk rn := by funext y; simp only [RR_]; omega
theorem RR_rt {rn rk : Nat → Nat} {m : Nat} (hm : m < 8) : RR_ rn rk = rt_ (RM_ rn rk m) (rn m) := by
  funext y
  have h := sm_up (n := 8) (k := m) (f := fun i => if i = m then 0 else if rn i = y then 1 else 0) (g := fun i => if rn i = y then 1 else 0) hm (fun i _ hi => by simp [hi])
  simp only [if_true] at h
  simp only [RR_, RM_, rt_]
  rw [show (if y = rn m then 1 else 0) = (if rn m = y then 1 else 0) by simp only [eq_comm]]
  omega
theorem RM_up {rn rk : Nat → Nat} {m r : Nat} : RM_ (va_up rn m r) rk m = RM_ rn rk m := by
  funext y
  simp only [RM_]
  congr 1
  refine sm_congr (fun i _ => ?_)
  by_cases e : i = m
  · simp [e]
  · simp [e, va_up]
theorem RR_up {rn rk : Nat → Nat} {m r : Nat} (hm : m < 8) : RR_ (va_up rn m r) rk = rt_ (RM_ rn rk m) r := by
  rw [RR_rt hm, RM_up, va_up_self]
theorem sm_le8 {n : Nat} {f : Nat → Nat} (h : ∀ i, i < n → f i ≤ 1) : sm_ n f ≤ n := by
  have := sum_le_mul n 1 f h; omega
theorem RM_le (rn rk : Nat → Nat) (m y : Nat) : RM_ rn rk m y ≤ 900 := by
  have h1 : sm_ 8 (fun i => if i = m then 0 else if rn i = y then 1 else 0) ≤ 8 := sm_le8 (fun i _ => by split <;> (try split) <;> omega)
  have h2 : sm_ 8 (fun i => if rk i = y then 1 else 0) ≤ 8 := sm_le8 (fun i _ => by split <;> omega)
  simp only [RM_]; omega
theorem RR_pos {rn rk : Nat → Nat} {y : Nat} (h : 1 ≤ RR_ rn rk y) : ∃ i, i < 8 ∧ (rn i = y ∨ rk i = y) := by
  simp only [RR_] at h
  by_cases h1 : 1 ≤ sm_ 8 (fun i => if rn i = y then 1 else 0)
  · obtain ⟨i, hi, h2⟩ := sm_pos h1
    refine ⟨i, hi, Or.inl ?_⟩
    by_cases e : rn i = y
    · exact e
    · simp [e] at h2
  · obtain ⟨i, hi, h2⟩ := sm_pos (show 1 ≤ sm_ 8 (fun i => if rk i = y then 1 else 0) by omega)
    refine ⟨i, hi, Or.inr ?_⟩
    by_cases e : rk i = y
    · exact e
    · simp [e] at h2
theorem RM_n {rn rk : Nat → Nat} {m j : Nat} (hj : j < 8) (hne : j ≠ m) : 1 ≤ RM_ rn rk m (rn j) := by
  have := sm_one (n := 8) (k := j) (fun i => if i = m then 0 else if rn i = rn j then 1 else 0) hj
  simp only [hne, if_false, if_true] at this
  simp only [RM_]; omega
theorem RM_k {rn rk : Nat → Nat} {m j : Nat} (hj : j < 8) : 1 ≤ RM_ rn rk m (rk j) := by
  have := sm_one (n := 8) (k := j) (fun i => if rk i = rk j then 1 else 0) hj
  simp only [if_true] at this
  simp only [RM_]; omega
def ok_ (G : Sg_) (b : Nat) : Prop := 1 ≤ b → gl_ G b = 0 ∨ 2 ≤ (ge_ G b).length
abbrev ln_ (G : Sg_) (r : Nat → Nat) : Nat → Nat := fun i => (tr_ G (r i)).length
/-- the arrays hold eight maps now and eight that were kept -/
def T0_ (w : Nat) (st : St_) (G : Sg_) (rn rk : Nat → Nat) : Prop :=
  Rp_ w st G ∧ Ic_ w [] 16 (RR_ rn rk) [] G ∧
  (∀ i, i < 8 → rn i ≤ 1200 ∧ st 10 i = nI (rn i) ∧ st 11 i = nI (ln_ G rn i) ∧ ok_ G (rn i)) ∧
  (∀ i, i < 8 → rk i ≤ 1200 ∧ st 12 i = nI (rk i) ∧ st 13 i = nI (ln_ G rk i) ∧ ok_ G (rk i)) ∧
  st 19 0 = nI (sm_ 8 (ln_ G rn)) ∧ st 20 0 = nI (sm_ 8 (ln_ G rk))
def T1_ (w : Nat) (st : St_) (G : Sg_) (rn rk : Nat → Nat) : Prop := T0_ w st G rn rk ∧ sm_ 8 (ln_ G rn) ≤ 600 ∧ sm_ 8 (ln_ G rk) ≤ 600
section TP
variable {w : Nat} {st : St_} {G : Sg_} {rn rk : Nat → Nat}
theorem sum_roots {r : Nat → Nat} (hr : ∀ i, i < 8 → r i ≤ 1200) : sm_ 1201 (fun y => if y = 0 then 0 else sm_ 8 (fun i => if r i = y then 1 else 0) * kp_ G y) = sm_ 8 (ln_ G r) := by
  have h1 : sm_ 1201 (fun y => if y = 0 then 0 else sm_ 8 (fun i => if r i = y then 1 else 0) * kp_ G y) = sm_ 1201 (fun y => sm_ 8 (fun i => (if r i = y then (tr_ G y).length else 0))) := by
    refine sm_congr (fun y _ => ?_)
    by_cases e : y = 0
    · subst e
      rw [if_pos rfl]
      refine (sm_0 (fun i _ => ?_)).symm
      split <;> rfl
    · rw [if_neg e, ← sm_mul]
      refine sm_congr (fun i _ => ?_)
      rw [tr_1 (by omega)]
      split <;> simp
  rw [h1, sm_swap]
  refine sm_congr (fun i hi => ?_)
  have h2 := sm_up (n := 1201) (k := r i) (f := fun _ => 0) (g := fun y => if r i = y then (tr_ G y).length else 0) (by have := hr i hi; omega) (fun y _ hy => by simp [Ne.symm hy])
  rw [sm_0 (f := fun _ => 0) (fun _ _ => rfl)] at h2
  simp only [if_true] at h2
  show _ = (tr_ G (r i)).length
  omega
theorem T0_.sum (h : T0_ w st G rn rk) : sm_ 1201 (fun y => if y = 0 then 0 else RR_ rn rk y * kp_ G y) = sm_ 8 (ln_ G rn) + sm_ 8 (ln_ G rk) := by
  rw [← sum_roots (fun i hi => (h.2.2.1 i hi).1), ← sum_roots (fun i hi => (h.2.2.2.1 i hi).1), ← sm_add]
  refine sm_congr (fun y _ => ?_)
  by_cases e : y = 0
  · simp [e]
  · simp only [e, if_false, RR_, Nat.add_mul]
theorem T0_.roots (h : T0_ w st G rn rk) : ∀ b, 1 ≤ b → 1 ≤ RR_ rn rk b → gl_ G b = 0 ∨ 2 ≤ (ge_ G b).length := fun b hb hr => by
  obtain ⟨i, hi, h1 | h1⟩ := RR_pos hr
  · have := (h.2.2.1 i hi).2.2.2; rw [h1] at this; exact this hb
  · have := (h.2.2.2.1 i hi).2.2.2; rw [h1] at this; exact this hb
theorem Rp_.cong {st' : St_} (hR : Rp_ w st G) (h : ∀ k, k < 6 ∨ k = 18 → st' k = st k) : Rp_ w st' G := by
  obtain ⟨h1, h2, h3, h4, h5, hz0⟩ := hR
  refine ⟨fun b b1 b2 => ?_, h2, by rw [h 18 (by omega)]; exact h3, h4, fun i hi => by rw [h 5 (by omega)]; exact h5 i hi, by rw [h 2 (by omega)]; exact hz0⟩
  rw [h 0 (by omega), h 1 (by omega), h 2 (by omega), h 3 (by omega), h 4 (by omega)]
  exact h1 b b1 b2
theorem Ic_.congR {R R' : Nat → Nat} {X : List Nat} {l : Nat} {Z : List Nat} (hI : Ic_ w X l R Z G) (h : ∀ y, 1 ≤ y → R' y = R y) : Ic_ w X l R' Z G :=
  ⟨hI.1, hI.2.1, fun b hb => by rw [h b hb]; exact hI.2.2.1 b hb, hI.2.2.2⟩
theorem T0_.swap (h : T0_ w st G rn rk) : Ic_ w [] 16 (RR_ rk rn) [] G := by rw [RR_comm]; exact h.2.1
/-- one map's root has changed -/
theorem T0_set {st1 st2 : St_} {G' : Sg_} {m r : Nat} (h : T0_ w st G rn rk) (hm : m < 8) (hR : Rp_ w st1 G') (hF : Fr_ st st1) (hI : Ic_ w [] 16 (rt_ (RM_ rn rk m) r) [] G') (hr : r ≤ 1200) (hok : ok_ G' r)
    (hfr : ∀ y, 1 ≤ y → 1 ≤ RM_ rn rk m y → ge_ G' y = ge_ G y ∧ gl_ G' y = gl_ G y ∧ et_ (ge_ G') (gl_ G y) y = et_ (ge_ G) (gl_ G y) y)
    (e10 : st2 10 m = nI r) (e10' : ∀ i, i ≠ m → st2 10 i = st 10 i) (e11 : st2 11 m = nI (tr_ G' r).length) (e11' : ∀ i, i ≠ m → st2 11 i = st 11 i) (e19 : ∀ s : Nat, s + (tr_ G (rn m)).length = sm_ 8 (ln_ G rn) + (tr_ G' r).length → st2 19 0 = nI s) (eo : ∀ k, k ≠ 10 → k ≠ 11 → k ≠ 19 → st2 k = st1 k) :
    T0_ w st2 G' (va_up rn m r) rk ∧ (∀ j, j < 8 → j ≠ m → tr_ G' (rn j) = tr_ G (rn j)) ∧ (∀ j, j < 8 → tr_ G' (rk j) = tr_ G (rk j)) ∧ sm_ 8 (ln_ G' (va_up rn m r)) + (tr_ G (rn m)).length = sm_ 8 (ln_ G rn) + (tr_ G' r).length := by
  obtain ⟨h1, h2, h3, h4, h5, h6⟩ := h
  have hn : ∀ j, j < 8 → j ≠ m → tr_ G' (rn j) = tr_ G (rn j) ∧ (ok_ G (rn j) → ok_ G' (rn j)) := fun j hj hne => by
    by_cases e : rn j = 0
    · rw [e]; exact ⟨rfl, fun _ q => by omega⟩
    · obtain ⟨q1, q2, q3⟩ := hfr (rn j) (by omega) (RM_n hj hne)
      rw [tr_1 (by omega), tr_1 (by omega), q2]
      refine ⟨q3, fun q _ => ?_⟩
      rw [q1, q2]; exact q (by omega)
  have hk : ∀ j, j < 8 → tr_ G' (rk j) = tr_ G (rk j) ∧ (ok_ G (rk j) → ok_ G' (rk j)) := fun j hj => by
    by_cases e : rk j = 0
    · rw [e]; exact ⟨rfl, fun _ q => by omega⟩
    · obtain ⟨q1, q2, q3⟩ := hfr (rk j) (by omega) (RM_k hj)
      rw [tr_1 (by omega), tr_1 (by omega), q2]
      refine ⟨q3, fun q _ => ?_⟩
      rw [q1, q2]; exact q (by omega)
  have hsum : sm_ 8 (ln_ G' (va_up rn m r)) + (tr_ G (rn m)).length = sm_ 8 (ln_ G rn) + (tr_ G' r).length := by
    have := sm_up (n := 8) (k := m) (f := ln_ G rn) (g := ln_ G' (va_up rn m r)) hm (fun i hi hne => by
      show (tr_ G' (va_up rn m r i)).length = (tr_ G (rn i)).length
      rw [vu_ne hne, (hn i hi hne).1])
    have e : ln_ G' (va_up rn m r) m = (tr_ G' r).length := by
      show (tr_ G' (va_up rn m r m)).length = _
      rw [va_up_self]
    rw [e] at this
    exact this
  have hsumk : sm_ 8 (ln_ G' rk) = sm_ 8 (ln_ G rk) := sm_congr (fun i hi => by
    show (tr_ G' (rk i)).length = (tr_ G (rk i)).length
    rw [(hk i hi).1])
  have hA : ∀ i, i < 8 → va_up rn m r i ≤ 1200 ∧ st2 10 i = nI (va_up rn m r i) ∧ st2 11 i = nI (ln_ G' (va_up rn m r) i) ∧ ok_ G' (va_up rn m r i) := fun i hi => by
    by_cases e : i = m
    · subst e
      show va_up rn i r i ≤ 1200 ∧ st2 10 i = nI (va_up rn i r i) ∧ st2 11 i = nI (tr_ G' (va_up rn i r i)).length ∧ _
      rw [va_up_self]
      exact ⟨hr, e10, e11, hok⟩
    · obtain ⟨q1, q2, q3, q4⟩ := h3 i hi
      show va_up rn m r i ≤ 1200 ∧ st2 10 i = nI (va_up rn m r i) ∧ st2 11 i = nI (tr_ G' (va_up rn m r i)).length ∧ _
      rw [vu_ne e, e10' i e, e11' i e, (hn i hi e).1]
      exact ⟨q1, q2, q3, (hn i hi e).2 q4⟩
  have hB : ∀ i, i < 8 → rk i ≤ 1200 ∧ st2 12 i = nI (rk i) ∧ st2 13 i = nI (ln_ G' rk i) ∧ ok_ G' (rk i) := fun i hi => by
    obtain ⟨q1, q2, q3, q4⟩ := h4 i hi
    show _ ∧ _ ∧ st2 13 i = nI (tr_ G' (rk i)).length ∧ _
    rw [eo 12 (by decide) (by decide) (by decide), eo 13 (by decide) (by decide) (by decide), hF 12 (by decide) (by decide), hF 13 (by decide) (by decide), (hk i hi).1]
    exact ⟨q1, q2, q3, (hk i hi).2 q4⟩
  refine ⟨⟨hR.cong (fun k hk => eo k (by omega) (by omega) (by omega)), by rw [RR_up hm]; exact hI, hA, hB, e19 _ hsum, by rw [eo 20 (by decide) (by decide) (by decide), hF 20 (by decide) (by decide), hsumk]; exact h6⟩, fun j hj hne => (hn j hj hne).1, fun j hj => (hk j hj).1, hsum⟩
/-- one map's root has changed -/
theorem T0_setk {st1 st2 : St_} {G' : Sg_} {m r : Nat} (h : T0_ w st G rn rk) (hm : m < 8) (hR : Rp_ w st1 G') (hF : Fr_ st st1) (hI : Ic_ w [] 16 (rt_ (RM_ rk rn m) r) [] G') (hr : r ≤ 1200) (hok : ok_ G' r)
    (hfr : ∀ y, 1 ≤ y → 1 ≤ RM_ rk rn m y → ge_ G' y = ge_ G y ∧ gl_ G' y = gl_ G y ∧ et_ (ge_ G') (gl_ G y) y = et_ (ge_ G) (gl_ G y) y)
    (e10 : st2 12 m = nI r) (e10' : ∀ i, i ≠ m → st2 12 i = st 12 i) (e11 : st2 13 m = nI (tr_ G' r).length) (e11' : ∀ i, i ≠ m → st2 13 i = st 13 i) (e19 : ∀ s : Nat, s + (tr_ G (rk m)).length = sm_ 8 (ln_ G rk) + (tr_ G' r).length → st2 20 0 = nI s) (eo : ∀ k, k ≠ 12 → k ≠ 13 → k ≠ 20 → st2 k = st1 k) :
    T0_ w st2 G' rn (va_up rk m r) ∧ (∀ j, j < 8 → j ≠ m → tr_ G' (rk j) = tr_ G (rk j)) ∧ (∀ j, j < 8 → tr_ G' (rn j) = tr_ G (rn j)) ∧ sm_ 8 (ln_ G' (va_up rk m r)) + (tr_ G (rk m)).length = sm_ 8 (ln_ G rk) + (tr_ G' r).length := by
  obtain ⟨h1, h2, h3, h4, h5, h6⟩ := h
  have hn : ∀ j, j < 8 → j ≠ m → tr_ G' (rk j) = tr_ G (rk j) ∧ (ok_ G (rk j) → ok_ G' (rk j)) := fun j hj hne => by
    by_cases e : rk j = 0
    · rw [e]; exact ⟨rfl, fun _ q => by omega⟩
    · obtain ⟨q1, q2, q3⟩ := hfr (rk j) (by omega) (RM_n hj hne)
      rw [tr_1 (by omega), tr_1 (by omega), q2]
      refine ⟨q3, fun q _ => ?_⟩
      rw [q1, q2]; exact q (by omega)
  have hk : ∀ j, j < 8 → tr_ G' (rn j) = tr_ G (rn j) ∧ (ok_ G (rn j) → ok_ G' (rn j)) := fun j hj => by
    by_cases e : rn j = 0
    · rw [e]; exact ⟨rfl, fun _ q => by omega⟩
    · obtain ⟨q1, q2, q3⟩ := hfr (rn j) (by omega) (RM_k hj)
      rw [tr_1 (by omega), tr_1 (by omega), q2]
      refine ⟨q3, fun q _ => ?_⟩
      rw [q1, q2]; exact q (by omega)
  have hsum : sm_ 8 (ln_ G' (va_up rk m r)) + (tr_ G (rk m)).length = sm_ 8 (ln_ G rk) + (tr_ G' r).length := by
    have := sm_up (n := 8) (k := m) (f := ln_ G rk) (g := ln_ G' (va_up rk m r)) hm (fun i hi hne => by
      show (tr_ G' (va_up rk m r i)).length = (tr_ G (rk i)).length
      rw [vu_ne hne, (hn i hi hne).1])
    have e : ln_ G' (va_up rk m r) m = (tr_ G' r).length := by
      show (tr_ G' (va_up rk m r m)).length = _
      rw [va_up_self]
    rw [e] at this
    exact this
  have hsumk : sm_ 8 (ln_ G' rn) = sm_ 8 (ln_ G rn) := sm_congr (fun i hi => by
    show (tr_ G' (rn i)).length = (tr_ G (rn i)).length
    rw [(hk i hi).1])
  have hA : ∀ i, i < 8 → va_up rk m r i ≤ 1200 ∧ st2 12 i = nI (va_up rk m r i) ∧ st2 13 i = nI (ln_ G' (va_up rk m r) i) ∧ ok_ G' (va_up rk m r i) := fun i hi => by
    by_cases e : i = m
    · subst e
      show va_up rk i r i ≤ 1200 ∧ st2 12 i = nI (va_up rk i r i) ∧ st2 13 i = nI (tr_ G' (va_up rk i r i)).length ∧ _
      rw [va_up_self]
      exact ⟨hr, e10, e11, hok⟩
    · obtain ⟨q1, q2, q3, q4⟩ := h4 i hi
      show va_up rk m r i ≤ 1200 ∧ st2 12 i = nI (va_up rk m r i) ∧ st2 13 i = nI (tr_ G' (va_up rk m r i)).length ∧ _
      rw [vu_ne e, e10' i e, e11' i e, (hn i hi e).1]
      exact ⟨q1, q2, q3, (hn i hi e).2 q4⟩
  have hB : ∀ i, i < 8 → rn i ≤ 1200 ∧ st2 10 i = nI (rn i) ∧ st2 11 i = nI (ln_ G' rn i) ∧ ok_ G' (rn i) := fun i hi => by
    obtain ⟨q1, q2, q3, q4⟩ := h3 i hi
    show _ ∧ _ ∧ st2 11 i = nI (tr_ G' (rn i)).length ∧ _
    rw [eo 10 (by decide) (by decide) (by decide), eo 11 (by decide) (by decide) (by decide), hF 10 (by decide) (by decide), hF 11 (by decide) (by decide), (hk i hi).1]
    exact ⟨q1, q2, q3, (hk i hi).2 q4⟩
  refine ⟨⟨hR.cong (fun k hk => eo k (by omega) (by omega) (by omega)), by rw [RR_comm, RR_up hm]; exact hI, hB, hA, by rw [eo 19 (by decide) (by decide) (by decide), hF 19 (by decide) (by decide), hsumk]; exact h5, e19 _ hsum⟩, fun j hj hne => (hn j hj hne).1, fun j hj => (hk j hj).1, hsum⟩
end TP
