-- PURE: cut and spread
/-- take the keys from a to b out -/
def cz_ (a b : Nat) (l : List (Nat × Nat)) : List (Nat × Nat) := l.filter (fun e => !(decide (a ≤ e.1) && decide (e.1 ≤ b)))
theorem cz_mem (a b x t : Nat) (l : List (Nat × Nat)) : (x, t) ∈ cz_ a b l ↔ ¬ (a ≤ x ∧ x ≤ b) ∧ (x, t) ∈ l := by
  simp only [cz_, List.mem_filter]
  constructor
  · rintro ⟨h1, h2⟩
    refine ⟨fun h => ?_, h1⟩
    simp [h.1, h.2] at h2
  · rintro ⟨h1, h2⟩
    refine ⟨h2, ?_⟩
    by_cases e : a ≤ x
    · have : ¬ x ≤ b := fun q => h1 ⟨e, q⟩
      simp [this]
    · simp [e]
theorem cz_so {a b : Nat} {l : List (Nat × Nat)} (hs : so_ l) : so_ (cz_ a b l) := List.Pairwise.filter _ hs
theorem cz_dz {a b k : Nat} (h1 : a ≤ k) (h2 : k ≤ b) (l : List (Nat × Nat)) : cz_ a b (dz_ k l) = cz_ a b l := by
  induction l with
  | nil => rfl
  | cons e l ih =>
    by_cases he : e.1 = k
    · have e1 : dz_ k (e :: l) = dz_ k l := by simp [dz_, he]
      have e2 : cz_ a b (e :: l) = cz_ a b l := by
        simp only [cz_]
        rw [List.filter_cons_of_neg (by simp [he, h1, h2])]
      rw [e1, e2, ih]
    · have e1 : dz_ k (e :: l) = e :: dz_ k l := by
        simp only [dz_]
        rw [List.filter_cons_of_pos (by simp [he])]
      rw [e1]
      simp only [cz_, List.filter_cons] at ih ⊢
      rw [ih]
theorem cz_no {a b : Nat} {l : List (Nat × Nat)} (h : ∀ p ∈ l, a ≤ p.1 → b < p.1) : cz_ a b l = l := by
  simp only [cz_]
  rw [List.filter_eq_self]
  intro e he
  by_cases q : a ≤ e.1
  · have := h e he q
    have : ¬ e.1 ≤ b := by omega
    simp [this]
  · simp [q]
section CU
variable {w : Nat} {st : St_} {N K : Nat → List (Nat × Nat)}
theorem p_kfA {m x : Nat} {post : Int32 → St_ → Prop} (hw : 5 ≤ w ∧ w ≤ 32) (h : TA_ w st N K) (hm : m < 8) (hx : x < 4096) (k : ∀ r, LK_ (N m) x r → post r st) : wp_T_keyFrom w (st 10 m) (nI x) st post := by
  obtain ⟨G, rn, rk, ⟨h, h600, hk600⟩, hN, hK⟩ := h
  obtain ⟨q1, q2, q3, q4⟩ := h.2.2.1 m hm
  rw [q2]
  exact p_kfR hw h hm hx (fun r hr => k r (by rw [hN m hm]; exact hr))
theorem p_kfC {m x : Nat} {d : Int32} {post : Int32 → St_ → Prop} (hw : 5 ≤ w ∧ w ≤ 32) (h : TA_ w (cc_ 11 19 st m d) N K) (hm : m < 8) (hx : x < 4096) (k : ∀ r, LK_ (N m) x r → post r st) : wp_T_keyFrom w (st 10 m) (nI x) st post := by
  obtain ⟨G, rn, rk, ⟨h, h600, hk600⟩, hN, hK⟩ := h
  obtain ⟨q1, q2, q3, q4⟩ := h.2.2.1 m hm
  rw [cc_o (by decide) (by decide)] at q2
  have hR0 : Rp_ w st G := h.1.cong (fun k hk => (cc_o (by omega) (by omega)).symm)
  rw [q2]
  rw [hN m hm] at k
  by_cases h0 : rn m = 0
  · rw [h0] at k ⊢
    exact p_keyFrom0 hw hR0 hx (k _ (Or.inr ⟨rfl, fun p hp => by simp [tr_] at hp⟩))
  · rw [tr_1 (by omega)] at k
    exact p_keyFrom hw hR0 h.2.1 (h.used hm (by omega)) hx k
theorem p_cut_loop {m a b : Nat} {post : Int32 → St_ → Prop} (hw : 5 ≤ w ∧ w ≤ 32) (hm : m < 8) (ha : a < 4096) (hb : b < 4096) (st0 : St_)
    (k : ∀ st', TA_ w st' (va_up N m (cz_ a b (N m))) K → Fm_ st0 st' → post (nI ((N m).length - (cz_ a b (N m)).length)) st') :
    ∀ (n r : Nat) (y : Int32) (s : St_) (L : List (Nat × Nat)), L.length < n → TA_ w (cc_ 11 19 s m (-nI r)) (va_up N m L) K → Fm_ st0 s → L.length + r = (N m).length → cz_ a b L = cz_ a b (N m) → LK_ L a y → (N m).length ≤ 600 → wp_S_cut_50 w post n (nI m) (nI a) (nI b) (nI r) y s := by
  intro n
  induction n with
  | zero => intro r y s L h1; omega
  | succ n ih =>
    intro r y s L h1 hT hF hlen hcz hLK h600
    have hend : cz_ a b L = L → wp_S_changeCount_22 w (nI m) (-nI r) s (fun (st9 : St_) => post (nI r) st9) := fun e => p_cc22 hm (by
      rw [e] at hcz
      have := k _ (by rw [← hcz]; exact hT) (cc_fm hF)
      rw [← hcz, show (N m).length - L.length = r by omega] at this
      exact this)
    refine pk_le 600 r (fun hle => ?_) (fun hlt => ?_) rfl rfl (by omega) (by omega)
    · have : L = [] := List.eq_nil_of_length_eq_zero (by omega)
      exact hend (by rw [this]; rfl)
    · rcases hLK with ⟨q, hq, hq1, hq2, hq3⟩ | ⟨e, hq⟩
      · have hqb := (hT.bd hm q (by rw [va_up_self]; exact hq)).1
        rw [hq2]
        refine br_f (nI_m2 (by omega)) (pk_lt b q.1 (fun hlt2 => ?_) (fun hge => ?_) rfl rfl (by omega) (by omega))
        · exact hend (cz_no (fun p hp h => Nat.lt_of_lt_of_le hlt2 (hq3 p hp h)))
        · refine ⟨vp_in_nI hm (by omega), ?_⟩
          rw [nI_clamp (n := m) (by omega)]
          refine p_rem hw hT hm hqb ⟨q.2, by rw [va_up_self]; exact hq⟩ (fun s1 hT1 hF1 x hx => ⟨vp_in_nI hm (by omega), ?_⟩)
          rw [hx, nI_1]
          rw [va_up_self, bx_uu, i_ng1] at hT1
          refine p_kfC hw hT1 hm hqb (fun y1 hy1 => ?_)
          rw [va_up_self] at hy1
          have hso : so_ L := by have := hT.so hm; rw [va_up_self] at this; exact this
          have hl := dz_len1 hso (k := q.1) (t := q.2) hq
          refine ih (r + 1) y1 s1 (dz_ q.1 L) (by omega) hT1 (hF.tr hF1) (by omega) (by rw [cz_dz hq1 hge]; exact hcz) ?_ h600
          have hge : ∀ p ∈ dz_ q.1 L, a ≤ p.1 → q.1 ≤ p.1 := fun p hp h => hq3 p ((dz_mem q.1 p.1 p.2 L).mp hp).2 h
          rcases hy1 with ⟨e, he, he1, he2, he3⟩ | ⟨e, he⟩
          · exact Or.inl ⟨e, he, by omega, he2, fun p hp h => he3 p hp (hge p hp h)⟩
          · refine Or.inr ⟨e, fun p hp => ?_⟩
            rcases Nat.lt_or_ge p.1 a with h | h
            · exact h
            · have := he p hp; have := hge p hp h; omega
      · rw [e]
        exact br_t rfl (hend (cz_no (fun p hp h => by have := hq p hp; omega)))
theorem va_up_id {m : Nat} : va_up N m (N m) = N := by
  funext i
  by_cases e : i = m
  · subst e; rw [va_up_self]
  · rw [vu_ne e]
theorem p_S_cut {m a b : Nat} {post : Int32 → St_ → Prop} (hw : 5 ≤ w ∧ w ≤ 32) (h : TA_ w st N K) (hm : m < 8) (ha : a < 4096) (hb : b < 4096) (hab : a ≤ b)
    (k : ∀ st', TA_ w st' (va_up N m (cz_ a b (N m))) K → Fm_ st st' → post (nI ((N m).length - (cz_ a b (N m)).length)) st') : wp_S_cut w (nI m) (nI a) (nI b) st post := by
  unfold wp_S_cut
  refine p_S_isMap1 hm (br_f (by decide) (p_S_isKey1 ha (br_f (by decide) (p_S_isKey1 hb (br_f (by decide) (br_t (nI_le hab (by omega)) ⟨vp_in_nI hm (by omega), ?_⟩))))))
  rw [nI_clamp (n := m) (by omega)]
  have hle : (N m).length ≤ nl8_ N := sm_one (n := 8) (k := m) (fun i => (N i).length) hm
  have := h.sum
  refine p_kfA hw h hm ha (fun y hy => ⟨(N m).length + 1, ?_⟩)
  exact p_cut_loop (N := N) (K := K) hw hm ha hb st k ((N m).length + 1) 0 y st (N m) (by omega) (by rw [va_up_id, show -nI 0 = (0 : Int32) by decide, cc_0]; exact h) Fm_.rf (by omega) rfl hy (by omega)
/-- the map is full for this key -/
def fu_ (N : Nat → List (Nat × Nat)) (m x : Nat) : Bool := !((N m).any (fun e => e.1 == x)) && decide (600 ≤ nl8_ N)
theorem fu_t {m x : Nat} (h1 : ∀ t, (x, t) ∉ N m) (h2 : 600 ≤ nl8_ N) : fu_ N m x = true := by
  have : (N m).any (fun e => e.1 == x) = false := by
    rw [List.any_eq_false]
    intro e he q
    have : e.1 = x := by simpa using q
    exact h1 e.2 (by rw [← this]; exact he)
  simp only [fu_, this, h2, decide_true, Bool.not_false, Bool.and_self]
theorem fu_f {m x : Nat} (h : (∃ t, (x, t) ∈ N m) ∨ nl8_ N < 600) : fu_ N m x = false := by
  rcases h with ⟨t, h⟩ | h
  · have : (N m).any (fun e => e.1 == x) = true := List.any_eq_true.mpr ⟨(x, t), h, by simp⟩
    simp only [fu_, this, Bool.not_true, Bool.false_and]
  · simp only [fu_, show ¬ 600 ≤ nl8_ N by omega, decide_false, Bool.and_false]
/-- what spread comes to: how many were written, the maps then -/
def spr_ (m x d c s : Nat) : Nat → Nat → (Nat → List (Nat × Nat)) → Nat × (Nat → List (Nat × Nat))
  | 0, i, N => (i, N)
  | f + 1, i, N => if i < c ∧ x + i * d < 4096 ∧ s + i ≤ 1000000000 ∧ fu_ N m (x + i * d) = false then spr_ m x d c s f (i + 1) (va_up N m (iz_ (x + i * d) (s + i) (N m))) else (i, N)
theorem p_S_writeB {m x s : Nat} {post : Int32 → St_ → Prop} (hm : m < 8) (hx : x < 2 ^ 31) (hs : s < 2 ^ 31) (h : ¬ (x < 4096 ∧ s ≤ 1000000000)) (k : post (-1) st) : wp_S_write w (nI m) (nI x) (nI s) st post := by
  unfold wp_S_write
  refine p_S_isMap1 hm (br_f (by decide) ?_)
  by_cases hx2 : x < 4096
  · refine p_S_isKey1 hx2 (br_f (by decide) (p_S_isStamp0 (Or.inr (nI_le (by omega) (by omega))) (rb_f rfl k)))
  · exact p_S_isKey0 (Or.inr (nI_le (by omega) (by omega))) (br_t rfl k)
theorem p_spread_loop {m x d c s : Nat} {post : Int32 → St_ → Prop} (hw : 5 ≤ w ∧ w ≤ 32) (hm : m < 8) (hx : x < 4096) (hd : d ≤ 4095) (hc : c ≤ 600) (hs : s ≤ 1000000000) (st0 : St_) :
    ∀ (n i : Nat) (s1 : St_) (N : Nat → List (Nat × Nat)), c < n + i → i ≤ c → TA_ w s1 N K → Fm_ st0 s1 → (∀ st', TA_ w st' (spr_ m x d c s n i N).2 K → Fm_ st0 st' → post (nI (spr_ m x d c s n i N).1) st') → wp_S_spread_54 w post n (nI m) (nI x) (nI d) (nI c) (nI s) (nI i) s1 := by
  intro n
  induction n with
  | zero => intro i s1 N h1 h2; omega
  | succ n ih =>
    intro i s1 N h1 hic hT hF k
    have hid : i * d ≤ 600 * 4095 := Nat.mul_le_mul (by omega) hd
    simp only [spr_] at k
    refine pk_le c i (fun hle => ?_) (fun hlt => ?_) rfl rfl (by omega) (by omega)
    · rw [if_neg (by omega)] at k
      exact k s1 hT hF
    · rw [pk_mul, nI_add, nI_add]
      by_cases hg : x + i * d < 4096 ∧ s + i ≤ 1000000000
      · refine p_S_write hw hT hm hg.1 hg.2 (fun f1 f2 => ?_) (fun s2 hT2 hF2 hor => ?_)
        · rw [if_neg (by rw [fu_t f1 f2]; simp)] at k
          exact br_t (by decide) (k s1 hT hF)
        · rw [if_pos ⟨hlt, hg.1, hg.2, fu_f hor⟩] at k
          have hl : (iz_ (x + i * d) (s + i) (N m)).length ≤ 600 := by
            have h1 := sm_one (n := 8) (k := m) (fun j => (va_up N m (iz_ (x + i * d) (s + i) (N m)) j).length) hm
            have h2 := hT2.sum.1
            simp only [va_up_self] at h1
            exact Nat.le_trans h1 h2
          refine br_f (nI_pos (by omega)) (fun y hy => ?_)
          rw [hy, nI_1]
          exact ih (i + 1) s2 _ (by omega) (by omega) hT2 (hF.tr hF2) k
      · rw [if_neg (fun q => hg ⟨q.2.1, q.2.2.1⟩)] at k
        exact p_S_writeB hm (by omega) (by omega) hg (br_t (by decide) (k s1 hT hF))
theorem p_S_spread {m x d c s : Nat} {post : Int32 → St_ → Prop} (hw : 5 ≤ w ∧ w ≤ 32) (h : TA_ w st N K) (hm : m < 8) (hx : x < 4096) (hd1 : 1 ≤ d) (hd : d ≤ 4095) (hc : c ≤ 600) (hs : s ≤ 1000000000)
    (k : ∀ st', TA_ w st' (spr_ m x d c s 601 0 N).2 K → Fm_ st st' → post (nI (spr_ m x d c s 601 0 N).1) st') : wp_S_spread w (nI m) (nI x) (nI d) (nI c) (nI s) st post := by
  unfold wp_S_spread
  refine p_S_isMap1 hm (br_f (by decide) (p_S_isKey1 hx (br_f (by decide) (p_S_isStamp1 hs (rb_t (by decide) (br_f (nI_nlt (b := 1) hd1 (by omega)) (br_f (nI_nlt (a := 4095) hd (by omega)) (br_f (nI_pos (by omega)) (br_t (nI_le (b := 600) hc (by omega)) ⟨601, ?_⟩)))))))))
  exact p_spread_loop hw hm hx hd hc hs st 601 0 st N (by omega) (by omega) h Fm_.rf k
end CU
