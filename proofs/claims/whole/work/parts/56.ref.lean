-- PURE: the reference over the same eight lists now and eight kept
def mv_ (st : St_) (a : Nat) (N : Nat → List (Nat × Nat)) : Prop := ∀ m, m < 8 → ∀ k, k < 4096 → (∀ s, (k, s) ∈ N m → st a (4096 * m + k) = nI (s + 1)) ∧ ((∀ s, (k, s) ∉ N m) → st a (4096 * m + k) = 0)
def mc_ (st : St_) (a : Nat) (N : Nat → List (Nat × Nat)) : Prop := ∀ m, m < 8 → st a m = nI (N m).length
def Nd_ (N : Nat → List (Nat × Nat)) : Prop := (∀ m, m < 8 → so_ (N m) ∧ ∀ q ∈ N m, q.1 < 4096 ∧ q.2 ≤ 1000000000) ∧ nl8_ N ≤ 600
def MA_ (st : St_) (N K : Nat → List (Nat × Nat)) : Prop := mv_ st 14 N ∧ mv_ st 15 K ∧ mc_ st 16 N ∧ mc_ st 17 K ∧ Nd_ N ∧ Nd_ K
def Fo_ (st st' : St_) : Prop := ∀ k, k < 14 ∨ 17 < k → st' k = st k
theorem Fo_.rf {st : St_} : Fo_ st st := fun _ _ => rfl
theorem Fo_.tr {a b c : St_} (h1 : Fo_ a b) (h2 : Fo_ b c) : Fo_ a c := fun k h3 => (h2 k h3).trans (h1 k h3)
theorem mx_e (m x : Nat) : (4096 : Int32) * nI m + nI x = nI (4096 * m + x) := by
  rw [show (4096 : Int32) = nI 4096 from rfl, pk_mul, nI_add]
theorem mx_inj {m x n y : Nat} (hx : x < 4096) (hy : y < 4096) (h : 4096 * m + x = 4096 * n + y) : m = n ∧ x = y := by omega
theorem LK_fun {L : List (Nat × Nat)} {k : Nat} {r r' : Int32} (h : LK_ L k r) (h' : LK_ L k r') : r = r' := by
  rcases h with ⟨q, h1, h2, h3, h4⟩ | ⟨h1, h2⟩ <;> rcases h' with ⟨q', g1, g2, g3, g4⟩ | ⟨g1, g2⟩
  · have a1 := h4 q' g1 g2
    have a2 := g4 q h1 h2
    rw [h3, g3, show q.1 = q'.1 by omega]
  · have := g2 q h1; omega
  · have := h2 q' g1; omega
  · rw [h1, g1]
section RF
variable {w : Nat} {st : St_} {N K : Nat → List (Nat × Nat)}
theorem TA_.nd (h : TA_ w st N K) : Nd_ N := ⟨fun m hm => ⟨h.so hm, h.bd hm⟩, h.sum.1⟩
theorem TA_.fo {st' : St_} (h : TA_ w st N K) (hF : Fo_ st st') : TA_ w st' N K := by
  obtain ⟨G, rn, rk, ⟨⟨h1, h2, h3, h4, h5, h6⟩, h7, h8⟩, hN, hK⟩ := h
  refine ⟨G, rn, rk, ⟨⟨h1.cong (fun k hk => hF k (by omega)), h2, ?_, ?_, ?_, ?_⟩, h7, h8⟩, hN, hK⟩
  · intro i hi
    rw [hF 10 (by omega), hF 11 (by omega)]; exact h3 i hi
  · intro i hi
    rw [hF 12 (by omega), hF 13 (by omega)]; exact h4 i hi
  · rw [hF 19 (by omega)]; exact h5
  · rw [hF 20 (by omega)]; exact h6
theorem MA_.fm {st' : St_} (h : MA_ st N K) (hF : Fm_ st st') : MA_ st' N K := by
  obtain ⟨h1, h2, h3, h4, h5, h6⟩ := h
  refine ⟨fun m hm k hk => ?_, fun m hm k hk => ?_, fun m hm => ?_, fun m hm => ?_, h5, h6⟩
  · rw [hF 14 (by omega) (by omega)]; exact h1 m hm k hk
  · rw [hF 15 (by omega) (by omega)]; exact h2 m hm k hk
  · rw [hF 16 (by omega) (by omega)]; exact h3 m hm
  · rw [hF 17 (by omega) (by omega)]; exact h4 m hm
theorem Nd_.len (h : Nd_ N) {m : Nat} (hm : m < 8) : (N m).length ≤ 600 := by
  have h1 : (N m).length ≤ nl8_ N := sm_one (n := 8) (k := m) (fun i => (N i).length) hm
  have := h.2; omega
theorem p_R_isMap1 {m : Nat} {post : Int32 → St_ → Prop} (h : m < 8) (k : post 1 st) : wp_R_isMap w (nI m) st post := by
  unfold wp_R_isMap
  exact br_f (nI_pos (by omega)) (br_f (nI_ge (b := 8) h (by omega)) k)
theorem p_R_isMap0 {x : Int32} {post : Int32 → St_ → Prop} (h : x < 0 ∨ nI 8 ≤ x) (k : post 0 st) : wp_R_isMap w x st post := by
  unfold wp_R_isMap
  refine br_c (fun _ => k) (fun c => br_t ?_ k)
  rcases h with h | h
  · exact absurd h c
  · exact h
theorem p_R_isKey1 {m : Nat} {post : Int32 → St_ → Prop} (h : m < 4096) (k : post 1 st) : wp_R_isKey w (nI m) st post := by
  unfold wp_R_isKey
  exact br_f (nI_pos (by omega)) (br_f (nI_ge (b := 4096) h (by omega)) k)
theorem p_R_isKey0 {x : Int32} {post : Int32 → St_ → Prop} (h : x < 0 ∨ nI 4096 ≤ x) (k : post 0 st) : wp_R_isKey w x st post := by
  unfold wp_R_isKey
  refine br_c (fun _ => k) (fun c => br_t ?_ k)
  rcases h with h | h
  · exact absurd h c
  · exact h
theorem p_R_isStamp1 {m : Nat} {post : Int32 → St_ → Prop} (h : m ≤ 1000000000) (k : post 1 st) : wp_R_isStamp w (nI m) st post := by
  unfold wp_R_isStamp
  exact br_f (nI_pos (by omega)) (br_f (nI_nlt (a := 1000000000) h (by omega)) k)
theorem p_R_isStamp0 {x : Int32} {post : Int32 → St_ → Prop} (h : x < 0 ∨ nI 1000000001 ≤ x) (k : post 0 st) : wp_R_isStamp w x st post := by
  unfold wp_R_isStamp
  refine br_c (fun _ => k) (fun c => br_t ?_ k)
  rcases h with h | h
  · exact absurd h c
  · exact (i_le_lt (n := 1000000000) (by omega)).mp h
theorem p_R_all_loop {post : Int32 → St_ → Prop} (h : mc_ st 16 N) (k : post (nI (nl8_ N)) st) :
    ∀ (n i : Nat), i ≤ 8 → 8 < n + i → wp_R_all_4 w post n (nI (sm_ i (fun j => (N j).length))) (nI i) st := by
  intro n
  induction n with
  | zero => intro i h1 h2; omega
  | succ n ih =>
    intro i h1 h2
    refine pk_le 8 i (fun hle => ?_) (fun hlt => ?_) rfl rfl (by omega) (by omega)
    · rw [show i = 8 by omega]; exact k
    · refine ⟨vp_in_nI hlt (by omega), fun y hy z hz => ?_⟩
      rw [nI_clamp (n := i) (by omega), h i hlt, nI_add] at hy
      rw [hy, hz, nI_1]
      exact ih (i + 1) (by omega) (by omega)
theorem p_R_all {post : Int32 → St_ → Prop} (h : mc_ st 16 N) (k : post (nI (nl8_ N)) st) : wp_R_all w st post :=
  ⟨9, p_R_all_loop (N := N) h k 9 0 (by omega) (by omega)⟩
/-- one cell of the reference is set -/
theorem mv_set {a m x : Nat} {v : Int32} {L : List (Nat × Nat)} {st' : St_} (h : mv_ st a N) (hm : m < 8) (hx : x < 4096) (e : st' a = fun j => if j = 4096 * m + x then v else st a j)
    (h1 : ∀ k s, k ≠ x → ((k, s) ∈ L ↔ (k, s) ∈ N m)) (h2 : ∀ s, (x, s) ∈ L → v = nI (s + 1)) (h3 : (∀ s, (x, s) ∉ L) → v = 0) : mv_ st' a (va_up N m L) := by
  intro i hi k hk
  rw [e]
  by_cases ei : i = m
  · subst ei
    rw [va_up_self]
    by_cases ek : k = x
    · subst ek
      simp only [if_true]
      exact ⟨h2, h3⟩
    · simp only [show ¬ 4096 * i + k = 4096 * i + x by omega, if_false]
      obtain ⟨q1, q2⟩ := h i hi k hk
      exact ⟨fun s hs => q1 s ((h1 k s ek).mp hs), fun hs => q2 (fun s q => hs s ((h1 k s ek).mpr q))⟩
  · rw [vu_ne ei]
    simp only [show ¬ 4096 * i + k = 4096 * m + x from fun q => ei (mx_inj hk hx q).1, if_false]
    exact h i hi k hk
theorem mc_set {a m : Nat} {L : List (Nat × Nat)} {st' : St_} (h : mc_ st a N) (e1 : st' a m = nI L.length) (e2 : ∀ i, i ≠ m → st' a i = st a i) : mc_ st' a (va_up N m L) := by
  intro i hi
  by_cases e : i = m
  · subst e; rw [va_up_self]; exact e1
  · rw [vu_ne e, e2 i e]; exact h i hi
theorem mv_c {a : Nat} {st' : St_} (h : mv_ st a N) (e : st' a = st a) : mv_ st' a N := by
  intro i hi k hk; rw [e]; exact h i hi k hk
theorem mc_c {a : Nat} {st' : St_} (h : mc_ st a N) (e : st' a = st a) : mc_ st' a N := by
  intro i hi; rw [e]; exact h i hi
theorem Nd_.put {m x s : Nat} (h : Nd_ N) (hm : m < 8) (hx : x < 4096) (hs : s ≤ 1000000000) (hor : (∃ t, (x, t) ∈ N m) ∨ nl8_ N < 600) : Nd_ (va_up N m (iz_ x s (N m))) := by
  refine ⟨fun i hi => ?_, ?_⟩
  · by_cases e : i = m
    · subst e
      rw [va_up_self]
      refine ⟨iz_so (h.1 i hi).1, fun q hq => ?_⟩
      obtain ⟨q1, q2⟩ := q
      rcases (iz_mem (h.1 i hi).1 q1 q2).mp hq with ⟨e1, e2⟩ | ⟨_, h2⟩
      · exact ⟨by rw [e1]; exact hx, by rw [e2]; exact hs⟩
      · exact (h.1 i hi).2 _ h2
    · rw [vu_ne e]; exact h.1 i hi
  · have hu := nl8_up (N := N) (L := iz_ x s (N m)) hm
    have h6 := h.2
    by_cases hex : ∃ t, (x, t) ∈ N m
    · obtain ⟨t, ht⟩ := hex
      rw [iz_len1 (h.1 m hm).1 ht] at hu; omega
    · rw [iz_len0 (fun t ht => hex ⟨t, ht⟩)] at hu
      rcases hor with h1 | h1
      · exact absurd h1 hex
      · omega
theorem Nd_.sub {m : Nat} {L : List (Nat × Nat)} (h : Nd_ N) (hm : m < 8) (hs : so_ L) (hl : L.length ≤ (N m).length) (hq : ∀ q ∈ L, q ∈ N m) : Nd_ (va_up N m L) := by
  refine ⟨fun i hi => ?_, ?_⟩
  · by_cases e : i = m
    · subst e; rw [va_up_self]; exact ⟨hs, fun q h1 => (h.1 i hi).2 q (hq q h1)⟩
    · rw [vu_ne e]; exact h.1 i hi
  · have hu := nl8_up (N := N) (L := L) hm
    have h6 := h.2
    omega
theorem ws_1_fun {a i : Nat} {v : Int32} : ws_1 st a i v a = fun j => if j = i then v else st a j := by
  funext j
  by_cases e : j = i
  · subst e; rw [ws_1_at]; simp
  · rw [ws_1_ne e]; simp [e]
theorem p_R_write {m x s : Nat} {post : Int32 → St_ → Prop} (h : MA_ st N K) (hm : m < 8) (hx : x < 4096) (hs : s ≤ 1000000000)
    (kF : (∀ t, (x, t) ∉ N m) → 600 ≤ nl8_ N → post (-3) st) (kO : ∀ st', MA_ st' (va_up N m (iz_ x s (N m))) K → Fo_ st st' → ((∃ t, (x, t) ∈ N m) ∨ nl8_ N < 600) → post (nI (iz_ x s (N m)).length) st') : wp_R_write w (nI m) (nI x) (nI s) st post := by
  unfold wp_R_write
  obtain ⟨h1, h2, h3, h4, h5, h6⟩ := h
  obtain ⟨v1, v2⟩ := h1 m hm x hx
  have hso := (h5.1 m hm).1
  refine p_R_isMap1 hm (br_f (by decide) (p_R_isKey1 hx (br_f (by decide) (p_R_isStamp1 hs (rb_t (by decide) (fun y hy => ?_))))))
  rw [mx_e] at hy
  rw [hy]
  refine ⟨vp_in_nI (by omega) (by omega), ?_⟩
  rw [nI_clamp (n := 4096 * m + x) (by omega), nI_clamp (n := m) (by omega), nI_1]
  by_cases hex : ∃ t, (x, t) ∈ N m
  · obtain ⟨t, ht⟩ := hex
    have hl := iz_len1 (s := s) hso ht
    have htb := ((h5.1 m hm).2 _ ht).2
    refine rb_t (by rw [v1 t ht]; exact nI_ne0 (by omega) (by simp only at htb; omega)) ⟨vp_in_nI (by omega) (by omega), fun s1 e1 => ⟨vp_in_nI hm (by omega), ?_⟩⟩
    have e16 : s1 16 = st 16 := by rw [e1, ws_1_arr (by decide)]
    have hM : MA_ s1 (va_up N m (iz_ x s (N m))) K := ⟨mv_set h1 hm hx (v := nI (s + 1)) (by rw [e1, ws_1_fun]) (fun k u hk => by rw [iz_mem hso]; simp [hk]) (fun u hu => by
        rcases (iz_mem hso x u).mp hu with ⟨_, e⟩ | ⟨e, _⟩
        · rw [e]
        · exact absurd rfl e) (fun hn => absurd ((iz_mem hso x s).mpr (Or.inl ⟨rfl, rfl⟩)) (hn s)), mv_c h2 (by rw [e1, ws_1_arr (by decide)]), mc_set h3 (by rw [e16, h3 m hm, hl]) (fun i _ => by rw [e16]), mc_c h4 (by rw [e1, ws_1_arr (by decide)]), h5.put hm hx hs (Or.inl ⟨t, ht⟩), h6⟩
    have hk := kO s1 hM (fun k hk => by rw [e1, ws_1_arr (by omega)]) (Or.inl ⟨t, ht⟩)
    rw [e16, h3 m hm]
    rw [hl] at hk
    exact hk
  · have hno : ∀ t, (x, t) ∉ N m := fun t ht => hex ⟨t, ht⟩
    have hl := iz_len0 (s := s) hno
    refine rb_f (v2 hno) (p_R_all h3 ?_)
    by_cases h600 : nl8_ N = 600
    · rw [h600]
      exact rb_f rfl (kF hno (by omega))
    · have hlt : nl8_ N < 600 := by have := h5.2; omega
      refine rb_t (fun e => h600 ((nI_eq (b := 600) (by omega) (by omega)).mp e)) ⟨vp_in_nI hm (by omega), vp_in_nI hm (by omega), fun s1 e1 => ⟨vp_in_nI (by omega) (by omega), fun s2 e2 => ⟨vp_in_nI hm (by omega), ?_⟩⟩⟩
      rw [h3 m hm, nI_1] at e1
      have e16 : s2 16 m = nI ((N m).length + 1) := by rw [e2, ws_1_arr (by decide), e1, ws_1_at]
      have hM : MA_ s2 (va_up N m (iz_ x s (N m))) K := ⟨mv_set h1 hm hx (v := nI (s + 1)) (by rw [e2, ws_1_fun, e1, ws_1_arr (by decide)]) (fun k u hk => by rw [iz_mem hso]; simp [hk]) (fun u hu => by
          rcases (iz_mem hso x u).mp hu with ⟨_, e⟩ | ⟨e, _⟩
          · rw [e]
          · exact absurd rfl e) (fun hn => absurd ((iz_mem hso x s).mpr (Or.inl ⟨rfl, rfl⟩)) (hn s)), mv_c h2 (by rw [e2, ws_1_arr (by decide), e1, ws_1_arr (by decide)]), mc_set h3 (by rw [e16, hl]) (fun i hi => by rw [e2, ws_1_arr (by decide), e1, ws_1_ne hi]), mc_c h4 (by rw [e2, ws_1_arr (by decide), e1, ws_1_arr (by decide)]), h5.put hm hx hs (Or.inr hlt), h6⟩
      have hk := kO s2 hM (fun k hk => by rw [e2, ws_1_arr (by omega), e1, ws_1_arr (by omega)]) (Or.inr hlt)
      rw [e16]
      rw [hl] at hk
      exact hk
theorem p_R_writeB {m x s : Nat} {post : Int32 → St_ → Prop} (hm : m < 8) (hx : x < 2 ^ 31) (hs : s < 2 ^ 31) (h : ¬ (x < 4096 ∧ s ≤ 1000000000)) (k : post (-1) st) : wp_R_write w (nI m) (nI x) (nI s) st post := by
  unfold wp_R_write
  refine p_R_isMap1 hm (br_f (by decide) ?_)
  by_cases hx2 : x < 4096
  · refine p_R_isKey1 hx2 (br_f (by decide) (p_R_isStamp0 (Or.inr (nI_le (by omega) (by omega))) (rb_f rfl k)))
  · exact p_R_isKey0 (Or.inr (nI_le (by omega) (by omega))) (br_t rfl k)
theorem p_R_spread_loop {m x d c s : Nat} {post : Int32 → St_ → Prop} (hm : m < 8) (hx : x < 4096) (hd : d ≤ 4095) (hc : c ≤ 600) (hs : s ≤ 1000000000) (st0 : St_) :
    ∀ (n i : Nat) (s1 : St_) (N : Nat → List (Nat × Nat)), c < n + i → i ≤ c → MA_ s1 N K → Fo_ st0 s1 → (∀ st', MA_ st' (spr_ m x d c s n i N).2 K → Fo_ st0 st' → post (nI (spr_ m x d c s n i N).1) st') → wp_R_spread_52 w post n (nI m) (nI x) (nI d) (nI c) (nI s) (nI i) s1 := by
  intro n
  induction n with
  | zero => intro i s1 N h1 h2; omega
  | succ n ih =>
    intro i s1 N h1 hic hT hF k
    have hid : i * d ≤ 600 * 4095 := Nat.mul_le_mul (by omega) hd
    simp only [spr_] at k
    refine pk_le c i (fun hle => ?_) (fun hlt => ?_) rfl rfl (by omega) (by omega)
    · rw [if_neg (by omega)] at k
      exact k s1 hT hF
    · rw [pk_mul, nI_add, nI_add]
      by_cases hg : x + i * d < 4096 ∧ s + i ≤ 1000000000
      · refine p_R_write hT hm hg.1 hg.2 (fun f1 f2 => ?_) (fun s2 hT2 hF2 hor => ?_)
        · rw [if_neg (by rw [fu_t f1 f2]; simp)] at k
          exact br_t (by decide) (k s1 hT hF)
        · rw [if_pos ⟨hlt, hg.1, hg.2, fu_f hor⟩] at k
          have hl : (iz_ (x + i * d) (s + i) (N m)).length ≤ 600 := by
            have := hT2.2.2.2.2.1.len hm
            rw [va_up_self] at this
            exact this
          refine br_f (nI_pos (by omega)) (fun y hy => ?_)
          rw [hy, nI_1]
          exact ih (i + 1) s2 _ (by omega) (by omega) hT2 (hF.tr hF2) k
      · rw [if_neg (fun q => hg ⟨q.2.1, q.2.2.1⟩)] at k
        exact p_R_writeB hm (by omega) (by omega) hg (br_t (by decide) (k s1 hT hF))
theorem p_R_spread {m x d c s : Nat} {post : Int32 → St_ → Prop} (h : MA_ st N K) (hm : m < 8) (hx : x < 4096) (hd1 : 1 ≤ d) (hd : d ≤ 4095) (hc : c ≤ 600) (hs : s ≤ 1000000000)
    (k : ∀ st', MA_ st' (spr_ m x d c s 601 0 N).2 K → Fo_ st st' → post (nI (spr_ m x d c s 601 0 N).1) st') : wp_R_spread w (nI m) (nI x) (nI d) (nI c) (nI s) st post := by
  unfold wp_R_spread
  refine p_R_isMap1 hm (br_f (by decide) (p_R_isKey1 hx (br_f (by decide) (br_f (nI_nlt (b := 1) hd1 (by omega)) (br_f (nI_nlt (a := 4095) hd (by omega)) (br_f (nI_pos (by omega)) (br_f (nI_nlt (a := 600) hc (by omega)) (p_R_isStamp1 hs (rb_t (by decide) ⟨601, ?_⟩)))))))))
  exact p_R_spread_loop hm hx hd hc hs st 601 0 st N (by omega) (by omega) h Fo_.rf k
theorem p_R_read {m x : Nat} {post : Int32 → St_ → Prop} (h : MA_ st N K) (hm : m < 8) (hx : x < 4096) (k1 : ∀ s, (x, s) ∈ N m → post (nI s) st) (k2 : (∀ s, (x, s) ∉ N m) → post (-2) st) : wp_R_read w (nI m) (nI x) st post := by
  unfold wp_R_read
  obtain ⟨h1, h2, h3, h4, h5, h6⟩ := h
  obtain ⟨v1, v2⟩ := h1 m hm x hx
  refine p_R_isMap1 hm (br_f (by decide) (p_R_isKey1 hx (rb_t (by decide) ?_)))
  rw [mx_e]
  refine ⟨vp_in_nI (by omega) (by omega), fun y hy => ?_⟩
  rw [nI_clamp (n := 4096 * m + x) (by omega)] at hy
  rw [hy]
  by_cases hex : ∃ t, (x, t) ∈ N m
  · obtain ⟨t, ht⟩ := hex
    have htb := ((h5.1 m hm).2 _ ht).2
    rw [v1 t ht, nI_pred]
    exact rb_t (nI_ne0 (by omega) (by simp only at htb; omega)) (k1 t ht)
  · have hno : ∀ t, (x, t) ∉ N m := fun t ht => hex ⟨t, ht⟩
    rw [v2 hno]
    exact rb_f rfl (k2 hno)
theorem p_R_erase {m x : Nat} {post : Int32 → St_ → Prop} (h : MA_ st N K) (hm : m < 8) (hx : x < 4096) (k1 : ∀ s, (x, s) ∈ N m → ∀ st', MA_ st' (va_up N m (dz_ x (N m))) K → Fo_ st st' → post (nI s) st') (k2 : (∀ s, (x, s) ∉ N m) → post (-2) st) : wp_R_erase w (nI m) (nI x) st post := by
  unfold wp_R_erase
  refine p_R_read h hm hx (fun s hs => ?_) (fun hn => br_t (by decide) (k2 hn))
  obtain ⟨h1, h2, h3, h4, h5, h6⟩ := h
  have hso := (h5.1 m hm).1
  have hsb := ((h5.1 m hm).2 _ hs).2
  have hl := dz_len1 hso hs
  refine br_f (nI_pos (by simp only at hsb; omega)) ?_
  rw [mx_e]
  refine ⟨vp_in_nI (by omega) (by omega), fun s1 e1 => ⟨vp_in_nI hm (by omega), vp_in_nI hm (by omega), fun s2 e2 => ?_⟩⟩
  rw [nI_clamp (n := 4096 * m + x) (by omega)] at e1
  rw [nI_clamp (n := m) (by omega), e1, ws_1_arr (by decide), h3 m hm, nI_p (by omega)] at e2
  refine k1 s hs s2 ⟨mv_set h1 hm hx (v := 0) (by rw [e2, ws_1_arr (by decide), ws_1_fun]) (fun k u hk => by rw [dz_mem]; simp [hk]) (fun u hu => absurd rfl ((dz_mem x x u _).mp hu).1) (fun _ => rfl), mv_c h2 (by rw [e2, ws_1_arr (by decide), ws_1_arr (by decide)]), mc_set h3 (by rw [e2, ws_1_at]; congr 1; omega) (fun i hi => by rw [e2, ws_1_ne hi, ws_1_arr (by decide)]), mc_c h4 (by rw [e2, ws_1_arr (by decide), ws_1_arr (by decide)]), h5.sub hm (dz_so hso) (by omega) (fun q hq => ((dz_mem x q.1 q.2 _).mp hq).2), h6⟩ (fun k hk => by rw [e2, ws_1_arr (by omega), ws_1_arr (by omega)])
theorem p_R_cut_loop {m a b : Nat} {post : Int32 → St_ → Prop} (hm : m < 8) (hb : b < 4096) (st0 : St_)
    (k : ∀ st', MA_ st' (va_up N m (cz_ a b (N m))) K → Fo_ st0 st' → post (nI ((N m).length - (cz_ a b (N m)).length)) st') :
    ∀ (n i r : Nat) (s : St_) (L : List (Nat × Nat)), a ≤ i → i ≤ b + 1 → b + 1 < n + i → MA_ s (va_up N m L) K → Fo_ st0 s → L.length + r = (N m).length → cz_ a b L = cz_ a b (N m) → (∀ p ∈ L, a ≤ p.1 → i ≤ p.1) → wp_R_cut_34 w post n (nI m) (nI a) (nI b) (nI r) (nI i) s := by
  intro n
  induction n with
  | zero => intro i r s L h1 h2 h3; omega
  | succ n ih =>
    intro i r s L hai h1 h2 hT hF hlen hcz hge
    refine pk_lt b i (fun hlt => ?_) (fun hle => ?_) rfl rfl (by omega) (by omega)
    · have e : cz_ a b L = L := cz_no (fun p hp h => by have := hge p hp h; omega)
      rw [e] at hcz
      have := k s (by rw [← hcz]; exact hT) hF
      rw [← hcz, show (N m).length - L.length = r by omega] at this
      exact this
    · refine p_R_erase hT hm (by omega) (fun t ht s1 hT1 hF1 => ?_) (fun hn => ?_)
      · have htb := (((hT.2.2.2.2.1).1 m hm).2 _ ht).2
        have hso := ((hT.2.2.2.2.1).1 m hm).1
        rw [va_up_self] at ht hso hT1
        rw [bx_uu] at hT1
        have hl := dz_len1 hso ht
        refine br_f (nI_pos (by simp only at htb; omega)) (fun y hy z hz => ?_)
        rw [hy, hz, nI_1, nI_1]
        refine ih (i + 1) (r + 1) s1 (dz_ i L) (by omega) (by omega) (by omega) hT1 (hF.tr hF1) (by omega) (by rw [cz_dz hai hle]; exact hcz) (fun p hp h => ?_)
        obtain ⟨p1, p2⟩ := (dz_mem i p.1 p.2 L).mp hp
        have := hge p p2 h
        omega
      · refine br_t (by decide) (fun y hy z hz => ?_)
        rw [hy, hz, nI_1, show nI r + 0 = nI r from nI_add r 0]
        rw [va_up_self] at hn
        refine ih (i + 1) r s L (by omega) (by omega) (by omega) hT hF hlen hcz (fun p hp h => ?_)
        have := hge p hp h
        have : p.1 ≠ i := fun e => hn p.2 (by rw [← e]; exact hp)
        omega
theorem p_R_cut {m a b : Nat} {post : Int32 → St_ → Prop} (h : MA_ st N K) (hm : m < 8) (ha : a < 4096) (hb : b < 4096) (hab : a ≤ b)
    (k : ∀ st', MA_ st' (va_up N m (cz_ a b (N m))) K → Fo_ st st' → post (nI ((N m).length - (cz_ a b (N m)).length)) st') : wp_R_cut w (nI m) (nI a) (nI b) st post := by
  unfold wp_R_cut
  refine p_R_isMap1 hm (br_f (by decide) (p_R_isKey1 ha (br_f (by decide) (p_R_isKey1 hb (br_f (by decide) (br_t (nI_le hab (by omega)) ⟨b + 2, ?_⟩))))))
  exact p_R_cut_loop (N := N) (K := K) hm hb st k (b + 2) a 0 st (N m) (by omega) (by omega) (by omega) (by rw [va_up_id]; exact h) Fo_.rf (by omega) rfl (fun p _ h => h)
theorem p_R_next_loop {m x : Nat} {post : Int32 → St_ → Prop} (h : MA_ st N K) (hm : m < 8) (k : ∀ r, LK_ (N m) x r → post r st) (y : Int32) :
    ∀ (n i : Nat), x ≤ i → i ≤ 4096 → 4096 < n + i → (∀ p ∈ N m, x ≤ p.1 → i ≤ p.1) → wp_R_next_18 w post n (nI m) y (nI i) st := by
  intro n
  induction n with
  | zero => intro i h1 h2 h3; omega
  | succ n ih =>
    intro i hxi h1 h2 hge
    refine pk_le 4096 i (fun hle => ?_) (fun hlt => ?_) rfl rfl (by omega) (by omega)
    · refine br_t (nI_le (a := 4096) hle (by omega)) (k _ (Or.inr ⟨rfl, fun p hp => ?_⟩))
      have := ((h.2.2.2.2.1.1 m hm).2 p hp).1
      rcases Nat.lt_or_ge p.1 x with q | q
      · exact q
      · have := hge p hp q; omega
    · rw [mx_e]
      refine ⟨vp_in_nI (by omega) (by omega), ?_⟩
      rw [nI_clamp (n := 4096 * m + i) (by omega)]
      obtain ⟨v1, v2⟩ := h.1 m hm i hlt
      by_cases hex : ∃ t, (i, t) ∈ N m
      · obtain ⟨t, ht⟩ := hex
        have htb := ((h.2.2.2.2.1.1 m hm).2 _ ht).2
        refine rb_t (by rw [v1 t ht]; exact nI_ne0 (by omega) (by simp only at htb; omega)) (br_f (nI_ge (b := 4096) hlt (by omega)) (k _ (Or.inl ⟨(i, t), ht, hxi, rfl, fun p hp q => hge p hp q⟩)))
      · have hno : ∀ t, (i, t) ∉ N m := fun t ht => hex ⟨t, ht⟩
        refine rb_f (v2 hno) (fun z hz => ?_)
        rw [hz, nI_1]
        refine ih (i + 1) (by omega) (by omega) (by omega) (fun p hp q => ?_)
        have := hge p hp q
        have : p.1 ≠ i := fun e => hno p.2 (by rw [← e]; exact hp)
        omega
theorem p_R_next {m x : Nat} {post : Int32 → St_ → Prop} (h : MA_ st N K) (hm : m < 8) (hx : x < 4096) (k : ∀ r, LK_ (N m) x r → post r st) : wp_R_next w (nI m) (nI x) st post := by
  unfold wp_R_next
  refine p_R_isMap1 hm (br_f (by decide) (p_R_isKey1 hx (rb_t (by decide) ⟨4097, ?_⟩)))
  exact p_R_next_loop h hm k _ 4097 x (by omega) (by omega) (by omega) (fun p _ h => h)
theorem p_R_drop {m : Nat} {post : Int32 → St_ → Prop} (h : MA_ st N K) (hm : m < 8) (k : ∀ st', MA_ st' (va_up N m []) K → Fo_ st st' → post (nI (N m).length) st') : wp_R_drop w (nI m) st post := by
  unfold wp_R_drop
  refine p_R_isMap1 hm (rb_t (by decide) ⟨vp_in_nI hm (by omega), fun y hy => ?_⟩)
  rw [nI_clamp (n := m) (by omega), h.2.2.1 m hm] at hy
  rw [hy]
  have e : cz_ 0 4095 (N m) = [] := by
    simp only [cz_]
    rw [List.filter_eq_nil_iff]
    intro q hq
    have := ((h.2.2.2.2.1.1 m hm).2 q hq).1
    simp
    omega
  exact p_R_cut (a := 0) (b := 4095) h hm (by omega) (by omega) (by omega) (fun s1 hM hF => by rw [e] at hM; exact k s1 hM hF)
theorem p_R_keys {m : Nat} {post : Int32 → St_ → Prop} (h : MA_ st N K) (hm : m < 8) (k : post (nI (N m).length) st) : wp_R_keys w (nI m) st post := by
  unfold wp_R_keys
  refine rb_t (fun e => nI_pos (n := m) (by omega) (by rw [e]; decide)) (p_R_isMap1 hm (br_f (by decide) ⟨vp_in_nI hm (by omega), ?_⟩))
  rw [nI_clamp (n := m) (by omega), h.2.2.1 m hm]
  exact k
theorem p_R_keysA {post : Int32 → St_ → Prop} (h : MA_ st N K) (k : post (nI (nl8_ N)) st) : wp_R_keys w (-1) st post := by
  unfold wp_R_keys
  exact rb_f rfl (p_R_all h.2.2.1 k)
end RF
