-- PURE: Trees.stampOf, Trees.keyFrom
theorem nI_m2 {n : Nat} (h : n < 2 ^ 31) : ¬ nI n = -2 := fun e => by
  have h1 := congrArg Int32.toInt e
  rw [nI_toInt h] at h1
  have h2 : (-2 : Int32).toInt = -2 := by decide
  rw [h2] at h1
  omega
theorem so_ix {L : List (Nat × Nat)} (hs : so_ L) {i k : Nat} (hik : i < k) (hk : k < L.length) : (L.getD i (0, 0)).1 < (L.getD k (0, 0)).1 := by
  have h := List.pairwise_iff_getElem.mp hs i k (by omega) hk hik
  simp only [List.getD_eq_getElem?_getD, List.getElem?_eq_getElem hk, List.getElem?_eq_getElem (show i < L.length by omega)]
  exact h
theorem mem_ix {L : List (Nat × Nat)} {e : Nat × Nat} (h : e ∈ L) : ∃ i, i < L.length ∧ L.getD i (0, 0) = e := by
  obtain ⟨i, hi, he⟩ := List.getElem_of_mem h
  exact ⟨i, hi, by rw [List.getD_eq_getElem?_getD, List.getElem?_eq_getElem hi]; exact he⟩
/-- of a sorted list: the entries below j have keys not above k, the others greater ones -/
theorem fk_lo {L : List (Nat × Nat)} (hs : so_ L) {k j : Nat} (hj : fk_ L k j) {i : Nat} (hi : i < L.length) : (i < j → (L.getD i (0, 0)).1 ≤ k) ∧ (j ≤ i → k < (L.getD i (0, 0)).1) := by
  refine ⟨hj.2.1 i, fun h => ?_⟩
  have h1 := hj.2.2 (by omega)
  by_cases e : j = i
  · subst e; exact h1
  · have := so_ix hs (show j < i by omega) hi
    omega
theorem fk_no {L : List (Nat × Nat)} (hs : so_ L) {k j : Nat} (hj : fk_ L k j) (h : j = 0 ∨ (L.getD (j - 1) (0, 0)).1 ≠ k) : ∀ s, (k, s) ∉ L := by
  intro s hm
  obtain ⟨i, hi, he⟩ := mem_ix hm
  have he1 : (L.getD i (0, 0)).1 = k := by rw [he]
  obtain ⟨h1, h2⟩ := fk_lo hs hj hi
  by_cases hij : j ≤ i
  · have := h2 hij; omega
  · rcases h with h | h
    · omega
    · by_cases e : i = j - 1
      · subst e; exact h he1
      · have h3 := so_ix hs (show i < j - 1 by omega) (by have := hj.1; omega)
        have h4 := hj.2.1 (j - 1) (by omega)
        omega
theorem nI_p {j : Nat} (h : 1 ≤ j) : nI j - 1 = nI (j - 1) := by
  have := nI_pred (j - 1)
  rw [show j - 1 + 1 = j by omega] at this
  exact this
section PS
variable {w : Nat} {R : Nat → Nat} {Z : List Nat} {G : Sg_} {st : St_}
theorem p_slotOf0 {x : Int32} {post : Int32 → St_ → Prop} (hw : 5 ≤ w ∧ w ≤ 32) (k : post (-1) st) : wp_B_slotOf w 0 x st post := by
  unfold wp_B_slotOf
  intro z hz
  refine p_size0 ?_
  intro y hy
  rw [if_neg (nI_pos (by omega))] at hy
  subst hy
  refine ⟨1, ?_⟩
  exact br_t (by decide) k
theorem p_stampOf_loop {k0 : Int32} {x : Nat} {post : Int32 → St_ → Prop} (hw : 5 ≤ w ∧ w ≤ 32) (hR : Rp_ w st G) (hI : Ic_ w [] 16 R Z G) (hx : x < 4096) :
    ∀ (n m b : Nat), 1 ≤ gw_ G b → gl_ G b = m → m < n → (∀ s, (x, s) ∈ et_ (ge_ G) m b → post (nI s) st) → ((∀ s, (x, s) ∉ et_ (ge_ G) m b) → post (-2) st) → wp_T_stampOf_12 w post n k0 (nI x) (nI b) (nI m) st := by
  intro n
  induction n with
  | zero => intro m b _ _ h; omega
  | succ n ih =>
    intro m b hb hm hn k1 k2
    obtain ⟨b1, b2, b3⟩ := hI.1 b hb
    have hv := hI.2.2.2 b hb b3
    have hl3 := (hR.1 b b1 b2).2.2.2.1
    refine pk_le m 0 (fun h0 => ?_) (fun h0 => ?_) rfl rfl (by omega) (by omega)
    · have hm0 : m = 0 := by omega
      subst hm0
      have hso : so_ (ge_ G b) := by have := hv.2.1; rw [hm] at this; exact this
      refine p_slotOf hw hR ⟨b1, b2⟩ hx (fun j hj => ?_)
      by_cases hj0 : j = 0
      · subst hj0
        refine p_keyM ⟨b1, b2⟩ i_m1 (rb_t (fun e => nI_m2 (by omega) e.symm) ?_)
        exact k2 (fk_no hso hj (Or.inl rfl))
      · rw [nI_p (by omega)]
        have hji : j - 1 < (ge_ G b).length := by have := hj.1; omega
        have hbd := hR.bd hji
        refine p_key hw hR ⟨b1, b2⟩ hji ?_
        by_cases he : ((ge_ G b).getD (j - 1) (0, 0)).1 = x
        · refine rb_f (by rw [he]) (p_goal hw hR ⟨b1, b2⟩ hji ?_)
          refine k1 _ ?_
          have := gd_mem hji
          rw [← he]
          exact this
        · refine rb_t (fun e => he ((nI_eq (by omega) (by omega)).mp e)) ?_
          exact k2 (fk_no hso hj (Or.inr he))
    · obtain ⟨q, rfl⟩ : ∃ q, m = q + 1 := ⟨m - 1, by omega⟩
      have hne := (hv.1 (by simp)).1
      refine p_slotToward hw hR ⟨b1, b2⟩ hx (fun j hj => ?_)
      obtain ⟨hi, hA, hB⟩ := loc_ hw.1 hI hb b3 hm hne hj
      refine p_goal hw hR ⟨b1, b2⟩ hi ?_
      obtain ⟨g1, g2, g3, g4⟩ := hI.child hb b3 (by omega) (gd_mem hi)
      intro y hy
      rw [hy, show nI (q + 1) + (-1) = nI q from pk_m1 q]
      have he : et_ (ge_ G) (q + 1) b = fm_ (ge_ G) q ((ge_ G b).take (j - 1)) ++ (et_ (ge_ G) q ((ge_ G b).getD (j - 1) (0, 0)).2 ++ fm_ (ge_ G) q ((ge_ G b).drop (j - 1 + 1))) := by
        rw [et_succ]
        conv => lhs; rw [spl_ hi]
        rw [fm_app, fm_cons]
      have hmem : ∀ s, (x, s) ∈ et_ (ge_ G) (q + 1) b ↔ (x, s) ∈ et_ (ge_ G) q ((ge_ G b).getD (j - 1) (0, 0)).2 := fun s => by
        rw [he, List.mem_append, List.mem_append]
        constructor
        · rintro (h | h | h)
          · have := hA _ h; simp at this
          · exact h
          · have := hB _ h; simp at this
        · exact fun h => Or.inr (Or.inl h)
      exact ih q _ g1 (by omega) (by omega) (fun s h => k1 s ((hmem s).mpr h)) (fun h => k2 (fun s hs => h s ((hmem s).mp hs)))
theorem p_stampOf {b x : Nat} {post : Int32 → St_ → Prop} (hw : 5 ≤ w ∧ w ≤ 32) (hR : Rp_ w st G) (hI : Ic_ w [] 16 R Z G) (hb : 1 ≤ gw_ G b) (hx : x < 4096)
    (k1 : ∀ s, (x, s) ∈ et_ (ge_ G) (gl_ G b) b → post (nI s) st) (k2 : (∀ s, (x, s) ∉ et_ (ge_ G) (gl_ G b) b) → post (-2) st) : wp_T_stampOf w (nI b) (nI x) st post := by
  unfold wp_T_stampOf
  obtain ⟨b1, b2, b3⟩ := hI.1 b hb
  exact p_level hR ⟨b1, b2⟩ ⟨gl_ G b + 1, p_stampOf_loop hw hR hI hx _ _ b hb rfl (by omega) k1 k2⟩
theorem p_stampOf0 {x : Nat} {post : Int32 → St_ → Prop} (hw : 5 ≤ w ∧ w ≤ 32) (hR : Rp_ w st G) (hx : x < 4096) (k : post (-2) st) : wp_T_stampOf w 0 (nI x) st post := by
  unfold wp_T_stampOf
  refine p_level0 ⟨1, ?_⟩
  refine br_t (by decide) (p_slotOf0 hw (p_key0 hR (rb_t (fun e => nI_m2 (by omega) e.symm) k)))
/-- r is the least key from k on, or -2 if there is none -/
def LK_ (L : List (Nat × Nat)) (k : Nat) (r : Int32) : Prop := (∃ q ∈ L, k ≤ q.1 ∧ r = nI q.1 ∧ ∀ p ∈ L, k ≤ p.1 → q.1 ≤ p.1) ∨ (r = -2 ∧ ∀ p ∈ L, p.1 < k)
def hk_ (L : List (Nat × Nat)) : Int32 := match L.head? with
  | none => -2
  | some e => nI e.1
theorem LK_left {A L : List (Nat × Nat)} {k : Nat} {r : Int32} (hA : ∀ q ∈ A, q.1 < k) (h : LK_ L k r) : LK_ (A ++ L) k r := by
  rcases h with ⟨q, h1, h2, h3, h4⟩ | ⟨h1, h2⟩
  · refine Or.inl ⟨q, List.mem_append_right _ h1, h2, h3, fun p hp hk => ?_⟩
    rcases List.mem_append.mp hp with h | h
    · have := hA p h; omega
    · exact h4 p h hk
  · refine Or.inr ⟨h1, fun p hp => ?_⟩
    rcases List.mem_append.mp hp with h | h
    · exact hA p h
    · exact h2 p h
theorem LK_hd {L : List (Nat × Nat)} {k : Nat} (hs : so_ L) (h : ∀ q ∈ L, k ≤ q.1) : LK_ L k (hk_ L) := by
  cases L with
  | nil => exact Or.inr ⟨rfl, fun p hp => by simp at hp⟩
  | cons e L =>
    refine Or.inl ⟨e, List.mem_cons_self, h e List.mem_cons_self, rfl, fun p hp _ => ?_⟩
    rcases List.mem_cons.mp hp with rfl | hp
    · exact Nat.le_refl _
    · have := (so_cons.mp hs).1 p hp; omega
theorem p_keyOr {b i : Nat} {a : Int32} {post : Int32 → St_ → Prop} (hw : 5 ≤ w ∧ w ≤ 32) (hR : Rp_ w st G) (hb : 1 ≤ b ∧ b ≤ 1200) (hi : i ≤ (ge_ G b).length)
    (k1 : i < (ge_ G b).length → post (nI ((ge_ G b).getD i (0, 0)).1) st) (k2 : i = (ge_ G b).length → post a st) : wp_T_keyOr w (nI b) (nI i) a st post := by
  unfold wp_T_keyOr
  have hl := (hR.1 b hb.1 hb.2).2.2.2.1
  refine p_size hR hb (pk_le (ge_ G b).length i (fun h => k2 (by omega)) (fun h => p_key hw hR hb h (k1 h)) rfl rfl (by omega) (by omega))
theorem p_keyFrom_loop {k0 : Int32} {x : Nat} {post : Int32 → St_ → Prop} (hw : 5 ≤ w ∧ w ≤ 32) (hR : Rp_ w st G) (hI : Ic_ w [] 16 R Z G) (hx : x < 4096) :
    ∀ (n m b : Nat) (Q : List (Nat × Nat)), 1 ≤ gw_ G b → gl_ G b = m → m < n → so_ (et_ (ge_ G) m b ++ Q) → (∀ q ∈ Q, x < q.1) → (∀ r, LK_ (et_ (ge_ G) m b ++ Q) x r → post r st) → wp_T_keyFrom_16 w post n k0 (nI x) (nI b) (hk_ Q) (nI m) st := by
  intro n
  induction n with
  | zero => intro m b Q _ _ h; omega
  | succ n ih =>
    intro m b Q hb hm hn hsQ hQ k
    obtain ⟨b1, b2, b3⟩ := hI.1 b hb
    have hv := hI.2.2.2 b hb b3
    have hl3 := (hR.1 b b1 b2).2.2.2.1
    refine pk_le m 0 (fun h0 => ?_) (fun h0 => ?_) rfl rfl (by omega) (by omega)
    · have hm0 : m = 0 := by omega
      subst hm0
      have hso : so_ (ge_ G b) := by have := hv.2.1; rw [hm] at this; exact this
      refine p_slotOf hw hR ⟨b1, b2⟩ hx (fun j hj => ?_)
      have hfin : (j = 0 ∨ ((ge_ G b).getD (j - 1) (0, 0)).1 ≠ x) → wp_T_keyOr w (nI b) (nI j - 1 + 1) (hk_ Q) st (fun r st => post r st) := by
        intro hno
        rw [i_sac]
        have hlow : ∀ q ∈ (ge_ G b).take j, q.1 < x := by
          intro q hq
          have hq2 := List.mem_of_mem_take hq
          obtain ⟨i, hi, he⟩ := mem_ix hq
          have hij : i < j := by simp at hi; omega
          have hil : i < (ge_ G b).length := by have := hj.1; omega
          have he2 : (ge_ G b).getD i (0, 0) = q := by
            rw [← he]
            simp only [List.getD_eq_getElem?_getD, List.getElem?_take_of_lt hij]
          have h1 := hj.2.1 i hij
          rw [he2] at h1
          rcases Nat.lt_or_ge q.1 x with h | h
          · exact h
          · exfalso
            have : (x, q.2) ∈ ge_ G b := by rw [show x = q.1 by omega]; exact hq2
            exact fk_no hso hj hno q.2 this
        have hhi : ∀ q ∈ (ge_ G b).drop j ++ Q, x ≤ q.1 := by
          intro q hq
          rcases List.mem_append.mp hq with h | h
          · obtain ⟨i, hi, he⟩ := mem_ix h
            have hil : j + i < (ge_ G b).length := by simp at hi; omega
            have he2 : (ge_ G b).getD (j + i) (0, 0) = q := by
              rw [← he]
              simp only [List.getD_eq_getElem?_getD, List.getElem?_drop]
            have := (fk_lo hso hj hil).2 (by omega)
            rw [he2] at this
            omega
          · have := hQ q h; omega
        have hsplit : et_ (ge_ G) 0 b ++ Q = (ge_ G b).take j ++ ((ge_ G b).drop j ++ Q) := by
          rw [← List.append_assoc, List.take_append_drop]; rfl
        have hso2 : so_ ((ge_ G b).drop j ++ Q) := by
          rw [hsplit] at hsQ
          exact (so_app.mp hsQ).2.1
        have hr := LK_left hlow (LK_hd hso2 hhi)
        rw [← hsplit] at hr
        have hk := k _ hr
        refine p_keyOr hw hR ⟨b1, b2⟩ hj.1 (fun h => ?_) (fun h => ?_)
        · have : hk_ ((ge_ G b).drop j ++ Q) = nI ((ge_ G b).getD j (0, 0)).1 := by
            rw [List.drop_eq_getElem_cons h]
            simp [hk_, List.getD_eq_getElem?_getD, List.getElem?_eq_getElem h]
          rw [this] at hk
          exact hk
        · have : hk_ ((ge_ G b).drop j ++ Q) = hk_ Q := by
            rw [h, List.drop_length]; rfl
          rw [this] at hk
          exact hk
      by_cases hj0 : j = 0
      · subst hj0
        exact p_keyM ⟨b1, b2⟩ i_m1 (rb_t (fun e => nI_m2 (by omega) e.symm) (hfin (Or.inl rfl)))
      · have hf := hfin
        rw [nI_p (by omega)] at hf ⊢
        have hji : j - 1 < (ge_ G b).length := by have := hj.1; omega
        have hbd := hR.bd hji
        refine p_key hw hR ⟨b1, b2⟩ hji ?_
        by_cases he : ((ge_ G b).getD (j - 1) (0, 0)).1 = x
        · refine rb_f (by rw [he]) (k _ (Or.inl ⟨(ge_ G b).getD (j - 1) (0, 0), List.mem_append_left _ (gd_mem hji), by omega, by rw [he], fun p _ hp => by omega⟩))
        · exact rb_t (fun e => he ((nI_eq (by omega) (by omega)).mp e)) (hf (Or.inr he))
    · obtain ⟨q, rfl⟩ : ∃ q, m = q + 1 := ⟨m - 1, by omega⟩
      have hne := (hv.1 (by simp)).1
      refine p_slotToward hw hR ⟨b1, b2⟩ hx (fun j hj => ?_)
      obtain ⟨hi, hA, hB⟩ := loc_ hw.1 hI hb b3 hm hne hj
      obtain ⟨g1, g2, g3, g4⟩ := hI.child hb b3 (by omega) (gd_mem hi)
      have he : et_ (ge_ G) (q + 1) b = fm_ (ge_ G) q ((ge_ G b).take (j - 1)) ++ (et_ (ge_ G) q ((ge_ G b).getD (j - 1) (0, 0)).2 ++ fm_ (ge_ G) q ((ge_ G b).drop (j - 1 + 1))) := by
        rw [et_succ]
        conv => lhs; rw [spl_ hi]
        rw [fm_app, fm_cons]
      rw [he, List.append_assoc, List.append_assoc] at hsQ
      have hs2 := (so_app.mp hsQ).2.1
      have hgo : ∀ a : Int32, a = hk_ (fm_ (ge_ G) q ((ge_ G b).drop (j - 1 + 1)) ++ Q) → wp_B_goal w (nI b) (nI (j - 1)) st (fun (r114 : Int32) (st113 : St_) => ∀ x115 : Int32, x115 = nI (q + 1) + (-1) → (wp_T_keyFrom_16 w post n k0 (nI x) r114 a x115 st113)) := by
        intro a ha
        subst ha
        refine p_goal hw hR ⟨b1, b2⟩ hi ?_
        intro y hy
        rw [hy, show nI (q + 1) + (-1) = nI q from pk_m1 q]
        refine ih q _ _ g1 (by omega) (by omega) hs2 (fun p hp => ?_) (fun r hr => k r ?_)
        · rcases List.mem_append.mp hp with h | h
          · exact hB p h
          · exact hQ p h
        · rw [he, List.append_assoc, List.append_assoc]
          exact LK_left hA hr
      rw [show nI (j - 1) + 1 = nI (j - 1 + 1) from nI_1 _]
      refine p_keyOr hw hR ⟨b1, b2⟩ (by omega) (fun h => hgo _ ?_) (fun h => hgo _ ?_)
      · obtain ⟨k1, k2, k3, k4⟩ := hI.child hb b3 (by omega) (gd_mem h)
        have hh2 := et_hd hw.1 hI q ((ge_ G b).getD (j - 1 + 1) (0, 0)).2 k1 (by omega) (by omega)
        rw [k4] at hh2
        have hd : (ge_ G b).drop (j - 1 + 1) = (ge_ G b).getD (j - 1 + 1) (0, 0) :: (ge_ G b).drop (j - 1 + 1 + 1) := by
          rw [List.drop_eq_getElem_cons h, List.getD_eq_getElem?_getD, List.getElem?_eq_getElem h]
          rfl
        rw [hd, fm_cons]
        cases hc : et_ (ge_ G) q ((ge_ G b).getD (j - 1 + 1) (0, 0)).2 with
        | nil => rw [hc] at hh2; simp at hh2
        | cons d D =>
          rw [hc] at hh2
          simp only [List.head?_cons, Option.map_some, Option.some.injEq] at hh2
          simp [hk_, hh2]
      · rw [h, List.drop_length]; rfl
theorem p_keyFrom {b x : Nat} {post : Int32 → St_ → Prop} (hw : 5 ≤ w ∧ w ≤ 32) (hR : Rp_ w st G) (hI : Ic_ w [] 16 R Z G) (hb : 1 ≤ gw_ G b) (hx : x < 4096)
    (k : ∀ r, LK_ (et_ (ge_ G) (gl_ G b) b) x r → post r st) : wp_T_keyFrom w (nI b) (nI x) st post := by
  unfold wp_T_keyFrom
  obtain ⟨b1, b2, b3⟩ := hI.1 b hb
  have hv := hI.2.2.2 b hb b3
  refine p_level hR ⟨b1, b2⟩ ⟨gl_ G b + 1, ?_⟩
  have := p_keyFrom_loop (k0 := nI b) (post := post) hw hR hI hx (gl_ G b + 1) (gl_ G b) b [] hb rfl (by omega) (by rw [List.append_nil]; exact hv.2.1) (fun q hq => by simp at hq) (fun r hr => k r (by rw [List.append_nil] at hr; exact hr))
  exact this
theorem p_keyFrom0 {x : Nat} {post : Int32 → St_ → Prop} (hw : 5 ≤ w ∧ w ≤ 32) (hR : Rp_ w st G) (hx : x < 4096) (k : post (-2) st) : wp_T_keyFrom w 0 (nI x) st post := by
  unfold wp_T_keyFrom
  refine p_level0 ⟨1, ?_⟩
  refine br_t (by decide) (p_slotOf0 hw (p_key0 hR (rb_t (fun e => nI_m2 (by omega) e.symm) ?_)))
  unfold wp_T_keyOr
  exact p_size0 (br_t (by decide) k)
end PS
