-- PURE: check answers 0
theorem sm_pre {i n : Nat} (f : Nat → Nat) (h : i ≤ n) : sm_ i f ≤ sm_ n f := by
  induction n with
  | zero => rw [show i = 0 by omega]; exact Nat.le_refl _
  | succ n ih =>
    by_cases e : i = n + 1
    · rw [e]; exact Nat.le_refl _
    · have h1 := ih (by omega)
      show sm_ i f ≤ sm_ n f + f n
      omega
section CQ
variable {w : Nat} {G : Sg_} {R : Nat → Nat} {rn rk : Nat → Nat} {st0 : St_}
theorem p_faultOfTree {r : Nat} {y : Int32} {f : Nat → Nat} {s : St_} {post : Int32 → St_ → Prop} (hw : 5 ≤ w ∧ w ≤ 32) (hR0 : Rp_ w st0 G) (hI : Ic_ w [] 16 R [] G) (hr : r = 0 ∨ 1 ≤ gw_ G r) (hok : ok_ G r) (hD : Dv_ G s f 17) (hF : Fi_ st0 s) (hB : ∀ x, 1 ≤ x → f x + un_ G f x + (if x = r then 1 else 0) < 2 ^ 31)
    (k : ∀ s' f', Dv_ G s' f' 17 → Fi_ st0 s' → (∀ x, 1 ≤ x → f' x + un_ G f' x = f x + un_ G f x + (if x = r then 1 else 0)) → post 0 s') : wp_I_faultOfTree w (nI r) (nI (tr_ G r).length) y s post := by
  unfold wp_I_faultOfTree
  by_cases h0 : r = 0
  · subst h0
    refine rb_f rfl (rb_f rfl (k s f hD hF (fun x hx => by rw [if_neg (by omega)]; rfl)))
  · have hu : 1 ≤ gw_ G r := by rcases hr with h | h; exact absurd h h0; exact h
    obtain ⟨b1, b2, b3⟩ := hI.1 r hu
    have hv := hI.2.2.2 r hu b3
    have hR := hF.rp hR0
    have hlw := (hR0.1 r b1 b2).2.2.2.1
    have hgo : wp_I_faultBelow w 20 (nI r) (nI (gl_ G r)) s (fun (r108 : Int32) (st107 : St_) => ((r108 = 0 → vp_in (nI r) 1201 ∧ (((¬ (st107 7 (nI r).toNatClampNeg) = (nI (tr_ G r).length) → post y st107) ∧ ((st107 7 (nI r).toNatClampNeg) = (nI (tr_ G r).length) → post 0 st107)))) ∧ (¬ r108 = 0 → post r108 st107))) := by
      refine p_faultBelow hw hR0 hI (gl_ G r) 20 r f s _ (by omega) rfl hu ⟨hD.1, fun p hp hpl hpf => hD.2 p hp (by omega) hpf⟩ hF hB (fun s1 f1 hD1 hF1 hfr hP hfrm => br_t rfl ⟨vp_in_nI (by omega) (by omega), ?_⟩)
      have hD17 : Dv_ G s1 f1 17 := ⟨hD1.1, fun p hp hpl hpf => by
        by_cases e : gl_ G p < gl_ G r + 1
        · exact hD1.2 p hp e hpf
        · obtain ⟨x1, x2, x3⟩ := hfrm p (by omega)
          rw [x2, x3]; rw [x1] at hpf
          exact hD.2 p hp hpl hpf⟩
      rw [nI_clamp (n := r) (by omega)]
      refine rb_f ?_ (k s1 f1 hD17 hF1 hP)
      rw [(hD1.2 r hu (by omega) hfr).1, tr_1 b1]
    refine rb_t (nI_ne0 (by omega) (by omega)) (p_isBlock ⟨b1, b2⟩ (rb_t (by decide) (p_level hR ⟨b1, b2⟩ (p_size hR ⟨b1, b2⟩ ?_))))
    by_cases hl : gl_ G r = 0
    · refine rb_f (by rw [hl]; rfl) (br_t (nI_le (a := 1) (hv.1 (by simp)).1 (by omega)) hgo)
    · refine rb_t (nI_ne0 (by omega) (by omega)) (br_t (nI_le (a := 2) (by rcases hok b1 with h | h; exact absurd h hl; exact h) (by omega)) hgo)
theorem p_faultOfMaps22 {Bs : Nat → Nat} {y : Int32} {f : Nat → Nat} {s : St_} {post : Int32 → St_ → Prop} (hw : 5 ≤ w ∧ w ≤ 32) (h : T0_ w st0 G rn rk) (h600 : sm_ 8 (ln_ G rn) ≤ 600) (hBs : ∀ x, 1 ≤ x → Bs x + sm_ 8 (fun j => if rn j = x then 1 else 0) < 2 ^ 31) (hD : Dv_ G s f 17) (hF : Fi_ st0 s) (hP : ∀ x, 1 ≤ x → f x + un_ G f x = Bs x)
    (k : ∀ s' f', Dv_ G s' f' 17 → Fi_ st0 s' → (∀ x, 1 ≤ x → f' x + un_ G f' x = Bs x + sm_ 8 (fun j => if rn j = x then 1 else 0)) → post 0 s') : wp_I_faultOfMaps_22 w y s post := by
  have hloop : ∀ (n i : Nat) (s : St_) (f : Nat → Nat), i ≤ 8 → 8 < n + i → Dv_ G s f 17 → Fi_ st0 s → (∀ x, 1 ≤ x → f x + un_ G f x = Bs x + sm_ i (fun j => if rn j = x then 1 else 0)) → wp_I_faultOfMaps_22_5 w post n y (nI (sm_ i (ln_ G rn))) (nI i) s := by
    intro n
    induction n with
    | zero => intro i s f h1 h2; omega
    | succ n ih =>
      intro i s f hi hn hD hF hP
      refine pk_le 8 i (fun hle => ?_) (fun hlt => ?_) rfl rfl (by omega) (by omega)
      · have e : i = 8 := by omega
        subst e
        rw [hF 19 (by omega), h.2.2.2.2.1]
        exact rb_f rfl (br_f (nI_nlt (a := 600) h600 (by omega)) (k s f hD hF hP))
      · obtain ⟨q1, q2, q3, q4⟩ := h.2.2.1 i hlt
        refine ⟨vp_in_nI hlt (by omega), vp_in_nI hlt (by omega), ?_⟩
        rw [nI_clamp (n := i) (by omega), hF 10 (by omega), hF 11 (by omega), q2, q3]
        have hst : ∀ x, sm_ (i + 1) (fun j => if rn j = x then 1 else 0) = sm_ i (fun j => if rn j = x then 1 else 0) + (if x = rn i then 1 else 0) := fun x => by
          show _ + (if rn i = x then 1 else 0) = _
          simp only [eq_comm]
        refine p_faultOfTree (r := rn i) hw h.1 h.2.1 (by rcases Nat.eq_zero_or_pos (rn i) with e | e; exact Or.inl e; exact Or.inr (h.used hlt e)) q4 hD hF (fun x hx => ?_) (fun s1 f1 hD1 hF1 hP1 => br_t rfl ⟨vp_in_nI hlt (by omega), fun z hz u hu => ?_⟩)
        · have h1 := sm_pre (fun j => if rn j = x then 1 else 0) (show i + 1 ≤ 8 by omega)
          have h2 := hst x
          have h3 := hBs x hx
          have h4 := hP x hx
          omega
        · rw [hF1 11 (by omega), q3, nI_add] at hz
          rw [hz, hu, nI_1]
          exact ih (i + 1) s1 f1 (by omega) (by omega) hD1 hF1 (fun x hx => by rw [hP1 x hx, hP x hx, hst x]; omega)
  exact ⟨9, hloop 9 0 s f (by omega) (by omega) hD hF (fun x hx => by rw [hP x hx]; rfl)⟩
theorem p_faultOfMaps23 {Bs : Nat → Nat} {y : Int32} {f : Nat → Nat} {s : St_} {post : Int32 → St_ → Prop} (hw : 5 ≤ w ∧ w ≤ 32) (h : T0_ w st0 G rn rk) (h600 : sm_ 8 (ln_ G rk) ≤ 600) (hBs : ∀ x, 1 ≤ x → Bs x + sm_ 8 (fun j => if rk j = x then 1 else 0) < 2 ^ 31) (hD : Dv_ G s f 17) (hF : Fi_ st0 s) (hP : ∀ x, 1 ≤ x → f x + un_ G f x = Bs x)
    (k : ∀ s' f', Dv_ G s' f' 17 → Fi_ st0 s' → (∀ x, 1 ≤ x → f' x + un_ G f' x = Bs x + sm_ 8 (fun j => if rk j = x then 1 else 0)) → post 0 s') : wp_I_faultOfMaps_23 w y s post := by
  have hloop : ∀ (n i : Nat) (s : St_) (f : Nat → Nat), i ≤ 8 → 8 < n + i → Dv_ G s f 17 → Fi_ st0 s → (∀ x, 1 ≤ x → f x + un_ G f x = Bs x + sm_ i (fun j => if rk j = x then 1 else 0)) → wp_I_faultOfMaps_23_5 w post n y (nI (sm_ i (ln_ G rk))) (nI i) s := by
    intro n
    induction n with
    | zero => intro i s f h1 h2; omega
    | succ n ih =>
      intro i s f hi hn hD hF hP
      refine pk_le 8 i (fun hle => ?_) (fun hlt => ?_) rfl rfl (by omega) (by omega)
      · have e : i = 8 := by omega
        subst e
        rw [hF 20 (by omega), h.2.2.2.2.2]
        exact rb_f rfl (br_f (nI_nlt (a := 600) h600 (by omega)) (k s f hD hF hP))
      · obtain ⟨q1, q2, q3, q4⟩ := h.2.2.2.1 i hlt
        refine ⟨vp_in_nI hlt (by omega), vp_in_nI hlt (by omega), ?_⟩
        rw [nI_clamp (n := i) (by omega), hF 12 (by omega), hF 13 (by omega), q2, q3]
        have hst : ∀ x, sm_ (i + 1) (fun j => if rk j = x then 1 else 0) = sm_ i (fun j => if rk j = x then 1 else 0) + (if x = rk i then 1 else 0) := fun x => by
          show _ + (if rk i = x then 1 else 0) = _
          simp only [eq_comm]
        refine p_faultOfTree (r := rk i) hw h.1 h.2.1 (by rcases Nat.eq_zero_or_pos (rk i) with e | e; exact Or.inl e; exact Or.inr (h.usedk hlt e)) q4 hD hF (fun x hx => ?_) (fun s1 f1 hD1 hF1 hP1 => br_t rfl ⟨vp_in_nI hlt (by omega), fun z hz u hu => ?_⟩)
        · have h1 := sm_pre (fun j => if rk j = x then 1 else 0) (show i + 1 ≤ 8 by omega)
          have h2 := hst x
          have h3 := hBs x hx
          have h4 := hP x hx
          omega
        · rw [hF1 13 (by omega), q3, nI_add] at hz
          rw [hz, hu, nI_1]
          exact ih (i + 1) s1 f1 (by omega) (by omega) hD1 hF1 (fun x hx => by rw [hP1 x hx, hP x hx, hst x]; omega)
  exact ⟨9, hloop 9 0 s f (by omega) (by omega) hD hF (fun x hx => by rw [hP x hx]; rfl)⟩
theorem p_faultOfFree {s : St_} {post : Int32 → St_ → Prop} (hR : Rp_ w s G) (hI : Ic_ w [] 16 R [] G) (hL : ∀ p, p ≤ 1200 → s 9 p = 0)
    (k : ∀ s', (∀ q, q ≠ 9 → s' q = s q) → (∀ p, 1 ≤ p → p ≤ 1200 → s' 9 p = if p ∈ gf_ G then 1 else 0) → post 0 s') : wp_I_faultOfFree w s post := by
  unfold wp_I_faultOfFree wp_B_freeCount
  have h18 := hR.2.2.1
  have hlen := hR.2.2.2.1
  have hloop : ∀ (n i : Nat) (s1 : St_), i ≤ (gf_ G).length → (gf_ G).length < n + i → (∀ q, q ≠ 9 → s1 q = s q) → (∀ p, 1 ≤ p → p ≤ 1200 → s1 9 p = if p ∈ (gf_ G).take i then 1 else 0) → wp_I_faultOfFree_25 w post n (nI (gf_ G).length) (nI i) s1 := by
    intro n
    induction n with
    | zero => intro i s1 h1 h2; omega
    | succ n ih =>
      intro i s1 hi hn ho h9
      refine pk_le (gf_ G).length i (fun hle => ?_) (fun hlt => ?_) rfl rfl (by omega) (by omega)
      · rw [List.take_of_length_le hle] at h9
        exact k s1 ho h9
      · have hgd : (gf_ G)[i]? = some ((gf_ G).getD i 0) := by
          rw [List.getD_eq_getElem?_getD, List.getElem?_eq_getElem hlt]; rfl
        have hmem : (gf_ G).getD i 0 ∈ gf_ G := List.mem_of_getElem? hgd
        obtain ⟨c1, c2, c3⟩ := hI.2.1.2.1 _ hmem
        have htk : (gf_ G).take (i + 1) = (gf_ G).take i ++ [(gf_ G).getD i 0] := by
          rw [List.take_succ, hgd]; rfl
        have hnd := hI.2.1.1
        have hni : (gf_ G).getD i 0 ∉ (gf_ G).take i := fun hq => by
          have h1 : ((gf_ G).take (i + 1)).Nodup := (List.take_sublist (i + 1) (gf_ G)).nodup hnd
          rw [htk, List.nodup_append] at h1
          exact h1.2.2 _ hq _ (List.mem_singleton.mpr rfl) rfl
        unfold wp_B_freeBlock
        rw [ho 18 (by decide), h18]
        refine br_f (nI_pos (by omega)) (br_f (nI_ge hlt (by omega)) (br_f (nI_ge (b := 1200) (by omega) (by omega)) ⟨vp_in_nI (by omega) (by omega), ?_⟩))
        rw [nI_clamp (n := i) (by omega), ho 5 (by decide), hR.2.2.2.2.1 i hlt]
        refine p_isBlock ⟨c1, c2⟩ (br_f (by decide) ⟨vp_in_nI (by omega) (by omega), ?_⟩)
        rw [nI_clamp (n := (gf_ G).getD i 0) (by omega), h9 _ c1 c2, if_neg hni]
        refine br_t rfl ⟨vp_in_nI (by omega) (by omega), fun s2 e2 y hy => ?_⟩
        rw [hy, nI_1]
        rw [show vp_nar .boolean 1 = 1 from rfl] at e2
        refine ih (i + 1) s2 (by omega) (by omega) (fun q hq => by rw [e2, ws_1_arr hq]; exact ho q hq) (fun p p1 p2 => ?_)
        rw [htk]
        by_cases e : p = (gf_ G).getD i 0
        · rw [e, e2, ws_1_at, if_pos (List.mem_append_right _ (List.mem_singleton.mpr rfl))]
        · rw [e2, ws_1_ne e, h9 p p1 p2]
          simp only [List.mem_append, List.mem_singleton, e, or_false]
  rw [h18]
  exact br_f (nI_pos (by omega)) (br_t (nI_le (b := 1200) hlen (by omega)) ⟨(gf_ G).length + 1, hloop _ 0 s (by omega) (by omega) (fun _ _ => rfl) (fun p p1 p2 => by simp [hL p p2])⟩)
theorem p_faultOfWays {s : St_} {f : Nat → Nat} {post : Int32 → St_ → Prop} (hw : 5 ≤ w ∧ w ≤ 32) (hR : Rp_ w s G) (hI : Ic_ w [] 16 R [] G) (hr : ∀ y, R y ≤ 900) (h6 : ∀ p, 1 ≤ p → p ≤ 1200 → s 6 p = nI (gw_ G p)) (h9 : ∀ p, 1 ≤ p → p ≤ 1200 → s 9 p = if p ∈ gf_ G then 1 else 0) (k : post 0 s) : wp_I_faultOfWays w s post := by
  have hloop : ∀ (n i : Nat), 1 ≤ i → i ≤ 1201 → 1201 < n + i → wp_I_faultOfWays_2 w post n (nI i) s := by
    intro n
    induction n with
    | zero => intro i h1 h2 h3; omega
    | succ n ih =>
      intro i i1 i2 i3
      refine pk_lt 1200 i (fun hlt => k) (fun hle => ⟨vp_in_nI (by omega) (by omega), ?_⟩) rfl rfl (by omega) (by omega)
      rw [nI_clamp (n := i) (by omega), h6 i i1 hle]
      by_cases hg : gw_ G i = 0
      · have hmem : i ∈ gf_ G := by
          rcases hI.2.1.2.2 i i1 hle hg with h | h
          · exact h
          · simp at h
        refine rb_f (by rw [hg]; rfl) (p_ways hR ⟨i1, hle⟩ ⟨vp_in_nI (by omega) (by omega), rb_f (h6 i i1 hle).symm ⟨vp_in_nI (by omega) (by omega), ?_⟩⟩)
        rw [h9 i i1 hle, if_pos hmem]
        refine br_t rfl (fun y hy => ?_)
        rw [hy, nI_1]
        exact ih (i + 1) (by omega) (by omega) (by omega)
      · have hmem : i ∉ gf_ G := fun q => hg (hI.2.1.2.1 i q).2.2
        have hbd := gw_bd hw hR hI (fun y => by have := hr y; omega) i (by omega)
        refine rb_t (nI_ne0 (by omega) (by omega)) (p_ways hR ⟨i1, hle⟩ ⟨vp_in_nI (by omega) (by omega), rb_f (h6 i i1 hle).symm ⟨vp_in_nI (by omega) (by omega), ?_⟩⟩)
        rw [h9 i i1 hle, if_neg hmem]
        refine br_t rfl (fun y hy => ?_)
        rw [hy, nI_1]
        exact ih (i + 1) (by omega) (by omega) (by omega)
  exact ⟨1201, hloop 1201 1 (by omega) (by omega) (by omega)⟩
theorem un_0 (G : Sg_) (x : Nat) : un_ G (fun _ => 0) x = eg_ G x := by
  unfold un_ eg_
  refine sm_congr (fun p _ => ?_)
  simp
theorem un_none {f : Nat → Nat} (h : ∀ p, 1 ≤ gw_ G p → f p ≠ 0) (x : Nat) : un_ G f x = 0 := by
  unfold un_
  refine sm_0 (fun p _ => ?_)
  by_cases e : gw_ G p = 0
  · simp [e]
  · have := h p (by omega)
    simp [this]
theorem all_vis (hI : Ic_ w [] 16 R [] G) {f : Nat → Nat} (h : ∀ x, 1 ≤ x → f x + un_ G f x = gw_ G x) : ∀ x, 1 ≤ x → f x = gw_ G x := by
  have hv : ∀ n p, 1 ≤ gw_ G p → 16 ≤ gl_ G p + n → f p ≠ 0 := by
    intro n
    induction n with
    | zero =>
      intro p hp hl h0
      obtain ⟨p1, p2, p3⟩ := hI.1 p hp
      have h1 := h p p1
      have h2 : 1 ≤ un_ G f p := by omega
      unfold un_ at h2
      obtain ⟨q, hq, hq1⟩ := sm_pos h2
      by_cases c : gw_ G q = 0 ∨ gl_ G q = 0 ∨ f q ≠ 0
      · rw [if_pos c] at hq1; omega
      · rw [if_neg c] at hq1
        obtain ⟨e, he, he2⟩ := cn_pos hq1
        obtain ⟨z1, z2, z3⟩ := hI.1 q (by omega)
        have := (hI.child (b := q) (by omega) z3 (by omega) he).2.1
        rw [he2] at this
        omega
    | succ n ih =>
      intro p hp hl h0
      obtain ⟨p1, p2, p3⟩ := hI.1 p hp
      have h1 := h p p1
      have h2 : 1 ≤ un_ G f p := by omega
      unfold un_ at h2
      obtain ⟨q, hq, hq1⟩ := sm_pos h2
      by_cases c : gw_ G q = 0 ∨ gl_ G q = 0 ∨ f q ≠ 0
      · rw [if_pos c] at hq1; omega
      · rw [if_neg c] at hq1
        obtain ⟨e, he, he2⟩ := cn_pos hq1
        obtain ⟨z1, z2, z3⟩ := hI.1 q (by omega)
        have := (hI.child (b := q) (by omega) z3 (by omega) he).2.1
        rw [he2] at this
        exact c (Or.inr (Or.inr (ih q (by omega) (by omega))))
  intro x hx
  have h1 := h x hx
  rw [un_none (fun p hp => hv 16 p hp (by omega))] at h1
  omega
theorem RR_le (rn rk : Nat → Nat) (y : Nat) : RR_ rn rk y ≤ 16 := by
  have h1 : sm_ 8 (fun i => if rn i = y then 1 else 0) ≤ 8 := sm_le8 (fun i _ => by split <;> omega)
  have h2 : sm_ 8 (fun i => if rk i = y then 1 else 0) ≤ 8 := sm_le8 (fun i _ => by split <;> omega)
  simp only [RR_]; omega
def Fj_ (st st' : St_) : Prop := ∀ k, k < 6 ∨ 9 < k → st' k = st k
theorem T0_.fj {st st' : St_} (h : T0_ w st G rn rk) (hF : Fj_ st st') : T0_ w st' G rn rk := by
  obtain ⟨h1, h2, h3, h4, h5, h6⟩ := h
  refine ⟨h1.cong (fun k hk => hF k (by omega)), h2, ?_, ?_, ?_, ?_⟩
  · intro i hi
    rw [hF 10 (by omega), hF 11 (by omega)]; exact h3 i hi
  · intro i hi
    rw [hF 12 (by omega), hF 13 (by omega)]; exact h4 i hi
  · rw [hF 19 (by omega)]; exact h5
  · rw [hF 20 (by omega)]; exact h6
theorem p_firstFault {post : Int32 → St_ → Prop} (hw : 5 ≤ w ∧ w ≤ 32) (h : T1_ w st0 G rn rk) (k : ∀ s', Fj_ st0 s' → post 0 s') : wp_I_firstFault_22_23 w st0 post := by
  obtain ⟨h, h600, hk600⟩ := h
  have hI := h.2.1
  have hgw : ∀ x, 1 ≤ x → gw_ G x = RR_ rn rk x + eg_ G x := hI.2.2.1
  have hbd : ∀ x, gw_ G x < 2 ^ 31 := fun x => by
    rcases Nat.eq_zero_or_pos (gw_ G x) with e | e
    · omega
    · have := gw_bd hw h.1 hI (fun y => by have := RR_le rn rk y; omega) x e; omega
  have hloop : ∀ (n i : Nat) (s : St_), i ≤ 1201 → 1201 < n + i → Fj_ st0 s → (∀ j, j < i → s 6 j = 0 ∧ s 9 j = 0) → wp_I_firstFault_22_23_2 w post n (nI i) s := by
    intro n
    induction n with
    | zero => intro i s h1 h2; omega
    | succ n ih =>
      intro i s hi hn hF h69
      refine pk_lt 1200 i (fun hlt => ?_) (fun hle => ?_) rfl rfl (by omega) (by omega)
      · have hRR : ∀ x, RR_ rn rk x = sm_ 8 (fun j => if rn j = x then 1 else 0) + sm_ 8 (fun j => if rk j = x then 1 else 0) := fun _ => rfl
        have hs := h.fj hF
        refine p_faultOfMaps22 (st0 := s) (Bs := eg_ G) (f := fun _ => 0) hw hs h600 (fun x hx => ?_) ⟨fun p p1 p2 => (h69 p (by omega)).1, fun p _ _ hpf => absurd rfl hpf⟩ Fi_.rf (fun x _ => by rw [un_0]; omega) (fun s1 f1 hD1 hF1 hP1 => rb_f rfl ?_)
        · have h1 := hgw x hx
          have h2 := hRR x
          have h3 := hbd x
          omega
        · refine p_faultOfMaps23 (st0 := s) (Bs := fun x => eg_ G x + sm_ 8 (fun j => if rn j = x then 1 else 0)) (f := f1) hw hs hk600 (fun x hx => ?_) hD1 hF1 hP1 (fun s2 f2 hD2 hF2 hP2 => rb_f rfl ?_)
          · have h1 := hgw x hx
            have h2 := hRR x
            have h3 := hbd x
            omega
          · have hvis := all_vis hI (f := f2) (fun x hx => by
              have h1 := hgw x hx
              have h2 := hRR x
              have h4 := hP2 x hx
              omega)
            refine p_faultOfFree (hF2.rp hs.1) hI (fun p hp => by rw [hF2 9 (by omega)]; exact (h69 p (by omega)).2) (fun s3 ho h9 => br_t rfl ?_)
            refine p_faultOfWays (f := f2) hw (hs.1.cong (fun q hq => by rw [ho q (by omega), hF2 q (by omega)])) hI (fun y => by have := RR_le rn rk y; omega) (fun p p1 p2 => by rw [ho 6 (by omega), hD2.1 p p1 p2, hvis p p1]) h9 (k s3 (fun q hq => by rw [ho q (by omega), hF2 q (by omega)]; exact hF q hq))
      · refine ⟨vp_in_nI (by omega) (by omega), fun s1 e1 => ⟨vp_in_nI (by omega) (by omega), fun s2 e2 y hy => ?_⟩⟩
        rw [nI_clamp (n := i) (by omega)] at e1 e2
        rw [show vp_nar .boolean 0 = 0 from rfl] at e2
        rw [hy, nI_1]
        refine ih (i + 1) s2 (by omega) (by omega) (fun q hq => by rw [e2, ws_1_arr (by omega), e1, ws_1_arr (by omega)]; exact hF q hq) (fun j hj => ?_)
        by_cases e : j = i
        · subst e
          rw [e2, ws_1_at, ws_1_arr (by decide), e1, ws_1_at]
          exact ⟨rfl, rfl⟩
        · rw [e2, ws_1_ne e, ws_1_arr (by decide), e1, ws_1_ne e, ws_1_arr (by decide)]
          exact h69 j (by omega)
  exact ⟨1202, hloop 1202 0 st0 (by omega) (by omega) (fun _ _ => rfl) (fun j hj => by omega)⟩
theorem p_S_check {N K : Nat → List (Nat × Nat)} {post : Int32 → St_ → Prop} (hw : 5 ≤ w ∧ w ≤ 32) (h : TA_ w st0 N K) (k : ∀ st', TA_ w st' N K → Fm_ st0 st' → post 0 st') : wp_S_check w st0 post := by
  unfold wp_S_check
  obtain ⟨G, rn, rk, h, hN, hK⟩ := h
  refine p_firstFault hw h (fun s1 hF => k s1 ⟨G, rn, rk, ⟨h.1.fj hF, h.2⟩, hN, hK⟩ (fun q q1 q2 => hF q (by omega)))
end CQ
