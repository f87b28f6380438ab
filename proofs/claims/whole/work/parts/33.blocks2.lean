-- PURE: the rest of Blocks: moveTail, take, give, share, lose, owned
section PB3
variable {w : Nat}
theorem il_end (l : List (Nat × Nat)) (e : Nat × Nat) : il_ l l.length e = l ++ [e] := by
  show l.take l.length ++ e :: l.drop l.length = _
  simp
theorem tk_snoc {l : List (Nat × Nat)} {s i : Nat} (h : s ≤ i) (hi : i < l.length) : (l.drop s).take (i + 1 - s) = (l.drop s).take (i - s) ++ [l.getD i (0, 0)] := by
  rw [show i + 1 - s = (i - s) + 1 by omega, List.take_succ, List.getElem?_drop, show s + (i - s) = i by omega, List.getElem?_eq_getElem hi, List.getD_eq_getElem?_getD, List.getElem?_eq_getElem hi]
  rfl
theorem Rp_.eq {st : St_} {G G' : Sg_} (h : Rp_ w st G) (e : G = G') : Rp_ w st G' := e ▸ h
theorem se_se (G : Sg_) (b : Nat) (l m : List (Nat × Nat)) : se_ (se_ G b l) b m = se_ G b m := by
  simp only [se_]
  congr 2
  · congr 1
    exact bx_uu _ _ _ _
theorem se_comm (G : Sg_) {b c : Nat} (l m : List (Nat × Nat)) (h : b ≠ c) : se_ (se_ G b l) c m = se_ (se_ G c m) b l := by
  simp only [se_]
  congr 3
  funext j
  by_cases h1 : j = b
  · subst h1
    simp [va_up, h]
  · by_cases h2 : j = c
    · subst h2; simp [va_up, h1]
    · simp [va_up, h1, h2]
theorem p_moveTail_loop {f t s : Nat} {post : St_ → Prop} {G : Sg_} (hw : 5 ≤ w ∧ w ≤ 32) (hf : 1 ≤ f ∧ f ≤ 1200) (ht : 1 ≤ t ∧ t ≤ 1200) (hne : f ≠ t) (hs : s ≤ (ge_ G f).length) (hl : (ge_ G t).length + ((ge_ G f).length - s) ≤ w) (st0 : St_)
    (k : ∀ st', Rp_ w st' (se_ (se_ G t (ge_ G t ++ (ge_ G f).drop s)) f ((ge_ G f).take s)) → Fr_ st0 st' → post st') :
    ∀ (n i : Nat) (st : St_), s ≤ i → i ≤ (ge_ G f).length → (ge_ G f).length < n + i → Rp_ w st (se_ G t (ge_ G t ++ ((ge_ G f).drop s).take (i - s))) → Fr_ st0 st → wp_B_moveTail_3 w post n (nI f) (nI s) (nI t) (nI i) st := by
  intro n
  induction n with
  | zero => intro i st h1 h2 h3; omega
  | succ n ih =>
    intro i st hsi hi hn hR hF
    have hfe : ge_ (se_ G t (ge_ G t ++ ((ge_ G f).drop s).take (i - s))) f = ge_ G f := se_ne _ _ hne
    have hte : ge_ (se_ G t (ge_ G t ++ ((ge_ G f).drop s).take (i - s))) t = ge_ G t ++ ((ge_ G f).drop s).take (i - s) := se_at _ _ _
    have hfl : (ge_ G f).length ≤ w := by have := (hR.1 f hf.1 hf.2).2.2.2.1; rw [hfe] at this; exact this
    refine p_size hR hf ?_
    rw [hfe]
    refine pk_le (ge_ G f).length i (fun hle => ?_) (fun hlt => ?_) rfl rfl (by omega) (by omega)
    · have hie : i = (ge_ G f).length := by omega
      subst hie
      have hdrop : ((ge_ G f).drop s).take ((ge_ G f).length - s) = (ge_ G f).drop s := List.take_of_length_le (by simp)
      rw [hdrop] at hR hfe hte
      refine p_isBlock hf (br_f (by decide) (br_f (nI_pos (by omega)) ⟨vp_in_nI (by omega) (by omega), ?_⟩))
      have h2 := (hR.1 f hf.1 hf.2).2.2.1
      rw [hfe] at h2
      rw [nI_clamp (by omega), h2]
      refine pk_le (ge_ G f).length s (fun hle => ?_) (fun hlt => ?_) rfl rfl (by omega) (by omega)
      · refine k st (hR.eq ?_) hF
        rw [List.take_of_length_le (by omega)]
        have e : va_up (va_up G.2.2.1 t (ge_ G t ++ (ge_ G f).drop s)) f (ge_ G f) = va_up G.2.2.1 t (ge_ G t ++ (ge_ G f).drop s) := by
          funext j
          by_cases hj : j = f
          · subst hj; simp [va_up, hne]
          · simp [va_up, hj]
        simp only [se_]
        rw [e]
      · refine ⟨vp_in_nI (by omega) (by omega), fun s5 e5 => ?_⟩
        have h4 := (hR.1 f hf.1 hf.2).2.2.2.2
        rw [hfe] at h4
        refine k s5 (hR.ents hf.1 (by simp; omega) (fun e he => hR.2.1 f e (by rw [hfe]; exact List.mem_of_mem_take he)) (by rw [e5, ws_1_arr (by decide)]) (by rw [e5, ws_1_arr (by decide)]) (by rw [e5, ws_1_arr (by decide)]) (by rw [e5, ws_1_arr (by decide)]) (fun c hc => by rw [e5, ws_1_ne hc]) (by rw [e5, ws_1_at]; simp; congr 1; omega) (fun c j _ _ => by rw [e5, ws_1_arr (by decide)]) (fun c j _ _ => by rw [e5, ws_1_arr (by decide)]) (fun j hj => ?_)) (hF.tr (fun q q1 q2 => by rw [e5, ws_1_arr (by omega)]))
        have hj2 : j < s := by simp at hj; omega
        rw [e5, ws_1_arr (by decide), ws_1_arr (by decide)]
        have := h4 j (by omega)
        rw [this.1, this.2]
        simp only [List.getD_eq_getElem?_getD, List.getElem?_take_of_lt hj2]
        constructor <;> first | trivial | rfl
    · refine p_size hR ht ?_
      rw [hte]
      have hi2 : i < (ge_ (se_ G t (ge_ G t ++ ((ge_ G f).drop s).take (i - s))) f).length := by rw [hfe]; exact hlt
      refine p_key hw hR hf hi2 (p_goal hw hR hf hi2 ?_)
      have hbd := hR.bd hi2
      rw [hfe] at hbd ⊢
      have hlt2 : (ge_ G t ++ ((ge_ G f).drop s).take (i - s)).length < w := by simp; omega
      have hins := p_insert (b := t) (i := (ge_ G t ++ ((ge_ G f).drop s).take (i - s)).length) (x := ((ge_ G f).getD i (0, 0)).1) (g := ((ge_ G f).getD i (0, 0)).2) (post := fun st112 => ∀ x113 : Int32, x113 = nI i + 1 → wp_B_moveTail_3 w post n (nI f) (nI s) (nI t) x113 st112) hw hR ht (by rw [hte]; exact Nat.le_refl _) (by rw [hte]; exact hlt2) hbd.1 hbd.2 (fun s1 hR1 hF1 y hy => by
        rw [hy, nI_1]
        refine ih (i + 1) s1 (by omega) (by omega) (by omega) (hR1.eq ?_) (hF.tr hF1)
        rw [hte, il_end, se_se, tk_snoc hsi hlt, List.append_assoc])
      exact hins
theorem p_moveTail {f t s : Nat} {post : St_ → Prop} {G : Sg_} {st : St_} (hw : 5 ≤ w ∧ w ≤ 32) (hR : Rp_ w st G) (hf : 1 ≤ f ∧ f ≤ 1200) (ht : 1 ≤ t ∧ t ≤ 1200) (hne : f ≠ t) (hs : s ≤ (ge_ G f).length) (hl : (ge_ G t).length + ((ge_ G f).length - s) ≤ w)
    (k : ∀ st', Rp_ w st' (se_ (se_ G t (ge_ G t ++ (ge_ G f).drop s)) f ((ge_ G f).take s)) → Fr_ st st' → post st') : wp_B_moveTail w (nI f) (nI s) (nI t) st post := by
  unfold wp_B_moveTail
  refine ⟨(ge_ G f).length + 1, p_moveTail_loop hw hf ht hne hs hl st k _ s st (Nat.le_refl _) hs (by omega) (hR.eq ?_) Fr_.rf⟩
  have e : va_up G.2.2.1 t (ge_ G t) = G.2.2.1 := by
    funext j
    by_cases hj : j = t
    · subst hj; simp [va_up]
    · simp [va_up, hj]
  simp [se_, e]
/-- a block is taken -/
abbrev tk_ (G : Sg_) (b l : Nat) (f : List Nat) : Sg_ := (va_up G.1 b 1, va_up G.2.1 b l, va_up G.2.2.1 b [], f)
theorem p_take {st : St_} {G : Sg_} {b l : Nat} {f : List Nat} {post : Int32 → St_ → Prop} (hR : Rp_ w st G) (hf : gf_ G = f ++ [b]) (hb : 1 ≤ b ∧ b ≤ 1200)
    (k : ∀ st', Rp_ w st' (tk_ G b l f) → Fr_ st st' → post (nI b) st') : wp_B_take w (nI l) st post := by
  unfold wp_B_take
  obtain ⟨h1, h2, h3, h4, h5, hz0⟩ := hR
  have hln : (gf_ G).length = f.length + 1 := by rw [hf]; simp
  rw [h3]
  refine br_f (nI_nle (by omega) (by omega)) (br_t (nI_le (b := 1200) h4 (by omega)) (fun s1 e1 => ?_))
  rw [hln, nI_pred] at e1
  have e18 : s1 18 0 = nI f.length := by rw [e1, ws_1_at]
  rw [e18]
  refine ⟨vp_in_nI (by omega) (by omega), fun x hx => ?_⟩
  have hxb : x = nI b := by
    rw [hx, e1, ws_1_arr (by decide), nI_clamp (by omega), h5 f.length (by omega), hf]
    simp
  subst hxb
  refine p_isBlock hb (br_f (by decide) ⟨vp_in_nI (by omega) (by omega), fun s2 e2 => ⟨vp_in_nI (by omega) (by omega), fun s3 e3 => ⟨vp_in_nI (by omega) (by omega), fun s4 e4 => ?_⟩⟩⟩)
  rw [nI_clamp (by omega)] at e2 e3 e4
  have a0 : ∀ c, s4 0 c = if c = b then 1 else st 0 c := fun c => by
    rw [e4, ws_1_arr (by decide), e3, ws_1_arr (by decide), e2]
    by_cases hc : c = b
    · rw [if_pos hc, hc, ws_1_at]
    · rw [if_neg hc, ws_1_ne hc, e1, ws_1_arr (by decide)]
  have a1 : ∀ c, s4 1 c = if c = b then nI l else st 1 c := fun c => by
    rw [e4, ws_1_arr (by decide), e3]
    by_cases hc : c = b
    · rw [if_pos hc, hc, ws_1_at]
    · rw [if_neg hc, ws_1_ne hc, e2, ws_1_arr (by decide), e1, ws_1_arr (by decide)]
  have a2 : ∀ c, s4 2 c = if c = b then 0 else st 2 c := fun c => by
    rw [e4]
    by_cases hc : c = b
    · rw [if_pos hc, hc, ws_1_at]
    · rw [if_neg hc, ws_1_ne hc, e3, ws_1_arr (by decide), e2, ws_1_arr (by decide), e1, ws_1_arr (by decide)]
  have ak : ∀ q, q ≠ 0 → q ≠ 1 → q ≠ 2 → q ≠ 18 → s4 q = st q := fun q q0 q1 q2 q3 => by
    rw [e4, ws_1_arr q2, e3, ws_1_arr q1, e2, ws_1_arr q0, e1, ws_1_arr q3]
  have a18 : s4 18 0 = nI f.length := by rw [e4, ws_1_arr (by decide), e3, ws_1_arr (by decide), e2, ws_1_arr (by decide), e18]
  refine k s4 ⟨fun c c1 c2 => ?_, fun c e he => ?_, a18, by show f.length ≤ 1200; omega, fun i hi => ?_, by rw [a2, if_neg (by omega)]; exact hz0⟩ (fun q q1 q2 => ak q (by omega) (by omega) (by omega) q2)
  · obtain ⟨g0, g1, g2, g3, g4⟩ := h1 c c1 c2
    rw [a0, a1, a2, ak 3 (by decide) (by decide) (by decide) (by decide), ak 4 (by decide) (by decide) (by decide) (by decide)]
    by_cases hc : c = b
    · subst hc
      simp only [gw_, gl_, ge_, tk_, va_up, if_true]
      refine ⟨?_, ?_, ?_, ?_, fun i hi => by simp at hi⟩ <;> first | trivial | rfl | simp
    · simp only [gw_, gl_, ge_, tk_, va_up, hc, if_false]
      exact ⟨g0, g1, g2, g3, g4⟩
  · by_cases hc : c = b
    · subst hc; simp [gw_, gl_, ge_, tk_, va_up] at he
    · simp only [gw_, gl_, ge_, tk_, va_up, hc, if_false] at he
      exact h2 c e he
  · rw [ak 5 (by decide) (by decide) (by decide) (by decide)]
    have hi' : i < f.length := hi
    rw [h5 i (by omega), hf]
    simp only [List.getD_eq_getElem?_getD]
    rw [List.getElem?_append_left hi']
/-- a block is given back -/
abbrev gv_ (G : Sg_) (b : Nat) : Sg_ := (va_up G.1 b 0, va_up G.2.1 b 0, va_up G.2.2.1 b [], G.2.2.2 ++ [b])
theorem p_give {st : St_} {G : Sg_} {b : Nat} {post : St_ → Prop} (hR : Rp_ w st G) (hf : (gf_ G).length < 1200) (hb : 1 ≤ b ∧ b ≤ 1200)
    (k : ∀ st', Rp_ w st' (gv_ G b) → Fr_ st st' → post st') : wp_B_give w (nI b) st post := by
  unfold wp_B_give
  obtain ⟨h1, h2, h3, h4, h5, hz0⟩ := hR
  refine p_isBlock hb (br_f (by decide) ?_)
  rw [h3]
  refine br_f (nI_pos (by omega)) (br_f (nI_ge (b := 1200) hf (by omega)) ⟨vp_in_nI (by omega) (by omega), fun s1 e1 => ⟨vp_in_nI (by omega) (by omega), fun s2 e2 => ⟨vp_in_nI (by omega) (by omega), fun s3 e3 => ?_⟩⟩⟩)
  rw [nI_clamp (by omega)] at e1 e2 e3
  have e18 : s3 18 0 = nI (gf_ G).length := by rw [e3, ws_1_arr (by decide), e2, ws_1_arr (by decide), e1, ws_1_arr (by decide), h3]
  rw [e18]
  refine ⟨vp_in_nI hf (by omega), fun s4 e4 s5 e5 => ?_⟩
  rw [nI_clamp (by omega)] at e4
  have a0 : ∀ c, s5 0 c = if c = b then 0 else st 0 c := fun c => by
    rw [e5, ws_1_arr (by decide), e4, ws_1_arr (by decide), e3, ws_1_arr (by decide), e2, ws_1_arr (by decide), e1]
    by_cases hc : c = b
    · rw [if_pos hc, hc, ws_1_at]
    · rw [if_neg hc, ws_1_ne hc]
  have a1 : ∀ c, s5 1 c = if c = b then 0 else st 1 c := fun c => by
    rw [e5, ws_1_arr (by decide), e4, ws_1_arr (by decide), e3, ws_1_arr (by decide), e2]
    by_cases hc : c = b
    · rw [if_pos hc, hc, ws_1_at]
    · rw [if_neg hc, ws_1_ne hc, e1, ws_1_arr (by decide)]
  have a2 : ∀ c, s5 2 c = if c = b then 0 else st 2 c := fun c => by
    rw [e5, ws_1_arr (by decide), e4, ws_1_arr (by decide), e3]
    by_cases hc : c = b
    · rw [if_pos hc, hc, ws_1_at]
    · rw [if_neg hc, ws_1_ne hc, e2, ws_1_arr (by decide), e1, ws_1_arr (by decide)]
  have a5 : ∀ c, s5 5 c = if c = (gf_ G).length then nI b else st 5 c := fun c => by
    rw [e5, ws_1_arr (by decide), e4]
    by_cases hc : c = (gf_ G).length
    · rw [if_pos hc, hc, ws_1_at]
    · rw [if_neg hc, ws_1_ne hc, e3, ws_1_arr (by decide), e2, ws_1_arr (by decide), e1, ws_1_arr (by decide)]
  have ak : ∀ q, q ≠ 0 → q ≠ 1 → q ≠ 2 → q ≠ 5 → q ≠ 18 → s5 q = st q := fun q q0 q1 q2 q4 q3 => by
    rw [e5, ws_1_arr q3, e4, ws_1_arr q4, e3, ws_1_arr q2, e2, ws_1_arr q1, e1, ws_1_arr q0]
  have a18 : s5 18 0 = nI ((gf_ G).length + 1) := by
    rw [e5, ws_1_at, e4, ws_1_arr (by decide), e18, nI_1]
  refine k s5 ⟨fun c c1 c2 => ?_, fun c e he => ?_, by rw [a18]; show nI ((gf_ G).length + 1) = nI (gf_ G ++ [b]).length; simp, by show (gf_ G ++ [b]).length ≤ 1200; simp; omega, fun i hi => ?_, by rw [a2, if_neg (by omega)]; exact hz0⟩ (fun q q1 q2 => ak q (by omega) (by omega) (by omega) (by omega) q2)
  · obtain ⟨g0, g1, g2, g3, g4⟩ := h1 c c1 c2
    rw [a0, a1, a2, ak 3 (by decide) (by decide) (by decide) (by decide) (by decide), ak 4 (by decide) (by decide) (by decide) (by decide) (by decide)]
    by_cases hc : c = b
    · subst hc
      simp only [gw_, gl_, ge_, gv_, va_up, if_true]
      refine ⟨?_, ?_, ?_, ?_, fun i hi => by simp at hi⟩ <;> first | trivial | rfl | simp
    · simp only [gw_, gl_, ge_, gv_, va_up, hc, if_false]
      exact ⟨g0, g1, g2, g3, g4⟩
  · by_cases hc : c = b
    · subst hc; simp [gw_, gl_, ge_, gv_, va_up] at he
    · simp only [gw_, gl_, ge_, gv_, va_up, hc, if_false] at he
      exact h2 c e he
  · rw [a5]
    have hi' : i < (gf_ G ++ [b]).length := hi
    rw [List.length_append, List.length_singleton] at hi'
    show _ = nI ((gf_ G ++ [b]).getD i 0)
    simp only [List.getD_eq_getElem?_getD]
    by_cases hc : i = (gf_ G).length
    · rw [if_pos hc, hc, List.getElem?_append_right (Nat.le_refl _)]
      simp
    · rw [if_neg hc, List.getElem?_append_left (by omega), h5 i (by omega), List.getD_eq_getElem?_getD]
theorem Rp_.ways {st st' : St_} {G : Sg_} (hR : Rp_ w st G) {b n : Nat} (e0 : st' 0 b = nI n) (e1 : ∀ c, c ≠ b → st' 0 c = st 0 c) (ek : ∀ q, q ≠ 0 → st' q = st q) : Rp_ w st' (sw_ G b n) := by
  obtain ⟨h1, h2, h3, h4, h5, hz0⟩ := hR
  refine ⟨fun c c1 c2 => ?_, h2, by rw [ek 18 (by decide)]; exact h3, h4, fun i hi => by rw [ek 5 (by decide)]; exact h5 i hi, by rw [ek 2 (by decide)]; exact hz0⟩
  obtain ⟨g0, g1, g2, g3, g4⟩ := h1 c c1 c2
  refine ⟨?_, by rw [ek 1 (by decide)]; exact g1, by rw [ek 2 (by decide)]; exact g2, g3, fun i hi => by rw [ek 3 (by decide), ek 4 (by decide)]; exact g4 i hi⟩
  by_cases hc : c = b
  · subst hc; simp only [gw_, sw_, va_up, if_true]; exact e0
  · simp only [gw_, sw_, va_up, hc, if_false]; rw [e1 c hc]; exact g0
theorem p_share {st : St_} {G : Sg_} {b : Nat} {post : St_ → Prop} (hR : Rp_ w st G) (hb : 1 ≤ b ∧ b ≤ 1200)
    (k : ∀ st', Rp_ w st' (sw_ G b (gw_ G b + 1)) → Fr_ st st' → post st') : wp_B_share w (nI b) st post := by
  unfold wp_B_share
  refine p_isBlock hb (br_f (by decide) ⟨vp_in_nI (by omega) (by omega), vp_in_nI (by omega) (by omega), fun s1 e1 => ?_⟩)
  rw [nI_clamp (by omega), (hR.1 b hb.1 hb.2).1, nI_1] at e1
  exact k s1 (hR.ways (by rw [e1, ws_1_at]) (fun c hc => by rw [e1, ws_1_ne hc]) (fun q hq => by rw [e1, ws_1_arr hq])) (fun q q1 q2 => by rw [e1, ws_1_arr (by omega)])
theorem p_share0 {st : St_} {post : St_ → Prop} (k : post st) : wp_B_share w 0 st post := by
  unfold wp_B_share
  exact p_isBlock0 (br_t rfl k)
theorem p_lose {st : St_} {G : Sg_} {b : Nat} {post : Int32 → St_ → Prop} (hR : Rp_ w st G) (hb : 1 ≤ b ∧ b ≤ 1200) (h1 : 1 ≤ gw_ G b) (h2 : gw_ G b < 2 ^ 31)
    (k : ∀ st', Rp_ w st' (sw_ G b (gw_ G b - 1)) → Fr_ st st' → post (if gw_ G b = 1 then 1 else 0) st') : wp_B_lose w (nI b) st post := by
  unfold wp_B_lose
  refine p_isBlock hb (br_f (by decide) ⟨vp_in_nI (by omega) (by omega), ?_⟩)
  rw [nI_clamp (by omega), (hR.1 b hb.1 hb.2).1]
  refine br_t (nI_lt (a := 0) (by omega) h2) ⟨vp_in_nI (by omega) (by omega), vp_in_nI (by omega) (by omega), fun s1 e1 => ⟨vp_in_nI (by omega) (by omega), ?_⟩⟩
  have em : nI (gw_ G b) - 1 = nI (gw_ G b - 1) := by
    have := nI_pred (gw_ G b - 1)
    rw [show gw_ G b - 1 + 1 = gw_ G b by omega] at this
    exact this
  rw [em] at e1
  have e0 : s1 0 b = nI (gw_ G b - 1) := by rw [e1, ws_1_at]
  have hk := k s1 (hR.ways e0 (fun c hc => by rw [e1, ws_1_ne hc]) (fun q hq => by rw [e1, ws_1_arr hq])) (fun q q1 q2 => by rw [e1, ws_1_arr (by omega)])
  rw [e0]
  by_cases h : gw_ G b = 1
  · rw [if_pos h] at hk
    exact rb_f (by rw [h]; rfl) hk
  · rw [if_neg h] at hk
    exact rb_t (nI_ne0 (by omega) (by omega)) hk
end PB3
