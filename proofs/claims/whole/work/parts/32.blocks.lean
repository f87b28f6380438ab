-- PURE: the methods of Blocks over the store
abbrev il_ (l : List (Nat × Nat)) (i : Nat) (e : Nat × Nat) : List (Nat × Nat) := l.take i ++ e :: l.drop i
abbrev el_ (l : List (Nat × Nat)) (i : Nat) : List (Nat × Nat) := l.take i ++ l.drop (i + 1)
theorem il_len {l : List (Nat × Nat)} {i : Nat} {e : Nat × Nat} (hi : i ≤ l.length) : (il_ l i e).length = l.length + 1 := by
  simp; omega
theorem el_len {l : List (Nat × Nat)} {i : Nat} (hi : i < l.length) : (el_ l i).length + 1 = l.length := by
  simp; omega
theorem il_getD {l : List (Nat × Nat)} {i j : Nat} {e d : Nat × Nat} (hi : i ≤ l.length) : (il_ l i e).getD j d = if j < i then l.getD j d else if j = i then e else l.getD (j - 1) d := by
  simp only [List.getD_eq_getElem?_getD]
  by_cases h : j < i
  · rw [if_pos h, List.getElem?_append_left (by simp; omega), List.getElem?_take_of_lt h]
  · rw [if_neg h, List.getElem?_append_right (by simp; omega)]
    have e1 : (l.take i).length = i := by simp; omega
    rw [e1]
    by_cases h2 : j = i
    · subst h2; simp
    · rw [if_neg h2, show j - i = (j - i - 1) + 1 by omega, List.getElem?_cons_succ, List.getElem?_drop, show i + (j - i - 1) = j - 1 by omega]
theorem el_getD {l : List (Nat × Nat)} {i j : Nat} {d : Nat × Nat} (hi : i < l.length) : (el_ l i).getD j d = if j < i then l.getD j d else l.getD (j + 1) d := by
  simp only [List.getD_eq_getElem?_getD]
  by_cases h : j < i
  · rw [if_pos h, List.getElem?_append_left (by simp; omega), List.getElem?_take_of_lt h]
  · rw [if_neg h, List.getElem?_append_right (by simp; omega)]
    have e1 : (l.take i).length = i := by simp; omega
    rw [e1, List.getElem?_drop, show i + 1 + (j - i) = j + 1 by omega]
theorem il_mem {l : List (Nat × Nat)} {i : Nat} {e x : Nat × Nat} (h : x ∈ il_ l i e) : x = e ∨ x ∈ l := by
  rcases List.mem_append.mp h with h | h
  · exact Or.inr (List.mem_of_mem_take h)
  · rcases List.mem_cons.mp h with h | h
    · exact Or.inl h
    · exact Or.inr (List.mem_of_mem_drop h)
theorem el_mem {l : List (Nat × Nat)} {i : Nat} {x : Nat × Nat} (h : x ∈ el_ l i) : x ∈ l := by
  rcases List.mem_append.mp h with h | h
  · exact List.mem_of_mem_take h
  · exact List.mem_of_mem_drop h
theorem i_sac (a : Int32) : a - 1 + 1 = a := by
  apply Int32.toBitVec_inj.mp
  simp
theorem i_aac (a b : Int32) : a + (b - 1) + 1 = a + b := by
  rw [Int32.add_assoc, i_sac]
theorem i_m1 : nI 0 - 1 < 0 := by decide
section PB2
variable {w : Nat} {st : St_} {G : Sg_}
/-- how many keys at the front are not above k -/
def fk_ (l : List (Nat × Nat)) (k j : Nat) : Prop := j ≤ l.length ∧ (∀ i, i < j → (l.getD i (0, 0)).1 ≤ k) ∧ (j < l.length → k < (l.getD j (0, 0)).1)
theorem p_slotOf_loop {b x : Nat} {post : Int32 → St_ → Prop} (hw : 5 ≤ w ∧ w ≤ 32) (hR : Rp_ w st G) (hb : 1 ≤ b ∧ b ≤ 1200) (hx : x < 4096)
    (k : ∀ j, fk_ (ge_ G b) x j → post (nI j - 1) st) :
    ∀ (n j : Nat), j ≤ (ge_ G b).length → (ge_ G b).length < n + j → (∀ i, i < j → ((ge_ G b).getD i (0, 0)).1 ≤ x) → wp_B_slotOf_24 w post n (nI b) (nI x) (nI j - 1) (nI (b * w)) (nI (ge_ G b).length) st := by
  obtain ⟨h0, h1, h2, h3, h4⟩ := hR.1 b hb.1 hb.2
  intro n
  induction n with
  | zero => intro j hj hn; omega
  | succ n ih =>
    intro j hj hn hle
    show (_ → _) ∧ (_ → _)
    rw [i_sac, i_aac, nI_add]
    refine pk_le (ge_ G b).length j (fun hlt => ?_) (fun hlt => ?_) rfl rfl (by omega) (by omega)
    · exact k j ⟨hj, hle, fun h => by omega⟩
    · have h5 : b * w + j < 1201 * w := ix_lt hb.2 (by omega)
      have h6 := ix_big hw.2
      refine ⟨vp_in_nI h5 h6, ?_⟩
      rw [nI_clamp (by omega), (h4 j hlt).1]
      have hbd := hR.bd hlt
      refine pk_lt x ((ge_ G b).getD j (0, 0)).1 (fun hk => ?_) (fun hk => ?_) rfl rfl (by omega) (by omega)
      · exact k j ⟨hj, hle, fun _ => hk⟩
      · intro y hy
        rw [show y = nI (j + 1) - 1 by rw [hy, nI_pred]]
        exact ih (j + 1) (by omega) (by omega) (fun i hi => by
          by_cases e : i = j
          · subst e; exact hk
          · exact hle i (by omega))
theorem p_slotOf {b x : Nat} {post : Int32 → St_ → Prop} (hw : 5 ≤ w ∧ w ≤ 32) (hR : Rp_ w st G) (hb : 1 ≤ b ∧ b ≤ 1200) (hx : x < 4096)
    (k : ∀ j, fk_ (ge_ G b) x j → post (nI j - 1) st) : wp_B_slotOf w (nI b) (nI x) st post := by
  unfold wp_B_slotOf
  obtain ⟨h0, h1, h2, h3, h4⟩ := hR.1 b hb.1 hb.2
  intro z hz
  refine p_size hR hb ?_
  intro y hy
  rw [if_neg (nI_nlt h3 (by omega))] at hy
  rw [hy, hz, pk_mul]
  refine ⟨(ge_ G b).length + 1, ?_⟩
  have := p_slotOf_loop hw hR hb hx k ((ge_ G b).length + 1) 0 (by omega) (by omega) (fun i hi => by omega)
  exact this
theorem st_ofj (j : Nat) (hj : j < 2 ^ 31) : (if 0 < nI j - 1 then nI j - 1 else 0) = nI (j - 1) := by
  cases j with
  | zero => decide
  | succ j =>
    rw [nI_pred]
    cases j with
    | zero => decide
    | succ j =>
      rw [if_pos]
      · rfl
      · exact nI_lt (a := 0) (by omega) (by omega)
theorem p_slotToward {b x : Nat} {post : Int32 → St_ → Prop} (hw : 5 ≤ w ∧ w ≤ 32) (hR : Rp_ w st G) (hb : 1 ≤ b ∧ b ≤ 1200) (hx : x < 4096)
    (k : ∀ j, fk_ (ge_ G b) x j → post (nI (j - 1)) st) : wp_T_slotToward w (nI b) (nI x) st post := by
  unfold wp_T_slotToward
  refine p_slotOf hw hR hb hx (fun j hj => ?_)
  have h3 := (hR.1 b hb.1 hb.2).2.2.2.1
  have h4 := hj.1
  rw [st_ofj j (by omega)]
  exact k j hj
theorem p_insert {b i x g : Nat} {post : St_ → Prop} (hw : 5 ≤ w ∧ w ≤ 32) (hR : Rp_ w st G) (hb : 1 ≤ b ∧ b ≤ 1200) (hi : i ≤ (ge_ G b).length) (hl : (ge_ G b).length < w) (hx : x < 4096) (hg : g ≤ 1000000000)
    (k : ∀ st', Rp_ w st' (se_ G b (il_ (ge_ G b) i (x, g))) → Fr_ st st' → post st') : wp_B_insert w (nI b) (nI i) (nI x) (nI g) st post := by
  unfold wp_B_insert
  obtain ⟨h0, h1, h2, h3, h4⟩ := hR.1 b hb.1 hb.2
  have h5 : b * w + i < 1201 * w := ix_lt hb.2 (by omega)
  have h5' : b * w + (ge_ G b).length < 1201 * w := ix_lt hb.2 hl
  have h6 := ix_big hw.2
  refine p_isBlock hb (br_f (by decide) (br_f (nI_pos (by omega)) ⟨vp_in_nI (by omega) (by omega), ?_⟩))
  rw [nI_clamp (n := b) (by omega), h2]
  refine br_f (nI_nlt hi (by omega)) ⟨vp_in_nI (by omega) (by omega), br_t (nI_lt hl (by omega)) ⟨vp_in_nI (by omega) (by omega), ?_⟩⟩
  intro z hz a ha
  subst hz
  rw [ix_e] at ha
  subst ha
  rw [nI_1, pk_sub hi, nI_clamp (n := b * w + i) (by omega), nI_clamp (n := b * w + i + 1) (by omega), nI_clamp (n := (ge_ G b).length - i) (by omega)]
  refine ⟨⟨nI_pos (by omega), nI_pos (by omega), nI_pos (by omega), by omega, by omega⟩, fun s1 e1 => ⟨⟨nI_pos (by omega), nI_pos (by omega), nI_pos (by omega), by omega, by omega⟩, fun s2 e2 => ⟨vp_in_nI h5 h6, fun s3 e3 => ⟨vp_in_nI h5 h6, fun s4 e4 => ⟨vp_in_nI (by omega) (by omega), fun s5 e5 => ?_⟩⟩⟩⟩⟩
  rw [nI_1] at e5
  have k3 : ∀ q, s5 3 q = if q = b * w + i then nI x else va_cpy (st 3) (st 3) (b * w + i) (b * w + i + 1) ((ge_ G b).length - i) q := by
    intro q
    rw [e5, ws_1_arr (by decide), e4, ws_1_arr (by decide), e3]
    by_cases hq : q = b * w + i
    · rw [if_pos hq, hq, ws_1_at]
    · rw [if_neg hq, ws_1_ne hq, e2, ws_c_arr (by decide), e1]
      simp [ws_c, va_up]
  have k4 : ∀ q, s5 4 q = if q = b * w + i then nI g else va_cpy (st 4) (st 4) (b * w + i) (b * w + i + 1) ((ge_ G b).length - i) q := by
    intro q
    rw [e5, ws_1_arr (by decide), e4]
    by_cases hq : q = b * w + i
    · rw [if_pos hq, hq, ws_1_at]
    · rw [if_neg hq, ws_1_ne hq, e3, ws_1_arr (by decide), e2]
      simp only [ws_c, va_up, if_true]
      rw [e1]
      simp [ws_c, va_up]
  have kk : ∀ q, q ≠ 2 → q ≠ 3 → q ≠ 4 → s5 q = st q := by
    intro q q2 q3 q4
    rw [e5, ws_1_arr q2, e4, ws_1_arr q4, e3, ws_1_arr q3, e2, ws_c_arr q4, e1, ws_c_arr q3]
  have k2 : ∀ c, s5 2 c = if c = b then nI ((ge_ G b).length + 1) else st 2 c := by
    intro c
    rw [e5]
    by_cases hc : c = b
    · rw [if_pos hc, hc, ws_1_at]
    · rw [if_neg hc, ws_1_ne hc, e4, ws_1_arr (by decide), e3, ws_1_arr (by decide), e2, ws_c_arr (by decide), e1, ws_c_arr (by decide)]
  refine k s5 (hR.ents hb.1 (by rw [il_len hi]; omega) (fun e he => ?_) (kk 0 (by decide) (by decide) (by decide)) (kk 1 (by decide) (by decide) (by decide)) (kk 5 (by decide) (by decide) (by decide)) (kk 18 (by decide) (by decide) (by decide)) (fun c hc => by rw [k2, if_neg hc]) (by rw [k2, if_pos rfl, il_len hi]) (fun c j hc hj => ?_) (fun c j hc hj => ?_) (fun j hj => ?_)) (fun q q1 q2 => kk q (by omega) (by omega) (by omega))
  · rcases il_mem he with h | h
    · subst h; exact ⟨hx, hg⟩
    · exact hR.2.1 b e h
  · have hne : ∀ t, t < w → c * w + j ≠ b * w + t := fun t ht e => hc (ix_inj hj ht e).1
    rw [k3, if_neg (hne i (by omega)), pk_cpy_out]
    by_cases hlo : c * w + j < b * w + i + 1
    · exact Or.inl hlo
    · refine Or.inr (Nat.not_lt.mp fun hh => ?_)
      exact hne (c * w + j - b * w) (by omega) (by omega)
  · have hne : ∀ t, t < w → c * w + j ≠ b * w + t := fun t ht e => hc (ix_inj hj ht e).1
    rw [k4, if_neg (hne i (by omega)), pk_cpy_out]
    by_cases hlo : c * w + j < b * w + i + 1
    · exact Or.inl hlo
    · refine Or.inr (Nat.not_lt.mp fun hh => ?_)
      exact hne (c * w + j - b * w) (by omega) (by omega)
  · rw [il_len hi] at hj
    rw [k3, k4, il_getD hi]
    by_cases hji : j = i
    · have hjj : b * w + j = b * w + i := by omega
      have hjn : ¬ j < i := by omega
      rw [if_pos hjj, if_pos hjj, if_neg hjn, if_pos hji]
      exact ⟨rfl, rfl⟩
    · have hjj : ¬ b * w + j = b * w + i := by omega
      rw [if_neg hjj, if_neg hjj]
      by_cases hlt : j < i
      · rw [if_pos hlt, pk_cpy_out (Or.inl (by omega)), pk_cpy_out (Or.inl (by omega))]
        exact h4 j (by omega)
      · rw [if_neg hlt, if_neg hji, pk_cpy_in (by omega) (by omega), pk_cpy_in (by omega) (by omega)]
        rw [show b * w + i + (b * w + j - (b * w + i + 1)) = b * w + (j - 1) by omega]
        exact h4 (j - 1) (by omega)
theorem p_remove {b i : Nat} {post : St_ → Prop} (hw : 5 ≤ w ∧ w ≤ 32) (hR : Rp_ w st G) (hb : 1 ≤ b ∧ b ≤ 1200) (hi : i < (ge_ G b).length)
    (k : ∀ st', Rp_ w st' (se_ G b (el_ (ge_ G b) i)) → Fr_ st st' → post st') : wp_B_remove w (nI b) (nI i) st post := by
  unfold wp_B_remove
  obtain ⟨h0, h1, h2, h3, h4⟩ := hR.1 b hb.1 hb.2
  have h5 : b * w + i < 1201 * w := ix_lt hb.2 (by omega)
  have h5' : b * w + ((ge_ G b).length - 1) < 1201 * w := ix_lt hb.2 (by omega)
  have h6 := ix_big hw.2
  have hln := el_len hi
  refine p_size hR hb (p_isEntry hw hR hb hi (br_f (by decide) (br_t (nI_le h3 (by omega)) ?_)))
  intro a ha
  rw [ix_e] at ha
  subst ha
  have em : ∀ q : Nat, 1 ≤ q → nI q - 1 = nI (q - 1) := fun q hq => by
    have := nI_pred (q - 1)
    rw [show q - 1 + 1 = q by omega] at this
    exact this
  rw [nI_1, pk_sub (by omega), em _ (by omega), em _ (by omega), nI_clamp (n := b * w + i) (by omega), nI_clamp (n := b * w + i + 1) (by omega), nI_clamp (n := (ge_ G b).length - i - 1) (by omega)]
  refine ⟨⟨nI_pos (by omega), nI_pos (by omega), nI_pos (by omega), by omega, by omega⟩, fun s1 e1 => ⟨⟨nI_pos (by omega), nI_pos (by omega), nI_pos (by omega), by omega, by omega⟩, fun s2 e2 => ⟨vp_in_nI (by omega) (by omega), fun s5 e5 => ?_⟩⟩⟩
  rw [nI_clamp (n := b) (by omega)] at e5
  have k3 : ∀ q, s5 3 q = va_cpy (st 3) (st 3) (b * w + i + 1) (b * w + i) ((ge_ G b).length - i - 1) q := by
    intro q
    rw [e5, ws_1_arr (by decide), e2, ws_c_arr (by decide), e1]
    simp [ws_c, va_up]
  have k4 : ∀ q, s5 4 q = va_cpy (st 4) (st 4) (b * w + i + 1) (b * w + i) ((ge_ G b).length - i - 1) q := by
    intro q
    rw [e5, ws_1_arr (by decide), e2]
    simp only [ws_c, va_up, if_true]
    rw [e1]
    simp [ws_c, va_up]
  have kk : ∀ q, q ≠ 2 → q ≠ 3 → q ≠ 4 → s5 q = st q := by
    intro q q2 q3 q4
    rw [e5, ws_1_arr q2, e2, ws_c_arr q4, e1, ws_c_arr q3]
  have k2 : ∀ c, s5 2 c = if c = b then nI ((ge_ G b).length - 1) else st 2 c := by
    intro c
    rw [e5]
    by_cases hc : c = b
    · rw [if_pos hc, hc, ws_1_at]
    · rw [if_neg hc, ws_1_ne hc, e2, ws_c_arr (by decide), e1, ws_c_arr (by decide)]
  refine k s5 (hR.ents hb.1 (by omega) (fun e he => hR.2.1 b e (el_mem he)) (kk 0 (by decide) (by decide) (by decide)) (kk 1 (by decide) (by decide) (by decide)) (kk 5 (by decide) (by decide) (by decide)) (kk 18 (by decide) (by decide) (by decide)) (fun c hc => by rw [k2, if_neg hc]) (by rw [k2, if_pos rfl]; congr 1; omega) (fun c j hc hj => ?_) (fun c j hc hj => ?_) (fun j hj => ?_)) (fun q q1 q2 => kk q (by omega) (by omega) (by omega))
  · have hne : ∀ t, t < w → c * w + j ≠ b * w + t := fun t ht e => hc (ix_inj hj ht e).1
    rw [k3, pk_cpy_out]
    by_cases hlo : c * w + j < b * w + i
    · exact Or.inl hlo
    · refine Or.inr (Nat.not_lt.mp fun hh => ?_)
      exact hne (c * w + j - b * w) (by omega) (by omega)
  · have hne : ∀ t, t < w → c * w + j ≠ b * w + t := fun t ht e => hc (ix_inj hj ht e).1
    rw [k4, pk_cpy_out]
    by_cases hlo : c * w + j < b * w + i
    · exact Or.inl hlo
    · refine Or.inr (Nat.not_lt.mp fun hh => ?_)
      exact hne (c * w + j - b * w) (by omega) (by omega)
  · rw [k3, k4, el_getD hi]
    by_cases hlt : j < i
    · rw [if_pos hlt, pk_cpy_out (Or.inl (by omega)), pk_cpy_out (Or.inl (by omega))]
      exact h4 j (by omega)
    · rw [if_neg hlt, pk_cpy_in (by omega) (by omega), pk_cpy_in (by omega) (by omega)]
      rw [show b * w + i + 1 + (b * w + j - (b * w + i)) = b * w + (j + 1) by omega]
      exact h4 (j + 1) (by omega)
end PB2
