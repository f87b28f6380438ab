-- PURE: Blocks.owned
section PO
variable {w : Nat}
/-- the copy c of block b, i entries shared -/
abbrev ci_ (G : Sg_) (b c : Nat) (f : List Nat) (i : Nat) : Sg_ :=
  (fun x => va_up G.1 c 1 x + cn_ x ((G.2.2.1 b).take i), va_up G.2.1 c (G.2.1 b), va_up G.2.2.1 c (G.2.2.1 b), f)
abbrev cp_ (G : Sg_) (b c : Nat) (f : List Nat) : Sg_ :=
  (fun x => va_up G.1 c 1 x + (if G.2.1 b = 0 then 0 else cn_ x (G.2.2.1 b)) - (if x = b then 1 else 0), va_up G.2.1 c (G.2.1 b), va_up G.2.2.1 c (G.2.2.1 b), f)
theorem tk_1 {l : List (Nat × Nat)} {i : Nat} (hi : i < l.length) : l.take (i + 1) = l.take i ++ [l.getD i (0, 0)] := by
  rw [List.take_succ, List.getElem?_eq_getElem hi, List.getD_eq_getElem?_getD, List.getElem?_eq_getElem hi]
  rfl
theorem gd_mem {l : List (Nat × Nat)} {i : Nat} (hi : i < l.length) : l.getD i (0, 0) ∈ l := by
  rw [List.getD_eq_getElem?_getD, List.getElem?_eq_getElem hi]
  exact List.getElem_mem hi
theorem Sg_ext {A B : Sg_} (h0 : ∀ x, A.1 x = B.1 x) (h1 : ∀ x, A.2.1 x = B.2.1 x) (h2 : ∀ x, A.2.2.1 x = B.2.2.1 x) (h3 : A.2.2.2 = B.2.2.2) : A = B := by
  obtain ⟨a, b, c, d⟩ := A
  obtain ⟨a', b', c', d'⟩ := B
  obtain rfl : a = a' := funext h0
  obtain rfl : b = b' := funext h1
  obtain rfl : c = c' := funext h2
  obtain rfl : d = d' := h3
  rfl
theorem p_copyEntries {st : St_} {G : Sg_} {b c : Nat} {post : St_ → Prop} (hw : 5 ≤ w ∧ w ≤ 32) (hR : Rp_ w st G) (hb : 1 ≤ b ∧ b ≤ 1200) (hc : 1 ≤ c ∧ c ≤ 1200)
    (k : ∀ st', Rp_ w st' (se_ G c (ge_ G b)) → Fr_ st st' → post st') : wp_B_copyEntries w (nI b) (nI c) st post := by
  unfold wp_B_copyEntries
  obtain ⟨h0, h1, h2, h3, h4⟩ := hR.1 b hb.1 hb.2
  have h5 : b * w + w ≤ 1201 * w := by
    have := Nat.mul_le_mul_right w hb.2
    omega
  have h5' : c * w + w ≤ 1201 * w := by
    have := Nat.mul_le_mul_right w hc.2
    omega
  have h6 := ix_big hw.2
  refine p_isBlock hb (br_f (by decide) (p_isBlock hc (br_f (by decide) ?_)))
  simp only [pk_mul, nI_clamp (n := b * w) (by omega), nI_clamp (n := c * w) (by omega), nI_clamp (n := w) (by omega), nI_clamp (n := b) (by omega), nI_clamp (n := c) (by omega)]
  refine ⟨⟨nI_pos (by omega), nI_pos (by omega), nI_pos (by omega), h5, h5'⟩, fun s1 e1 => ⟨⟨nI_pos (by omega), nI_pos (by omega), nI_pos (by omega), h5, h5'⟩, fun s2 e2 => ⟨vp_in_nI (by omega) (by omega), vp_in_nI (by omega) (by omega), fun s3 e3 => ?_⟩⟩⟩
  have k3 : ∀ q, s3 3 q = va_cpy (st 3) (st 3) (b * w) (c * w) w q := by
    intro q
    rw [e3, ws_1_arr (by decide), e2, ws_c_arr (by decide), e1]
    simp [ws_c, va_up]
  have k4 : ∀ q, s3 4 q = va_cpy (st 4) (st 4) (b * w) (c * w) w q := by
    intro q
    rw [e3, ws_1_arr (by decide), e2]
    simp only [ws_c, va_up, if_true]
    rw [e1]
    simp [ws_c, va_up]
  have kk : ∀ q, q ≠ 2 → q ≠ 3 → q ≠ 4 → s3 q = st q := by
    intro q q2 q3 q4
    rw [e3, ws_1_arr q2, e2, ws_c_arr q4, e1, ws_c_arr q3]
  have g2 : s2 2 = st 2 := by rw [e2, ws_c_arr (by decide), e1, ws_c_arr (by decide)]
  have k2 : ∀ d, s3 2 d = if d = c then nI (ge_ G b).length else st 2 d := by
    intro d
    rw [e3]
    by_cases hd : d = c
    · rw [if_pos hd, hd, ws_1_at, g2, h2]
    · rw [if_neg hd, ws_1_ne hd, g2]
  refine k s3 (hR.ents hc.1 h3 (fun e he => hR.2.1 b e he) (kk 0 (by decide) (by decide) (by decide)) (kk 1 (by decide) (by decide) (by decide)) (kk 5 (by decide) (by decide) (by decide)) (kk 18 (by decide) (by decide) (by decide)) (fun d hd => by rw [k2, if_neg hd]) (by rw [k2, if_pos rfl]) (fun d j hd hj => ?_) (fun d j hd hj => ?_) (fun j hj => ?_)) (fun q q1 q2 => kk q (by omega) (by omega) (by omega))
  · have hne : ∀ t, t < w → d * w + j ≠ c * w + t := fun t ht e => hd (ix_inj hj ht e).1
    rw [k3, pk_cpy_out]
    by_cases hlo : d * w + j < c * w
    · exact Or.inl hlo
    · refine Or.inr (Nat.not_lt.mp fun hh => ?_)
      exact hne (d * w + j - c * w) (by omega) (by omega)
  · have hne : ∀ t, t < w → d * w + j ≠ c * w + t := fun t ht e => hd (ix_inj hj ht e).1
    rw [k4, pk_cpy_out]
    by_cases hlo : d * w + j < c * w
    · exact Or.inl hlo
    · refine Or.inr (Nat.not_lt.mp fun hh => ?_)
      exact hne (d * w + j - c * w) (by omega) (by omega)
  · rw [k3, k4, pk_cpy_in (by omega) (by omega), pk_cpy_in (by omega) (by omega)]
    rw [show b * w + (c * w + j - c * w) = b * w + j by omega]
    exact h4 j hj
theorem p_owned_loop {G : Sg_} {b c : Nat} {f : List Nat} {post : Int32 → St_ → Prop} (hw : 5 ≤ w ∧ w ≤ 32) (hb : 1 ≤ b ∧ b ≤ 1200) (hbc : b ≠ c) (hl : (ge_ G b).length ≤ w) (hne : ¬ gl_ G b = 0)
    (hch : ∀ e ∈ ge_ G b, 1 ≤ e.2 ∧ e.2 ≤ 1200) (h1 : 1 ≤ gw_ G b) (h2 : ∀ i, gw_ (ci_ G b c f i) b < 2 ^ 31) (st0 : St_)
    (k : ∀ st', Rp_ w st' (cp_ G b c f) → Fr_ st0 st' → post (nI c) st') :
    ∀ (n i : Nat) (st : St_), i ≤ (ge_ G b).length → (ge_ G b).length < n + i → Rp_ w st (ci_ G b c f i) → Fr_ st0 st → wp_B_owned_37 w post n (nI b) (nI c) (nI i) st := by
  have hne' : ¬ G.2.1 b = 0 := hne
  intro n
  induction n with
  | zero => intro i st h3 h4; omega
  | succ n ih =>
    intro i st hi hn hR hF
    have heb : ge_ (ci_ G b c f i) b = ge_ G b := by simp [gw_, gl_, ge_, ci_, cp_, se_, sw_, tk_, va_up, hbc]
    refine p_size hR hb ?_
    rw [heb]
    refine pk_le (ge_ G b).length i (fun hle => ?_) (fun hlt => ?_) rfl rfl (by omega) (by omega)
    · have hie : i = (ge_ G b).length := by omega
      subst hie
      have hge : 1 ≤ gw_ (ci_ G b c f (ge_ G b).length) b := by
        show 1 ≤ va_up G.1 c 1 b + _
        simp only [gw_, gl_, ge_, ci_, cp_, se_, sw_, tk_, va_up, hbc, if_false]
        have : 1 ≤ G.1 b := h1
        omega
      refine p_lose hR hb hge (h2 _) (fun s1 hR1 hF1 => ?_)
      refine k s1 (hR1.eq (Sg_ext (fun x => ?_) (fun x => rfl) (fun x => rfl) rfl)) (hF.tr hF1)
      by_cases hx : x = b
      · subst hx
        simp only [gw_, gl_, ge_, ci_, cp_, se_, sw_, tk_, va_up, if_true, List.take_length, hne', if_false]
      · simp only [gw_, gl_, ge_, ci_, cp_, se_, sw_, tk_, va_up, hx, if_false, List.take_length, Nat.sub_zero, hne']
    · have hi2 : i < (ge_ (ci_ G b c f i) b).length := by rw [heb]; exact hlt
      refine p_goal hw hR hb hi2 ?_
      rw [heb]
      have hg := hch _ (gd_mem hlt)
      refine p_share hR hg (fun s2 hR2 hF2 => ?_)
      intro y hy
      rw [hy, nI_1]
      refine ih (i + 1) s2 (by omega) (by omega) (hR2.eq (Sg_ext (fun x => ?_) (fun x => rfl) (fun x => rfl) rfl)) (hF.tr hF2)
      have ht : cn_ x ((G.2.2.1 b).take (i + 1)) = cn_ x ((G.2.2.1 b).take i) + (if ((G.2.2.1 b).getD i (0, 0)).2 = x then 1 else 0) := by
        have := tk_1 hlt
        rw [show (G.2.2.1 b).take (i + 1) = (G.2.2.1 b).take i ++ [(G.2.2.1 b).getD i (0, 0)] from this, cn_app]
        simp [cn_]
      by_cases hx : x = ((ge_ G b).getD i (0, 0)).2
      · have hx' : ((G.2.2.1 b).getD i (0, 0)).2 = x := hx.symm
        show _ = va_up G.1 c 1 x + cn_ x ((G.2.2.1 b).take (i + 1))
        rw [ht, if_pos hx']
        rw [hx]
        simp only [gw_, gl_, ge_, ci_, cp_, se_, sw_, tk_, va_up, if_true]
        omega
      · have hx' : ¬ ((G.2.2.1 b).getD i (0, 0)).2 = x := fun e => hx e.symm
        show _ = va_up G.1 c 1 x + cn_ x ((G.2.2.1 b).take (i + 1))
        rw [ht, if_neg hx']
        simp only [gw_, gl_, ge_, ci_, cp_, se_, sw_, tk_, va_up, hx, if_false]
        omega
theorem p_owned1 {st : St_} {G : Sg_} {b : Nat} {post : Int32 → St_ → Prop} (hR : Rp_ w st G) (hb : 1 ≤ b ∧ b ≤ 1200) (h1 : gw_ G b ≤ 1) (k : post (nI b) st) : wp_B_owned w (nI b) st post := by
  unfold wp_B_owned
  refine p_ways hR hb (br_f ?_ k)
  exact nI_nlt (a := 1) h1 (by omega)
theorem p_owned2 {st : St_} {G : Sg_} {b c : Nat} {f : List Nat} {post : Int32 → St_ → Prop} (hw : 5 ≤ w ∧ w ≤ 32) (hR : Rp_ w st G) (hb : 1 ≤ b ∧ b ≤ 1200) (h1 : 2 ≤ gw_ G b) (h2 : gw_ G b + cn_ b (ge_ G b) < 2 ^ 31) (hlv : gl_ G b ≤ 16)
    (hf : gf_ G = f ++ [c]) (hc : 1 ≤ c ∧ c ≤ 1200) (hbc : b ≠ c) (hch : gl_ G b ≠ 0 → ∀ e ∈ ge_ G b, 1 ≤ e.2 ∧ e.2 ≤ 1200)
    (k : ∀ st', Rp_ w st' (cp_ G b c f) → Fr_ st st' → post (nI c) st') : wp_B_owned w (nI b) st post := by
  unfold wp_B_owned
  refine p_ways hR hb (br_t (nI_lt (a := 1) (by omega) (by omega)) (p_level hR hb (p_take hR hf hc (fun s1 hR1 hF1 => p_copyEntries hw hR1 hb hc (fun s2 hR2 hF2 => p_level hR2 hb ?_)))))
  have hl := (hR.1 b hb.1 hb.2).2.2.2.1
  have heb : ge_ (tk_ G c (gl_ G b) f) b = ge_ G b := by simp [gw_, gl_, ge_, se_, sw_, tk_, va_up, hbc]
  have hlb : gl_ (se_ (tk_ G c (gl_ G b) f) c (ge_ (tk_ G c (gl_ G b) f) b)) b = gl_ G b := by simp [gw_, gl_, ge_, se_, sw_, tk_, va_up, hbc]
  have hwb : gw_ (se_ (tk_ G c (gl_ G b) f) c (ge_ (tk_ G c (gl_ G b) f) b)) b = gw_ G b := by simp [gw_, gl_, ge_, se_, sw_, tk_, va_up, hbc]
  rw [hlb]
  refine pk_le (gl_ G b) 0 (fun h0 => ?_) (fun h0 => ?_) rfl rfl (by omega) (by omega)
  · have h0' : G.2.1 b = 0 := by
      have : gl_ G b = 0 := by omega
      exact this
    refine p_lose hR2 hb (by rw [hwb]; omega) (by rw [hwb]; omega) (fun s3 hR3 hF3 => ?_)
    refine k s3 (hR3.eq (Sg_ext (fun x => ?_) (fun x => rfl) (fun x => ?_) rfl)) ((hF1.tr hF2).tr hF3)
    · by_cases hx : x = b
      · subst hx
        simp only [gw_, gl_, ge_, ci_, cp_, se_, sw_, tk_, va_up, if_true, h0', Nat.add_zero]
      · simp only [gw_, gl_, ge_, ci_, cp_, se_, sw_, tk_, va_up, hx, if_false, h0', if_true, Nat.add_zero, Nat.sub_zero]
    · show va_up (va_up G.2.2.1 c []) c (ge_ (tk_ G c (gl_ G b) f) b) x = va_up G.2.2.1 c (G.2.2.1 b) x
      rw [heb, bx_uu]
  · refine ⟨(ge_ G b).length + 1, p_owned_loop hw hb hbc hl (by omega) (hch (by omega)) (by omega) (fun i => ?_) st k _ 0 s2 (Nat.zero_le _) (by omega) (hR2.eq (Sg_ext (fun x => ?_) (fun x => rfl) (fun x => ?_) rfl)) (hF1.tr hF2)⟩
    · show va_up G.1 c 1 b + _ < _
      simp only [gw_, gl_, ge_, ci_, cp_, se_, sw_, tk_, va_up, hbc, if_false]
      have h3 : cn_ b ((G.2.2.1 b).take i) ≤ cn_ b (G.2.2.1 b) := by
        have := cn_app b ((G.2.2.1 b).take i) ((G.2.2.1 b).drop i)
        rw [List.take_append_drop] at this
        omega
      have h4 : gw_ G b + cn_ b (ge_ G b) < 2 ^ 31 := h2
      show G.1 b + _ < _
      have h5 : G.1 b + cn_ b (G.2.2.1 b) < 2 ^ 31 := h4
      omega
    · simp [cn_]
    · show va_up (va_up G.2.2.1 c []) c (ge_ (tk_ G c (gl_ G b) f) b) x = va_up G.2.2.1 c (G.2.2.1 b) x
      rw [heb, bx_uu]
end PO
