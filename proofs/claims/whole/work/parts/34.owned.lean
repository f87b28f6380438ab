-- PURE: Blocks.owned
section PO
variable {w : Nat}
/-- the copy c of block b, i entries done -/
abbrev ci_ (G : Sg_) (b c : Nat) (f : List Nat) (i : Nat) : Sg_ :=
  (fun x => va_up G.1 c 1 x + (if G.2.1 b = 0 then 0 else cn_ x ((G.2.2.1 b).take i)), va_up G.2.1 c (G.2.1 b), va_up G.2.2.1 c ((G.2.2.1 b).take i), f)
abbrev cp_ (G : Sg_) (b c : Nat) (f : List Nat) : Sg_ :=
  (fun x => va_up G.1 c 1 x + (if G.2.1 b = 0 then 0 else cn_ x (G.2.2.1 b)) - (if x = b then 1 else 0), va_up G.2.1 c (G.2.1 b), va_up G.2.2.1 c (G.2.2.1 b), f)
theorem tk_1 {l : List (Nat × Nat)} {i : Nat} (hi : i < l.length) : l.take (i + 1) = l.take i ++ [l.getD i (0, 0)] := by
  rw [List.take_succ, List.getElem?_eq_getElem hi, List.getD_eq_getElem?_getD, List.getElem?_eq_getElem hi]
  rfl
theorem gd_mem {l : List (Nat × Nat)} {i : Nat} (hi : i < l.length) : l.getD i (0, 0) ∈ l := by
  rw [List.getD_eq_getElem?_getD, List.getElem?_eq_getElem hi]
  exact List.getElem_mem hi
theorem Sg_ext {A B : Sg_} (h0 : ∀ x, A.1 x = B.1 x) (h1 : ∀ x, A.2.1 x = B.2.1 x) (h2 : ∀ x, A.2.2.1 x = B.2.2.1 x) (h3 : A.2.2.2 = B.2.2.2) : A = B := by
  obtain ⟨a, b, c, d⟩ := A
  obtain ⟨a', b', c', d'⟩ := B
  obtain rfl : a = a' := funext h0
  obtain rfl : b = b' := funext h1
  obtain rfl : c = c' := funext h2
  obtain rfl : d = d' := h3
  rfl
theorem p_owned_loop {G : Sg_} {b c : Nat} {f : List Nat} {post : Int32 → St_ → Prop} (hw : 5 ≤ w ∧ w ≤ 32) (hb : 1 ≤ b ∧ b ≤ 1200) (hc : 1 ≤ c ∧ c ≤ 1200) (hbc : b ≠ c) (hl : (ge_ G b).length ≤ w) (hlv : gl_ G b ≤ 16)
    (hch : gl_ G b ≠ 0 → ∀ e ∈ ge_ G b, 1 ≤ e.2 ∧ e.2 ≤ 1200) (h1 : 1 ≤ gw_ G b) (h2 : ∀ i, gw_ (ci_ G b c f i) b < 2 ^ 31) (st0 : St_)
    (k : ∀ st', Rp_ w st' (cp_ G b c f) → Fr_ st0 st' → post (nI c) st') :
    ∀ (n i : Nat) (st : St_), i ≤ (ge_ G b).length → (ge_ G b).length < n + i → Rp_ w st (ci_ G b c f i) → Fr_ st0 st → wp_B_owned_23 w post n (nI b) (nI c) (nI i) st := by
  intro n
  induction n with
  | zero => intro i st h3 h4; omega
  | succ n ih =>
    intro i st hi hn hR hF
    have heb : ge_ (ci_ G b c f i) b = ge_ G b := by simp [gw_, gl_, ge_, ci_, cp_, se_, sw_, tk_, va_up, hbc]
    have hec : ge_ (ci_ G b c f i) c = (ge_ G b).take i := by simp [gw_, gl_, ge_, ci_, cp_, se_, sw_, tk_, va_up]
    have hlb : gl_ (ci_ G b c f i) b = gl_ G b := by simp [gw_, gl_, ge_, ci_, cp_, se_, sw_, tk_, va_up, hbc]
    refine p_size hR hb ?_
    rw [heb]
    refine pk_le (ge_ G b).length i (fun hle => ?_) (fun hlt => ?_) rfl rfl (by omega) (by omega)
    · have hie : i = (ge_ G b).length := by omega
      subst hie
      have hge : 1 ≤ gw_ (ci_ G b c f (ge_ G b).length) b := by
        show 1 ≤ va_up G.1 c 1 b + _
        simp only [gw_, gl_, ge_, ci_, cp_, se_, sw_, tk_, va_up, hbc, if_false]
        have : 1 ≤ G.1 b := h1
        omega
      refine p_lose hR hb hge (h2 _) (fun s1 hR1 hF1 => ?_)
      refine k s1 (hR1.eq (Sg_ext (fun x => ?_) (fun x => rfl) (fun x => ?_) rfl)) (hF.tr hF1)
      · by_cases hx : x = b
        · subst hx
          simp only [gw_, gl_, ge_, ci_, cp_, se_, sw_, tk_, va_up, if_true, List.take_length]
        · simp only [gw_, gl_, ge_, ci_, cp_, se_, sw_, tk_, va_up, hx, if_false, List.take_length, Nat.sub_zero]
      · simp only [List.take_length]
    · have hi2 : i < (ge_ (ci_ G b c f i) b).length := by rw [heb]; exact hlt
      have hbd := hR.bd hi2
      rw [heb] at hbd
      refine p_key hw hR hb hi2 (p_goal hw hR hb hi2 ?_)
      rw [heb]
      have hcl : ((ge_ G b).take i).length = i := by simp; omega
      have hlt2 : i < w := by omega
      have hins := p_insert (b := c) (i := i) (x := ((ge_ G b).getD i (0, 0)).1) (g := ((ge_ G b).getD i (0, 0)).2) (post := fun (st115 : St_) => wp_B_level w (nI b) st115 (fun (r117 : Int32) (st116 : St_) => ((r117 ≤ 0 → ∀ x118 : Int32, x118 = nI i + 1 → (wp_B_owned_23 w post n (nI b) (nI c) x118 st116)) ∧ (¬ r117 ≤ 0 → wp_B_goal w (nI b) (nI i) st116 (fun (r120 : Int32) (st119 : St_) => wp_B_share w r120 st119 (fun (st121 : St_) => ∀ x122 : Int32, x122 = nI i + 1 → (wp_B_owned_23 w post n (nI b) (nI c) x122 st121))))))) hw hR hc (by rw [hec, hcl]; exact Nat.le_refl _) (by rw [hec, hcl]; exact hlt2) hbd.1 hbd.2 (fun s1 hR1 hF1 => ?_)
      · exact hins
      · rw [hec] at hR1
        have hil : il_ ((ge_ G b).take i) i ((ge_ G b).getD i (0, 0)) = (ge_ G b).take (i + 1) := by
          have := il_end ((ge_ G b).take i) ((ge_ G b).getD i (0, 0))
          rw [hcl] at this
          rw [this, tk_1 hlt]
        have hR1 : Rp_ w s1 (se_ (ci_ G b c f i) c ((ge_ G b).take (i + 1))) := by
          rw [← hil]; exact hR1
        have heb1 : ge_ (se_ (ci_ G b c f i) c ((ge_ G b).take (i + 1))) b = ge_ G b := by rw [se_ne _ _ hbc, heb]
        refine p_level hR1 hb ?_
        show (nI (gl_ (ci_ G b c f i) b) ≤ 0 → _) ∧ (_ → _)
        rw [hlb]
        refine pk_le (gl_ G b) 0 (fun h0 => ?_) (fun h0 => ?_) rfl rfl (by omega) (by omega)
        · intro y hy
          rw [hy, nI_1]
          refine ih (i + 1) s1 (by omega) (by omega) (hR1.eq (Sg_ext (fun x => ?_) (fun x => rfl) (fun x => ?_) rfl)) (hF.tr hF1)
          · have : G.2.1 b = 0 := by have : gl_ G b = 0 := by omega
                                     exact this
            simp [this]
          · by_cases hx : x = c
            · subst hx; simp [gw_, gl_, ge_, ci_, cp_, se_, sw_, tk_, va_up]
            · simp [gw_, gl_, ge_, ci_, cp_, se_, sw_, tk_, va_up, hx]
        · have hi3 : i < (ge_ (se_ (ci_ G b c f i) c ((ge_ G b).take (i + 1))) b).length := by rw [heb1]; exact hlt
          refine p_goal hw hR1 hb hi3 ?_
          rw [heb1]
          have hg := hch (by omega) _ (gd_mem hlt)
          refine p_share hR1 hg (fun s2 hR2 hF2 => ?_)
          intro y hy
          rw [hy, nI_1]
          refine ih (i + 1) s2 (by omega) (by omega) (hR2.eq (Sg_ext (fun x => ?_) (fun x => rfl) (fun x => ?_) rfl)) ((hF.tr hF1).tr hF2)
          · have hne : ¬ G.2.1 b = 0 := by
              have : 0 < gl_ G b := h0
              show ¬ gl_ G b = 0
              omega
            have ht : cn_ x ((G.2.2.1 b).take (i + 1)) = cn_ x ((G.2.2.1 b).take i) + (if ((G.2.2.1 b).getD i (0, 0)).2 = x then 1 else 0) := by
              have := tk_1 hlt
              rw [show (G.2.2.1 b).take (i + 1) = (G.2.2.1 b).take i ++ [(G.2.2.1 b).getD i (0, 0)] from this, cn_app]
              simp [cn_]
            by_cases hx : x = ((ge_ G b).getD i (0, 0)).2
            · have hx' : ((G.2.2.1 b).getD i (0, 0)).2 = x := hx.symm
              simp only [hne, if_false]
              rw [ht, if_pos hx']
              rw [hx]
              simp only [gw_, gl_, ge_, ci_, cp_, se_, sw_, tk_, va_up, if_true, hne, if_false]
              omega
            · have hx' : ¬ ((G.2.2.1 b).getD i (0, 0)).2 = x := fun e => hx e.symm
              simp only [hne, if_false]
              rw [ht, if_neg hx']
              simp only [gw_, gl_, ge_, ci_, cp_, se_, sw_, tk_, va_up, hx, if_false, hne]
              omega
          · by_cases hx : x = c
            · subst hx; simp [gw_, gl_, ge_, ci_, cp_, se_, sw_, tk_, va_up]
            · simp [gw_, gl_, ge_, ci_, cp_, se_, sw_, tk_, va_up, hx]
theorem p_owned1 {st : St_} {G : Sg_} {b : Nat} {post : Int32 → St_ → Prop} (hR : Rp_ w st G) (hb : 1 ≤ b ∧ b ≤ 1200) (h1 : gw_ G b ≤ 1) (k : post (nI b) st) : wp_B_owned w (nI b) st post := by
  unfold wp_B_owned
  refine p_ways hR hb (br_f ?_ k)
  exact nI_nlt (a := 1) h1 (by omega)
theorem p_owned2 {st : St_} {G : Sg_} {b c : Nat} {f : List Nat} {post : Int32 → St_ → Prop} (hw : 5 ≤ w ∧ w ≤ 32) (hR : Rp_ w st G) (hb : 1 ≤ b ∧ b ≤ 1200) (h1 : 2 ≤ gw_ G b) (h2 : gw_ G b + cn_ b (ge_ G b) < 2 ^ 31) (hlv : gl_ G b ≤ 16)
    (hf : gf_ G = f ++ [c]) (hc : 1 ≤ c ∧ c ≤ 1200) (hbc : b ≠ c) (hch : gl_ G b ≠ 0 → ∀ e ∈ ge_ G b, 1 ≤ e.2 ∧ e.2 ≤ 1200)
    (k : ∀ st', Rp_ w st' (cp_ G b c f) → Fr_ st st' → post (nI c) st') : wp_B_owned w (nI b) st post := by
  unfold wp_B_owned
  refine p_ways hR hb (br_t (nI_lt (a := 1) (by omega) (by omega)) (p_level hR hb (p_take hR hf hc (fun s1 hR1 hF1 => ?_))))
  have hl := (hR.1 b hb.1 hb.2).2.2.2.1
  refine ⟨(ge_ G b).length + 1, p_owned_loop hw hb hc hbc hl hlv hch (by omega) (fun i => ?_) st k _ 0 s1 (Nat.zero_le _) (by omega) (hR1.eq (Sg_ext (fun x => ?_) (fun x => rfl) (fun x => ?_) rfl)) hF1⟩
  · show va_up G.1 c 1 b + _ < _
    simp only [gw_, gl_, ge_, ci_, cp_, se_, sw_, tk_, va_up, hbc, if_false]
    have h3 : cn_ b ((G.2.2.1 b).take i) ≤ cn_ b (G.2.2.1 b) := by
      have := cn_app b ((G.2.2.1 b).take i) ((G.2.2.1 b).drop i)
      rw [List.take_append_drop] at this
      omega
    have h4 : gw_ G b + cn_ b (ge_ G b) < 2 ^ 31 := h2
    show G.1 b + _ < _
    have h5 : G.1 b + cn_ b (G.2.2.1 b) < 2 ^ 31 := h4
    split <;> omega
  · simp [cn_]
  · simp
end PO
