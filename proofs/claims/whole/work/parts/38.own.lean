-- PURE: a way gets a block of its own: Trees.ownedChild, and a root's
theorem cn_set (y : Nat) : ∀ (L : List (Nat × Nat)) (i : Nat) (e : Nat × Nat), i < L.length → cn_ y (L.set i e) + (if (L.getD i (0, 0)).2 = y then 1 else 0) = cn_ y L + (if e.2 = y then 1 else 0)
  | [], i, e, h => by simp at h
  | d :: L, 0, e, _ => by simp only [List.set_cons_zero, cn_, List.getD_cons_zero]; omega
  | d :: L, i + 1, e, h => by
    have := cn_set y L i e (by simpa using h)
    simp only [List.set_cons_succ, cn_, List.getD_cons_succ]
    omega
theorem et_repl {E1 E2 : Nat → List (Nat × Nat)} {p m : Nat} (P : Nat → Nat → Prop) (h : ∀ n y, P n y → y ≠ p → E2 y = E1 y) (hc : ∀ n y, P (n + 1) y → ∀ e ∈ E1 y, P n e.2) (hp : ∀ n, P n p → n = m + 1) (hk : ∀ e ∈ E2 p, P m e.2) (hf : fm_ E1 m (E2 p) = fm_ E1 m (E1 p)) : ∀ n y, P n y → et_ E2 n y = et_ E1 n y := by
  intro n
  induction n with
  | zero =>
    intro y hy
    by_cases e : y = p
    · subst e; have := hp 0 hy; omega
    · exact h 0 y hy e
  | succ n ih =>
    intro y hy
    by_cases e : y = p
    · subst e
      have hn : n = m := by have := hp _ hy; omega
      subst hn
      rw [et_succ, et_succ, ← hf]
      exact fm_congr (fun d hd => ih d.2 (hk d hd))
    · rw [et_succ, et_succ, h _ y hy e]
      exact fm_congr (fun d hd => ih d.2 (hc n y hy d hd))
theorem fm_set {E : Nat → List (Nat × Nat)} {l i : Nat} {L : List (Nat × Nat)} {e : Nat × Nat} (hi : i < L.length) (h : et_ E l e.2 = et_ E l (L.getD i (0, 0)).2) : fm_ E l (L.set i e) = fm_ E l L := by
  have h1 : L.set i e = L.take i ++ e :: L.drop (i + 1) := by rw [List.set_eq_take_append_cons_drop, if_pos hi]
  rw [h1, fm_app, fm_cons, h]
  conv => rhs; rw [spl_ hi, fm_app, fm_cons]
theorem sum_le_mul (n c : Nat) (f : Nat → Nat) (h : ∀ i, i < n → f i ≤ c) : sm_ n f ≤ n * c := by
  induction n with
  | zero => simp [sm_]
  | succ n ih =>
    have h1 := ih (fun i hi => h i (by omega))
    have h2 := h n (by omega)
    show sm_ n f + f n ≤ (n + 1) * c
    rw [Nat.add_mul]; omega
section OW
variable {w l a : Nat} {X : List Nat} {R : Nat → Nat} {Z : List Nat} {G : Sg_} {st : St_}
theorem gw_bd (hw : 5 ≤ w ∧ w ≤ 32) (hR : Rp_ w st G) (hI : Ic_ w X l R Z G) (hr : ∀ y, R y ≤ 1000) (b : Nat) (hb : 1 ≤ gw_ G b) : gw_ G b + cn_ b (ge_ G b) < 2 ^ 31 := by
  obtain ⟨b1, b2, b3⟩ := hI.1 b hb
  have h1 := hI.2.2.1 b b1
  have hln : ∀ p, 1 ≤ gw_ G p → (ge_ G p).length ≤ 32 := fun p hp => by
    obtain ⟨p1, p2, -⟩ := hI.1 p hp
    have := (hR.1 p p1 p2).2.2.2.1; omega
  have h2 : eg_ G b ≤ 1201 * 32 := sum_le_mul _ _ _ (fun p _ => by
    by_cases hu : gw_ G p = 0 ∨ gl_ G p = 0
    · simp [hu]
    · simp only [hu, if_false]
      have := cn_len b (ge_ G p)
      have := hln p (by omega)
      omega)
  have h3 := hr b
  have h4 := cn_len b (ge_ G b)
  have h5 := hln b hb
  omega
theorem In_root (hw : 5 ≤ w) (hI : In_ w X l R a G) {b c : Nat} {f : List Nat} {R' : Nat → Nat} (hb : 2 ≤ gw_ G b) (hl : gl_ G b ≤ l) (hf : gf_ G = f ++ [c]) (hbX : b ∉ X) (h2 : gl_ G b = 0 ∨ 2 ≤ (ge_ G b).length) (hk : gl_ G b ≠ 0 → ∀ e ∈ ge_ G b, e.2 ∉ X)
    (hR' : ∀ y, 1 ≤ y → R' y + (if y = b then 1 else 0) = R y + (if y = c then 1 else 0)) : In_ w X l R' a (cp_ G b c f) := by
  obtain ⟨hI, hs⟩ := hI
  have hln := ((hI.2.2.2 b (by omega) hl).1 hbX).1
  refine ⟨⟨cp_u hI hb hl hf, cp_f hI hb hl hf, fun y hy => ?_, cp_v hI hb hl hf hbX⟩, ?_⟩
  · have h1 := cp_cnt hI hb hl hf y hy
    have h3 := hR' y hy
    omega
  · have h1 := cp_SL hw hI hb hl hf hln h2 hk
    have h3 : (gf_ G).length = f.length + 1 := by rw [hf]; simp
    show a + SL_ l (cp_ G b c f) ≤ f.length
    omega
/-- what ownedChild does: entry i of p leads to c, which is its alone -/
def Ow_ (l : Nat) (G G' : Sg_) (p i c : Nat) : Prop :=
  gw_ G' c = 1 ∧ gl_ G' c + 1 = gl_ G p ∧ ge_ G' c = ge_ G ((ge_ G p).getD i (0, 0)).2 ∧
  ge_ G' p = sg_ (ge_ G p) i c ∧ gl_ G' p = gl_ G p ∧ gw_ G' p = gw_ G p ∧
  (∀ y, 1 ≤ gw_ G y → y ≠ p → ge_ G' y = ge_ G y ∧ gl_ G' y = gl_ G y ∧ 1 ≤ gw_ G' y) ∧
  (∀ y, 1 ≤ gw_ G y → gl_ G p ≤ gl_ G y → gw_ G' y = gw_ G y) ∧
  (∀ y, 1 ≤ gw_ G y → gl_ G p ≤ gl_ G y + 1 → y ≠ ((ge_ G p).getD i (0, 0)).2 → gw_ G' y = gw_ G y) ∧
  (∀ y, 1 ≤ gw_ G' y → 1 ≤ gw_ G y ∨ y = c) ∧
  (∀ y, 1 ≤ gw_ G y → gl_ G y ≤ l → et_ (ge_ G') (gl_ G y) y = et_ (ge_ G) (gl_ G y) y) ∧
  et_ (ge_ G') (gl_ G' c) c = et_ (ge_ G) (gl_ G' c) ((ge_ G p).getD i (0, 0)).2 ∧
  (c = ((ge_ G p).getD i (0, 0)).2 ∨ (gw_ G c = 0 ∧ 2 ≤ gw_ G ((ge_ G p).getD i (0, 0)).2))
theorem own_ {p i : Nat} {post : Int32 → St_ → Prop} (hw : 5 ≤ w ∧ w ≤ 32) (hR : Rp_ w st G) (hI : In_ w X l R a G) (hr : ∀ y, R y ≤ 1000) (hp : 1 ≤ gw_ G p) (hpl : gl_ G p ≤ l) (hp0 : gl_ G p ≠ 0) (hi : i < (ge_ G p).length)
    (hbX : 2 ≤ gw_ G ((ge_ G p).getD i (0, 0)).2 → ((ge_ G p).getD i (0, 0)).2 ∉ X) (hk : 2 ≤ gw_ G ((ge_ G p).getD i (0, 0)).2 → gl_ G ((ge_ G p).getD i (0, 0)).2 ≠ 0 → ∀ e ∈ ge_ G ((ge_ G p).getD i (0, 0)).2, e.2 ∉ X)
    (k : ∀ st' G' c, Rp_ w st' G' → Fr_ st st' → In_ w X l R a G' → Ow_ l G G' p i c → post (nI c) st') : wp_T_ownedChild w (nI p) (nI i) st post := by
  unfold wp_T_ownedChild
  obtain ⟨hI, hs⟩ := hI
  obtain ⟨p1, p2, p3⟩ := hI.1 p hp
  have hbd := hR.bd hi
  refine p_goal hw hR ⟨p1, p2⟩ hi ?_
  have hm := gd_mem hi
  obtain ⟨g1, g2, g3, g4⟩ := hI.child hp hpl hp0 hm
  generalize hbe : ((ge_ G p).getD i (0, 0)).2 = b at *
  obtain ⟨b1, b2, b3⟩ := hI.1 b g1
  by_cases hb1 : gw_ G b ≤ 1
  · refine p_owned1 hR ⟨b1, b2⟩ hb1 ?_
    refine p_setGoal hw hR ⟨p1, p2⟩ hi hbd.2 (fun s1 hR1 hF1 => ?_)
    have e1 : sg_ (ge_ G p) i b = ge_ G p := by
      rw [← hbe]
      apply List.ext_getElem?
      intro j
      rw [List.getElem?_set]
      by_cases hj : i = j
      · subst hj
        simp [hi, List.getD_eq_getElem?_getD, List.getElem?_eq_getElem hi]
      · simp [hj]
    have e2 : se_ G p (sg_ (ge_ G p) i b) = G := by
      rw [e1]
      refine Sg_ext (fun _ => rfl) (fun _ => rfl) (fun x => ?_) rfl
      by_cases hx : x = p
      · subst hx; simp [va_up]
      · simp [va_up, hx]
    rw [e2] at hR1
    refine k s1 G b hR1 hF1 ⟨hI, hs⟩ ⟨by omega, g2, by rw [hbe], e1.symm, rfl, rfl, fun y h1 _ => ⟨rfl, rfl, h1⟩, fun _ _ _ => rfl, fun _ _ _ _ => rfl, fun y h => Or.inl h, fun _ _ _ => rfl, by rw [hbe], Or.inl hbe.symm⟩
  · have hb2 : 2 ≤ gw_ G b := by omega
    have hbX' := hbX hb2
    have hkX := hk hb2
    have hbl : gl_ G b ≤ l := by omega
    have hv := hI.2.2.2 b g1 hbl
    have hln := (hv.1 hbX').1
    have hl2 : 2 ≤ (ge_ G b).length := by have := g3 hbX'; omega
    -- a free block
    have hsl := SL_one (l := l) g1 b2 hbl
    have hsl2 : 1 ≤ sl_ G b := by
      have : 1 ≤ (gw_ G b - 1) * mu_ G b := Nat.mul_pos (by omega) (by show 1 ≤ max _ 1; omega)
      simp only [sl_]; omega
    obtain ⟨f, c, hf⟩ : ∃ f c, gf_ G = f ++ [c] := by
      have hne : gf_ G ≠ [] := fun e => by rw [e] at hs; simp at hs; omega
      exact ⟨(gf_ G).dropLast, (gf_ G).getLast hne, (List.dropLast_concat_getLast hne).symm⟩
    obtain ⟨c1, c2, c3, -, -⟩ := fr_last hI hf
    have hbc : b ≠ c := fun e => by rw [e] at hb2; omega
    have hpc : p ≠ c := fun e => by rw [e] at hp; omega
    have hpb : p ≠ b := fun e => by rw [e] at g2; omega
    obtain ⟨w1, w2, w3⟩ := cp_w hI hb2 hbl hf
    refine p_owned2 hw hR ⟨b1, b2⟩ hb2 (gw_bd hw hR hI hr b g1) b3 hf ⟨c1, c2⟩ hbc (fun h0 e he => by
      obtain ⟨q1, -, -, -⟩ := hI.child g1 hbl h0 he
      have := hI.1 e.2 q1; exact ⟨this.1, this.2.1⟩) (fun s1 hR1 hF1 => ?_)
    have hi1 : i < (ge_ (cp_ G b c f) p).length := by rw [(cp_l hpc).2]; exact hi
    refine p_setGoal hw hR1 ⟨p1, p2⟩ hi1 (by omega) (fun s2 hR2 hF2 => ?_)
    rw [(cp_l hpc).2] at hR2
    have hqp : qc_ G b p = 0 := by
      rcases Nat.eq_zero_or_pos (qc_ G b p) with h | h
      · exact h
      · have := (qc_used hI g1 hbl h).2; omega
    -- the entries
    have het : ∀ y, 1 ≤ gw_ G y → gl_ G y ≤ l → et_ (ge_ (se_ (cp_ G b c f) p (sg_ (ge_ G p) i c))) (gl_ G y) y = et_ (ge_ G) (gl_ G y) y := by
      intro y hy hyl
      rw [← cp_et (b := b) hI hf hy hyl]
      refine et_repl (p := p) (m := gl_ G b) (fun n y => (1 ≤ gw_ G y ∧ gl_ G y = n ∧ n ≤ l) ∨ (y = c ∧ n = gl_ G b)) (fun n y h hne => ?_) (fun n y h e he => ?_) (fun n h => ?_) (fun e he => ?_) ?_ _ y (Or.inl ⟨hy, rfl, hyl⟩)
      · exact se_ne _ _ hne
      · rcases h with ⟨h1, h2, h3⟩ | ⟨h1, h2⟩
        · have hyc : y ≠ c := fun q => by rw [q] at h1; omega
          rw [(cp_l hyc).2] at he
          obtain ⟨q1, q2, -, -⟩ := hI.child h1 (by omega) (by omega) he
          exact Or.inl ⟨q1, by omega, by omega⟩
        · rw [h1, cp_lc.2] at he
          obtain ⟨q1, q2, -, -⟩ := hI.child g1 hbl (by omega) he
          exact Or.inl ⟨q1, by omega, by omega⟩
      · rcases h with ⟨h1, h2, h3⟩ | ⟨h1, h2⟩
        · omega
        · exact absurd h1 hpc
      · rw [se_at] at he
        rcases List.mem_or_eq_of_mem_set he with h | h
        · obtain ⟨q1, q2, -, -⟩ := hI.child hp hpl hp0 h
          exact Or.inl ⟨q1, by omega, by omega⟩
        · subst h; exact Or.inr ⟨rfl, rfl⟩
      · rw [se_at, (cp_l hpc).2]
        refine fm_set hi ?_
        rw [hbe]
        show et_ (ge_ (cp_ G b c f)) (gl_ G b) c = et_ (ge_ (cp_ G b c f)) (gl_ G b) b
        rw [cp_etc hI g1 hbl hf, cp_et hI hf g1 hbl]
    have hetc : et_ (ge_ (se_ (cp_ G b c f) p (sg_ (ge_ G p) i c))) (gl_ G b) c = et_ (ge_ G) (gl_ G b) b := by
      cases hn : gl_ G b with
      | zero =>
        show ge_ _ c = ge_ G b
        rw [se_ne _ _ (Ne.symm hpc), cp_lc.2]
      | succ n =>
        rw [et_succ, et_succ, se_ne _ _ (Ne.symm hpc), cp_lc.2]
        refine fm_congr (fun e he => ?_)
        obtain ⟨q1, q2, -, -⟩ := hI.child g1 hbl (by omega) he
        have := het e.2 q1 (by omega)
        rw [show gl_ G e.2 = n by omega] at this
        exact this
    have hOw : Ow_ l G (se_ (cp_ G b c f) p (sg_ (ge_ G p) i c)) p i c := by
      refine ⟨w1, ?_, ?_, se_at _ _ _, (cp_l (f := f) hpc).1, ?_, fun y hy hyp => ?_, fun y hy hyl => ?_, fun y hy hyl hyb => ?_, fun y hy => (cp_used hI hb2 hbl hf y).mp hy, het, ?_, Or.inr ⟨c3, by rw [hbe]; exact hb2⟩⟩
      · show gl_ (cp_ G b c f) c + 1 = _
        rw [cp_lc.1]; exact g2
      · rw [se_ne _ _ (Ne.symm hpc), cp_lc.2, hbe]
      · show gw_ (cp_ G b c f) p = _
        rw [w3 p hpb hpc, hqp]; rfl
      · have hyc : y ≠ c := fun q => by rw [q] at hy; omega
        rw [se_ne _ _ hyp]
        exact ⟨(cp_l (f := f) hyc).2, (cp_l (f := f) hyc).1, (cp_used hI hb2 hbl hf y).mpr (Or.inl hy)⟩
      · have hyc : y ≠ c := fun q => by rw [q] at hy; omega
        have hyb : y ≠ b := fun q => by rw [q] at hyl; omega
        show gw_ (cp_ G b c f) y = _
        rw [w3 y hyb hyc]
        rcases Nat.eq_zero_or_pos (qc_ G b y) with h | h
        · omega
        · have := (qc_used hI g1 hbl h).2; omega
      · have hyc : y ≠ c := fun q => by rw [q] at hy; omega
        rw [hbe] at hyb
        show gw_ (cp_ G b c f) y = _
        rw [w3 y hyb hyc]
        rcases Nat.eq_zero_or_pos (qc_ G b y) with h | h
        · omega
        · have := (qc_used hI g1 hbl h).2; omega
      · show et_ _ (gl_ (cp_ G b c f) c) c = _
        rw [cp_lc.1, hbe]; exact hetc
    refine k s2 _ c hR2 (hF1.tr hF2) ⟨⟨cp_u hI hb2 hbl hf, cp_f hI hb2 hbl hf, fun y hy => ?_, fun y hy hyl => ?_⟩, ?_⟩ hOw
    · have h1 := cp_cnt hI hb2 hbl hf y hy
      have hwp : ¬ (gw_ (cp_ G b c f) p = 0 ∨ gl_ (cp_ G b c f) p = 0) := by
        rw [(cp_l hpc).1, w3 p hpb hpc]; omega
      have h3 := sm_up (n := 1201) (k := p) (f := fun q => if gw_ (cp_ G b c f) q = 0 ∨ gl_ (cp_ G b c f) q = 0 then 0 else cn_ y (ge_ (cp_ G b c f) q)) (g := fun q => if gw_ (cp_ G b c f) q = 0 ∨ gl_ (cp_ G b c f) q = 0 then 0 else cn_ y (ge_ (se_ (cp_ G b c f) p (sg_ (ge_ G p) i c)) q)) (by omega) (fun q _ hq => by
        simp only [se_ne (cp_ G b c f) (sg_ (ge_ G p) i c) hq])
      simp only [hwp, if_false, se_at, (cp_l (G := G) (b := b) (f := f) hpc).2] at h3
      have h4 : cn_ y (sg_ (ge_ G p) i c) + (if ((ge_ G p).getD i (0, 0)).2 = y then 1 else 0) = cn_ y (ge_ G p) + (if c = y then 1 else 0) := cn_set y (ge_ G p) i ((((ge_ G p).getD i (0, 0)).1, c)) hi
      rw [hbe] at h4
      have e3 : eg_ (se_ (cp_ G b c f) p (sg_ (ge_ G p) i c)) y = sm_ 1201 (fun q => if gw_ (cp_ G b c f) q = 0 ∨ gl_ (cp_ G b c f) q = 0 then 0 else cn_ y (ge_ (se_ (cp_ G b c f) p (sg_ (ge_ G p) i c)) q)) := rfl
      have e4 : eg_ (cp_ G b c f) y = sm_ 1201 (fun q => if gw_ (cp_ G b c f) q = 0 ∨ gl_ (cp_ G b c f) q = 0 then 0 else cn_ y (ge_ (cp_ G b c f) q)) := rfl
      rw [← e3, ← e4] at h3
      show gw_ (cp_ G b c f) y = _
      have e5 : (if b = y then 1 else 0) = (if y = b then 1 else 0) := by simp only [eq_comm]
      have e6 : (if c = y then 1 else 0) = (if y = c then 1 else 0) := by simp only [eq_comm]
      rw [e5, e6] at h4
      omega
    · have hv1 := cp_v hI hb2 hbl hf hbX' y hy hyl
      have hyu := (cp_used hI hb2 hbl hf y).mp hy
      have hgl : ∀ z, gl_ (se_ (cp_ G b c f) p (sg_ (ge_ G p) i c)) z = gl_ (cp_ G b c f) z := fun _ => rfl
      have hgw : ∀ z, gw_ (se_ (cp_ G b c f) p (sg_ (ge_ G p) i c)) z = gw_ (cp_ G b c f) z := fun _ => rfl
      have hlen : ∀ z, (ge_ (se_ (cp_ G b c f) p (sg_ (ge_ G p) i c)) z).length = (ge_ (cp_ G b c f) z).length := fun z => by
        by_cases hz : z = p
        · subst hz; rw [se_at, (cp_l hpc).2, List.length_set]
        · rw [se_ne _ _ hz]
      have hhd : ∀ z, (ge_ (se_ (cp_ G b c f) p (sg_ (ge_ G p) i c)) z).head?.map Prod.fst = (ge_ (cp_ G b c f) z).head?.map Prod.fst := fun z => by
        by_cases hz : z = p
        · subst hz
          rw [se_at, (cp_l hpc).2]
          cases hL : ge_ G z with
          | nil => rw [hL] at hi; simp at hi
          | cons d D =>
            cases i with
            | zero => simp [sg_]
            | succ i => simp [sg_]
        · rw [se_ne _ _ hz]
      refine ⟨fun hx => by rw [hlen]; exact hv1.1 hx, ?_, fun h0 => ?_⟩
      · have : et_ (ge_ (se_ (cp_ G b c f) p (sg_ (ge_ G p) i c))) (gl_ (cp_ G b c f) y) y = et_ (ge_ (cp_ G b c f)) (gl_ (cp_ G b c f) y) y := by
          by_cases hyc : y = c
          · subst hyc
            rw [cp_lc.1, hetc, cp_etc hI g1 hbl hf]
          · have hyu' : 1 ≤ gw_ G y := by
              rcases hyu with h | h
              · exact h
              · exact absurd h hyc
            have hyl' : gl_ G y ≤ l := by have := hyl; rw [hgl, (cp_l hyc).1] at this; exact this
            rw [(cp_l hyc).1, het y hyu' hyl', cp_et hI hf hyu' hyl']
        rw [hgl, this]
        exact hv1.2.1
      · intro e he
        by_cases hyp : y = p
        · subst hyp
          rw [se_at] at he
          rw [hgl, hgl, hgw, hlen, hhd]
          rcases List.mem_or_eq_of_mem_set he with h | h
          · have hv3 := hv1.2.2 (by rw [(cp_l hpc).1]; exact hp0) e (by rw [(cp_l hpc).2]; exact h)
            exact hv3
          · subst h
            have hgk := g4
            refine ⟨by show 1 ≤ gw_ (cp_ G b c f) c; omega, ?_, fun _ => ?_, ?_⟩
            · show gl_ (cp_ G b c f) c + 1 = gl_ (cp_ G b c f) y
              rw [cp_lc.1, (cp_l hpc).1]; exact g2
            · show w / 2 ≤ (ge_ (cp_ G b c f) c).length
              rw [cp_lc.2]; exact g3 hbX'
            · show (ge_ (cp_ G b c f) c).head?.map Prod.fst = _
              rw [cp_lc.2]; exact g4
        · rw [se_ne _ _ hyp] at he
          rw [hgl, hgl, hgw, hlen, hhd]
          exact hv1.2.2 h0 e he
    · have h1 := cp_SL hw.1 hI hb2 hbl hf hln (Or.inr hl2) hkX
      have h3 : (gf_ G).length = f.length + 1 := by rw [hf]; simp
      have h4 : SL_ l (se_ (cp_ G b c f) p (sg_ (ge_ G p) i c)) = SL_ l (cp_ G b c f) := by
        refine sm_congr (fun y _ => ?_)
        show (if gw_ (cp_ G b c f) y = 0 ∨ l < gl_ (cp_ G b c f) y then 0 else sl_ _ y) = if gw_ (cp_ G b c f) y = 0 ∨ l < gl_ (cp_ G b c f) y then 0 else sl_ _ y
        split
        · rfl
        · next hu =>
          have hyu := (cp_used hI hb2 hbl hf y).mp (by omega)
          have hk1 : kp_ (se_ (cp_ G b c f) p (sg_ (ge_ G p) i c)) y = kp_ (cp_ G b c f) y := by
            show (et_ (ge_ (se_ (cp_ G b c f) p (sg_ (ge_ G p) i c))) (gl_ (cp_ G b c f) y) y).length = (et_ (ge_ (cp_ G b c f)) (gl_ (cp_ G b c f) y) y).length
            by_cases hyc : y = c
            · subst hyc
              rw [cp_lc.1, hetc, cp_etc hI g1 hbl hf]
            · have hyu' : 1 ≤ gw_ G y := by
                rcases hyu with h | h
                · exact h
                · exact absurd h hyc
              rw [(cp_l hyc).1] at hu ⊢
              rw [het y hyu' (by omega), cp_et hI hf hyu' (by omega)]
          have hlen : (ge_ (se_ (cp_ G b c f) p (sg_ (ge_ G p) i c)) y).length = (ge_ (cp_ G b c f) y).length := by
            by_cases hz : y = p
            · subst hz; rw [se_at, (cp_l hpc).2, List.length_set]
            · rw [se_ne _ _ hz]
          show (gw_ (cp_ G b c f) y - 1) * max (kp_ (se_ (cp_ G b c f) p (sg_ (ge_ G p) i c)) y - 1) 1 + _ = (gw_ (cp_ G b c f) y - 1) * max (kp_ (cp_ G b c f) y - 1) 1 + _
          rw [hk1, hlen]
      show a + SL_ l (se_ (cp_ G b c f) p (sg_ (ge_ G p) i c)) ≤ f.length
      omega
end OW
