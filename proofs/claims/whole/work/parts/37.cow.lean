-- PURE: a block is copied
abbrev mu_ (G : Sg_) (y : Nat) : Nat := max (kp_ G y - 1) 1
def sl_ (G : Sg_) (y : Nat) : Nat := (gw_ G y - 1) * mu_ G y + ((ge_ G y).length - 2)
/-- how many blocks can still be wanted for what is shared, or has many entries, up to level l -/
def SL_ (l : Nat) (G : Sg_) : Nat := sm_ 1201 (fun y => if gw_ G y = 0 ∨ l < gl_ G y then 0 else sl_ G y)
def In_ (w : Nat) (X : List Nat) (l : Nat) (R : Nat → Nat) (a : Nat) (G : Sg_) : Prop := Ic_ w X l R [] G ∧ a + SL_ l G ≤ (gf_ G).length
theorem SL_one {l y : Nat} {G : Sg_} (hy : 1 ≤ gw_ G y) (hr : y ≤ 1200) (hl : gl_ G y ≤ l) : sl_ G y ≤ SL_ l G := by
  have h := sm_one (n := 1201) (k := y) (fun y => if gw_ G y = 0 ∨ l < gl_ G y then 0 else sl_ G y) (by omega)
  simp only [show ¬ (gw_ G y = 0 ∨ l < gl_ G y) by omega, if_false] at h
  exact h
section CW
variable {w l : Nat} {X : List Nat} {R : Nat → Nat} {Z : List Nat} {G : Sg_}
/-- the ways that the copy adds -/
abbrev qc_ (G : Sg_) (b y : Nat) : Nat := if gl_ G b = 0 then 0 else cn_ y (ge_ G b)
theorem fr_last (hI : Ic_ w X l R Z G) {f : List Nat} {c : Nat} (hf : gf_ G = f ++ [c]) : 1 ≤ c ∧ c ≤ 1200 ∧ gw_ G c = 0 ∧ c ∉ f ∧ f.Nodup := by
  have h1 := hI.2.1.2.1 c (by rw [hf]; simp)
  have h2 := hI.2.1.1
  rw [hf, List.nodup_append] at h2
  exact ⟨h1.1, h1.2.1, h1.2.2, fun h => h2.2.2 c h c (by simp) rfl, h2.1⟩
theorem qc_used (hI : Ic_ w X l R Z G) {b y : Nat} (hb : 1 ≤ gw_ G b) (hl : gl_ G b ≤ l) (hq : 1 ≤ qc_ G b y) : 1 ≤ gw_ G y ∧ gl_ G y + 1 = gl_ G b := by
  simp only [qc_] at hq
  split at hq
  · omega
  · next h0 =>
    obtain ⟨e, he, hy⟩ := cn_pos hq
    obtain ⟨g1, g2, -, -⟩ := hI.child hb hl h0 he
    rw [hy] at g1 g2
    exact ⟨g1, g2⟩
theorem qc_self (hI : Ic_ w X l R Z G) {b : Nat} (hb : 1 ≤ gw_ G b) (hl : gl_ G b ≤ l) : qc_ G b b = 0 := by
  rcases Nat.eq_zero_or_pos (qc_ G b b) with h | h
  · exact h
  · have := (qc_used hI hb hl h).2; omega
theorem qc_free (hI : Ic_ w X l R Z G) {b c : Nat} (hb : 1 ≤ gw_ G b) (hl : gl_ G b ≤ l) (hc : gw_ G c = 0) : qc_ G b c = 0 := by
  rcases Nat.eq_zero_or_pos (qc_ G b c) with h | h
  · exact h
  · have := (qc_used hI hb hl h).1; omega
theorem cp_w (hI : Ic_ w X l R Z G) {b c : Nat} {f : List Nat} (hb : 2 ≤ gw_ G b) (hl : gl_ G b ≤ l) (hf : gf_ G = f ++ [c]) :
    gw_ (cp_ G b c f) c = 1 ∧ gw_ (cp_ G b c f) b + 1 = gw_ G b ∧ ∀ y, y ≠ b → y ≠ c → gw_ (cp_ G b c f) y = gw_ G y + qc_ G b y := by
  obtain ⟨c1, c2, c3, -, -⟩ := fr_last hI hf
  have hbc : b ≠ c := fun e => by rw [e] at hb; omega
  have h1 := qc_self hI (b := b) (by omega) hl
  have h2 := qc_free hI (b := b) (by omega) hl c3
  refine ⟨?_, ?_, fun y hy1 hy2 => ?_⟩
  · show va_up G.1 c 1 c + qc_ G b c - (if c = b then 1 else 0) = 1
    rw [h2, if_neg (Ne.symm hbc)]
    simp [va_up]
  · show va_up G.1 c 1 b + qc_ G b b - (if b = b then 1 else 0) + 1 = gw_ G b
    rw [h1]
    simp only [va_up, hbc, if_false, if_true]
    have : gw_ G b = G.1 b := rfl
    omega
  · show va_up G.1 c 1 y + qc_ G b y - (if y = b then 1 else 0) = _
    simp only [va_up, hy1, hy2, if_false]
    rfl
theorem cp_used (hI : Ic_ w X l R Z G) {b c : Nat} {f : List Nat} (hb : 2 ≤ gw_ G b) (hl : gl_ G b ≤ l) (hf : gf_ G = f ++ [c]) (y : Nat) : 1 ≤ gw_ (cp_ G b c f) y ↔ (1 ≤ gw_ G y ∨ y = c) := by
  obtain ⟨h1, h2, h3⟩ := cp_w hI hb hl hf
  by_cases e1 : y = c
  · subst e1
    exact ⟨fun _ => Or.inr rfl, fun _ => by omega⟩
  · by_cases e2 : y = b
    · subst e2
      exact ⟨fun _ => Or.inl (by omega), fun _ => by omega⟩
    · rw [h3 y e2 e1]
      constructor
      · intro h
        rcases Nat.eq_zero_or_pos (qc_ G b y) with h4 | h4
        · exact Or.inl (by omega)
        · exact Or.inl (qc_used hI (by omega) hl h4).1
      · rintro (h | h)
        · omega
        · exact absurd h e1
theorem cp_l {b c y : Nat} {f : List Nat} (h : y ≠ c) : gl_ (cp_ G b c f) y = gl_ G y ∧ ge_ (cp_ G b c f) y = ge_ G y := by simp [gl_, ge_, cp_, va_up, h]
theorem cp_lc {b c : Nat} {f : List Nat} : gl_ (cp_ G b c f) c = gl_ G b ∧ ge_ (cp_ G b c f) c = ge_ G b := by simp [gl_, ge_, cp_, va_up]
theorem cp_eg (hI : Ic_ w X l R Z G) {b c : Nat} {f : List Nat} (hb : 2 ≤ gw_ G b) (hl : gl_ G b ≤ l) (hf : gf_ G = f ++ [c]) (y : Nat) : eg_ (cp_ G b c f) y = eg_ G y + qc_ G b y := by
  obtain ⟨c1, c2, c3, -, -⟩ := fr_last hI hf
  have h := sm_up (n := 1201) (k := c) (f := fun p => if gw_ G p = 0 ∨ gl_ G p = 0 then 0 else cn_ y (ge_ G p)) (g := fun p => if gw_ (cp_ G b c f) p = 0 ∨ gl_ (cp_ G b c f) p = 0 then 0 else cn_ y (ge_ (cp_ G b c f) p)) (by omega) (fun p _ hp => by
    have h1 := cp_used hI hb hl hf p
    have h2 : (gw_ (cp_ G b c f) p = 0) ↔ gw_ G p = 0 := by
      constructor
      · intro h
        rcases Nat.eq_zero_or_pos (gw_ G p) with h3 | h3
        · exact h3
        · have := h1.mpr (Or.inl h3); omega
      · intro h
        rcases Nat.eq_zero_or_pos (gw_ (cp_ G b c f) p) with h3 | h3
        · exact h3
        · rcases h1.mp h3 with h4 | h4
          · omega
          · exact absurd h4 hp
    simp only [h2, (cp_l (G := G) (b := b) (f := f) hp).1, (cp_l (G := G) (b := b) (f := f) hp).2])
  have hc1 : gw_ (cp_ G b c f) c = 1 := (cp_w hI hb hl hf).1
  simp only [c3, true_or, if_true, hc1, cp_lc.1, cp_lc.2] at h
  simp only [show ¬ ((1 : Nat) = 0) by decide, false_or] at h
  simp only [eg_, qc_]
  omega
theorem cp_cnt (hI : Ic_ w X l R Z G) {b c : Nat} {f : List Nat} (hb : 2 ≤ gw_ G b) (hl : gl_ G b ≤ l) (hf : gf_ G = f ++ [c]) (y : Nat) (hy : 1 ≤ y) : gw_ (cp_ G b c f) y + (if y = b then 1 else 0) = R y + eg_ (cp_ G b c f) y + (if y = c then 1 else 0) := by
  obtain ⟨c1, c2, c3, -, -⟩ := fr_last hI hf
  obtain ⟨h1, h2, h3⟩ := cp_w hI hb hl hf
  have hbc : b ≠ c := fun e => by rw [e] at hb; omega
  rw [cp_eg hI hb hl hf]
  have h4 := hI.2.2.1 y hy
  by_cases e1 : y = c
  · subst e1
    rw [h1, if_neg (Ne.symm hbc), if_pos rfl]
    have := qc_free hI (b := b) (by omega) hl c3
    omega
  · by_cases e2 : y = b
    · subst e2
      rw [if_pos rfl, if_neg e1]
      have := qc_self hI (b := y) (by omega) hl
      omega
    · rw [h3 y e2 e1, if_neg e2, if_neg e1]
      omega
theorem cp_et (hI : Ic_ w X l R Z G) {b c : Nat} {f : List Nat} (hf : gf_ G = f ++ [c]) {y : Nat} (hy : 1 ≤ gw_ G y) (hl : gl_ G y ≤ l) : et_ (ge_ (cp_ G b c f)) (gl_ G y) y = et_ (ge_ G) (gl_ G y) y := by
  obtain ⟨c1, c2, c3, -, -⟩ := fr_last hI hf
  refine et_same (fun n y => 1 ≤ gw_ G y ∧ gl_ G y = n ∧ n ≤ l) (fun n y h => ?_) (fun n y h e he => ?_) _ y ⟨hy, rfl, hl⟩
  · exact (cp_l (fun e => by rw [e] at h; omega)).2
  · obtain ⟨g1, g2, -, -⟩ := hI.child h.1 (by omega) (by omega) he
    exact ⟨g1, by omega, by omega⟩
theorem cp_etc (hI : Ic_ w X l R Z G) {b c : Nat} {f : List Nat} (hb : 1 ≤ gw_ G b) (hl : gl_ G b ≤ l) (hf : gf_ G = f ++ [c]) : et_ (ge_ (cp_ G b c f)) (gl_ G b) c = et_ (ge_ G) (gl_ G b) b := by
  cases hn : gl_ G b with
  | zero => exact cp_lc.2
  | succ n =>
    rw [et_succ, et_succ, cp_lc.2]
    refine fm_congr (fun e he => ?_)
    obtain ⟨g1, g2, -, -⟩ := hI.child hb hl (by omega) he
    have := cp_et (b := b) hI hf g1 (by omega)
    rw [show gl_ G e.2 = n by omega] at this
    exact this
theorem cp_u (hI : Ic_ w X l R Z G) {b c : Nat} {f : List Nat} (hb : 2 ≤ gw_ G b) (hl : gl_ G b ≤ l) (hf : gf_ G = f ++ [c]) : ∀ y, 1 ≤ gw_ (cp_ G b c f) y → 1 ≤ y ∧ y ≤ 1200 ∧ gl_ (cp_ G b c f) y ≤ 16 := by
  intro y hy
  obtain ⟨c1, c2, c3, -, -⟩ := fr_last hI hf
  by_cases e : y = c
  · subst e
    rw [cp_lc.1]
    exact ⟨c1, c2, (hI.1 b (by omega)).2.2⟩
  · rw [(cp_l e).1]
    rcases (cp_used hI hb hl hf y).mp hy with h | h
    · exact hI.1 y h
    · exact absurd h e
theorem cp_f (hI : Ic_ w X l R Z G) {b c : Nat} {f : List Nat} (hb : 2 ≤ gw_ G b) (hl : gl_ G b ≤ l) (hf : gf_ G = f ++ [c]) : (gf_ (cp_ G b c f)).Nodup ∧ (∀ y ∈ gf_ (cp_ G b c f), 1 ≤ y ∧ y ≤ 1200 ∧ gw_ (cp_ G b c f) y = 0) ∧ ∀ y, 1 ≤ y → y ≤ 1200 → gw_ (cp_ G b c f) y = 0 → y ∈ gf_ (cp_ G b c f) ∨ y ∈ Z := by
  obtain ⟨c1, c2, c3, c4, c5⟩ := fr_last hI hf
  refine ⟨c5, fun y hy => ?_, fun y y1 y2 y3 => ?_⟩
  · have hy' : y ∈ f := hy
    obtain ⟨g1, g2, g3⟩ := hI.2.1.2.1 y (by rw [hf]; exact List.mem_append_left _ hy')
    refine ⟨g1, g2, ?_⟩
    rcases Nat.eq_zero_or_pos (gw_ (cp_ G b c f) y) with h | h
    · exact h
    · rcases (cp_used hI hb hl hf y).mp h with h | h
      · omega
      · exact absurd (h ▸ hy') c4
  · have h1 : ¬ (1 ≤ gw_ G y ∨ y = c) := fun h => by have := (cp_used hI hb hl hf y).mpr h; omega
    have h2 : gw_ G y = 0 := by
      rcases Nat.eq_zero_or_pos (gw_ G y) with h | h
      · exact h
      · exact absurd (Or.inl h) h1
    rcases hI.2.1.2.2 y y1 y2 h2 with h | h
    · rw [hf] at h
      rcases List.mem_append.mp h with h | h
      · exact Or.inl h
      · exact absurd (Or.inr (by simpa using h)) h1
    · exact Or.inr h
theorem cp_v (hI : Ic_ w X l R Z G) {b c : Nat} {f : List Nat} (hb : 2 ≤ gw_ G b) (hl : gl_ G b ≤ l) (hf : gf_ G = f ++ [c]) (hbX : b ∉ X) : ∀ y, 1 ≤ gw_ (cp_ G b c f) y → gl_ (cp_ G b c f) y ≤ l → Vn_ w X (cp_ G b c f) y := by
  intro y hy hyl
  obtain ⟨c1, c2, c3, -, -⟩ := fr_last hI hf
  have kid : ∀ z, 1 ≤ gw_ G z → gl_ G z ≤ l → gl_ G z ≠ 0 → ∀ e ∈ ge_ G z, 1 ≤ gw_ (cp_ G b c f) e.2 ∧ gl_ (cp_ G b c f) e.2 + 1 = gl_ G z ∧ (e.2 ∉ X → w / 2 ≤ (ge_ (cp_ G b c f) e.2).length) ∧ (ge_ (cp_ G b c f) e.2).head?.map Prod.fst = some e.1 := by
    intro z z1 z2 z3 e he
    obtain ⟨g1, g2, g3, g4⟩ := hI.child z1 z2 z3 he
    have hne : e.2 ≠ c := fun q => by rw [q] at g1; omega
    rw [(cp_l hne).1, (cp_l hne).2]
    exact ⟨(cp_used hI hb hl hf _).mpr (Or.inl g1), g2, g3, g4⟩
  by_cases e : y = c
  · subst e
    have hv := hI.2.2.2 b (by omega) hl
    refine ⟨fun _ => ?_, ?_, fun h0 => ?_⟩
    · rw [cp_lc.2]; exact hv.1 hbX
    · rw [cp_lc.1, cp_etc hI (by omega) hl hf]; exact hv.2.1
    · rw [cp_lc.1] at h0 ⊢
      rw [cp_lc.2]
      exact kid b (by omega) hl h0
  · have hu : 1 ≤ gw_ G y := by
      rcases (cp_used hI hb hl hf y).mp hy with h | h
      · exact h
      · exact absurd h e
    rw [(cp_l e).1] at hyl
    have hv := hI.2.2.2 y hu hyl
    refine ⟨fun hx => ?_, ?_, fun h0 => ?_⟩
    · rw [(cp_l e).2]; exact hv.1 hx
    · rw [(cp_l e).1, cp_et hI hf hu hyl]; exact hv.2.1
    · rw [(cp_l e).1] at h0 ⊢
      rw [(cp_l e).2]
      exact kid y hu hyl h0
theorem cp_SL (hw : 5 ≤ w) (hI : Ic_ w X l R Z G) {b c : Nat} {f : List Nat} (hb : 2 ≤ gw_ G b) (hl : gl_ G b ≤ l) (hf : gf_ G = f ++ [c]) (hln : 1 ≤ (ge_ G b).length) (h2 : gl_ G b = 0 ∨ 2 ≤ (ge_ G b).length) (hk : gl_ G b ≠ 0 → ∀ e ∈ ge_ G b, e.2 ∉ X) : SL_ l (cp_ G b c f) + 1 = SL_ l G := by
  obtain ⟨c1, c2, c3, -, -⟩ := fr_last hI hf
  obtain ⟨w1, w2, w3⟩ := cp_w hI hb hl hf
  have hbc : b ≠ c := fun e => by rw [e] at hb; omega
  have hbr := hI.1 b (by omega)
  -- the sum with the children's ways added
  have e1 : sm_ 1201 (fun y => (if gw_ G y = 0 ∨ l < gl_ G y then 0 else sl_ G y) + qc_ G b y * mu_ G y) = SL_ l G + (if gl_ G b = 0 then 0 else su_ (fun y => mu_ G y) (ge_ G b)) := by
    rw [sm_add]
    congr 1
    by_cases h0 : gl_ G b = 0
    · rw [if_pos h0]
      exact sm_0 (fun i _ => by simp [qc_, h0])
    · rw [if_neg h0, ← sm_cn (n := 1201) (fun y => mu_ G y) (fun e he => by
        have := (hI.1 e.2 (hI.child (by omega) hl h0 he).1).2.1; omega)]
      exact sm_congr (fun i _ => by simp [qc_, h0])
  have hq : qc_ G b b = 0 := qc_self hI (by omega) hl
  have hqc : qc_ G b c = 0 := qc_free hI (by omega) hl c3
  have hkp : ∀ y, 1 ≤ gw_ G y → gl_ G y ≤ l → y ≠ c → kp_ (cp_ G b c f) y = kp_ G y := fun y y1 y2 y3 => by
    show (et_ _ (gl_ (cp_ G b c f) y) y).length = _
    rw [(cp_l y3).1, cp_et hI hf y1 y2]
  have e2 := sm_up2 (n := 1201) (j := b) (k := c) (f := fun y => (if gw_ G y = 0 ∨ l < gl_ G y then 0 else sl_ G y) + qc_ G b y * mu_ G y) (g := fun y => if gw_ (cp_ G b c f) y = 0 ∨ l < gl_ (cp_ G b c f) y then 0 else sl_ (cp_ G b c f) y) (by omega) (by omega) hbc (fun y _ yb yc => by
    simp only [(cp_l (G := G) (b := b) (f := f) yc).1]
    by_cases hu : gw_ G y = 0
    · have h4 : gw_ (cp_ G b c f) y = 0 := by
        rw [w3 y yb yc, hu, qc_free hI (by omega) hl hu]
      simp [h4, hu, qc_free hI (b := b) (by omega) hl hu]
    · have h4 : ¬ gw_ (cp_ G b c f) y = 0 := by rw [w3 y yb yc]; omega
      by_cases hyl : l < gl_ G y
      · have h5 : qc_ G b y = 0 := by
          rcases Nat.eq_zero_or_pos (qc_ G b y) with h | h
          · exact h
          · have := (qc_used hI (by omega) hl h).2; omega
        simp [hyl, h5]
      · simp only [hu, h4, hyl, or_self, if_false]
        simp only [sl_, (cp_l (G := G) (b := b) (f := f) yc).2, w3 y yb yc]
        have : mu_ (cp_ G b c f) y = mu_ G y := by
          show max (kp_ (cp_ G b c f) y - 1) 1 = _
          rw [hkp y (by omega) (by omega) yc]
        rw [this, show gw_ G y + qc_ G b y - 1 = (gw_ G y - 1) + qc_ G b y by omega, Nat.add_mul]
        omega)
  have hub : ¬ (gw_ G b = 0 ∨ l < gl_ G b) := by omega
  have hub1 : ¬ (gw_ (cp_ G b c f) b = 0 ∨ l < gl_ (cp_ G b c f) b) := by
    rw [(cp_l hbc).1]; omega
  have huc1 : ¬ (gw_ (cp_ G b c f) c = 0 ∨ l < gl_ (cp_ G b c f) c) := by
    rw [cp_lc.1, w1]; omega
  simp only [hub, hub1, huc1, if_false, hq, hqc, c3, true_or, if_true, Nat.zero_mul, Nat.add_zero] at e2
  have hslb : sl_ (cp_ G b c f) b + mu_ G b = sl_ G b := by
    simp only [sl_, (cp_l (G := G) (b := b) (f := f) hbc).2]
    have : mu_ (cp_ G b c f) b = mu_ G b := by
      show max (kp_ (cp_ G b c f) b - 1) 1 = _
      rw [hkp b (by omega) hl hbc]
    rw [this, show gw_ G b - 1 = (gw_ (cp_ G b c f) b - 1) + 1 by omega, Nat.add_mul]
    omega
  have hslc : sl_ (cp_ G b c f) c = (ge_ G b).length - 2 := by
    simp only [sl_, w1, cp_lc.2]
    simp
  have hsu : (if gl_ G b = 0 then 0 else su_ (fun y => mu_ G y) (ge_ G b)) + ((ge_ G b).length - 2) + 1 = mu_ G b := by
    by_cases h0 : gl_ G b = 0
    · rw [if_pos h0]
      show _ = max ((et_ (ge_ G) (gl_ G b) b).length - 1) 1
      rw [h0]
      show _ = max ((ge_ G b).length - 1) 1
      omega
    · rw [if_neg h0]
      obtain ⟨n, hn⟩ : ∃ n, gl_ G b = n + 1 := ⟨gl_ G b - 1, by omega⟩
      have h3 : su_ (fun y => mu_ G y) (ge_ G b) + (ge_ G b).length = kp_ G b := by
        show _ = (et_ (ge_ G) (gl_ G b) b).length
        rw [hn, et_succ, fm_su, ← su_1, ← su_add]
        refine su_congr (fun e he => ?_)
        obtain ⟨g1, g2, -, -⟩ := hI.child (by omega) hl h0 he
        have h5 := kp_kid hw hI (by omega) hl hn he (hk h0 e he)
        show max ((et_ (ge_ G) (gl_ G e.2) e.2).length - 1) 1 + 1 = _
        rw [show gl_ G e.2 = n by omega]
        omega
      show _ = max (kp_ G b - 1) 1
      omega
  have e3 : SL_ l (cp_ G b c f) = sm_ 1201 (fun y => if gw_ (cp_ G b c f) y = 0 ∨ l < gl_ (cp_ G b c f) y then 0 else sl_ (cp_ G b c f) y) := rfl
  rw [← e3, e1, hslc] at e2
  omega
end CW
