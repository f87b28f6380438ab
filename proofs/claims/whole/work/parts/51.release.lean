-- PURE: Trees.release
def Rl_ (G G' : Sg_) : Prop :=
  (∀ y, 1 ≤ gw_ G' y → 1 ≤ gw_ G y ∧ ge_ G' y = ge_ G y ∧ gl_ G' y = gl_ G y) ∧ (∀ y, gw_ G y = 0 → gw_ G' y = 0 ∧ ge_ G' y = ge_ G y ∧ gl_ G' y = gl_ G y) ∧
  (∀ y, gw_ G' y ≤ gw_ G y) ∧ (∀ y ∈ gf_ G', y ∈ gf_ G ∨ 1 ≤ gw_ G y)
theorem Rl_.rf {G : Sg_} : Rl_ G G := ⟨fun _ h => ⟨h, rfl, rfl⟩, fun _ h => ⟨h, rfl, rfl⟩, fun _ => Nat.le_refl _, fun _ h => Or.inl h⟩
theorem Rl_.tr {A B C : Sg_} (h1 : Rl_ A B) (h2 : Rl_ B C) : Rl_ A C := by
  obtain ⟨a1, a2, a3, a4⟩ := h1
  obtain ⟨b1, b2, b3, b4⟩ := h2
  refine ⟨fun y hy => ?_, fun y hy => ?_, fun y => Nat.le_trans (b3 y) (a3 y), fun y hy => ?_⟩
  · obtain ⟨x1, x2, x3⟩ := b1 y hy
    obtain ⟨y1, y2, y3⟩ := a1 y x1
    exact ⟨y1, x2.trans y2, x3.trans y3⟩
  · obtain ⟨x1, x2, x3⟩ := a2 y hy
    obtain ⟨y1, y2, y3⟩ := b2 y x1
    exact ⟨y1, y2.trans x2, y3.trans x3⟩
  · rcases b4 y hy with h | h
    · exact a4 y h
    · have := a3 y; exact Or.inr (by omega)
theorem nd_lt {l : List Nat} (hn : l.Nodup) (hr : ∀ y ∈ l, 1 ≤ y ∧ y ≤ 1200) {b : Nat} (hb : 1 ≤ b ∧ b ≤ 1200) (hbl : b ∉ l) : l.length < 1200 := by
  have h1 := nd_len (fun y => y ∈ l) 1200 l hn (fun y => ⟨fun h => ⟨(hr y h).1, (hr y h).2, h⟩, fun h => h.2.2⟩)
  have h2 := sm_up (n := 1200) (k := b - 1) (f := fun _ => 1) (g := va_up (fun _ => 1) (b - 1) 0) (by omega) (fun i _ hi => by simp [va_up, hi])
  have h3 : sm_ 1200 (fun i => if i + 1 ∈ l then 1 else 0) ≤ sm_ 1200 (va_up (fun _ => 1) (b - 1) 0) := sm_le (fun i _ => by
    by_cases e : i = b - 1
    · subst e
      rw [show b - 1 + 1 = b by omega, if_neg hbl]
      omega
    · simp only [va_up, e, if_false]
      split <;> omega)
  rw [sm_c1] at h2
  have h4 : va_up (fun _ => 1) (b - 1) 0 (b - 1) = 0 := by simp [va_up]
  rw [h4] at h2
  rw [h1]
  omega
section RE
variable {w : Nat}
/-- one way of several goes -/
theorem lose_1 {R' : Nat → Nat} {Z : List Nat} {G : Sg_} {b : Nat} (hI : Ic_ w [] 16 (rt_ R' b) Z G) (hb : 2 ≤ gw_ G b) : Ic_ w [] 16 R' Z (sw_ G b (gw_ G b - 1)) := by
  generalize hG' : sw_ G b (gw_ G b - 1) = G'
  have hgw : ∀ y, gw_ G' y = if y = b then gw_ G b - 1 else gw_ G y := fun y => by rw [← hG']; rfl
  have hgl : ∀ y, gl_ G' y = gl_ G y := fun y => by rw [← hG']
  have hge : ge_ G' = ge_ G := by rw [← hG']
  have hgf : gf_ G' = gf_ G := by rw [← hG']
  have hz : ∀ y, gw_ G' y = 0 ↔ gw_ G y = 0 := fun y => by
    rw [hgw]
    by_cases e : y = b
    · rw [if_pos e, e]; omega
    · rw [if_neg e]
  refine ⟨fun y hy => ?_, ⟨by rw [hgf]; exact hI.2.1.1, fun y hy => ?_, fun y y1 y2 y3 => ?_⟩, fun y hy => ?_, fun y hy hyl => ?_⟩
  · rw [hgl]
    exact hI.1 y (by have := (hz y); omega)
  · rw [hgf] at hy
    obtain ⟨q1, q2, q3⟩ := hI.2.1.2.1 y hy
    exact ⟨q1, q2, (hz y).mpr q3⟩
  · rw [hgf]; exact hI.2.1.2.2 y y1 y2 ((hz y).mp y3)
  · have h1 := hI.2.2.1 y hy
    have h2 : eg_ G' y = eg_ G y := sm_congr (fun p _ => by simp only [hz p, hgl, hge])
    rw [h2, hgw]
    simp only [rt_] at h1
    by_cases e : y = b
    · rw [if_pos e] at h1 ⊢
      rw [← e]; omega
    · rw [if_neg e] at h1 ⊢; exact h1
  · have hy' : 1 ≤ gw_ G y := by have := (hz y); omega
    rw [hgl] at hyl
    have hv := hI.2.2.2 y hy' hyl
    refine ⟨fun h => by rw [hge]; exact hv.1 h, by rw [hge, hgl]; exact hv.2.1, fun h0 e he => ?_⟩
    rw [hgl] at h0
    rw [hge] at he ⊢
    obtain ⟨q1, q2, q3, q4⟩ := hv.2.2 h0 e he
    rw [hgl, hgl]
    refine ⟨?_, q2, q3, q4⟩
    have := (hz e.2); omega
/-- the last way goes: what the block led to has its ways from outside now -/
theorem lose_0 {R' : Nat → Nat} {Z : List Nat} {G : Sg_} {b : Nat} (hI : Ic_ w [] 16 (rt_ R' b) Z G) (hb1 : 1 ≤ b) (hb : gw_ G b = 1) : Ic_ w [] 16 (fun y => R' y + (if gl_ G b = 0 then 0 else cn_ y (ge_ G b))) (b :: Z) (sw_ G b 0) := by
  have hc := hI.2.2.1 b hb1
  have hrt : rt_ R' b b = R' b + 1 := by simp [rt_]
  have hbr := hI.1 b (by omega)
  have hno : ∀ y, 1 ≤ gw_ G y → gl_ G y ≠ 0 → ∀ e ∈ ge_ G y, e.2 ≠ b := fun y y1 y2 e he q => by
    have h2 := cn_mem he q
    have h3 := sm_one (n := 1201) (k := y) (fun p => if gw_ G p = 0 ∨ gl_ G p = 0 then 0 else cn_ b (ge_ G p)) (by have := (hI.1 y y1).2.1; omega)
    simp only [show ¬ (gw_ G y = 0 ∨ gl_ G y = 0) by omega, if_false] at h3
    have h4 : eg_ G b = sm_ 1201 (fun p => if gw_ G p = 0 ∨ gl_ G p = 0 then 0 else cn_ b (ge_ G p)) := rfl
    omega
  generalize hG' : sw_ G b 0 = G'
  have hgw : ∀ y, gw_ G' y = if y = b then 0 else gw_ G y := fun y => by rw [← hG']; rfl
  have hgl : ∀ y, gl_ G' y = gl_ G y := fun y => by rw [← hG']
  have hge : ge_ G' = ge_ G := by rw [← hG']
  have hgf : gf_ G' = gf_ G := by rw [← hG']
  refine ⟨fun y hy => ?_, ⟨by rw [hgf]; exact hI.2.1.1, fun y hy => ?_, fun y y1 y2 y3 => ?_⟩, fun y hy => ?_, fun y hy hyl => ?_⟩
  · rw [hgl]
    rw [hgw] at hy
    exact hI.1 y (by split at hy <;> omega)
  · rw [hgf] at hy
    obtain ⟨q1, q2, q3⟩ := hI.2.1.2.1 y hy
    refine ⟨q1, q2, ?_⟩
    rw [hgw]; split
    · rfl
    · exact q3
  · rw [hgf]
    rw [hgw] at y3
    by_cases e : y = b
    · exact Or.inr (by rw [e]; exact List.mem_cons_self)
    · rw [if_neg e] at y3
      rcases hI.2.1.2.2 y y1 y2 y3 with h | h
      · exact Or.inl h
      · exact Or.inr (List.mem_cons_of_mem _ h)
  · have h1 := hI.2.2.1 y hy
    have h2 := sm_up (n := 1201) (k := b) (f := fun p => if gw_ G p = 0 ∨ gl_ G p = 0 then 0 else cn_ y (ge_ G p)) (g := fun p => if gw_ G' p = 0 ∨ gl_ G' p = 0 then 0 else cn_ y (ge_ G' p)) (by omega) (fun p _ hp => by
      rw [hgw, hgl, if_neg hp, hge])
    have e1 : eg_ G y = sm_ 1201 (fun p => if gw_ G p = 0 ∨ gl_ G p = 0 then 0 else cn_ y (ge_ G p)) := rfl
    have e2 : eg_ G' y = sm_ 1201 (fun p => if gw_ G' p = 0 ∨ gl_ G' p = 0 then 0 else cn_ y (ge_ G' p)) := rfl
    have v1 : (if gw_ G b = 0 ∨ gl_ G b = 0 then 0 else cn_ y (ge_ G b)) = (if gl_ G b = 0 then 0 else cn_ y (ge_ G b)) := by
      simp only [show ¬ gw_ G b = 0 by omega, false_or]
    have v2 : (if gw_ G' b = 0 ∨ gl_ G' b = 0 then 0 else cn_ y (ge_ G' b)) = 0 := by
      rw [hgw, if_pos rfl]; simp
    rw [v1, v2, ← e1, ← e2] at h2
    rw [hgw]
    show _ = R' y + (if gl_ G b = 0 then 0 else cn_ y (ge_ G b)) + eg_ G' y
    simp only [rt_] at h1
    by_cases e : y = b
    · rw [if_pos e] at h1 ⊢
      rw [e] at h1 h2 ⊢
      omega
    · rw [if_neg e] at h1 ⊢; omega
  · rw [hgw] at hy
    have hyb : y ≠ b := fun q => by rw [if_pos q] at hy; omega
    rw [if_neg hyb] at hy
    rw [hgl] at hyl
    have hv := hI.2.2.2 y hy hyl
    refine ⟨fun h => by rw [hge]; exact hv.1 h, by rw [hge, hgl]; exact hv.2.1, fun h0 e he => ?_⟩
    rw [hgl] at h0
    rw [hge] at he ⊢
    obtain ⟨q1, q2, q3, q4⟩ := hv.2.2 h0 e he
    rw [hgl, hgl, hgw, if_neg (hno y hy h0 e he)]
    exact ⟨q1, q2, q3, q4⟩
theorem give_0 {R' : Nat → Nat} {Z : List Nat} {G : Sg_} {b : Nat} (hI : Ic_ w [] 16 R' (b :: Z) G) (hb1 : 1 ≤ b ∧ b ≤ 1200) (hb : gw_ G b = 0) (hbf : b ∉ gf_ G) : Ic_ w [] 16 R' Z (gv_ G b) := by
  generalize hG' : gv_ G b = G'
  have hgw : ∀ y, gw_ G' y = gw_ G y := fun y => by
    rw [← hG']
    show va_up G.1 b 0 y = G.1 y
    by_cases e : y = b
    · simp only [va_up, e, if_true]; exact hb.symm
    · simp [va_up, e]
  have hgl : ∀ y, y ≠ b → gl_ G' y = gl_ G y := fun y h => by rw [← hG']; simp [gl_, gv_, va_up, h]
  have hge : ∀ y, y ≠ b → ge_ G' y = ge_ G y := fun y h => by rw [← hG']; simp [ge_, gv_, va_up, h]
  have hgf : gf_ G' = gf_ G ++ [b] := by rw [← hG']
  have hub : ∀ y, 1 ≤ gw_ G y → y ≠ b := fun y hy e => by rw [e] at hy; omega
  have het : ∀ y, 1 ≤ gw_ G y → et_ (ge_ G') (gl_ G y) y = et_ (ge_ G) (gl_ G y) y := fun y y1 => by
    refine et_same (fun m y => 1 ≤ gw_ G y ∧ gl_ G y = m) (fun m y h => hge y (hub y h.1)) (fun m y h e he => ?_) _ y ⟨y1, rfl⟩
    obtain ⟨q1, q2, -, -⟩ := hI.child h.1 ((hI.1 y h.1).2.2) (by omega) he
    exact ⟨q1, by omega⟩
  refine ⟨fun y hy => ?_, ⟨?_, fun y hy => ?_, fun y y1 y2 y3 => ?_⟩, fun y hy => ?_, fun y hy hyl => ?_⟩
  · rw [hgw] at hy; rw [hgl y (hub y hy)]; exact hI.1 y hy
  · rw [hgf, List.nodup_append]
    refine ⟨hI.2.1.1, by simp, fun x hx y hy e => ?_⟩
    rw [List.mem_singleton] at hy
    rw [e, hy] at hx
    exact hbf hx
  · rw [hgf] at hy
    rw [hgw]
    rcases List.mem_append.mp hy with h | h
    · exact hI.2.1.2.1 y h
    · rw [List.mem_singleton] at h
      rw [h]; exact ⟨hb1.1, hb1.2, hb⟩
  · rw [hgw] at y3
    rw [hgf]
    rcases hI.2.1.2.2 y y1 y2 y3 with h | h
    · exact Or.inl (List.mem_append_left _ h)
    · rcases List.mem_cons.mp h with h | h
      · exact Or.inl (List.mem_append_right _ (by rw [h]; exact List.mem_singleton.mpr rfl))
      · exact Or.inr h
  · rw [hgw]
    have h1 := hI.2.2.1 y hy
    have h2 : eg_ G' y = eg_ G y := sm_congr (fun p _ => by
      rw [hgw]
      by_cases e : p = b
      · rw [e]; simp [hb]
      · rw [hgl p e, hge p e])
    rw [h2]; exact h1
  · rw [hgw] at hy
    have hyb := hub y hy
    rw [hgl y hyb] at hyl
    have hv := hI.2.2.2 y hy hyl
    refine ⟨fun h => by rw [hge y hyb]; exact hv.1 h, by rw [hgl y hyb, het y hy]; exact hv.2.1, fun h0 e he => ?_⟩
    rw [hgl y hyb] at h0
    rw [hge y hyb] at he
    obtain ⟨q1, q2, q3, q4⟩ := hv.2.2 h0 e he
    have hne := hub e.2 q1
    rw [hgw, hgl y hyb, hgl _ hne, hge _ hne]
    exact ⟨q1, q2, q3, q4⟩
theorem Rl_sw {G : Sg_} {b n : Nat} (h0 : 1 ≤ gw_ G b) (h : n ≤ gw_ G b) : Rl_ G (sw_ G b n) := by
  have hgw : ∀ y, gw_ (sw_ G b n) y = if y = b then n else gw_ G y := fun _ => rfl
  refine ⟨fun y hy => ⟨?_, rfl, rfl⟩, fun y hy => ⟨?_, rfl, rfl⟩, fun y => ?_, fun y hy => Or.inl hy⟩
  · rw [hgw] at hy
    by_cases e : y = b
    · rw [e]; exact h0
    · rw [if_neg e] at hy; exact hy
  · rw [hgw, if_neg (fun e => by rw [e] at hy; omega)]; exact hy
  · rw [hgw]
    by_cases e : y = b
    · rw [if_pos e, e]; exact h
    · rw [if_neg e]; exact Nat.le_refl _
theorem p_releaseBelow (hw : 5 ≤ w ∧ w ≤ 32) :
    ∀ (l d b : Nat) (R' : Nat → Nat) (Z : List Nat) (G : Sg_) (st : St_) (post : St_ → Prop), l < d → Rp_ w st G → Ic_ w [] 16 (rt_ R' b) Z G → (∀ y, gw_ G y < 2 ^ 31) → (∀ z ∈ Z, z ∉ gf_ G ∧ gw_ G z = 0) → 1 ≤ b → gl_ G b = l →
    (∀ st' G', Rp_ w st' G' → Fr_ st st' → Ic_ w [] 16 R' Z G' → Rl_ G G' → post st') → wp_T_releaseBelow w d (nI b) (nI l) st post := by
  intro l
  induction l with
  | zero =>
    intro d b R' Z G st post hd hR hI hwb hZ hb hbl k
    obtain ⟨d, rfl⟩ : ∃ q, d = q + 1 := ⟨d - 1, by omega⟩
    have hc := hI.2.2.1 b hb
    have hrt : rt_ R' b b = R' b + 1 := by simp [rt_]
    have hu : 1 ≤ gw_ G b := by omega
    obtain ⟨b1, b2, b3⟩ := hI.1 b hu
    show (_ → _) ∧ (_ → _)
    refine br_f (by decide) (br_f (by decide) ?_)
    refine p_lose hR ⟨b1, b2⟩ hu (hwb b) (fun s1 hR1 hF1 => ?_)
    by_cases h1 : gw_ G b = 1
    · rw [if_pos h1]
      refine rb_t (by decide) (br_t (by decide) ?_)
      rw [h1] at hR1
      have hI1 := lose_0 hI hb h1
      simp only [hbl, if_true, Nat.add_zero] at hI1
      have hbf : b ∉ gf_ G := fun h => by have := (hI.2.1.2.1 b h).2.2; omega
      have hgw0 : gw_ (sw_ G b 0) b = 0 := by simp [gw_, sw_, va_up]
      refine p_give hR1 (nd_lt (l := gf_ G) hI.2.1.1 (fun y hy => ⟨(hI.2.1.2.1 y hy).1, (hI.2.1.2.1 y hy).2.1⟩) ⟨b1, b2⟩ hbf) ⟨b1, b2⟩ (fun s2 hR2 hF2 => ?_)
      have hI2 := give_0 hI1 ⟨b1, b2⟩ hgw0 hbf
      refine k s2 _ hR2 (hF1.tr hF2) hI2 ?_
      have hgw : ∀ y, gw_ (gv_ (sw_ G b 0) b) y = if y = b then 0 else gw_ G y := fun y => by
        show va_up (va_up G.1 b 0) b 0 y = _
        by_cases e : y = b
        · simp [va_up, e]
        · simp [va_up, e]
      refine ⟨fun y hy => ?_, fun y hy => ?_, fun y => ?_, fun y hy => ?_⟩
      · rw [hgw] at hy
        have e : y ≠ b := fun q => by rw [if_pos q] at hy; omega
        rw [if_neg e] at hy
        exact ⟨hy, by simp [ge_, gv_, sw_, va_up, e], by simp [gl_, gv_, sw_, va_up, e]⟩
      · have e : y ≠ b := fun q => by rw [q] at hy; omega
        exact ⟨by rw [hgw, if_neg e]; exact hy, by simp [ge_, gv_, sw_, va_up, e], by simp [gl_, gv_, sw_, va_up, e]⟩
      · rw [hgw]; split <;> omega
      · have hy' : y ∈ gf_ G ++ [b] := hy
        rcases List.mem_append.mp hy' with h | h
        · exact Or.inl h
        · rw [List.mem_singleton] at h
          exact Or.inr (by rw [h]; exact hu)
    · rw [if_neg h1]
      exact rb_f rfl (k s1 _ hR1 hF1 (lose_1 hI (by omega)) (Rl_sw hu (by omega)))
  | succ l ih =>
    intro d b R' Z G st post hd hR hI hwb hZ hb hbl k
    obtain ⟨d, rfl⟩ : ∃ q, d = q + 1 := ⟨d - 1, by omega⟩
    have hc := hI.2.2.1 b hb
    have hrt : rt_ R' b b = R' b + 1 := by simp [rt_]
    have hu : 1 ≤ gw_ G b := by omega
    obtain ⟨b1, b2, b3⟩ := hI.1 b hu
    have hlw := (hR.1 b b1 b2).2.2.2.1
    show (_ → _) ∧ (_ → _)
    refine br_f (nI_pos (by omega)) (br_f (nI_nlt (a := 16) (by omega) (by omega)) ?_)
    refine p_lose hR ⟨b1, b2⟩ hu (hwb b) (fun s1 hR1 hF1 => ?_)
    by_cases h1 : gw_ G b = 1
    · rw [if_pos h1]
      refine rb_t (by decide) (br_f (nI_nle (by omega) (by omega)) ?_)
      rw [h1] at hR1
      have hI1 := lose_0 hI hb h1
      simp only [show ¬ gl_ G b = 0 by omega, if_false] at hI1
      have hbf : b ∉ gf_ G := fun h => by have := (hI.2.1.2.1 b h).2.2; omega
      have hkids : ∀ e ∈ ge_ G b, gl_ G e.2 = l := fun e he => by
        have := (hI.child hu b3 (by omega) he).2.1; omega
      -- the loop over the children
      have hloop : ∀ (m i : Nat) (s2 : St_) (G2 : Sg_), i ≤ (ge_ G b).length → (ge_ G b).length < m + i → Rp_ w s2 G2 → Fr_ st s2 → Ic_ w [] 16 (fun y => R' y + cn_ y ((ge_ G b).drop i)) (b :: Z) G2 → Rl_ (sw_ G b 0) G2 → wp_T_releaseBelow_28 w (wp_T_releaseBelow w d) post m (nI b) (nI (l + 1)) (nI i) s2 := by
        intro m
        induction m with
        | zero => intro i s2 G2 h2 h3; omega
        | succ m ihm =>
          intro i s2 G2 hi hm hR2 hF2 hI2 hRl
          have hgw0 : gw_ (sw_ G b 0) b = 0 := by simp [gw_, sw_, va_up]
          obtain ⟨z1, z2, z3⟩ := hRl.2.1 b hgw0
          have hgeb : ge_ G2 b = ge_ G b := z2
          have hbf2 : b ∉ gf_ G2 := fun h => by
            rcases hRl.2.2.2 b h with q | q
            · exact hbf q
            · omega
          refine p_size hR2 ⟨b1, b2⟩ ?_
          rw [hgeb]
          refine pk_le (ge_ G b).length i (fun hle => ?_) (fun hlt => ?_) rfl rfl (by omega) (by omega)
          · have hie : i = (ge_ G b).length := by omega
            rw [hie, List.drop_length] at hI2
            simp only [cn_, Nat.add_zero] at hI2
            refine p_give hR2 (nd_lt (l := gf_ G2) hI2.2.1.1 (fun y hy => ⟨(hI2.2.1.2.1 y hy).1, (hI2.2.1.2.1 y hy).2.1⟩) ⟨b1, b2⟩ hbf2) ⟨b1, b2⟩ (fun s3 hR3 hF3 => ?_)
            have hI3 := give_0 hI2 ⟨b1, b2⟩ z1 hbf2
            refine k s3 _ hR3 (hF2.tr hF3) hI3 ?_
            have hRl2 := (Rl_sw (n := 0) hu (by omega)).tr hRl
            have hgw : ∀ y, gw_ (gv_ G2 b) y = gw_ G2 y := fun y => by
              show va_up G2.1 b 0 y = G2.1 y
              by_cases e : y = b
              · simp only [va_up, e, if_true]; exact z1.symm
              · simp [va_up, e]
            refine ⟨fun y hy => ?_, fun y hy => ?_, fun y => by rw [hgw]; exact hRl2.2.2.1 y, fun y hy => ?_⟩
            · rw [hgw] at hy
              have e : y ≠ b := fun q => by rw [q] at hy; omega
              obtain ⟨x1, x2, x3⟩ := hRl2.1 y hy
              refine ⟨x1, ?_, ?_⟩
              · rw [← x2]; simp [ge_, gv_, va_up, e]
              · rw [← x3]; simp [gl_, gv_, va_up, e]
            · have e : y ≠ b := fun q => by rw [q] at hy; omega
              obtain ⟨x1, x2, x3⟩ := hRl2.2.1 y hy
              refine ⟨by rw [hgw]; exact x1, ?_, ?_⟩
              · rw [← x2]; simp [ge_, gv_, va_up, e]
              · rw [← x3]; simp [gl_, gv_, va_up, e]
            · have hy' : y ∈ gf_ G2 ++ [b] := hy
              rcases List.mem_append.mp hy' with h | h
              · exact hRl2.2.2.2 y h
              · rw [List.mem_singleton] at h
                exact Or.inr (by rw [h]; exact hu)
          · have hi2 : i < (ge_ G2 b).length := by rw [hgeb]; exact hlt
            refine p_goal hw hR2 ⟨b1, b2⟩ hi2 ?_
            rw [hgeb, show nI (l + 1) - 1 = nI l from nI_pred l]
            have hdrop : (ge_ G b).drop i = (ge_ G b).getD i (0, 0) :: (ge_ G b).drop (i + 1) := by
              rw [List.drop_eq_getElem_cons hlt, List.getD_eq_getElem?_getD, List.getElem?_eq_getElem hlt]
              rfl
            have hI2' : Ic_ w [] 16 (rt_ (fun y => R' y + cn_ y ((ge_ G b).drop (i + 1))) ((ge_ G b).getD i (0, 0)).2) (b :: Z) G2 := by
              have : (fun y => R' y + cn_ y ((ge_ G b).drop i)) = rt_ (fun y => R' y + cn_ y ((ge_ G b).drop (i + 1))) ((ge_ G b).getD i (0, 0)).2 := by
                funext y
                rw [hdrop]
                simp only [cn_, rt_]
                rw [show (if ((ge_ G b).getD i (0, 0)).2 = y then 1 else 0) = (if y = ((ge_ G b).getD i (0, 0)).2 then 1 else 0) by simp only [eq_comm]]
                omega
              rw [← this]; exact hI2
            have hcu : 1 ≤ gw_ G ((ge_ G b).getD i (0, 0)).2 := (hI.child hu b3 (by omega) (gd_mem hlt)).1
            have hc1 := (hI.1 _ hcu).1
            have hcu2 : 1 ≤ gw_ G2 ((ge_ G b).getD i (0, 0)).2 := by
              have := hI2'.2.2.1 _ hc1
              simp only [rt_, if_true] at this
              omega
            refine ih d _ _ (b :: Z) G2 s2 _ (by omega) hR2 hI2' (fun y => Nat.lt_of_le_of_lt (Nat.le_trans (hRl.2.2.1 y) ((Rl_sw (n := 0) hu (by omega)).2.2.1 y)) (hwb y)) (fun z hz => ?_) hc1 ?_ (fun s3 G3 hR3 hF3 hI3 hRl3 => ?_)
            · rcases List.mem_cons.mp hz with h | h
              · rw [h]; exact ⟨hbf2, z1⟩
              · obtain ⟨q1, q2⟩ := hZ z h
                have hzb : z ≠ b := fun q => by rw [q] at q2; omega
                have hsz : gw_ (sw_ G b 0) z = 0 := by
                  show va_up G.1 b 0 z = 0
                  simp only [va_up, hzb, if_false]; exact q2
                refine ⟨fun hf => ?_, (hRl.2.1 z hsz).1⟩
                rcases hRl.2.2.2 z hf with q | q
                · exact q1 q
                · omega
            · rw [((Rl_sw (n := 0) hu (by omega)).tr hRl).1 _ hcu2 |>.2.2]
              exact hkids _ (gd_mem hlt)
            · intro y hy
              rw [hy, nI_1]
              exact ihm (i + 1) s3 G3 (by omega) (by omega) hR3 (hF2.tr hF3) hI3 (hRl.tr hRl3)
      exact ⟨(ge_ G b).length + 1, hloop _ 0 s1 _ (Nat.zero_le _) (by omega) hR1 hF1 (by rw [List.drop_zero]; exact hI1) Rl_.rf⟩
    · rw [if_neg h1]
      exact rb_f rfl (k s1 _ hR1 hF1 (lose_1 hI (by omega)) (Rl_sw hu (by omega)))
theorem p_release {b : Nat} {R' : Nat → Nat} {G : Sg_} {st : St_} {post : St_ → Prop} (hw : 5 ≤ w ∧ w ≤ 32) (hR : Rp_ w st G) (hI : Ic_ w [] 16 (rt_ R' b) [] G) (hr : ∀ y, R' y ≤ 900) (hb : 1 ≤ b)
    (k : ∀ st' G', Rp_ w st' G' → Fr_ st st' → Ic_ w [] 16 R' [] G' → (∀ y, 1 ≤ y → 1 ≤ R' y → ge_ G' y = ge_ G y ∧ gl_ G' y = gl_ G y ∧ et_ (ge_ G') (gl_ G y) y = et_ (ge_ G) (gl_ G y) y) → post st') : wp_T_release w (nI b) st post := by
  unfold wp_T_release
  have hc := hI.2.2.1 b hb
  have hrt : rt_ R' b b = R' b + 1 := by simp [rt_]
  have hu : 1 ≤ gw_ G b := by omega
  obtain ⟨b1, b2, b3⟩ := hI.1 b hu
  refine p_level hR ⟨b1, b2⟩ ?_
  refine p_releaseBelow hw (gl_ G b) 20 b R' [] G st _ (by omega) hR hI (fun y => ?_) (fun z hz => by simp at hz) hb rfl (fun s1 G1 hR1 hF1 hI1 hRl => ?_)
  · rcases Nat.eq_zero_or_pos (gw_ G y) with h | h
    · omega
    · have := gw_bd hw hR hI (fun y => by have := hr y; simp only [rt_]; split <;> omega) y h; omega
  · refine k s1 G1 hR1 hF1 hI1 (fun y y1 y2 => ?_)
    have hu1 : 1 ≤ gw_ G1 y := by have := hI1.2.2.1 y y1; omega
    obtain ⟨x1, x2, x3⟩ := hRl.1 y hu1
    refine ⟨x2, x3, ?_⟩
    have := et_same (E := ge_ G) (E' := ge_ G1) (fun m y => 1 ≤ gw_ G1 y ∧ gl_ G1 y = m) (fun m y h => (hRl.1 y h.1).2.1) (fun m y h e he => by
      rw [← (hRl.1 y h.1).2.1] at he
      obtain ⟨q1, q2, -, -⟩ := hI1.child h.1 ((hI1.1 y h.1).2.2) (by omega) he
      exact ⟨q1, by omega⟩) (gl_ G y) y ⟨hu1, x3⟩
    exact this
theorem p_release0 {st : St_} {post : St_ → Prop} (k : post st) : wp_T_release w 0 st post := by
  unfold wp_T_release
  refine p_level0 ?_
  show (_ → _) ∧ (_ → _)
  refine br_f (by decide) (br_f (by decide) ?_)
  unfold wp_B_lose
  exact p_isBlock0 (br_t rfl (rb_f rfl k))
end RE
