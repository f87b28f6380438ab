-- PURE: Trees.with
abbrev rt_ (R : Nat → Nat) (r : Nat) : Nat → Nat := fun y => R y + (if y = r then 1 else 0)
/-- what a root holds -/
def tr_ (G : Sg_) (r : Nat) : List (Nat × Nat) := if r = 0 then [] else et_ (ge_ G) (gl_ G r) r
theorem tr_1 {G : Sg_} {r : Nat} (h : 1 ≤ r) : tr_ G r = et_ (ge_ G) (gl_ G r) r := if_neg (by omega)
section WI
variable {w a : Nat} {Rm : Nat → Nat} {G : Sg_} {st : St_}
theorem p_ownroot {b : Nat} {post : Int32 → St_ → Prop} (hw : 5 ≤ w ∧ w ≤ 32) (hR : Rp_ w st G) (hI : In_ w [] 16 (rt_ Rm b) a G) (hr : ∀ y, Rm y ≤ 900) (hb : 1 ≤ b) (h2 : gl_ G b = 0 ∨ 2 ≤ (ge_ G b).length)
    (k : ∀ st' G1 t, Rp_ w st' G1 → Fr_ st st' → In_ w [] 16 (rt_ Rm t) a G1 → gw_ G1 t = 1 → gl_ G1 t = gl_ G b → ge_ G1 t = ge_ G b → et_ (ge_ G1) (gl_ G b) t = et_ (ge_ G) (gl_ G b) b → (∀ y, 1 ≤ gw_ G y → y ≠ t → ge_ G1 y = ge_ G y ∧ gl_ G1 y = gl_ G y ∧ 1 ≤ gw_ G1 y ∧ et_ (ge_ G1) (gl_ G y) y = et_ (ge_ G) (gl_ G y) y) → post (nI t) st') : wp_B_owned w (nI b) st post := by
  have hc := hI.1.2.2.1 b hb
  have hrb : rt_ Rm b b = Rm b + 1 := by simp [rt_]
  have hu : 1 ≤ gw_ G b := by omega
  obtain ⟨b1, b2, b3⟩ := hI.1.1 b hu
  by_cases h1 : gw_ G b ≤ 1
  · exact p_owned1 hR ⟨b1, b2⟩ h1 (k st G b hR Fr_.rf hI (by omega) rfl rfl rfl (fun y hy _ => ⟨rfl, rfl, hy, rfl⟩))
  · have hb2 : 2 ≤ gw_ G b := by omega
    have hsl := SL_one (l := 16) hu b2 b3
    have hsl2 : 1 ≤ sl_ G b := by
      have : 1 ≤ (gw_ G b - 1) * mu_ G b := Nat.mul_pos (by omega) (by show 1 ≤ max _ 1; omega)
      simp only [sl_]; omega
    obtain ⟨f, c, hf⟩ : ∃ f c, gf_ G = f ++ [c] := by
      have hne : gf_ G ≠ [] := fun e => by have := hI.2; rw [e] at this; simp at this; omega
      exact ⟨(gf_ G).dropLast, (gf_ G).getLast hne, (List.dropLast_concat_getLast hne).symm⟩
    obtain ⟨c1, c2, c3, -, -⟩ := fr_last hI.1 hf
    have hbc : b ≠ c := fun e => by rw [e] at hb2; omega
    refine p_owned2 hw hR ⟨b1, b2⟩ hb2 (gw_bd hw hR hI.1 (fun y => by have := hr y; simp only [rt_]; split <;> omega) b hu) b3 hf ⟨c1, c2⟩ hbc (fun h0 e he => by
      obtain ⟨q1, -, -, -⟩ := hI.1.child hu b3 h0 he
      have := hI.1.1 e.2 q1; exact ⟨this.1, this.2.1⟩) (fun s1 hR1 hF1 => ?_)
    refine k s1 _ c hR1 hF1 (In_root hw.1 hI hb2 b3 hf (by simp) h2 (fun _ _ _ => by simp) (fun y hy => ?_)) (cp_w hI.1 hb2 b3 hf).1 cp_lc.1 cp_lc.2 (cp_etc hI.1 hu b3 hf) (fun y hy hyc => ?_)
    · simp only [rt_]
      by_cases e1 : y = b
      · by_cases e2 : y = c
        · omega
        · simp [e1, hbc]
      · by_cases e2 : y = c
        · simp [e1, e2, Ne.symm hbc]
        · simp [e1, e2]
    · exact ⟨(cp_l hyc).2, (cp_l hyc).1, (cp_used hI.1 hb2 b3 hf y).mpr (Or.inl hy), cp_et hI.1 hf hy ((hI.1.1 y hy).2.2)⟩
/-- a new root leaf -/
abbrev nl_ (G : Sg_) (r n : Nat) (f : List Nat) (L : List (Nat × Nat)) : Sg_ := (va_up G.1 r 1, va_up G.2.1 r n, va_up G.2.2.1 r L, f)
theorem nl_leaf {r x s : Nat} {f : List Nat} (hw : 5 ≤ w) (hI : Ic_ w [] 16 (rt_ Rm 0) [] G) (hf : gf_ G = f ++ [r]) : Ic_ w [] 16 (rt_ Rm r) [] (nl_ G r 0 f [(x, s)]) ∧
    (∀ y, 1 ≤ gw_ G y → ge_ (nl_ G r 0 f [(x, s)]) y = ge_ G y ∧ gl_ (nl_ G r 0 f [(x, s)]) y = gl_ G y ∧ et_ (ge_ (nl_ G r 0 f [(x, s)])) (gl_ G y) y = et_ (ge_ G) (gl_ G y) y) := by
  obtain ⟨r1, r2, r3, r4, r5⟩ := fr_last hI hf
  generalize hG' : nl_ G r 0 f [(x, s)] = G'
  have hgw : ∀ y, gw_ G' y = if y = r then 1 else gw_ G y := fun y => by rw [← hG']; rfl
  have hgl : ∀ y, gl_ G' y = if y = r then 0 else gl_ G y := fun y => by rw [← hG']; rfl
  have her : ge_ G' r = [(x, s)] := by rw [← hG']; simp [ge_, nl_, va_up]
  have hey : ∀ y, y ≠ r → ge_ G' y = ge_ G y := fun y y1 => by rw [← hG']; simp [ge_, nl_, va_up, y1]
  have hgf : gf_ G' = f := by rw [← hG']
  have hur : ∀ y, 1 ≤ gw_ G y → y ≠ r := fun y hy e => by rw [e] at hy; omega
  have het : ∀ y, 1 ≤ gw_ G y → et_ (ge_ G') (gl_ G y) y = et_ (ge_ G) (gl_ G y) y := fun y y1 => by
    refine et_same (fun m y => 1 ≤ gw_ G y ∧ gl_ G y = m) (fun m y h => hey y (hur y h.1)) (fun m y h e he => ?_) _ y ⟨y1, rfl⟩
    obtain ⟨q1, q2, -, -⟩ := hI.child h.1 ((hI.1 y h.1).2.2) (by omega) he
    exact ⟨q1, by omega⟩
  refine ⟨⟨fun y hy => ?_, ⟨by rw [hgf]; exact r5, fun y hy => ?_, fun y y1 y2 y3 => ?_⟩, fun y hy => ?_, fun y hy hyl => ?_⟩, fun y hy => ⟨hey y (hur y hy), by rw [hgl, if_neg (hur y hy)], het y hy⟩⟩
  · rw [hgl]
    rw [hgw] at hy
    by_cases hyr : y = r
    · rw [if_pos hyr, hyr]; exact ⟨r1, r2, by omega⟩
    · rw [if_neg hyr] at hy ⊢; exact hI.1 y hy
  · rw [hgf] at hy
    obtain ⟨q1, q2, q3⟩ := hI.2.1.2.1 y (by rw [hf]; exact List.mem_append_left _ hy)
    refine ⟨q1, q2, ?_⟩
    rw [hgw, if_neg (show y ≠ r from fun q => r4 (q ▸ hy))]; exact q3
  · rw [hgw] at y3
    by_cases hyr : y = r
    · rw [if_pos hyr] at y3; omega
    · rw [if_neg hyr] at y3
      rcases hI.2.1.2.2 y y1 y2 y3 with h | h
      · rw [hf] at h
        rcases List.mem_append.mp h with h | h
        · rw [hgf]; exact Or.inl h
        · exact absurd (by simpa using h) hyr
      · exact Or.inr h
  · have h1 := hI.2.2.1 y hy
    have h2 : eg_ G' y = eg_ G y := by
      refine sm_congr (fun p _ => ?_)
      rw [hgw, hgl]
      by_cases hp : p = r
      · rw [if_pos hp, if_pos hp]
        subst hp
        simp [r3]
      · rw [if_neg hp, if_neg hp, hey p hp]
    simp only [rt_] at h1 ⊢
    rw [h2, hgw]
    by_cases hyr : y = r
    · rw [if_pos hyr, if_pos hyr]
      rw [hyr] at h1 ⊢
      omega
    · rw [if_neg hyr, if_neg hyr]
      rw [if_neg (show ¬ y = 0 by omega)] at h1
      exact h1
  · rw [hgw] at hy
    by_cases hyr : y = r
    · subst hyr
      refine ⟨fun _ => by rw [her]; simp; omega, ?_, fun h0 => ?_⟩
      · rw [hgl, if_pos rfl]
        show so_ (ge_ G' y)
        rw [her]; simp [so_]
      · rw [hgl, if_pos rfl] at h0; exact absurd rfl h0
    · rw [if_neg hyr] at hy
      have hv := hI.2.2.2 y hy ((hI.1 y hy).2.2)
      have hly : gl_ G' y = gl_ G y := by rw [hgl, if_neg hyr]
      refine ⟨fun _ => by rw [hey y hyr]; exact hv.1 (by simp), by rw [hly, het y hy]; exact hv.2.1, fun h0 e he => ?_⟩
      rw [hly] at h0
      rw [hey y hyr] at he
      obtain ⟨q1, q2, q3, q4⟩ := hv.2.2 h0 e he
      rw [hgw, hly, hgl, if_neg (hur _ q1), if_neg (hur _ q1), hey _ (hur _ q1)]
      exact ⟨q1, q2, fun _ => q3 (by simp), q4⟩
/-- a root above the root -/
theorem nl_root {g t n k0 : Nat} {f : List Nat} (hI : In_ w [t] 16 (rt_ Rm t) (a + 1) G) (htw : gw_ G t = 1) (htn : gl_ G t = n) (hn : n + 1 ≤ 16) (hf : gf_ G = f ++ [g]) (hk : (ge_ G t).head?.map Prod.fst = some k0) :
    In_ w [g, t] 16 (rt_ Rm g) a (nl_ G g (n + 1) f [(k0, t)]) ∧ (∀ y, 1 ≤ gw_ G y → y ≠ g ∧ gw_ (nl_ G g (n + 1) f [(k0, t)]) y = gw_ G y ∧ ge_ (nl_ G g (n + 1) f [(k0, t)]) y = ge_ G y ∧ gl_ (nl_ G g (n + 1) f [(k0, t)]) y = gl_ G y ∧ et_ (ge_ (nl_ G g (n + 1) f [(k0, t)])) (gl_ G y) y = et_ (ge_ G) (gl_ G y) y) ∧
    et_ (ge_ (nl_ G g (n + 1) f [(k0, t)])) (n + 1) g = et_ (ge_ G) n t := by
  obtain ⟨hI, hs⟩ := hI
  obtain ⟨r1, r2, r3, r4, r5⟩ := fr_last hI hf
  obtain ⟨t1, t2, t3⟩ := hI.1 t (by omega)
  generalize hG' : nl_ G g (n + 1) f [(k0, t)] = G'
  have hgw : ∀ y, gw_ G' y = if y = g then 1 else gw_ G y := fun y => by rw [← hG']; rfl
  have hgl : ∀ y, gl_ G' y = if y = g then n + 1 else gl_ G y := fun y => by rw [← hG']; rfl
  have her : ge_ G' g = [(k0, t)] := by rw [← hG']; simp [ge_, nl_, va_up]
  have hey : ∀ y, y ≠ g → ge_ G' y = ge_ G y := fun y y1 => by rw [← hG']; simp [ge_, nl_, va_up, y1]
  have hgf : gf_ G' = f := by rw [← hG']
  have hur : ∀ y, 1 ≤ gw_ G y → y ≠ g := fun y hy e => by rw [e] at hy; omega
  have het : ∀ y, 1 ≤ gw_ G y → et_ (ge_ G') (gl_ G y) y = et_ (ge_ G) (gl_ G y) y := fun y y1 => by
    refine et_same (fun m y => 1 ≤ gw_ G y ∧ gl_ G y = m) (fun m y h => hey y (hur y h.1)) (fun m y h e he => ?_) _ y ⟨y1, rfl⟩
    obtain ⟨q1, q2, -, -⟩ := hI.child h.1 ((hI.1 y h.1).2.2) (by omega) he
    exact ⟨q1, by omega⟩
  have htg : t ≠ g := hur t (by omega)
  have hetg : et_ (ge_ G') (n + 1) g = et_ (ge_ G) n t := by
    rw [et_succ, her, fm_cons, fm_nil, List.append_nil]
    have := het t (by omega)
    rw [htn] at this
    exact this
  have hct := hI.2.2.1 t t1
  have hrt : rt_ Rm t t = Rm t + 1 := by simp [rt_]
  refine ⟨⟨⟨fun y hy => ?_, ⟨by rw [hgf]; exact r5, fun y hy => ?_, fun y y1 y2 y3 => ?_⟩, fun y hy => ?_, fun y hy hyl => ?_⟩, ?_⟩, fun y hy => ⟨hur y hy, by rw [hgw, if_neg (hur y hy)], hey y (hur y hy), by rw [hgl, if_neg (hur y hy)], het y hy⟩, hetg⟩
  · rw [hgl]
    rw [hgw] at hy
    by_cases hyr : y = g
    · rw [if_pos hyr, hyr]; exact ⟨r1, r2, by omega⟩
    · rw [if_neg hyr] at hy ⊢; exact hI.1 y hy
  · rw [hgf] at hy
    obtain ⟨q1, q2, q3⟩ := hI.2.1.2.1 y (by rw [hf]; exact List.mem_append_left _ hy)
    refine ⟨q1, q2, ?_⟩
    rw [hgw, if_neg (show y ≠ g from fun q => r4 (q ▸ hy))]; exact q3
  · rw [hgw] at y3
    by_cases hyr : y = g
    · rw [if_pos hyr] at y3; omega
    · rw [if_neg hyr] at y3
      rcases hI.2.1.2.2 y y1 y2 y3 with h | h
      · rw [hf] at h
        rcases List.mem_append.mp h with h | h
        · rw [hgf]; exact Or.inl h
        · exact absurd (by simpa using h) hyr
      · exact Or.inr h
  · have h1 := hI.2.2.1 y hy
    have h2 := sm_up (n := 1201) (k := g) (f := fun p => if gw_ G p = 0 ∨ gl_ G p = 0 then 0 else cn_ y (ge_ G p)) (g := fun p => if gw_ G' p = 0 ∨ gl_ G' p = 0 then 0 else cn_ y (ge_ G' p)) (by omega) (fun p _ hp => by
      rw [hgw, hgl, if_neg hp, if_neg hp, hey p hp])
    have e1 : eg_ G y = sm_ 1201 (fun p => if gw_ G p = 0 ∨ gl_ G p = 0 then 0 else cn_ y (ge_ G p)) := rfl
    have e2 : eg_ G' y = sm_ 1201 (fun p => if gw_ G' p = 0 ∨ gl_ G' p = 0 then 0 else cn_ y (ge_ G' p)) := rfl
    have v1 : (if gw_ G g = 0 ∨ gl_ G g = 0 then 0 else cn_ y (ge_ G g)) = 0 := if_pos (Or.inl r3)
    have v2 : (if gw_ G' g = 0 ∨ gl_ G' g = 0 then 0 else cn_ y (ge_ G' g)) = (if y = t then 1 else 0) := by
      rw [hgw, hgl, if_pos rfl, if_pos rfl, if_neg (by omega), her]
      simp only [cn_]
      rw [show (if t = y then 1 else 0) = (if y = t then 1 else 0) by simp only [eq_comm]]
      omega
    rw [v1, v2, ← e1, ← e2] at h2
    simp only [rt_] at h1 ⊢
    rw [hgw]
    by_cases hyr : y = g
    · rw [if_pos hyr, if_pos hyr]
      rw [hyr] at h1 h2 ⊢
      rw [if_neg (Ne.symm htg)] at h1 h2
      omega
    · rw [if_neg hyr, if_neg hyr]
      by_cases hyt : y = t
      · rw [if_pos hyt] at h1 h2; omega
      · rw [if_neg hyt] at h1 h2; omega
  · rw [hgw] at hy
    by_cases hyr : y = g
    · subst hyr
      refine ⟨fun h => absurd (by simp) h, ?_, fun h0 e he => ?_⟩
      · rw [hgl, if_pos rfl, hetg]
        have := (hI.2.2.2 t (by omega) t3).2.1
        rw [htn] at this
        exact this
      · rw [her, List.mem_singleton] at he
        subst he
        show 1 ≤ gw_ G' t ∧ gl_ G' t + 1 = gl_ G' y ∧ (t ∉ [y, t] → w / 2 ≤ (ge_ G' t).length) ∧ (ge_ G' t).head?.map Prod.fst = some k0
        rw [hgw, hgl, hgl, if_neg htg, if_neg htg, if_pos rfl, hey t htg]
        exact ⟨by omega, by omega, fun h => absurd (by simp) h, hk⟩
    · rw [if_neg hyr] at hy
      have hv := hI.2.2.2 y hy ((hI.1 y hy).2.2)
      have hly : gl_ G' y = gl_ G y := by rw [hgl, if_neg hyr]
      refine ⟨fun h => by rw [hey y hyr]; exact hv.1 (by simp at h ⊢; exact h.2), by rw [hly, het y hy]; exact hv.2.1, fun h0 e he => ?_⟩
      rw [hly] at h0
      rw [hey y hyr] at he
      obtain ⟨q1, q2, q3, q4⟩ := hv.2.2 h0 e he
      rw [hgw, hly, hgl, if_neg (hur _ q1), if_neg (hur _ q1), hey _ (hur _ q1)]
      exact ⟨q1, q2, fun h => q3 (by simp at h ⊢; exact h.2), q4⟩
  · rw [hgf]
    have hfl : (gf_ G).length = f.length + 1 := by rw [hf]; simp
    have h2 := sm_up (n := 1201) (k := g) (f := fun y => if gw_ G y = 0 ∨ 16 < gl_ G y then 0 else sl_ G y) (g := fun y => if gw_ G' y = 0 ∨ 16 < gl_ G' y then 0 else sl_ G' y) (by omega) (fun y _ hy => by
      rw [hgw, hgl, if_neg hy, if_neg hy]
      by_cases hu : gw_ G y = 0 ∨ 16 < gl_ G y
      · simp only [hu, if_true]
      · simp only [hu, if_false]
        show (gw_ G' y - 1) * max ((et_ (ge_ G') (gl_ G' y) y).length - 1) 1 + ((ge_ G' y).length - 2) = (gw_ G y - 1) * max ((et_ (ge_ G) (gl_ G y) y).length - 1) 1 + ((ge_ G y).length - 2)
        rw [hgw, hgl, if_neg hy, if_neg hy, hey y hy, het y (by omega)])
    have e1 : SL_ 16 G = sm_ 1201 (fun y => if gw_ G y = 0 ∨ 16 < gl_ G y then 0 else sl_ G y) := rfl
    have e2 : SL_ 16 G' = sm_ 1201 (fun y => if gw_ G' y = 0 ∨ 16 < gl_ G' y then 0 else sl_ G' y) := rfl
    have v1 : (if gw_ G g = 0 ∨ 16 < gl_ G g then 0 else sl_ G g) = 0 := if_pos (Or.inl r3)
    have v2 : (if gw_ G' g = 0 ∨ 16 < gl_ G' g then 0 else sl_ G' g) = 0 := by
      rw [hgw, hgl, if_pos rfl, if_pos rfl, if_neg (by omega)]
      simp only [sl_]
      rw [hgw, if_pos rfl, her]; simp
    rw [v1, v2, ← e1, ← e2] at h2
    omega
theorem Ic_.nox {t : Nat} (hI : Ic_ w [t] 16 (rt_ Rm t) [] G) (htw : gw_ G t = 1) (h1 : 1 ≤ (ge_ G t).length) (h2 : (ge_ G t).length + 1 ≤ w) : Ic_ w [] 16 (rt_ Rm t) [] G := by
  have ht1 := hI.1 t (by omega)
  have hc := hI.2.2.1 t ht1.1
  have hrt : rt_ Rm t t = Rm t + 1 := by simp [rt_]
  refine ⟨hI.1, hI.2.1, hI.2.2.1, fun y hy hl => ?_⟩
  have hv := hI.2.2.2 y hy hl
  refine ⟨fun _ => ?_, hv.2.1, fun h0 e he => ?_⟩
  · by_cases hyt : y = t
    · subst hyt; exact ⟨h1, h2⟩
    · exact hv.1 (by simpa using hyt)
  · obtain ⟨q1, q2, q3, q4⟩ := hv.2.2 h0 e he
    refine ⟨q1, q2, fun _ => q3 ?_, q4⟩
    intro q
    rw [List.mem_singleton] at q
    have h3 := cn_mem he q
    have h4 := sm_one (n := 1201) (k := y) (fun p => if gw_ G p = 0 ∨ gl_ G p = 0 then 0 else cn_ t (ge_ G p)) (by have := (hI.1 y hy).2.1; omega)
    simp only [show ¬ (gw_ G y = 0 ∨ gl_ G y = 0) by omega, if_false] at h4
    have h5 : eg_ G t = sm_ 1201 (fun p => if gw_ G p = 0 ∨ gl_ G p = 0 then 0 else cn_ t (ge_ G p)) := rfl
    omega
end WI
