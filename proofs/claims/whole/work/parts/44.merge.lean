-- PURE: two neighbours become one
section MG
variable {w a n : Nat} {R : Nat → Nat} {G : Sg_}
abbrev mg_ (G : Sg_) (b p q : Nat) (Lp L : List (Nat × Nat)) : Sg_ := (va_up G.1 q 0, va_up G.2.1 q 0, va_up (va_up (va_up G.2.2.1 p Lp) q []) b L, G.2.2.2 ++ [q])
theorem el2_ {L : List (Nat × Nat)} {i : Nat} (hi : i + 1 < L.length) : el_ L (i + 1) = L.take i ++ L.getD i (0, 0) :: L.drop (i + 2) := by
  show L.take (i + 1) ++ L.drop (i + 1 + 1) = _
  rw [tk_1 (show i < L.length by omega), List.append_assoc]
  rfl
theorem merge_pure {b i p q a' : Nat} (hw : 5 ≤ w) (hI : In_ w [b, p, q] (n + 1) R a G) (hb1 : gw_ G b = 1) (hbn : gl_ G b = n + 1) (hi : i + 1 < (ge_ G b).length) (hp : ((ge_ G b).getD i (0, 0)).2 = p) (hq : ((ge_ G b).getD (i + 1) (0, 0)).2 = q) (hp1 : gw_ G p = 1) (hq1 : gw_ G q = 1) (hpq : p ≠ q)
    (hp2 : w / 2 ≤ (ge_ G p).length + (ge_ G q).length) (hp3 : (ge_ G p).length + (ge_ G q).length + 1 ≤ w)
    (ha : a' + ((ge_ G p).length + (ge_ G q).length - 2) + ((ge_ G b).length - 1 - 2) ≤ a + ((ge_ G p).length - 2) + ((ge_ G q).length - 2) + ((ge_ G b).length - 2) + 1) :
    In_ w [b] (n + 1) R a' (mg_ G b p q (ge_ G p ++ ge_ G q) (el_ (ge_ G b) (i + 1))) ∧ Cp_ (n + 1) R G (mg_ G b p q (ge_ G p ++ ge_ G q) (el_ (ge_ G b) (i + 1))) b ∧
    et_ (ge_ (mg_ G b p q (ge_ G p ++ ge_ G q) (el_ (ge_ G b) (i + 1)))) (n + 1) b = et_ (ge_ G) (n + 1) b := by
  obtain ⟨hI, hs⟩ := hI
  have hpm : ((ge_ G b).getD i (0, 0)) ∈ ge_ G b := gd_mem (by omega)
  have hqm : ((ge_ G b).getD (i + 1) (0, 0)) ∈ ge_ G b := gd_mem hi
  have hch := hI.child (b := b) (by omega) (by omega) (by omega) hpm
  rw [hp] at hch
  obtain ⟨g1, g2, g3, g4⟩ := hch
  have hch2 := hI.child (b := b) (by omega) (by omega) (by omega) hqm
  rw [hq] at hch2
  obtain ⟨k1, k2, k3, k4⟩ := hch2
  have hpn : gl_ G p = n := by omega
  have hqn : gl_ G q = n := by omega
  have hpb : p ≠ b := fun e => by rw [e] at g2; omega
  have hqb : q ≠ b := fun e => by rw [e] at k2; omega
  obtain ⟨u1, u2, u3⟩ := uniq_ hI (p := b) (c := p) (by omega) (by omega) hp1 (cn_mem hpm hp)
  obtain ⟨v1, v2, v3⟩ := uniq_ hI (p := b) (c := q) (by omega) (by omega) hq1 (cn_mem hqm hq)
  obtain ⟨b1, b2, b3⟩ := hI.1 b (by omega)
  obtain ⟨p1, p2, p3⟩ := hI.1 p (by omega)
  obtain ⟨q1, q2, q3⟩ := hI.1 q (by omega)
  have hspl := spl2_ hi
  have hcp : cn_ p (ge_ G b) = cn_ p ((ge_ G b).take i) + 1 + cn_ p ((ge_ G b).drop (i + 2)) := by
    conv => lhs; rw [hspl]
    rw [cn_app]
    simp only [cn_, hp, hq, if_true, Ne.symm hpq, if_false]
    omega
  have hcq : cn_ q (ge_ G b) = cn_ q ((ge_ G b).take i) + 1 + cn_ q ((ge_ G b).drop (i + 2)) := by
    conv => lhs; rw [hspl]
    rw [cn_app]
    simp only [cn_, hp, hq, if_true, hpq, if_false]
    omega
  have hA : ∀ e ∈ (ge_ G b).take i, e.2 ≠ p ∧ e.2 ≠ q := fun e he => ⟨fun z => by have := cn_mem he z; omega, fun z => by have := cn_mem he z; omega⟩
  have hB : ∀ e ∈ (ge_ G b).drop (i + 2), e.2 ≠ p ∧ e.2 ≠ q := fun e he => ⟨fun z => by have := cn_mem he z; omega, fun z => by have := cn_mem he z; omega⟩
  generalize hG' : mg_ G b p q (ge_ G p ++ ge_ G q) (el_ (ge_ G b) (i + 1)) = G'
  have hgw : ∀ y, gw_ G' y = if y = q then 0 else gw_ G y := fun y => by rw [← hG']; rfl
  have hgl : ∀ y, gl_ G' y = if y = q then 0 else gl_ G y := fun y => by rw [← hG']; rfl
  have heb : ge_ G' b = el_ (ge_ G b) (i + 1) := by rw [← hG']; simp [ge_, mg_, va_up]
  have hep : ge_ G' p = ge_ G p ++ ge_ G q := by rw [← hG']; simp [ge_, mg_, va_up, hpb, hpq]
  have heq : ge_ G' q = [] := by rw [← hG']; simp [ge_, mg_, va_up, hqb]
  have hey : ∀ y, y ≠ b → y ≠ p → y ≠ q → ge_ G' y = ge_ G y := fun y y1 y2 y3 => by rw [← hG']; simp [ge_, mg_, va_up, y1, y2, y3]
  have hgf : gf_ G' = gf_ G ++ [q] := by rw [← hG']
  have hset := el2_ hi
  have hoth : ∀ y, 1 ≤ gw_ G y → gl_ G y = n + 1 → y ≠ b → ∀ e ∈ ge_ G y, e.2 ≠ p ∧ e.2 ≠ q := fun y y1 y2 y3 e he => by
    have h1 := u3 y y1 (by omega) y3
    have h2 := v3 y y1 (by omega) y3
    exact ⟨fun z => by have := cn_mem he z; omega, fun z => by have := cn_mem he z; omega⟩
  have hlow : ∀ y, 1 ≤ gw_ G y → gl_ G y ≤ n → y ≠ p → y ≠ q → et_ (ge_ G') (gl_ G y) y = et_ (ge_ G) (gl_ G y) y := fun y y1 y2 y3 y4 => by
    refine et_same (fun m y => 1 ≤ gw_ G y ∧ gl_ G y = m ∧ m ≤ n ∧ y ≠ p ∧ y ≠ q) (fun m y h => hey y (fun z => by rw [z] at h; omega) h.2.2.2.1 h.2.2.2.2) (fun m y h e he => ?_) _ y ⟨y1, rfl, y2, y3, y4⟩
    obtain ⟨t1, t2, -, -⟩ := hI.child h.1 (by omega) (by omega) he
    exact ⟨t1, by omega, by omega, fun z => by rw [z] at t2; omega, fun z => by rw [z] at t2; omega⟩
  have hkid : ∀ y, 1 ≤ gw_ G y → gl_ G y = n + 1 → ∀ e ∈ ge_ G y, e.2 ≠ p ∧ e.2 ≠ q → et_ (ge_ G') n e.2 = et_ (ge_ G) n e.2 := fun y y1 y2 e he hne => by
    obtain ⟨t1, t2, -, -⟩ := hI.child y1 (by omega) (by omega) he
    have := hlow e.2 t1 (by omega) hne.1 hne.2
    rw [show gl_ G e.2 = n by omega] at this
    exact this
  -- children of p and q
  have hsub : ∀ e, e ∈ ge_ G p ++ ge_ G q → n ≠ 0 → 1 ≤ gw_ G e.2 ∧ gl_ G e.2 + 1 = n ∧ w / 2 ≤ (ge_ G e.2).length ∧ (ge_ G e.2).head?.map Prod.fst = some e.1 ∧ e.2 ≠ b ∧ e.2 ≠ p ∧ e.2 ≠ q := fun e he h0 => by
    have go : ∀ z, 1 ≤ gw_ G z → gl_ G z = n → e ∈ ge_ G z → 1 ≤ gw_ G e.2 ∧ gl_ G e.2 + 1 = n ∧ w / 2 ≤ (ge_ G e.2).length ∧ (ge_ G e.2).head?.map Prod.fst = some e.1 ∧ e.2 ≠ b ∧ e.2 ≠ p ∧ e.2 ≠ q := fun z z1 z2 z3 => by
      obtain ⟨t1, t2, t3, t4⟩ := hI.child z1 (by omega) (by omega) z3
      have n1 : e.2 ≠ b := fun z => by rw [z] at t2; omega
      have n2 : e.2 ≠ p := fun z => by rw [z] at t2; omega
      have n3 : e.2 ≠ q := fun z => by rw [z] at t2; omega
      exact ⟨t1, by omega, t3 (by simp [n1, n2, n3]), t4, n1, n2, n3⟩
    rcases List.mem_append.mp he with h | h
    · exact go p (by omega) hpn h
    · exact go q (by omega) hqn h
  have hpq2 : et_ (ge_ G') n p = et_ (ge_ G) n p ++ et_ (ge_ G) n q := by
    cases hn : n with
    | zero => exact hep
    | succ m =>
      have h0 : n ≠ 0 := by omega
      rw [et_succ, et_succ, et_succ, hep, ← fm_app]
      refine fm_congr (fun e he => ?_)
      obtain ⟨t1, t2, -, -, n1, n2, n3⟩ := hsub e he h0
      have := hlow e.2 t1 (by omega) n2 n3
      rw [show gl_ G e.2 = m by omega] at this
      exact this
  have hety : ∀ y, 1 ≤ gw_ G y → gl_ G y = n + 1 → y ≠ b → et_ (ge_ G') (n + 1) y = et_ (ge_ G) (n + 1) y := fun y y1 y2 y3 => by
    rw [et_succ, et_succ, hey y y3 (fun z => by rw [z] at y2; omega) (fun z => by rw [z] at y2; omega)]
    exact fm_congr (fun e he => hkid y y1 y2 e he (hoth y y1 y2 y3 e he))
  have hetb : et_ (ge_ G') (n + 1) b = et_ (ge_ G) (n + 1) b := by
    rw [et_succ, et_succ, heb, hset, fm_app, fm_cons, hp]
    conv => rhs; rw [hspl, fm_app, fm_cons, fm_cons, hp, hq]
    rw [fm_congr (fun e he => hkid b (by omega) hbn e (List.mem_of_mem_take he) (hA e he)), fm_congr (fun e he => hkid b (by omega) hbn e (List.mem_of_mem_drop he) (hB e he)), hpq2, List.append_assoc]
  have hCp : Cp_ (n + 1) R G G' b := by
    refine ⟨by rw [hgw, if_neg (Ne.symm hqb)]; exact hb1, by rw [hgl, if_neg (Ne.symm hqb)]; exact hbn, fun y y1 y2 y3 => ?_, fun y y1 y2 y3 => by rw [hgw, if_neg (fun z => by rw [z] at y2; omega)], fun y y1 y2 => ?_⟩
    · have hyp : y ≠ p := fun z => by
        rw [z] at y3
        rcases y3 with h | h <;> omega
      have hyq : y ≠ q := fun z => by
        rw [z] at y3
        rcases y3 with h | h <;> omega
      refine ⟨hey y y2 hyp hyq, by rw [hgl, if_neg hyq], by rw [hgw, if_neg hyq]; exact y1, fun hy => ?_⟩
      by_cases hyn : gl_ G y = n + 1
      · rw [hyn]; exact hety y y1 hyn y2
      · exact hlow y y1 (by omega) hyp hyq
    · rw [hgw] at y1
      by_cases hyq : y = q
      · rw [if_pos hyq] at y1; omega
      · rw [if_neg hyq] at y1
        exact ⟨y1, by rw [hgl, if_neg hyq]⟩
  have hso : so_ (et_ (ge_ G') n p) := by
    have h := (hI.2.2.2 b (by omega) (by omega)).2.1
    rw [hbn, ← hetb, et_succ, heb, hset, fm_app, fm_cons, hp] at h
    exact (so_app.mp (so_app.mp h).2.1).1
  have hhp : (ge_ G p ++ ge_ G q).head?.map Prod.fst = (ge_ G p).head?.map Prod.fst := by
    have h1 := hd_len g4
    cases hgp : ge_ G p with
    | nil => rw [hgp] at h1; simp at h1
    | cons d2 D2 => rfl
  have hqf : q ∉ gf_ G := fun h => by have := (hI.2.1.2.1 q h).2.2; omega
  refine ⟨⟨⟨fun y hy => ?_, ⟨?_, fun y hy => ?_, fun y y1 y2 y3 => ?_⟩, fun y hy => ?_, fun y hy hyl => ?_⟩, ?_⟩, hCp, hetb⟩
  · rw [hgw] at hy
    by_cases hyq : y = q
    · rw [if_pos hyq] at hy; omega
    · rw [if_neg hyq] at hy
      rw [hgl, if_neg hyq]; exact hI.1 y hy
  · rw [hgf, List.nodup_append]
    refine ⟨hI.2.1.1, by simp, fun x hx y hy e => ?_⟩
    rw [List.mem_singleton] at hy
    rw [e, hy] at hx
    exact hqf hx
  · rw [hgf] at hy
    rw [hgw]
    rcases List.mem_append.mp hy with h | h
    · obtain ⟨t1, t2, t3⟩ := hI.2.1.2.1 y h
      refine ⟨t1, t2, ?_⟩
      split
      · rfl
      · exact t3
    · rw [List.mem_singleton] at h
      rw [if_pos h, h]; exact ⟨q1, q2, rfl⟩
  · rw [hgw] at y3
    rw [hgf]
    by_cases hyq : y = q
    · exact Or.inl (List.mem_append_right _ (by rw [hyq]; exact List.mem_singleton.mpr rfl))
    · rw [if_neg hyq] at y3
      rcases hI.2.1.2.2 y y1 y2 y3 with h | h
      · exact Or.inl (List.mem_append_left _ h)
      · exact Or.inr h
  · have h1 := hI.2.2.1 y hy
    have h2 := sm_up3 (n := 1201) (i := b) (j := p) (k := q) (f := fun r => if gw_ G r = 0 ∨ gl_ G r = 0 then 0 else cn_ y (ge_ G r)) (g := fun r => if gw_ G' r = 0 ∨ gl_ G' r = 0 then 0 else cn_ y (ge_ G' r)) (by omega) (by omega) (by omega) (Ne.symm hpb) (Ne.symm hqb) hpq (fun r _ r1 r2 r3 => by
      rw [hgw, hgl, if_neg r3, if_neg r3, hey r r1 r2 r3])
    have e1 : eg_ G y = sm_ 1201 (fun r => if gw_ G r = 0 ∨ gl_ G r = 0 then 0 else cn_ y (ge_ G r)) := rfl
    have e2 : eg_ G' y = sm_ 1201 (fun r => if gw_ G' r = 0 ∨ gl_ G' r = 0 then 0 else cn_ y (ge_ G' r)) := rfl
    have c1 : (if gw_ G' b = 0 ∨ gl_ G' b = 0 then 0 else cn_ y (ge_ G' b)) + (if y = q then 1 else 0) = (if gw_ G b = 0 ∨ gl_ G b = 0 then 0 else cn_ y (ge_ G b)) := by
      have hub : ¬ (gw_ G b = 0 ∨ gl_ G b = 0) := by omega
      rw [hgw, hgl, if_neg (Ne.symm hqb), if_neg (Ne.symm hqb), if_neg hub, if_neg hub, heb, hset]
      conv => rhs; rw [hspl]
      rw [cn_app, cn_app]
      simp only [cn_, hq]
      rw [show (if q = y then 1 else 0) = (if y = q then 1 else 0) by simp only [eq_comm]]
      omega
    have c2 : (if gw_ G' p = 0 ∨ gl_ G' p = 0 then 0 else cn_ y (ge_ G' p)) = (if gw_ G p = 0 ∨ gl_ G p = 0 then 0 else cn_ y (ge_ G p)) + (if gw_ G q = 0 ∨ gl_ G q = 0 then 0 else cn_ y (ge_ G q)) := by
      rw [hgw, hgl, if_neg hpq, if_neg hpq, hpn, hqn, hp1, hq1, hep]
      by_cases h0 : n = 0
      · simp [h0]
      · rw [if_neg (by omega), if_neg (by omega), if_neg (by omega), ← cn_app]
    have c3 : (if gw_ G' q = 0 ∨ gl_ G' q = 0 then 0 else cn_ y (ge_ G' q)) = 0 := by
      rw [hgw, if_pos rfl]; simp
    rw [← e1, ← e2] at h2
    rw [hgw]
    by_cases hyq : y = q
    · rw [if_pos hyq] at c1 ⊢
      rw [hyq] at h1 h2 c1 c2 c3 ⊢
      omega
    · rw [if_neg hyq] at c1 ⊢
      omega
  · rw [hgl] at hyl
    rw [hgw] at hy
    have hyq : y ≠ q := fun z => by rw [if_pos z] at hy; omega
    rw [if_neg hyq] at hyl hy
    have hly : gl_ G' y = gl_ G y := by rw [hgl, if_neg hyq]
    by_cases hyp : y = p
    · subst hyp
      have h1 := hd_len g4
      refine ⟨fun _ => by rw [hep, List.length_append]; omega, by rw [hly, hpn]; exact hso, fun h0 e he => ?_⟩
      rw [hly, hpn] at h0
      rw [hep] at he
      obtain ⟨t1, t2, t3, t4, n1, n2, n3⟩ := hsub e he h0
      rw [hgw, hly, hgl, if_neg n3, if_neg n3, hey _ n1 n2 n3]
      exact ⟨t1, by omega, fun _ => t3, t4⟩
    · by_cases hyb : y = b
      · subst hyb
        refine ⟨fun h => absurd (by simp) h, ?_, fun h0 e he => ?_⟩
        · rw [hly, hbn, hetb]
          have := (hI.2.2.2 y (by omega) (by omega)).2.1
          rw [hbn] at this
          exact this
        · rw [heb, hset] at he
          have hold : ∀ e ∈ ge_ G y, e.2 ≠ p ∧ e.2 ≠ q → 1 ≤ gw_ G' e.2 ∧ gl_ G' e.2 + 1 = gl_ G' y ∧ (e.2 ∉ [y] → w / 2 ≤ (ge_ G' e.2).length) ∧ (ge_ G' e.2).head?.map Prod.fst = some e.1 := fun e he hne => by
            obtain ⟨t1, t2, t3, t4⟩ := hI.child (b := y) (by omega) (by omega) (by omega) he
            have n1 : e.2 ≠ y := fun z => by rw [z] at t2; omega
            rw [hgw, hly, hgl, if_neg hne.2, if_neg hne.2, hey _ n1 hne.1 hne.2]
            exact ⟨t1, t2, fun _ => t3 (by simp [n1, hne.1, hne.2]), t4⟩
          rcases List.mem_append.mp he with h | h
          · exact hold e (List.mem_of_mem_take h) (hA e h)
          · rcases List.mem_cons.mp h with h | h
            · have h1 : e.2 = p := by rw [h]; exact hp
              have h2 : e.1 = ((ge_ G y).getD i (0, 0)).1 := by rw [h]
              rw [h1, hgw, hly, hgl, if_neg hpq, if_neg hpq, hep, h2, ← g4, hhp, List.length_append]
              exact ⟨by omega, by omega, fun _ => hp2, rfl⟩
            · exact hold e (List.mem_of_mem_drop h) (hB e h)
      · have hv := hI.2.2.2 y hy hyl
        have hall : ∀ e ∈ ge_ G y, gl_ G y ≠ 0 → (e.2 ≠ p ∧ e.2 ≠ q) ∧ e.2 ≠ b := fun e he h0 => by
          obtain ⟨t1, t2, -, -⟩ := hI.child hy hyl h0 he
          refine ⟨?_, fun z => by rw [z] at t2; omega⟩
          by_cases hyn : gl_ G y = n + 1
          · exact hoth y hy hyn hyb e he
          · exact ⟨fun z => by rw [z] at t2; omega, fun z => by rw [z] at t2; omega⟩
        refine ⟨fun _ => ?_, ?_, fun h0 e he => ?_⟩
        · rw [hey y hyb hyp hyq]; exact hv.1 (by simp [hyb, hyp, hyq])
        · rw [hly]
          by_cases hyn : gl_ G y = n + 1
          · rw [hyn, hety y hy hyn hyb]
            have := hv.2.1
            rw [hyn] at this
            exact this
          · rw [hlow y hy (by omega) hyp hyq]; exact hv.2.1
        · rw [hly] at h0
          rw [hey y hyb hyp hyq] at he
          obtain ⟨t1, t2, t3, t4⟩ := hv.2.2 h0 e he
          obtain ⟨⟨n1, n2⟩, n3⟩ := hall e he h0
          rw [hgw, hly, hgl, if_neg n2, if_neg n2, hey _ n3 n1 n2]
          exact ⟨t1, t2, fun _ => t3 (by simp [n1, n2, n3]), t4⟩
  · rw [hgf, List.length_append, List.length_singleton]
    have hkp : ∀ y, 1 ≤ gw_ G y → gl_ G y ≤ n + 1 → y ≠ b → y ≠ p → y ≠ q → sl_ G' y = sl_ G y := fun y y1 y2 y3 y4 y5 => by
      show (gw_ G' y - 1) * max ((et_ (ge_ G') (gl_ G' y) y).length - 1) 1 + ((ge_ G' y).length - 2) = (gw_ G y - 1) * max ((et_ (ge_ G) (gl_ G y) y).length - 1) 1 + ((ge_ G y).length - 2)
      rw [hgw, hgl, if_neg y5, if_neg y5, hey y y3 y4 y5]
      by_cases hyn : gl_ G y = n + 1
      · rw [hyn, hety y y1 hyn y3]
      · rw [hlow y y1 (by omega) y4 y5]
    have h2 := sm_up3 (n := 1201) (i := b) (j := p) (k := q) (f := fun y => if gw_ G y = 0 ∨ n + 1 < gl_ G y then 0 else sl_ G y) (g := fun y => if gw_ G' y = 0 ∨ n + 1 < gl_ G' y then 0 else sl_ G' y) (by omega) (by omega) (by omega) (Ne.symm hpb) (Ne.symm hqb) hpq (fun r _ r1 r2 r3 => by
      rw [hgw, hgl, if_neg r3, if_neg r3]
      by_cases hu : gw_ G r = 0 ∨ n + 1 < gl_ G r
      · simp only [hu, if_true]
      · simp only [hu, if_false]; exact hkp r (by omega) (by omega) r1 r2 r3)
    have e1 : SL_ (n + 1) G = sm_ 1201 (fun y => if gw_ G y = 0 ∨ n + 1 < gl_ G y then 0 else sl_ G y) := rfl
    have e2 : SL_ (n + 1) G' = sm_ 1201 (fun y => if gw_ G' y = 0 ∨ n + 1 < gl_ G' y then 0 else sl_ G' y) := rfl
    have hel := el_len hi
    have s1 : (if gw_ G b = 0 ∨ n + 1 < gl_ G b then 0 else sl_ G b) = (ge_ G b).length - 2 := by
      rw [if_neg (by omega)]; simp [sl_, hb1]
    have s2 : (if gw_ G' b = 0 ∨ n + 1 < gl_ G' b then 0 else sl_ G' b) = (ge_ G b).length - 1 - 2 := by
      rw [hgw, hgl, if_neg (Ne.symm hqb), if_neg (Ne.symm hqb), if_neg (by omega)]
      simp only [sl_]
      rw [hgw, if_neg (Ne.symm hqb), hb1, heb, show (el_ (ge_ G b) (i + 1)).length = (ge_ G b).length - 1 by omega]; simp
    have s3 : (if gw_ G p = 0 ∨ n + 1 < gl_ G p then 0 else sl_ G p) = (ge_ G p).length - 2 := by
      rw [if_neg (by omega)]; simp [sl_, hp1]
    have s4 : (if gw_ G' p = 0 ∨ n + 1 < gl_ G' p then 0 else sl_ G' p) = (ge_ G p).length + (ge_ G q).length - 2 := by
      rw [hgw, hgl, if_neg hpq, if_neg hpq, if_neg (by omega)]
      simp only [sl_]
      rw [hgw, if_neg hpq, hp1, hep, List.length_append]; simp
    have s5 : (if gw_ G q = 0 ∨ n + 1 < gl_ G q then 0 else sl_ G q) = (ge_ G q).length - 2 := by
      rw [if_neg (by omega)]; simp [sl_, hq1]
    have s6 : (if gw_ G' q = 0 ∨ n + 1 < gl_ G' q then 0 else sl_ G' q) = 0 := by
      rw [hgw, if_pos rfl]; simp
    rw [s1, s2, s3, s4, s5, s6, ← e1, ← e2] at h2
    omega
end MG
