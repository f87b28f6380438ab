-- PURE: two neighbours change entries, or become one
theorem spl2_ {L : List (Nat × Nat)} {i : Nat} (hi : i + 1 < L.length) : L = L.take i ++ L.getD i (0, 0) :: L.getD (i + 1) (0, 0) :: L.drop (i + 2) := by
  have h1 : L.drop (i + 1) = L.getD (i + 1) (0, 0) :: L.drop (i + 2) := by
    rw [List.drop_eq_getElem_cons hi, List.getD_eq_getElem?_getD, List.getElem?_eq_getElem hi]
    rfl
  rw [← h1]
  exact spl_ (by omega)
section FL
variable {w a n : Nat} {R : Nat → Nat} {G : Sg_}
abbrev rd_ (G : Sg_) (b p q : Nat) (Lp Lq L : List (Nat × Nat)) : Sg_ := (G.1, G.2.1, va_up (va_up (va_up G.2.2.1 p Lp) q Lq) b L, G.2.2.2)
theorem redist_pure {b i p q kq a' : Nat} {Lp Lq : List (Nat × Nat)} (hw : 5 ≤ w) (hI : In_ w [b, p, q] (n + 1) R a G) (hb1 : gw_ G b = 1) (hbn : gl_ G b = n + 1) (hi : i + 1 < (ge_ G b).length) (hp : ((ge_ G b).getD i (0, 0)).2 = p) (hq : ((ge_ G b).getD (i + 1) (0, 0)).2 = q) (hp1 : gw_ G p = 1) (hq1 : gw_ G q = 1) (hpq : p ≠ q)
    (hL : Lp ++ Lq = ge_ G p ++ ge_ G q) (hp2 : w / 2 ≤ Lp.length) (hp3 : Lp.length + 1 ≤ w) (hq2 : w / 2 ≤ Lq.length) (hq3 : Lq.length + 1 ≤ w) (hkq : Lq.head?.map Prod.fst = some kq)
    (ha : a' + (Lp.length - 2) + (Lq.length - 2) ≤ a + ((ge_ G p).length - 2) + ((ge_ G q).length - 2)) :
    In_ w [b] (n + 1) R a' (rd_ G b p q Lp Lq (sk_ (ge_ G b) (i + 1) kq)) ∧ Cp_ (n + 1) R G (rd_ G b p q Lp Lq (sk_ (ge_ G b) (i + 1) kq)) b ∧
    et_ (ge_ (rd_ G b p q Lp Lq (sk_ (ge_ G b) (i + 1) kq))) (n + 1) b = et_ (ge_ G) (n + 1) b := by
  obtain ⟨hI, hs⟩ := hI
  have hpm : ((ge_ G b).getD i (0, 0)) ∈ ge_ G b := gd_mem (by omega)
  have hqm : ((ge_ G b).getD (i + 1) (0, 0)) ∈ ge_ G b := gd_mem hi
  have hch := hI.child (b := b) (by omega) (by omega) (by omega) hpm
  rw [hp] at hch
  obtain ⟨g1, g2, g3, g4⟩ := hch
  have hch2 := hI.child (b := b) (by omega) (by omega) (by omega) hqm
  rw [hq] at hch2
  obtain ⟨k1, k2, k3, k4⟩ := hch2
  have hpn : gl_ G p = n := by omega
  have hqn : gl_ G q = n := by omega
  have hpb : p ≠ b := fun e => by rw [e] at g2; omega
  have hqb : q ≠ b := fun e => by rw [e] at k2; omega
  obtain ⟨u1, u2, u3⟩ := uniq_ hI (p := b) (c := p) (by omega) (by omega) hp1 (cn_mem hpm hp)
  obtain ⟨v1, v2, v3⟩ := uniq_ hI (p := b) (c := q) (by omega) (by omega) hq1 (cn_mem hqm hq)
  obtain ⟨b1, b2, b3⟩ := hI.1 b (by omega)
  obtain ⟨p1, p2, p3⟩ := hI.1 p (by omega)
  obtain ⟨q1, q2, q3⟩ := hI.1 q (by omega)
  have hspl := spl2_ hi
  have hcp : cn_ p (ge_ G b) = cn_ p ((ge_ G b).take i) + 1 + cn_ p ((ge_ G b).drop (i + 2)) := by
    conv => lhs; rw [hspl]
    rw [cn_app]
    simp only [cn_, hp, hq, if_true, Ne.symm hpq, if_false]
    omega
  have hcq : cn_ q (ge_ G b) = cn_ q ((ge_ G b).take i) + 1 + cn_ q ((ge_ G b).drop (i + 2)) := by
    conv => lhs; rw [hspl]
    rw [cn_app]
    simp only [cn_, hp, hq, if_true, hpq, if_false]
    omega
  have hA : ∀ e ∈ (ge_ G b).take i, e.2 ≠ p ∧ e.2 ≠ q := fun e he => ⟨fun z => by have := cn_mem he z; omega, fun z => by have := cn_mem he z; omega⟩
  have hB : ∀ e ∈ (ge_ G b).drop (i + 2), e.2 ≠ p ∧ e.2 ≠ q := fun e he => ⟨fun z => by have := cn_mem he z; omega, fun z => by have := cn_mem he z; omega⟩
  generalize hG' : rd_ G b p q Lp Lq (sk_ (ge_ G b) (i + 1) kq) = G'
  have hgw : ∀ y, gw_ G' y = gw_ G y := fun y => by rw [← hG']
  have hgl : ∀ y, gl_ G' y = gl_ G y := fun y => by rw [← hG']
  have heb : ge_ G' b = sk_ (ge_ G b) (i + 1) kq := by rw [← hG']; simp [ge_, rd_, va_up]
  have hep : ge_ G' p = Lp := by rw [← hG']; simp [ge_, rd_, va_up, hpb, hpq]
  have heq : ge_ G' q = Lq := by rw [← hG']; simp [ge_, rd_, va_up, hqb]
  have hey : ∀ y, y ≠ b → y ≠ p → y ≠ q → ge_ G' y = ge_ G y := fun y y1 y2 y3 => by rw [← hG']; simp [ge_, rd_, va_up, y1, y2, y3]
  have hgf : gf_ G' = gf_ G := by rw [← hG']
  have hset : sk_ (ge_ G b) (i + 1) kq = (ge_ G b).take i ++ (ge_ G b).getD i (0, 0) :: (kq, q) :: (ge_ G b).drop (i + 2) := by
    show (ge_ G b).set (i + 1) (kq, ((ge_ G b).getD (i + 1) (0, 0)).2) = _
    rw [hq, List.set_eq_take_append_cons_drop, if_pos hi, tk_1 (show i < (ge_ G b).length by omega), List.append_assoc]
    rfl
  have hoth : ∀ y, 1 ≤ gw_ G y → gl_ G y = n + 1 → y ≠ b → ∀ e ∈ ge_ G y, e.2 ≠ p ∧ e.2 ≠ q := fun y y1 y2 y3 e he => by
    have h1 := u3 y y1 (by omega) y3
    have h2 := v3 y y1 (by omega) y3
    exact ⟨fun z => by have := cn_mem he z; omega, fun z => by have := cn_mem he z; omega⟩
  have hlow : ∀ y, 1 ≤ gw_ G y → gl_ G y ≤ n → y ≠ p → y ≠ q → et_ (ge_ G') (gl_ G y) y = et_ (ge_ G) (gl_ G y) y := fun y y1 y2 y3 y4 => by
    refine et_same (fun m y => 1 ≤ gw_ G y ∧ gl_ G y = m ∧ m ≤ n ∧ y ≠ p ∧ y ≠ q) (fun m y h => hey y (fun z => by rw [z] at h; omega) h.2.2.2.1 h.2.2.2.2) (fun m y h e he => ?_) _ y ⟨y1, rfl, y2, y3, y4⟩
    obtain ⟨t1, t2, -, -⟩ := hI.child h.1 (by omega) (by omega) he
    exact ⟨t1, by omega, by omega, fun z => by rw [z] at t2; omega, fun z => by rw [z] at t2; omega⟩
  have hkid : ∀ y, 1 ≤ gw_ G y → gl_ G y = n + 1 → ∀ e ∈ ge_ G y, e.2 ≠ p ∧ e.2 ≠ q → et_ (ge_ G') n e.2 = et_ (ge_ G) n e.2 := fun y y1 y2 e he hne => by
    obtain ⟨t1, t2, -, -⟩ := hI.child y1 (by omega) (by omega) he
    have := hlow e.2 t1 (by omega) hne.1 hne.2
    rw [show gl_ G e.2 = n by omega] at this
    exact this
  -- children of p and q
  have hmem : ∀ e, e ∈ Lp ++ Lq → e ∈ ge_ G p ∨ e ∈ ge_ G q := fun e he => by rw [hL] at he; exact List.mem_append.mp he
  have hsub : ∀ e, e ∈ Lp ++ Lq → n ≠ 0 → 1 ≤ gw_ G e.2 ∧ gl_ G e.2 + 1 = n ∧ w / 2 ≤ (ge_ G e.2).length ∧ (ge_ G e.2).head?.map Prod.fst = some e.1 ∧ e.2 ≠ b ∧ e.2 ≠ p ∧ e.2 ≠ q := fun e he h0 => by
    have go : ∀ z, 1 ≤ gw_ G z → gl_ G z = n → e ∈ ge_ G z → 1 ≤ gw_ G e.2 ∧ gl_ G e.2 + 1 = n ∧ w / 2 ≤ (ge_ G e.2).length ∧ (ge_ G e.2).head?.map Prod.fst = some e.1 ∧ e.2 ≠ b ∧ e.2 ≠ p ∧ e.2 ≠ q := fun z z1 z2 z3 => by
      obtain ⟨t1, t2, t3, t4⟩ := hI.child z1 (by omega) (by omega) z3
      have n1 : e.2 ≠ b := fun z => by rw [z] at t2; omega
      have n2 : e.2 ≠ p := fun z => by rw [z] at t2; omega
      have n3 : e.2 ≠ q := fun z => by rw [z] at t2; omega
      exact ⟨t1, by omega, t3 (by simp [n1, n2, n3]), t4, n1, n2, n3⟩
    rcases hmem e he with h | h
    · exact go p (by omega) hpn h
    · exact go q (by omega) hqn h
  have hpart : ∀ L : List (Nat × Nat), (∀ e ∈ L, e ∈ Lp ++ Lq) → n ≠ 0 → fm_ (ge_ G') (n - 1) L = fm_ (ge_ G) (n - 1) L := fun L hL2 h0 => by
    refine fm_congr (fun e he => ?_)
    obtain ⟨t1, t2, -, -, n1, n2, n3⟩ := hsub e (hL2 e he) h0
    have := hlow e.2 t1 (by omega) n2 n3
    rw [show gl_ G e.2 = n - 1 by omega] at this
    exact this
  have hpq2 : et_ (ge_ G') n p ++ et_ (ge_ G') n q = et_ (ge_ G) n p ++ et_ (ge_ G) n q := by
    cases hn : n with
    | zero =>
      show ge_ G' p ++ ge_ G' q = ge_ G p ++ ge_ G q
      rw [hep, heq, hL]
    | succ m =>
      have h0 : n ≠ 0 := by omega
      have h1 := hpart Lp (fun e he => List.mem_append_left _ he) h0
      have h2 := hpart Lq (fun e he => List.mem_append_right _ he) h0
      rw [show n - 1 = m by omega] at h1 h2
      rw [et_succ, et_succ, et_succ, et_succ, hep, heq, h1, h2, ← fm_app, ← fm_app, hL]
  have hety : ∀ y, 1 ≤ gw_ G y → gl_ G y = n + 1 → y ≠ b → et_ (ge_ G') (n + 1) y = et_ (ge_ G) (n + 1) y := fun y y1 y2 y3 => by
    rw [et_succ, et_succ, hey y y3 (fun z => by rw [z] at y2; omega) (fun z => by rw [z] at y2; omega)]
    exact fm_congr (fun e he => hkid y y1 y2 e he (hoth y y1 y2 y3 e he))
  have hetb : et_ (ge_ G') (n + 1) b = et_ (ge_ G) (n + 1) b := by
    rw [et_succ, et_succ, heb, hset, fm_app, fm_cons, fm_cons, hp]
    conv => rhs; rw [hspl, fm_app, fm_cons, fm_cons, hp, hq]
    rw [fm_congr (fun e he => hkid b (by omega) hbn e (List.mem_of_mem_take he) (hA e he)), fm_congr (fun e he => hkid b (by omega) hbn e (List.mem_of_mem_drop he) (hB e he)), ← List.append_assoc (et_ (ge_ G') n p), hpq2, List.append_assoc]
  have hCp : Cp_ (n + 1) R G G' b := by
    refine ⟨by rw [hgw]; exact hb1, by rw [hgl]; exact hbn, fun y y1 y2 y3 => ?_, fun y y1 y2 y3 => hgw y, fun y y1 y2 => ?_⟩
    · have hyp : y ≠ p := fun z => by
        rw [z] at y3
        rcases y3 with h | h <;> omega
      have hyq : y ≠ q := fun z => by
        rw [z] at y3
        rcases y3 with h | h <;> omega
      refine ⟨hey y y2 hyp hyq, hgl y, by rw [hgw]; exact y1, fun hy => ?_⟩
      by_cases hyn : gl_ G y = n + 1
      · rw [hyn]; exact hety y y1 hyn y2
      · exact hlow y y1 (by omega) hyp hyq
    · rw [hgw] at y1
      exact ⟨y1, (hgl y).symm⟩
  have hso : so_ (et_ (ge_ G') n p) ∧ so_ (et_ (ge_ G') n q) := by
    have h := (hI.2.2.2 b (by omega) (by omega)).2.1
    rw [hbn, ← hetb, et_succ, heb, hset, fm_app, fm_cons, fm_cons, hp] at h
    have h2 := (so_app.mp h).2.1
    exact ⟨(so_app.mp h2).1, (so_app.mp (so_app.mp h2).2.1).1⟩
  have hhp : Lp.head?.map Prod.fst = (ge_ G p).head?.map Prod.fst := by
    have h1 := hd_len g4
    cases hLp : Lp with
    | nil => rw [hLp] at hp2; simp at hp2; omega
    | cons d D =>
      cases hgp : ge_ G p with
      | nil => rw [hgp] at h1; simp at h1
      | cons d2 D2 =>
        rw [hLp, hgp] at hL
        simp only [List.cons_append, List.cons.injEq] at hL
        rw [hL.1]; rfl
  refine ⟨⟨⟨fun y hy => ?_, ⟨by rw [hgf]; exact hI.2.1.1, fun y hy => ?_, fun y y1 y2 y3 => ?_⟩, fun y hy => ?_, fun y hy hyl => ?_⟩, ?_⟩, hCp, hetb⟩
  · rw [hgl]; rw [hgw] at hy; exact hI.1 y hy
  · rw [hgf] at hy; rw [hgw]; exact hI.2.1.2.1 y hy
  · rw [hgw] at y3; rw [hgf]; exact hI.2.1.2.2 y y1 y2 y3
  · have h1 := hI.2.2.1 y hy
    have h2 := sm_up3 (n := 1201) (i := b) (j := p) (k := q) (f := fun r => if gw_ G r = 0 ∨ gl_ G r = 0 then 0 else cn_ y (ge_ G r)) (g := fun r => if gw_ G' r = 0 ∨ gl_ G' r = 0 then 0 else cn_ y (ge_ G' r)) (by omega) (by omega) (by omega) (Ne.symm hpb) (Ne.symm hqb) hpq (fun r _ r1 r2 r3 => by
      rw [hgw, hgl, hey r r1 r2 r3])
    have e1 : eg_ G y = sm_ 1201 (fun r => if gw_ G r = 0 ∨ gl_ G r = 0 then 0 else cn_ y (ge_ G r)) := rfl
    have e2 : eg_ G' y = sm_ 1201 (fun r => if gw_ G' r = 0 ∨ gl_ G' r = 0 then 0 else cn_ y (ge_ G' r)) := rfl
    have c1 : (if gw_ G' b = 0 ∨ gl_ G' b = 0 then 0 else cn_ y (ge_ G' b)) = (if gw_ G b = 0 ∨ gl_ G b = 0 then 0 else cn_ y (ge_ G b)) := by
      rw [hgw, hgl, if_neg (by omega), if_neg (by omega), heb]
      have h9 : cn_ y (sk_ (ge_ G b) (i + 1) kq) + (if ((ge_ G b).getD (i + 1) (0, 0)).2 = y then 1 else 0) = cn_ y (ge_ G b) + (if ((ge_ G b).getD (i + 1) (0, 0)).2 = y then 1 else 0) := cn_set y (ge_ G b) (i + 1) (kq, ((ge_ G b).getD (i + 1) (0, 0)).2) hi
      omega
    have c2 : (if gw_ G' p = 0 ∨ gl_ G' p = 0 then 0 else cn_ y (ge_ G' p)) + (if gw_ G' q = 0 ∨ gl_ G' q = 0 then 0 else cn_ y (ge_ G' q)) = (if gw_ G p = 0 ∨ gl_ G p = 0 then 0 else cn_ y (ge_ G p)) + (if gw_ G q = 0 ∨ gl_ G q = 0 then 0 else cn_ y (ge_ G q)) := by
      rw [hgw, hgl, hgw, hgl, hpn, hqn, hp1, hq1, hep, heq]
      by_cases h0 : n = 0
      · simp [h0]
      · rw [if_neg (by omega), if_neg (by omega), if_neg (by omega), if_neg (by omega), ← cn_app, ← cn_app, hL]
    rw [← e1, ← e2] at h2
    rw [hgw]
    omega
  · rw [hgl] at hyl
    rw [hgw] at hy
    by_cases hyp : y = p
    · subst hyp
      refine ⟨fun _ => by rw [hep]; omega, by rw [hgl, hpn]; exact hso.1, fun h0 e he => ?_⟩
      rw [hgl, hpn] at h0
      rw [hep] at he
      obtain ⟨t1, t2, t3, t4, n1, n2, n3⟩ := hsub e (List.mem_append_left _ he) h0
      rw [hgw, hgl, hgl, hey _ n1 n2 n3]
      exact ⟨t1, by omega, fun _ => t3, t4⟩
    · by_cases hyq : y = q
      · subst hyq
        refine ⟨fun _ => by rw [heq]; omega, by rw [hgl, hqn]; exact hso.2, fun h0 e he => ?_⟩
        rw [hgl, hqn] at h0
        rw [heq] at he
        obtain ⟨t1, t2, t3, t4, n1, n2, n3⟩ := hsub e (List.mem_append_right _ he) h0
        rw [hgw, hgl, hgl, hey _ n1 n2 n3]
        exact ⟨t1, by omega, fun _ => t3, t4⟩
      · by_cases hyb : y = b
        · subst hyb
          refine ⟨fun h => absurd (by simp) h, ?_, fun h0 e he => ?_⟩
          · rw [hgl, hbn, hetb]
            have := (hI.2.2.2 y (by omega) (by omega)).2.1
            rw [hbn] at this
            exact this
          · rw [heb, hset] at he
            have hold : ∀ e ∈ ge_ G y, e.2 ≠ p ∧ e.2 ≠ q → 1 ≤ gw_ G' e.2 ∧ gl_ G' e.2 + 1 = gl_ G' y ∧ (e.2 ∉ [y] → w / 2 ≤ (ge_ G' e.2).length) ∧ (ge_ G' e.2).head?.map Prod.fst = some e.1 := fun e he hne => by
              obtain ⟨t1, t2, t3, t4⟩ := hI.child (b := y) (by omega) (by omega) (by omega) he
              have n1 : e.2 ≠ y := fun z => by rw [z] at t2; omega
              rw [hgw, hgl, hgl, hey _ n1 hne.1 hne.2]
              exact ⟨t1, t2, fun _ => t3 (by simp [n1, hne.1, hne.2]), t4⟩
            rcases List.mem_append.mp he with h | h
            · exact hold e (List.mem_of_mem_take h) (hA e h)
            · rcases List.mem_cons.mp h with h | h
              · have h1 : e.2 = p := by rw [h]; exact hp
                have h2 : e.1 = ((ge_ G y).getD i (0, 0)).1 := by rw [h]
                rw [h1, hgw, hgl, hgl, hep, h2, ← g4, hhp]
                exact ⟨by omega, by omega, fun _ => hp2, rfl⟩
              · rcases List.mem_cons.mp h with h | h
                · subst h
                  show 1 ≤ gw_ G' q ∧ gl_ G' q + 1 = gl_ G' y ∧ (q ∉ [y] → w / 2 ≤ (ge_ G' q).length) ∧ (ge_ G' q).head?.map Prod.fst = some kq
                  rw [hgw, hgl, hgl, heq]
                  exact ⟨by omega, by omega, fun _ => hq2, hkq⟩
                · exact hold e (List.mem_of_mem_drop h) (hB e h)
        · have hv := hI.2.2.2 y hy hyl
          have hall : ∀ e ∈ ge_ G y, gl_ G y ≠ 0 → (e.2 ≠ p ∧ e.2 ≠ q) ∧ e.2 ≠ b := fun e he h0 => by
            obtain ⟨t1, t2, -, -⟩ := hI.child hy hyl h0 he
            refine ⟨?_, fun z => by rw [z] at t2; omega⟩
            by_cases hyn : gl_ G y = n + 1
            · exact hoth y hy hyn hyb e he
            · exact ⟨fun z => by rw [z] at t2; omega, fun z => by rw [z] at t2; omega⟩
          refine ⟨fun _ => ?_, ?_, fun h0 e he => ?_⟩
          · rw [hey y hyb hyp hyq]; exact hv.1 (by simp [hyb, hyp, hyq])
          · rw [hgl]
            by_cases hyn : gl_ G y = n + 1
            · rw [hyn, hety y hy hyn hyb]
              have := hv.2.1
              rw [hyn] at this
              exact this
            · rw [hlow y hy (by omega) hyp hyq]; exact hv.2.1
          · rw [hgl] at h0
            rw [hey y hyb hyp hyq] at he
            obtain ⟨t1, t2, t3, t4⟩ := hv.2.2 h0 e he
            obtain ⟨⟨n1, n2⟩, n3⟩ := hall e he h0
            rw [hgw, hgl, hgl, hey _ n3 n1 n2]
            exact ⟨t1, t2, fun _ => t3 (by simp [n1, n2, n3]), t4⟩
  · rw [hgf]
    have hkp : ∀ y, 1 ≤ gw_ G y → gl_ G y ≤ n + 1 → y ≠ b → y ≠ p → y ≠ q → sl_ G' y = sl_ G y := fun y y1 y2 y3 y4 y5 => by
      show (gw_ G' y - 1) * max ((et_ (ge_ G') (gl_ G' y) y).length - 1) 1 + ((ge_ G' y).length - 2) = (gw_ G y - 1) * max ((et_ (ge_ G) (gl_ G y) y).length - 1) 1 + ((ge_ G y).length - 2)
      rw [hgw, hgl, hey y y3 y4 y5]
      by_cases hyn : gl_ G y = n + 1
      · rw [hyn, hety y y1 hyn y3]
      · rw [hlow y y1 (by omega) y4 y5]
    have h2 := sm_up3 (n := 1201) (i := b) (j := p) (k := q) (f := fun y => if gw_ G y = 0 ∨ n + 1 < gl_ G y then 0 else sl_ G y) (g := fun y => if gw_ G' y = 0 ∨ n + 1 < gl_ G' y then 0 else sl_ G' y) (by omega) (by omega) (by omega) (Ne.symm hpb) (Ne.symm hqb) hpq (fun r _ r1 r2 r3 => by
      rw [hgw, hgl]
      by_cases hu : gw_ G r = 0 ∨ n + 1 < gl_ G r
      · simp only [hu, if_true]
      · simp only [hu, if_false]; exact hkp r (by omega) (by omega) r1 r2 r3)
    have e1 : SL_ (n + 1) G = sm_ 1201 (fun y => if gw_ G y = 0 ∨ n + 1 < gl_ G y then 0 else sl_ G y) := rfl
    have e2 : SL_ (n + 1) G' = sm_ 1201 (fun y => if gw_ G' y = 0 ∨ n + 1 < gl_ G' y then 0 else sl_ G' y) := rfl
    have s1 : (if gw_ G b = 0 ∨ n + 1 < gl_ G b then 0 else sl_ G b) = (ge_ G b).length - 2 := by
      rw [if_neg (by omega)]; simp [sl_, hb1]
    have s2 : (if gw_ G' b = 0 ∨ n + 1 < gl_ G' b then 0 else sl_ G' b) = (ge_ G b).length - 2 := by
      rw [hgw, hgl, if_neg (by omega)]
      simp only [sl_]
      rw [hgw, hb1, heb, List.length_set]; simp
    have s3 : (if gw_ G p = 0 ∨ n + 1 < gl_ G p then 0 else sl_ G p) = (ge_ G p).length - 2 := by
      rw [if_neg (by omega)]; simp [sl_, hp1]
    have s4 : (if gw_ G' p = 0 ∨ n + 1 < gl_ G' p then 0 else sl_ G' p) = Lp.length - 2 := by
      rw [hgw, hgl, if_neg (by omega)]
      simp only [sl_]
      rw [hgw, hp1, hep]; simp
    have s5 : (if gw_ G q = 0 ∨ n + 1 < gl_ G q then 0 else sl_ G q) = (ge_ G q).length - 2 := by
      rw [if_neg (by omega)]; simp [sl_, hq1]
    have s6 : (if gw_ G' q = 0 ∨ n + 1 < gl_ G' q then 0 else sl_ G' q) = Lq.length - 2 := by
      rw [hgw, hgl, if_neg (by omega)]
      simp only [sl_]
      rw [hgw, hq1, heq]; simp
    rw [s1, s2, s3, s4, s5, s6, ← e1, ← e2] at h2
    omega
end FL
