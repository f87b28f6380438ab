-- PURE: Trees.shrunk, Trees.without
section WO
variable {w a : Nat} {Rm : Nat → Nat} {G : Sg_} {st : St_}
/-- the root goes; what it led to, if anything, is the root now -/
theorem gv_root {t o : Nat} (hI : Ic_ w [t] 16 (rt_ Rm t) [] G) (htw : gw_ G t = 1) (ho : (gl_ G t = 0 ∧ o = 0) ∨ (gl_ G t ≠ 0 ∧ ∃ k, ge_ G t = [(k, o)])) :
    Ic_ w [] 16 (rt_ Rm o) [] (gv_ G t) ∧ (∀ y, 1 ≤ gw_ G y → y ≠ t → ge_ (gv_ G t) y = ge_ G y ∧ gl_ (gv_ G t) y = gl_ G y ∧ 1 ≤ gw_ (gv_ G t) y ∧ et_ (ge_ (gv_ G t)) (gl_ G y) y = et_ (ge_ G) (gl_ G y) y) := by
  obtain ⟨t1, t2, t3⟩ := hI.1 t (by omega)
  have hc := hI.2.2.1 t t1
  have hrt : rt_ Rm t t = Rm t + 1 := by simp [rt_]
  have hot : o ≠ t := fun e => by
    rcases ho with ⟨h1, h2⟩ | ⟨h1, k, h2⟩
    · omega
    · have := hI.child (b := t) (by omega) t3 h1 (e := (k, o)) (by rw [h2]; simp)
      have h3 := this.2.1
      simp only at h3
      rw [e] at h3; omega
  have hno : ∀ y, 1 ≤ gw_ G y → gl_ G y ≠ 0 → ∀ e ∈ ge_ G y, e.2 ≠ t := fun y y1 y2 e he q => by
    have h2 := cn_mem he q
    have h3 := sm_one (n := 1201) (k := y) (fun p => if gw_ G p = 0 ∨ gl_ G p = 0 then 0 else cn_ t (ge_ G p)) (by have := (hI.1 y y1).2.1; omega)
    simp only [show ¬ (gw_ G y = 0 ∨ gl_ G y = 0) by omega, if_false] at h3
    have h4 : eg_ G t = sm_ 1201 (fun p => if gw_ G p = 0 ∨ gl_ G p = 0 then 0 else cn_ t (ge_ G p)) := rfl
    omega
  generalize hG' : gv_ G t = G'
  have hgw : ∀ y, gw_ G' y = if y = t then 0 else gw_ G y := fun y => by rw [← hG']; rfl
  have hgl : ∀ y, gl_ G' y = if y = t then 0 else gl_ G y := fun y => by rw [← hG']; rfl
  have hey : ∀ y, y ≠ t → ge_ G' y = ge_ G y := fun y y1 => by rw [← hG']; simp [ge_, gv_, va_up, y1]
  have hgf : gf_ G' = gf_ G ++ [t] := by rw [← hG']
  have het : ∀ y, 1 ≤ gw_ G y → y ≠ t → et_ (ge_ G') (gl_ G y) y = et_ (ge_ G) (gl_ G y) y := fun y y1 y2 => by
    refine et_same (fun m y => 1 ≤ gw_ G y ∧ gl_ G y = m ∧ y ≠ t) (fun m y h => hey y h.2.2) (fun m y h e he => ?_) _ y ⟨y1, rfl, y2⟩
    obtain ⟨q1, q2, -, -⟩ := hI.child h.1 ((hI.1 y h.1).2.2) (by omega) he
    exact ⟨q1, by omega, hno y h.1 (by omega) e he⟩
  have htf : t ∉ gf_ G := fun h => by have := (hI.2.1.2.1 t h).2.2; omega
  refine ⟨⟨fun y hy => ?_, ⟨?_, fun y hy => ?_, fun y y1 y2 y3 => ?_⟩, fun y hy => ?_, fun y hy hyl => ?_⟩, fun y hy hyt => ⟨hey y hyt, by rw [hgl, if_neg hyt], by rw [hgw, if_neg hyt]; exact hy, het y hy hyt⟩⟩
  · rw [hgw] at hy
    by_cases hyt : y = t
    · rw [if_pos hyt] at hy; omega
    · rw [if_neg hyt] at hy
      rw [hgl, if_neg hyt]; exact hI.1 y hy
  · rw [hgf, List.nodup_append]
    refine ⟨hI.2.1.1, by simp, fun x hx y hy e => ?_⟩
    rw [List.mem_singleton] at hy
    rw [e, hy] at hx
    exact htf hx
  · rw [hgf] at hy
    rw [hgw]
    rcases List.mem_append.mp hy with h | h
    · obtain ⟨q1, q2, q3⟩ := hI.2.1.2.1 y h
      refine ⟨q1, q2, ?_⟩
      split
      · rfl
      · exact q3
    · rw [List.mem_singleton] at h
      rw [if_pos h, h]; exact ⟨t1, t2, rfl⟩
  · rw [hgw] at y3
    rw [hgf]
    by_cases hyt : y = t
    · exact Or.inl (List.mem_append_right _ (by rw [hyt]; exact List.mem_singleton.mpr rfl))
    · rw [if_neg hyt] at y3
      rcases hI.2.1.2.2 y y1 y2 y3 with h | h
      · exact Or.inl (List.mem_append_left _ h)
      · exact Or.inr h
  · have h1 := hI.2.2.1 y hy
    have h2 := sm_up (n := 1201) (k := t) (f := fun p => if gw_ G p = 0 ∨ gl_ G p = 0 then 0 else cn_ y (ge_ G p)) (g := fun p => if gw_ G' p = 0 ∨ gl_ G' p = 0 then 0 else cn_ y (ge_ G' p)) (by omega) (fun p _ hp => by
      rw [hgw, hgl, if_neg hp, if_neg hp, hey p hp])
    have e1 : eg_ G y = sm_ 1201 (fun p => if gw_ G p = 0 ∨ gl_ G p = 0 then 0 else cn_ y (ge_ G p)) := rfl
    have e2 : eg_ G' y = sm_ 1201 (fun p => if gw_ G' p = 0 ∨ gl_ G' p = 0 then 0 else cn_ y (ge_ G' p)) := rfl
    have v1 : (if gw_ G t = 0 ∨ gl_ G t = 0 then 0 else cn_ y (ge_ G t)) = (if y = o then 1 else 0) := by
      rcases ho with ⟨g1, g2⟩ | ⟨g1, k, g2⟩
      · rw [if_pos (Or.inr g1), g2, if_neg (by omega)]
      · rw [if_neg (by omega), g2]
        simp only [cn_]
        rw [show (if o = y then 1 else 0) = (if y = o then 1 else 0) by simp only [eq_comm]]
        omega
    have v2 : (if gw_ G' t = 0 ∨ gl_ G' t = 0 then 0 else cn_ y (ge_ G' t)) = 0 := by
      rw [hgw, if_pos rfl]; simp
    rw [v1, v2, ← e1, ← e2] at h2
    simp only [rt_] at h1 ⊢
    rw [hgw]
    by_cases hyt : y = t
    · rw [if_pos hyt]
      rw [hyt] at h2 ⊢
      rw [if_neg (Ne.symm hot)] at h2 ⊢
      omega
    · rw [if_neg hyt]
      rw [if_neg hyt] at h1
      omega
  · rw [hgw] at hy
    have hyt : y ≠ t := fun q => by rw [if_pos q] at hy; omega
    rw [if_neg hyt] at hy
    have hv := hI.2.2.2 y hy ((hI.1 y hy).2.2)
    have hly : gl_ G' y = gl_ G y := by rw [hgl, if_neg hyt]
    refine ⟨fun _ => by rw [hey y hyt]; exact hv.1 (by simpa using hyt), by rw [hly, het y hy hyt]; exact hv.2.1, fun h0 e he => ?_⟩
    rw [hly] at h0
    rw [hey y hyt] at he
    obtain ⟨q1, q2, q3, q4⟩ := hv.2.2 h0 e he
    have hne := hno y hy h0 e he
    rw [hgw, hly, hgl, if_neg hne, if_neg hne, hey _ hne]
    exact ⟨q1, q2, fun _ => q3 (by simpa using hne), q4⟩
theorem p_without {root x T : Nat} {post : Int32 → St_ → Prop} (hw : 5 ≤ w ∧ w ≤ 32) (hR : Rp_ w st G) (hI : Ic_ w [] 16 (rt_ Rm root) [] G) (hr : ∀ y, Rm y ≤ 900) (hrt : ∀ b, 1 ≤ b → 1 ≤ rt_ Rm root b → gl_ G b = 0 ∨ 2 ≤ (ge_ G b).length)
    (hT : sm_ 1201 (fun y => if y = 0 then 0 else rt_ Rm root y * kp_ G y) ≤ T) (haT : T ≤ 1200) (hx : x < 4096) (hroot : 1 ≤ root) (hex : ∃ t, (x, t) ∈ tr_ G root)
    (k : ∀ st' G' r, Rp_ w st' G' → Fr_ st st' → Ic_ w [] 16 (rt_ Rm r) [] G' → r ≤ 1200 → tr_ G' r = dz_ x (tr_ G root) → (1 ≤ r → gl_ G' r = 0 ∨ 2 ≤ (ge_ G' r).length) → (∀ y, 1 ≤ y → 1 ≤ Rm y → ge_ G' y = ge_ G y ∧ gl_ G' y = gl_ G y ∧ et_ (ge_ G') (gl_ G y) y = et_ (ge_ G) (gl_ G y) y) → post (nI r) st') : wp_T_without w (nI root) (nI x) st post := by
  unfold wp_T_without
  have hused : ∀ y, 1 ≤ y → 1 ≤ Rm y → 1 ≤ gw_ G y := fun y y1 y2 => by
    have := hI.2.2.1 y y1
    have h2 : Rm y ≤ rt_ Rm root y := by simp only [rt_]; omega
    omega
  have hc := hI.2.2.1 root hroot
  have hrr : rt_ Rm root root = Rm root + 1 := by simp [rt_]
  have hu : 1 ≤ gw_ G root := by omega
  obtain ⟨b1, b2, b3⟩ := hI.1 root hu
  have hroot2 := hrt root hroot (by omega)
  have hcap := cap_ (a := 0) hw.1 hI hrt hT (by omega)
  refine p_ownroot hw hR hcap hr hroot hroot2 (fun s1 G1 t hR1 hF1 hI1 htw htl hte htt hfr => ?_)
  obtain ⟨t1, t2, t3⟩ := hI1.1.1 t (by omega)
  have hct := hI1.1.2.2.1 t t1
  have hRt : rt_ Rm t t = 1 := by
    have : rt_ Rm t t = Rm t + 1 := by simp [rt_]
    omega
  have hRm : Rm t = 0 := by
    have : rt_ Rm t t = Rm t + 1 := by simp [rt_]
    omega
  refine p_level hR1 ⟨t1, t2⟩ ?_
  have hvt := (hI1.1.2.2.2 t (by omega) t3).1 (by simp)
  rw [tr_1 hroot] at hex
  generalize hn : gl_ G root = n at *
  have hn16 : n ≤ 16 := by omega
  rw [htl]
  refine p_removeBelow hw hx (R := rt_ Rm t) (fun y => by have := hr y; simp only [rt_]; split <;> omega) n 20 t _ G1 s1 _ (by omega) hR1 ((hI1.down hn16).mono (Y := [t]) (fun y h => by simp at h)) htw htl (fun h0 => by rw [hte]; rcases hroot2 with h | h <;> omega) (by rw [htt]; exact hex) (fun s2 G2 a2 hR2 hF2 hI2 ha2 hC2 het2 hlo2 hl12 hhi2 => ?_)
  rw [htt] at het2
  have hI2' := up_Ic (X := []) (fun z hz => by simp at hz) hI1.1 htw hRt hC2 hI2.1
  have hframe : ∀ y, 1 ≤ y → 1 ≤ Rm y → y ≠ t ∧ 1 ≤ gw_ G2 y ∧ ge_ G2 y = ge_ G y ∧ gl_ G2 y = gl_ G y ∧ et_ (ge_ G2) (gl_ G y) y = et_ (ge_ G) (gl_ G y) y := fun y y1 y2 => by
    have hyt : y ≠ t := fun q => by rw [q] at y2; omega
    obtain ⟨x1, x2, x3, x4⟩ := hfr y (hused y y1 y2) hyt
    have hRy' : 1 ≤ rt_ Rm t y := by simp only [rt_]; omega
    obtain ⟨z1, z2, z3, -⟩ := hC2.2.2.1 y x3 hyt (Or.inr hRy')
    have := up_et hI1.1 htw hRt hC2 (gl_ G y) y x3 hyt x2 (Or.inr hRy')
    exact ⟨hyt, z3, z1.trans x1, z2.trans x2, by rw [this, x4]⟩
  have htn2 : gl_ G2 t = n := hC2.2.1
  have hlw := (hR2.1 t t1 t2).2.2.2.1
  have htr : tr_ G2 t = dz_ x (tr_ G root) := by
    rw [tr_1 t1, htn2, tr_1 hroot, hn]; exact het2
  unfold wp_T_shrunk
  refine p_size hR2 ⟨t1, t2⟩ ?_
  have hgl : (gf_ G2).length < 1200 := gf_lt hI2' (b := t) (by have := hC2.1; omega)
  by_cases h0 : (ge_ G2 t).length = 0
  · have hn0 : n = 0 := by
      rcases Nat.eq_zero_or_pos n with h | h
      · exact h
      · have := hl12 (by omega); omega
    refine rb_f (by rw [h0]; rfl) ?_
    refine p_give hR2 hgl ⟨t1, t2⟩ (fun s3 hR3 hF3 => ?_)
    obtain ⟨m1, m2⟩ := gv_root (o := 0) hI2' hC2.1 (Or.inl ⟨by omega, rfl⟩)
    refine k s3 _ 0 hR3 ((hF1.tr hF2).tr hF3) m1 (by omega) ?_ (fun h => by omega) (fun y y1 y2 => ?_)
    · rw [← htr]
      show [] = tr_ G2 t
      rw [tr_1 t1, htn2, hn0]
      exact (List.eq_nil_of_length_eq_zero h0).symm
    · obtain ⟨x1, x2, x3, x4, x5⟩ := hframe y y1 y2
      obtain ⟨z1, z2, z3, z4⟩ := m2 y x2 x1
      refine ⟨z1.trans x3, z2.trans x4, ?_⟩
      rw [x4] at z4
      rw [z4, x5]
  · refine rb_t (nI_ne0 (by omega) (by omega)) ?_
    have hstay : (gl_ G2 t = 0 ∨ 2 ≤ (ge_ G2 t).length) → post (nI t) s2 := fun h => by
      refine k s2 G2 t hR2 (hF1.tr hF2) (hI2'.nox hC2.1 (by omega) (by omega)) t2 htr (fun _ => h) (fun y y1 y2 => (hframe y y1 y2).2.2)
    refine p_level hR2 ⟨t1, t2⟩ ?_
    rw [htn2]
    refine pk_le n 0 (fun h1 => hstay (Or.inl (by omega))) (fun h1 => ?_) rfl rfl (by omega) (by omega)
    refine p_size hR2 ⟨t1, t2⟩ ?_
    by_cases h2 : (ge_ G2 t).length = 1
    · refine rb_f (by rw [h2]; rfl) ?_
      refine p_goal (i := 0) hw hR2 ⟨t1, t2⟩ (by omega) ?_
      refine p_give hR2 hgl ⟨t1, t2⟩ (fun s3 hR3 hF3 => ?_)
      have hone : ge_ G2 t = [(((ge_ G2 t).getD 0 (0, 0)).1, ((ge_ G2 t).getD 0 (0, 0)).2)] := by
        cases hL : ge_ G2 t with
        | nil => rw [hL] at h2; simp at h2
        | cons e L =>
          cases L with
          | nil => rfl
          | cons e2 L2 => rw [hL] at h2; simp at h2
      generalize ho : ((ge_ G2 t).getD 0 (0, 0)).2 = o at *
      obtain ⟨m1, m2⟩ := gv_root (o := o) hI2' hC2.1 (Or.inr ⟨by omega, _, hone⟩)
      have hok := hI2'.child (b := t) (by have := hC2.1; omega) (by omega) (by omega) (e := (((ge_ G2 t).getD 0 (0, 0)).1, o)) (by rw [hone]; simp)
      obtain ⟨o1, o2, o3, o4⟩ := hok
      have hou := hI2'.1 o o1
      have hot : o ≠ t := fun e => by simp only at o2; rw [e] at o2; omega
      obtain ⟨z1, z2, z3, z4⟩ := m2 o o1 hot
      refine k s3 _ o hR3 ((hF1.tr hF2).tr hF3) m1 hou.2.1 ?_ (fun _ => Or.inr ?_) (fun y y1 y2 => ?_)
      · rw [← htr, tr_1 hou.1, tr_1 t1, htn2, z2, z4]
        obtain ⟨m, hm⟩ : ∃ m, n = m + 1 := ⟨n - 1, by omega⟩
        rw [hm, et_succ, hone, fm_cons, fm_nil, List.append_nil]
        simp only at o2
        rw [show gl_ G2 o = m by omega]
      · rw [z1]
        have := o3 (by simpa using hot)
        simp only at this
        omega
      · obtain ⟨x1, x2, x3, x4, x5⟩ := hframe y y1 y2
        obtain ⟨y1', y2', y3', y4'⟩ := m2 y x2 x1
        refine ⟨y1'.trans x3, y2'.trans x4, ?_⟩
        rw [x4] at y4'
        rw [y4', x5]
    · exact rb_t (fun e => h2 ((nI_eq (b := 1) (by omega) (by omega)).mp e)) (hstay (Or.inr (by omega)))
end WO
