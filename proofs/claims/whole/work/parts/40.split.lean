-- PURE: Trees.split
theorem sm_up3 {n i j k : Nat} {f g : Nat → Nat} (hi : i < n) (hj : j < n) (hk : k < n) (hij : i ≠ j) (hik : i ≠ k) (hjk : j ≠ k) (h : ∀ q, q < n → q ≠ i → q ≠ j → q ≠ k → g q = f q) : sm_ n g + f i + f j + f k = sm_ n f + g i + g j + g k := by
  have h1 := sm_up2 (f := f) (g := va_up g k (f k)) hi hj hij (fun q hq q1 q2 => by
    by_cases e : q = k
    · subst e; simp [va_up]
    · simp only [va_up, e, if_false]; exact h q hq q1 q2 e)
  have h2 := sm_up (f := va_up g k (f k)) (g := g) hk (fun q _ hqk => by simp [va_up, hqk])
  rw [show va_up g k (f k) i = g i by simp [va_up, hik], show va_up g k (f k) j = g j by simp [va_up, hjk]] at h1
  rw [show va_up g k (f k) k = f k by simp [va_up]] at h2
  omega
section SP
variable {w a n : Nat} {R : Nat → Nat} {G : Sg_} {st : St_}
abbrev sp_ (w : Nat) (G : Sg_) (b c r n : Nat) (f : List Nat) (L : List (Nat × Nat)) : Sg_ :=
  (va_up G.1 r 1, va_up G.2.1 r n, va_up (va_up (va_up G.2.2.1 r ((G.2.2.1 c).drop (w / 2))) c ((G.2.2.1 c).take (w / 2))) b L, f)
theorem split_pure {b i c r kr : Nat} {f : List Nat} (hw : 5 ≤ w) (hI : In_ w [b, c] (n + 1) R a G) (hb1 : gw_ G b = 1) (hbn : gl_ G b = n + 1) (hi : i < (ge_ G b).length) (hc : ((ge_ G b).getD i (0, 0)).2 = c) (hc1 : gw_ G c = 1) (hcl : (ge_ G c).length = w) (hf : gf_ G = f ++ [r])
    (hkr : ((ge_ G c).drop (w / 2)).head?.map Prod.fst = some kr) :
    In_ w [b] (n + 1) R a (sp_ w G b c r n f (il_ (ge_ G b) (i + 1) (kr, r))) ∧ Cp_ (n + 1) R G (sp_ w G b c r n f (il_ (ge_ G b) (i + 1) (kr, r))) b ∧
    et_ (ge_ (sp_ w G b c r n f (il_ (ge_ G b) (i + 1) (kr, r)))) (n + 1) b = et_ (ge_ G) (n + 1) b := by
  obtain ⟨hI, hs⟩ := hI
  obtain ⟨r1, r2, r3, r4, r5⟩ := fr_last hI hf
  have hcm : ((ge_ G b).getD i (0, 0)) ∈ ge_ G b := gd_mem hi
  have hch := hI.child (by omega) (by omega) (by omega) hcm
  rw [hc] at hch
  obtain ⟨g1, g2, g3, g4⟩ := hch
  have hcn : gl_ G c = n := by omega
  have hcb : c ≠ b := fun e => by rw [e] at g2; omega
  have hrb : r ≠ b := fun e => by rw [e] at r3; omega
  have hrc : r ≠ c := fun e => by rw [e] at r3; omega
  obtain ⟨u1, u2, u3⟩ := uniq_ hI (p := b) (c := c) (by omega) (by omega) hc1 (cn_mem hcm hc)
  obtain ⟨b1, b2, b3⟩ := hI.1 b (by omega)
  obtain ⟨c1, c2, c3⟩ := hI.1 c (by omega)
  generalize hG' : sp_ w G b c r n f (il_ (ge_ G b) (i + 1) (kr, r)) = G'
  have hgw : ∀ y, gw_ G' y = if y = r then 1 else gw_ G y := fun y => by rw [← hG']; rfl
  have hgl : ∀ y, gl_ G' y = if y = r then n else gl_ G y := fun y => by rw [← hG']; rfl
  have heb : ge_ G' b = il_ (ge_ G b) (i + 1) (kr, r) := by rw [← hG']; simp [ge_, sp_, va_up]
  have hec : ge_ G' c = (ge_ G c).take (w / 2) := by rw [← hG']; simp [ge_, sp_, va_up, hcb]
  have her : ge_ G' r = (ge_ G c).drop (w / 2) := by rw [← hG']; simp [ge_, sp_, va_up, hrb, hrc]
  have hey : ∀ y, y ≠ b → y ≠ c → y ≠ r → ge_ G' y = ge_ G y := fun y y1 y2 y3 => by rw [← hG']; simp [ge_, sp_, va_up, y1, y2, y3]
  have hgf : gf_ G' = f := by rw [← hG']
  have hsp := cn_split c hi hc
  have hA : ∀ e ∈ (ge_ G b).take i, e.2 ≠ c := fun e he q => by have := cn_mem he q; omega
  have hB : ∀ e ∈ (ge_ G b).drop (i + 1), e.2 ≠ c := fun e he q => by have := cn_mem he q; omega
  have hoth : ∀ y, 1 ≤ gw_ G y → gl_ G y = n + 1 → y ≠ b → ∀ e ∈ ge_ G y, e.2 ≠ c := fun y y1 y2 y3 e he q => by
    have h1 := u3 y y1 (by omega) y3
    have h2 := cn_mem he q
    omega
  have hur : ∀ y, 1 ≤ gw_ G y → y ≠ r := fun y hy e => by rw [e] at hy; omega
  -- low levels
  have hlow : ∀ y, 1 ≤ gw_ G y → gl_ G y ≤ n → y ≠ c → et_ (ge_ G') (gl_ G y) y = et_ (ge_ G) (gl_ G y) y := fun y y1 y2 y3 => by
    refine et_same (fun m y => 1 ≤ gw_ G y ∧ gl_ G y = m ∧ m ≤ n ∧ y ≠ c) (fun m y h => hey y (fun q => by rw [q] at h; omega) h.2.2.2 (hur y h.1)) (fun m y h e he => ?_) _ y ⟨y1, rfl, y2, y3⟩
    obtain ⟨q1, q2, -, -⟩ := hI.child h.1 (by omega) (by omega) he
    exact ⟨q1, by omega, by omega, fun q => by rw [q] at q2; omega⟩
  have hkid : ∀ y, 1 ≤ gw_ G y → gl_ G y = n + 1 → ∀ e ∈ ge_ G y, e.2 ≠ c → et_ (ge_ G') n e.2 = et_ (ge_ G) n e.2 := fun y y1 y2 e he hne => by
    obtain ⟨q1, q2, -, -⟩ := hI.child y1 (by omega) (by omega) he
    have := hlow e.2 q1 (by omega) hne
    rw [show gl_ G e.2 = n by omega] at this
    exact this
  have hpart : ∀ L : List (Nat × Nat), (∀ e ∈ L, e ∈ ge_ G c) → n ≠ 0 → fm_ (ge_ G') (n - 1) L = fm_ (ge_ G) (n - 1) L := fun L hL h0 => by
    refine fm_congr (fun e he => ?_)
    obtain ⟨q1, q2, -, -⟩ := hI.child (b := c) (by omega) (by omega) (by omega) (hL e he)
    have := hlow e.2 q1 (by omega) (fun q => by rw [q] at q2; omega)
    rw [show gl_ G e.2 = n - 1 by omega] at this
    exact this
  have hcr : et_ (ge_ G') n c ++ et_ (ge_ G') n r = et_ (ge_ G) n c := by
    cases hn : n with
    | zero =>
      show ge_ G' c ++ ge_ G' r = ge_ G c
      rw [hec, her, List.take_append_drop]
    | succ m =>
      have h0 : n ≠ 0 := by omega
      have h1 := hpart ((ge_ G c).take (w / 2)) (fun e he => List.mem_of_mem_take he) h0
      have h2 := hpart ((ge_ G c).drop (w / 2)) (fun e he => List.mem_of_mem_drop he) h0
      rw [show n - 1 = m by omega] at h1 h2
      rw [et_succ, et_succ, et_succ, hec, her, h1, h2, ← fm_app, List.take_append_drop]
  have hety : ∀ y, 1 ≤ gw_ G y → gl_ G y = n + 1 → y ≠ b → et_ (ge_ G') (n + 1) y = et_ (ge_ G) (n + 1) y := fun y y1 y2 y3 => by
    rw [et_succ, et_succ, hey y y3 (fun q => by rw [q] at y2; omega) (hur y y1)]
    exact fm_congr (fun e he => hkid y y1 y2 e he (hoth y y1 y2 y3 e he))
  have hil : il_ (ge_ G b) (i + 1) (kr, r) = (ge_ G b).take i ++ (ge_ G b).getD i (0, 0) :: (kr, r) :: (ge_ G b).drop (i + 1) := by
    show (ge_ G b).take (i + 1) ++ _ = _
    rw [tk_1 hi, List.append_assoc]; rfl
  have hetb : et_ (ge_ G') (n + 1) b = et_ (ge_ G) (n + 1) b := by
    rw [et_succ, et_succ, heb, hil, fm_app, fm_cons, fm_cons, hc]
    conv => rhs; rw [spl_ hi, fm_app, fm_cons, hc, ← hcr]
    rw [fm_congr (fun e he => hkid b (by omega) hbn e (List.mem_of_mem_take he) (hA e he)), fm_congr (fun e he => hkid b (by omega) hbn e (List.mem_of_mem_drop he) (hB e he)), List.append_assoc]
  have hCp : Cp_ (n + 1) R G G' b := by
    refine ⟨by rw [hgw, if_neg (Ne.symm hrb)]; exact hb1, by rw [hgl, if_neg (Ne.symm hrb)]; exact hbn, fun y y1 y2 y3 => ?_, fun y y1 y2 y3 => by rw [hgw, if_neg (hur y y3)], fun y y1 y2 => ?_⟩
    · have hyc : y ≠ c := fun q => by
        rw [q] at y3
        rcases y3 with h | h <;> omega
      refine ⟨hey y y2 hyc (hur y y1), by rw [hgl, if_neg (hur y y1)], by rw [hgw, if_neg (hur y y1)]; exact y1, fun hy => ?_⟩
      by_cases hyn : gl_ G y = n + 1
      · rw [hyn]; exact hety y y1 hyn y2
      · exact hlow y y1 (by omega) hyc
    · rw [hgl] at y2 ⊢
      rw [hgw] at y1
      by_cases hyr : y = r
      · rw [if_pos hyr] at y2; omega
      · rw [if_neg hyr] at y1 y2 ⊢
        exact ⟨y1, rfl⟩
  have hvc := hI.2.2.2 c (by omega) (by omega)
  have hso : so_ (et_ (ge_ G') n c) ∧ so_ (et_ (ge_ G') n r) := by
    have := hvc.2.1
    rw [hcn, ← hcr] at this
    exact ⟨(so_app.mp this).1, (so_app.mp this).2.1⟩
  have hckid : ∀ e ∈ ge_ G c, n ≠ 0 → 1 ≤ gw_ G' e.2 ∧ gl_ G' e.2 + 1 = n ∧ (e.2 ∉ [b] → w / 2 ≤ (ge_ G' e.2).length) ∧ (ge_ G' e.2).head?.map Prod.fst = some e.1 := fun e he h0 => by
    obtain ⟨q1, q2, q3, q4⟩ := hI.child (b := c) (by omega) (by omega) (by omega) he
    have hn1 : e.2 ≠ b := fun q => by rw [q] at q2; omega
    have hn2 : e.2 ≠ c := fun q => by rw [q] at q2; omega
    rw [hgw, hgl, if_neg (hur _ q1), if_neg (hur _ q1), hey _ hn1 hn2 (hur _ q1)]
    exact ⟨q1, by omega, fun _ => q3 (by simp [hn1, hn2]), q4⟩
  refine ⟨⟨⟨fun y hy => ?_, ⟨by rw [hgf]; exact r5, fun y hy => ?_, fun y y1 y2 y3 => ?_⟩, fun y hy => ?_, fun y hy hyl => ?_⟩, ?_⟩, hCp, hetb⟩
  · rw [hgl]
    rw [hgw] at hy
    by_cases hyr : y = r
    · rw [if_pos hyr, hyr]; exact ⟨r1, r2, by omega⟩
    · rw [if_neg hyr] at hy ⊢; exact hI.1 y hy
  · rw [hgf] at hy
    obtain ⟨q1, q2, q3⟩ := hI.2.1.2.1 y (by rw [hf]; exact List.mem_append_left _ hy)
    refine ⟨q1, q2, ?_⟩
    rw [hgw, if_neg (show y ≠ r from fun q => r4 (q ▸ hy))]; exact q3
  · rw [hgw] at y3
    by_cases hyr : y = r
    · rw [if_pos hyr] at y3; omega
    · rw [if_neg hyr] at y3
      rcases hI.2.1.2.2 y y1 y2 y3 with h | h
      · rw [hf] at h
        rcases List.mem_append.mp h with h | h
        · rw [hgf]; exact Or.inl h
        · exact absurd (by simpa using h) hyr
      · exact Or.inr h
  · -- counts
    have h1 := hI.2.2.1 y hy
    have h2 := sm_up3 (n := 1201) (i := b) (j := c) (k := r) (f := fun p => if gw_ G p = 0 ∨ gl_ G p = 0 then 0 else cn_ y (ge_ G p)) (g := fun p => if gw_ G' p = 0 ∨ gl_ G' p = 0 then 0 else cn_ y (ge_ G' p)) (by omega) (by omega) (by omega) (Ne.symm hcb) (Ne.symm hrb) (Ne.symm hrc) (fun q _ q1 q2 q3 => by
      rw [hgw, hgl, if_neg q3, if_neg q3, hey q q1 q2 q3])
    have e1 : eg_ G y = sm_ 1201 (fun p => if gw_ G p = 0 ∨ gl_ G p = 0 then 0 else cn_ y (ge_ G p)) := rfl
    have e2 : eg_ G' y = sm_ 1201 (fun p => if gw_ G' p = 0 ∨ gl_ G' p = 0 then 0 else cn_ y (ge_ G' p)) := rfl
    have v1 : (if gw_ G b = 0 ∨ gl_ G b = 0 then 0 else cn_ y (ge_ G b)) = cn_ y (ge_ G b) := if_neg (by omega)
    have v2 : (if gw_ G' b = 0 ∨ gl_ G' b = 0 then 0 else cn_ y (ge_ G' b)) = cn_ y (ge_ G b) + (if y = r then 1 else 0) := by
      rw [hgw, hgl, if_neg (Ne.symm hrb), if_neg (Ne.symm hrb), if_neg (by omega), heb, hil]
      conv => rhs; rw [spl_ hi]
      rw [cn_app, cn_app]
      simp only [cn_]
      rw [show (if r = y then 1 else 0) = (if y = r then 1 else 0) by simp only [eq_comm]]
      omega
    have v3 : (if gw_ G r = 0 ∨ gl_ G r = 0 then 0 else cn_ y (ge_ G r)) = 0 := if_pos (Or.inl r3)
    have v4 : (if gw_ G' c = 0 ∨ gl_ G' c = 0 then 0 else cn_ y (ge_ G' c)) + (if gw_ G' r = 0 ∨ gl_ G' r = 0 then 0 else cn_ y (ge_ G' r)) = (if gw_ G c = 0 ∨ gl_ G c = 0 then 0 else cn_ y (ge_ G c)) := by
      rw [hgw, hgl, hgw, hgl, if_neg (Ne.symm hrc), if_neg (Ne.symm hrc), if_pos rfl, if_pos rfl, hcn, hec, her]
      by_cases h0 : n = 0
      · simp [h0]
      · rw [if_neg (by omega), if_neg (by omega), if_neg (by omega), ← cn_app, List.take_append_drop]
    rw [v1, v2, v3, ← e1, ← e2] at h2
    rw [hgw]
    by_cases hyr : y = r
    · rw [if_pos hyr] at h2 ⊢
      rw [hyr] at h1 h2 v4 ⊢
      omega
    · rw [if_neg hyr] at h2 ⊢
      omega
  · -- validity
    rw [hgl] at hyl
    rw [hgw] at hy
    by_cases hyr : y = r
    · subst hyr
      refine ⟨fun _ => ?_, ?_, fun h0 e he => ?_⟩
      · rw [her]; simp; omega
      · rw [hgl, if_pos rfl]; exact hso.2
      · have hly : gl_ G' y = n := by rw [hgl, if_pos rfl]
        rw [hly] at h0 ⊢
        rw [her] at he
        exact hckid e (List.mem_of_mem_drop he) h0
    · rw [if_neg hyr] at hyl hy
      by_cases hyc : y = c
      · subst hyc
        refine ⟨fun _ => ?_, ?_, fun h0 e he => ?_⟩
        · rw [hec]; simp; omega
        · rw [hgl, if_neg hyr, hcn]; exact hso.1
        · have hly : gl_ G' y = n := by rw [hgl, if_neg hyr]; exact hcn
          rw [hly] at h0 ⊢
          rw [hec] at he
          exact hckid e (List.mem_of_mem_take he) h0
      · by_cases hyb : y = b
        · subst hyb
          refine ⟨fun h => absurd (by simp) h, ?_, fun h0 e he => ?_⟩
          · rw [hgl, if_neg hyr, hbn, hetb]
            have := (hI.2.2.2 y (by omega) (by omega)).2.1
            rw [hbn] at this
            exact this
          · rw [hgl y, if_neg hyr, hbn]
            rw [heb, hil] at he
            have hold : ∀ e ∈ ge_ G y, e.2 ≠ c → 1 ≤ gw_ G' e.2 ∧ gl_ G' e.2 + 1 = n + 1 ∧ (e.2 ∉ [y] → w / 2 ≤ (ge_ G' e.2).length) ∧ (ge_ G' e.2).head?.map Prod.fst = some e.1 := fun e he hne => by
              obtain ⟨q1, q2, q3, q4⟩ := hI.child (b := y) (by omega) (by omega) (by omega) he
              have hn1 : e.2 ≠ y := fun q => by rw [q] at q2; omega
              rw [hgw, hgl, if_neg (hur _ q1), if_neg (hur _ q1), hey _ hn1 hne (hur _ q1)]
              exact ⟨q1, by omega, fun _ => q3 (by simp [hn1, hne]), q4⟩
            rcases List.mem_append.mp he with h | h
            · exact hold e (List.mem_of_mem_take h) (hA e h)
            · rcases List.mem_cons.mp h with h | h
              · have h1 : e.2 = c := by rw [h]; exact hc
                have h2 : e.1 = ((ge_ G y).getD i (0, 0)).1 := by rw [h]
                rw [h1, hgw, hgl, if_neg (Ne.symm hrc), if_neg (Ne.symm hrc), hec, h2, ← g4]
                refine ⟨by omega, by omega, fun _ => by simp; omega, ?_⟩
                cases hL : ge_ G c with
                | nil => rw [hL] at hcl; simp at hcl; omega
                | cons d D =>
                  rw [show w / 2 = (w / 2 - 1) + 1 by omega]
                  rfl
              · rcases List.mem_cons.mp h with h | h
                · subst h
                  show 1 ≤ gw_ G' r ∧ gl_ G' r + 1 = n + 1 ∧ (r ∉ [y] → w / 2 ≤ (ge_ G' r).length) ∧ (ge_ G' r).head?.map Prod.fst = some kr
                  rw [hgw, hgl, if_pos rfl, if_pos rfl, her]
                  exact ⟨by omega, rfl, fun _ => by simp; omega, hkr⟩
                · exact hold e (List.mem_of_mem_drop h) (hB e h)
        · have hv := hI.2.2.2 y hy hyl
          have hall : ∀ e ∈ ge_ G y, gl_ G y ≠ 0 → e.2 ≠ c ∧ e.2 ≠ b := fun e he h0 => by
            obtain ⟨q1, q2, -, -⟩ := hI.child hy hyl h0 he
            refine ⟨?_, fun q => by rw [q] at q2; omega⟩
            by_cases hyn : gl_ G y = n + 1
            · exact hoth y hy hyn hyb e he
            · exact fun q => by rw [q] at q2; omega
          refine ⟨fun _ => ?_, ?_, fun h0 e he => ?_⟩
          · rw [hey y hyb hyc hyr]; exact hv.1 (by simp [hyb, hyc])
          · rw [hgl, if_neg hyr]
            by_cases hyn : gl_ G y = n + 1
            · rw [hyn, hety y hy hyn hyb]
              have := hv.2.1
              rw [hyn] at this
              exact this
            · rw [hlow y hy (by omega) hyc]; exact hv.2.1
          · rw [hgl, if_neg hyr] at h0
            rw [hey y hyb hyc hyr] at he
            obtain ⟨q1, q2, q3, q4⟩ := hv.2.2 h0 e he
            obtain ⟨n1, n2⟩ := hall e he h0
            rw [hgw, hgl, hgl, if_neg (hur _ q1), if_neg (hur _ q1), if_neg hyr, hey _ n2 n1 (hur _ q1)]
            exact ⟨q1, q2, fun _ => q3 (by simp [n1, n2]), q4⟩
  · -- room
    rw [hgf]
    have hfl : (gf_ G).length = f.length + 1 := by rw [hf]; simp
    have hkp : ∀ y, 1 ≤ gw_ G y → gl_ G y ≤ n + 1 → y ≠ b → y ≠ c → sl_ G' y = sl_ G y := fun y y1 y2 y3 y4 => by
      show (gw_ G' y - 1) * max ((et_ (ge_ G') (gl_ G' y) y).length - 1) 1 + ((ge_ G' y).length - 2) = (gw_ G y - 1) * max ((et_ (ge_ G) (gl_ G y) y).length - 1) 1 + ((ge_ G y).length - 2)
      rw [hgw, hgl, if_neg (hur y y1), if_neg (hur y y1), hey y y3 y4 (hur y y1)]
      by_cases hyn : gl_ G y = n + 1
      · rw [hyn, hety y y1 hyn y3]
      · rw [hlow y y1 (by omega) y4]
    have h2 := sm_up3 (n := 1201) (i := b) (j := c) (k := r) (f := fun y => if gw_ G y = 0 ∨ n + 1 < gl_ G y then 0 else sl_ G y) (g := fun y => if gw_ G' y = 0 ∨ n + 1 < gl_ G' y then 0 else sl_ G' y) (by omega) (by omega) (by omega) (Ne.symm hcb) (Ne.symm hrb) (Ne.symm hrc) (fun q _ q1 q2 q3 => by
      rw [hgw, hgl, if_neg q3, if_neg q3]
      by_cases hu : gw_ G q = 0 ∨ n + 1 < gl_ G q
      · simp only [hu, if_true]
      · simp only [hu, if_false]; exact hkp q (by omega) (by omega) q1 q2)
    have e1 : SL_ (n + 1) G = sm_ 1201 (fun y => if gw_ G y = 0 ∨ n + 1 < gl_ G y then 0 else sl_ G y) := rfl
    have e2 : SL_ (n + 1) G' = sm_ 1201 (fun y => if gw_ G' y = 0 ∨ n + 1 < gl_ G' y then 0 else sl_ G' y) := rfl
    have v1 : (if gw_ G b = 0 ∨ n + 1 < gl_ G b then 0 else sl_ G b) = (ge_ G b).length - 2 := by
      rw [if_neg (by omega)]; simp [sl_, hb1]
    have v2 : (if gw_ G' b = 0 ∨ n + 1 < gl_ G' b then 0 else sl_ G' b) = (ge_ G b).length + 1 - 2 := by
      rw [hgw, hgl, if_neg (Ne.symm hrb), if_neg (Ne.symm hrb), if_neg (by omega)]
      simp only [sl_]
      rw [hgw, if_neg (Ne.symm hrb), hb1, heb, il_len (by omega)]
      simp
    have v3 : (if gw_ G c = 0 ∨ n + 1 < gl_ G c then 0 else sl_ G c) = w - 2 := by
      rw [if_neg (by omega)]; simp [sl_, hc1, hcl]
    have v4 : (if gw_ G' c = 0 ∨ n + 1 < gl_ G' c then 0 else sl_ G' c) = w / 2 - 2 := by
      rw [hgw, hgl, if_neg (Ne.symm hrc), if_neg (Ne.symm hrc), if_neg (by omega)]
      simp only [sl_]
      rw [hgw, if_neg (Ne.symm hrc), hc1, hec]
      simp; omega
    have v5 : (if gw_ G r = 0 ∨ n + 1 < gl_ G r then 0 else sl_ G r) = 0 := if_pos (Or.inl r3)
    have v6 : (if gw_ G' r = 0 ∨ n + 1 < gl_ G' r then 0 else sl_ G' r) = w - w / 2 - 2 := by
      rw [hgw, hgl, if_pos rfl, if_pos rfl, if_neg (by omega)]
      simp only [sl_]
      rw [hgw, if_pos rfl, her]
      simp; omega
    rw [v1, v2, v3, v4, v5, v6, ← e1, ← e2] at h2
    omega
end SP
