-- PURE: Trees.grown, Trees.with
section WW
variable {w a : Nat} {Rm : Nat → Nat} {G : Sg_} {st : St_}
theorem p_grown {t n : Nat} {post : Int32 → St_ → Prop} (hw : 5 ≤ w ∧ w ≤ 32) (hR : Rp_ w st G) (hI : In_ w [t] 16 (rt_ Rm t) (a + 1) G) (htw : gw_ G t = 1) (htn : gl_ G t = n) (hn : n + 1 ≤ 16) (hl : (ge_ G t).length = w)
    (k : ∀ st' G' g, Rp_ w st' G' → Fr_ st st' → Ic_ w [] 16 (rt_ Rm g) [] G' → 1 ≤ g → gl_ G' g = n + 1 → et_ (ge_ G') (n + 1) g = et_ (ge_ G) n t → 2 ≤ (ge_ G' g).length → (∀ y, 1 ≤ gw_ G y → 1 ≤ Rm y → y ≠ t → ge_ G' y = ge_ G y ∧ gl_ G' y = gl_ G y ∧ et_ (ge_ G') (gl_ G y) y = et_ (ge_ G) (gl_ G y) y) → post (nI g) st') : wp_T_grown w (nI t) st post := by
  unfold wp_T_grown
  obtain ⟨t1, t2, t3⟩ := hI.1.1 t (by omega)
  obtain ⟨f, g, hf⟩ : ∃ f c, gf_ G = f ++ [c] := by
    have hne : gf_ G ≠ [] := fun e => by have := hI.2; rw [e] at this; simp at this
    exact ⟨(gf_ G).dropLast, (gf_ G).getLast hne, (List.dropLast_concat_getLast hne).symm⟩
  obtain ⟨g1, g2, g3, g4, g5⟩ := fr_last hI.1 hf
  have htg : t ≠ g := fun e => by rw [e] at htw; omega
  refine p_level hR ⟨t1, t2⟩ ?_
  rw [htn, nI_1]
  refine p_take hR hf ⟨g1, g2⟩ (fun s1 hR1 hF1 => ?_)
  have u1 : ge_ (tk_ G g (n + 1) f) t = ge_ G t := by simp [ge_, tk_, va_up, htg]
  have u2 : ge_ (tk_ G g (n + 1) f) g = [] := by simp [ge_, tk_, va_up]
  have hi0 : 0 < (ge_ (tk_ G g (n + 1) f) t).length := by rw [u1]; omega
  have hbd := hR1.bd hi0
  refine p_key (i := 0) hw hR1 ⟨t1, t2⟩ hi0 ?_
  rw [u1] at hbd ⊢
  refine p_insert (i := 0) hw hR1 ⟨g1, g2⟩ (by omega) (by rw [u2]; simp; omega) hbd.1 (by omega) (fun s2 hR2 hF2 => ?_)
  rw [u2] at hR2
  have hR3 : Rp_ w s2 (nl_ G g (n + 1) f [(((ge_ G t).getD 0 (0, 0)).1, t)]) := by
    refine hR2.eq (Sg_ext (fun _ => rfl) (fun _ => rfl) (fun x => ?_) rfl)
    by_cases hx : x = g
    · subst hx; simp [va_up, il_]
    · simp [va_up, hx]
  obtain ⟨m1, m2, m3⟩ := nl_root hI htw htn hn hf (gd_hd (by omega))
  generalize hG3 : nl_ G g (n + 1) f [(((ge_ G t).getD 0 (0, 0)).1, t)] = G3 at *
  have hgw3 : gw_ G3 g = 1 := by rw [← hG3]; simp [gw_, nl_, va_up]
  have hgl3 : gl_ G3 g = n + 1 := by rw [← hG3]; simp [gl_, nl_, va_up]
  have hge3 : ge_ G3 g = [(((ge_ G t).getD 0 (0, 0)).1, t)] := by rw [← hG3]; simp [ge_, nl_, va_up]
  obtain ⟨-, q1, q2, q3, q4⟩ := m2 t (by omega)
  have hdn := m1.down (n := n + 1) hn
  refine p_split (i := 0) (c := t) hw hR3 hdn hgw3 hgl3 (by rw [hge3]; simp) (by rw [hge3]; rfl) (by rw [q1]; exact htw) (by rw [q2]; exact hl) (by rw [hge3]; simp; omega) (fun s4 G4 hR4 hF4 hI4 hC4 het4 hlen4 => ?_)
  have hRg : rt_ Rm g g = 1 := by
    have hc := hI.1.2.2.1 g g1
    have : rt_ Rm t g = Rm g := by simp [rt_, Ne.symm htg]
    simp only [rt_, if_true]
    omega
  have hX : ∀ z ∈ [g, t], z = g ∨ gl_ G3 z < n + 1 := fun z hz => by
    simp only [List.mem_cons, List.not_mem_nil, or_false] at hz
    rcases hz with h | h
    · exact Or.inl h
    · right; rw [h, q3]; omega
  have hI5 := up_Ic hX m1.1 hgw3 hRg hC4 hI4.1
  have hl4 : (ge_ G4 g).length = 2 := by rw [hlen4, hge3]; rfl
  have hI6 := hI5.nox hC4.1 (by omega) (by omega)
  refine k s4 G4 g hR4 ((hF1.tr hF2).tr hF4) hI6 g1 hC4.2.1 (het4.trans m3) (by omega) (fun y hy hRy hyt => ?_)
  obtain ⟨x1, x2, x3, x4, x5⟩ := m2 y hy
  have hRy' : 1 ≤ rt_ Rm g y := by simp only [rt_]; omega
  obtain ⟨z1, z2, z3, -⟩ := hC4.2.2.1 y (by rw [x2]; exact hy) x1 (Or.inr hRy')
  refine ⟨z1.trans x3, z2.trans x4, ?_⟩
  have := up_et m1.1 hgw3 hRg hC4 (gl_ G y) y (by rw [x2]; exact hy) x1 x4 (Or.inr hRy')
  rw [this, x5]
theorem p_with {root x s T : Nat} {post : Int32 → St_ → Prop} (hw : 5 ≤ w ∧ w ≤ 32) (hR : Rp_ w st G) (hI : Ic_ w [] 16 (rt_ Rm root) [] G) (hr : ∀ y, Rm y ≤ 900) (hrt : ∀ b, 1 ≤ b → 1 ≤ rt_ Rm root b → gl_ G b = 0 ∨ 2 ≤ (ge_ G b).length)
    (hT : sm_ 1201 (fun y => if y = 0 then 0 else rt_ Rm root y * kp_ G y) ≤ T) (haT : a + T ≤ 1200) (hx : x < 4096) (hs : s ≤ 1000000000) (hroot : root ≤ 1200) (hroom : (iz_ x s (tr_ G root)).length ≤ a + (tr_ G root).length)
    (k : ∀ st' G' r, Rp_ w st' G' → Fr_ st st' → Ic_ w [] 16 (rt_ Rm r) [] G' → 1 ≤ r → tr_ G' r = iz_ x s (tr_ G root) → (gl_ G' r = 0 ∨ 2 ≤ (ge_ G' r).length) → (∀ y, 1 ≤ y → 1 ≤ Rm y → ge_ G' y = ge_ G y ∧ gl_ G' y = gl_ G y ∧ et_ (ge_ G') (gl_ G y) y = et_ (ge_ G) (gl_ G y) y) → post (nI r) st') : wp_T_with w (nI root) (nI x) (nI s) st post := by
  unfold wp_T_with
  have hused : ∀ y, 1 ≤ y → 1 ≤ Rm y → 1 ≤ gw_ G y := fun y y1 y2 => by
    have := hI.2.2.1 y y1
    have h2 : Rm y ≤ rt_ Rm root y := by simp only [rt_]; omega
    omega
  by_cases h0 : root = 0
  · subst h0
    have htr : tr_ G 0 = [] := rfl
    rw [htr] at hroom
    have hroom' : 1 ≤ a := by simpa [iz_] using hroom
    have hcap := cap_ hw.1 hI hrt hT haT
    obtain ⟨f, r, hf⟩ : ∃ f c, gf_ G = f ++ [c] := by
      have hne : gf_ G ≠ [] := fun e => by have := hcap.2; rw [e] at this; simp at this; omega
      exact ⟨(gf_ G).dropLast, (gf_ G).getLast hne, (List.dropLast_concat_getLast hne).symm⟩
    obtain ⟨r1, r2, r3, r4, r5⟩ := fr_last hI hf
    refine rb_f rfl (p_take (l := 0) hR hf ⟨r1, r2⟩ (fun s1 hR1 hF1 => ?_))
    have u1 : ge_ (tk_ G r 0 f) r = [] := by simp [ge_, tk_, va_up]
    have u2 : gl_ (tk_ G r 0 f) r = 0 := by simp [gl_, tk_, va_up]
    refine p_level hR1 ⟨r1, r2⟩ ?_
    rw [u2]
    show (_ → _) ∧ (_ → _)
    refine br_t (by decide) (br_f (by decide) ?_)
    refine p_putInLeaf hw hR1 ⟨r1, r2⟩ hx hs (by rw [u1]; exact so_nil) (by rw [u1]; simp; omega) (fun s2 hR2 hF2 => ?_)
    rw [u1] at hR2
    have hR3 : Rp_ w s2 (nl_ G r 0 f [(x, s)]) := by
      refine hR2.eq (Sg_ext (fun _ => rfl) (fun _ => rfl) (fun z => ?_) rfl)
      by_cases hz : z = r
      · subst hz; simp [va_up, iz_]
      · simp [va_up, hz]
    obtain ⟨m1, m2⟩ := nl_leaf (x := x) (s := s) hw.1 hI hf
    have v1 : ge_ (nl_ G r 0 f [(x, s)]) r = [(x, s)] := by simp [ge_, nl_, va_up]
    have v2 : gl_ (nl_ G r 0 f [(x, s)]) r = 0 := by simp [gl_, nl_, va_up]
    refine p_size hR3 ⟨r1, r2⟩ ?_
    rw [v1]
    refine br_t (nI_le (a := 1) (b := w - 1) (by omega) (by omega)) ?_
    refine k s2 _ r hR3 (hF1.tr hF2) m1 r1 ?_ (Or.inl v2) (fun y y1 y2 => m2 y (hused y y1 y2))
    rw [tr_1 r1, v2, htr]
    exact v1
  · have hroot1 : 1 ≤ root := by omega
    refine rb_t (nI_ne0 (by omega) (by omega)) ?_
    have hc := hI.2.2.1 root hroot1
    have hrr : rt_ Rm root root = Rm root + 1 := by simp [rt_]
    have hu : 1 ≤ gw_ G root := by omega
    obtain ⟨b1, b2, b3⟩ := hI.1 root hu
    have hroot2 := hrt root hroot1 (by omega)
    have hvr := hI.2.2.2 root hu b3
    have hl1 := (hvr.1 (by simp)).1
    have hcap : In_ w [] 16 (rt_ Rm root) (a + (if 2 ≤ (ge_ G root).length then 1 else 0)) G := by
      by_cases h2 : 2 ≤ (ge_ G root).length
      · rw [if_pos h2]; exact cap_1 hw.1 hI hrt hT haT (by omega) hroot1 h2
      · rw [if_neg h2]; exact cap_ hw.1 hI hrt hT haT
    refine p_ownroot hw hR hcap hr hroot1 hroot2 (fun s1 G1 t hR1 hF1 hI1 htw htl hte htt hfr => ?_)
    obtain ⟨t1, t2, t3⟩ := hI1.1.1 t (by omega)
    have hct := hI1.1.2.2.1 t t1
    have hRt : rt_ Rm t t = 1 := by
      have : rt_ Rm t t = Rm t + 1 := by simp [rt_]
      omega
    have hRm : Rm t = 0 := by
      have : rt_ Rm t t = Rm t + 1 := by simp [rt_]
      omega
    refine p_level hR1 ⟨t1, t2⟩ ?_
    rw [tr_1 hroot1] at hroom
    have hvt := (hI1.1.2.2.2 t (by omega) t3).1 (by simp)
    generalize hn : gl_ G root = n at *
    have hn16 : n ≤ 16 := by omega
    rw [htl]
    refine p_putBelow hw hx hs (R := rt_ Rm t) (fun y => by have := hr y; simp only [rt_]; split <;> omega) n 20 t _ G1 s1 _ (by omega) hR1 ((hI1.down hn16).mono (Y := [t]) (fun y h => by simp at h)) htw htl (by omega) (fun _ => by omega) (by rw [htt]; omega) (fun s2 G2 a2 hR2 hF2 hI2 ha2 hC2 het2 hlo2 hl12 => ?_)
    rw [htt] at ha2 het2
    have hI2' := up_In (a := a + (if 2 ≤ (ge_ G root).length then 1 else 0) + (et_ (ge_ G) n root).length - (iz_ x s (et_ (ge_ G) n root)).length) (X := []) (fun z hz => by simp at hz) hn16 hI1.1 htw hRt htl hC2 (hI2.less (by omega))
    have hlw := (hR2.1 t t1 t2).2.2.2.1
    have hframe : ∀ y, 1 ≤ y → 1 ≤ Rm y → y ≠ t ∧ 1 ≤ gw_ G2 y ∧ ge_ G2 y = ge_ G y ∧ gl_ G2 y = gl_ G y ∧ et_ (ge_ G2) (gl_ G y) y = et_ (ge_ G) (gl_ G y) y := fun y y1 y2 => by
      have hyt : y ≠ t := fun q => by rw [q] at y2; omega
      obtain ⟨x1, x2, x3, x4⟩ := hfr y (hused y y1 y2) hyt
      have hRy' : 1 ≤ rt_ Rm t y := by simp only [rt_]; omega
      obtain ⟨z1, z2, z3, -⟩ := hC2.2.2.1 y x3 hyt (Or.inr hRy')
      have := up_et hI1.1 htw hRt hC2 (gl_ G y) y x3 hyt x2 (Or.inr hRy')
      exact ⟨hyt, z3, z1.trans x1, z2.trans x2, by rw [this, x4]⟩
    refine p_size hR2 ⟨t1, t2⟩ ?_
    rw [hte] at hlo2
    refine pk_le (ge_ G2 t).length (w - 1) (fun hle => ?_) (fun hgt => ?_) rfl rfl (by omega) (by omega)
    · refine k s2 G2 t hR2 (hF1.tr hF2) (hI2'.1.nox hC2.1 hl12 (by omega)) t1 ?_ ?_ (fun y y1 y2 => (hframe y y1 y2).2.2)
      · rw [tr_1 t1, hC2.2.1, tr_1 hroot1, hn]; exact het2
      · rw [hC2.2.1]
        rcases hroot2 with h | h
        · exact Or.inl h
        · exact Or.inr (by omega)
    · have hlen2 : 2 ≤ (ge_ G root).length := by
        rcases hroot2 with h | h
        · rcases Nat.lt_or_ge (ge_ G root).length 2 with q | q
          · exfalso
            have h5 : (ge_ G2 t).length = (iz_ x s (ge_ G root)).length := by
              have := congrArg List.length het2
              rw [h] at this
              exact this
            have h6 : (iz_ x s (ge_ G root)).length ≤ (ge_ G root).length + 1 := by
              have hso : so_ (ge_ G root) := by
                have := hvr.2.1
                rw [hn, h] at this
                exact this
              by_cases hp : ∃ u, (x, u) ∈ ge_ G root
              · obtain ⟨u, hu⟩ := hp
                rw [iz_len1 hso hu]; omega
              · rw [iz_len0 (fun u hu => hp ⟨u, hu⟩)]; omega
            omega
          · exact q
        · exact h
      have hn9 : n + 1 ≤ 16 := by
        have h7 := kp_pow hw.1 hI n root hu hn hn16 hlen2
        have h8 := sm_one (n := 1201) (k := root) (fun y => if y = 0 then 0 else rt_ Rm root y * kp_ G y) (by omega)
        simp only [h0, if_false] at h8
        have h9 : kp_ G root ≤ rt_ Rm root root * kp_ G root := by
          have := Nat.mul_le_mul_right (kp_ G root) (show 1 ≤ rt_ Rm root root by omega)
          omega
        have h10 : kp_ G root = (et_ (ge_ G) n root).length := by
          show (et_ (ge_ G) (gl_ G root) root).length = _
          rw [hn]
        rcases Nat.lt_or_ge n 16 with q | q
        · omega
        · have : n = 16 := by omega
          subst this
          have : (2 : Nat) ^ (16 + 1) = 131072 := by decide
          omega
      rw [if_pos hlen2] at hI2'
      refine p_grown (a := a + (et_ (ge_ G) n root).length - (iz_ x s (et_ (ge_ G) n root)).length) hw hR2 (hI2'.less (by omega)) hC2.1 hC2.2.1 hn9 (by omega) (fun s3 G3 g hR3 hF3 hI3 g1 hgl het3 hl3 hfr3 => ?_)
      refine k s3 G3 g hR3 ((hF1.tr hF2).tr hF3) hI3 g1 ?_ (Or.inr hl3) (fun y y1 y2 => ?_)
      · rw [tr_1 g1, hgl, het3, tr_1 hroot1, hn]; exact het2
      · obtain ⟨x1, x2, x3, x4, x5⟩ := hframe y y1 y2
        obtain ⟨z1, z2, z3⟩ := hfr3 y x2 y2 x1
        refine ⟨z1.trans x3, z2.trans x4, ?_⟩
        rw [x4] at z3
        rw [z3, x5]
end WW
