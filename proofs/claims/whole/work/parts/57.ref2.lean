-- PURE: the reference's clone, keep and back
section RG
variable {w : Nat} {st : St_} {N K : Nat → List (Nat × Nat)}
theorem p_R_clone_loop {m f : Nat} {post : Int32 → St_ → Prop} (h : MA_ st N K) (hm : m < 8) (hf : f < 8) (hne : m ≠ f) (hN : Nd_ (va_up N m (N f))) (k : ∀ st', MA_ st' (va_up N m (N f)) K → Fo_ st st' → post (nI (N f).length) st') :
    ∀ (n i : Nat) (s : St_), i ≤ 4096 → 4096 < n + i → (∀ q, q ≠ 14 → s q = st q) → (∀ j, j < 4096 → s 14 (4096 * m + j) = if j < i then st 14 (4096 * f + j) else st 14 (4096 * m + j)) → (∀ c j, c ≠ m → j < 4096 → s 14 (4096 * c + j) = st 14 (4096 * c + j)) → wp_R_clone_50 w post n (nI m) (nI f) (nI i) s := by
  intro n
  induction n with
  | zero => intro i s h1 h2; omega
  | succ n ih =>
    intro i s h1 h2 ho hm1 hc1
    refine pk_le 4096 i (fun hle => ?_) (fun hlt => ?_) rfl rfl (by omega) (by omega)
    · refine ⟨vp_in_nI hf (by omega), vp_in_nI hm (by omega), fun s1 e1 => ⟨vp_in_nI hm (by omega), ?_⟩⟩
      rw [nI_clamp (n := m) (by omega), nI_clamp (n := f) (by omega), ho 16 (by decide), h.2.2.1 f hf] at e1
      have e16 : s1 16 m = nI (N f).length := by rw [e1, ws_1_at]
      rw [nI_clamp (n := m) (by omega), e16]
      have e14 : s1 14 = s 14 := by rw [e1, ws_1_arr (by decide)]
      refine k s1 ⟨fun c hc j hj => ?_, mv_c h.2.1 (by rw [e1, ws_1_arr (by decide), ho 15 (by decide)]), mc_set h.2.2.1 e16 (fun i hi => by rw [e1, ws_1_ne hi, ho 16 (by decide)]), mc_c h.2.2.2.1 (by rw [e1, ws_1_arr (by decide), ho 17 (by decide)]), hN, h.2.2.2.2.2⟩ (fun q hq => by rw [e1, ws_1_arr (by omega), ho q (by omega)])
      rw [e14]
      by_cases e : c = m
      · subst e
        rw [va_up_self, hm1 j hj, if_pos (by omega)]
        exact h.1 f hf j hj
      · rw [vu_ne e, hc1 c j e hj]
        exact h.1 c hc j hj
    · rw [mx_e, mx_e]
      refine ⟨vp_in_nI (by omega) (by omega), vp_in_nI (by omega) (by omega), fun s1 e1 y hy => ?_⟩
      rw [nI_clamp (n := 4096 * m + i) (by omega), nI_clamp (n := 4096 * f + i) (by omega), hc1 f i (Ne.symm hne) hlt] at e1
      rw [hy, nI_1]
      refine ih (i + 1) s1 (by omega) (by omega) (fun q hq => by rw [e1, ws_1_arr hq]; exact ho q hq) (fun j hj => ?_) (fun c j hc hj => ?_)
      · by_cases e : j = i
        · subst e
          rw [e1, ws_1_at, if_pos (by omega)]
        · rw [e1, ws_1_ne (by omega), hm1 j hj]
          by_cases q : j < i
          · rw [if_pos q, if_pos (by omega)]
          · rw [if_neg q, if_neg (by omega)]
      · rw [e1, ws_1_ne (fun q => hc (mx_inj hj hlt q).1)]
        exact hc1 c j hc hj
theorem p_R_clone {m f : Nat} {post : Int32 → St_ → Prop} (h : MA_ st N K) (hm : m < 8) (hf : f < 8) (hne : m ≠ f)
    (kF : 600 < nl8_ N - (N m).length + (N f).length → post (-3) st) (kO : nl8_ N - (N m).length + (N f).length ≤ 600 → ∀ st', MA_ st' (va_up N m (N f)) K → Fo_ st st' → post (nI (N f).length) st') : wp_R_clone w (nI m) (nI f) st post := by
  unfold wp_R_clone
  have hle : (N m).length ≤ nl8_ N := sm_one (n := 8) (k := m) (fun i => (N i).length) hm
  have hle2 : (N f).length ≤ nl8_ N := sm_one (n := 8) (k := f) (fun i => (N i).length) hf
  have hs := h.2.2.2.2.1.2
  refine p_R_isMap1 hm (br_f (by decide) (p_R_isMap1 hf (br_f (by decide) (rb_t (fun e => hne ((nI_eq (by omega) (by omega)).mp e)) (p_R_all h.2.2.1 ⟨vp_in_nI hm (by omega), vp_in_nI hf (by omega), ?_⟩)))))
  rw [nI_clamp (n := m) (by omega), nI_clamp (n := f) (by omega), h.2.2.1 m hm]
  refine pk_le (nl8_ N - (N m).length + (N f).length) 600 (fun hle => ⟨4097, ?_⟩) (fun hlt => kF hlt) (by rw [h.2.2.1 f hf, pk_sub (by exact hle), nI_add]) rfl (by omega) (by omega)
  have hu := nl8_up (N := N) (L := N f) hm
  have hN : Nd_ (va_up N m (N f)) := ⟨fun i hi => by
    by_cases e : i = m
    · subst e; rw [va_up_self]; exact h.2.2.2.2.1.1 f hf
    · rw [vu_ne e]; exact h.2.2.2.2.1.1 i hi, by omega⟩
  exact p_R_clone_loop (N := N) h hm hf hne hN (kO hle) 4097 0 st (by omega) (by omega) (fun _ _ => rfl) (fun j _ => by rw [if_neg (by omega)]) (fun _ _ _ _ => rfl)
theorem p_R_keep_loop2 {post : Int32 → St_ → Prop} (h : MA_ st N K) (k : ∀ st', MA_ st' N N → Fo_ st st' → post (nI (nl8_ N)) st') :
    ∀ (n i : Nat) (s : St_), i ≤ 8 → 8 < n + i → (∀ q, q ≠ 15 → q ≠ 17 → s q = st q) → (∀ j, j < 32768 → s 15 j = st 14 j) → (∀ j, j < i → s 17 j = st 16 j) → wp_R_keep_28 w post n (nI i) s := by
  intro n
  induction n with
  | zero => intro i s h1 h2; omega
  | succ n ih =>
    intro i s h1 h2 ho hv hc
    refine pk_le 8 i (fun hle => ?_) (fun hlt => ?_) rfl rfl (by omega) (by omega)
    · have hfv : mv_ s 14 N := mv_c h.1 (ho 14 (by decide) (by decide))
      have htv : mv_ s 15 N := fun c hc j hj => by rw [hv (4096 * c + j) (by omega)]; exact h.1 c hc j hj
      have hfc : mc_ s 16 N := mc_c h.2.2.1 (ho 16 (by decide) (by decide))
      have htc : mc_ s 17 N := fun c hc2 => by rw [hc c (by omega)]; exact h.2.2.1 c hc2
      have hM : MA_ s N N := ⟨hfv, htv, hfc, htc, h.2.2.2.2.1, h.2.2.2.2.1⟩
      exact p_R_all hM.2.2.1 (k s hM (fun q hq => ho q (by omega) (by omega)))
    · refine ⟨vp_in_nI hlt (by omega), vp_in_nI hlt (by omega), fun s1 e1 y hy => ?_⟩
      rw [nI_clamp (n := i) (by omega), ho 16 (by decide) (by decide)] at e1
      rw [hy, nI_1]
      refine ih (i + 1) s1 (by omega) (by omega) (fun q q1 q2 => by rw [e1, ws_1_arr q2]; exact ho q q1 q2) (fun j hj => by rw [e1, ws_1_arr (by decide)]; exact hv j hj) (fun j hj => ?_)
      by_cases e : j = i
      · subst e; rw [e1, ws_1_at]
      · rw [e1, ws_1_ne e]; exact hc j (by omega)
theorem p_R_keep_loop1 {post : Int32 → St_ → Prop} (h : MA_ st N K) (k : ∀ st', MA_ st' N N → Fo_ st st' → post (nI (nl8_ N)) st') :
    ∀ (n i : Nat) (s : St_), i ≤ 32768 → 32768 < n + i → (∀ q, q ≠ 15 → s q = st q) → (∀ j, j < i → s 15 j = st 14 j) → wp_R_keep_2 w post n (nI i) s := by
  intro n
  induction n with
  | zero => intro i s h1 h2; omega
  | succ n ih =>
    intro i s h1 h2 ho hv
    refine pk_le 32768 i (fun hle => ?_) (fun hlt => ?_) rfl rfl (by omega) (by omega)
    · exact ⟨9, p_R_keep_loop2 h k 9 0 s (by omega) (by omega) (fun q q1 _ => ho q q1) (fun j hj => hv j (by omega)) (fun j hj => by omega)⟩
    · refine ⟨vp_in_nI hlt (by omega), vp_in_nI hlt (by omega), fun s1 e1 y hy => ?_⟩
      rw [nI_clamp (n := i) (by omega), ho 14 (by decide)] at e1
      rw [hy, nI_1]
      refine ih (i + 1) s1 (by omega) (by omega) (fun q q1 => by rw [e1, ws_1_arr q1]; exact ho q q1) (fun j hj => ?_)
      by_cases e : j = i
      · subst e; rw [e1, ws_1_at]
      · rw [e1, ws_1_ne e]; exact hv j (by omega)
theorem p_R_keep {post : Int32 → St_ → Prop} (h : MA_ st N K) (k : ∀ st', MA_ st' N N → Fo_ st st' → post (nI (nl8_ N)) st') : wp_R_keep w st post :=
  ⟨32769, p_R_keep_loop1 h k 32769 0 st (by omega) (by omega) (fun _ _ => rfl) (fun j hj => by omega)⟩
theorem p_R_back_loop2 {post : Int32 → St_ → Prop} (h : MA_ st N K) (k : ∀ st', MA_ st' K K → Fo_ st st' → post (nI (nl8_ K)) st') :
    ∀ (n i : Nat) (s : St_), i ≤ 8 → 8 < n + i → (∀ q, q ≠ 14 → q ≠ 16 → s q = st q) → (∀ j, j < 32768 → s 14 j = st 15 j) → (∀ j, j < i → s 16 j = st 17 j) → wp_R_back_28 w post n (nI i) s := by
  intro n
  induction n with
  | zero => intro i s h1 h2; omega
  | succ n ih =>
    intro i s h1 h2 ho hv hc
    refine pk_le 8 i (fun hle => ?_) (fun hlt => ?_) rfl rfl (by omega) (by omega)
    · have hfv : mv_ s 15 K := mv_c h.2.1 (ho 15 (by decide) (by decide))
      have htv : mv_ s 14 K := fun c hc j hj => by rw [hv (4096 * c + j) (by omega)]; exact h.2.1 c hc j hj
      have hfc : mc_ s 17 K := mc_c h.2.2.2.1 (ho 17 (by decide) (by decide))
      have htc : mc_ s 16 K := fun c hc2 => by rw [hc c (by omega)]; exact h.2.2.2.1 c hc2
      have hM : MA_ s K K := ⟨htv, hfv, htc, hfc, h.2.2.2.2.2, h.2.2.2.2.2⟩
      exact p_R_all hM.2.2.1 (k s hM (fun q hq => ho q (by omega) (by omega)))
    · refine ⟨vp_in_nI hlt (by omega), vp_in_nI hlt (by omega), fun s1 e1 y hy => ?_⟩
      rw [nI_clamp (n := i) (by omega), ho 17 (by decide) (by decide)] at e1
      rw [hy, nI_1]
      refine ih (i + 1) s1 (by omega) (by omega) (fun q q1 q2 => by rw [e1, ws_1_arr q2]; exact ho q q1 q2) (fun j hj => by rw [e1, ws_1_arr (by decide)]; exact hv j hj) (fun j hj => ?_)
      by_cases e : j = i
      · subst e; rw [e1, ws_1_at]
      · rw [e1, ws_1_ne e]; exact hc j (by omega)
theorem p_R_back_loop1 {post : Int32 → St_ → Prop} (h : MA_ st N K) (k : ∀ st', MA_ st' K K → Fo_ st st' → post (nI (nl8_ K)) st') :
    ∀ (n i : Nat) (s : St_), i ≤ 32768 → 32768 < n + i → (∀ q, q ≠ 14 → s q = st q) → (∀ j, j < i → s 14 j = st 15 j) → wp_R_back_2 w post n (nI i) s := by
  intro n
  induction n with
  | zero => intro i s h1 h2; omega
  | succ n ih =>
    intro i s h1 h2 ho hv
    refine pk_le 32768 i (fun hle => ?_) (fun hlt => ?_) rfl rfl (by omega) (by omega)
    · exact ⟨9, p_R_back_loop2 h k 9 0 s (by omega) (by omega) (fun q q1 _ => ho q q1) (fun j hj => hv j (by omega)) (fun j hj => by omega)⟩
    · refine ⟨vp_in_nI hlt (by omega), vp_in_nI hlt (by omega), fun s1 e1 y hy => ?_⟩
      rw [nI_clamp (n := i) (by omega), ho 15 (by decide)] at e1
      rw [hy, nI_1]
      refine ih (i + 1) s1 (by omega) (by omega) (fun q q1 => by rw [e1, ws_1_arr q1]; exact ho q q1) (fun j hj => ?_)
      by_cases e : j = i
      · subst e; rw [e1, ws_1_at]
      · rw [e1, ws_1_ne e]; exact hv j (by omega)
theorem p_R_back {post : Int32 → St_ → Prop} (h : MA_ st N K) (k : ∀ st', MA_ st' K K → Fo_ st st' → post (nI (nl8_ K)) st') : wp_R_back w st post :=
  ⟨32769, p_R_back_loop1 h k 32769 0 st (by omega) (by omega) (fun _ _ => rfl) (fun j hj => by omega)⟩
end RG
