-- PURE: check goes every way and finds no fault
def lz_ (L : List (Nat × Nat)) : Int32 := match L.getLast? with
  | none => -2
  | some q => nI q.1
theorem lz_app {A B : List (Nat × Nat)} (h : B ≠ []) : lz_ (A ++ B) = lz_ B := by
  have e : B.getLast? = some (B.getLast h) := List.getLast?_eq_some_getLast h
  simp only [lz_, List.getLast?_append, e, Option.some_or]
theorem lz_lt {A : List (Nat × Nat)} {k : Nat} (hk : k < 4096) (h : ∀ q ∈ A, q.1 < k) : lz_ A < nI k := by
  cases e : A.getLast? with
  | none =>
    simp only [lz_, e]
    rw [Int32.lt_iff_toInt_lt, nI_toInt (by omega)]
    have : (-2 : Int32).toInt = -2 := by decide
    omega
  | some q =>
    simp only [lz_, e]
    exact nI_lt (h q (List.mem_of_getLast? e)) (by omega)
theorem lz_end {L : List (Nat × Nat)} (h : 1 ≤ L.length) : lz_ L = nI (L.getD (L.length - 1) (0, 0)).1 := by
  have e : L.getLast? = some (L.getD (L.length - 1) (0, 0)) := by
    rw [List.getLast?_eq_getElem?, List.getD_eq_getElem?_getD, List.getElem?_eq_getElem (by omega)]
    rfl
  simp only [lz_, e]
/-- what nodes lead to x that were not looked into yet -/
def un_ (G : Sg_) (f : Nat → Nat) (x : Nat) : Nat := sm_ 1201 (fun p => if gw_ G p = 0 ∨ gl_ G p = 0 ∨ f p ≠ 0 then 0 else cn_ x (ge_ G p))
theorem un_cong {G : Sg_} {f f' : Nat → Nat} (h : ∀ p, f' p = 0 ↔ f p = 0) (x : Nat) : un_ G f' x = un_ G f x := sm_congr (fun p _ => by simp only [Ne, h p])
theorem un_hit {G : Sg_} {f : Nat → Nat} {b x v : Nat} (hb : b ≤ 1200) (hu : 1 ≤ gw_ G b) (h0 : f b = 0) (hl : gl_ G b ≠ 0) : un_ G (va_up f b (v + 1)) x + cn_ x (ge_ G b) = un_ G f x := by
  have h : un_ G (va_up f b (v + 1)) x + (if gw_ G b = 0 ∨ gl_ G b = 0 ∨ f b ≠ 0 then 0 else cn_ x (ge_ G b)) = un_ G f x + (if gw_ G b = 0 ∨ gl_ G b = 0 ∨ va_up f b (v + 1) b ≠ 0 then 0 else cn_ x (ge_ G b)) := by
    unfold un_
    exact sm_up (n := 1201) (k := b) (f := fun p => if gw_ G p = 0 ∨ gl_ G p = 0 ∨ f p ≠ 0 then 0 else cn_ x (ge_ G p)) (g := fun p => if gw_ G p = 0 ∨ gl_ G p = 0 ∨ va_up f b (v + 1) p ≠ 0 then 0 else cn_ x (ge_ G p)) (by omega) (fun i _ hi => by rw [vu_ne hi])
  rw [if_neg (by omega), if_pos (by rw [va_up_self]; omega)] at h
  omega
theorem un_leaf {G : Sg_} {f : Nat → Nat} {b v : Nat} (hl : gl_ G b = 0) (x : Nat) : un_ G (va_up f b v) x = un_ G f x := sm_congr (fun p _ => by
  by_cases e : p = b
  · subst e; simp [hl]
  · rw [vu_ne e])
def Dv_ (G : Sg_) (s : St_) (f : Nat → Nat) (l : Nat) : Prop := (∀ p, 1 ≤ p → p ≤ 1200 → s 6 p = nI (f p)) ∧ (∀ p, 1 ≤ gw_ G p → gl_ G p < l → f p ≠ 0 → s 7 p = nI (kp_ G p) ∧ s 8 p = lz_ (et_ (ge_ G) (gl_ G p) p))
def Fi_ (st st' : St_) : Prop := ∀ k, k < 6 ∨ 8 < k → st' k = st k
theorem Fi_.rf {st : St_} : Fi_ st st := fun _ _ => rfl
theorem Fi_.tr {a b c : St_} (h1 : Fi_ a b) (h2 : Fi_ b c) : Fi_ a c := fun k h3 => (h2 k h3).trans (h1 k h3)
theorem Fi_.w {st s s' : St_} {a i : Nat} {v : Int32} (h : Fi_ st s) (e : s' = ws_1 s a i v) (ha : 6 ≤ a ∧ a ≤ 8) : Fi_ st s' := fun k hk => by rw [e, ws_1_arr (by omega)]; exact h k hk
section CK
variable {w : Nat} {G : Sg_} {R : Nat → Nat}
theorem Fi_.rp {st s : St_} (h : Fi_ st s) (hR : Rp_ w st G) : Rp_ w s G := hR.cong (fun k hk => h k (by omega))
theorem ge_so (hw : 5 ≤ w) (hI : Ic_ w [] 16 R [] G) {b : Nat} (hb : 1 ≤ gw_ G b) : so_ (ge_ G b) := by
  have hl := (hI.1 b hb).2.2
  have hv := hI.2.2.2 b hb hl
  cases hn : gl_ G b with
  | zero => have := hv.2.1; rw [hn] at this; exact this
  | succ n =>
    have hs := hv.2.1
    rw [hn, et_succ] at hs
    have hk : ∀ e ∈ ge_ G b, (et_ (ge_ G) n e.2).head?.map Prod.fst = some e.1 := fun e he => by
      obtain ⟨g1, g2, g3, g4⟩ := hI.child hb hl (by omega) he
      rw [et_hd hw hI n e.2 g1 (by omega) (by omega)]
      exact g4
    have : ∀ L : List (Nat × Nat), (∀ e ∈ L, (et_ (ge_ G) n e.2).head?.map Prod.fst = some e.1) → so_ (fm_ (ge_ G) n L) → so_ L := by
      intro L
      induction L with
      | nil => intro _ _; exact so_nil
      | cons e L ih =>
        intro h1 h2
        rw [fm_cons] at h2
        obtain ⟨s1, s2, s3⟩ := so_app.mp h2
        refine so_cons.mpr ⟨fun y hy => ?_, ih (fun d hd => h1 d (List.mem_cons_of_mem _ hd)) s2⟩
        obtain ⟨q, hq, hq1⟩ := hd_mem (h1 e List.mem_cons_self)
        obtain ⟨r, hr, hr1⟩ := hd_mem (h1 y (List.mem_cons_of_mem _ hy))
        have := s3 q hq r (List.mem_flatMap.mpr ⟨y, hy, hr⟩)
        omega
    exact this _ hk hs
theorem p_hasOrder {s : St_} {b : Nat} {post : Int32 → St_ → Prop} (hw : 5 ≤ w ∧ w ≤ 32) (hR : Rp_ w s G) (hb : 1 ≤ b ∧ b ≤ 1200) (hso : so_ (ge_ G b)) (h1 : 1 ≤ (ge_ G b).length) (h2 : (ge_ G b).length + 1 ≤ w) (k : post 1 s) : wp_I_hasOrder w (nI b) s post := by
  unfold wp_I_hasOrder
  have hloop : ∀ (n i : Nat), 1 ≤ i → i ≤ (ge_ G b).length → (ge_ G b).length < n + i → wp_I_hasOrder_26 w post n (nI b) (nI (ge_ G b).length) (nI i) s := by
    intro n
    induction n with
    | zero => intro i _ _ _; omega
    | succ n ih =>
      intro i i1 i2 i3
      refine pk_le (ge_ G b).length i (fun hle => ?_) (fun hlt => ?_) rfl rfl (by omega) (by omega)
      · refine p_key (i := 0) hw hR hb (by omega) (p_S_isKey1 (hR.bd (by omega)).1 (br_f (by decide) ?_))
        rw [nI_p h1]
        exact p_key hw hR hb (by omega) (p_S_isKey1 (hR.bd (by omega)).1 (br_f (by decide) k))
      · rw [nI_p i1]
        refine p_key hw hR hb (by omega) (p_key hw hR hb hlt (br_t (nI_lt (so_ix hso (by omega) hlt) ?_) (fun y hy => ?_)))
        · have := (hR.bd hlt).1; omega
        · rw [hy, nI_1]
          exact ih (i + 1) (by omega) (by omega) (by omega)
  refine p_size hR hb (br_f (nI_nlt (b := 1) h1 (by omega)) (br_t (nI_le (by omega) (by omega)) ⟨(ge_ G b).length, ?_⟩))
  exact hloop _ 1 (by omega) h1 (by omega)
theorem p_faultOfLeaf {s : St_} {b : Nat} {post : Int32 → St_ → Prop} (hw : 5 ≤ w ∧ w ≤ 32) (hR : Rp_ w s G) (hb : 1 ≤ b ∧ b ≤ 1200) (h1 : 1 ≤ (ge_ G b).length)
    (k : ∀ s1 s2, s1 = ws_1 s 7 b (nI (ge_ G b).length) → s2 = ws_1 s1 8 b (lz_ (ge_ G b)) → post 0 s2) : wp_I_faultOfLeaf w (nI b) s post := by
  unfold wp_I_faultOfLeaf
  have h2 := (hR.1 b hb.1 hb.2).2.2.2.1
  have hloop : ∀ (n i : Nat), i ≤ (ge_ G b).length → (ge_ G b).length < n + i → wp_I_faultOfLeaf_11 w post n (nI b) (nI (ge_ G b).length) (nI i) s := by
    intro n
    induction n with
    | zero => intro i _ _; omega
    | succ n ih =>
      intro i i2 i3
      refine pk_le (ge_ G b).length i (fun hle => ?_) (fun hlt => ?_) rfl rfl (by omega) (by omega)
      · refine ⟨vp_in_nI (by omega) (by omega), fun s1 e1 => ?_⟩
        rw [nI_clamp (n := b) (by omega)] at e1
        rw [nI_p h1]
        have hR1 : Rp_ w s1 G := hR.cong (fun q hq => by rw [e1, ws_1_arr (by omega)])
        refine p_key hw hR1 hb (by omega) ⟨vp_in_nI (by omega) (by omega), fun s2 e2 => ?_⟩
        rw [nI_clamp (n := b) (by omega), ← lz_end h1] at e2
        exact k s1 s2 e1 e2
      · refine p_goal hw hR hb hlt (p_S_isStamp1 (hR.bd hlt).2 (rb_t (by decide) (fun y hy => ?_)))
        rw [hy, nI_1]
        exact ih (i + 1) (by omega) (by omega)
  exact p_size hR hb ⟨(ge_ G b).length + 1, hloop _ 0 (by omega) (by omega)⟩
theorem p_faultBelow {st0 : St_} (hw : 5 ≤ w ∧ w ≤ 32) (hR0 : Rp_ w st0 G) (hI : Ic_ w [] 16 R [] G) :
    ∀ (n d b : Nat) (f : Nat → Nat) (s : St_) (post : Int32 → St_ → Prop), n < d → gl_ G b = n → 1 ≤ gw_ G b → Dv_ G s f (n + 1) → Fi_ st0 s → (∀ x, 1 ≤ x → f x + un_ G f x + (if x = b then 1 else 0) < 2 ^ 31) →
    (∀ s' f', Dv_ G s' f' (n + 1) → Fi_ st0 s' → f' b ≠ 0 → (∀ x, 1 ≤ x → f' x + un_ G f' x = f x + un_ G f x + (if x = b then 1 else 0)) → (∀ p, n < gl_ G p → f' p = f p ∧ s' 7 p = s 7 p ∧ s' 8 p = s 8 p) → post 0 s') → wp_I_faultBelow w d (nI b) (nI n) s post := by
  intro n
  induction n with
  | zero =>
    intro d b f s post hd hgl hu hD hF hB k
    obtain ⟨d, rfl⟩ : ∃ q, d = q + 1 := ⟨d - 1, by omega⟩
    obtain ⟨b1, b2, b3⟩ := hI.1 b hu
    have hv := hI.2.2.2 b hu b3
    have hfb := hB b b1
    rw [if_pos rfl] at hfb
    show (_ → _) ∧ (_ → _)
    refine br_f (by decide) (br_f (by decide) (p_isBlock ⟨b1, b2⟩ (rb_t (by decide) ⟨vp_in_nI (by omega) (by omega), vp_in_nI (by omega) (by omega), fun s1 e1 => ⟨vp_in_nI (by omega) (by omega), ?_⟩⟩)))
    rw [nI_clamp (n := b) (by omega), hD.1 b b1 b2, nI_1] at e1
    have hF1 : Fi_ st0 s1 := hF.w e1 (by omega)
    have e6 : s1 6 b = nI (f b + 1) := by rw [e1, ws_1_at]
    have hD1 : ∀ p, 1 ≤ p → p ≤ 1200 → s1 6 p = nI (va_up f b (f b + 1) p) := fun p p1 p2 => by
      by_cases e : p = b
      · subst e; rw [va_up_self, e6]
      · rw [vu_ne e, e1, ws_1_ne e]; exact hD.1 p p1 p2
    have hPhi : ∀ x, 1 ≤ x → va_up f b (f b + 1) x + un_ G (va_up f b (f b + 1)) x = f x + un_ G f x + (if x = b then 1 else 0) := fun x _ => by
      rw [un_leaf hgl]
      by_cases e : x = b
      · subst e; rw [va_up_self, if_pos rfl]; omega
      · rw [vu_ne e, if_neg e]; rfl
    rw [nI_clamp (n := b) (by omega), e6]
    by_cases h0 : f b = 0
    · rw [h0]
      refine br_t (by decide) (p_hasOrder hw (hF1.rp hR0) ⟨b1, b2⟩ (ge_so hw.1 hI hu) (hv.1 (by simp)).1 (hv.1 (by simp)).2 (rb_t (by decide) (rb_f rfl (p_faultOfLeaf hw (hF1.rp hR0) ⟨b1, b2⟩ (hv.1 (by simp)).1 (fun s2 s3 e2 e3 => ?_)))))
      refine k s3 (va_up f b (f b + 1)) ⟨fun p p1 p2 => by rw [e3, ws_1_arr (by decide), e2, ws_1_arr (by decide)]; exact hD1 p p1 p2, fun p hp hpl hpf => ?_⟩ ((hF1.w e2 (by omega)).w e3 (by omega)) (by rw [va_up_self]; omega) hPhi (fun p hp => ?_)
      · by_cases e : p = b
        · subst e
          rw [e3, ws_1_at, ws_1_arr (by decide), e2, ws_1_at]
          show _ = nI (et_ (ge_ G) (gl_ G p) p).length ∧ _
          rw [hgl]
          exact ⟨rfl, rfl⟩
        · rw [vu_ne e] at hpf
          rw [e3, ws_1_ne e, ws_1_arr (by decide), e2, ws_1_ne e, ws_1_arr (by decide), e1, ws_1_arr (by decide), ws_1_arr (by decide)]
          exact hD.2 p hp hpl hpf
      · have e : p ≠ b := fun q => by rw [q] at hp; omega
        rw [vu_ne e, e3, ws_1_ne e, ws_1_arr (by decide), e2, ws_1_ne e, ws_1_arr (by decide), e1, ws_1_arr (by decide), ws_1_arr (by decide)]
        exact ⟨rfl, rfl, rfl⟩
    · refine br_f (fun c => ?_) ?_
      · have := (nI_leI (a := f b + 1) (b := 1) (by omega) (by omega)).mp c; omega
      · refine k s1 (va_up f b (f b + 1)) ⟨hD1, fun p hp hpl hpf => ?_⟩ hF1 (by rw [va_up_self]; omega) hPhi (fun p hp => ?_)
        · rw [e1, ws_1_arr (by decide), ws_1_arr (by decide)]
          refine hD.2 p hp hpl ?_
          by_cases e : p = b
          · rw [e]; exact h0
          · rw [vu_ne e] at hpf; exact hpf
        · have e : p ≠ b := fun q => by rw [q] at hp; omega
          rw [vu_ne e, e1, ws_1_arr (by decide), ws_1_arr (by decide)]
          exact ⟨rfl, rfl, rfl⟩
  | succ n ih =>
    intro d b f s post hd hgl hu hD hF hB k
    obtain ⟨d, rfl⟩ : ∃ q, d = q + 1 := ⟨d - 1, by omega⟩
    obtain ⟨b1, b2, b3⟩ := hI.1 b hu
    have hv := hI.2.2.2 b hu b3
    have hfb := hB b b1
    rw [if_pos rfl] at hfb
    have hlw := (hR0.1 b b1 b2).2.2.2.1
    show (_ → _) ∧ (_ → _)
    refine br_f (nI_pos (by omega)) (br_f (nI_nlt (a := 16) (by omega) (by omega)) (p_isBlock ⟨b1, b2⟩ (rb_t (by decide) ⟨vp_in_nI (by omega) (by omega), vp_in_nI (by omega) (by omega), fun s1 e1 => ⟨vp_in_nI (by omega) (by omega), ?_⟩⟩)))
    rw [nI_clamp (n := b) (by omega), hD.1 b b1 b2, nI_1] at e1
    have hF1 : Fi_ st0 s1 := hF.w e1 (by omega)
    have e6 : s1 6 b = nI (f b + 1) := by rw [e1, ws_1_at]
    have hD1 : ∀ p, 1 ≤ p → p ≤ 1200 → s1 6 p = nI (va_up f b (f b + 1) p) := fun p p1 p2 => by
      by_cases e : p = b
      · subst e; rw [va_up_self, e6]
      · rw [vu_ne e, e1, ws_1_ne e]; exact hD.1 p p1 p2
    rw [nI_clamp (n := b) (by omega), e6]
    by_cases h0 : f b = 0
    · have hUn : ∀ x, va_up f b (f b + 1) x + un_ G (va_up f b (f b + 1)) x + cn_ x (ge_ G b) = f x + un_ G f x + (if x = b then 1 else 0) := fun x => by
        have := un_hit (x := x) (v := f b) b2 hu h0 (by omega)
        by_cases e : x = b
        · subst e; rw [va_up_self, if_pos rfl]; omega
        · rw [vu_ne e, if_neg e]; omega
      have hloop : ∀ (m i : Nat) (s2 : St_) (f2 : Nat → Nat), i ≤ (ge_ G b).length → (ge_ G b).length < m + i → Dv_ G s2 f2 (n + 1) → Fi_ st0 s2 → (∀ x, 1 ≤ x → f2 x + un_ G f2 x = va_up f b (f b + 1) x + un_ G (va_up f b (f b + 1)) x + cn_ x ((ge_ G b).take i)) →
          (∀ p, n < gl_ G p → f2 p = va_up f b (f b + 1) p ∧ s2 7 p = s1 7 p ∧ s2 8 p = s1 8 p) → wp_I_faultOfNode_19 w (wp_I_faultBelow w d) post m (nI b) (nI (n + 1)) (nI (ge_ G b).length) (nI (fm_ (ge_ G) n ((ge_ G b).take i)).length) (lz_ (fm_ (ge_ G) n ((ge_ G b).take i))) (nI i) s2 := by
        intro m
        induction m with
        | zero => intro i s2 f2 h1 h2; omega
        | succ m ihm =>
          intro i s2 f2 hi hm hD2 hF2 hP2 hfr
          have hR2 := hF2.rp hR0
          refine pk_le (ge_ G b).length i (fun hle => ?_) (fun hlt => ?_) rfl rfl (by omega) (by omega)
          · refine ⟨vp_in_nI (by omega) (by omega), fun s3 e3 => ⟨vp_in_nI (by omega) (by omega), fun s4 e4 => ?_⟩⟩
            rw [nI_clamp (n := b) (by omega), List.take_of_length_le hle] at e3 e4
            rw [List.take_of_length_le hle] at hP2
            refine k s4 f2 ⟨fun p p1 p2 => by rw [e4, ws_1_arr (by decide), e3, ws_1_arr (by decide)]; exact hD2.1 p p1 p2, fun p hp hpl hpf => ?_⟩ ((hF2.w e3 (by omega)).w e4 (by omega)) (by rw [(hfr b (by omega)).1, va_up_self]; omega) (fun x hx => by rw [hP2 x hx]; exact hUn x) (fun p hp => ?_)
            · by_cases e : p = b
              · subst e
                rw [e4, ws_1_at, ws_1_arr (by decide), e3, ws_1_at]
                show _ = nI (et_ (ge_ G) (gl_ G p) p).length ∧ _
                rw [hgl]
                exact ⟨rfl, rfl⟩
              · rw [e4, ws_1_ne e, ws_1_arr (by decide), e3, ws_1_ne e, ws_1_arr (by decide)]
                by_cases hpn : gl_ G p < n + 1
                · exact hD2.2 p hp hpn hpf
                · obtain ⟨x1, x2, x3⟩ := hfr p (by omega)
                  rw [x1, vu_ne e] at hpf
                  rw [x2, x3, e1, ws_1_arr (by decide), ws_1_arr (by decide)]
                  exact hD.2 p hp hpl hpf
            · have e : p ≠ b := fun q => by rw [q] at hp; omega
              obtain ⟨x1, x2, x3⟩ := hfr p (by omega)
              rw [e4, ws_1_ne e, ws_1_arr (by decide), e3, ws_1_ne e, ws_1_arr (by decide), x1, x2, x3, vu_ne e, e1, ws_1_arr (by decide), ws_1_arr (by decide)]
              exact ⟨rfl, rfl, rfl⟩
          · have hcm := gd_mem hlt
            obtain ⟨g1, g2, g3, g4⟩ := hI.child hu b3 (by omega) hcm
            obtain ⟨c1, c2, c3⟩ := hI.1 _ g1
            have hcl := hd_len g4
            have hcw := (hR0.1 _ c1 c2).2.2.2.1
            have htk : fm_ (ge_ G) n ((ge_ G b).take (i + 1)) = fm_ (ge_ G) n ((ge_ G b).take i) ++ et_ (ge_ G) n ((ge_ G b).getD i (0, 0)).2 := by
              rw [tk_1 hlt, fm_app, fm_cons, fm_nil, List.append_nil]
            have hcn : ∀ x, cn_ x ((ge_ G b).take (i + 1)) = cn_ x ((ge_ G b).take i) + (if x = ((ge_ G b).getD i (0, 0)).2 then 1 else 0) := fun x => by
              rw [tk_1 hlt, cn_app]
              simp only [cn_, Nat.add_zero, eq_comm]
            refine p_goal hw hR2 ⟨b1, b2⟩ hlt (p_isBlock ⟨c1, c2⟩ (br_f (by decide) (p_level hR2 ⟨c1, c2⟩ (br_t (by rw [nI_pred]; congr 1; omega) (p_size hR2 ⟨c1, c2⟩ (br_t (nI_le (g3 (by simp)) (by omega)) ?_))))))
            rw [nI_pred]
            refine ih d _ f2 s2 _ (by omega) (by omega) g1 hD2 hF2 (fun x hx => ?_) (fun s3 f3 hD3 hF3 hfc hP3 hfr3 => ?_)
            · have h1 := hP2 x hx
              have h2 := hcn x
              have h3 := hUn x
              have h4 := hB x hx
              have h5 : cn_ x (ge_ G b) = cn_ x ((ge_ G b).take (i + 1)) + cn_ x ((ge_ G b).drop (i + 1)) := by rw [← cn_app, List.take_append_drop]
              omega
            · have hR3 := hF3.rp hR0
              have hk0 : ((ge_ G ((ge_ G b).getD i (0, 0)).2).getD 0 (0, 0)).1 = ((ge_ G b).getD i (0, 0)).1 := by
                cases hq : ge_ G ((ge_ G b).getD i (0, 0)).2 with
                | nil => rw [hq] at g4; simp at g4
                | cons e L => rw [hq] at g4; simpa using g4
              have hfin := hD3.2 _ g1 (by omega) hfc
              have hne : et_ (ge_ G) n ((ge_ G b).getD i (0, 0)).2 ≠ [] := fun q => by
                have := kp_one hw.1 hI hu (by omega) hgl hcm
                rw [q] at this; simp at this
              refine br_t rfl (p_key hw hR3 ⟨b1, b2⟩ hlt (p_key (i := 0) hw hR3 ⟨c1, c2⟩ (by omega) (rb_f (by rw [hk0]) (br_t ?_ ⟨vp_in_nI (by omega) (by omega), fun y1 hy1 => ⟨vp_in_nI (by omega) (by omega), fun y2 hy2 y3 hy3 => ?_⟩⟩))))
              · refine lz_lt (hR0.bd hlt).1 (fun q hq => ?_)
                have hso := hv.2.1
                rw [hgl, et_succ, spl_ hlt, fm_app, fm_cons] at hso
                obtain ⟨-, -, hs3⟩ := so_app.mp hso
                have hh := et_hd hw.1 hI n ((ge_ G b).getD i (0, 0)).2 g1 (by omega) (by omega)
                rw [g4] at hh
                obtain ⟨r, hr, hr1⟩ := hd_mem hh
                have := hs3 q hq r (List.mem_append_left _ hr)
                omega
              · rw [nI_clamp (n := ((ge_ G b).getD i (0, 0)).2) (by omega)] at hy1 hy2
                rw [hfin.2] at hy1
                rw [hfin.1, nI_add] at hy2
                rw [hy1, hy2, hy3, nI_1]
                have hgc : gl_ G ((ge_ G b).getD i (0, 0)).2 = n := by omega
                have hih := ihm (i + 1) s3 f3 (by omega) (by omega) hD3 hF3 (fun x hx => by rw [hP3 x hx, hP2 x hx, hcn x]; omega) (fun p hp => by
                  obtain ⟨x1, x2, x3⟩ := hfr3 p hp
                  obtain ⟨y1, y2, y3⟩ := hfr p hp
                  exact ⟨x1.trans y1, x2.trans y2, x3.trans y3⟩)
                rw [htk, lz_app hne, List.length_append] at hih
                show wp_I_faultOfNode_19 w (wp_I_faultBelow w d) post m (nI b) (nI (n + 1)) (nI (ge_ G b).length) (nI ((fm_ (ge_ G) n ((ge_ G b).take i)).length + (et_ (ge_ G) (gl_ G ((ge_ G b).getD i (0, 0)).2) ((ge_ G b).getD i (0, 0)).2).length)) _ _ s3
                rw [hgc]
                exact hih
      rw [h0]
      refine br_t (by decide) (p_hasOrder hw (hF1.rp hR0) ⟨b1, b2⟩ (ge_so hw.1 hI hu) (hv.1 (by simp)).1 (hv.1 (by simp)).2 (rb_t (by decide) (rb_t (nI_ne0 (by omega) (by omega)) ?_)))
      unfold wp_I_faultOfNode
      refine p_size (hF1.rp hR0) ⟨b1, b2⟩ ⟨(ge_ G b).length + 1, hloop _ 0 s1 (va_up f b (f b + 1)) (by omega) (by omega) ⟨hD1, fun p hp hpl hpf => ?_⟩ hF1 (fun x _ => by simp [cn_]) (fun p _ => ⟨rfl, rfl, rfl⟩)⟩
      have e : p ≠ b := fun q => by rw [q] at hpl; omega
      rw [vu_ne e] at hpf
      rw [e1, ws_1_arr (by decide), ws_1_arr (by decide)]
      exact hD.2 p hp (by omega) hpf
    · refine br_f (fun c => ?_) ?_
      · have := (nI_leI (a := f b + 1) (b := 1) (by omega) (by omega)).mp c; omega
      · refine k s1 (va_up f b (f b + 1)) ⟨hD1, fun p hp hpl hpf => ?_⟩ hF1 (by rw [va_up_self]; omega) (fun x _ => ?_) (fun p hp => ?_)
        · rw [e1, ws_1_arr (by decide), ws_1_arr (by decide)]
          refine hD.2 p hp hpl ?_
          by_cases e : p = b
          · rw [e]; exact h0
          · rw [vu_ne e] at hpf; exact hpf
        · rw [un_cong (f := f) (fun p => by
            by_cases e : p = b
            · subst e; rw [va_up_self]; omega
            · rw [vu_ne e]) x]
          by_cases e : x = b
          · subst e; rw [va_up_self, if_pos rfl]; omega
          · rw [vu_ne e, if_neg e]; rfl
        · have e : p ≠ b := fun q => by rw [q] at hp; omega
          rw [vu_ne e, e1, ws_1_arr (by decide), ws_1_arr (by decide)]
          exact ⟨rfl, rfl, rfl⟩
end CK
