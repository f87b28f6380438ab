-- PURE: the store of blocks as mathematics: ways, levels, entries of each block, the list of free blocks
abbrev Sg_ : Type := (Nat → Nat) × (Nat → Nat) × (Nat → List (Nat × Nat)) × List Nat
abbrev gw_ (G : Sg_) : Nat → Nat := G.1
abbrev gl_ (G : Sg_) : Nat → Nat := G.2.1
abbrev ge_ (G : Sg_) : Nat → List (Nat × Nat) := G.2.2.1
abbrev gf_ (G : Sg_) : List Nat := G.2.2.2
/-- the arrays of Blocks hold the store G -/
def Rp_ (w : Nat) (st : St_) (G : Sg_) : Prop :=
  (∀ b, 1 ≤ b → b ≤ 1200 → st 0 b = nI (gw_ G b) ∧ st 1 b = nI (gl_ G b) ∧ st 2 b = nI (ge_ G b).length ∧ (ge_ G b).length ≤ w ∧
    ∀ i, i < (ge_ G b).length → st 3 (b * w + i) = nI ((ge_ G b).getD i (0, 0)).1 ∧ st 4 (b * w + i) = nI ((ge_ G b).getD i (0, 0)).2) ∧
  (∀ b, ∀ e ∈ ge_ G b, e.1 < 4096 ∧ e.2 ≤ 1000000000) ∧
  st 18 0 = nI (gf_ G).length ∧ (gf_ G).length ≤ 1200 ∧ (∀ i, i < (gf_ G).length → st 5 i = nI ((gf_ G).getD i 0)) ∧ st 2 0 = 0
/-- all but the arrays of Blocks is as it was -/
def Fr_ (st st' : St_) : Prop := ∀ k, 6 ≤ k → k ≠ 18 → st' k = st k
theorem Fr_.rf {st : St_} : Fr_ st st := fun _ _ _ => rfl
theorem Fr_.tr {a b c : St_} (h1 : Fr_ a b) (h2 : Fr_ b c) : Fr_ a c := fun k h3 h4 => (h2 k h3 h4).trans (h1 k h3 h4)
theorem rb_t {c A B : Prop} (h : ¬ c) (a : A) : (¬ c → A) ∧ (c → B) := ⟨fun _ => a, fun q => absurd q h⟩
theorem rb_f {c A B : Prop} (h : c) (b : B) : (¬ c → A) ∧ (c → B) := ⟨fun q => absurd h q, fun _ => b⟩
theorem ix_lt {b i w : Nat} (hb : b ≤ 1200) (hi : i < w) : b * w + i < 1201 * w := by
  have h1 : b * w ≤ 1200 * w := Nat.mul_le_mul_right w hb
  omega
theorem ix_inj {b c i j w : Nat} (hi : i < w) (hj : j < w) (h : b * w + i = c * w + j) : b = c ∧ i = j := by
  have hw : 0 < w := by omega
  have h1 : (b * w + i) / w = b := by rw [Nat.mul_comm, Nat.mul_add_div hw, Nat.div_eq_of_lt hi]; rfl
  have h2 : (c * w + j) / w = c := by rw [Nat.mul_comm, Nat.mul_add_div hw, Nat.div_eq_of_lt hj]; rfl
  have e : b = c := by rw [← h1, ← h2, h]
  subst e
  exact ⟨rfl, by omega⟩
theorem ix_big {w : Nat} (hw : w ≤ 32) : 1201 * w < 2 ^ 31 := by omega
theorem ws_1_at {st : St_} {k i : Nat} {x : Int32} : ws_1 st k i x k i = x := by simp [ws_1, va_up, upd]
theorem ws_1_ne {st : St_} {k i j : Nat} {x : Int32} (h : j ≠ i) : ws_1 st k i x k j = st k j := by simp [ws_1, va_up, upd, h]
theorem ws_1_arr {st : St_} {k i q : Nat} {x : Int32} (h : q ≠ k) : ws_1 st k i x q = st q := by simp [ws_1, va_up, h]
theorem ws_c_arr {st : St_} {k j sp dp n q : Nat} (h : q ≠ j) : ws_c st k j sp dp n q = st q := by simp [ws_c, va_up, h]
section PB
variable {w : Nat} {st : St_} {G : Sg_}
theorem p_isBlock {b : Nat} {post : Int32 → St_ → Prop} (hb : 1 ≤ b ∧ b ≤ 1200) (k : post 1 st) : wp_B_isBlock w (nI b) st post := by
  unfold wp_B_isBlock
  refine br_f (nI_nle (by omega) (by omega)) (br_f (fun c => ?_) k)
  have := (nI_ltI (a := 1200) (b := b) (by omega) (by omega)).mp c
  omega
theorem p_isBlock0 {post : Int32 → St_ → Prop} (k : post 0 st) : wp_B_isBlock w 0 st post := by
  unfold wp_B_isBlock
  exact br_t (by decide) k
theorem p_ways {b : Nat} {post : Int32 → St_ → Prop} (hR : Rp_ w st G) (hb : 1 ≤ b ∧ b ≤ 1200) (k : post (nI (gw_ G b)) st) : wp_B_ways w (nI b) st post := by
  unfold wp_B_ways
  refine p_isBlock hb (br_f (by decide) ⟨vp_in_nI (by omega) (by omega), ?_⟩)
  rw [nI_clamp (by omega), (hR.1 b hb.1 hb.2).1]
  exact k
theorem p_level {b : Nat} {post : Int32 → St_ → Prop} (hR : Rp_ w st G) (hb : 1 ≤ b ∧ b ≤ 1200) (k : post (nI (gl_ G b)) st) : wp_B_level w (nI b) st post := by
  unfold wp_B_level
  refine p_isBlock hb (br_f (by decide) ⟨vp_in_nI (by omega) (by omega), ?_⟩)
  rw [nI_clamp (by omega), (hR.1 b hb.1 hb.2).2.1]
  exact k
theorem p_level0 {post : Int32 → St_ → Prop} (k : post 0 st) : wp_B_level w 0 st post := by
  unfold wp_B_level
  exact p_isBlock0 (br_t rfl k)
theorem p_size {b : Nat} {post : Int32 → St_ → Prop} (hR : Rp_ w st G) (hb : 1 ≤ b ∧ b ≤ 1200) (k : post (nI (ge_ G b).length) st) : wp_B_size w (nI b) st post := by
  unfold wp_B_size
  refine p_isBlock hb (br_f (by decide) ⟨vp_in_nI (by omega) (by omega), ?_⟩)
  rw [nI_clamp (by omega), (hR.1 b hb.1 hb.2).2.2.1]
  exact k
theorem p_size0 {post : Int32 → St_ → Prop} (k : post 0 st) : wp_B_size w 0 st post := by
  unfold wp_B_size
  exact p_isBlock0 (br_t rfl k)
theorem bk_p {b : Nat} (hb : 1 ≤ b ∧ b ≤ 1200) : ¬ nI b < 0 := nI_pos (by omega)
theorem bk_m {b : Nat} (hb : 1 ≤ b ∧ b ≤ 1200) : ¬ 1200 < nI b := nI_nlt (a := 1200) hb.2 (by omega)
theorem p_isEntry {b i : Nat} {post : Int32 → St_ → Prop} (hw : 5 ≤ w ∧ w ≤ 32) (hR : Rp_ w st G) (hb : 1 ≤ b ∧ b ≤ 1200) (hi : i < (ge_ G b).length) (k : post 1 st) : wp_B_isEntry w (nI b) (nI i) st post := by
  unfold wp_B_isEntry
  obtain ⟨h0, h1, h2, h3, h4⟩ := hR.1 b hb.1 hb.2
  refine br_f (bk_p hb) (br_f (bk_m hb) (br_f (nI_pos (by omega)) (br_f (nI_ge (by omega) (by omega)) ⟨vp_in_nI (by omega) (by omega), ?_⟩)))
  rw [nI_clamp (by omega), h2]
  exact br_f (nI_ge hi (by omega)) k
theorem p_isEntryM {b : Nat} {x : Int32} {post : Int32 → St_ → Prop} (hb : 1 ≤ b ∧ b ≤ 1200) (hx : x < 0) (k : post 0 st) : wp_B_isEntry w (nI b) x st post := by
  unfold wp_B_isEntry
  exact br_f (bk_p hb) (br_f (bk_m hb) (br_t hx k))
theorem p_isEntryO {b i : Nat} {post : Int32 → St_ → Prop} (hw : 5 ≤ w ∧ w ≤ 32) (hR : Rp_ w st G) (hb : 1 ≤ b ∧ b ≤ 1200) (hi : (ge_ G b).length ≤ i) (hi2 : i < 2 ^ 31) (k : post 0 st) : wp_B_isEntry w (nI b) (nI i) st post := by
  unfold wp_B_isEntry
  obtain ⟨h0, h1, h2, h3, h4⟩ := hR.1 b hb.1 hb.2
  refine br_f (bk_p hb) (br_f (bk_m hb) (br_f (nI_pos (by omega)) (br_c (fun _ => k) (fun _ => ⟨vp_in_nI (by omega) (by omega), ?_⟩))))
  rw [nI_clamp (by omega), h2]
  exact br_t (nI_le hi (by omega)) k
theorem p_isEntry0 {x : Int32} {post : Int32 → St_ → Prop} (hR : Rp_ w st G) (k : post 0 st) : wp_B_isEntry w 0 x st post := by
  unfold wp_B_isEntry
  refine br_f (by decide) (br_f (by decide) (br_c (fun _ => k) (fun hx => br_c (fun _ => k) (fun _ => ⟨(vp_in_nI (by omega) (by omega) : vp_in (nI 0) 1201), br_t ?_ k⟩))))
  rw [show (0 : Int32).toNatClampNeg = 0 from rfl, hR.2.2.2.2.2]
  exact Int32.not_lt.mp hx
theorem ix_e (b i w : Nat) : nI b * nI w + nI i = nI (b * w + i) := by rw [pk_mul, nI_add]
theorem p_key {b i : Nat} {post : Int32 → St_ → Prop} (hw : 5 ≤ w ∧ w ≤ 32) (hR : Rp_ w st G) (hb : 1 ≤ b ∧ b ≤ 1200) (hi : i < (ge_ G b).length) (k : post (nI ((ge_ G b).getD i (0, 0)).1) st) : wp_B_key w (nI b) (nI i) st post := by
  unfold wp_B_key
  obtain ⟨h0, h1, h2, h3, h4⟩ := hR.1 b hb.1 hb.2
  have h5 : b * w + i < 1201 * w := ix_lt hb.2 (by omega)
  have h6 := ix_big hw.2
  refine p_isEntry hw hR hb hi (br_f (by decide) ?_)
  rw [ix_e]
  refine ⟨vp_in_nI h5 h6, ?_⟩
  rw [nI_clamp (by omega), (h4 i hi).1]
  exact k
theorem p_keyM {b : Nat} {x : Int32} {post : Int32 → St_ → Prop} (hb : 1 ≤ b ∧ b ≤ 1200) (hx : x < 0) (k : post (-2) st) : wp_B_key w (nI b) x st post := by
  unfold wp_B_key
  exact p_isEntryM hb hx (br_t rfl k)
theorem p_keyO {b i : Nat} {post : Int32 → St_ → Prop} (hw : 5 ≤ w ∧ w ≤ 32) (hR : Rp_ w st G) (hb : 1 ≤ b ∧ b ≤ 1200) (hi : (ge_ G b).length ≤ i) (hi2 : i < 2 ^ 31) (k : post (-2) st) : wp_B_key w (nI b) (nI i) st post := by
  unfold wp_B_key
  exact p_isEntryO hw hR hb hi hi2 (br_t rfl k)
theorem p_key0 {x : Int32} {post : Int32 → St_ → Prop} (hR : Rp_ w st G) (k : post (-2) st) : wp_B_key w 0 x st post := by
  unfold wp_B_key
  exact p_isEntry0 hR (br_t rfl k)
theorem p_goal {b i : Nat} {post : Int32 → St_ → Prop} (hw : 5 ≤ w ∧ w ≤ 32) (hR : Rp_ w st G) (hb : 1 ≤ b ∧ b ≤ 1200) (hi : i < (ge_ G b).length) (k : post (nI ((ge_ G b).getD i (0, 0)).2) st) : wp_B_goal w (nI b) (nI i) st post := by
  unfold wp_B_goal
  obtain ⟨h0, h1, h2, h3, h4⟩ := hR.1 b hb.1 hb.2
  have h5 : b * w + i < 1201 * w := ix_lt hb.2 (by omega)
  have h6 := ix_big hw.2
  refine p_isEntry hw hR hb hi (br_f (by decide) ?_)
  rw [ix_e]
  refine ⟨vp_in_nI h5 h6, ?_⟩
  rw [nI_clamp (by omega), (h4 i hi).2]
  exact k
/-- the key of an entry is set -/
abbrev sk_ (l : List (Nat × Nat)) (i k : Nat) : List (Nat × Nat) := l.set i (k, (l.getD i (0, 0)).2)
abbrev sg_ (l : List (Nat × Nat)) (i g : Nat) : List (Nat × Nat) := l.set i ((l.getD i (0, 0)).1, g)
abbrev se_ (G : Sg_) (b : Nat) (l : List (Nat × Nat)) : Sg_ := (G.1, G.2.1, va_up G.2.2.1 b l, G.2.2.2)
abbrev sw_ (G : Sg_) (b n : Nat) : Sg_ := (va_up G.1 b n, G.2.1, G.2.2.1, G.2.2.2)
theorem se_at (G : Sg_) (b : Nat) (l : List (Nat × Nat)) : ge_ (se_ G b l) b = l := by
  show va_up G.2.2.1 b l b = l
  simp [va_up]
theorem se_ne (G : Sg_) {b c : Nat} (l : List (Nat × Nat)) (h : c ≠ b) : ge_ (se_ G b l) c = ge_ G c := by
  show va_up G.2.2.1 b l c = G.2.2.1 c
  simp [va_up, h]
theorem getD_set {l : List (Nat × Nat)} {i j : Nat} {e d : Nat × Nat} (hi : i < l.length) : (l.set i e).getD j d = if j = i then e else l.getD j d := by
  simp only [List.getD_eq_getElem?_getD, List.getElem?_set]
  by_cases h : j = i
  · subst h; simp [hi]
  · simp [h, Ne.symm h]
theorem Rp_.bd (hR : Rp_ w st G) {b i : Nat} (hi : i < (ge_ G b).length) : ((ge_ G b).getD i (0, 0)).1 < 4096 ∧ ((ge_ G b).getD i (0, 0)).2 ≤ 1000000000 := by
  refine hR.2.1 b _ ?_
  rw [List.getD_eq_getElem?_getD, List.getElem?_eq_getElem hi]
  exact List.getElem_mem hi
/-- the store with other entries in one block, if the arrays have them -/
theorem Rp_.ents {st' : St_} (hR : Rp_ w st G) {b : Nat} {l : List (Nat × Nat)} (hb0 : 1 ≤ b) (hl : l.length ≤ w) (hbd : ∀ e ∈ l, e.1 < 4096 ∧ e.2 ≤ 1000000000)
    (e0 : st' 0 = st 0) (e1 : st' 1 = st 1) (e5 : st' 5 = st 5) (e18 : st' 18 = st 18) (e2 : ∀ c, c ≠ b → st' 2 c = st 2 c) (e2b : st' 2 b = nI l.length)
    (e3 : ∀ c i, c ≠ b → i < w → st' 3 (c * w + i) = st 3 (c * w + i)) (e4 : ∀ c i, c ≠ b → i < w → st' 4 (c * w + i) = st 4 (c * w + i))
    (e34 : ∀ i, i < l.length → st' 3 (b * w + i) = nI (l.getD i (0, 0)).1 ∧ st' 4 (b * w + i) = nI (l.getD i (0, 0)).2) : Rp_ w st' (se_ G b l) := by
  obtain ⟨h1, h2, h3, h4, h5, hz0⟩ := hR
  refine ⟨fun c c1 c2 => ?_, fun c e he => ?_, by rw [e18]; exact h3, h4, fun i hi => by rw [e5]; exact h5 i hi, by rw [e2 0 (by omega)]; exact hz0⟩
  · obtain ⟨g0, g1, g2, g3, g4⟩ := h1 c c1 c2
    refine ⟨by rw [e0]; exact g0, by rw [e1]; exact g1, ?_⟩
    by_cases hc : c = b
    · subst hc
      rw [se_at]
      exact ⟨e2b, hl, e34⟩
    · rw [se_ne G l hc]
      refine ⟨by rw [e2 c hc]; exact g2, g3, fun i hi => ?_⟩
      rw [e3 c i hc (by omega), e4 c i hc (by omega)]
      exact g4 i hi
  · by_cases hc : c = b
    · subst hc
      rw [se_at] at he
      exact hbd e he
    · rw [se_ne G l hc] at he
      exact h2 c e he
theorem p_setKey {b i x : Nat} {post : St_ → Prop} (hw : 5 ≤ w ∧ w ≤ 32) (hR : Rp_ w st G) (hb : 1 ≤ b ∧ b ≤ 1200) (hi : i < (ge_ G b).length) (hx : x < 4096)
    (k : ∀ st', Rp_ w st' (se_ G b (sk_ (ge_ G b) i x)) → Fr_ st st' → post st') : wp_B_setKey w (nI b) (nI i) (nI x) st post := by
  unfold wp_B_setKey
  obtain ⟨h0, h1, h2, h3, h4⟩ := hR.1 b hb.1 hb.2
  have h5 : b * w + i < 1201 * w := ix_lt hb.2 (by omega)
  have h6 := ix_big hw.2
  refine p_isEntry hw hR hb hi (br_f (by decide) ?_)
  rw [ix_e]
  refine ⟨vp_in_nI h5 h6, fun st' e => ?_⟩
  rw [nI_clamp (by omega)] at e
  subst e
  have hbd := hR.bd hi
  refine k _ (hR.ents hb.1 (by simp; exact h3) (fun e he => ?_) (ws_1_arr (by decide)) (ws_1_arr (by decide)) (ws_1_arr (by decide)) (ws_1_arr (by decide)) (fun c _ => by rw [ws_1_arr (by decide)]) (by rw [ws_1_arr (by decide), List.length_set]; exact h2) (fun c j hc hj => ?_) (fun c j _ _ => by rw [ws_1_arr (by decide)]) (fun j hj => ?_)) (fun q q1 q2 => ws_1_arr (by omega))
  · rcases List.mem_or_eq_of_mem_set he with h | h
    · exact hR.2.1 b e h
    · subst h; exact ⟨hx, hbd.2⟩
  · exact ws_1_ne (fun e => hc (ix_inj hj (by omega) e).1)
  · rw [List.length_set] at hj
    rw [getD_set hi]
    by_cases hji : j = i
    · subst hji
      rw [ws_1_at, ws_1_arr (by decide), (h4 j hj).2]
      simp
    · rw [ws_1_ne (fun e => hji (ix_inj (by omega) (by omega) e).2), ws_1_arr (by decide)]
      simp only [hji, if_false]
      exact h4 j hj
theorem p_setGoal {b i x : Nat} {post : St_ → Prop} (hw : 5 ≤ w ∧ w ≤ 32) (hR : Rp_ w st G) (hb : 1 ≤ b ∧ b ≤ 1200) (hi : i < (ge_ G b).length) (hx : x ≤ 1000000000)
    (k : ∀ st', Rp_ w st' (se_ G b (sg_ (ge_ G b) i x)) → Fr_ st st' → post st') : wp_B_setGoal w (nI b) (nI i) (nI x) st post := by
  unfold wp_B_setGoal
  obtain ⟨h0, h1, h2, h3, h4⟩ := hR.1 b hb.1 hb.2
  have h5 : b * w + i < 1201 * w := ix_lt hb.2 (by omega)
  have h6 := ix_big hw.2
  refine p_isEntry hw hR hb hi (br_f (by decide) ?_)
  rw [ix_e]
  refine ⟨vp_in_nI h5 h6, fun st' e => ?_⟩
  rw [nI_clamp (by omega)] at e
  subst e
  have hbd := hR.bd hi
  refine k _ (hR.ents hb.1 (by simp; exact h3) (fun e he => ?_) (ws_1_arr (by decide)) (ws_1_arr (by decide)) (ws_1_arr (by decide)) (ws_1_arr (by decide)) (fun c _ => by rw [ws_1_arr (by decide)]) (by rw [ws_1_arr (by decide), List.length_set]; exact h2) (fun c j _ _ => by rw [ws_1_arr (by decide)]) (fun c j hc hj => ?_) (fun j hj => ?_)) (fun q q1 q2 => ws_1_arr (by omega))
  · rcases List.mem_or_eq_of_mem_set he with h | h
    · exact hR.2.1 b e h
    · subst h; exact ⟨hbd.1, hx⟩
  · exact ws_1_ne (fun e => hc (ix_inj hj (by omega) e).1)
  · rw [List.length_set] at hj
    rw [getD_set hi]
    by_cases hji : j = i
    · subst hji
      rw [ws_1_at, ws_1_arr (by decide), (h4 j hj).1]
      simp
    · rw [ws_1_ne (fun e => hji (ix_inj (by omega) (by omega) e).2), ws_1_arr (by decide)]
      simp only [hji, if_false]
      exact h4 j hj
end PB
