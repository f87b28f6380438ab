-- PURE: what holds at the start
def gq_ (n : Nat) : List Nat := (List.range n).map (fun i => n - i)
theorem gq_get {n i : Nat} (hi : i < n) : (gq_ n).getD i 0 = n - i := by
  unfold gq_
  rw [List.getD_eq_getElem?_getD, List.getElem?_map, List.getElem?_range hi]
  rfl
theorem gq_len (n : Nat) : (gq_ n).length = n := by
  unfold gq_
  rw [List.length_map, List.length_range]
theorem gq_mem {n b : Nat} : b ∈ gq_ n ↔ 1 ≤ b ∧ b ≤ n := by
  unfold gq_
  rw [List.mem_map]
  constructor
  · rintro ⟨i, hi, e⟩
    rw [List.mem_range] at hi
    omega
  · rintro ⟨h1, h2⟩
    exact ⟨n - b, List.mem_range.mpr (by omega), by omega⟩
theorem gq_nd (n : Nat) : (gq_ n).Nodup := by
  unfold gq_ List.Nodup
  rw [List.pairwise_map]
  exact List.Pairwise.imp_of_mem (fun ha hb h => by
    rw [List.mem_range] at ha hb
    omega) List.pairwise_lt_range
def Gz_ (f : List Nat) : Sg_ := (fun _ => 0, fun _ => 0, fun _ => [], f)
theorem gz_gf (f : List Nat) : gf_ (Gz_ f) = f := rfl
theorem gz_ic {w : Nat} {f : List Nat} (gz_nd : f.Nodup) (gz_mem : ∀ {b}, b ∈ f ↔ 1 ≤ b ∧ b ≤ 1200) : Ic_ w [] 16 (RR_ (fun _ => 0) (fun _ => 0)) [] (Gz_ f) := by
  have hz : ∀ y, gw_ (Gz_ f) y = 0 := fun _ => rfl
  refine ⟨fun b hb => by rw [hz] at hb; omega, ⟨gz_nd, fun b hb => ⟨(gz_mem.mp hb).1, (gz_mem.mp hb).2, hz b⟩, fun b b1 b2 _ => Or.inl (gz_mem.mpr ⟨b1, b2⟩)⟩, fun b hb => ?_, fun b hb => by rw [hz] at hb; omega⟩
  have h1 : eg_ (Gz_ f) b = 0 := sm_0 (fun p _ => by rw [hz]; simp)
  have h2 : RR_ (fun _ => 0) (fun _ => 0) b = 0 := by
    have : sm_ 8 (fun _ => if 0 = b then 1 else 0) = 0 := sm_0 (fun i _ => by rw [if_neg (by omega)])
    simp only [RR_, this]
  rw [hz, h1, h2]
theorem IV_init0 {w : Nat} {st : St_} {f : List Nat} (gz_nd : f.Nodup) (gz_mem : ∀ {b}, b ∈ f ↔ 1 ≤ b ∧ b ≤ 1200) (gz_len : f.length = 1200) (gz_get : ∀ {i}, i < 1200 → f.getD i 0 = 1200 - i) (h5 : ∀ i, i < 1200 → st 5 i = nI (1200 - i)) (h18 : st 18 0 = nI 1200) (hz : ∀ k, k ≤ 20 → k ≠ 5 → k ≠ 18 → ∀ i, st k i = 0) : IV_ w st := by
  have hln : sm_ 8 (ln_ (Gz_ f) (fun _ => 0)) = 0 := sm_0 (fun i _ => rfl)
  have hR : Rp_ w st (Gz_ f) := by
    refine ⟨fun b b1 b2 => ⟨hz 0 (by omega) (by omega) (by omega) b, hz 1 (by omega) (by omega) (by omega) b, hz 2 (by omega) (by omega) (by omega) b, Nat.zero_le _, fun i hi => absurd hi (Nat.not_lt_zero i)⟩, fun b e he => absurd he (List.not_mem_nil), by rw [gz_gf, gz_len]; exact h18, by rw [gz_gf, gz_len]; exact Nat.le_refl _, fun i hi => ?_, hz 2 (by omega) (by omega) (by omega) 0⟩
    rw [gz_gf, gz_len] at hi
    rw [gz_gf, gz_get hi]; exact h5 i hi
  have hT : T0_ w st (Gz_ f) (fun _ => 0) (fun _ => 0) := ⟨hR, gz_ic gz_nd gz_mem, fun i _ => ⟨Nat.zero_le _, hz 10 (by omega) (by omega) (by omega) i, hz 11 (by omega) (by omega) (by omega) i, fun q => absurd q (Nat.not_succ_le_zero 0)⟩, fun i _ => ⟨Nat.zero_le _, hz 12 (by omega) (by omega) (by omega) i, hz 13 (by omega) (by omega) (by omega) i, fun q => absurd q (Nat.not_succ_le_zero 0)⟩, by rw [hln]; exact hz 19 (by omega) (by omega) (by omega) 0, by rw [hln]; exact hz 20 (by omega) (by omega) (by omega) 0⟩
  have hnl : nl8_ (fun _ => []) = 0 := sm_0 (fun i _ => rfl)
  have hNd : Nd_ (fun _ => []) := ⟨fun m _ => ⟨so_nil, fun q hq => absurd hq List.not_mem_nil⟩, by rw [hnl]; omega⟩
  refine ⟨fun _ => [], fun _ => [], ⟨Gz_ f, fun _ => 0, fun _ => 0, ⟨hT, by rw [hln]; omega, by rw [hln]; omega⟩, fun i _ => rfl, fun i _ => rfl⟩, fun m _ k _ => ⟨fun s hs => absurd hs List.not_mem_nil, fun _ => hz 14 (by omega) (by omega) (by omega) _⟩, fun m _ k _ => ⟨fun s hs => absurd hs List.not_mem_nil, fun _ => hz 15 (by omega) (by omega) (by omega) _⟩, fun m _ => hz 16 (by omega) (by omega) (by omega) m, fun m _ => hz 17 (by omega) (by omega) (by omega) m, hNd, hNd⟩
theorem IV_init {w : Nat} {st : St_} (h5 : ∀ i, i < 1200 → st 5 i = nI (1200 - i)) (h18 : st 18 0 = nI 1200) (hz : ∀ k, k ≤ 20 → k ≠ 5 → k ≠ 18 → ∀ i, st k i = 0) : IV_ w st := IV_init0 (gq_nd 1200) gq_mem (gq_len 1200) gq_get h5 h18 hz
