-- the arms of the law
set_option maxHeartbeats 4000000 in
set_option maxRecDepth 100000 in
theorem arm_write {p : Program} {e : Env} {s : State} {m : MethodId} {below : List Frame} {meth : Method} {c : Code} (l : Launch) {b L : Nat} {xs : Nat → Int32} (hL : L ≤ 3073) (C0 : lw_At p s m meth c b L xs) {D : va_G} {ad : Nat → Nat} {cA : Nat → ClassId} {w : Nat} (hw : 5 ≤ w ∧ w ≤ 32) (hJ : Jn_ ad) (hAd : ∀ k, k < 25 → s.heap.size ≤ ad k) (hK : va_K D sC_ (ty_ cA) s) {i : Nat} (hi : i + 6 ≤ L) {st : St_} (hV : IV_ w st) {H : Heap} (hP : va_P D sC_ (wd_ ad cA w st) H) (hS0 : va_S (fun q : Nat => s.heap.size ≤ q) s.heap H []) {ls : Array Slot} (hl : lv_has ls 4 [(3, .int (nI i)), (0, .ref b), (1, .ref (ad 18)), (2, .ref (ad 24))])
    (kk : ∀ (st2 : St_) (H2 : Heap), IV_ w st2 → va_P D sC_ (wd_ ad cA w st2) H2 → va_S (fun q : Nat => s.heap.size ≤ q) s.heap H2 [] → W p l e room_1 s m #[Value.ref b] below meth c H2 [] 25 152088 (lw_Z below #[Value.ref b] s) (F0 m 470 ls [])) : W p l e room_1 s m #[Value.ref b] below meth c H [] 25 152088 (lw_Z below #[Value.ref b] s) (F0 m 104 ls []) := by
  obtain ⟨hx, hb, hr, hml, hown, hts, hX, hbl, hlocks, hgv⟩ := id C0
  have hN := NW_law hts
  have hbA : ¬ Aw_ ad b := fun ⟨k, hk, e⟩ => by have := hAd k hk; omega
  have hXH : va_X b L xs s H := hX.kept (hS0.2.1 b hbl (Nat.not_le.mpr hbl))
  have hbH : b < H.size := Nat.lt_of_lt_of_le hbl hS0.1
  have hS : va_S (Aw_ ad) H H [] := va_S.rf
  refine lv_aload_n hx hb dc_L_law_104 rfl (lv_at hl 2 rfl) ?_
  refine lv_aload_n hx hb dc_L_law_105 rfl (lv_at hl 1 rfl) ?_
  refine lv_iload_n hx hb dc_L_law_106 rfl (lv_at hl 0 rfl) ?_
  refine lv_iconst (v := 1) hx hb dc_L_law_107 (by decide) ?_
  refine lv_iadd hx hb dc_L_law_108 ?_
  refine lv_topi (fun y9 ey9 => ?_)
  rw [show (1 : Int32) = nI 1 from rfl, nI_add] at ey9
  subst ey9
  refine va_sld hx hb hXH hbH hbA hS (vp_in_nI (by omega) (by omega)) dc_L_law_109 ?_
  refine lv_aload_n hx hb dc_L_law_110 rfl (lv_at hl 1 rfl) ?_
  refine lv_iload_n hx hb dc_L_law_111 rfl (lv_at hl 0 rfl) ?_
  refine lv_iconst (v := 2) hx hb dc_L_law_112 (by decide) ?_
  refine lv_iadd hx hb dc_L_law_113 ?_
  refine lv_topi (fun y9 ey9 => ?_)
  rw [show (2 : Int32) = nI 2 from rfl, nI_add] at ey9
  subst ey9
  refine va_sld hx hb hXH hbH hbA hS (vp_in_nI (by omega) (by omega)) dc_L_law_114 ?_
  refine lv_aload_n hx hb dc_L_law_115 rfl (lv_at hl 1 rfl) ?_
  refine lv_iload_n hx hb dc_L_law_116 rfl (lv_at hl 0 rfl) ?_
  refine lv_iconst (v := 3) hx hb dc_L_law_117 (by decide) ?_
  refine lv_iadd hx hb dc_L_law_118 ?_
  refine lv_topi (fun y9 ey9 => ?_)
  rw [show (3 : Int32) = nI 3 from rfl, nI_add] at ey9
  subst ey9
  refine va_sld hx hb hXH hbH hbA hS (vp_in_nI (by omega) (by omega)) dc_L_law_119 ?_
  refine lw_cVi (y := yn_S_write) (C := Rn_S) (index := 21) (n := 3) (own := Rn_L) 18 hx hb hml hown hts hK hN hP hS (ct_S_write l D ad cA w hJ (xs (nI (i + 1)).toNatClampNeg) (xs (nI (i + 2)).toNatClampNeg) (xs (nI (i + 3)).toNatClampNeg) st _ (c_write hw hV (xs (nI (i + 1)).toNatClampNeg) (xs (nI (i + 2)).toNatClampNeg) (xs (nI (i + 3)).toNatClampNeg))) ml_3 ml_0 ml_1 ml_2 ml_48 (by decide +kernel) ⟨Nat.le_of_ble_eq_true rfl, Nat.le_of_ble_eq_true rfl⟩ rfl rfl rfl rfl rfl hl.1 rfl (lv_room (Nat.le_of_ble_eq_true rfl)) dc_L_law_120 ⟨Nat.le_of_ble_eq_true rfl, Nat.le_of_ble_eq_true rfl⟩ (fun r1 st1 H1 locs1 hP1 hS1 h1 => ?_)
  refine lv_aload_n hx hb dc_L_law_123 rfl (lv_at hl 3 rfl) ?_
  refine lv_aload_n hx hb dc_L_law_124 rfl (lv_at hl 1 rfl) ?_
  refine lv_iload_n hx hb dc_L_law_125 rfl (lv_at hl 0 rfl) ?_
  refine lv_iconst (v := 1) hx hb dc_L_law_126 (by decide) ?_
  refine lv_iadd hx hb dc_L_law_127 ?_
  refine lv_topi (fun y9 ey9 => ?_)
  rw [show (1 : Int32) = nI 1 from rfl, nI_add] at ey9
  subst ey9
  refine va_sld hx hb hXH hbH hbA hS1 (vp_in_nI (by omega) (by omega)) dc_L_law_128 ?_
  refine lv_aload_n hx hb dc_L_law_129 rfl (lv_at hl 1 rfl) ?_
  refine lv_iload_n hx hb dc_L_law_130 rfl (lv_at hl 0 rfl) ?_
  refine lv_iconst (v := 2) hx hb dc_L_law_131 (by decide) ?_
  refine lv_iadd hx hb dc_L_law_132 ?_
  refine lv_topi (fun y9 ey9 => ?_)
  rw [show (2 : Int32) = nI 2 from rfl, nI_add] at ey9
  subst ey9
  refine va_sld hx hb hXH hbH hbA hS1 (vp_in_nI (by omega) (by omega)) dc_L_law_133 ?_
  refine lv_aload_n hx hb dc_L_law_134 rfl (lv_at hl 1 rfl) ?_
  refine lv_iload_n hx hb dc_L_law_135 rfl (lv_at hl 0 rfl) ?_
  refine lv_iconst (v := 3) hx hb dc_L_law_136 (by decide) ?_
  refine lv_iadd hx hb dc_L_law_137 ?_
  refine lv_topi (fun y9 ey9 => ?_)
  rw [show (3 : Int32) = nI 3 from rfl, nI_add] at ey9
  subst ey9
  refine va_sld hx hb hXH hbH hbA hS1 (vp_in_nI (by omega) (by omega)) dc_L_law_138 ?_
  refine lw_cVi (y := yn_R_write) (C := Rn_R) (index := 25) (n := 3) (own := Rn_L) 24 hx hb hml hown hts hK hN hP1 hS1 (ct_R_write l D ad cA w hJ (xs (nI (i + 1)).toNatClampNeg) (xs (nI (i + 2)).toNatClampNeg) (xs (nI (i + 3)).toNatClampNeg) st1 _ h1) ml_52 ml_49 ml_50 ml_51 ml_97 (by decide +kernel) ⟨Nat.le_of_ble_eq_true rfl, Nat.le_of_ble_eq_true rfl⟩ rfl rfl rfl rfl rfl hl.1 rfl (lv_room (Nat.le_of_ble_eq_true rfl)) dc_L_law_139 ⟨Nat.le_of_ble_eq_true rfl, Nat.le_of_ble_eq_true rfl⟩ (fun r2 st2 H2 locs2 hP2 hS2 h2 => ?_)
  refine lv_icmp_eq (tgt := 470) hx hb dc_L_law_142 (by decide) (fun c1 => ?_) (fun c1 => absurd h2.1 c1)
  exact va_forget (S_loc hAd hS2) (kk st2 H2 h2.2 hP2 (S_step hAd hS0 hS2))
set_option maxHeartbeats 4000000 in
set_option maxRecDepth 100000 in
theorem arm_spread {p : Program} {e : Env} {s : State} {m : MethodId} {below : List Frame} {meth : Method} {c : Code} (l : Launch) {b L : Nat} {xs : Nat → Int32} (hL : L ≤ 3073) (C0 : lw_At p s m meth c b L xs) {D : va_G} {ad : Nat → Nat} {cA : Nat → ClassId} {w : Nat} (hw : 5 ≤ w ∧ w ≤ 32) (hJ : Jn_ ad) (hAd : ∀ k, k < 25 → s.heap.size ≤ ad k) (hK : va_K D sC_ (ty_ cA) s) {i : Nat} (hi : i + 6 ≤ L) {st : St_} (hV : IV_ w st) {H : Heap} (hP : va_P D sC_ (wd_ ad cA w st) H) (hS0 : va_S (fun q : Nat => s.heap.size ≤ q) s.heap H []) {ls : Array Slot} (hl : lv_has ls 4 [(3, .int (nI i)), (0, .ref b), (1, .ref (ad 18)), (2, .ref (ad 24))])
    (kk : ∀ (st2 : St_) (H2 : Heap), IV_ w st2 → va_P D sC_ (wd_ ad cA w st2) H2 → va_S (fun q : Nat => s.heap.size ≤ q) s.heap H2 [] → W p l e room_1 s m #[Value.ref b] below meth c H2 [] 25 152088 (lw_Z below #[Value.ref b] s) (F0 m 470 ls [])) : W p l e room_1 s m #[Value.ref b] below meth c H [] 25 152088 (lw_Z below #[Value.ref b] s) (F0 m 147 ls []) := by
  obtain ⟨hx, hb, hr, hml, hown, hts, hX, hbl, hlocks, hgv⟩ := id C0
  have hN := NW_law hts
  have hbA : ¬ Aw_ ad b := fun ⟨k, hk, e⟩ => by have := hAd k hk; omega
  have hXH : va_X b L xs s H := hX.kept (hS0.2.1 b hbl (Nat.not_le.mpr hbl))
  have hbH : b < H.size := Nat.lt_of_lt_of_le hbl hS0.1
  have hS : va_S (Aw_ ad) H H [] := va_S.rf
  refine lv_aload_n hx hb dc_L_law_147 rfl (lv_at hl 2 rfl) ?_
  refine lv_aload_n hx hb dc_L_law_148 rfl (lv_at hl 1 rfl) ?_
  refine lv_iload_n hx hb dc_L_law_149 rfl (lv_at hl 0 rfl) ?_
  refine lv_iconst (v := 1) hx hb dc_L_law_150 (by decide) ?_
  refine lv_iadd hx hb dc_L_law_151 ?_
  refine lv_topi (fun y9 ey9 => ?_)
  rw [show (1 : Int32) = nI 1 from rfl, nI_add] at ey9
  subst ey9
  refine va_sld hx hb hXH hbH hbA hS (vp_in_nI (by omega) (by omega)) dc_L_law_152 ?_
  refine lv_aload_n hx hb dc_L_law_153 rfl (lv_at hl 1 rfl) ?_
  refine lv_iload_n hx hb dc_L_law_154 rfl (lv_at hl 0 rfl) ?_
  refine lv_iconst (v := 2) hx hb dc_L_law_155 (by decide) ?_
  refine lv_iadd hx hb dc_L_law_156 ?_
  refine lv_topi (fun y9 ey9 => ?_)
  rw [show (2 : Int32) = nI 2 from rfl, nI_add] at ey9
  subst ey9
  refine va_sld hx hb hXH hbH hbA hS (vp_in_nI (by omega) (by omega)) dc_L_law_157 ?_
  refine lv_aload_n hx hb dc_L_law_158 rfl (lv_at hl 1 rfl) ?_
  refine lv_iload_n hx hb dc_L_law_159 rfl (lv_at hl 0 rfl) ?_
  refine lv_iconst (v := 3) hx hb dc_L_law_160 (by decide) ?_
  refine lv_iadd hx hb dc_L_law_161 ?_
  refine lv_topi (fun y9 ey9 => ?_)
  rw [show (3 : Int32) = nI 3 from rfl, nI_add] at ey9
  subst ey9
  refine va_sld hx hb hXH hbH hbA hS (vp_in_nI (by omega) (by omega)) dc_L_law_162 ?_
  refine lv_aload_n hx hb dc_L_law_163 rfl (lv_at hl 1 rfl) ?_
  refine lv_iload_n hx hb dc_L_law_164 rfl (lv_at hl 0 rfl) ?_
  refine lv_iconst (v := 4) hx hb dc_L_law_165 (by decide) ?_
  refine lv_iadd hx hb dc_L_law_166 ?_
  refine lv_topi (fun y9 ey9 => ?_)
  rw [show (4 : Int32) = nI 4 from rfl, nI_add] at ey9
  subst ey9
  refine va_sld hx hb hXH hbH hbA hS (vp_in_nI (by omega) (by omega)) dc_L_law_167 ?_
  refine lv_aload_n hx hb dc_L_law_168 rfl (lv_at hl 1 rfl) ?_
  refine lv_iload_n hx hb dc_L_law_169 rfl (lv_at hl 0 rfl) ?_
  refine lv_iconst (v := 5) hx hb dc_L_law_170 (by decide) ?_
  refine lv_iadd hx hb dc_L_law_171 ?_
  refine lv_topi (fun y9 ey9 => ?_)
  rw [show (5 : Int32) = nI 5 from rfl, nI_add] at ey9
  subst ey9
  refine va_sld hx hb hXH hbH hbA hS (vp_in_nI (by omega) (by omega)) dc_L_law_172 ?_
  refine lw_cVi (y := yn_S_spread) (C := Rn_S) (index := 26) (n := 5) (own := Rn_L) 18 hx hb hml hown hts hK hN hP hS (ct_S_spread l D ad cA w hJ (xs (nI (i + 1)).toNatClampNeg) (xs (nI (i + 2)).toNatClampNeg) (xs (nI (i + 3)).toNatClampNeg) (xs (nI (i + 4)).toNatClampNeg) (xs (nI (i + 5)).toNatClampNeg) st _ (c_spread hw hV (xs (nI (i + 1)).toNatClampNeg) (xs (nI (i + 2)).toNatClampNeg) (xs (nI (i + 3)).toNatClampNeg) (xs (nI (i + 4)).toNatClampNeg) (xs (nI (i + 5)).toNatClampNeg))) ml_7 ml_4 ml_5 ml_6 ml_48 (by decide +kernel) ⟨Nat.le_of_ble_eq_true rfl, Nat.le_of_ble_eq_true rfl⟩ rfl rfl rfl rfl rfl hl.1 rfl (lv_room (Nat.le_of_ble_eq_true rfl)) dc_L_law_173 ⟨Nat.le_of_ble_eq_true rfl, Nat.le_of_ble_eq_true rfl⟩ (fun r1 st1 H1 locs1 hP1 hS1 h1 => ?_)
  refine lv_aload_n hx hb dc_L_law_176 rfl (lv_at hl 3 rfl) ?_
  refine lv_aload_n hx hb dc_L_law_177 rfl (lv_at hl 1 rfl) ?_
  refine lv_iload_n hx hb dc_L_law_178 rfl (lv_at hl 0 rfl) ?_
  refine lv_iconst (v := 1) hx hb dc_L_law_179 (by decide) ?_
  refine lv_iadd hx hb dc_L_law_180 ?_
  refine lv_topi (fun y9 ey9 => ?_)
  rw [show (1 : Int32) = nI 1 from rfl, nI_add] at ey9
  subst ey9
  refine va_sld hx hb hXH hbH hbA hS1 (vp_in_nI (by omega) (by omega)) dc_L_law_181 ?_
  refine lv_aload_n hx hb dc_L_law_182 rfl (lv_at hl 1 rfl) ?_
  refine lv_iload_n hx hb dc_L_law_183 rfl (lv_at hl 0 rfl) ?_
  refine lv_iconst (v := 2) hx hb dc_L_law_184 (by decide) ?_
  refine lv_iadd hx hb dc_L_law_185 ?_
  refine lv_topi (fun y9 ey9 => ?_)
  rw [show (2 : Int32) = nI 2 from rfl, nI_add] at ey9
  subst ey9
  refine va_sld hx hb hXH hbH hbA hS1 (vp_in_nI (by omega) (by omega)) dc_L_law_186 ?_
  refine lv_aload_n hx hb dc_L_law_187 rfl (lv_at hl 1 rfl) ?_
  refine lv_iload_n hx hb dc_L_law_188 rfl (lv_at hl 0 rfl) ?_
  refine lv_iconst (v := 3) hx hb dc_L_law_189 (by decide) ?_
  refine lv_iadd hx hb dc_L_law_190 ?_
  refine lv_topi (fun y9 ey9 => ?_)
  rw [show (3 : Int32) = nI 3 from rfl, nI_add] at ey9
  subst ey9
  refine va_sld hx hb hXH hbH hbA hS1 (vp_in_nI (by omega) (by omega)) dc_L_law_191 ?_
  refine lv_aload_n hx hb dc_L_law_192 rfl (lv_at hl 1 rfl) ?_
  refine lv_iload_n hx hb dc_L_law_193 rfl (lv_at hl 0 rfl) ?_
  refine lv_iconst (v := 4) hx hb dc_L_law_194 (by decide) ?_
  refine lv_iadd hx hb dc_L_law_195 ?_
  refine lv_topi (fun y9 ey9 => ?_)
  rw [show (4 : Int32) = nI 4 from rfl, nI_add] at ey9
  subst ey9
  refine va_sld hx hb hXH hbH hbA hS1 (vp_in_nI (by omega) (by omega)) dc_L_law_196 ?_
  refine lv_aload_n hx hb dc_L_law_197 rfl (lv_at hl 1 rfl) ?_
  refine lv_iload_n hx hb dc_L_law_198 rfl (lv_at hl 0 rfl) ?_
  refine lv_iconst (v := 5) hx hb dc_L_law_199 (by decide) ?_
  refine lv_iadd hx hb dc_L_law_200 ?_
  refine lv_topi (fun y9 ey9 => ?_)
  rw [show (5 : Int32) = nI 5 from rfl, nI_add] at ey9
  subst ey9
  refine va_sld hx hb hXH hbH hbA hS1 (vp_in_nI (by omega) (by omega)) dc_L_law_201 ?_
  refine lw_cVi (y := yn_R_spread) (C := Rn_R) (index := 30) (n := 5) (own := Rn_L) 24 hx hb hml hown hts hK hN hP1 hS1 (ct_R_spread l D ad cA w hJ (xs (nI (i + 1)).toNatClampNeg) (xs (nI (i + 2)).toNatClampNeg) (xs (nI (i + 3)).toNatClampNeg) (xs (nI (i + 4)).toNatClampNeg) (xs (nI (i + 5)).toNatClampNeg) st1 _ h1) ml_56 ml_53 ml_54 ml_55 ml_97 (by decide +kernel) ⟨Nat.le_of_ble_eq_true rfl, Nat.le_of_ble_eq_true rfl⟩ rfl rfl rfl rfl rfl hl.1 rfl (lv_room (Nat.le_of_ble_eq_true rfl)) dc_L_law_202 ⟨Nat.le_of_ble_eq_true rfl, Nat.le_of_ble_eq_true rfl⟩ (fun r2 st2 H2 locs2 hP2 hS2 h2 => ?_)
  refine lv_icmp_eq (tgt := 470) hx hb dc_L_law_205 (by decide) (fun c1 => ?_) (fun c1 => absurd h2.1 c1)
  exact va_forget (S_loc hAd hS2) (kk st2 H2 h2.2 hP2 (S_step hAd hS0 hS2))
set_option maxHeartbeats 4000000 in
set_option maxRecDepth 100000 in
theorem arm_read {p : Program} {e : Env} {s : State} {m : MethodId} {below : List Frame} {meth : Method} {c : Code} (l : Launch) {b L : Nat} {xs : Nat → Int32} (hL : L ≤ 3073) (C0 : lw_At p s m meth c b L xs) {D : va_G} {ad : Nat → Nat} {cA : Nat → ClassId} {w : Nat} (hw : 5 ≤ w ∧ w ≤ 32) (hJ : Jn_ ad) (hAd : ∀ k, k < 25 → s.heap.size ≤ ad k) (hK : va_K D sC_ (ty_ cA) s) {i : Nat} (hi : i + 6 ≤ L) {st : St_} (hV : IV_ w st) {H : Heap} (hP : va_P D sC_ (wd_ ad cA w st) H) (hS0 : va_S (fun q : Nat => s.heap.size ≤ q) s.heap H []) {ls : Array Slot} (hl : lv_has ls 4 [(3, .int (nI i)), (0, .ref b), (1, .ref (ad 18)), (2, .ref (ad 24))])
    (kk : ∀ (st2 : St_) (H2 : Heap), IV_ w st2 → va_P D sC_ (wd_ ad cA w st2) H2 → va_S (fun q : Nat => s.heap.size ≤ q) s.heap H2 [] → W p l e room_1 s m #[Value.ref b] below meth c H2 [] 25 152088 (lw_Z below #[Value.ref b] s) (F0 m 470 ls [])) : W p l e room_1 s m #[Value.ref b] below meth c H [] 25 152088 (lw_Z below #[Value.ref b] s) (F0 m 210 ls []) := by
  obtain ⟨hx, hb, hr, hml, hown, hts, hX, hbl, hlocks, hgv⟩ := id C0
  have hN := NW_law hts
  have hbA : ¬ Aw_ ad b := fun ⟨k, hk, e⟩ => by have := hAd k hk; omega
  have hXH : va_X b L xs s H := hX.kept (hS0.2.1 b hbl (Nat.not_le.mpr hbl))
  have hbH : b < H.size := Nat.lt_of_lt_of_le hbl hS0.1
  have hS : va_S (Aw_ ad) H H [] := va_S.rf
  refine lv_aload_n hx hb dc_L_law_210 rfl (lv_at hl 2 rfl) ?_
  refine lv_aload_n hx hb dc_L_law_211 rfl (lv_at hl 1 rfl) ?_
  refine lv_iload_n hx hb dc_L_law_212 rfl (lv_at hl 0 rfl) ?_
  refine lv_iconst (v := 1) hx hb dc_L_law_213 (by decide) ?_
  refine lv_iadd hx hb dc_L_law_214 ?_
  refine lv_topi (fun y9 ey9 => ?_)
  rw [show (1 : Int32) = nI 1 from rfl, nI_add] at ey9
  subst ey9
  refine va_sld hx hb hXH hbH hbA hS (vp_in_nI (by omega) (by omega)) dc_L_law_215 ?_
  refine lv_aload_n hx hb dc_L_law_216 rfl (lv_at hl 1 rfl) ?_
  refine lv_iload_n hx hb dc_L_law_217 rfl (lv_at hl 0 rfl) ?_
  refine lv_iconst (v := 2) hx hb dc_L_law_218 (by decide) ?_
  refine lv_iadd hx hb dc_L_law_219 ?_
  refine lv_topi (fun y9 ey9 => ?_)
  rw [show (2 : Int32) = nI 2 from rfl, nI_add] at ey9
  subst ey9
  refine va_sld hx hb hXH hbH hbA hS (vp_in_nI (by omega) (by omega)) dc_L_law_220 ?_
  refine lw_cVi (y := yn_S_read) (C := Rn_S) (index := 31) (n := 2) (own := Rn_L) 18 hx hb hml hown hts hK hN hP hS (ct_S_read l D ad cA w hJ (xs (nI (i + 1)).toNatClampNeg) (xs (nI (i + 2)).toNatClampNeg) st _ (c_read hw hV (xs (nI (i + 1)).toNatClampNeg) (xs (nI (i + 2)).toNatClampNeg))) ml_11 ml_8 ml_9 ml_10 ml_48 (by decide +kernel) ⟨Nat.le_of_ble_eq_true rfl, Nat.le_of_ble_eq_true rfl⟩ rfl rfl rfl rfl rfl hl.1 rfl (lv_room (Nat.le_of_ble_eq_true rfl)) dc_L_law_221 ⟨Nat.le_of_ble_eq_true rfl, Nat.le_of_ble_eq_true rfl⟩ (fun r1 st1 H1 locs1 hP1 hS1 h1 => ?_)
  refine lv_aload_n hx hb dc_L_law_224 rfl (lv_at hl 3 rfl) ?_
  refine lv_aload_n hx hb dc_L_law_225 rfl (lv_at hl 1 rfl) ?_
  refine lv_iload_n hx hb dc_L_law_226 rfl (lv_at hl 0 rfl) ?_
  refine lv_iconst (v := 1) hx hb dc_L_law_227 (by decide) ?_
  refine lv_iadd hx hb dc_L_law_228 ?_
  refine lv_topi (fun y9 ey9 => ?_)
  rw [show (1 : Int32) = nI 1 from rfl, nI_add] at ey9
  subst ey9
  refine va_sld hx hb hXH hbH hbA hS1 (vp_in_nI (by omega) (by omega)) dc_L_law_229 ?_
  refine lv_aload_n hx hb dc_L_law_230 rfl (lv_at hl 1 rfl) ?_
  refine lv_iload_n hx hb dc_L_law_231 rfl (lv_at hl 0 rfl) ?_
  refine lv_iconst (v := 2) hx hb dc_L_law_232 (by decide) ?_
  refine lv_iadd hx hb dc_L_law_233 ?_
  refine lv_topi (fun y9 ey9 => ?_)
  rw [show (2 : Int32) = nI 2 from rfl, nI_add] at ey9
  subst ey9
  refine va_sld hx hb hXH hbH hbA hS1 (vp_in_nI (by omega) (by omega)) dc_L_law_234 ?_
  refine lw_cVi (y := yn_R_read) (C := Rn_R) (index := 35) (n := 2) (own := Rn_L) 24 hx hb hml hown hts hK hN hP1 hS1 (ct_R_read l D ad cA w hJ (xs (nI (i + 1)).toNatClampNeg) (xs (nI (i + 2)).toNatClampNeg) st1 _ h1) ml_60 ml_57 ml_58 ml_59 ml_97 (by decide +kernel) ⟨Nat.le_of_ble_eq_true rfl, Nat.le_of_ble_eq_true rfl⟩ rfl rfl rfl rfl rfl hl.1 rfl (lv_room (Nat.le_of_ble_eq_true rfl)) dc_L_law_235 ⟨Nat.le_of_ble_eq_true rfl, Nat.le_of_ble_eq_true rfl⟩ (fun r2 st2 H2 locs2 hP2 hS2 h2 => ?_)
  refine lv_icmp_eq (tgt := 470) hx hb dc_L_law_238 (by decide) (fun c1 => ?_) (fun c1 => absurd h2.1 c1)
  exact va_forget (S_loc hAd hS2) (kk st2 H2 h2.2 hP2 (S_step hAd hS0 hS2))
set_option maxHeartbeats 4000000 in
set_option maxRecDepth 100000 in
theorem arm_erase {p : Program} {e : Env} {s : State} {m : MethodId} {below : List Frame} {meth : Method} {c : Code} (l : Launch) {b L : Nat} {xs : Nat → Int32} (hL : L ≤ 3073) (C0 : lw_At p s m meth c b L xs) {D : va_G} {ad : Nat → Nat} {cA : Nat → ClassId} {w : Nat} (hw : 5 ≤ w ∧ w ≤ 32) (hJ : Jn_ ad) (hAd : ∀ k, k < 25 → s.heap.size ≤ ad k) (hK : va_K D sC_ (ty_ cA) s) {i : Nat} (hi : i + 6 ≤ L) {st : St_} (hV : IV_ w st) {H : Heap} (hP : va_P D sC_ (wd_ ad cA w st) H) (hS0 : va_S (fun q : Nat => s.heap.size ≤ q) s.heap H []) {ls : Array Slot} (hl : lv_has ls 4 [(3, .int (nI i)), (0, .ref b), (1, .ref (ad 18)), (2, .ref (ad 24))])
    (kk : ∀ (st2 : St_) (H2 : Heap), IV_ w st2 → va_P D sC_ (wd_ ad cA w st2) H2 → va_S (fun q : Nat => s.heap.size ≤ q) s.heap H2 [] → W p l e room_1 s m #[Value.ref b] below meth c H2 [] 25 152088 (lw_Z below #[Value.ref b] s) (F0 m 470 ls [])) : W p l e room_1 s m #[Value.ref b] below meth c H [] 25 152088 (lw_Z below #[Value.ref b] s) (F0 m 243 ls []) := by
  obtain ⟨hx, hb, hr, hml, hown, hts, hX, hbl, hlocks, hgv⟩ := id C0
  have hN := NW_law hts
  have hbA : ¬ Aw_ ad b := fun ⟨k, hk, e⟩ => by have := hAd k hk; omega
  have hXH : va_X b L xs s H := hX.kept (hS0.2.1 b hbl (Nat.not_le.mpr hbl))
  have hbH : b < H.size := Nat.lt_of_lt_of_le hbl hS0.1
  have hS : va_S (Aw_ ad) H H [] := va_S.rf
  refine lv_aload_n hx hb dc_L_law_243 rfl (lv_at hl 2 rfl) ?_
  refine lv_aload_n hx hb dc_L_law_244 rfl (lv_at hl 1 rfl) ?_
  refine lv_iload_n hx hb dc_L_law_245 rfl (lv_at hl 0 rfl) ?_
  refine lv_iconst (v := 1) hx hb dc_L_law_246 (by decide) ?_
  refine lv_iadd hx hb dc_L_law_247 ?_
  refine lv_topi (fun y9 ey9 => ?_)
  rw [show (1 : Int32) = nI 1 from rfl, nI_add] at ey9
  subst ey9
  refine va_sld hx hb hXH hbH hbA hS (vp_in_nI (by omega) (by omega)) dc_L_law_248 ?_
  refine lv_aload_n hx hb dc_L_law_249 rfl (lv_at hl 1 rfl) ?_
  refine lv_iload_n hx hb dc_L_law_250 rfl (lv_at hl 0 rfl) ?_
  refine lv_iconst (v := 2) hx hb dc_L_law_251 (by decide) ?_
  refine lv_iadd hx hb dc_L_law_252 ?_
  refine lv_topi (fun y9 ey9 => ?_)
  rw [show (2 : Int32) = nI 2 from rfl, nI_add] at ey9
  subst ey9
  refine va_sld hx hb hXH hbH hbA hS (vp_in_nI (by omega) (by omega)) dc_L_law_253 ?_
  refine lw_cVi (y := yn_S_erase) (C := Rn_S) (index := 36) (n := 2) (own := Rn_L) 18 hx hb hml hown hts hK hN hP hS (ct_S_erase l D ad cA w hJ (xs (nI (i + 1)).toNatClampNeg) (xs (nI (i + 2)).toNatClampNeg) st _ (c_erase hw hV (xs (nI (i + 1)).toNatClampNeg) (xs (nI (i + 2)).toNatClampNeg))) ml_15 ml_12 ml_13 ml_14 ml_48 (by decide +kernel) ⟨Nat.le_of_ble_eq_true rfl, Nat.le_of_ble_eq_true rfl⟩ rfl rfl rfl rfl rfl hl.1 rfl (lv_room (Nat.le_of_ble_eq_true rfl)) dc_L_law_254 ⟨Nat.le_of_ble_eq_true rfl, Nat.le_of_ble_eq_true rfl⟩ (fun r1 st1 H1 locs1 hP1 hS1 h1 => ?_)
  refine lv_aload_n hx hb dc_L_law_257 rfl (lv_at hl 3 rfl) ?_
  refine lv_aload_n hx hb dc_L_law_258 rfl (lv_at hl 1 rfl) ?_
  refine lv_iload_n hx hb dc_L_law_259 rfl (lv_at hl 0 rfl) ?_
  refine lv_iconst (v := 1) hx hb dc_L_law_260 (by decide) ?_
  refine lv_iadd hx hb dc_L_law_261 ?_
  refine lv_topi (fun y9 ey9 => ?_)
  rw [show (1 : Int32) = nI 1 from rfl, nI_add] at ey9
  subst ey9
  refine va_sld hx hb hXH hbH hbA hS1 (vp_in_nI (by omega) (by omega)) dc_L_law_262 ?_
  refine lv_aload_n hx hb dc_L_law_263 rfl (lv_at hl 1 rfl) ?_
  refine lv_iload_n hx hb dc_L_law_264 rfl (lv_at hl 0 rfl) ?_
  refine lv_iconst (v := 2) hx hb dc_L_law_265 (by decide) ?_
  refine lv_iadd hx hb dc_L_law_266 ?_
  refine lv_topi (fun y9 ey9 => ?_)
  rw [show (2 : Int32) = nI 2 from rfl, nI_add] at ey9
  subst ey9
  refine va_sld hx hb hXH hbH hbA hS1 (vp_in_nI (by omega) (by omega)) dc_L_law_267 ?_
  refine lw_cVi (y := yn_R_erase) (C := Rn_R) (index := 39) (n := 2) (own := Rn_L) 24 hx hb hml hown hts hK hN hP1 hS1 (ct_R_erase l D ad cA w hJ (xs (nI (i + 1)).toNatClampNeg) (xs (nI (i + 2)).toNatClampNeg) st1 _ h1) ml_64 ml_61 ml_62 ml_63 ml_97 (by decide +kernel) ⟨Nat.le_of_ble_eq_true rfl, Nat.le_of_ble_eq_true rfl⟩ rfl rfl rfl rfl rfl hl.1 rfl (lv_room (Nat.le_of_ble_eq_true rfl)) dc_L_law_268 ⟨Nat.le_of_ble_eq_true rfl, Nat.le_of_ble_eq_true rfl⟩ (fun r2 st2 H2 locs2 hP2 hS2 h2 => ?_)
  refine lv_icmp_eq (tgt := 470) hx hb dc_L_law_271 (by decide) (fun c1 => ?_) (fun c1 => absurd h2.1 c1)
  exact va_forget (S_loc hAd hS2) (kk st2 H2 h2.2 hP2 (S_step hAd hS0 hS2))
set_option maxHeartbeats 4000000 in
set_option maxRecDepth 100000 in
theorem arm_cut {p : Program} {e : Env} {s : State} {m : MethodId} {below : List Frame} {meth : Method} {c : Code} (l : Launch) {b L : Nat} {xs : Nat → Int32} (hL : L ≤ 3073) (C0 : lw_At p s m meth c b L xs) {D : va_G} {ad : Nat → Nat} {cA : Nat → ClassId} {w : Nat} (hw : 5 ≤ w ∧ w ≤ 32) (hJ : Jn_ ad) (hAd : ∀ k, k < 25 → s.heap.size ≤ ad k) (hK : va_K D sC_ (ty_ cA) s) {i : Nat} (hi : i + 6 ≤ L) {st : St_} (hV : IV_ w st) {H : Heap} (hP : va_P D sC_ (wd_ ad cA w st) H) (hS0 : va_S (fun q : Nat => s.heap.size ≤ q) s.heap H []) {ls : Array Slot} (hl : lv_has ls 4 [(3, .int (nI i)), (0, .ref b), (1, .ref (ad 18)), (2, .ref (ad 24))])
    (kk : ∀ (st2 : St_) (H2 : Heap), IV_ w st2 → va_P D sC_ (wd_ ad cA w st2) H2 → va_S (fun q : Nat => s.heap.size ≤ q) s.heap H2 [] → W p l e room_1 s m #[Value.ref b] below meth c H2 [] 25 152088 (lw_Z below #[Value.ref b] s) (F0 m 470 ls [])) : W p l e room_1 s m #[Value.ref b] below meth c H [] 25 152088 (lw_Z below #[Value.ref b] s) (F0 m 276 ls []) := by
  obtain ⟨hx, hb, hr, hml, hown, hts, hX, hbl, hlocks, hgv⟩ := id C0
  have hN := NW_law hts
  have hbA : ¬ Aw_ ad b := fun ⟨k, hk, e⟩ => by have := hAd k hk; omega
  have hXH : va_X b L xs s H := hX.kept (hS0.2.1 b hbl (Nat.not_le.mpr hbl))
  have hbH : b < H.size := Nat.lt_of_lt_of_le hbl hS0.1
  have hS : va_S (Aw_ ad) H H [] := va_S.rf
  refine lv_aload_n hx hb dc_L_law_276 rfl (lv_at hl 2 rfl) ?_
  refine lv_aload_n hx hb dc_L_law_277 rfl (lv_at hl 1 rfl) ?_
  refine lv_iload_n hx hb dc_L_law_278 rfl (lv_at hl 0 rfl) ?_
  refine lv_iconst (v := 1) hx hb dc_L_law_279 (by decide) ?_
  refine lv_iadd hx hb dc_L_law_280 ?_
  refine lv_topi (fun y9 ey9 => ?_)
  rw [show (1 : Int32) = nI 1 from rfl, nI_add] at ey9
  subst ey9
  refine va_sld hx hb hXH hbH hbA hS (vp_in_nI (by omega) (by omega)) dc_L_law_281 ?_
  refine lv_aload_n hx hb dc_L_law_282 rfl (lv_at hl 1 rfl) ?_
  refine lv_iload_n hx hb dc_L_law_283 rfl (lv_at hl 0 rfl) ?_
  refine lv_iconst (v := 2) hx hb dc_L_law_284 (by decide) ?_
  refine lv_iadd hx hb dc_L_law_285 ?_
  refine lv_topi (fun y9 ey9 => ?_)
  rw [show (2 : Int32) = nI 2 from rfl, nI_add] at ey9
  subst ey9
  refine va_sld hx hb hXH hbH hbA hS (vp_in_nI (by omega) (by omega)) dc_L_law_286 ?_
  refine lv_aload_n hx hb dc_L_law_287 rfl (lv_at hl 1 rfl) ?_
  refine lv_iload_n hx hb dc_L_law_288 rfl (lv_at hl 0 rfl) ?_
  refine lv_iconst (v := 3) hx hb dc_L_law_289 (by decide) ?_
  refine lv_iadd hx hb dc_L_law_290 ?_
  refine lv_topi (fun y9 ey9 => ?_)
  rw [show (3 : Int32) = nI 3 from rfl, nI_add] at ey9
  subst ey9
  refine va_sld hx hb hXH hbH hbA hS (vp_in_nI (by omega) (by omega)) dc_L_law_291 ?_
  refine lw_cVi (y := yn_S_cut) (C := Rn_S) (index := 40) (n := 3) (own := Rn_L) 18 hx hb hml hown hts hK hN hP hS (ct_S_cut l D ad cA w hJ (xs (nI (i + 1)).toNatClampNeg) (xs (nI (i + 2)).toNatClampNeg) (xs (nI (i + 3)).toNatClampNeg) st _ (c_cut hw hV (xs (nI (i + 1)).toNatClampNeg) (xs (nI (i + 2)).toNatClampNeg) (xs (nI (i + 3)).toNatClampNeg))) ml_19 ml_16 ml_17 ml_18 ml_48 (by decide +kernel) ⟨Nat.le_of_ble_eq_true rfl, Nat.le_of_ble_eq_true rfl⟩ rfl rfl rfl rfl rfl hl.1 rfl (lv_room (Nat.le_of_ble_eq_true rfl)) dc_L_law_292 ⟨Nat.le_of_ble_eq_true rfl, Nat.le_of_ble_eq_true rfl⟩ (fun r1 st1 H1 locs1 hP1 hS1 h1 => ?_)
  refine lv_aload_n hx hb dc_L_law_295 rfl (lv_at hl 3 rfl) ?_
  refine lv_aload_n hx hb dc_L_law_296 rfl (lv_at hl 1 rfl) ?_
  refine lv_iload_n hx hb dc_L_law_297 rfl (lv_at hl 0 rfl) ?_
  refine lv_iconst (v := 1) hx hb dc_L_law_298 (by decide) ?_
  refine lv_iadd hx hb dc_L_law_299 ?_
  refine lv_topi (fun y9 ey9 => ?_)
  rw [show (1 : Int32) = nI 1 from rfl, nI_add] at ey9
  subst ey9
  refine va_sld hx hb hXH hbH hbA hS1 (vp_in_nI (by omega) (by omega)) dc_L_law_300 ?_
  refine lv_aload_n hx hb dc_L_law_301 rfl (lv_at hl 1 rfl) ?_
  refine lv_iload_n hx hb dc_L_law_302 rfl (lv_at hl 0 rfl) ?_
  refine lv_iconst (v := 2) hx hb dc_L_law_303 (by decide) ?_
  refine lv_iadd hx hb dc_L_law_304 ?_
  refine lv_topi (fun y9 ey9 => ?_)
  rw [show (2 : Int32) = nI 2 from rfl, nI_add] at ey9
  subst ey9
  refine va_sld hx hb hXH hbH hbA hS1 (vp_in_nI (by omega) (by omega)) dc_L_law_305 ?_
  refine lv_aload_n hx hb dc_L_law_306 rfl (lv_at hl 1 rfl) ?_
  refine lv_iload_n hx hb dc_L_law_307 rfl (lv_at hl 0 rfl) ?_
  refine lv_iconst (v := 3) hx hb dc_L_law_308 (by decide) ?_
  refine lv_iadd hx hb dc_L_law_309 ?_
  refine lv_topi (fun y9 ey9 => ?_)
  rw [show (3 : Int32) = nI 3 from rfl, nI_add] at ey9
  subst ey9
  refine va_sld hx hb hXH hbH hbA hS1 (vp_in_nI (by omega) (by omega)) dc_L_law_310 ?_
  refine lw_cVi (y := yn_R_cut) (C := Rn_R) (index := 43) (n := 3) (own := Rn_L) 24 hx hb hml hown hts hK hN hP1 hS1 (ct_R_cut l D ad cA w hJ (xs (nI (i + 1)).toNatClampNeg) (xs (nI (i + 2)).toNatClampNeg) (xs (nI (i + 3)).toNatClampNeg) st1 _ h1) ml_68 ml_65 ml_66 ml_67 ml_97 (by decide +kernel) ⟨Nat.le_of_ble_eq_true rfl, Nat.le_of_ble_eq_true rfl⟩ rfl rfl rfl rfl rfl hl.1 rfl (lv_room (Nat.le_of_ble_eq_true rfl)) dc_L_law_311 ⟨Nat.le_of_ble_eq_true rfl, Nat.le_of_ble_eq_true rfl⟩ (fun r2 st2 H2 locs2 hP2 hS2 h2 => ?_)
  refine lv_icmp_eq (tgt := 470) hx hb dc_L_law_314 (by decide) (fun c1 => ?_) (fun c1 => absurd h2.1 c1)
  exact va_forget (S_loc hAd hS2) (kk st2 H2 h2.2 hP2 (S_step hAd hS0 hS2))
set_option maxHeartbeats 4000000 in
set_option maxRecDepth 100000 in
theorem arm_next {p : Program} {e : Env} {s : State} {m : MethodId} {below : List Frame} {meth : Method} {c : Code} (l : Launch) {b L : Nat} {xs : Nat → Int32} (hL : L ≤ 3073) (C0 : lw_At p s m meth c b L xs) {D : va_G} {ad : Nat → Nat} {cA : Nat → ClassId} {w : Nat} (hw : 5 ≤ w ∧ w ≤ 32) (hJ : Jn_ ad) (hAd : ∀ k, k < 25 → s.heap.size ≤ ad k) (hK : va_K D sC_ (ty_ cA) s) {i : Nat} (hi : i + 6 ≤ L) {st : St_} (hV : IV_ w st) {H : Heap} (hP : va_P D sC_ (wd_ ad cA w st) H) (hS0 : va_S (fun q : Nat => s.heap.size ≤ q) s.heap H []) {ls : Array Slot} (hl : lv_has ls 4 [(3, .int (nI i)), (0, .ref b), (1, .ref (ad 18)), (2, .ref (ad 24))])
    (kk : ∀ (st2 : St_) (H2 : Heap), IV_ w st2 → va_P D sC_ (wd_ ad cA w st2) H2 → va_S (fun q : Nat => s.heap.size ≤ q) s.heap H2 [] → W p l e room_1 s m #[Value.ref b] below meth c H2 [] 25 152088 (lw_Z below #[Value.ref b] s) (F0 m 470 ls [])) : W p l e room_1 s m #[Value.ref b] below meth c H [] 25 152088 (lw_Z below #[Value.ref b] s) (F0 m 319 ls []) := by
  obtain ⟨hx, hb, hr, hml, hown, hts, hX, hbl, hlocks, hgv⟩ := id C0
  have hN := NW_law hts
  have hbA : ¬ Aw_ ad b := fun ⟨k, hk, e⟩ => by have := hAd k hk; omega
  have hXH : va_X b L xs s H := hX.kept (hS0.2.1 b hbl (Nat.not_le.mpr hbl))
  have hbH : b < H.size := Nat.lt_of_lt_of_le hbl hS0.1
  have hS : va_S (Aw_ ad) H H [] := va_S.rf
  refine lv_aload_n hx hb dc_L_law_319 rfl (lv_at hl 2 rfl) ?_
  refine lv_aload_n hx hb dc_L_law_320 rfl (lv_at hl 1 rfl) ?_
  refine lv_iload_n hx hb dc_L_law_321 rfl (lv_at hl 0 rfl) ?_
  refine lv_iconst (v := 1) hx hb dc_L_law_322 (by decide) ?_
  refine lv_iadd hx hb dc_L_law_323 ?_
  refine lv_topi (fun y9 ey9 => ?_)
  rw [show (1 : Int32) = nI 1 from rfl, nI_add] at ey9
  subst ey9
  refine va_sld hx hb hXH hbH hbA hS (vp_in_nI (by omega) (by omega)) dc_L_law_324 ?_
  refine lv_aload_n hx hb dc_L_law_325 rfl (lv_at hl 1 rfl) ?_
  refine lv_iload_n hx hb dc_L_law_326 rfl (lv_at hl 0 rfl) ?_
  refine lv_iconst (v := 2) hx hb dc_L_law_327 (by decide) ?_
  refine lv_iadd hx hb dc_L_law_328 ?_
  refine lv_topi (fun y9 ey9 => ?_)
  rw [show (2 : Int32) = nI 2 from rfl, nI_add] at ey9
  subst ey9
  refine va_sld hx hb hXH hbH hbA hS (vp_in_nI (by omega) (by omega)) dc_L_law_329 ?_
  refine lw_cVi (y := yn_S_next) (C := Rn_S) (index := 44) (n := 2) (own := Rn_L) 18 hx hb hml hown hts hK hN hP hS (ct_S_next l D ad cA w hJ (xs (nI (i + 1)).toNatClampNeg) (xs (nI (i + 2)).toNatClampNeg) st _ (c_next hw hV (xs (nI (i + 1)).toNatClampNeg) (xs (nI (i + 2)).toNatClampNeg))) ml_23 ml_20 ml_21 ml_22 ml_48 (by decide +kernel) ⟨Nat.le_of_ble_eq_true rfl, Nat.le_of_ble_eq_true rfl⟩ rfl rfl rfl rfl rfl hl.1 rfl (lv_room (Nat.le_of_ble_eq_true rfl)) dc_L_law_330 ⟨Nat.le_of_ble_eq_true rfl, Nat.le_of_ble_eq_true rfl⟩ (fun r1 st1 H1 locs1 hP1 hS1 h1 => ?_)
  refine lv_aload_n hx hb dc_L_law_333 rfl (lv_at hl 3 rfl) ?_
  refine lv_aload_n hx hb dc_L_law_334 rfl (lv_at hl 1 rfl) ?_
  refine lv_iload_n hx hb dc_L_law_335 rfl (lv_at hl 0 rfl) ?_
  refine lv_iconst (v := 1) hx hb dc_L_law_336 (by decide) ?_
  refine lv_iadd hx hb dc_L_law_337 ?_
  refine lv_topi (fun y9 ey9 => ?_)
  rw [show (1 : Int32) = nI 1 from rfl, nI_add] at ey9
  subst ey9
  refine va_sld hx hb hXH hbH hbA hS1 (vp_in_nI (by omega) (by omega)) dc_L_law_338 ?_
  refine lv_aload_n hx hb dc_L_law_339 rfl (lv_at hl 1 rfl) ?_
  refine lv_iload_n hx hb dc_L_law_340 rfl (lv_at hl 0 rfl) ?_
  refine lv_iconst (v := 2) hx hb dc_L_law_341 (by decide) ?_
  refine lv_iadd hx hb dc_L_law_342 ?_
  refine lv_topi (fun y9 ey9 => ?_)
  rw [show (2 : Int32) = nI 2 from rfl, nI_add] at ey9
  subst ey9
  refine va_sld hx hb hXH hbH hbA hS1 (vp_in_nI (by omega) (by omega)) dc_L_law_343 ?_
  refine lw_cVi (y := yn_R_next) (C := Rn_R) (index := 47) (n := 2) (own := Rn_L) 24 hx hb hml hown hts hK hN hP1 hS1 (ct_R_next l D ad cA w hJ (xs (nI (i + 1)).toNatClampNeg) (xs (nI (i + 2)).toNatClampNeg) st1 _ h1) ml_72 ml_69 ml_70 ml_71 ml_97 (by decide +kernel) ⟨Nat.le_of_ble_eq_true rfl, Nat.le_of_ble_eq_true rfl⟩ rfl rfl rfl rfl rfl hl.1 rfl (lv_room (Nat.le_of_ble_eq_true rfl)) dc_L_law_344 ⟨Nat.le_of_ble_eq_true rfl, Nat.le_of_ble_eq_true rfl⟩ (fun r2 st2 H2 locs2 hP2 hS2 h2 => ?_)
  refine lv_icmp_eq (tgt := 470) hx hb dc_L_law_347 (by decide) (fun c1 => ?_) (fun c1 => absurd h2.1 c1)
  exact va_forget (S_loc hAd hS2) (kk st2 H2 h2.2 hP2 (S_step hAd hS0 hS2))
set_option maxHeartbeats 4000000 in
set_option maxRecDepth 100000 in
theorem arm_clone {p : Program} {e : Env} {s : State} {m : MethodId} {below : List Frame} {meth : Method} {c : Code} (l : Launch) {b L : Nat} {xs : Nat → Int32} (hL : L ≤ 3073) (C0 : lw_At p s m meth c b L xs) {D : va_G} {ad : Nat → Nat} {cA : Nat → ClassId} {w : Nat} (hw : 5 ≤ w ∧ w ≤ 32) (hJ : Jn_ ad) (hAd : ∀ k, k < 25 → s.heap.size ≤ ad k) (hK : va_K D sC_ (ty_ cA) s) {i : Nat} (hi : i + 6 ≤ L) {st : St_} (hV : IV_ w st) {H : Heap} (hP : va_P D sC_ (wd_ ad cA w st) H) (hS0 : va_S (fun q : Nat => s.heap.size ≤ q) s.heap H []) {ls : Array Slot} (hl : lv_has ls 4 [(3, .int (nI i)), (0, .ref b), (1, .ref (ad 18)), (2, .ref (ad 24))])
    (kk : ∀ (st2 : St_) (H2 : Heap), IV_ w st2 → va_P D sC_ (wd_ ad cA w st2) H2 → va_S (fun q : Nat => s.heap.size ≤ q) s.heap H2 [] → W p l e room_1 s m #[Value.ref b] below meth c H2 [] 25 152088 (lw_Z below #[Value.ref b] s) (F0 m 470 ls [])) : W p l e room_1 s m #[Value.ref b] below meth c H [] 25 152088 (lw_Z below #[Value.ref b] s) (F0 m 352 ls []) := by
  obtain ⟨hx, hb, hr, hml, hown, hts, hX, hbl, hlocks, hgv⟩ := id C0
  have hN := NW_law hts
  have hbA : ¬ Aw_ ad b := fun ⟨k, hk, e⟩ => by have := hAd k hk; omega
  have hXH : va_X b L xs s H := hX.kept (hS0.2.1 b hbl (Nat.not_le.mpr hbl))
  have hbH : b < H.size := Nat.lt_of_lt_of_le hbl hS0.1
  have hS : va_S (Aw_ ad) H H [] := va_S.rf
  refine lv_aload_n hx hb dc_L_law_352 rfl (lv_at hl 2 rfl) ?_
  refine lv_aload_n hx hb dc_L_law_353 rfl (lv_at hl 1 rfl) ?_
  refine lv_iload_n hx hb dc_L_law_354 rfl (lv_at hl 0 rfl) ?_
  refine lv_iconst (v := 1) hx hb dc_L_law_355 (by decide) ?_
  refine lv_iadd hx hb dc_L_law_356 ?_
  refine lv_topi (fun y9 ey9 => ?_)
  rw [show (1 : Int32) = nI 1 from rfl, nI_add] at ey9
  subst ey9
  refine va_sld hx hb hXH hbH hbA hS (vp_in_nI (by omega) (by omega)) dc_L_law_357 ?_
  refine lv_aload_n hx hb dc_L_law_358 rfl (lv_at hl 1 rfl) ?_
  refine lv_iload_n hx hb dc_L_law_359 rfl (lv_at hl 0 rfl) ?_
  refine lv_iconst (v := 2) hx hb dc_L_law_360 (by decide) ?_
  refine lv_iadd hx hb dc_L_law_361 ?_
  refine lv_topi (fun y9 ey9 => ?_)
  rw [show (2 : Int32) = nI 2 from rfl, nI_add] at ey9
  subst ey9
  refine va_sld hx hb hXH hbH hbA hS (vp_in_nI (by omega) (by omega)) dc_L_law_362 ?_
  refine lw_cVi (y := yn_S_clone) (C := Rn_S) (index := 48) (n := 2) (own := Rn_L) 18 hx hb hml hown hts hK hN hP hS (ct_S_clone l D ad cA w hJ (xs (nI (i + 1)).toNatClampNeg) (xs (nI (i + 2)).toNatClampNeg) st _ (c_clone hw hV (xs (nI (i + 1)).toNatClampNeg) (xs (nI (i + 2)).toNatClampNeg))) ml_27 ml_24 ml_25 ml_26 ml_48 (by decide +kernel) ⟨Nat.le_of_ble_eq_true rfl, Nat.le_of_ble_eq_true rfl⟩ rfl rfl rfl rfl rfl hl.1 rfl (lv_room (Nat.le_of_ble_eq_true rfl)) dc_L_law_363 ⟨Nat.le_of_ble_eq_true rfl, Nat.le_of_ble_eq_true rfl⟩ (fun r1 st1 H1 locs1 hP1 hS1 h1 => ?_)
  refine lv_aload_n hx hb dc_L_law_366 rfl (lv_at hl 3 rfl) ?_
  refine lv_aload_n hx hb dc_L_law_367 rfl (lv_at hl 1 rfl) ?_
  refine lv_iload_n hx hb dc_L_law_368 rfl (lv_at hl 0 rfl) ?_
  refine lv_iconst (v := 1) hx hb dc_L_law_369 (by decide) ?_
  refine lv_iadd hx hb dc_L_law_370 ?_
  refine lv_topi (fun y9 ey9 => ?_)
  rw [show (1 : Int32) = nI 1 from rfl, nI_add] at ey9
  subst ey9
  refine va_sld hx hb hXH hbH hbA hS1 (vp_in_nI (by omega) (by omega)) dc_L_law_371 ?_
  refine lv_aload_n hx hb dc_L_law_372 rfl (lv_at hl 1 rfl) ?_
  refine lv_iload_n hx hb dc_L_law_373 rfl (lv_at hl 0 rfl) ?_
  refine lv_iconst (v := 2) hx hb dc_L_law_374 (by decide) ?_
  refine lv_iadd hx hb dc_L_law_375 ?_
  refine lv_topi (fun y9 ey9 => ?_)
  rw [show (2 : Int32) = nI 2 from rfl, nI_add] at ey9
  subst ey9
  refine va_sld hx hb hXH hbH hbA hS1 (vp_in_nI (by omega) (by omega)) dc_L_law_376 ?_
  refine lw_cVi (y := yn_R_clone) (C := Rn_R) (index := 51) (n := 2) (own := Rn_L) 24 hx hb hml hown hts hK hN hP1 hS1 (ct_R_clone l D ad cA w hJ (xs (nI (i + 1)).toNatClampNeg) (xs (nI (i + 2)).toNatClampNeg) st1 _ h1) ml_76 ml_73 ml_74 ml_75 ml_97 (by decide +kernel) ⟨Nat.le_of_ble_eq_true rfl, Nat.le_of_ble_eq_true rfl⟩ rfl rfl rfl rfl rfl hl.1 rfl (lv_room (Nat.le_of_ble_eq_true rfl)) dc_L_law_377 ⟨Nat.le_of_ble_eq_true rfl, Nat.le_of_ble_eq_true rfl⟩ (fun r2 st2 H2 locs2 hP2 hS2 h2 => ?_)
  refine lv_icmp_eq (tgt := 470) hx hb dc_L_law_380 (by decide) (fun c1 => ?_) (fun c1 => absurd h2.1 c1)
  exact va_forget (S_loc hAd hS2) (kk st2 H2 h2.2 hP2 (S_step hAd hS0 hS2))
set_option maxHeartbeats 4000000 in
set_option maxRecDepth 100000 in
theorem arm_drop {p : Program} {e : Env} {s : State} {m : MethodId} {below : List Frame} {meth : Method} {c : Code} (l : Launch) {b L : Nat} {xs : Nat → Int32} (hL : L ≤ 3073) (C0 : lw_At p s m meth c b L xs) {D : va_G} {ad : Nat → Nat} {cA : Nat → ClassId} {w : Nat} (hw : 5 ≤ w ∧ w ≤ 32) (hJ : Jn_ ad) (hAd : ∀ k, k < 25 → s.heap.size ≤ ad k) (hK : va_K D sC_ (ty_ cA) s) {i : Nat} (hi : i + 6 ≤ L) {st : St_} (hV : IV_ w st) {H : Heap} (hP : va_P D sC_ (wd_ ad cA w st) H) (hS0 : va_S (fun q : Nat => s.heap.size ≤ q) s.heap H []) {ls : Array Slot} (hl : lv_has ls 4 [(3, .int (nI i)), (0, .ref b), (1, .ref (ad 18)), (2, .ref (ad 24))])
    (kk : ∀ (st2 : St_) (H2 : Heap), IV_ w st2 → va_P D sC_ (wd_ ad cA w st2) H2 → va_S (fun q : Nat => s.heap.size ≤ q) s.heap H2 [] → W p l e room_1 s m #[Value.ref b] below meth c H2 [] 25 152088 (lw_Z below #[Value.ref b] s) (F0 m 470 ls [])) : W p l e room_1 s m #[Value.ref b] below meth c H [] 25 152088 (lw_Z below #[Value.ref b] s) (F0 m 385 ls []) := by
  obtain ⟨hx, hb, hr, hml, hown, hts, hX, hbl, hlocks, hgv⟩ := id C0
  have hN := NW_law hts
  have hbA : ¬ Aw_ ad b := fun ⟨k, hk, e⟩ => by have := hAd k hk; omega
  have hXH : va_X b L xs s H := hX.kept (hS0.2.1 b hbl (Nat.not_le.mpr hbl))
  have hbH : b < H.size := Nat.lt_of_lt_of_le hbl hS0.1
  have hS : va_S (Aw_ ad) H H [] := va_S.rf
  refine lv_aload_n hx hb dc_L_law_385 rfl (lv_at hl 2 rfl) ?_
  refine lv_aload_n hx hb dc_L_law_386 rfl (lv_at hl 1 rfl) ?_
  refine lv_iload_n hx hb dc_L_law_387 rfl (lv_at hl 0 rfl) ?_
  refine lv_iconst (v := 1) hx hb dc_L_law_388 (by decide) ?_
  refine lv_iadd hx hb dc_L_law_389 ?_
  refine lv_topi (fun y9 ey9 => ?_)
  rw [show (1 : Int32) = nI 1 from rfl, nI_add] at ey9
  subst ey9
  refine va_sld hx hb hXH hbH hbA hS (vp_in_nI (by omega) (by omega)) dc_L_law_390 ?_
  refine lw_cVi (y := yn_S_drop) (C := Rn_S) (index := 52) (n := 1) (own := Rn_L) 18 hx hb hml hown hts hK hN hP hS (ct_S_drop l D ad cA w hJ (xs (nI (i + 1)).toNatClampNeg) st _ (c_drop hw hV (xs (nI (i + 1)).toNatClampNeg))) ml_31 ml_28 ml_29 ml_30 ml_48 (by decide +kernel) ⟨Nat.le_of_ble_eq_true rfl, Nat.le_of_ble_eq_true rfl⟩ rfl rfl rfl rfl rfl hl.1 rfl (lv_room (Nat.le_of_ble_eq_true rfl)) dc_L_law_391 ⟨Nat.le_of_ble_eq_true rfl, Nat.le_of_ble_eq_true rfl⟩ (fun r1 st1 H1 locs1 hP1 hS1 h1 => ?_)
  refine lv_aload_n hx hb dc_L_law_394 rfl (lv_at hl 3 rfl) ?_
  refine lv_aload_n hx hb dc_L_law_395 rfl (lv_at hl 1 rfl) ?_
  refine lv_iload_n hx hb dc_L_law_396 rfl (lv_at hl 0 rfl) ?_
  refine lv_iconst (v := 1) hx hb dc_L_law_397 (by decide) ?_
  refine lv_iadd hx hb dc_L_law_398 ?_
  refine lv_topi (fun y9 ey9 => ?_)
  rw [show (1 : Int32) = nI 1 from rfl, nI_add] at ey9
  subst ey9
  refine va_sld hx hb hXH hbH hbA hS1 (vp_in_nI (by omega) (by omega)) dc_L_law_399 ?_
  refine lw_cVi (y := yn_R_drop) (C := Rn_R) (index := 56) (n := 1) (own := Rn_L) 24 hx hb hml hown hts hK hN hP1 hS1 (ct_R_drop l D ad cA w hJ (xs (nI (i + 1)).toNatClampNeg) st1 _ h1) ml_80 ml_77 ml_78 ml_79 ml_97 (by decide +kernel) ⟨Nat.le_of_ble_eq_true rfl, Nat.le_of_ble_eq_true rfl⟩ rfl rfl rfl rfl rfl hl.1 rfl (lv_room (Nat.le_of_ble_eq_true rfl)) dc_L_law_400 ⟨Nat.le_of_ble_eq_true rfl, Nat.le_of_ble_eq_true rfl⟩ (fun r2 st2 H2 locs2 hP2 hS2 h2 => ?_)
  refine lv_icmp_eq (tgt := 470) hx hb dc_L_law_403 (by decide) (fun c1 => ?_) (fun c1 => absurd h2.1 c1)
  exact va_forget (S_loc hAd hS2) (kk st2 H2 h2.2 hP2 (S_step hAd hS0 hS2))
set_option maxHeartbeats 4000000 in
set_option maxRecDepth 100000 in
theorem arm_keep {p : Program} {e : Env} {s : State} {m : MethodId} {below : List Frame} {meth : Method} {c : Code} (l : Launch) {b L : Nat} {xs : Nat → Int32} (hL : L ≤ 3073) (C0 : lw_At p s m meth c b L xs) {D : va_G} {ad : Nat → Nat} {cA : Nat → ClassId} {w : Nat} (hw : 5 ≤ w ∧ w ≤ 32) (hJ : Jn_ ad) (hAd : ∀ k, k < 25 → s.heap.size ≤ ad k) (hK : va_K D sC_ (ty_ cA) s) {i : Nat} (hi : i + 6 ≤ L) {st : St_} (hV : IV_ w st) {H : Heap} (hP : va_P D sC_ (wd_ ad cA w st) H) (hS0 : va_S (fun q : Nat => s.heap.size ≤ q) s.heap H []) {ls : Array Slot} (hl : lv_has ls 4 [(3, .int (nI i)), (0, .ref b), (1, .ref (ad 18)), (2, .ref (ad 24))])
    (kk : ∀ (st2 : St_) (H2 : Heap), IV_ w st2 → va_P D sC_ (wd_ ad cA w st2) H2 → va_S (fun q : Nat => s.heap.size ≤ q) s.heap H2 [] → W p l e room_1 s m #[Value.ref b] below meth c H2 [] 25 152088 (lw_Z below #[Value.ref b] s) (F0 m 470 ls [])) : W p l e room_1 s m #[Value.ref b] below meth c H [] 25 152088 (lw_Z below #[Value.ref b] s) (F0 m 408 ls []) := by
  obtain ⟨hx, hb, hr, hml, hown, hts, hX, hbl, hlocks, hgv⟩ := id C0
  have hN := NW_law hts
  have hbA : ¬ Aw_ ad b := fun ⟨k, hk, e⟩ => by have := hAd k hk; omega
  have hXH : va_X b L xs s H := hX.kept (hS0.2.1 b hbl (Nat.not_le.mpr hbl))
  have hbH : b < H.size := Nat.lt_of_lt_of_le hbl hS0.1
  have hS : va_S (Aw_ ad) H H [] := va_S.rf
  refine lv_aload_n hx hb dc_L_law_408 rfl (lv_at hl 2 rfl) ?_
  refine lw_cVi (y := yn_S_keep) (C := Rn_S) (index := 57) (n := 0) (own := Rn_L) 18 hx hb hml hown hts hK hN hP hS (ct_S_keep l D ad cA w hJ st _ (c_keep hw hV)) ml_35 ml_32 ml_33 ml_34 ml_48 (by decide +kernel) ⟨Nat.le_of_ble_eq_true rfl, Nat.le_of_ble_eq_true rfl⟩ rfl rfl rfl rfl rfl hl.1 rfl (lv_room (Nat.le_of_ble_eq_true rfl)) dc_L_law_409 ⟨Nat.le_of_ble_eq_true rfl, Nat.le_of_ble_eq_true rfl⟩ (fun r1 st1 H1 locs1 hP1 hS1 h1 => ?_)
  refine lv_aload_n hx hb dc_L_law_412 rfl (lv_at hl 3 rfl) ?_
  refine lw_cVi (y := yn_R_keep) (C := Rn_R) (index := 61) (n := 0) (own := Rn_L) 24 hx hb hml hown hts hK hN hP1 hS1 (ct_R_keep l D ad cA w hJ st1 _ h1) ml_84 ml_81 ml_82 ml_83 ml_97 (by decide +kernel) ⟨Nat.le_of_ble_eq_true rfl, Nat.le_of_ble_eq_true rfl⟩ rfl rfl rfl rfl rfl hl.1 rfl (lv_room (Nat.le_of_ble_eq_true rfl)) dc_L_law_413 ⟨Nat.le_of_ble_eq_true rfl, Nat.le_of_ble_eq_true rfl⟩ (fun r2 st2 H2 locs2 hP2 hS2 h2 => ?_)
  refine lv_icmp_eq (tgt := 470) hx hb dc_L_law_416 (by decide) (fun c1 => ?_) (fun c1 => absurd h2.1 c1)
  exact va_forget (S_loc hAd hS2) (kk st2 H2 h2.2 hP2 (S_step hAd hS0 hS2))
set_option maxHeartbeats 4000000 in
set_option maxRecDepth 100000 in
theorem arm_back {p : Program} {e : Env} {s : State} {m : MethodId} {below : List Frame} {meth : Method} {c : Code} (l : Launch) {b L : Nat} {xs : Nat → Int32} (hL : L ≤ 3073) (C0 : lw_At p s m meth c b L xs) {D : va_G} {ad : Nat → Nat} {cA : Nat → ClassId} {w : Nat} (hw : 5 ≤ w ∧ w ≤ 32) (hJ : Jn_ ad) (hAd : ∀ k, k < 25 → s.heap.size ≤ ad k) (hK : va_K D sC_ (ty_ cA) s) {i : Nat} (hi : i + 6 ≤ L) {st : St_} (hV : IV_ w st) {H : Heap} (hP : va_P D sC_ (wd_ ad cA w st) H) (hS0 : va_S (fun q : Nat => s.heap.size ≤ q) s.heap H []) {ls : Array Slot} (hl : lv_has ls 4 [(3, .int (nI i)), (0, .ref b), (1, .ref (ad 18)), (2, .ref (ad 24))])
    (kk : ∀ (st2 : St_) (H2 : Heap), IV_ w st2 → va_P D sC_ (wd_ ad cA w st2) H2 → va_S (fun q : Nat => s.heap.size ≤ q) s.heap H2 [] → W p l e room_1 s m #[Value.ref b] below meth c H2 [] 25 152088 (lw_Z below #[Value.ref b] s) (F0 m 470 ls [])) : W p l e room_1 s m #[Value.ref b] below meth c H [] 25 152088 (lw_Z below #[Value.ref b] s) (F0 m 421 ls []) := by
  obtain ⟨hx, hb, hr, hml, hown, hts, hX, hbl, hlocks, hgv⟩ := id C0
  have hN := NW_law hts
  have hbA : ¬ Aw_ ad b := fun ⟨k, hk, e⟩ => by have := hAd k hk; omega
  have hXH : va_X b L xs s H := hX.kept (hS0.2.1 b hbl (Nat.not_le.mpr hbl))
  have hbH : b < H.size := Nat.lt_of_lt_of_le hbl hS0.1
  have hS : va_S (Aw_ ad) H H [] := va_S.rf
  refine lv_aload_n hx hb dc_L_law_421 rfl (lv_at hl 2 rfl) ?_
  refine lw_cVi (y := yn_S_back) (C := Rn_S) (index := 62) (n := 0) (own := Rn_L) 18 hx hb hml hown hts hK hN hP hS (ct_S_back l D ad cA w hJ st _ (c_back hw hV)) ml_39 ml_36 ml_37 ml_38 ml_48 (by decide +kernel) ⟨Nat.le_of_ble_eq_true rfl, Nat.le_of_ble_eq_true rfl⟩ rfl rfl rfl rfl rfl hl.1 rfl (lv_room (Nat.le_of_ble_eq_true rfl)) dc_L_law_422 ⟨Nat.le_of_ble_eq_true rfl, Nat.le_of_ble_eq_true rfl⟩ (fun r1 st1 H1 locs1 hP1 hS1 h1 => ?_)
  refine lv_aload_n hx hb dc_L_law_425 rfl (lv_at hl 3 rfl) ?_
  refine lw_cVi (y := yn_R_back) (C := Rn_R) (index := 65) (n := 0) (own := Rn_L) 24 hx hb hml hown hts hK hN hP1 hS1 (ct_R_back l D ad cA w hJ st1 _ h1) ml_88 ml_85 ml_86 ml_87 ml_97 (by decide +kernel) ⟨Nat.le_of_ble_eq_true rfl, Nat.le_of_ble_eq_true rfl⟩ rfl rfl rfl rfl rfl hl.1 rfl (lv_room (Nat.le_of_ble_eq_true rfl)) dc_L_law_426 ⟨Nat.le_of_ble_eq_true rfl, Nat.le_of_ble_eq_true rfl⟩ (fun r2 st2 H2 locs2 hP2 hS2 h2 => ?_)
  refine lv_icmp_eq (tgt := 470) hx hb dc_L_law_429 (by decide) (fun c1 => ?_) (fun c1 => absurd h2.1 c1)
  exact va_forget (S_loc hAd hS2) (kk st2 H2 h2.2 hP2 (S_step hAd hS0 hS2))
set_option maxHeartbeats 4000000 in
set_option maxRecDepth 100000 in
theorem arm_keys {p : Program} {e : Env} {s : State} {m : MethodId} {below : List Frame} {meth : Method} {c : Code} (l : Launch) {b L : Nat} {xs : Nat → Int32} (hL : L ≤ 3073) (C0 : lw_At p s m meth c b L xs) {D : va_G} {ad : Nat → Nat} {cA : Nat → ClassId} {w : Nat} (hw : 5 ≤ w ∧ w ≤ 32) (hJ : Jn_ ad) (hAd : ∀ k, k < 25 → s.heap.size ≤ ad k) (hK : va_K D sC_ (ty_ cA) s) {i : Nat} (hi : i + 6 ≤ L) {st : St_} (hV : IV_ w st) {H : Heap} (hP : va_P D sC_ (wd_ ad cA w st) H) (hS0 : va_S (fun q : Nat => s.heap.size ≤ q) s.heap H []) {ls : Array Slot} (hl : lv_has ls 4 [(3, .int (nI i)), (0, .ref b), (1, .ref (ad 18)), (2, .ref (ad 24))])
    (kk : ∀ (st2 : St_) (H2 : Heap), IV_ w st2 → va_P D sC_ (wd_ ad cA w st2) H2 → va_S (fun q : Nat => s.heap.size ≤ q) s.heap H2 [] → W p l e room_1 s m #[Value.ref b] below meth c H2 [] 25 152088 (lw_Z below #[Value.ref b] s) (F0 m 470 ls [])) : W p l e room_1 s m #[Value.ref b] below meth c H [] 25 152088 (lw_Z below #[Value.ref b] s) (F0 m 434 ls []) := by
  obtain ⟨hx, hb, hr, hml, hown, hts, hX, hbl, hlocks, hgv⟩ := id C0
  have hN := NW_law hts
  have hbA : ¬ Aw_ ad b := fun ⟨k, hk, e⟩ => by have := hAd k hk; omega
  have hXH : va_X b L xs s H := hX.kept (hS0.2.1 b hbl (Nat.not_le.mpr hbl))
  have hbH : b < H.size := Nat.lt_of_lt_of_le hbl hS0.1
  have hS : va_S (Aw_ ad) H H [] := va_S.rf
  refine lv_aload_n hx hb dc_L_law_434 rfl (lv_at hl 2 rfl) ?_
  refine lv_aload_n hx hb dc_L_law_435 rfl (lv_at hl 1 rfl) ?_
  refine lv_iload_n hx hb dc_L_law_436 rfl (lv_at hl 0 rfl) ?_
  refine lv_iconst (v := 1) hx hb dc_L_law_437 (by decide) ?_
  refine lv_iadd hx hb dc_L_law_438 ?_
  refine lv_topi (fun y9 ey9 => ?_)
  rw [show (1 : Int32) = nI 1 from rfl, nI_add] at ey9
  subst ey9
  refine va_sld hx hb hXH hbH hbA hS (vp_in_nI (by omega) (by omega)) dc_L_law_439 ?_
  refine lw_cVi (y := yn_S_keys) (C := Rn_S) (index := 66) (n := 1) (own := Rn_L) 18 hx hb hml hown hts hK hN hP hS (ct_S_keys l D ad cA w hJ (xs (nI (i + 1)).toNatClampNeg) st _ (c_keys hV (xs (nI (i + 1)).toNatClampNeg))) ml_43 ml_40 ml_41 ml_42 ml_48 (by decide +kernel) ⟨Nat.le_of_ble_eq_true rfl, Nat.le_of_ble_eq_true rfl⟩ rfl rfl rfl rfl rfl hl.1 rfl (lv_room (Nat.le_of_ble_eq_true rfl)) dc_L_law_440 ⟨Nat.le_of_ble_eq_true rfl, Nat.le_of_ble_eq_true rfl⟩ (fun r1 st1 H1 locs1 hP1 hS1 h1 => ?_)
  refine lv_aload_n hx hb dc_L_law_443 rfl (lv_at hl 3 rfl) ?_
  refine lv_aload_n hx hb dc_L_law_444 rfl (lv_at hl 1 rfl) ?_
  refine lv_iload_n hx hb dc_L_law_445 rfl (lv_at hl 0 rfl) ?_
  refine lv_iconst (v := 1) hx hb dc_L_law_446 (by decide) ?_
  refine lv_iadd hx hb dc_L_law_447 ?_
  refine lv_topi (fun y9 ey9 => ?_)
  rw [show (1 : Int32) = nI 1 from rfl, nI_add] at ey9
  subst ey9
  refine va_sld hx hb hXH hbH hbA hS1 (vp_in_nI (by omega) (by omega)) dc_L_law_448 ?_
  refine lw_cVi (y := yn_R_keys) (C := Rn_R) (index := 69) (n := 1) (own := Rn_L) 24 hx hb hml hown hts hK hN hP1 hS1 (ct_R_keys l D ad cA w hJ (xs (nI (i + 1)).toNatClampNeg) st1 _ h1) ml_92 ml_89 ml_90 ml_91 ml_97 (by decide +kernel) ⟨Nat.le_of_ble_eq_true rfl, Nat.le_of_ble_eq_true rfl⟩ rfl rfl rfl rfl rfl hl.1 rfl (lv_room (Nat.le_of_ble_eq_true rfl)) dc_L_law_449 ⟨Nat.le_of_ble_eq_true rfl, Nat.le_of_ble_eq_true rfl⟩ (fun r2 st2 H2 locs2 hP2 hS2 h2 => ?_)
  refine lv_icmp_eq (tgt := 470) hx hb dc_L_law_452 (by decide) (fun c1 => ?_) (fun c1 => absurd h2.1 c1)
  exact va_forget (S_loc hAd hS2) (kk st2 H2 h2.2 hP2 (S_step hAd hS0 hS2))
set_option maxHeartbeats 4000000 in
set_option maxRecDepth 100000 in
theorem arm_check {p : Program} {e : Env} {s : State} {m : MethodId} {below : List Frame} {meth : Method} {c : Code} (l : Launch) {b L : Nat} {xs : Nat → Int32} (hL : L ≤ 3073) (C0 : lw_At p s m meth c b L xs) {D : va_G} {ad : Nat → Nat} {cA : Nat → ClassId} {w : Nat} (hw : 5 ≤ w ∧ w ≤ 32) (hJ : Jn_ ad) (hAd : ∀ k, k < 25 → s.heap.size ≤ ad k) (hK : va_K D sC_ (ty_ cA) s) {i : Nat} (hi : i + 6 ≤ L) {st : St_} (hV : IV_ w st) {H : Heap} (hP : va_P D sC_ (wd_ ad cA w st) H) (hS0 : va_S (fun q : Nat => s.heap.size ≤ q) s.heap H []) {ls : Array Slot} (hl : lv_has ls 4 [(3, .int (nI i)), (0, .ref b), (1, .ref (ad 18)), (2, .ref (ad 24))])
    (kk : ∀ (st2 : St_) (H2 : Heap), IV_ w st2 → va_P D sC_ (wd_ ad cA w st2) H2 → va_S (fun q : Nat => s.heap.size ≤ q) s.heap H2 [] → W p l e room_1 s m #[Value.ref b] below meth c H2 [] 25 152088 (lw_Z below #[Value.ref b] s) (F0 m 470 ls [])) : W p l e room_1 s m #[Value.ref b] below meth c H [] 25 152088 (lw_Z below #[Value.ref b] s) (F0 m 457 ls []) := by
  obtain ⟨hx, hb, hr, hml, hown, hts, hX, hbl, hlocks, hgv⟩ := id C0
  have hN := NW_law hts
  have hbA : ¬ Aw_ ad b := fun ⟨k, hk, e⟩ => by have := hAd k hk; omega
  have hXH : va_X b L xs s H := hX.kept (hS0.2.1 b hbl (Nat.not_le.mpr hbl))
  have hbH : b < H.size := Nat.lt_of_lt_of_le hbl hS0.1
  have hS : va_S (Aw_ ad) H H [] := va_S.rf
  refine lv_aload_n hx hb dc_L_law_457 rfl (lv_at hl 2 rfl) ?_
  refine lw_cVi (y := yn_S_check) (C := Rn_S) (index := 70) (n := 0) (own := Rn_L) 18 hx hb hml hown hts hK hN hP hS (ct_S_check l D ad cA w hJ st _ (c_check hw hV)) ml_47 ml_44 ml_45 ml_46 ml_48 (by decide +kernel) ⟨Nat.le_of_ble_eq_true rfl, Nat.le_of_ble_eq_true rfl⟩ rfl rfl rfl rfl rfl hl.1 rfl (lv_room (Nat.le_of_ble_eq_true rfl)) dc_L_law_458 ⟨Nat.le_of_ble_eq_true rfl, Nat.le_of_ble_eq_true rfl⟩ (fun r1 st1 H1 locs1 hP1 hS1 h1 => ?_)
  refine lv_aload_n hx hb dc_L_law_461 rfl (lv_at hl 3 rfl) ?_
  refine lw_cVi (y := yn_R_check) (C := Rn_R) (index := 73) (n := 0) (own := Rn_L) 24 hx hb hml hown hts hK hN hP1 hS1 (ct_R_check l D ad cA w hJ st1 _ h1) ml_96 ml_93 ml_94 ml_95 ml_97 (by decide +kernel) ⟨Nat.le_of_ble_eq_true rfl, Nat.le_of_ble_eq_true rfl⟩ rfl rfl rfl rfl rfl hl.1 rfl (lv_room (Nat.le_of_ble_eq_true rfl)) dc_L_law_462 ⟨Nat.le_of_ble_eq_true rfl, Nat.le_of_ble_eq_true rfl⟩ (fun r2 st2 H2 locs2 hP2 hS2 h2 => ?_)
  refine lv_icmp_eq (tgt := 470) hx hb dc_L_law_465 (by decide) (fun c1 => ?_) (fun c1 => absurd h2.1 c1)
  exact va_forget (S_loc hAd hS2) (kk st2 H2 h2.2 hP2 (S_step hAd hS0 hS2))
