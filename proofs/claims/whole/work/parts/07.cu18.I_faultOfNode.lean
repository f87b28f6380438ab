set_option maxHeartbeats 4000000 in
set_option maxRecDepth 100000 in
theorem ct_I_faultOfNode (l : Launch) (D : va_G) (ad : Nat → Nat) (cA : Nat → ClassId) (w : Nat) (hJ : Jn_ ad) (d : Nat) (rec : Int32 → Int32 → St_ → (Int32 → St_ → Prop) → Prop) (hrec : ∀ (z0 : Int32) (z1 : Int32) (st : St_) (post : Int32 → St_ → Prop), rec z0 z1 st post → Met l yn_I_faultBelow (Cond.code yn_I_faultBelow bc_I_faultBelow 3 (some .int) :: Wk_) (rm_I_faultBelow d) (Pw_ D ad cA w st [.ref (ad 21), .int z0, .int z1]) (Qi_ D ad cA w post) 0 0 (Aw_ ad)) (x1 : Int32) (x2 : Int32) (st : St_) (post : Int32 → St_ → Prop) (h : wp_I_faultOfNode w rec x1 x2 st post) : Met l yn_I_faultOfNode (Cond.code yn_I_faultOfNode bc_I_faultOfNode 10 (some .int) :: Wk_) (rm_I_faultOfNode d) (Pw_ D ad cA w st [.ref (ad 21), .int x1, .int x2]) (Qi_ D ad cA w post) 0 0 (Aw_ ad) := by
  refine Met.ofW (cc := bc_I_faultOfNode) (maxL := 10) (ret := (some .int)) (by decide) rfl ?_
  intro p e s m args below meth c s₁ B hml hv
  obtain ⟨rfl, hP, hK, hN⟩ := hv
  have hx := B.exec
  have hb := B.bytes
  have hr := B.returns
  have hts : ∀ v ∈ Wk_, v.before [.ref (ad 21), .int x1, .int x2].toArray s = true := fun v hv => atoms_spec (ws := Cond.code yn_I_faultOfNode bc_I_faultOfNode 10 (some .int) :: Wk_) B.pre v (List.mem_cons_of_mem _ hv)
  have hown : s.vm.findClass Rn_I = some m.cls := findClass_of_methodNamed B.named
  have hlocks := B.notSynchronized
  have hS : va_S (Aw_ ad) s.heap s.heap [] := va_S.rf
  have Lp_19 : ∀ (n : Nat) (y1 y2 y3 y4 y5 y6 : Int32) (st : St_), wp_I_faultOfNode_19 w rec post n y1 y2 y3 y4 y5 y6 st → ∀ (H : Heap) (locs : List Loc), va_P D sC_ (wd_ ad cA w st) H → va_S (Aw_ ad) s.heap H locs → ∀ ls : Array Slot, lv_has ls 10 [(0, .ref (ad 21)), (1, .int y1), (2, .int y2), (3, .int y3), (4, .int y4), (5, .int y5), (6, .int y6)] → W p l e (headSpec (Cond.code yn_I_faultOfNode bc_I_faultOfNode 10 (some .int) :: Wk_) (rm_I_faultOfNode d)).room s m [.ref (ad 21), .int x1, .int x2].toArray below meth c H locs 0 0 (MQ below (Qi_ D ad cA w post) [.ref (ad 21), .int x1, .int x2].toArray s 0 0 (Aw_ ad)) (F0 m 19 ls []) := by
    intro n
    induction n with
    | zero => intro y1 y2 y3 y4 y5 y6 st h; exact h.elim
    | succ n ih =>
      intro y1 y2 y3 y4 y5 y6 st h H locs hP hS ls hl
      refine lv_iload hx hb dc_I_faultOfNode_19 (lv_at hl 6 rfl) ?_
      refine lv_iload_n hx hb dc_I_faultOfNode_21 rfl (lv_at hl 3 rfl) ?_
      refine lv_icmp_ge (tgt := 167) hx hb dc_I_faultOfNode_22 (by decide) (fun c => ?_) (fun c => ?_)
      · have h := h.1 c
        refine lv_aload_n hx hb dc_I_faultOfNode_167 rfl (lv_at hl 0 rfl) ?_
        refine va_get (D := D) (ci := 3) (v := .ref (ad 7)) (C := Rn_I) (T := Fn_I) (N := 7) hx hb hts in_I hown hK hP 21 rfl rfl 4 (by decide) (hts _ mw_272) (fun _ h9 => h9) rfl dc_I_faultOfNode_168 ?_
        refine lv_iload_n hx hb dc_I_faultOfNode_171 rfl (lv_at hl 1 rfl) ?_
        refine lv_iload hx hb dc_I_faultOfNode_172 (lv_at hl 4 rfl) ?_
        refine w_ist 7 (by decide) hJ hx hb hK hP hS h.1 dc_I_faultOfNode_174 (fun H locs hP hS => ?_)
        obtain ⟨st103, est103⟩ : ∃ z : St_, z = ws_1 st 7 (y1).toNatClampNeg y4 := ⟨_, rfl⟩
        rw [← est103] at hP
        have h := h.2 st103 est103
        refine lv_aload_n hx hb dc_I_faultOfNode_175 rfl (lv_at hl 0 rfl) ?_
        refine va_get (D := D) (ci := 3) (v := .ref (ad 8)) (C := Rn_I) (T := Fn_I) (N := 7) hx hb hts in_I hown hK hP 21 rfl rfl 5 (by decide) (hts _ mw_273) (fun _ h9 => h9) rfl dc_I_faultOfNode_176 ?_
        refine lv_iload_n hx hb dc_I_faultOfNode_179 rfl (lv_at hl 1 rfl) ?_
        refine lv_iload hx hb dc_I_faultOfNode_180 (lv_at hl 5 rfl) ?_
        refine w_ist 8 (by decide) hJ hx hb hK hP hS h.1 dc_I_faultOfNode_182 (fun H locs hP hS => ?_)
        obtain ⟨st104, est104⟩ : ∃ z : St_, z = ws_1 st103 8 (y1).toNatClampNeg y5 := ⟨_, rfl⟩
        rw [← est104] at hP
        have h := h.2 st104 est104
        refine lv_iconst (v := 0) hx hb dc_I_faultOfNode_183 (by decide) ?_
        exact w_iret hx hb hr hlocks hP hS h dc_I_faultOfNode_184
      · have h := h.2 c
        refine lv_aload_n hx hb dc_I_faultOfNode_25 rfl (lv_at hl 0 rfl) ?_
        refine va_get (D := D) (ci := 3) (v := .ref (ad 19)) (C := Rn_I) (T := Fn_I) (N := 7) hx hb hts in_I hown hK hP 21 rfl rfl 0 (by decide) (hts _ mw_260) (fun _ h9 => h9) rfl dc_I_faultOfNode_26 ?_
        refine lv_iload_n hx hb dc_I_faultOfNode_29 rfl (lv_at hl 1 rfl) ?_
        refine lv_iload hx hb dc_I_faultOfNode_30 (lv_at hl 6 rfl) ?_
        refine w_cVi (y := yn_B_goal) (C := Rn_B) (index := 97) (n := 2) (own := Rn_I) 19 hx hb hml hown hts hK hN hP hS (ct_B_goal l D ad cA w hJ y1 y6 st _ h) mw_48 mw_274 mw_50 mw_51 mw_18 (by decide +kernel) (by refine ⟨?_, ?_⟩ <;> (try dsimp only [headSpec]) <;> omega) rfl rfl rfl rfl rfl hl.1 rfl (lv_room (Nat.le_of_ble_eq_true rfl)) dc_I_faultOfNode_32 ⟨Nat.zero_le _, Nat.zero_le _⟩ (fun r106 st105 H locs hP hS h => ?_)
        refine lv_istore (lv' := [(7, .int r106), (0, .ref (ad 21)), (1, .int y1), (2, .int y2), (3, .int y3), (4, .int y4), (5, .int y5), (6, .int y6)]) hx hb dc_I_faultOfNode_35 hl (by decide) rfl (fun ls hl => ?_)
        refine lv_aload_n hx hb dc_I_faultOfNode_37 rfl (lv_at hl 1 rfl) ?_
        refine va_get (D := D) (ci := 3) (v := .ref (ad 19)) (C := Rn_I) (T := Fn_I) (N := 7) hx hb hts in_I hown hK hP 21 rfl rfl 0 (by decide) (hts _ mw_260) (fun _ h9 => h9) rfl dc_I_faultOfNode_38 ?_
        refine lv_iload hx hb dc_I_faultOfNode_41 (lv_at hl 0 rfl) ?_
        refine w_cVi (y := yn_B_isBlock) (C := Rn_B) (index := 66) (n := 1) (own := Rn_I) 19 hx hb hml hown hts hK hN hP hS (ct_B_isBlock l D ad cA w hJ r106 st105 _ h) mw_14 mw_261 mw_16 mw_17 mw_18 (by decide +kernel) (by refine ⟨?_, ?_⟩ <;> (try dsimp only [headSpec]) <;> omega) rfl rfl rfl rfl rfl hl.1 rfl (lv_room (Nat.le_of_ble_eq_true rfl)) dc_I_faultOfNode_43 ⟨Nat.zero_le _, Nat.zero_le _⟩ (fun r108 st107 H locs hP hS h => ?_)
        refine lv_if_eq (tgt := 64) hx hb dc_I_faultOfNode_46 (by decide) (fun c => ?_) (fun c => ?_)
        · have h := h.1 c
          refine lv_iload_n hx hb dc_I_faultOfNode_64 rfl (lv_at hl 2 rfl) ?_
          exact w_iret hx hb hr hlocks hP hS h dc_I_faultOfNode_65
        · have h := h.2 c
          refine lv_aload_n hx hb dc_I_faultOfNode_49 rfl (lv_at hl 1 rfl) ?_
          refine va_get (D := D) (ci := 3) (v := .ref (ad 19)) (C := Rn_I) (T := Fn_I) (N := 7) hx hb hts in_I hown hK hP 21 rfl rfl 0 (by decide) (hts _ mw_260) (fun _ h9 => h9) rfl dc_I_faultOfNode_50 ?_
          refine lv_iload hx hb dc_I_faultOfNode_53 (lv_at hl 0 rfl) ?_
          refine w_cVi (y := yn_B_level) (C := Rn_B) (index := 72) (n := 1) (own := Rn_I) 19 hx hb hml hown hts hK hN hP hS (ct_B_level l D ad cA w hJ r106 st107 _ h) mw_20 mw_262 mw_22 mw_23 mw_18 (by decide +kernel) (by refine ⟨?_, ?_⟩ <;> (try dsimp only [headSpec]) <;> omega) rfl rfl rfl rfl rfl hl.1 rfl (lv_room (Nat.le_of_ble_eq_true rfl)) dc_I_faultOfNode_55 ⟨Nat.zero_le _, Nat.zero_le _⟩ (fun r110 st109 H locs hP hS h => ?_)
          refine lv_iload_n hx hb dc_I_faultOfNode_58 rfl (lv_at hl 3 rfl) ?_
          refine lv_iconst (v := 1) hx hb dc_I_faultOfNode_59 (by decide) ?_
          refine lv_isub hx hb dc_I_faultOfNode_60 ?_
          refine lv_icmp_eq (tgt := 66) hx hb dc_I_faultOfNode_61 (by decide) (fun c => ?_) (fun c => ?_)
          · have h := h.1 c
            refine lv_aload_n hx hb dc_I_faultOfNode_66 rfl (lv_at hl 1 rfl) ?_
            refine va_get (D := D) (ci := 3) (v := .ref (ad 19)) (C := Rn_I) (T := Fn_I) (N := 7) hx hb hts in_I hown hK hP 21 rfl rfl 0 (by decide) (hts _ mw_260) (fun _ h9 => h9) rfl dc_I_faultOfNode_67 ?_
            refine lv_iload hx hb dc_I_faultOfNode_70 (lv_at hl 0 rfl) ?_
            refine w_cVi (y := yn_B_size) (C := Rn_B) (index := 75) (n := 1) (own := Rn_I) 19 hx hb hml hown hts hK hN hP hS (ct_B_size l D ad cA w hJ r106 st109 _ h) mw_26 mw_263 mw_28 mw_29 mw_18 (by decide +kernel) (by refine ⟨?_, ?_⟩ <;> (try dsimp only [headSpec]) <;> omega) rfl rfl rfl rfl rfl hl.1 rfl (lv_room (Nat.le_of_ble_eq_true rfl)) dc_I_faultOfNode_72 ⟨Nat.zero_le _, Nat.zero_le _⟩ (fun r112 st111 H locs hP hS h => ?_)
            refine lv_aload_n hx hb dc_I_faultOfNode_75 rfl (lv_at hl 1 rfl) ?_
            refine va_get (D := D) (ci := 3) (v := .int (nI (w / 2))) (C := Rn_I) (T := Fn_I) (N := 7) hx hb hts in_I hown hK hP 21 rfl rfl 2 (by decide) (hts _ mw_275) (fun _ h9 => h9) rfl dc_I_faultOfNode_76 ?_
            refine lv_icmp_ge (tgt := 85) hx hb dc_I_faultOfNode_79 (by decide) (fun c => ?_) (fun c => ?_)
            · have h := h.1 c
              refine lv_aload_n hx hb dc_I_faultOfNode_85 rfl (lv_at hl 1 rfl) ?_
              refine lv_iload hx hb dc_I_faultOfNode_86 (lv_at hl 0 rfl) ?_
              refine lv_iload_n hx hb dc_I_faultOfNode_88 rfl (lv_at hl 3 rfl) ?_
              refine lv_iconst (v := 1) hx hb dc_I_faultOfNode_89 (by decide) ?_
              refine lv_isub hx hb dc_I_faultOfNode_90 ?_
              refine w_cVi (y := yn_I_faultBelow) (C := Rn_I) (index := 78) (n := 2) (own := Rn_I) 21 hx hb hml hown hts hK hN hP hS (hrec r106 (y2 - 1) st111 _ h) mw_276 mw_277 mw_278 mw_279 mw_271 (by decide +kernel) (by refine ⟨?_, ?_⟩ <;> (try dsimp only [headSpec]) <;> omega) rfl rfl rfl rfl rfl hl.1 rfl (lv_room (Nat.le_of_ble_eq_true rfl)) dc_I_faultOfNode_91 ⟨Nat.zero_le _, Nat.zero_le _⟩ (fun r114 st113 H locs hP hS h => ?_)
              refine lv_istore (lv' := [(8, .int r114), (7, .int r106), (0, .ref (ad 21)), (1, .int y1), (2, .int y2), (3, .int y3), (4, .int y4), (5, .int y5), (6, .int y6)]) hx hb dc_I_faultOfNode_94 hl (by decide) rfl (fun ls hl => ?_)
              refine lv_iload hx hb dc_I_faultOfNode_96 (lv_at hl 0 rfl) ?_
              refine lv_if_eq (tgt := 104) hx hb dc_I_faultOfNode_98 (by decide) (fun c => ?_) (fun c => ?_)
              · have h := h.1 c
                refine lv_aload_n hx hb dc_I_faultOfNode_104 rfl (lv_at hl 2 rfl) ?_
                refine va_get (D := D) (ci := 3) (v := .ref (ad 19)) (C := Rn_I) (T := Fn_I) (N := 7) hx hb hts in_I hown hK hP 21 rfl rfl 0 (by decide) (hts _ mw_260) (fun _ h9 => h9) rfl dc_I_faultOfNode_105 ?_
                refine lv_iload_n hx hb dc_I_faultOfNode_108 rfl (lv_at hl 3 rfl) ?_
                refine lv_iload hx hb dc_I_faultOfNode_109 (lv_at hl 8 rfl) ?_
                refine w_cVi (y := yn_B_key) (C := Rn_B) (index := 91) (n := 2) (own := Rn_I) 19 hx hb hml hown hts hK hN hP hS (ct_B_key l D ad cA w hJ y1 y6 st113 _ h) mw_43 mw_266 mw_45 mw_46 mw_18 (by decide +kernel) (by refine ⟨?_, ?_⟩ <;> (try dsimp only [headSpec]) <;> omega) rfl rfl rfl rfl rfl hl.1 rfl (lv_room (Nat.le_of_ble_eq_true rfl)) dc_I_faultOfNode_111 ⟨Nat.zero_le _, Nat.zero_le _⟩ (fun r116 st115 H locs hP hS h => ?_)
                refine lv_istore (lv' := [(9, .int r116), (8, .int r114), (7, .int r106), (0, .ref (ad 21)), (1, .int y1), (2, .int y2), (3, .int y3), (4, .int y4), (5, .int y5), (6, .int y6)]) hx hb dc_I_faultOfNode_114 hl (by decide) rfl (fun ls hl => ?_)
                refine lv_iload hx hb dc_I_faultOfNode_116 (lv_at hl 0 rfl) ?_
                refine lv_aload_n hx hb dc_I_faultOfNode_118 rfl (lv_at hl 3 rfl) ?_
                refine va_get (D := D) (ci := 3) (v := .ref (ad 19)) (C := Rn_I) (T := Fn_I) (N := 7) hx hb hts in_I hown hK hP 21 rfl rfl 0 (by decide) (hts _ mw_260) (fun _ h9 => h9) rfl dc_I_faultOfNode_119 ?_
                refine lv_iload hx hb dc_I_faultOfNode_122 (lv_at hl 2 rfl) ?_
                refine lv_iconst (v := 0) hx hb dc_I_faultOfNode_124 (by decide) ?_
                refine w_cVi (y := yn_B_key) (C := Rn_B) (index := 91) (n := 2) (own := Rn_I) 19 hx hb hml hown hts hK hN hP hS (ct_B_key l D ad cA w hJ r106 0 st115 _ h) mw_43 mw_266 mw_45 mw_46 mw_18 (by decide +kernel) (by refine ⟨?_, ?_⟩ <;> (try dsimp only [headSpec]) <;> omega) rfl rfl rfl rfl rfl hl.1 rfl (lv_room (Nat.le_of_ble_eq_true rfl)) dc_I_faultOfNode_125 ⟨Nat.zero_le _, Nat.zero_le _⟩ (fun r118 st117 H locs hP hS h => ?_)
                refine lv_icmp_ne (tgt := 138) hx hb dc_I_faultOfNode_128 (by decide) (fun c => ?_) (fun c => ?_)
                · have h := h.1 c
                  refine lv_iload_n hx hb dc_I_faultOfNode_138 rfl (lv_at hl 4 rfl) ?_
                  exact w_iret hx hb hr hlocks hP hS h dc_I_faultOfNode_139
                · have h := h.2 c
                  refine lv_iload hx hb dc_I_faultOfNode_131 (lv_at hl 0 rfl) ?_
                  refine lv_iload hx hb dc_I_faultOfNode_133 (lv_at hl 8 rfl) ?_
                  refine lv_icmp_gt (tgt := 140) hx hb dc_I_faultOfNode_135 (by decide) (fun c => ?_) (fun c => ?_)
                  · have h := h.1 c
                    refine lv_aload_n hx hb dc_I_faultOfNode_140 rfl (lv_at hl 3 rfl) ?_
                    refine va_get (D := D) (ci := 3) (v := .ref (ad 8)) (C := Rn_I) (T := Fn_I) (N := 7) hx hb hts in_I hown hK hP 21 rfl rfl 5 (by decide) (hts _ mw_273) (fun _ h9 => h9) rfl dc_I_faultOfNode_141 ?_
                    refine lv_iload hx hb dc_I_faultOfNode_144 (lv_at hl 2 rfl) ?_
                    refine w_ild 8 (by decide) hx hb hK hP h.1 dc_I_faultOfNode_146 ?_
                    have h := h.2
                    refine lv_topi (fun x119 ex119 => ?_)
                    have h := h x119 ex119
                    refine lv_istore (lv' := [(5, .int x119), (9, .int r116), (8, .int r114), (7, .int r106), (0, .ref (ad 21)), (1, .int y1), (2, .int y2), (3, .int y3), (4, .int y4), (6, .int y6)]) hx hb dc_I_faultOfNode_147 hl (by decide) rfl (fun ls hl => ?_)
                    refine lv_iload hx hb dc_I_faultOfNode_149 (lv_at hl 8 rfl) ?_
                    refine lv_aload_n hx hb dc_I_faultOfNode_151 rfl (lv_at hl 4 rfl) ?_
                    refine va_get (D := D) (ci := 3) (v := .ref (ad 7)) (C := Rn_I) (T := Fn_I) (N := 7) hx hb hts in_I hown hK hP 21 rfl rfl 4 (by decide) (hts _ mw_272) (fun _ h9 => h9) rfl dc_I_faultOfNode_152 ?_
                    refine lv_iload hx hb dc_I_faultOfNode_155 (lv_at hl 3 rfl) ?_
                    refine w_ild 7 (by decide) hx hb hK hP h.1 dc_I_faultOfNode_157 ?_
                    have h := h.2
                    refine lv_iadd hx hb dc_I_faultOfNode_158 ?_
                    refine lv_topi (fun x120 ex120 => ?_)
                    have h := h x120 ex120
                    refine lv_istore (lv' := [(4, .int x120), (5, .int x119), (9, .int r116), (8, .int r114), (7, .int r106), (0, .ref (ad 21)), (1, .int y1), (2, .int y2), (3, .int y3), (6, .int y6)]) hx hb dc_I_faultOfNode_159 hl (by decide) rfl (fun ls hl => ?_)
                    obtain ⟨x121, ex121⟩ : ∃ y : Int32, y = y6 + 1 := ⟨_, rfl⟩
                    have h := h x121 ex121
                    refine lv_iinc (v := x121) (lv' := [(6, .int x121), (4, .int x120), (5, .int x119), (9, .int r116), (8, .int r114), (7, .int r106), (0, .ref (ad 21)), (1, .int y1), (2, .int y2), (3, .int y3)]) hx hb dc_I_faultOfNode_161 hl (k := 9) rfl (by rw [ex121]; rfl) (by decide) rfl (fun ls hl => ?_)
                    refine lv_goto (tgt := 19) hx hb dc_I_faultOfNode_164 (by decide) ?_
                    exact ih y1 y2 y3 x120 x119 x121 st117 h _ _ hP hS ls (lv_sub hl [6, 7, 8, 9, 1, 2, 0] rfl)
                  · have h := h.2 c
                    refine lv_iload_n hx hb dc_I_faultOfNode_138 rfl (lv_at hl 4 rfl) ?_
                    exact w_iret hx hb hr hlocks hP hS h dc_I_faultOfNode_139
              · have h := h.2 c
                refine lv_iload hx hb dc_I_faultOfNode_101 (lv_at hl 0 rfl) ?_
                exact w_iret hx hb hr hlocks hP hS h dc_I_faultOfNode_103
            · have h := h.2 c
              refine lv_iload hx hb dc_I_faultOfNode_82 (lv_at hl 0 rfl) ?_
              exact w_iret hx hb hr hlocks hP hS h dc_I_faultOfNode_84
          · have h := h.2 c
            refine lv_iload_n hx hb dc_I_faultOfNode_64 rfl (lv_at hl 2 rfl) ?_
            exact w_iret hx hb hr hlocks hP hS h dc_I_faultOfNode_65
  have hl := lv_entry ([.ref (ad 21), .int x1, .int x2]) (n := 10) (Nat.le_of_ble_eq_true rfl)
  rw [lg_entry_eq]
  generalize (lg_sl ([.ref (ad 21), .int x1, .int x2]) ++ List.replicate (10 - (lg_sl ([.ref (ad 21), .int x1, .int x2])).length) Slot.unset).toArray = ls at hl ⊢
  have hl : lv_has ls 10 [(0, .ref (ad 21)), (1, .int x1), (2, .int x2)] := hl
  refine lv_aload_n hx hb dc_I_faultOfNode_0 rfl (lv_at hl 0 rfl) ?_
  refine va_get (D := D) (ci := 3) (v := .ref (ad 19)) (C := Rn_I) (T := Fn_I) (N := 7) hx hb hts in_I hown hK hP 21 rfl rfl 0 (by decide) (hts _ mw_260) (fun _ h9 => h9) rfl dc_I_faultOfNode_1 ?_
  refine lv_iload_n hx hb dc_I_faultOfNode_4 rfl (lv_at hl 1 rfl) ?_
  refine w_cVi (y := yn_B_size) (C := Rn_B) (index := 75) (n := 1) (own := Rn_I) 19 hx hb hml hown hts hK hN hP hS (ct_B_size l D ad cA w hJ x1 st _ h) mw_26 mw_263 mw_28 mw_29 mw_18 (by decide +kernel) (by refine ⟨?_, ?_⟩ <;> (try dsimp only [headSpec]) <;> omega) rfl rfl rfl rfl rfl hl.1 rfl (lv_room (Nat.le_of_ble_eq_true rfl)) dc_I_faultOfNode_5 ⟨Nat.zero_le _, Nat.zero_le _⟩ (fun r102 st101 H locs hP hS h => ?_)
  refine lv_istore_n (lv' := [(3, .int r102), (0, .ref (ad 21)), (1, .int x1), (2, .int x2)]) hx hb dc_I_faultOfNode_8 rfl hl (by decide) rfl (fun ls hl => ?_)
  refine lv_iconst (v := 0) hx hb dc_I_faultOfNode_9 (by decide) ?_
  refine lv_istore (lv' := [(4, .int 0), (3, .int r102), (0, .ref (ad 21)), (1, .int x1), (2, .int x2)]) hx hb dc_I_faultOfNode_10 hl (by decide) rfl (fun ls hl => ?_)
  refine lv_bipush (v := (-2)) hx hb dc_I_faultOfNode_12 (by decide) ?_
  refine lv_istore (lv' := [(5, .int (-2)), (4, .int 0), (3, .int r102), (0, .ref (ad 21)), (1, .int x1), (2, .int x2)]) hx hb dc_I_faultOfNode_14 hl (by decide) rfl (fun ls hl => ?_)
  refine lv_iconst (v := 0) hx hb dc_I_faultOfNode_16 (by decide) ?_
  refine lv_istore (lv' := [(6, .int 0), (5, .int (-2)), (4, .int 0), (3, .int r102), (0, .ref (ad 21)), (1, .int x1), (2, .int x2)]) hx hb dc_I_faultOfNode_17 hl (by decide) rfl (fun ls hl => ?_)
  obtain ⟨n, h⟩ := h
  exact Lp_19 n x1 x2 r102 0 (-2) 0 st101 h _ _ hP hS ls (lv_sub hl [4, 5, 6, 3, 2, 1, 0] rfl)
