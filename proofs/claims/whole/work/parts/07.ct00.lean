set_option maxHeartbeats 4000000 in
set_option maxRecDepth 100000 in
theorem ct_S_isMap (l : Launch) (D : va_G) (ad : Nat → Nat) (cA : Nat → ClassId) (w : Nat) (hJ : Jn_ ad) (x0 : Int32) (st : St_) (post : Int32 → St_ → Prop) (h : wp_S_isMap w x0 st post) : Met l yn_S_isMap (Cond.code yn_S_isMap bc_S_isMap 1 (some .boolean) :: Wk_) rm_S_isMap (Pw_ D ad cA w st [.int x0]) (Qi_ D ad cA w post) 0 0 (Aw_ ad) := by
  refine Met.ofW (cc := bc_S_isMap) (maxL := 1) (ret := (some .boolean)) (by decide) rfl ?_
  intro p e s m args below meth c s₁ B hml hv
  obtain ⟨rfl, hP, hK, hN⟩ := hv
  have hx := B.exec
  have hb := B.bytes
  have hr := B.returns
  have hts : ∀ v ∈ Wk_, v.before [.int x0].toArray s = true := fun v hv => atoms_spec (ws := Cond.code yn_S_isMap bc_S_isMap 1 (some .boolean) :: Wk_) B.pre v (List.mem_cons_of_mem _ hv)
  have hown : s.vm.findClass Rn_S = some m.cls := findClass_of_methodNamed B.named
  have hlocks := B.notSynchronized
  have hS : va_S (Aw_ ad) s.heap s.heap [] := va_S.rf
  have hl := lv_entry ([.int x0]) (n := 1) (Nat.le_of_ble_eq_true rfl)
  rw [lg_entry_eq]
  generalize (lg_sl ([.int x0]) ++ List.replicate (1 - (lg_sl ([.int x0])).length) Slot.unset).toArray = ls at hl ⊢
  have hl : lv_has ls 1 [(0, .int x0)] := hl
  refine lv_iload_n hx hb dc_S_isMap_0 rfl (lv_at hl 0 rfl) ?_
  refine lv_if_lt (tgt := 14) hx hb dc_S_isMap_1 (by decide) (fun c => ?_) (fun c => ?_)
  · have h := h.1 c
    refine lv_iconst (v := 0) hx hb dc_S_isMap_14 (by decide) ?_
    exact w_zret hx hb hr rfl hlocks hP hS h dc_S_isMap_15
  · have h := h.2 c
    refine lv_iload_n hx hb dc_S_isMap_4 rfl (lv_at hl 0 rfl) ?_
    refine lv_bipush (v := 8) hx hb dc_S_isMap_5 (by decide) ?_
    refine lv_icmp_ge (tgt := 14) hx hb dc_S_isMap_7 (by decide) (fun c => ?_) (fun c => ?_)
    · have h := h.1 c
      refine lv_iconst (v := 0) hx hb dc_S_isMap_14 (by decide) ?_
      exact w_zret hx hb hr rfl hlocks hP hS h dc_S_isMap_15
    · have h := h.2 c
      refine lv_iconst (v := 1) hx hb dc_S_isMap_10 (by decide) ?_
      refine lv_goto (tgt := 15) hx hb dc_S_isMap_11 (by decide) ?_
      exact w_zret hx hb hr rfl hlocks hP hS h dc_S_isMap_15
set_option maxHeartbeats 4000000 in
set_option maxRecDepth 100000 in
theorem ct_S_isKey (l : Launch) (D : va_G) (ad : Nat → Nat) (cA : Nat → ClassId) (w : Nat) (hJ : Jn_ ad) (x0 : Int32) (st : St_) (post : Int32 → St_ → Prop) (h : wp_S_isKey w x0 st post) : Met l yn_S_isKey (Cond.code yn_S_isKey bc_S_isKey 1 (some .boolean) :: Wk_) rm_S_isKey (Pw_ D ad cA w st [.int x0]) (Qi_ D ad cA w post) 0 0 (Aw_ ad) := by
  refine Met.ofW (cc := bc_S_isKey) (maxL := 1) (ret := (some .boolean)) (by decide) rfl ?_
  intro p e s m args below meth c s₁ B hml hv
  obtain ⟨rfl, hP, hK, hN⟩ := hv
  have hx := B.exec
  have hb := B.bytes
  have hr := B.returns
  have hts : ∀ v ∈ Wk_, v.before [.int x0].toArray s = true := fun v hv => atoms_spec (ws := Cond.code yn_S_isKey bc_S_isKey 1 (some .boolean) :: Wk_) B.pre v (List.mem_cons_of_mem _ hv)
  have hown : s.vm.findClass Rn_S = some m.cls := findClass_of_methodNamed B.named
  have hlocks := B.notSynchronized
  have hS : va_S (Aw_ ad) s.heap s.heap [] := va_S.rf
  have hl := lv_entry ([.int x0]) (n := 1) (Nat.le_of_ble_eq_true rfl)
  rw [lg_entry_eq]
  generalize (lg_sl ([.int x0]) ++ List.replicate (1 - (lg_sl ([.int x0])).length) Slot.unset).toArray = ls at hl ⊢
  have hl : lv_has ls 1 [(0, .int x0)] := hl
  refine lv_iload_n hx hb dc_S_isKey_0 rfl (lv_at hl 0 rfl) ?_
  refine lv_if_lt (tgt := 15) hx hb dc_S_isKey_1 (by decide) (fun c => ?_) (fun c => ?_)
  · have h := h.1 c
    refine lv_iconst (v := 0) hx hb dc_S_isKey_15 (by decide) ?_
    exact w_zret hx hb hr rfl hlocks hP hS h dc_S_isKey_16
  · have h := h.2 c
    refine lv_iload_n hx hb dc_S_isKey_4 rfl (lv_at hl 0 rfl) ?_
    refine lv_sipush (v := 4095) hx hb dc_S_isKey_5 (by decide) ?_
    refine lv_icmp_gt (tgt := 15) hx hb dc_S_isKey_8 (by decide) (fun c => ?_) (fun c => ?_)
    · have h := h.1 c
      refine lv_iconst (v := 0) hx hb dc_S_isKey_15 (by decide) ?_
      exact w_zret hx hb hr rfl hlocks hP hS h dc_S_isKey_16
    · have h := h.2 c
      refine lv_iconst (v := 1) hx hb dc_S_isKey_11 (by decide) ?_
      refine lv_goto (tgt := 16) hx hb dc_S_isKey_12 (by decide) ?_
      exact w_zret hx hb hr rfl hlocks hP hS h dc_S_isKey_16
set_option maxHeartbeats 4000000 in
set_option maxRecDepth 100000 in
theorem ct_S_isStamp (l : Launch) (D : va_G) (ad : Nat → Nat) (cA : Nat → ClassId) (w : Nat) (hJ : Jn_ ad) (x0 : Int32) (st : St_) (post : Int32 → St_ → Prop) (h : wp_S_isStamp w x0 st post) : Met l yn_S_isStamp (Cond.code yn_S_isStamp bc_S_isStamp 1 (some .boolean) :: Wk_) rm_S_isStamp (Pw_ D ad cA w st [.int x0]) (Qi_ D ad cA w post) 0 0 (Aw_ ad) := by
  refine Met.ofW (cc := bc_S_isStamp) (maxL := 1) (ret := (some .boolean)) (by decide) rfl ?_
  intro p e s m args below meth c s₁ B hml hv
  obtain ⟨rfl, hP, hK, hN⟩ := hv
  have hx := B.exec
  have hb := B.bytes
  have hr := B.returns
  have hts : ∀ v ∈ Wk_, v.before [.int x0].toArray s = true := fun v hv => atoms_spec (ws := Cond.code yn_S_isStamp bc_S_isStamp 1 (some .boolean) :: Wk_) B.pre v (List.mem_cons_of_mem _ hv)
  have hown : s.vm.findClass Rn_S = some m.cls := findClass_of_methodNamed B.named
  have hlocks := B.notSynchronized
  have hS : va_S (Aw_ ad) s.heap s.heap [] := va_S.rf
  have hl := lv_entry ([.int x0]) (n := 1) (Nat.le_of_ble_eq_true rfl)
  rw [lg_entry_eq]
  generalize (lg_sl ([.int x0]) ++ List.replicate (1 - (lg_sl ([.int x0])).length) Slot.unset).toArray = ls at hl ⊢
  have hl : lv_has ls 1 [(0, .int x0)] := hl
  refine lv_iload_n hx hb dc_S_isStamp_0 rfl (lv_at hl 0 rfl) ?_
  refine lv_if_lt (tgt := 14) hx hb dc_S_isStamp_1 (by decide) (fun c => ?_) (fun c => ?_)
  · have h := h.1 c
    refine lv_iconst (v := 0) hx hb dc_S_isStamp_14 (by decide) ?_
    exact w_zret hx hb hr rfl hlocks hP hS h dc_S_isStamp_15
  · have h := h.2 c
    refine lv_iload_n hx hb dc_S_isStamp_4 rfl (lv_at hl 0 rfl) ?_
    refine lv_ldc hx hb hown (hts _ mw_7) dc_S_isStamp_5 ?_
    refine lv_icmp_gt (tgt := 14) hx hb dc_S_isStamp_7 (by decide) (fun c => ?_) (fun c => ?_)
    · have h := h.1 c
      refine lv_iconst (v := 0) hx hb dc_S_isStamp_14 (by decide) ?_
      exact w_zret hx hb hr rfl hlocks hP hS h dc_S_isStamp_15
    · have h := h.2 c
      refine lv_iconst (v := 1) hx hb dc_S_isStamp_10 (by decide) ?_
      refine lv_goto (tgt := 15) hx hb dc_S_isStamp_11 (by decide) ?_
      exact w_zret hx hb hr rfl hlocks hP hS h dc_S_isStamp_15
set_option maxHeartbeats 4000000 in
set_option maxRecDepth 100000 in
theorem ct_B_isBlock (l : Launch) (D : va_G) (ad : Nat → Nat) (cA : Nat → ClassId) (w : Nat) (hJ : Jn_ ad) (x1 : Int32) (st : St_) (post : Int32 → St_ → Prop) (h : wp_B_isBlock w x1 st post) : Met l yn_B_isBlock (Cond.code yn_B_isBlock bc_B_isBlock 2 (some .boolean) :: Wk_) rm_B_isBlock (Pw_ D ad cA w st [.ref (ad 19), .int x1]) (Qi_ D ad cA w post) 0 0 (Aw_ ad) := by
  refine Met.ofW (cc := bc_B_isBlock) (maxL := 2) (ret := (some .boolean)) (by decide) rfl ?_
  intro p e s m args below meth c s₁ B hml hv
  obtain ⟨rfl, hP, hK, hN⟩ := hv
  have hx := B.exec
  have hb := B.bytes
  have hr := B.returns
  have hts : ∀ v ∈ Wk_, v.before [.ref (ad 19), .int x1].toArray s = true := fun v hv => atoms_spec (ws := Cond.code yn_B_isBlock bc_B_isBlock 2 (some .boolean) :: Wk_) B.pre v (List.mem_cons_of_mem _ hv)
  have hown : s.vm.findClass Rn_B = some m.cls := findClass_of_methodNamed B.named
  have hlocks := B.notSynchronized
  have hS : va_S (Aw_ ad) s.heap s.heap [] := va_S.rf
  have hl := lv_entry ([.ref (ad 19), .int x1]) (n := 2) (Nat.le_of_ble_eq_true rfl)
  rw [lg_entry_eq]
  generalize (lg_sl ([.ref (ad 19), .int x1]) ++ List.replicate (2 - (lg_sl ([.ref (ad 19), .int x1])).length) Slot.unset).toArray = ls at hl ⊢
  have hl : lv_has ls 2 [(0, .ref (ad 19)), (1, .int x1)] := hl
  refine lv_iload_n hx hb dc_B_isBlock_0 rfl (lv_at hl 1 rfl) ?_
  refine lv_if_le (tgt := 15) hx hb dc_B_isBlock_1 (by decide) (fun c => ?_) (fun c => ?_)
  · have h := h.1 c
    refine lv_iconst (v := 0) hx hb dc_B_isBlock_15 (by decide) ?_
    exact w_zret hx hb hr rfl hlocks hP hS h dc_B_isBlock_16
  · have h := h.2 c
    refine lv_iload_n hx hb dc_B_isBlock_4 rfl (lv_at hl 1 rfl) ?_
    refine lv_sipush (v := 1200) hx hb dc_B_isBlock_5 (by decide) ?_
    refine lv_icmp_gt (tgt := 15) hx hb dc_B_isBlock_8 (by decide) (fun c => ?_) (fun c => ?_)
    · have h := h.1 c
      refine lv_iconst (v := 0) hx hb dc_B_isBlock_15 (by decide) ?_
      exact w_zret hx hb hr rfl hlocks hP hS h dc_B_isBlock_16
    · have h := h.2 c
      refine lv_iconst (v := 1) hx hb dc_B_isBlock_11 (by decide) ?_
      refine lv_goto (tgt := 16) hx hb dc_B_isBlock_12 (by decide) ?_
      exact w_zret hx hb hr rfl hlocks hP hS h dc_B_isBlock_16
set_option maxHeartbeats 4000000 in
set_option maxRecDepth 100000 in
theorem ct_B_level (l : Launch) (D : va_G) (ad : Nat → Nat) (cA : Nat → ClassId) (w : Nat) (hJ : Jn_ ad) (x1 : Int32) (st : St_) (post : Int32 → St_ → Prop) (h : wp_B_level w x1 st post) : Met l yn_B_level (Cond.code yn_B_level bc_B_level 2 (some .int) :: Wk_) rm_B_level (Pw_ D ad cA w st [.ref (ad 19), .int x1]) (Qi_ D ad cA w post) 0 0 (Aw_ ad) := by
  refine Met.ofW (cc := bc_B_level) (maxL := 2) (ret := (some .int)) (by decide) rfl ?_
  intro p e s m args below meth c s₁ B hml hv
  obtain ⟨rfl, hP, hK, hN⟩ := hv
  have hx := B.exec
  have hb := B.bytes
  have hr := B.returns
  have hts : ∀ v ∈ Wk_, v.before [.ref (ad 19), .int x1].toArray s = true := fun v hv => atoms_spec (ws := Cond.code yn_B_level bc_B_level 2 (some .int) :: Wk_) B.pre v (List.mem_cons_of_mem _ hv)
  have hown : s.vm.findClass Rn_B = some m.cls := findClass_of_methodNamed B.named
  have hlocks := B.notSynchronized
  have hS : va_S (Aw_ ad) s.heap s.heap [] := va_S.rf
  have hl := lv_entry ([.ref (ad 19), .int x1]) (n := 2) (Nat.le_of_ble_eq_true rfl)
  rw [lg_entry_eq]
  generalize (lg_sl ([.ref (ad 19), .int x1]) ++ List.replicate (2 - (lg_sl ([.ref (ad 19), .int x1])).length) Slot.unset).toArray = ls at hl ⊢
  have hl : lv_has ls 2 [(0, .ref (ad 19)), (1, .int x1)] := hl
  refine lv_aload_n hx hb dc_B_level_0 rfl (lv_at hl 0 rfl) ?_
  refine lv_iload_n hx hb dc_B_level_1 rfl (lv_at hl 1 rfl) ?_
  refine w_cVi (y := yn_B_isBlock) (C := Rn_B) (index := 37) (n := 1) (own := Rn_B) 19 hx hb hml hown hts hK hN hP hS (ct_B_isBlock l D ad cA w hJ x1 st _ h) mw_14 mw_15 mw_16 mw_17 mw_18 (by decide +kernel) ⟨Nat.le_of_ble_eq_true rfl, Nat.le_of_ble_eq_true rfl⟩ rfl rfl rfl rfl rfl hl.1 rfl (lv_room (Nat.le_of_ble_eq_true rfl)) dc_B_level_2 ⟨Nat.zero_le _, Nat.zero_le _⟩ (fun r102 st101 H locs hP hS h => ?_)
  refine lv_if_eq (tgt := 17) hx hb dc_B_level_5 (by decide) (fun c => ?_) (fun c => ?_)
  · have h := h.1 c
    refine lv_iconst (v := 0) hx hb dc_B_level_17 (by decide) ?_
    exact w_iret hx hb hr hlocks hP hS h dc_B_level_18
  · have h := h.2 c
    refine lv_aload_n hx hb dc_B_level_8 rfl (lv_at hl 0 rfl) ?_
    refine va_get (D := D) (ci := 1) (v := .ref (ad 1)) (C := Rn_B) (T := Fn_B) (N := 8) hx hb hts in_B hown hK hP 19 rfl rfl 2 (by decide) (hts _ mw_19) (fun _ h9 => h9) rfl dc_B_level_9 ?_
    refine lv_iload_n hx hb dc_B_level_12 rfl (lv_at hl 1 rfl) ?_
    refine w_ild 1 (by decide) hx hb hK hP h.1 dc_B_level_13 ?_
    have h := h.2
    refine lv_goto (tgt := 18) hx hb dc_B_level_14 (by decide) ?_
    exact w_iret hx hb hr hlocks hP hS h dc_B_level_18
set_option maxHeartbeats 4000000 in
set_option maxRecDepth 100000 in
theorem ct_B_size (l : Launch) (D : va_G) (ad : Nat → Nat) (cA : Nat → ClassId) (w : Nat) (hJ : Jn_ ad) (x1 : Int32) (st : St_) (post : Int32 → St_ → Prop) (h : wp_B_size w x1 st post) : Met l yn_B_size (Cond.code yn_B_size bc_B_size 2 (some .int) :: Wk_) rm_B_size (Pw_ D ad cA w st [.ref (ad 19), .int x1]) (Qi_ D ad cA w post) 0 0 (Aw_ ad) := by
  refine Met.ofW (cc := bc_B_size) (maxL := 2) (ret := (some .int)) (by decide) rfl ?_
  intro p e s m args below meth c s₁ B hml hv
  obtain ⟨rfl, hP, hK, hN⟩ := hv
  have hx := B.exec
  have hb := B.bytes
  have hr := B.returns
  have hts : ∀ v ∈ Wk_, v.before [.ref (ad 19), .int x1].toArray s = true := fun v hv => atoms_spec (ws := Cond.code yn_B_size bc_B_size 2 (some .int) :: Wk_) B.pre v (List.mem_cons_of_mem _ hv)
  have hown : s.vm.findClass Rn_B = some m.cls := findClass_of_methodNamed B.named
  have hlocks := B.notSynchronized
  have hS : va_S (Aw_ ad) s.heap s.heap [] := va_S.rf
  have hl := lv_entry ([.ref (ad 19), .int x1]) (n := 2) (Nat.le_of_ble_eq_true rfl)
  rw [lg_entry_eq]
  generalize (lg_sl ([.ref (ad 19), .int x1]) ++ List.replicate (2 - (lg_sl ([.ref (ad 19), .int x1])).length) Slot.unset).toArray = ls at hl ⊢
  have hl : lv_has ls 2 [(0, .ref (ad 19)), (1, .int x1)] := hl
  refine lv_aload_n hx hb dc_B_size_0 rfl (lv_at hl 0 rfl) ?_
  refine lv_iload_n hx hb dc_B_size_1 rfl (lv_at hl 1 rfl) ?_
  refine w_cVi (y := yn_B_isBlock) (C := Rn_B) (index := 37) (n := 1) (own := Rn_B) 19 hx hb hml hown hts hK hN hP hS (ct_B_isBlock l D ad cA w hJ x1 st _ h) mw_14 mw_15 mw_16 mw_17 mw_18 (by decide +kernel) ⟨Nat.le_of_ble_eq_true rfl, Nat.le_of_ble_eq_true rfl⟩ rfl rfl rfl rfl rfl hl.1 rfl (lv_room (Nat.le_of_ble_eq_true rfl)) dc_B_size_2 ⟨Nat.zero_le _, Nat.zero_le _⟩ (fun r102 st101 H locs hP hS h => ?_)
  refine lv_if_eq (tgt := 17) hx hb dc_B_size_5 (by decide) (fun c => ?_) (fun c => ?_)
  · have h := h.1 c
    refine lv_iconst (v := 0) hx hb dc_B_size_17 (by decide) ?_
    exact w_iret hx hb hr hlocks hP hS h dc_B_size_18
  · have h := h.2 c
    refine lv_aload_n hx hb dc_B_size_8 rfl (lv_at hl 0 rfl) ?_
    refine va_get (D := D) (ci := 1) (v := .ref (ad 2)) (C := Rn_B) (T := Fn_B) (N := 8) hx hb hts in_B hown hK hP 19 rfl rfl 3 (by decide) (hts _ mw_25) (fun _ h9 => h9) rfl dc_B_size_9 ?_
    refine lv_iload_n hx hb dc_B_size_12 rfl (lv_at hl 1 rfl) ?_
    refine w_ild 2 (by decide) hx hb hK hP h.1 dc_B_size_13 ?_
    have h := h.2
    refine lv_goto (tgt := 18) hx hb dc_B_size_14 (by decide) ?_
    exact w_iret hx hb hr hlocks hP hS h dc_B_size_18
set_option maxHeartbeats 4000000 in
set_option maxRecDepth 100000 in
theorem ct_B_slotOf (l : Launch) (D : va_G) (ad : Nat → Nat) (cA : Nat → ClassId) (w : Nat) (hJ : Jn_ ad) (x1 : Int32) (x2 : Int32) (st : St_) (post : Int32 → St_ → Prop) (h : wp_B_slotOf w x1 x2 st post) : Met l yn_B_slotOf (Cond.code yn_B_slotOf bc_B_slotOf 6 (some .int) :: Wk_) rm_B_slotOf (Pw_ D ad cA w st [.ref (ad 19), .int x1, .int x2]) (Qi_ D ad cA w post) 0 0 (Aw_ ad) := by
  refine Met.ofW (cc := bc_B_slotOf) (maxL := 6) (ret := (some .int)) (by decide) rfl ?_
  intro p e s m args below meth c s₁ B hml hv
  obtain ⟨rfl, hP, hK, hN⟩ := hv
  have hx := B.exec
  have hb := B.bytes
  have hr := B.returns
  have hts : ∀ v ∈ Wk_, v.before [.ref (ad 19), .int x1, .int x2].toArray s = true := fun v hv => atoms_spec (ws := Cond.code yn_B_slotOf bc_B_slotOf 6 (some .int) :: Wk_) B.pre v (List.mem_cons_of_mem _ hv)
  have hown : s.vm.findClass Rn_B = some m.cls := findClass_of_methodNamed B.named
  have hlocks := B.notSynchronized
  have hS : va_S (Aw_ ad) s.heap s.heap [] := va_S.rf
  have Lp_24 : ∀ (n : Nat) (y1 y2 y3 y4 y5 : Int32) (st : St_), wp_B_slotOf_24 w post n y1 y2 y3 y4 y5 st → ∀ (H : Heap) (locs : List Loc), va_P D sC_ (wd_ ad cA w st) H → va_S (Aw_ ad) s.heap H locs → ∀ ls : Array Slot, lv_has ls 6 [(0, .ref (ad 19)), (1, .int y1), (2, .int y2), (3, .int y3), (4, .int y4), (5, .int y5)] → W p l e (headSpec (Cond.code yn_B_slotOf bc_B_slotOf 6 (some .int) :: Wk_) rm_B_slotOf).room s m [.ref (ad 19), .int x1, .int x2].toArray below meth c H locs 0 0 (MQ below (Qi_ D ad cA w post) [.ref (ad 19), .int x1, .int x2].toArray s 0 0 (Aw_ ad)) (F0 m 24 ls []) := by
    intro n
    induction n with
    | zero => intro y1 y2 y3 y4 y5 st h; exact h.elim
    | succ n ih =>
      intro y1 y2 y3 y4 y5 st h H locs hP hS ls hl
      refine lv_iload_n hx hb dc_B_slotOf_24 rfl (lv_at hl 3 rfl) ?_
      refine lv_iconst (v := 1) hx hb dc_B_slotOf_25 (by decide) ?_
      refine lv_iadd hx hb dc_B_slotOf_26 ?_
      refine lv_iload hx hb dc_B_slotOf_27 (lv_at hl 5 rfl) ?_
      refine lv_icmp_ge (tgt := 53) hx hb dc_B_slotOf_29 (by decide) (fun c => ?_) (fun c => ?_)
      · have h := h.1 c
        refine lv_iload_n hx hb dc_B_slotOf_53 rfl (lv_at hl 3 rfl) ?_
        exact w_iret hx hb hr hlocks hP hS h dc_B_slotOf_54
      · have h := h.2 c
        refine lv_aload_n hx hb dc_B_slotOf_32 rfl (lv_at hl 0 rfl) ?_
        refine va_get (D := D) (ci := 1) (v := .ref (ad 3)) (C := Rn_B) (T := Fn_B) (N := 8) hx hb hts in_B hown hK hP 19 rfl rfl 4 (by decide) (hts _ mw_34) (fun _ h9 => h9) rfl dc_B_slotOf_33 ?_
        refine lv_iload hx hb dc_B_slotOf_36 (lv_at hl 4 rfl) ?_
        refine lv_iload_n hx hb dc_B_slotOf_38 rfl (lv_at hl 3 rfl) ?_
        refine lv_iadd hx hb dc_B_slotOf_39 ?_
        refine lv_iconst (v := 1) hx hb dc_B_slotOf_40 (by decide) ?_
        refine lv_iadd hx hb dc_B_slotOf_41 ?_
        refine w_ild 3 (by decide) hx hb hK hP h.1 dc_B_slotOf_42 ?_
        have h := h.2
        refine lv_iload_n hx hb dc_B_slotOf_43 rfl (lv_at hl 2 rfl) ?_
        refine lv_icmp_gt (tgt := 53) hx hb dc_B_slotOf_44 (by decide) (fun c => ?_) (fun c => ?_)
        · have h := h.1 c
          refine lv_iload_n hx hb dc_B_slotOf_53 rfl (lv_at hl 3 rfl) ?_
          exact w_iret hx hb hr hlocks hP hS h dc_B_slotOf_54
        · have h := h.2 c
          obtain ⟨x105, ex105⟩ : ∃ y : Int32, y = y3 + 1 := ⟨_, rfl⟩
          have h := h x105 ex105
          refine lv_iinc (v := x105) (lv' := [(3, .int x105), (0, .ref (ad 19)), (1, .int y1), (2, .int y2), (4, .int y4), (5, .int y5)]) hx hb dc_B_slotOf_47 hl (k := 3) rfl (by rw [ex105]; rfl) (by decide) rfl (fun ls hl => ?_)
          refine lv_goto (tgt := 24) hx hb dc_B_slotOf_50 (by decide) ?_
          exact ih y1 y2 x105 y4 y5 st h _ _ hP hS ls (lv_sub hl [1, 2, 3, 0, 4, 5] rfl)
  have hl := lv_entry ([.ref (ad 19), .int x1, .int x2]) (n := 6) (Nat.le_of_ble_eq_true rfl)
  rw [lg_entry_eq]
  generalize (lg_sl ([.ref (ad 19), .int x1, .int x2]) ++ List.replicate (6 - (lg_sl ([.ref (ad 19), .int x1, .int x2])).length) Slot.unset).toArray = ls at hl ⊢
  have hl : lv_has ls 6 [(0, .ref (ad 19)), (1, .int x1), (2, .int x2)] := hl
  refine lv_iconst (v := (-1)) hx hb dc_B_slotOf_0 (by decide) ?_
  refine lv_istore_n (lv' := [(3, .int (-1)), (0, .ref (ad 19)), (1, .int x1), (2, .int x2)]) hx hb dc_B_slotOf_1 rfl hl (by decide) rfl (fun ls hl => ?_)
  refine lv_iload_n hx hb dc_B_slotOf_2 rfl (lv_at hl 2 rfl) ?_
  refine lv_aload_n hx hb dc_B_slotOf_3 rfl (lv_at hl 1 rfl) ?_
  refine va_get (D := D) (ci := 1) (v := .int (nI w)) (C := Rn_B) (T := Fn_B) (N := 8) hx hb hts in_B hown hK hP 19 rfl rfl 0 (by decide) (hts _ mw_24) (fun _ h9 => h9) rfl dc_B_slotOf_4 ?_
  refine lv_imul hx hb dc_B_slotOf_7 ?_
  refine lv_topi (fun x101 ex101 => ?_)
  have h := h x101 ex101
  refine lv_istore (lv' := [(4, .int x101), (3, .int (-1)), (0, .ref (ad 19)), (1, .int x1), (2, .int x2)]) hx hb dc_B_slotOf_8 hl (by decide) rfl (fun ls hl => ?_)
  refine lv_aload_n hx hb dc_B_slotOf_10 rfl (lv_at hl 2 rfl) ?_
  refine lv_iload_n hx hb dc_B_slotOf_11 rfl (lv_at hl 3 rfl) ?_
  refine w_cVi (y := yn_B_size) (C := Rn_B) (index := 45) (n := 1) (own := Rn_B) 19 hx hb hml hown hts hK hN hP hS (ct_B_size l D ad cA w hJ x1 st _ h) mw_26 mw_27 mw_28 mw_29 mw_18 (by decide +kernel) ⟨Nat.le_of_ble_eq_true rfl, Nat.le_of_ble_eq_true rfl⟩ rfl rfl rfl rfl rfl hl.1 rfl (lv_room (Nat.le_of_ble_eq_true rfl)) dc_B_slotOf_12 ⟨Nat.zero_le _, Nat.zero_le _⟩ (fun r103 st102 H locs hP hS h => ?_)
  refine lv_aload_n hx hb dc_B_slotOf_15 rfl (lv_at hl 2 rfl) ?_
  refine va_get (D := D) (ci := 1) (v := .int (nI w)) (C := Rn_B) (T := Fn_B) (N := 8) hx hb hts in_B hown hK hP 19 rfl rfl 0 (by decide) (hts _ mw_24) (fun _ h9 => h9) rfl dc_B_slotOf_16 ?_
  refine va_mmin hx hb (hml.trans hl.1.symm) hown (hts _ mw_30) (hts _ mw_31) (hts _ mw_32) (hts _ mw_33) (Nat.le_of_ble_eq_true rfl) (Nat.le_of_ble_eq_true rfl) (Nat.zero_le _) (Nat.zero_le _) dc_B_slotOf_19 ?_
  refine lv_topi (fun x104 ex104 => ?_)
  have h := h x104 ex104
  refine lv_istore (lv' := [(5, .int x104), (4, .int x101), (3, .int (-1)), (0, .ref (ad 19)), (1, .int x1), (2, .int x2)]) hx hb dc_B_slotOf_22 hl (by decide) rfl (fun ls hl => ?_)
  obtain ⟨n, h⟩ := h
  exact Lp_24 n x1 x2 (-1) x101 x104 st102 h _ _ hP hS ls (lv_sub hl [3, 4, 5, 2, 1, 0] rfl)
set_option maxHeartbeats 4000000 in
set_option maxRecDepth 100000 in
theorem ct_B_isEntry (l : Launch) (D : va_G) (ad : Nat → Nat) (cA : Nat → ClassId) (w : Nat) (hJ : Jn_ ad) (x1 : Int32) (x2 : Int32) (st : St_) (post : Int32 → St_ → Prop) (h : wp_B_isEntry w x1 x2 st post) : Met l yn_B_isEntry (Cond.code yn_B_isEntry bc_B_isEntry 3 (some .boolean) :: Wk_) rm_B_isEntry (Pw_ D ad cA w st [.ref (ad 19), .int x1, .int x2]) (Qi_ D ad cA w post) 0 0 (Aw_ ad) := by
  refine Met.ofW (cc := bc_B_isEntry) (maxL := 3) (ret := (some .boolean)) (by decide) rfl ?_
  intro p e s m args below meth c s₁ B hml hv
  obtain ⟨rfl, hP, hK, hN⟩ := hv
  have hx := B.exec
  have hb := B.bytes
  have hr := B.returns
  have hts : ∀ v ∈ Wk_, v.before [.ref (ad 19), .int x1, .int x2].toArray s = true := fun v hv => atoms_spec (ws := Cond.code yn_B_isEntry bc_B_isEntry 3 (some .boolean) :: Wk_) B.pre v (List.mem_cons_of_mem _ hv)
  have hown : s.vm.findClass Rn_B = some m.cls := findClass_of_methodNamed B.named
  have hlocks := B.notSynchronized
  have hS : va_S (Aw_ ad) s.heap s.heap [] := va_S.rf
  have hl := lv_entry ([.ref (ad 19), .int x1, .int x2]) (n := 3) (Nat.le_of_ble_eq_true rfl)
  rw [lg_entry_eq]
  generalize (lg_sl ([.ref (ad 19), .int x1, .int x2]) ++ List.replicate (3 - (lg_sl ([.ref (ad 19), .int x1, .int x2])).length) Slot.unset).toArray = ls at hl ⊢
  have hl : lv_has ls 3 [(0, .ref (ad 19)), (1, .int x1), (2, .int x2)] := hl
  refine lv_iload_n hx hb dc_B_isEntry_0 rfl (lv_at hl 1 rfl) ?_
  refine lv_if_lt (tgt := 37) hx hb dc_B_isEntry_1 (by decide) (fun c => ?_) (fun c => ?_)
  · have h := h.1 c
    refine lv_iconst (v := 0) hx hb dc_B_isEntry_37 (by decide) ?_
    exact w_zret hx hb hr rfl hlocks hP hS h dc_B_isEntry_38
  · have h := h.2 c
    refine lv_iload_n hx hb dc_B_isEntry_4 rfl (lv_at hl 1 rfl) ?_
    refine lv_sipush (v := 1200) hx hb dc_B_isEntry_5 (by decide) ?_
    refine lv_icmp_gt (tgt := 37) hx hb dc_B_isEntry_8 (by decide) (fun c => ?_) (fun c => ?_)
    · have h := h.1 c
      refine lv_iconst (v := 0) hx hb dc_B_isEntry_37 (by decide) ?_
      exact w_zret hx hb hr rfl hlocks hP hS h dc_B_isEntry_38
    · have h := h.2 c
      refine lv_iload_n hx hb dc_B_isEntry_11 rfl (lv_at hl 2 rfl) ?_
      refine lv_if_lt (tgt := 37) hx hb dc_B_isEntry_12 (by decide) (fun c => ?_) (fun c => ?_)
      · have h := h.1 c
        refine lv_iconst (v := 0) hx hb dc_B_isEntry_37 (by decide) ?_
        exact w_zret hx hb hr rfl hlocks hP hS h dc_B_isEntry_38
      · have h := h.2 c
        refine lv_iload_n hx hb dc_B_isEntry_15 rfl (lv_at hl 2 rfl) ?_
        refine lv_aload_n hx hb dc_B_isEntry_16 rfl (lv_at hl 0 rfl) ?_
        refine va_get (D := D) (ci := 1) (v := .int (nI w)) (C := Rn_B) (T := Fn_B) (N := 8) hx hb hts in_B hown hK hP 19 rfl rfl 0 (by decide) (hts _ mw_24) (fun _ h9 => h9) rfl dc_B_isEntry_17 ?_
        refine lv_icmp_ge (tgt := 37) hx hb dc_B_isEntry_20 (by decide) (fun c => ?_) (fun c => ?_)
        · have h := h.1 c
          refine lv_iconst (v := 0) hx hb dc_B_isEntry_37 (by decide) ?_
          exact w_zret hx hb hr rfl hlocks hP hS h dc_B_isEntry_38
        · have h := h.2 c
          refine lv_iload_n hx hb dc_B_isEntry_23 rfl (lv_at hl 2 rfl) ?_
          refine lv_aload_n hx hb dc_B_isEntry_24 rfl (lv_at hl 0 rfl) ?_
          refine va_get (D := D) (ci := 1) (v := .ref (ad 2)) (C := Rn_B) (T := Fn_B) (N := 8) hx hb hts in_B hown hK hP 19 rfl rfl 3 (by decide) (hts _ mw_25) (fun _ h9 => h9) rfl dc_B_isEntry_25 ?_
          refine lv_iload_n hx hb dc_B_isEntry_28 rfl (lv_at hl 1 rfl) ?_
          refine w_ild 2 (by decide) hx hb hK hP h.1 dc_B_isEntry_29 ?_
          have h := h.2
          refine lv_icmp_ge (tgt := 37) hx hb dc_B_isEntry_30 (by decide) (fun c => ?_) (fun c => ?_)
          · have h := h.1 c
            refine lv_iconst (v := 0) hx hb dc_B_isEntry_37 (by decide) ?_
            exact w_zret hx hb hr rfl hlocks hP hS h dc_B_isEntry_38
          · have h := h.2 c
            refine lv_iconst (v := 1) hx hb dc_B_isEntry_33 (by decide) ?_
            refine lv_goto (tgt := 38) hx hb dc_B_isEntry_34 (by decide) ?_
            exact w_zret hx hb hr rfl hlocks hP hS h dc_B_isEntry_38
set_option maxHeartbeats 4000000 in
set_option maxRecDepth 100000 in
theorem ct_B_key (l : Launch) (D : va_G) (ad : Nat → Nat) (cA : Nat → ClassId) (w : Nat) (hJ : Jn_ ad) (x1 : Int32) (x2 : Int32) (st : St_) (post : Int32 → St_ → Prop) (h : wp_B_key w x1 x2 st post) : Met l yn_B_key (Cond.code yn_B_key bc_B_key 3 (some .int) :: Wk_) rm_B_key (Pw_ D ad cA w st [.ref (ad 19), .int x1, .int x2]) (Qi_ D ad cA w post) 0 0 (Aw_ ad) := by
  refine Met.ofW (cc := bc_B_key) (maxL := 3) (ret := (some .int)) (by decide) rfl ?_
  intro p e s m args below meth c s₁ B hml hv
  obtain ⟨rfl, hP, hK, hN⟩ := hv
  have hx := B.exec
  have hb := B.bytes
  have hr := B.returns
  have hts : ∀ v ∈ Wk_, v.before [.ref (ad 19), .int x1, .int x2].toArray s = true := fun v hv => atoms_spec (ws := Cond.code yn_B_key bc_B_key 3 (some .int) :: Wk_) B.pre v (List.mem_cons_of_mem _ hv)
  have hown : s.vm.findClass Rn_B = some m.cls := findClass_of_methodNamed B.named
  have hlocks := B.notSynchronized
  have hS : va_S (Aw_ ad) s.heap s.heap [] := va_S.rf
  have hl := lv_entry ([.ref (ad 19), .int x1, .int x2]) (n := 3) (Nat.le_of_ble_eq_true rfl)
  rw [lg_entry_eq]
  generalize (lg_sl ([.ref (ad 19), .int x1, .int x2]) ++ List.replicate (3 - (lg_sl ([.ref (ad 19), .int x1, .int x2])).length) Slot.unset).toArray = ls at hl ⊢
  have hl : lv_has ls 3 [(0, .ref (ad 19)), (1, .int x1), (2, .int x2)] := hl
  refine lv_aload_n hx hb dc_B_key_0 rfl (lv_at hl 0 rfl) ?_
  refine lv_iload_n hx hb dc_B_key_1 rfl (lv_at hl 1 rfl) ?_
  refine lv_iload_n hx hb dc_B_key_2 rfl (lv_at hl 2 rfl) ?_
  refine w_cVi (y := yn_B_isEntry) (C := Rn_B) (index := 41) (n := 2) (own := Rn_B) 19 hx hb hml hown hts hK hN hP hS (ct_B_isEntry l D ad cA w hJ x1 x2 st _ h) mw_39 mw_40 mw_41 mw_42 mw_18 (by decide +kernel) ⟨Nat.le_of_ble_eq_true rfl, Nat.le_of_ble_eq_true rfl⟩ rfl rfl rfl rfl rfl hl.1 rfl (lv_room (Nat.le_of_ble_eq_true rfl)) dc_B_key_3 ⟨Nat.zero_le _, Nat.zero_le _⟩ (fun r102 st101 H locs hP hS h => ?_)
  refine lv_if_eq (tgt := 25) hx hb dc_B_key_6 (by decide) (fun c => ?_) (fun c => ?_)
  · have h := h.1 c
    refine lv_bipush (v := (-2)) hx hb dc_B_key_25 (by decide) ?_
    exact w_iret hx hb hr hlocks hP hS h dc_B_key_27
  · have h := h.2 c
    refine lv_aload_n hx hb dc_B_key_9 rfl (lv_at hl 0 rfl) ?_
    refine va_get (D := D) (ci := 1) (v := .ref (ad 3)) (C := Rn_B) (T := Fn_B) (N := 8) hx hb hts in_B hown hK hP 19 rfl rfl 4 (by decide) (hts _ mw_34) (fun _ h9 => h9) rfl dc_B_key_10 ?_
    refine lv_iload_n hx hb dc_B_key_13 rfl (lv_at hl 1 rfl) ?_
    refine lv_aload_n hx hb dc_B_key_14 rfl (lv_at hl 0 rfl) ?_
    refine va_get (D := D) (ci := 1) (v := .int (nI w)) (C := Rn_B) (T := Fn_B) (N := 8) hx hb hts in_B hown hK hP 19 rfl rfl 0 (by decide) (hts _ mw_24) (fun _ h9 => h9) rfl dc_B_key_15 ?_
    refine lv_imul hx hb dc_B_key_18 ?_
    refine lv_iload_n hx hb dc_B_key_19 rfl (lv_at hl 2 rfl) ?_
    refine lv_iadd hx hb dc_B_key_20 ?_
    refine w_ild 3 (by decide) hx hb hK hP h.1 dc_B_key_21 ?_
    have h := h.2
    refine lv_goto (tgt := 27) hx hb dc_B_key_22 (by decide) ?_
    exact w_iret hx hb hr hlocks hP hS h dc_B_key_27
set_option maxHeartbeats 4000000 in
set_option maxRecDepth 100000 in
theorem ct_B_goal (l : Launch) (D : va_G) (ad : Nat → Nat) (cA : Nat → ClassId) (w : Nat) (hJ : Jn_ ad) (x1 : Int32) (x2 : Int32) (st : St_) (post : Int32 → St_ → Prop) (h : wp_B_goal w x1 x2 st post) : Met l yn_B_goal (Cond.code yn_B_goal bc_B_goal 3 (some .int) :: Wk_) rm_B_goal (Pw_ D ad cA w st [.ref (ad 19), .int x1, .int x2]) (Qi_ D ad cA w post) 0 0 (Aw_ ad) := by
  refine Met.ofW (cc := bc_B_goal) (maxL := 3) (ret := (some .int)) (by decide) rfl ?_
  intro p e s m args below meth c s₁ B hml hv
  obtain ⟨rfl, hP, hK, hN⟩ := hv
  have hx := B.exec
  have hb := B.bytes
  have hr := B.returns
  have hts : ∀ v ∈ Wk_, v.before [.ref (ad 19), .int x1, .int x2].toArray s = true := fun v hv => atoms_spec (ws := Cond.code yn_B_goal bc_B_goal 3 (some .int) :: Wk_) B.pre v (List.mem_cons_of_mem _ hv)
  have hown : s.vm.findClass Rn_B = some m.cls := findClass_of_methodNamed B.named
  have hlocks := B.notSynchronized
  have hS : va_S (Aw_ ad) s.heap s.heap [] := va_S.rf
  have hl := lv_entry ([.ref (ad 19), .int x1, .int x2]) (n := 3) (Nat.le_of_ble_eq_true rfl)
  rw [lg_entry_eq]
  generalize (lg_sl ([.ref (ad 19), .int x1, .int x2]) ++ List.replicate (3 - (lg_sl ([.ref (ad 19), .int x1, .int x2])).length) Slot.unset).toArray = ls at hl ⊢
  have hl : lv_has ls 3 [(0, .ref (ad 19)), (1, .int x1), (2, .int x2)] := hl
  refine lv_aload_n hx hb dc_B_goal_0 rfl (lv_at hl 0 rfl) ?_
  refine lv_iload_n hx hb dc_B_goal_1 rfl (lv_at hl 1 rfl) ?_
  refine lv_iload_n hx hb dc_B_goal_2 rfl (lv_at hl 2 rfl) ?_
  refine w_cVi (y := yn_B_isEntry) (C := Rn_B) (index := 41) (n := 2) (own := Rn_B) 19 hx hb hml hown hts hK hN hP hS (ct_B_isEntry l D ad cA w hJ x1 x2 st _ h) mw_39 mw_40 mw_41 mw_42 mw_18 (by decide +kernel) ⟨Nat.le_of_ble_eq_true rfl, Nat.le_of_ble_eq_true rfl⟩ rfl rfl rfl rfl rfl hl.1 rfl (lv_room (Nat.le_of_ble_eq_true rfl)) dc_B_goal_3 ⟨Nat.zero_le _, Nat.zero_le _⟩ (fun r102 st101 H locs hP hS h => ?_)
  refine lv_if_eq (tgt := 25) hx hb dc_B_goal_6 (by decide) (fun c => ?_) (fun c => ?_)
  · have h := h.1 c
    refine lv_iconst (v := 0) hx hb dc_B_goal_25 (by decide) ?_
    exact w_iret hx hb hr hlocks hP hS h dc_B_goal_26
  · have h := h.2 c
    refine lv_aload_n hx hb dc_B_goal_9 rfl (lv_at hl 0 rfl) ?_
    refine va_get (D := D) (ci := 1) (v := .ref (ad 4)) (C := Rn_B) (T := Fn_B) (N := 8) hx hb hts in_B hown hK hP 19 rfl rfl 5 (by decide) (hts _ mw_47) (fun _ h9 => h9) rfl dc_B_goal_10 ?_
    refine lv_iload_n hx hb dc_B_goal_13 rfl (lv_at hl 1 rfl) ?_
    refine lv_aload_n hx hb dc_B_goal_14 rfl (lv_at hl 0 rfl) ?_
    refine va_get (D := D) (ci := 1) (v := .int (nI w)) (C := Rn_B) (T := Fn_B) (N := 8) hx hb hts in_B hown hK hP 19 rfl rfl 0 (by decide) (hts _ mw_24) (fun _ h9 => h9) rfl dc_B_goal_15 ?_
    refine lv_imul hx hb dc_B_goal_18 ?_
    refine lv_iload_n hx hb dc_B_goal_19 rfl (lv_at hl 2 rfl) ?_
    refine lv_iadd hx hb dc_B_goal_20 ?_
    refine w_ild 4 (by decide) hx hb hK hP h.1 dc_B_goal_21 ?_
    have h := h.2
    refine lv_goto (tgt := 26) hx hb dc_B_goal_22 (by decide) ?_
    exact w_iret hx hb hr hlocks hP hS h dc_B_goal_26
set_option maxHeartbeats 4000000 in
set_option maxRecDepth 100000 in
theorem ct_T_slotToward (l : Launch) (D : va_G) (ad : Nat → Nat) (cA : Nat → ClassId) (w : Nat) (hJ : Jn_ ad) (x1 : Int32) (x2 : Int32) (st : St_) (post : Int32 → St_ → Prop) (h : wp_T_slotToward w x1 x2 st post) : Met l yn_T_slotToward (Cond.code yn_T_slotToward bc_T_slotToward 3 (some .int) :: Wk_) rm_T_slotToward (Pw_ D ad cA w st [.ref (ad 20), .int x1, .int x2]) (Qi_ D ad cA w post) 0 0 (Aw_ ad) := by
  refine Met.ofW (cc := bc_T_slotToward) (maxL := 3) (ret := (some .int)) (by decide) rfl ?_
  intro p e s m args below meth c s₁ B hml hv
  obtain ⟨rfl, hP, hK, hN⟩ := hv
  have hx := B.exec
  have hb := B.bytes
  have hr := B.returns
  have hts : ∀ v ∈ Wk_, v.before [.ref (ad 20), .int x1, .int x2].toArray s = true := fun v hv => atoms_spec (ws := Cond.code yn_T_slotToward bc_T_slotToward 3 (some .int) :: Wk_) B.pre v (List.mem_cons_of_mem _ hv)
  have hown : s.vm.findClass Rn_T = some m.cls := findClass_of_methodNamed B.named
  have hlocks := B.notSynchronized
  have hS : va_S (Aw_ ad) s.heap s.heap [] := va_S.rf
  have hl := lv_entry ([.ref (ad 20), .int x1, .int x2]) (n := 3) (Nat.le_of_ble_eq_true rfl)
  rw [lg_entry_eq]
  generalize (lg_sl ([.ref (ad 20), .int x1, .int x2]) ++ List.replicate (3 - (lg_sl ([.ref (ad 20), .int x1, .int x2])).length) Slot.unset).toArray = ls at hl ⊢
  have hl : lv_has ls 3 [(0, .ref (ad 20)), (1, .int x1), (2, .int x2)] := hl
  refine lv_iconst (v := 0) hx hb dc_T_slotToward_0 (by decide) ?_
  refine lv_aload_n hx hb dc_T_slotToward_1 rfl (lv_at hl 0 rfl) ?_
  refine va_get (D := D) (ci := 2) (v := .ref (ad 19)) (C := Rn_T) (T := Fn_T) (N := 3) hx hb hts in_T hown hK hP 20 rfl rfl 0 (by decide) (hts _ mw_13) (fun _ h9 => h9) rfl dc_T_slotToward_2 ?_
  refine lv_iload_n hx hb dc_T_slotToward_5 rfl (lv_at hl 1 rfl) ?_
  refine lv_iload_n hx hb dc_T_slotToward_6 rfl (lv_at hl 2 rfl) ?_
  refine w_cVi (y := yn_B_slotOf) (C := Rn_B) (index := 38) (n := 2) (own := Rn_T) 19 hx hb hml hown hts hK hN hP hS (ct_B_slotOf l D ad cA w hJ x1 x2 st _ h) mw_35 mw_36 mw_37 mw_38 mw_18 (by decide +kernel) ⟨Nat.le_of_ble_eq_true rfl, Nat.le_of_ble_eq_true rfl⟩ rfl rfl rfl rfl rfl hl.1 rfl (lv_room (Nat.le_of_ble_eq_true rfl)) dc_T_slotToward_7 ⟨Nat.zero_le _, Nat.zero_le _⟩ (fun r102 st101 H locs hP hS h => ?_)
  refine va_mmax hx hb (hml.trans hl.1.symm) hown (hts _ mw_52) (hts _ mw_53) (hts _ mw_32) (hts _ mw_54) (Nat.le_of_ble_eq_true rfl) (Nat.le_of_ble_eq_true rfl) (Nat.zero_le _) (Nat.zero_le _) dc_T_slotToward_10 ?_
  exact w_iret hx hb hr hlocks hP hS h dc_T_slotToward_13
set_option maxHeartbeats 4000000 in
set_option maxRecDepth 100000 in
theorem ct_T_stampOf (l : Launch) (D : va_G) (ad : Nat → Nat) (cA : Nat → ClassId) (w : Nat) (hJ : Jn_ ad) (x1 : Int32) (x2 : Int32) (st : St_) (post : Int32 → St_ → Prop) (h : wp_T_stampOf w x1 x2 st post) : Met l yn_T_stampOf (Cond.code yn_T_stampOf bc_T_stampOf 5 (some .int) :: Wk_) rm_T_stampOf (Pw_ D ad cA w st [.ref (ad 20), .int x1, .int x2]) (Qi_ D ad cA w post) 0 0 (Aw_ ad) := by
  refine Met.ofW (cc := bc_T_stampOf) (maxL := 5) (ret := (some .int)) (by decide) rfl ?_
  intro p e s m args below meth c s₁ B hml hv
  obtain ⟨rfl, hP, hK, hN⟩ := hv
  have hx := B.exec
  have hb := B.bytes
  have hr := B.returns
  have hts : ∀ v ∈ Wk_, v.before [.ref (ad 20), .int x1, .int x2].toArray s = true := fun v hv => atoms_spec (ws := Cond.code yn_T_stampOf bc_T_stampOf 5 (some .int) :: Wk_) B.pre v (List.mem_cons_of_mem _ hv)
  have hown : s.vm.findClass Rn_T = some m.cls := findClass_of_methodNamed B.named
  have hlocks := B.notSynchronized
  have hS : va_S (Aw_ ad) s.heap s.heap [] := va_S.rf
  have Lp_12 : ∀ (n : Nat) (y1 y2 y3 y4 : Int32) (st : St_), wp_T_stampOf_12 w post n y1 y2 y3 y4 st → ∀ (H : Heap) (locs : List Loc), va_P D sC_ (wd_ ad cA w st) H → va_S (Aw_ ad) s.heap H locs → ∀ ls : Array Slot, lv_has ls 5 [(0, .ref (ad 20)), (1, .int y1), (2, .int y2), (3, .int y3), (4, .int y4)] → W p l e (headSpec (Cond.code yn_T_stampOf bc_T_stampOf 5 (some .int) :: Wk_) rm_T_stampOf).room s m [.ref (ad 20), .int x1, .int x2].toArray below meth c H locs 0 0 (MQ below (Qi_ D ad cA w post) [.ref (ad 20), .int x1, .int x2].toArray s 0 0 (Aw_ ad)) (F0 m 12 ls []) := by
    intro n
    induction n with
    | zero => intro y1 y2 y3 y4 st h; exact h.elim
    | succ n ih =>
      intro y1 y2 y3 y4 st h H locs hP hS ls hl
      refine lv_iload hx hb dc_T_stampOf_12 (lv_at hl 4 rfl) ?_
      refine lv_if_le (tgt := 38) hx hb dc_T_stampOf_14 (by decide) (fun c => ?_) (fun c => ?_)
      · have h := h.1 c
        refine lv_aload_n hx hb dc_T_stampOf_38 rfl (lv_at hl 0 rfl) ?_
        refine va_get (D := D) (ci := 2) (v := .ref (ad 19)) (C := Rn_T) (T := Fn_T) (N := 3) hx hb hts in_T hown hK hP 20 rfl rfl 0 (by decide) (hts _ mw_13) (fun _ h9 => h9) rfl dc_T_stampOf_39 ?_
        refine lv_iload_n hx hb dc_T_stampOf_42 rfl (lv_at hl 3 rfl) ?_
        refine lv_iload_n hx hb dc_T_stampOf_43 rfl (lv_at hl 2 rfl) ?_
        refine w_cVi (y := yn_B_slotOf) (C := Rn_B) (index := 38) (n := 2) (own := Rn_T) 19 hx hb hml hown hts hK hN hP hS (ct_B_slotOf l D ad cA w hJ y3 y2 st _ h) mw_35 mw_36 mw_37 mw_38 mw_18 (by decide +kernel) ⟨Nat.le_of_ble_eq_true rfl, Nat.le_of_ble_eq_true rfl⟩ rfl rfl rfl rfl rfl hl.1 rfl (lv_room (Nat.le_of_ble_eq_true rfl)) dc_T_stampOf_44 ⟨Nat.zero_le _, Nat.zero_le _⟩ (fun r104 st103 H locs hP hS h => ?_)
        refine lv_istore (lv' := [(4, .int r104), (0, .ref (ad 20)), (1, .int y1), (2, .int y2), (3, .int y3)]) hx hb dc_T_stampOf_47 hl (by decide) rfl (fun ls hl => ?_)
        refine lv_aload_n hx hb dc_T_stampOf_49 rfl (lv_at hl 1 rfl) ?_
        refine va_get (D := D) (ci := 2) (v := .ref (ad 19)) (C := Rn_T) (T := Fn_T) (N := 3) hx hb hts in_T hown hK hP 20 rfl rfl 0 (by decide) (hts _ mw_13) (fun _ h9 => h9) rfl dc_T_stampOf_50 ?_
        refine lv_iload_n hx hb dc_T_stampOf_53 rfl (lv_at hl 4 rfl) ?_
        refine lv_iload hx hb dc_T_stampOf_54 (lv_at hl 0 rfl) ?_
        refine w_cVi (y := yn_B_key) (C := Rn_B) (index := 41) (n := 2) (own := Rn_T) 19 hx hb hml hown hts hK hN hP hS (ct_B_key l D ad cA w hJ y3 r104 st103 _ h) mw_43 mw_44 mw_45 mw_46 mw_18 (by decide +kernel) ⟨Nat.le_of_ble_eq_true rfl, Nat.le_of_ble_eq_true rfl⟩ rfl rfl rfl rfl rfl hl.1 rfl (lv_room (Nat.le_of_ble_eq_true rfl)) dc_T_stampOf_56 ⟨Nat.zero_le _, Nat.zero_le _⟩ (fun r106 st105 H locs hP hS h => ?_)
        refine lv_iload_n hx hb dc_T_stampOf_59 rfl (lv_at hl 3 rfl) ?_
        refine lv_icmp_ne (tgt := 76) hx hb dc_T_stampOf_60 (by decide) (fun c => ?_) (fun c => ?_)
        · have h := h.1 c
          refine lv_bipush (v := (-2)) hx hb dc_T_stampOf_76 (by decide) ?_
          exact w_iret hx hb hr hlocks hP hS h dc_T_stampOf_78
        · have h := h.2 c
          refine lv_aload_n hx hb dc_T_stampOf_63 rfl (lv_at hl 1 rfl) ?_
          refine va_get (D := D) (ci := 2) (v := .ref (ad 19)) (C := Rn_T) (T := Fn_T) (N := 3) hx hb hts in_T hown hK hP 20 rfl rfl 0 (by decide) (hts _ mw_13) (fun _ h9 => h9) rfl dc_T_stampOf_64 ?_
          refine lv_iload_n hx hb dc_T_stampOf_67 rfl (lv_at hl 4 rfl) ?_
          refine lv_iload hx hb dc_T_stampOf_68 (lv_at hl 0 rfl) ?_
          refine w_cVi (y := yn_B_goal) (C := Rn_B) (index := 35) (n := 2) (own := Rn_T) 19 hx hb hml hown hts hK hN hP hS (ct_B_goal l D ad cA w hJ y3 r104 st105 _ h) mw_48 mw_49 mw_50 mw_51 mw_18 (by decide +kernel) ⟨Nat.le_of_ble_eq_true rfl, Nat.le_of_ble_eq_true rfl⟩ rfl rfl rfl rfl rfl hl.1 rfl (lv_room (Nat.le_of_ble_eq_true rfl)) dc_T_stampOf_70 ⟨Nat.zero_le _, Nat.zero_le _⟩ (fun r108 st107 H locs hP hS h => ?_)
          refine lv_goto (tgt := 78) hx hb dc_T_stampOf_73 (by decide) ?_
          exact w_iret hx hb hr hlocks hP hS h dc_T_stampOf_78
      · have h := h.2 c
        refine lv_aload_n hx hb dc_T_stampOf_17 rfl (lv_at hl 0 rfl) ?_
        refine va_get (D := D) (ci := 2) (v := .ref (ad 19)) (C := Rn_T) (T := Fn_T) (N := 3) hx hb hts in_T hown hK hP 20 rfl rfl 0 (by decide) (hts _ mw_13) (fun _ h9 => h9) rfl dc_T_stampOf_18 ?_
        refine lv_iload_n hx hb dc_T_stampOf_21 rfl (lv_at hl 3 rfl) ?_
        refine lv_aload_n hx hb dc_T_stampOf_22 rfl (lv_at hl 0 rfl) ?_
        refine lv_iload_n hx hb dc_T_stampOf_23 rfl (lv_at hl 3 rfl) ?_
        refine lv_iload_n hx hb dc_T_stampOf_24 rfl (lv_at hl 2 rfl) ?_
        refine w_cVi (y := yn_T_slotToward) (C := Rn_T) (index := 31) (n := 2) (own := Rn_T) 20 hx hb hml hown hts hK hN hP hS (ct_T_slotToward l D ad cA w hJ y3 y2 st _ h) mw_55 mw_56 mw_57 mw_58 mw_59 (by decide +kernel) ⟨Nat.le_of_ble_eq_true rfl, Nat.le_of_ble_eq_true rfl⟩ rfl rfl rfl rfl rfl hl.1 rfl (lv_room (Nat.le_of_ble_eq_true rfl)) dc_T_stampOf_25 ⟨Nat.zero_le _, Nat.zero_le _⟩ (fun r110 st109 H locs hP hS h => ?_)
        refine w_cVi (y := yn_B_goal) (C := Rn_B) (index := 35) (n := 2) (own := Rn_T) 19 hx hb hml hown hts hK hN hP hS (ct_B_goal l D ad cA w hJ y3 r110 st109 _ h) mw_48 mw_49 mw_50 mw_51 mw_18 (by decide +kernel) ⟨Nat.le_of_ble_eq_true rfl, Nat.le_of_ble_eq_true rfl⟩ rfl rfl rfl rfl rfl hl.1 rfl (lv_room (Nat.le_of_ble_eq_true rfl)) dc_T_stampOf_28 ⟨Nat.zero_le _, Nat.zero_le _⟩ (fun r112 st111 H locs hP hS h => ?_)
        refine lv_istore_n (lv' := [(3, .int r112), (0, .ref (ad 20)), (1, .int y1), (2, .int y2), (4, .int y4)]) hx hb dc_T_stampOf_31 rfl hl (by decide) rfl (fun ls hl => ?_)
        obtain ⟨x113, ex113⟩ : ∃ y : Int32, y = y4 + (-1) := ⟨_, rfl⟩
        have h := h x113 ex113
        refine lv_iinc (v := x113) (lv' := [(4, .int x113), (3, .int r112), (0, .ref (ad 20)), (1, .int y1), (2, .int y2)]) hx hb dc_T_stampOf_32 hl (k := 4) rfl (by rw [ex113]; rfl) (by decide) rfl (fun ls hl => ?_)
        refine lv_goto (tgt := 12) hx hb dc_T_stampOf_35 (by decide) ?_
        exact ih y1 y2 r112 x113 st111 h _ _ hP hS ls (lv_sub hl [2, 3, 4, 1, 0] rfl)
  have hl := lv_entry ([.ref (ad 20), .int x1, .int x2]) (n := 5) (Nat.le_of_ble_eq_true rfl)
  rw [lg_entry_eq]
  generalize (lg_sl ([.ref (ad 20), .int x1, .int x2]) ++ List.replicate (5 - (lg_sl ([.ref (ad 20), .int x1, .int x2])).length) Slot.unset).toArray = ls at hl ⊢
  have hl : lv_has ls 5 [(0, .ref (ad 20)), (1, .int x1), (2, .int x2)] := hl
  refine lv_iload_n hx hb dc_T_stampOf_0 rfl (lv_at hl 1 rfl) ?_
  refine lv_istore_n (lv' := [(3, .int x1), (0, .ref (ad 20)), (1, .int x1), (2, .int x2)]) hx hb dc_T_stampOf_1 rfl hl (by decide) rfl (fun ls hl => ?_)
  refine lv_aload_n hx hb dc_T_stampOf_2 rfl (lv_at hl 1 rfl) ?_
  refine va_get (D := D) (ci := 2) (v := .ref (ad 19)) (C := Rn_T) (T := Fn_T) (N := 3) hx hb hts in_T hown hK hP 20 rfl rfl 0 (by decide) (hts _ mw_13) (fun _ h9 => h9) rfl dc_T_stampOf_3 ?_
  refine lv_iload_n hx hb dc_T_stampOf_6 rfl (lv_at hl 2 rfl) ?_
  refine w_cVi (y := yn_B_level) (C := Rn_B) (index := 26) (n := 1) (own := Rn_T) 19 hx hb hml hown hts hK hN hP hS (ct_B_level l D ad cA w hJ x1 st _ h) mw_20 mw_21 mw_22 mw_23 mw_18 (by decide +kernel) ⟨Nat.le_of_ble_eq_true rfl, Nat.le_of_ble_eq_true rfl⟩ rfl rfl rfl rfl rfl hl.1 rfl (lv_room (Nat.le_of_ble_eq_true rfl)) dc_T_stampOf_7 ⟨Nat.zero_le _, Nat.zero_le _⟩ (fun r102 st101 H locs hP hS h => ?_)
  refine lv_istore (lv' := [(4, .int r102), (3, .int x1), (0, .ref (ad 20)), (1, .int x1), (2, .int x2)]) hx hb dc_T_stampOf_10 hl (by decide) rfl (fun ls hl => ?_)
  obtain ⟨n, h⟩ := h
  exact Lp_12 n x1 x2 x1 r102 st101 h _ _ hP hS ls (lv_sub hl [2, 3, 4, 1, 0] rfl)
set_option maxHeartbeats 4000000 in
set_option maxRecDepth 100000 in
theorem ct_B_ways (l : Launch) (D : va_G) (ad : Nat → Nat) (cA : Nat → ClassId) (w : Nat) (hJ : Jn_ ad) (x1 : Int32) (st : St_) (post : Int32 → St_ → Prop) (h : wp_B_ways w x1 st post) : Met l yn_B_ways (Cond.code yn_B_ways bc_B_ways 2 (some .int) :: Wk_) rm_B_ways (Pw_ D ad cA w st [.ref (ad 19), .int x1]) (Qi_ D ad cA w post) 0 0 (Aw_ ad) := by
  refine Met.ofW (cc := bc_B_ways) (maxL := 2) (ret := (some .int)) (by decide) rfl ?_
  intro p e s m args below meth c s₁ B hml hv
  obtain ⟨rfl, hP, hK, hN⟩ := hv
  have hx := B.exec
  have hb := B.bytes
  have hr := B.returns
  have hts : ∀ v ∈ Wk_, v.before [.ref (ad 19), .int x1].toArray s = true := fun v hv => atoms_spec (ws := Cond.code yn_B_ways bc_B_ways 2 (some .int) :: Wk_) B.pre v (List.mem_cons_of_mem _ hv)
  have hown : s.vm.findClass Rn_B = some m.cls := findClass_of_methodNamed B.named
  have hlocks := B.notSynchronized
  have hS : va_S (Aw_ ad) s.heap s.heap [] := va_S.rf
  have hl := lv_entry ([.ref (ad 19), .int x1]) (n := 2) (Nat.le_of_ble_eq_true rfl)
  rw [lg_entry_eq]
  generalize (lg_sl ([.ref (ad 19), .int x1]) ++ List.replicate (2 - (lg_sl ([.ref (ad 19), .int x1])).length) Slot.unset).toArray = ls at hl ⊢
  have hl : lv_has ls 2 [(0, .ref (ad 19)), (1, .int x1)] := hl
  refine lv_aload_n hx hb dc_B_ways_0 rfl (lv_at hl 0 rfl) ?_
  refine lv_iload_n hx hb dc_B_ways_1 rfl (lv_at hl 1 rfl) ?_
  refine w_cVi (y := yn_B_isBlock) (C := Rn_B) (index := 37) (n := 1) (own := Rn_B) 19 hx hb hml hown hts hK hN hP hS (ct_B_isBlock l D ad cA w hJ x1 st _ h) mw_14 mw_15 mw_16 mw_17 mw_18 (by decide +kernel) ⟨Nat.le_of_ble_eq_true rfl, Nat.le_of_ble_eq_true rfl⟩ rfl rfl rfl rfl rfl hl.1 rfl (lv_room (Nat.le_of_ble_eq_true rfl)) dc_B_ways_2 ⟨Nat.zero_le _, Nat.zero_le _⟩ (fun r102 st101 H locs hP hS h => ?_)
  refine lv_if_eq (tgt := 17) hx hb dc_B_ways_5 (by decide) (fun c => ?_) (fun c => ?_)
  · have h := h.1 c
    refine lv_iconst (v := 0) hx hb dc_B_ways_17 (by decide) ?_
    exact w_iret hx hb hr hlocks hP hS h dc_B_ways_18
  · have h := h.2 c
    refine lv_aload_n hx hb dc_B_ways_8 rfl (lv_at hl 0 rfl) ?_
    refine va_get (D := D) (ci := 1) (v := .ref (ad 0)) (C := Rn_B) (T := Fn_B) (N := 8) hx hb hts in_B hown hK hP 19 rfl rfl 1 (by decide) (hts _ mw_64) (fun _ h9 => h9) rfl dc_B_ways_9 ?_
    refine lv_iload_n hx hb dc_B_ways_12 rfl (lv_at hl 1 rfl) ?_
    refine w_ild 0 (by decide) hx hb hK hP h.1 dc_B_ways_13 ?_
    have h := h.2
    refine lv_goto (tgt := 18) hx hb dc_B_ways_14 (by decide) ?_
    exact w_iret hx hb hr hlocks hP hS h dc_B_ways_18
set_option maxHeartbeats 4000000 in
set_option maxRecDepth 100000 in
theorem ct_B_take (l : Launch) (D : va_G) (ad : Nat → Nat) (cA : Nat → ClassId) (w : Nat) (hJ : Jn_ ad) (x1 : Int32) (st : St_) (post : Int32 → St_ → Prop) (h : wp_B_take w x1 st post) : Met l yn_B_take (Cond.code yn_B_take bc_B_take 3 (some .int) :: Wk_) rm_B_take (Pw_ D ad cA w st [.ref (ad 19), .int x1]) (Qi_ D ad cA w post) 0 0 (Aw_ ad) := by
  refine Met.ofW (cc := bc_B_take) (maxL := 3) (ret := (some .int)) (by decide) rfl ?_
  intro p e s m args below meth c s₁ B hml hv
  obtain ⟨rfl, hP, hK, hN⟩ := hv
  have hx := B.exec
  have hb := B.bytes
  have hr := B.returns
  have hts : ∀ v ∈ Wk_, v.before [.ref (ad 19), .int x1].toArray s = true := fun v hv => atoms_spec (ws := Cond.code yn_B_take bc_B_take 3 (some .int) :: Wk_) B.pre v (List.mem_cons_of_mem _ hv)
  have hown : s.vm.findClass Rn_B = some m.cls := findClass_of_methodNamed B.named
  have hlocks := B.notSynchronized
  have hS : va_S (Aw_ ad) s.heap s.heap [] := va_S.rf
  have hl := lv_entry ([.ref (ad 19), .int x1]) (n := 3) (Nat.le_of_ble_eq_true rfl)
  rw [lg_entry_eq]
  generalize (lg_sl ([.ref (ad 19), .int x1]) ++ List.replicate (3 - (lg_sl ([.ref (ad 19), .int x1])).length) Slot.unset).toArray = ls at hl ⊢
  have hl : lv_has ls 3 [(0, .ref (ad 19)), (1, .int x1)] := hl
  refine lv_aload_n hx hb dc_B_take_0 rfl (lv_at hl 0 rfl) ?_
  refine va_get (D := D) (ci := 1) (v := .int (st 18 0)) (C := Rn_B) (T := Fn_B) (N := 8) hx hb hts in_B hown hK hP 19 rfl rfl 7 (by decide) (hts _ mw_70) (fun _ h9 => h9) rfl dc_B_take_1 ?_
  refine lv_if_le (tgt := 17) hx hb dc_B_take_4 (by decide) (fun c => ?_) (fun c => ?_)
  · have h := h.1 c
    refine lv_iconst (v := 0) hx hb dc_B_take_17 (by decide) ?_
    exact w_iret hx hb hr hlocks hP hS h dc_B_take_18
  · have h := h.2 c
    refine lv_aload_n hx hb dc_B_take_7 rfl (lv_at hl 0 rfl) ?_
    refine va_get (D := D) (ci := 1) (v := .int (st 18 0)) (C := Rn_B) (T := Fn_B) (N := 8) hx hb hts in_B hown hK hP 19 rfl rfl 7 (by decide) (hts _ mw_70) (fun _ h9 => h9) rfl dc_B_take_8 ?_
    refine lv_sipush (v := 1200) hx hb dc_B_take_11 (by decide) ?_
    refine lv_icmp_le (tgt := 19) hx hb dc_B_take_14 (by decide) (fun c => ?_) (fun c => ?_)
    · have h := h.1 c
      refine lv_aload_n hx hb dc_B_take_19 rfl (lv_at hl 0 rfl) ?_
      refine lv_dup hx hb dc_B_take_20 rfl ?_
      refine va_get (D := D) (ci := 1) (v := .int (st 18 0)) (C := Rn_B) (T := Fn_B) (N := 8) hx hb hts in_B hown hK hP 19 rfl rfl 7 (by decide) (hts _ mw_70) (fun _ h9 => h9) rfl dc_B_take_21 ?_
      refine lv_iconst (v := 1) hx hb dc_B_take_24 (by decide) ?_
      refine lv_isub hx hb dc_B_take_25 ?_
      refine va_put (D := D) (ci := 1) (v := .int ((st 18 0) - 1)) (ty := .int) (C := Rn_B) (T := Fn_B) (N := 8) hx hb hts in_B Tn_B to_B nn_B hown hK hP (wd_D hJ) hS 19 rfl rfl 7 (by decide) (hts _ mw_70) (fun _ h9 => h9) rfl (by decide +kernel) rfl rfl (Nat.le_of_ble_eq_true rfl) dc_B_take_26 (fun H locs hP _ hS => ?_)
      obtain ⟨st101, est101⟩ : ∃ z : St_, z = ws_1 st 18 0 ((st 18 0) - 1) := ⟨_, rfl⟩
      have hP : va_P D sC_ (wd_ ad cA w st101) H := by rw [est101]; exact hP
      have h := h st101 est101
      refine lv_aload_n hx hb dc_B_take_29 rfl (lv_at hl 0 rfl) ?_
      refine va_get (D := D) (ci := 1) (v := .ref (ad 5)) (C := Rn_B) (T := Fn_B) (N := 8) hx hb hts in_B hown hK hP 19 rfl rfl 6 (by decide) (hts _ mw_71) (fun _ h9 => h9) rfl dc_B_take_30 ?_
      refine lv_aload_n hx hb dc_B_take_33 rfl (lv_at hl 0 rfl) ?_
      refine va_get (D := D) (ci := 1) (v := .int (st101 18 0)) (C := Rn_B) (T := Fn_B) (N := 8) hx hb hts in_B hown hK hP 19 rfl rfl 7 (by decide) (hts _ mw_70) (fun _ h9 => h9) rfl dc_B_take_34 ?_
      refine w_ild 5 (by decide) hx hb hK hP h.1 dc_B_take_37 ?_
      have h := h.2
      refine lv_topi (fun x102 ex102 => ?_)
      have h := h x102 ex102
      refine lv_istore_n (lv' := [(2, .int x102), (0, .ref (ad 19)), (1, .int x1)]) hx hb dc_B_take_38 rfl hl (by decide) rfl (fun ls hl => ?_)
      refine lv_aload_n hx hb dc_B_take_39 rfl (lv_at hl 1 rfl) ?_
      refine lv_iload_n hx hb dc_B_take_40 rfl (lv_at hl 0 rfl) ?_
      refine w_cVi (y := yn_B_isBlock) (C := Rn_B) (index := 37) (n := 1) (own := Rn_B) 19 hx hb hml hown hts hK hN hP hS (ct_B_isBlock l D ad cA w hJ x102 st101 _ h) mw_14 mw_15 mw_16 mw_17 mw_18 (by decide +kernel) ⟨Nat.le_of_ble_eq_true rfl, Nat.le_of_ble_eq_true rfl⟩ rfl rfl rfl rfl rfl hl.1 rfl (lv_room (Nat.le_of_ble_eq_true rfl)) dc_B_take_41 ⟨Nat.zero_le _, Nat.zero_le _⟩ (fun r104 st103 H locs hP hS h => ?_)
      refine lv_if_eq (tgt := 68) hx hb dc_B_take_44 (by decide) (fun c => ?_) (fun c => ?_)
      · have h := h.1 c
        refine lv_iload_n hx hb dc_B_take_68 rfl (lv_at hl 0 rfl) ?_
        exact w_iret hx hb hr hlocks hP hS h dc_B_take_69
      · have h := h.2 c
        refine lv_aload_n hx hb dc_B_take_47 rfl (lv_at hl 1 rfl) ?_
        refine va_get (D := D) (ci := 1) (v := .ref (ad 0)) (C := Rn_B) (T := Fn_B) (N := 8) hx hb hts in_B hown hK hP 19 rfl rfl 1 (by decide) (hts _ mw_64) (fun _ h9 => h9) rfl dc_B_take_48 ?_
        refine lv_iload_n hx hb dc_B_take_51 rfl (lv_at hl 0 rfl) ?_
        refine lv_iconst (v := 1) hx hb dc_B_take_52 (by decide) ?_
        refine w_ist 0 (by decide) hJ hx hb hK hP hS h.1 dc_B_take_53 (fun H locs hP hS => ?_)
        obtain ⟨st105, est105⟩ : ∃ z : St_, z = ws_1 st103 0 (x102).toNatClampNeg 1 := ⟨_, rfl⟩
        rw [← est105] at hP
        have h := h.2 st105 est105
        refine lv_aload_n hx hb dc_B_take_54 rfl (lv_at hl 1 rfl) ?_
        refine va_get (D := D) (ci := 1) (v := .ref (ad 1)) (C := Rn_B) (T := Fn_B) (N := 8) hx hb hts in_B hown hK hP 19 rfl rfl 2 (by decide) (hts _ mw_19) (fun _ h9 => h9) rfl dc_B_take_55 ?_
        refine lv_iload_n hx hb dc_B_take_58 rfl (lv_at hl 0 rfl) ?_
        refine lv_iload_n hx hb dc_B_take_59 rfl (lv_at hl 2 rfl) ?_
        refine w_ist 1 (by decide) hJ hx hb hK hP hS h.1 dc_B_take_60 (fun H locs hP hS => ?_)
        obtain ⟨st106, est106⟩ : ∃ z : St_, z = ws_1 st105 1 (x102).toNatClampNeg x1 := ⟨_, rfl⟩
        rw [← est106] at hP
        have h := h.2 st106 est106
        refine lv_aload_n hx hb dc_B_take_61 rfl (lv_at hl 1 rfl) ?_
        refine va_get (D := D) (ci := 1) (v := .ref (ad 2)) (C := Rn_B) (T := Fn_B) (N := 8) hx hb hts in_B hown hK hP 19 rfl rfl 3 (by decide) (hts _ mw_25) (fun _ h9 => h9) rfl dc_B_take_62 ?_
        refine lv_iload_n hx hb dc_B_take_65 rfl (lv_at hl 0 rfl) ?_
        refine lv_iconst (v := 0) hx hb dc_B_take_66 (by decide) ?_
        refine w_ist 2 (by decide) hJ hx hb hK hP hS h.1 dc_B_take_67 (fun H locs hP hS => ?_)
        obtain ⟨st107, est107⟩ : ∃ z : St_, z = ws_1 st106 2 (x102).toNatClampNeg 0 := ⟨_, rfl⟩
        rw [← est107] at hP
        have h := h.2 st107 est107
        refine lv_iload_n hx hb dc_B_take_68 rfl (lv_at hl 0 rfl) ?_
        exact w_iret hx hb hr hlocks hP hS h dc_B_take_69
    · have h := h.2 c
      refine lv_iconst (v := 0) hx hb dc_B_take_17 (by decide) ?_
      exact w_iret hx hb hr hlocks hP hS h dc_B_take_18
set_option maxHeartbeats 4000000 in
set_option maxRecDepth 100000 in
theorem ct_B_copyEntries (l : Launch) (D : va_G) (ad : Nat → Nat) (cA : Nat → ClassId) (w : Nat) (hJ : Jn_ ad) (x1 : Int32) (x2 : Int32) (st : St_) (post : St_ → Prop) (h : wp_B_copyEntries w x1 x2 st post) : Met l yn_B_copyEntries (Cond.code yn_B_copyEntries bc_B_copyEntries 3 none :: Wk_) rm_B_copyEntries (Pw_ D ad cA w st [.ref (ad 19), .int x1, .int x2]) (Qv_ D ad cA w post) 0 0 (Aw_ ad) := by
  refine Met.ofW (cc := bc_B_copyEntries) (maxL := 3) (ret := none) (by decide) rfl ?_
  intro p e s m args below meth c s₁ B hml hv
  obtain ⟨rfl, hP, hK, hN⟩ := hv
  have hx := B.exec
  have hb := B.bytes
  have hr := B.returns
  have hts : ∀ v ∈ Wk_, v.before [.ref (ad 19), .int x1, .int x2].toArray s = true := fun v hv => atoms_spec (ws := Cond.code yn_B_copyEntries bc_B_copyEntries 3 none :: Wk_) B.pre v (List.mem_cons_of_mem _ hv)
  have hown : s.vm.findClass Rn_B = some m.cls := findClass_of_methodNamed B.named
  have hlocks := B.notSynchronized
  have hS : va_S (Aw_ ad) s.heap s.heap [] := va_S.rf
  have hl := lv_entry ([.ref (ad 19), .int x1, .int x2]) (n := 3) (Nat.le_of_ble_eq_true rfl)
  rw [lg_entry_eq]
  generalize (lg_sl ([.ref (ad 19), .int x1, .int x2]) ++ List.replicate (3 - (lg_sl ([.ref (ad 19), .int x1, .int x2])).length) Slot.unset).toArray = ls at hl ⊢
  have hl : lv_has ls 3 [(0, .ref (ad 19)), (1, .int x1), (2, .int x2)] := hl
  refine lv_aload_n hx hb dc_B_copyEntries_0 rfl (lv_at hl 0 rfl) ?_
  refine lv_iload_n hx hb dc_B_copyEntries_1 rfl (lv_at hl 1 rfl) ?_
  refine w_cVi (y := yn_B_isBlock) (C := Rn_B) (index := 37) (n := 1) (own := Rn_B) 19 hx hb hml hown hts hK hN hP hS (ct_B_isBlock l D ad cA w hJ x1 st _ h) mw_14 mw_15 mw_16 mw_17 mw_18 (by decide +kernel) ⟨Nat.le_of_ble_eq_true rfl, Nat.le_of_ble_eq_true rfl⟩ rfl rfl rfl rfl rfl hl.1 rfl (lv_room (Nat.le_of_ble_eq_true rfl)) dc_B_copyEntries_2 ⟨Nat.zero_le _, Nat.zero_le _⟩ (fun r102 st101 H locs hP hS h => ?_)
  refine lv_if_eq (tgt := 82) hx hb dc_B_copyEntries_5 (by decide) (fun c => ?_) (fun c => ?_)
  · have h := h.1 c
    exact w_vret hx hb hr hlocks hP hS h dc_B_copyEntries_82
  · have h := h.2 c
    refine lv_aload_n hx hb dc_B_copyEntries_8 rfl (lv_at hl 0 rfl) ?_
    refine lv_iload_n hx hb dc_B_copyEntries_9 rfl (lv_at hl 2 rfl) ?_
    refine w_cVi (y := yn_B_isBlock) (C := Rn_B) (index := 37) (n := 1) (own := Rn_B) 19 hx hb hml hown hts hK hN hP hS (ct_B_isBlock l D ad cA w hJ x2 st101 _ h) mw_14 mw_15 mw_16 mw_17 mw_18 (by decide +kernel) ⟨Nat.le_of_ble_eq_true rfl, Nat.le_of_ble_eq_true rfl⟩ rfl rfl rfl rfl rfl hl.1 rfl (lv_room (Nat.le_of_ble_eq_true rfl)) dc_B_copyEntries_10 ⟨Nat.zero_le _, Nat.zero_le _⟩ (fun r104 st103 H locs hP hS h => ?_)
    refine lv_if_eq (tgt := 82) hx hb dc_B_copyEntries_13 (by decide) (fun c => ?_) (fun c => ?_)
    · have h := h.1 c
      exact w_vret hx hb hr hlocks hP hS h dc_B_copyEntries_82
    · have h := h.2 c
      refine lv_aload_n hx hb dc_B_copyEntries_16 rfl (lv_at hl 0 rfl) ?_
      refine va_get (D := D) (ci := 1) (v := .ref (ad 3)) (C := Rn_B) (T := Fn_B) (N := 8) hx hb hts in_B hown hK hP 19 rfl rfl 4 (by decide) (hts _ mw_34) (fun _ h9 => h9) rfl dc_B_copyEntries_17 ?_
      refine lv_iload_n hx hb dc_B_copyEntries_20 rfl (lv_at hl 1 rfl) ?_
      refine lv_aload_n hx hb dc_B_copyEntries_21 rfl (lv_at hl 0 rfl) ?_
      refine va_get (D := D) (ci := 1) (v := .int (nI w)) (C := Rn_B) (T := Fn_B) (N := 8) hx hb hts in_B hown hK hP 19 rfl rfl 0 (by decide) (hts _ mw_24) (fun _ h9 => h9) rfl dc_B_copyEntries_22 ?_
      refine lv_imul hx hb dc_B_copyEntries_25 ?_
      refine lv_aload_n hx hb dc_B_copyEntries_26 rfl (lv_at hl 0 rfl) ?_
      refine va_get (D := D) (ci := 1) (v := .ref (ad 3)) (C := Rn_B) (T := Fn_B) (N := 8) hx hb hts in_B hown hK hP 19 rfl rfl 4 (by decide) (hts _ mw_34) (fun _ h9 => h9) rfl dc_B_copyEntries_27 ?_
      refine lv_iload_n hx hb dc_B_copyEntries_30 rfl (lv_at hl 2 rfl) ?_
      refine lv_aload_n hx hb dc_B_copyEntries_31 rfl (lv_at hl 0 rfl) ?_
      refine va_get (D := D) (ci := 1) (v := .int (nI w)) (C := Rn_B) (T := Fn_B) (N := 8) hx hb hts in_B hown hK hP 19 rfl rfl 0 (by decide) (hts _ mw_24) (fun _ h9 => h9) rfl dc_B_copyEntries_32 ?_
      refine lv_imul hx hb dc_B_copyEntries_35 ?_
      refine lv_aload_n hx hb dc_B_copyEntries_36 rfl (lv_at hl 0 rfl) ?_
      refine va_get (D := D) (ci := 1) (v := .int (nI w)) (C := Rn_B) (T := Fn_B) (N := 8) hx hb hts in_B hown hK hP 19 rfl rfl 0 (by decide) (hts _ mw_24) (fun _ h9 => h9) rfl dc_B_copyEntries_37 ?_
      refine w_cpy 3 3 (by decide) (by decide) hJ hx hb (hml.trans hl.1.symm) hown (hts _ mw_76) (hts _ mw_77) (hts _ mw_78) (hts _ mw_79) hK hP hS h.1 (Nat.le_of_ble_eq_true rfl) (Nat.le_of_ble_eq_true rfl) dc_B_copyEntries_40 (fun H locs hP hS => ?_)
      obtain ⟨st105, est105⟩ : ∃ z : St_, z = ws_c st103 3 3 ((x1 * (nI w))).toNatClampNeg ((x2 * (nI w))).toNatClampNeg ((nI w)).toNatClampNeg := ⟨_, rfl⟩
      rw [← est105] at hP
      have h := h.2 st105 est105
      refine lv_aload_n hx hb dc_B_copyEntries_43 rfl (lv_at hl 0 rfl) ?_
      refine va_get (D := D) (ci := 1) (v := .ref (ad 4)) (C := Rn_B) (T := Fn_B) (N := 8) hx hb hts in_B hown hK hP 19 rfl rfl 5 (by decide) (hts _ mw_47) (fun _ h9 => h9) rfl dc_B_copyEntries_44 ?_
      refine lv_iload_n hx hb dc_B_copyEntries_47 rfl (lv_at hl 1 rfl) ?_
      refine lv_aload_n hx hb dc_B_copyEntries_48 rfl (lv_at hl 0 rfl) ?_
      refine va_get (D := D) (ci := 1) (v := .int (nI w)) (C := Rn_B) (T := Fn_B) (N := 8) hx hb hts in_B hown hK hP 19 rfl rfl 0 (by decide) (hts _ mw_24) (fun _ h9 => h9) rfl dc_B_copyEntries_49 ?_
      refine lv_imul hx hb dc_B_copyEntries_52 ?_
      refine lv_aload_n hx hb dc_B_copyEntries_53 rfl (lv_at hl 0 rfl) ?_
      refine va_get (D := D) (ci := 1) (v := .ref (ad 4)) (C := Rn_B) (T := Fn_B) (N := 8) hx hb hts in_B hown hK hP 19 rfl rfl 5 (by decide) (hts _ mw_47) (fun _ h9 => h9) rfl dc_B_copyEntries_54 ?_
      refine lv_iload_n hx hb dc_B_copyEntries_57 rfl (lv_at hl 2 rfl) ?_
      refine lv_aload_n hx hb dc_B_copyEntries_58 rfl (lv_at hl 0 rfl) ?_
      refine va_get (D := D) (ci := 1) (v := .int (nI w)) (C := Rn_B) (T := Fn_B) (N := 8) hx hb hts in_B hown hK hP 19 rfl rfl 0 (by decide) (hts _ mw_24) (fun _ h9 => h9) rfl dc_B_copyEntries_59 ?_
      refine lv_imul hx hb dc_B_copyEntries_62 ?_
      refine lv_aload_n hx hb dc_B_copyEntries_63 rfl (lv_at hl 0 rfl) ?_
      refine va_get (D := D) (ci := 1) (v := .int (nI w)) (C := Rn_B) (T := Fn_B) (N := 8) hx hb hts in_B hown hK hP 19 rfl rfl 0 (by decide) (hts _ mw_24) (fun _ h9 => h9) rfl dc_B_copyEntries_64 ?_
      refine w_cpy 4 4 (by decide) (by decide) hJ hx hb (hml.trans hl.1.symm) hown (hts _ mw_76) (hts _ mw_77) (hts _ mw_78) (hts _ mw_79) hK hP hS h.1 (Nat.le_of_ble_eq_true rfl) (Nat.le_of_ble_eq_true rfl) dc_B_copyEntries_67 (fun H locs hP hS => ?_)
      obtain ⟨st106, est106⟩ : ∃ z : St_, z = ws_c st105 4 4 ((x1 * (nI w))).toNatClampNeg ((x2 * (nI w))).toNatClampNeg ((nI w)).toNatClampNeg := ⟨_, rfl⟩
      rw [← est106] at hP
      have h := h.2 st106 est106
      refine lv_aload_n hx hb dc_B_copyEntries_70 rfl (lv_at hl 0 rfl) ?_
      refine va_get (D := D) (ci := 1) (v := .ref (ad 2)) (C := Rn_B) (T := Fn_B) (N := 8) hx hb hts in_B hown hK hP 19 rfl rfl 3 (by decide) (hts _ mw_25) (fun _ h9 => h9) rfl dc_B_copyEntries_71 ?_
      refine lv_iload_n hx hb dc_B_copyEntries_74 rfl (lv_at hl 2 rfl) ?_
      refine lv_aload_n hx hb dc_B_copyEntries_75 rfl (lv_at hl 0 rfl) ?_
      refine va_get (D := D) (ci := 1) (v := .ref (ad 2)) (C := Rn_B) (T := Fn_B) (N := 8) hx hb hts in_B hown hK hP 19 rfl rfl 3 (by decide) (hts _ mw_25) (fun _ h9 => h9) rfl dc_B_copyEntries_76 ?_
      refine lv_iload_n hx hb dc_B_copyEntries_79 rfl (lv_at hl 1 rfl) ?_
      refine w_ild 2 (by decide) hx hb hK hP h.1 dc_B_copyEntries_80 ?_
      have h := h.2
      refine w_ist 2 (by decide) hJ hx hb hK hP hS h.1 dc_B_copyEntries_81 (fun H locs hP hS => ?_)
      obtain ⟨st107, est107⟩ : ∃ z : St_, z = ws_1 st106 2 (x2).toNatClampNeg (st106 2 (x1).toNatClampNeg) := ⟨_, rfl⟩
      rw [← est107] at hP
      have h := h.2 st107 est107
      exact w_vret hx hb hr hlocks hP hS h dc_B_copyEntries_82
