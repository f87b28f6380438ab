set_option maxHeartbeats 4000000 in
set_option maxRecDepth 100000 in
theorem ct_B_freeBlock (l : Launch) (D : va_G) (ad : Nat → Nat) (cA : Nat → ClassId) (w : Nat) (hJ : Jn_ ad) (x1 : Int32) (st : St_) (post : Int32 → St_ → Prop) (h : wp_B_freeBlock w x1 st post) : Met l yn_B_freeBlock (Cond.code yn_B_freeBlock bc_B_freeBlock 2 (some .int) :: Wk_) rm_B_freeBlock (Pw_ D ad cA w st [.ref (ad 19), .int x1]) (Qi_ D ad cA w post) 0 0 (Aw_ ad) := by
  refine Met.ofW (cc := bc_B_freeBlock) (maxL := 2) (ret := (some .int)) (by decide) rfl ?_
  intro p e s m args below meth c s₁ B hml hv
  obtain ⟨rfl, hP, hK, hN⟩ := hv
  have hx := B.exec
  have hb := B.bytes
  have hr := B.returns
  have hts : ∀ v ∈ Wk_, v.before [.ref (ad 19), .int x1].toArray s = true := fun v hv => atoms_spec (ws := Cond.code yn_B_freeBlock bc_B_freeBlock 2 (some .int) :: Wk_) B.pre v (List.mem_cons_of_mem _ hv)
  have hown : s.vm.findClass Rn_B = some m.cls := findClass_of_methodNamed B.named
  have hlocks := B.notSynchronized
  have hS : va_S (Aw_ ad) s.heap s.heap [] := va_S.rf
  have hl := lv_entry ([.ref (ad 19), .int x1]) (n := 2) (Nat.le_of_ble_eq_true rfl)
  rw [lg_entry_eq]
  generalize (lg_sl ([.ref (ad 19), .int x1]) ++ List.replicate (2 - (lg_sl ([.ref (ad 19), .int x1])).length) Slot.unset).toArray = ls at hl ⊢
  have hl : lv_has ls 2 [(0, .ref (ad 19)), (1, .int x1)] := hl
  refine lv_iload_n hx hb dc_B_freeBlock_0 rfl (lv_at hl 1 rfl) ?_
  refine lv_if_lt (tgt := 28) hx hb dc_B_freeBlock_1 (by decide) (fun c => ?_) (fun c => ?_)
  · have h := h.1 c
    refine lv_iconst (v := 0) hx hb dc_B_freeBlock_28 (by decide) ?_
    exact w_iret hx hb hr hlocks hP hS h dc_B_freeBlock_29
  · have h := h.2 c
    refine lv_iload_n hx hb dc_B_freeBlock_4 rfl (lv_at hl 1 rfl) ?_
    refine lv_aload_n hx hb dc_B_freeBlock_5 rfl (lv_at hl 0 rfl) ?_
    refine va_get (D := D) (ci := 1) (v := .int (st 18 0)) (C := Rn_B) (T := Fn_B) (N := 8) hx hb hts in_B hown hK hP 19 rfl rfl 7 (by decide) (hts _ mw_70) (fun _ h9 => h9) rfl dc_B_freeBlock_6 ?_
    refine lv_icmp_ge (tgt := 28) hx hb dc_B_freeBlock_9 (by decide) (fun c => ?_) (fun c => ?_)
    · have h := h.1 c
      refine lv_iconst (v := 0) hx hb dc_B_freeBlock_28 (by decide) ?_
      exact w_iret hx hb hr hlocks hP hS h dc_B_freeBlock_29
    · have h := h.2 c
      refine lv_iload_n hx hb dc_B_freeBlock_12 rfl (lv_at hl 1 rfl) ?_
      refine lv_sipush (v := 1200) hx hb dc_B_freeBlock_13 (by decide) ?_
      refine lv_icmp_ge (tgt := 28) hx hb dc_B_freeBlock_16 (by decide) (fun c => ?_) (fun c => ?_)
      · have h := h.1 c
        refine lv_iconst (v := 0) hx hb dc_B_freeBlock_28 (by decide) ?_
        exact w_iret hx hb hr hlocks hP hS h dc_B_freeBlock_29
      · have h := h.2 c
        refine lv_aload_n hx hb dc_B_freeBlock_19 rfl (lv_at hl 0 rfl) ?_
        refine va_get (D := D) (ci := 1) (v := .ref (ad 5)) (C := Rn_B) (T := Fn_B) (N := 8) hx hb hts in_B hown hK hP 19 rfl rfl 6 (by decide) (hts _ mw_71) (fun _ h9 => h9) rfl dc_B_freeBlock_20 ?_
        refine lv_iload_n hx hb dc_B_freeBlock_23 rfl (lv_at hl 1 rfl) ?_
        refine w_ild 5 (by decide) hx hb hK hP h.1 dc_B_freeBlock_24 ?_
        have h := h.2
        refine lv_goto (tgt := 29) hx hb dc_B_freeBlock_25 (by decide) ?_
        exact w_iret hx hb hr hlocks hP hS h dc_B_freeBlock_29
