set_option maxHeartbeats 4000000 in
set_option maxRecDepth 100000 in
theorem ct_R_check (l : Launch) (D : va_G) (ad : Nat → Nat) (cA : Nat → ClassId) (w : Nat) (hJ : Jn_ ad) (st : St_) (post : Int32 → St_ → Prop) (h : wp_R_check w st post) : Met l yn_R_check (Cond.code yn_R_check bc_R_check 1 (some .int) :: Wk_) rm_R_check (Pw_ D ad cA w st [.ref (ad 24)]) (Qi_ D ad cA w post) 0 0 (Aw_ ad) := by
  refine Met.ofW (cc := bc_R_check) (maxL := 1) (ret := (some .int)) (by decide) rfl ?_
  intro p e s m args below meth c s₁ B hml hv
  obtain ⟨rfl, hP, hK, hN⟩ := hv
  have hx := B.exec
  have hb := B.bytes
  have hr := B.returns
  have hts : ∀ v ∈ Wk_, v.before [.ref (ad 24)].toArray s = true := fun v hv => atoms_spec (ws := Cond.code yn_R_check bc_R_check 1 (some .int) :: Wk_) B.pre v (List.mem_cons_of_mem _ hv)
  have hown : s.vm.findClass Rn_R = some m.cls := findClass_of_methodNamed B.named
  have hlocks := B.notSynchronized
  have hS : va_S (Aw_ ad) s.heap s.heap [] := va_S.rf
  have hl := lv_entry ([.ref (ad 24)]) (n := 1) (Nat.le_of_ble_eq_true rfl)
  rw [lg_entry_eq]
  generalize (lg_sl ([.ref (ad 24)]) ++ List.replicate (1 - (lg_sl ([.ref (ad 24)])).length) Slot.unset).toArray = ls at hl ⊢
  have hl : lv_has ls 1 [(0, .ref (ad 24))] := hl
  refine lv_iconst (v := 0) hx hb dc_R_check_0 (by decide) ?_
  exact w_iret hx hb hr hlocks hP hS h dc_R_check_1
