set_option maxHeartbeats 4000000 in
set_option maxRecDepth 100000 in
theorem ct_S_changeCount_23 (l : Launch) (D : va_G) (ad : Nat → Nat) (cA : Nat → ClassId) (w : Nat) (hJ : Jn_ ad) (x1 : Int32) (x2 : Int32) (st : St_) (post : St_ → Prop) (h : wp_S_changeCount_23 w x1 x2 st post) : Met l yn_S_changeCount (Cond.code yn_S_changeCount bc_S_changeCount 3 none :: Wk_) rm_S_changeCount_23 (Pw_ D ad cA w st [.ref (ad 23), .int x1, .int x2]) (Qv_ D ad cA w post) 0 0 (Aw_ ad) := by
  refine Met.ofW (cc := bc_S_changeCount) (maxL := 3) (ret := none) (by decide) rfl ?_
  intro p e s m args below meth c s₁ B hml hv
  obtain ⟨rfl, hP, hK, hN⟩ := hv
  have hx := B.exec
  have hb := B.bytes
  have hr := B.returns
  have hts : ∀ v ∈ Wk_, v.before [.ref (ad 23), .int x1, .int x2].toArray s = true := fun v hv => atoms_spec (ws := Cond.code yn_S_changeCount bc_S_changeCount 3 none :: Wk_) B.pre v (List.mem_cons_of_mem _ hv)
  have hown : s.vm.findClass Rn_S = some m.cls := findClass_of_methodNamed B.named
  have hlocks := B.notSynchronized
  have hS : va_S (Aw_ ad) s.heap s.heap [] := va_S.rf
  have hl := lv_entry ([.ref (ad 23), .int x1, .int x2]) (n := 3) (Nat.le_of_ble_eq_true rfl)
  rw [lg_entry_eq]
  generalize (lg_sl ([.ref (ad 23), .int x1, .int x2]) ++ List.replicate (3 - (lg_sl ([.ref (ad 23), .int x1, .int x2])).length) Slot.unset).toArray = ls at hl ⊢
  have hl : lv_has ls 3 [(0, .ref (ad 23)), (1, .int x1), (2, .int x2)] := hl
  refine lv_aload_n hx hb dc_S_changeCount_0 rfl (lv_at hl 0 rfl) ?_
  refine va_getN (D := D) (ci := 4) (v := .ref (ad 13)) (C := Rn_P) (T := Fn_P) (N := 3) (host := nh_) hx hb hts in_P hown hK hP 23 rfl rfl 1 (by decide) (va_Nw.use rfl (hN.1 _ nf_1)) (fun _ h9 => h9) rfl dc_S_changeCount_1 ?_
  refine lv_iload_n hx hb dc_S_changeCount_4 rfl (lv_at hl 1 rfl) ?_
  refine lv_dup2_11 hx hb dc_S_changeCount_5 rfl rfl ?_
  refine w_ild 13 (by decide) hx hb hK hP h.1 dc_S_changeCount_6 ?_
  have h := h.2
  refine lv_iload_n hx hb dc_S_changeCount_7 rfl (lv_at hl 2 rfl) ?_
  refine lv_iadd hx hb dc_S_changeCount_8 ?_
  refine w_ist 13 (by decide) hJ hx hb hK hP hS h.1 dc_S_changeCount_9 (fun H locs hP hS => ?_)
  obtain ⟨st101, est101⟩ : ∃ z : St_, z = ws_1 st 13 (x1).toNatClampNeg ((st 13 (x1).toNatClampNeg) + x2) := ⟨_, rfl⟩
  rw [← est101] at hP
  have h := h.2 st101 est101
  refine lv_aload_n hx hb dc_S_changeCount_10 rfl (lv_at hl 0 rfl) ?_
  refine lv_dup hx hb dc_S_changeCount_11 rfl ?_
  refine va_getN (D := D) (ci := 4) (v := .int (st101 20 0)) (C := Rn_P) (T := Fn_P) (N := 3) (host := nh_) hx hb hts in_P hown hK hP 23 rfl rfl 2 (by decide) (va_Nw.use rfl (hN.1 _ nf_2)) (fun _ h9 => h9) rfl dc_S_changeCount_12 ?_
  refine lv_iload_n hx hb dc_S_changeCount_15 rfl (lv_at hl 2 rfl) ?_
  refine lv_iadd hx hb dc_S_changeCount_16 ?_
  refine va_putN (D := D) (ci := 4) (v := .int ((st101 20 0) + x2)) (ty := .int) (C := Rn_P) (T := Fn_P) (N := 3) (host := nh_) hx hb hts in_P Tn_P to_P nn_P hown hK hP (wd_D hJ) hS 23 rfl rfl 2 (by decide) (va_Nw.use rfl (hN.1 _ nf_2)) (fun _ h9 => h9) rfl (by decide +kernel) rfl rfl (Nat.le_of_ble_eq_true rfl) dc_S_changeCount_17 (fun H locs hP _ hS => ?_)
  obtain ⟨st102, est102⟩ : ∃ z : St_, z = ws_1 st101 20 0 ((st101 20 0) + x2) := ⟨_, rfl⟩
  have hP : va_P D sC_ (wd_ ad cA w st102) H := by rw [est102]; exact hP
  have h := h st102 est102
  exact w_vret hx hb hr hlocks hP hS h dc_S_changeCount_20
