set_option maxHeartbeats 4000000 in
set_option maxRecDepth 100000 in
theorem ct_T_release (l : Launch) (D : va_G) (ad : Nat → Nat) (cA : Nat → ClassId) (w : Nat) (hJ : Jn_ ad) (x1 : Int32) (st : St_) (post : St_ → Prop) (h : wp_T_release w x1 st post) : Met l yn_T_release (Cond.code yn_T_release bc_T_release 2 none :: Wk_) rm_T_release (Pw_ D ad cA w st [.ref (ad 20), .int x1]) (Qv_ D ad cA w post) 0 0 (Aw_ ad) := by
  refine Met.ofW (cc := bc_T_release) (maxL := 2) (ret := none) (by decide) rfl ?_
  intro p e s m args below meth c s₁ B hml hv
  obtain ⟨rfl, hP, hK, hN⟩ := hv
  have hx := B.exec
  have hb := B.bytes
  have hr := B.returns
  have hts : ∀ v ∈ Wk_, v.before [.ref (ad 20), .int x1].toArray s = true := fun v hv => atoms_spec (ws := Cond.code yn_T_release bc_T_release 2 none :: Wk_) B.pre v (List.mem_cons_of_mem _ hv)
  have hown : s.vm.findClass Rn_T = some m.cls := findClass_of_methodNamed B.named
  have hlocks := B.notSynchronized
  have hS : va_S (Aw_ ad) s.heap s.heap [] := va_S.rf
  have hl := lv_entry ([.ref (ad 20), .int x1]) (n := 2) (Nat.le_of_ble_eq_true rfl)
  rw [lg_entry_eq]
  generalize (lg_sl ([.ref (ad 20), .int x1]) ++ List.replicate (2 - (lg_sl ([.ref (ad 20), .int x1])).length) Slot.unset).toArray = ls at hl ⊢
  have hl : lv_has ls 2 [(0, .ref (ad 20)), (1, .int x1)] := hl
  refine lv_aload_n hx hb dc_T_release_0 rfl (lv_at hl 0 rfl) ?_
  refine lv_iload_n hx hb dc_T_release_1 rfl (lv_at hl 1 rfl) ?_
  refine lv_aload_n hx hb dc_T_release_2 rfl (lv_at hl 0 rfl) ?_
  refine va_get (D := D) (ci := 2) (v := .ref (ad 19)) (C := Rn_T) (T := Fn_T) (N := 3) hx hb hts in_T hown hK hP 20 rfl rfl 0 (by decide) (hts _ mw_13) (fun _ h9 => h9) rfl dc_T_release_3 ?_
  refine lv_iload_n hx hb dc_T_release_6 rfl (lv_at hl 1 rfl) ?_
  refine w_cVi (y := yn_B_level) (C := Rn_B) (index := 26) (n := 1) (own := Rn_T) 19 hx hb hml hown hts hK hN hP hS (ct_B_level l D ad cA w hJ x1 st _ h) mw_20 mw_21 mw_22 mw_23 mw_18 (by decide +kernel) ⟨Nat.le_of_ble_eq_true rfl, Nat.le_of_ble_eq_true rfl⟩ rfl rfl rfl rfl rfl hl.1 rfl (lv_room (Nat.le_of_ble_eq_true rfl)) dc_T_release_7 ⟨Nat.zero_le _, Nat.zero_le _⟩ (fun r102 st101 H locs hP hS h => ?_)
  refine w_cVv (y := yn_T_releaseBelow) (C := Rn_T) (index := 111) (n := 2) (own := Rn_T) 20 hx hb hml hown hts hK hN hP hS (ct_T_releaseBelow l D ad cA w hJ 20 x1 r102 st101 _ h) mw_226 mw_227 mw_228 mw_229 mw_59 (by decide +kernel) ⟨Nat.le_of_ble_eq_true rfl, Nat.le_of_ble_eq_true rfl⟩ rfl rfl rfl rfl rfl hl.1 rfl (lv_room (Nat.le_of_ble_eq_true rfl)) dc_T_release_10 ⟨Nat.zero_le _, Nat.zero_le _⟩ (fun st103 H locs hP hS h => ?_)
  exact w_vret hx hb hr hlocks hP hS h dc_T_release_13
