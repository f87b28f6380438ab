-- THE WORLD: 18 arrays (0..17), 7 objects (18..24), all at fixed addresses; the state: what the arrays hold, and three int fields (18, 19, 20)
theorem wd_at {ad : Nat → Nat} {cA : Nat → ClassId} {w : Nat} {st : St_} (k : Nat) (hk : k < 18) : (wd_ ad cA w st)[k]? = some (ad k, .inl (cA k, wl_ w k, .inl (st k))) := by
  have h : k = 0 ∨ k = 1 ∨ k = 2 ∨ k = 3 ∨ k = 4 ∨ k = 5 ∨ k = 6 ∨ k = 7 ∨ k = 8 ∨ k = 9 ∨ k = 10 ∨ k = 11 ∨ k = 12 ∨ k = 13 ∨ k = 14 ∨ k = 15 ∨ k = 16 ∨ k = 17 := by omega
  rcases h with rfl | rfl | rfl | rfl | rfl | rfl | rfl | rfl | rfl | rfl | rfl | rfl | rfl | rfl | rfl | rfl | rfl | rfl <;> rfl
theorem wd_up {ad : Nat → Nat} {cA : Nat → ClassId} {w : Nat} {st : St_} (k : Nat) (hk : k < 18) (v : Nat → Int32) : (wd_ ad cA w st).set k (ad k, .inl (cA k, wl_ w k, .inl v)) = wd_ ad cA w (va_up st k v) := by
  have h : k = 0 ∨ k = 1 ∨ k = 2 ∨ k = 3 ∨ k = 4 ∨ k = 5 ∨ k = 6 ∨ k = 7 ∨ k = 8 ∨ k = 9 ∨ k = 10 ∨ k = 11 ∨ k = 12 ∨ k = 13 ∨ k = 14 ∨ k = 15 ∨ k = 16 ∨ k = 17 := by omega
  rcases h with rfl | rfl | rfl | rfl | rfl | rfl | rfl | rfl | rfl | rfl | rfl | rfl | rfl | rfl | rfl | rfl | rfl | rfl <;> rfl
theorem ty_at {cA : Nat → ClassId} (k : Nat) (hk : k < 18 ∧ k ≠ 9) : (ty_ cA)[k]? = some (cA k, .int) := by
  have h : k = 0 ∨ k = 1 ∨ k = 2 ∨ k = 3 ∨ k = 4 ∨ k = 5 ∨ k = 6 ∨ k = 7 ∨ k = 8 ∨ k = 10 ∨ k = 11 ∨ k = 12 ∨ k = 13 ∨ k = 14 ∨ k = 15 ∨ k = 16 ∨ k = 17 := by omega
  rcases h with rfl | rfl | rfl | rfl | rfl | rfl | rfl | rfl | rfl | rfl | rfl | rfl | rfl | rfl | rfl | rfl | rfl <;> rfl
/-- the cells that a method may change -/
def Aw_ (ad : Nat → Nat) : Nat → Prop := fun q => ∃ k, k < 25 ∧ q = ad k
/-- the addresses are apart -/
def Jn_ (ad : Nat → Nat) : Prop := ∀ i j, i < 25 → j < 25 → ad i = ad j → i = j
theorem wd_ad {ad : Nat → Nat} {cA : Nat → ClassId} {w : Nat} {st : St_} {i : Nat} {p : Nat × va_E} (h : (wd_ ad cA w st)[i]? = some p) : i < 25 ∧ p.1 = ad i := by
  have e : (wd_ ad cA w st).map (fun q => q.1) = (List.range 25).map ad := rfl
  have h1 : ((wd_ ad cA w st).map (fun q => q.1))[i]? = some p.1 := by rw [List.getElem?_map, h]; rfl
  rw [e, List.getElem?_map] at h1
  have hi : i < 25 := by
    by_cases hi : i < 25
    · exact hi
    · rw [List.getElem?_eq_none (by simp; omega)] at h1; cases h1
  rw [List.getElem?_range hi] at h1
  exact ⟨hi, (Option.some.inj h1).symm⟩
theorem wd_D {ad : Nat → Nat} {cA : Nat → ClassId} {w : Nat} {st : St_} (hJ : Jn_ ad) : va_D (Aw_ ad) (wd_ ad cA w st) := by
  refine ⟨fun i j p q hi hj e => ?_, fun k q hk => ?_⟩
  · obtain ⟨i1, e1⟩ := wd_ad hi
    obtain ⟨j1, e2⟩ := wd_ad hj
    exact hJ i j i1 j1 (by rw [← e1, ← e2]; exact e)
  · obtain ⟨i1, e1⟩ := wd_ad hk
    exact ⟨k, i1, e1⟩
/-- the links into private members of nest mates -/
def NW_ (U : State) : Prop := (∀ q ∈ nfl_, va_Nw (.fieldLinkNest q.1 q.2.1 q.2.2.1 q.2.2.2.1 q.2.2.2.2 nh_) U) ∧ (∀ q ∈ nml_, va_Nw (.methodLinkNest q.1 q.2.1 q.2.2 nh_) U)
theorem NW_moved {s U : State} (hW : s.WarmedH U.vm) (h : NW_ s) : NW_ U := ⟨fun q hq => va_Nw.warmF hW (h.1 q hq), fun q hq => va_Nw.warmM hW (h.2 q hq)⟩
theorem NW_same {s U : State} (e : s.vm = U.vm) (h : NW_ s) : NW_ U := ⟨fun q hq => va_Nw.same rfl e (h.1 q hq), fun q hq => va_Nw.same rfl e (h.2 q hq)⟩
abbrev Pw_ (D : va_G) (ad : Nat → Nat) (cA : Nat → ClassId) (w : Nat) (st : St_) (av : List Value) : Array Value → State → Prop := va_Pc av (fun U => va_P D sC_ (wd_ ad cA w st) U.heap ∧ va_K D sC_ (ty_ cA) U ∧ NW_ U)
abbrev Qi_ (D : va_G) (ad : Nat → Nat) (cA : Nat → ClassId) (w : Nat) (post : Int32 → St_ → Prop) : Array Value → State → Outcome → State → Prop := va_Qi post (fun u t => va_P D sC_ (wd_ ad cA w u) t.heap) (Aw_ ad)
abbrev Qv_ (D : va_G) (ad : Nat → Nat) (cA : Nat → ClassId) (w : Nat) (post : St_ → Prop) : Array Value → State → Outcome → State → Prop := va_Qv post (fun u t => va_P D sC_ (wd_ ad cA w u) t.heap) (Aw_ ad)
theorem fb_ {D : va_G} {ad : Nat → Nat} {cA : Nat → ClassId} {w : Nat} {st : St_} {av : List Value} : FrameBlind (Pw_ D ad cA w st av) := fun a U g mk q => by
  obtain ⟨q0, qP, qK, qN⟩ := q
  exact ⟨q0, qP, va_K.moved (u := U) (U := U.calling g mk a) (Vm.Alike.refl U.vm) qK, NW_same (s := U) (U := U.calling g mk a) rfl qN⟩
section WR
variable {p : Program} {l : Launch} {e : Env} {R : Room} {s : State} {m : MethodId} {args : Array Value} {below : List Frame} {meth : Method} {c : Code} {H H0 : Heap} {locs : List Loc} {cells slots : Nat} {Q : State → Prop}
variable {cc : ByteArray} {pc : Nat} {ls : Array Slot} {rest : List Value} {D : va_G} {ad : Nat → Nat} {cA : Nat → ClassId} {w : Nat} {st : St_}
theorem w_ild (k : Nat) (hk : k < 18 ∧ k ≠ 9) (hx : p.tables.exec = Jvm.exec) (hb : c.code = cc) (hK : va_K D sC_ (ty_ cA) s) (hP : va_P D sC_ (wd_ ad cA w st) H) {i : Int32} (hin : vp_in i (wl_ w k)) (hdg : decode cc pc = .ok (.iaload, 1))
    (kk : W p l e R s m args below meth c H locs cells slots Q (F0 m (pc + 1) ls (.int (st k i.toNatClampNeg) :: rest))) : W p l e R s m args below meth c H locs cells slots Q (F0 m pc ls (.int i :: .ref (ad k) :: rest)) :=
  va_iald hx hb hK hP k k (wd_at k hk.1) (ty_at k hk) hin hdg kk
theorem w_zld (hx : p.tables.exec = Jvm.exec) (hb : c.code = cc) (hK : va_K D sC_ (ty_ cA) s) (hP : va_P D sC_ (wd_ ad cA w st) H) {i : Int32} (hin : vp_in i 1201) (hdg : decode cc pc = .ok (.baload, 1))
    (kk : W p l e R s m args below meth c H locs cells slots Q (F0 m (pc + 1) ls (.int (st 9 i.toNatClampNeg) :: rest))) : W p l e R s m args below meth c H locs cells slots Q (F0 m pc ls (.int i :: .ref (ad 9) :: rest)) :=
  va_zald hx hb hK hP 9 9 (wd_at 9 (by decide)) rfl hin hdg kk
theorem w_ist (k : Nat) (hk : k < 18 ∧ k ≠ 9) (hJ : Jn_ ad) (hx : p.tables.exec = Jvm.exec) (hb : c.code = cc) (hK : va_K D sC_ (ty_ cA) s) (hP : va_P D sC_ (wd_ ad cA w st) H) (hS : va_S (Aw_ ad) H0 H locs) {i x : Int32} (hin : vp_in i (wl_ w k)) (hdg : decode cc pc = .ok (.iastore, 1))
    (kk : ∀ (H1 : Heap) (locs1 : List Loc), va_P D sC_ (wd_ ad cA w (ws_1 st k i.toNatClampNeg x)) H1 → va_S (Aw_ ad) H0 H1 locs1 → W p l e R s m args below meth c H1 locs1 cells slots Q (F0 m (pc + 1) ls rest)) : W p l e R s m args below meth c H locs cells slots Q (F0 m pc ls (.int x :: .int i :: .ref (ad k) :: rest)) :=
  va_iast hx hb hK hP (wd_D hJ) hS k k (wd_at k hk.1) (ty_at k hk) hin hdg (fun H1 locs1 hP1 _ hS1 => kk H1 locs1 (by rw [wd_up k hk.1] at hP1; exact hP1) hS1)
theorem w_zst (hJ : Jn_ ad) (hx : p.tables.exec = Jvm.exec) (hb : c.code = cc) (hK : va_K D sC_ (ty_ cA) s) (hP : va_P D sC_ (wd_ ad cA w st) H) (hS : va_S (Aw_ ad) H0 H locs) {i x : Int32} (hin : vp_in i 1201) (hdg : decode cc pc = .ok (.bastore, 1))
    (kk : ∀ (H1 : Heap) (locs1 : List Loc), va_P D sC_ (wd_ ad cA w (ws_1 st 9 i.toNatClampNeg (vp_nar .boolean x))) H1 → va_S (Aw_ ad) H0 H1 locs1 → W p l e R s m args below meth c H1 locs1 cells slots Q (F0 m (pc + 1) ls rest)) : W p l e R s m args below meth c H locs cells slots Q (F0 m pc ls (.int x :: .int i :: .ref (ad 9) :: rest)) :=
  va_zast hx hb hK hP (wd_D hJ) hS 9 9 (wd_at 9 (by decide)) rfl hin hdg (fun H1 locs1 hP1 _ hS1 => kk H1 locs1 (by
    have e := wd_up (ad := ad) (cA := cA) (w := w) (st := st) 9 (by decide) (upd (st 9) i.toNatClampNeg (vp_nar .boolean x))
    have hP2 : va_P D sC_ ((wd_ ad cA w st).set 9 (ad 9, .inl (cA 9, wl_ w 9, .inl (upd (st 9) i.toNatClampNeg (vp_nar .boolean x))))) H1 := hP1
    rw [e] at hP2; exact hP2) hS1)
theorem w_cpy (k j : Nat) (hk : k < 18 ∧ k ≠ 9) (hj : j < 18 ∧ j ≠ 9) (hJ : Jn_ ad) (hx : p.tables.exec = Jvm.exec) (hb : c.code = cc) (hml : c.maxLocals = ls.size) {own : String} {index : Nat} (hown : s.vm.findClass own = some m.cls) (hlink : (Cond.methodLink own index arraycopyName).before args s = true) (hnat : (Cond.native arraycopyName).before args s = true) (hstat : (Cond.static arraycopyName).before args s = true) (hini : (Cond.initialized "java/lang/System").before args s = true)
    (hK : va_K D sC_ (ty_ cA) s) (hP : va_P D sC_ (wd_ ad cA w st) H) (hS : va_S (Aw_ ad) H0 H locs) {sp dp n : Int32} (hc : ¬ sp < 0 ∧ ¬ dp < 0 ∧ ¬ n < 0 ∧ sp.toNatClampNeg + n.toNatClampNeg ≤ wl_ w k ∧ dp.toNatClampNeg + n.toNatClampNeg ≤ wl_ w j)
    (hframes : 1 ≤ R.frames) (hlocals : (rest.map fun v => v.category).sum + (nativeFrameWords "java/lang/System" "arraycopy" 5 + 11) ≤ R.locals) (hdg : decode cc pc = .ok (.invokestatic index, 3))
    (kk : ∀ (H1 : Heap) (locs1 : List Loc), va_P D sC_ (wd_ ad cA w (ws_c st k j sp.toNatClampNeg dp.toNatClampNeg n.toNatClampNeg)) H1 → va_S (Aw_ ad) H0 H1 locs1 → W p l e R s m args below meth c H1 locs1 cells slots Q (F0 m (pc + 3) ls rest)) : W p l e R s m args below meth c H locs cells slots Q (F0 m pc ls (.int n :: .int dp :: .ref (ad j) :: .int sp :: .ref (ad k) :: rest)) :=
  va_copyi hx hb hml hown hlink hnat hstat hini hK hP (wd_D hJ) hS k j k j (ty := .int) (wd_at k hk.1) (wd_at j hj.1) (ty_at k hk) (ty_at j hj) rfl hc.1 hc.2.1 hc.2.2.1 hc.2.2.2.1 hc.2.2.2.2 (fun i _ => rfl) hframes hlocals hdg (fun H1 locs1 hP1 _ hS1 => kk H1 locs1 (by rw [wd_up j hj.1] at hP1; exact hP1) hS1)
theorem w_iret (hx : p.tables.exec = Jvm.exec) (hb : c.code = cc) (hr : meth.sig.returnType = some .int) (hlocks : meth.locks = false) (hP : va_P D sC_ (wd_ ad cA w st) H) (hS : va_S (Aw_ ad) s.heap H locs) {v : Int32} {post : Int32 → St_ → Prop} (h : post v st) (hdg : decode cc pc = .ok (.ireturn, 1)) :
    W p l e R s m args below meth c H locs 0 0 (MQ below (Qi_ D ad cA w post) args s 0 0 (Aw_ ad)) (F0 m pc ls [.int v]) :=
  W.iret (v := v) hx hb hr (fun t ht _ => ⟨⟨v, st, rfl, h, by show va_P D sC_ (wd_ ad cA w st) t.heap; rw [ht]; exact hP⟩, hS.F ht⟩) hS.2.2 hdg hlocks
theorem w_zret (hx : p.tables.exec = Jvm.exec) (hb : c.code = cc) (hr : meth.sig.returnType = some .boolean) {v : Int32} (hn : narrow .boolean (.int v) = .int v) (hlocks : meth.locks = false) (hP : va_P D sC_ (wd_ ad cA w st) H) (hS : va_S (Aw_ ad) s.heap H locs) {post : Int32 → St_ → Prop} (h : post v st) (hdg : decode cc pc = .ok (.ireturn, 1)) :
    W p l e R s m args below meth c H locs 0 0 (MQ below (Qi_ D ad cA w post) args s 0 0 (Aw_ ad)) (F0 m pc ls [.int v]) :=
  W.zret (v := v) hx hb hr hn (fun t ht _ => ⟨⟨v, st, rfl, h, by show va_P D sC_ (wd_ ad cA w st) t.heap; rw [ht]; exact hP⟩, hS.F ht⟩) hS.2.2 hdg hlocks
theorem w_vret (hx : p.tables.exec = Jvm.exec) (hb : c.code = cc) (hr : meth.sig.returnType = none) (hlocks : meth.locks = false) (hP : va_P D sC_ (wd_ ad cA w st) H) (hS : va_S (Aw_ ad) s.heap H locs) {post : St_ → Prop} (h : post st) (hdg : decode cc pc = .ok (.return_, 1)) :
    W p l e R s m args below meth c H locs 0 0 (MQ below (Qv_ D ad cA w post) args s 0 0 (Aw_ ad)) (F0 m pc ls []) :=
  W.vret hx hb hr (fun t ht _ => ⟨⟨st, rfl, h, by show va_P D sC_ (wd_ ad cA w st) t.heap; rw [ht]; exact hP⟩, hS.F ht⟩) hS.2.2 hdg hlocks
variable {y : MethodName} {bytes : ByteArray} {maxL nL index n ci N : Nat} {ret : Option FieldType} {rm : Room} {own C host : String} {As stk : List Value} {fs : List Value} {T : u_T}
theorem wk_in {v : Cond} (hv : v ∈ Wk_) : GoodIn Wk_ (v :: Wk_) := fun q hq => by
  rcases List.mem_cons.mp hq with rfl | h
  · exact ⟨hv, wk_good _ hv⟩
  · exact ⟨h, wk_good _ h⟩
theorem w_runV (qb : Nat) {Qc : Array Value → State → Outcome → State → Prop} (hx : p.tables.exec = Jvm.exec) (hb : c.code = cc) (hml : c.maxLocals = nL) (hown : s.vm.findClass own = some m.cls) (hts : ∀ v ∈ Wk_, v.before args s = true) (hK : va_K D sC_ (ty_ cA) s) (hN : NW_ s) (hP : va_P D sC_ (wd_ ad cA w st) H)
    (hM : Met l y (Cond.code y bytes maxL ret :: Wk_) rm (Pw_ D ad cA w st (.ref (ad qb) :: As)) Qc 0 0 (Aw_ ad)) (hcode : Cond.code y bytes maxL ret ∈ Wk_) (hlink : Cond.methodLink own index y ∈ Wk_) (hinst : Cond.instanceMethod y ∈ Wk_) (hsel : Cond.selects C y y ∈ Wk_) (hini : Cond.initialized C ∈ Wk_)
    (hd : y.cls = C ∧ y.cls ≠ "java/lang/invoke/MethodHandle" ∧ y.cls ≠ "java/lang/invoke/VarHandle" ∧ (parseMethodDescriptor y.desc).map (fun d => d.parameters.length) = some n) (hR : rm.frames + 1 ≤ R.frames ∧ 8 + (maxL + 11) + rm.locals ≤ R.locals) (hrc : rm.cells = 0) (hrs : rm.slots = 0)
    (hob : (wd_ ad cA w st)[qb]? = some (ad qb, .inr (ci, fs))) (hcl : sC_[ci]? = some (C, T, N)) (hn : As.length = n) (hsize : ls.size = nL) (hstk : stk = As.reverse ++ .ref (ad qb) :: rest) (hW : 2 * (F0 m pc ls stk).monitorRoom + (rest.map fun v => v.category).sum ≤ 8) (hdg : decode cc pc = .ok (.invokevirtual index, 3)) (hf : cells + 0 ≤ R.cells ∧ slots + 0 ≤ R.slots) :
    va_Run p l e R s m args below meth c H locs cells slots 0 0 (F0 m pc ls stk) rest (Qc (Value.ref (ad qb) :: As).toArray) (Aw_ ad) := by
  have hG : GoodIn Wk_ (wsV own index C y (Cond.code y bytes maxL ret :: Wk_)) := by
    intro q hq
    have h1 : q ∈ Wk_ := by
      simp only [wsV, List.mem_append, List.mem_cons, List.not_mem_nil, or_false] at hq
      rcases hq with (rfl | rfl | rfl | rfl) | rfl | h
      · exact hlink
      · exact hinst
      · exact hsel
      · exact hini
      · exact hcode
      · exact h
    exact ⟨h1, wk_good _ h1⟩
  exact va_runV (As := As) (rest := rest) ⟨hx, hb, hml, hown, hts⟩ hM (cwV n hts hG rfl hrc hrs hd hR) ⟨fb_, va_recv (q := (C, T, N)) hK hP hcl hob, fun U hU hW => ⟨rfl, by rw [hU]; exact hP, va_K.moved hW.alike hK, NW_moved hW hN⟩⟩ rfl hn hsize hstk hW hdg hf
theorem w_cVi (qb : Nat) {post : Int32 → St_ → Prop} (hx : p.tables.exec = Jvm.exec) (hb : c.code = cc) (hml : c.maxLocals = nL) (hown : s.vm.findClass own = some m.cls) (hts : ∀ v ∈ Wk_, v.before args s = true) (hK : va_K D sC_ (ty_ cA) s) (hN : NW_ s) (hP : va_P D sC_ (wd_ ad cA w st) H) (hS : va_S (Aw_ ad) H0 H locs)
    (hM : Met l y (Cond.code y bytes maxL ret :: Wk_) rm (Pw_ D ad cA w st (.ref (ad qb) :: As)) (Qi_ D ad cA w post) 0 0 (Aw_ ad)) (hcode : Cond.code y bytes maxL ret ∈ Wk_) (hlink : Cond.methodLink own index y ∈ Wk_) (hinst : Cond.instanceMethod y ∈ Wk_) (hsel : Cond.selects C y y ∈ Wk_) (hini : Cond.initialized C ∈ Wk_)
    (hd : y.cls = C ∧ y.cls ≠ "java/lang/invoke/MethodHandle" ∧ y.cls ≠ "java/lang/invoke/VarHandle" ∧ (parseMethodDescriptor y.desc).map (fun d => d.parameters.length) = some n) (hR : rm.frames + 1 ≤ R.frames ∧ 8 + (maxL + 11) + rm.locals ≤ R.locals) (hrc : rm.cells = 0) (hrs : rm.slots = 0)
    (hob : (wd_ ad cA w st)[qb]? = some (ad qb, .inr (ci, fs))) (hcl : sC_[ci]? = some (C, T, N)) (hn : As.length = n) (hsize : ls.size = nL) (hstk : stk = As.reverse ++ .ref (ad qb) :: rest) (hW : 2 * (F0 m pc ls stk).monitorRoom + (rest.map fun v => v.category).sum ≤ 8) (hdg : decode cc pc = .ok (.invokevirtual index, 3)) (hf : cells + 0 ≤ R.cells ∧ slots + 0 ≤ R.slots)
    (kk : ∀ (r : Int32) (u : St_) (H1 : Heap) (locs1 : List Loc), va_P D sC_ (wd_ ad cA w u) H1 → va_S (Aw_ ad) H0 H1 locs1 → post r u → W p l e R s m args below meth c H1 locs1 cells slots Q (F0 m (pc + 3) ls (.int r :: rest))) : W p l e R s m args below meth c H locs cells slots Q (F0 m pc ls stk) :=
  va_calli (w_runV qb hx hb hml hown hts hK hN hP hM hcode hlink hinst hsel hini hd hR hrc hrs hob hcl hn hsize hstk hW hdg hf) hS (fun q _ h => h) (fun q h => h) (fun r u t H1 locs1 ht _ hw hB _ _ hS1 => kk r u H1 locs1 (by rw [← ht]; exact hB) hS1 hw)
theorem w_cVv (qb : Nat) {post : St_ → Prop} (hx : p.tables.exec = Jvm.exec) (hb : c.code = cc) (hml : c.maxLocals = nL) (hown : s.vm.findClass own = some m.cls) (hts : ∀ v ∈ Wk_, v.before args s = true) (hK : va_K D sC_ (ty_ cA) s) (hN : NW_ s) (hP : va_P D sC_ (wd_ ad cA w st) H) (hS : va_S (Aw_ ad) H0 H locs)
    (hM : Met l y (Cond.code y bytes maxL ret :: Wk_) rm (Pw_ D ad cA w st (.ref (ad qb) :: As)) (Qv_ D ad cA w post) 0 0 (Aw_ ad)) (hcode : Cond.code y bytes maxL ret ∈ Wk_) (hlink : Cond.methodLink own index y ∈ Wk_) (hinst : Cond.instanceMethod y ∈ Wk_) (hsel : Cond.selects C y y ∈ Wk_) (hini : Cond.initialized C ∈ Wk_)
    (hd : y.cls = C ∧ y.cls ≠ "java/lang/invoke/MethodHandle" ∧ y.cls ≠ "java/lang/invoke/VarHandle" ∧ (parseMethodDescriptor y.desc).map (fun d => d.parameters.length) = some n) (hR : rm.frames + 1 ≤ R.frames ∧ 8 + (maxL + 11) + rm.locals ≤ R.locals) (hrc : rm.cells = 0) (hrs : rm.slots = 0)
    (hob : (wd_ ad cA w st)[qb]? = some (ad qb, .inr (ci, fs))) (hcl : sC_[ci]? = some (C, T, N)) (hn : As.length = n) (hsize : ls.size = nL) (hstk : stk = As.reverse ++ .ref (ad qb) :: rest) (hW : 2 * (F0 m pc ls stk).monitorRoom + (rest.map fun v => v.category).sum ≤ 8) (hdg : decode cc pc = .ok (.invokevirtual index, 3)) (hf : cells + 0 ≤ R.cells ∧ slots + 0 ≤ R.slots)
    (kk : ∀ (u : St_) (H1 : Heap) (locs1 : List Loc), va_P D sC_ (wd_ ad cA w u) H1 → va_S (Aw_ ad) H0 H1 locs1 → post u → W p l e R s m args below meth c H1 locs1 cells slots Q (F0 m (pc + 3) ls rest)) : W p l e R s m args below meth c H locs cells slots Q (F0 m pc ls stk) :=
  va_callv (w_runV qb hx hb hml hown hts hK hN hP hM hcode hlink hinst hsel hini hd hR hrc hrs hob hcl hn hsize hstk hW hdg hf) hS (fun q _ h => h) (fun q h => h) (fun u t H1 locs1 ht _ hw hB _ _ hS1 => kk u H1 locs1 (by rw [← ht]; exact hB) hS1 hw)
theorem w_cSi {post : Int32 → St_ → Prop} (hx : p.tables.exec = Jvm.exec) (hb : c.code = cc) (hml : c.maxLocals = nL) (hown : s.vm.findClass own = some m.cls) (hts : ∀ v ∈ Wk_, v.before args s = true) (hK : va_K D sC_ (ty_ cA) s) (hN : NW_ s) (hP : va_P D sC_ (wd_ ad cA w st) H) (hS : va_S (Aw_ ad) H0 H locs)
    (hM : Met l y (Cond.code y bytes maxL ret :: Wk_) rm (Pw_ D ad cA w st As) (Qi_ D ad cA w post) 0 0 (Aw_ ad)) (hcode : Cond.code y bytes maxL ret ∈ Wk_) (hlink : Cond.methodLink own index y ∈ Wk_) (hstat : Cond.static y ∈ Wk_) (hini : Cond.initialized own ∈ Wk_)
    (hd : y.cls = own ∧ y.cls ≠ "java/lang/invoke/MethodHandle" ∧ y.cls ≠ "java/lang/invoke/VarHandle" ∧ (parseMethodDescriptor y.desc).map (fun d => d.parameters.length) = some n) (hR : rm.frames + 1 ≤ R.frames ∧ 8 + (maxL + 11) + rm.locals ≤ R.locals) (hrc : rm.cells = 0) (hrs : rm.slots = 0)
    (hn : As.length = n) (hsize : ls.size = nL) (hstk : stk = As.reverse ++ rest) (hW : 2 * (F0 m pc ls stk).monitorRoom + (rest.map fun v => v.category).sum ≤ 8) (hdg : decode cc pc = .ok (.invokestatic index, 3)) (hf : cells + 0 ≤ R.cells ∧ slots + 0 ≤ R.slots)
    (kk : ∀ (r : Int32) (u : St_) (H1 : Heap) (locs1 : List Loc), va_P D sC_ (wd_ ad cA w u) H1 → va_S (Aw_ ad) H0 H1 locs1 → post r u → W p l e R s m args below meth c H1 locs1 cells slots Q (F0 m (pc + 3) ls (.int r :: rest))) : W p l e R s m args below meth c H locs cells slots Q (F0 m pc ls stk) := by
  have hG : GoodIn Wk_ (wsS own index y (Cond.code y bytes maxL ret :: Wk_)) := by
    intro q hq
    have h1 : q ∈ Wk_ := by
      simp only [wsS, List.mem_append, List.mem_cons, List.not_mem_nil, or_false] at hq
      rcases hq with (rfl | rfl | rfl) | rfl | h
      · exact hlink
      · exact hstat
      · exact hini
      · exact hcode
      · exact h
    exact ⟨h1, wk_good _ h1⟩
  exact va_calli (va_runS (As := As) (rest := rest) ⟨hx, hb, hml, hown, hts⟩ hM (cwS n hts hG rfl hrc hrs hd hR) ⟨fb_, fun U hU hW => ⟨rfl, by rw [hU]; exact hP, va_K.moved hW.alike hK, NW_moved hW hN⟩⟩ rfl hn hsize hstk hW hdg hf) hS (fun q _ h => h) (fun q h => h) (fun r u t H1 locs1 ht _ hw hB _ _ hS1 => kk r u H1 locs1 (by rw [← ht]; exact hB) hS1 hw)
theorem w_cSv {post : St_ → Prop} (hx : p.tables.exec = Jvm.exec) (hb : c.code = cc) (hml : c.maxLocals = nL) (hown : s.vm.findClass own = some m.cls) (hts : ∀ v ∈ Wk_, v.before args s = true) (hK : va_K D sC_ (ty_ cA) s) (hN : NW_ s) (hP : va_P D sC_ (wd_ ad cA w st) H) (hS : va_S (Aw_ ad) H0 H locs)
    (hM : Met l y (Cond.code y bytes maxL ret :: Wk_) rm (Pw_ D ad cA w st As) (Qv_ D ad cA w post) 0 0 (Aw_ ad)) (hcode : Cond.code y bytes maxL ret ∈ Wk_) (hlink : Cond.methodLink own index y ∈ Wk_) (hstat : Cond.static y ∈ Wk_) (hini : Cond.initialized own ∈ Wk_)
    (hd : y.cls = own ∧ y.cls ≠ "java/lang/invoke/MethodHandle" ∧ y.cls ≠ "java/lang/invoke/VarHandle" ∧ (parseMethodDescriptor y.desc).map (fun d => d.parameters.length) = some n) (hR : rm.frames + 1 ≤ R.frames ∧ 8 + (maxL + 11) + rm.locals ≤ R.locals) (hrc : rm.cells = 0) (hrs : rm.slots = 0)
    (hn : As.length = n) (hsize : ls.size = nL) (hstk : stk = As.reverse ++ rest) (hW : 2 * (F0 m pc ls stk).monitorRoom + (rest.map fun v => v.category).sum ≤ 8) (hdg : decode cc pc = .ok (.invokestatic index, 3)) (hf : cells + 0 ≤ R.cells ∧ slots + 0 ≤ R.slots)
    (kk : ∀ (u : St_) (H1 : Heap) (locs1 : List Loc), va_P D sC_ (wd_ ad cA w u) H1 → va_S (Aw_ ad) H0 H1 locs1 → post u → W p l e R s m args below meth c H1 locs1 cells slots Q (F0 m (pc + 3) ls rest)) : W p l e R s m args below meth c H locs cells slots Q (F0 m pc ls stk) := by
  have hG : GoodIn Wk_ (wsS own index y (Cond.code y bytes maxL ret :: Wk_)) := by
    intro q hq
    have h1 : q ∈ Wk_ := by
      simp only [wsS, List.mem_append, List.mem_cons, List.not_mem_nil, or_false] at hq
      rcases hq with (rfl | rfl | rfl) | rfl | h
      · exact hlink
      · exact hstat
      · exact hini
      · exact hcode
      · exact h
    exact ⟨h1, wk_good _ h1⟩
  exact va_callv (va_runS (As := As) (rest := rest) ⟨hx, hb, hml, hown, hts⟩ hM (cwS n hts hG rfl hrc hrs hd hR) ⟨fb_, fun U hU hW => ⟨rfl, by rw [hU]; exact hP, va_K.moved hW.alike hK, NW_moved hW hN⟩⟩ rfl hn hsize hstk hW hdg hf) hS (fun q _ h => h) (fun q h => h) (fun u t H1 locs1 ht _ hw hB _ _ hS1 => kk u H1 locs1 (by rw [← ht]; exact hB) hS1 hw)
theorem w_cNi {post : Int32 → St_ → Prop} (hx : p.tables.exec = Jvm.exec) (hb : c.code = cc) (hml : c.maxLocals = nL) (hown : s.vm.findClass own = some m.cls) (hts : ∀ v ∈ Wk_, v.before args s = true) (hK : va_K D sC_ (ty_ cA) s) (hN : NW_ s) (hP : va_P D sC_ (wd_ ad cA w st) H) (hS : va_S (Aw_ ad) H0 H locs)
    (hM : Met l y (Cond.code y bytes maxL ret :: Wk_) rm (Pw_ D ad cA w st As) (Qi_ D ad cA w post) 0 0 (Aw_ ad)) (hcode : Cond.code y bytes maxL ret ∈ Wk_) (hlink : va_Nw (.methodLinkNest own index y host) s) (hstat : Cond.static y ∈ Wk_) (hini : Cond.initialized y.cls ∈ Wk_)
    (hd : y.cls ≠ "java/lang/invoke/MethodHandle" ∧ y.cls ≠ "java/lang/invoke/VarHandle" ∧ (parseMethodDescriptor y.desc).map (fun d => d.parameters.length) = some n) (hR : rm.frames + 1 ≤ R.frames ∧ 8 + (maxL + 11) + rm.locals ≤ R.locals) (hrc : rm.cells = 0) (hrs : rm.slots = 0)
    (hn : As.length = n) (hsize : ls.size = nL) (hstk : stk = As.reverse ++ rest) (hW : 2 * (F0 m pc ls stk).monitorRoom + (rest.map fun v => v.category).sum ≤ 8) (hdg : decode cc pc = .ok (.invokestatic index, 3)) (hf : cells + 0 ≤ R.cells ∧ slots + 0 ≤ R.slots)
    (kk : ∀ (r : Int32) (u : St_) (H1 : Heap) (locs1 : List Loc), va_P D sC_ (wd_ ad cA w u) H1 → va_S (Aw_ ad) H0 H1 locs1 → post r u → W p l e R s m args below meth c H1 locs1 cells slots Q (F0 m (pc + 3) ls (.int r :: rest))) : W p l e R s m args below meth c H locs cells slots Q (F0 m pc ls stk) :=
  va_calli (va_runSN (As := As) (rest := rest) ⟨hx, hb, hml, hown, hts⟩ hM ⟨va_cnB n hts (wk_in hcode) rfl hrc hrs hlink (hts _ hini) hd hR, hts _ hstat, trivial⟩ ⟨fb_, fun U hU hW => ⟨rfl, by rw [hU]; exact hP, va_K.moved hW.alike hK, NW_moved hW hN⟩⟩ rfl hn hsize hstk hW hdg hf) hS (fun q _ h => h) (fun q h => h) (fun r u t H1 locs1 ht _ hw hB _ _ hS1 => kk r u H1 locs1 (by rw [← ht]; exact hB) hS1 hw)
end WR
