-- the law: its words, its rows
/-! THE CLAIM OUT OF ONE WALK OF THE LAW'S BODY. Your part is whole_start (and what it stands on); all else here is the same for every law, but numbers. -/
def R_law : String := "SharedTreesLaw"
def lw_P (b : Addr) (xs : List Int32) (args : Array Value) (s : State) : Prop := args = #[.ref b] ∧ s.IntsAt b xs ∧ xs.length ≤ 3073 ∧ (Jvm.Cond.and given_1 narrow_1).before args s = true
def lw_Q (_ : Array Value) (s : State) (o : Outcome) (t : State) : Prop := o = .returned (some (.int 1)) ∧ Framed s o t [] 600000 7302250
def lw_Z (below : List Frame) (a : Array Value) (s : State) : State → Prop := fun t => ∃ o, t.status = .running ∧ Ended t below o ∧ lw_Q a s o t
/-- the law's own end, with 1 on the stack, nothing written that was there before, its room as the claim has it -/
theorem lw_ret {p : Program} {l : Launch} {e : Env} {s : State} {m : MethodId} {below : List Frame} {meth : Method} {c : Code} {b : Nat} (hx : p.tables.exec = Jvm.exec) (hb : c.code = code) (hr : meth.sig.returnType = ret) (hlocks : meth.locks = false) {pc : Nat} {H : Heap} {ls : Array Slot} (hdg : decode code pc = .ok (.ireturn, 1)) : W p l e room_1 s m #[Value.ref b] below meth c H [] 600000 7302250 (lw_Z below #[Value.ref b] s) (F0 m pc ls [.int 1]) := by
  intro T hT X
  obtain ⟨fs, hret, hrun, hended, hW, hframe⟩ := X.leave (v := some (.int 1)) (hlocks := hlocks) (fun h => by rw [hr] at h; cases h)
  have hmeth' : T.vm.method? m = some meth := X.method'
  refine ⟨T.setFrames fs, ?_, .returned (some (.int 1)), hrun, hended, rfl, ⟨_, rfl⟩, hW, hframe⟩
  jvm_step X.here [X.here.top, hx, hb, hdg, hmeth', hr, ret, narrow_b1]
  (try refine ⟨rfl, ?_⟩); (try refine ⟨rfl, ?_⟩)
  first | (intro acts; rw [hret _ acts rfl rfl rfl]) | rw [hret _ _ rfl rfl rfl]
  exact Steps.refl _
/-- what holds at the law's entry: the machine, the code, the tables' words (any of lw_tbl by 'hts w (by decide +kernel)'), the script of L ints xs at the cell b, what the Statement gives of the start (any of its parts by flat_of_before) -/
def lw_At (p : Program) (s : State) (m : MethodId) (meth : Method) (c : Code) (b L : Nat) (xs : Nat → Int32) : Prop :=
  p.tables.exec = Jvm.exec ∧ c.code = code ∧ meth.sig.returnType = ret ∧ c.maxLocals = 4 ∧ s.vm.findClass R_law = some m.cls ∧ (∀ w ∈ lw_tbl, w.before #[Value.ref b] s = true) ∧ va_X b L xs s s.heap ∧ b < s.heap.size ∧ meth.locks = false ∧ (Jvm.Cond.and given_1 narrow_1).before #[Value.ref b] s = true
def Wl_ : List Cond := [.methodLink Rn_L 21 yn_S_write,
  .instanceMethod yn_S_write,
  .selects Rn_S yn_S_write yn_S_write,
  .code yn_S_write bc_S_write 5 (some .int),
  .methodLink Rn_L 26 yn_S_spread,
  .instanceMethod yn_S_spread,
  .selects Rn_S yn_S_spread yn_S_spread,
  .code yn_S_spread bc_S_spread 7 (some .int),
  .methodLink Rn_L 31 yn_S_read,
  .instanceMethod yn_S_read,
  .selects Rn_S yn_S_read yn_S_read,
  .code yn_S_read bc_S_read 3 (some .int),
  .methodLink Rn_L 36 yn_S_erase,
  .instanceMethod yn_S_erase,
  .selects Rn_S yn_S_erase yn_S_erase,
  .code yn_S_erase bc_S_erase 4 (some .int),
  .methodLink Rn_L 40 yn_S_cut,
  .instanceMethod yn_S_cut,
  .selects Rn_S yn_S_cut yn_S_cut,
  .code yn_S_cut bc_S_cut 6 (some .int),
  .methodLink Rn_L 44 yn_S_next,
  .instanceMethod yn_S_next,
  .selects Rn_S yn_S_next yn_S_next,
  .code yn_S_next bc_S_next 3 (some .int),
  .methodLink Rn_L 48 yn_S_clone,
  .instanceMethod yn_S_clone,
  .selects Rn_S yn_S_clone yn_S_clone,
  .code yn_S_clone bc_S_clone 3 (some .int),
  .methodLink Rn_L 52 yn_S_drop,
  .instanceMethod yn_S_drop,
  .selects Rn_S yn_S_drop yn_S_drop,
  .code yn_S_drop bc_S_drop 3 (some .int),
  .methodLink Rn_L 57 yn_S_keep,
  .instanceMethod yn_S_keep,
  .selects Rn_S yn_S_keep yn_S_keep,
  .code yn_S_keep bc_S_keep 1 (some .int),
  .methodLink Rn_L 62 yn_S_back,
  .instanceMethod yn_S_back,
  .selects Rn_S yn_S_back yn_S_back,
  .code yn_S_back bc_S_back 1 (some .int),
  .methodLink Rn_L 66 yn_S_keys,
  .instanceMethod yn_S_keys,
  .selects Rn_S yn_S_keys yn_S_keys,
  .code yn_S_keys bc_S_keys 2 (some .int),
  .methodLink Rn_L 70 yn_S_check,
  .instanceMethod yn_S_check,
  .selects Rn_S yn_S_check yn_S_check,
  .code yn_S_check bc_S_check 1 (some .int),
  .initialized Rn_S,
  .methodLink Rn_L 25 yn_R_write,
  .instanceMethod yn_R_write,
  .selects Rn_R yn_R_write yn_R_write,
  .code yn_R_write bc_R_write 5 (some .int),
  .methodLink Rn_L 30 yn_R_spread,
  .instanceMethod yn_R_spread,
  .selects Rn_R yn_R_spread yn_R_spread,
  .code yn_R_spread bc_R_spread 7 (some .int),
  .methodLink Rn_L 35 yn_R_read,
  .instanceMethod yn_R_read,
  .selects Rn_R yn_R_read yn_R_read,
  .code yn_R_read bc_R_read 4 (some .int),
  .methodLink Rn_L 39 yn_R_erase,
  .instanceMethod yn_R_erase,
  .selects Rn_R yn_R_erase yn_R_erase,
  .code yn_R_erase bc_R_erase 4 (some .int),
  .methodLink Rn_L 43 yn_R_cut,
  .instanceMethod yn_R_cut,
  .selects Rn_R yn_R_cut yn_R_cut,
  .code yn_R_cut bc_R_cut 6 (some .int),
  .methodLink Rn_L 47 yn_R_next,
  .instanceMethod yn_R_next,
  .selects Rn_R yn_R_next yn_R_next,
  .code yn_R_next bc_R_next 4 (some .int),
  .methodLink Rn_L 51 yn_R_clone,
  .instanceMethod yn_R_clone,
  .selects Rn_R yn_R_clone yn_R_clone,
  .code yn_R_clone bc_R_clone 4 (some .int),
  .methodLink Rn_L 56 yn_R_drop,
  .instanceMethod yn_R_drop,
  .selects Rn_R yn_R_drop yn_R_drop,
  .code yn_R_drop bc_R_drop 3 (some .int),
  .methodLink Rn_L 61 yn_R_keep,
  .instanceMethod yn_R_keep,
  .selects Rn_R yn_R_keep yn_R_keep,
  .code yn_R_keep bc_R_keep 2 (some .int),
  .methodLink Rn_L 65 yn_R_back,
  .instanceMethod yn_R_back,
  .selects Rn_R yn_R_back yn_R_back,
  .code yn_R_back bc_R_back 2 (some .int),
  .methodLink Rn_L 69 yn_R_keys,
  .instanceMethod yn_R_keys,
  .selects Rn_R yn_R_keys yn_R_keys,
  .code yn_R_keys bc_R_keys 2 (some .int),
  .methodLink Rn_L 73 yn_R_check,
  .instanceMethod yn_R_check,
  .selects Rn_R yn_R_check yn_R_check,
  .code yn_R_check bc_R_check 1 (some .int),
  .initialized Rn_R,
  .classLink Rn_L 7 Rn_S,
  .instantiable Rn_S 5,
  .methodLink Rn_L 15 yn_S_init,
  .instanceMethod yn_S_init,
  .code yn_S_init bc_S_init 3 none,
  .classLink Rn_L 18 Rn_R,
  .instantiable Rn_R 4,
  .methodLink Rn_L 20 yn_R_init,
  .instanceMethod yn_R_init,
  .code yn_R_init bc_R_init 2 none,
  .methodLink Rn_L 9 yn_L_cell,
  .static yn_L_cell,
  .code yn_L_cell bc_L_cell 2 (some .int),
  .initialized Rn_L]
theorem ml_0 : (Cond.methodLink Rn_L 21 yn_S_write : Cond) ∈ Wl_ := List.mem_of_getElem? (i := 0) rfl
theorem ml_1 : (Cond.instanceMethod yn_S_write : Cond) ∈ Wl_ := List.mem_of_getElem? (i := 1) rfl
theorem ml_2 : (Cond.selects Rn_S yn_S_write yn_S_write : Cond) ∈ Wl_ := List.mem_of_getElem? (i := 2) rfl
theorem ml_3 : (Cond.code yn_S_write bc_S_write 5 (some .int) : Cond) ∈ Wl_ := List.mem_of_getElem? (i := 3) rfl
theorem ml_4 : (Cond.methodLink Rn_L 26 yn_S_spread : Cond) ∈ Wl_ := List.mem_of_getElem? (i := 4) rfl
theorem ml_5 : (Cond.instanceMethod yn_S_spread : Cond) ∈ Wl_ := List.mem_of_getElem? (i := 5) rfl
theorem ml_6 : (Cond.selects Rn_S yn_S_spread yn_S_spread : Cond) ∈ Wl_ := List.mem_of_getElem? (i := 6) rfl
theorem ml_7 : (Cond.code yn_S_spread bc_S_spread 7 (some .int) : Cond) ∈ Wl_ := List.mem_of_getElem? (i := 7) rfl
theorem ml_8 : (Cond.methodLink Rn_L 31 yn_S_read : Cond) ∈ Wl_ := List.mem_of_getElem? (i := 8) rfl
theorem ml_9 : (Cond.instanceMethod yn_S_read : Cond) ∈ Wl_ := List.mem_of_getElem? (i := 9) rfl
theorem ml_10 : (Cond.selects Rn_S yn_S_read yn_S_read : Cond) ∈ Wl_ := List.mem_of_getElem? (i := 10) rfl
theorem ml_11 : (Cond.code yn_S_read bc_S_read 3 (some .int) : Cond) ∈ Wl_ := List.mem_of_getElem? (i := 11) rfl
theorem ml_12 : (Cond.methodLink Rn_L 36 yn_S_erase : Cond) ∈ Wl_ := List.mem_of_getElem? (i := 12) rfl
theorem ml_13 : (Cond.instanceMethod yn_S_erase : Cond) ∈ Wl_ := List.mem_of_getElem? (i := 13) rfl
theorem ml_14 : (Cond.selects Rn_S yn_S_erase yn_S_erase : Cond) ∈ Wl_ := List.mem_of_getElem? (i := 14) rfl
theorem ml_15 : (Cond.code yn_S_erase bc_S_erase 4 (some .int) : Cond) ∈ Wl_ := List.mem_of_getElem? (i := 15) rfl
theorem ml_16 : (Cond.methodLink Rn_L 40 yn_S_cut : Cond) ∈ Wl_ := List.mem_of_getElem? (i := 16) rfl
theorem ml_17 : (Cond.instanceMethod yn_S_cut : Cond) ∈ Wl_ := List.mem_of_getElem? (i := 17) rfl
theorem ml_18 : (Cond.selects Rn_S yn_S_cut yn_S_cut : Cond) ∈ Wl_ := List.mem_of_getElem? (i := 18) rfl
theorem ml_19 : (Cond.code yn_S_cut bc_S_cut 6 (some .int) : Cond) ∈ Wl_ := List.mem_of_getElem? (i := 19) rfl
theorem ml_20 : (Cond.methodLink Rn_L 44 yn_S_next : Cond) ∈ Wl_ := List.mem_of_getElem? (i := 20) rfl
theorem ml_21 : (Cond.instanceMethod yn_S_next : Cond) ∈ Wl_ := List.mem_of_getElem? (i := 21) rfl
theorem ml_22 : (Cond.selects Rn_S yn_S_next yn_S_next : Cond) ∈ Wl_ := List.mem_of_getElem? (i := 22) rfl
theorem ml_23 : (Cond.code yn_S_next bc_S_next 3 (some .int) : Cond) ∈ Wl_ := List.mem_of_getElem? (i := 23) rfl
theorem ml_24 : (Cond.methodLink Rn_L 48 yn_S_clone : Cond) ∈ Wl_ := List.mem_of_getElem? (i := 24) rfl
theorem ml_25 : (Cond.instanceMethod yn_S_clone : Cond) ∈ Wl_ := List.mem_of_getElem? (i := 25) rfl
theorem ml_26 : (Cond.selects Rn_S yn_S_clone yn_S_clone : Cond) ∈ Wl_ := List.mem_of_getElem? (i := 26) rfl
theorem ml_27 : (Cond.code yn_S_clone bc_S_clone 3 (some .int) : Cond) ∈ Wl_ := List.mem_of_getElem? (i := 27) rfl
theorem ml_28 : (Cond.methodLink Rn_L 52 yn_S_drop : Cond) ∈ Wl_ := List.mem_of_getElem? (i := 28) rfl
theorem ml_29 : (Cond.instanceMethod yn_S_drop : Cond) ∈ Wl_ := List.mem_of_getElem? (i := 29) rfl
theorem ml_30 : (Cond.selects Rn_S yn_S_drop yn_S_drop : Cond) ∈ Wl_ := List.mem_of_getElem? (i := 30) rfl
theorem ml_31 : (Cond.code yn_S_drop bc_S_drop 3 (some .int) : Cond) ∈ Wl_ := List.mem_of_getElem? (i := 31) rfl
theorem ml_32 : (Cond.methodLink Rn_L 57 yn_S_keep : Cond) ∈ Wl_ := List.mem_of_getElem? (i := 32) rfl
theorem ml_33 : (Cond.instanceMethod yn_S_keep : Cond) ∈ Wl_ := List.mem_of_getElem? (i := 33) rfl
theorem ml_34 : (Cond.selects Rn_S yn_S_keep yn_S_keep : Cond) ∈ Wl_ := List.mem_of_getElem? (i := 34) rfl
theorem ml_35 : (Cond.code yn_S_keep bc_S_keep 1 (some .int) : Cond) ∈ Wl_ := List.mem_of_getElem? (i := 35) rfl
theorem ml_36 : (Cond.methodLink Rn_L 62 yn_S_back : Cond) ∈ Wl_ := List.mem_of_getElem? (i := 36) rfl
theorem ml_37 : (Cond.instanceMethod yn_S_back : Cond) ∈ Wl_ := List.mem_of_getElem? (i := 37) rfl
theorem ml_38 : (Cond.selects Rn_S yn_S_back yn_S_back : Cond) ∈ Wl_ := List.mem_of_getElem? (i := 38) rfl
theorem ml_39 : (Cond.code yn_S_back bc_S_back 1 (some .int) : Cond) ∈ Wl_ := List.mem_of_getElem? (i := 39) rfl
theorem ml_40 : (Cond.methodLink Rn_L 66 yn_S_keys : Cond) ∈ Wl_ := List.mem_of_getElem? (i := 40) rfl
theorem ml_41 : (Cond.instanceMethod yn_S_keys : Cond) ∈ Wl_ := List.mem_of_getElem? (i := 41) rfl
theorem ml_42 : (Cond.selects Rn_S yn_S_keys yn_S_keys : Cond) ∈ Wl_ := List.mem_of_getElem? (i := 42) rfl
theorem ml_43 : (Cond.code yn_S_keys bc_S_keys 2 (some .int) : Cond) ∈ Wl_ := List.mem_of_getElem? (i := 43) rfl
theorem ml_44 : (Cond.methodLink Rn_L 70 yn_S_check : Cond) ∈ Wl_ := List.mem_of_getElem? (i := 44) rfl
theorem ml_45 : (Cond.instanceMethod yn_S_check : Cond) ∈ Wl_ := List.mem_of_getElem? (i := 45) rfl
theorem ml_46 : (Cond.selects Rn_S yn_S_check yn_S_check : Cond) ∈ Wl_ := List.mem_of_getElem? (i := 46) rfl
theorem ml_47 : (Cond.code yn_S_check bc_S_check 1 (some .int) : Cond) ∈ Wl_ := List.mem_of_getElem? (i := 47) rfl
theorem ml_48 : (Cond.initialized Rn_S : Cond) ∈ Wl_ := List.mem_of_getElem? (i := 48) rfl
theorem ml_49 : (Cond.methodLink Rn_L 25 yn_R_write : Cond) ∈ Wl_ := List.mem_of_getElem? (i := 49) rfl
theorem ml_50 : (Cond.instanceMethod yn_R_write : Cond) ∈ Wl_ := List.mem_of_getElem? (i := 50) rfl
theorem ml_51 : (Cond.selects Rn_R yn_R_write yn_R_write : Cond) ∈ Wl_ := List.mem_of_getElem? (i := 51) rfl
theorem ml_52 : (Cond.code yn_R_write bc_R_write 5 (some .int) : Cond) ∈ Wl_ := List.mem_of_getElem? (i := 52) rfl
theorem ml_53 : (Cond.methodLink Rn_L 30 yn_R_spread : Cond) ∈ Wl_ := List.mem_of_getElem? (i := 53) rfl
theorem ml_54 : (Cond.instanceMethod yn_R_spread : Cond) ∈ Wl_ := List.mem_of_getElem? (i := 54) rfl
theorem ml_55 : (Cond.selects Rn_R yn_R_spread yn_R_spread : Cond) ∈ Wl_ := List.mem_of_getElem? (i := 55) rfl
theorem ml_56 : (Cond.code yn_R_spread bc_R_spread 7 (some .int) : Cond) ∈ Wl_ := List.mem_of_getElem? (i := 56) rfl
theorem ml_57 : (Cond.methodLink Rn_L 35 yn_R_read : Cond) ∈ Wl_ := List.mem_of_getElem? (i := 57) rfl
theorem ml_58 : (Cond.instanceMethod yn_R_read : Cond) ∈ Wl_ := List.mem_of_getElem? (i := 58) rfl
theorem ml_59 : (Cond.selects Rn_R yn_R_read yn_R_read : Cond) ∈ Wl_ := List.mem_of_getElem? (i := 59) rfl
theorem ml_60 : (Cond.code yn_R_read bc_R_read 4 (some .int) : Cond) ∈ Wl_ := List.mem_of_getElem? (i := 60) rfl
theorem ml_61 : (Cond.methodLink Rn_L 39 yn_R_erase : Cond) ∈ Wl_ := List.mem_of_getElem? (i := 61) rfl
theorem ml_62 : (Cond.instanceMethod yn_R_erase : Cond) ∈ Wl_ := List.mem_of_getElem? (i := 62) rfl
theorem ml_63 : (Cond.selects Rn_R yn_R_erase yn_R_erase : Cond) ∈ Wl_ := List.mem_of_getElem? (i := 63) rfl
theorem ml_64 : (Cond.code yn_R_erase bc_R_erase 4 (some .int) : Cond) ∈ Wl_ := List.mem_of_getElem? (i := 64) rfl
theorem ml_65 : (Cond.methodLink Rn_L 43 yn_R_cut : Cond) ∈ Wl_ := List.mem_of_getElem? (i := 65) rfl
theorem ml_66 : (Cond.instanceMethod yn_R_cut : Cond) ∈ Wl_ := List.mem_of_getElem? (i := 66) rfl
theorem ml_67 : (Cond.selects Rn_R yn_R_cut yn_R_cut : Cond) ∈ Wl_ := List.mem_of_getElem? (i := 67) rfl
theorem ml_68 : (Cond.code yn_R_cut bc_R_cut 6 (some .int) : Cond) ∈ Wl_ := List.mem_of_getElem? (i := 68) rfl
theorem ml_69 : (Cond.methodLink Rn_L 47 yn_R_next : Cond) ∈ Wl_ := List.mem_of_getElem? (i := 69) rfl
theorem ml_70 : (Cond.instanceMethod yn_R_next : Cond) ∈ Wl_ := List.mem_of_getElem? (i := 70) rfl
theorem ml_71 : (Cond.selects Rn_R yn_R_next yn_R_next : Cond) ∈ Wl_ := List.mem_of_getElem? (i := 71) rfl
theorem ml_72 : (Cond.code yn_R_next bc_R_next 4 (some .int) : Cond) ∈ Wl_ := List.mem_of_getElem? (i := 72) rfl
theorem ml_73 : (Cond.methodLink Rn_L 51 yn_R_clone : Cond) ∈ Wl_ := List.mem_of_getElem? (i := 73) rfl
theorem ml_74 : (Cond.instanceMethod yn_R_clone : Cond) ∈ Wl_ := List.mem_of_getElem? (i := 74) rfl
theorem ml_75 : (Cond.selects Rn_R yn_R_clone yn_R_clone : Cond) ∈ Wl_ := List.mem_of_getElem? (i := 75) rfl
theorem ml_76 : (Cond.code yn_R_clone bc_R_clone 4 (some .int) : Cond) ∈ Wl_ := List.mem_of_getElem? (i := 76) rfl
theorem ml_77 : (Cond.methodLink Rn_L 56 yn_R_drop : Cond) ∈ Wl_ := List.mem_of_getElem? (i := 77) rfl
theorem ml_78 : (Cond.instanceMethod yn_R_drop : Cond) ∈ Wl_ := List.mem_of_getElem? (i := 78) rfl
theorem ml_79 : (Cond.selects Rn_R yn_R_drop yn_R_drop : Cond) ∈ Wl_ := List.mem_of_getElem? (i := 79) rfl
theorem ml_80 : (Cond.code yn_R_drop bc_R_drop 3 (some .int) : Cond) ∈ Wl_ := List.mem_of_getElem? (i := 80) rfl
theorem ml_81 : (Cond.methodLink Rn_L 61 yn_R_keep : Cond) ∈ Wl_ := List.mem_of_getElem? (i := 81) rfl
theorem ml_82 : (Cond.instanceMethod yn_R_keep : Cond) ∈ Wl_ := List.mem_of_getElem? (i := 82) rfl
theorem ml_83 : (Cond.selects Rn_R yn_R_keep yn_R_keep : Cond) ∈ Wl_ := List.mem_of_getElem? (i := 83) rfl
theorem ml_84 : (Cond.code yn_R_keep bc_R_keep 2 (some .int) : Cond) ∈ Wl_ := List.mem_of_getElem? (i := 84) rfl
theorem ml_85 : (Cond.methodLink Rn_L 65 yn_R_back : Cond) ∈ Wl_ := List.mem_of_getElem? (i := 85) rfl
theorem ml_86 : (Cond.instanceMethod yn_R_back : Cond) ∈ Wl_ := List.mem_of_getElem? (i := 86) rfl
theorem ml_87 : (Cond.selects Rn_R yn_R_back yn_R_back : Cond) ∈ Wl_ := List.mem_of_getElem? (i := 87) rfl
theorem ml_88 : (Cond.code yn_R_back bc_R_back 2 (some .int) : Cond) ∈ Wl_ := List.mem_of_getElem? (i := 88) rfl
theorem ml_89 : (Cond.methodLink Rn_L 69 yn_R_keys : Cond) ∈ Wl_ := List.mem_of_getElem? (i := 89) rfl
theorem ml_90 : (Cond.instanceMethod yn_R_keys : Cond) ∈ Wl_ := List.mem_of_getElem? (i := 90) rfl
theorem ml_91 : (Cond.selects Rn_R yn_R_keys yn_R_keys : Cond) ∈ Wl_ := List.mem_of_getElem? (i := 91) rfl
theorem ml_92 : (Cond.code yn_R_keys bc_R_keys 2 (some .int) : Cond) ∈ Wl_ := List.mem_of_getElem? (i := 92) rfl
theorem ml_93 : (Cond.methodLink Rn_L 73 yn_R_check : Cond) ∈ Wl_ := List.mem_of_getElem? (i := 93) rfl
theorem ml_94 : (Cond.instanceMethod yn_R_check : Cond) ∈ Wl_ := List.mem_of_getElem? (i := 94) rfl
theorem ml_95 : (Cond.selects Rn_R yn_R_check yn_R_check : Cond) ∈ Wl_ := List.mem_of_getElem? (i := 95) rfl
theorem ml_96 : (Cond.code yn_R_check bc_R_check 1 (some .int) : Cond) ∈ Wl_ := List.mem_of_getElem? (i := 96) rfl
theorem ml_97 : (Cond.initialized Rn_R : Cond) ∈ Wl_ := List.mem_of_getElem? (i := 97) rfl
theorem ml_98 : (Cond.classLink Rn_L 7 Rn_S : Cond) ∈ Wl_ := List.mem_of_getElem? (i := 98) rfl
theorem ml_99 : (Cond.instantiable Rn_S 5 : Cond) ∈ Wl_ := List.mem_of_getElem? (i := 99) rfl
theorem ml_100 : (Cond.methodLink Rn_L 15 yn_S_init : Cond) ∈ Wl_ := List.mem_of_getElem? (i := 100) rfl
theorem ml_101 : (Cond.instanceMethod yn_S_init : Cond) ∈ Wl_ := List.mem_of_getElem? (i := 101) rfl
theorem ml_102 : (Cond.code yn_S_init bc_S_init 3 none : Cond) ∈ Wl_ := List.mem_of_getElem? (i := 102) rfl
theorem ml_103 : (Cond.classLink Rn_L 18 Rn_R : Cond) ∈ Wl_ := List.mem_of_getElem? (i := 103) rfl
theorem ml_104 : (Cond.instantiable Rn_R 4 : Cond) ∈ Wl_ := List.mem_of_getElem? (i := 104) rfl
theorem ml_105 : (Cond.methodLink Rn_L 20 yn_R_init : Cond) ∈ Wl_ := List.mem_of_getElem? (i := 105) rfl
theorem ml_106 : (Cond.instanceMethod yn_R_init : Cond) ∈ Wl_ := List.mem_of_getElem? (i := 106) rfl
theorem ml_107 : (Cond.code yn_R_init bc_R_init 2 none : Cond) ∈ Wl_ := List.mem_of_getElem? (i := 107) rfl
theorem ml_108 : (Cond.methodLink Rn_L 9 yn_L_cell : Cond) ∈ Wl_ := List.mem_of_getElem? (i := 108) rfl
theorem ml_109 : (Cond.static yn_L_cell : Cond) ∈ Wl_ := List.mem_of_getElem? (i := 109) rfl
theorem ml_110 : (Cond.code yn_L_cell bc_L_cell 2 (some .int) : Cond) ∈ Wl_ := List.mem_of_getElem? (i := 110) rfl
theorem ml_111 : (Cond.initialized Rn_L : Cond) ∈ Wl_ := List.mem_of_getElem? (i := 111) rfl
theorem wl_g : Wl_.all (fun w => w.onTables && w.keeps) = true := by decide +kernel
theorem wl_good : ∀ w ∈ Wl_, (w.onTables && w.keeps) = true ∨ ∃ ty, w = .arrayClass ty := fun w hw => Or.inl (List.all_eq_true.mp wl_g w hw)
set_option maxRecDepth 100000 in
theorem wl_tbl : ∀ w ∈ Wl_, w ∈ lw_tbl := mem_pl [166, 167, 168, 169, 294, 295, 296, 297, 299, 300, 301, 302, 303, 304, 305, 306, 335, 336, 337, 338, 347, 348, 349, 350, 351, 352, 353, 354, 369, 370, 371, 372, 373, 374, 375, 376, 381, 382, 383, 384, 385, 386, 387, 388, 389, 390, 391, 392, 26, 468, 469, 470, 471, 486, 487, 488, 489, 491, 492, 493, 494, 495, 496, 497, 498, 500, 501, 502, 503, 505, 506, 507, 508, 509, 510, 511, 512, 513, 514, 515, 516, 518, 519, 520, 521, 522, 523, 524, 525, 526, 527, 528, 529, 530, 531, 532, 533, 32, 34, 35, 36, 37, 38, 448, 449, 450, 451, 452, 445, 446, 447, 25] rfl
set_option maxRecDepth 100000 in
theorem nf_tbl : ∀ w ∈ nfl_.map (fun q => Cond.fieldLinkNest q.1 q.2.1 q.2.2.1 q.2.2.2.1 q.2.2.2.2 nh_), w ∈ lw_tbl := mem_pl [136, 139, 141, 142, 137, 140] rfl
set_option maxRecDepth 100000 in
theorem nm_tbl : ∀ w ∈ nml_.map (fun q => Cond.methodLinkNest q.1 q.2.1 q.2.2 nh_), w ∈ lw_tbl := mem_pl [417, 423] rfl
set_option maxRecDepth 100000 in
theorem ni_tbl : ∀ w ∈ nil_.map (fun q => Cond.methodLinkNest q.1 q.2.1 q.2.2 nh_), w ∈ lw_tbl := mem_pl [131, 86, 105] rfl
theorem NW_law {args : Array Value} {s : State} (hts : ∀ w ∈ lw_tbl, w.before args s = true) : NW_ s := ⟨fun q hq => va_Nw.of rfl (hts _ (nf_tbl _ (List.mem_map_of_mem hq))), fun q hq => va_Nw.of rfl (hts _ (nm_tbl _ (List.mem_map_of_mem hq)))⟩
theorem NI_law {args : Array Value} {s : State} (hts : ∀ w ∈ lw_tbl, w.before args s = true) : NI_ s := fun q hq => va_Nw.of rfl (hts _ (ni_tbl _ (List.mem_map_of_mem hq)))
theorem wi_law {v : Cond} (hv : v ∈ Wl_) : GoodIn lw_tbl (v :: Wi_) := fun q hq => by
  rcases List.mem_cons.mp hq with rfl | h
  · exact ⟨wl_tbl _ hv, wl_good _ hv⟩
  · exact ⟨wi_tbl _ h, wi_good _ h⟩
section LR
variable {p : Program} {l : Launch} {e : Env} {R : Room} {s : State} {m : MethodId} {args : Array Value} {below : List Frame} {meth : Method} {c : Code} {H H0 : Heap} {locs : List Loc} {cells slots : Nat} {Q : State → Prop}
variable {cc : ByteArray} {pc : Nat} {ls : Array Slot} {rest : List Value} {D : va_G} {ad : Nat → Nat} {cA : Nat → ClassId} {w : Nat} {st : St_}
variable {y : MethodName} {bytes : ByteArray} {maxL nL index n ci N : Nat} {ret : Option FieldType} {rm : Room} {own C host : String} {As stk : List Value} {fs : List Value} {T : u_T}
theorem lw_cVi (qb : Nat) {post : Int32 → St_ → Prop} (hx : p.tables.exec = Jvm.exec) (hb : c.code = cc) (hml : c.maxLocals = nL) (hown : s.vm.findClass own = some m.cls) (hts : ∀ v ∈ lw_tbl, v.before args s = true) (hK : va_K D sC_ (ty_ cA) s) (hN : NW_ s) (hP : va_P D sC_ (wd_ ad cA w st) H) (hS : va_S (Aw_ ad) H0 H locs)
    (hM : Met l y (Cond.code y bytes maxL ret :: Wk_) rm (Pw_ D ad cA w st (.ref (ad qb) :: As)) (Qi_ D ad cA w post) 0 0 (Aw_ ad)) (hcode : Cond.code y bytes maxL ret ∈ Wl_) (hlink : Cond.methodLink own index y ∈ Wl_) (hinst : Cond.instanceMethod y ∈ Wl_) (hsel : Cond.selects C y y ∈ Wl_) (hini : Cond.initialized C ∈ Wl_)
    (hd : y.cls = C ∧ y.cls ≠ "java/lang/invoke/MethodHandle" ∧ y.cls ≠ "java/lang/invoke/VarHandle" ∧ (parseMethodDescriptor y.desc).map (fun d => d.parameters.length) = some n) (hR : rm.frames + 1 ≤ R.frames ∧ 8 + (maxL + 11) + rm.locals ≤ R.locals) (hrc : rm.cells = 0) (hrs : rm.slots = 0)
    (hob : (wd_ ad cA w st)[qb]? = some (ad qb, .inr (ci, fs))) (hcl : sC_[ci]? = some (C, T, N)) (hn : As.length = n) (hsize : ls.size = nL) (hstk : stk = As.reverse ++ .ref (ad qb) :: rest) (hW : 2 * (F0 m pc ls stk).monitorRoom + (rest.map fun v => v.category).sum ≤ 8) (hdg : decode cc pc = .ok (.invokevirtual index, 3)) (hf : cells + 0 ≤ R.cells ∧ slots + 0 ≤ R.slots)
    (kk : ∀ (r : Int32) (u : St_) (H1 : Heap) (locs1 : List Loc), va_P D sC_ (wd_ ad cA w u) H1 → va_S (Aw_ ad) H0 H1 locs1 → post r u → W p l e R s m args below meth c H1 locs1 cells slots Q (F0 m (pc + 3) ls (.int r :: rest))) : W p l e R s m args below meth c H locs cells slots Q (F0 m pc ls stk) := by
  have hG : GoodIn lw_tbl (wsV own index C y (Cond.code y bytes maxL ret :: Wk_)) := by
    intro q hq
    simp only [wsV, List.mem_append, List.mem_cons, List.not_mem_nil, or_false] at hq
    rcases hq with (rfl | rfl | rfl | rfl) | rfl | h
    · exact ⟨wl_tbl _ hlink, wl_good _ hlink⟩
    · exact ⟨wl_tbl _ hinst, wl_good _ hinst⟩
    · exact ⟨wl_tbl _ hsel, wl_good _ hsel⟩
    · exact ⟨wl_tbl _ hini, wl_good _ hini⟩
    · exact ⟨wl_tbl _ hcode, wl_good _ hcode⟩
    · exact ⟨wk_tbl _ h, wk_good _ h⟩
  exact va_calli (va_runV (As := As) (rest := rest) ⟨hx, hb, hml, hown, hts⟩ hM (cwV n hts hG rfl hrc hrs hd hR) ⟨fb_, va_recv (q := (C, T, N)) hK hP hcl hob, fun U hU hW => ⟨rfl, by rw [hU]; exact hP, va_K.moved hW.alike hK, NW_moved hW hN⟩⟩ rfl hn hsize hstk hW hdg hf) hS (fun q _ h => h) (fun q h => h) (fun r u t H1 locs1 ht _ hw hB _ _ hS1 => kk r u H1 locs1 (by rw [← ht]; exact hB) hS1 hw)
end LR
theorem S_step {s : State} {H H2 : Heap} {ad : Nat → Nat} {locs : List Loc} (hAd : ∀ k, k < 25 → s.heap.size ≤ ad k) (h0 : va_S (fun q : Nat => s.heap.size ≤ q) s.heap H []) (h2 : va_S (Aw_ ad) H H2 locs) : va_S (fun q : Nat => s.heap.size ≤ q) s.heap H2 [] := by
  refine ⟨Nat.le_trans h0.1 h2.1, fun q h1 h3 => ?_, fun q hq => absurd hq List.not_mem_nil⟩
  rw [h2.2.1 q (Nat.lt_of_lt_of_le h1 h0.1) (fun ⟨k, hk, e⟩ => h3 (by show s.heap.size ≤ q; rw [e]; exact hAd k hk))]
  exact h0.2.1 q h1 h3
theorem S_loc {s : State} {H H2 : Heap} {ad : Nat → Nat} {locs : List Loc} (hAd : ∀ k, k < 25 → s.heap.size ≤ ad k) (h2 : va_S (Aw_ ad) H H2 locs) : ∀ q ∈ locs, s.heap.size ≤ q.base := fun q hq => by
  obtain ⟨k, hk, e⟩ := h2.2.2 q hq
  rw [e]; exact hAd k hk
theorem Jn_of {A : Nat → Prop} {ad : Nat → Nat} {cA : Nat → ClassId} {w : Nat} {st : St_} (h : va_D A (wd_ ad cA w st)) : Jn_ ad ∧ ∀ k, k < 25 → A (ad k) := by
  have hg : ∀ i, i < 25 → ∃ p : Nat × va_E, (wd_ ad cA w st)[i]? = some p ∧ p.1 = ad i := fun i hi => by
    have hl : (wd_ ad cA w st).length = 25 := rfl
    refine ⟨(wd_ ad cA w st)[i]'(by omega), List.getElem?_eq_getElem (by omega), ?_⟩
    exact (wd_ad (List.getElem?_eq_getElem (by omega))).2
  refine ⟨fun i j hi hj e => ?_, fun k hk => ?_⟩
  · obtain ⟨p, h1, h2⟩ := hg i hi
    obtain ⟨q, h3, h4⟩ := hg j hj
    exact h.1 i j p q h1 h3 (by rw [h2, h4]; exact e)
  · obtain ⟨p, h1, h2⟩ := hg k hk
    have := h.2 k p h1
    rw [h2] at this; exact this
set_option maxHeartbeats 4000000 in
set_option maxRecDepth 100000 in
theorem ci_cell (l : Launch) (b L : Nat) (xs : Nat → Int32) (hL : L ≤ 3073) : Met l yn_L_cell [Cond.code yn_L_cell bc_L_cell 2 (some .int)] ({ frames := 0, cells := 0, slots := 0, locals := 0 }) (va_Pc [.ref b, .int 0] (fun U => va_X b L xs U U.heap ∧ b < U.heap.size)) (va_Qi (fun _ (_ : Unit) => True) (fun _ _ => True) (fun _ => False)) 0 0 (fun _ => False) := by
  refine Met.ofW (cc := bc_L_cell) (maxL := 2) (ret := (some .int)) (by decide) rfl ?_
  intro p e s m args below meth c s₁ B hml hv
  obtain ⟨rfl, hX, hbl⟩ := hv
  have hx := B.exec
  have hb := B.bytes
  have hr := B.returns
  have hlocks := B.notSynchronized
  have hS : va_S (fun _ => False) s.heap s.heap [] := va_S.rf
  have hbA : ¬ (fun _ : Nat => False) b := fun q => q
  have hl := lv_entry ([.ref b, .int 0]) (n := 2) (Nat.le_of_ble_eq_true rfl)
  rw [lg_entry_eq]
  generalize (lg_sl ([.ref b, .int 0]) ++ List.replicate (2 - (lg_sl ([.ref b, .int 0])).length) Slot.unset).toArray = ls at hl ⊢
  have hl : lv_has ls 2 [(0, .ref b), (1, .int 0)] := hl
  refine lv_iload_n hx hb dc_L_cell_0 rfl (lv_at hl 1 rfl) ?_
  refine lv_aload_n hx hb dc_L_cell_1 rfl (lv_at hl 0 rfl) ?_
  refine va_slen hx hb hX hbl hbA hS dc_L_cell_2 ?_
  refine lv_icmp_ge (tgt := 12) hx hb dc_L_cell_3 (by decide) (fun c1 => ?_) (fun c1 => ?_)
  · refine lv_iconst (v := 0) hx hb dc_L_cell_12 (by decide) ?_
    exact W.iret (v := 0) hx hb hr (fun t ht hW => ⟨⟨0, (), rfl, trivial, trivial⟩, hS.F ht⟩) hS.2.2 dc_L_cell_13
  · have h0 : 0 < L := by
      rcases Nat.eq_zero_or_pos L with q | q
      · exact absurd (by rw [q]; decide) c1
      · exact q
    refine lv_aload_n hx hb dc_L_cell_6 rfl (lv_at hl 0 rfl) ?_
    refine lv_iload_n hx hb dc_L_cell_7 rfl (lv_at hl 1 rfl) ?_
    refine va_sld hx hb hX hbl hbA hS (vp_in_nI (n := 0) h0 (by omega)) dc_L_cell_8 ?_
    refine lv_goto (tgt := 13) hx hb dc_L_cell_9 (by decide) ?_
    exact W.iret hx hb hr (fun t ht hW => ⟨⟨_, (), rfl, trivial, trivial⟩, hS.F ht⟩) hS.2.2 dc_L_cell_13
