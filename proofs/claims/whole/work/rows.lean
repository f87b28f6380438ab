section
-- ===== PART A: goes FIRST, ahead of the names: the tables' words, and 'selects' of the private methods out of them =====
/-- a private method of a class that the tables say can be made, by its rows of tables_1 -/
def lw_okq (q : MethodName × Nat) : Prop := (q.1.cls ≠ "java/lang/invoke/MethodHandle" ∧ q.1.cls ≠ "java/lang/invoke/VarHandle") ∧ Cond.instantiable q.1.cls q.2 ∈ tables_1 ∧ Cond.privateMethod q.1 ∈ tables_1 ∧ Cond.instanceMethod q.1 ∈ tables_1
theorem lw_p0 : lw_okq (⟨"SharedTrees$Trees", "slotToward", "(II)I"⟩, 3) := ⟨⟨by decide +kernel, by decide +kernel⟩, List.mem_of_getElem? (i := 56) (by decide +kernel), List.mem_of_getElem? (i := 168) (by decide +kernel), List.mem_of_getElem? (i := 169) (by decide +kernel)⟩
theorem lw_p1 : lw_okq (⟨"SharedTrees$Blocks", "isEntry", "(II)Z"⟩, 8) := ⟨⟨by decide +kernel, by decide +kernel⟩, List.mem_of_getElem? (i := 24) (by decide +kernel), List.mem_of_getElem? (i := 186) (by decide +kernel), List.mem_of_getElem? (i := 187) (by decide +kernel)⟩
theorem lw_p2 : lw_okq (⟨"SharedTrees$Trees", "putBelow", "(IIII)V"⟩, 3) := ⟨⟨by decide +kernel, by decide +kernel⟩, List.mem_of_getElem? (i := 56) (by decide +kernel), List.mem_of_getElem? (i := 229) (by decide +kernel), List.mem_of_getElem? (i := 230) (by decide +kernel)⟩
theorem lw_p3 : lw_okq (⟨"SharedTrees$Trees", "putInLeaf", "(III)V"⟩, 3) := ⟨⟨by decide +kernel, by decide +kernel⟩, List.mem_of_getElem? (i := 56) (by decide +kernel), List.mem_of_getElem? (i := 233) (by decide +kernel), List.mem_of_getElem? (i := 234) (by decide +kernel)⟩
theorem lw_p4 : lw_okq (⟨"SharedTrees$Trees", "ownedChild", "(II)I"⟩, 3) := ⟨⟨by decide +kernel, by decide +kernel⟩, List.mem_of_getElem? (i := 56) (by decide +kernel), List.mem_of_getElem? (i := 242) (by decide +kernel), List.mem_of_getElem? (i := 243) (by decide +kernel)⟩
theorem lw_p5 : lw_okq (⟨"SharedTrees$Trees", "split", "(II)V"⟩, 3) := ⟨⟨by decide +kernel, by decide +kernel⟩, List.mem_of_getElem? (i := 56) (by decide +kernel), List.mem_of_getElem? (i := 251) (by decide +kernel), List.mem_of_getElem? (i := 252) (by decide +kernel)⟩
theorem lw_p6 : lw_okq (⟨"SharedTrees$Trees", "grown", "(I)I"⟩, 3) := ⟨⟨by decide +kernel, by decide +kernel⟩, List.mem_of_getElem? (i := 56) (by decide +kernel), List.mem_of_getElem? (i := 259) (by decide +kernel), List.mem_of_getElem? (i := 260) (by decide +kernel)⟩
theorem lw_p7 : lw_okq (⟨"SharedTrees", "removeKey", "(II)V"⟩, 5) := ⟨⟨by decide +kernel, by decide +kernel⟩, List.mem_of_getElem? (i := 10) (by decide +kernel), List.mem_of_getElem? (i := 276) (by decide +kernel), List.mem_of_getElem? (i := 277) (by decide +kernel)⟩
theorem lw_p8 : lw_okq (⟨"SharedTrees$Trees", "removeBelow", "(III)V"⟩, 3) := ⟨⟨by decide +kernel, by decide +kernel⟩, List.mem_of_getElem? (i := 56) (by decide +kernel), List.mem_of_getElem? (i := 284) (by decide +kernel), List.mem_of_getElem? (i := 285) (by decide +kernel)⟩
theorem lw_p9 : lw_okq (⟨"SharedTrees$Trees", "fill", "(II)V"⟩, 3) := ⟨⟨by decide +kernel, by decide +kernel⟩, List.mem_of_getElem? (i := 56) (by decide +kernel), List.mem_of_getElem? (i := 292) (by decide +kernel), List.mem_of_getElem? (i := 293) (by decide +kernel)⟩
theorem lw_p10 : lw_okq (⟨"SharedTrees$Trees", "moveEntry", "(IIII)V"⟩, 3) := ⟨⟨by decide +kernel, by decide +kernel⟩, List.mem_of_getElem? (i := 56) (by decide +kernel), List.mem_of_getElem? (i := 300) (by decide +kernel), List.mem_of_getElem? (i := 301) (by decide +kernel)⟩
theorem lw_p11 : lw_okq (⟨"SharedTrees$Trees", "shrunk", "(I)I"⟩, 3) := ⟨⟨by decide +kernel, by decide +kernel⟩, List.mem_of_getElem? (i := 56) (by decide +kernel), List.mem_of_getElem? (i := 304) (by decide +kernel), List.mem_of_getElem? (i := 305) (by decide +kernel)⟩
theorem lw_p12 : lw_okq (⟨"SharedTrees$Trees", "keyOr", "(III)I"⟩, 3) := ⟨⟨by decide +kernel, by decide +kernel⟩, List.mem_of_getElem? (i := 56) (by decide +kernel), List.mem_of_getElem? (i := 316) (by decide +kernel), List.mem_of_getElem? (i := 317) (by decide +kernel)⟩
theorem lw_p13 : lw_okq (⟨"SharedTrees", "lead", "(LSharedTrees$Maps;III)V"⟩, 5) := ⟨⟨by decide +kernel, by decide +kernel⟩, List.mem_of_getElem? (i := 10) (by decide +kernel), List.mem_of_getElem? (i := 328) (by decide +kernel), List.mem_of_getElem? (i := 329) (by decide +kernel)⟩
theorem lw_p14 : lw_okq (⟨"SharedTrees$Trees", "releaseBelow", "(II)V"⟩, 3) := ⟨⟨by decide +kernel, by decide +kernel⟩, List.mem_of_getElem? (i := 56) (by decide +kernel), List.mem_of_getElem? (i := 337) (by decide +kernel), List.mem_of_getElem? (i := 338) (by decide +kernel)⟩
theorem lw_p15 : lw_okq (⟨"SharedTrees", "leadAll", "(LSharedTrees$Maps;LSharedTrees$Maps;)V"⟩, 5) := ⟨⟨by decide +kernel, by decide +kernel⟩, List.mem_of_getElem? (i := 10) (by decide +kernel), List.mem_of_getElem? (i := 350) (by decide +kernel), List.mem_of_getElem? (i := 351) (by decide +kernel)⟩
def lw_privs_1 : List (MethodName × Nat) := [(⟨"SharedTrees$Trees", "slotToward", "(II)I"⟩, 3), (⟨"SharedTrees$Blocks", "isEntry", "(II)Z"⟩, 8), (⟨"SharedTrees$Trees", "putBelow", "(IIII)V"⟩, 3), (⟨"SharedTrees$Trees", "putInLeaf", "(III)V"⟩, 3), (⟨"SharedTrees$Trees", "ownedChild", "(II)I"⟩, 3), (⟨"SharedTrees$Trees", "split", "(II)V"⟩, 3), (⟨"SharedTrees$Trees", "grown", "(I)I"⟩, 3), (⟨"SharedTrees", "removeKey", "(II)V"⟩, 5), (⟨"SharedTrees$Trees", "removeBelow", "(III)V"⟩, 3), (⟨"SharedTrees$Trees", "fill", "(II)V"⟩, 3), (⟨"SharedTrees$Trees", "moveEntry", "(IIII)V"⟩, 3), (⟨"SharedTrees$Trees", "shrunk", "(I)I"⟩, 3), (⟨"SharedTrees$Trees", "keyOr", "(III)I"⟩, 3), (⟨"SharedTrees", "lead", "(LSharedTrees$Maps;III)V"⟩, 5), (⟨"SharedTrees$Trees", "releaseBelow", "(II)V"⟩, 3), (⟨"SharedTrees", "leadAll", "(LSharedTrees$Maps;LSharedTrees$Maps;)V"⟩, 5)]
theorem lw_r1 : ∀ q ∈ lw_privs_1, lw_okq q := List.forall_mem_cons.mpr ⟨lw_p0, List.forall_mem_cons.mpr ⟨lw_p1, List.forall_mem_cons.mpr ⟨lw_p2, List.forall_mem_cons.mpr ⟨lw_p3, List.forall_mem_cons.mpr ⟨lw_p4, List.forall_mem_cons.mpr ⟨lw_p5, List.forall_mem_cons.mpr ⟨lw_p6, List.forall_mem_cons.mpr ⟨lw_p7, List.forall_mem_cons.mpr ⟨lw_p8, List.forall_mem_cons.mpr ⟨lw_p9, List.forall_mem_cons.mpr ⟨lw_p10, List.forall_mem_cons.mpr ⟨lw_p11, List.forall_mem_cons.mpr ⟨lw_p12, List.forall_mem_cons.mpr ⟨lw_p13, List.forall_mem_cons.mpr ⟨lw_p14, List.forall_mem_cons.mpr ⟨lw_p15, fun _ h => absurd h List.not_mem_nil⟩⟩⟩⟩⟩⟩⟩⟩⟩⟩⟩⟩⟩⟩⟩⟩
theorem lw_p16 : lw_okq (⟨"SharedTrees$Inspection", "faultOfMaps", "(LSharedTrees$Maps;I)I"⟩, 7) := ⟨⟨by decide +kernel, by decide +kernel⟩, List.mem_of_getElem? (i := 75) (by decide +kernel), List.mem_of_getElem? (i := 370) (by decide +kernel), List.mem_of_getElem? (i := 371) (by decide +kernel)⟩
theorem lw_p17 : lw_okq (⟨"SharedTrees$Inspection", "faultOfTree", "(III)I"⟩, 7) := ⟨⟨by decide +kernel, by decide +kernel⟩, List.mem_of_getElem? (i := 75) (by decide +kernel), List.mem_of_getElem? (i := 374) (by decide +kernel), List.mem_of_getElem? (i := 375) (by decide +kernel)⟩
theorem lw_p18 : lw_okq (⟨"SharedTrees$Inspection", "faultBelow", "(II)I"⟩, 7) := ⟨⟨by decide +kernel, by decide +kernel⟩, List.mem_of_getElem? (i := 75) (by decide +kernel), List.mem_of_getElem? (i := 381) (by decide +kernel), List.mem_of_getElem? (i := 382) (by decide +kernel)⟩
theorem lw_p19 : lw_okq (⟨"SharedTrees$Inspection", "hasOrder", "(I)Z"⟩, 7) := ⟨⟨by decide +kernel, by decide +kernel⟩, List.mem_of_getElem? (i := 75) (by decide +kernel), List.mem_of_getElem? (i := 385) (by decide +kernel), List.mem_of_getElem? (i := 386) (by decide +kernel)⟩
theorem lw_p20 : lw_okq (⟨"SharedTrees$Inspection", "faultOfLeaf", "(I)I"⟩, 7) := ⟨⟨by decide +kernel, by decide +kernel⟩, List.mem_of_getElem? (i := 75) (by decide +kernel), List.mem_of_getElem? (i := 391) (by decide +kernel), List.mem_of_getElem? (i := 392) (by decide +kernel)⟩
theorem lw_p21 : lw_okq (⟨"SharedTrees$Inspection", "faultOfNode", "(II)I"⟩, 7) := ⟨⟨by decide +kernel, by decide +kernel⟩, List.mem_of_getElem? (i := 75) (by decide +kernel), List.mem_of_getElem? (i := 397) (by decide +kernel), List.mem_of_getElem? (i := 398) (by decide +kernel)⟩
theorem lw_p22 : lw_okq (⟨"SharedTrees$Inspection", "faultOfFree", "()I"⟩, 7) := ⟨⟨by decide +kernel, by decide +kernel⟩, List.mem_of_getElem? (i := 75) (by decide +kernel), List.mem_of_getElem? (i := 401) (by decide +kernel), List.mem_of_getElem? (i := 402) (by decide +kernel)⟩
theorem lw_p23 : lw_okq (⟨"SharedTrees$Inspection", "faultOfWays", "()I"⟩, 7) := ⟨⟨by decide +kernel, by decide +kernel⟩, List.mem_of_getElem? (i := 75) (by decide +kernel), List.mem_of_getElem? (i := 413) (by decide +kernel), List.mem_of_getElem? (i := 414) (by decide +kernel)⟩
theorem lw_p24 : lw_okq (⟨"SharedTreesModel", "all", "()I"⟩, 4) := ⟨⟨by decide +kernel, by decide +kernel⟩, List.mem_of_getElem? (i := 421) (by decide +kernel), List.mem_of_getElem? (i := 455) (by decide +kernel), List.mem_of_getElem? (i := 456) (by decide +kernel)⟩
def lw_privs_2 : List (MethodName × Nat) := [(⟨"SharedTrees$Inspection", "faultOfMaps", "(LSharedTrees$Maps;I)I"⟩, 7), (⟨"SharedTrees$Inspection", "faultOfTree", "(III)I"⟩, 7), (⟨"SharedTrees$Inspection", "faultBelow", "(II)I"⟩, 7), (⟨"SharedTrees$Inspection", "hasOrder", "(I)Z"⟩, 7), (⟨"SharedTrees$Inspection", "faultOfLeaf", "(I)I"⟩, 7), (⟨"SharedTrees$Inspection", "faultOfNode", "(II)I"⟩, 7), (⟨"SharedTrees$Inspection", "faultOfFree", "()I"⟩, 7), (⟨"SharedTrees$Inspection", "faultOfWays", "()I"⟩, 7), (⟨"SharedTreesModel", "all", "()I"⟩, 4)]
theorem lw_r2 : ∀ q ∈ lw_privs_2, lw_okq q := List.forall_mem_cons.mpr ⟨lw_p16, List.forall_mem_cons.mpr ⟨lw_p17, List.forall_mem_cons.mpr ⟨lw_p18, List.forall_mem_cons.mpr ⟨lw_p19, List.forall_mem_cons.mpr ⟨lw_p20, List.forall_mem_cons.mpr ⟨lw_p21, List.forall_mem_cons.mpr ⟨lw_p22, List.forall_mem_cons.mpr ⟨lw_p23, List.forall_mem_cons.mpr ⟨lw_p24, fun _ h => absurd h List.not_mem_nil⟩⟩⟩⟩⟩⟩⟩⟩⟩
def lw_privs : List (MethodName × Nat) := lw_privs_1 ++ (lw_privs_2)
def lw_tbl : List Cond := k2_sels lw_privs ++ tables_1
theorem lw_privs_ok : ∀ q ∈ lw_privs, lw_okq q := by
  show ∀ q ∈ lw_privs_1 ++ (lw_privs_2), lw_okq q
  exact List.forall_mem_append.mpr ⟨lw_r1, lw_r2⟩
end
section
def Rn_S : String := "SharedTrees"
def Rn_B : String := "SharedTrees$Blocks"
def Rn_T : String := "SharedTrees$Trees"
def Rn_I : String := "SharedTrees$Inspection"
def Rn_P : String := "SharedTrees$Maps"
def Rn_R : String := "SharedTreesModel"
def Rn_L : String := "SharedTreesLaw"
def Fn_S : u_T := fun k => match k with
  | 0 => ("SharedTrees", "blocks", "LSharedTrees$Blocks;", true)
  | 1 => ("SharedTrees", "trees", "LSharedTrees$Trees;", true)
  | 2 => ("SharedTrees", "inspection", "LSharedTrees$Inspection;", true)
  | 3 => ("SharedTrees", "now", "LSharedTrees$Maps;", true)
  | _ => ("SharedTrees", "kept", "LSharedTrees$Maps;", true)
def Tn_S : Nat → FieldType := fun k => match k with
  | 0 => .object "SharedTrees$Blocks"
  | 1 => .object "SharedTrees$Trees"
  | 2 => .object "SharedTrees$Inspection"
  | 3 => .object "SharedTrees$Maps"
  | _ => .object "SharedTrees$Maps"
theorem nn_S : ∀ a, a < 5 → ∀ b, b < 5 → a ≠ b → (Fn_S a).2.1 ≠ (Fn_S b).2.1 := by decide +kernel
theorem to_S : ∀ k, k < 5 → parseFieldDescriptor (Fn_S k).2.2.1 = some (Tn_S k) := by decide +kernel
def Fn_B : u_T := fun k => match k with
  | 0 => ("SharedTrees$Blocks", "width", "I", true)
  | 1 => ("SharedTrees$Blocks", "ways", "[I", true)
  | 2 => ("SharedTrees$Blocks", "levels", "[I", true)
  | 3 => ("SharedTrees$Blocks", "sizes", "[I", true)
  | 4 => ("SharedTrees$Blocks", "entryKeys", "[I", true)
  | 5 => ("SharedTrees$Blocks", "entryGoals", "[I", true)
  | 6 => ("SharedTrees$Blocks", "free", "[I", true)
  | _ => ("SharedTrees$Blocks", "freeCount", "I", false)
def Tn_B : Nat → FieldType := fun k => match k with
  | 0 => .int
  | 1 => .array .int
  | 2 => .array .int
  | 3 => .array .int
  | 4 => .array .int
  | 5 => .array .int
  | 6 => .array .int
  | _ => .int
theorem nn_B : ∀ a, a < 8 → ∀ b, b < 8 → a ≠ b → (Fn_B a).2.1 ≠ (Fn_B b).2.1 := by decide +kernel
theorem to_B : ∀ k, k < 8 → parseFieldDescriptor (Fn_B k).2.2.1 = some (Tn_B k) := by decide +kernel
def Fn_T : u_T := fun k => match k with
  | 0 => ("SharedTrees$Trees", "blocks", "LSharedTrees$Blocks;", true)
  | 1 => ("SharedTrees$Trees", "most", "I", true)
  | _ => ("SharedTrees$Trees", "least", "I", true)
def Tn_T : Nat → FieldType := fun k => match k with
  | 0 => .object "SharedTrees$Blocks"
  | 1 => .int
  | _ => .int
theorem nn_T : ∀ a, a < 3 → ∀ b, b < 3 → a ≠ b → (Fn_T a).2.1 ≠ (Fn_T b).2.1 := by decide +kernel
theorem to_T : ∀ k, k < 3 → parseFieldDescriptor (Fn_T k).2.2.1 = some (Tn_T k) := by decide +kernel
def Fn_I : u_T := fun k => match k with
  | 0 => ("SharedTrees$Inspection", "blocks", "LSharedTrees$Blocks;", true)
  | 1 => ("SharedTrees$Inspection", "most", "I", true)
  | 2 => ("SharedTrees$Inspection", "least", "I", true)
  | 3 => ("SharedTrees$Inspection", "found", "[I", true)
  | 4 => ("SharedTrees$Inspection", "keysBelow", "[I", true)
  | 5 => ("SharedTrees$Inspection", "lastKeys", "[I", true)
  | _ => ("SharedTrees$Inspection", "listed", "[Z", true)
def Tn_I : Nat → FieldType := fun k => match k with
  | 0 => .object "SharedTrees$Blocks"
  | 1 => .int
  | 2 => .int
  | 3 => .array .int
  | 4 => .array .int
  | 5 => .array .int
  | _ => .array .boolean
theorem nn_I : ∀ a, a < 7 → ∀ b, b < 7 → a ≠ b → (Fn_I a).2.1 ≠ (Fn_I b).2.1 := by decide +kernel
theorem to_I : ∀ k, k < 7 → parseFieldDescriptor (Fn_I k).2.2.1 = some (Tn_I k) := by decide +kernel
def Fn_P : u_T := fun k => match k with
  | 0 => ("SharedTrees$Maps", "roots", "[I", true)
  | 1 => ("SharedTrees$Maps", "counts", "[I", true)
  | _ => ("SharedTrees$Maps", "total", "I", false)
def Tn_P : Nat → FieldType := fun k => match k with
  | 0 => .array .int
  | 1 => .array .int
  | _ => .int
theorem nn_P : ∀ a, a < 3 → ∀ b, b < 3 → a ≠ b → (Fn_P a).2.1 ≠ (Fn_P b).2.1 := by decide +kernel
theorem to_P : ∀ k, k < 3 → parseFieldDescriptor (Fn_P k).2.2.1 = some (Tn_P k) := by decide +kernel
def Fn_R : u_T := fun k => match k with
  | 0 => ("SharedTreesModel", "stamps", "[I", true)
  | 1 => ("SharedTreesModel", "kept", "[I", true)
  | 2 => ("SharedTreesModel", "counts", "[I", true)
  | _ => ("SharedTreesModel", "keptCounts", "[I", true)
def Tn_R : Nat → FieldType := fun k => match k with
  | 0 => .array .int
  | 1 => .array .int
  | 2 => .array .int
  | _ => .array .int
theorem nn_R : ∀ a, a < 4 → ∀ b, b < 4 → a ≠ b → (Fn_R a).2.1 ≠ (Fn_R b).2.1 := by decide +kernel
theorem to_R : ∀ k, k < 4 → parseFieldDescriptor (Fn_R k).2.2.1 = some (Tn_R k) := by decide +kernel
abbrev sC_ : List vw_C := [(Rn_S, Fn_S, 5), (Rn_B, Fn_B, 8), (Rn_T, Fn_T, 3), (Rn_I, Fn_I, 7), (Rn_P, Fn_P, 3), (Rn_R, Fn_R, 4)]
def nh_ : String := "SharedTrees"
abbrev bc_S_init : ByteArray := prog_1_method_1_code
def yn_S_init : MethodName := ⟨Rn_S, "<init>", "(I)V"⟩
abbrev bc_S_write : ByteArray := prog_1_method_2_code
def yn_S_write : MethodName := ⟨Rn_S, "write", "(III)I"⟩
abbrev bc_S_spread : ByteArray := prog_1_method_3_code
def yn_S_spread : MethodName := ⟨Rn_S, "spread", "(IIIII)I"⟩
abbrev bc_S_read : ByteArray := prog_1_method_4_code
def yn_S_read : MethodName := ⟨Rn_S, "read", "(II)I"⟩
abbrev bc_S_erase : ByteArray := prog_1_method_5_code
def yn_S_erase : MethodName := ⟨Rn_S, "erase", "(II)I"⟩
abbrev bc_S_cut : ByteArray := prog_1_method_6_code
def yn_S_cut : MethodName := ⟨Rn_S, "cut", "(III)I"⟩
abbrev bc_S_next : ByteArray := prog_1_method_7_code
def yn_S_next : MethodName := ⟨Rn_S, "next", "(II)I"⟩
abbrev bc_S_clone : ByteArray := prog_1_method_8_code
def yn_S_clone : MethodName := ⟨Rn_S, "clone", "(II)I"⟩
abbrev bc_S_drop : ByteArray := prog_1_method_9_code
def yn_S_drop : MethodName := ⟨Rn_S, "drop", "(I)I"⟩
abbrev bc_S_keep : ByteArray := prog_1_method_10_code
def yn_S_keep : MethodName := ⟨Rn_S, "keep", "()I"⟩
abbrev bc_S_back : ByteArray := prog_1_method_11_code
def yn_S_back : MethodName := ⟨Rn_S, "back", "()I"⟩
abbrev bc_S_keys : ByteArray := prog_1_method_12_code
def yn_S_keys : MethodName := ⟨Rn_S, "keys", "(I)I"⟩
abbrev bc_S_check : ByteArray := prog_1_method_13_code
def yn_S_check : MethodName := ⟨Rn_S, "check", "()I"⟩
abbrev bc_S_isMap : ByteArray := prog_1_method_14_code
def yn_S_isMap : MethodName := ⟨Rn_S, "isMap", "(I)Z"⟩
abbrev bc_S_isKey : ByteArray := prog_1_method_15_code
def yn_S_isKey : MethodName := ⟨Rn_S, "isKey", "(I)Z"⟩
abbrev bc_S_isStamp : ByteArray := prog_1_method_16_code
def yn_S_isStamp : MethodName := ⟨Rn_S, "isStamp", "(I)Z"⟩
abbrev bc_S_leastEntries : ByteArray := prog_1_method_17_code
def yn_S_leastEntries : MethodName := ⟨Rn_S, "leastEntries", "(I)I"⟩
abbrev bc_S_removeKey : ByteArray := prog_1_method_18_code
def yn_S_removeKey : MethodName := ⟨Rn_S, "removeKey", "(II)V"⟩
abbrev bc_S_leadAll : ByteArray := prog_1_method_19_code
def yn_S_leadAll : MethodName := ⟨Rn_S, "leadAll", "(LSharedTrees$Maps;LSharedTrees$Maps;)V"⟩
abbrev bc_S_lead : ByteArray := prog_1_method_20_code
def yn_S_lead : MethodName := ⟨Rn_S, "lead", "(LSharedTrees$Maps;III)V"⟩
abbrev bc_B_init : ByteArray := prog_2_method_1_code
def yn_B_init : MethodName := ⟨Rn_B, "<init>", "(I)V"⟩
abbrev bc_B_isBlock : ByteArray := prog_2_method_2_code
def yn_B_isBlock : MethodName := ⟨Rn_B, "isBlock", "(I)Z"⟩
abbrev bc_B_ways : ByteArray := prog_2_method_3_code
def yn_B_ways : MethodName := ⟨Rn_B, "ways", "(I)I"⟩
abbrev bc_B_level : ByteArray := prog_2_method_4_code
def yn_B_level : MethodName := ⟨Rn_B, "level", "(I)I"⟩
abbrev bc_B_size : ByteArray := prog_2_method_5_code
def yn_B_size : MethodName := ⟨Rn_B, "size", "(I)I"⟩
abbrev bc_B_key : ByteArray := prog_2_method_6_code
def yn_B_key : MethodName := ⟨Rn_B, "key", "(II)I"⟩
abbrev bc_B_goal : ByteArray := prog_2_method_7_code
def yn_B_goal : MethodName := ⟨Rn_B, "goal", "(II)I"⟩
abbrev bc_B_setKey : ByteArray := prog_2_method_8_code
def yn_B_setKey : MethodName := ⟨Rn_B, "setKey", "(III)V"⟩
abbrev bc_B_setGoal : ByteArray := prog_2_method_9_code
def yn_B_setGoal : MethodName := ⟨Rn_B, "setGoal", "(III)V"⟩
abbrev bc_B_freeCount : ByteArray := prog_2_method_10_code
def yn_B_freeCount : MethodName := ⟨Rn_B, "freeCount", "()I"⟩
abbrev bc_B_freeBlock : ByteArray := prog_2_method_11_code
def yn_B_freeBlock : MethodName := ⟨Rn_B, "freeBlock", "(I)I"⟩
abbrev bc_B_isEntry : ByteArray := prog_2_method_12_code
def yn_B_isEntry : MethodName := ⟨Rn_B, "isEntry", "(II)Z"⟩
abbrev bc_B_slotOf : ByteArray := prog_2_method_13_code
def yn_B_slotOf : MethodName := ⟨Rn_B, "slotOf", "(II)I"⟩
abbrev bc_B_take : ByteArray := prog_2_method_14_code
def yn_B_take : MethodName := ⟨Rn_B, "take", "(I)I"⟩
abbrev bc_B_give : ByteArray := prog_2_method_15_code
def yn_B_give : MethodName := ⟨Rn_B, "give", "(I)V"⟩
abbrev bc_B_share : ByteArray := prog_2_method_16_code
def yn_B_share : MethodName := ⟨Rn_B, "share", "(I)V"⟩
abbrev bc_B_lose : ByteArray := prog_2_method_17_code
def yn_B_lose : MethodName := ⟨Rn_B, "lose", "(I)Z"⟩
abbrev bc_B_owned : ByteArray := prog_2_method_18_code
def yn_B_owned : MethodName := ⟨Rn_B, "owned", "(I)I"⟩
abbrev bc_B_insert : ByteArray := prog_2_method_19_code
def yn_B_insert : MethodName := ⟨Rn_B, "insert", "(IIII)V"⟩
abbrev bc_B_remove : ByteArray := prog_2_method_20_code
def yn_B_remove : MethodName := ⟨Rn_B, "remove", "(II)V"⟩
abbrev bc_B_moveTail : ByteArray := prog_2_method_21_code
def yn_B_moveTail : MethodName := ⟨Rn_B, "moveTail", "(III)V"⟩
abbrev bc_T_init : ByteArray := prog_5_method_1_code
def yn_T_init : MethodName := ⟨Rn_T, "<init>", "(LSharedTrees$Blocks;I)V"⟩
abbrev bc_T_stampOf : ByteArray := prog_5_method_2_code
def yn_T_stampOf : MethodName := ⟨Rn_T, "stampOf", "(II)I"⟩
abbrev bc_T_keyFrom : ByteArray := prog_5_method_3_code
def yn_T_keyFrom : MethodName := ⟨Rn_T, "keyFrom", "(II)I"⟩
abbrev bc_T_keyOr : ByteArray := prog_5_method_4_code
def yn_T_keyOr : MethodName := ⟨Rn_T, "keyOr", "(III)I"⟩
abbrev bc_T_slotToward : ByteArray := prog_5_method_5_code
def yn_T_slotToward : MethodName := ⟨Rn_T, "slotToward", "(II)I"⟩
abbrev bc_T_with : ByteArray := prog_5_method_6_code
def yn_T_with : MethodName := ⟨Rn_T, "with", "(III)I"⟩
abbrev bc_T_putBelow : ByteArray := prog_5_method_7_code
def yn_T_putBelow : MethodName := ⟨Rn_T, "putBelow", "(IIII)V"⟩
abbrev bc_T_putInLeaf : ByteArray := prog_5_method_8_code
def yn_T_putInLeaf : MethodName := ⟨Rn_T, "putInLeaf", "(III)V"⟩
abbrev bc_T_ownedChild : ByteArray := prog_5_method_9_code
def yn_T_ownedChild : MethodName := ⟨Rn_T, "ownedChild", "(II)I"⟩
abbrev bc_T_split : ByteArray := prog_5_method_10_code
def yn_T_split : MethodName := ⟨Rn_T, "split", "(II)V"⟩
abbrev bc_T_grown : ByteArray := prog_5_method_11_code
def yn_T_grown : MethodName := ⟨Rn_T, "grown", "(I)I"⟩
abbrev bc_T_without : ByteArray := prog_5_method_12_code
def yn_T_without : MethodName := ⟨Rn_T, "without", "(II)I"⟩
abbrev bc_T_removeBelow : ByteArray := prog_5_method_13_code
def yn_T_removeBelow : MethodName := ⟨Rn_T, "removeBelow", "(III)V"⟩
abbrev bc_T_fill : ByteArray := prog_5_method_14_code
def yn_T_fill : MethodName := ⟨Rn_T, "fill", "(II)V"⟩
abbrev bc_T_moveEntry : ByteArray := prog_5_method_15_code
def yn_T_moveEntry : MethodName := ⟨Rn_T, "moveEntry", "(IIII)V"⟩
abbrev bc_T_shrunk : ByteArray := prog_5_method_16_code
def yn_T_shrunk : MethodName := ⟨Rn_T, "shrunk", "(I)I"⟩
abbrev bc_T_release : ByteArray := prog_5_method_17_code
def yn_T_release : MethodName := ⟨Rn_T, "release", "(I)V"⟩
abbrev bc_T_releaseBelow : ByteArray := prog_5_method_18_code
def yn_T_releaseBelow : MethodName := ⟨Rn_T, "releaseBelow", "(II)V"⟩
abbrev bc_I_init : ByteArray := prog_3_method_1_code
def yn_I_init : MethodName := ⟨Rn_I, "<init>", "(LSharedTrees$Blocks;I)V"⟩
abbrev bc_I_firstFault : ByteArray := prog_3_method_2_code
def yn_I_firstFault : MethodName := ⟨Rn_I, "firstFault", "(LSharedTrees$Maps;LSharedTrees$Maps;)I"⟩
abbrev bc_I_faultOfMaps : ByteArray := prog_3_method_3_code
def yn_I_faultOfMaps : MethodName := ⟨Rn_I, "faultOfMaps", "(LSharedTrees$Maps;I)I"⟩
abbrev bc_I_faultOfTree : ByteArray := prog_3_method_4_code
def yn_I_faultOfTree : MethodName := ⟨Rn_I, "faultOfTree", "(III)I"⟩
abbrev bc_I_faultBelow : ByteArray := prog_3_method_5_code
def yn_I_faultBelow : MethodName := ⟨Rn_I, "faultBelow", "(II)I"⟩
abbrev bc_I_hasOrder : ByteArray := prog_3_method_6_code
def yn_I_hasOrder : MethodName := ⟨Rn_I, "hasOrder", "(I)Z"⟩
abbrev bc_I_faultOfLeaf : ByteArray := prog_3_method_7_code
def yn_I_faultOfLeaf : MethodName := ⟨Rn_I, "faultOfLeaf", "(I)I"⟩
abbrev bc_I_faultOfNode : ByteArray := prog_3_method_8_code
def yn_I_faultOfNode : MethodName := ⟨Rn_I, "faultOfNode", "(II)I"⟩
abbrev bc_I_faultOfFree : ByteArray := prog_3_method_9_code
def yn_I_faultOfFree : MethodName := ⟨Rn_I, "faultOfFree", "()I"⟩
abbrev bc_I_faultOfWays : ByteArray := prog_3_method_10_code
def yn_I_faultOfWays : MethodName := ⟨Rn_I, "faultOfWays", "()I"⟩
abbrev bc_P_init : ByteArray := prog_4_method_1_code
def yn_P_init : MethodName := ⟨Rn_P, "<init>", "()V"⟩
abbrev bc_R_init : ByteArray := prog_7_method_1_code
def yn_R_init : MethodName := ⟨Rn_R, "<init>", "(I)V"⟩
abbrev bc_R_isMap : ByteArray := prog_7_method_3_code
def yn_R_isMap : MethodName := ⟨Rn_R, "isMap", "(I)Z"⟩
abbrev bc_R_isKey : ByteArray := prog_7_method_4_code
def yn_R_isKey : MethodName := ⟨Rn_R, "isKey", "(I)Z"⟩
abbrev bc_R_isStamp : ByteArray := prog_7_method_5_code
def yn_R_isStamp : MethodName := ⟨Rn_R, "isStamp", "(I)Z"⟩
abbrev bc_R_all : ByteArray := prog_7_method_6_code
def yn_R_all : MethodName := ⟨Rn_R, "all", "()I"⟩
abbrev bc_R_write : ByteArray := prog_7_method_7_code
def yn_R_write : MethodName := ⟨Rn_R, "write", "(III)I"⟩
abbrev bc_R_spread : ByteArray := prog_7_method_8_code
def yn_R_spread : MethodName := ⟨Rn_R, "spread", "(IIIII)I"⟩
abbrev bc_R_read : ByteArray := prog_7_method_9_code
def yn_R_read : MethodName := ⟨Rn_R, "read", "(II)I"⟩
abbrev bc_R_erase : ByteArray := prog_7_method_10_code
def yn_R_erase : MethodName := ⟨Rn_R, "erase", "(II)I"⟩
abbrev bc_R_cut : ByteArray := prog_7_method_11_code
def yn_R_cut : MethodName := ⟨Rn_R, "cut", "(III)I"⟩
abbrev bc_R_next : ByteArray := prog_7_method_12_code
def yn_R_next : MethodName := ⟨Rn_R, "next", "(II)I"⟩
abbrev bc_R_clone : ByteArray := prog_7_method_13_code
def yn_R_clone : MethodName := ⟨Rn_R, "clone", "(II)I"⟩
abbrev bc_R_drop : ByteArray := prog_7_method_14_code
def yn_R_drop : MethodName := ⟨Rn_R, "drop", "(I)I"⟩
abbrev bc_R_keep : ByteArray := prog_7_method_15_code
def yn_R_keep : MethodName := ⟨Rn_R, "keep", "()I"⟩
abbrev bc_R_back : ByteArray := prog_7_method_16_code
def yn_R_back : MethodName := ⟨Rn_R, "back", "()I"⟩
abbrev bc_R_keys : ByteArray := prog_7_method_17_code
def yn_R_keys : MethodName := ⟨Rn_R, "keys", "(I)I"⟩
abbrev bc_R_check : ByteArray := prog_7_method_18_code
def yn_R_check : MethodName := ⟨Rn_R, "check", "()I"⟩
abbrev bc_L_cell : ByteArray := method_2_code
def yn_L_cell : MethodName := ⟨Rn_L, "cell", "([II)I"⟩
abbrev bc_L_law : ByteArray := code
def yn_L_law : MethodName := ⟨Rn_L, "law", "([I)Z"⟩
abbrev St_ : Type := Nat → Nat → Int32
def ws_1 (st : St_) (k i : Nat) (x : Int32) : St_ := va_up st k (upd (st k) i x)
def ws_c (st : St_) (k j sp dp n : Nat) : St_ := va_up st j (va_cpy (st k) (st j) sp dp n)
def wl_ (w k : Nat) : Nat := match k with
  | 0 => 1201
  | 1 => 1201
  | 2 => 1201
  | 3 => 1201 * w
  | 4 => 1201 * w
  | 5 => 1200
  | 6 => 1201
  | 7 => 1201
  | 8 => 1201
  | 9 => 1201
  | 10 => 8
  | 11 => 8
  | 12 => 8
  | 13 => 8
  | 14 => 32768
  | 15 => 32768
  | 16 => 8
  | _ => 8
def wd_ (ad : Nat → Nat) (cA : Nat → ClassId) (w : Nat) (st : St_) : va_W := [(ad 0, .inl (cA 0, 1201, .inl (st 0))),
  (ad 1, .inl (cA 1, 1201, .inl (st 1))),
  (ad 2, .inl (cA 2, 1201, .inl (st 2))),
  (ad 3, .inl (cA 3, (1201 * w), .inl (st 3))),
  (ad 4, .inl (cA 4, (1201 * w), .inl (st 4))),
  (ad 5, .inl (cA 5, 1200, .inl (st 5))),
  (ad 6, .inl (cA 6, 1201, .inl (st 6))),
  (ad 7, .inl (cA 7, 1201, .inl (st 7))),
  (ad 8, .inl (cA 8, 1201, .inl (st 8))),
  (ad 9, .inl (cA 9, 1201, .inl (st 9))),
  (ad 10, .inl (cA 10, 8, .inl (st 10))),
  (ad 11, .inl (cA 11, 8, .inl (st 11))),
  (ad 12, .inl (cA 12, 8, .inl (st 12))),
  (ad 13, .inl (cA 13, 8, .inl (st 13))),
  (ad 14, .inl (cA 14, 32768, .inl (st 14))),
  (ad 15, .inl (cA 15, 32768, .inl (st 15))),
  (ad 16, .inl (cA 16, 8, .inl (st 16))),
  (ad 17, .inl (cA 17, 8, .inl (st 17))),
  (ad 18, .inr (0, [.ref (ad 19), .ref (ad 20), .ref (ad 21), .ref (ad 22), .ref (ad 23)])),
  (ad 19, .inr (1, [.int (nI w), .ref (ad 0), .ref (ad 1), .ref (ad 2), .ref (ad 3), .ref (ad 4), .ref (ad 5), .int (st 18 0)])),
  (ad 20, .inr (2, [.ref (ad 19), .int (nI (w - 1)), .int (nI (w / 2))])),
  (ad 21, .inr (3, [.ref (ad 19), .int (nI (w - 1)), .int (nI (w / 2)), .ref (ad 6), .ref (ad 7), .ref (ad 8), .ref (ad 9)])),
  (ad 22, .inr (4, [.ref (ad 10), .ref (ad 11), .int (st 19 0)])),
  (ad 23, .inr (4, [.ref (ad 12), .ref (ad 13), .int (st 20 0)])),
  (ad 24, .inr (5, [.ref (ad 14), .ref (ad 15), .ref (ad 16), .ref (ad 17)]))]
def ty_ (cA : Nat → ClassId) : List (ClassId × FieldType) := [(cA 0, .int), (cA 1, .int), (cA 2, .int), (cA 3, .int), (cA 4, .int), (cA 5, .int), (cA 6, .int), (cA 7, .int), (cA 8, .int), (cA 9, .boolean), (cA 10, .int), (cA 11, .int), (cA 12, .int), (cA 13, .int), (cA 14, .int), (cA 15, .int), (cA 16, .int), (cA 17, .int)]
end
section
theorem dc_S_write_0 : decode bc_S_write 0 = .ok (.iload_n 1, 1) := by decide +kernel
theorem dc_S_write_1 : decode bc_S_write 1 = .ok (.invokestatic 53, 3) := by decide +kernel
theorem dc_S_write_4 : decode bc_S_write 4 = .ok (.ifCond .eq 17, 3) := by decide +kernel
theorem dc_S_write_21 : decode bc_S_write 21 = .ok (.iconst (-1), 1) := by decide +kernel
theorem dc_S_write_22 : decode bc_S_write 22 = .ok (.ireturn, 1) := by decide +kernel
theorem dc_S_write_7 : decode bc_S_write 7 = .ok (.iload_n 2, 1) := by decide +kernel
theorem dc_S_write_8 : decode bc_S_write 8 = .ok (.invokestatic 57, 3) := by decide +kernel
theorem dc_S_write_11 : decode bc_S_write 11 = .ok (.ifCond .eq 10, 3) := by decide +kernel
theorem dc_S_write_14 : decode bc_S_write 14 = .ok (.iload_n 3, 1) := by decide +kernel
theorem dc_S_write_15 : decode bc_S_write 15 = .ok (.invokestatic 60, 3) := by decide +kernel
theorem dc_S_write_18 : decode bc_S_write 18 = .ok (.ifCond .ne 5, 3) := by decide +kernel
theorem dc_S_write_23 : decode bc_S_write 23 = .ok (.aload_n 0, 1) := by decide +kernel
theorem dc_S_write_24 : decode bc_S_write 24 = .ok (.getfield 32, 3) := by decide +kernel
theorem dc_S_write_27 : decode bc_S_write 27 = .ok (.aload_n 0, 1) := by decide +kernel
theorem dc_S_write_28 : decode bc_S_write 28 = .ok (.getfield 46, 3) := by decide +kernel
theorem dc_S_write_31 : decode bc_S_write 31 = .ok (.getfield 63, 3) := by decide +kernel
theorem dc_S_write_34 : decode bc_S_write 34 = .ok (.iload_n 1, 1) := by decide +kernel
theorem dc_S_write_35 : decode bc_S_write 35 = .ok (.iaload, 1) := by decide +kernel
theorem dc_S_write_36 : decode bc_S_write 36 = .ok (.iload_n 2, 1) := by decide +kernel
theorem dc_S_write_37 : decode bc_S_write 37 = .ok (.invokevirtual 67, 3) := by decide +kernel
theorem dc_S_write_40 : decode bc_S_write 40 = .ok (.bipush (-2), 2) := by decide +kernel
theorem dc_S_write_42 : decode bc_S_write 42 = .ok (.if_icmp .ne 7, 3) := by decide +kernel
theorem dc_S_write_49 : decode bc_S_write 49 = .ok (.iconst 0, 1) := by decide +kernel
theorem dc_S_write_50 : decode bc_S_write 50 = .ok (.istore 4, 2) := by decide +kernel
theorem dc_S_write_52 : decode bc_S_write 52 = .ok (.iload 4, 2) := by decide +kernel
theorem dc_S_write_54 : decode bc_S_write 54 = .ok (.ifCond .eq 19, 3) := by decide +kernel
theorem dc_S_write_73 : decode bc_S_write 73 = .ok (.aload_n 0, 1) := by decide +kernel
theorem dc_S_write_74 : decode bc_S_write 74 = .ok (.getfield 46, 3) := by decide +kernel
theorem dc_S_write_77 : decode bc_S_write 77 = .ok (.getfield 63, 3) := by decide +kernel
theorem dc_S_write_80 : decode bc_S_write 80 = .ok (.iload_n 1, 1) := by decide +kernel
theorem dc_S_write_81 : decode bc_S_write 81 = .ok (.aload_n 0, 1) := by decide +kernel
theorem dc_S_write_82 : decode bc_S_write 82 = .ok (.getfield 32, 3) := by decide +kernel
theorem dc_S_write_85 : decode bc_S_write 85 = .ok (.aload_n 0, 1) := by decide +kernel
theorem dc_S_write_86 : decode bc_S_write 86 = .ok (.getfield 46, 3) := by decide +kernel
theorem dc_S_write_89 : decode bc_S_write 89 = .ok (.getfield 63, 3) := by decide +kernel
theorem dc_S_write_92 : decode bc_S_write 92 = .ok (.iload_n 1, 1) := by decide +kernel
theorem dc_S_write_93 : decode bc_S_write 93 = .ok (.iaload, 1) := by decide +kernel
theorem dc_S_write_94 : decode bc_S_write 94 = .ok (.iload_n 2, 1) := by decide +kernel
theorem dc_S_write_95 : decode bc_S_write 95 = .ok (.iload_n 3, 1) := by decide +kernel
theorem dc_S_write_96 : decode bc_S_write 96 = .ok (.invokevirtual 74, 3) := by decide +kernel
theorem dc_S_write_99 : decode bc_S_write 99 = .ok (.iastore, 1) := by decide +kernel
theorem dc_S_write_100 : decode bc_S_write 100 = .ok (.iload 4, 2) := by decide +kernel
theorem dc_S_write_102 : decode bc_S_write 102 = .ok (.ifCond .eq 29, 3) := by decide +kernel
theorem dc_S_write_131 : decode bc_S_write 131 = .ok (.aload_n 0, 1) := by decide +kernel
theorem dc_S_write_132 : decode bc_S_write 132 = .ok (.getfield 46, 3) := by decide +kernel
theorem dc_S_write_135 : decode bc_S_write 135 = .ok (.getfield 78, 3) := by decide +kernel
theorem dc_S_write_138 : decode bc_S_write 138 = .ok (.iload_n 1, 1) := by decide +kernel
theorem dc_S_write_139 : decode bc_S_write 139 = .ok (.iaload, 1) := by decide +kernel
theorem dc_S_write_140 : decode bc_S_write 140 = .ok (.ireturn, 1) := by decide +kernel
theorem dc_S_write_45 : decode bc_S_write 45 = .ok (.iconst 1, 1) := by decide +kernel
theorem dc_S_write_46 : decode bc_S_write 46 = .ok (.goto 4, 3) := by decide +kernel
theorem dc_S_write_57 : decode bc_S_write 57 = .ok (.aload_n 0, 1) := by decide +kernel
theorem dc_S_write_58 : decode bc_S_write 58 = .ok (.getfield 46, 3) := by decide +kernel
theorem dc_S_write_61 : decode bc_S_write 61 = .ok (.getfield 70, 3) := by decide +kernel
theorem dc_S_write_64 : decode bc_S_write 64 = .ok (.sipush 600, 3) := by decide +kernel
theorem dc_S_write_67 : decode bc_S_write 67 = .ok (.if_icmp .lt 6, 3) := by decide +kernel
theorem dc_S_write_105 : decode bc_S_write 105 = .ok (.aload_n 0, 1) := by decide +kernel
theorem dc_S_write_106 : decode bc_S_write 106 = .ok (.getfield 46, 3) := by decide +kernel
theorem dc_S_write_109 : decode bc_S_write 109 = .ok (.getfield 78, 3) := by decide +kernel
theorem dc_S_write_112 : decode bc_S_write 112 = .ok (.iload_n 1, 1) := by decide +kernel
theorem dc_S_write_113 : decode bc_S_write 113 = .ok (.dup2, 1) := by decide +kernel
theorem dc_S_write_114 : decode bc_S_write 114 = .ok (.iaload, 1) := by decide +kernel
theorem dc_S_write_115 : decode bc_S_write 115 = .ok (.iconst 1, 1) := by decide +kernel
theorem dc_S_write_116 : decode bc_S_write 116 = .ok (.iadd, 1) := by decide +kernel
theorem dc_S_write_117 : decode bc_S_write 117 = .ok (.iastore, 1) := by decide +kernel
theorem dc_S_write_118 : decode bc_S_write 118 = .ok (.aload_n 0, 1) := by decide +kernel
theorem dc_S_write_119 : decode bc_S_write 119 = .ok (.getfield 46, 3) := by decide +kernel
theorem dc_S_write_122 : decode bc_S_write 122 = .ok (.dup, 1) := by decide +kernel
theorem dc_S_write_123 : decode bc_S_write 123 = .ok (.getfield 70, 3) := by decide +kernel
theorem dc_S_write_126 : decode bc_S_write 126 = .ok (.iconst 1, 1) := by decide +kernel
theorem dc_S_write_127 : decode bc_S_write 127 = .ok (.iadd, 1) := by decide +kernel
theorem dc_S_write_128 : decode bc_S_write 128 = .ok (.putfield 70, 3) := by decide +kernel
theorem dc_S_write_70 : decode bc_S_write 70 = .ok (.bipush (-3), 2) := by decide +kernel
theorem dc_S_write_72 : decode bc_S_write 72 = .ok (.ireturn, 1) := by decide +kernel
theorem dc_S_isMap_0 : decode bc_S_isMap 0 = .ok (.iload_n 0, 1) := by decide +kernel
theorem dc_S_isMap_1 : decode bc_S_isMap 1 = .ok (.ifCond .lt 13, 3) := by decide +kernel
theorem dc_S_isMap_14 : decode bc_S_isMap 14 = .ok (.iconst 0, 1) := by decide +kernel
theorem dc_S_isMap_15 : decode bc_S_isMap 15 = .ok (.ireturn, 1) := by decide +kernel
theorem dc_S_isMap_4 : decode bc_S_isMap 4 = .ok (.iload_n 0, 1) := by decide +kernel
theorem dc_S_isMap_5 : decode bc_S_isMap 5 = .ok (.bipush 8, 2) := by decide +kernel
theorem dc_S_isMap_7 : decode bc_S_isMap 7 = .ok (.if_icmp .ge 7, 3) := by decide +kernel
theorem dc_S_isMap_10 : decode bc_S_isMap 10 = .ok (.iconst 1, 1) := by decide +kernel
theorem dc_S_isMap_11 : decode bc_S_isMap 11 = .ok (.goto 4, 3) := by decide +kernel
theorem dc_S_isKey_0 : decode bc_S_isKey 0 = .ok (.iload_n 0, 1) := by decide +kernel
theorem dc_S_isKey_1 : decode bc_S_isKey 1 = .ok (.ifCond .lt 14, 3) := by decide +kernel
theorem dc_S_isKey_15 : decode bc_S_isKey 15 = .ok (.iconst 0, 1) := by decide +kernel
theorem dc_S_isKey_16 : decode bc_S_isKey 16 = .ok (.ireturn, 1) := by decide +kernel
theorem dc_S_isKey_4 : decode bc_S_isKey 4 = .ok (.iload_n 0, 1) := by decide +kernel
theorem dc_S_isKey_5 : decode bc_S_isKey 5 = .ok (.sipush 4095, 3) := by decide +kernel
theorem dc_S_isKey_8 : decode bc_S_isKey 8 = .ok (.if_icmp .gt 7, 3) := by decide +kernel
theorem dc_S_isKey_11 : decode bc_S_isKey 11 = .ok (.iconst 1, 1) := by decide +kernel
theorem dc_S_isKey_12 : decode bc_S_isKey 12 = .ok (.goto 4, 3) := by decide +kernel
theorem dc_S_isStamp_0 : decode bc_S_isStamp 0 = .ok (.iload_n 0, 1) := by decide +kernel
theorem dc_S_isStamp_1 : decode bc_S_isStamp 1 = .ok (.ifCond .lt 13, 3) := by decide +kernel
theorem dc_S_isStamp_14 : decode bc_S_isStamp 14 = .ok (.iconst 0, 1) := by decide +kernel
theorem dc_S_isStamp_15 : decode bc_S_isStamp 15 = .ok (.ireturn, 1) := by decide +kernel
theorem dc_S_isStamp_4 : decode bc_S_isStamp 4 = .ok (.iload_n 0, 1) := by decide +kernel
theorem dc_S_isStamp_5 : decode bc_S_isStamp 5 = .ok (.ldc 103, 2) := by decide +kernel
theorem dc_S_isStamp_7 : decode bc_S_isStamp 7 = .ok (.if_icmp .gt 7, 3) := by decide +kernel
theorem dc_S_isStamp_10 : decode bc_S_isStamp 10 = .ok (.iconst 1, 1) := by decide +kernel
theorem dc_S_isStamp_11 : decode bc_S_isStamp 11 = .ok (.goto 4, 3) := by decide +kernel
theorem dc_T_stampOf_0 : decode bc_T_stampOf 0 = .ok (.iload_n 1, 1) := by decide +kernel
theorem dc_T_stampOf_1 : decode bc_T_stampOf 1 = .ok (.istore_n 3, 1) := by decide +kernel
theorem dc_T_stampOf_2 : decode bc_T_stampOf 2 = .ok (.aload_n 0, 1) := by decide +kernel
theorem dc_T_stampOf_3 : decode bc_T_stampOf 3 = .ok (.getfield 9, 3) := by decide +kernel
theorem dc_T_stampOf_6 : decode bc_T_stampOf 6 = .ok (.iload_n 1, 1) := by decide +kernel
theorem dc_T_stampOf_7 : decode bc_T_stampOf 7 = .ok (.invokevirtual 26, 3) := by decide +kernel
theorem dc_T_stampOf_10 : decode bc_T_stampOf 10 = .ok (.istore 4, 2) := by decide +kernel
theorem dc_T_stampOf_12 : decode bc_T_stampOf 12 = .ok (.iload 4, 2) := by decide +kernel
theorem dc_T_stampOf_14 : decode bc_T_stampOf 14 = .ok (.ifCond .le 24, 3) := by decide +kernel
theorem dc_T_stampOf_38 : decode bc_T_stampOf 38 = .ok (.aload_n 0, 1) := by decide +kernel
theorem dc_T_stampOf_39 : decode bc_T_stampOf 39 = .ok (.getfield 9, 3) := by decide +kernel
theorem dc_T_stampOf_42 : decode bc_T_stampOf 42 = .ok (.iload_n 3, 1) := by decide +kernel
theorem dc_T_stampOf_43 : decode bc_T_stampOf 43 = .ok (.iload_n 2, 1) := by decide +kernel
theorem dc_T_stampOf_44 : decode bc_T_stampOf 44 = .ok (.invokevirtual 38, 3) := by decide +kernel
theorem dc_T_stampOf_47 : decode bc_T_stampOf 47 = .ok (.istore 4, 2) := by decide +kernel
theorem dc_T_stampOf_49 : decode bc_T_stampOf 49 = .ok (.aload_n 0, 1) := by decide +kernel
theorem dc_T_stampOf_50 : decode bc_T_stampOf 50 = .ok (.getfield 9, 3) := by decide +kernel
theorem dc_T_stampOf_53 : decode bc_T_stampOf 53 = .ok (.iload_n 3, 1) := by decide +kernel
theorem dc_T_stampOf_54 : decode bc_T_stampOf 54 = .ok (.iload 4, 2) := by decide +kernel
theorem dc_T_stampOf_56 : decode bc_T_stampOf 56 = .ok (.invokevirtual 41, 3) := by decide +kernel
theorem dc_T_stampOf_59 : decode bc_T_stampOf 59 = .ok (.iload_n 2, 1) := by decide +kernel
theorem dc_T_stampOf_60 : decode bc_T_stampOf 60 = .ok (.if_icmp .ne 16, 3) := by decide +kernel
theorem dc_T_stampOf_76 : decode bc_T_stampOf 76 = .ok (.bipush (-2), 2) := by decide +kernel
theorem dc_T_stampOf_78 : decode bc_T_stampOf 78 = .ok (.ireturn, 1) := by decide +kernel
theorem dc_T_stampOf_63 : decode bc_T_stampOf 63 = .ok (.aload_n 0, 1) := by decide +kernel
theorem dc_T_stampOf_64 : decode bc_T_stampOf 64 = .ok (.getfield 9, 3) := by decide +kernel
theorem dc_T_stampOf_67 : decode bc_T_stampOf 67 = .ok (.iload_n 3, 1) := by decide +kernel
theorem dc_T_stampOf_68 : decode bc_T_stampOf 68 = .ok (.iload 4, 2) := by decide +kernel
theorem dc_T_stampOf_70 : decode bc_T_stampOf 70 = .ok (.invokevirtual 35, 3) := by decide +kernel
theorem dc_T_stampOf_73 : decode bc_T_stampOf 73 = .ok (.goto 5, 3) := by decide +kernel
theorem dc_T_stampOf_17 : decode bc_T_stampOf 17 = .ok (.aload_n 0, 1) := by decide +kernel
theorem dc_T_stampOf_18 : decode bc_T_stampOf 18 = .ok (.getfield 9, 3) := by decide +kernel
theorem dc_T_stampOf_21 : decode bc_T_stampOf 21 = .ok (.iload_n 3, 1) := by decide +kernel
theorem dc_T_stampOf_22 : decode bc_T_stampOf 22 = .ok (.aload_n 0, 1) := by decide +kernel
theorem dc_T_stampOf_23 : decode bc_T_stampOf 23 = .ok (.iload_n 3, 1) := by decide +kernel
theorem dc_T_stampOf_24 : decode bc_T_stampOf 24 = .ok (.iload_n 2, 1) := by decide +kernel
theorem dc_T_stampOf_25 : decode bc_T_stampOf 25 = .ok (.invokevirtual 31, 3) := by decide +kernel
theorem dc_T_stampOf_28 : decode bc_T_stampOf 28 = .ok (.invokevirtual 35, 3) := by decide +kernel
theorem dc_T_stampOf_31 : decode bc_T_stampOf 31 = .ok (.istore_n 3, 1) := by decide +kernel
theorem dc_T_stampOf_32 : decode bc_T_stampOf 32 = .ok (.iinc 4 (-1), 3) := by decide +kernel
theorem dc_T_stampOf_35 : decode bc_T_stampOf 35 = .ok (.goto (-23), 3) := by decide +kernel
theorem dc_B_level_0 : decode bc_B_level 0 = .ok (.aload_n 0, 1) := by decide +kernel
theorem dc_B_level_1 : decode bc_B_level 1 = .ok (.iload_n 1, 1) := by decide +kernel
theorem dc_B_level_2 : decode bc_B_level 2 = .ok (.invokevirtual 37, 3) := by decide +kernel
theorem dc_B_level_5 : decode bc_B_level 5 = .ok (.ifCond .eq 12, 3) := by decide +kernel
theorem dc_B_level_17 : decode bc_B_level 17 = .ok (.iconst 0, 1) := by decide +kernel
theorem dc_B_level_18 : decode bc_B_level 18 = .ok (.ireturn, 1) := by decide +kernel
theorem dc_B_level_8 : decode bc_B_level 8 = .ok (.aload_n 0, 1) := by decide +kernel
theorem dc_B_level_9 : decode bc_B_level 9 = .ok (.getfield 15, 3) := by decide +kernel
theorem dc_B_level_12 : decode bc_B_level 12 = .ok (.iload_n 1, 1) := by decide +kernel
theorem dc_B_level_13 : decode bc_B_level 13 = .ok (.iaload, 1) := by decide +kernel
theorem dc_B_level_14 : decode bc_B_level 14 = .ok (.goto 4, 3) := by decide +kernel
theorem dc_B_isBlock_0 : decode bc_B_isBlock 0 = .ok (.iload_n 1, 1) := by decide +kernel
theorem dc_B_isBlock_1 : decode bc_B_isBlock 1 = .ok (.ifCond .le 14, 3) := by decide +kernel
theorem dc_B_isBlock_15 : decode bc_B_isBlock 15 = .ok (.iconst 0, 1) := by decide +kernel
theorem dc_B_isBlock_16 : decode bc_B_isBlock 16 = .ok (.ireturn, 1) := by decide +kernel
theorem dc_B_isBlock_4 : decode bc_B_isBlock 4 = .ok (.iload_n 1, 1) := by decide +kernel
theorem dc_B_isBlock_5 : decode bc_B_isBlock 5 = .ok (.sipush 1200, 3) := by decide +kernel
theorem dc_B_isBlock_8 : decode bc_B_isBlock 8 = .ok (.if_icmp .gt 7, 3) := by decide +kernel
theorem dc_B_isBlock_11 : decode bc_B_isBlock 11 = .ok (.iconst 1, 1) := by decide +kernel
theorem dc_B_isBlock_12 : decode bc_B_isBlock 12 = .ok (.goto 4, 3) := by decide +kernel
theorem dc_B_slotOf_0 : decode bc_B_slotOf 0 = .ok (.iconst (-1), 1) := by decide +kernel
theorem dc_B_slotOf_1 : decode bc_B_slotOf 1 = .ok (.istore_n 3, 1) := by decide +kernel
theorem dc_B_slotOf_2 : decode bc_B_slotOf 2 = .ok (.iload_n 1, 1) := by decide +kernel
theorem dc_B_slotOf_3 : decode bc_B_slotOf 3 = .ok (.aload_n 0, 1) := by decide +kernel
theorem dc_B_slotOf_4 : decode bc_B_slotOf 4 = .ok (.getfield 28, 3) := by decide +kernel
theorem dc_B_slotOf_7 : decode bc_B_slotOf 7 = .ok (.imul, 1) := by decide +kernel
theorem dc_B_slotOf_8 : decode bc_B_slotOf 8 = .ok (.istore 4, 2) := by decide +kernel
theorem dc_B_slotOf_10 : decode bc_B_slotOf 10 = .ok (.aload_n 0, 1) := by decide +kernel
theorem dc_B_slotOf_11 : decode bc_B_slotOf 11 = .ok (.iload_n 1, 1) := by decide +kernel
theorem dc_B_slotOf_12 : decode bc_B_slotOf 12 = .ok (.invokevirtual 45, 3) := by decide +kernel
theorem dc_B_slotOf_15 : decode bc_B_slotOf 15 = .ok (.aload_n 0, 1) := by decide +kernel
theorem dc_B_slotOf_16 : decode bc_B_slotOf 16 = .ok (.getfield 28, 3) := by decide +kernel
theorem dc_B_slotOf_19 : decode bc_B_slotOf 19 = .ok (.invokestatic 49, 3) := by decide +kernel
theorem dc_B_slotOf_22 : decode bc_B_slotOf 22 = .ok (.istore 5, 2) := by decide +kernel
theorem dc_B_slotOf_24 : decode bc_B_slotOf 24 = .ok (.iload_n 3, 1) := by decide +kernel
theorem dc_B_slotOf_25 : decode bc_B_slotOf 25 = .ok (.iconst 1, 1) := by decide +kernel
theorem dc_B_slotOf_26 : decode bc_B_slotOf 26 = .ok (.iadd, 1) := by decide +kernel
theorem dc_B_slotOf_27 : decode bc_B_slotOf 27 = .ok (.iload 5, 2) := by decide +kernel
theorem dc_B_slotOf_29 : decode bc_B_slotOf 29 = .ok (.if_icmp .ge 24, 3) := by decide +kernel
theorem dc_B_slotOf_53 : decode bc_B_slotOf 53 = .ok (.iload_n 3, 1) := by decide +kernel
theorem dc_B_slotOf_54 : decode bc_B_slotOf 54 = .ok (.ireturn, 1) := by decide +kernel
theorem dc_B_slotOf_32 : decode bc_B_slotOf 32 = .ok (.aload_n 0, 1) := by decide +kernel
theorem dc_B_slotOf_33 : decode bc_B_slotOf 33 = .ok (.getfield 31, 3) := by decide +kernel
theorem dc_B_slotOf_36 : decode bc_B_slotOf 36 = .ok (.iload 4, 2) := by decide +kernel
theorem dc_B_slotOf_38 : decode bc_B_slotOf 38 = .ok (.iload_n 3, 1) := by decide +kernel
theorem dc_B_slotOf_39 : decode bc_B_slotOf 39 = .ok (.iadd, 1) := by decide +kernel
theorem dc_B_slotOf_40 : decode bc_B_slotOf 40 = .ok (.iconst 1, 1) := by decide +kernel
theorem dc_B_slotOf_41 : decode bc_B_slotOf 41 = .ok (.iadd, 1) := by decide +kernel
theorem dc_B_slotOf_42 : decode bc_B_slotOf 42 = .ok (.iaload, 1) := by decide +kernel
theorem dc_B_slotOf_43 : decode bc_B_slotOf 43 = .ok (.iload_n 2, 1) := by decide +kernel
theorem dc_B_slotOf_44 : decode bc_B_slotOf 44 = .ok (.if_icmp .gt 9, 3) := by decide +kernel
theorem dc_B_slotOf_47 : decode bc_B_slotOf 47 = .ok (.iinc 3 1, 3) := by decide +kernel
theorem dc_B_slotOf_50 : decode bc_B_slotOf 50 = .ok (.goto (-26), 3) := by decide +kernel
theorem dc_B_size_0 : decode bc_B_size 0 = .ok (.aload_n 0, 1) := by decide +kernel
theorem dc_B_size_1 : decode bc_B_size 1 = .ok (.iload_n 1, 1) := by decide +kernel
theorem dc_B_size_2 : decode bc_B_size 2 = .ok (.invokevirtual 37, 3) := by decide +kernel
theorem dc_B_size_5 : decode bc_B_size 5 = .ok (.ifCond .eq 12, 3) := by decide +kernel
theorem dc_B_size_17 : decode bc_B_size 17 = .ok (.iconst 0, 1) := by decide +kernel
theorem dc_B_size_18 : decode bc_B_size 18 = .ok (.ireturn, 1) := by decide +kernel
theorem dc_B_size_8 : decode bc_B_size 8 = .ok (.aload_n 0, 1) := by decide +kernel
theorem dc_B_size_9 : decode bc_B_size 9 = .ok (.getfield 18, 3) := by decide +kernel
theorem dc_B_size_12 : decode bc_B_size 12 = .ok (.iload_n 1, 1) := by decide +kernel
theorem dc_B_size_13 : decode bc_B_size 13 = .ok (.iaload, 1) := by decide +kernel
theorem dc_B_size_14 : decode bc_B_size 14 = .ok (.goto 4, 3) := by decide +kernel
theorem dc_B_key_0 : decode bc_B_key 0 = .ok (.aload_n 0, 1) := by decide +kernel
theorem dc_B_key_1 : decode bc_B_key 1 = .ok (.iload_n 1, 1) := by decide +kernel
theorem dc_B_key_2 : decode bc_B_key 2 = .ok (.iload_n 2, 1) := by decide +kernel
theorem dc_B_key_3 : decode bc_B_key 3 = .ok (.invokevirtual 41, 3) := by decide +kernel
theorem dc_B_key_6 : decode bc_B_key 6 = .ok (.ifCond .eq 19, 3) := by decide +kernel
theorem dc_B_key_25 : decode bc_B_key 25 = .ok (.bipush (-2), 2) := by decide +kernel
theorem dc_B_key_27 : decode bc_B_key 27 = .ok (.ireturn, 1) := by decide +kernel
theorem dc_B_key_9 : decode bc_B_key 9 = .ok (.aload_n 0, 1) := by decide +kernel
theorem dc_B_key_10 : decode bc_B_key 10 = .ok (.getfield 31, 3) := by decide +kernel
theorem dc_B_key_13 : decode bc_B_key 13 = .ok (.iload_n 1, 1) := by decide +kernel
theorem dc_B_key_14 : decode bc_B_key 14 = .ok (.aload_n 0, 1) := by decide +kernel
theorem dc_B_key_15 : decode bc_B_key 15 = .ok (.getfield 28, 3) := by decide +kernel
theorem dc_B_key_18 : decode bc_B_key 18 = .ok (.imul, 1) := by decide +kernel
theorem dc_B_key_19 : decode bc_B_key 19 = .ok (.iload_n 2, 1) := by decide +kernel
theorem dc_B_key_20 : decode bc_B_key 20 = .ok (.iadd, 1) := by decide +kernel
theorem dc_B_key_21 : decode bc_B_key 21 = .ok (.iaload, 1) := by decide +kernel
theorem dc_B_key_22 : decode bc_B_key 22 = .ok (.goto 5, 3) := by decide +kernel
theorem dc_B_isEntry_0 : decode bc_B_isEntry 0 = .ok (.aload_n 0, 1) := by decide +kernel
theorem dc_B_isEntry_1 : decode bc_B_isEntry 1 = .ok (.iload_n 1, 1) := by decide +kernel
theorem dc_B_isEntry_2 : decode bc_B_isEntry 2 = .ok (.invokevirtual 37, 3) := by decide +kernel
theorem dc_B_isEntry_5 : decode bc_B_isEntry 5 = .ok (.ifCond .eq 29, 3) := by decide +kernel
theorem dc_B_isEntry_34 : decode bc_B_isEntry 34 = .ok (.iconst 0, 1) := by decide +kernel
theorem dc_B_isEntry_35 : decode bc_B_isEntry 35 = .ok (.ireturn, 1) := by decide +kernel
theorem dc_B_isEntry_8 : decode bc_B_isEntry 8 = .ok (.iload_n 2, 1) := by decide +kernel
theorem dc_B_isEntry_9 : decode bc_B_isEntry 9 = .ok (.ifCond .lt 25, 3) := by decide +kernel
theorem dc_B_isEntry_12 : decode bc_B_isEntry 12 = .ok (.iload_n 2, 1) := by decide +kernel
theorem dc_B_isEntry_13 : decode bc_B_isEntry 13 = .ok (.aload_n 0, 1) := by decide +kernel
theorem dc_B_isEntry_14 : decode bc_B_isEntry 14 = .ok (.getfield 28, 3) := by decide +kernel
theorem dc_B_isEntry_17 : decode bc_B_isEntry 17 = .ok (.if_icmp .ge 17, 3) := by decide +kernel
theorem dc_B_isEntry_20 : decode bc_B_isEntry 20 = .ok (.iload_n 2, 1) := by decide +kernel
theorem dc_B_isEntry_21 : decode bc_B_isEntry 21 = .ok (.aload_n 0, 1) := by decide +kernel
theorem dc_B_isEntry_22 : decode bc_B_isEntry 22 = .ok (.getfield 18, 3) := by decide +kernel
theorem dc_B_isEntry_25 : decode bc_B_isEntry 25 = .ok (.iload_n 1, 1) := by decide +kernel
theorem dc_B_isEntry_26 : decode bc_B_isEntry 26 = .ok (.iaload, 1) := by decide +kernel
theorem dc_B_isEntry_27 : decode bc_B_isEntry 27 = .ok (.if_icmp .ge 7, 3) := by decide +kernel
theorem dc_B_isEntry_30 : decode bc_B_isEntry 30 = .ok (.iconst 1, 1) := by decide +kernel
theorem dc_B_isEntry_31 : decode bc_B_isEntry 31 = .ok (.goto 4, 3) := by decide +kernel
theorem dc_B_goal_0 : decode bc_B_goal 0 = .ok (.aload_n 0, 1) := by decide +kernel
theorem dc_B_goal_1 : decode bc_B_goal 1 = .ok (.iload_n 1, 1) := by decide +kernel
theorem dc_B_goal_2 : decode bc_B_goal 2 = .ok (.iload_n 2, 1) := by decide +kernel
theorem dc_B_goal_3 : decode bc_B_goal 3 = .ok (.invokevirtual 41, 3) := by decide +kernel
theorem dc_B_goal_6 : decode bc_B_goal 6 = .ok (.ifCond .eq 19, 3) := by decide +kernel
theorem dc_B_goal_25 : decode bc_B_goal 25 = .ok (.iconst 0, 1) := by decide +kernel
theorem dc_B_goal_26 : decode bc_B_goal 26 = .ok (.ireturn, 1) := by decide +kernel
theorem dc_B_goal_9 : decode bc_B_goal 9 = .ok (.aload_n 0, 1) := by decide +kernel
theorem dc_B_goal_10 : decode bc_B_goal 10 = .ok (.getfield 34, 3) := by decide +kernel
theorem dc_B_goal_13 : decode bc_B_goal 13 = .ok (.iload_n 1, 1) := by decide +kernel
theorem dc_B_goal_14 : decode bc_B_goal 14 = .ok (.aload_n 0, 1) := by decide +kernel
theorem dc_B_goal_15 : decode bc_B_goal 15 = .ok (.getfield 28, 3) := by decide +kernel
theorem dc_B_goal_18 : decode bc_B_goal 18 = .ok (.imul, 1) := by decide +kernel
theorem dc_B_goal_19 : decode bc_B_goal 19 = .ok (.iload_n 2, 1) := by decide +kernel
theorem dc_B_goal_20 : decode bc_B_goal 20 = .ok (.iadd, 1) := by decide +kernel
theorem dc_B_goal_21 : decode bc_B_goal 21 = .ok (.iaload, 1) := by decide +kernel
theorem dc_B_goal_22 : decode bc_B_goal 22 = .ok (.goto 4, 3) := by decide +kernel
theorem dc_T_slotToward_0 : decode bc_T_slotToward 0 = .ok (.iconst 0, 1) := by decide +kernel
theorem dc_T_slotToward_1 : decode bc_T_slotToward 1 = .ok (.aload_n 0, 1) := by decide +kernel
theorem dc_T_slotToward_2 : decode bc_T_slotToward 2 = .ok (.getfield 9, 3) := by decide +kernel
theorem dc_T_slotToward_5 : decode bc_T_slotToward 5 = .ok (.iload_n 1, 1) := by decide +kernel
theorem dc_T_slotToward_6 : decode bc_T_slotToward 6 = .ok (.iload_n 2, 1) := by decide +kernel
theorem dc_T_slotToward_7 : decode bc_T_slotToward 7 = .ok (.invokevirtual 38, 3) := by decide +kernel
theorem dc_T_slotToward_10 : decode bc_T_slotToward 10 = .ok (.invokestatic 51, 3) := by decide +kernel
theorem dc_T_slotToward_13 : decode bc_T_slotToward 13 = .ok (.ireturn, 1) := by decide +kernel
theorem dc_T_with_0 : decode bc_T_with 0 = .ok (.iload_n 1, 1) := by decide +kernel
theorem dc_T_with_1 : decode bc_T_with 1 = .ok (.ifCond .ne 14, 3) := by decide +kernel
theorem dc_T_with_15 : decode bc_T_with 15 = .ok (.aload_n 0, 1) := by decide +kernel
theorem dc_T_with_16 : decode bc_T_with 16 = .ok (.getfield 9, 3) := by decide +kernel
theorem dc_T_with_19 : decode bc_T_with 19 = .ok (.iload_n 1, 1) := by decide +kernel
theorem dc_T_with_20 : decode bc_T_with 20 = .ok (.invokevirtual 59, 3) := by decide +kernel
theorem dc_T_with_23 : decode bc_T_with 23 = .ok (.istore 4, 2) := by decide +kernel
theorem dc_T_with_25 : decode bc_T_with 25 = .ok (.aload_n 0, 1) := by decide +kernel
theorem dc_T_with_26 : decode bc_T_with 26 = .ok (.iload 4, 2) := by decide +kernel
theorem dc_T_with_28 : decode bc_T_with 28 = .ok (.aload_n 0, 1) := by decide +kernel
theorem dc_T_with_29 : decode bc_T_with 29 = .ok (.getfield 9, 3) := by decide +kernel
theorem dc_T_with_32 : decode bc_T_with 32 = .ok (.iload 4, 2) := by decide +kernel
theorem dc_T_with_34 : decode bc_T_with 34 = .ok (.invokevirtual 26, 3) := by decide +kernel
theorem dc_T_with_37 : decode bc_T_with 37 = .ok (.iload_n 2, 1) := by decide +kernel
theorem dc_T_with_38 : decode bc_T_with 38 = .ok (.iload_n 3, 1) := by decide +kernel
theorem dc_T_with_39 : decode bc_T_with 39 = .ok (.invokevirtual 62, 3) := by decide +kernel
theorem dc_T_with_42 : decode bc_T_with 42 = .ok (.aload_n 0, 1) := by decide +kernel
theorem dc_T_with_43 : decode bc_T_with 43 = .ok (.getfield 9, 3) := by decide +kernel
theorem dc_T_with_46 : decode bc_T_with 46 = .ok (.iload 4, 2) := by decide +kernel
theorem dc_T_with_48 : decode bc_T_with 48 = .ok (.invokevirtual 48, 3) := by decide +kernel
theorem dc_T_with_51 : decode bc_T_with 51 = .ok (.aload_n 0, 1) := by decide +kernel
theorem dc_T_with_52 : decode bc_T_with 52 = .ok (.getfield 15, 3) := by decide +kernel
theorem dc_T_with_55 : decode bc_T_with 55 = .ok (.if_icmp .le 12, 3) := by decide +kernel
theorem dc_T_with_67 : decode bc_T_with 67 = .ok (.iload 4, 2) := by decide +kernel
theorem dc_T_with_69 : decode bc_T_with 69 = .ok (.ireturn, 1) := by decide +kernel
theorem dc_T_with_58 : decode bc_T_with 58 = .ok (.aload_n 0, 1) := by decide +kernel
theorem dc_T_with_59 : decode bc_T_with 59 = .ok (.iload 4, 2) := by decide +kernel
theorem dc_T_with_61 : decode bc_T_with 61 = .ok (.invokevirtual 66, 3) := by decide +kernel
theorem dc_T_with_64 : decode bc_T_with 64 = .ok (.goto 5, 3) := by decide +kernel
theorem dc_T_with_4 : decode bc_T_with 4 = .ok (.aload_n 0, 1) := by decide +kernel
theorem dc_T_with_5 : decode bc_T_with 5 = .ok (.getfield 9, 3) := by decide +kernel
theorem dc_T_with_8 : decode bc_T_with 8 = .ok (.iconst 0, 1) := by decide +kernel
theorem dc_T_with_9 : decode bc_T_with 9 = .ok (.invokevirtual 56, 3) := by decide +kernel
theorem dc_T_with_12 : decode bc_T_with 12 = .ok (.goto 11, 3) := by decide +kernel
theorem dc_B_owned_0 : decode bc_B_owned 0 = .ok (.aload_n 0, 1) := by decide +kernel
theorem dc_B_owned_1 : decode bc_B_owned 1 = .ok (.iload_n 1, 1) := by decide +kernel
theorem dc_B_owned_2 : decode bc_B_owned 2 = .ok (.invokevirtual 55, 3) := by decide +kernel
theorem dc_B_owned_5 : decode bc_B_owned 5 = .ok (.iconst 1, 1) := by decide +kernel
theorem dc_B_owned_6 : decode bc_B_owned 6 = .ok (.if_icmp .gt 5, 3) := by decide +kernel
theorem dc_B_owned_11 : decode bc_B_owned 11 = .ok (.aload_n 0, 1) := by decide +kernel
theorem dc_B_owned_12 : decode bc_B_owned 12 = .ok (.aload_n 0, 1) := by decide +kernel
theorem dc_B_owned_13 : decode bc_B_owned 13 = .ok (.iload_n 1, 1) := by decide +kernel
theorem dc_B_owned_14 : decode bc_B_owned 14 = .ok (.invokevirtual 57, 3) := by decide +kernel
theorem dc_B_owned_17 : decode bc_B_owned 17 = .ok (.invokevirtual 60, 3) := by decide +kernel
theorem dc_B_owned_20 : decode bc_B_owned 20 = .ok (.istore_n 2, 1) := by decide +kernel
theorem dc_B_owned_21 : decode bc_B_owned 21 = .ok (.iconst 0, 1) := by decide +kernel
theorem dc_B_owned_22 : decode bc_B_owned 22 = .ok (.istore_n 3, 1) := by decide +kernel
theorem dc_B_owned_23 : decode bc_B_owned 23 = .ok (.iload_n 3, 1) := by decide +kernel
theorem dc_B_owned_24 : decode bc_B_owned 24 = .ok (.aload_n 0, 1) := by decide +kernel
theorem dc_B_owned_25 : decode bc_B_owned 25 = .ok (.iload_n 1, 1) := by decide +kernel
theorem dc_B_owned_26 : decode bc_B_owned 26 = .ok (.invokevirtual 45, 3) := by decide +kernel
theorem dc_B_owned_29 : decode bc_B_owned 29 = .ok (.if_icmp .ge 45, 3) := by decide +kernel
theorem dc_B_owned_74 : decode bc_B_owned 74 = .ok (.aload_n 0, 1) := by decide +kernel
theorem dc_B_owned_75 : decode bc_B_owned 75 = .ok (.iload_n 1, 1) := by decide +kernel
theorem dc_B_owned_76 : decode bc_B_owned 76 = .ok (.invokevirtual 77, 3) := by decide +kernel
theorem dc_B_owned_79 : decode bc_B_owned 79 = .ok (.pop, 1) := by decide +kernel
theorem dc_B_owned_80 : decode bc_B_owned 80 = .ok (.iload_n 2, 1) := by decide +kernel
theorem dc_B_owned_81 : decode bc_B_owned 81 = .ok (.ireturn, 1) := by decide +kernel
theorem dc_B_owned_32 : decode bc_B_owned 32 = .ok (.aload_n 0, 1) := by decide +kernel
theorem dc_B_owned_33 : decode bc_B_owned 33 = .ok (.iload_n 2, 1) := by decide +kernel
theorem dc_B_owned_34 : decode bc_B_owned 34 = .ok (.iload_n 3, 1) := by decide +kernel
theorem dc_B_owned_35 : decode bc_B_owned 35 = .ok (.aload_n 0, 1) := by decide +kernel
theorem dc_B_owned_36 : decode bc_B_owned 36 = .ok (.iload_n 1, 1) := by decide +kernel
theorem dc_B_owned_37 : decode bc_B_owned 37 = .ok (.iload_n 3, 1) := by decide +kernel
theorem dc_B_owned_38 : decode bc_B_owned 38 = .ok (.invokevirtual 63, 3) := by decide +kernel
theorem dc_B_owned_41 : decode bc_B_owned 41 = .ok (.aload_n 0, 1) := by decide +kernel
theorem dc_B_owned_42 : decode bc_B_owned 42 = .ok (.iload_n 1, 1) := by decide +kernel
theorem dc_B_owned_43 : decode bc_B_owned 43 = .ok (.iload_n 3, 1) := by decide +kernel
theorem dc_B_owned_44 : decode bc_B_owned 44 = .ok (.invokevirtual 66, 3) := by decide +kernel
theorem dc_B_owned_47 : decode bc_B_owned 47 = .ok (.invokevirtual 69, 3) := by decide +kernel
theorem dc_B_owned_50 : decode bc_B_owned 50 = .ok (.aload_n 0, 1) := by decide +kernel
theorem dc_B_owned_51 : decode bc_B_owned 51 = .ok (.iload_n 1, 1) := by decide +kernel
theorem dc_B_owned_52 : decode bc_B_owned 52 = .ok (.invokevirtual 57, 3) := by decide +kernel
theorem dc_B_owned_55 : decode bc_B_owned 55 = .ok (.ifCond .le 13, 3) := by decide +kernel
theorem dc_B_owned_68 : decode bc_B_owned 68 = .ok (.iinc 3 1, 3) := by decide +kernel
theorem dc_B_owned_71 : decode bc_B_owned 71 = .ok (.goto (-48), 3) := by decide +kernel
theorem dc_B_owned_58 : decode bc_B_owned 58 = .ok (.aload_n 0, 1) := by decide +kernel
theorem dc_B_owned_59 : decode bc_B_owned 59 = .ok (.aload_n 0, 1) := by decide +kernel
theorem dc_B_owned_60 : decode bc_B_owned 60 = .ok (.iload_n 1, 1) := by decide +kernel
theorem dc_B_owned_61 : decode bc_B_owned 61 = .ok (.iload_n 3, 1) := by decide +kernel
theorem dc_B_owned_62 : decode bc_B_owned 62 = .ok (.invokevirtual 66, 3) := by decide +kernel
theorem dc_B_owned_65 : decode bc_B_owned 65 = .ok (.invokevirtual 73, 3) := by decide +kernel
theorem dc_B_owned_9 : decode bc_B_owned 9 = .ok (.iload_n 1, 1) := by decide +kernel
theorem dc_B_owned_10 : decode bc_B_owned 10 = .ok (.ireturn, 1) := by decide +kernel
theorem dc_B_ways_0 : decode bc_B_ways 0 = .ok (.aload_n 0, 1) := by decide +kernel
theorem dc_B_ways_1 : decode bc_B_ways 1 = .ok (.iload_n 1, 1) := by decide +kernel
theorem dc_B_ways_2 : decode bc_B_ways 2 = .ok (.invokevirtual 37, 3) := by decide +kernel
theorem dc_B_ways_5 : decode bc_B_ways 5 = .ok (.ifCond .eq 12, 3) := by decide +kernel
theorem dc_B_ways_17 : decode bc_B_ways 17 = .ok (.iconst 0, 1) := by decide +kernel
theorem dc_B_ways_18 : decode bc_B_ways 18 = .ok (.ireturn, 1) := by decide +kernel
theorem dc_B_ways_8 : decode bc_B_ways 8 = .ok (.aload_n 0, 1) := by decide +kernel
theorem dc_B_ways_9 : decode bc_B_ways 9 = .ok (.getfield 9, 3) := by decide +kernel
theorem dc_B_ways_12 : decode bc_B_ways 12 = .ok (.iload_n 1, 1) := by decide +kernel
theorem dc_B_ways_13 : decode bc_B_ways 13 = .ok (.iaload, 1) := by decide +kernel
theorem dc_B_ways_14 : decode bc_B_ways 14 = .ok (.goto 4, 3) := by decide +kernel
theorem dc_B_take_0 : decode bc_B_take 0 = .ok (.aload_n 0, 1) := by decide +kernel
theorem dc_B_take_1 : decode bc_B_take 1 = .ok (.getfield 24, 3) := by decide +kernel
theorem dc_B_take_4 : decode bc_B_take 4 = .ok (.ifCond .le 13, 3) := by decide +kernel
theorem dc_B_take_17 : decode bc_B_take 17 = .ok (.iconst 0, 1) := by decide +kernel
theorem dc_B_take_18 : decode bc_B_take 18 = .ok (.ireturn, 1) := by decide +kernel
theorem dc_B_take_7 : decode bc_B_take 7 = .ok (.aload_n 0, 1) := by decide +kernel
theorem dc_B_take_8 : decode bc_B_take 8 = .ok (.getfield 24, 3) := by decide +kernel
theorem dc_B_take_11 : decode bc_B_take 11 = .ok (.sipush 1200, 3) := by decide +kernel
theorem dc_B_take_14 : decode bc_B_take 14 = .ok (.if_icmp .le 5, 3) := by decide +kernel
theorem dc_B_take_19 : decode bc_B_take 19 = .ok (.aload_n 0, 1) := by decide +kernel
theorem dc_B_take_20 : decode bc_B_take 20 = .ok (.dup, 1) := by decide +kernel
theorem dc_B_take_21 : decode bc_B_take 21 = .ok (.getfield 24, 3) := by decide +kernel
theorem dc_B_take_24 : decode bc_B_take 24 = .ok (.iconst 1, 1) := by decide +kernel
theorem dc_B_take_25 : decode bc_B_take 25 = .ok (.isub, 1) := by decide +kernel
theorem dc_B_take_26 : decode bc_B_take 26 = .ok (.putfield 24, 3) := by decide +kernel
theorem dc_B_take_29 : decode bc_B_take 29 = .ok (.aload_n 0, 1) := by decide +kernel
theorem dc_B_take_30 : decode bc_B_take 30 = .ok (.getfield 21, 3) := by decide +kernel
theorem dc_B_take_33 : decode bc_B_take 33 = .ok (.aload_n 0, 1) := by decide +kernel
theorem dc_B_take_34 : decode bc_B_take 34 = .ok (.getfield 24, 3) := by decide +kernel
theorem dc_B_take_37 : decode bc_B_take 37 = .ok (.iaload, 1) := by decide +kernel
theorem dc_B_take_38 : decode bc_B_take 38 = .ok (.istore_n 2, 1) := by decide +kernel
theorem dc_B_take_39 : decode bc_B_take 39 = .ok (.aload_n 0, 1) := by decide +kernel
theorem dc_B_take_40 : decode bc_B_take 40 = .ok (.iload_n 2, 1) := by decide +kernel
theorem dc_B_take_41 : decode bc_B_take 41 = .ok (.invokevirtual 37, 3) := by decide +kernel
theorem dc_B_take_44 : decode bc_B_take 44 = .ok (.ifCond .eq 24, 3) := by decide +kernel
theorem dc_B_take_68 : decode bc_B_take 68 = .ok (.iload_n 2, 1) := by decide +kernel
theorem dc_B_take_69 : decode bc_B_take 69 = .ok (.ireturn, 1) := by decide +kernel
theorem dc_B_take_47 : decode bc_B_take 47 = .ok (.aload_n 0, 1) := by decide +kernel
theorem dc_B_take_48 : decode bc_B_take 48 = .ok (.getfield 9, 3) := by decide +kernel
theorem dc_B_take_51 : decode bc_B_take 51 = .ok (.iload_n 2, 1) := by decide +kernel
theorem dc_B_take_52 : decode bc_B_take 52 = .ok (.iconst 1, 1) := by decide +kernel
theorem dc_B_take_53 : decode bc_B_take 53 = .ok (.iastore, 1) := by decide +kernel
theorem dc_B_take_54 : decode bc_B_take 54 = .ok (.aload_n 0, 1) := by decide +kernel
theorem dc_B_take_55 : decode bc_B_take 55 = .ok (.getfield 15, 3) := by decide +kernel
theorem dc_B_take_58 : decode bc_B_take 58 = .ok (.iload_n 2, 1) := by decide +kernel
theorem dc_B_take_59 : decode bc_B_take 59 = .ok (.iload_n 1, 1) := by decide +kernel
theorem dc_B_take_60 : decode bc_B_take 60 = .ok (.iastore, 1) := by decide +kernel
end
section
theorem dc_B_take_61 : decode bc_B_take 61 = .ok (.aload_n 0, 1) := by decide +kernel
theorem dc_B_take_62 : decode bc_B_take 62 = .ok (.getfield 18, 3) := by decide +kernel
theorem dc_B_take_65 : decode bc_B_take 65 = .ok (.iload_n 2, 1) := by decide +kernel
theorem dc_B_take_66 : decode bc_B_take 66 = .ok (.iconst 0, 1) := by decide +kernel
theorem dc_B_take_67 : decode bc_B_take 67 = .ok (.iastore, 1) := by decide +kernel
theorem dc_B_lose_0 : decode bc_B_lose 0 = .ok (.aload_n 0, 1) := by decide +kernel
theorem dc_B_lose_1 : decode bc_B_lose 1 = .ok (.iload_n 1, 1) := by decide +kernel
theorem dc_B_lose_2 : decode bc_B_lose 2 = .ok (.invokevirtual 37, 3) := by decide +kernel
theorem dc_B_lose_5 : decode bc_B_lose 5 = .ok (.ifCond .eq 12, 3) := by decide +kernel
theorem dc_B_lose_17 : decode bc_B_lose 17 = .ok (.iconst 0, 1) := by decide +kernel
theorem dc_B_lose_18 : decode bc_B_lose 18 = .ok (.ireturn, 1) := by decide +kernel
theorem dc_B_lose_8 : decode bc_B_lose 8 = .ok (.aload_n 0, 1) := by decide +kernel
theorem dc_B_lose_9 : decode bc_B_lose 9 = .ok (.getfield 9, 3) := by decide +kernel
theorem dc_B_lose_12 : decode bc_B_lose 12 = .ok (.iload_n 1, 1) := by decide +kernel
theorem dc_B_lose_13 : decode bc_B_lose 13 = .ok (.iaload, 1) := by decide +kernel
theorem dc_B_lose_14 : decode bc_B_lose 14 = .ok (.ifCond .gt 5, 3) := by decide +kernel
theorem dc_B_lose_19 : decode bc_B_lose 19 = .ok (.aload_n 0, 1) := by decide +kernel
theorem dc_B_lose_20 : decode bc_B_lose 20 = .ok (.getfield 9, 3) := by decide +kernel
theorem dc_B_lose_23 : decode bc_B_lose 23 = .ok (.iload_n 1, 1) := by decide +kernel
theorem dc_B_lose_24 : decode bc_B_lose 24 = .ok (.dup2, 1) := by decide +kernel
theorem dc_B_lose_25 : decode bc_B_lose 25 = .ok (.iaload, 1) := by decide +kernel
theorem dc_B_lose_26 : decode bc_B_lose 26 = .ok (.iconst 1, 1) := by decide +kernel
theorem dc_B_lose_27 : decode bc_B_lose 27 = .ok (.isub, 1) := by decide +kernel
theorem dc_B_lose_28 : decode bc_B_lose 28 = .ok (.iastore, 1) := by decide +kernel
theorem dc_B_lose_29 : decode bc_B_lose 29 = .ok (.aload_n 0, 1) := by decide +kernel
theorem dc_B_lose_30 : decode bc_B_lose 30 = .ok (.getfield 9, 3) := by decide +kernel
theorem dc_B_lose_33 : decode bc_B_lose 33 = .ok (.iload_n 1, 1) := by decide +kernel
theorem dc_B_lose_34 : decode bc_B_lose 34 = .ok (.iaload, 1) := by decide +kernel
theorem dc_B_lose_35 : decode bc_B_lose 35 = .ok (.ifCond .ne 7, 3) := by decide +kernel
theorem dc_B_lose_42 : decode bc_B_lose 42 = .ok (.iconst 0, 1) := by decide +kernel
theorem dc_B_lose_43 : decode bc_B_lose 43 = .ok (.ireturn, 1) := by decide +kernel
theorem dc_B_lose_38 : decode bc_B_lose 38 = .ok (.iconst 1, 1) := by decide +kernel
theorem dc_B_lose_39 : decode bc_B_lose 39 = .ok (.goto 4, 3) := by decide +kernel
theorem dc_B_insert_0 : decode bc_B_insert 0 = .ok (.aload_n 0, 1) := by decide +kernel
theorem dc_B_insert_1 : decode bc_B_insert 1 = .ok (.iload_n 1, 1) := by decide +kernel
theorem dc_B_insert_2 : decode bc_B_insert 2 = .ok (.invokevirtual 45, 3) := by decide +kernel
theorem dc_B_insert_5 : decode bc_B_insert 5 = .ok (.istore 5, 2) := by decide +kernel
theorem dc_B_insert_7 : decode bc_B_insert 7 = .ok (.aload_n 0, 1) := by decide +kernel
theorem dc_B_insert_8 : decode bc_B_insert 8 = .ok (.iload_n 1, 1) := by decide +kernel
theorem dc_B_insert_9 : decode bc_B_insert 9 = .ok (.invokevirtual 37, 3) := by decide +kernel
theorem dc_B_insert_12 : decode bc_B_insert 12 = .ok (.ifCond .eq 22, 3) := by decide +kernel
theorem dc_B_insert_34 : decode bc_B_insert 34 = .ok (.return_, 1) := by decide +kernel
theorem dc_B_insert_15 : decode bc_B_insert 15 = .ok (.iload_n 2, 1) := by decide +kernel
theorem dc_B_insert_16 : decode bc_B_insert 16 = .ok (.ifCond .lt 18, 3) := by decide +kernel
theorem dc_B_insert_19 : decode bc_B_insert 19 = .ok (.iload_n 2, 1) := by decide +kernel
theorem dc_B_insert_20 : decode bc_B_insert 20 = .ok (.iload 5, 2) := by decide +kernel
theorem dc_B_insert_22 : decode bc_B_insert 22 = .ok (.if_icmp .gt 12, 3) := by decide +kernel
theorem dc_B_insert_25 : decode bc_B_insert 25 = .ok (.iload 5, 2) := by decide +kernel
theorem dc_B_insert_27 : decode bc_B_insert 27 = .ok (.aload_n 0, 1) := by decide +kernel
theorem dc_B_insert_28 : decode bc_B_insert 28 = .ok (.getfield 28, 3) := by decide +kernel
theorem dc_B_insert_31 : decode bc_B_insert 31 = .ok (.if_icmp .lt 4, 3) := by decide +kernel
theorem dc_B_insert_35 : decode bc_B_insert 35 = .ok (.iload_n 1, 1) := by decide +kernel
theorem dc_B_insert_36 : decode bc_B_insert 36 = .ok (.aload_n 0, 1) := by decide +kernel
theorem dc_B_insert_37 : decode bc_B_insert 37 = .ok (.getfield 28, 3) := by decide +kernel
theorem dc_B_insert_40 : decode bc_B_insert 40 = .ok (.imul, 1) := by decide +kernel
theorem dc_B_insert_41 : decode bc_B_insert 41 = .ok (.iload_n 2, 1) := by decide +kernel
theorem dc_B_insert_42 : decode bc_B_insert 42 = .ok (.iadd, 1) := by decide +kernel
theorem dc_B_insert_43 : decode bc_B_insert 43 = .ok (.istore 6, 2) := by decide +kernel
theorem dc_B_insert_45 : decode bc_B_insert 45 = .ok (.aload_n 0, 1) := by decide +kernel
theorem dc_B_insert_46 : decode bc_B_insert 46 = .ok (.getfield 31, 3) := by decide +kernel
theorem dc_B_insert_49 : decode bc_B_insert 49 = .ok (.iload 6, 2) := by decide +kernel
theorem dc_B_insert_51 : decode bc_B_insert 51 = .ok (.aload_n 0, 1) := by decide +kernel
theorem dc_B_insert_52 : decode bc_B_insert 52 = .ok (.getfield 31, 3) := by decide +kernel
theorem dc_B_insert_55 : decode bc_B_insert 55 = .ok (.iload 6, 2) := by decide +kernel
theorem dc_B_insert_57 : decode bc_B_insert 57 = .ok (.iconst 1, 1) := by decide +kernel
theorem dc_B_insert_58 : decode bc_B_insert 58 = .ok (.iadd, 1) := by decide +kernel
theorem dc_B_insert_59 : decode bc_B_insert 59 = .ok (.iload 5, 2) := by decide +kernel
theorem dc_B_insert_61 : decode bc_B_insert 61 = .ok (.iload_n 2, 1) := by decide +kernel
theorem dc_B_insert_62 : decode bc_B_insert 62 = .ok (.isub, 1) := by decide +kernel
theorem dc_B_insert_63 : decode bc_B_insert 63 = .ok (.invokestatic 80, 3) := by decide +kernel
theorem dc_B_insert_66 : decode bc_B_insert 66 = .ok (.aload_n 0, 1) := by decide +kernel
theorem dc_B_insert_67 : decode bc_B_insert 67 = .ok (.getfield 34, 3) := by decide +kernel
theorem dc_B_insert_70 : decode bc_B_insert 70 = .ok (.iload 6, 2) := by decide +kernel
theorem dc_B_insert_72 : decode bc_B_insert 72 = .ok (.aload_n 0, 1) := by decide +kernel
theorem dc_B_insert_73 : decode bc_B_insert 73 = .ok (.getfield 34, 3) := by decide +kernel
theorem dc_B_insert_76 : decode bc_B_insert 76 = .ok (.iload 6, 2) := by decide +kernel
theorem dc_B_insert_78 : decode bc_B_insert 78 = .ok (.iconst 1, 1) := by decide +kernel
theorem dc_B_insert_79 : decode bc_B_insert 79 = .ok (.iadd, 1) := by decide +kernel
theorem dc_B_insert_80 : decode bc_B_insert 80 = .ok (.iload 5, 2) := by decide +kernel
theorem dc_B_insert_82 : decode bc_B_insert 82 = .ok (.iload_n 2, 1) := by decide +kernel
theorem dc_B_insert_83 : decode bc_B_insert 83 = .ok (.isub, 1) := by decide +kernel
theorem dc_B_insert_84 : decode bc_B_insert 84 = .ok (.invokestatic 80, 3) := by decide +kernel
theorem dc_B_insert_87 : decode bc_B_insert 87 = .ok (.aload_n 0, 1) := by decide +kernel
theorem dc_B_insert_88 : decode bc_B_insert 88 = .ok (.getfield 31, 3) := by decide +kernel
theorem dc_B_insert_91 : decode bc_B_insert 91 = .ok (.iload 6, 2) := by decide +kernel
theorem dc_B_insert_93 : decode bc_B_insert 93 = .ok (.iload_n 3, 1) := by decide +kernel
theorem dc_B_insert_94 : decode bc_B_insert 94 = .ok (.iastore, 1) := by decide +kernel
theorem dc_B_insert_95 : decode bc_B_insert 95 = .ok (.aload_n 0, 1) := by decide +kernel
theorem dc_B_insert_96 : decode bc_B_insert 96 = .ok (.getfield 34, 3) := by decide +kernel
theorem dc_B_insert_99 : decode bc_B_insert 99 = .ok (.iload 6, 2) := by decide +kernel
theorem dc_B_insert_101 : decode bc_B_insert 101 = .ok (.iload 4, 2) := by decide +kernel
theorem dc_B_insert_103 : decode bc_B_insert 103 = .ok (.iastore, 1) := by decide +kernel
theorem dc_B_insert_104 : decode bc_B_insert 104 = .ok (.aload_n 0, 1) := by decide +kernel
theorem dc_B_insert_105 : decode bc_B_insert 105 = .ok (.getfield 18, 3) := by decide +kernel
theorem dc_B_insert_108 : decode bc_B_insert 108 = .ok (.iload_n 1, 1) := by decide +kernel
theorem dc_B_insert_109 : decode bc_B_insert 109 = .ok (.iload 5, 2) := by decide +kernel
theorem dc_B_insert_111 : decode bc_B_insert 111 = .ok (.iconst 1, 1) := by decide +kernel
theorem dc_B_insert_112 : decode bc_B_insert 112 = .ok (.iadd, 1) := by decide +kernel
theorem dc_B_insert_113 : decode bc_B_insert 113 = .ok (.iastore, 1) := by decide +kernel
theorem dc_B_insert_114 : decode bc_B_insert 114 = .ok (.return_, 1) := by decide +kernel
theorem dc_B_share_0 : decode bc_B_share 0 = .ok (.aload_n 0, 1) := by decide +kernel
theorem dc_B_share_1 : decode bc_B_share 1 = .ok (.iload_n 1, 1) := by decide +kernel
theorem dc_B_share_2 : decode bc_B_share 2 = .ok (.invokevirtual 37, 3) := by decide +kernel
theorem dc_B_share_5 : decode bc_B_share 5 = .ok (.ifCond .eq 13, 3) := by decide +kernel
theorem dc_B_share_18 : decode bc_B_share 18 = .ok (.return_, 1) := by decide +kernel
theorem dc_B_share_8 : decode bc_B_share 8 = .ok (.aload_n 0, 1) := by decide +kernel
theorem dc_B_share_9 : decode bc_B_share 9 = .ok (.getfield 9, 3) := by decide +kernel
theorem dc_B_share_12 : decode bc_B_share 12 = .ok (.iload_n 1, 1) := by decide +kernel
theorem dc_B_share_13 : decode bc_B_share 13 = .ok (.dup2, 1) := by decide +kernel
theorem dc_B_share_14 : decode bc_B_share 14 = .ok (.iaload, 1) := by decide +kernel
theorem dc_B_share_15 : decode bc_B_share 15 = .ok (.iconst 1, 1) := by decide +kernel
theorem dc_B_share_16 : decode bc_B_share 16 = .ok (.iadd, 1) := by decide +kernel
theorem dc_B_share_17 : decode bc_B_share 17 = .ok (.iastore, 1) := by decide +kernel
theorem dc_T_putBelow_0 : decode bc_T_putBelow 0 = .ok (.iload_n 2, 1) := by decide +kernel
theorem dc_T_putBelow_1 : decode bc_T_putBelow 1 = .ok (.bipush 16, 2) := by decide +kernel
theorem dc_T_putBelow_3 : decode bc_T_putBelow 3 = .ok (.if_icmp .le 4, 3) := by decide +kernel
theorem dc_T_putBelow_7 : decode bc_T_putBelow 7 = .ok (.iload_n 2, 1) := by decide +kernel
theorem dc_T_putBelow_8 : decode bc_T_putBelow 8 = .ok (.ifCond .gt 12, 3) := by decide +kernel
theorem dc_T_putBelow_20 : decode bc_T_putBelow 20 = .ok (.aload_n 0, 1) := by decide +kernel
theorem dc_T_putBelow_21 : decode bc_T_putBelow 21 = .ok (.iload_n 1, 1) := by decide +kernel
theorem dc_T_putBelow_22 : decode bc_T_putBelow 22 = .ok (.iload_n 3, 1) := by decide +kernel
theorem dc_T_putBelow_23 : decode bc_T_putBelow 23 = .ok (.invokevirtual 31, 3) := by decide +kernel
theorem dc_T_putBelow_26 : decode bc_T_putBelow 26 = .ok (.istore 5, 2) := by decide +kernel
theorem dc_T_putBelow_28 : decode bc_T_putBelow 28 = .ok (.aload_n 0, 1) := by decide +kernel
theorem dc_T_putBelow_29 : decode bc_T_putBelow 29 = .ok (.iload_n 1, 1) := by decide +kernel
theorem dc_T_putBelow_30 : decode bc_T_putBelow 30 = .ok (.iload 5, 2) := by decide +kernel
theorem dc_T_putBelow_32 : decode bc_T_putBelow 32 = .ok (.invokevirtual 73, 3) := by decide +kernel
theorem dc_T_putBelow_35 : decode bc_T_putBelow 35 = .ok (.istore 6, 2) := by decide +kernel
theorem dc_T_putBelow_37 : decode bc_T_putBelow 37 = .ok (.aload_n 0, 1) := by decide +kernel
theorem dc_T_putBelow_38 : decode bc_T_putBelow 38 = .ok (.iload 6, 2) := by decide +kernel
theorem dc_T_putBelow_40 : decode bc_T_putBelow 40 = .ok (.iload_n 2, 1) := by decide +kernel
theorem dc_T_putBelow_41 : decode bc_T_putBelow 41 = .ok (.iconst 1, 1) := by decide +kernel
theorem dc_T_putBelow_42 : decode bc_T_putBelow 42 = .ok (.isub, 1) := by decide +kernel
theorem dc_T_putBelow_43 : decode bc_T_putBelow 43 = .ok (.iload_n 3, 1) := by decide +kernel
theorem dc_T_putBelow_44 : decode bc_T_putBelow 44 = .ok (.iload 4, 2) := by decide +kernel
theorem dc_T_putBelow_46 : decode bc_T_putBelow 46 = .ok (.invokevirtual 62, 3) := by decide +kernel
theorem dc_T_putBelow_49 : decode bc_T_putBelow 49 = .ok (.aload_n 0, 1) := by decide +kernel
theorem dc_T_putBelow_50 : decode bc_T_putBelow 50 = .ok (.getfield 9, 3) := by decide +kernel
theorem dc_T_putBelow_53 : decode bc_T_putBelow 53 = .ok (.iload_n 1, 1) := by decide +kernel
theorem dc_T_putBelow_54 : decode bc_T_putBelow 54 = .ok (.iload 5, 2) := by decide +kernel
theorem dc_T_putBelow_56 : decode bc_T_putBelow 56 = .ok (.aload_n 0, 1) := by decide +kernel
theorem dc_T_putBelow_57 : decode bc_T_putBelow 57 = .ok (.getfield 9, 3) := by decide +kernel
theorem dc_T_putBelow_60 : decode bc_T_putBelow 60 = .ok (.iload 6, 2) := by decide +kernel
theorem dc_T_putBelow_62 : decode bc_T_putBelow 62 = .ok (.iconst 0, 1) := by decide +kernel
theorem dc_T_putBelow_63 : decode bc_T_putBelow 63 = .ok (.invokevirtual 41, 3) := by decide +kernel
theorem dc_T_putBelow_66 : decode bc_T_putBelow 66 = .ok (.invokevirtual 76, 3) := by decide +kernel
theorem dc_T_putBelow_69 : decode bc_T_putBelow 69 = .ok (.aload_n 0, 1) := by decide +kernel
theorem dc_T_putBelow_70 : decode bc_T_putBelow 70 = .ok (.getfield 9, 3) := by decide +kernel
theorem dc_T_putBelow_73 : decode bc_T_putBelow 73 = .ok (.iload 6, 2) := by decide +kernel
theorem dc_T_putBelow_75 : decode bc_T_putBelow 75 = .ok (.invokevirtual 48, 3) := by decide +kernel
theorem dc_T_putBelow_78 : decode bc_T_putBelow 78 = .ok (.aload_n 0, 1) := by decide +kernel
theorem dc_T_putBelow_79 : decode bc_T_putBelow 79 = .ok (.getfield 15, 3) := by decide +kernel
theorem dc_T_putBelow_82 : decode bc_T_putBelow 82 = .ok (.if_icmp .le 10, 3) := by decide +kernel
theorem dc_T_putBelow_92 : decode bc_T_putBelow 92 = .ok (.return_, 1) := by decide +kernel
theorem dc_T_putBelow_85 : decode bc_T_putBelow 85 = .ok (.aload_n 0, 1) := by decide +kernel
theorem dc_T_putBelow_86 : decode bc_T_putBelow 86 = .ok (.iload_n 1, 1) := by decide +kernel
theorem dc_T_putBelow_87 : decode bc_T_putBelow 87 = .ok (.iload 5, 2) := by decide +kernel
theorem dc_T_putBelow_89 : decode bc_T_putBelow 89 = .ok (.invokevirtual 79, 3) := by decide +kernel
theorem dc_T_putBelow_11 : decode bc_T_putBelow 11 = .ok (.aload_n 0, 1) := by decide +kernel
theorem dc_T_putBelow_12 : decode bc_T_putBelow 12 = .ok (.iload_n 1, 1) := by decide +kernel
theorem dc_T_putBelow_13 : decode bc_T_putBelow 13 = .ok (.iload_n 3, 1) := by decide +kernel
theorem dc_T_putBelow_14 : decode bc_T_putBelow 14 = .ok (.iload 4, 2) := by decide +kernel
theorem dc_T_putBelow_16 : decode bc_T_putBelow 16 = .ok (.invokevirtual 69, 3) := by decide +kernel
theorem dc_T_putBelow_19 : decode bc_T_putBelow 19 = .ok (.return_, 1) := by decide +kernel
theorem dc_T_putBelow_6 : decode bc_T_putBelow 6 = .ok (.return_, 1) := by decide +kernel
theorem dc_T_ownedChild_0 : decode bc_T_ownedChild 0 = .ok (.aload_n 0, 1) := by decide +kernel
theorem dc_T_ownedChild_1 : decode bc_T_ownedChild 1 = .ok (.getfield 9, 3) := by decide +kernel
theorem dc_T_ownedChild_4 : decode bc_T_ownedChild 4 = .ok (.aload_n 0, 1) := by decide +kernel
theorem dc_T_ownedChild_5 : decode bc_T_ownedChild 5 = .ok (.getfield 9, 3) := by decide +kernel
theorem dc_T_ownedChild_8 : decode bc_T_ownedChild 8 = .ok (.iload_n 1, 1) := by decide +kernel
theorem dc_T_ownedChild_9 : decode bc_T_ownedChild 9 = .ok (.iload_n 2, 1) := by decide +kernel
theorem dc_T_ownedChild_10 : decode bc_T_ownedChild 10 = .ok (.invokevirtual 35, 3) := by decide +kernel
theorem dc_T_ownedChild_13 : decode bc_T_ownedChild 13 = .ok (.invokevirtual 59, 3) := by decide +kernel
theorem dc_T_ownedChild_16 : decode bc_T_ownedChild 16 = .ok (.istore_n 3, 1) := by decide +kernel
theorem dc_T_ownedChild_17 : decode bc_T_ownedChild 17 = .ok (.aload_n 0, 1) := by decide +kernel
theorem dc_T_ownedChild_18 : decode bc_T_ownedChild 18 = .ok (.getfield 9, 3) := by decide +kernel
theorem dc_T_ownedChild_21 : decode bc_T_ownedChild 21 = .ok (.iload_n 1, 1) := by decide +kernel
theorem dc_T_ownedChild_22 : decode bc_T_ownedChild 22 = .ok (.iload_n 2, 1) := by decide +kernel
theorem dc_T_ownedChild_23 : decode bc_T_ownedChild 23 = .ok (.iload_n 3, 1) := by decide +kernel
theorem dc_T_ownedChild_24 : decode bc_T_ownedChild 24 = .ok (.invokevirtual 83, 3) := by decide +kernel
theorem dc_T_ownedChild_27 : decode bc_T_ownedChild 27 = .ok (.iload_n 3, 1) := by decide +kernel
theorem dc_T_ownedChild_28 : decode bc_T_ownedChild 28 = .ok (.ireturn, 1) := by decide +kernel
theorem dc_B_setGoal_0 : decode bc_B_setGoal 0 = .ok (.aload_n 0, 1) := by decide +kernel
theorem dc_B_setGoal_1 : decode bc_B_setGoal 1 = .ok (.iload_n 1, 1) := by decide +kernel
theorem dc_B_setGoal_2 : decode bc_B_setGoal 2 = .ok (.iload_n 2, 1) := by decide +kernel
theorem dc_B_setGoal_3 : decode bc_B_setGoal 3 = .ok (.invokevirtual 41, 3) := by decide +kernel
theorem dc_B_setGoal_6 : decode bc_B_setGoal 6 = .ok (.ifCond .eq 17, 3) := by decide +kernel
theorem dc_B_setGoal_23 : decode bc_B_setGoal 23 = .ok (.return_, 1) := by decide +kernel
theorem dc_B_setGoal_9 : decode bc_B_setGoal 9 = .ok (.aload_n 0, 1) := by decide +kernel
theorem dc_B_setGoal_10 : decode bc_B_setGoal 10 = .ok (.getfield 34, 3) := by decide +kernel
theorem dc_B_setGoal_13 : decode bc_B_setGoal 13 = .ok (.iload_n 1, 1) := by decide +kernel
theorem dc_B_setGoal_14 : decode bc_B_setGoal 14 = .ok (.aload_n 0, 1) := by decide +kernel
theorem dc_B_setGoal_15 : decode bc_B_setGoal 15 = .ok (.getfield 28, 3) := by decide +kernel
theorem dc_B_setGoal_18 : decode bc_B_setGoal 18 = .ok (.imul, 1) := by decide +kernel
theorem dc_B_setGoal_19 : decode bc_B_setGoal 19 = .ok (.iload_n 2, 1) := by decide +kernel
theorem dc_B_setGoal_20 : decode bc_B_setGoal 20 = .ok (.iadd, 1) := by decide +kernel
theorem dc_B_setGoal_21 : decode bc_B_setGoal 21 = .ok (.iload_n 3, 1) := by decide +kernel
theorem dc_B_setGoal_22 : decode bc_B_setGoal 22 = .ok (.iastore, 1) := by decide +kernel
theorem dc_B_setKey_0 : decode bc_B_setKey 0 = .ok (.aload_n 0, 1) := by decide +kernel
theorem dc_B_setKey_1 : decode bc_B_setKey 1 = .ok (.iload_n 1, 1) := by decide +kernel
theorem dc_B_setKey_2 : decode bc_B_setKey 2 = .ok (.iload_n 2, 1) := by decide +kernel
theorem dc_B_setKey_3 : decode bc_B_setKey 3 = .ok (.invokevirtual 41, 3) := by decide +kernel
theorem dc_B_setKey_6 : decode bc_B_setKey 6 = .ok (.ifCond .eq 17, 3) := by decide +kernel
theorem dc_B_setKey_23 : decode bc_B_setKey 23 = .ok (.return_, 1) := by decide +kernel
theorem dc_B_setKey_9 : decode bc_B_setKey 9 = .ok (.aload_n 0, 1) := by decide +kernel
theorem dc_B_setKey_10 : decode bc_B_setKey 10 = .ok (.getfield 31, 3) := by decide +kernel
theorem dc_B_setKey_13 : decode bc_B_setKey 13 = .ok (.iload_n 1, 1) := by decide +kernel
theorem dc_B_setKey_14 : decode bc_B_setKey 14 = .ok (.aload_n 0, 1) := by decide +kernel
theorem dc_B_setKey_15 : decode bc_B_setKey 15 = .ok (.getfield 28, 3) := by decide +kernel
theorem dc_B_setKey_18 : decode bc_B_setKey 18 = .ok (.imul, 1) := by decide +kernel
theorem dc_B_setKey_19 : decode bc_B_setKey 19 = .ok (.iload_n 2, 1) := by decide +kernel
theorem dc_B_setKey_20 : decode bc_B_setKey 20 = .ok (.iadd, 1) := by decide +kernel
theorem dc_B_setKey_21 : decode bc_B_setKey 21 = .ok (.iload_n 3, 1) := by decide +kernel
theorem dc_B_setKey_22 : decode bc_B_setKey 22 = .ok (.iastore, 1) := by decide +kernel
theorem dc_T_split_0 : decode bc_T_split 0 = .ok (.aload_n 0, 1) := by decide +kernel
theorem dc_T_split_1 : decode bc_T_split 1 = .ok (.getfield 9, 3) := by decide +kernel
theorem dc_T_split_4 : decode bc_T_split 4 = .ok (.iload_n 1, 1) := by decide +kernel
theorem dc_T_split_5 : decode bc_T_split 5 = .ok (.iload_n 2, 1) := by decide +kernel
theorem dc_T_split_6 : decode bc_T_split 6 = .ok (.invokevirtual 35, 3) := by decide +kernel
theorem dc_T_split_9 : decode bc_T_split 9 = .ok (.istore_n 3, 1) := by decide +kernel
theorem dc_T_split_10 : decode bc_T_split 10 = .ok (.aload_n 0, 1) := by decide +kernel
theorem dc_T_split_11 : decode bc_T_split 11 = .ok (.getfield 9, 3) := by decide +kernel
theorem dc_T_split_14 : decode bc_T_split 14 = .ok (.aload_n 0, 1) := by decide +kernel
theorem dc_T_split_15 : decode bc_T_split 15 = .ok (.getfield 9, 3) := by decide +kernel
theorem dc_T_split_18 : decode bc_T_split 18 = .ok (.iload_n 3, 1) := by decide +kernel
theorem dc_T_split_19 : decode bc_T_split 19 = .ok (.invokevirtual 26, 3) := by decide +kernel
theorem dc_T_split_22 : decode bc_T_split 22 = .ok (.invokevirtual 56, 3) := by decide +kernel
theorem dc_T_split_25 : decode bc_T_split 25 = .ok (.istore 4, 2) := by decide +kernel
theorem dc_T_split_27 : decode bc_T_split 27 = .ok (.aload_n 0, 1) := by decide +kernel
theorem dc_T_split_28 : decode bc_T_split 28 = .ok (.getfield 9, 3) := by decide +kernel
theorem dc_T_split_31 : decode bc_T_split 31 = .ok (.iload_n 3, 1) := by decide +kernel
theorem dc_T_split_32 : decode bc_T_split 32 = .ok (.aload_n 0, 1) := by decide +kernel
theorem dc_T_split_33 : decode bc_T_split 33 = .ok (.getfield 23, 3) := by decide +kernel
theorem dc_T_split_36 : decode bc_T_split 36 = .ok (.iload 4, 2) := by decide +kernel
theorem dc_T_split_38 : decode bc_T_split 38 = .ok (.invokevirtual 89, 3) := by decide +kernel
theorem dc_T_split_41 : decode bc_T_split 41 = .ok (.aload_n 0, 1) := by decide +kernel
theorem dc_T_split_42 : decode bc_T_split 42 = .ok (.getfield 9, 3) := by decide +kernel
theorem dc_T_split_45 : decode bc_T_split 45 = .ok (.iload_n 1, 1) := by decide +kernel
theorem dc_T_split_46 : decode bc_T_split 46 = .ok (.iload_n 2, 1) := by decide +kernel
theorem dc_T_split_47 : decode bc_T_split 47 = .ok (.iconst 1, 1) := by decide +kernel
theorem dc_T_split_48 : decode bc_T_split 48 = .ok (.iadd, 1) := by decide +kernel
theorem dc_T_split_49 : decode bc_T_split 49 = .ok (.aload_n 0, 1) := by decide +kernel
theorem dc_T_split_50 : decode bc_T_split 50 = .ok (.getfield 9, 3) := by decide +kernel
theorem dc_T_split_53 : decode bc_T_split 53 = .ok (.iload 4, 2) := by decide +kernel
theorem dc_T_split_55 : decode bc_T_split 55 = .ok (.iconst 0, 1) := by decide +kernel
theorem dc_T_split_56 : decode bc_T_split 56 = .ok (.invokevirtual 41, 3) := by decide +kernel
theorem dc_T_split_59 : decode bc_T_split 59 = .ok (.iload 4, 2) := by decide +kernel
theorem dc_T_split_61 : decode bc_T_split 61 = .ok (.invokevirtual 86, 3) := by decide +kernel
theorem dc_T_split_64 : decode bc_T_split 64 = .ok (.return_, 1) := by decide +kernel
theorem dc_B_moveTail_0 : decode bc_B_moveTail 0 = .ok (.iload_n 2, 1) := by decide +kernel
theorem dc_B_moveTail_1 : decode bc_B_moveTail 1 = .ok (.istore 4, 2) := by decide +kernel
theorem dc_B_moveTail_3 : decode bc_B_moveTail 3 = .ok (.iload 4, 2) := by decide +kernel
theorem dc_B_moveTail_5 : decode bc_B_moveTail 5 = .ok (.aload_n 0, 1) := by decide +kernel
theorem dc_B_moveTail_6 : decode bc_B_moveTail 6 = .ok (.iload_n 1, 1) := by decide +kernel
theorem dc_B_moveTail_7 : decode bc_B_moveTail 7 = .ok (.invokevirtual 45, 3) := by decide +kernel
theorem dc_B_moveTail_10 : decode bc_B_moveTail 10 = .ok (.if_icmp .ge 33, 3) := by decide +kernel
theorem dc_B_moveTail_43 : decode bc_B_moveTail 43 = .ok (.aload_n 0, 1) := by decide +kernel
theorem dc_B_moveTail_44 : decode bc_B_moveTail 44 = .ok (.iload_n 1, 1) := by decide +kernel
theorem dc_B_moveTail_45 : decode bc_B_moveTail 45 = .ok (.invokevirtual 37, 3) := by decide +kernel
theorem dc_B_moveTail_48 : decode bc_B_moveTail 48 = .ok (.ifCond .eq 24, 3) := by decide +kernel
theorem dc_B_moveTail_72 : decode bc_B_moveTail 72 = .ok (.return_, 1) := by decide +kernel
theorem dc_B_moveTail_51 : decode bc_B_moveTail 51 = .ok (.iload_n 2, 1) := by decide +kernel
theorem dc_B_moveTail_52 : decode bc_B_moveTail 52 = .ok (.ifCond .lt 20, 3) := by decide +kernel
theorem dc_B_moveTail_55 : decode bc_B_moveTail 55 = .ok (.iload_n 2, 1) := by decide +kernel
theorem dc_B_moveTail_56 : decode bc_B_moveTail 56 = .ok (.aload_n 0, 1) := by decide +kernel
theorem dc_B_moveTail_57 : decode bc_B_moveTail 57 = .ok (.getfield 18, 3) := by decide +kernel
theorem dc_B_moveTail_60 : decode bc_B_moveTail 60 = .ok (.iload_n 1, 1) := by decide +kernel
theorem dc_B_moveTail_61 : decode bc_B_moveTail 61 = .ok (.iaload, 1) := by decide +kernel
theorem dc_B_moveTail_62 : decode bc_B_moveTail 62 = .ok (.if_icmp .ge 10, 3) := by decide +kernel
theorem dc_B_moveTail_65 : decode bc_B_moveTail 65 = .ok (.aload_n 0, 1) := by decide +kernel
theorem dc_B_moveTail_66 : decode bc_B_moveTail 66 = .ok (.getfield 18, 3) := by decide +kernel
theorem dc_B_moveTail_69 : decode bc_B_moveTail 69 = .ok (.iload_n 1, 1) := by decide +kernel
theorem dc_B_moveTail_70 : decode bc_B_moveTail 70 = .ok (.iload_n 2, 1) := by decide +kernel
theorem dc_B_moveTail_71 : decode bc_B_moveTail 71 = .ok (.iastore, 1) := by decide +kernel
theorem dc_B_moveTail_13 : decode bc_B_moveTail 13 = .ok (.aload_n 0, 1) := by decide +kernel
theorem dc_B_moveTail_14 : decode bc_B_moveTail 14 = .ok (.iload_n 3, 1) := by decide +kernel
theorem dc_B_moveTail_15 : decode bc_B_moveTail 15 = .ok (.aload_n 0, 1) := by decide +kernel
theorem dc_B_moveTail_16 : decode bc_B_moveTail 16 = .ok (.iload_n 3, 1) := by decide +kernel
theorem dc_B_moveTail_17 : decode bc_B_moveTail 17 = .ok (.invokevirtual 45, 3) := by decide +kernel
theorem dc_B_moveTail_20 : decode bc_B_moveTail 20 = .ok (.aload_n 0, 1) := by decide +kernel
theorem dc_B_moveTail_21 : decode bc_B_moveTail 21 = .ok (.iload_n 1, 1) := by decide +kernel
theorem dc_B_moveTail_22 : decode bc_B_moveTail 22 = .ok (.iload 4, 2) := by decide +kernel
theorem dc_B_moveTail_24 : decode bc_B_moveTail 24 = .ok (.invokevirtual 63, 3) := by decide +kernel
theorem dc_B_moveTail_27 : decode bc_B_moveTail 27 = .ok (.aload_n 0, 1) := by decide +kernel
theorem dc_B_moveTail_28 : decode bc_B_moveTail 28 = .ok (.iload_n 1, 1) := by decide +kernel
theorem dc_B_moveTail_29 : decode bc_B_moveTail 29 = .ok (.iload 4, 2) := by decide +kernel
theorem dc_B_moveTail_31 : decode bc_B_moveTail 31 = .ok (.invokevirtual 66, 3) := by decide +kernel
theorem dc_B_moveTail_34 : decode bc_B_moveTail 34 = .ok (.invokevirtual 69, 3) := by decide +kernel
theorem dc_B_moveTail_37 : decode bc_B_moveTail 37 = .ok (.iinc 4 1, 3) := by decide +kernel
theorem dc_B_moveTail_40 : decode bc_B_moveTail 40 = .ok (.goto (-37), 3) := by decide +kernel
theorem dc_T_putInLeaf_0 : decode bc_T_putInLeaf 0 = .ok (.aload_n 0, 1) := by decide +kernel
theorem dc_T_putInLeaf_1 : decode bc_T_putInLeaf 1 = .ok (.getfield 9, 3) := by decide +kernel
theorem dc_T_putInLeaf_4 : decode bc_T_putInLeaf 4 = .ok (.iload_n 1, 1) := by decide +kernel
theorem dc_T_putInLeaf_5 : decode bc_T_putInLeaf 5 = .ok (.iload_n 2, 1) := by decide +kernel
theorem dc_T_putInLeaf_6 : decode bc_T_putInLeaf 6 = .ok (.invokevirtual 38, 3) := by decide +kernel
theorem dc_T_putInLeaf_9 : decode bc_T_putInLeaf 9 = .ok (.istore 4, 2) := by decide +kernel
theorem dc_T_putInLeaf_11 : decode bc_T_putInLeaf 11 = .ok (.aload_n 0, 1) := by decide +kernel
theorem dc_T_putInLeaf_12 : decode bc_T_putInLeaf 12 = .ok (.getfield 9, 3) := by decide +kernel
theorem dc_T_putInLeaf_15 : decode bc_T_putInLeaf 15 = .ok (.iload_n 1, 1) := by decide +kernel
theorem dc_T_putInLeaf_16 : decode bc_T_putInLeaf 16 = .ok (.iload 4, 2) := by decide +kernel
theorem dc_T_putInLeaf_18 : decode bc_T_putInLeaf 18 = .ok (.invokevirtual 41, 3) := by decide +kernel
theorem dc_T_putInLeaf_21 : decode bc_T_putInLeaf 21 = .ok (.iload_n 2, 1) := by decide +kernel
theorem dc_T_putInLeaf_22 : decode bc_T_putInLeaf 22 = .ok (.if_icmp .ne 17, 3) := by decide +kernel
theorem dc_T_putInLeaf_39 : decode bc_T_putInLeaf 39 = .ok (.aload_n 0, 1) := by decide +kernel
theorem dc_T_putInLeaf_40 : decode bc_T_putInLeaf 40 = .ok (.getfield 9, 3) := by decide +kernel
theorem dc_T_putInLeaf_43 : decode bc_T_putInLeaf 43 = .ok (.iload_n 1, 1) := by decide +kernel
theorem dc_T_putInLeaf_44 : decode bc_T_putInLeaf 44 = .ok (.iload 4, 2) := by decide +kernel
theorem dc_T_putInLeaf_46 : decode bc_T_putInLeaf 46 = .ok (.iconst 1, 1) := by decide +kernel
theorem dc_T_putInLeaf_47 : decode bc_T_putInLeaf 47 = .ok (.iadd, 1) := by decide +kernel
theorem dc_T_putInLeaf_48 : decode bc_T_putInLeaf 48 = .ok (.iload_n 2, 1) := by decide +kernel
theorem dc_T_putInLeaf_49 : decode bc_T_putInLeaf 49 = .ok (.iload_n 3, 1) := by decide +kernel
theorem dc_T_putInLeaf_50 : decode bc_T_putInLeaf 50 = .ok (.invokevirtual 86, 3) := by decide +kernel
theorem dc_T_putInLeaf_53 : decode bc_T_putInLeaf 53 = .ok (.return_, 1) := by decide +kernel
theorem dc_T_putInLeaf_25 : decode bc_T_putInLeaf 25 = .ok (.aload_n 0, 1) := by decide +kernel
theorem dc_T_putInLeaf_26 : decode bc_T_putInLeaf 26 = .ok (.getfield 9, 3) := by decide +kernel
theorem dc_T_putInLeaf_29 : decode bc_T_putInLeaf 29 = .ok (.iload_n 1, 1) := by decide +kernel
theorem dc_T_putInLeaf_30 : decode bc_T_putInLeaf 30 = .ok (.iload 4, 2) := by decide +kernel
theorem dc_T_putInLeaf_32 : decode bc_T_putInLeaf 32 = .ok (.iload_n 3, 1) := by decide +kernel
theorem dc_T_putInLeaf_33 : decode bc_T_putInLeaf 33 = .ok (.invokevirtual 83, 3) := by decide +kernel
theorem dc_T_putInLeaf_36 : decode bc_T_putInLeaf 36 = .ok (.goto 17, 3) := by decide +kernel
theorem dc_T_grown_0 : decode bc_T_grown 0 = .ok (.aload_n 0, 1) := by decide +kernel
theorem dc_T_grown_1 : decode bc_T_grown 1 = .ok (.getfield 9, 3) := by decide +kernel
theorem dc_T_grown_4 : decode bc_T_grown 4 = .ok (.aload_n 0, 1) := by decide +kernel
theorem dc_T_grown_5 : decode bc_T_grown 5 = .ok (.getfield 9, 3) := by decide +kernel
theorem dc_T_grown_8 : decode bc_T_grown 8 = .ok (.iload_n 1, 1) := by decide +kernel
theorem dc_T_grown_9 : decode bc_T_grown 9 = .ok (.invokevirtual 26, 3) := by decide +kernel
theorem dc_T_grown_12 : decode bc_T_grown 12 = .ok (.iconst 1, 1) := by decide +kernel
theorem dc_T_grown_13 : decode bc_T_grown 13 = .ok (.iadd, 1) := by decide +kernel
theorem dc_T_grown_14 : decode bc_T_grown 14 = .ok (.invokevirtual 56, 3) := by decide +kernel
theorem dc_T_grown_17 : decode bc_T_grown 17 = .ok (.istore_n 2, 1) := by decide +kernel
theorem dc_T_grown_18 : decode bc_T_grown 18 = .ok (.aload_n 0, 1) := by decide +kernel
theorem dc_T_grown_19 : decode bc_T_grown 19 = .ok (.getfield 9, 3) := by decide +kernel
theorem dc_T_grown_22 : decode bc_T_grown 22 = .ok (.iload_n 2, 1) := by decide +kernel
theorem dc_T_grown_23 : decode bc_T_grown 23 = .ok (.iconst 0, 1) := by decide +kernel
theorem dc_T_grown_24 : decode bc_T_grown 24 = .ok (.aload_n 0, 1) := by decide +kernel
theorem dc_T_grown_25 : decode bc_T_grown 25 = .ok (.getfield 9, 3) := by decide +kernel
theorem dc_T_grown_28 : decode bc_T_grown 28 = .ok (.iload_n 1, 1) := by decide +kernel
theorem dc_T_grown_29 : decode bc_T_grown 29 = .ok (.iconst 0, 1) := by decide +kernel
theorem dc_T_grown_30 : decode bc_T_grown 30 = .ok (.invokevirtual 41, 3) := by decide +kernel
theorem dc_T_grown_33 : decode bc_T_grown 33 = .ok (.iload_n 1, 1) := by decide +kernel
theorem dc_T_grown_34 : decode bc_T_grown 34 = .ok (.invokevirtual 86, 3) := by decide +kernel
theorem dc_T_grown_37 : decode bc_T_grown 37 = .ok (.aload_n 0, 1) := by decide +kernel
theorem dc_T_grown_38 : decode bc_T_grown 38 = .ok (.iload_n 2, 1) := by decide +kernel
theorem dc_T_grown_39 : decode bc_T_grown 39 = .ok (.iconst 0, 1) := by decide +kernel
theorem dc_T_grown_40 : decode bc_T_grown 40 = .ok (.invokevirtual 79, 3) := by decide +kernel
theorem dc_T_grown_43 : decode bc_T_grown 43 = .ok (.iload_n 2, 1) := by decide +kernel
theorem dc_T_grown_44 : decode bc_T_grown 44 = .ok (.ireturn, 1) := by decide +kernel
theorem dc_R_write_0 : decode bc_R_write 0 = .ok (.iload_n 1, 1) := by decide +kernel
theorem dc_R_write_1 : decode bc_R_write 1 = .ok (.invokestatic 24, 3) := by decide +kernel
theorem dc_R_write_4 : decode bc_R_write 4 = .ok (.ifCond .eq 17, 3) := by decide +kernel
theorem dc_R_write_21 : decode bc_R_write 21 = .ok (.iconst (-1), 1) := by decide +kernel
theorem dc_R_write_22 : decode bc_R_write 22 = .ok (.ireturn, 1) := by decide +kernel
theorem dc_R_write_7 : decode bc_R_write 7 = .ok (.iload_n 2, 1) := by decide +kernel
theorem dc_R_write_8 : decode bc_R_write 8 = .ok (.invokestatic 28, 3) := by decide +kernel
theorem dc_R_write_11 : decode bc_R_write 11 = .ok (.ifCond .eq 10, 3) := by decide +kernel
theorem dc_R_write_14 : decode bc_R_write 14 = .ok (.iload_n 3, 1) := by decide +kernel
theorem dc_R_write_15 : decode bc_R_write 15 = .ok (.invokestatic 31, 3) := by decide +kernel
theorem dc_R_write_18 : decode bc_R_write 18 = .ok (.ifCond .ne 5, 3) := by decide +kernel
theorem dc_R_write_23 : decode bc_R_write 23 = .ok (.sipush 4096, 3) := by decide +kernel
theorem dc_R_write_26 : decode bc_R_write 26 = .ok (.iload_n 1, 1) := by decide +kernel
theorem dc_R_write_27 : decode bc_R_write 27 = .ok (.imul, 1) := by decide +kernel
theorem dc_R_write_28 : decode bc_R_write 28 = .ok (.iload_n 2, 1) := by decide +kernel
theorem dc_R_write_29 : decode bc_R_write 29 = .ok (.iadd, 1) := by decide +kernel
theorem dc_R_write_30 : decode bc_R_write 30 = .ok (.istore 4, 2) := by decide +kernel
theorem dc_R_write_32 : decode bc_R_write 32 = .ok (.aload_n 0, 1) := by decide +kernel
theorem dc_R_write_33 : decode bc_R_write 33 = .ok (.getfield 8, 3) := by decide +kernel
theorem dc_R_write_36 : decode bc_R_write 36 = .ok (.iload 4, 2) := by decide +kernel
theorem dc_R_write_38 : decode bc_R_write 38 = .ok (.iaload, 1) := by decide +kernel
theorem dc_R_write_39 : decode bc_R_write 39 = .ok (.ifCond .ne 26, 3) := by decide +kernel
theorem dc_R_write_65 : decode bc_R_write 65 = .ok (.aload_n 0, 1) := by decide +kernel
theorem dc_R_write_66 : decode bc_R_write 66 = .ok (.getfield 8, 3) := by decide +kernel
theorem dc_R_write_69 : decode bc_R_write 69 = .ok (.iload 4, 2) := by decide +kernel
theorem dc_R_write_71 : decode bc_R_write 71 = .ok (.iload_n 3, 1) := by decide +kernel
theorem dc_R_write_72 : decode bc_R_write 72 = .ok (.iconst 1, 1) := by decide +kernel
theorem dc_R_write_73 : decode bc_R_write 73 = .ok (.iadd, 1) := by decide +kernel
theorem dc_R_write_74 : decode bc_R_write 74 = .ok (.iastore, 1) := by decide +kernel
theorem dc_R_write_75 : decode bc_R_write 75 = .ok (.aload_n 0, 1) := by decide +kernel
theorem dc_R_write_76 : decode bc_R_write 76 = .ok (.getfield 17, 3) := by decide +kernel
theorem dc_R_write_79 : decode bc_R_write 79 = .ok (.iload_n 1, 1) := by decide +kernel
theorem dc_R_write_80 : decode bc_R_write 80 = .ok (.iaload, 1) := by decide +kernel
theorem dc_R_write_81 : decode bc_R_write 81 = .ok (.ireturn, 1) := by decide +kernel
theorem dc_R_write_42 : decode bc_R_write 42 = .ok (.aload_n 0, 1) := by decide +kernel
theorem dc_R_write_43 : decode bc_R_write 43 = .ok (.invokevirtual 34, 3) := by decide +kernel
theorem dc_R_write_46 : decode bc_R_write 46 = .ok (.sipush 600, 3) := by decide +kernel
theorem dc_R_write_49 : decode bc_R_write 49 = .ok (.if_icmp .ne 6, 3) := by decide +kernel
theorem dc_R_write_55 : decode bc_R_write 55 = .ok (.aload_n 0, 1) := by decide +kernel
theorem dc_R_write_56 : decode bc_R_write 56 = .ok (.getfield 17, 3) := by decide +kernel
theorem dc_R_write_59 : decode bc_R_write 59 = .ok (.iload_n 1, 1) := by decide +kernel
theorem dc_R_write_60 : decode bc_R_write 60 = .ok (.dup2, 1) := by decide +kernel
theorem dc_R_write_61 : decode bc_R_write 61 = .ok (.iaload, 1) := by decide +kernel
theorem dc_R_write_62 : decode bc_R_write 62 = .ok (.iconst 1, 1) := by decide +kernel
theorem dc_R_write_63 : decode bc_R_write 63 = .ok (.iadd, 1) := by decide +kernel
theorem dc_R_write_64 : decode bc_R_write 64 = .ok (.iastore, 1) := by decide +kernel
theorem dc_R_write_52 : decode bc_R_write 52 = .ok (.bipush (-3), 2) := by decide +kernel
theorem dc_R_write_54 : decode bc_R_write 54 = .ok (.ireturn, 1) := by decide +kernel
theorem dc_R_isMap_0 : decode bc_R_isMap 0 = .ok (.iload_n 0, 1) := by decide +kernel
theorem dc_R_isMap_1 : decode bc_R_isMap 1 = .ok (.ifCond .lt 13, 3) := by decide +kernel
theorem dc_R_isMap_14 : decode bc_R_isMap 14 = .ok (.iconst 0, 1) := by decide +kernel
theorem dc_R_isMap_15 : decode bc_R_isMap 15 = .ok (.ireturn, 1) := by decide +kernel
theorem dc_R_isMap_4 : decode bc_R_isMap 4 = .ok (.iload_n 0, 1) := by decide +kernel
end
section
theorem dc_R_isMap_5 : decode bc_R_isMap 5 = .ok (.bipush 8, 2) := by decide +kernel
theorem dc_R_isMap_7 : decode bc_R_isMap 7 = .ok (.if_icmp .ge 7, 3) := by decide +kernel
theorem dc_R_isMap_10 : decode bc_R_isMap 10 = .ok (.iconst 1, 1) := by decide +kernel
theorem dc_R_isMap_11 : decode bc_R_isMap 11 = .ok (.goto 4, 3) := by decide +kernel
theorem dc_R_isKey_0 : decode bc_R_isKey 0 = .ok (.iload_n 0, 1) := by decide +kernel
theorem dc_R_isKey_1 : decode bc_R_isKey 1 = .ok (.ifCond .lt 14, 3) := by decide +kernel
theorem dc_R_isKey_15 : decode bc_R_isKey 15 = .ok (.iconst 0, 1) := by decide +kernel
theorem dc_R_isKey_16 : decode bc_R_isKey 16 = .ok (.ireturn, 1) := by decide +kernel
theorem dc_R_isKey_4 : decode bc_R_isKey 4 = .ok (.iload_n 0, 1) := by decide +kernel
theorem dc_R_isKey_5 : decode bc_R_isKey 5 = .ok (.sipush 4096, 3) := by decide +kernel
theorem dc_R_isKey_8 : decode bc_R_isKey 8 = .ok (.if_icmp .ge 7, 3) := by decide +kernel
theorem dc_R_isKey_11 : decode bc_R_isKey 11 = .ok (.iconst 1, 1) := by decide +kernel
theorem dc_R_isKey_12 : decode bc_R_isKey 12 = .ok (.goto 4, 3) := by decide +kernel
theorem dc_R_isStamp_0 : decode bc_R_isStamp 0 = .ok (.iload_n 0, 1) := by decide +kernel
theorem dc_R_isStamp_1 : decode bc_R_isStamp 1 = .ok (.ifCond .lt 13, 3) := by decide +kernel
theorem dc_R_isStamp_14 : decode bc_R_isStamp 14 = .ok (.iconst 0, 1) := by decide +kernel
theorem dc_R_isStamp_15 : decode bc_R_isStamp 15 = .ok (.ireturn, 1) := by decide +kernel
theorem dc_R_isStamp_4 : decode bc_R_isStamp 4 = .ok (.iload_n 0, 1) := by decide +kernel
theorem dc_R_isStamp_5 : decode bc_R_isStamp 5 = .ok (.ldc 23, 2) := by decide +kernel
theorem dc_R_isStamp_7 : decode bc_R_isStamp 7 = .ok (.if_icmp .gt 7, 3) := by decide +kernel
theorem dc_R_isStamp_10 : decode bc_R_isStamp 10 = .ok (.iconst 1, 1) := by decide +kernel
theorem dc_R_isStamp_11 : decode bc_R_isStamp 11 = .ok (.goto 4, 3) := by decide +kernel
theorem dc_R_all_0 : decode bc_R_all 0 = .ok (.iconst 0, 1) := by decide +kernel
theorem dc_R_all_1 : decode bc_R_all 1 = .ok (.istore_n 1, 1) := by decide +kernel
theorem dc_R_all_2 : decode bc_R_all 2 = .ok (.iconst 0, 1) := by decide +kernel
theorem dc_R_all_3 : decode bc_R_all 3 = .ok (.istore_n 2, 1) := by decide +kernel
theorem dc_R_all_4 : decode bc_R_all 4 = .ok (.iload_n 2, 1) := by decide +kernel
theorem dc_R_all_5 : decode bc_R_all 5 = .ok (.bipush 8, 2) := by decide +kernel
theorem dc_R_all_7 : decode bc_R_all 7 = .ok (.if_icmp .ge 18, 3) := by decide +kernel
theorem dc_R_all_25 : decode bc_R_all 25 = .ok (.iload_n 1, 1) := by decide +kernel
theorem dc_R_all_26 : decode bc_R_all 26 = .ok (.ireturn, 1) := by decide +kernel
theorem dc_R_all_10 : decode bc_R_all 10 = .ok (.iload_n 1, 1) := by decide +kernel
theorem dc_R_all_11 : decode bc_R_all 11 = .ok (.aload_n 0, 1) := by decide +kernel
theorem dc_R_all_12 : decode bc_R_all 12 = .ok (.getfield 17, 3) := by decide +kernel
theorem dc_R_all_15 : decode bc_R_all 15 = .ok (.iload_n 2, 1) := by decide +kernel
theorem dc_R_all_16 : decode bc_R_all 16 = .ok (.iaload, 1) := by decide +kernel
theorem dc_R_all_17 : decode bc_R_all 17 = .ok (.iadd, 1) := by decide +kernel
theorem dc_R_all_18 : decode bc_R_all 18 = .ok (.istore_n 1, 1) := by decide +kernel
theorem dc_R_all_19 : decode bc_R_all 19 = .ok (.iinc 2 1, 3) := by decide +kernel
theorem dc_R_all_22 : decode bc_R_all 22 = .ok (.goto (-18), 3) := by decide +kernel
theorem dc_S_spread_0 : decode bc_S_spread 0 = .ok (.iload_n 1, 1) := by decide +kernel
theorem dc_S_spread_1 : decode bc_S_spread 1 = .ok (.invokestatic 53, 3) := by decide +kernel
theorem dc_S_spread_4 : decode bc_S_spread 4 = .ok (.ifCond .eq 18, 3) := by decide +kernel
theorem dc_S_spread_22 : decode bc_S_spread 22 = .ok (.iconst (-1), 1) := by decide +kernel
theorem dc_S_spread_23 : decode bc_S_spread 23 = .ok (.ireturn, 1) := by decide +kernel
theorem dc_S_spread_7 : decode bc_S_spread 7 = .ok (.iload_n 2, 1) := by decide +kernel
theorem dc_S_spread_8 : decode bc_S_spread 8 = .ok (.invokestatic 57, 3) := by decide +kernel
theorem dc_S_spread_11 : decode bc_S_spread 11 = .ok (.ifCond .eq 11, 3) := by decide +kernel
theorem dc_S_spread_14 : decode bc_S_spread 14 = .ok (.iload 5, 2) := by decide +kernel
theorem dc_S_spread_16 : decode bc_S_spread 16 = .ok (.invokestatic 60, 3) := by decide +kernel
theorem dc_S_spread_19 : decode bc_S_spread 19 = .ok (.ifCond .ne 5, 3) := by decide +kernel
theorem dc_S_spread_24 : decode bc_S_spread 24 = .ok (.iload_n 3, 1) := by decide +kernel
theorem dc_S_spread_25 : decode bc_S_spread 25 = .ok (.iconst 1, 1) := by decide +kernel
theorem dc_S_spread_26 : decode bc_S_spread 26 = .ok (.if_icmp .lt 23, 3) := by decide +kernel
theorem dc_S_spread_49 : decode bc_S_spread 49 = .ok (.iconst (-1), 1) := by decide +kernel
theorem dc_S_spread_50 : decode bc_S_spread 50 = .ok (.ireturn, 1) := by decide +kernel
theorem dc_S_spread_29 : decode bc_S_spread 29 = .ok (.iload_n 3, 1) := by decide +kernel
theorem dc_S_spread_30 : decode bc_S_spread 30 = .ok (.sipush 4095, 3) := by decide +kernel
theorem dc_S_spread_33 : decode bc_S_spread 33 = .ok (.if_icmp .gt 16, 3) := by decide +kernel
theorem dc_S_spread_36 : decode bc_S_spread 36 = .ok (.iload 4, 2) := by decide +kernel
theorem dc_S_spread_38 : decode bc_S_spread 38 = .ok (.ifCond .lt 11, 3) := by decide +kernel
theorem dc_S_spread_41 : decode bc_S_spread 41 = .ok (.iload 4, 2) := by decide +kernel
theorem dc_S_spread_43 : decode bc_S_spread 43 = .ok (.sipush 600, 3) := by decide +kernel
theorem dc_S_spread_46 : decode bc_S_spread 46 = .ok (.if_icmp .le 5, 3) := by decide +kernel
theorem dc_S_spread_51 : decode bc_S_spread 51 = .ok (.iconst 0, 1) := by decide +kernel
theorem dc_S_spread_52 : decode bc_S_spread 52 = .ok (.istore 6, 2) := by decide +kernel
theorem dc_S_spread_54 : decode bc_S_spread 54 = .ok (.iload 6, 2) := by decide +kernel
theorem dc_S_spread_56 : decode bc_S_spread 56 = .ok (.iload 4, 2) := by decide +kernel
theorem dc_S_spread_58 : decode bc_S_spread 58 = .ok (.if_icmp .ge 28, 3) := by decide +kernel
theorem dc_S_spread_86 : decode bc_S_spread 86 = .ok (.iload 6, 2) := by decide +kernel
theorem dc_S_spread_88 : decode bc_S_spread 88 = .ok (.ireturn, 1) := by decide +kernel
theorem dc_S_spread_61 : decode bc_S_spread 61 = .ok (.aload_n 0, 1) := by decide +kernel
theorem dc_S_spread_62 : decode bc_S_spread 62 = .ok (.iload_n 1, 1) := by decide +kernel
theorem dc_S_spread_63 : decode bc_S_spread 63 = .ok (.iload_n 2, 1) := by decide +kernel
theorem dc_S_spread_64 : decode bc_S_spread 64 = .ok (.iload 6, 2) := by decide +kernel
theorem dc_S_spread_66 : decode bc_S_spread 66 = .ok (.iload_n 3, 1) := by decide +kernel
theorem dc_S_spread_67 : decode bc_S_spread 67 = .ok (.imul, 1) := by decide +kernel
theorem dc_S_spread_68 : decode bc_S_spread 68 = .ok (.iadd, 1) := by decide +kernel
theorem dc_S_spread_69 : decode bc_S_spread 69 = .ok (.iload 5, 2) := by decide +kernel
theorem dc_S_spread_71 : decode bc_S_spread 71 = .ok (.iload 6, 2) := by decide +kernel
theorem dc_S_spread_73 : decode bc_S_spread 73 = .ok (.iadd, 1) := by decide +kernel
theorem dc_S_spread_74 : decode bc_S_spread 74 = .ok (.invokevirtual 81, 3) := by decide +kernel
theorem dc_S_spread_77 : decode bc_S_spread 77 = .ok (.ifCond .lt 9, 3) := by decide +kernel
theorem dc_S_spread_80 : decode bc_S_spread 80 = .ok (.iinc 6 1, 3) := by decide +kernel
theorem dc_S_spread_83 : decode bc_S_spread 83 = .ok (.goto (-29), 3) := by decide +kernel
theorem dc_R_spread_0 : decode bc_R_spread 0 = .ok (.iload_n 1, 1) := by decide +kernel
theorem dc_R_spread_1 : decode bc_R_spread 1 = .ok (.invokestatic 24, 3) := by decide +kernel
theorem dc_R_spread_4 : decode bc_R_spread 4 = .ok (.ifCond .eq 43, 3) := by decide +kernel
theorem dc_R_spread_47 : decode bc_R_spread 47 = .ok (.iconst (-1), 1) := by decide +kernel
theorem dc_R_spread_48 : decode bc_R_spread 48 = .ok (.ireturn, 1) := by decide +kernel
theorem dc_R_spread_7 : decode bc_R_spread 7 = .ok (.iload_n 2, 1) := by decide +kernel
theorem dc_R_spread_8 : decode bc_R_spread 8 = .ok (.invokestatic 28, 3) := by decide +kernel
theorem dc_R_spread_11 : decode bc_R_spread 11 = .ok (.ifCond .eq 36, 3) := by decide +kernel
theorem dc_R_spread_14 : decode bc_R_spread 14 = .ok (.iload_n 3, 1) := by decide +kernel
theorem dc_R_spread_15 : decode bc_R_spread 15 = .ok (.iconst 1, 1) := by decide +kernel
theorem dc_R_spread_16 : decode bc_R_spread 16 = .ok (.if_icmp .lt 31, 3) := by decide +kernel
theorem dc_R_spread_19 : decode bc_R_spread 19 = .ok (.iload_n 3, 1) := by decide +kernel
theorem dc_R_spread_20 : decode bc_R_spread 20 = .ok (.sipush 4095, 3) := by decide +kernel
theorem dc_R_spread_23 : decode bc_R_spread 23 = .ok (.if_icmp .gt 24, 3) := by decide +kernel
theorem dc_R_spread_26 : decode bc_R_spread 26 = .ok (.iload 4, 2) := by decide +kernel
theorem dc_R_spread_28 : decode bc_R_spread 28 = .ok (.ifCond .lt 19, 3) := by decide +kernel
theorem dc_R_spread_31 : decode bc_R_spread 31 = .ok (.iload 4, 2) := by decide +kernel
theorem dc_R_spread_33 : decode bc_R_spread 33 = .ok (.sipush 600, 3) := by decide +kernel
theorem dc_R_spread_36 : decode bc_R_spread 36 = .ok (.if_icmp .gt 11, 3) := by decide +kernel
theorem dc_R_spread_39 : decode bc_R_spread 39 = .ok (.iload 5, 2) := by decide +kernel
theorem dc_R_spread_41 : decode bc_R_spread 41 = .ok (.invokestatic 31, 3) := by decide +kernel
theorem dc_R_spread_44 : decode bc_R_spread 44 = .ok (.ifCond .ne 5, 3) := by decide +kernel
theorem dc_R_spread_49 : decode bc_R_spread 49 = .ok (.iconst 0, 1) := by decide +kernel
theorem dc_R_spread_50 : decode bc_R_spread 50 = .ok (.istore 6, 2) := by decide +kernel
theorem dc_R_spread_52 : decode bc_R_spread 52 = .ok (.iload 6, 2) := by decide +kernel
theorem dc_R_spread_54 : decode bc_R_spread 54 = .ok (.iload 4, 2) := by decide +kernel
theorem dc_R_spread_56 : decode bc_R_spread 56 = .ok (.if_icmp .ge 28, 3) := by decide +kernel
theorem dc_R_spread_84 : decode bc_R_spread 84 = .ok (.iload 6, 2) := by decide +kernel
theorem dc_R_spread_86 : decode bc_R_spread 86 = .ok (.ireturn, 1) := by decide +kernel
theorem dc_R_spread_59 : decode bc_R_spread 59 = .ok (.aload_n 0, 1) := by decide +kernel
theorem dc_R_spread_60 : decode bc_R_spread 60 = .ok (.iload_n 1, 1) := by decide +kernel
theorem dc_R_spread_61 : decode bc_R_spread 61 = .ok (.iload_n 2, 1) := by decide +kernel
theorem dc_R_spread_62 : decode bc_R_spread 62 = .ok (.iload 6, 2) := by decide +kernel
theorem dc_R_spread_64 : decode bc_R_spread 64 = .ok (.iload_n 3, 1) := by decide +kernel
theorem dc_R_spread_65 : decode bc_R_spread 65 = .ok (.imul, 1) := by decide +kernel
theorem dc_R_spread_66 : decode bc_R_spread 66 = .ok (.iadd, 1) := by decide +kernel
theorem dc_R_spread_67 : decode bc_R_spread 67 = .ok (.iload 5, 2) := by decide +kernel
theorem dc_R_spread_69 : decode bc_R_spread 69 = .ok (.iload 6, 2) := by decide +kernel
theorem dc_R_spread_71 : decode bc_R_spread 71 = .ok (.iadd, 1) := by decide +kernel
theorem dc_R_spread_72 : decode bc_R_spread 72 = .ok (.invokevirtual 38, 3) := by decide +kernel
theorem dc_R_spread_75 : decode bc_R_spread 75 = .ok (.ifCond .lt 9, 3) := by decide +kernel
theorem dc_R_spread_78 : decode bc_R_spread 78 = .ok (.iinc 6 1, 3) := by decide +kernel
theorem dc_R_spread_81 : decode bc_R_spread 81 = .ok (.goto (-29), 3) := by decide +kernel
theorem dc_S_read_0 : decode bc_S_read 0 = .ok (.iload_n 1, 1) := by decide +kernel
theorem dc_S_read_1 : decode bc_S_read 1 = .ok (.invokestatic 53, 3) := by decide +kernel
theorem dc_S_read_4 : decode bc_S_read 4 = .ok (.ifCond .eq 10, 3) := by decide +kernel
theorem dc_S_read_14 : decode bc_S_read 14 = .ok (.iconst (-1), 1) := by decide +kernel
theorem dc_S_read_15 : decode bc_S_read 15 = .ok (.ireturn, 1) := by decide +kernel
theorem dc_S_read_7 : decode bc_S_read 7 = .ok (.iload_n 2, 1) := by decide +kernel
theorem dc_S_read_8 : decode bc_S_read 8 = .ok (.invokestatic 57, 3) := by decide +kernel
theorem dc_S_read_11 : decode bc_S_read 11 = .ok (.ifCond .ne 5, 3) := by decide +kernel
theorem dc_S_read_16 : decode bc_S_read 16 = .ok (.aload_n 0, 1) := by decide +kernel
theorem dc_S_read_17 : decode bc_S_read 17 = .ok (.getfield 32, 3) := by decide +kernel
theorem dc_S_read_20 : decode bc_S_read 20 = .ok (.aload_n 0, 1) := by decide +kernel
theorem dc_S_read_21 : decode bc_S_read 21 = .ok (.getfield 46, 3) := by decide +kernel
theorem dc_S_read_24 : decode bc_S_read 24 = .ok (.getfield 63, 3) := by decide +kernel
theorem dc_S_read_27 : decode bc_S_read 27 = .ok (.iload_n 1, 1) := by decide +kernel
theorem dc_S_read_28 : decode bc_S_read 28 = .ok (.iaload, 1) := by decide +kernel
theorem dc_S_read_29 : decode bc_S_read 29 = .ok (.iload_n 2, 1) := by decide +kernel
theorem dc_S_read_30 : decode bc_S_read 30 = .ok (.invokevirtual 67, 3) := by decide +kernel
theorem dc_S_read_33 : decode bc_S_read 33 = .ok (.ireturn, 1) := by decide +kernel
theorem dc_R_read_0 : decode bc_R_read 0 = .ok (.iload_n 1, 1) := by decide +kernel
theorem dc_R_read_1 : decode bc_R_read 1 = .ok (.invokestatic 24, 3) := by decide +kernel
theorem dc_R_read_4 : decode bc_R_read 4 = .ok (.ifCond .eq 10, 3) := by decide +kernel
theorem dc_R_read_14 : decode bc_R_read 14 = .ok (.iconst (-1), 1) := by decide +kernel
theorem dc_R_read_15 : decode bc_R_read 15 = .ok (.ireturn, 1) := by decide +kernel
theorem dc_R_read_7 : decode bc_R_read 7 = .ok (.iload_n 2, 1) := by decide +kernel
theorem dc_R_read_8 : decode bc_R_read 8 = .ok (.invokestatic 28, 3) := by decide +kernel
theorem dc_R_read_11 : decode bc_R_read 11 = .ok (.ifCond .ne 5, 3) := by decide +kernel
theorem dc_R_read_16 : decode bc_R_read 16 = .ok (.aload_n 0, 1) := by decide +kernel
theorem dc_R_read_17 : decode bc_R_read 17 = .ok (.getfield 8, 3) := by decide +kernel
theorem dc_R_read_20 : decode bc_R_read 20 = .ok (.sipush 4096, 3) := by decide +kernel
theorem dc_R_read_23 : decode bc_R_read 23 = .ok (.iload_n 1, 1) := by decide +kernel
theorem dc_R_read_24 : decode bc_R_read 24 = .ok (.imul, 1) := by decide +kernel
theorem dc_R_read_25 : decode bc_R_read 25 = .ok (.iload_n 2, 1) := by decide +kernel
theorem dc_R_read_26 : decode bc_R_read 26 = .ok (.iadd, 1) := by decide +kernel
theorem dc_R_read_27 : decode bc_R_read 27 = .ok (.iaload, 1) := by decide +kernel
theorem dc_R_read_28 : decode bc_R_read 28 = .ok (.istore_n 3, 1) := by decide +kernel
theorem dc_R_read_29 : decode bc_R_read 29 = .ok (.iload_n 3, 1) := by decide +kernel
theorem dc_R_read_30 : decode bc_R_read 30 = .ok (.ifCond .ne 8, 3) := by decide +kernel
theorem dc_R_read_38 : decode bc_R_read 38 = .ok (.iload_n 3, 1) := by decide +kernel
theorem dc_R_read_39 : decode bc_R_read 39 = .ok (.iconst 1, 1) := by decide +kernel
theorem dc_R_read_40 : decode bc_R_read 40 = .ok (.isub, 1) := by decide +kernel
theorem dc_R_read_41 : decode bc_R_read 41 = .ok (.ireturn, 1) := by decide +kernel
theorem dc_R_read_33 : decode bc_R_read 33 = .ok (.bipush (-2), 2) := by decide +kernel
theorem dc_R_read_35 : decode bc_R_read 35 = .ok (.goto 6, 3) := by decide +kernel
theorem dc_S_erase_0 : decode bc_S_erase 0 = .ok (.iload_n 1, 1) := by decide +kernel
theorem dc_S_erase_1 : decode bc_S_erase 1 = .ok (.invokestatic 53, 3) := by decide +kernel
theorem dc_S_erase_4 : decode bc_S_erase 4 = .ok (.ifCond .eq 10, 3) := by decide +kernel
theorem dc_S_erase_14 : decode bc_S_erase 14 = .ok (.iconst (-1), 1) := by decide +kernel
theorem dc_S_erase_15 : decode bc_S_erase 15 = .ok (.ireturn, 1) := by decide +kernel
theorem dc_S_erase_7 : decode bc_S_erase 7 = .ok (.iload_n 2, 1) := by decide +kernel
theorem dc_S_erase_8 : decode bc_S_erase 8 = .ok (.invokestatic 57, 3) := by decide +kernel
theorem dc_S_erase_11 : decode bc_S_erase 11 = .ok (.ifCond .ne 5, 3) := by decide +kernel
theorem dc_S_erase_16 : decode bc_S_erase 16 = .ok (.aload_n 0, 1) := by decide +kernel
theorem dc_S_erase_17 : decode bc_S_erase 17 = .ok (.getfield 32, 3) := by decide +kernel
theorem dc_S_erase_20 : decode bc_S_erase 20 = .ok (.aload_n 0, 1) := by decide +kernel
theorem dc_S_erase_21 : decode bc_S_erase 21 = .ok (.getfield 46, 3) := by decide +kernel
theorem dc_S_erase_24 : decode bc_S_erase 24 = .ok (.getfield 63, 3) := by decide +kernel
theorem dc_S_erase_27 : decode bc_S_erase 27 = .ok (.iload_n 1, 1) := by decide +kernel
theorem dc_S_erase_28 : decode bc_S_erase 28 = .ok (.iaload, 1) := by decide +kernel
theorem dc_S_erase_29 : decode bc_S_erase 29 = .ok (.iload_n 2, 1) := by decide +kernel
theorem dc_S_erase_30 : decode bc_S_erase 30 = .ok (.invokevirtual 67, 3) := by decide +kernel
theorem dc_S_erase_33 : decode bc_S_erase 33 = .ok (.istore_n 3, 1) := by decide +kernel
theorem dc_S_erase_34 : decode bc_S_erase 34 = .ok (.iload_n 3, 1) := by decide +kernel
theorem dc_S_erase_35 : decode bc_S_erase 35 = .ok (.bipush (-2), 2) := by decide +kernel
theorem dc_S_erase_37 : decode bc_S_erase 37 = .ok (.if_icmp .eq 9, 3) := by decide +kernel
theorem dc_S_erase_46 : decode bc_S_erase 46 = .ok (.iload_n 3, 1) := by decide +kernel
theorem dc_S_erase_47 : decode bc_S_erase 47 = .ok (.ireturn, 1) := by decide +kernel
theorem dc_S_erase_40 : decode bc_S_erase 40 = .ok (.aload_n 0, 1) := by decide +kernel
theorem dc_S_erase_41 : decode bc_S_erase 41 = .ok (.iload_n 1, 1) := by decide +kernel
theorem dc_S_erase_42 : decode bc_S_erase 42 = .ok (.iload_n 2, 1) := by decide +kernel
theorem dc_S_erase_43 : decode bc_S_erase 43 = .ok (.invokevirtual 84, 3) := by decide +kernel
theorem dc_S_removeKey_0 : decode bc_S_removeKey 0 = .ok (.aload_n 0, 1) := by decide +kernel
theorem dc_S_removeKey_1 : decode bc_S_removeKey 1 = .ok (.getfield 46, 3) := by decide +kernel
theorem dc_S_removeKey_4 : decode bc_S_removeKey 4 = .ok (.getfield 63, 3) := by decide +kernel
theorem dc_S_removeKey_7 : decode bc_S_removeKey 7 = .ok (.iload_n 1, 1) := by decide +kernel
theorem dc_S_removeKey_8 : decode bc_S_removeKey 8 = .ok (.aload_n 0, 1) := by decide +kernel
theorem dc_S_removeKey_9 : decode bc_S_removeKey 9 = .ok (.getfield 32, 3) := by decide +kernel
theorem dc_S_removeKey_12 : decode bc_S_removeKey 12 = .ok (.aload_n 0, 1) := by decide +kernel
theorem dc_S_removeKey_13 : decode bc_S_removeKey 13 = .ok (.getfield 46, 3) := by decide +kernel
theorem dc_S_removeKey_16 : decode bc_S_removeKey 16 = .ok (.getfield 63, 3) := by decide +kernel
theorem dc_S_removeKey_19 : decode bc_S_removeKey 19 = .ok (.iload_n 1, 1) := by decide +kernel
theorem dc_S_removeKey_20 : decode bc_S_removeKey 20 = .ok (.iaload, 1) := by decide +kernel
theorem dc_S_removeKey_21 : decode bc_S_removeKey 21 = .ok (.iload_n 2, 1) := by decide +kernel
theorem dc_S_removeKey_22 : decode bc_S_removeKey 22 = .ok (.invokevirtual 104, 3) := by decide +kernel
theorem dc_S_removeKey_25 : decode bc_S_removeKey 25 = .ok (.iastore, 1) := by decide +kernel
theorem dc_S_removeKey_26 : decode bc_S_removeKey 26 = .ok (.aload_n 0, 1) := by decide +kernel
theorem dc_S_removeKey_27 : decode bc_S_removeKey 27 = .ok (.getfield 46, 3) := by decide +kernel
theorem dc_S_removeKey_30 : decode bc_S_removeKey 30 = .ok (.getfield 78, 3) := by decide +kernel
theorem dc_S_removeKey_33 : decode bc_S_removeKey 33 = .ok (.iload_n 1, 1) := by decide +kernel
theorem dc_S_removeKey_34 : decode bc_S_removeKey 34 = .ok (.dup2, 1) := by decide +kernel
theorem dc_S_removeKey_35 : decode bc_S_removeKey 35 = .ok (.iaload, 1) := by decide +kernel
theorem dc_S_removeKey_36 : decode bc_S_removeKey 36 = .ok (.iconst 1, 1) := by decide +kernel
theorem dc_S_removeKey_37 : decode bc_S_removeKey 37 = .ok (.isub, 1) := by decide +kernel
theorem dc_S_removeKey_38 : decode bc_S_removeKey 38 = .ok (.iastore, 1) := by decide +kernel
theorem dc_S_removeKey_39 : decode bc_S_removeKey 39 = .ok (.aload_n 0, 1) := by decide +kernel
theorem dc_S_removeKey_40 : decode bc_S_removeKey 40 = .ok (.getfield 46, 3) := by decide +kernel
theorem dc_S_removeKey_43 : decode bc_S_removeKey 43 = .ok (.dup, 1) := by decide +kernel
theorem dc_S_removeKey_44 : decode bc_S_removeKey 44 = .ok (.getfield 70, 3) := by decide +kernel
theorem dc_S_removeKey_47 : decode bc_S_removeKey 47 = .ok (.iconst 1, 1) := by decide +kernel
theorem dc_S_removeKey_48 : decode bc_S_removeKey 48 = .ok (.isub, 1) := by decide +kernel
theorem dc_S_removeKey_49 : decode bc_S_removeKey 49 = .ok (.putfield 70, 3) := by decide +kernel
theorem dc_S_removeKey_52 : decode bc_S_removeKey 52 = .ok (.return_, 1) := by decide +kernel
theorem dc_T_without_0 : decode bc_T_without 0 = .ok (.aload_n 0, 1) := by decide +kernel
theorem dc_T_without_1 : decode bc_T_without 1 = .ok (.getfield 9, 3) := by decide +kernel
theorem dc_T_without_4 : decode bc_T_without 4 = .ok (.iload_n 1, 1) := by decide +kernel
theorem dc_T_without_5 : decode bc_T_without 5 = .ok (.invokevirtual 59, 3) := by decide +kernel
theorem dc_T_without_8 : decode bc_T_without 8 = .ok (.istore_n 3, 1) := by decide +kernel
theorem dc_T_without_9 : decode bc_T_without 9 = .ok (.aload_n 0, 1) := by decide +kernel
theorem dc_T_without_10 : decode bc_T_without 10 = .ok (.iload_n 3, 1) := by decide +kernel
theorem dc_T_without_11 : decode bc_T_without 11 = .ok (.aload_n 0, 1) := by decide +kernel
theorem dc_T_without_12 : decode bc_T_without 12 = .ok (.getfield 9, 3) := by decide +kernel
theorem dc_T_without_15 : decode bc_T_without 15 = .ok (.iload_n 3, 1) := by decide +kernel
theorem dc_T_without_16 : decode bc_T_without 16 = .ok (.invokevirtual 26, 3) := by decide +kernel
theorem dc_T_without_19 : decode bc_T_without 19 = .ok (.iload_n 2, 1) := by decide +kernel
theorem dc_T_without_20 : decode bc_T_without 20 = .ok (.invokevirtual 92, 3) := by decide +kernel
theorem dc_T_without_23 : decode bc_T_without 23 = .ok (.aload_n 0, 1) := by decide +kernel
theorem dc_T_without_24 : decode bc_T_without 24 = .ok (.iload_n 3, 1) := by decide +kernel
theorem dc_T_without_25 : decode bc_T_without 25 = .ok (.invokevirtual 95, 3) := by decide +kernel
theorem dc_T_without_28 : decode bc_T_without 28 = .ok (.ireturn, 1) := by decide +kernel
theorem dc_T_removeBelow_0 : decode bc_T_removeBelow 0 = .ok (.iload_n 2, 1) := by decide +kernel
theorem dc_T_removeBelow_1 : decode bc_T_removeBelow 1 = .ok (.bipush 16, 2) := by decide +kernel
theorem dc_T_removeBelow_3 : decode bc_T_removeBelow 3 = .ok (.if_icmp .le 4, 3) := by decide +kernel
theorem dc_T_removeBelow_7 : decode bc_T_removeBelow 7 = .ok (.iload_n 2, 1) := by decide +kernel
theorem dc_T_removeBelow_8 : decode bc_T_removeBelow 8 = .ok (.ifCond .gt 21, 3) := by decide +kernel
theorem dc_T_removeBelow_29 : decode bc_T_removeBelow 29 = .ok (.aload_n 0, 1) := by decide +kernel
theorem dc_T_removeBelow_30 : decode bc_T_removeBelow 30 = .ok (.iload_n 1, 1) := by decide +kernel
theorem dc_T_removeBelow_31 : decode bc_T_removeBelow 31 = .ok (.iload_n 3, 1) := by decide +kernel
theorem dc_T_removeBelow_32 : decode bc_T_removeBelow 32 = .ok (.invokevirtual 31, 3) := by decide +kernel
theorem dc_T_removeBelow_35 : decode bc_T_removeBelow 35 = .ok (.istore 4, 2) := by decide +kernel
theorem dc_T_removeBelow_37 : decode bc_T_removeBelow 37 = .ok (.aload_n 0, 1) := by decide +kernel
theorem dc_T_removeBelow_38 : decode bc_T_removeBelow 38 = .ok (.iload_n 1, 1) := by decide +kernel
theorem dc_T_removeBelow_39 : decode bc_T_removeBelow 39 = .ok (.iload 4, 2) := by decide +kernel
theorem dc_T_removeBelow_41 : decode bc_T_removeBelow 41 = .ok (.invokevirtual 73, 3) := by decide +kernel
theorem dc_T_removeBelow_44 : decode bc_T_removeBelow 44 = .ok (.istore 5, 2) := by decide +kernel
theorem dc_T_removeBelow_46 : decode bc_T_removeBelow 46 = .ok (.aload_n 0, 1) := by decide +kernel
theorem dc_T_removeBelow_47 : decode bc_T_removeBelow 47 = .ok (.iload 5, 2) := by decide +kernel
theorem dc_T_removeBelow_49 : decode bc_T_removeBelow 49 = .ok (.iload_n 2, 1) := by decide +kernel
theorem dc_T_removeBelow_50 : decode bc_T_removeBelow 50 = .ok (.iconst 1, 1) := by decide +kernel
theorem dc_T_removeBelow_51 : decode bc_T_removeBelow 51 = .ok (.isub, 1) := by decide +kernel
theorem dc_T_removeBelow_52 : decode bc_T_removeBelow 52 = .ok (.iload_n 3, 1) := by decide +kernel
theorem dc_T_removeBelow_53 : decode bc_T_removeBelow 53 = .ok (.invokevirtual 92, 3) := by decide +kernel
theorem dc_T_removeBelow_56 : decode bc_T_removeBelow 56 = .ok (.aload_n 0, 1) := by decide +kernel
theorem dc_T_removeBelow_57 : decode bc_T_removeBelow 57 = .ok (.getfield 9, 3) := by decide +kernel
theorem dc_T_removeBelow_60 : decode bc_T_removeBelow 60 = .ok (.iload_n 1, 1) := by decide +kernel
theorem dc_T_removeBelow_61 : decode bc_T_removeBelow 61 = .ok (.iload 4, 2) := by decide +kernel
theorem dc_T_removeBelow_63 : decode bc_T_removeBelow 63 = .ok (.aload_n 0, 1) := by decide +kernel
theorem dc_T_removeBelow_64 : decode bc_T_removeBelow 64 = .ok (.getfield 9, 3) := by decide +kernel
theorem dc_T_removeBelow_67 : decode bc_T_removeBelow 67 = .ok (.iload 5, 2) := by decide +kernel
theorem dc_T_removeBelow_69 : decode bc_T_removeBelow 69 = .ok (.iconst 0, 1) := by decide +kernel
theorem dc_T_removeBelow_70 : decode bc_T_removeBelow 70 = .ok (.invokevirtual 41, 3) := by decide +kernel
theorem dc_T_removeBelow_73 : decode bc_T_removeBelow 73 = .ok (.invokevirtual 76, 3) := by decide +kernel
theorem dc_T_removeBelow_76 : decode bc_T_removeBelow 76 = .ok (.aload_n 0, 1) := by decide +kernel
theorem dc_T_removeBelow_77 : decode bc_T_removeBelow 77 = .ok (.getfield 9, 3) := by decide +kernel
theorem dc_T_removeBelow_80 : decode bc_T_removeBelow 80 = .ok (.iload 5, 2) := by decide +kernel
theorem dc_T_removeBelow_82 : decode bc_T_removeBelow 82 = .ok (.invokevirtual 48, 3) := by decide +kernel
theorem dc_T_removeBelow_85 : decode bc_T_removeBelow 85 = .ok (.aload_n 0, 1) := by decide +kernel
theorem dc_T_removeBelow_86 : decode bc_T_removeBelow 86 = .ok (.getfield 23, 3) := by decide +kernel
theorem dc_T_removeBelow_89 : decode bc_T_removeBelow 89 = .ok (.if_icmp .ge 16, 3) := by decide +kernel
theorem dc_T_removeBelow_105 : decode bc_T_removeBelow 105 = .ok (.return_, 1) := by decide +kernel
theorem dc_T_removeBelow_92 : decode bc_T_removeBelow 92 = .ok (.aload_n 0, 1) := by decide +kernel
theorem dc_T_removeBelow_93 : decode bc_T_removeBelow 93 = .ok (.iload_n 1, 1) := by decide +kernel
theorem dc_T_removeBelow_94 : decode bc_T_removeBelow 94 = .ok (.iconst 0, 1) := by decide +kernel
theorem dc_T_removeBelow_95 : decode bc_T_removeBelow 95 = .ok (.iload 4, 2) := by decide +kernel
theorem dc_T_removeBelow_97 : decode bc_T_removeBelow 97 = .ok (.iconst 1, 1) := by decide +kernel
theorem dc_T_removeBelow_98 : decode bc_T_removeBelow 98 = .ok (.isub, 1) := by decide +kernel
theorem dc_T_removeBelow_99 : decode bc_T_removeBelow 99 = .ok (.invokestatic 51, 3) := by decide +kernel
theorem dc_T_removeBelow_102 : decode bc_T_removeBelow 102 = .ok (.invokevirtual 101, 3) := by decide +kernel
theorem dc_T_removeBelow_11 : decode bc_T_removeBelow 11 = .ok (.aload_n 0, 1) := by decide +kernel
theorem dc_T_removeBelow_12 : decode bc_T_removeBelow 12 = .ok (.getfield 9, 3) := by decide +kernel
theorem dc_T_removeBelow_15 : decode bc_T_removeBelow 15 = .ok (.iload_n 1, 1) := by decide +kernel
theorem dc_T_removeBelow_16 : decode bc_T_removeBelow 16 = .ok (.aload_n 0, 1) := by decide +kernel
theorem dc_T_removeBelow_17 : decode bc_T_removeBelow 17 = .ok (.getfield 9, 3) := by decide +kernel
theorem dc_T_removeBelow_20 : decode bc_T_removeBelow 20 = .ok (.iload_n 1, 1) := by decide +kernel
theorem dc_T_removeBelow_21 : decode bc_T_removeBelow 21 = .ok (.iload_n 3, 1) := by decide +kernel
theorem dc_T_removeBelow_22 : decode bc_T_removeBelow 22 = .ok (.invokevirtual 38, 3) := by decide +kernel
theorem dc_T_removeBelow_25 : decode bc_T_removeBelow 25 = .ok (.invokevirtual 98, 3) := by decide +kernel
theorem dc_T_removeBelow_28 : decode bc_T_removeBelow 28 = .ok (.return_, 1) := by decide +kernel
theorem dc_T_removeBelow_6 : decode bc_T_removeBelow 6 = .ok (.return_, 1) := by decide +kernel
theorem dc_T_fill_0 : decode bc_T_fill 0 = .ok (.aload_n 0, 1) := by decide +kernel
theorem dc_T_fill_1 : decode bc_T_fill 1 = .ok (.iload_n 1, 1) := by decide +kernel
theorem dc_T_fill_2 : decode bc_T_fill 2 = .ok (.iload_n 2, 1) := by decide +kernel
theorem dc_T_fill_3 : decode bc_T_fill 3 = .ok (.invokevirtual 73, 3) := by decide +kernel
theorem dc_T_fill_6 : decode bc_T_fill 6 = .ok (.istore_n 3, 1) := by decide +kernel
theorem dc_T_fill_7 : decode bc_T_fill 7 = .ok (.aload_n 0, 1) := by decide +kernel
theorem dc_T_fill_8 : decode bc_T_fill 8 = .ok (.iload_n 1, 1) := by decide +kernel
theorem dc_T_fill_9 : decode bc_T_fill 9 = .ok (.iload_n 2, 1) := by decide +kernel
theorem dc_T_fill_10 : decode bc_T_fill 10 = .ok (.iconst 1, 1) := by decide +kernel
theorem dc_T_fill_11 : decode bc_T_fill 11 = .ok (.iadd, 1) := by decide +kernel
theorem dc_T_fill_12 : decode bc_T_fill 12 = .ok (.invokevirtual 73, 3) := by decide +kernel
theorem dc_T_fill_15 : decode bc_T_fill 15 = .ok (.istore 4, 2) := by decide +kernel
theorem dc_T_fill_17 : decode bc_T_fill 17 = .ok (.aload_n 0, 1) := by decide +kernel
theorem dc_T_fill_18 : decode bc_T_fill 18 = .ok (.getfield 9, 3) := by decide +kernel
theorem dc_T_fill_21 : decode bc_T_fill 21 = .ok (.iload_n 3, 1) := by decide +kernel
theorem dc_T_fill_22 : decode bc_T_fill 22 = .ok (.invokevirtual 48, 3) := by decide +kernel
theorem dc_T_fill_25 : decode bc_T_fill 25 = .ok (.aload_n 0, 1) := by decide +kernel
theorem dc_T_fill_26 : decode bc_T_fill 26 = .ok (.getfield 9, 3) := by decide +kernel
theorem dc_T_fill_29 : decode bc_T_fill 29 = .ok (.iload 4, 2) := by decide +kernel
theorem dc_T_fill_31 : decode bc_T_fill 31 = .ok (.invokevirtual 48, 3) := by decide +kernel
theorem dc_T_fill_34 : decode bc_T_fill 34 = .ok (.iadd, 1) := by decide +kernel
theorem dc_T_fill_35 : decode bc_T_fill 35 = .ok (.aload_n 0, 1) := by decide +kernel
theorem dc_T_fill_36 : decode bc_T_fill 36 = .ok (.getfield 15, 3) := by decide +kernel
theorem dc_T_fill_39 : decode bc_T_fill 39 = .ok (.if_icmp .gt 35, 3) := by decide +kernel
theorem dc_T_fill_74 : decode bc_T_fill 74 = .ok (.aload_n 0, 1) := by decide +kernel
theorem dc_T_fill_75 : decode bc_T_fill 75 = .ok (.getfield 9, 3) := by decide +kernel
theorem dc_T_fill_78 : decode bc_T_fill 78 = .ok (.iload_n 3, 1) := by decide +kernel
theorem dc_T_fill_79 : decode bc_T_fill 79 = .ok (.invokevirtual 48, 3) := by decide +kernel
theorem dc_T_fill_82 : decode bc_T_fill 82 = .ok (.aload_n 0, 1) := by decide +kernel
theorem dc_T_fill_83 : decode bc_T_fill 83 = .ok (.getfield 9, 3) := by decide +kernel
theorem dc_T_fill_86 : decode bc_T_fill 86 = .ok (.iload 4, 2) := by decide +kernel
theorem dc_T_fill_88 : decode bc_T_fill 88 = .ok (.invokevirtual 48, 3) := by decide +kernel
theorem dc_T_fill_91 : decode bc_T_fill 91 = .ok (.if_icmp .ge 22, 3) := by decide +kernel
theorem dc_T_fill_113 : decode bc_T_fill 113 = .ok (.aload_n 0, 1) := by decide +kernel
theorem dc_T_fill_114 : decode bc_T_fill 114 = .ok (.iload_n 3, 1) := by decide +kernel
theorem dc_T_fill_115 : decode bc_T_fill 115 = .ok (.aload_n 0, 1) := by decide +kernel
theorem dc_T_fill_116 : decode bc_T_fill 116 = .ok (.getfield 9, 3) := by decide +kernel
theorem dc_T_fill_119 : decode bc_T_fill 119 = .ok (.iload_n 3, 1) := by decide +kernel
theorem dc_T_fill_120 : decode bc_T_fill 120 = .ok (.invokevirtual 48, 3) := by decide +kernel
theorem dc_T_fill_123 : decode bc_T_fill 123 = .ok (.iconst 1, 1) := by decide +kernel
theorem dc_T_fill_124 : decode bc_T_fill 124 = .ok (.isub, 1) := by decide +kernel
theorem dc_T_fill_125 : decode bc_T_fill 125 = .ok (.iload 4, 2) := by decide +kernel
theorem dc_T_fill_127 : decode bc_T_fill 127 = .ok (.iconst 0, 1) := by decide +kernel
theorem dc_T_fill_128 : decode bc_T_fill 128 = .ok (.invokevirtual 108, 3) := by decide +kernel
theorem dc_T_fill_131 : decode bc_T_fill 131 = .ok (.aload_n 0, 1) := by decide +kernel
theorem dc_T_fill_132 : decode bc_T_fill 132 = .ok (.getfield 9, 3) := by decide +kernel
theorem dc_T_fill_135 : decode bc_T_fill 135 = .ok (.iload_n 1, 1) := by decide +kernel
theorem dc_T_fill_136 : decode bc_T_fill 136 = .ok (.iload_n 2, 1) := by decide +kernel
theorem dc_T_fill_137 : decode bc_T_fill 137 = .ok (.iconst 1, 1) := by decide +kernel
theorem dc_T_fill_138 : decode bc_T_fill 138 = .ok (.iadd, 1) := by decide +kernel
theorem dc_T_fill_139 : decode bc_T_fill 139 = .ok (.aload_n 0, 1) := by decide +kernel
theorem dc_T_fill_140 : decode bc_T_fill 140 = .ok (.getfield 9, 3) := by decide +kernel
theorem dc_T_fill_143 : decode bc_T_fill 143 = .ok (.iload 4, 2) := by decide +kernel
theorem dc_T_fill_145 : decode bc_T_fill 145 = .ok (.iconst 0, 1) := by decide +kernel
theorem dc_T_fill_146 : decode bc_T_fill 146 = .ok (.invokevirtual 41, 3) := by decide +kernel
theorem dc_T_fill_149 : decode bc_T_fill 149 = .ok (.invokevirtual 76, 3) := by decide +kernel
theorem dc_T_fill_152 : decode bc_T_fill 152 = .ok (.return_, 1) := by decide +kernel
theorem dc_T_fill_94 : decode bc_T_fill 94 = .ok (.aload_n 0, 1) := by decide +kernel
theorem dc_T_fill_95 : decode bc_T_fill 95 = .ok (.iload 4, 2) := by decide +kernel
theorem dc_T_fill_97 : decode bc_T_fill 97 = .ok (.iconst 0, 1) := by decide +kernel
theorem dc_T_fill_98 : decode bc_T_fill 98 = .ok (.iload_n 3, 1) := by decide +kernel
theorem dc_T_fill_99 : decode bc_T_fill 99 = .ok (.aload_n 0, 1) := by decide +kernel
theorem dc_T_fill_100 : decode bc_T_fill 100 = .ok (.getfield 9, 3) := by decide +kernel
theorem dc_T_fill_103 : decode bc_T_fill 103 = .ok (.iload_n 3, 1) := by decide +kernel
theorem dc_T_fill_104 : decode bc_T_fill 104 = .ok (.invokevirtual 48, 3) := by decide +kernel
theorem dc_T_fill_107 : decode bc_T_fill 107 = .ok (.invokevirtual 108, 3) := by decide +kernel
theorem dc_T_fill_110 : decode bc_T_fill 110 = .ok (.goto 21, 3) := by decide +kernel
theorem dc_T_fill_42 : decode bc_T_fill 42 = .ok (.aload_n 0, 1) := by decide +kernel
theorem dc_T_fill_43 : decode bc_T_fill 43 = .ok (.getfield 9, 3) := by decide +kernel
theorem dc_T_fill_46 : decode bc_T_fill 46 = .ok (.iload 4, 2) := by decide +kernel
theorem dc_T_fill_48 : decode bc_T_fill 48 = .ok (.iconst 0, 1) := by decide +kernel
theorem dc_T_fill_49 : decode bc_T_fill 49 = .ok (.iload_n 3, 1) := by decide +kernel
theorem dc_T_fill_50 : decode bc_T_fill 50 = .ok (.invokevirtual 89, 3) := by decide +kernel
theorem dc_T_fill_53 : decode bc_T_fill 53 = .ok (.aload_n 0, 1) := by decide +kernel
theorem dc_T_fill_54 : decode bc_T_fill 54 = .ok (.getfield 9, 3) := by decide +kernel
theorem dc_T_fill_57 : decode bc_T_fill 57 = .ok (.iload 4, 2) := by decide +kernel
theorem dc_T_fill_59 : decode bc_T_fill 59 = .ok (.invokevirtual 104, 3) := by decide +kernel
theorem dc_T_fill_62 : decode bc_T_fill 62 = .ok (.aload_n 0, 1) := by decide +kernel
theorem dc_T_fill_63 : decode bc_T_fill 63 = .ok (.getfield 9, 3) := by decide +kernel
theorem dc_T_fill_66 : decode bc_T_fill 66 = .ok (.iload_n 1, 1) := by decide +kernel
theorem dc_T_fill_67 : decode bc_T_fill 67 = .ok (.iload_n 2, 1) := by decide +kernel
theorem dc_T_fill_68 : decode bc_T_fill 68 = .ok (.iconst 1, 1) := by decide +kernel
theorem dc_T_fill_69 : decode bc_T_fill 69 = .ok (.iadd, 1) := by decide +kernel
theorem dc_T_fill_70 : decode bc_T_fill 70 = .ok (.invokevirtual 98, 3) := by decide +kernel
theorem dc_T_fill_73 : decode bc_T_fill 73 = .ok (.return_, 1) := by decide +kernel
theorem dc_T_moveEntry_0 : decode bc_T_moveEntry 0 = .ok (.aload_n 0, 1) := by decide +kernel
theorem dc_T_moveEntry_1 : decode bc_T_moveEntry 1 = .ok (.getfield 9, 3) := by decide +kernel
theorem dc_T_moveEntry_4 : decode bc_T_moveEntry 4 = .ok (.iload_n 3, 1) := by decide +kernel
theorem dc_T_moveEntry_5 : decode bc_T_moveEntry 5 = .ok (.iload 4, 2) := by decide +kernel
theorem dc_T_moveEntry_7 : decode bc_T_moveEntry 7 = .ok (.aload_n 0, 1) := by decide +kernel
theorem dc_T_moveEntry_8 : decode bc_T_moveEntry 8 = .ok (.getfield 9, 3) := by decide +kernel
theorem dc_T_moveEntry_11 : decode bc_T_moveEntry 11 = .ok (.iload_n 1, 1) := by decide +kernel
theorem dc_T_moveEntry_12 : decode bc_T_moveEntry 12 = .ok (.iload_n 2, 1) := by decide +kernel
theorem dc_T_moveEntry_13 : decode bc_T_moveEntry 13 = .ok (.invokevirtual 41, 3) := by decide +kernel
theorem dc_T_moveEntry_16 : decode bc_T_moveEntry 16 = .ok (.aload_n 0, 1) := by decide +kernel
end
section
theorem dc_T_moveEntry_17 : decode bc_T_moveEntry 17 = .ok (.getfield 9, 3) := by decide +kernel
theorem dc_T_moveEntry_20 : decode bc_T_moveEntry 20 = .ok (.iload_n 1, 1) := by decide +kernel
theorem dc_T_moveEntry_21 : decode bc_T_moveEntry 21 = .ok (.iload_n 2, 1) := by decide +kernel
theorem dc_T_moveEntry_22 : decode bc_T_moveEntry 22 = .ok (.invokevirtual 35, 3) := by decide +kernel
theorem dc_T_moveEntry_25 : decode bc_T_moveEntry 25 = .ok (.invokevirtual 86, 3) := by decide +kernel
theorem dc_T_moveEntry_28 : decode bc_T_moveEntry 28 = .ok (.aload_n 0, 1) := by decide +kernel
theorem dc_T_moveEntry_29 : decode bc_T_moveEntry 29 = .ok (.getfield 9, 3) := by decide +kernel
theorem dc_T_moveEntry_32 : decode bc_T_moveEntry 32 = .ok (.iload_n 1, 1) := by decide +kernel
theorem dc_T_moveEntry_33 : decode bc_T_moveEntry 33 = .ok (.iload_n 2, 1) := by decide +kernel
theorem dc_T_moveEntry_34 : decode bc_T_moveEntry 34 = .ok (.invokevirtual 98, 3) := by decide +kernel
theorem dc_T_moveEntry_37 : decode bc_T_moveEntry 37 = .ok (.return_, 1) := by decide +kernel
theorem dc_B_remove_0 : decode bc_B_remove 0 = .ok (.aload_n 0, 1) := by decide +kernel
theorem dc_B_remove_1 : decode bc_B_remove 1 = .ok (.iload_n 1, 1) := by decide +kernel
theorem dc_B_remove_2 : decode bc_B_remove 2 = .ok (.invokevirtual 45, 3) := by decide +kernel
theorem dc_B_remove_5 : decode bc_B_remove 5 = .ok (.istore_n 3, 1) := by decide +kernel
theorem dc_B_remove_6 : decode bc_B_remove 6 = .ok (.aload_n 0, 1) := by decide +kernel
theorem dc_B_remove_7 : decode bc_B_remove 7 = .ok (.iload_n 1, 1) := by decide +kernel
theorem dc_B_remove_8 : decode bc_B_remove 8 = .ok (.iload_n 2, 1) := by decide +kernel
theorem dc_B_remove_9 : decode bc_B_remove 9 = .ok (.invokevirtual 41, 3) := by decide +kernel
theorem dc_B_remove_12 : decode bc_B_remove 12 = .ok (.ifCond .eq 11, 3) := by decide +kernel
theorem dc_B_remove_23 : decode bc_B_remove 23 = .ok (.return_, 1) := by decide +kernel
theorem dc_B_remove_15 : decode bc_B_remove 15 = .ok (.iload_n 3, 1) := by decide +kernel
theorem dc_B_remove_16 : decode bc_B_remove 16 = .ok (.aload_n 0, 1) := by decide +kernel
theorem dc_B_remove_17 : decode bc_B_remove 17 = .ok (.getfield 28, 3) := by decide +kernel
theorem dc_B_remove_20 : decode bc_B_remove 20 = .ok (.if_icmp .le 4, 3) := by decide +kernel
theorem dc_B_remove_24 : decode bc_B_remove 24 = .ok (.iload_n 1, 1) := by decide +kernel
theorem dc_B_remove_25 : decode bc_B_remove 25 = .ok (.aload_n 0, 1) := by decide +kernel
theorem dc_B_remove_26 : decode bc_B_remove 26 = .ok (.getfield 28, 3) := by decide +kernel
theorem dc_B_remove_29 : decode bc_B_remove 29 = .ok (.imul, 1) := by decide +kernel
theorem dc_B_remove_30 : decode bc_B_remove 30 = .ok (.iload_n 2, 1) := by decide +kernel
theorem dc_B_remove_31 : decode bc_B_remove 31 = .ok (.iadd, 1) := by decide +kernel
theorem dc_B_remove_32 : decode bc_B_remove 32 = .ok (.istore 4, 2) := by decide +kernel
theorem dc_B_remove_34 : decode bc_B_remove 34 = .ok (.aload_n 0, 1) := by decide +kernel
theorem dc_B_remove_35 : decode bc_B_remove 35 = .ok (.getfield 31, 3) := by decide +kernel
theorem dc_B_remove_38 : decode bc_B_remove 38 = .ok (.iload 4, 2) := by decide +kernel
theorem dc_B_remove_40 : decode bc_B_remove 40 = .ok (.iconst 1, 1) := by decide +kernel
theorem dc_B_remove_41 : decode bc_B_remove 41 = .ok (.iadd, 1) := by decide +kernel
theorem dc_B_remove_42 : decode bc_B_remove 42 = .ok (.aload_n 0, 1) := by decide +kernel
theorem dc_B_remove_43 : decode bc_B_remove 43 = .ok (.getfield 31, 3) := by decide +kernel
theorem dc_B_remove_46 : decode bc_B_remove 46 = .ok (.iload 4, 2) := by decide +kernel
theorem dc_B_remove_48 : decode bc_B_remove 48 = .ok (.iload_n 3, 1) := by decide +kernel
theorem dc_B_remove_49 : decode bc_B_remove 49 = .ok (.iload_n 2, 1) := by decide +kernel
theorem dc_B_remove_50 : decode bc_B_remove 50 = .ok (.isub, 1) := by decide +kernel
theorem dc_B_remove_51 : decode bc_B_remove 51 = .ok (.iconst 1, 1) := by decide +kernel
theorem dc_B_remove_52 : decode bc_B_remove 52 = .ok (.isub, 1) := by decide +kernel
theorem dc_B_remove_53 : decode bc_B_remove 53 = .ok (.invokestatic 80, 3) := by decide +kernel
theorem dc_B_remove_56 : decode bc_B_remove 56 = .ok (.aload_n 0, 1) := by decide +kernel
theorem dc_B_remove_57 : decode bc_B_remove 57 = .ok (.getfield 34, 3) := by decide +kernel
theorem dc_B_remove_60 : decode bc_B_remove 60 = .ok (.iload 4, 2) := by decide +kernel
theorem dc_B_remove_62 : decode bc_B_remove 62 = .ok (.iconst 1, 1) := by decide +kernel
theorem dc_B_remove_63 : decode bc_B_remove 63 = .ok (.iadd, 1) := by decide +kernel
theorem dc_B_remove_64 : decode bc_B_remove 64 = .ok (.aload_n 0, 1) := by decide +kernel
theorem dc_B_remove_65 : decode bc_B_remove 65 = .ok (.getfield 34, 3) := by decide +kernel
theorem dc_B_remove_68 : decode bc_B_remove 68 = .ok (.iload 4, 2) := by decide +kernel
theorem dc_B_remove_70 : decode bc_B_remove 70 = .ok (.iload_n 3, 1) := by decide +kernel
theorem dc_B_remove_71 : decode bc_B_remove 71 = .ok (.iload_n 2, 1) := by decide +kernel
theorem dc_B_remove_72 : decode bc_B_remove 72 = .ok (.isub, 1) := by decide +kernel
theorem dc_B_remove_73 : decode bc_B_remove 73 = .ok (.iconst 1, 1) := by decide +kernel
theorem dc_B_remove_74 : decode bc_B_remove 74 = .ok (.isub, 1) := by decide +kernel
theorem dc_B_remove_75 : decode bc_B_remove 75 = .ok (.invokestatic 80, 3) := by decide +kernel
theorem dc_B_remove_78 : decode bc_B_remove 78 = .ok (.aload_n 0, 1) := by decide +kernel
theorem dc_B_remove_79 : decode bc_B_remove 79 = .ok (.getfield 18, 3) := by decide +kernel
theorem dc_B_remove_82 : decode bc_B_remove 82 = .ok (.iload_n 1, 1) := by decide +kernel
theorem dc_B_remove_83 : decode bc_B_remove 83 = .ok (.iload_n 3, 1) := by decide +kernel
theorem dc_B_remove_84 : decode bc_B_remove 84 = .ok (.iconst 1, 1) := by decide +kernel
theorem dc_B_remove_85 : decode bc_B_remove 85 = .ok (.isub, 1) := by decide +kernel
theorem dc_B_remove_86 : decode bc_B_remove 86 = .ok (.iastore, 1) := by decide +kernel
theorem dc_B_remove_87 : decode bc_B_remove 87 = .ok (.return_, 1) := by decide +kernel
theorem dc_B_give_0 : decode bc_B_give 0 = .ok (.aload_n 0, 1) := by decide +kernel
theorem dc_B_give_1 : decode bc_B_give 1 = .ok (.iload_n 1, 1) := by decide +kernel
theorem dc_B_give_2 : decode bc_B_give 2 = .ok (.invokevirtual 37, 3) := by decide +kernel
theorem dc_B_give_5 : decode bc_B_give 5 = .ok (.ifCond .eq 61, 3) := by decide +kernel
theorem dc_B_give_66 : decode bc_B_give 66 = .ok (.return_, 1) := by decide +kernel
theorem dc_B_give_8 : decode bc_B_give 8 = .ok (.aload_n 0, 1) := by decide +kernel
theorem dc_B_give_9 : decode bc_B_give 9 = .ok (.getfield 24, 3) := by decide +kernel
theorem dc_B_give_12 : decode bc_B_give 12 = .ok (.ifCond .lt 54, 3) := by decide +kernel
theorem dc_B_give_15 : decode bc_B_give 15 = .ok (.aload_n 0, 1) := by decide +kernel
theorem dc_B_give_16 : decode bc_B_give 16 = .ok (.getfield 24, 3) := by decide +kernel
theorem dc_B_give_19 : decode bc_B_give 19 = .ok (.sipush 1200, 3) := by decide +kernel
theorem dc_B_give_22 : decode bc_B_give 22 = .ok (.if_icmp .ge 44, 3) := by decide +kernel
theorem dc_B_give_25 : decode bc_B_give 25 = .ok (.aload_n 0, 1) := by decide +kernel
theorem dc_B_give_26 : decode bc_B_give 26 = .ok (.getfield 9, 3) := by decide +kernel
theorem dc_B_give_29 : decode bc_B_give 29 = .ok (.iload_n 1, 1) := by decide +kernel
theorem dc_B_give_30 : decode bc_B_give 30 = .ok (.iconst 0, 1) := by decide +kernel
theorem dc_B_give_31 : decode bc_B_give 31 = .ok (.iastore, 1) := by decide +kernel
theorem dc_B_give_32 : decode bc_B_give 32 = .ok (.aload_n 0, 1) := by decide +kernel
theorem dc_B_give_33 : decode bc_B_give 33 = .ok (.getfield 15, 3) := by decide +kernel
theorem dc_B_give_36 : decode bc_B_give 36 = .ok (.iload_n 1, 1) := by decide +kernel
theorem dc_B_give_37 : decode bc_B_give 37 = .ok (.iconst 0, 1) := by decide +kernel
theorem dc_B_give_38 : decode bc_B_give 38 = .ok (.iastore, 1) := by decide +kernel
theorem dc_B_give_39 : decode bc_B_give 39 = .ok (.aload_n 0, 1) := by decide +kernel
theorem dc_B_give_40 : decode bc_B_give 40 = .ok (.getfield 18, 3) := by decide +kernel
theorem dc_B_give_43 : decode bc_B_give 43 = .ok (.iload_n 1, 1) := by decide +kernel
theorem dc_B_give_44 : decode bc_B_give 44 = .ok (.iconst 0, 1) := by decide +kernel
theorem dc_B_give_45 : decode bc_B_give 45 = .ok (.iastore, 1) := by decide +kernel
theorem dc_B_give_46 : decode bc_B_give 46 = .ok (.aload_n 0, 1) := by decide +kernel
theorem dc_B_give_47 : decode bc_B_give 47 = .ok (.getfield 21, 3) := by decide +kernel
theorem dc_B_give_50 : decode bc_B_give 50 = .ok (.aload_n 0, 1) := by decide +kernel
theorem dc_B_give_51 : decode bc_B_give 51 = .ok (.getfield 24, 3) := by decide +kernel
theorem dc_B_give_54 : decode bc_B_give 54 = .ok (.iload_n 1, 1) := by decide +kernel
theorem dc_B_give_55 : decode bc_B_give 55 = .ok (.iastore, 1) := by decide +kernel
theorem dc_B_give_56 : decode bc_B_give 56 = .ok (.aload_n 0, 1) := by decide +kernel
theorem dc_B_give_57 : decode bc_B_give 57 = .ok (.dup, 1) := by decide +kernel
theorem dc_B_give_58 : decode bc_B_give 58 = .ok (.getfield 24, 3) := by decide +kernel
theorem dc_B_give_61 : decode bc_B_give 61 = .ok (.iconst 1, 1) := by decide +kernel
theorem dc_B_give_62 : decode bc_B_give 62 = .ok (.iadd, 1) := by decide +kernel
theorem dc_B_give_63 : decode bc_B_give 63 = .ok (.putfield 24, 3) := by decide +kernel
theorem dc_T_shrunk_0 : decode bc_T_shrunk 0 = .ok (.aload_n 0, 1) := by decide +kernel
theorem dc_T_shrunk_1 : decode bc_T_shrunk 1 = .ok (.getfield 9, 3) := by decide +kernel
theorem dc_T_shrunk_4 : decode bc_T_shrunk 4 = .ok (.iload_n 1, 1) := by decide +kernel
theorem dc_T_shrunk_5 : decode bc_T_shrunk 5 = .ok (.invokevirtual 48, 3) := by decide +kernel
theorem dc_T_shrunk_8 : decode bc_T_shrunk 8 = .ok (.ifCond .ne 13, 3) := by decide +kernel
theorem dc_T_shrunk_21 : decode bc_T_shrunk 21 = .ok (.aload_n 0, 1) := by decide +kernel
theorem dc_T_shrunk_22 : decode bc_T_shrunk 22 = .ok (.getfield 9, 3) := by decide +kernel
theorem dc_T_shrunk_25 : decode bc_T_shrunk 25 = .ok (.iload_n 1, 1) := by decide +kernel
theorem dc_T_shrunk_26 : decode bc_T_shrunk 26 = .ok (.invokevirtual 26, 3) := by decide +kernel
theorem dc_T_shrunk_29 : decode bc_T_shrunk 29 = .ok (.ifCond .le 35, 3) := by decide +kernel
theorem dc_T_shrunk_64 : decode bc_T_shrunk 64 = .ok (.iload_n 1, 1) := by decide +kernel
theorem dc_T_shrunk_65 : decode bc_T_shrunk 65 = .ok (.ireturn, 1) := by decide +kernel
theorem dc_T_shrunk_32 : decode bc_T_shrunk 32 = .ok (.aload_n 0, 1) := by decide +kernel
theorem dc_T_shrunk_33 : decode bc_T_shrunk 33 = .ok (.getfield 9, 3) := by decide +kernel
theorem dc_T_shrunk_36 : decode bc_T_shrunk 36 = .ok (.iload_n 1, 1) := by decide +kernel
theorem dc_T_shrunk_37 : decode bc_T_shrunk 37 = .ok (.invokevirtual 48, 3) := by decide +kernel
theorem dc_T_shrunk_40 : decode bc_T_shrunk 40 = .ok (.iconst 1, 1) := by decide +kernel
theorem dc_T_shrunk_41 : decode bc_T_shrunk 41 = .ok (.if_icmp .ne 23, 3) := by decide +kernel
theorem dc_T_shrunk_44 : decode bc_T_shrunk 44 = .ok (.aload_n 0, 1) := by decide +kernel
theorem dc_T_shrunk_45 : decode bc_T_shrunk 45 = .ok (.getfield 9, 3) := by decide +kernel
theorem dc_T_shrunk_48 : decode bc_T_shrunk 48 = .ok (.iload_n 1, 1) := by decide +kernel
theorem dc_T_shrunk_49 : decode bc_T_shrunk 49 = .ok (.iconst 0, 1) := by decide +kernel
theorem dc_T_shrunk_50 : decode bc_T_shrunk 50 = .ok (.invokevirtual 35, 3) := by decide +kernel
theorem dc_T_shrunk_53 : decode bc_T_shrunk 53 = .ok (.istore_n 2, 1) := by decide +kernel
theorem dc_T_shrunk_54 : decode bc_T_shrunk 54 = .ok (.aload_n 0, 1) := by decide +kernel
theorem dc_T_shrunk_55 : decode bc_T_shrunk 55 = .ok (.getfield 9, 3) := by decide +kernel
theorem dc_T_shrunk_58 : decode bc_T_shrunk 58 = .ok (.iload_n 1, 1) := by decide +kernel
theorem dc_T_shrunk_59 : decode bc_T_shrunk 59 = .ok (.invokevirtual 104, 3) := by decide +kernel
theorem dc_T_shrunk_62 : decode bc_T_shrunk 62 = .ok (.iload_n 2, 1) := by decide +kernel
theorem dc_T_shrunk_63 : decode bc_T_shrunk 63 = .ok (.ireturn, 1) := by decide +kernel
theorem dc_T_shrunk_11 : decode bc_T_shrunk 11 = .ok (.aload_n 0, 1) := by decide +kernel
theorem dc_T_shrunk_12 : decode bc_T_shrunk 12 = .ok (.getfield 9, 3) := by decide +kernel
theorem dc_T_shrunk_15 : decode bc_T_shrunk 15 = .ok (.iload_n 1, 1) := by decide +kernel
theorem dc_T_shrunk_16 : decode bc_T_shrunk 16 = .ok (.invokevirtual 104, 3) := by decide +kernel
theorem dc_T_shrunk_19 : decode bc_T_shrunk 19 = .ok (.iconst 0, 1) := by decide +kernel
theorem dc_T_shrunk_20 : decode bc_T_shrunk 20 = .ok (.ireturn, 1) := by decide +kernel
theorem dc_R_erase_0 : decode bc_R_erase 0 = .ok (.aload_n 0, 1) := by decide +kernel
theorem dc_R_erase_1 : decode bc_R_erase 1 = .ok (.iload_n 1, 1) := by decide +kernel
theorem dc_R_erase_2 : decode bc_R_erase 2 = .ok (.iload_n 2, 1) := by decide +kernel
theorem dc_R_erase_3 : decode bc_R_erase 3 = .ok (.invokevirtual 42, 3) := by decide +kernel
theorem dc_R_erase_6 : decode bc_R_erase 6 = .ok (.istore_n 3, 1) := by decide +kernel
theorem dc_R_erase_7 : decode bc_R_erase 7 = .ok (.iload_n 3, 1) := by decide +kernel
theorem dc_R_erase_8 : decode bc_R_erase 8 = .ok (.ifCond .lt 26, 3) := by decide +kernel
theorem dc_R_erase_34 : decode bc_R_erase 34 = .ok (.iload_n 3, 1) := by decide +kernel
theorem dc_R_erase_35 : decode bc_R_erase 35 = .ok (.ireturn, 1) := by decide +kernel
theorem dc_R_erase_11 : decode bc_R_erase 11 = .ok (.aload_n 0, 1) := by decide +kernel
theorem dc_R_erase_12 : decode bc_R_erase 12 = .ok (.getfield 8, 3) := by decide +kernel
theorem dc_R_erase_15 : decode bc_R_erase 15 = .ok (.sipush 4096, 3) := by decide +kernel
theorem dc_R_erase_18 : decode bc_R_erase 18 = .ok (.iload_n 1, 1) := by decide +kernel
theorem dc_R_erase_19 : decode bc_R_erase 19 = .ok (.imul, 1) := by decide +kernel
theorem dc_R_erase_20 : decode bc_R_erase 20 = .ok (.iload_n 2, 1) := by decide +kernel
theorem dc_R_erase_21 : decode bc_R_erase 21 = .ok (.iadd, 1) := by decide +kernel
theorem dc_R_erase_22 : decode bc_R_erase 22 = .ok (.iconst 0, 1) := by decide +kernel
theorem dc_R_erase_23 : decode bc_R_erase 23 = .ok (.iastore, 1) := by decide +kernel
theorem dc_R_erase_24 : decode bc_R_erase 24 = .ok (.aload_n 0, 1) := by decide +kernel
theorem dc_R_erase_25 : decode bc_R_erase 25 = .ok (.getfield 17, 3) := by decide +kernel
theorem dc_R_erase_28 : decode bc_R_erase 28 = .ok (.iload_n 1, 1) := by decide +kernel
theorem dc_R_erase_29 : decode bc_R_erase 29 = .ok (.dup2, 1) := by decide +kernel
theorem dc_R_erase_30 : decode bc_R_erase 30 = .ok (.iaload, 1) := by decide +kernel
theorem dc_R_erase_31 : decode bc_R_erase 31 = .ok (.iconst 1, 1) := by decide +kernel
theorem dc_R_erase_32 : decode bc_R_erase 32 = .ok (.isub, 1) := by decide +kernel
theorem dc_R_erase_33 : decode bc_R_erase 33 = .ok (.iastore, 1) := by decide +kernel
theorem dc_S_cut_0 : decode bc_S_cut 0 = .ok (.iload_n 1, 1) := by decide +kernel
theorem dc_S_cut_1 : decode bc_S_cut 1 = .ok (.invokestatic 53, 3) := by decide +kernel
theorem dc_S_cut_4 : decode bc_S_cut 4 = .ok (.ifCond .eq 22, 3) := by decide +kernel
theorem dc_S_cut_26 : decode bc_S_cut 26 = .ok (.iconst (-1), 1) := by decide +kernel
theorem dc_S_cut_27 : decode bc_S_cut 27 = .ok (.ireturn, 1) := by decide +kernel
theorem dc_S_cut_7 : decode bc_S_cut 7 = .ok (.iload_n 2, 1) := by decide +kernel
theorem dc_S_cut_8 : decode bc_S_cut 8 = .ok (.invokestatic 57, 3) := by decide +kernel
theorem dc_S_cut_11 : decode bc_S_cut 11 = .ok (.ifCond .eq 15, 3) := by decide +kernel
theorem dc_S_cut_14 : decode bc_S_cut 14 = .ok (.iload_n 3, 1) := by decide +kernel
theorem dc_S_cut_15 : decode bc_S_cut 15 = .ok (.invokestatic 57, 3) := by decide +kernel
theorem dc_S_cut_18 : decode bc_S_cut 18 = .ok (.ifCond .eq 8, 3) := by decide +kernel
theorem dc_S_cut_21 : decode bc_S_cut 21 = .ok (.iload_n 3, 1) := by decide +kernel
theorem dc_S_cut_22 : decode bc_S_cut 22 = .ok (.iload_n 2, 1) := by decide +kernel
theorem dc_S_cut_23 : decode bc_S_cut 23 = .ok (.if_icmp .ge 5, 3) := by decide +kernel
theorem dc_S_cut_28 : decode bc_S_cut 28 = .ok (.iconst 0, 1) := by decide +kernel
theorem dc_S_cut_29 : decode bc_S_cut 29 = .ok (.istore 4, 2) := by decide +kernel
theorem dc_S_cut_31 : decode bc_S_cut 31 = .ok (.aload_n 0, 1) := by decide +kernel
theorem dc_S_cut_32 : decode bc_S_cut 32 = .ok (.getfield 32, 3) := by decide +kernel
theorem dc_S_cut_35 : decode bc_S_cut 35 = .ok (.aload_n 0, 1) := by decide +kernel
theorem dc_S_cut_36 : decode bc_S_cut 36 = .ok (.getfield 46, 3) := by decide +kernel
theorem dc_S_cut_39 : decode bc_S_cut 39 = .ok (.getfield 63, 3) := by decide +kernel
theorem dc_S_cut_42 : decode bc_S_cut 42 = .ok (.iload_n 1, 1) := by decide +kernel
theorem dc_S_cut_43 : decode bc_S_cut 43 = .ok (.iaload, 1) := by decide +kernel
theorem dc_S_cut_44 : decode bc_S_cut 44 = .ok (.iload_n 2, 1) := by decide +kernel
theorem dc_S_cut_45 : decode bc_S_cut 45 = .ok (.invokevirtual 88, 3) := by decide +kernel
theorem dc_S_cut_48 : decode bc_S_cut 48 = .ok (.istore 5, 2) := by decide +kernel
theorem dc_S_cut_50 : decode bc_S_cut 50 = .ok (.iload 4, 2) := by decide +kernel
theorem dc_S_cut_52 : decode bc_S_cut 52 = .ok (.sipush 600, 3) := by decide +kernel
theorem dc_S_cut_55 : decode bc_S_cut 55 = .ok (.if_icmp .ge 49, 3) := by decide +kernel
theorem dc_S_cut_104 : decode bc_S_cut 104 = .ok (.iload 4, 2) := by decide +kernel
theorem dc_S_cut_106 : decode bc_S_cut 106 = .ok (.ireturn, 1) := by decide +kernel
theorem dc_S_cut_58 : decode bc_S_cut 58 = .ok (.iload 5, 2) := by decide +kernel
theorem dc_S_cut_60 : decode bc_S_cut 60 = .ok (.bipush (-2), 2) := by decide +kernel
theorem dc_S_cut_62 : decode bc_S_cut 62 = .ok (.if_icmp .eq 42, 3) := by decide +kernel
theorem dc_S_cut_65 : decode bc_S_cut 65 = .ok (.iload 5, 2) := by decide +kernel
theorem dc_S_cut_67 : decode bc_S_cut 67 = .ok (.iload_n 3, 1) := by decide +kernel
theorem dc_S_cut_68 : decode bc_S_cut 68 = .ok (.if_icmp .gt 36, 3) := by decide +kernel
theorem dc_S_cut_71 : decode bc_S_cut 71 = .ok (.aload_n 0, 1) := by decide +kernel
theorem dc_S_cut_72 : decode bc_S_cut 72 = .ok (.iload_n 1, 1) := by decide +kernel
theorem dc_S_cut_73 : decode bc_S_cut 73 = .ok (.iload 5, 2) := by decide +kernel
theorem dc_S_cut_75 : decode bc_S_cut 75 = .ok (.invokevirtual 84, 3) := by decide +kernel
theorem dc_S_cut_78 : decode bc_S_cut 78 = .ok (.iinc 4 1, 3) := by decide +kernel
theorem dc_S_cut_81 : decode bc_S_cut 81 = .ok (.aload_n 0, 1) := by decide +kernel
theorem dc_S_cut_82 : decode bc_S_cut 82 = .ok (.getfield 32, 3) := by decide +kernel
theorem dc_S_cut_85 : decode bc_S_cut 85 = .ok (.aload_n 0, 1) := by decide +kernel
theorem dc_S_cut_86 : decode bc_S_cut 86 = .ok (.getfield 46, 3) := by decide +kernel
theorem dc_S_cut_89 : decode bc_S_cut 89 = .ok (.getfield 63, 3) := by decide +kernel
theorem dc_S_cut_92 : decode bc_S_cut 92 = .ok (.iload_n 1, 1) := by decide +kernel
theorem dc_S_cut_93 : decode bc_S_cut 93 = .ok (.iaload, 1) := by decide +kernel
theorem dc_S_cut_94 : decode bc_S_cut 94 = .ok (.iload 5, 2) := by decide +kernel
theorem dc_S_cut_96 : decode bc_S_cut 96 = .ok (.invokevirtual 88, 3) := by decide +kernel
theorem dc_S_cut_99 : decode bc_S_cut 99 = .ok (.istore 5, 2) := by decide +kernel
theorem dc_S_cut_101 : decode bc_S_cut 101 = .ok (.goto (-51), 3) := by decide +kernel
theorem dc_T_keyFrom_0 : decode bc_T_keyFrom 0 = .ok (.iload_n 1, 1) := by decide +kernel
theorem dc_T_keyFrom_1 : decode bc_T_keyFrom 1 = .ok (.istore_n 3, 1) := by decide +kernel
theorem dc_T_keyFrom_2 : decode bc_T_keyFrom 2 = .ok (.bipush (-2), 2) := by decide +kernel
theorem dc_T_keyFrom_4 : decode bc_T_keyFrom 4 = .ok (.istore 4, 2) := by decide +kernel
theorem dc_T_keyFrom_6 : decode bc_T_keyFrom 6 = .ok (.aload_n 0, 1) := by decide +kernel
theorem dc_T_keyFrom_7 : decode bc_T_keyFrom 7 = .ok (.getfield 9, 3) := by decide +kernel
theorem dc_T_keyFrom_10 : decode bc_T_keyFrom 10 = .ok (.iload_n 1, 1) := by decide +kernel
theorem dc_T_keyFrom_11 : decode bc_T_keyFrom 11 = .ok (.invokevirtual 26, 3) := by decide +kernel
theorem dc_T_keyFrom_14 : decode bc_T_keyFrom 14 = .ok (.istore 5, 2) := by decide +kernel
theorem dc_T_keyFrom_16 : decode bc_T_keyFrom 16 = .ok (.iload 5, 2) := by decide +kernel
theorem dc_T_keyFrom_18 : decode bc_T_keyFrom 18 = .ok (.ifCond .le 41, 3) := by decide +kernel
theorem dc_T_keyFrom_59 : decode bc_T_keyFrom 59 = .ok (.aload_n 0, 1) := by decide +kernel
theorem dc_T_keyFrom_60 : decode bc_T_keyFrom 60 = .ok (.getfield 9, 3) := by decide +kernel
theorem dc_T_keyFrom_63 : decode bc_T_keyFrom 63 = .ok (.iload_n 3, 1) := by decide +kernel
theorem dc_T_keyFrom_64 : decode bc_T_keyFrom 64 = .ok (.iload_n 2, 1) := by decide +kernel
theorem dc_T_keyFrom_65 : decode bc_T_keyFrom 65 = .ok (.invokevirtual 38, 3) := by decide +kernel
theorem dc_T_keyFrom_68 : decode bc_T_keyFrom 68 = .ok (.istore 5, 2) := by decide +kernel
theorem dc_T_keyFrom_70 : decode bc_T_keyFrom 70 = .ok (.aload_n 0, 1) := by decide +kernel
theorem dc_T_keyFrom_71 : decode bc_T_keyFrom 71 = .ok (.getfield 9, 3) := by decide +kernel
theorem dc_T_keyFrom_74 : decode bc_T_keyFrom 74 = .ok (.iload_n 3, 1) := by decide +kernel
theorem dc_T_keyFrom_75 : decode bc_T_keyFrom 75 = .ok (.iload 5, 2) := by decide +kernel
theorem dc_T_keyFrom_77 : decode bc_T_keyFrom 77 = .ok (.invokevirtual 41, 3) := by decide +kernel
theorem dc_T_keyFrom_80 : decode bc_T_keyFrom 80 = .ok (.iload_n 2, 1) := by decide +kernel
theorem dc_T_keyFrom_81 : decode bc_T_keyFrom 81 = .ok (.if_icmp .ne 7, 3) := by decide +kernel
theorem dc_T_keyFrom_88 : decode bc_T_keyFrom 88 = .ok (.aload_n 0, 1) := by decide +kernel
theorem dc_T_keyFrom_89 : decode bc_T_keyFrom 89 = .ok (.iload_n 3, 1) := by decide +kernel
theorem dc_T_keyFrom_90 : decode bc_T_keyFrom 90 = .ok (.iload 5, 2) := by decide +kernel
theorem dc_T_keyFrom_92 : decode bc_T_keyFrom 92 = .ok (.iconst 1, 1) := by decide +kernel
theorem dc_T_keyFrom_93 : decode bc_T_keyFrom 93 = .ok (.iadd, 1) := by decide +kernel
theorem dc_T_keyFrom_94 : decode bc_T_keyFrom 94 = .ok (.iload 4, 2) := by decide +kernel
theorem dc_T_keyFrom_96 : decode bc_T_keyFrom 96 = .ok (.invokevirtual 44, 3) := by decide +kernel
theorem dc_T_keyFrom_99 : decode bc_T_keyFrom 99 = .ok (.ireturn, 1) := by decide +kernel
theorem dc_T_keyFrom_84 : decode bc_T_keyFrom 84 = .ok (.iload_n 2, 1) := by decide +kernel
theorem dc_T_keyFrom_85 : decode bc_T_keyFrom 85 = .ok (.goto 14, 3) := by decide +kernel
theorem dc_T_keyFrom_21 : decode bc_T_keyFrom 21 = .ok (.aload_n 0, 1) := by decide +kernel
theorem dc_T_keyFrom_22 : decode bc_T_keyFrom 22 = .ok (.iload_n 3, 1) := by decide +kernel
theorem dc_T_keyFrom_23 : decode bc_T_keyFrom 23 = .ok (.iload_n 2, 1) := by decide +kernel
theorem dc_T_keyFrom_24 : decode bc_T_keyFrom 24 = .ok (.invokevirtual 31, 3) := by decide +kernel
theorem dc_T_keyFrom_27 : decode bc_T_keyFrom 27 = .ok (.istore 6, 2) := by decide +kernel
theorem dc_T_keyFrom_29 : decode bc_T_keyFrom 29 = .ok (.aload_n 0, 1) := by decide +kernel
theorem dc_T_keyFrom_30 : decode bc_T_keyFrom 30 = .ok (.iload_n 3, 1) := by decide +kernel
theorem dc_T_keyFrom_31 : decode bc_T_keyFrom 31 = .ok (.iload 6, 2) := by decide +kernel
theorem dc_T_keyFrom_33 : decode bc_T_keyFrom 33 = .ok (.iconst 1, 1) := by decide +kernel
theorem dc_T_keyFrom_34 : decode bc_T_keyFrom 34 = .ok (.iadd, 1) := by decide +kernel
theorem dc_T_keyFrom_35 : decode bc_T_keyFrom 35 = .ok (.iload 4, 2) := by decide +kernel
theorem dc_T_keyFrom_37 : decode bc_T_keyFrom 37 = .ok (.invokevirtual 44, 3) := by decide +kernel
theorem dc_T_keyFrom_40 : decode bc_T_keyFrom 40 = .ok (.istore 4, 2) := by decide +kernel
theorem dc_T_keyFrom_42 : decode bc_T_keyFrom 42 = .ok (.aload_n 0, 1) := by decide +kernel
theorem dc_T_keyFrom_43 : decode bc_T_keyFrom 43 = .ok (.getfield 9, 3) := by decide +kernel
theorem dc_T_keyFrom_46 : decode bc_T_keyFrom 46 = .ok (.iload_n 3, 1) := by decide +kernel
theorem dc_T_keyFrom_47 : decode bc_T_keyFrom 47 = .ok (.iload 6, 2) := by decide +kernel
theorem dc_T_keyFrom_49 : decode bc_T_keyFrom 49 = .ok (.invokevirtual 35, 3) := by decide +kernel
theorem dc_T_keyFrom_52 : decode bc_T_keyFrom 52 = .ok (.istore_n 3, 1) := by decide +kernel
theorem dc_T_keyFrom_53 : decode bc_T_keyFrom 53 = .ok (.iinc 5 (-1), 3) := by decide +kernel
theorem dc_T_keyFrom_56 : decode bc_T_keyFrom 56 = .ok (.goto (-40), 3) := by decide +kernel
theorem dc_T_keyOr_0 : decode bc_T_keyOr 0 = .ok (.iload_n 2, 1) := by decide +kernel
theorem dc_T_keyOr_1 : decode bc_T_keyOr 1 = .ok (.aload_n 0, 1) := by decide +kernel
theorem dc_T_keyOr_2 : decode bc_T_keyOr 2 = .ok (.getfield 9, 3) := by decide +kernel
theorem dc_T_keyOr_5 : decode bc_T_keyOr 5 = .ok (.iload_n 1, 1) := by decide +kernel
theorem dc_T_keyOr_6 : decode bc_T_keyOr 6 = .ok (.invokevirtual 48, 3) := by decide +kernel
theorem dc_T_keyOr_9 : decode bc_T_keyOr 9 = .ok (.if_icmp .ge 15, 3) := by decide +kernel
theorem dc_T_keyOr_24 : decode bc_T_keyOr 24 = .ok (.iload_n 3, 1) := by decide +kernel
theorem dc_T_keyOr_25 : decode bc_T_keyOr 25 = .ok (.ireturn, 1) := by decide +kernel
theorem dc_T_keyOr_12 : decode bc_T_keyOr 12 = .ok (.aload_n 0, 1) := by decide +kernel
theorem dc_T_keyOr_13 : decode bc_T_keyOr 13 = .ok (.getfield 9, 3) := by decide +kernel
theorem dc_T_keyOr_16 : decode bc_T_keyOr 16 = .ok (.iload_n 1, 1) := by decide +kernel
theorem dc_T_keyOr_17 : decode bc_T_keyOr 17 = .ok (.iload_n 2, 1) := by decide +kernel
theorem dc_T_keyOr_18 : decode bc_T_keyOr 18 = .ok (.invokevirtual 41, 3) := by decide +kernel
theorem dc_T_keyOr_21 : decode bc_T_keyOr 21 = .ok (.goto 4, 3) := by decide +kernel
theorem dc_R_cut_0 : decode bc_R_cut 0 = .ok (.iload_n 1, 1) := by decide +kernel
theorem dc_R_cut_1 : decode bc_R_cut 1 = .ok (.invokestatic 24, 3) := by decide +kernel
theorem dc_R_cut_4 : decode bc_R_cut 4 = .ok (.ifCond .eq 22, 3) := by decide +kernel
theorem dc_R_cut_26 : decode bc_R_cut 26 = .ok (.iconst (-1), 1) := by decide +kernel
theorem dc_R_cut_27 : decode bc_R_cut 27 = .ok (.ireturn, 1) := by decide +kernel
theorem dc_R_cut_7 : decode bc_R_cut 7 = .ok (.iload_n 2, 1) := by decide +kernel
theorem dc_R_cut_8 : decode bc_R_cut 8 = .ok (.invokestatic 28, 3) := by decide +kernel
theorem dc_R_cut_11 : decode bc_R_cut 11 = .ok (.ifCond .eq 15, 3) := by decide +kernel
theorem dc_R_cut_14 : decode bc_R_cut 14 = .ok (.iload_n 3, 1) := by decide +kernel
theorem dc_R_cut_15 : decode bc_R_cut 15 = .ok (.invokestatic 28, 3) := by decide +kernel
theorem dc_R_cut_18 : decode bc_R_cut 18 = .ok (.ifCond .eq 8, 3) := by decide +kernel
theorem dc_R_cut_21 : decode bc_R_cut 21 = .ok (.iload_n 3, 1) := by decide +kernel
theorem dc_R_cut_22 : decode bc_R_cut 22 = .ok (.iload_n 2, 1) := by decide +kernel
theorem dc_R_cut_23 : decode bc_R_cut 23 = .ok (.if_icmp .ge 5, 3) := by decide +kernel
theorem dc_R_cut_28 : decode bc_R_cut 28 = .ok (.iconst 0, 1) := by decide +kernel
theorem dc_R_cut_29 : decode bc_R_cut 29 = .ok (.istore 4, 2) := by decide +kernel
theorem dc_R_cut_31 : decode bc_R_cut 31 = .ok (.iload_n 2, 1) := by decide +kernel
theorem dc_R_cut_32 : decode bc_R_cut 32 = .ok (.istore 5, 2) := by decide +kernel
theorem dc_R_cut_34 : decode bc_R_cut 34 = .ok (.iload 5, 2) := by decide +kernel
theorem dc_R_cut_36 : decode bc_R_cut 36 = .ok (.iload_n 3, 1) := by decide +kernel
theorem dc_R_cut_37 : decode bc_R_cut 37 = .ok (.if_icmp .gt 29, 3) := by decide +kernel
theorem dc_R_cut_66 : decode bc_R_cut 66 = .ok (.iload 4, 2) := by decide +kernel
theorem dc_R_cut_68 : decode bc_R_cut 68 = .ok (.ireturn, 1) := by decide +kernel
theorem dc_R_cut_40 : decode bc_R_cut 40 = .ok (.iload 4, 2) := by decide +kernel
theorem dc_R_cut_42 : decode bc_R_cut 42 = .ok (.aload_n 0, 1) := by decide +kernel
theorem dc_R_cut_43 : decode bc_R_cut 43 = .ok (.iload_n 1, 1) := by decide +kernel
theorem dc_R_cut_44 : decode bc_R_cut 44 = .ok (.iload 5, 2) := by decide +kernel
theorem dc_R_cut_46 : decode bc_R_cut 46 = .ok (.invokevirtual 46, 3) := by decide +kernel
theorem dc_R_cut_49 : decode bc_R_cut 49 = .ok (.ifCond .lt 7, 3) := by decide +kernel
theorem dc_R_cut_56 : decode bc_R_cut 56 = .ok (.iconst 0, 1) := by decide +kernel
theorem dc_R_cut_57 : decode bc_R_cut 57 = .ok (.iadd, 1) := by decide +kernel
theorem dc_R_cut_58 : decode bc_R_cut 58 = .ok (.istore 4, 2) := by decide +kernel
theorem dc_R_cut_60 : decode bc_R_cut 60 = .ok (.iinc 5 1, 3) := by decide +kernel
theorem dc_R_cut_63 : decode bc_R_cut 63 = .ok (.goto (-29), 3) := by decide +kernel
theorem dc_R_cut_52 : decode bc_R_cut 52 = .ok (.iconst 1, 1) := by decide +kernel
theorem dc_R_cut_53 : decode bc_R_cut 53 = .ok (.goto 4, 3) := by decide +kernel
theorem dc_S_next_0 : decode bc_S_next 0 = .ok (.iload_n 1, 1) := by decide +kernel
theorem dc_S_next_1 : decode bc_S_next 1 = .ok (.invokestatic 53, 3) := by decide +kernel
theorem dc_S_next_4 : decode bc_S_next 4 = .ok (.ifCond .eq 10, 3) := by decide +kernel
theorem dc_S_next_14 : decode bc_S_next 14 = .ok (.iconst (-1), 1) := by decide +kernel
theorem dc_S_next_15 : decode bc_S_next 15 = .ok (.ireturn, 1) := by decide +kernel
theorem dc_S_next_7 : decode bc_S_next 7 = .ok (.iload_n 2, 1) := by decide +kernel
theorem dc_S_next_8 : decode bc_S_next 8 = .ok (.invokestatic 57, 3) := by decide +kernel
theorem dc_S_next_11 : decode bc_S_next 11 = .ok (.ifCond .ne 5, 3) := by decide +kernel
theorem dc_S_next_16 : decode bc_S_next 16 = .ok (.aload_n 0, 1) := by decide +kernel
theorem dc_S_next_17 : decode bc_S_next 17 = .ok (.getfield 32, 3) := by decide +kernel
theorem dc_S_next_20 : decode bc_S_next 20 = .ok (.aload_n 0, 1) := by decide +kernel
theorem dc_S_next_21 : decode bc_S_next 21 = .ok (.getfield 46, 3) := by decide +kernel
theorem dc_S_next_24 : decode bc_S_next 24 = .ok (.getfield 63, 3) := by decide +kernel
theorem dc_S_next_27 : decode bc_S_next 27 = .ok (.iload_n 1, 1) := by decide +kernel
theorem dc_S_next_28 : decode bc_S_next 28 = .ok (.iaload, 1) := by decide +kernel
theorem dc_S_next_29 : decode bc_S_next 29 = .ok (.iload_n 2, 1) := by decide +kernel
theorem dc_S_next_30 : decode bc_S_next 30 = .ok (.invokevirtual 88, 3) := by decide +kernel
theorem dc_S_next_33 : decode bc_S_next 33 = .ok (.ireturn, 1) := by decide +kernel
theorem dc_R_next_0 : decode bc_R_next 0 = .ok (.iload_n 1, 1) := by decide +kernel
theorem dc_R_next_1 : decode bc_R_next 1 = .ok (.invokestatic 24, 3) := by decide +kernel
theorem dc_R_next_4 : decode bc_R_next 4 = .ok (.ifCond .eq 10, 3) := by decide +kernel
theorem dc_R_next_14 : decode bc_R_next 14 = .ok (.iconst (-1), 1) := by decide +kernel
theorem dc_R_next_15 : decode bc_R_next 15 = .ok (.ireturn, 1) := by decide +kernel
theorem dc_R_next_7 : decode bc_R_next 7 = .ok (.iload_n 2, 1) := by decide +kernel
theorem dc_R_next_8 : decode bc_R_next 8 = .ok (.invokestatic 28, 3) := by decide +kernel
theorem dc_R_next_11 : decode bc_R_next 11 = .ok (.ifCond .ne 5, 3) := by decide +kernel
theorem dc_R_next_16 : decode bc_R_next 16 = .ok (.iload_n 2, 1) := by decide +kernel
theorem dc_R_next_17 : decode bc_R_next 17 = .ok (.istore_n 3, 1) := by decide +kernel
theorem dc_R_next_18 : decode bc_R_next 18 = .ok (.iload_n 3, 1) := by decide +kernel
theorem dc_R_next_19 : decode bc_R_next 19 = .ok (.sipush 4096, 3) := by decide +kernel
theorem dc_R_next_22 : decode bc_R_next 22 = .ok (.if_icmp .ge 24, 3) := by decide +kernel
theorem dc_R_next_46 : decode bc_R_next 46 = .ok (.iload_n 3, 1) := by decide +kernel
theorem dc_R_next_47 : decode bc_R_next 47 = .ok (.sipush 4096, 3) := by decide +kernel
theorem dc_R_next_50 : decode bc_R_next 50 = .ok (.if_icmp .ge 7, 3) := by decide +kernel
theorem dc_R_next_57 : decode bc_R_next 57 = .ok (.bipush (-2), 2) := by decide +kernel
theorem dc_R_next_59 : decode bc_R_next 59 = .ok (.ireturn, 1) := by decide +kernel
theorem dc_R_next_53 : decode bc_R_next 53 = .ok (.iload_n 3, 1) := by decide +kernel
theorem dc_R_next_54 : decode bc_R_next 54 = .ok (.goto 5, 3) := by decide +kernel
theorem dc_R_next_25 : decode bc_R_next 25 = .ok (.aload_n 0, 1) := by decide +kernel
theorem dc_R_next_26 : decode bc_R_next 26 = .ok (.getfield 8, 3) := by decide +kernel
theorem dc_R_next_29 : decode bc_R_next 29 = .ok (.sipush 4096, 3) := by decide +kernel
theorem dc_R_next_32 : decode bc_R_next 32 = .ok (.iload_n 1, 1) := by decide +kernel
theorem dc_R_next_33 : decode bc_R_next 33 = .ok (.imul, 1) := by decide +kernel
theorem dc_R_next_34 : decode bc_R_next 34 = .ok (.iload_n 3, 1) := by decide +kernel
theorem dc_R_next_35 : decode bc_R_next 35 = .ok (.iadd, 1) := by decide +kernel
theorem dc_R_next_36 : decode bc_R_next 36 = .ok (.iaload, 1) := by decide +kernel
theorem dc_R_next_37 : decode bc_R_next 37 = .ok (.ifCond .ne 9, 3) := by decide +kernel
theorem dc_R_next_40 : decode bc_R_next 40 = .ok (.iinc 3 1, 3) := by decide +kernel
theorem dc_R_next_43 : decode bc_R_next 43 = .ok (.goto (-25), 3) := by decide +kernel
theorem dc_S_clone_0 : decode bc_S_clone 0 = .ok (.iload_n 1, 1) := by decide +kernel
theorem dc_S_clone_1 : decode bc_S_clone 1 = .ok (.invokestatic 53, 3) := by decide +kernel
theorem dc_S_clone_4 : decode bc_S_clone 4 = .ok (.ifCond .eq 15, 3) := by decide +kernel
theorem dc_S_clone_19 : decode bc_S_clone 19 = .ok (.iconst (-1), 1) := by decide +kernel
theorem dc_S_clone_20 : decode bc_S_clone 20 = .ok (.ireturn, 1) := by decide +kernel
theorem dc_S_clone_7 : decode bc_S_clone 7 = .ok (.iload_n 2, 1) := by decide +kernel
theorem dc_S_clone_8 : decode bc_S_clone 8 = .ok (.invokestatic 53, 3) := by decide +kernel
theorem dc_S_clone_11 : decode bc_S_clone 11 = .ok (.ifCond .eq 8, 3) := by decide +kernel
theorem dc_S_clone_14 : decode bc_S_clone 14 = .ok (.iload_n 1, 1) := by decide +kernel
theorem dc_S_clone_15 : decode bc_S_clone 15 = .ok (.iload_n 2, 1) := by decide +kernel
theorem dc_S_clone_16 : decode bc_S_clone 16 = .ok (.if_icmp .ne 5, 3) := by decide +kernel
theorem dc_S_clone_21 : decode bc_S_clone 21 = .ok (.aload_n 0, 1) := by decide +kernel
theorem dc_S_clone_22 : decode bc_S_clone 22 = .ok (.getfield 46, 3) := by decide +kernel
theorem dc_S_clone_25 : decode bc_S_clone 25 = .ok (.getfield 70, 3) := by decide +kernel
theorem dc_S_clone_28 : decode bc_S_clone 28 = .ok (.aload_n 0, 1) := by decide +kernel
theorem dc_S_clone_29 : decode bc_S_clone 29 = .ok (.getfield 46, 3) := by decide +kernel
theorem dc_S_clone_32 : decode bc_S_clone 32 = .ok (.getfield 78, 3) := by decide +kernel
theorem dc_S_clone_35 : decode bc_S_clone 35 = .ok (.iload_n 1, 1) := by decide +kernel
theorem dc_S_clone_36 : decode bc_S_clone 36 = .ok (.iaload, 1) := by decide +kernel
theorem dc_S_clone_37 : decode bc_S_clone 37 = .ok (.isub, 1) := by decide +kernel
theorem dc_S_clone_38 : decode bc_S_clone 38 = .ok (.aload_n 0, 1) := by decide +kernel
theorem dc_S_clone_39 : decode bc_S_clone 39 = .ok (.getfield 46, 3) := by decide +kernel
theorem dc_S_clone_42 : decode bc_S_clone 42 = .ok (.getfield 78, 3) := by decide +kernel
theorem dc_S_clone_45 : decode bc_S_clone 45 = .ok (.iload_n 2, 1) := by decide +kernel
end
section
theorem dc_S_clone_46 : decode bc_S_clone 46 = .ok (.iaload, 1) := by decide +kernel
theorem dc_S_clone_47 : decode bc_S_clone 47 = .ok (.iadd, 1) := by decide +kernel
theorem dc_S_clone_48 : decode bc_S_clone 48 = .ok (.sipush 600, 3) := by decide +kernel
theorem dc_S_clone_51 : decode bc_S_clone 51 = .ok (.if_icmp .le 6, 3) := by decide +kernel
theorem dc_S_clone_57 : decode bc_S_clone 57 = .ok (.aload_n 0, 1) := by decide +kernel
theorem dc_S_clone_58 : decode bc_S_clone 58 = .ok (.aload_n 0, 1) := by decide +kernel
theorem dc_S_clone_59 : decode bc_S_clone 59 = .ok (.getfield 46, 3) := by decide +kernel
theorem dc_S_clone_62 : decode bc_S_clone 62 = .ok (.iload_n 1, 1) := by decide +kernel
theorem dc_S_clone_63 : decode bc_S_clone 63 = .ok (.aload_n 0, 1) := by decide +kernel
theorem dc_S_clone_64 : decode bc_S_clone 64 = .ok (.getfield 46, 3) := by decide +kernel
theorem dc_S_clone_67 : decode bc_S_clone 67 = .ok (.getfield 63, 3) := by decide +kernel
theorem dc_S_clone_70 : decode bc_S_clone 70 = .ok (.iload_n 2, 1) := by decide +kernel
theorem dc_S_clone_71 : decode bc_S_clone 71 = .ok (.iaload, 1) := by decide +kernel
theorem dc_S_clone_72 : decode bc_S_clone 72 = .ok (.aload_n 0, 1) := by decide +kernel
theorem dc_S_clone_73 : decode bc_S_clone 73 = .ok (.getfield 46, 3) := by decide +kernel
theorem dc_S_clone_76 : decode bc_S_clone 76 = .ok (.getfield 78, 3) := by decide +kernel
theorem dc_S_clone_79 : decode bc_S_clone 79 = .ok (.iload_n 2, 1) := by decide +kernel
theorem dc_S_clone_80 : decode bc_S_clone 80 = .ok (.iaload, 1) := by decide +kernel
theorem dc_S_clone_81 : decode bc_S_clone 81 = .ok (.invokevirtual 91, 3) := by decide +kernel
theorem dc_S_clone_84 : decode bc_S_clone 84 = .ok (.aload_n 0, 1) := by decide +kernel
theorem dc_S_clone_85 : decode bc_S_clone 85 = .ok (.getfield 46, 3) := by decide +kernel
theorem dc_S_clone_88 : decode bc_S_clone 88 = .ok (.getfield 78, 3) := by decide +kernel
theorem dc_S_clone_91 : decode bc_S_clone 91 = .ok (.iload_n 1, 1) := by decide +kernel
theorem dc_S_clone_92 : decode bc_S_clone 92 = .ok (.iaload, 1) := by decide +kernel
theorem dc_S_clone_93 : decode bc_S_clone 93 = .ok (.ireturn, 1) := by decide +kernel
theorem dc_S_clone_54 : decode bc_S_clone 54 = .ok (.bipush (-3), 2) := by decide +kernel
theorem dc_S_clone_56 : decode bc_S_clone 56 = .ok (.ireturn, 1) := by decide +kernel
theorem dc_S_lead_0 : decode bc_S_lead 0 = .ok (.aload_n 0, 1) := by decide +kernel
theorem dc_S_lead_1 : decode bc_S_lead 1 = .ok (.getfield 23, 3) := by decide +kernel
theorem dc_S_lead_4 : decode bc_S_lead 4 = .ok (.iload_n 3, 1) := by decide +kernel
theorem dc_S_lead_5 : decode bc_S_lead 5 = .ok (.invokevirtual 107, 3) := by decide +kernel
theorem dc_S_lead_8 : decode bc_S_lead 8 = .ok (.aload_n 0, 1) := by decide +kernel
theorem dc_S_lead_9 : decode bc_S_lead 9 = .ok (.getfield 32, 3) := by decide +kernel
theorem dc_S_lead_12 : decode bc_S_lead 12 = .ok (.aload_n 1, 1) := by decide +kernel
theorem dc_S_lead_13 : decode bc_S_lead 13 = .ok (.getfield 63, 3) := by decide +kernel
theorem dc_S_lead_16 : decode bc_S_lead 16 = .ok (.iload_n 2, 1) := by decide +kernel
theorem dc_S_lead_17 : decode bc_S_lead 17 = .ok (.iaload, 1) := by decide +kernel
theorem dc_S_lead_18 : decode bc_S_lead 18 = .ok (.invokevirtual 110, 3) := by decide +kernel
theorem dc_S_lead_21 : decode bc_S_lead 21 = .ok (.aload_n 1, 1) := by decide +kernel
theorem dc_S_lead_22 : decode bc_S_lead 22 = .ok (.getfield 63, 3) := by decide +kernel
theorem dc_S_lead_25 : decode bc_S_lead 25 = .ok (.iload_n 2, 1) := by decide +kernel
theorem dc_S_lead_26 : decode bc_S_lead 26 = .ok (.iload_n 3, 1) := by decide +kernel
theorem dc_S_lead_27 : decode bc_S_lead 27 = .ok (.iastore, 1) := by decide +kernel
theorem dc_S_lead_28 : decode bc_S_lead 28 = .ok (.aload_n 1, 1) := by decide +kernel
theorem dc_S_lead_29 : decode bc_S_lead 29 = .ok (.dup, 1) := by decide +kernel
theorem dc_S_lead_30 : decode bc_S_lead 30 = .ok (.getfield 70, 3) := by decide +kernel
theorem dc_S_lead_33 : decode bc_S_lead 33 = .ok (.iload 4, 2) := by decide +kernel
theorem dc_S_lead_35 : decode bc_S_lead 35 = .ok (.aload_n 1, 1) := by decide +kernel
theorem dc_S_lead_36 : decode bc_S_lead 36 = .ok (.getfield 78, 3) := by decide +kernel
theorem dc_S_lead_39 : decode bc_S_lead 39 = .ok (.iload_n 2, 1) := by decide +kernel
theorem dc_S_lead_40 : decode bc_S_lead 40 = .ok (.iaload, 1) := by decide +kernel
theorem dc_S_lead_41 : decode bc_S_lead 41 = .ok (.isub, 1) := by decide +kernel
theorem dc_S_lead_42 : decode bc_S_lead 42 = .ok (.iadd, 1) := by decide +kernel
theorem dc_S_lead_43 : decode bc_S_lead 43 = .ok (.putfield 70, 3) := by decide +kernel
theorem dc_S_lead_46 : decode bc_S_lead 46 = .ok (.aload_n 1, 1) := by decide +kernel
theorem dc_S_lead_47 : decode bc_S_lead 47 = .ok (.getfield 78, 3) := by decide +kernel
theorem dc_S_lead_50 : decode bc_S_lead 50 = .ok (.iload_n 2, 1) := by decide +kernel
theorem dc_S_lead_51 : decode bc_S_lead 51 = .ok (.iload 4, 2) := by decide +kernel
theorem dc_S_lead_53 : decode bc_S_lead 53 = .ok (.iastore, 1) := by decide +kernel
theorem dc_S_lead_54 : decode bc_S_lead 54 = .ok (.return_, 1) := by decide +kernel
theorem dc_T_release_0 : decode bc_T_release 0 = .ok (.aload_n 0, 1) := by decide +kernel
theorem dc_T_release_1 : decode bc_T_release 1 = .ok (.iload_n 1, 1) := by decide +kernel
theorem dc_T_release_2 : decode bc_T_release 2 = .ok (.aload_n 0, 1) := by decide +kernel
theorem dc_T_release_3 : decode bc_T_release 3 = .ok (.getfield 9, 3) := by decide +kernel
theorem dc_T_release_6 : decode bc_T_release 6 = .ok (.iload_n 1, 1) := by decide +kernel
theorem dc_T_release_7 : decode bc_T_release 7 = .ok (.invokevirtual 26, 3) := by decide +kernel
theorem dc_T_release_10 : decode bc_T_release 10 = .ok (.invokevirtual 111, 3) := by decide +kernel
theorem dc_T_release_13 : decode bc_T_release 13 = .ok (.return_, 1) := by decide +kernel
theorem dc_T_releaseBelow_0 : decode bc_T_releaseBelow 0 = .ok (.iload_n 2, 1) := by decide +kernel
theorem dc_T_releaseBelow_1 : decode bc_T_releaseBelow 1 = .ok (.ifCond .lt 20, 3) := by decide +kernel
theorem dc_T_releaseBelow_21 : decode bc_T_releaseBelow 21 = .ok (.return_, 1) := by decide +kernel
theorem dc_T_releaseBelow_4 : decode bc_T_releaseBelow 4 = .ok (.iload_n 2, 1) := by decide +kernel
theorem dc_T_releaseBelow_5 : decode bc_T_releaseBelow 5 = .ok (.bipush 16, 2) := by decide +kernel
theorem dc_T_releaseBelow_7 : decode bc_T_releaseBelow 7 = .ok (.if_icmp .gt 14, 3) := by decide +kernel
theorem dc_T_releaseBelow_10 : decode bc_T_releaseBelow 10 = .ok (.aload_n 0, 1) := by decide +kernel
theorem dc_T_releaseBelow_11 : decode bc_T_releaseBelow 11 = .ok (.getfield 9, 3) := by decide +kernel
theorem dc_T_releaseBelow_14 : decode bc_T_releaseBelow 14 = .ok (.iload_n 1, 1) := by decide +kernel
theorem dc_T_releaseBelow_15 : decode bc_T_releaseBelow 15 = .ok (.invokevirtual 114, 3) := by decide +kernel
theorem dc_T_releaseBelow_18 : decode bc_T_releaseBelow 18 = .ok (.ifCond .ne 4, 3) := by decide +kernel
theorem dc_T_releaseBelow_22 : decode bc_T_releaseBelow 22 = .ok (.iload_n 2, 1) := by decide +kernel
theorem dc_T_releaseBelow_23 : decode bc_T_releaseBelow 23 = .ok (.ifCond .le 39, 3) := by decide +kernel
theorem dc_T_releaseBelow_62 : decode bc_T_releaseBelow 62 = .ok (.aload_n 0, 1) := by decide +kernel
theorem dc_T_releaseBelow_63 : decode bc_T_releaseBelow 63 = .ok (.getfield 9, 3) := by decide +kernel
theorem dc_T_releaseBelow_66 : decode bc_T_releaseBelow 66 = .ok (.iload_n 1, 1) := by decide +kernel
theorem dc_T_releaseBelow_67 : decode bc_T_releaseBelow 67 = .ok (.invokevirtual 104, 3) := by decide +kernel
theorem dc_T_releaseBelow_70 : decode bc_T_releaseBelow 70 = .ok (.return_, 1) := by decide +kernel
theorem dc_T_releaseBelow_26 : decode bc_T_releaseBelow 26 = .ok (.iconst 0, 1) := by decide +kernel
theorem dc_T_releaseBelow_27 : decode bc_T_releaseBelow 27 = .ok (.istore_n 3, 1) := by decide +kernel
theorem dc_T_releaseBelow_28 : decode bc_T_releaseBelow 28 = .ok (.iload_n 3, 1) := by decide +kernel
theorem dc_T_releaseBelow_29 : decode bc_T_releaseBelow 29 = .ok (.aload_n 0, 1) := by decide +kernel
theorem dc_T_releaseBelow_30 : decode bc_T_releaseBelow 30 = .ok (.getfield 9, 3) := by decide +kernel
theorem dc_T_releaseBelow_33 : decode bc_T_releaseBelow 33 = .ok (.iload_n 1, 1) := by decide +kernel
theorem dc_T_releaseBelow_34 : decode bc_T_releaseBelow 34 = .ok (.invokevirtual 48, 3) := by decide +kernel
theorem dc_T_releaseBelow_37 : decode bc_T_releaseBelow 37 = .ok (.if_icmp .ge 25, 3) := by decide +kernel
theorem dc_T_releaseBelow_40 : decode bc_T_releaseBelow 40 = .ok (.aload_n 0, 1) := by decide +kernel
theorem dc_T_releaseBelow_41 : decode bc_T_releaseBelow 41 = .ok (.aload_n 0, 1) := by decide +kernel
theorem dc_T_releaseBelow_42 : decode bc_T_releaseBelow 42 = .ok (.getfield 9, 3) := by decide +kernel
theorem dc_T_releaseBelow_45 : decode bc_T_releaseBelow 45 = .ok (.iload_n 1, 1) := by decide +kernel
theorem dc_T_releaseBelow_46 : decode bc_T_releaseBelow 46 = .ok (.iload_n 3, 1) := by decide +kernel
theorem dc_T_releaseBelow_47 : decode bc_T_releaseBelow 47 = .ok (.invokevirtual 35, 3) := by decide +kernel
theorem dc_T_releaseBelow_50 : decode bc_T_releaseBelow 50 = .ok (.iload_n 2, 1) := by decide +kernel
theorem dc_T_releaseBelow_51 : decode bc_T_releaseBelow 51 = .ok (.iconst 1, 1) := by decide +kernel
theorem dc_T_releaseBelow_52 : decode bc_T_releaseBelow 52 = .ok (.isub, 1) := by decide +kernel
theorem dc_T_releaseBelow_53 : decode bc_T_releaseBelow 53 = .ok (.invokevirtual 111, 3) := by decide +kernel
theorem dc_T_releaseBelow_56 : decode bc_T_releaseBelow 56 = .ok (.iinc 3 1, 3) := by decide +kernel
theorem dc_T_releaseBelow_59 : decode bc_T_releaseBelow 59 = .ok (.goto (-31), 3) := by decide +kernel
theorem dc_R_clone_0 : decode bc_R_clone 0 = .ok (.iload_n 1, 1) := by decide +kernel
theorem dc_R_clone_1 : decode bc_R_clone 1 = .ok (.invokestatic 24, 3) := by decide +kernel
theorem dc_R_clone_4 : decode bc_R_clone 4 = .ok (.ifCond .eq 15, 3) := by decide +kernel
theorem dc_R_clone_19 : decode bc_R_clone 19 = .ok (.iconst (-1), 1) := by decide +kernel
theorem dc_R_clone_20 : decode bc_R_clone 20 = .ok (.ireturn, 1) := by decide +kernel
theorem dc_R_clone_7 : decode bc_R_clone 7 = .ok (.iload_n 2, 1) := by decide +kernel
theorem dc_R_clone_8 : decode bc_R_clone 8 = .ok (.invokestatic 24, 3) := by decide +kernel
theorem dc_R_clone_11 : decode bc_R_clone 11 = .ok (.ifCond .eq 8, 3) := by decide +kernel
theorem dc_R_clone_14 : decode bc_R_clone 14 = .ok (.iload_n 1, 1) := by decide +kernel
theorem dc_R_clone_15 : decode bc_R_clone 15 = .ok (.iload_n 2, 1) := by decide +kernel
theorem dc_R_clone_16 : decode bc_R_clone 16 = .ok (.if_icmp .ne 5, 3) := by decide +kernel
theorem dc_R_clone_21 : decode bc_R_clone 21 = .ok (.aload_n 0, 1) := by decide +kernel
theorem dc_R_clone_22 : decode bc_R_clone 22 = .ok (.invokevirtual 34, 3) := by decide +kernel
theorem dc_R_clone_25 : decode bc_R_clone 25 = .ok (.aload_n 0, 1) := by decide +kernel
theorem dc_R_clone_26 : decode bc_R_clone 26 = .ok (.getfield 17, 3) := by decide +kernel
theorem dc_R_clone_29 : decode bc_R_clone 29 = .ok (.iload_n 1, 1) := by decide +kernel
theorem dc_R_clone_30 : decode bc_R_clone 30 = .ok (.iaload, 1) := by decide +kernel
theorem dc_R_clone_31 : decode bc_R_clone 31 = .ok (.isub, 1) := by decide +kernel
theorem dc_R_clone_32 : decode bc_R_clone 32 = .ok (.aload_n 0, 1) := by decide +kernel
theorem dc_R_clone_33 : decode bc_R_clone 33 = .ok (.getfield 17, 3) := by decide +kernel
theorem dc_R_clone_36 : decode bc_R_clone 36 = .ok (.iload_n 2, 1) := by decide +kernel
theorem dc_R_clone_37 : decode bc_R_clone 37 = .ok (.iaload, 1) := by decide +kernel
theorem dc_R_clone_38 : decode bc_R_clone 38 = .ok (.iadd, 1) := by decide +kernel
theorem dc_R_clone_39 : decode bc_R_clone 39 = .ok (.sipush 600, 3) := by decide +kernel
theorem dc_R_clone_42 : decode bc_R_clone 42 = .ok (.if_icmp .le 6, 3) := by decide +kernel
theorem dc_R_clone_48 : decode bc_R_clone 48 = .ok (.iconst 0, 1) := by decide +kernel
theorem dc_R_clone_49 : decode bc_R_clone 49 = .ok (.istore_n 3, 1) := by decide +kernel
theorem dc_R_clone_50 : decode bc_R_clone 50 = .ok (.iload_n 3, 1) := by decide +kernel
theorem dc_R_clone_51 : decode bc_R_clone 51 = .ok (.sipush 4096, 3) := by decide +kernel
theorem dc_R_clone_54 : decode bc_R_clone 54 = .ok (.if_icmp .ge 33, 3) := by decide +kernel
theorem dc_R_clone_87 : decode bc_R_clone 87 = .ok (.aload_n 0, 1) := by decide +kernel
theorem dc_R_clone_88 : decode bc_R_clone 88 = .ok (.getfield 17, 3) := by decide +kernel
theorem dc_R_clone_91 : decode bc_R_clone 91 = .ok (.iload_n 1, 1) := by decide +kernel
theorem dc_R_clone_92 : decode bc_R_clone 92 = .ok (.aload_n 0, 1) := by decide +kernel
theorem dc_R_clone_93 : decode bc_R_clone 93 = .ok (.getfield 17, 3) := by decide +kernel
theorem dc_R_clone_96 : decode bc_R_clone 96 = .ok (.iload_n 2, 1) := by decide +kernel
theorem dc_R_clone_97 : decode bc_R_clone 97 = .ok (.iaload, 1) := by decide +kernel
theorem dc_R_clone_98 : decode bc_R_clone 98 = .ok (.iastore, 1) := by decide +kernel
theorem dc_R_clone_99 : decode bc_R_clone 99 = .ok (.aload_n 0, 1) := by decide +kernel
theorem dc_R_clone_100 : decode bc_R_clone 100 = .ok (.getfield 17, 3) := by decide +kernel
theorem dc_R_clone_103 : decode bc_R_clone 103 = .ok (.iload_n 1, 1) := by decide +kernel
theorem dc_R_clone_104 : decode bc_R_clone 104 = .ok (.iaload, 1) := by decide +kernel
theorem dc_R_clone_105 : decode bc_R_clone 105 = .ok (.ireturn, 1) := by decide +kernel
theorem dc_R_clone_57 : decode bc_R_clone 57 = .ok (.aload_n 0, 1) := by decide +kernel
theorem dc_R_clone_58 : decode bc_R_clone 58 = .ok (.getfield 8, 3) := by decide +kernel
theorem dc_R_clone_61 : decode bc_R_clone 61 = .ok (.sipush 4096, 3) := by decide +kernel
theorem dc_R_clone_64 : decode bc_R_clone 64 = .ok (.iload_n 1, 1) := by decide +kernel
theorem dc_R_clone_65 : decode bc_R_clone 65 = .ok (.imul, 1) := by decide +kernel
theorem dc_R_clone_66 : decode bc_R_clone 66 = .ok (.iload_n 3, 1) := by decide +kernel
theorem dc_R_clone_67 : decode bc_R_clone 67 = .ok (.iadd, 1) := by decide +kernel
theorem dc_R_clone_68 : decode bc_R_clone 68 = .ok (.aload_n 0, 1) := by decide +kernel
theorem dc_R_clone_69 : decode bc_R_clone 69 = .ok (.getfield 8, 3) := by decide +kernel
theorem dc_R_clone_72 : decode bc_R_clone 72 = .ok (.sipush 4096, 3) := by decide +kernel
theorem dc_R_clone_75 : decode bc_R_clone 75 = .ok (.iload_n 2, 1) := by decide +kernel
theorem dc_R_clone_76 : decode bc_R_clone 76 = .ok (.imul, 1) := by decide +kernel
theorem dc_R_clone_77 : decode bc_R_clone 77 = .ok (.iload_n 3, 1) := by decide +kernel
theorem dc_R_clone_78 : decode bc_R_clone 78 = .ok (.iadd, 1) := by decide +kernel
theorem dc_R_clone_79 : decode bc_R_clone 79 = .ok (.iaload, 1) := by decide +kernel
theorem dc_R_clone_80 : decode bc_R_clone 80 = .ok (.iastore, 1) := by decide +kernel
theorem dc_R_clone_81 : decode bc_R_clone 81 = .ok (.iinc 3 1, 3) := by decide +kernel
theorem dc_R_clone_84 : decode bc_R_clone 84 = .ok (.goto (-34), 3) := by decide +kernel
theorem dc_R_clone_45 : decode bc_R_clone 45 = .ok (.bipush (-3), 2) := by decide +kernel
theorem dc_R_clone_47 : decode bc_R_clone 47 = .ok (.ireturn, 1) := by decide +kernel
theorem dc_S_drop_0 : decode bc_S_drop 0 = .ok (.iload_n 1, 1) := by decide +kernel
theorem dc_S_drop_1 : decode bc_S_drop 1 = .ok (.invokestatic 53, 3) := by decide +kernel
theorem dc_S_drop_4 : decode bc_S_drop 4 = .ok (.ifCond .ne 5, 3) := by decide +kernel
theorem dc_S_drop_9 : decode bc_S_drop 9 = .ok (.aload_n 0, 1) := by decide +kernel
theorem dc_S_drop_10 : decode bc_S_drop 10 = .ok (.getfield 46, 3) := by decide +kernel
theorem dc_S_drop_13 : decode bc_S_drop 13 = .ok (.getfield 78, 3) := by decide +kernel
theorem dc_S_drop_16 : decode bc_S_drop 16 = .ok (.iload_n 1, 1) := by decide +kernel
theorem dc_S_drop_17 : decode bc_S_drop 17 = .ok (.iaload, 1) := by decide +kernel
theorem dc_S_drop_18 : decode bc_S_drop 18 = .ok (.istore_n 2, 1) := by decide +kernel
theorem dc_S_drop_19 : decode bc_S_drop 19 = .ok (.aload_n 0, 1) := by decide +kernel
theorem dc_S_drop_20 : decode bc_S_drop 20 = .ok (.aload_n 0, 1) := by decide +kernel
theorem dc_S_drop_21 : decode bc_S_drop 21 = .ok (.getfield 46, 3) := by decide +kernel
theorem dc_S_drop_24 : decode bc_S_drop 24 = .ok (.iload_n 1, 1) := by decide +kernel
theorem dc_S_drop_25 : decode bc_S_drop 25 = .ok (.iconst 0, 1) := by decide +kernel
theorem dc_S_drop_26 : decode bc_S_drop 26 = .ok (.iconst 0, 1) := by decide +kernel
theorem dc_S_drop_27 : decode bc_S_drop 27 = .ok (.invokevirtual 91, 3) := by decide +kernel
theorem dc_S_drop_30 : decode bc_S_drop 30 = .ok (.iload_n 2, 1) := by decide +kernel
theorem dc_S_drop_31 : decode bc_S_drop 31 = .ok (.ireturn, 1) := by decide +kernel
theorem dc_S_drop_7 : decode bc_S_drop 7 = .ok (.iconst (-1), 1) := by decide +kernel
theorem dc_S_drop_8 : decode bc_S_drop 8 = .ok (.ireturn, 1) := by decide +kernel
theorem dc_R_drop_0 : decode bc_R_drop 0 = .ok (.iload_n 1, 1) := by decide +kernel
theorem dc_R_drop_1 : decode bc_R_drop 1 = .ok (.invokestatic 24, 3) := by decide +kernel
theorem dc_R_drop_4 : decode bc_R_drop 4 = .ok (.ifCond .ne 5, 3) := by decide +kernel
theorem dc_R_drop_9 : decode bc_R_drop 9 = .ok (.aload_n 0, 1) := by decide +kernel
theorem dc_R_drop_10 : decode bc_R_drop 10 = .ok (.getfield 17, 3) := by decide +kernel
theorem dc_R_drop_13 : decode bc_R_drop 13 = .ok (.iload_n 1, 1) := by decide +kernel
theorem dc_R_drop_14 : decode bc_R_drop 14 = .ok (.iaload, 1) := by decide +kernel
theorem dc_R_drop_15 : decode bc_R_drop 15 = .ok (.istore_n 2, 1) := by decide +kernel
theorem dc_R_drop_16 : decode bc_R_drop 16 = .ok (.aload_n 0, 1) := by decide +kernel
theorem dc_R_drop_17 : decode bc_R_drop 17 = .ok (.iload_n 1, 1) := by decide +kernel
theorem dc_R_drop_18 : decode bc_R_drop 18 = .ok (.iconst 0, 1) := by decide +kernel
theorem dc_R_drop_19 : decode bc_R_drop 19 = .ok (.sipush 4095, 3) := by decide +kernel
theorem dc_R_drop_22 : decode bc_R_drop 22 = .ok (.invokevirtual 49, 3) := by decide +kernel
theorem dc_R_drop_25 : decode bc_R_drop 25 = .ok (.pop, 1) := by decide +kernel
theorem dc_R_drop_26 : decode bc_R_drop 26 = .ok (.iload_n 2, 1) := by decide +kernel
theorem dc_R_drop_27 : decode bc_R_drop 27 = .ok (.ireturn, 1) := by decide +kernel
theorem dc_R_drop_7 : decode bc_R_drop 7 = .ok (.iconst (-1), 1) := by decide +kernel
theorem dc_R_drop_8 : decode bc_R_drop 8 = .ok (.ireturn, 1) := by decide +kernel
theorem dc_S_keep_0 : decode bc_S_keep 0 = .ok (.aload_n 0, 1) := by decide +kernel
theorem dc_S_keep_1 : decode bc_S_keep 1 = .ok (.aload_n 0, 1) := by decide +kernel
theorem dc_S_keep_2 : decode bc_S_keep 2 = .ok (.getfield 50, 3) := by decide +kernel
theorem dc_S_keep_5 : decode bc_S_keep 5 = .ok (.aload_n 0, 1) := by decide +kernel
theorem dc_S_keep_6 : decode bc_S_keep 6 = .ok (.getfield 46, 3) := by decide +kernel
theorem dc_S_keep_9 : decode bc_S_keep 9 = .ok (.invokevirtual 95, 3) := by decide +kernel
theorem dc_S_keep_12 : decode bc_S_keep 12 = .ok (.aload_n 0, 1) := by decide +kernel
theorem dc_S_keep_13 : decode bc_S_keep 13 = .ok (.getfield 46, 3) := by decide +kernel
theorem dc_S_keep_16 : decode bc_S_keep 16 = .ok (.getfield 70, 3) := by decide +kernel
theorem dc_S_keep_19 : decode bc_S_keep 19 = .ok (.ireturn, 1) := by decide +kernel
theorem dc_S_leadAll_0 : decode bc_S_leadAll 0 = .ok (.iconst 0, 1) := by decide +kernel
theorem dc_S_leadAll_1 : decode bc_S_leadAll 1 = .ok (.istore_n 3, 1) := by decide +kernel
theorem dc_S_leadAll_2 : decode bc_S_leadAll 2 = .ok (.iload_n 3, 1) := by decide +kernel
theorem dc_S_leadAll_3 : decode bc_S_leadAll 3 = .ok (.bipush 8, 2) := by decide +kernel
theorem dc_S_leadAll_5 : decode bc_S_leadAll 5 = .ok (.if_icmp .ge 27, 3) := by decide +kernel
theorem dc_S_leadAll_32 : decode bc_S_leadAll 32 = .ok (.return_, 1) := by decide +kernel
theorem dc_S_leadAll_8 : decode bc_S_leadAll 8 = .ok (.aload_n 0, 1) := by decide +kernel
theorem dc_S_leadAll_9 : decode bc_S_leadAll 9 = .ok (.aload_n 1, 1) := by decide +kernel
theorem dc_S_leadAll_10 : decode bc_S_leadAll 10 = .ok (.iload_n 3, 1) := by decide +kernel
theorem dc_S_leadAll_11 : decode bc_S_leadAll 11 = .ok (.aload_n 2, 1) := by decide +kernel
theorem dc_S_leadAll_12 : decode bc_S_leadAll 12 = .ok (.getfield 63, 3) := by decide +kernel
theorem dc_S_leadAll_15 : decode bc_S_leadAll 15 = .ok (.iload_n 3, 1) := by decide +kernel
theorem dc_S_leadAll_16 : decode bc_S_leadAll 16 = .ok (.iaload, 1) := by decide +kernel
theorem dc_S_leadAll_17 : decode bc_S_leadAll 17 = .ok (.aload_n 2, 1) := by decide +kernel
theorem dc_S_leadAll_18 : decode bc_S_leadAll 18 = .ok (.getfield 78, 3) := by decide +kernel
theorem dc_S_leadAll_21 : decode bc_S_leadAll 21 = .ok (.iload_n 3, 1) := by decide +kernel
theorem dc_S_leadAll_22 : decode bc_S_leadAll 22 = .ok (.iaload, 1) := by decide +kernel
theorem dc_S_leadAll_23 : decode bc_S_leadAll 23 = .ok (.invokevirtual 91, 3) := by decide +kernel
theorem dc_S_leadAll_26 : decode bc_S_leadAll 26 = .ok (.iinc 3 1, 3) := by decide +kernel
theorem dc_S_leadAll_29 : decode bc_S_leadAll 29 = .ok (.goto (-27), 3) := by decide +kernel
theorem dc_R_keep_0 : decode bc_R_keep 0 = .ok (.iconst 0, 1) := by decide +kernel
theorem dc_R_keep_1 : decode bc_R_keep 1 = .ok (.istore_n 1, 1) := by decide +kernel
theorem dc_R_keep_2 : decode bc_R_keep 2 = .ok (.iload_n 1, 1) := by decide +kernel
theorem dc_R_keep_3 : decode bc_R_keep 3 = .ok (.ldc 7, 2) := by decide +kernel
theorem dc_R_keep_5 : decode bc_R_keep 5 = .ok (.if_icmp .ge 21, 3) := by decide +kernel
theorem dc_R_keep_26 : decode bc_R_keep 26 = .ok (.iconst 0, 1) := by decide +kernel
theorem dc_R_keep_27 : decode bc_R_keep 27 = .ok (.istore_n 1, 1) := by decide +kernel
theorem dc_R_keep_28 : decode bc_R_keep 28 = .ok (.iload_n 1, 1) := by decide +kernel
theorem dc_R_keep_29 : decode bc_R_keep 29 = .ok (.bipush 8, 2) := by decide +kernel
theorem dc_R_keep_31 : decode bc_R_keep 31 = .ok (.if_icmp .ge 21, 3) := by decide +kernel
theorem dc_R_keep_52 : decode bc_R_keep 52 = .ok (.aload_n 0, 1) := by decide +kernel
theorem dc_R_keep_53 : decode bc_R_keep 53 = .ok (.invokevirtual 34, 3) := by decide +kernel
theorem dc_R_keep_56 : decode bc_R_keep 56 = .ok (.ireturn, 1) := by decide +kernel
theorem dc_R_keep_34 : decode bc_R_keep 34 = .ok (.aload_n 0, 1) := by decide +kernel
theorem dc_R_keep_35 : decode bc_R_keep 35 = .ok (.getfield 20, 3) := by decide +kernel
theorem dc_R_keep_38 : decode bc_R_keep 38 = .ok (.iload_n 1, 1) := by decide +kernel
theorem dc_R_keep_39 : decode bc_R_keep 39 = .ok (.aload_n 0, 1) := by decide +kernel
theorem dc_R_keep_40 : decode bc_R_keep 40 = .ok (.getfield 17, 3) := by decide +kernel
theorem dc_R_keep_43 : decode bc_R_keep 43 = .ok (.iload_n 1, 1) := by decide +kernel
theorem dc_R_keep_44 : decode bc_R_keep 44 = .ok (.iaload, 1) := by decide +kernel
theorem dc_R_keep_45 : decode bc_R_keep 45 = .ok (.iastore, 1) := by decide +kernel
theorem dc_R_keep_46 : decode bc_R_keep 46 = .ok (.iinc 1 1, 3) := by decide +kernel
theorem dc_R_keep_49 : decode bc_R_keep 49 = .ok (.goto (-21), 3) := by decide +kernel
theorem dc_R_keep_8 : decode bc_R_keep 8 = .ok (.aload_n 0, 1) := by decide +kernel
theorem dc_R_keep_9 : decode bc_R_keep 9 = .ok (.getfield 14, 3) := by decide +kernel
theorem dc_R_keep_12 : decode bc_R_keep 12 = .ok (.iload_n 1, 1) := by decide +kernel
theorem dc_R_keep_13 : decode bc_R_keep 13 = .ok (.aload_n 0, 1) := by decide +kernel
theorem dc_R_keep_14 : decode bc_R_keep 14 = .ok (.getfield 8, 3) := by decide +kernel
theorem dc_R_keep_17 : decode bc_R_keep 17 = .ok (.iload_n 1, 1) := by decide +kernel
theorem dc_R_keep_18 : decode bc_R_keep 18 = .ok (.iaload, 1) := by decide +kernel
theorem dc_R_keep_19 : decode bc_R_keep 19 = .ok (.iastore, 1) := by decide +kernel
theorem dc_R_keep_20 : decode bc_R_keep 20 = .ok (.iinc 1 1, 3) := by decide +kernel
theorem dc_R_keep_23 : decode bc_R_keep 23 = .ok (.goto (-21), 3) := by decide +kernel
theorem dc_S_back_0 : decode bc_S_back 0 = .ok (.aload_n 0, 1) := by decide +kernel
theorem dc_S_back_1 : decode bc_S_back 1 = .ok (.aload_n 0, 1) := by decide +kernel
theorem dc_S_back_2 : decode bc_S_back 2 = .ok (.getfield 46, 3) := by decide +kernel
theorem dc_S_back_5 : decode bc_S_back 5 = .ok (.aload_n 0, 1) := by decide +kernel
theorem dc_S_back_6 : decode bc_S_back 6 = .ok (.getfield 50, 3) := by decide +kernel
theorem dc_S_back_9 : decode bc_S_back 9 = .ok (.invokevirtual 95, 3) := by decide +kernel
theorem dc_S_back_12 : decode bc_S_back 12 = .ok (.aload_n 0, 1) := by decide +kernel
theorem dc_S_back_13 : decode bc_S_back 13 = .ok (.getfield 46, 3) := by decide +kernel
theorem dc_S_back_16 : decode bc_S_back 16 = .ok (.getfield 70, 3) := by decide +kernel
theorem dc_S_back_19 : decode bc_S_back 19 = .ok (.ireturn, 1) := by decide +kernel
theorem dc_R_back_0 : decode bc_R_back 0 = .ok (.iconst 0, 1) := by decide +kernel
theorem dc_R_back_1 : decode bc_R_back 1 = .ok (.istore_n 1, 1) := by decide +kernel
theorem dc_R_back_2 : decode bc_R_back 2 = .ok (.iload_n 1, 1) := by decide +kernel
theorem dc_R_back_3 : decode bc_R_back 3 = .ok (.ldc 7, 2) := by decide +kernel
theorem dc_R_back_5 : decode bc_R_back 5 = .ok (.if_icmp .ge 21, 3) := by decide +kernel
theorem dc_R_back_26 : decode bc_R_back 26 = .ok (.iconst 0, 1) := by decide +kernel
theorem dc_R_back_27 : decode bc_R_back 27 = .ok (.istore_n 1, 1) := by decide +kernel
theorem dc_R_back_28 : decode bc_R_back 28 = .ok (.iload_n 1, 1) := by decide +kernel
theorem dc_R_back_29 : decode bc_R_back 29 = .ok (.bipush 8, 2) := by decide +kernel
theorem dc_R_back_31 : decode bc_R_back 31 = .ok (.if_icmp .ge 21, 3) := by decide +kernel
theorem dc_R_back_52 : decode bc_R_back 52 = .ok (.aload_n 0, 1) := by decide +kernel
theorem dc_R_back_53 : decode bc_R_back 53 = .ok (.invokevirtual 34, 3) := by decide +kernel
theorem dc_R_back_56 : decode bc_R_back 56 = .ok (.ireturn, 1) := by decide +kernel
theorem dc_R_back_34 : decode bc_R_back 34 = .ok (.aload_n 0, 1) := by decide +kernel
theorem dc_R_back_35 : decode bc_R_back 35 = .ok (.getfield 17, 3) := by decide +kernel
theorem dc_R_back_38 : decode bc_R_back 38 = .ok (.iload_n 1, 1) := by decide +kernel
theorem dc_R_back_39 : decode bc_R_back 39 = .ok (.aload_n 0, 1) := by decide +kernel
theorem dc_R_back_40 : decode bc_R_back 40 = .ok (.getfield 20, 3) := by decide +kernel
theorem dc_R_back_43 : decode bc_R_back 43 = .ok (.iload_n 1, 1) := by decide +kernel
theorem dc_R_back_44 : decode bc_R_back 44 = .ok (.iaload, 1) := by decide +kernel
theorem dc_R_back_45 : decode bc_R_back 45 = .ok (.iastore, 1) := by decide +kernel
theorem dc_R_back_46 : decode bc_R_back 46 = .ok (.iinc 1 1, 3) := by decide +kernel
theorem dc_R_back_49 : decode bc_R_back 49 = .ok (.goto (-21), 3) := by decide +kernel
theorem dc_R_back_8 : decode bc_R_back 8 = .ok (.aload_n 0, 1) := by decide +kernel
theorem dc_R_back_9 : decode bc_R_back 9 = .ok (.getfield 8, 3) := by decide +kernel
theorem dc_R_back_12 : decode bc_R_back 12 = .ok (.iload_n 1, 1) := by decide +kernel
theorem dc_R_back_13 : decode bc_R_back 13 = .ok (.aload_n 0, 1) := by decide +kernel
theorem dc_R_back_14 : decode bc_R_back 14 = .ok (.getfield 14, 3) := by decide +kernel
theorem dc_R_back_17 : decode bc_R_back 17 = .ok (.iload_n 1, 1) := by decide +kernel
theorem dc_R_back_18 : decode bc_R_back 18 = .ok (.iaload, 1) := by decide +kernel
theorem dc_R_back_19 : decode bc_R_back 19 = .ok (.iastore, 1) := by decide +kernel
theorem dc_R_back_20 : decode bc_R_back 20 = .ok (.iinc 1 1, 3) := by decide +kernel
theorem dc_R_back_23 : decode bc_R_back 23 = .ok (.goto (-21), 3) := by decide +kernel
theorem dc_S_keys_0 : decode bc_S_keys 0 = .ok (.iload_n 1, 1) := by decide +kernel
theorem dc_S_keys_1 : decode bc_S_keys 1 = .ok (.iconst (-1), 1) := by decide +kernel
theorem dc_S_keys_2 : decode bc_S_keys 2 = .ok (.if_icmp .ne 11, 3) := by decide +kernel
theorem dc_S_keys_13 : decode bc_S_keys 13 = .ok (.iload_n 1, 1) := by decide +kernel
theorem dc_S_keys_14 : decode bc_S_keys 14 = .ok (.invokestatic 53, 3) := by decide +kernel
theorem dc_S_keys_17 : decode bc_S_keys 17 = .ok (.ifCond .eq 15, 3) := by decide +kernel
theorem dc_S_keys_32 : decode bc_S_keys 32 = .ok (.iconst (-1), 1) := by decide +kernel
theorem dc_S_keys_33 : decode bc_S_keys 33 = .ok (.ireturn, 1) := by decide +kernel
theorem dc_S_keys_20 : decode bc_S_keys 20 = .ok (.aload_n 0, 1) := by decide +kernel
theorem dc_S_keys_21 : decode bc_S_keys 21 = .ok (.getfield 46, 3) := by decide +kernel
theorem dc_S_keys_24 : decode bc_S_keys 24 = .ok (.getfield 78, 3) := by decide +kernel
theorem dc_S_keys_27 : decode bc_S_keys 27 = .ok (.iload_n 1, 1) := by decide +kernel
theorem dc_S_keys_28 : decode bc_S_keys 28 = .ok (.iaload, 1) := by decide +kernel
theorem dc_S_keys_29 : decode bc_S_keys 29 = .ok (.goto 4, 3) := by decide +kernel
theorem dc_S_keys_5 : decode bc_S_keys 5 = .ok (.aload_n 0, 1) := by decide +kernel
theorem dc_S_keys_6 : decode bc_S_keys 6 = .ok (.getfield 46, 3) := by decide +kernel
theorem dc_S_keys_9 : decode bc_S_keys 9 = .ok (.getfield 70, 3) := by decide +kernel
theorem dc_S_keys_12 : decode bc_S_keys 12 = .ok (.ireturn, 1) := by decide +kernel
theorem dc_R_keys_0 : decode bc_R_keys 0 = .ok (.iload_n 1, 1) := by decide +kernel
theorem dc_R_keys_1 : decode bc_R_keys 1 = .ok (.iconst (-1), 1) := by decide +kernel
theorem dc_R_keys_2 : decode bc_R_keys 2 = .ok (.if_icmp .ne 10, 3) := by decide +kernel
theorem dc_R_keys_12 : decode bc_R_keys 12 = .ok (.iload_n 1, 1) := by decide +kernel
theorem dc_R_keys_13 : decode bc_R_keys 13 = .ok (.invokestatic 24, 3) := by decide +kernel
theorem dc_R_keys_16 : decode bc_R_keys 16 = .ok (.ifCond .eq 12, 3) := by decide +kernel
theorem dc_R_keys_28 : decode bc_R_keys 28 = .ok (.iconst (-1), 1) := by decide +kernel
theorem dc_R_keys_29 : decode bc_R_keys 29 = .ok (.ireturn, 1) := by decide +kernel
theorem dc_R_keys_19 : decode bc_R_keys 19 = .ok (.aload_n 0, 1) := by decide +kernel
theorem dc_R_keys_20 : decode bc_R_keys 20 = .ok (.getfield 17, 3) := by decide +kernel
theorem dc_R_keys_23 : decode bc_R_keys 23 = .ok (.iload_n 1, 1) := by decide +kernel
theorem dc_R_keys_24 : decode bc_R_keys 24 = .ok (.iaload, 1) := by decide +kernel
theorem dc_R_keys_25 : decode bc_R_keys 25 = .ok (.goto 4, 3) := by decide +kernel
theorem dc_R_keys_5 : decode bc_R_keys 5 = .ok (.aload_n 0, 1) := by decide +kernel
theorem dc_R_keys_6 : decode bc_R_keys 6 = .ok (.invokevirtual 34, 3) := by decide +kernel
theorem dc_R_keys_9 : decode bc_R_keys 9 = .ok (.goto 20, 3) := by decide +kernel
theorem dc_S_check_0 : decode bc_S_check 0 = .ok (.aload_n 0, 1) := by decide +kernel
theorem dc_S_check_1 : decode bc_S_check 1 = .ok (.getfield 39, 3) := by decide +kernel
theorem dc_S_check_4 : decode bc_S_check 4 = .ok (.aload_n 0, 1) := by decide +kernel
theorem dc_S_check_5 : decode bc_S_check 5 = .ok (.getfield 46, 3) := by decide +kernel
theorem dc_S_check_8 : decode bc_S_check 8 = .ok (.aload_n 0, 1) := by decide +kernel
theorem dc_S_check_9 : decode bc_S_check 9 = .ok (.getfield 50, 3) := by decide +kernel
theorem dc_S_check_12 : decode bc_S_check 12 = .ok (.invokevirtual 99, 3) := by decide +kernel
theorem dc_S_check_15 : decode bc_S_check 15 = .ok (.ireturn, 1) := by decide +kernel
theorem dc_I_firstFault_0 : decode bc_I_firstFault 0 = .ok (.iconst 0, 1) := by decide +kernel
theorem dc_I_firstFault_1 : decode bc_I_firstFault 1 = .ok (.istore_n 3, 1) := by decide +kernel
theorem dc_I_firstFault_2 : decode bc_I_firstFault 2 = .ok (.iload_n 3, 1) := by decide +kernel
theorem dc_I_firstFault_3 : decode bc_I_firstFault 3 = .ok (.sipush 1200, 3) := by decide +kernel
theorem dc_I_firstFault_6 : decode bc_I_firstFault 6 = .ok (.if_icmp .gt 23, 3) := by decide +kernel
theorem dc_I_firstFault_29 : decode bc_I_firstFault 29 = .ok (.aload_n 0, 1) := by decide +kernel
theorem dc_I_firstFault_30 : decode bc_I_firstFault 30 = .ok (.aload_n 1, 1) := by decide +kernel
theorem dc_I_firstFault_31 : decode bc_I_firstFault 31 = .ok (.sipush 1201, 3) := by decide +kernel
theorem dc_I_firstFault_34 : decode bc_I_firstFault 34 = .ok (.invokevirtual 40, 3) := by decide +kernel
theorem dc_I_firstFault_37 : decode bc_I_firstFault 37 = .ok (.istore_n 3, 1) := by decide +kernel
theorem dc_I_firstFault_38 : decode bc_I_firstFault 38 = .ok (.iload_n 3, 1) := by decide +kernel
theorem dc_I_firstFault_39 : decode bc_I_firstFault 39 = .ok (.ifCond .ne 12, 3) := by decide +kernel
theorem dc_I_firstFault_51 : decode bc_I_firstFault 51 = .ok (.iload_n 3, 1) := by decide +kernel
theorem dc_I_firstFault_52 : decode bc_I_firstFault 52 = .ok (.ifCond .ne 8, 3) := by decide +kernel
theorem dc_I_firstFault_60 : decode bc_I_firstFault 60 = .ok (.iload_n 3, 1) := by decide +kernel
theorem dc_I_firstFault_61 : decode bc_I_firstFault 61 = .ok (.ifCond .eq 7, 3) := by decide +kernel
theorem dc_I_firstFault_68 : decode bc_I_firstFault 68 = .ok (.aload_n 0, 1) := by decide +kernel
theorem dc_I_firstFault_69 : decode bc_I_firstFault 69 = .ok (.invokevirtual 48, 3) := by decide +kernel
theorem dc_I_firstFault_72 : decode bc_I_firstFault 72 = .ok (.ireturn, 1) := by decide +kernel
theorem dc_I_firstFault_64 : decode bc_I_firstFault 64 = .ok (.iload_n 3, 1) := by decide +kernel
theorem dc_I_firstFault_65 : decode bc_I_firstFault 65 = .ok (.goto 7, 3) := by decide +kernel
theorem dc_I_firstFault_55 : decode bc_I_firstFault 55 = .ok (.aload_n 0, 1) := by decide +kernel
theorem dc_I_firstFault_56 : decode bc_I_firstFault 56 = .ok (.invokevirtual 44, 3) := by decide +kernel
theorem dc_I_firstFault_59 : decode bc_I_firstFault 59 = .ok (.istore_n 3, 1) := by decide +kernel
theorem dc_I_firstFault_42 : decode bc_I_firstFault 42 = .ok (.aload_n 0, 1) := by decide +kernel
theorem dc_I_firstFault_43 : decode bc_I_firstFault 43 = .ok (.aload_n 2, 1) := by decide +kernel
theorem dc_I_firstFault_44 : decode bc_I_firstFault 44 = .ok (.sipush 1209, 3) := by decide +kernel
theorem dc_I_firstFault_47 : decode bc_I_firstFault 47 = .ok (.invokevirtual 40, 3) := by decide +kernel
theorem dc_I_firstFault_50 : decode bc_I_firstFault 50 = .ok (.istore_n 3, 1) := by decide +kernel
theorem dc_I_firstFault_9 : decode bc_I_firstFault 9 = .ok (.aload_n 0, 1) := by decide +kernel
theorem dc_I_firstFault_10 : decode bc_I_firstFault 10 = .ok (.getfield 9, 3) := by decide +kernel
theorem dc_I_firstFault_13 : decode bc_I_firstFault 13 = .ok (.iload_n 3, 1) := by decide +kernel
theorem dc_I_firstFault_14 : decode bc_I_firstFault 14 = .ok (.iconst 0, 1) := by decide +kernel
theorem dc_I_firstFault_15 : decode bc_I_firstFault 15 = .ok (.iastore, 1) := by decide +kernel
theorem dc_I_firstFault_16 : decode bc_I_firstFault 16 = .ok (.aload_n 0, 1) := by decide +kernel
theorem dc_I_firstFault_17 : decode bc_I_firstFault 17 = .ok (.getfield 21, 3) := by decide +kernel
theorem dc_I_firstFault_20 : decode bc_I_firstFault 20 = .ok (.iload_n 3, 1) := by decide +kernel
theorem dc_I_firstFault_21 : decode bc_I_firstFault 21 = .ok (.iconst 0, 1) := by decide +kernel
theorem dc_I_firstFault_22 : decode bc_I_firstFault 22 = .ok (.bastore, 1) := by decide +kernel
theorem dc_I_firstFault_23 : decode bc_I_firstFault 23 = .ok (.iinc 3 1, 3) := by decide +kernel
theorem dc_I_firstFault_26 : decode bc_I_firstFault 26 = .ok (.goto (-24), 3) := by decide +kernel
theorem dc_I_faultOfMaps_0 : decode bc_I_faultOfMaps 0 = .ok (.iconst 0, 1) := by decide +kernel
theorem dc_I_faultOfMaps_1 : decode bc_I_faultOfMaps 1 = .ok (.istore_n 3, 1) := by decide +kernel
theorem dc_I_faultOfMaps_2 : decode bc_I_faultOfMaps 2 = .ok (.iconst 0, 1) := by decide +kernel
theorem dc_I_faultOfMaps_3 : decode bc_I_faultOfMaps 3 = .ok (.istore 4, 2) := by decide +kernel
end
section
theorem dc_I_faultOfMaps_5 : decode bc_I_faultOfMaps 5 = .ok (.iload 4, 2) := by decide +kernel
theorem dc_I_faultOfMaps_7 : decode bc_I_faultOfMaps 7 = .ok (.bipush 8, 2) := by decide +kernel
theorem dc_I_faultOfMaps_9 : decode bc_I_faultOfMaps 9 = .ok (.if_icmp .ge 51, 3) := by decide +kernel
theorem dc_I_faultOfMaps_60 : decode bc_I_faultOfMaps 60 = .ok (.iload_n 3, 1) := by decide +kernel
theorem dc_I_faultOfMaps_61 : decode bc_I_faultOfMaps 61 = .ok (.aload_n 1, 1) := by decide +kernel
theorem dc_I_faultOfMaps_62 : decode bc_I_faultOfMaps 62 = .ok (.getfield 63, 3) := by decide +kernel
theorem dc_I_faultOfMaps_65 : decode bc_I_faultOfMaps 65 = .ok (.if_icmp .ne 14, 3) := by decide +kernel
theorem dc_I_faultOfMaps_79 : decode bc_I_faultOfMaps 79 = .ok (.sipush 1217, 3) := by decide +kernel
theorem dc_I_faultOfMaps_82 : decode bc_I_faultOfMaps 82 = .ok (.ireturn, 1) := by decide +kernel
theorem dc_I_faultOfMaps_68 : decode bc_I_faultOfMaps 68 = .ok (.iload_n 3, 1) := by decide +kernel
theorem dc_I_faultOfMaps_69 : decode bc_I_faultOfMaps 69 = .ok (.sipush 600, 3) := by decide +kernel
theorem dc_I_faultOfMaps_72 : decode bc_I_faultOfMaps 72 = .ok (.if_icmp .gt 7, 3) := by decide +kernel
theorem dc_I_faultOfMaps_75 : decode bc_I_faultOfMaps 75 = .ok (.iconst 0, 1) := by decide +kernel
theorem dc_I_faultOfMaps_76 : decode bc_I_faultOfMaps 76 = .ok (.goto 6, 3) := by decide +kernel
theorem dc_I_faultOfMaps_12 : decode bc_I_faultOfMaps 12 = .ok (.aload_n 0, 1) := by decide +kernel
theorem dc_I_faultOfMaps_13 : decode bc_I_faultOfMaps 13 = .ok (.aload_n 1, 1) := by decide +kernel
theorem dc_I_faultOfMaps_14 : decode bc_I_faultOfMaps 14 = .ok (.getfield 51, 3) := by decide +kernel
theorem dc_I_faultOfMaps_17 : decode bc_I_faultOfMaps 17 = .ok (.iload 4, 2) := by decide +kernel
theorem dc_I_faultOfMaps_19 : decode bc_I_faultOfMaps 19 = .ok (.iaload, 1) := by decide +kernel
theorem dc_I_faultOfMaps_20 : decode bc_I_faultOfMaps 20 = .ok (.aload_n 1, 1) := by decide +kernel
theorem dc_I_faultOfMaps_21 : decode bc_I_faultOfMaps 21 = .ok (.getfield 56, 3) := by decide +kernel
theorem dc_I_faultOfMaps_24 : decode bc_I_faultOfMaps 24 = .ok (.iload 4, 2) := by decide +kernel
theorem dc_I_faultOfMaps_26 : decode bc_I_faultOfMaps 26 = .ok (.iaload, 1) := by decide +kernel
theorem dc_I_faultOfMaps_27 : decode bc_I_faultOfMaps 27 = .ok (.iload_n 2, 1) := by decide +kernel
theorem dc_I_faultOfMaps_28 : decode bc_I_faultOfMaps 28 = .ok (.iload 4, 2) := by decide +kernel
theorem dc_I_faultOfMaps_30 : decode bc_I_faultOfMaps 30 = .ok (.iadd, 1) := by decide +kernel
theorem dc_I_faultOfMaps_31 : decode bc_I_faultOfMaps 31 = .ok (.invokevirtual 59, 3) := by decide +kernel
theorem dc_I_faultOfMaps_34 : decode bc_I_faultOfMaps 34 = .ok (.istore 5, 2) := by decide +kernel
theorem dc_I_faultOfMaps_36 : decode bc_I_faultOfMaps 36 = .ok (.iload 5, 2) := by decide +kernel
theorem dc_I_faultOfMaps_38 : decode bc_I_faultOfMaps 38 = .ok (.ifCond .eq 6, 3) := by decide +kernel
theorem dc_I_faultOfMaps_44 : decode bc_I_faultOfMaps 44 = .ok (.iload_n 3, 1) := by decide +kernel
theorem dc_I_faultOfMaps_45 : decode bc_I_faultOfMaps 45 = .ok (.aload_n 1, 1) := by decide +kernel
theorem dc_I_faultOfMaps_46 : decode bc_I_faultOfMaps 46 = .ok (.getfield 56, 3) := by decide +kernel
theorem dc_I_faultOfMaps_49 : decode bc_I_faultOfMaps 49 = .ok (.iload 4, 2) := by decide +kernel
theorem dc_I_faultOfMaps_51 : decode bc_I_faultOfMaps 51 = .ok (.iaload, 1) := by decide +kernel
theorem dc_I_faultOfMaps_52 : decode bc_I_faultOfMaps 52 = .ok (.iadd, 1) := by decide +kernel
theorem dc_I_faultOfMaps_53 : decode bc_I_faultOfMaps 53 = .ok (.istore_n 3, 1) := by decide +kernel
theorem dc_I_faultOfMaps_54 : decode bc_I_faultOfMaps 54 = .ok (.iinc 4 1, 3) := by decide +kernel
theorem dc_I_faultOfMaps_57 : decode bc_I_faultOfMaps 57 = .ok (.goto (-52), 3) := by decide +kernel
theorem dc_I_faultOfMaps_41 : decode bc_I_faultOfMaps 41 = .ok (.iload 5, 2) := by decide +kernel
theorem dc_I_faultOfMaps_43 : decode bc_I_faultOfMaps 43 = .ok (.ireturn, 1) := by decide +kernel
theorem dc_I_faultOfTree_0 : decode bc_I_faultOfTree 0 = .ok (.iload_n 1, 1) := by decide +kernel
theorem dc_I_faultOfTree_1 : decode bc_I_faultOfTree 1 = .ok (.ifCond .ne 13, 3) := by decide +kernel
theorem dc_I_faultOfTree_14 : decode bc_I_faultOfTree 14 = .ok (.aload_n 0, 1) := by decide +kernel
theorem dc_I_faultOfTree_15 : decode bc_I_faultOfTree 15 = .ok (.getfield 25, 3) := by decide +kernel
theorem dc_I_faultOfTree_18 : decode bc_I_faultOfTree 18 = .ok (.iload_n 1, 1) := by decide +kernel
theorem dc_I_faultOfTree_19 : decode bc_I_faultOfTree 19 = .ok (.invokevirtual 66, 3) := by decide +kernel
theorem dc_I_faultOfTree_22 : decode bc_I_faultOfTree 22 = .ok (.ifCond .ne 5, 3) := by decide +kernel
theorem dc_I_faultOfTree_27 : decode bc_I_faultOfTree 27 = .ok (.aload_n 0, 1) := by decide +kernel
theorem dc_I_faultOfTree_28 : decode bc_I_faultOfTree 28 = .ok (.getfield 25, 3) := by decide +kernel
theorem dc_I_faultOfTree_31 : decode bc_I_faultOfTree 31 = .ok (.iload_n 1, 1) := by decide +kernel
theorem dc_I_faultOfTree_32 : decode bc_I_faultOfTree 32 = .ok (.invokevirtual 72, 3) := by decide +kernel
theorem dc_I_faultOfTree_35 : decode bc_I_faultOfTree 35 = .ok (.istore 4, 2) := by decide +kernel
theorem dc_I_faultOfTree_37 : decode bc_I_faultOfTree 37 = .ok (.aload_n 0, 1) := by decide +kernel
theorem dc_I_faultOfTree_38 : decode bc_I_faultOfTree 38 = .ok (.getfield 25, 3) := by decide +kernel
theorem dc_I_faultOfTree_41 : decode bc_I_faultOfTree 41 = .ok (.iload_n 1, 1) := by decide +kernel
theorem dc_I_faultOfTree_42 : decode bc_I_faultOfTree 42 = .ok (.invokevirtual 75, 3) := by decide +kernel
theorem dc_I_faultOfTree_45 : decode bc_I_faultOfTree 45 = .ok (.iload 4, 2) := by decide +kernel
theorem dc_I_faultOfTree_47 : decode bc_I_faultOfTree 47 = .ok (.ifCond .ne 7, 3) := by decide +kernel
theorem dc_I_faultOfTree_54 : decode bc_I_faultOfTree 54 = .ok (.iconst 2, 1) := by decide +kernel
theorem dc_I_faultOfTree_55 : decode bc_I_faultOfTree 55 = .ok (.if_icmp .ge 5, 3) := by decide +kernel
theorem dc_I_faultOfTree_60 : decode bc_I_faultOfTree 60 = .ok (.aload_n 0, 1) := by decide +kernel
theorem dc_I_faultOfTree_61 : decode bc_I_faultOfTree 61 = .ok (.iload_n 1, 1) := by decide +kernel
theorem dc_I_faultOfTree_62 : decode bc_I_faultOfTree 62 = .ok (.iload 4, 2) := by decide +kernel
theorem dc_I_faultOfTree_64 : decode bc_I_faultOfTree 64 = .ok (.invokevirtual 78, 3) := by decide +kernel
theorem dc_I_faultOfTree_67 : decode bc_I_faultOfTree 67 = .ok (.istore 5, 2) := by decide +kernel
theorem dc_I_faultOfTree_69 : decode bc_I_faultOfTree 69 = .ok (.iload 5, 2) := by decide +kernel
theorem dc_I_faultOfTree_71 : decode bc_I_faultOfTree 71 = .ok (.ifCond .eq 6, 3) := by decide +kernel
theorem dc_I_faultOfTree_77 : decode bc_I_faultOfTree 77 = .ok (.aload_n 0, 1) := by decide +kernel
theorem dc_I_faultOfTree_78 : decode bc_I_faultOfTree 78 = .ok (.getfield 15, 3) := by decide +kernel
theorem dc_I_faultOfTree_81 : decode bc_I_faultOfTree 81 = .ok (.iload_n 1, 1) := by decide +kernel
theorem dc_I_faultOfTree_82 : decode bc_I_faultOfTree 82 = .ok (.iaload, 1) := by decide +kernel
theorem dc_I_faultOfTree_83 : decode bc_I_faultOfTree 83 = .ok (.iload_n 2, 1) := by decide +kernel
theorem dc_I_faultOfTree_84 : decode bc_I_faultOfTree 84 = .ok (.if_icmp .ne 7, 3) := by decide +kernel
theorem dc_I_faultOfTree_91 : decode bc_I_faultOfTree 91 = .ok (.iload_n 3, 1) := by decide +kernel
theorem dc_I_faultOfTree_92 : decode bc_I_faultOfTree 92 = .ok (.ireturn, 1) := by decide +kernel
theorem dc_I_faultOfTree_87 : decode bc_I_faultOfTree 87 = .ok (.iconst 0, 1) := by decide +kernel
theorem dc_I_faultOfTree_88 : decode bc_I_faultOfTree 88 = .ok (.goto 4, 3) := by decide +kernel
theorem dc_I_faultOfTree_74 : decode bc_I_faultOfTree 74 = .ok (.iload 5, 2) := by decide +kernel
theorem dc_I_faultOfTree_76 : decode bc_I_faultOfTree 76 = .ok (.ireturn, 1) := by decide +kernel
theorem dc_I_faultOfTree_58 : decode bc_I_faultOfTree 58 = .ok (.iload_n 1, 1) := by decide +kernel
theorem dc_I_faultOfTree_59 : decode bc_I_faultOfTree 59 = .ok (.ireturn, 1) := by decide +kernel
theorem dc_I_faultOfTree_50 : decode bc_I_faultOfTree 50 = .ok (.iconst 1, 1) := by decide +kernel
theorem dc_I_faultOfTree_51 : decode bc_I_faultOfTree 51 = .ok (.goto 4, 3) := by decide +kernel
theorem dc_I_faultOfTree_25 : decode bc_I_faultOfTree 25 = .ok (.iload_n 3, 1) := by decide +kernel
theorem dc_I_faultOfTree_26 : decode bc_I_faultOfTree 26 = .ok (.ireturn, 1) := by decide +kernel
theorem dc_I_faultOfTree_4 : decode bc_I_faultOfTree 4 = .ok (.iload_n 2, 1) := by decide +kernel
theorem dc_I_faultOfTree_5 : decode bc_I_faultOfTree 5 = .ok (.ifCond .ne 7, 3) := by decide +kernel
theorem dc_I_faultOfTree_12 : decode bc_I_faultOfTree 12 = .ok (.iload_n 3, 1) := by decide +kernel
theorem dc_I_faultOfTree_13 : decode bc_I_faultOfTree 13 = .ok (.ireturn, 1) := by decide +kernel
theorem dc_I_faultOfTree_8 : decode bc_I_faultOfTree 8 = .ok (.iconst 0, 1) := by decide +kernel
theorem dc_I_faultOfTree_9 : decode bc_I_faultOfTree 9 = .ok (.goto 4, 3) := by decide +kernel
theorem dc_I_faultBelow_0 : decode bc_I_faultBelow 0 = .ok (.iload_n 2, 1) := by decide +kernel
theorem dc_I_faultBelow_1 : decode bc_I_faultBelow 1 = .ok (.ifCond .lt 20, 3) := by decide +kernel
theorem dc_I_faultBelow_21 : decode bc_I_faultBelow 21 = .ok (.sipush 1219, 3) := by decide +kernel
theorem dc_I_faultBelow_24 : decode bc_I_faultBelow 24 = .ok (.ireturn, 1) := by decide +kernel
theorem dc_I_faultBelow_4 : decode bc_I_faultBelow 4 = .ok (.iload_n 2, 1) := by decide +kernel
theorem dc_I_faultBelow_5 : decode bc_I_faultBelow 5 = .ok (.bipush 16, 2) := by decide +kernel
theorem dc_I_faultBelow_7 : decode bc_I_faultBelow 7 = .ok (.if_icmp .gt 14, 3) := by decide +kernel
theorem dc_I_faultBelow_10 : decode bc_I_faultBelow 10 = .ok (.aload_n 0, 1) := by decide +kernel
theorem dc_I_faultBelow_11 : decode bc_I_faultBelow 11 = .ok (.getfield 25, 3) := by decide +kernel
theorem dc_I_faultBelow_14 : decode bc_I_faultBelow 14 = .ok (.iload_n 1, 1) := by decide +kernel
theorem dc_I_faultBelow_15 : decode bc_I_faultBelow 15 = .ok (.invokevirtual 66, 3) := by decide +kernel
theorem dc_I_faultBelow_18 : decode bc_I_faultBelow 18 = .ok (.ifCond .ne 7, 3) := by decide +kernel
theorem dc_I_faultBelow_25 : decode bc_I_faultBelow 25 = .ok (.aload_n 0, 1) := by decide +kernel
theorem dc_I_faultBelow_26 : decode bc_I_faultBelow 26 = .ok (.getfield 9, 3) := by decide +kernel
theorem dc_I_faultBelow_29 : decode bc_I_faultBelow 29 = .ok (.iload_n 1, 1) := by decide +kernel
theorem dc_I_faultBelow_30 : decode bc_I_faultBelow 30 = .ok (.dup2, 1) := by decide +kernel
theorem dc_I_faultBelow_31 : decode bc_I_faultBelow 31 = .ok (.iaload, 1) := by decide +kernel
theorem dc_I_faultBelow_32 : decode bc_I_faultBelow 32 = .ok (.iconst 1, 1) := by decide +kernel
theorem dc_I_faultBelow_33 : decode bc_I_faultBelow 33 = .ok (.iadd, 1) := by decide +kernel
theorem dc_I_faultBelow_34 : decode bc_I_faultBelow 34 = .ok (.iastore, 1) := by decide +kernel
theorem dc_I_faultBelow_35 : decode bc_I_faultBelow 35 = .ok (.aload_n 0, 1) := by decide +kernel
theorem dc_I_faultBelow_36 : decode bc_I_faultBelow 36 = .ok (.getfield 9, 3) := by decide +kernel
theorem dc_I_faultBelow_39 : decode bc_I_faultBelow 39 = .ok (.iload_n 1, 1) := by decide +kernel
theorem dc_I_faultBelow_40 : decode bc_I_faultBelow 40 = .ok (.iaload, 1) := by decide +kernel
theorem dc_I_faultBelow_41 : decode bc_I_faultBelow 41 = .ok (.iconst 1, 1) := by decide +kernel
theorem dc_I_faultBelow_42 : decode bc_I_faultBelow 42 = .ok (.if_icmp .le 5, 3) := by decide +kernel
theorem dc_I_faultBelow_47 : decode bc_I_faultBelow 47 = .ok (.aload_n 0, 1) := by decide +kernel
theorem dc_I_faultBelow_48 : decode bc_I_faultBelow 48 = .ok (.iload_n 1, 1) := by decide +kernel
theorem dc_I_faultBelow_49 : decode bc_I_faultBelow 49 = .ok (.invokevirtual 82, 3) := by decide +kernel
theorem dc_I_faultBelow_52 : decode bc_I_faultBelow 52 = .ok (.ifCond .ne 5, 3) := by decide +kernel
theorem dc_I_faultBelow_57 : decode bc_I_faultBelow 57 = .ok (.iload_n 2, 1) := by decide +kernel
theorem dc_I_faultBelow_58 : decode bc_I_faultBelow 58 = .ok (.ifCond .ne 11, 3) := by decide +kernel
theorem dc_I_faultBelow_69 : decode bc_I_faultBelow 69 = .ok (.aload_n 0, 1) := by decide +kernel
theorem dc_I_faultBelow_70 : decode bc_I_faultBelow 70 = .ok (.iload_n 1, 1) := by decide +kernel
theorem dc_I_faultBelow_71 : decode bc_I_faultBelow 71 = .ok (.iload_n 2, 1) := by decide +kernel
theorem dc_I_faultBelow_72 : decode bc_I_faultBelow 72 = .ok (.invokevirtual 88, 3) := by decide +kernel
theorem dc_I_faultBelow_75 : decode bc_I_faultBelow 75 = .ok (.ireturn, 1) := by decide +kernel
theorem dc_I_faultBelow_61 : decode bc_I_faultBelow 61 = .ok (.aload_n 0, 1) := by decide +kernel
theorem dc_I_faultBelow_62 : decode bc_I_faultBelow 62 = .ok (.iload_n 1, 1) := by decide +kernel
theorem dc_I_faultBelow_63 : decode bc_I_faultBelow 63 = .ok (.invokevirtual 85, 3) := by decide +kernel
theorem dc_I_faultBelow_66 : decode bc_I_faultBelow 66 = .ok (.goto 9, 3) := by decide +kernel
theorem dc_I_faultBelow_55 : decode bc_I_faultBelow 55 = .ok (.iload_n 1, 1) := by decide +kernel
theorem dc_I_faultBelow_56 : decode bc_I_faultBelow 56 = .ok (.ireturn, 1) := by decide +kernel
theorem dc_I_faultBelow_45 : decode bc_I_faultBelow 45 = .ok (.iconst 0, 1) := by decide +kernel
theorem dc_I_faultBelow_46 : decode bc_I_faultBelow 46 = .ok (.ireturn, 1) := by decide +kernel
theorem dc_I_hasOrder_0 : decode bc_I_hasOrder 0 = .ok (.aload_n 0, 1) := by decide +kernel
theorem dc_I_hasOrder_1 : decode bc_I_hasOrder 1 = .ok (.getfield 25, 3) := by decide +kernel
theorem dc_I_hasOrder_4 : decode bc_I_hasOrder 4 = .ok (.iload_n 1, 1) := by decide +kernel
theorem dc_I_hasOrder_5 : decode bc_I_hasOrder 5 = .ok (.invokevirtual 75, 3) := by decide +kernel
theorem dc_I_hasOrder_8 : decode bc_I_hasOrder 8 = .ok (.istore_n 2, 1) := by decide +kernel
theorem dc_I_hasOrder_9 : decode bc_I_hasOrder 9 = .ok (.iload_n 2, 1) := by decide +kernel
theorem dc_I_hasOrder_10 : decode bc_I_hasOrder 10 = .ok (.iconst 1, 1) := by decide +kernel
theorem dc_I_hasOrder_11 : decode bc_I_hasOrder 11 = .ok (.if_icmp .lt 11, 3) := by decide +kernel
theorem dc_I_hasOrder_22 : decode bc_I_hasOrder 22 = .ok (.iconst 0, 1) := by decide +kernel
theorem dc_I_hasOrder_23 : decode bc_I_hasOrder 23 = .ok (.ireturn, 1) := by decide +kernel
theorem dc_I_hasOrder_14 : decode bc_I_hasOrder 14 = .ok (.iload_n 2, 1) := by decide +kernel
theorem dc_I_hasOrder_15 : decode bc_I_hasOrder 15 = .ok (.aload_n 0, 1) := by decide +kernel
theorem dc_I_hasOrder_16 : decode bc_I_hasOrder 16 = .ok (.getfield 29, 3) := by decide +kernel
theorem dc_I_hasOrder_19 : decode bc_I_hasOrder 19 = .ok (.if_icmp .le 5, 3) := by decide +kernel
theorem dc_I_hasOrder_24 : decode bc_I_hasOrder 24 = .ok (.iconst 1, 1) := by decide +kernel
theorem dc_I_hasOrder_25 : decode bc_I_hasOrder 25 = .ok (.istore_n 3, 1) := by decide +kernel
theorem dc_I_hasOrder_26 : decode bc_I_hasOrder 26 = .ok (.iload_n 3, 1) := by decide +kernel
theorem dc_I_hasOrder_27 : decode bc_I_hasOrder 27 = .ok (.iload_n 2, 1) := by decide +kernel
theorem dc_I_hasOrder_28 : decode bc_I_hasOrder 28 = .ok (.if_icmp .ge 34, 3) := by decide +kernel
theorem dc_I_hasOrder_62 : decode bc_I_hasOrder 62 = .ok (.aload_n 0, 1) := by decide +kernel
theorem dc_I_hasOrder_63 : decode bc_I_hasOrder 63 = .ok (.getfield 25, 3) := by decide +kernel
theorem dc_I_hasOrder_66 : decode bc_I_hasOrder 66 = .ok (.iload_n 1, 1) := by decide +kernel
theorem dc_I_hasOrder_67 : decode bc_I_hasOrder 67 = .ok (.iconst 0, 1) := by decide +kernel
theorem dc_I_hasOrder_68 : decode bc_I_hasOrder 68 = .ok (.invokevirtual 91, 3) := by decide +kernel
theorem dc_I_hasOrder_71 : decode bc_I_hasOrder 71 = .ok (.invokestatic 94, 3) := by decide +kernel
theorem dc_I_hasOrder_74 : decode bc_I_hasOrder 74 = .ok (.ifCond .eq 24, 3) := by decide +kernel
theorem dc_I_hasOrder_98 : decode bc_I_hasOrder 98 = .ok (.iconst 0, 1) := by decide +kernel
theorem dc_I_hasOrder_99 : decode bc_I_hasOrder 99 = .ok (.ireturn, 1) := by decide +kernel
theorem dc_I_hasOrder_77 : decode bc_I_hasOrder 77 = .ok (.aload_n 0, 1) := by decide +kernel
theorem dc_I_hasOrder_78 : decode bc_I_hasOrder 78 = .ok (.getfield 25, 3) := by decide +kernel
theorem dc_I_hasOrder_81 : decode bc_I_hasOrder 81 = .ok (.iload_n 1, 1) := by decide +kernel
theorem dc_I_hasOrder_82 : decode bc_I_hasOrder 82 = .ok (.iload_n 2, 1) := by decide +kernel
theorem dc_I_hasOrder_83 : decode bc_I_hasOrder 83 = .ok (.iconst 1, 1) := by decide +kernel
theorem dc_I_hasOrder_84 : decode bc_I_hasOrder 84 = .ok (.isub, 1) := by decide +kernel
theorem dc_I_hasOrder_85 : decode bc_I_hasOrder 85 = .ok (.invokevirtual 91, 3) := by decide +kernel
theorem dc_I_hasOrder_88 : decode bc_I_hasOrder 88 = .ok (.invokestatic 94, 3) := by decide +kernel
theorem dc_I_hasOrder_91 : decode bc_I_hasOrder 91 = .ok (.ifCond .eq 7, 3) := by decide +kernel
theorem dc_I_hasOrder_94 : decode bc_I_hasOrder 94 = .ok (.iconst 1, 1) := by decide +kernel
theorem dc_I_hasOrder_95 : decode bc_I_hasOrder 95 = .ok (.goto 4, 3) := by decide +kernel
theorem dc_I_hasOrder_31 : decode bc_I_hasOrder 31 = .ok (.aload_n 0, 1) := by decide +kernel
theorem dc_I_hasOrder_32 : decode bc_I_hasOrder 32 = .ok (.getfield 25, 3) := by decide +kernel
theorem dc_I_hasOrder_35 : decode bc_I_hasOrder 35 = .ok (.iload_n 1, 1) := by decide +kernel
theorem dc_I_hasOrder_36 : decode bc_I_hasOrder 36 = .ok (.iload_n 3, 1) := by decide +kernel
theorem dc_I_hasOrder_37 : decode bc_I_hasOrder 37 = .ok (.iconst 1, 1) := by decide +kernel
theorem dc_I_hasOrder_38 : decode bc_I_hasOrder 38 = .ok (.isub, 1) := by decide +kernel
theorem dc_I_hasOrder_39 : decode bc_I_hasOrder 39 = .ok (.invokevirtual 91, 3) := by decide +kernel
theorem dc_I_hasOrder_42 : decode bc_I_hasOrder 42 = .ok (.aload_n 0, 1) := by decide +kernel
theorem dc_I_hasOrder_43 : decode bc_I_hasOrder 43 = .ok (.getfield 25, 3) := by decide +kernel
theorem dc_I_hasOrder_46 : decode bc_I_hasOrder 46 = .ok (.iload_n 1, 1) := by decide +kernel
theorem dc_I_hasOrder_47 : decode bc_I_hasOrder 47 = .ok (.iload_n 3, 1) := by decide +kernel
theorem dc_I_hasOrder_48 : decode bc_I_hasOrder 48 = .ok (.invokevirtual 91, 3) := by decide +kernel
theorem dc_I_hasOrder_51 : decode bc_I_hasOrder 51 = .ok (.if_icmp .lt 5, 3) := by decide +kernel
theorem dc_I_hasOrder_56 : decode bc_I_hasOrder 56 = .ok (.iinc 3 1, 3) := by decide +kernel
theorem dc_I_hasOrder_59 : decode bc_I_hasOrder 59 = .ok (.goto (-33), 3) := by decide +kernel
theorem dc_I_hasOrder_54 : decode bc_I_hasOrder 54 = .ok (.iconst 0, 1) := by decide +kernel
theorem dc_I_hasOrder_55 : decode bc_I_hasOrder 55 = .ok (.ireturn, 1) := by decide +kernel
theorem dc_I_faultOfNode_0 : decode bc_I_faultOfNode 0 = .ok (.aload_n 0, 1) := by decide +kernel
theorem dc_I_faultOfNode_1 : decode bc_I_faultOfNode 1 = .ok (.getfield 25, 3) := by decide +kernel
theorem dc_I_faultOfNode_4 : decode bc_I_faultOfNode 4 = .ok (.iload_n 1, 1) := by decide +kernel
theorem dc_I_faultOfNode_5 : decode bc_I_faultOfNode 5 = .ok (.invokevirtual 75, 3) := by decide +kernel
theorem dc_I_faultOfNode_8 : decode bc_I_faultOfNode 8 = .ok (.istore_n 3, 1) := by decide +kernel
theorem dc_I_faultOfNode_9 : decode bc_I_faultOfNode 9 = .ok (.iconst 0, 1) := by decide +kernel
theorem dc_I_faultOfNode_10 : decode bc_I_faultOfNode 10 = .ok (.istore 4, 2) := by decide +kernel
theorem dc_I_faultOfNode_12 : decode bc_I_faultOfNode 12 = .ok (.bipush (-2), 2) := by decide +kernel
theorem dc_I_faultOfNode_14 : decode bc_I_faultOfNode 14 = .ok (.istore 5, 2) := by decide +kernel
theorem dc_I_faultOfNode_16 : decode bc_I_faultOfNode 16 = .ok (.iconst 0, 1) := by decide +kernel
theorem dc_I_faultOfNode_17 : decode bc_I_faultOfNode 17 = .ok (.istore 6, 2) := by decide +kernel
theorem dc_I_faultOfNode_19 : decode bc_I_faultOfNode 19 = .ok (.iload 6, 2) := by decide +kernel
theorem dc_I_faultOfNode_21 : decode bc_I_faultOfNode 21 = .ok (.iload_n 3, 1) := by decide +kernel
theorem dc_I_faultOfNode_22 : decode bc_I_faultOfNode 22 = .ok (.if_icmp .ge 145, 3) := by decide +kernel
theorem dc_I_faultOfNode_167 : decode bc_I_faultOfNode 167 = .ok (.aload_n 0, 1) := by decide +kernel
theorem dc_I_faultOfNode_168 : decode bc_I_faultOfNode 168 = .ok (.getfield 15, 3) := by decide +kernel
theorem dc_I_faultOfNode_171 : decode bc_I_faultOfNode 171 = .ok (.iload_n 1, 1) := by decide +kernel
theorem dc_I_faultOfNode_172 : decode bc_I_faultOfNode 172 = .ok (.iload 4, 2) := by decide +kernel
theorem dc_I_faultOfNode_174 : decode bc_I_faultOfNode 174 = .ok (.iastore, 1) := by decide +kernel
theorem dc_I_faultOfNode_175 : decode bc_I_faultOfNode 175 = .ok (.aload_n 0, 1) := by decide +kernel
theorem dc_I_faultOfNode_176 : decode bc_I_faultOfNode 176 = .ok (.getfield 18, 3) := by decide +kernel
theorem dc_I_faultOfNode_179 : decode bc_I_faultOfNode 179 = .ok (.iload_n 1, 1) := by decide +kernel
theorem dc_I_faultOfNode_180 : decode bc_I_faultOfNode 180 = .ok (.iload 5, 2) := by decide +kernel
theorem dc_I_faultOfNode_182 : decode bc_I_faultOfNode 182 = .ok (.iastore, 1) := by decide +kernel
theorem dc_I_faultOfNode_183 : decode bc_I_faultOfNode 183 = .ok (.iconst 0, 1) := by decide +kernel
theorem dc_I_faultOfNode_184 : decode bc_I_faultOfNode 184 = .ok (.ireturn, 1) := by decide +kernel
theorem dc_I_faultOfNode_25 : decode bc_I_faultOfNode 25 = .ok (.aload_n 0, 1) := by decide +kernel
theorem dc_I_faultOfNode_26 : decode bc_I_faultOfNode 26 = .ok (.getfield 25, 3) := by decide +kernel
theorem dc_I_faultOfNode_29 : decode bc_I_faultOfNode 29 = .ok (.iload_n 1, 1) := by decide +kernel
theorem dc_I_faultOfNode_30 : decode bc_I_faultOfNode 30 = .ok (.iload 6, 2) := by decide +kernel
theorem dc_I_faultOfNode_32 : decode bc_I_faultOfNode 32 = .ok (.invokevirtual 97, 3) := by decide +kernel
theorem dc_I_faultOfNode_35 : decode bc_I_faultOfNode 35 = .ok (.istore 7, 2) := by decide +kernel
theorem dc_I_faultOfNode_37 : decode bc_I_faultOfNode 37 = .ok (.aload_n 0, 1) := by decide +kernel
theorem dc_I_faultOfNode_38 : decode bc_I_faultOfNode 38 = .ok (.getfield 25, 3) := by decide +kernel
theorem dc_I_faultOfNode_41 : decode bc_I_faultOfNode 41 = .ok (.iload 7, 2) := by decide +kernel
theorem dc_I_faultOfNode_43 : decode bc_I_faultOfNode 43 = .ok (.invokevirtual 66, 3) := by decide +kernel
theorem dc_I_faultOfNode_46 : decode bc_I_faultOfNode 46 = .ok (.ifCond .eq 18, 3) := by decide +kernel
theorem dc_I_faultOfNode_64 : decode bc_I_faultOfNode 64 = .ok (.iload_n 1, 1) := by decide +kernel
theorem dc_I_faultOfNode_65 : decode bc_I_faultOfNode 65 = .ok (.ireturn, 1) := by decide +kernel
theorem dc_I_faultOfNode_49 : decode bc_I_faultOfNode 49 = .ok (.aload_n 0, 1) := by decide +kernel
theorem dc_I_faultOfNode_50 : decode bc_I_faultOfNode 50 = .ok (.getfield 25, 3) := by decide +kernel
theorem dc_I_faultOfNode_53 : decode bc_I_faultOfNode 53 = .ok (.iload 7, 2) := by decide +kernel
theorem dc_I_faultOfNode_55 : decode bc_I_faultOfNode 55 = .ok (.invokevirtual 72, 3) := by decide +kernel
theorem dc_I_faultOfNode_58 : decode bc_I_faultOfNode 58 = .ok (.iload_n 2, 1) := by decide +kernel
theorem dc_I_faultOfNode_59 : decode bc_I_faultOfNode 59 = .ok (.iconst 1, 1) := by decide +kernel
theorem dc_I_faultOfNode_60 : decode bc_I_faultOfNode 60 = .ok (.isub, 1) := by decide +kernel
theorem dc_I_faultOfNode_61 : decode bc_I_faultOfNode 61 = .ok (.if_icmp .eq 5, 3) := by decide +kernel
theorem dc_I_faultOfNode_66 : decode bc_I_faultOfNode 66 = .ok (.aload_n 0, 1) := by decide +kernel
theorem dc_I_faultOfNode_67 : decode bc_I_faultOfNode 67 = .ok (.getfield 25, 3) := by decide +kernel
theorem dc_I_faultOfNode_70 : decode bc_I_faultOfNode 70 = .ok (.iload 7, 2) := by decide +kernel
theorem dc_I_faultOfNode_72 : decode bc_I_faultOfNode 72 = .ok (.invokevirtual 75, 3) := by decide +kernel
theorem dc_I_faultOfNode_75 : decode bc_I_faultOfNode 75 = .ok (.aload_n 0, 1) := by decide +kernel
theorem dc_I_faultOfNode_76 : decode bc_I_faultOfNode 76 = .ok (.getfield 37, 3) := by decide +kernel
theorem dc_I_faultOfNode_79 : decode bc_I_faultOfNode 79 = .ok (.if_icmp .ge 6, 3) := by decide +kernel
theorem dc_I_faultOfNode_85 : decode bc_I_faultOfNode 85 = .ok (.aload_n 0, 1) := by decide +kernel
theorem dc_I_faultOfNode_86 : decode bc_I_faultOfNode 86 = .ok (.iload 7, 2) := by decide +kernel
theorem dc_I_faultOfNode_88 : decode bc_I_faultOfNode 88 = .ok (.iload_n 2, 1) := by decide +kernel
theorem dc_I_faultOfNode_89 : decode bc_I_faultOfNode 89 = .ok (.iconst 1, 1) := by decide +kernel
theorem dc_I_faultOfNode_90 : decode bc_I_faultOfNode 90 = .ok (.isub, 1) := by decide +kernel
theorem dc_I_faultOfNode_91 : decode bc_I_faultOfNode 91 = .ok (.invokevirtual 78, 3) := by decide +kernel
theorem dc_I_faultOfNode_94 : decode bc_I_faultOfNode 94 = .ok (.istore 8, 2) := by decide +kernel
theorem dc_I_faultOfNode_96 : decode bc_I_faultOfNode 96 = .ok (.iload 8, 2) := by decide +kernel
theorem dc_I_faultOfNode_98 : decode bc_I_faultOfNode 98 = .ok (.ifCond .eq 6, 3) := by decide +kernel
theorem dc_I_faultOfNode_104 : decode bc_I_faultOfNode 104 = .ok (.aload_n 0, 1) := by decide +kernel
theorem dc_I_faultOfNode_105 : decode bc_I_faultOfNode 105 = .ok (.getfield 25, 3) := by decide +kernel
theorem dc_I_faultOfNode_108 : decode bc_I_faultOfNode 108 = .ok (.iload_n 1, 1) := by decide +kernel
theorem dc_I_faultOfNode_109 : decode bc_I_faultOfNode 109 = .ok (.iload 6, 2) := by decide +kernel
theorem dc_I_faultOfNode_111 : decode bc_I_faultOfNode 111 = .ok (.invokevirtual 91, 3) := by decide +kernel
theorem dc_I_faultOfNode_114 : decode bc_I_faultOfNode 114 = .ok (.istore 9, 2) := by decide +kernel
theorem dc_I_faultOfNode_116 : decode bc_I_faultOfNode 116 = .ok (.iload 9, 2) := by decide +kernel
theorem dc_I_faultOfNode_118 : decode bc_I_faultOfNode 118 = .ok (.aload_n 0, 1) := by decide +kernel
theorem dc_I_faultOfNode_119 : decode bc_I_faultOfNode 119 = .ok (.getfield 25, 3) := by decide +kernel
theorem dc_I_faultOfNode_122 : decode bc_I_faultOfNode 122 = .ok (.iload 7, 2) := by decide +kernel
theorem dc_I_faultOfNode_124 : decode bc_I_faultOfNode 124 = .ok (.iconst 0, 1) := by decide +kernel
theorem dc_I_faultOfNode_125 : decode bc_I_faultOfNode 125 = .ok (.invokevirtual 91, 3) := by decide +kernel
theorem dc_I_faultOfNode_128 : decode bc_I_faultOfNode 128 = .ok (.if_icmp .ne 10, 3) := by decide +kernel
theorem dc_I_faultOfNode_138 : decode bc_I_faultOfNode 138 = .ok (.iload_n 1, 1) := by decide +kernel
theorem dc_I_faultOfNode_139 : decode bc_I_faultOfNode 139 = .ok (.ireturn, 1) := by decide +kernel
theorem dc_I_faultOfNode_131 : decode bc_I_faultOfNode 131 = .ok (.iload 9, 2) := by decide +kernel
theorem dc_I_faultOfNode_133 : decode bc_I_faultOfNode 133 = .ok (.iload 5, 2) := by decide +kernel
theorem dc_I_faultOfNode_135 : decode bc_I_faultOfNode 135 = .ok (.if_icmp .gt 5, 3) := by decide +kernel
theorem dc_I_faultOfNode_140 : decode bc_I_faultOfNode 140 = .ok (.aload_n 0, 1) := by decide +kernel
theorem dc_I_faultOfNode_141 : decode bc_I_faultOfNode 141 = .ok (.getfield 18, 3) := by decide +kernel
theorem dc_I_faultOfNode_144 : decode bc_I_faultOfNode 144 = .ok (.iload 7, 2) := by decide +kernel
theorem dc_I_faultOfNode_146 : decode bc_I_faultOfNode 146 = .ok (.iaload, 1) := by decide +kernel
theorem dc_I_faultOfNode_147 : decode bc_I_faultOfNode 147 = .ok (.istore 5, 2) := by decide +kernel
theorem dc_I_faultOfNode_149 : decode bc_I_faultOfNode 149 = .ok (.iload 4, 2) := by decide +kernel
theorem dc_I_faultOfNode_151 : decode bc_I_faultOfNode 151 = .ok (.aload_n 0, 1) := by decide +kernel
theorem dc_I_faultOfNode_152 : decode bc_I_faultOfNode 152 = .ok (.getfield 15, 3) := by decide +kernel
theorem dc_I_faultOfNode_155 : decode bc_I_faultOfNode 155 = .ok (.iload 7, 2) := by decide +kernel
theorem dc_I_faultOfNode_157 : decode bc_I_faultOfNode 157 = .ok (.iaload, 1) := by decide +kernel
theorem dc_I_faultOfNode_158 : decode bc_I_faultOfNode 158 = .ok (.iadd, 1) := by decide +kernel
theorem dc_I_faultOfNode_159 : decode bc_I_faultOfNode 159 = .ok (.istore 4, 2) := by decide +kernel
theorem dc_I_faultOfNode_161 : decode bc_I_faultOfNode 161 = .ok (.iinc 6 1, 3) := by decide +kernel
theorem dc_I_faultOfNode_164 : decode bc_I_faultOfNode 164 = .ok (.goto (-145), 3) := by decide +kernel
theorem dc_I_faultOfNode_101 : decode bc_I_faultOfNode 101 = .ok (.iload 8, 2) := by decide +kernel
theorem dc_I_faultOfNode_103 : decode bc_I_faultOfNode 103 = .ok (.ireturn, 1) := by decide +kernel
theorem dc_I_faultOfNode_82 : decode bc_I_faultOfNode 82 = .ok (.iload 7, 2) := by decide +kernel
theorem dc_I_faultOfNode_84 : decode bc_I_faultOfNode 84 = .ok (.ireturn, 1) := by decide +kernel
theorem dc_I_faultOfLeaf_0 : decode bc_I_faultOfLeaf 0 = .ok (.aload_n 0, 1) := by decide +kernel
theorem dc_I_faultOfLeaf_1 : decode bc_I_faultOfLeaf 1 = .ok (.getfield 25, 3) := by decide +kernel
theorem dc_I_faultOfLeaf_4 : decode bc_I_faultOfLeaf 4 = .ok (.iload_n 1, 1) := by decide +kernel
theorem dc_I_faultOfLeaf_5 : decode bc_I_faultOfLeaf 5 = .ok (.invokevirtual 75, 3) := by decide +kernel
theorem dc_I_faultOfLeaf_8 : decode bc_I_faultOfLeaf 8 = .ok (.istore_n 2, 1) := by decide +kernel
theorem dc_I_faultOfLeaf_9 : decode bc_I_faultOfLeaf 9 = .ok (.iconst 0, 1) := by decide +kernel
theorem dc_I_faultOfLeaf_10 : decode bc_I_faultOfLeaf 10 = .ok (.istore_n 3, 1) := by decide +kernel
theorem dc_I_faultOfLeaf_11 : decode bc_I_faultOfLeaf 11 = .ok (.iload_n 3, 1) := by decide +kernel
theorem dc_I_faultOfLeaf_12 : decode bc_I_faultOfLeaf 12 = .ok (.iload_n 2, 1) := by decide +kernel
theorem dc_I_faultOfLeaf_13 : decode bc_I_faultOfLeaf 13 = .ok (.if_icmp .ge 26, 3) := by decide +kernel
theorem dc_I_faultOfLeaf_39 : decode bc_I_faultOfLeaf 39 = .ok (.aload_n 0, 1) := by decide +kernel
theorem dc_I_faultOfLeaf_40 : decode bc_I_faultOfLeaf 40 = .ok (.getfield 15, 3) := by decide +kernel
theorem dc_I_faultOfLeaf_43 : decode bc_I_faultOfLeaf 43 = .ok (.iload_n 1, 1) := by decide +kernel
theorem dc_I_faultOfLeaf_44 : decode bc_I_faultOfLeaf 44 = .ok (.iload_n 2, 1) := by decide +kernel
theorem dc_I_faultOfLeaf_45 : decode bc_I_faultOfLeaf 45 = .ok (.iastore, 1) := by decide +kernel
theorem dc_I_faultOfLeaf_46 : decode bc_I_faultOfLeaf 46 = .ok (.aload_n 0, 1) := by decide +kernel
theorem dc_I_faultOfLeaf_47 : decode bc_I_faultOfLeaf 47 = .ok (.getfield 18, 3) := by decide +kernel
theorem dc_I_faultOfLeaf_50 : decode bc_I_faultOfLeaf 50 = .ok (.iload_n 1, 1) := by decide +kernel
theorem dc_I_faultOfLeaf_51 : decode bc_I_faultOfLeaf 51 = .ok (.aload_n 0, 1) := by decide +kernel
theorem dc_I_faultOfLeaf_52 : decode bc_I_faultOfLeaf 52 = .ok (.getfield 25, 3) := by decide +kernel
theorem dc_I_faultOfLeaf_55 : decode bc_I_faultOfLeaf 55 = .ok (.iload_n 1, 1) := by decide +kernel
theorem dc_I_faultOfLeaf_56 : decode bc_I_faultOfLeaf 56 = .ok (.iload_n 2, 1) := by decide +kernel
theorem dc_I_faultOfLeaf_57 : decode bc_I_faultOfLeaf 57 = .ok (.iconst 1, 1) := by decide +kernel
theorem dc_I_faultOfLeaf_58 : decode bc_I_faultOfLeaf 58 = .ok (.isub, 1) := by decide +kernel
theorem dc_I_faultOfLeaf_59 : decode bc_I_faultOfLeaf 59 = .ok (.invokevirtual 91, 3) := by decide +kernel
theorem dc_I_faultOfLeaf_62 : decode bc_I_faultOfLeaf 62 = .ok (.iastore, 1) := by decide +kernel
theorem dc_I_faultOfLeaf_63 : decode bc_I_faultOfLeaf 63 = .ok (.iconst 0, 1) := by decide +kernel
theorem dc_I_faultOfLeaf_64 : decode bc_I_faultOfLeaf 64 = .ok (.ireturn, 1) := by decide +kernel
theorem dc_I_faultOfLeaf_16 : decode bc_I_faultOfLeaf 16 = .ok (.aload_n 0, 1) := by decide +kernel
theorem dc_I_faultOfLeaf_17 : decode bc_I_faultOfLeaf 17 = .ok (.getfield 25, 3) := by decide +kernel
theorem dc_I_faultOfLeaf_20 : decode bc_I_faultOfLeaf 20 = .ok (.iload_n 1, 1) := by decide +kernel
theorem dc_I_faultOfLeaf_21 : decode bc_I_faultOfLeaf 21 = .ok (.iload_n 3, 1) := by decide +kernel
theorem dc_I_faultOfLeaf_22 : decode bc_I_faultOfLeaf 22 = .ok (.invokevirtual 97, 3) := by decide +kernel
theorem dc_I_faultOfLeaf_25 : decode bc_I_faultOfLeaf 25 = .ok (.invokestatic 100, 3) := by decide +kernel
theorem dc_I_faultOfLeaf_28 : decode bc_I_faultOfLeaf 28 = .ok (.ifCond .ne 5, 3) := by decide +kernel
theorem dc_I_faultOfLeaf_33 : decode bc_I_faultOfLeaf 33 = .ok (.iinc 3 1, 3) := by decide +kernel
theorem dc_I_faultOfLeaf_36 : decode bc_I_faultOfLeaf 36 = .ok (.goto (-25), 3) := by decide +kernel
theorem dc_I_faultOfLeaf_31 : decode bc_I_faultOfLeaf 31 = .ok (.iload_n 1, 1) := by decide +kernel
theorem dc_I_faultOfLeaf_32 : decode bc_I_faultOfLeaf 32 = .ok (.ireturn, 1) := by decide +kernel
theorem dc_I_faultOfWays_0 : decode bc_I_faultOfWays 0 = .ok (.iconst 1, 1) := by decide +kernel
theorem dc_I_faultOfWays_1 : decode bc_I_faultOfWays 1 = .ok (.istore_n 1, 1) := by decide +kernel
theorem dc_I_faultOfWays_2 : decode bc_I_faultOfWays 2 = .ok (.iload_n 1, 1) := by decide +kernel
theorem dc_I_faultOfWays_3 : decode bc_I_faultOfWays 3 = .ok (.sipush 1200, 3) := by decide +kernel
theorem dc_I_faultOfWays_6 : decode bc_I_faultOfWays 6 = .ok (.if_icmp .gt 53, 3) := by decide +kernel
theorem dc_I_faultOfWays_59 : decode bc_I_faultOfWays 59 = .ok (.iconst 0, 1) := by decide +kernel
theorem dc_I_faultOfWays_60 : decode bc_I_faultOfWays 60 = .ok (.ireturn, 1) := by decide +kernel
theorem dc_I_faultOfWays_9 : decode bc_I_faultOfWays 9 = .ok (.aload_n 0, 1) := by decide +kernel
theorem dc_I_faultOfWays_10 : decode bc_I_faultOfWays 10 = .ok (.getfield 9, 3) := by decide +kernel
theorem dc_I_faultOfWays_13 : decode bc_I_faultOfWays 13 = .ok (.iload_n 1, 1) := by decide +kernel
theorem dc_I_faultOfWays_14 : decode bc_I_faultOfWays 14 = .ok (.iaload, 1) := by decide +kernel
theorem dc_I_faultOfWays_15 : decode bc_I_faultOfWays 15 = .ok (.ifCond .ne 7, 3) := by decide +kernel
theorem dc_I_faultOfWays_22 : decode bc_I_faultOfWays 22 = .ok (.iconst 0, 1) := by decide +kernel
theorem dc_I_faultOfWays_23 : decode bc_I_faultOfWays 23 = .ok (.istore_n 2, 1) := by decide +kernel
theorem dc_I_faultOfWays_24 : decode bc_I_faultOfWays 24 = .ok (.aload_n 0, 1) := by decide +kernel
theorem dc_I_faultOfWays_25 : decode bc_I_faultOfWays 25 = .ok (.getfield 25, 3) := by decide +kernel
theorem dc_I_faultOfWays_28 : decode bc_I_faultOfWays 28 = .ok (.iload_n 1, 1) := by decide +kernel
theorem dc_I_faultOfWays_29 : decode bc_I_faultOfWays 29 = .ok (.invokevirtual 109, 3) := by decide +kernel
theorem dc_I_faultOfWays_32 : decode bc_I_faultOfWays 32 = .ok (.aload_n 0, 1) := by decide +kernel
theorem dc_I_faultOfWays_33 : decode bc_I_faultOfWays 33 = .ok (.getfield 9, 3) := by decide +kernel
theorem dc_I_faultOfWays_36 : decode bc_I_faultOfWays 36 = .ok (.iload_n 1, 1) := by decide +kernel
theorem dc_I_faultOfWays_37 : decode bc_I_faultOfWays 37 = .ok (.iaload, 1) := by decide +kernel
theorem dc_I_faultOfWays_38 : decode bc_I_faultOfWays 38 = .ok (.if_icmp .ne 13, 3) := by decide +kernel
theorem dc_I_faultOfWays_51 : decode bc_I_faultOfWays 51 = .ok (.iload_n 1, 1) := by decide +kernel
theorem dc_I_faultOfWays_52 : decode bc_I_faultOfWays 52 = .ok (.ireturn, 1) := by decide +kernel
theorem dc_I_faultOfWays_41 : decode bc_I_faultOfWays 41 = .ok (.aload_n 0, 1) := by decide +kernel
theorem dc_I_faultOfWays_42 : decode bc_I_faultOfWays 42 = .ok (.getfield 21, 3) := by decide +kernel
theorem dc_I_faultOfWays_45 : decode bc_I_faultOfWays 45 = .ok (.iload_n 1, 1) := by decide +kernel
theorem dc_I_faultOfWays_46 : decode bc_I_faultOfWays 46 = .ok (.baload, 1) := by decide +kernel
theorem dc_I_faultOfWays_47 : decode bc_I_faultOfWays 47 = .ok (.iload_n 2, 1) := by decide +kernel
theorem dc_I_faultOfWays_48 : decode bc_I_faultOfWays 48 = .ok (.if_icmp .eq 5, 3) := by decide +kernel
theorem dc_I_faultOfWays_53 : decode bc_I_faultOfWays 53 = .ok (.iinc 1 1, 3) := by decide +kernel
theorem dc_I_faultOfWays_56 : decode bc_I_faultOfWays 56 = .ok (.goto (-54), 3) := by decide +kernel
theorem dc_I_faultOfWays_18 : decode bc_I_faultOfWays 18 = .ok (.iconst 1, 1) := by decide +kernel
theorem dc_I_faultOfWays_19 : decode bc_I_faultOfWays 19 = .ok (.goto 4, 3) := by decide +kernel
theorem dc_I_faultOfFree_0 : decode bc_I_faultOfFree 0 = .ok (.aload_n 0, 1) := by decide +kernel
theorem dc_I_faultOfFree_1 : decode bc_I_faultOfFree 1 = .ok (.getfield 25, 3) := by decide +kernel
theorem dc_I_faultOfFree_4 : decode bc_I_faultOfFree 4 = .ok (.invokevirtual 103, 3) := by decide +kernel
theorem dc_I_faultOfFree_7 : decode bc_I_faultOfFree 7 = .ok (.istore_n 1, 1) := by decide +kernel
theorem dc_I_faultOfFree_8 : decode bc_I_faultOfFree 8 = .ok (.iload_n 1, 1) := by decide +kernel
theorem dc_I_faultOfFree_9 : decode bc_I_faultOfFree 9 = .ok (.ifCond .lt 10, 3) := by decide +kernel
theorem dc_I_faultOfFree_19 : decode bc_I_faultOfFree 19 = .ok (.sipush 1218, 3) := by decide +kernel
theorem dc_I_faultOfFree_22 : decode bc_I_faultOfFree 22 = .ok (.ireturn, 1) := by decide +kernel
theorem dc_I_faultOfFree_12 : decode bc_I_faultOfFree 12 = .ok (.iload_n 1, 1) := by decide +kernel
theorem dc_I_faultOfFree_13 : decode bc_I_faultOfFree 13 = .ok (.sipush 1200, 3) := by decide +kernel
theorem dc_I_faultOfFree_16 : decode bc_I_faultOfFree 16 = .ok (.if_icmp .le 7, 3) := by decide +kernel
theorem dc_I_faultOfFree_23 : decode bc_I_faultOfFree 23 = .ok (.iconst 0, 1) := by decide +kernel
theorem dc_I_faultOfFree_24 : decode bc_I_faultOfFree 24 = .ok (.istore_n 2, 1) := by decide +kernel
theorem dc_I_faultOfFree_25 : decode bc_I_faultOfFree 25 = .ok (.iload_n 2, 1) := by decide +kernel
theorem dc_I_faultOfFree_26 : decode bc_I_faultOfFree 26 = .ok (.iload_n 1, 1) := by decide +kernel
theorem dc_I_faultOfFree_27 : decode bc_I_faultOfFree 27 = .ok (.if_icmp .ge 49, 3) := by decide +kernel
theorem dc_I_faultOfFree_76 : decode bc_I_faultOfFree 76 = .ok (.iconst 0, 1) := by decide +kernel
theorem dc_I_faultOfFree_77 : decode bc_I_faultOfFree 77 = .ok (.ireturn, 1) := by decide +kernel
theorem dc_I_faultOfFree_30 : decode bc_I_faultOfFree 30 = .ok (.aload_n 0, 1) := by decide +kernel
theorem dc_I_faultOfFree_31 : decode bc_I_faultOfFree 31 = .ok (.getfield 25, 3) := by decide +kernel
theorem dc_I_faultOfFree_34 : decode bc_I_faultOfFree 34 = .ok (.iload_n 2, 1) := by decide +kernel
theorem dc_I_faultOfFree_35 : decode bc_I_faultOfFree 35 = .ok (.invokevirtual 106, 3) := by decide +kernel
theorem dc_I_faultOfFree_38 : decode bc_I_faultOfFree 38 = .ok (.istore_n 3, 1) := by decide +kernel
theorem dc_I_faultOfFree_39 : decode bc_I_faultOfFree 39 = .ok (.aload_n 0, 1) := by decide +kernel
theorem dc_I_faultOfFree_40 : decode bc_I_faultOfFree 40 = .ok (.getfield 25, 3) := by decide +kernel
theorem dc_I_faultOfFree_43 : decode bc_I_faultOfFree 43 = .ok (.iload_n 3, 1) := by decide +kernel
theorem dc_I_faultOfFree_44 : decode bc_I_faultOfFree 44 = .ok (.invokevirtual 66, 3) := by decide +kernel
theorem dc_I_faultOfFree_47 : decode bc_I_faultOfFree 47 = .ok (.ifCond .eq 12, 3) := by decide +kernel
theorem dc_I_faultOfFree_59 : decode bc_I_faultOfFree 59 = .ok (.sipush 1218, 3) := by decide +kernel
theorem dc_I_faultOfFree_62 : decode bc_I_faultOfFree 62 = .ok (.ireturn, 1) := by decide +kernel
theorem dc_I_faultOfFree_50 : decode bc_I_faultOfFree 50 = .ok (.aload_n 0, 1) := by decide +kernel
theorem dc_I_faultOfFree_51 : decode bc_I_faultOfFree 51 = .ok (.getfield 21, 3) := by decide +kernel
theorem dc_I_faultOfFree_54 : decode bc_I_faultOfFree 54 = .ok (.iload_n 3, 1) := by decide +kernel
theorem dc_I_faultOfFree_55 : decode bc_I_faultOfFree 55 = .ok (.baload, 1) := by decide +kernel
end
section
theorem dc_I_faultOfFree_56 : decode bc_I_faultOfFree 56 = .ok (.ifCond .eq 7, 3) := by decide +kernel
theorem dc_I_faultOfFree_63 : decode bc_I_faultOfFree 63 = .ok (.aload_n 0, 1) := by decide +kernel
theorem dc_I_faultOfFree_64 : decode bc_I_faultOfFree 64 = .ok (.getfield 21, 3) := by decide +kernel
theorem dc_I_faultOfFree_67 : decode bc_I_faultOfFree 67 = .ok (.iload_n 3, 1) := by decide +kernel
theorem dc_I_faultOfFree_68 : decode bc_I_faultOfFree 68 = .ok (.iconst 1, 1) := by decide +kernel
theorem dc_I_faultOfFree_69 : decode bc_I_faultOfFree 69 = .ok (.bastore, 1) := by decide +kernel
theorem dc_I_faultOfFree_70 : decode bc_I_faultOfFree 70 = .ok (.iinc 2 1, 3) := by decide +kernel
theorem dc_I_faultOfFree_73 : decode bc_I_faultOfFree 73 = .ok (.goto (-48), 3) := by decide +kernel
theorem dc_B_freeCount_0 : decode bc_B_freeCount 0 = .ok (.aload_n 0, 1) := by decide +kernel
theorem dc_B_freeCount_1 : decode bc_B_freeCount 1 = .ok (.getfield 24, 3) := by decide +kernel
theorem dc_B_freeCount_4 : decode bc_B_freeCount 4 = .ok (.ireturn, 1) := by decide +kernel
theorem dc_B_freeBlock_0 : decode bc_B_freeBlock 0 = .ok (.iload_n 1, 1) := by decide +kernel
theorem dc_B_freeBlock_1 : decode bc_B_freeBlock 1 = .ok (.ifCond .lt 27, 3) := by decide +kernel
theorem dc_B_freeBlock_28 : decode bc_B_freeBlock 28 = .ok (.iconst 0, 1) := by decide +kernel
theorem dc_B_freeBlock_29 : decode bc_B_freeBlock 29 = .ok (.ireturn, 1) := by decide +kernel
theorem dc_B_freeBlock_4 : decode bc_B_freeBlock 4 = .ok (.iload_n 1, 1) := by decide +kernel
theorem dc_B_freeBlock_5 : decode bc_B_freeBlock 5 = .ok (.aload_n 0, 1) := by decide +kernel
theorem dc_B_freeBlock_6 : decode bc_B_freeBlock 6 = .ok (.getfield 24, 3) := by decide +kernel
theorem dc_B_freeBlock_9 : decode bc_B_freeBlock 9 = .ok (.if_icmp .ge 19, 3) := by decide +kernel
theorem dc_B_freeBlock_12 : decode bc_B_freeBlock 12 = .ok (.iload_n 1, 1) := by decide +kernel
theorem dc_B_freeBlock_13 : decode bc_B_freeBlock 13 = .ok (.sipush 1200, 3) := by decide +kernel
theorem dc_B_freeBlock_16 : decode bc_B_freeBlock 16 = .ok (.if_icmp .ge 12, 3) := by decide +kernel
theorem dc_B_freeBlock_19 : decode bc_B_freeBlock 19 = .ok (.aload_n 0, 1) := by decide +kernel
theorem dc_B_freeBlock_20 : decode bc_B_freeBlock 20 = .ok (.getfield 21, 3) := by decide +kernel
theorem dc_B_freeBlock_23 : decode bc_B_freeBlock 23 = .ok (.iload_n 1, 1) := by decide +kernel
theorem dc_B_freeBlock_24 : decode bc_B_freeBlock 24 = .ok (.iaload, 1) := by decide +kernel
theorem dc_B_freeBlock_25 : decode bc_B_freeBlock 25 = .ok (.goto 4, 3) := by decide +kernel
theorem dc_R_check_0 : decode bc_R_check 0 = .ok (.iconst 0, 1) := by decide +kernel
theorem dc_R_check_1 : decode bc_R_check 1 = .ok (.ireturn, 1) := by decide +kernel
end
section
def Wk_ : List Cond := [.code yn_S_isMap bc_S_isMap 1 (some .boolean),
  .methodLink Rn_S 53 yn_S_isMap,
  .static yn_S_isMap,
  .initialized Rn_S,
  .code yn_S_isKey bc_S_isKey 1 (some .boolean),
  .methodLink Rn_S 57 yn_S_isKey,
  .static yn_S_isKey,
  .constant Rn_S 103 1000000000,
  .code yn_S_isStamp bc_S_isStamp 1 (some .boolean),
  .methodLink Rn_S 60 yn_S_isStamp,
  .static yn_S_isStamp,
  .fieldLink Rn_S 32 "SharedTrees" "trees" "LSharedTrees$Trees;",
  .fieldLink Rn_S 46 "SharedTrees" "now" "LSharedTrees$Maps;",
  .fieldLink Rn_T 9 "SharedTrees$Trees" "blocks" "LSharedTrees$Blocks;",
  .code yn_B_isBlock bc_B_isBlock 2 (some .boolean),
  .methodLink Rn_B 37 yn_B_isBlock,
  .instanceMethod yn_B_isBlock,
  .selects Rn_B yn_B_isBlock yn_B_isBlock,
  .initialized Rn_B,
  .fieldLink Rn_B 15 "SharedTrees$Blocks" "levels" "[I",
  .code yn_B_level bc_B_level 2 (some .int),
  .methodLink Rn_T 26 yn_B_level,
  .instanceMethod yn_B_level,
  .selects Rn_B yn_B_level yn_B_level,
  .fieldLink Rn_B 28 "SharedTrees$Blocks" "width" "I",
  .fieldLink Rn_B 18 "SharedTrees$Blocks" "sizes" "[I",
  .code yn_B_size bc_B_size 2 (some .int),
  .methodLink Rn_B 45 yn_B_size,
  .instanceMethod yn_B_size,
  .selects Rn_B yn_B_size yn_B_size,
  .methodLink Rn_B 49 Lib.Math.min.name,
  .static Lib.Math.min.name,
  .initialized "java/lang/Math",
  .code Lib.Math.min.name Lib.Math.min.code 2 (some .int),
  .fieldLink Rn_B 31 "SharedTrees$Blocks" "entryKeys" "[I",
  .code yn_B_slotOf bc_B_slotOf 6 (some .int),
  .methodLink Rn_T 38 yn_B_slotOf,
  .instanceMethod yn_B_slotOf,
  .selects Rn_B yn_B_slotOf yn_B_slotOf,
  .code yn_B_isEntry bc_B_isEntry 3 (some .boolean),
  .methodLink Rn_B 41 yn_B_isEntry,
  .instanceMethod yn_B_isEntry,
  .selects Rn_B yn_B_isEntry yn_B_isEntry,
  .code yn_B_key bc_B_key 3 (some .int),
  .methodLink Rn_T 41 yn_B_key,
  .instanceMethod yn_B_key,
  .selects Rn_B yn_B_key yn_B_key,
  .fieldLink Rn_B 34 "SharedTrees$Blocks" "entryGoals" "[I",
  .code yn_B_goal bc_B_goal 3 (some .int),
  .methodLink Rn_T 35 yn_B_goal,
  .instanceMethod yn_B_goal,
  .selects Rn_B yn_B_goal yn_B_goal,
  .methodLink Rn_T 51 Lib.Math.max.name,
  .static Lib.Math.max.name,
  .code Lib.Math.max.name Lib.Math.max.code 2 (some .int),
  .code yn_T_slotToward bc_T_slotToward 3 (some .int),
  .methodLink Rn_T 31 yn_T_slotToward,
  .instanceMethod yn_T_slotToward,
  .selects Rn_T yn_T_slotToward yn_T_slotToward,
  .initialized Rn_T,
  .code yn_T_stampOf bc_T_stampOf 5 (some .int),
  .methodLink Rn_S 67 yn_T_stampOf,
  .instanceMethod yn_T_stampOf,
  .selects Rn_T yn_T_stampOf yn_T_stampOf,
  .fieldLink Rn_B 9 "SharedTrees$Blocks" "ways" "[I",
  .code yn_B_ways bc_B_ways 2 (some .int),
  .methodLink Rn_B 55 yn_B_ways,
  .instanceMethod yn_B_ways,
  .selects Rn_B yn_B_ways yn_B_ways,
  .methodLink Rn_B 57 yn_B_level,
  .fieldLink Rn_B 24 "SharedTrees$Blocks" "freeCount" "I",
  .fieldLink Rn_B 21 "SharedTrees$Blocks" "free" "[I",
  .code yn_B_take bc_B_take 3 (some .int),
  .methodLink Rn_B 60 yn_B_take,
  .instanceMethod yn_B_take,
  .selects Rn_B yn_B_take yn_B_take,
  .code yn_B_lose bc_B_lose 2 (some .boolean),
  .methodLink Rn_B 77 yn_B_lose,
  .instanceMethod yn_B_lose,
  .selects Rn_B yn_B_lose yn_B_lose,
  .methodLink Rn_B 63 yn_B_key,
  .methodLink Rn_B 66 yn_B_goal,
  .methodLink Rn_B 80 arraycopyName,
  .native arraycopyName,
  .static arraycopyName,
  .initialized "java/lang/System",
  .code yn_B_insert bc_B_insert 7 none,
  .methodLink Rn_B 69 yn_B_insert,
  .instanceMethod yn_B_insert,
  .selects Rn_B yn_B_insert yn_B_insert,
  .code yn_B_share bc_B_share 2 none,
  .methodLink Rn_B 73 yn_B_share,
  .instanceMethod yn_B_share,
  .selects Rn_B yn_B_share yn_B_share,
  .code yn_B_owned bc_B_owned 4 (some .int),
  .methodLink Rn_T 59 yn_B_owned,
  .instanceMethod yn_B_owned,
  .selects Rn_B yn_B_owned yn_B_owned,
  .code yn_B_setGoal bc_B_setGoal 4 none,
  .methodLink Rn_T 83 yn_B_setGoal,
  .instanceMethod yn_B_setGoal,
  .selects Rn_B yn_B_setGoal yn_B_setGoal,
  .code yn_T_ownedChild bc_T_ownedChild 4 (some .int),
  .methodLink Rn_T 73 yn_T_ownedChild,
  .instanceMethod yn_T_ownedChild,
  .selects Rn_T yn_T_ownedChild yn_T_ownedChild,
  .code yn_T_putBelow bc_T_putBelow 7 none,
  .methodLink Rn_T 62 yn_T_putBelow,
  .instanceMethod yn_T_putBelow,
  .selects Rn_T yn_T_putBelow yn_T_putBelow,
  .code yn_B_setKey bc_B_setKey 4 none,
  .methodLink Rn_T 76 yn_B_setKey,
  .instanceMethod yn_B_setKey,
  .selects Rn_B yn_B_setKey yn_B_setKey,
  .methodLink Rn_T 48 yn_B_size,
  .fieldLink Rn_T 15 "SharedTrees$Trees" "most" "I",
  .methodLink Rn_T 56 yn_B_take,
  .fieldLink Rn_T 23 "SharedTrees$Trees" "least" "I",
  .code yn_B_moveTail bc_B_moveTail 5 none,
  .methodLink Rn_T 89 yn_B_moveTail,
  .instanceMethod yn_B_moveTail,
  .selects Rn_B yn_B_moveTail yn_B_moveTail,
  .methodLink Rn_T 86 yn_B_insert,
  .code yn_T_split bc_T_split 5 none,
  .methodLink Rn_T 79 yn_T_split,
  .instanceMethod yn_T_split,
  .selects Rn_T yn_T_split yn_T_split,
  .code yn_T_putInLeaf bc_T_putInLeaf 5 none,
  .methodLink Rn_T 69 yn_T_putInLeaf,
  .instanceMethod yn_T_putInLeaf,
  .selects Rn_T yn_T_putInLeaf yn_T_putInLeaf,
  .code yn_T_grown bc_T_grown 3 (some .int),
  .methodLink Rn_T 66 yn_T_grown,
  .instanceMethod yn_T_grown,
  .selects Rn_T yn_T_grown yn_T_grown,
  .code yn_T_with bc_T_with 5 (some .int),
  .methodLink Rn_S 74 yn_T_with,
  .instanceMethod yn_T_with,
  .selects Rn_T yn_T_with yn_T_with,
  .code yn_S_write bc_S_write 5 (some .int),
  .code yn_R_isMap bc_R_isMap 1 (some .boolean),
  .methodLink Rn_R 24 yn_R_isMap,
  .static yn_R_isMap,
  .initialized Rn_R,
  .code yn_R_isKey bc_R_isKey 1 (some .boolean),
  .methodLink Rn_R 28 yn_R_isKey,
  .static yn_R_isKey,
  .constant Rn_R 23 1000000000,
  .code yn_R_isStamp bc_R_isStamp 1 (some .boolean),
  .methodLink Rn_R 31 yn_R_isStamp,
  .static yn_R_isStamp,
  .fieldLink Rn_R 8 "SharedTreesModel" "stamps" "[I",
  .fieldLink Rn_R 17 "SharedTreesModel" "counts" "[I",
  .code yn_R_all bc_R_all 3 (some .int),
  .methodLink Rn_R 34 yn_R_all,
  .instanceMethod yn_R_all,
  .selects Rn_R yn_R_all yn_R_all,
  .code yn_R_write bc_R_write 5 (some .int),
  .methodLink Rn_S 81 yn_S_write,
  .instanceMethod yn_S_write,
  .selects Rn_S yn_S_write yn_S_write,
  .code yn_S_spread bc_S_spread 7 (some .int),
  .methodLink Rn_R 38 yn_R_write,
  .instanceMethod yn_R_write,
  .selects Rn_R yn_R_write yn_R_write,
  .code yn_R_spread bc_R_spread 7 (some .int),
  .code yn_S_read bc_S_read 3 (some .int),
  .code yn_R_read bc_R_read 4 (some .int),
  .code yn_T_removeBelow bc_T_removeBelow 6 none,
  .methodLink Rn_T 92 yn_T_removeBelow,
  .instanceMethod yn_T_removeBelow,
  .selects Rn_T yn_T_removeBelow yn_T_removeBelow,
  .code yn_B_remove bc_B_remove 5 none,
  .methodLink Rn_T 98 yn_B_remove,
  .instanceMethod yn_B_remove,
  .selects Rn_B yn_B_remove yn_B_remove,
  .code yn_T_moveEntry bc_T_moveEntry 5 none,
  .methodLink Rn_T 108 yn_T_moveEntry,
  .instanceMethod yn_T_moveEntry,
  .selects Rn_T yn_T_moveEntry yn_T_moveEntry,
  .code yn_B_give bc_B_give 2 none,
  .methodLink Rn_T 104 yn_B_give,
  .instanceMethod yn_B_give,
  .selects Rn_B yn_B_give yn_B_give,
  .code yn_T_fill bc_T_fill 5 none,
  .methodLink Rn_T 101 yn_T_fill,
  .instanceMethod yn_T_fill,
  .selects Rn_T yn_T_fill yn_T_fill,
  .code yn_T_shrunk bc_T_shrunk 3 (some .int),
  .methodLink Rn_T 95 yn_T_shrunk,
  .instanceMethod yn_T_shrunk,
  .selects Rn_T yn_T_shrunk yn_T_shrunk,
  .code yn_T_without bc_T_without 4 (some .int),
  .methodLink Rn_S 104 yn_T_without,
  .instanceMethod yn_T_without,
  .selects Rn_T yn_T_without yn_T_without,
  .code yn_S_removeKey bc_S_removeKey 3 none,
  .methodLink Rn_S 84 yn_S_removeKey,
  .instanceMethod yn_S_removeKey,
  .selects Rn_S yn_S_removeKey yn_S_removeKey,
  .code yn_S_erase bc_S_erase 4 (some .int),
  .methodLink Rn_R 42 yn_R_read,
  .instanceMethod yn_R_read,
  .selects Rn_R yn_R_read yn_R_read,
  .code yn_R_erase bc_R_erase 4 (some .int),
  .code yn_T_keyOr bc_T_keyOr 4 (some .int),
  .methodLink Rn_T 44 yn_T_keyOr,
  .instanceMethod yn_T_keyOr,
  .selects Rn_T yn_T_keyOr yn_T_keyOr,
  .code yn_T_keyFrom bc_T_keyFrom 7 (some .int),
  .methodLink Rn_S 88 yn_T_keyFrom,
  .instanceMethod yn_T_keyFrom,
  .selects Rn_T yn_T_keyFrom yn_T_keyFrom,
  .code yn_S_cut bc_S_cut 6 (some .int),
  .methodLink Rn_R 46 yn_R_erase,
  .instanceMethod yn_R_erase,
  .selects Rn_R yn_R_erase yn_R_erase,
  .code yn_R_cut bc_R_cut 6 (some .int),
  .code yn_S_next bc_S_next 3 (some .int),
  .code yn_R_next bc_R_next 4 (some .int),
  .fieldLink Rn_S 23 "SharedTrees" "blocks" "LSharedTrees$Blocks;",
  .methodLink Rn_S 107 yn_B_share,
  .methodLink Rn_T 114 yn_B_lose,
  .code yn_T_releaseBelow bc_T_releaseBelow 4 none,
  .methodLink Rn_T 111 yn_T_releaseBelow,
  .instanceMethod yn_T_releaseBelow,
  .selects Rn_T yn_T_releaseBelow yn_T_releaseBelow,
  .code yn_T_release bc_T_release 2 none,
  .methodLink Rn_S 110 yn_T_release,
  .instanceMethod yn_T_release,
  .selects Rn_T yn_T_release yn_T_release,
  .code yn_S_lead bc_S_lead 5 none,
  .methodLink Rn_S 91 yn_S_lead,
  .instanceMethod yn_S_lead,
  .selects Rn_S yn_S_lead yn_S_lead,
  .code yn_S_clone bc_S_clone 3 (some .int),
  .code yn_R_clone bc_R_clone 4 (some .int),
  .code yn_S_drop bc_S_drop 3 (some .int),
  .methodLink Rn_R 49 yn_R_cut,
  .instanceMethod yn_R_cut,
  .selects Rn_R yn_R_cut yn_R_cut,
  .code yn_R_drop bc_R_drop 3 (some .int),
  .fieldLink Rn_S 50 "SharedTrees" "kept" "LSharedTrees$Maps;",
  .code yn_S_leadAll bc_S_leadAll 4 none,
  .methodLink Rn_S 95 yn_S_leadAll,
  .instanceMethod yn_S_leadAll,
  .selects Rn_S yn_S_leadAll yn_S_leadAll,
  .code yn_S_keep bc_S_keep 1 (some .int),
  .constant Rn_R 7 32768,
  .fieldLink Rn_R 20 "SharedTreesModel" "keptCounts" "[I",
  .fieldLink Rn_R 14 "SharedTreesModel" "kept" "[I",
  .code yn_R_keep bc_R_keep 2 (some .int),
  .code yn_S_back bc_S_back 1 (some .int),
  .code yn_R_back bc_R_back 2 (some .int),
  .code yn_S_keys bc_S_keys 2 (some .int),
  .code yn_R_keys bc_R_keys 2 (some .int),
  .fieldLink Rn_S 39 "SharedTrees" "inspection" "LSharedTrees$Inspection;",
  .fieldLink Rn_I 25 "SharedTrees$Inspection" "blocks" "LSharedTrees$Blocks;",
  .methodLink Rn_I 66 yn_B_isBlock,
  .methodLink Rn_I 72 yn_B_level,
  .methodLink Rn_I 75 yn_B_size,
  .fieldLink Rn_I 9 "SharedTrees$Inspection" "found" "[I",
  .fieldLink Rn_I 29 "SharedTrees$Inspection" "most" "I",
  .methodLink Rn_I 91 yn_B_key,
  .code yn_I_hasOrder bc_I_hasOrder 4 (some .boolean),
  .methodLink Rn_I 82 yn_I_hasOrder,
  .instanceMethod yn_I_hasOrder,
  .selects Rn_I yn_I_hasOrder yn_I_hasOrder,
  .initialized Rn_I,
  .fieldLink Rn_I 15 "SharedTrees$Inspection" "keysBelow" "[I",
  .fieldLink Rn_I 18 "SharedTrees$Inspection" "lastKeys" "[I",
  .methodLink Rn_I 97 yn_B_goal,
  .fieldLink Rn_I 37 "SharedTrees$Inspection" "least" "I",
  .code yn_I_faultBelow bc_I_faultBelow 3 (some .int),
  .methodLink Rn_I 78 yn_I_faultBelow,
  .instanceMethod yn_I_faultBelow,
  .selects Rn_I yn_I_faultBelow yn_I_faultBelow,
  .code yn_I_faultOfNode bc_I_faultOfNode 10 (some .int),
  .methodLink Rn_I 88 yn_I_faultOfNode,
  .instanceMethod yn_I_faultOfNode,
  .selects Rn_I yn_I_faultOfNode yn_I_faultOfNode,
  .code yn_I_faultOfLeaf bc_I_faultOfLeaf 4 (some .int),
  .methodLink Rn_I 85 yn_I_faultOfLeaf,
  .instanceMethod yn_I_faultOfLeaf,
  .selects Rn_I yn_I_faultOfLeaf yn_I_faultOfLeaf,
  .code yn_I_faultOfTree bc_I_faultOfTree 6 (some .int),
  .methodLink Rn_I 59 yn_I_faultOfTree,
  .instanceMethod yn_I_faultOfTree,
  .selects Rn_I yn_I_faultOfTree yn_I_faultOfTree,
  .code yn_I_faultOfMaps bc_I_faultOfMaps 6 (some .int),
  .methodLink Rn_I 40 yn_I_faultOfMaps,
  .instanceMethod yn_I_faultOfMaps,
  .selects Rn_I yn_I_faultOfMaps yn_I_faultOfMaps,
  .methodLink Rn_I 109 yn_B_ways,
  .fieldLink Rn_I 21 "SharedTrees$Inspection" "listed" "[Z",
  .code yn_I_faultOfWays bc_I_faultOfWays 3 (some .int),
  .methodLink Rn_I 48 yn_I_faultOfWays,
  .instanceMethod yn_I_faultOfWays,
  .selects Rn_I yn_I_faultOfWays yn_I_faultOfWays,
  .code yn_B_freeCount bc_B_freeCount 1 (some .int),
  .methodLink Rn_I 103 yn_B_freeCount,
  .instanceMethod yn_B_freeCount,
  .selects Rn_B yn_B_freeCount yn_B_freeCount,
  .code yn_B_freeBlock bc_B_freeBlock 2 (some .int),
  .methodLink Rn_I 106 yn_B_freeBlock,
  .instanceMethod yn_B_freeBlock,
  .selects Rn_B yn_B_freeBlock yn_B_freeBlock,
  .code yn_I_faultOfFree bc_I_faultOfFree 4 (some .int),
  .methodLink Rn_I 44 yn_I_faultOfFree,
  .instanceMethod yn_I_faultOfFree,
  .selects Rn_I yn_I_faultOfFree yn_I_faultOfFree,
  .code yn_I_firstFault bc_I_firstFault 4 (some .int),
  .methodLink Rn_S 99 yn_I_firstFault,
  .instanceMethod yn_I_firstFault,
  .selects Rn_I yn_I_firstFault yn_I_firstFault,
  .code yn_S_check bc_S_check 1 (some .int),
  .code yn_R_check bc_R_check 1 (some .int),
  .laysFinal Rn_S "SharedTrees" "blocks" "LSharedTrees$Blocks;",
  .laysFinal Rn_S "SharedTrees" "trees" "LSharedTrees$Trees;",
  .laysFinal Rn_S "SharedTrees" "inspection" "LSharedTrees$Inspection;",
  .laysFinal Rn_S "SharedTrees" "now" "LSharedTrees$Maps;",
  .laysFinal Rn_S "SharedTrees" "kept" "LSharedTrees$Maps;",
  .laysFinal Rn_B "SharedTrees$Blocks" "width" "I",
  .laysFinal Rn_B "SharedTrees$Blocks" "ways" "[I",
  .laysFinal Rn_B "SharedTrees$Blocks" "levels" "[I",
  .laysFinal Rn_B "SharedTrees$Blocks" "sizes" "[I",
  .laysFinal Rn_B "SharedTrees$Blocks" "entryKeys" "[I",
  .laysFinal Rn_B "SharedTrees$Blocks" "entryGoals" "[I",
  .laysFinal Rn_B "SharedTrees$Blocks" "free" "[I",
  .lays Rn_B "SharedTrees$Blocks" "freeCount" "I",
  .laysFinal Rn_T "SharedTrees$Trees" "blocks" "LSharedTrees$Blocks;",
  .laysFinal Rn_T "SharedTrees$Trees" "most" "I",
  .laysFinal Rn_T "SharedTrees$Trees" "least" "I",
  .laysFinal Rn_I "SharedTrees$Inspection" "blocks" "LSharedTrees$Blocks;",
  .laysFinal Rn_I "SharedTrees$Inspection" "most" "I",
  .laysFinal Rn_I "SharedTrees$Inspection" "least" "I",
  .laysFinal Rn_I "SharedTrees$Inspection" "found" "[I",
  .laysFinal Rn_I "SharedTrees$Inspection" "keysBelow" "[I",
  .laysFinal Rn_I "SharedTrees$Inspection" "lastKeys" "[I",
  .laysFinal Rn_I "SharedTrees$Inspection" "listed" "[Z",
  .laysFinal Rn_P "SharedTrees$Maps" "roots" "[I",
  .laysFinal Rn_P "SharedTrees$Maps" "counts" "[I",
  .lays Rn_P "SharedTrees$Maps" "total" "I",
  .laysFinal Rn_R "SharedTreesModel" "stamps" "[I",
  .laysFinal Rn_R "SharedTreesModel" "kept" "[I",
  .laysFinal Rn_R "SharedTreesModel" "counts" "[I",
  .laysFinal Rn_R "SharedTreesModel" "keptCounts" "[I"]
theorem wk_g : Wk_.all (fun w => w.onTables && w.keeps) = true := by decide +kernel
theorem wk_good : ∀ w ∈ Wk_, (w.onTables && w.keeps) = true ∨ ∃ ty, w = .arrayClass ty := fun w hw => Or.inl (List.all_eq_true.mp wk_g w hw)
theorem mw_0 : (Cond.code yn_S_isMap bc_S_isMap 1 (some .boolean) : Cond) ∈ Wk_ := List.mem_of_getElem? (i := 0) rfl
theorem mw_1 : (Cond.methodLink Rn_S 53 yn_S_isMap : Cond) ∈ Wk_ := List.mem_of_getElem? (i := 1) rfl
theorem mw_2 : (Cond.static yn_S_isMap : Cond) ∈ Wk_ := List.mem_of_getElem? (i := 2) rfl
theorem mw_3 : (Cond.initialized Rn_S : Cond) ∈ Wk_ := List.mem_of_getElem? (i := 3) rfl
theorem mw_4 : (Cond.code yn_S_isKey bc_S_isKey 1 (some .boolean) : Cond) ∈ Wk_ := List.mem_of_getElem? (i := 4) rfl
theorem mw_5 : (Cond.methodLink Rn_S 57 yn_S_isKey : Cond) ∈ Wk_ := List.mem_of_getElem? (i := 5) rfl
theorem mw_6 : (Cond.static yn_S_isKey : Cond) ∈ Wk_ := List.mem_of_getElem? (i := 6) rfl
theorem mw_7 : (Cond.constant Rn_S 103 1000000000 : Cond) ∈ Wk_ := List.mem_of_getElem? (i := 7) rfl
theorem mw_8 : (Cond.code yn_S_isStamp bc_S_isStamp 1 (some .boolean) : Cond) ∈ Wk_ := List.mem_of_getElem? (i := 8) rfl
theorem mw_9 : (Cond.methodLink Rn_S 60 yn_S_isStamp : Cond) ∈ Wk_ := List.mem_of_getElem? (i := 9) rfl
theorem mw_10 : (Cond.static yn_S_isStamp : Cond) ∈ Wk_ := List.mem_of_getElem? (i := 10) rfl
theorem mw_11 : (Cond.fieldLink Rn_S 32 "SharedTrees" "trees" "LSharedTrees$Trees;" : Cond) ∈ Wk_ := List.mem_of_getElem? (i := 11) rfl
theorem mw_12 : (Cond.fieldLink Rn_S 46 "SharedTrees" "now" "LSharedTrees$Maps;" : Cond) ∈ Wk_ := List.mem_of_getElem? (i := 12) rfl
theorem mw_13 : (Cond.fieldLink Rn_T 9 "SharedTrees$Trees" "blocks" "LSharedTrees$Blocks;" : Cond) ∈ Wk_ := List.mem_of_getElem? (i := 13) rfl
theorem mw_14 : (Cond.code yn_B_isBlock bc_B_isBlock 2 (some .boolean) : Cond) ∈ Wk_ := List.mem_of_getElem? (i := 14) rfl
theorem mw_15 : (Cond.methodLink Rn_B 37 yn_B_isBlock : Cond) ∈ Wk_ := List.mem_of_getElem? (i := 15) rfl
theorem mw_16 : (Cond.instanceMethod yn_B_isBlock : Cond) ∈ Wk_ := List.mem_of_getElem? (i := 16) rfl
theorem mw_17 : (Cond.selects Rn_B yn_B_isBlock yn_B_isBlock : Cond) ∈ Wk_ := List.mem_of_getElem? (i := 17) rfl
theorem mw_18 : (Cond.initialized Rn_B : Cond) ∈ Wk_ := List.mem_of_getElem? (i := 18) rfl
theorem mw_19 : (Cond.fieldLink Rn_B 15 "SharedTrees$Blocks" "levels" "[I" : Cond) ∈ Wk_ := List.mem_of_getElem? (i := 19) rfl
theorem mw_20 : (Cond.code yn_B_level bc_B_level 2 (some .int) : Cond) ∈ Wk_ := List.mem_of_getElem? (i := 20) rfl
theorem mw_21 : (Cond.methodLink Rn_T 26 yn_B_level : Cond) ∈ Wk_ := List.mem_of_getElem? (i := 21) rfl
theorem mw_22 : (Cond.instanceMethod yn_B_level : Cond) ∈ Wk_ := List.mem_of_getElem? (i := 22) rfl
theorem mw_23 : (Cond.selects Rn_B yn_B_level yn_B_level : Cond) ∈ Wk_ := List.mem_of_getElem? (i := 23) rfl
theorem mw_24 : (Cond.fieldLink Rn_B 28 "SharedTrees$Blocks" "width" "I" : Cond) ∈ Wk_ := List.mem_of_getElem? (i := 24) rfl
theorem mw_25 : (Cond.fieldLink Rn_B 18 "SharedTrees$Blocks" "sizes" "[I" : Cond) ∈ Wk_ := List.mem_of_getElem? (i := 25) rfl
theorem mw_26 : (Cond.code yn_B_size bc_B_size 2 (some .int) : Cond) ∈ Wk_ := List.mem_of_getElem? (i := 26) rfl
theorem mw_27 : (Cond.methodLink Rn_B 45 yn_B_size : Cond) ∈ Wk_ := List.mem_of_getElem? (i := 27) rfl
theorem mw_28 : (Cond.instanceMethod yn_B_size : Cond) ∈ Wk_ := List.mem_of_getElem? (i := 28) rfl
theorem mw_29 : (Cond.selects Rn_B yn_B_size yn_B_size : Cond) ∈ Wk_ := List.mem_of_getElem? (i := 29) rfl
theorem mw_30 : (Cond.methodLink Rn_B 49 Lib.Math.min.name : Cond) ∈ Wk_ := List.mem_of_getElem? (i := 30) rfl
theorem mw_31 : (Cond.static Lib.Math.min.name : Cond) ∈ Wk_ := List.mem_of_getElem? (i := 31) rfl
theorem mw_32 : (Cond.initialized "java/lang/Math" : Cond) ∈ Wk_ := List.mem_of_getElem? (i := 32) rfl
theorem mw_33 : (Cond.code Lib.Math.min.name Lib.Math.min.code 2 (some .int) : Cond) ∈ Wk_ := List.mem_of_getElem? (i := 33) rfl
theorem mw_34 : (Cond.fieldLink Rn_B 31 "SharedTrees$Blocks" "entryKeys" "[I" : Cond) ∈ Wk_ := List.mem_of_getElem? (i := 34) rfl
theorem mw_35 : (Cond.code yn_B_slotOf bc_B_slotOf 6 (some .int) : Cond) ∈ Wk_ := List.mem_of_getElem? (i := 35) rfl
theorem mw_36 : (Cond.methodLink Rn_T 38 yn_B_slotOf : Cond) ∈ Wk_ := List.mem_of_getElem? (i := 36) rfl
theorem mw_37 : (Cond.instanceMethod yn_B_slotOf : Cond) ∈ Wk_ := List.mem_of_getElem? (i := 37) rfl
theorem mw_38 : (Cond.selects Rn_B yn_B_slotOf yn_B_slotOf : Cond) ∈ Wk_ := List.mem_of_getElem? (i := 38) rfl
theorem mw_39 : (Cond.code yn_B_isEntry bc_B_isEntry 3 (some .boolean) : Cond) ∈ Wk_ := List.mem_of_getElem? (i := 39) rfl
theorem mw_40 : (Cond.methodLink Rn_B 41 yn_B_isEntry : Cond) ∈ Wk_ := List.mem_of_getElem? (i := 40) rfl
theorem mw_41 : (Cond.instanceMethod yn_B_isEntry : Cond) ∈ Wk_ := List.mem_of_getElem? (i := 41) rfl
theorem mw_42 : (Cond.selects Rn_B yn_B_isEntry yn_B_isEntry : Cond) ∈ Wk_ := List.mem_of_getElem? (i := 42) rfl
theorem mw_43 : (Cond.code yn_B_key bc_B_key 3 (some .int) : Cond) ∈ Wk_ := List.mem_of_getElem? (i := 43) rfl
theorem mw_44 : (Cond.methodLink Rn_T 41 yn_B_key : Cond) ∈ Wk_ := List.mem_of_getElem? (i := 44) rfl
theorem mw_45 : (Cond.instanceMethod yn_B_key : Cond) ∈ Wk_ := List.mem_of_getElem? (i := 45) rfl
theorem mw_46 : (Cond.selects Rn_B yn_B_key yn_B_key : Cond) ∈ Wk_ := List.mem_of_getElem? (i := 46) rfl
theorem mw_47 : (Cond.fieldLink Rn_B 34 "SharedTrees$Blocks" "entryGoals" "[I" : Cond) ∈ Wk_ := List.mem_of_getElem? (i := 47) rfl
theorem mw_48 : (Cond.code yn_B_goal bc_B_goal 3 (some .int) : Cond) ∈ Wk_ := List.mem_of_getElem? (i := 48) rfl
theorem mw_49 : (Cond.methodLink Rn_T 35 yn_B_goal : Cond) ∈ Wk_ := List.mem_of_getElem? (i := 49) rfl
theorem mw_50 : (Cond.instanceMethod yn_B_goal : Cond) ∈ Wk_ := List.mem_of_getElem? (i := 50) rfl
theorem mw_51 : (Cond.selects Rn_B yn_B_goal yn_B_goal : Cond) ∈ Wk_ := List.mem_of_getElem? (i := 51) rfl
theorem mw_52 : (Cond.methodLink Rn_T 51 Lib.Math.max.name : Cond) ∈ Wk_ := List.mem_of_getElem? (i := 52) rfl
theorem mw_53 : (Cond.static Lib.Math.max.name : Cond) ∈ Wk_ := List.mem_of_getElem? (i := 53) rfl
theorem mw_54 : (Cond.code Lib.Math.max.name Lib.Math.max.code 2 (some .int) : Cond) ∈ Wk_ := List.mem_of_getElem? (i := 54) rfl
theorem mw_55 : (Cond.code yn_T_slotToward bc_T_slotToward 3 (some .int) : Cond) ∈ Wk_ := List.mem_of_getElem? (i := 55) rfl
theorem mw_56 : (Cond.methodLink Rn_T 31 yn_T_slotToward : Cond) ∈ Wk_ := List.mem_of_getElem? (i := 56) rfl
theorem mw_57 : (Cond.instanceMethod yn_T_slotToward : Cond) ∈ Wk_ := List.mem_of_getElem? (i := 57) rfl
theorem mw_58 : (Cond.selects Rn_T yn_T_slotToward yn_T_slotToward : Cond) ∈ Wk_ := List.mem_of_getElem? (i := 58) rfl
theorem mw_59 : (Cond.initialized Rn_T : Cond) ∈ Wk_ := List.mem_of_getElem? (i := 59) rfl
theorem mw_60 : (Cond.code yn_T_stampOf bc_T_stampOf 5 (some .int) : Cond) ∈ Wk_ := List.mem_of_getElem? (i := 60) rfl
theorem mw_61 : (Cond.methodLink Rn_S 67 yn_T_stampOf : Cond) ∈ Wk_ := List.mem_of_getElem? (i := 61) rfl
theorem mw_62 : (Cond.instanceMethod yn_T_stampOf : Cond) ∈ Wk_ := List.mem_of_getElem? (i := 62) rfl
theorem mw_63 : (Cond.selects Rn_T yn_T_stampOf yn_T_stampOf : Cond) ∈ Wk_ := List.mem_of_getElem? (i := 63) rfl
theorem mw_64 : (Cond.fieldLink Rn_B 9 "SharedTrees$Blocks" "ways" "[I" : Cond) ∈ Wk_ := List.mem_of_getElem? (i := 64) rfl
theorem mw_65 : (Cond.code yn_B_ways bc_B_ways 2 (some .int) : Cond) ∈ Wk_ := List.mem_of_getElem? (i := 65) rfl
theorem mw_66 : (Cond.methodLink Rn_B 55 yn_B_ways : Cond) ∈ Wk_ := List.mem_of_getElem? (i := 66) rfl
theorem mw_67 : (Cond.instanceMethod yn_B_ways : Cond) ∈ Wk_ := List.mem_of_getElem? (i := 67) rfl
theorem mw_68 : (Cond.selects Rn_B yn_B_ways yn_B_ways : Cond) ∈ Wk_ := List.mem_of_getElem? (i := 68) rfl
theorem mw_69 : (Cond.methodLink Rn_B 57 yn_B_level : Cond) ∈ Wk_ := List.mem_of_getElem? (i := 69) rfl
theorem mw_70 : (Cond.fieldLink Rn_B 24 "SharedTrees$Blocks" "freeCount" "I" : Cond) ∈ Wk_ := List.mem_of_getElem? (i := 70) rfl
theorem mw_71 : (Cond.fieldLink Rn_B 21 "SharedTrees$Blocks" "free" "[I" : Cond) ∈ Wk_ := List.mem_of_getElem? (i := 71) rfl
theorem mw_72 : (Cond.code yn_B_take bc_B_take 3 (some .int) : Cond) ∈ Wk_ := List.mem_of_getElem? (i := 72) rfl
theorem mw_73 : (Cond.methodLink Rn_B 60 yn_B_take : Cond) ∈ Wk_ := List.mem_of_getElem? (i := 73) rfl
theorem mw_74 : (Cond.instanceMethod yn_B_take : Cond) ∈ Wk_ := List.mem_of_getElem? (i := 74) rfl
theorem mw_75 : (Cond.selects Rn_B yn_B_take yn_B_take : Cond) ∈ Wk_ := List.mem_of_getElem? (i := 75) rfl
theorem mw_76 : (Cond.code yn_B_lose bc_B_lose 2 (some .boolean) : Cond) ∈ Wk_ := List.mem_of_getElem? (i := 76) rfl
theorem mw_77 : (Cond.methodLink Rn_B 77 yn_B_lose : Cond) ∈ Wk_ := List.mem_of_getElem? (i := 77) rfl
theorem mw_78 : (Cond.instanceMethod yn_B_lose : Cond) ∈ Wk_ := List.mem_of_getElem? (i := 78) rfl
theorem mw_79 : (Cond.selects Rn_B yn_B_lose yn_B_lose : Cond) ∈ Wk_ := List.mem_of_getElem? (i := 79) rfl
theorem mw_80 : (Cond.methodLink Rn_B 63 yn_B_key : Cond) ∈ Wk_ := List.mem_of_getElem? (i := 80) rfl
theorem mw_81 : (Cond.methodLink Rn_B 66 yn_B_goal : Cond) ∈ Wk_ := List.mem_of_getElem? (i := 81) rfl
theorem mw_82 : (Cond.methodLink Rn_B 80 arraycopyName : Cond) ∈ Wk_ := List.mem_of_getElem? (i := 82) rfl
theorem mw_83 : (Cond.native arraycopyName : Cond) ∈ Wk_ := List.mem_of_getElem? (i := 83) rfl
theorem mw_84 : (Cond.static arraycopyName : Cond) ∈ Wk_ := List.mem_of_getElem? (i := 84) rfl
theorem mw_85 : (Cond.initialized "java/lang/System" : Cond) ∈ Wk_ := List.mem_of_getElem? (i := 85) rfl
theorem mw_86 : (Cond.code yn_B_insert bc_B_insert 7 none : Cond) ∈ Wk_ := List.mem_of_getElem? (i := 86) rfl
theorem mw_87 : (Cond.methodLink Rn_B 69 yn_B_insert : Cond) ∈ Wk_ := List.mem_of_getElem? (i := 87) rfl
theorem mw_88 : (Cond.instanceMethod yn_B_insert : Cond) ∈ Wk_ := List.mem_of_getElem? (i := 88) rfl
theorem mw_89 : (Cond.selects Rn_B yn_B_insert yn_B_insert : Cond) ∈ Wk_ := List.mem_of_getElem? (i := 89) rfl
theorem mw_90 : (Cond.code yn_B_share bc_B_share 2 none : Cond) ∈ Wk_ := List.mem_of_getElem? (i := 90) rfl
theorem mw_91 : (Cond.methodLink Rn_B 73 yn_B_share : Cond) ∈ Wk_ := List.mem_of_getElem? (i := 91) rfl
theorem mw_92 : (Cond.instanceMethod yn_B_share : Cond) ∈ Wk_ := List.mem_of_getElem? (i := 92) rfl
theorem mw_93 : (Cond.selects Rn_B yn_B_share yn_B_share : Cond) ∈ Wk_ := List.mem_of_getElem? (i := 93) rfl
theorem mw_94 : (Cond.code yn_B_owned bc_B_owned 4 (some .int) : Cond) ∈ Wk_ := List.mem_of_getElem? (i := 94) rfl
theorem mw_95 : (Cond.methodLink Rn_T 59 yn_B_owned : Cond) ∈ Wk_ := List.mem_of_getElem? (i := 95) rfl
theorem mw_96 : (Cond.instanceMethod yn_B_owned : Cond) ∈ Wk_ := List.mem_of_getElem? (i := 96) rfl
theorem mw_97 : (Cond.selects Rn_B yn_B_owned yn_B_owned : Cond) ∈ Wk_ := List.mem_of_getElem? (i := 97) rfl
theorem mw_98 : (Cond.code yn_B_setGoal bc_B_setGoal 4 none : Cond) ∈ Wk_ := List.mem_of_getElem? (i := 98) rfl
theorem mw_99 : (Cond.methodLink Rn_T 83 yn_B_setGoal : Cond) ∈ Wk_ := List.mem_of_getElem? (i := 99) rfl
theorem mw_100 : (Cond.instanceMethod yn_B_setGoal : Cond) ∈ Wk_ := List.mem_of_getElem? (i := 100) rfl
theorem mw_101 : (Cond.selects Rn_B yn_B_setGoal yn_B_setGoal : Cond) ∈ Wk_ := List.mem_of_getElem? (i := 101) rfl
theorem mw_102 : (Cond.code yn_T_ownedChild bc_T_ownedChild 4 (some .int) : Cond) ∈ Wk_ := List.mem_of_getElem? (i := 102) rfl
theorem mw_103 : (Cond.methodLink Rn_T 73 yn_T_ownedChild : Cond) ∈ Wk_ := List.mem_of_getElem? (i := 103) rfl
theorem mw_104 : (Cond.instanceMethod yn_T_ownedChild : Cond) ∈ Wk_ := List.mem_of_getElem? (i := 104) rfl
theorem mw_105 : (Cond.selects Rn_T yn_T_ownedChild yn_T_ownedChild : Cond) ∈ Wk_ := List.mem_of_getElem? (i := 105) rfl
theorem mw_106 : (Cond.code yn_T_putBelow bc_T_putBelow 7 none : Cond) ∈ Wk_ := List.mem_of_getElem? (i := 106) rfl
theorem mw_107 : (Cond.methodLink Rn_T 62 yn_T_putBelow : Cond) ∈ Wk_ := List.mem_of_getElem? (i := 107) rfl
theorem mw_108 : (Cond.instanceMethod yn_T_putBelow : Cond) ∈ Wk_ := List.mem_of_getElem? (i := 108) rfl
theorem mw_109 : (Cond.selects Rn_T yn_T_putBelow yn_T_putBelow : Cond) ∈ Wk_ := List.mem_of_getElem? (i := 109) rfl
theorem mw_110 : (Cond.code yn_B_setKey bc_B_setKey 4 none : Cond) ∈ Wk_ := List.mem_of_getElem? (i := 110) rfl
theorem mw_111 : (Cond.methodLink Rn_T 76 yn_B_setKey : Cond) ∈ Wk_ := List.mem_of_getElem? (i := 111) rfl
theorem mw_112 : (Cond.instanceMethod yn_B_setKey : Cond) ∈ Wk_ := List.mem_of_getElem? (i := 112) rfl
theorem mw_113 : (Cond.selects Rn_B yn_B_setKey yn_B_setKey : Cond) ∈ Wk_ := List.mem_of_getElem? (i := 113) rfl
theorem mw_114 : (Cond.methodLink Rn_T 48 yn_B_size : Cond) ∈ Wk_ := List.mem_of_getElem? (i := 114) rfl
theorem mw_115 : (Cond.fieldLink Rn_T 15 "SharedTrees$Trees" "most" "I" : Cond) ∈ Wk_ := List.mem_of_getElem? (i := 115) rfl
theorem mw_116 : (Cond.methodLink Rn_T 56 yn_B_take : Cond) ∈ Wk_ := List.mem_of_getElem? (i := 116) rfl
theorem mw_117 : (Cond.fieldLink Rn_T 23 "SharedTrees$Trees" "least" "I" : Cond) ∈ Wk_ := List.mem_of_getElem? (i := 117) rfl
theorem mw_118 : (Cond.code yn_B_moveTail bc_B_moveTail 5 none : Cond) ∈ Wk_ := List.mem_of_getElem? (i := 118) rfl
theorem mw_119 : (Cond.methodLink Rn_T 89 yn_B_moveTail : Cond) ∈ Wk_ := List.mem_of_getElem? (i := 119) rfl
theorem mw_120 : (Cond.instanceMethod yn_B_moveTail : Cond) ∈ Wk_ := List.mem_of_getElem? (i := 120) rfl
theorem mw_121 : (Cond.selects Rn_B yn_B_moveTail yn_B_moveTail : Cond) ∈ Wk_ := List.mem_of_getElem? (i := 121) rfl
theorem mw_122 : (Cond.methodLink Rn_T 86 yn_B_insert : Cond) ∈ Wk_ := List.mem_of_getElem? (i := 122) rfl
theorem mw_123 : (Cond.code yn_T_split bc_T_split 5 none : Cond) ∈ Wk_ := List.mem_of_getElem? (i := 123) rfl
theorem mw_124 : (Cond.methodLink Rn_T 79 yn_T_split : Cond) ∈ Wk_ := List.mem_of_getElem? (i := 124) rfl
theorem mw_125 : (Cond.instanceMethod yn_T_split : Cond) ∈ Wk_ := List.mem_of_getElem? (i := 125) rfl
theorem mw_126 : (Cond.selects Rn_T yn_T_split yn_T_split : Cond) ∈ Wk_ := List.mem_of_getElem? (i := 126) rfl
theorem mw_127 : (Cond.code yn_T_putInLeaf bc_T_putInLeaf 5 none : Cond) ∈ Wk_ := List.mem_of_getElem? (i := 127) rfl
theorem mw_128 : (Cond.methodLink Rn_T 69 yn_T_putInLeaf : Cond) ∈ Wk_ := List.mem_of_getElem? (i := 128) rfl
theorem mw_129 : (Cond.instanceMethod yn_T_putInLeaf : Cond) ∈ Wk_ := List.mem_of_getElem? (i := 129) rfl
theorem mw_130 : (Cond.selects Rn_T yn_T_putInLeaf yn_T_putInLeaf : Cond) ∈ Wk_ := List.mem_of_getElem? (i := 130) rfl
theorem mw_131 : (Cond.code yn_T_grown bc_T_grown 3 (some .int) : Cond) ∈ Wk_ := List.mem_of_getElem? (i := 131) rfl
theorem mw_132 : (Cond.methodLink Rn_T 66 yn_T_grown : Cond) ∈ Wk_ := List.mem_of_getElem? (i := 132) rfl
theorem mw_133 : (Cond.instanceMethod yn_T_grown : Cond) ∈ Wk_ := List.mem_of_getElem? (i := 133) rfl
theorem mw_134 : (Cond.selects Rn_T yn_T_grown yn_T_grown : Cond) ∈ Wk_ := List.mem_of_getElem? (i := 134) rfl
theorem mw_135 : (Cond.code yn_T_with bc_T_with 5 (some .int) : Cond) ∈ Wk_ := List.mem_of_getElem? (i := 135) rfl
theorem mw_136 : (Cond.methodLink Rn_S 74 yn_T_with : Cond) ∈ Wk_ := List.mem_of_getElem? (i := 136) rfl
theorem mw_137 : (Cond.instanceMethod yn_T_with : Cond) ∈ Wk_ := List.mem_of_getElem? (i := 137) rfl
theorem mw_138 : (Cond.selects Rn_T yn_T_with yn_T_with : Cond) ∈ Wk_ := List.mem_of_getElem? (i := 138) rfl
theorem mw_139 : (Cond.code yn_S_write bc_S_write 5 (some .int) : Cond) ∈ Wk_ := List.mem_of_getElem? (i := 139) rfl
theorem mw_140 : (Cond.code yn_R_isMap bc_R_isMap 1 (some .boolean) : Cond) ∈ Wk_ := List.mem_of_getElem? (i := 140) rfl
theorem mw_141 : (Cond.methodLink Rn_R 24 yn_R_isMap : Cond) ∈ Wk_ := List.mem_of_getElem? (i := 141) rfl
theorem mw_142 : (Cond.static yn_R_isMap : Cond) ∈ Wk_ := List.mem_of_getElem? (i := 142) rfl
theorem mw_143 : (Cond.initialized Rn_R : Cond) ∈ Wk_ := List.mem_of_getElem? (i := 143) rfl
theorem mw_144 : (Cond.code yn_R_isKey bc_R_isKey 1 (some .boolean) : Cond) ∈ Wk_ := List.mem_of_getElem? (i := 144) rfl
theorem mw_145 : (Cond.methodLink Rn_R 28 yn_R_isKey : Cond) ∈ Wk_ := List.mem_of_getElem? (i := 145) rfl
theorem mw_146 : (Cond.static yn_R_isKey : Cond) ∈ Wk_ := List.mem_of_getElem? (i := 146) rfl
theorem mw_147 : (Cond.constant Rn_R 23 1000000000 : Cond) ∈ Wk_ := List.mem_of_getElem? (i := 147) rfl
theorem mw_148 : (Cond.code yn_R_isStamp bc_R_isStamp 1 (some .boolean) : Cond) ∈ Wk_ := List.mem_of_getElem? (i := 148) rfl
theorem mw_149 : (Cond.methodLink Rn_R 31 yn_R_isStamp : Cond) ∈ Wk_ := List.mem_of_getElem? (i := 149) rfl
theorem mw_150 : (Cond.static yn_R_isStamp : Cond) ∈ Wk_ := List.mem_of_getElem? (i := 150) rfl
theorem mw_151 : (Cond.fieldLink Rn_R 8 "SharedTreesModel" "stamps" "[I" : Cond) ∈ Wk_ := List.mem_of_getElem? (i := 151) rfl
theorem mw_152 : (Cond.fieldLink Rn_R 17 "SharedTreesModel" "counts" "[I" : Cond) ∈ Wk_ := List.mem_of_getElem? (i := 152) rfl
theorem mw_153 : (Cond.code yn_R_all bc_R_all 3 (some .int) : Cond) ∈ Wk_ := List.mem_of_getElem? (i := 153) rfl
theorem mw_154 : (Cond.methodLink Rn_R 34 yn_R_all : Cond) ∈ Wk_ := List.mem_of_getElem? (i := 154) rfl
theorem mw_155 : (Cond.instanceMethod yn_R_all : Cond) ∈ Wk_ := List.mem_of_getElem? (i := 155) rfl
theorem mw_156 : (Cond.selects Rn_R yn_R_all yn_R_all : Cond) ∈ Wk_ := List.mem_of_getElem? (i := 156) rfl
theorem mw_157 : (Cond.code yn_R_write bc_R_write 5 (some .int) : Cond) ∈ Wk_ := List.mem_of_getElem? (i := 157) rfl
theorem mw_158 : (Cond.methodLink Rn_S 81 yn_S_write : Cond) ∈ Wk_ := List.mem_of_getElem? (i := 158) rfl
theorem mw_159 : (Cond.instanceMethod yn_S_write : Cond) ∈ Wk_ := List.mem_of_getElem? (i := 159) rfl
theorem mw_160 : (Cond.selects Rn_S yn_S_write yn_S_write : Cond) ∈ Wk_ := List.mem_of_getElem? (i := 160) rfl
theorem mw_161 : (Cond.code yn_S_spread bc_S_spread 7 (some .int) : Cond) ∈ Wk_ := List.mem_of_getElem? (i := 161) rfl
theorem mw_162 : (Cond.methodLink Rn_R 38 yn_R_write : Cond) ∈ Wk_ := List.mem_of_getElem? (i := 162) rfl
theorem mw_163 : (Cond.instanceMethod yn_R_write : Cond) ∈ Wk_ := List.mem_of_getElem? (i := 163) rfl
theorem mw_164 : (Cond.selects Rn_R yn_R_write yn_R_write : Cond) ∈ Wk_ := List.mem_of_getElem? (i := 164) rfl
theorem mw_165 : (Cond.code yn_R_spread bc_R_spread 7 (some .int) : Cond) ∈ Wk_ := List.mem_of_getElem? (i := 165) rfl
theorem mw_166 : (Cond.code yn_S_read bc_S_read 3 (some .int) : Cond) ∈ Wk_ := List.mem_of_getElem? (i := 166) rfl
theorem mw_167 : (Cond.code yn_R_read bc_R_read 4 (some .int) : Cond) ∈ Wk_ := List.mem_of_getElem? (i := 167) rfl
theorem mw_168 : (Cond.code yn_T_removeBelow bc_T_removeBelow 6 none : Cond) ∈ Wk_ := List.mem_of_getElem? (i := 168) rfl
theorem mw_169 : (Cond.methodLink Rn_T 92 yn_T_removeBelow : Cond) ∈ Wk_ := List.mem_of_getElem? (i := 169) rfl
theorem mw_170 : (Cond.instanceMethod yn_T_removeBelow : Cond) ∈ Wk_ := List.mem_of_getElem? (i := 170) rfl
theorem mw_171 : (Cond.selects Rn_T yn_T_removeBelow yn_T_removeBelow : Cond) ∈ Wk_ := List.mem_of_getElem? (i := 171) rfl
theorem mw_172 : (Cond.code yn_B_remove bc_B_remove 5 none : Cond) ∈ Wk_ := List.mem_of_getElem? (i := 172) rfl
theorem mw_173 : (Cond.methodLink Rn_T 98 yn_B_remove : Cond) ∈ Wk_ := List.mem_of_getElem? (i := 173) rfl
theorem mw_174 : (Cond.instanceMethod yn_B_remove : Cond) ∈ Wk_ := List.mem_of_getElem? (i := 174) rfl
theorem mw_175 : (Cond.selects Rn_B yn_B_remove yn_B_remove : Cond) ∈ Wk_ := List.mem_of_getElem? (i := 175) rfl
theorem mw_176 : (Cond.code yn_T_moveEntry bc_T_moveEntry 5 none : Cond) ∈ Wk_ := List.mem_of_getElem? (i := 176) rfl
theorem mw_177 : (Cond.methodLink Rn_T 108 yn_T_moveEntry : Cond) ∈ Wk_ := List.mem_of_getElem? (i := 177) rfl
theorem mw_178 : (Cond.instanceMethod yn_T_moveEntry : Cond) ∈ Wk_ := List.mem_of_getElem? (i := 178) rfl
theorem mw_179 : (Cond.selects Rn_T yn_T_moveEntry yn_T_moveEntry : Cond) ∈ Wk_ := List.mem_of_getElem? (i := 179) rfl
theorem mw_180 : (Cond.code yn_B_give bc_B_give 2 none : Cond) ∈ Wk_ := List.mem_of_getElem? (i := 180) rfl
theorem mw_181 : (Cond.methodLink Rn_T 104 yn_B_give : Cond) ∈ Wk_ := List.mem_of_getElem? (i := 181) rfl
theorem mw_182 : (Cond.instanceMethod yn_B_give : Cond) ∈ Wk_ := List.mem_of_getElem? (i := 182) rfl
theorem mw_183 : (Cond.selects Rn_B yn_B_give yn_B_give : Cond) ∈ Wk_ := List.mem_of_getElem? (i := 183) rfl
theorem mw_184 : (Cond.code yn_T_fill bc_T_fill 5 none : Cond) ∈ Wk_ := List.mem_of_getElem? (i := 184) rfl
theorem mw_185 : (Cond.methodLink Rn_T 101 yn_T_fill : Cond) ∈ Wk_ := List.mem_of_getElem? (i := 185) rfl
theorem mw_186 : (Cond.instanceMethod yn_T_fill : Cond) ∈ Wk_ := List.mem_of_getElem? (i := 186) rfl
theorem mw_187 : (Cond.selects Rn_T yn_T_fill yn_T_fill : Cond) ∈ Wk_ := List.mem_of_getElem? (i := 187) rfl
theorem mw_188 : (Cond.code yn_T_shrunk bc_T_shrunk 3 (some .int) : Cond) ∈ Wk_ := List.mem_of_getElem? (i := 188) rfl
theorem mw_189 : (Cond.methodLink Rn_T 95 yn_T_shrunk : Cond) ∈ Wk_ := List.mem_of_getElem? (i := 189) rfl
theorem mw_190 : (Cond.instanceMethod yn_T_shrunk : Cond) ∈ Wk_ := List.mem_of_getElem? (i := 190) rfl
theorem mw_191 : (Cond.selects Rn_T yn_T_shrunk yn_T_shrunk : Cond) ∈ Wk_ := List.mem_of_getElem? (i := 191) rfl
theorem mw_192 : (Cond.code yn_T_without bc_T_without 4 (some .int) : Cond) ∈ Wk_ := List.mem_of_getElem? (i := 192) rfl
theorem mw_193 : (Cond.methodLink Rn_S 104 yn_T_without : Cond) ∈ Wk_ := List.mem_of_getElem? (i := 193) rfl
theorem mw_194 : (Cond.instanceMethod yn_T_without : Cond) ∈ Wk_ := List.mem_of_getElem? (i := 194) rfl
theorem mw_195 : (Cond.selects Rn_T yn_T_without yn_T_without : Cond) ∈ Wk_ := List.mem_of_getElem? (i := 195) rfl
theorem mw_196 : (Cond.code yn_S_removeKey bc_S_removeKey 3 none : Cond) ∈ Wk_ := List.mem_of_getElem? (i := 196) rfl
theorem mw_197 : (Cond.methodLink Rn_S 84 yn_S_removeKey : Cond) ∈ Wk_ := List.mem_of_getElem? (i := 197) rfl
theorem mw_198 : (Cond.instanceMethod yn_S_removeKey : Cond) ∈ Wk_ := List.mem_of_getElem? (i := 198) rfl
theorem mw_199 : (Cond.selects Rn_S yn_S_removeKey yn_S_removeKey : Cond) ∈ Wk_ := List.mem_of_getElem? (i := 199) rfl
theorem mw_200 : (Cond.code yn_S_erase bc_S_erase 4 (some .int) : Cond) ∈ Wk_ := List.mem_of_getElem? (i := 200) rfl
theorem mw_201 : (Cond.methodLink Rn_R 42 yn_R_read : Cond) ∈ Wk_ := List.mem_of_getElem? (i := 201) rfl
theorem mw_202 : (Cond.instanceMethod yn_R_read : Cond) ∈ Wk_ := List.mem_of_getElem? (i := 202) rfl
theorem mw_203 : (Cond.selects Rn_R yn_R_read yn_R_read : Cond) ∈ Wk_ := List.mem_of_getElem? (i := 203) rfl
theorem mw_204 : (Cond.code yn_R_erase bc_R_erase 4 (some .int) : Cond) ∈ Wk_ := List.mem_of_getElem? (i := 204) rfl
theorem mw_205 : (Cond.code yn_T_keyOr bc_T_keyOr 4 (some .int) : Cond) ∈ Wk_ := List.mem_of_getElem? (i := 205) rfl
theorem mw_206 : (Cond.methodLink Rn_T 44 yn_T_keyOr : Cond) ∈ Wk_ := List.mem_of_getElem? (i := 206) rfl
theorem mw_207 : (Cond.instanceMethod yn_T_keyOr : Cond) ∈ Wk_ := List.mem_of_getElem? (i := 207) rfl
theorem mw_208 : (Cond.selects Rn_T yn_T_keyOr yn_T_keyOr : Cond) ∈ Wk_ := List.mem_of_getElem? (i := 208) rfl
theorem mw_209 : (Cond.code yn_T_keyFrom bc_T_keyFrom 7 (some .int) : Cond) ∈ Wk_ := List.mem_of_getElem? (i := 209) rfl
theorem mw_210 : (Cond.methodLink Rn_S 88 yn_T_keyFrom : Cond) ∈ Wk_ := List.mem_of_getElem? (i := 210) rfl
theorem mw_211 : (Cond.instanceMethod yn_T_keyFrom : Cond) ∈ Wk_ := List.mem_of_getElem? (i := 211) rfl
theorem mw_212 : (Cond.selects Rn_T yn_T_keyFrom yn_T_keyFrom : Cond) ∈ Wk_ := List.mem_of_getElem? (i := 212) rfl
theorem mw_213 : (Cond.code yn_S_cut bc_S_cut 6 (some .int) : Cond) ∈ Wk_ := List.mem_of_getElem? (i := 213) rfl
theorem mw_214 : (Cond.methodLink Rn_R 46 yn_R_erase : Cond) ∈ Wk_ := List.mem_of_getElem? (i := 214) rfl
theorem mw_215 : (Cond.instanceMethod yn_R_erase : Cond) ∈ Wk_ := List.mem_of_getElem? (i := 215) rfl
theorem mw_216 : (Cond.selects Rn_R yn_R_erase yn_R_erase : Cond) ∈ Wk_ := List.mem_of_getElem? (i := 216) rfl
theorem mw_217 : (Cond.code yn_R_cut bc_R_cut 6 (some .int) : Cond) ∈ Wk_ := List.mem_of_getElem? (i := 217) rfl
theorem mw_218 : (Cond.code yn_S_next bc_S_next 3 (some .int) : Cond) ∈ Wk_ := List.mem_of_getElem? (i := 218) rfl
theorem mw_219 : (Cond.code yn_R_next bc_R_next 4 (some .int) : Cond) ∈ Wk_ := List.mem_of_getElem? (i := 219) rfl
theorem mw_220 : (Cond.fieldLink Rn_S 23 "SharedTrees" "blocks" "LSharedTrees$Blocks;" : Cond) ∈ Wk_ := List.mem_of_getElem? (i := 220) rfl
theorem mw_221 : (Cond.methodLink Rn_S 107 yn_B_share : Cond) ∈ Wk_ := List.mem_of_getElem? (i := 221) rfl
theorem mw_222 : (Cond.methodLink Rn_T 114 yn_B_lose : Cond) ∈ Wk_ := List.mem_of_getElem? (i := 222) rfl
theorem mw_223 : (Cond.code yn_T_releaseBelow bc_T_releaseBelow 4 none : Cond) ∈ Wk_ := List.mem_of_getElem? (i := 223) rfl
theorem mw_224 : (Cond.methodLink Rn_T 111 yn_T_releaseBelow : Cond) ∈ Wk_ := List.mem_of_getElem? (i := 224) rfl
theorem mw_225 : (Cond.instanceMethod yn_T_releaseBelow : Cond) ∈ Wk_ := List.mem_of_getElem? (i := 225) rfl
theorem mw_226 : (Cond.selects Rn_T yn_T_releaseBelow yn_T_releaseBelow : Cond) ∈ Wk_ := List.mem_of_getElem? (i := 226) rfl
theorem mw_227 : (Cond.code yn_T_release bc_T_release 2 none : Cond) ∈ Wk_ := List.mem_of_getElem? (i := 227) rfl
theorem mw_228 : (Cond.methodLink Rn_S 110 yn_T_release : Cond) ∈ Wk_ := List.mem_of_getElem? (i := 228) rfl
theorem mw_229 : (Cond.instanceMethod yn_T_release : Cond) ∈ Wk_ := List.mem_of_getElem? (i := 229) rfl
theorem mw_230 : (Cond.selects Rn_T yn_T_release yn_T_release : Cond) ∈ Wk_ := List.mem_of_getElem? (i := 230) rfl
theorem mw_231 : (Cond.code yn_S_lead bc_S_lead 5 none : Cond) ∈ Wk_ := List.mem_of_getElem? (i := 231) rfl
theorem mw_232 : (Cond.methodLink Rn_S 91 yn_S_lead : Cond) ∈ Wk_ := List.mem_of_getElem? (i := 232) rfl
theorem mw_233 : (Cond.instanceMethod yn_S_lead : Cond) ∈ Wk_ := List.mem_of_getElem? (i := 233) rfl
theorem mw_234 : (Cond.selects Rn_S yn_S_lead yn_S_lead : Cond) ∈ Wk_ := List.mem_of_getElem? (i := 234) rfl
theorem mw_235 : (Cond.code yn_S_clone bc_S_clone 3 (some .int) : Cond) ∈ Wk_ := List.mem_of_getElem? (i := 235) rfl
theorem mw_236 : (Cond.code yn_R_clone bc_R_clone 4 (some .int) : Cond) ∈ Wk_ := List.mem_of_getElem? (i := 236) rfl
theorem mw_237 : (Cond.code yn_S_drop bc_S_drop 3 (some .int) : Cond) ∈ Wk_ := List.mem_of_getElem? (i := 237) rfl
theorem mw_238 : (Cond.methodLink Rn_R 49 yn_R_cut : Cond) ∈ Wk_ := List.mem_of_getElem? (i := 238) rfl
theorem mw_239 : (Cond.instanceMethod yn_R_cut : Cond) ∈ Wk_ := List.mem_of_getElem? (i := 239) rfl
theorem mw_240 : (Cond.selects Rn_R yn_R_cut yn_R_cut : Cond) ∈ Wk_ := List.mem_of_getElem? (i := 240) rfl
theorem mw_241 : (Cond.code yn_R_drop bc_R_drop 3 (some .int) : Cond) ∈ Wk_ := List.mem_of_getElem? (i := 241) rfl
theorem mw_242 : (Cond.fieldLink Rn_S 50 "SharedTrees" "kept" "LSharedTrees$Maps;" : Cond) ∈ Wk_ := List.mem_of_getElem? (i := 242) rfl
theorem mw_243 : (Cond.code yn_S_leadAll bc_S_leadAll 4 none : Cond) ∈ Wk_ := List.mem_of_getElem? (i := 243) rfl
theorem mw_244 : (Cond.methodLink Rn_S 95 yn_S_leadAll : Cond) ∈ Wk_ := List.mem_of_getElem? (i := 244) rfl
theorem mw_245 : (Cond.instanceMethod yn_S_leadAll : Cond) ∈ Wk_ := List.mem_of_getElem? (i := 245) rfl
theorem mw_246 : (Cond.selects Rn_S yn_S_leadAll yn_S_leadAll : Cond) ∈ Wk_ := List.mem_of_getElem? (i := 246) rfl
theorem mw_247 : (Cond.code yn_S_keep bc_S_keep 1 (some .int) : Cond) ∈ Wk_ := List.mem_of_getElem? (i := 247) rfl
theorem mw_248 : (Cond.constant Rn_R 7 32768 : Cond) ∈ Wk_ := List.mem_of_getElem? (i := 248) rfl
theorem mw_249 : (Cond.fieldLink Rn_R 20 "SharedTreesModel" "keptCounts" "[I" : Cond) ∈ Wk_ := List.mem_of_getElem? (i := 249) rfl
theorem mw_250 : (Cond.fieldLink Rn_R 14 "SharedTreesModel" "kept" "[I" : Cond) ∈ Wk_ := List.mem_of_getElem? (i := 250) rfl
theorem mw_251 : (Cond.code yn_R_keep bc_R_keep 2 (some .int) : Cond) ∈ Wk_ := List.mem_of_getElem? (i := 251) rfl
theorem mw_252 : (Cond.code yn_S_back bc_S_back 1 (some .int) : Cond) ∈ Wk_ := List.mem_of_getElem? (i := 252) rfl
theorem mw_253 : (Cond.code yn_R_back bc_R_back 2 (some .int) : Cond) ∈ Wk_ := List.mem_of_getElem? (i := 253) rfl
theorem mw_254 : (Cond.code yn_S_keys bc_S_keys 2 (some .int) : Cond) ∈ Wk_ := List.mem_of_getElem? (i := 254) rfl
theorem mw_255 : (Cond.code yn_R_keys bc_R_keys 2 (some .int) : Cond) ∈ Wk_ := List.mem_of_getElem? (i := 255) rfl
theorem mw_256 : (Cond.fieldLink Rn_S 39 "SharedTrees" "inspection" "LSharedTrees$Inspection;" : Cond) ∈ Wk_ := List.mem_of_getElem? (i := 256) rfl
theorem mw_257 : (Cond.fieldLink Rn_I 25 "SharedTrees$Inspection" "blocks" "LSharedTrees$Blocks;" : Cond) ∈ Wk_ := List.mem_of_getElem? (i := 257) rfl
theorem mw_258 : (Cond.methodLink Rn_I 66 yn_B_isBlock : Cond) ∈ Wk_ := List.mem_of_getElem? (i := 258) rfl
theorem mw_259 : (Cond.methodLink Rn_I 72 yn_B_level : Cond) ∈ Wk_ := List.mem_of_getElem? (i := 259) rfl
theorem mw_260 : (Cond.methodLink Rn_I 75 yn_B_size : Cond) ∈ Wk_ := List.mem_of_getElem? (i := 260) rfl
theorem mw_261 : (Cond.fieldLink Rn_I 9 "SharedTrees$Inspection" "found" "[I" : Cond) ∈ Wk_ := List.mem_of_getElem? (i := 261) rfl
theorem mw_262 : (Cond.fieldLink Rn_I 29 "SharedTrees$Inspection" "most" "I" : Cond) ∈ Wk_ := List.mem_of_getElem? (i := 262) rfl
theorem mw_263 : (Cond.methodLink Rn_I 91 yn_B_key : Cond) ∈ Wk_ := List.mem_of_getElem? (i := 263) rfl
theorem mw_264 : (Cond.code yn_I_hasOrder bc_I_hasOrder 4 (some .boolean) : Cond) ∈ Wk_ := List.mem_of_getElem? (i := 264) rfl
theorem mw_265 : (Cond.methodLink Rn_I 82 yn_I_hasOrder : Cond) ∈ Wk_ := List.mem_of_getElem? (i := 265) rfl
theorem mw_266 : (Cond.instanceMethod yn_I_hasOrder : Cond) ∈ Wk_ := List.mem_of_getElem? (i := 266) rfl
theorem mw_267 : (Cond.selects Rn_I yn_I_hasOrder yn_I_hasOrder : Cond) ∈ Wk_ := List.mem_of_getElem? (i := 267) rfl
theorem mw_268 : (Cond.initialized Rn_I : Cond) ∈ Wk_ := List.mem_of_getElem? (i := 268) rfl
theorem mw_269 : (Cond.fieldLink Rn_I 15 "SharedTrees$Inspection" "keysBelow" "[I" : Cond) ∈ Wk_ := List.mem_of_getElem? (i := 269) rfl
theorem mw_270 : (Cond.fieldLink Rn_I 18 "SharedTrees$Inspection" "lastKeys" "[I" : Cond) ∈ Wk_ := List.mem_of_getElem? (i := 270) rfl
theorem mw_271 : (Cond.methodLink Rn_I 97 yn_B_goal : Cond) ∈ Wk_ := List.mem_of_getElem? (i := 271) rfl
theorem mw_272 : (Cond.fieldLink Rn_I 37 "SharedTrees$Inspection" "least" "I" : Cond) ∈ Wk_ := List.mem_of_getElem? (i := 272) rfl
theorem mw_273 : (Cond.code yn_I_faultBelow bc_I_faultBelow 3 (some .int) : Cond) ∈ Wk_ := List.mem_of_getElem? (i := 273) rfl
theorem mw_274 : (Cond.methodLink Rn_I 78 yn_I_faultBelow : Cond) ∈ Wk_ := List.mem_of_getElem? (i := 274) rfl
theorem mw_275 : (Cond.instanceMethod yn_I_faultBelow : Cond) ∈ Wk_ := List.mem_of_getElem? (i := 275) rfl
theorem mw_276 : (Cond.selects Rn_I yn_I_faultBelow yn_I_faultBelow : Cond) ∈ Wk_ := List.mem_of_getElem? (i := 276) rfl
theorem mw_277 : (Cond.code yn_I_faultOfNode bc_I_faultOfNode 10 (some .int) : Cond) ∈ Wk_ := List.mem_of_getElem? (i := 277) rfl
theorem mw_278 : (Cond.methodLink Rn_I 88 yn_I_faultOfNode : Cond) ∈ Wk_ := List.mem_of_getElem? (i := 278) rfl
theorem mw_279 : (Cond.instanceMethod yn_I_faultOfNode : Cond) ∈ Wk_ := List.mem_of_getElem? (i := 279) rfl
theorem mw_280 : (Cond.selects Rn_I yn_I_faultOfNode yn_I_faultOfNode : Cond) ∈ Wk_ := List.mem_of_getElem? (i := 280) rfl
theorem mw_281 : (Cond.code yn_I_faultOfLeaf bc_I_faultOfLeaf 4 (some .int) : Cond) ∈ Wk_ := List.mem_of_getElem? (i := 281) rfl
theorem mw_282 : (Cond.methodLink Rn_I 85 yn_I_faultOfLeaf : Cond) ∈ Wk_ := List.mem_of_getElem? (i := 282) rfl
theorem mw_283 : (Cond.instanceMethod yn_I_faultOfLeaf : Cond) ∈ Wk_ := List.mem_of_getElem? (i := 283) rfl
theorem mw_284 : (Cond.selects Rn_I yn_I_faultOfLeaf yn_I_faultOfLeaf : Cond) ∈ Wk_ := List.mem_of_getElem? (i := 284) rfl
theorem mw_285 : (Cond.code yn_I_faultOfTree bc_I_faultOfTree 6 (some .int) : Cond) ∈ Wk_ := List.mem_of_getElem? (i := 285) rfl
theorem mw_286 : (Cond.methodLink Rn_I 59 yn_I_faultOfTree : Cond) ∈ Wk_ := List.mem_of_getElem? (i := 286) rfl
theorem mw_287 : (Cond.instanceMethod yn_I_faultOfTree : Cond) ∈ Wk_ := List.mem_of_getElem? (i := 287) rfl
theorem mw_288 : (Cond.selects Rn_I yn_I_faultOfTree yn_I_faultOfTree : Cond) ∈ Wk_ := List.mem_of_getElem? (i := 288) rfl
theorem mw_289 : (Cond.code yn_I_faultOfMaps bc_I_faultOfMaps 6 (some .int) : Cond) ∈ Wk_ := List.mem_of_getElem? (i := 289) rfl
theorem mw_290 : (Cond.methodLink Rn_I 40 yn_I_faultOfMaps : Cond) ∈ Wk_ := List.mem_of_getElem? (i := 290) rfl
theorem mw_291 : (Cond.instanceMethod yn_I_faultOfMaps : Cond) ∈ Wk_ := List.mem_of_getElem? (i := 291) rfl
theorem mw_292 : (Cond.selects Rn_I yn_I_faultOfMaps yn_I_faultOfMaps : Cond) ∈ Wk_ := List.mem_of_getElem? (i := 292) rfl
theorem mw_293 : (Cond.methodLink Rn_I 109 yn_B_ways : Cond) ∈ Wk_ := List.mem_of_getElem? (i := 293) rfl
theorem mw_294 : (Cond.fieldLink Rn_I 21 "SharedTrees$Inspection" "listed" "[Z" : Cond) ∈ Wk_ := List.mem_of_getElem? (i := 294) rfl
theorem mw_295 : (Cond.code yn_I_faultOfWays bc_I_faultOfWays 3 (some .int) : Cond) ∈ Wk_ := List.mem_of_getElem? (i := 295) rfl
theorem mw_296 : (Cond.methodLink Rn_I 48 yn_I_faultOfWays : Cond) ∈ Wk_ := List.mem_of_getElem? (i := 296) rfl
theorem mw_297 : (Cond.instanceMethod yn_I_faultOfWays : Cond) ∈ Wk_ := List.mem_of_getElem? (i := 297) rfl
theorem mw_298 : (Cond.selects Rn_I yn_I_faultOfWays yn_I_faultOfWays : Cond) ∈ Wk_ := List.mem_of_getElem? (i := 298) rfl
theorem mw_299 : (Cond.code yn_B_freeCount bc_B_freeCount 1 (some .int) : Cond) ∈ Wk_ := List.mem_of_getElem? (i := 299) rfl
theorem mw_300 : (Cond.methodLink Rn_I 103 yn_B_freeCount : Cond) ∈ Wk_ := List.mem_of_getElem? (i := 300) rfl
theorem mw_301 : (Cond.instanceMethod yn_B_freeCount : Cond) ∈ Wk_ := List.mem_of_getElem? (i := 301) rfl
theorem mw_302 : (Cond.selects Rn_B yn_B_freeCount yn_B_freeCount : Cond) ∈ Wk_ := List.mem_of_getElem? (i := 302) rfl
theorem mw_303 : (Cond.code yn_B_freeBlock bc_B_freeBlock 2 (some .int) : Cond) ∈ Wk_ := List.mem_of_getElem? (i := 303) rfl
theorem mw_304 : (Cond.methodLink Rn_I 106 yn_B_freeBlock : Cond) ∈ Wk_ := List.mem_of_getElem? (i := 304) rfl
theorem mw_305 : (Cond.instanceMethod yn_B_freeBlock : Cond) ∈ Wk_ := List.mem_of_getElem? (i := 305) rfl
theorem mw_306 : (Cond.selects Rn_B yn_B_freeBlock yn_B_freeBlock : Cond) ∈ Wk_ := List.mem_of_getElem? (i := 306) rfl
theorem mw_307 : (Cond.code yn_I_faultOfFree bc_I_faultOfFree 4 (some .int) : Cond) ∈ Wk_ := List.mem_of_getElem? (i := 307) rfl
theorem mw_308 : (Cond.methodLink Rn_I 44 yn_I_faultOfFree : Cond) ∈ Wk_ := List.mem_of_getElem? (i := 308) rfl
theorem mw_309 : (Cond.instanceMethod yn_I_faultOfFree : Cond) ∈ Wk_ := List.mem_of_getElem? (i := 309) rfl
theorem mw_310 : (Cond.selects Rn_I yn_I_faultOfFree yn_I_faultOfFree : Cond) ∈ Wk_ := List.mem_of_getElem? (i := 310) rfl
theorem mw_311 : (Cond.code yn_I_firstFault bc_I_firstFault 4 (some .int) : Cond) ∈ Wk_ := List.mem_of_getElem? (i := 311) rfl
theorem mw_312 : (Cond.methodLink Rn_S 99 yn_I_firstFault : Cond) ∈ Wk_ := List.mem_of_getElem? (i := 312) rfl
theorem mw_313 : (Cond.instanceMethod yn_I_firstFault : Cond) ∈ Wk_ := List.mem_of_getElem? (i := 313) rfl
theorem mw_314 : (Cond.selects Rn_I yn_I_firstFault yn_I_firstFault : Cond) ∈ Wk_ := List.mem_of_getElem? (i := 314) rfl
theorem mw_315 : (Cond.code yn_S_check bc_S_check 1 (some .int) : Cond) ∈ Wk_ := List.mem_of_getElem? (i := 315) rfl
theorem mw_316 : (Cond.code yn_R_check bc_R_check 1 (some .int) : Cond) ∈ Wk_ := List.mem_of_getElem? (i := 316) rfl
theorem mw_317 : (Cond.laysFinal Rn_S "SharedTrees" "blocks" "LSharedTrees$Blocks;" : Cond) ∈ Wk_ := List.mem_of_getElem? (i := 317) rfl
theorem mw_318 : (Cond.laysFinal Rn_S "SharedTrees" "trees" "LSharedTrees$Trees;" : Cond) ∈ Wk_ := List.mem_of_getElem? (i := 318) rfl
theorem mw_319 : (Cond.laysFinal Rn_S "SharedTrees" "inspection" "LSharedTrees$Inspection;" : Cond) ∈ Wk_ := List.mem_of_getElem? (i := 319) rfl
theorem mw_320 : (Cond.laysFinal Rn_S "SharedTrees" "now" "LSharedTrees$Maps;" : Cond) ∈ Wk_ := List.mem_of_getElem? (i := 320) rfl
theorem mw_321 : (Cond.laysFinal Rn_S "SharedTrees" "kept" "LSharedTrees$Maps;" : Cond) ∈ Wk_ := List.mem_of_getElem? (i := 321) rfl
theorem mw_322 : (Cond.laysFinal Rn_B "SharedTrees$Blocks" "width" "I" : Cond) ∈ Wk_ := List.mem_of_getElem? (i := 322) rfl
theorem mw_323 : (Cond.laysFinal Rn_B "SharedTrees$Blocks" "ways" "[I" : Cond) ∈ Wk_ := List.mem_of_getElem? (i := 323) rfl
theorem mw_324 : (Cond.laysFinal Rn_B "SharedTrees$Blocks" "levels" "[I" : Cond) ∈ Wk_ := List.mem_of_getElem? (i := 324) rfl
theorem mw_325 : (Cond.laysFinal Rn_B "SharedTrees$Blocks" "sizes" "[I" : Cond) ∈ Wk_ := List.mem_of_getElem? (i := 325) rfl
theorem mw_326 : (Cond.laysFinal Rn_B "SharedTrees$Blocks" "entryKeys" "[I" : Cond) ∈ Wk_ := List.mem_of_getElem? (i := 326) rfl
theorem mw_327 : (Cond.laysFinal Rn_B "SharedTrees$Blocks" "entryGoals" "[I" : Cond) ∈ Wk_ := List.mem_of_getElem? (i := 327) rfl
theorem mw_328 : (Cond.laysFinal Rn_B "SharedTrees$Blocks" "free" "[I" : Cond) ∈ Wk_ := List.mem_of_getElem? (i := 328) rfl
theorem mw_329 : (Cond.lays Rn_B "SharedTrees$Blocks" "freeCount" "I" : Cond) ∈ Wk_ := List.mem_of_getElem? (i := 329) rfl
theorem mw_330 : (Cond.laysFinal Rn_T "SharedTrees$Trees" "blocks" "LSharedTrees$Blocks;" : Cond) ∈ Wk_ := List.mem_of_getElem? (i := 330) rfl
theorem mw_331 : (Cond.laysFinal Rn_T "SharedTrees$Trees" "most" "I" : Cond) ∈ Wk_ := List.mem_of_getElem? (i := 331) rfl
theorem mw_332 : (Cond.laysFinal Rn_T "SharedTrees$Trees" "least" "I" : Cond) ∈ Wk_ := List.mem_of_getElem? (i := 332) rfl
theorem mw_333 : (Cond.laysFinal Rn_I "SharedTrees$Inspection" "blocks" "LSharedTrees$Blocks;" : Cond) ∈ Wk_ := List.mem_of_getElem? (i := 333) rfl
theorem mw_334 : (Cond.laysFinal Rn_I "SharedTrees$Inspection" "most" "I" : Cond) ∈ Wk_ := List.mem_of_getElem? (i := 334) rfl
theorem mw_335 : (Cond.laysFinal Rn_I "SharedTrees$Inspection" "least" "I" : Cond) ∈ Wk_ := List.mem_of_getElem? (i := 335) rfl
theorem mw_336 : (Cond.laysFinal Rn_I "SharedTrees$Inspection" "found" "[I" : Cond) ∈ Wk_ := List.mem_of_getElem? (i := 336) rfl
theorem mw_337 : (Cond.laysFinal Rn_I "SharedTrees$Inspection" "keysBelow" "[I" : Cond) ∈ Wk_ := List.mem_of_getElem? (i := 337) rfl
theorem mw_338 : (Cond.laysFinal Rn_I "SharedTrees$Inspection" "lastKeys" "[I" : Cond) ∈ Wk_ := List.mem_of_getElem? (i := 338) rfl
theorem mw_339 : (Cond.laysFinal Rn_I "SharedTrees$Inspection" "listed" "[Z" : Cond) ∈ Wk_ := List.mem_of_getElem? (i := 339) rfl
theorem mw_340 : (Cond.laysFinal Rn_P "SharedTrees$Maps" "roots" "[I" : Cond) ∈ Wk_ := List.mem_of_getElem? (i := 340) rfl
theorem mw_341 : (Cond.laysFinal Rn_P "SharedTrees$Maps" "counts" "[I" : Cond) ∈ Wk_ := List.mem_of_getElem? (i := 341) rfl
theorem mw_342 : (Cond.lays Rn_P "SharedTrees$Maps" "total" "I" : Cond) ∈ Wk_ := List.mem_of_getElem? (i := 342) rfl
theorem mw_343 : (Cond.laysFinal Rn_R "SharedTreesModel" "stamps" "[I" : Cond) ∈ Wk_ := List.mem_of_getElem? (i := 343) rfl
theorem mw_344 : (Cond.laysFinal Rn_R "SharedTreesModel" "kept" "[I" : Cond) ∈ Wk_ := List.mem_of_getElem? (i := 344) rfl
theorem mw_345 : (Cond.laysFinal Rn_R "SharedTreesModel" "counts" "[I" : Cond) ∈ Wk_ := List.mem_of_getElem? (i := 345) rfl
theorem mw_346 : (Cond.laysFinal Rn_R "SharedTreesModel" "keptCounts" "[I" : Cond) ∈ Wk_ := List.mem_of_getElem? (i := 346) rfl
theorem in_S : ∀ w ∈ u_ws Rn_S Fn_S 5, w ∈ Wk_ := by decide +kernel
theorem in_B : ∀ w ∈ u_ws Rn_B Fn_B 8, w ∈ Wk_ := by decide +kernel
theorem in_T : ∀ w ∈ u_ws Rn_T Fn_T 3, w ∈ Wk_ := by decide +kernel
theorem in_I : ∀ w ∈ u_ws Rn_I Fn_I 7, w ∈ Wk_ := by decide +kernel
theorem in_P : ∀ w ∈ u_ws Rn_P Fn_P 3, w ∈ Wk_ := by decide +kernel
theorem in_R : ∀ w ∈ u_ws Rn_R Fn_R 4, w ∈ Wk_ := by decide +kernel
def nfl_ : List (String × Nat × String × String × String) := [(Rn_S, 63, "SharedTrees$Maps", "roots", "[I"), (Rn_S, 78, "SharedTrees$Maps", "counts", "[I"), (Rn_S, 70, "SharedTrees$Maps", "total", "I"), (Rn_I, 63, "SharedTrees$Maps", "total", "I"), (Rn_I, 51, "SharedTrees$Maps", "roots", "[I"), (Rn_I, 56, "SharedTrees$Maps", "counts", "[I")]
def nml_ : List (String × Nat × MethodName) := [(Rn_I, 94, yn_S_isKey), (Rn_I, 100, yn_S_isStamp)]
theorem nf_0 : (Rn_S, 63, "SharedTrees$Maps", "roots", "[I") ∈ nfl_ := List.mem_of_getElem? (i := 0) rfl
theorem nf_1 : (Rn_S, 78, "SharedTrees$Maps", "counts", "[I") ∈ nfl_ := List.mem_of_getElem? (i := 1) rfl
theorem nf_2 : (Rn_S, 70, "SharedTrees$Maps", "total", "I") ∈ nfl_ := List.mem_of_getElem? (i := 2) rfl
theorem nf_3 : (Rn_I, 63, "SharedTrees$Maps", "total", "I") ∈ nfl_ := List.mem_of_getElem? (i := 3) rfl
theorem nf_4 : (Rn_I, 51, "SharedTrees$Maps", "roots", "[I") ∈ nfl_ := List.mem_of_getElem? (i := 4) rfl
theorem nf_5 : (Rn_I, 56, "SharedTrees$Maps", "counts", "[I") ∈ nfl_ := List.mem_of_getElem? (i := 5) rfl
theorem nm_0 : (Rn_I, 94, yn_S_isKey) ∈ nml_ := List.mem_of_getElem? (i := 0) rfl
theorem nm_1 : (Rn_I, 100, yn_S_isStamp) ∈ nml_ := List.mem_of_getElem? (i := 1) rfl
end
section
-- THE WORLD: 18 arrays (0..17), 7 objects (18..24), all at fixed addresses; the state: what the arrays hold, and three int fields (18, 19, 20)
theorem wd_at {ad : Nat → Nat} {cA : Nat → ClassId} {w : Nat} {st : St_} (k : Nat) (hk : k < 18) : (wd_ ad cA w st)[k]? = some (ad k, .inl (cA k, wl_ w k, .inl (st k))) := by
  have h : k = 0 ∨ k = 1 ∨ k = 2 ∨ k = 3 ∨ k = 4 ∨ k = 5 ∨ k = 6 ∨ k = 7 ∨ k = 8 ∨ k = 9 ∨ k = 10 ∨ k = 11 ∨ k = 12 ∨ k = 13 ∨ k = 14 ∨ k = 15 ∨ k = 16 ∨ k = 17 := by omega
  rcases h with rfl | rfl | rfl | rfl | rfl | rfl | rfl | rfl | rfl | rfl | rfl | rfl | rfl | rfl | rfl | rfl | rfl | rfl <;> rfl
theorem wd_up {ad : Nat → Nat} {cA : Nat → ClassId} {w : Nat} {st : St_} (k : Nat) (hk : k < 18) (v : Nat → Int32) : (wd_ ad cA w st).set k (ad k, .inl (cA k, wl_ w k, .inl v)) = wd_ ad cA w (va_up st k v) := by
  have h : k = 0 ∨ k = 1 ∨ k = 2 ∨ k = 3 ∨ k = 4 ∨ k = 5 ∨ k = 6 ∨ k = 7 ∨ k = 8 ∨ k = 9 ∨ k = 10 ∨ k = 11 ∨ k = 12 ∨ k = 13 ∨ k = 14 ∨ k = 15 ∨ k = 16 ∨ k = 17 := by omega
  rcases h with rfl | rfl | rfl | rfl | rfl | rfl | rfl | rfl | rfl | rfl | rfl | rfl | rfl | rfl | rfl | rfl | rfl | rfl <;> rfl
theorem ty_at {cA : Nat → ClassId} (k : Nat) (hk : k < 18 ∧ k ≠ 9) : (ty_ cA)[k]? = some (cA k, .int) := by
  have h : k = 0 ∨ k = 1 ∨ k = 2 ∨ k = 3 ∨ k = 4 ∨ k = 5 ∨ k = 6 ∨ k = 7 ∨ k = 8 ∨ k = 10 ∨ k = 11 ∨ k = 12 ∨ k = 13 ∨ k = 14 ∨ k = 15 ∨ k = 16 ∨ k = 17 := by omega
  rcases h with rfl | rfl | rfl | rfl | rfl | rfl | rfl | rfl | rfl | rfl | rfl | rfl | rfl | rfl | rfl | rfl | rfl <;> rfl
/-- the cells that a method may change -/
def Aw_ (ad : Nat → Nat) : Nat → Prop := fun q => ∃ k, k < 25 ∧ q = ad k
/-- the addresses are apart -/
def Jn_ (ad : Nat → Nat) : Prop := ∀ i j, i < 25 → j < 25 → ad i = ad j → i = j
theorem wd_ad {ad : Nat → Nat} {cA : Nat → ClassId} {w : Nat} {st : St_} {i : Nat} {p : Nat × va_E} (h : (wd_ ad cA w st)[i]? = some p) : i < 25 ∧ p.1 = ad i := by
  have e : (wd_ ad cA w st).map (fun q => q.1) = (List.range 25).map ad := rfl
  have h1 : ((wd_ ad cA w st).map (fun q => q.1))[i]? = some p.1 := by rw [List.getElem?_map, h]; rfl
  rw [e, List.getElem?_map] at h1
  have hi : i < 25 := by
    by_cases hi : i < 25
    · exact hi
    · rw [List.getElem?_eq_none (by simp; omega)] at h1; cases h1
  rw [List.getElem?_range hi] at h1
  exact ⟨hi, (Option.some.inj h1).symm⟩
theorem wd_D {ad : Nat → Nat} {cA : Nat → ClassId} {w : Nat} {st : St_} (hJ : Jn_ ad) : va_D (Aw_ ad) (wd_ ad cA w st) := by
  refine ⟨fun i j p q hi hj e => ?_, fun k q hk => ?_⟩
  · obtain ⟨i1, e1⟩ := wd_ad hi
    obtain ⟨j1, e2⟩ := wd_ad hj
    exact hJ i j i1 j1 (by rw [← e1, ← e2]; exact e)
  · obtain ⟨i1, e1⟩ := wd_ad hk
    exact ⟨k, i1, e1⟩
/-- the links into private members of nest mates -/
def NW_ (U : State) : Prop := (∀ q ∈ nfl_, va_Nw (.fieldLinkNest q.1 q.2.1 q.2.2.1 q.2.2.2.1 q.2.2.2.2 nh_) U) ∧ (∀ q ∈ nml_, va_Nw (.methodLinkNest q.1 q.2.1 q.2.2 nh_) U)
theorem NW_moved {s U : State} (hW : s.WarmedH U.vm) (h : NW_ s) : NW_ U := ⟨fun q hq => va_Nw.warmF hW (h.1 q hq), fun q hq => va_Nw.warmM hW (h.2 q hq)⟩
theorem NW_same {s U : State} (e : s.vm = U.vm) (h : NW_ s) : NW_ U := ⟨fun q hq => va_Nw.same rfl e (h.1 q hq), fun q hq => va_Nw.same rfl e (h.2 q hq)⟩
abbrev Pw_ (D : va_G) (ad : Nat → Nat) (cA : Nat → ClassId) (w : Nat) (st : St_) (av : List Value) : Array Value → State → Prop := va_Pc av (fun U => va_P D sC_ (wd_ ad cA w st) U.heap ∧ va_K D sC_ (ty_ cA) U ∧ NW_ U)
abbrev Qi_ (D : va_G) (ad : Nat → Nat) (cA : Nat → ClassId) (w : Nat) (post : Int32 → St_ → Prop) : Array Value → State → Outcome → State → Prop := va_Qi post (fun u t => va_P D sC_ (wd_ ad cA w u) t.heap) (Aw_ ad)
abbrev Qv_ (D : va_G) (ad : Nat → Nat) (cA : Nat → ClassId) (w : Nat) (post : St_ → Prop) : Array Value → State → Outcome → State → Prop := va_Qv post (fun u t => va_P D sC_ (wd_ ad cA w u) t.heap) (Aw_ ad)
theorem fb_ {D : va_G} {ad : Nat → Nat} {cA : Nat → ClassId} {w : Nat} {st : St_} {av : List Value} : FrameBlind (Pw_ D ad cA w st av) := fun a U g mk q => by
  obtain ⟨q0, qP, qK, qN⟩ := q
  exact ⟨q0, qP, va_K.moved (u := U) (U := U.calling g mk a) (Vm.Alike.refl U.vm) qK, NW_same (s := U) (U := U.calling g mk a) rfl qN⟩
section WR
variable {p : Program} {l : Launch} {e : Env} {R : Room} {s : State} {m : MethodId} {args : Array Value} {below : List Frame} {meth : Method} {c : Code} {H H0 : Heap} {locs : List Loc} {cells slots : Nat} {Q : State → Prop}
variable {cc : ByteArray} {pc : Nat} {ls : Array Slot} {rest : List Value} {D : va_G} {ad : Nat → Nat} {cA : Nat → ClassId} {w : Nat} {st : St_}
theorem w_ild (k : Nat) (hk : k < 18 ∧ k ≠ 9) (hx : p.tables.exec = Jvm.exec) (hb : c.code = cc) (hK : va_K D sC_ (ty_ cA) s) (hP : va_P D sC_ (wd_ ad cA w st) H) {i : Int32} (hin : vp_in i (wl_ w k)) (hdg : decode cc pc = .ok (.iaload, 1))
    (kk : W p l e R s m args below meth c H locs cells slots Q (F0 m (pc + 1) ls (.int (st k i.toNatClampNeg) :: rest))) : W p l e R s m args below meth c H locs cells slots Q (F0 m pc ls (.int i :: .ref (ad k) :: rest)) :=
  va_iald hx hb hK hP k k (wd_at k hk.1) (ty_at k hk) hin hdg kk
theorem w_zld (hx : p.tables.exec = Jvm.exec) (hb : c.code = cc) (hK : va_K D sC_ (ty_ cA) s) (hP : va_P D sC_ (wd_ ad cA w st) H) {i : Int32} (hin : vp_in i 1201) (hdg : decode cc pc = .ok (.baload, 1))
    (kk : W p l e R s m args below meth c H locs cells slots Q (F0 m (pc + 1) ls (.int (st 9 i.toNatClampNeg) :: rest))) : W p l e R s m args below meth c H locs cells slots Q (F0 m pc ls (.int i :: .ref (ad 9) :: rest)) :=
  va_zald hx hb hK hP 9 9 (wd_at 9 (by decide)) rfl hin hdg kk
theorem w_ist (k : Nat) (hk : k < 18 ∧ k ≠ 9) (hJ : Jn_ ad) (hx : p.tables.exec = Jvm.exec) (hb : c.code = cc) (hK : va_K D sC_ (ty_ cA) s) (hP : va_P D sC_ (wd_ ad cA w st) H) (hS : va_S (Aw_ ad) H0 H locs) {i x : Int32} (hin : vp_in i (wl_ w k)) (hdg : decode cc pc = .ok (.iastore, 1))
    (kk : ∀ (H1 : Heap) (locs1 : List Loc), va_P D sC_ (wd_ ad cA w (ws_1 st k i.toNatClampNeg x)) H1 → va_S (Aw_ ad) H0 H1 locs1 → W p l e R s m args below meth c H1 locs1 cells slots Q (F0 m (pc + 1) ls rest)) : W p l e R s m args below meth c H locs cells slots Q (F0 m pc ls (.int x :: .int i :: .ref (ad k) :: rest)) :=
  va_iast hx hb hK hP (wd_D hJ) hS k k (wd_at k hk.1) (ty_at k hk) hin hdg (fun H1 locs1 hP1 _ hS1 => kk H1 locs1 (by rw [wd_up k hk.1] at hP1; exact hP1) hS1)
theorem w_zst (hJ : Jn_ ad) (hx : p.tables.exec = Jvm.exec) (hb : c.code = cc) (hK : va_K D sC_ (ty_ cA) s) (hP : va_P D sC_ (wd_ ad cA w st) H) (hS : va_S (Aw_ ad) H0 H locs) {i x : Int32} (hin : vp_in i 1201) (hdg : decode cc pc = .ok (.bastore, 1))
    (kk : ∀ (H1 : Heap) (locs1 : List Loc), va_P D sC_ (wd_ ad cA w (ws_1 st 9 i.toNatClampNeg (vp_nar .boolean x))) H1 → va_S (Aw_ ad) H0 H1 locs1 → W p l e R s m args below meth c H1 locs1 cells slots Q (F0 m (pc + 1) ls rest)) : W p l e R s m args below meth c H locs cells slots Q (F0 m pc ls (.int x :: .int i :: .ref (ad 9) :: rest)) :=
  va_zast hx hb hK hP (wd_D hJ) hS 9 9 (wd_at 9 (by decide)) rfl hin hdg (fun H1 locs1 hP1 _ hS1 => kk H1 locs1 (by
    have e := wd_up (ad := ad) (cA := cA) (w := w) (st := st) 9 (by decide) (upd (st 9) i.toNatClampNeg (vp_nar .boolean x))
    have hP2 : va_P D sC_ ((wd_ ad cA w st).set 9 (ad 9, .inl (cA 9, wl_ w 9, .inl (upd (st 9) i.toNatClampNeg (vp_nar .boolean x))))) H1 := hP1
    rw [e] at hP2; exact hP2) hS1)
theorem w_cpy (k j : Nat) (hk : k < 18 ∧ k ≠ 9) (hj : j < 18 ∧ j ≠ 9) (hJ : Jn_ ad) (hx : p.tables.exec = Jvm.exec) (hb : c.code = cc) (hml : c.maxLocals = ls.size) {own : String} {index : Nat} (hown : s.vm.findClass own = some m.cls) (hlink : (Cond.methodLink own index arraycopyName).before args s = true) (hnat : (Cond.native arraycopyName).before args s = true) (hstat : (Cond.static arraycopyName).before args s = true) (hini : (Cond.initialized "java/lang/System").before args s = true)
    (hK : va_K D sC_ (ty_ cA) s) (hP : va_P D sC_ (wd_ ad cA w st) H) (hS : va_S (Aw_ ad) H0 H locs) {sp dp n : Int32} (hc : ¬ sp < 0 ∧ ¬ dp < 0 ∧ ¬ n < 0 ∧ sp.toNatClampNeg + n.toNatClampNeg ≤ wl_ w k ∧ dp.toNatClampNeg + n.toNatClampNeg ≤ wl_ w j)
    (hframes : 1 ≤ R.frames) (hlocals : (rest.map fun v => v.category).sum + (nativeFrameWords "java/lang/System" "arraycopy" 5 + 11) ≤ R.locals) (hdg : decode cc pc = .ok (.invokestatic index, 3))
    (kk : ∀ (H1 : Heap) (locs1 : List Loc), va_P D sC_ (wd_ ad cA w (ws_c st k j sp.toNatClampNeg dp.toNatClampNeg n.toNatClampNeg)) H1 → va_S (Aw_ ad) H0 H1 locs1 → W p l e R s m args below meth c H1 locs1 cells slots Q (F0 m (pc + 3) ls rest)) : W p l e R s m args below meth c H locs cells slots Q (F0 m pc ls (.int n :: .int dp :: .ref (ad j) :: .int sp :: .ref (ad k) :: rest)) :=
  va_copyi hx hb hml hown hlink hnat hstat hini hK hP (wd_D hJ) hS k j k j (ty := .int) (wd_at k hk.1) (wd_at j hj.1) (ty_at k hk) (ty_at j hj) rfl hc.1 hc.2.1 hc.2.2.1 hc.2.2.2.1 hc.2.2.2.2 (fun i _ => rfl) hframes hlocals hdg (fun H1 locs1 hP1 _ hS1 => kk H1 locs1 (by rw [wd_up j hj.1] at hP1; exact hP1) hS1)
theorem w_iret (hx : p.tables.exec = Jvm.exec) (hb : c.code = cc) (hr : meth.sig.returnType = some .int) (hlocks : meth.locks = false) (hP : va_P D sC_ (wd_ ad cA w st) H) (hS : va_S (Aw_ ad) s.heap H locs) {v : Int32} {post : Int32 → St_ → Prop} (h : post v st) (hdg : decode cc pc = .ok (.ireturn, 1)) :
    W p l e R s m args below meth c H locs 0 0 (MQ below (Qi_ D ad cA w post) args s 0 0 (Aw_ ad)) (F0 m pc ls [.int v]) :=
  W.iret (v := v) hx hb hr (fun t ht _ => ⟨⟨v, st, rfl, h, by show va_P D sC_ (wd_ ad cA w st) t.heap; rw [ht]; exact hP⟩, hS.F ht⟩) hS.2.2 hdg hlocks
theorem w_zret (hx : p.tables.exec = Jvm.exec) (hb : c.code = cc) (hr : meth.sig.returnType = some .boolean) {v : Int32} (hn : narrow .boolean (.int v) = .int v) (hlocks : meth.locks = false) (hP : va_P D sC_ (wd_ ad cA w st) H) (hS : va_S (Aw_ ad) s.heap H locs) {post : Int32 → St_ → Prop} (h : post v st) (hdg : decode cc pc = .ok (.ireturn, 1)) :
    W p l e R s m args below meth c H locs 0 0 (MQ below (Qi_ D ad cA w post) args s 0 0 (Aw_ ad)) (F0 m pc ls [.int v]) :=
  W.zret (v := v) hx hb hr hn (fun t ht _ => ⟨⟨v, st, rfl, h, by show va_P D sC_ (wd_ ad cA w st) t.heap; rw [ht]; exact hP⟩, hS.F ht⟩) hS.2.2 hdg hlocks
theorem w_vret (hx : p.tables.exec = Jvm.exec) (hb : c.code = cc) (hr : meth.sig.returnType = none) (hlocks : meth.locks = false) (hP : va_P D sC_ (wd_ ad cA w st) H) (hS : va_S (Aw_ ad) s.heap H locs) {post : St_ → Prop} (h : post st) (hdg : decode cc pc = .ok (.return_, 1)) :
    W p l e R s m args below meth c H locs 0 0 (MQ below (Qv_ D ad cA w post) args s 0 0 (Aw_ ad)) (F0 m pc ls []) :=
  W.vret hx hb hr (fun t ht _ => ⟨⟨st, rfl, h, by show va_P D sC_ (wd_ ad cA w st) t.heap; rw [ht]; exact hP⟩, hS.F ht⟩) hS.2.2 hdg hlocks
variable {y : MethodName} {bytes : ByteArray} {maxL nL index n ci N : Nat} {ret : Option FieldType} {rm : Room} {own C host : String} {As stk : List Value} {fs : List Value} {T : u_T}
theorem wk_in {v : Cond} (hv : v ∈ Wk_) : GoodIn Wk_ (v :: Wk_) := fun q hq => by
  rcases List.mem_cons.mp hq with rfl | h
  · exact ⟨hv, wk_good _ hv⟩
  · exact ⟨h, wk_good _ h⟩
theorem w_runV (qb : Nat) {Qc : Array Value → State → Outcome → State → Prop} (hx : p.tables.exec = Jvm.exec) (hb : c.code = cc) (hml : c.maxLocals = nL) (hown : s.vm.findClass own = some m.cls) (hts : ∀ v ∈ Wk_, v.before args s = true) (hK : va_K D sC_ (ty_ cA) s) (hN : NW_ s) (hP : va_P D sC_ (wd_ ad cA w st) H)
    (hM : Met l y (Cond.code y bytes maxL ret :: Wk_) rm (Pw_ D ad cA w st (.ref (ad qb) :: As)) Qc 0 0 (Aw_ ad)) (hcode : Cond.code y bytes maxL ret ∈ Wk_) (hlink : Cond.methodLink own index y ∈ Wk_) (hinst : Cond.instanceMethod y ∈ Wk_) (hsel : Cond.selects C y y ∈ Wk_) (hini : Cond.initialized C ∈ Wk_)
    (hd : y.cls = C ∧ y.cls ≠ "java/lang/invoke/MethodHandle" ∧ y.cls ≠ "java/lang/invoke/VarHandle" ∧ (parseMethodDescriptor y.desc).map (fun d => d.parameters.length) = some n) (hR : rm.frames + 1 ≤ R.frames ∧ 8 + (maxL + 11) + rm.locals ≤ R.locals) (hrc : rm.cells = 0) (hrs : rm.slots = 0)
    (hob : (wd_ ad cA w st)[qb]? = some (ad qb, .inr (ci, fs))) (hcl : sC_[ci]? = some (C, T, N)) (hn : As.length = n) (hsize : ls.size = nL) (hstk : stk = As.reverse ++ .ref (ad qb) :: rest) (hW : 2 * (F0 m pc ls stk).monitorRoom + (rest.map fun v => v.category).sum ≤ 8) (hdg : decode cc pc = .ok (.invokevirtual index, 3)) (hf : cells + 0 ≤ R.cells ∧ slots + 0 ≤ R.slots) :
    va_Run p l e R s m args below meth c H locs cells slots 0 0 (F0 m pc ls stk) rest (Qc (Value.ref (ad qb) :: As).toArray) (Aw_ ad) := by
  have hG : GoodIn Wk_ (wsV own index C y (Cond.code y bytes maxL ret :: Wk_)) := by
    intro q hq
    have h1 : q ∈ Wk_ := by
      simp only [wsV, List.mem_append, List.mem_cons, List.not_mem_nil, or_false] at hq
      rcases hq with (rfl | rfl | rfl | rfl) | rfl | h
      · exact hlink
      · exact hinst
      · exact hsel
      · exact hini
      · exact hcode
      · exact h
    exact ⟨h1, wk_good _ h1⟩
  exact va_runV (As := As) (rest := rest) ⟨hx, hb, hml, hown, hts⟩ hM (cwV n hts hG rfl hrc hrs hd hR) ⟨fb_, va_recv (q := (C, T, N)) hK hP hcl hob, fun U hU hW => ⟨rfl, by rw [hU]; exact hP, va_K.moved hW.alike hK, NW_moved hW hN⟩⟩ rfl hn hsize hstk hW hdg hf
theorem w_cVi (qb : Nat) {post : Int32 → St_ → Prop} (hx : p.tables.exec = Jvm.exec) (hb : c.code = cc) (hml : c.maxLocals = nL) (hown : s.vm.findClass own = some m.cls) (hts : ∀ v ∈ Wk_, v.before args s = true) (hK : va_K D sC_ (ty_ cA) s) (hN : NW_ s) (hP : va_P D sC_ (wd_ ad cA w st) H) (hS : va_S (Aw_ ad) H0 H locs)
    (hM : Met l y (Cond.code y bytes maxL ret :: Wk_) rm (Pw_ D ad cA w st (.ref (ad qb) :: As)) (Qi_ D ad cA w post) 0 0 (Aw_ ad)) (hcode : Cond.code y bytes maxL ret ∈ Wk_) (hlink : Cond.methodLink own index y ∈ Wk_) (hinst : Cond.instanceMethod y ∈ Wk_) (hsel : Cond.selects C y y ∈ Wk_) (hini : Cond.initialized C ∈ Wk_)
    (hd : y.cls = C ∧ y.cls ≠ "java/lang/invoke/MethodHandle" ∧ y.cls ≠ "java/lang/invoke/VarHandle" ∧ (parseMethodDescriptor y.desc).map (fun d => d.parameters.length) = some n) (hR : rm.frames + 1 ≤ R.frames ∧ 8 + (maxL + 11) + rm.locals ≤ R.locals) (hrc : rm.cells = 0) (hrs : rm.slots = 0)
    (hob : (wd_ ad cA w st)[qb]? = some (ad qb, .inr (ci, fs))) (hcl : sC_[ci]? = some (C, T, N)) (hn : As.length = n) (hsize : ls.size = nL) (hstk : stk = As.reverse ++ .ref (ad qb) :: rest) (hW : 2 * (F0 m pc ls stk).monitorRoom + (rest.map fun v => v.category).sum ≤ 8) (hdg : decode cc pc = .ok (.invokevirtual index, 3)) (hf : cells + 0 ≤ R.cells ∧ slots + 0 ≤ R.slots)
    (kk : ∀ (r : Int32) (u : St_) (H1 : Heap) (locs1 : List Loc), va_P D sC_ (wd_ ad cA w u) H1 → va_S (Aw_ ad) H0 H1 locs1 → post r u → W p l e R s m args below meth c H1 locs1 cells slots Q (F0 m (pc + 3) ls (.int r :: rest))) : W p l e R s m args below meth c H locs cells slots Q (F0 m pc ls stk) :=
  va_calli (w_runV qb hx hb hml hown hts hK hN hP hM hcode hlink hinst hsel hini hd hR hrc hrs hob hcl hn hsize hstk hW hdg hf) hS (fun q _ h => h) (fun q h => h) (fun r u t H1 locs1 ht _ hw hB _ _ hS1 => kk r u H1 locs1 (by rw [← ht]; exact hB) hS1 hw)
theorem w_cVv (qb : Nat) {post : St_ → Prop} (hx : p.tables.exec = Jvm.exec) (hb : c.code = cc) (hml : c.maxLocals = nL) (hown : s.vm.findClass own = some m.cls) (hts : ∀ v ∈ Wk_, v.before args s = true) (hK : va_K D sC_ (ty_ cA) s) (hN : NW_ s) (hP : va_P D sC_ (wd_ ad cA w st) H) (hS : va_S (Aw_ ad) H0 H locs)
    (hM : Met l y (Cond.code y bytes maxL ret :: Wk_) rm (Pw_ D ad cA w st (.ref (ad qb) :: As)) (Qv_ D ad cA w post) 0 0 (Aw_ ad)) (hcode : Cond.code y bytes maxL ret ∈ Wk_) (hlink : Cond.methodLink own index y ∈ Wk_) (hinst : Cond.instanceMethod y ∈ Wk_) (hsel : Cond.selects C y y ∈ Wk_) (hini : Cond.initialized C ∈ Wk_)
    (hd : y.cls = C ∧ y.cls ≠ "java/lang/invoke/MethodHandle" ∧ y.cls ≠ "java/lang/invoke/VarHandle" ∧ (parseMethodDescriptor y.desc).map (fun d => d.parameters.length) = some n) (hR : rm.frames + 1 ≤ R.frames ∧ 8 + (maxL + 11) + rm.locals ≤ R.locals) (hrc : rm.cells = 0) (hrs : rm.slots = 0)
    (hob : (wd_ ad cA w st)[qb]? = some (ad qb, .inr (ci, fs))) (hcl : sC_[ci]? = some (C, T, N)) (hn : As.length = n) (hsize : ls.size = nL) (hstk : stk = As.reverse ++ .ref (ad qb) :: rest) (hW : 2 * (F0 m pc ls stk).monitorRoom + (rest.map fun v => v.category).sum ≤ 8) (hdg : decode cc pc = .ok (.invokevirtual index, 3)) (hf : cells + 0 ≤ R.cells ∧ slots + 0 ≤ R.slots)
    (kk : ∀ (u : St_) (H1 : Heap) (locs1 : List Loc), va_P D sC_ (wd_ ad cA w u) H1 → va_S (Aw_ ad) H0 H1 locs1 → post u → W p l e R s m args below meth c H1 locs1 cells slots Q (F0 m (pc + 3) ls rest)) : W p l e R s m args below meth c H locs cells slots Q (F0 m pc ls stk) :=
  va_callv (w_runV qb hx hb hml hown hts hK hN hP hM hcode hlink hinst hsel hini hd hR hrc hrs hob hcl hn hsize hstk hW hdg hf) hS (fun q _ h => h) (fun q h => h) (fun u t H1 locs1 ht _ hw hB _ _ hS1 => kk u H1 locs1 (by rw [← ht]; exact hB) hS1 hw)
theorem w_cSi {post : Int32 → St_ → Prop} (hx : p.tables.exec = Jvm.exec) (hb : c.code = cc) (hml : c.maxLocals = nL) (hown : s.vm.findClass own = some m.cls) (hts : ∀ v ∈ Wk_, v.before args s = true) (hK : va_K D sC_ (ty_ cA) s) (hN : NW_ s) (hP : va_P D sC_ (wd_ ad cA w st) H) (hS : va_S (Aw_ ad) H0 H locs)
    (hM : Met l y (Cond.code y bytes maxL ret :: Wk_) rm (Pw_ D ad cA w st As) (Qi_ D ad cA w post) 0 0 (Aw_ ad)) (hcode : Cond.code y bytes maxL ret ∈ Wk_) (hlink : Cond.methodLink own index y ∈ Wk_) (hstat : Cond.static y ∈ Wk_) (hini : Cond.initialized own ∈ Wk_)
    (hd : y.cls = own ∧ y.cls ≠ "java/lang/invoke/MethodHandle" ∧ y.cls ≠ "java/lang/invoke/VarHandle" ∧ (parseMethodDescriptor y.desc).map (fun d => d.parameters.length) = some n) (hR : rm.frames + 1 ≤ R.frames ∧ 8 + (maxL + 11) + rm.locals ≤ R.locals) (hrc : rm.cells = 0) (hrs : rm.slots = 0)
    (hn : As.length = n) (hsize : ls.size = nL) (hstk : stk = As.reverse ++ rest) (hW : 2 * (F0 m pc ls stk).monitorRoom + (rest.map fun v => v.category).sum ≤ 8) (hdg : decode cc pc = .ok (.invokestatic index, 3)) (hf : cells + 0 ≤ R.cells ∧ slots + 0 ≤ R.slots)
    (kk : ∀ (r : Int32) (u : St_) (H1 : Heap) (locs1 : List Loc), va_P D sC_ (wd_ ad cA w u) H1 → va_S (Aw_ ad) H0 H1 locs1 → post r u → W p l e R s m args below meth c H1 locs1 cells slots Q (F0 m (pc + 3) ls (.int r :: rest))) : W p l e R s m args below meth c H locs cells slots Q (F0 m pc ls stk) := by
  have hG : GoodIn Wk_ (wsS own index y (Cond.code y bytes maxL ret :: Wk_)) := by
    intro q hq
    have h1 : q ∈ Wk_ := by
      simp only [wsS, List.mem_append, List.mem_cons, List.not_mem_nil, or_false] at hq
      rcases hq with (rfl | rfl | rfl) | rfl | h
      · exact hlink
      · exact hstat
      · exact hini
      · exact hcode
      · exact h
    exact ⟨h1, wk_good _ h1⟩
  exact va_calli (va_runS (As := As) (rest := rest) ⟨hx, hb, hml, hown, hts⟩ hM (cwS n hts hG rfl hrc hrs hd hR) ⟨fb_, fun U hU hW => ⟨rfl, by rw [hU]; exact hP, va_K.moved hW.alike hK, NW_moved hW hN⟩⟩ rfl hn hsize hstk hW hdg hf) hS (fun q _ h => h) (fun q h => h) (fun r u t H1 locs1 ht _ hw hB _ _ hS1 => kk r u H1 locs1 (by rw [← ht]; exact hB) hS1 hw)
theorem w_cNi {post : Int32 → St_ → Prop} (hx : p.tables.exec = Jvm.exec) (hb : c.code = cc) (hml : c.maxLocals = nL) (hown : s.vm.findClass own = some m.cls) (hts : ∀ v ∈ Wk_, v.before args s = true) (hK : va_K D sC_ (ty_ cA) s) (hN : NW_ s) (hP : va_P D sC_ (wd_ ad cA w st) H) (hS : va_S (Aw_ ad) H0 H locs)
    (hM : Met l y (Cond.code y bytes maxL ret :: Wk_) rm (Pw_ D ad cA w st As) (Qi_ D ad cA w post) 0 0 (Aw_ ad)) (hcode : Cond.code y bytes maxL ret ∈ Wk_) (hlink : va_Nw (.methodLinkNest own index y host) s) (hstat : Cond.static y ∈ Wk_) (hini : Cond.initialized y.cls ∈ Wk_)
    (hd : y.cls ≠ "java/lang/invoke/MethodHandle" ∧ y.cls ≠ "java/lang/invoke/VarHandle" ∧ (parseMethodDescriptor y.desc).map (fun d => d.parameters.length) = some n) (hR : rm.frames + 1 ≤ R.frames ∧ 8 + (maxL + 11) + rm.locals ≤ R.locals) (hrc : rm.cells = 0) (hrs : rm.slots = 0)
    (hn : As.length = n) (hsize : ls.size = nL) (hstk : stk = As.reverse ++ rest) (hW : 2 * (F0 m pc ls stk).monitorRoom + (rest.map fun v => v.category).sum ≤ 8) (hdg : decode cc pc = .ok (.invokestatic index, 3)) (hf : cells + 0 ≤ R.cells ∧ slots + 0 ≤ R.slots)
    (kk : ∀ (r : Int32) (u : St_) (H1 : Heap) (locs1 : List Loc), va_P D sC_ (wd_ ad cA w u) H1 → va_S (Aw_ ad) H0 H1 locs1 → post r u → W p l e R s m args below meth c H1 locs1 cells slots Q (F0 m (pc + 3) ls (.int r :: rest))) : W p l e R s m args below meth c H locs cells slots Q (F0 m pc ls stk) :=
  va_calli (va_runSN (As := As) (rest := rest) ⟨hx, hb, hml, hown, hts⟩ hM ⟨va_cnB n hts (wk_in hcode) rfl hrc hrs hlink (hts _ hini) hd hR, hts _ hstat, trivial⟩ ⟨fb_, fun U hU hW => ⟨rfl, by rw [hU]; exact hP, va_K.moved hW.alike hK, NW_moved hW hN⟩⟩ rfl hn hsize hstk hW hdg hf) hS (fun q _ h => h) (fun q h => h) (fun r u t H1 locs1 ht _ hw hB _ _ hS1 => kk r u H1 locs1 (by rw [← ht]; exact hB) hS1 hw)
end WR
end
section
def wp_S_isMap (w : Nat) (x0 : Int32) (st : St_) (post : Int32 → St_ → Prop) : Prop := ((x0 < 0 → post 0 st) ∧ (¬ x0 < 0 → ((8 ≤ x0 → post 0 st) ∧ (¬ 8 ≤ x0 → post 1 st))))
def wp_S_isKey (w : Nat) (x0 : Int32) (st : St_) (post : Int32 → St_ → Prop) : Prop := ((x0 < 0 → post 0 st) ∧ (¬ x0 < 0 → ((4095 < x0 → post 0 st) ∧ (¬ 4095 < x0 → post 1 st))))
def wp_S_isStamp (w : Nat) (x0 : Int32) (st : St_) (post : Int32 → St_ → Prop) : Prop := ((x0 < 0 → post 0 st) ∧ (¬ x0 < 0 → ((1000000000 < x0 → post 0 st) ∧ (¬ 1000000000 < x0 → post 1 st))))
def wp_B_isBlock (w : Nat) (x1 : Int32) (st : St_) (post : Int32 → St_ → Prop) : Prop := ((x1 ≤ 0 → post 0 st) ∧ (¬ x1 ≤ 0 → ((1200 < x1 → post 0 st) ∧ (¬ 1200 < x1 → post 1 st))))
def wp_B_level (w : Nat) (x1 : Int32) (st : St_) (post : Int32 → St_ → Prop) : Prop := wp_B_isBlock w x1 st (fun (r102 : Int32) (st101 : St_) => ((r102 = 0 → post 0 st101) ∧ (¬ r102 = 0 → vp_in x1 1201 ∧ (post (st101 1 (x1).toNatClampNeg) st101))))
def wp_B_size (w : Nat) (x1 : Int32) (st : St_) (post : Int32 → St_ → Prop) : Prop := wp_B_isBlock w x1 st (fun (r102 : Int32) (st101 : St_) => ((r102 = 0 → post 0 st101) ∧ (¬ r102 = 0 → vp_in x1 1201 ∧ (post (st101 2 (x1).toNatClampNeg) st101))))
def wp_B_slotOf_24 (w : Nat) (post : Int32 → St_ → Prop) : Nat → Int32 → Int32 → Int32 → Int32 → Int32 → St_ → Prop
  | 0, _, _, _, _, _, _ => False
  | n + 1, y1, y2, y3, y4, y5, st => ((y5 ≤ (y3 + 1) → post y3 st) ∧ (¬ y5 ≤ (y3 + 1) → vp_in ((y4 + y3) + 1) (1201 * w) ∧ (((y2 < (st 3 (((y4 + y3) + 1)).toNatClampNeg) → post y3 st) ∧ (¬ y2 < (st 3 (((y4 + y3) + 1)).toNatClampNeg) → ∀ x105 : Int32, x105 = y3 + 1 → (wp_B_slotOf_24 w post n y1 y2 x105 y4 y5 st))))))
def wp_B_slotOf (w : Nat) (x1 : Int32) (x2 : Int32) (st : St_) (post : Int32 → St_ → Prop) : Prop := ∀ x101 : Int32, x101 = (x1 * (nI w)) → (wp_B_size w x1 st (fun (r103 : Int32) (st102 : St_) => ∀ x104 : Int32, x104 = (if (nI w) < r103 then (nI w) else r103) → ((∃ n, wp_B_slotOf_24 w post n x1 x2 (-1) x101 x104 st102))))
def wp_B_isEntry (w : Nat) (x1 : Int32) (x2 : Int32) (st : St_) (post : Int32 → St_ → Prop) : Prop := wp_B_isBlock w x1 st (fun (r102 : Int32) (st101 : St_) => ((r102 = 0 → post 0 st101) ∧ (¬ r102 = 0 → ((x2 < 0 → post 0 st101) ∧ (¬ x2 < 0 → (((nI w) ≤ x2 → post 0 st101) ∧ (¬ (nI w) ≤ x2 → vp_in x1 1201 ∧ ((((st101 2 (x1).toNatClampNeg) ≤ x2 → post 0 st101) ∧ (¬ (st101 2 (x1).toNatClampNeg) ≤ x2 → post 1 st101))))))))))
def wp_B_key (w : Nat) (x1 : Int32) (x2 : Int32) (st : St_) (post : Int32 → St_ → Prop) : Prop := wp_B_isEntry w x1 x2 st (fun (r102 : Int32) (st101 : St_) => ((r102 = 0 → post (-2) st101) ∧ (¬ r102 = 0 → vp_in ((x1 * (nI w)) + x2) (1201 * w) ∧ (post (st101 3 (((x1 * (nI w)) + x2)).toNatClampNeg) st101))))
def wp_B_goal (w : Nat) (x1 : Int32) (x2 : Int32) (st : St_) (post : Int32 → St_ → Prop) : Prop := wp_B_isEntry w x1 x2 st (fun (r102 : Int32) (st101 : St_) => ((r102 = 0 → post 0 st101) ∧ (¬ r102 = 0 → vp_in ((x1 * (nI w)) + x2) (1201 * w) ∧ (post (st101 4 (((x1 * (nI w)) + x2)).toNatClampNeg) st101))))
def wp_T_slotToward (w : Nat) (x1 : Int32) (x2 : Int32) (st : St_) (post : Int32 → St_ → Prop) : Prop := wp_B_slotOf w x1 x2 st (fun (r102 : Int32) (st101 : St_) => post (if 0 < r102 then r102 else 0) st101)
def wp_T_stampOf_12 (w : Nat) (post : Int32 → St_ → Prop) : Nat → Int32 → Int32 → Int32 → Int32 → St_ → Prop
  | 0, _, _, _, _, _ => False
  | n + 1, y1, y2, y3, y4, st => ((y4 ≤ 0 → wp_B_slotOf w y3 y2 st (fun (r104 : Int32) (st103 : St_) => wp_B_key w y3 r104 st103 (fun (r106 : Int32) (st105 : St_) => ((¬ r106 = y2 → post (-2) st105) ∧ (r106 = y2 → wp_B_goal w y3 r104 st105 (fun (r108 : Int32) (st107 : St_) => post r108 st107)))))) ∧ (¬ y4 ≤ 0 → wp_T_slotToward w y3 y2 st (fun (r110 : Int32) (st109 : St_) => wp_B_goal w y3 r110 st109 (fun (r112 : Int32) (st111 : St_) => ∀ x113 : Int32, x113 = y4 + (-1) → (wp_T_stampOf_12 w post n y1 y2 r112 x113 st111)))))
def wp_T_stampOf (w : Nat) (x1 : Int32) (x2 : Int32) (st : St_) (post : Int32 → St_ → Prop) : Prop := wp_B_level w x1 st (fun (r102 : Int32) (st101 : St_) => (∃ n, wp_T_stampOf_12 w post n x1 x2 x1 r102 st101))
def wp_B_ways (w : Nat) (x1 : Int32) (st : St_) (post : Int32 → St_ → Prop) : Prop := wp_B_isBlock w x1 st (fun (r102 : Int32) (st101 : St_) => ((r102 = 0 → post 0 st101) ∧ (¬ r102 = 0 → vp_in x1 1201 ∧ (post (st101 0 (x1).toNatClampNeg) st101))))
def wp_B_take (w : Nat) (x1 : Int32) (st : St_) (post : Int32 → St_ → Prop) : Prop := (((st 18 0) ≤ 0 → post 0 st) ∧ (¬ (st 18 0) ≤ 0 → (((st 18 0) ≤ 1200 → ∀ st101 : St_, st101 = ws_1 st 18 0 ((st 18 0) - 1) → (vp_in (st101 18 0) 1200 ∧ (∀ x102 : Int32, x102 = (st101 5 ((st101 18 0)).toNatClampNeg) → (wp_B_isBlock w x102 st101 (fun (r104 : Int32) (st103 : St_) => ((r104 = 0 → post x102 st103) ∧ (¬ r104 = 0 → vp_in x102 1201 ∧ (∀ st105 : St_, st105 = ws_1 st103 0 (x102).toNatClampNeg 1 → (vp_in x102 1201 ∧ (∀ st106 : St_, st106 = ws_1 st105 1 (x102).toNatClampNeg x1 → (vp_in x102 1201 ∧ (∀ st107 : St_, st107 = ws_1 st106 2 (x102).toNatClampNeg 0 → (post x102 st107))))))))))))) ∧ (¬ (st 18 0) ≤ 1200 → post 0 st))))
def wp_B_lose (w : Nat) (x1 : Int32) (st : St_) (post : Int32 → St_ → Prop) : Prop := wp_B_isBlock w x1 st (fun (r102 : Int32) (st101 : St_) => ((r102 = 0 → post 0 st101) ∧ (¬ r102 = 0 → vp_in x1 1201 ∧ (((0 < (st101 0 (x1).toNatClampNeg) → vp_in x1 1201 ∧ (vp_in x1 1201 ∧ (∀ st103 : St_, st103 = ws_1 st101 0 (x1).toNatClampNeg ((st101 0 (x1).toNatClampNeg) - 1) → (vp_in x1 1201 ∧ (((¬ (st103 0 (x1).toNatClampNeg) = 0 → post 0 st103) ∧ ((st103 0 (x1).toNatClampNeg) = 0 → post 1 st103))))))) ∧ (¬ 0 < (st101 0 (x1).toNatClampNeg) → post 0 st101))))))
def wp_B_insert (w : Nat) (x1 : Int32) (x2 : Int32) (x3 : Int32) (x4 : Int32) (st : St_) (post : St_ → Prop) : Prop := wp_B_size w x1 st (fun (r102 : Int32) (st101 : St_) => wp_B_isBlock w x1 st101 (fun (r104 : Int32) (st103 : St_) => ((r104 = 0 → post st103) ∧ (¬ r104 = 0 → ((x2 < 0 → post st103) ∧ (¬ x2 < 0 → ((r102 < x2 → post st103) ∧ (¬ r102 < x2 → ((r102 < (nI w) → ∀ x105 : Int32, x105 = ((x1 * (nI w)) + x2) → ((¬ x105 < 0 ∧ ¬ (x105 + 1) < 0 ∧ ¬ (r102 - x2) < 0 ∧ (x105).toNatClampNeg + ((r102 - x2)).toNatClampNeg ≤ (1201 * w) ∧ ((x105 + 1)).toNatClampNeg + ((r102 - x2)).toNatClampNeg ≤ (1201 * w)) ∧ (∀ st106 : St_, st106 = ws_c st103 3 3 (x105).toNatClampNeg ((x105 + 1)).toNatClampNeg ((r102 - x2)).toNatClampNeg → ((¬ x105 < 0 ∧ ¬ (x105 + 1) < 0 ∧ ¬ (r102 - x2) < 0 ∧ (x105).toNatClampNeg + ((r102 - x2)).toNatClampNeg ≤ (1201 * w) ∧ ((x105 + 1)).toNatClampNeg + ((r102 - x2)).toNatClampNeg ≤ (1201 * w)) ∧ (∀ st107 : St_, st107 = ws_c st106 4 4 (x105).toNatClampNeg ((x105 + 1)).toNatClampNeg ((r102 - x2)).toNatClampNeg → (vp_in x105 (1201 * w) ∧ (∀ st108 : St_, st108 = ws_1 st107 3 (x105).toNatClampNeg x3 → (vp_in x105 (1201 * w) ∧ (∀ st109 : St_, st109 = ws_1 st108 4 (x105).toNatClampNeg x4 → (vp_in x1 1201 ∧ (∀ st110 : St_, st110 = ws_1 st109 2 (x1).toNatClampNeg (r102 + 1) → (post st110)))))))))))) ∧ (¬ r102 < (nI w) → post st103))))))))))
def wp_B_share (w : Nat) (x1 : Int32) (st : St_) (post : St_ → Prop) : Prop := wp_B_isBlock w x1 st (fun (r102 : Int32) (st101 : St_) => ((r102 = 0 → post st101) ∧ (¬ r102 = 0 → vp_in x1 1201 ∧ (vp_in x1 1201 ∧ (∀ st103 : St_, st103 = ws_1 st101 0 (x1).toNatClampNeg ((st101 0 (x1).toNatClampNeg) + 1) → (post st103))))))
def wp_B_owned_23 (w : Nat) (post : Int32 → St_ → Prop) : Nat → Int32 → Int32 → Int32 → St_ → Prop
  | 0, _, _, _, _ => False
  | n + 1, y1, y2, y3, st => wp_B_size w y1 st (fun (r108 : Int32) (st107 : St_) => ((r108 ≤ y3 → wp_B_lose w y1 st107 (fun (r110 : Int32) (st109 : St_) => post y2 st109)) ∧ (¬ r108 ≤ y3 → wp_B_key w y1 y3 st107 (fun (r112 : Int32) (st111 : St_) => wp_B_goal w y1 y3 st111 (fun (r114 : Int32) (st113 : St_) => wp_B_insert w y2 y3 r112 r114 st113 (fun (st115 : St_) => wp_B_level w y1 st115 (fun (r117 : Int32) (st116 : St_) => ((r117 ≤ 0 → ∀ x118 : Int32, x118 = y3 + 1 → (wp_B_owned_23 w post n y1 y2 x118 st116)) ∧ (¬ r117 ≤ 0 → wp_B_goal w y1 y3 st116 (fun (r120 : Int32) (st119 : St_) => wp_B_share w r120 st119 (fun (st121 : St_) => ∀ x122 : Int32, x122 = y3 + 1 → (wp_B_owned_23 w post n y1 y2 x122 st121))))))))))))
def wp_B_owned (w : Nat) (x1 : Int32) (st : St_) (post : Int32 → St_ → Prop) : Prop := wp_B_ways w x1 st (fun (r102 : Int32) (st101 : St_) => ((1 < r102 → wp_B_level w x1 st101 (fun (r104 : Int32) (st103 : St_) => wp_B_take w r104 st103 (fun (r106 : Int32) (st105 : St_) => (∃ n, wp_B_owned_23 w post n x1 r106 0 st105)))) ∧ (¬ 1 < r102 → post x1 st101)))
def wp_B_setGoal (w : Nat) (x1 : Int32) (x2 : Int32) (x3 : Int32) (st : St_) (post : St_ → Prop) : Prop := wp_B_isEntry w x1 x2 st (fun (r102 : Int32) (st101 : St_) => ((r102 = 0 → post st101) ∧ (¬ r102 = 0 → vp_in ((x1 * (nI w)) + x2) (1201 * w) ∧ (∀ st103 : St_, st103 = ws_1 st101 4 (((x1 * (nI w)) + x2)).toNatClampNeg x3 → (post st103)))))
def wp_T_ownedChild (w : Nat) (x1 : Int32) (x2 : Int32) (st : St_) (post : Int32 → St_ → Prop) : Prop := wp_B_goal w x1 x2 st (fun (r102 : Int32) (st101 : St_) => wp_B_owned w r102 st101 (fun (r104 : Int32) (st103 : St_) => wp_B_setGoal w x1 x2 r104 st103 (fun (st105 : St_) => post r104 st105)))
def wp_B_setKey (w : Nat) (x1 : Int32) (x2 : Int32) (x3 : Int32) (st : St_) (post : St_ → Prop) : Prop := wp_B_isEntry w x1 x2 st (fun (r102 : Int32) (st101 : St_) => ((r102 = 0 → post st101) ∧ (¬ r102 = 0 → vp_in ((x1 * (nI w)) + x2) (1201 * w) ∧ (∀ st103 : St_, st103 = ws_1 st101 3 (((x1 * (nI w)) + x2)).toNatClampNeg x3 → (post st103)))))
def wp_B_moveTail_3 (w : Nat) (post : St_ → Prop) : Nat → Int32 → Int32 → Int32 → Int32 → St_ → Prop
  | 0, _, _, _, _, _ => False
  | n + 1, y1, y2, y3, y4, st => wp_B_size w y1 st (fun (r102 : Int32) (st101 : St_) => ((r102 ≤ y4 → wp_B_isBlock w y1 st101 (fun (r104 : Int32) (st103 : St_) => ((r104 = 0 → post st103) ∧ (¬ r104 = 0 → ((y2 < 0 → post st103) ∧ (¬ y2 < 0 → vp_in y1 1201 ∧ ((((st103 2 (y1).toNatClampNeg) ≤ y2 → post st103) ∧ (¬ (st103 2 (y1).toNatClampNeg) ≤ y2 → vp_in y1 1201 ∧ (∀ st105 : St_, st105 = ws_1 st103 2 (y1).toNatClampNeg y2 → (post st105))))))))))) ∧ (¬ r102 ≤ y4 → wp_B_size w y3 st101 (fun (r107 : Int32) (st106 : St_) => wp_B_key w y1 y4 st106 (fun (r109 : Int32) (st108 : St_) => wp_B_goal w y1 y4 st108 (fun (r111 : Int32) (st110 : St_) => wp_B_insert w y3 r107 r109 r111 st110 (fun (st112 : St_) => ∀ x113 : Int32, x113 = y4 + 1 → (wp_B_moveTail_3 w post n y1 y2 y3 x113 st112))))))))
def wp_B_moveTail (w : Nat) (x1 : Int32) (x2 : Int32) (x3 : Int32) (st : St_) (post : St_ → Prop) : Prop := (∃ n, wp_B_moveTail_3 w post n x1 x2 x3 x2 st)
def wp_T_split (w : Nat) (x1 : Int32) (x2 : Int32) (st : St_) (post : St_ → Prop) : Prop := wp_B_goal w x1 x2 st (fun (r102 : Int32) (st101 : St_) => wp_B_level w r102 st101 (fun (r104 : Int32) (st103 : St_) => wp_B_take w r104 st103 (fun (r106 : Int32) (st105 : St_) => wp_B_moveTail w r102 (nI (w / 2)) r106 st105 (fun (st107 : St_) => wp_B_key w r106 0 st107 (fun (r109 : Int32) (st108 : St_) => wp_B_insert w x1 (x2 + 1) r109 r106 st108 (fun (st110 : St_) => post st110))))))
def wp_T_putInLeaf (w : Nat) (x1 : Int32) (x2 : Int32) (x3 : Int32) (st : St_) (post : St_ → Prop) : Prop := wp_B_slotOf w x1 x2 st (fun (r102 : Int32) (st101 : St_) => wp_B_key w x1 r102 st101 (fun (r104 : Int32) (st103 : St_) => ((¬ r104 = x2 → wp_B_insert w x1 (r102 + 1) x2 x3 st103 (fun (st105 : St_) => post st105)) ∧ (r104 = x2 → wp_B_setGoal w x1 r102 x3 st103 (fun (st106 : St_) => post st106)))))
def wp_T_putBelow (w : Nat) : Nat → Int32 → Int32 → Int32 → Int32 → St_ → (St_ → Prop) → Prop
  | 0, _, _, _, _, _, _ => False
  | d + 1, x1, x2, x3, x4, st, post => ((x2 ≤ 16 → ((0 < x2 → wp_T_slotToward w x1 x3 st (fun (r102 : Int32) (st101 : St_) => wp_T_ownedChild w x1 r102 st101 (fun (r104 : Int32) (st103 : St_) => (wp_T_putBelow w d) r104 (x2 - 1) x3 x4 st103 (fun (st105 : St_) => wp_B_key w r104 0 st105 (fun (r107 : Int32) (st106 : St_) => wp_B_setKey w x1 r102 r107 st106 (fun (st108 : St_) => wp_B_size w r104 st108 (fun (r110 : Int32) (st109 : St_) => ((r110 ≤ (nI (w - 1)) → post st109) ∧ (¬ r110 ≤ (nI (w - 1)) → wp_T_split w x1 r102 st109 (fun (st111 : St_) => post st111)))))))))) ∧ (¬ 0 < x2 → wp_T_putInLeaf w x1 x3 x4 st (fun (st112 : St_) => post st112)))) ∧ (¬ x2 ≤ 16 → post st))
def wp_T_grown (w : Nat) (x1 : Int32) (st : St_) (post : Int32 → St_ → Prop) : Prop := wp_B_level w x1 st (fun (r102 : Int32) (st101 : St_) => wp_B_take w (r102 + 1) st101 (fun (r104 : Int32) (st103 : St_) => wp_B_key w x1 0 st103 (fun (r106 : Int32) (st105 : St_) => wp_B_insert w r104 0 r106 x1 st105 (fun (st107 : St_) => wp_T_split w r104 0 st107 (fun (st108 : St_) => post r104 st108)))))
def wp_T_with (w : Nat) (x1 : Int32) (x2 : Int32) (x3 : Int32) (st : St_) (post : Int32 → St_ → Prop) : Prop := ((¬ x1 = 0 → wp_B_owned w x1 st (fun (r102 : Int32) (st101 : St_) => wp_B_level w r102 st101 (fun (r104 : Int32) (st103 : St_) => wp_T_putBelow w 20 r102 r104 x2 x3 st103 (fun (st105 : St_) => wp_B_size w r102 st105 (fun (r107 : Int32) (st106 : St_) => ((r107 ≤ (nI (w - 1)) → post r102 st106) ∧ (¬ r107 ≤ (nI (w - 1)) → wp_T_grown w r102 st106 (fun (r109 : Int32) (st108 : St_) => post r109 st108)))))))) ∧ (x1 = 0 → wp_B_take w 0 st (fun (r111 : Int32) (st110 : St_) => wp_B_level w r111 st110 (fun (r113 : Int32) (st112 : St_) => wp_T_putBelow w 20 r111 r113 x2 x3 st112 (fun (st114 : St_) => wp_B_size w r111 st114 (fun (r116 : Int32) (st115 : St_) => ((r116 ≤ (nI (w - 1)) → post r111 st115) ∧ (¬ r116 ≤ (nI (w - 1)) → wp_T_grown w r111 st115 (fun (r118 : Int32) (st117 : St_) => post r118 st117)))))))))
def wp_S_write (w : Nat) (x1 : Int32) (x2 : Int32) (x3 : Int32) (st : St_) (post : Int32 → St_ → Prop) : Prop := wp_S_isMap w x1 st (fun (r102 : Int32) (st101 : St_) => ((r102 = 0 → post (-1) st101) ∧ (¬ r102 = 0 → wp_S_isKey w x2 st101 (fun (r104 : Int32) (st103 : St_) => ((r104 = 0 → post (-1) st103) ∧ (¬ r104 = 0 → wp_S_isStamp w x3 st103 (fun (r106 : Int32) (st105 : St_) => ((¬ r106 = 0 → vp_in x1 8 ∧ (wp_T_stampOf w (st105 10 (x1).toNatClampNeg) x2 st105 (fun (r108 : Int32) (st107 : St_) => ((¬ r108 = (-2) → vp_in x1 8 ∧ (wp_T_with w (st107 10 (x1).toNatClampNeg) x2 x3 st107 (fun (r110 : Int32) (st109 : St_) => vp_in x1 8 ∧ (∀ st111 : St_, st111 = ws_1 st109 10 (x1).toNatClampNeg r110 → (vp_in x1 8 ∧ (post (st111 11 (x1).toNatClampNeg) st111)))))) ∧ (r108 = (-2) → (((st107 19 0) < 600 → vp_in x1 8 ∧ (wp_T_with w (st107 10 (x1).toNatClampNeg) x2 x3 st107 (fun (r113 : Int32) (st112 : St_) => vp_in x1 8 ∧ (∀ st114 : St_, st114 = ws_1 st112 10 (x1).toNatClampNeg r113 → (vp_in x1 8 ∧ (vp_in x1 8 ∧ (∀ st115 : St_, st115 = ws_1 st114 11 (x1).toNatClampNeg ((st114 11 (x1).toNatClampNeg) + 1) → (∀ st116 : St_, st116 = ws_1 st115 19 0 ((st115 19 0) + 1) → (vp_in x1 8 ∧ (post (st116 11 (x1).toNatClampNeg) st116)))))))))) ∧ (¬ (st107 19 0) < 600 → post (-3) st107))))))) ∧ (r106 = 0 → post (-1) st105)))))))))
def wp_R_isMap (w : Nat) (x0 : Int32) (st : St_) (post : Int32 → St_ → Prop) : Prop := ((x0 < 0 → post 0 st) ∧ (¬ x0 < 0 → ((8 ≤ x0 → post 0 st) ∧ (¬ 8 ≤ x0 → post 1 st))))
def wp_R_isKey (w : Nat) (x0 : Int32) (st : St_) (post : Int32 → St_ → Prop) : Prop := ((x0 < 0 → post 0 st) ∧ (¬ x0 < 0 → ((4096 ≤ x0 → post 0 st) ∧ (¬ 4096 ≤ x0 → post 1 st))))
def wp_R_isStamp (w : Nat) (x0 : Int32) (st : St_) (post : Int32 → St_ → Prop) : Prop := ((x0 < 0 → post 0 st) ∧ (¬ x0 < 0 → ((1000000000 < x0 → post 0 st) ∧ (¬ 1000000000 < x0 → post 1 st))))
def wp_R_all_4 (w : Nat) (post : Int32 → St_ → Prop) : Nat → Int32 → Int32 → St_ → Prop
  | 0, _, _, _ => False
  | n + 1, y1, y2, st => ((8 ≤ y2 → post y1 st) ∧ (¬ 8 ≤ y2 → vp_in y2 8 ∧ (∀ x101 : Int32, x101 = (y1 + (st 16 (y2).toNatClampNeg)) → (∀ x102 : Int32, x102 = y2 + 1 → (wp_R_all_4 w post n x101 x102 st)))))
def wp_R_all (w : Nat) (st : St_) (post : Int32 → St_ → Prop) : Prop := (∃ n, wp_R_all_4 w post n 0 0 st)
def wp_R_write (w : Nat) (x1 : Int32) (x2 : Int32) (x3 : Int32) (st : St_) (post : Int32 → St_ → Prop) : Prop := wp_R_isMap w x1 st (fun (r102 : Int32) (st101 : St_) => ((r102 = 0 → post (-1) st101) ∧ (¬ r102 = 0 → wp_R_isKey w x2 st101 (fun (r104 : Int32) (st103 : St_) => ((r104 = 0 → post (-1) st103) ∧ (¬ r104 = 0 → wp_R_isStamp w x3 st103 (fun (r106 : Int32) (st105 : St_) => ((¬ r106 = 0 → ∀ x107 : Int32, x107 = ((4096 * x1) + x2) → (vp_in x107 32768 ∧ (((¬ (st105 14 (x107).toNatClampNeg) = 0 → vp_in x107 32768 ∧ (∀ st108 : St_, st108 = ws_1 st105 14 (x107).toNatClampNeg (x3 + 1) → (vp_in x1 8 ∧ (post (st108 16 (x1).toNatClampNeg) st108)))) ∧ ((st105 14 (x107).toNatClampNeg) = 0 → wp_R_all w st105 (fun (r110 : Int32) (st109 : St_) => ((¬ r110 = 600 → vp_in x1 8 ∧ (vp_in x1 8 ∧ (∀ st111 : St_, st111 = ws_1 st109 16 (x1).toNatClampNeg ((st109 16 (x1).toNatClampNeg) + 1) → (vp_in x107 32768 ∧ (∀ st112 : St_, st112 = ws_1 st111 14 (x107).toNatClampNeg (x3 + 1) → (vp_in x1 8 ∧ (post (st112 16 (x1).toNatClampNeg) st112))))))) ∧ (r110 = 600 → post (-3) st109)))))))) ∧ (r106 = 0 → post (-1) st105)))))))))
def wp_S_spread_54 (w : Nat) (post : Int32 → St_ → Prop) : Nat → Int32 → Int32 → Int32 → Int32 → Int32 → Int32 → St_ → Prop
  | 0, _, _, _, _, _, _, _ => False
  | n + 1, y1, y2, y3, y4, y5, y6, st => ((y4 ≤ y6 → post y6 st) ∧ (¬ y4 ≤ y6 → wp_S_write w y1 (y2 + (y6 * y3)) (y5 + y6) st (fun (r108 : Int32) (st107 : St_) => ((r108 < 0 → post y6 st107) ∧ (¬ r108 < 0 → ∀ x109 : Int32, x109 = y6 + 1 → (wp_S_spread_54 w post n y1 y2 y3 y4 y5 x109 st107))))))
def wp_S_spread (w : Nat) (x1 : Int32) (x2 : Int32) (x3 : Int32) (x4 : Int32) (x5 : Int32) (st : St_) (post : Int32 → St_ → Prop) : Prop := wp_S_isMap w x1 st (fun (r102 : Int32) (st101 : St_) => ((r102 = 0 → post (-1) st101) ∧ (¬ r102 = 0 → wp_S_isKey w x2 st101 (fun (r104 : Int32) (st103 : St_) => ((r104 = 0 → post (-1) st103) ∧ (¬ r104 = 0 → wp_S_isStamp w x5 st103 (fun (r106 : Int32) (st105 : St_) => ((¬ r106 = 0 → ((x3 < 1 → post (-1) st105) ∧ (¬ x3 < 1 → ((4095 < x3 → post (-1) st105) ∧ (¬ 4095 < x3 → ((x4 < 0 → post (-1) st105) ∧ (¬ x4 < 0 → ((x4 ≤ 600 → (∃ n, wp_S_spread_54 w post n x1 x2 x3 x4 x5 0 st105)) ∧ (¬ x4 ≤ 600 → post (-1) st105))))))))) ∧ (r106 = 0 → post (-1) st105)))))))))
def wp_R_spread_52 (w : Nat) (post : Int32 → St_ → Prop) : Nat → Int32 → Int32 → Int32 → Int32 → Int32 → Int32 → St_ → Prop
  | 0, _, _, _, _, _, _, _ => False
  | n + 1, y1, y2, y3, y4, y5, y6, st => ((y4 ≤ y6 → post y6 st) ∧ (¬ y4 ≤ y6 → wp_R_write w y1 (y2 + (y6 * y3)) (y5 + y6) st (fun (r108 : Int32) (st107 : St_) => ((r108 < 0 → post y6 st107) ∧ (¬ r108 < 0 → ∀ x109 : Int32, x109 = y6 + 1 → (wp_R_spread_52 w post n y1 y2 y3 y4 y5 x109 st107))))))
def wp_R_spread (w : Nat) (x1 : Int32) (x2 : Int32) (x3 : Int32) (x4 : Int32) (x5 : Int32) (st : St_) (post : Int32 → St_ → Prop) : Prop := wp_R_isMap w x1 st (fun (r102 : Int32) (st101 : St_) => ((r102 = 0 → post (-1) st101) ∧ (¬ r102 = 0 → wp_R_isKey w x2 st101 (fun (r104 : Int32) (st103 : St_) => ((r104 = 0 → post (-1) st103) ∧ (¬ r104 = 0 → ((x3 < 1 → post (-1) st103) ∧ (¬ x3 < 1 → ((4095 < x3 → post (-1) st103) ∧ (¬ 4095 < x3 → ((x4 < 0 → post (-1) st103) ∧ (¬ x4 < 0 → ((600 < x4 → post (-1) st103) ∧ (¬ 600 < x4 → wp_R_isStamp w x5 st103 (fun (r106 : Int32) (st105 : St_) => ((¬ r106 = 0 → (∃ n, wp_R_spread_52 w post n x1 x2 x3 x4 x5 0 st105)) ∧ (r106 = 0 → post (-1) st105)))))))))))))))))
def wp_S_read (w : Nat) (x1 : Int32) (x2 : Int32) (st : St_) (post : Int32 → St_ → Prop) : Prop := wp_S_isMap w x1 st (fun (r102 : Int32) (st101 : St_) => ((r102 = 0 → post (-1) st101) ∧ (¬ r102 = 0 → wp_S_isKey w x2 st101 (fun (r104 : Int32) (st103 : St_) => ((¬ r104 = 0 → vp_in x1 8 ∧ (wp_T_stampOf w (st103 10 (x1).toNatClampNeg) x2 st103 (fun (r106 : Int32) (st105 : St_) => post r106 st105))) ∧ (r104 = 0 → post (-1) st103))))))
def wp_R_read (w : Nat) (x1 : Int32) (x2 : Int32) (st : St_) (post : Int32 → St_ → Prop) : Prop := wp_R_isMap w x1 st (fun (r102 : Int32) (st101 : St_) => ((r102 = 0 → post (-1) st101) ∧ (¬ r102 = 0 → wp_R_isKey w x2 st101 (fun (r104 : Int32) (st103 : St_) => ((¬ r104 = 0 → vp_in ((4096 * x1) + x2) 32768 ∧ (∀ x105 : Int32, x105 = (st103 14 (((4096 * x1) + x2)).toNatClampNeg) → (((¬ x105 = 0 → post (x105 - 1) st103) ∧ (x105 = 0 → post (-2) st103))))) ∧ (r104 = 0 → post (-1) st103))))))
def wp_B_remove (w : Nat) (x1 : Int32) (x2 : Int32) (st : St_) (post : St_ → Prop) : Prop := wp_B_size w x1 st (fun (r102 : Int32) (st101 : St_) => wp_B_isEntry w x1 x2 st101 (fun (r104 : Int32) (st103 : St_) => ((r104 = 0 → post st103) ∧ (¬ r104 = 0 → ((r102 ≤ (nI w) → ∀ x105 : Int32, x105 = ((x1 * (nI w)) + x2) → ((¬ (x105 + 1) < 0 ∧ ¬ x105 < 0 ∧ ¬ ((r102 - x2) - 1) < 0 ∧ ((x105 + 1)).toNatClampNeg + (((r102 - x2) - 1)).toNatClampNeg ≤ (1201 * w) ∧ (x105).toNatClampNeg + (((r102 - x2) - 1)).toNatClampNeg ≤ (1201 * w)) ∧ (∀ st106 : St_, st106 = ws_c st103 3 3 ((x105 + 1)).toNatClampNeg (x105).toNatClampNeg (((r102 - x2) - 1)).toNatClampNeg → ((¬ (x105 + 1) < 0 ∧ ¬ x105 < 0 ∧ ¬ ((r102 - x2) - 1) < 0 ∧ ((x105 + 1)).toNatClampNeg + (((r102 - x2) - 1)).toNatClampNeg ≤ (1201 * w) ∧ (x105).toNatClampNeg + (((r102 - x2) - 1)).toNatClampNeg ≤ (1201 * w)) ∧ (∀ st107 : St_, st107 = ws_c st106 4 4 ((x105 + 1)).toNatClampNeg (x105).toNatClampNeg (((r102 - x2) - 1)).toNatClampNeg → (vp_in x1 1201 ∧ (∀ st108 : St_, st108 = ws_1 st107 2 (x1).toNatClampNeg (r102 - 1) → (post st108)))))))) ∧ (¬ r102 ≤ (nI w) → post st103))))))
def wp_T_moveEntry (w : Nat) (x1 : Int32) (x2 : Int32) (x3 : Int32) (x4 : Int32) (st : St_) (post : St_ → Prop) : Prop := wp_B_key w x1 x2 st (fun (r102 : Int32) (st101 : St_) => wp_B_goal w x1 x2 st101 (fun (r104 : Int32) (st103 : St_) => wp_B_insert w x3 x4 r102 r104 st103 (fun (st105 : St_) => wp_B_remove w x1 x2 st105 (fun (st106 : St_) => post st106))))
def wp_B_give (w : Nat) (x1 : Int32) (st : St_) (post : St_ → Prop) : Prop := wp_B_isBlock w x1 st (fun (r102 : Int32) (st101 : St_) => ((r102 = 0 → post st101) ∧ (¬ r102 = 0 → (((st101 18 0) < 0 → post st101) ∧ (¬ (st101 18 0) < 0 → ((1200 ≤ (st101 18 0) → post st101) ∧ (¬ 1200 ≤ (st101 18 0) → vp_in x1 1201 ∧ (∀ st103 : St_, st103 = ws_1 st101 0 (x1).toNatClampNeg 0 → (vp_in x1 1201 ∧ (∀ st104 : St_, st104 = ws_1 st103 1 (x1).toNatClampNeg 0 → (vp_in x1 1201 ∧ (∀ st105 : St_, st105 = ws_1 st104 2 (x1).toNatClampNeg 0 → (vp_in (st105 18 0) 1200 ∧ (∀ st106 : St_, st106 = ws_1 st105 5 ((st105 18 0)).toNatClampNeg x1 → (∀ st107 : St_, st107 = ws_1 st106 18 0 ((st106 18 0) + 1) → (post st107))))))))))))))))
def wp_T_fill (w : Nat) (x1 : Int32) (x2 : Int32) (st : St_) (post : St_ → Prop) : Prop := wp_T_ownedChild w x1 x2 st (fun (r102 : Int32) (st101 : St_) => wp_T_ownedChild w x1 (x2 + 1) st101 (fun (r104 : Int32) (st103 : St_) => wp_B_size w r102 st103 (fun (r106 : Int32) (st105 : St_) => wp_B_size w r104 st105 (fun (r108 : Int32) (st107 : St_) => (((nI (w - 1)) < (r106 + r108) → wp_B_size w r102 st107 (fun (r110 : Int32) (st109 : St_) => wp_B_size w r104 st109 (fun (r112 : Int32) (st111 : St_) => ((r112 ≤ r110 → wp_B_size w r102 st111 (fun (r114 : Int32) (st113 : St_) => wp_T_moveEntry w r102 (r114 - 1) r104 0 st113 (fun (st115 : St_) => wp_B_key w r104 0 st115 (fun (r117 : Int32) (st116 : St_) => wp_B_setKey w x1 (x2 + 1) r117 st116 (fun (st118 : St_) => post st118))))) ∧ (¬ r112 ≤ r110 → wp_B_size w r102 st111 (fun (r120 : Int32) (st119 : St_) => wp_T_moveEntry w r104 0 r102 r120 st119 (fun (st121 : St_) => wp_B_key w r104 0 st121 (fun (r123 : Int32) (st122 : St_) => wp_B_setKey w x1 (x2 + 1) r123 st122 (fun (st124 : St_) => post st124))))))))) ∧ (¬ (nI (w - 1)) < (r106 + r108) → wp_B_moveTail w r104 0 r102 st107 (fun (st125 : St_) => wp_B_give w r104 st125 (fun (st126 : St_) => wp_B_remove w x1 (x2 + 1) st126 (fun (st127 : St_) => post st127)))))))))
def wp_T_removeBelow (w : Nat) : Nat → Int32 → Int32 → Int32 → St_ → (St_ → Prop) → Prop
  | 0, _, _, _, _, _ => False
  | d + 1, x1, x2, x3, st, post => ((x2 ≤ 16 → ((0 < x2 → wp_T_slotToward w x1 x3 st (fun (r102 : Int32) (st101 : St_) => wp_T_ownedChild w x1 r102 st101 (fun (r104 : Int32) (st103 : St_) => (wp_T_removeBelow w d) r104 (x2 - 1) x3 st103 (fun (st105 : St_) => wp_B_key w r104 0 st105 (fun (r107 : Int32) (st106 : St_) => wp_B_setKey w x1 r102 r107 st106 (fun (st108 : St_) => wp_B_size w r104 st108 (fun (r110 : Int32) (st109 : St_) => (((nI (w / 2)) ≤ r110 → post st109) ∧ (¬ (nI (w / 2)) ≤ r110 → wp_T_fill w x1 (if 0 < (r102 - 1) then (r102 - 1) else 0) st109 (fun (st111 : St_) => post st111)))))))))) ∧ (¬ 0 < x2 → wp_B_slotOf w x1 x3 st (fun (r113 : Int32) (st112 : St_) => wp_B_remove w x1 r113 st112 (fun (st114 : St_) => post st114))))) ∧ (¬ x2 ≤ 16 → post st))
def wp_T_shrunk (w : Nat) (x1 : Int32) (st : St_) (post : Int32 → St_ → Prop) : Prop := wp_B_size w x1 st (fun (r102 : Int32) (st101 : St_) => ((¬ r102 = 0 → wp_B_level w x1 st101 (fun (r104 : Int32) (st103 : St_) => ((r104 ≤ 0 → post x1 st103) ∧ (¬ r104 ≤ 0 → wp_B_size w x1 st103 (fun (r106 : Int32) (st105 : St_) => ((¬ r106 = 1 → post x1 st105) ∧ (r106 = 1 → wp_B_goal w x1 0 st105 (fun (r108 : Int32) (st107 : St_) => wp_B_give w x1 st107 (fun (st109 : St_) => post r108 st109))))))))) ∧ (r102 = 0 → wp_B_give w x1 st101 (fun (st110 : St_) => post 0 st110))))
def wp_T_without (w : Nat) (x1 : Int32) (x2 : Int32) (st : St_) (post : Int32 → St_ → Prop) : Prop := wp_B_owned w x1 st (fun (r102 : Int32) (st101 : St_) => wp_B_level w r102 st101 (fun (r104 : Int32) (st103 : St_) => wp_T_removeBelow w 20 r102 r104 x2 st103 (fun (st105 : St_) => wp_T_shrunk w r102 st105 (fun (r107 : Int32) (st106 : St_) => post r107 st106))))
def wp_S_removeKey (w : Nat) (x1 : Int32) (x2 : Int32) (st : St_) (post : St_ → Prop) : Prop := vp_in x1 8 ∧ (wp_T_without w (st 10 (x1).toNatClampNeg) x2 st (fun (r102 : Int32) (st101 : St_) => vp_in x1 8 ∧ (∀ st103 : St_, st103 = ws_1 st101 10 (x1).toNatClampNeg r102 → (vp_in x1 8 ∧ (vp_in x1 8 ∧ (∀ st104 : St_, st104 = ws_1 st103 11 (x1).toNatClampNeg ((st103 11 (x1).toNatClampNeg) - 1) → (∀ st105 : St_, st105 = ws_1 st104 19 0 ((st104 19 0) - 1) → (post st105))))))))
def wp_S_erase (w : Nat) (x1 : Int32) (x2 : Int32) (st : St_) (post : Int32 → St_ → Prop) : Prop := wp_S_isMap w x1 st (fun (r102 : Int32) (st101 : St_) => ((r102 = 0 → post (-1) st101) ∧ (¬ r102 = 0 → wp_S_isKey w x2 st101 (fun (r104 : Int32) (st103 : St_) => ((¬ r104 = 0 → vp_in x1 8 ∧ (wp_T_stampOf w (st103 10 (x1).toNatClampNeg) x2 st103 (fun (r106 : Int32) (st105 : St_) => ((r106 = (-2) → post r106 st105) ∧ (¬ r106 = (-2) → wp_S_removeKey w x1 x2 st105 (fun (st107 : St_) => post r106 st107)))))) ∧ (r104 = 0 → post (-1) st103))))))
def wp_R_erase (w : Nat) (x1 : Int32) (x2 : Int32) (st : St_) (post : Int32 → St_ → Prop) : Prop := wp_R_read w x1 x2 st (fun (r102 : Int32) (st101 : St_) => ((r102 < 0 → post r102 st101) ∧ (¬ r102 < 0 → vp_in ((4096 * x1) + x2) 32768 ∧ (∀ st103 : St_, st103 = ws_1 st101 14 (((4096 * x1) + x2)).toNatClampNeg 0 → (vp_in x1 8 ∧ (vp_in x1 8 ∧ (∀ st104 : St_, st104 = ws_1 st103 16 (x1).toNatClampNeg ((st103 16 (x1).toNatClampNeg) - 1) → (post r102 st104))))))))
def wp_T_keyOr (w : Nat) (x1 : Int32) (x2 : Int32) (x3 : Int32) (st : St_) (post : Int32 → St_ → Prop) : Prop := wp_B_size w x1 st (fun (r102 : Int32) (st101 : St_) => ((r102 ≤ x2 → post x3 st101) ∧ (¬ r102 ≤ x2 → wp_B_key w x1 x2 st101 (fun (r104 : Int32) (st103 : St_) => post r104 st103))))
def wp_T_keyFrom_16 (w : Nat) (post : Int32 → St_ → Prop) : Nat → Int32 → Int32 → Int32 → Int32 → Int32 → St_ → Prop
  | 0, _, _, _, _, _, _ => False
  | n + 1, y1, y2, y3, y4, y5, st => ((y5 ≤ 0 → wp_B_slotOf w y3 y2 st (fun (r104 : Int32) (st103 : St_) => wp_B_key w y3 r104 st103 (fun (r106 : Int32) (st105 : St_) => ((¬ r106 = y2 → wp_T_keyOr w y3 (r104 + 1) y4 st105 (fun (r108 : Int32) (st107 : St_) => post r108 st107)) ∧ (r106 = y2 → post y2 st105))))) ∧ (¬ y5 ≤ 0 → wp_T_slotToward w y3 y2 st (fun (r110 : Int32) (st109 : St_) => wp_T_keyOr w y3 (r110 + 1) y4 st109 (fun (r112 : Int32) (st111 : St_) => wp_B_goal w y3 r110 st111 (fun (r114 : Int32) (st113 : St_) => ∀ x115 : Int32, x115 = y5 + (-1) → (wp_T_keyFrom_16 w post n y1 y2 r114 r112 x115 st113))))))
def wp_T_keyFrom (w : Nat) (x1 : Int32) (x2 : Int32) (st : St_) (post : Int32 → St_ → Prop) : Prop := wp_B_level w x1 st (fun (r102 : Int32) (st101 : St_) => (∃ n, wp_T_keyFrom_16 w post n x1 x2 x1 (-2) r102 st101))
def wp_S_cut_50 (w : Nat) (post : Int32 → St_ → Prop) : Nat → Int32 → Int32 → Int32 → Int32 → Int32 → St_ → Prop
  | 0, _, _, _, _, _, _ => False
  | n + 1, y1, y2, y3, y4, y5, st => ((600 ≤ y4 → post y4 st) ∧ (¬ 600 ≤ y4 → ((y5 = (-2) → post y4 st) ∧ (¬ y5 = (-2) → ((y3 < y5 → post y4 st) ∧ (¬ y3 < y5 → wp_S_removeKey w y1 y5 st (fun (st109 : St_) => ∀ x110 : Int32, x110 = y4 + 1 → (vp_in y1 8 ∧ (wp_T_keyFrom w (st109 10 (y1).toNatClampNeg) y5 st109 (fun (r112 : Int32) (st111 : St_) => wp_S_cut_50 w post n y1 y2 y3 x110 r112 st111))))))))))
def wp_S_cut (w : Nat) (x1 : Int32) (x2 : Int32) (x3 : Int32) (st : St_) (post : Int32 → St_ → Prop) : Prop := wp_S_isMap w x1 st (fun (r102 : Int32) (st101 : St_) => ((r102 = 0 → post (-1) st101) ∧ (¬ r102 = 0 → wp_S_isKey w x2 st101 (fun (r104 : Int32) (st103 : St_) => ((r104 = 0 → post (-1) st103) ∧ (¬ r104 = 0 → wp_S_isKey w x3 st103 (fun (r106 : Int32) (st105 : St_) => ((r106 = 0 → post (-1) st105) ∧ (¬ r106 = 0 → ((x2 ≤ x3 → vp_in x1 8 ∧ (wp_T_keyFrom w (st105 10 (x1).toNatClampNeg) x2 st105 (fun (r108 : Int32) (st107 : St_) => (∃ n, wp_S_cut_50 w post n x1 x2 x3 0 r108 st107)))) ∧ (¬ x2 ≤ x3 → post (-1) st105)))))))))))
def wp_R_cut_34 (w : Nat) (post : Int32 → St_ → Prop) : Nat → Int32 → Int32 → Int32 → Int32 → Int32 → St_ → Prop
  | 0, _, _, _, _, _, _ => False
  | n + 1, y1, y2, y3, y4, y5, st => ((y3 < y5 → post y4 st) ∧ (¬ y3 < y5 → wp_R_erase w y1 y5 st (fun (r108 : Int32) (st107 : St_) => ((r108 < 0 → ∀ x109 : Int32, x109 = (y4 + 0) → (∀ x110 : Int32, x110 = y5 + 1 → (wp_R_cut_34 w post n y1 y2 y3 x109 x110 st107))) ∧ (¬ r108 < 0 → ∀ x111 : Int32, x111 = (y4 + 1) → (∀ x112 : Int32, x112 = y5 + 1 → (wp_R_cut_34 w post n y1 y2 y3 x111 x112 st107)))))))
def wp_R_cut (w : Nat) (x1 : Int32) (x2 : Int32) (x3 : Int32) (st : St_) (post : Int32 → St_ → Prop) : Prop := wp_R_isMap w x1 st (fun (r102 : Int32) (st101 : St_) => ((r102 = 0 → post (-1) st101) ∧ (¬ r102 = 0 → wp_R_isKey w x2 st101 (fun (r104 : Int32) (st103 : St_) => ((r104 = 0 → post (-1) st103) ∧ (¬ r104 = 0 → wp_R_isKey w x3 st103 (fun (r106 : Int32) (st105 : St_) => ((r106 = 0 → post (-1) st105) ∧ (¬ r106 = 0 → ((x2 ≤ x3 → (∃ n, wp_R_cut_34 w post n x1 x2 x3 0 x2 st105)) ∧ (¬ x2 ≤ x3 → post (-1) st105)))))))))))
def wp_S_next (w : Nat) (x1 : Int32) (x2 : Int32) (st : St_) (post : Int32 → St_ → Prop) : Prop := wp_S_isMap w x1 st (fun (r102 : Int32) (st101 : St_) => ((r102 = 0 → post (-1) st101) ∧ (¬ r102 = 0 → wp_S_isKey w x2 st101 (fun (r104 : Int32) (st103 : St_) => ((¬ r104 = 0 → vp_in x1 8 ∧ (wp_T_keyFrom w (st103 10 (x1).toNatClampNeg) x2 st103 (fun (r106 : Int32) (st105 : St_) => post r106 st105))) ∧ (r104 = 0 → post (-1) st103))))))
def wp_R_next_18 (w : Nat) (post : Int32 → St_ → Prop) : Nat → Int32 → Int32 → Int32 → St_ → Prop
  | 0, _, _, _, _ => False
  | n + 1, y1, y2, y3, st => ((4096 ≤ y3 → ((4096 ≤ y3 → post (-2) st) ∧ (¬ 4096 ≤ y3 → post y3 st))) ∧ (¬ 4096 ≤ y3 → vp_in ((4096 * y1) + y3) 32768 ∧ (((¬ (st 14 (((4096 * y1) + y3)).toNatClampNeg) = 0 → ((4096 ≤ y3 → post (-2) st) ∧ (¬ 4096 ≤ y3 → post y3 st))) ∧ ((st 14 (((4096 * y1) + y3)).toNatClampNeg) = 0 → ∀ x105 : Int32, x105 = y3 + 1 → (wp_R_next_18 w post n y1 y2 x105 st))))))
def wp_R_next (w : Nat) (x1 : Int32) (x2 : Int32) (st : St_) (post : Int32 → St_ → Prop) : Prop := wp_R_isMap w x1 st (fun (r102 : Int32) (st101 : St_) => ((r102 = 0 → post (-1) st101) ∧ (¬ r102 = 0 → wp_R_isKey w x2 st101 (fun (r104 : Int32) (st103 : St_) => ((¬ r104 = 0 → (∃ n, wp_R_next_18 w post n x1 x2 x2 st103)) ∧ (r104 = 0 → post (-1) st103))))))
def wp_T_releaseBelow_28 (w : Nat) (rec : Int32 → Int32 → St_ → (St_ → Prop) → Prop) (post : St_ → Prop) : Nat → Int32 → Int32 → Int32 → St_ → Prop
  | 0, _, _, _, _ => False
  | n + 1, y1, y2, y3, st => wp_B_size w y1 st (fun (r105 : Int32) (st104 : St_) => ((r105 ≤ y3 → wp_B_give w y1 st104 (fun (st106 : St_) => post st106)) ∧ (¬ r105 ≤ y3 → wp_B_goal w y1 y3 st104 (fun (r108 : Int32) (st107 : St_) => rec r108 (y2 - 1) st107 (fun (st109 : St_) => ∀ x110 : Int32, x110 = y3 + 1 → (wp_T_releaseBelow_28 w rec post n y1 y2 x110 st109))))))
def wp_T_releaseBelow (w : Nat) : Nat → Int32 → Int32 → St_ → (St_ → Prop) → Prop
  | 0, _, _, _, _ => False
  | d + 1, x1, x2, st, post => ((x2 < 0 → post st) ∧ (¬ x2 < 0 → ((16 < x2 → post st) ∧ (¬ 16 < x2 → wp_B_lose w x1 st (fun (r102 : Int32) (st101 : St_) => ((¬ r102 = 0 → ((x2 ≤ 0 → wp_B_give w x1 st101 (fun (st103 : St_) => post st103)) ∧ (¬ x2 ≤ 0 → (∃ n, wp_T_releaseBelow_28 w (wp_T_releaseBelow w d) post n x1 x2 0 st101)))) ∧ (r102 = 0 → post st101)))))))
def wp_T_release (w : Nat) (x1 : Int32) (st : St_) (post : St_ → Prop) : Prop := wp_B_level w x1 st (fun (r102 : Int32) (st101 : St_) => wp_T_releaseBelow w 20 x1 r102 st101 (fun (st103 : St_) => post st103))
def wp_S_lead_22 (w : Nat) (x2 : Int32) (x3 : Int32) (x4 : Int32) (st : St_) (post : St_ → Prop) : Prop := wp_B_share w x3 st (fun (st101 : St_) => vp_in x2 8 ∧ (wp_T_release w (st101 10 (x2).toNatClampNeg) st101 (fun (st102 : St_) => vp_in x2 8 ∧ (∀ st103 : St_, st103 = ws_1 st102 10 (x2).toNatClampNeg x3 → (vp_in x2 8 ∧ (∀ st104 : St_, st104 = ws_1 st103 19 0 ((st103 19 0) + (x4 - (st103 11 (x2).toNatClampNeg))) → (vp_in x2 8 ∧ (∀ st105 : St_, st105 = ws_1 st104 11 (x2).toNatClampNeg x4 → (post st105)))))))))
def wp_S_clone (w : Nat) (x1 : Int32) (x2 : Int32) (st : St_) (post : Int32 → St_ → Prop) : Prop := wp_S_isMap w x1 st (fun (r102 : Int32) (st101 : St_) => ((r102 = 0 → post (-1) st101) ∧ (¬ r102 = 0 → wp_S_isMap w x2 st101 (fun (r104 : Int32) (st103 : St_) => ((r104 = 0 → post (-1) st103) ∧ (¬ r104 = 0 → ((¬ x1 = x2 → vp_in x1 8 ∧ (vp_in x2 8 ∧ ((((((st103 19 0) - (st103 11 (x1).toNatClampNeg)) + (st103 11 (x2).toNatClampNeg)) ≤ 600 → vp_in x2 8 ∧ (vp_in x2 8 ∧ (wp_S_lead_22 w x1 (st103 10 (x2).toNatClampNeg) (st103 11 (x2).toNatClampNeg) st103 (fun (st105 : St_) => vp_in x1 8 ∧ (post (st105 11 (x1).toNatClampNeg) st105))))) ∧ (¬ (((st103 19 0) - (st103 11 (x1).toNatClampNeg)) + (st103 11 (x2).toNatClampNeg)) ≤ 600 → post (-3) st103))))) ∧ (x1 = x2 → post (-1) st103))))))))
def wp_R_clone_50 (w : Nat) (post : Int32 → St_ → Prop) : Nat → Int32 → Int32 → Int32 → St_ → Prop
  | 0, _, _, _, _ => False
  | n + 1, y1, y2, y3, st => ((4096 ≤ y3 → vp_in y2 8 ∧ (vp_in y1 8 ∧ (∀ st107 : St_, st107 = ws_1 st 16 (y1).toNatClampNeg (st 16 (y2).toNatClampNeg) → (vp_in y1 8 ∧ (post (st107 16 (y1).toNatClampNeg) st107))))) ∧ (¬ 4096 ≤ y3 → vp_in ((4096 * y2) + y3) 32768 ∧ (vp_in ((4096 * y1) + y3) 32768 ∧ (∀ st108 : St_, st108 = ws_1 st 14 (((4096 * y1) + y3)).toNatClampNeg (st 14 (((4096 * y2) + y3)).toNatClampNeg) → (∀ x109 : Int32, x109 = y3 + 1 → (wp_R_clone_50 w post n y1 y2 x109 st108))))))
def wp_R_clone (w : Nat) (x1 : Int32) (x2 : Int32) (st : St_) (post : Int32 → St_ → Prop) : Prop := wp_R_isMap w x1 st (fun (r102 : Int32) (st101 : St_) => ((r102 = 0 → post (-1) st101) ∧ (¬ r102 = 0 → wp_R_isMap w x2 st101 (fun (r104 : Int32) (st103 : St_) => ((r104 = 0 → post (-1) st103) ∧ (¬ r104 = 0 → ((¬ x1 = x2 → wp_R_all w st103 (fun (r106 : Int32) (st105 : St_) => vp_in x1 8 ∧ (vp_in x2 8 ∧ (((((r106 - (st105 16 (x1).toNatClampNeg)) + (st105 16 (x2).toNatClampNeg)) ≤ 600 → (∃ n, wp_R_clone_50 w post n x1 x2 0 st105)) ∧ (¬ ((r106 - (st105 16 (x1).toNatClampNeg)) + (st105 16 (x2).toNatClampNeg)) ≤ 600 → post (-3) st105)))))) ∧ (x1 = x2 → post (-1) st103))))))))
def wp_S_drop (w : Nat) (x1 : Int32) (st : St_) (post : Int32 → St_ → Prop) : Prop := wp_S_isMap w x1 st (fun (r102 : Int32) (st101 : St_) => ((¬ r102 = 0 → vp_in x1 8 ∧ (∀ x103 : Int32, x103 = (st101 11 (x1).toNatClampNeg) → (wp_S_lead_22 w x1 0 0 st101 (fun (st104 : St_) => post x103 st104)))) ∧ (r102 = 0 → post (-1) st101)))
def wp_R_drop (w : Nat) (x1 : Int32) (st : St_) (post : Int32 → St_ → Prop) : Prop := wp_R_isMap w x1 st (fun (r102 : Int32) (st101 : St_) => ((¬ r102 = 0 → vp_in x1 8 ∧ (∀ x103 : Int32, x103 = (st101 16 (x1).toNatClampNeg) → (wp_R_cut w x1 0 4095 st101 (fun (r105 : Int32) (st104 : St_) => post x103 st104)))) ∧ (r102 = 0 → post (-1) st101)))
def wp_S_lead_23 (w : Nat) (x2 : Int32) (x3 : Int32) (x4 : Int32) (st : St_) (post : St_ → Prop) : Prop := wp_B_share w x3 st (fun (st101 : St_) => vp_in x2 8 ∧ (wp_T_release w (st101 12 (x2).toNatClampNeg) st101 (fun (st102 : St_) => vp_in x2 8 ∧ (∀ st103 : St_, st103 = ws_1 st102 12 (x2).toNatClampNeg x3 → (vp_in x2 8 ∧ (∀ st104 : St_, st104 = ws_1 st103 20 0 ((st103 20 0) + (x4 - (st103 13 (x2).toNatClampNeg))) → (vp_in x2 8 ∧ (∀ st105 : St_, st105 = ws_1 st104 13 (x2).toNatClampNeg x4 → (post st105)))))))))
def wp_S_leadAll_23_22_2 (w : Nat) (post : St_ → Prop) : Nat → Int32 → St_ → Prop
  | 0, _, _ => False
  | n + 1, y3, st => ((8 ≤ y3 → post st) ∧ (¬ 8 ≤ y3 → vp_in y3 8 ∧ (vp_in y3 8 ∧ (wp_S_lead_23 w y3 (st 10 (y3).toNatClampNeg) (st 11 (y3).toNatClampNeg) st (fun (st101 : St_) => ∀ x102 : Int32, x102 = y3 + 1 → (wp_S_leadAll_23_22_2 w post n x102 st101))))))
def wp_S_leadAll_23_22 (w : Nat) (st : St_) (post : St_ → Prop) : Prop := (∃ n, wp_S_leadAll_23_22_2 w post n 0 st)
def wp_S_keep (w : Nat) (st : St_) (post : Int32 → St_ → Prop) : Prop := wp_S_leadAll_23_22 w st (fun (st101 : St_) => post (st101 19 0) st101)
def wp_R_keep_28 (w : Nat) (post : Int32 → St_ → Prop) : Nat → Int32 → St_ → Prop
  | 0, _, _ => False
  | n + 1, y1, st => ((8 ≤ y1 → wp_R_all w st (fun (r102 : Int32) (st101 : St_) => post r102 st101)) ∧ (¬ 8 ≤ y1 → vp_in y1 8 ∧ (vp_in y1 8 ∧ (∀ st103 : St_, st103 = ws_1 st 17 (y1).toNatClampNeg (st 16 (y1).toNatClampNeg) → (∀ x104 : Int32, x104 = y1 + 1 → (wp_R_keep_28 w post n x104 st103))))))
def wp_R_keep_2 (w : Nat) (post : Int32 → St_ → Prop) : Nat → Int32 → St_ → Prop
  | 0, _, _ => False
  | n + 1, y1, st => ((32768 ≤ y1 → (∃ n, wp_R_keep_28 w post n 0 st)) ∧ (¬ 32768 ≤ y1 → vp_in y1 32768 ∧ (vp_in y1 32768 ∧ (∀ st105 : St_, st105 = ws_1 st 15 (y1).toNatClampNeg (st 14 (y1).toNatClampNeg) → (∀ x106 : Int32, x106 = y1 + 1 → (wp_R_keep_2 w post n x106 st105))))))
def wp_R_keep (w : Nat) (st : St_) (post : Int32 → St_ → Prop) : Prop := (∃ n, wp_R_keep_2 w post n 0 st)
def wp_S_leadAll_22_23_2 (w : Nat) (post : St_ → Prop) : Nat → Int32 → St_ → Prop
  | 0, _, _ => False
  | n + 1, y3, st => ((8 ≤ y3 → post st) ∧ (¬ 8 ≤ y3 → vp_in y3 8 ∧ (vp_in y3 8 ∧ (wp_S_lead_22 w y3 (st 12 (y3).toNatClampNeg) (st 13 (y3).toNatClampNeg) st (fun (st101 : St_) => ∀ x102 : Int32, x102 = y3 + 1 → (wp_S_leadAll_22_23_2 w post n x102 st101))))))
def wp_S_leadAll_22_23 (w : Nat) (st : St_) (post : St_ → Prop) : Prop := (∃ n, wp_S_leadAll_22_23_2 w post n 0 st)
def wp_S_back (w : Nat) (st : St_) (post : Int32 → St_ → Prop) : Prop := wp_S_leadAll_22_23 w st (fun (st101 : St_) => post (st101 19 0) st101)
def wp_R_back_28 (w : Nat) (post : Int32 → St_ → Prop) : Nat → Int32 → St_ → Prop
  | 0, _, _ => False
  | n + 1, y1, st => ((8 ≤ y1 → wp_R_all w st (fun (r102 : Int32) (st101 : St_) => post r102 st101)) ∧ (¬ 8 ≤ y1 → vp_in y1 8 ∧ (vp_in y1 8 ∧ (∀ st103 : St_, st103 = ws_1 st 16 (y1).toNatClampNeg (st 17 (y1).toNatClampNeg) → (∀ x104 : Int32, x104 = y1 + 1 → (wp_R_back_28 w post n x104 st103))))))
def wp_R_back_2 (w : Nat) (post : Int32 → St_ → Prop) : Nat → Int32 → St_ → Prop
  | 0, _, _ => False
  | n + 1, y1, st => ((32768 ≤ y1 → (∃ n, wp_R_back_28 w post n 0 st)) ∧ (¬ 32768 ≤ y1 → vp_in y1 32768 ∧ (vp_in y1 32768 ∧ (∀ st105 : St_, st105 = ws_1 st 14 (y1).toNatClampNeg (st 15 (y1).toNatClampNeg) → (∀ x106 : Int32, x106 = y1 + 1 → (wp_R_back_2 w post n x106 st105))))))
def wp_R_back (w : Nat) (st : St_) (post : Int32 → St_ → Prop) : Prop := (∃ n, wp_R_back_2 w post n 0 st)
def wp_S_keys (w : Nat) (x1 : Int32) (st : St_) (post : Int32 → St_ → Prop) : Prop := ((¬ x1 = (-1) → wp_S_isMap w x1 st (fun (r102 : Int32) (st101 : St_) => ((r102 = 0 → post (-1) st101) ∧ (¬ r102 = 0 → vp_in x1 8 ∧ (post (st101 11 (x1).toNatClampNeg) st101))))) ∧ (x1 = (-1) → post (st 19 0) st))
def wp_R_keys (w : Nat) (x1 : Int32) (st : St_) (post : Int32 → St_ → Prop) : Prop := ((¬ x1 = (-1) → wp_R_isMap w x1 st (fun (r102 : Int32) (st101 : St_) => ((r102 = 0 → post (-1) st101) ∧ (¬ r102 = 0 → vp_in x1 8 ∧ (post (st101 16 (x1).toNatClampNeg) st101))))) ∧ (x1 = (-1) → wp_R_all w st (fun (r104 : Int32) (st103 : St_) => post r104 st103)))
def wp_I_hasOrder_26 (w : Nat) (post : Int32 → St_ → Prop) : Nat → Int32 → Int32 → Int32 → St_ → Prop
  | 0, _, _, _, _ => False
  | n + 1, y1, y2, y3, st => ((y2 ≤ y3 → wp_B_key w y1 0 st (fun (r104 : Int32) (st103 : St_) => wp_S_isKey w r104 st103 (fun (r106 : Int32) (st105 : St_) => ((r106 = 0 → post 0 st105) ∧ (¬ r106 = 0 → wp_B_key w y1 (y2 - 1) st105 (fun (r108 : Int32) (st107 : St_) => wp_S_isKey w r108 st107 (fun (r110 : Int32) (st109 : St_) => ((r110 = 0 → post 0 st109) ∧ (¬ r110 = 0 → post 1 st109))))))))) ∧ (¬ y2 ≤ y3 → wp_B_key w y1 (y3 - 1) st (fun (r112 : Int32) (st111 : St_) => wp_B_key w y1 y3 st111 (fun (r114 : Int32) (st113 : St_) => ((r112 < r114 → ∀ x115 : Int32, x115 = y3 + 1 → (wp_I_hasOrder_26 w post n y1 y2 x115 st113)) ∧ (¬ r112 < r114 → post 0 st113))))))
def wp_I_hasOrder (w : Nat) (x1 : Int32) (st : St_) (post : Int32 → St_ → Prop) : Prop := wp_B_size w x1 st (fun (r102 : Int32) (st101 : St_) => ((r102 < 1 → post 0 st101) ∧ (¬ r102 < 1 → ((r102 ≤ (nI (w - 1)) → (∃ n, wp_I_hasOrder_26 w post n x1 r102 1 st101)) ∧ (¬ r102 ≤ (nI (w - 1)) → post 0 st101)))))
def wp_I_faultOfNode_19 (w : Nat) (rec : Int32 → Int32 → St_ → (Int32 → St_ → Prop) → Prop) (post : Int32 → St_ → Prop) : Nat → Int32 → Int32 → Int32 → Int32 → Int32 → Int32 → St_ → Prop
  | 0, _, _, _, _, _, _, _ => False
  | n + 1, y1, y2, y3, y4, y5, y6, st => ((y3 ≤ y6 → vp_in y1 1201 ∧ (∀ st103 : St_, st103 = ws_1 st 7 (y1).toNatClampNeg y4 → (vp_in y1 1201 ∧ (∀ st104 : St_, st104 = ws_1 st103 8 (y1).toNatClampNeg y5 → (post 0 st104))))) ∧ (¬ y3 ≤ y6 → wp_B_goal w y1 y6 st (fun (r106 : Int32) (st105 : St_) => wp_B_isBlock w r106 st105 (fun (r108 : Int32) (st107 : St_) => ((r108 = 0 → post y1 st107) ∧ (¬ r108 = 0 → wp_B_level w r106 st107 (fun (r110 : Int32) (st109 : St_) => ((r110 = (y2 - 1) → wp_B_size w r106 st109 (fun (r112 : Int32) (st111 : St_) => (((nI (w / 2)) ≤ r112 → rec r106 (y2 - 1) st111 (fun (r114 : Int32) (st113 : St_) => ((r114 = 0 → wp_B_key w y1 y6 st113 (fun (r116 : Int32) (st115 : St_) => wp_B_key w r106 0 st115 (fun (r118 : Int32) (st117 : St_) => ((¬ r116 = r118 → post y1 st117) ∧ (r116 = r118 → ((y5 < r116 → vp_in r106 1201 ∧ (∀ x119 : Int32, x119 = (st117 8 (r106).toNatClampNeg) → (vp_in r106 1201 ∧ (∀ x120 : Int32, x120 = (y4 + (st117 7 (r106).toNatClampNeg)) → (∀ x121 : Int32, x121 = y6 + 1 → (wp_I_faultOfNode_19 w rec post n y1 y2 y3 x120 x119 x121 st117)))))) ∧ (¬ y5 < r116 → post y1 st117))))))) ∧ (¬ r114 = 0 → post r114 st113)))) ∧ (¬ (nI (w / 2)) ≤ r112 → post r106 st111)))) ∧ (¬ r110 = (y2 - 1) → post y1 st109)))))))))
def wp_I_faultOfNode (w : Nat) (rec : Int32 → Int32 → St_ → (Int32 → St_ → Prop) → Prop) (x1 : Int32) (x2 : Int32) (st : St_) (post : Int32 → St_ → Prop) : Prop := wp_B_size w x1 st (fun (r102 : Int32) (st101 : St_) => (∃ n, wp_I_faultOfNode_19 w rec post n x1 x2 r102 0 (-2) 0 st101))
def wp_I_faultOfLeaf_11 (w : Nat) (post : Int32 → St_ → Prop) : Nat → Int32 → Int32 → Int32 → St_ → Prop
  | 0, _, _, _, _ => False
  | n + 1, y1, y2, y3, st => ((y2 ≤ y3 → vp_in y1 1201 ∧ (∀ st103 : St_, st103 = ws_1 st 7 (y1).toNatClampNeg y2 → (wp_B_key w y1 (y2 - 1) st103 (fun (r105 : Int32) (st104 : St_) => vp_in y1 1201 ∧ (∀ st106 : St_, st106 = ws_1 st104 8 (y1).toNatClampNeg r105 → (post 0 st106)))))) ∧ (¬ y2 ≤ y3 → wp_B_goal w y1 y3 st (fun (r108 : Int32) (st107 : St_) => wp_S_isStamp w r108 st107 (fun (r110 : Int32) (st109 : St_) => ((¬ r110 = 0 → ∀ x111 : Int32, x111 = y3 + 1 → (wp_I_faultOfLeaf_11 w post n y1 y2 x111 st109)) ∧ (r110 = 0 → post y1 st109))))))
def wp_I_faultOfLeaf (w : Nat) (x1 : Int32) (st : St_) (post : Int32 → St_ → Prop) : Prop := wp_B_size w x1 st (fun (r102 : Int32) (st101 : St_) => (∃ n, wp_I_faultOfLeaf_11 w post n x1 r102 0 st101))
def wp_I_faultBelow (w : Nat) : Nat → Int32 → Int32 → St_ → (Int32 → St_ → Prop) → Prop
  | 0, _, _, _, _ => False
  | d + 1, x1, x2, st, post => ((x2 < 0 → post 1219 st) ∧ (¬ x2 < 0 → ((16 < x2 → post 1219 st) ∧ (¬ 16 < x2 → wp_B_isBlock w x1 st (fun (r102 : Int32) (st101 : St_) => ((¬ r102 = 0 → vp_in x1 1201 ∧ (vp_in x1 1201 ∧ (∀ st103 : St_, st103 = ws_1 st101 6 (x1).toNatClampNeg ((st101 6 (x1).toNatClampNeg) + 1) → (vp_in x1 1201 ∧ ((((st103 6 (x1).toNatClampNeg) ≤ 1 → wp_I_hasOrder w x1 st103 (fun (r105 : Int32) (st104 : St_) => ((¬ r105 = 0 → ((¬ x2 = 0 → wp_I_faultOfNode w (wp_I_faultBelow w d) x1 x2 st104 (fun (r107 : Int32) (st106 : St_) => post r107 st106)) ∧ (x2 = 0 → wp_I_faultOfLeaf w x1 st104 (fun (r109 : Int32) (st108 : St_) => post r109 st108)))) ∧ (r105 = 0 → post x1 st104)))) ∧ (¬ (st103 6 (x1).toNatClampNeg) ≤ 1 → post 0 st103))))))) ∧ (r102 = 0 → post 1219 st101)))))))
def wp_I_faultOfTree (w : Nat) (x1 : Int32) (x2 : Int32) (x3 : Int32) (st : St_) (post : Int32 → St_ → Prop) : Prop := ((¬ x1 = 0 → wp_B_isBlock w x1 st (fun (r102 : Int32) (st101 : St_) => ((¬ r102 = 0 → wp_B_level w x1 st101 (fun (r104 : Int32) (st103 : St_) => wp_B_size w x1 st103 (fun (r106 : Int32) (st105 : St_) => ((¬ r104 = 0 → ((2 ≤ r106 → wp_I_faultBelow w 20 x1 r104 st105 (fun (r108 : Int32) (st107 : St_) => ((r108 = 0 → vp_in x1 1201 ∧ (((¬ (st107 7 (x1).toNatClampNeg) = x2 → post x3 st107) ∧ ((st107 7 (x1).toNatClampNeg) = x2 → post 0 st107)))) ∧ (¬ r108 = 0 → post r108 st107)))) ∧ (¬ 2 ≤ r106 → post x1 st105))) ∧ (r104 = 0 → ((1 ≤ r106 → wp_I_faultBelow w 20 x1 r104 st105 (fun (r110 : Int32) (st109 : St_) => ((r110 = 0 → vp_in x1 1201 ∧ (((¬ (st109 7 (x1).toNatClampNeg) = x2 → post x3 st109) ∧ ((st109 7 (x1).toNatClampNeg) = x2 → post 0 st109)))) ∧ (¬ r110 = 0 → post r110 st109)))) ∧ (¬ 1 ≤ r106 → post x1 st105))))))) ∧ (r102 = 0 → post x3 st101)))) ∧ (x1 = 0 → ((¬ x2 = 0 → post x3 st) ∧ (x2 = 0 → post 0 st))))
def wp_I_faultOfMaps_22_5 (w : Nat) (post : Int32 → St_ → Prop) : Nat → Int32 → Int32 → Int32 → St_ → Prop
  | 0, _, _, _, _ => False
  | n + 1, y2, y3, y4, st => ((8 ≤ y4 → ((¬ y3 = (st 19 0) → post 1217 st) ∧ (y3 = (st 19 0) → ((600 < y3 → post 1217 st) ∧ (¬ 600 < y3 → post 0 st))))) ∧ (¬ 8 ≤ y4 → vp_in y4 8 ∧ (vp_in y4 8 ∧ (wp_I_faultOfTree w (st 10 (y4).toNatClampNeg) (st 11 (y4).toNatClampNeg) (y2 + y4) st (fun (r102 : Int32) (st101 : St_) => ((r102 = 0 → vp_in y4 8 ∧ (∀ x103 : Int32, x103 = (y3 + (st101 11 (y4).toNatClampNeg)) → (∀ x104 : Int32, x104 = y4 + 1 → (wp_I_faultOfMaps_22_5 w post n y2 x103 x104 st101)))) ∧ (¬ r102 = 0 → post r102 st101)))))))
def wp_I_faultOfMaps_22 (w : Nat) (x2 : Int32) (st : St_) (post : Int32 → St_ → Prop) : Prop := (∃ n, wp_I_faultOfMaps_22_5 w post n x2 0 0 st)
def wp_I_faultOfWays_2 (w : Nat) (post : Int32 → St_ → Prop) : Nat → Int32 → St_ → Prop
  | 0, _, _ => False
  | n + 1, y1, st => ((1200 < y1 → post 0 st) ∧ (¬ 1200 < y1 → vp_in y1 1201 ∧ (((¬ (st 6 (y1).toNatClampNeg) = 0 → wp_B_ways w y1 st (fun (r102 : Int32) (st101 : St_) => vp_in y1 1201 ∧ (((¬ r102 = (st101 6 (y1).toNatClampNeg) → post y1 st101) ∧ (r102 = (st101 6 (y1).toNatClampNeg) → vp_in y1 1201 ∧ ((((st101 9 (y1).toNatClampNeg) = 0 → ∀ x103 : Int32, x103 = y1 + 1 → (wp_I_faultOfWays_2 w post n x103 st101)) ∧ (¬ (st101 9 (y1).toNatClampNeg) = 0 → post y1 st101)))))))) ∧ ((st 6 (y1).toNatClampNeg) = 0 → wp_B_ways w y1 st (fun (r105 : Int32) (st104 : St_) => vp_in y1 1201 ∧ (((¬ r105 = (st104 6 (y1).toNatClampNeg) → post y1 st104) ∧ (r105 = (st104 6 (y1).toNatClampNeg) → vp_in y1 1201 ∧ ((((st104 9 (y1).toNatClampNeg) = 1 → ∀ x106 : Int32, x106 = y1 + 1 → (wp_I_faultOfWays_2 w post n x106 st104)) ∧ (¬ (st104 9 (y1).toNatClampNeg) = 1 → post y1 st104))))))))))))
def wp_I_faultOfWays (w : Nat) (st : St_) (post : Int32 → St_ → Prop) : Prop := (∃ n, wp_I_faultOfWays_2 w post n 1 st)
def wp_B_freeCount (w : Nat) (st : St_) (post : Int32 → St_ → Prop) : Prop := post (st 18 0) st
def wp_B_freeBlock (w : Nat) (x1 : Int32) (st : St_) (post : Int32 → St_ → Prop) : Prop := ((x1 < 0 → post 0 st) ∧ (¬ x1 < 0 → (((st 18 0) ≤ x1 → post 0 st) ∧ (¬ (st 18 0) ≤ x1 → ((1200 ≤ x1 → post 0 st) ∧ (¬ 1200 ≤ x1 → vp_in x1 1200 ∧ (post (st 5 (x1).toNatClampNeg) st)))))))
def wp_I_faultOfFree_25 (w : Nat) (post : Int32 → St_ → Prop) : Nat → Int32 → Int32 → St_ → Prop
  | 0, _, _, _ => False
  | n + 1, y1, y2, st => ((y1 ≤ y2 → post 0 st) ∧ (¬ y1 ≤ y2 → wp_B_freeBlock w y2 st (fun (r104 : Int32) (st103 : St_) => wp_B_isBlock w r104 st103 (fun (r106 : Int32) (st105 : St_) => ((r106 = 0 → post 1218 st105) ∧ (¬ r106 = 0 → vp_in r104 1201 ∧ ((((st105 9 (r104).toNatClampNeg) = 0 → vp_in r104 1201 ∧ (∀ st107 : St_, st107 = ws_1 st105 9 (r104).toNatClampNeg (vp_nar .boolean 1) → (∀ x108 : Int32, x108 = y2 + 1 → (wp_I_faultOfFree_25 w post n y1 x108 st107)))) ∧ (¬ (st105 9 (r104).toNatClampNeg) = 0 → post 1218 st105)))))))))
def wp_I_faultOfFree (w : Nat) (st : St_) (post : Int32 → St_ → Prop) : Prop := wp_B_freeCount w st (fun (r102 : Int32) (st101 : St_) => ((r102 < 0 → post 1218 st101) ∧ (¬ r102 < 0 → ((r102 ≤ 1200 → (∃ n, wp_I_faultOfFree_25 w post n r102 0 st101)) ∧ (¬ r102 ≤ 1200 → post 1218 st101)))))
def wp_I_faultOfMaps_23_5 (w : Nat) (post : Int32 → St_ → Prop) : Nat → Int32 → Int32 → Int32 → St_ → Prop
  | 0, _, _, _, _ => False
  | n + 1, y2, y3, y4, st => ((8 ≤ y4 → ((¬ y3 = (st 20 0) → post 1217 st) ∧ (y3 = (st 20 0) → ((600 < y3 → post 1217 st) ∧ (¬ 600 < y3 → post 0 st))))) ∧ (¬ 8 ≤ y4 → vp_in y4 8 ∧ (vp_in y4 8 ∧ (wp_I_faultOfTree w (st 12 (y4).toNatClampNeg) (st 13 (y4).toNatClampNeg) (y2 + y4) st (fun (r102 : Int32) (st101 : St_) => ((r102 = 0 → vp_in y4 8 ∧ (∀ x103 : Int32, x103 = (y3 + (st101 13 (y4).toNatClampNeg)) → (∀ x104 : Int32, x104 = y4 + 1 → (wp_I_faultOfMaps_23_5 w post n y2 x103 x104 st101)))) ∧ (¬ r102 = 0 → post r102 st101)))))))
def wp_I_faultOfMaps_23 (w : Nat) (x2 : Int32) (st : St_) (post : Int32 → St_ → Prop) : Prop := (∃ n, wp_I_faultOfMaps_23_5 w post n x2 0 0 st)
def wp_I_firstFault_22_23_2 (w : Nat) (post : Int32 → St_ → Prop) : Nat → Int32 → St_ → Prop
  | 0, _, _ => False
  | n + 1, y3, st => ((1200 < y3 → wp_I_faultOfMaps_22 w 1201 st (fun (r102 : Int32) (st101 : St_) => ((¬ r102 = 0 → ((¬ r102 = 0 → ((r102 = 0 → wp_I_faultOfWays w st101 (fun (r104 : Int32) (st103 : St_) => post r104 st103)) ∧ (¬ r102 = 0 → post r102 st101))) ∧ (r102 = 0 → wp_I_faultOfFree w st101 (fun (r106 : Int32) (st105 : St_) => ((r106 = 0 → wp_I_faultOfWays w st105 (fun (r108 : Int32) (st107 : St_) => post r108 st107)) ∧ (¬ r106 = 0 → post r106 st105)))))) ∧ (r102 = 0 → wp_I_faultOfMaps_23 w 1209 st101 (fun (r110 : Int32) (st109 : St_) => ((¬ r110 = 0 → ((r110 = 0 → wp_I_faultOfWays w st109 (fun (r112 : Int32) (st111 : St_) => post r112 st111)) ∧ (¬ r110 = 0 → post r110 st109))) ∧ (r110 = 0 → wp_I_faultOfFree w st109 (fun (r114 : Int32) (st113 : St_) => ((r114 = 0 → wp_I_faultOfWays w st113 (fun (r116 : Int32) (st115 : St_) => post r116 st115)) ∧ (¬ r114 = 0 → post r114 st113)))))))))) ∧ (¬ 1200 < y3 → vp_in y3 1201 ∧ (∀ st117 : St_, st117 = ws_1 st 6 (y3).toNatClampNeg 0 → (vp_in y3 1201 ∧ (∀ st118 : St_, st118 = ws_1 st117 9 (y3).toNatClampNeg (vp_nar .boolean 0) → (∀ x119 : Int32, x119 = y3 + 1 → (wp_I_firstFault_22_23_2 w post n x119 st118)))))))
def wp_I_firstFault_22_23 (w : Nat) (st : St_) (post : Int32 → St_ → Prop) : Prop := (∃ n, wp_I_firstFault_22_23_2 w post n 0 st)
def wp_S_check (w : Nat) (st : St_) (post : Int32 → St_ → Prop) : Prop := wp_I_firstFault_22_23 w st (fun (r102 : Int32) (st101 : St_) => post r102 st101)
def wp_R_check (w : Nat) (st : St_) (post : Int32 → St_ → Prop) : Prop := post 0 st
abbrev rm_S_isMap : Room := { frames := 0, cells := 0, slots := 0, locals := 0 }
abbrev rm_S_isKey : Room := { frames := 0, cells := 0, slots := 0, locals := 0 }
abbrev rm_S_isStamp : Room := { frames := 0, cells := 0, slots := 0, locals := 0 }
abbrev rm_B_isBlock : Room := { frames := 0, cells := 0, slots := 0, locals := 0 }
abbrev rm_B_level : Room := { frames := 1, cells := 0, slots := 0, locals := 21 }
abbrev rm_B_size : Room := { frames := 1, cells := 0, slots := 0, locals := 21 }
abbrev rm_B_slotOf : Room := { frames := 2, cells := 0, slots := 0, locals := 42 }
abbrev rm_B_isEntry : Room := { frames := 1, cells := 0, slots := 0, locals := 21 }
abbrev rm_B_key : Room := { frames := 2, cells := 0, slots := 0, locals := 43 }
abbrev rm_B_goal : Room := { frames := 2, cells := 0, slots := 0, locals := 43 }
abbrev rm_T_slotToward : Room := { frames := 3, cells := 0, slots := 0, locals := 67 }
abbrev rm_T_stampOf : Room := { frames := 4, cells := 0, slots := 0, locals := 89 }
abbrev rm_B_ways : Room := { frames := 1, cells := 0, slots := 0, locals := 21 }
abbrev rm_B_take : Room := { frames := 1, cells := 0, slots := 0, locals := 21 }
abbrev rm_B_lose : Room := { frames := 1, cells := 0, slots := 0, locals := 21 }
abbrev rm_B_insert : Room := { frames := 2, cells := 0, slots := 0, locals := 120 }
abbrev rm_B_share : Room := { frames := 1, cells := 0, slots := 0, locals := 21 }
abbrev rm_B_owned : Room := { frames := 3, cells := 0, slots := 0, locals := 146 }
abbrev rm_B_setGoal : Room := { frames := 2, cells := 0, slots := 0, locals := 43 }
abbrev rm_T_ownedChild : Room := { frames := 4, cells := 0, slots := 0, locals := 169 }
abbrev rm_B_setKey : Room := { frames := 2, cells := 0, slots := 0, locals := 43 }
abbrev rm_B_moveTail : Room := { frames := 3, cells := 0, slots := 0, locals := 146 }
abbrev rm_T_split : Room := { frames := 4, cells := 0, slots := 0, locals := 170 }
abbrev rm_T_putInLeaf : Room := { frames := 3, cells := 0, slots := 0, locals := 146 }
abbrev rm_T_putBelow (d : Nat) : Room := { frames := 5 + d, cells := 0, slots := 0, locals := 194 + 26 * d }
abbrev rm_T_grown : Room := { frames := 5, cells := 0, slots := 0, locals := 194 }
abbrev rm_T_with : Room := { frames := 26, cells := 0, slots := 0, locals := 740 }
abbrev rm_S_write : Room := { frames := 27, cells := 0, slots := 0, locals := 764 }
abbrev rm_R_isMap : Room := { frames := 0, cells := 0, slots := 0, locals := 0 }
abbrev rm_R_isKey : Room := { frames := 0, cells := 0, slots := 0, locals := 0 }
abbrev rm_R_isStamp : Room := { frames := 0, cells := 0, slots := 0, locals := 0 }
abbrev rm_R_all : Room := { frames := 0, cells := 0, slots := 0, locals := 0 }
abbrev rm_R_write : Room := { frames := 1, cells := 0, slots := 0, locals := 22 }
abbrev rm_S_spread : Room := { frames := 28, cells := 0, slots := 0, locals := 788 }
abbrev rm_R_spread : Room := { frames := 2, cells := 0, slots := 0, locals := 46 }
abbrev rm_S_read : Room := { frames := 5, cells := 0, slots := 0, locals := 113 }
abbrev rm_R_read : Room := { frames := 1, cells := 0, slots := 0, locals := 20 }
abbrev rm_B_remove : Room := { frames := 2, cells := 0, slots := 0, locals := 120 }
abbrev rm_T_moveEntry : Room := { frames := 3, cells := 0, slots := 0, locals := 146 }
abbrev rm_B_give : Room := { frames := 1, cells := 0, slots := 0, locals := 21 }
abbrev rm_T_fill : Room := { frames := 5, cells := 0, slots := 0, locals := 192 }
abbrev rm_T_removeBelow (d : Nat) : Room := { frames := 6 + d, cells := 0, slots := 0, locals := 216 + 25 * d }
abbrev rm_T_shrunk : Room := { frames := 3, cells := 0, slots := 0, locals := 65 }
abbrev rm_T_without : Room := { frames := 27, cells := 0, slots := 0, locals := 741 }
abbrev rm_S_removeKey : Room := { frames := 28, cells := 0, slots := 0, locals := 764 }
abbrev rm_S_erase : Room := { frames := 29, cells := 0, slots := 0, locals := 786 }
abbrev rm_R_erase : Room := { frames := 2, cells := 0, slots := 0, locals := 43 }
abbrev rm_T_keyOr : Room := { frames := 3, cells := 0, slots := 0, locals := 65 }
abbrev rm_T_keyFrom : Room := { frames := 4, cells := 0, slots := 0, locals := 89 }
abbrev rm_S_cut : Room := { frames := 29, cells := 0, slots := 0, locals := 786 }
abbrev rm_R_cut : Room := { frames := 3, cells := 0, slots := 0, locals := 66 }
abbrev rm_S_next : Room := { frames := 5, cells := 0, slots := 0, locals := 115 }
abbrev rm_R_next : Room := { frames := 1, cells := 0, slots := 0, locals := 20 }
abbrev rm_T_releaseBelow (d : Nat) : Room := { frames := 3 + d, cells := 0, slots := 0, locals := 65 + 23 * d }
abbrev rm_T_release : Room := { frames := 24, cells := 0, slots := 0, locals := 548 }
abbrev rm_S_lead_22 : Room := { frames := 25, cells := 0, slots := 0, locals := 569 }
abbrev rm_S_clone : Room := { frames := 26, cells := 0, slots := 0, locals := 593 }
abbrev rm_R_clone : Room := { frames := 1, cells := 0, slots := 0, locals := 22 }
abbrev rm_S_drop : Room := { frames := 26, cells := 0, slots := 0, locals := 593 }
abbrev rm_R_drop : Room := { frames := 4, cells := 0, slots := 0, locals := 91 }
abbrev rm_S_lead_23 : Room := { frames := 25, cells := 0, slots := 0, locals := 569 }
abbrev rm_S_leadAll_23_22 : Room := { frames := 26, cells := 0, slots := 0, locals := 593 }
abbrev rm_S_keep : Room := { frames := 27, cells := 0, slots := 0, locals := 616 }
abbrev rm_R_keep : Room := { frames := 1, cells := 0, slots := 0, locals := 22 }
abbrev rm_S_leadAll_22_23 : Room := { frames := 26, cells := 0, slots := 0, locals := 593 }
abbrev rm_S_back : Room := { frames := 27, cells := 0, slots := 0, locals := 616 }
abbrev rm_R_back : Room := { frames := 1, cells := 0, slots := 0, locals := 22 }
abbrev rm_S_keys : Room := { frames := 1, cells := 0, slots := 0, locals := 20 }
abbrev rm_R_keys : Room := { frames := 1, cells := 0, slots := 0, locals := 22 }
abbrev rm_I_hasOrder : Room := { frames := 3, cells := 0, slots := 0, locals := 65 }
abbrev rm_I_faultOfNode (d : Nat) : Room := { frames := 4 + 2 * d + 1, cells := 0, slots := 0, locals := 88 + 51 * d + 22 }
abbrev rm_I_faultOfLeaf : Room := { frames := 3, cells := 0, slots := 0, locals := 65 }
abbrev rm_I_faultBelow (d : Nat) : Room := { frames := 4 + 2 * d, cells := 0, slots := 0, locals := 88 + 51 * d }
abbrev rm_I_faultOfTree : Room := { frames := 45, cells := 0, slots := 0, locals := 1130 }
abbrev rm_I_faultOfMaps_22 : Room := { frames := 46, cells := 0, slots := 0, locals := 1155 }
abbrev rm_I_faultOfWays : Room := { frames := 2, cells := 0, slots := 0, locals := 42 }
abbrev rm_B_freeCount : Room := { frames := 0, cells := 0, slots := 0, locals := 0 }
abbrev rm_B_freeBlock : Room := { frames := 0, cells := 0, slots := 0, locals := 0 }
abbrev rm_I_faultOfFree : Room := { frames := 1, cells := 0, slots := 0, locals := 21 }
abbrev rm_I_faultOfMaps_23 : Room := { frames := 46, cells := 0, slots := 0, locals := 1155 }
abbrev rm_I_firstFault_22_23 : Room := { frames := 47, cells := 0, slots := 0, locals := 1180 }
abbrev rm_S_check : Room := { frames := 48, cells := 0, slots := 0, locals := 1203 }
abbrev rm_R_check : Room := { frames := 0, cells := 0, slots := 0, locals := 0 }
end
section
set_option maxHeartbeats 4000000 in
set_option maxRecDepth 100000 in
theorem ct_S_isMap (l : Launch) (D : va_G) (ad : Nat → Nat) (cA : Nat → ClassId) (w : Nat) (hJ : Jn_ ad) (x0 : Int32) (st : St_) (post : Int32 → St_ → Prop) (h : wp_S_isMap w x0 st post) : Met l yn_S_isMap (Cond.code yn_S_isMap bc_S_isMap 1 (some .boolean) :: Wk_) rm_S_isMap (Pw_ D ad cA w st [.int x0]) (Qi_ D ad cA w post) 0 0 (Aw_ ad) := by
  refine Met.ofW (cc := bc_S_isMap) (maxL := 1) (ret := (some .boolean)) (by decide) rfl ?_
  intro p e s m args below meth c s₁ B hml hv
  obtain ⟨rfl, hP, hK, hN⟩ := hv
  have hx := B.exec
  have hb := B.bytes
  have hr := B.returns
  have hts : ∀ v ∈ Wk_, v.before [.int x0].toArray s = true := fun v hv => atoms_spec (ws := Cond.code yn_S_isMap bc_S_isMap 1 (some .boolean) :: Wk_) B.pre v (List.mem_cons_of_mem _ hv)
  have hown : s.vm.findClass Rn_S = some m.cls := findClass_of_methodNamed B.named
  have hlocks := B.notSynchronized
  have hS : va_S (Aw_ ad) s.heap s.heap [] := va_S.rf
  have hl := lv_entry ([.int x0]) (n := 1) (Nat.le_of_ble_eq_true rfl)
  rw [lg_entry_eq]
  generalize (lg_sl ([.int x0]) ++ List.replicate (1 - (lg_sl ([.int x0])).length) Slot.unset).toArray = ls at hl ⊢
  have hl : lv_has ls 1 [(0, .int x0)] := hl
  refine lv_iload_n hx hb dc_S_isMap_0 rfl (lv_at hl 0 rfl) ?_
  refine lv_if_lt (tgt := 14) hx hb dc_S_isMap_1 (by decide) (fun c => ?_) (fun c => ?_)
  · have h := h.1 c
    refine lv_iconst (v := 0) hx hb dc_S_isMap_14 (by decide) ?_
    exact w_zret hx hb hr rfl hlocks hP hS h dc_S_isMap_15
  · have h := h.2 c
    refine lv_iload_n hx hb dc_S_isMap_4 rfl (lv_at hl 0 rfl) ?_
    refine lv_bipush (v := 8) hx hb dc_S_isMap_5 (by decide) ?_
    refine lv_icmp_ge (tgt := 14) hx hb dc_S_isMap_7 (by decide) (fun c => ?_) (fun c => ?_)
    · have h := h.1 c
      refine lv_iconst (v := 0) hx hb dc_S_isMap_14 (by decide) ?_
      exact w_zret hx hb hr rfl hlocks hP hS h dc_S_isMap_15
    · have h := h.2 c
      refine lv_iconst (v := 1) hx hb dc_S_isMap_10 (by decide) ?_
      refine lv_goto (tgt := 15) hx hb dc_S_isMap_11 (by decide) ?_
      exact w_zret hx hb hr rfl hlocks hP hS h dc_S_isMap_15
set_option maxHeartbeats 4000000 in
set_option maxRecDepth 100000 in
theorem ct_S_isKey (l : Launch) (D : va_G) (ad : Nat → Nat) (cA : Nat → ClassId) (w : Nat) (hJ : Jn_ ad) (x0 : Int32) (st : St_) (post : Int32 → St_ → Prop) (h : wp_S_isKey w x0 st post) : Met l yn_S_isKey (Cond.code yn_S_isKey bc_S_isKey 1 (some .boolean) :: Wk_) rm_S_isKey (Pw_ D ad cA w st [.int x0]) (Qi_ D ad cA w post) 0 0 (Aw_ ad) := by
  refine Met.ofW (cc := bc_S_isKey) (maxL := 1) (ret := (some .boolean)) (by decide) rfl ?_
  intro p e s m args below meth c s₁ B hml hv
  obtain ⟨rfl, hP, hK, hN⟩ := hv
  have hx := B.exec
  have hb := B.bytes
  have hr := B.returns
  have hts : ∀ v ∈ Wk_, v.before [.int x0].toArray s = true := fun v hv => atoms_spec (ws := Cond.code yn_S_isKey bc_S_isKey 1 (some .boolean) :: Wk_) B.pre v (List.mem_cons_of_mem _ hv)
  have hown : s.vm.findClass Rn_S = some m.cls := findClass_of_methodNamed B.named
  have hlocks := B.notSynchronized
  have hS : va_S (Aw_ ad) s.heap s.heap [] := va_S.rf
  have hl := lv_entry ([.int x0]) (n := 1) (Nat.le_of_ble_eq_true rfl)
  rw [lg_entry_eq]
  generalize (lg_sl ([.int x0]) ++ List.replicate (1 - (lg_sl ([.int x0])).length) Slot.unset).toArray = ls at hl ⊢
  have hl : lv_has ls 1 [(0, .int x0)] := hl
  refine lv_iload_n hx hb dc_S_isKey_0 rfl (lv_at hl 0 rfl) ?_
  refine lv_if_lt (tgt := 15) hx hb dc_S_isKey_1 (by decide) (fun c => ?_) (fun c => ?_)
  · have h := h.1 c
    refine lv_iconst (v := 0) hx hb dc_S_isKey_15 (by decide) ?_
    exact w_zret hx hb hr rfl hlocks hP hS h dc_S_isKey_16
  · have h := h.2 c
    refine lv_iload_n hx hb dc_S_isKey_4 rfl (lv_at hl 0 rfl) ?_
    refine lv_sipush (v := 4095) hx hb dc_S_isKey_5 (by decide) ?_
    refine lv_icmp_gt (tgt := 15) hx hb dc_S_isKey_8 (by decide) (fun c => ?_) (fun c => ?_)
    · have h := h.1 c
      refine lv_iconst (v := 0) hx hb dc_S_isKey_15 (by decide) ?_
      exact w_zret hx hb hr rfl hlocks hP hS h dc_S_isKey_16
    · have h := h.2 c
      refine lv_iconst (v := 1) hx hb dc_S_isKey_11 (by decide) ?_
      refine lv_goto (tgt := 16) hx hb dc_S_isKey_12 (by decide) ?_
      exact w_zret hx hb hr rfl hlocks hP hS h dc_S_isKey_16
set_option maxHeartbeats 4000000 in
set_option maxRecDepth 100000 in
theorem ct_S_isStamp (l : Launch) (D : va_G) (ad : Nat → Nat) (cA : Nat → ClassId) (w : Nat) (hJ : Jn_ ad) (x0 : Int32) (st : St_) (post : Int32 → St_ → Prop) (h : wp_S_isStamp w x0 st post) : Met l yn_S_isStamp (Cond.code yn_S_isStamp bc_S_isStamp 1 (some .boolean) :: Wk_) rm_S_isStamp (Pw_ D ad cA w st [.int x0]) (Qi_ D ad cA w post) 0 0 (Aw_ ad) := by
  refine Met.ofW (cc := bc_S_isStamp) (maxL := 1) (ret := (some .boolean)) (by decide) rfl ?_
  intro p e s m args below meth c s₁ B hml hv
  obtain ⟨rfl, hP, hK, hN⟩ := hv
  have hx := B.exec
  have hb := B.bytes
  have hr := B.returns
  have hts : ∀ v ∈ Wk_, v.before [.int x0].toArray s = true := fun v hv => atoms_spec (ws := Cond.code yn_S_isStamp bc_S_isStamp 1 (some .boolean) :: Wk_) B.pre v (List.mem_cons_of_mem _ hv)
  have hown : s.vm.findClass Rn_S = some m.cls := findClass_of_methodNamed B.named
  have hlocks := B.notSynchronized
  have hS : va_S (Aw_ ad) s.heap s.heap [] := va_S.rf
  have hl := lv_entry ([.int x0]) (n := 1) (Nat.le_of_ble_eq_true rfl)
  rw [lg_entry_eq]
  generalize (lg_sl ([.int x0]) ++ List.replicate (1 - (lg_sl ([.int x0])).length) Slot.unset).toArray = ls at hl ⊢
  have hl : lv_has ls 1 [(0, .int x0)] := hl
  refine lv_iload_n hx hb dc_S_isStamp_0 rfl (lv_at hl 0 rfl) ?_
  refine lv_if_lt (tgt := 14) hx hb dc_S_isStamp_1 (by decide) (fun c => ?_) (fun c => ?_)
  · have h := h.1 c
    refine lv_iconst (v := 0) hx hb dc_S_isStamp_14 (by decide) ?_
    exact w_zret hx hb hr rfl hlocks hP hS h dc_S_isStamp_15
  · have h := h.2 c
    refine lv_iload_n hx hb dc_S_isStamp_4 rfl (lv_at hl 0 rfl) ?_
    refine lv_ldc hx hb hown (hts _ mw_7) dc_S_isStamp_5 ?_
    refine lv_icmp_gt (tgt := 14) hx hb dc_S_isStamp_7 (by decide) (fun c => ?_) (fun c => ?_)
    · have h := h.1 c
      refine lv_iconst (v := 0) hx hb dc_S_isStamp_14 (by decide) ?_
      exact w_zret hx hb hr rfl hlocks hP hS h dc_S_isStamp_15
    · have h := h.2 c
      refine lv_iconst (v := 1) hx hb dc_S_isStamp_10 (by decide) ?_
      refine lv_goto (tgt := 15) hx hb dc_S_isStamp_11 (by decide) ?_
      exact w_zret hx hb hr rfl hlocks hP hS h dc_S_isStamp_15
set_option maxHeartbeats 4000000 in
set_option maxRecDepth 100000 in
theorem ct_B_isBlock (l : Launch) (D : va_G) (ad : Nat → Nat) (cA : Nat → ClassId) (w : Nat) (hJ : Jn_ ad) (x1 : Int32) (st : St_) (post : Int32 → St_ → Prop) (h : wp_B_isBlock w x1 st post) : Met l yn_B_isBlock (Cond.code yn_B_isBlock bc_B_isBlock 2 (some .boolean) :: Wk_) rm_B_isBlock (Pw_ D ad cA w st [.ref (ad 19), .int x1]) (Qi_ D ad cA w post) 0 0 (Aw_ ad) := by
  refine Met.ofW (cc := bc_B_isBlock) (maxL := 2) (ret := (some .boolean)) (by decide) rfl ?_
  intro p e s m args below meth c s₁ B hml hv
  obtain ⟨rfl, hP, hK, hN⟩ := hv
  have hx := B.exec
  have hb := B.bytes
  have hr := B.returns
  have hts : ∀ v ∈ Wk_, v.before [.ref (ad 19), .int x1].toArray s = true := fun v hv => atoms_spec (ws := Cond.code yn_B_isBlock bc_B_isBlock 2 (some .boolean) :: Wk_) B.pre v (List.mem_cons_of_mem _ hv)
  have hown : s.vm.findClass Rn_B = some m.cls := findClass_of_methodNamed B.named
  have hlocks := B.notSynchronized
  have hS : va_S (Aw_ ad) s.heap s.heap [] := va_S.rf
  have hl := lv_entry ([.ref (ad 19), .int x1]) (n := 2) (Nat.le_of_ble_eq_true rfl)
  rw [lg_entry_eq]
  generalize (lg_sl ([.ref (ad 19), .int x1]) ++ List.replicate (2 - (lg_sl ([.ref (ad 19), .int x1])).length) Slot.unset).toArray = ls at hl ⊢
  have hl : lv_has ls 2 [(0, .ref (ad 19)), (1, .int x1)] := hl
  refine lv_iload_n hx hb dc_B_isBlock_0 rfl (lv_at hl 1 rfl) ?_
  refine lv_if_le (tgt := 15) hx hb dc_B_isBlock_1 (by decide) (fun c => ?_) (fun c => ?_)
  · have h := h.1 c
    refine lv_iconst (v := 0) hx hb dc_B_isBlock_15 (by decide) ?_
    exact w_zret hx hb hr rfl hlocks hP hS h dc_B_isBlock_16
  · have h := h.2 c
    refine lv_iload_n hx hb dc_B_isBlock_4 rfl (lv_at hl 1 rfl) ?_
    refine lv_sipush (v := 1200) hx hb dc_B_isBlock_5 (by decide) ?_
    refine lv_icmp_gt (tgt := 15) hx hb dc_B_isBlock_8 (by decide) (fun c => ?_) (fun c => ?_)
    · have h := h.1 c
      refine lv_iconst (v := 0) hx hb dc_B_isBlock_15 (by decide) ?_
      exact w_zret hx hb hr rfl hlocks hP hS h dc_B_isBlock_16
    · have h := h.2 c
      refine lv_iconst (v := 1) hx hb dc_B_isBlock_11 (by decide) ?_
      refine lv_goto (tgt := 16) hx hb dc_B_isBlock_12 (by decide) ?_
      exact w_zret hx hb hr rfl hlocks hP hS h dc_B_isBlock_16
set_option maxHeartbeats 4000000 in
set_option maxRecDepth 100000 in
theorem ct_B_level (l : Launch) (D : va_G) (ad : Nat → Nat) (cA : Nat → ClassId) (w : Nat) (hJ : Jn_ ad) (x1 : Int32) (st : St_) (post : Int32 → St_ → Prop) (h : wp_B_level w x1 st post) : Met l yn_B_level (Cond.code yn_B_level bc_B_level 2 (some .int) :: Wk_) rm_B_level (Pw_ D ad cA w st [.ref (ad 19), .int x1]) (Qi_ D ad cA w post) 0 0 (Aw_ ad) := by
  refine Met.ofW (cc := bc_B_level) (maxL := 2) (ret := (some .int)) (by decide) rfl ?_
  intro p e s m args below meth c s₁ B hml hv
  obtain ⟨rfl, hP, hK, hN⟩ := hv
  have hx := B.exec
  have hb := B.bytes
  have hr := B.returns
  have hts : ∀ v ∈ Wk_, v.before [.ref (ad 19), .int x1].toArray s = true := fun v hv => atoms_spec (ws := Cond.code yn_B_level bc_B_level 2 (some .int) :: Wk_) B.pre v (List.mem_cons_of_mem _ hv)
  have hown : s.vm.findClass Rn_B = some m.cls := findClass_of_methodNamed B.named
  have hlocks := B.notSynchronized
  have hS : va_S (Aw_ ad) s.heap s.heap [] := va_S.rf
  have hl := lv_entry ([.ref (ad 19), .int x1]) (n := 2) (Nat.le_of_ble_eq_true rfl)
  rw [lg_entry_eq]
  generalize (lg_sl ([.ref (ad 19), .int x1]) ++ List.replicate (2 - (lg_sl ([.ref (ad 19), .int x1])).length) Slot.unset).toArray = ls at hl ⊢
  have hl : lv_has ls 2 [(0, .ref (ad 19)), (1, .int x1)] := hl
  refine lv_aload_n hx hb dc_B_level_0 rfl (lv_at hl 0 rfl) ?_
  refine lv_iload_n hx hb dc_B_level_1 rfl (lv_at hl 1 rfl) ?_
  refine w_cVi (y := yn_B_isBlock) (C := Rn_B) (index := 37) (n := 1) (own := Rn_B) 19 hx hb hml hown hts hK hN hP hS (ct_B_isBlock l D ad cA w hJ x1 st _ h) mw_14 mw_15 mw_16 mw_17 mw_18 (by decide +kernel) ⟨Nat.le_of_ble_eq_true rfl, Nat.le_of_ble_eq_true rfl⟩ rfl rfl rfl rfl rfl hl.1 rfl (lv_room (Nat.le_of_ble_eq_true rfl)) dc_B_level_2 ⟨Nat.zero_le _, Nat.zero_le _⟩ (fun r102 st101 H locs hP hS h => ?_)
  refine lv_if_eq (tgt := 17) hx hb dc_B_level_5 (by decide) (fun c => ?_) (fun c => ?_)
  · have h := h.1 c
    refine lv_iconst (v := 0) hx hb dc_B_level_17 (by decide) ?_
    exact w_iret hx hb hr hlocks hP hS h dc_B_level_18
  · have h := h.2 c
    refine lv_aload_n hx hb dc_B_level_8 rfl (lv_at hl 0 rfl) ?_
    refine va_get (D := D) (ci := 1) (v := .ref (ad 1)) (C := Rn_B) (T := Fn_B) (N := 8) hx hb hts in_B hown hK hP 19 rfl rfl 2 (by decide) (hts _ mw_19) (fun _ h9 => h9) rfl dc_B_level_9 ?_
    refine lv_iload_n hx hb dc_B_level_12 rfl (lv_at hl 1 rfl) ?_
    refine w_ild 1 (by decide) hx hb hK hP h.1 dc_B_level_13 ?_
    have h := h.2
    refine lv_goto (tgt := 18) hx hb dc_B_level_14 (by decide) ?_
    exact w_iret hx hb hr hlocks hP hS h dc_B_level_18
set_option maxHeartbeats 4000000 in
set_option maxRecDepth 100000 in
theorem ct_B_size (l : Launch) (D : va_G) (ad : Nat → Nat) (cA : Nat → ClassId) (w : Nat) (hJ : Jn_ ad) (x1 : Int32) (st : St_) (post : Int32 → St_ → Prop) (h : wp_B_size w x1 st post) : Met l yn_B_size (Cond.code yn_B_size bc_B_size 2 (some .int) :: Wk_) rm_B_size (Pw_ D ad cA w st [.ref (ad 19), .int x1]) (Qi_ D ad cA w post) 0 0 (Aw_ ad) := by
  refine Met.ofW (cc := bc_B_size) (maxL := 2) (ret := (some .int)) (by decide) rfl ?_
  intro p e s m args below meth c s₁ B hml hv
  obtain ⟨rfl, hP, hK, hN⟩ := hv
  have hx := B.exec
  have hb := B.bytes
  have hr := B.returns
  have hts : ∀ v ∈ Wk_, v.before [.ref (ad 19), .int x1].toArray s = true := fun v hv => atoms_spec (ws := Cond.code yn_B_size bc_B_size 2 (some .int) :: Wk_) B.pre v (List.mem_cons_of_mem _ hv)
  have hown : s.vm.findClass Rn_B = some m.cls := findClass_of_methodNamed B.named
  have hlocks := B.notSynchronized
  have hS : va_S (Aw_ ad) s.heap s.heap [] := va_S.rf
  have hl := lv_entry ([.ref (ad 19), .int x1]) (n := 2) (Nat.le_of_ble_eq_true rfl)
  rw [lg_entry_eq]
  generalize (lg_sl ([.ref (ad 19), .int x1]) ++ List.replicate (2 - (lg_sl ([.ref (ad 19), .int x1])).length) Slot.unset).toArray = ls at hl ⊢
  have hl : lv_has ls 2 [(0, .ref (ad 19)), (1, .int x1)] := hl
  refine lv_aload_n hx hb dc_B_size_0 rfl (lv_at hl 0 rfl) ?_
  refine lv_iload_n hx hb dc_B_size_1 rfl (lv_at hl 1 rfl) ?_
  refine w_cVi (y := yn_B_isBlock) (C := Rn_B) (index := 37) (n := 1) (own := Rn_B) 19 hx hb hml hown hts hK hN hP hS (ct_B_isBlock l D ad cA w hJ x1 st _ h) mw_14 mw_15 mw_16 mw_17 mw_18 (by decide +kernel) ⟨Nat.le_of_ble_eq_true rfl, Nat.le_of_ble_eq_true rfl⟩ rfl rfl rfl rfl rfl hl.1 rfl (lv_room (Nat.le_of_ble_eq_true rfl)) dc_B_size_2 ⟨Nat.zero_le _, Nat.zero_le _⟩ (fun r102 st101 H locs hP hS h => ?_)
  refine lv_if_eq (tgt := 17) hx hb dc_B_size_5 (by decide) (fun c => ?_) (fun c => ?_)
  · have h := h.1 c
    refine lv_iconst (v := 0) hx hb dc_B_size_17 (by decide) ?_
    exact w_iret hx hb hr hlocks hP hS h dc_B_size_18
  · have h := h.2 c
    refine lv_aload_n hx hb dc_B_size_8 rfl (lv_at hl 0 rfl) ?_
    refine va_get (D := D) (ci := 1) (v := .ref (ad 2)) (C := Rn_B) (T := Fn_B) (N := 8) hx hb hts in_B hown hK hP 19 rfl rfl 3 (by decide) (hts _ mw_25) (fun _ h9 => h9) rfl dc_B_size_9 ?_
    refine lv_iload_n hx hb dc_B_size_12 rfl (lv_at hl 1 rfl) ?_
    refine w_ild 2 (by decide) hx hb hK hP h.1 dc_B_size_13 ?_
    have h := h.2
    refine lv_goto (tgt := 18) hx hb dc_B_size_14 (by decide) ?_
    exact w_iret hx hb hr hlocks hP hS h dc_B_size_18
set_option maxHeartbeats 4000000 in
set_option maxRecDepth 100000 in
theorem ct_B_slotOf (l : Launch) (D : va_G) (ad : Nat → Nat) (cA : Nat → ClassId) (w : Nat) (hJ : Jn_ ad) (x1 : Int32) (x2 : Int32) (st : St_) (post : Int32 → St_ → Prop) (h : wp_B_slotOf w x1 x2 st post) : Met l yn_B_slotOf (Cond.code yn_B_slotOf bc_B_slotOf 6 (some .int) :: Wk_) rm_B_slotOf (Pw_ D ad cA w st [.ref (ad 19), .int x1, .int x2]) (Qi_ D ad cA w post) 0 0 (Aw_ ad) := by
  refine Met.ofW (cc := bc_B_slotOf) (maxL := 6) (ret := (some .int)) (by decide) rfl ?_
  intro p e s m args below meth c s₁ B hml hv
  obtain ⟨rfl, hP, hK, hN⟩ := hv
  have hx := B.exec
  have hb := B.bytes
  have hr := B.returns
  have hts : ∀ v ∈ Wk_, v.before [.ref (ad 19), .int x1, .int x2].toArray s = true := fun v hv => atoms_spec (ws := Cond.code yn_B_slotOf bc_B_slotOf 6 (some .int) :: Wk_) B.pre v (List.mem_cons_of_mem _ hv)
  have hown : s.vm.findClass Rn_B = some m.cls := findClass_of_methodNamed B.named
  have hlocks := B.notSynchronized
  have hS : va_S (Aw_ ad) s.heap s.heap [] := va_S.rf
  have Lp_24 : ∀ (n : Nat) (y1 y2 y3 y4 y5 : Int32) (st : St_), wp_B_slotOf_24 w post n y1 y2 y3 y4 y5 st → ∀ (H : Heap) (locs : List Loc), va_P D sC_ (wd_ ad cA w st) H → va_S (Aw_ ad) s.heap H locs → ∀ ls : Array Slot, lv_has ls 6 [(0, .ref (ad 19)), (1, .int y1), (2, .int y2), (3, .int y3), (4, .int y4), (5, .int y5)] → W p l e (headSpec (Cond.code yn_B_slotOf bc_B_slotOf 6 (some .int) :: Wk_) rm_B_slotOf).room s m [.ref (ad 19), .int x1, .int x2].toArray below meth c H locs 0 0 (MQ below (Qi_ D ad cA w post) [.ref (ad 19), .int x1, .int x2].toArray s 0 0 (Aw_ ad)) (F0 m 24 ls []) := by
    intro n
    induction n with
    | zero => intro y1 y2 y3 y4 y5 st h; exact h.elim
    | succ n ih =>
      intro y1 y2 y3 y4 y5 st h H locs hP hS ls hl
      refine lv_iload_n hx hb dc_B_slotOf_24 rfl (lv_at hl 3 rfl) ?_
      refine lv_iconst (v := 1) hx hb dc_B_slotOf_25 (by decide) ?_
      refine lv_iadd hx hb dc_B_slotOf_26 ?_
      refine lv_iload hx hb dc_B_slotOf_27 (lv_at hl 5 rfl) ?_
      refine lv_icmp_ge (tgt := 53) hx hb dc_B_slotOf_29 (by decide) (fun c => ?_) (fun c => ?_)
      · have h := h.1 c
        refine lv_iload_n hx hb dc_B_slotOf_53 rfl (lv_at hl 3 rfl) ?_
        exact w_iret hx hb hr hlocks hP hS h dc_B_slotOf_54
      · have h := h.2 c
        refine lv_aload_n hx hb dc_B_slotOf_32 rfl (lv_at hl 0 rfl) ?_
        refine va_get (D := D) (ci := 1) (v := .ref (ad 3)) (C := Rn_B) (T := Fn_B) (N := 8) hx hb hts in_B hown hK hP 19 rfl rfl 4 (by decide) (hts _ mw_34) (fun _ h9 => h9) rfl dc_B_slotOf_33 ?_
        refine lv_iload hx hb dc_B_slotOf_36 (lv_at hl 4 rfl) ?_
        refine lv_iload_n hx hb dc_B_slotOf_38 rfl (lv_at hl 3 rfl) ?_
        refine lv_iadd hx hb dc_B_slotOf_39 ?_
        refine lv_iconst (v := 1) hx hb dc_B_slotOf_40 (by decide) ?_
        refine lv_iadd hx hb dc_B_slotOf_41 ?_
        refine w_ild 3 (by decide) hx hb hK hP h.1 dc_B_slotOf_42 ?_
        have h := h.2
        refine lv_iload_n hx hb dc_B_slotOf_43 rfl (lv_at hl 2 rfl) ?_
        refine lv_icmp_gt (tgt := 53) hx hb dc_B_slotOf_44 (by decide) (fun c => ?_) (fun c => ?_)
        · have h := h.1 c
          refine lv_iload_n hx hb dc_B_slotOf_53 rfl (lv_at hl 3 rfl) ?_
          exact w_iret hx hb hr hlocks hP hS h dc_B_slotOf_54
        · have h := h.2 c
          obtain ⟨x105, ex105⟩ : ∃ y : Int32, y = y3 + 1 := ⟨_, rfl⟩
          have h := h x105 ex105
          refine lv_iinc (v := x105) (lv' := [(3, .int x105), (0, .ref (ad 19)), (1, .int y1), (2, .int y2), (4, .int y4), (5, .int y5)]) hx hb dc_B_slotOf_47 hl (k := 3) rfl (by rw [ex105]; rfl) (by decide) rfl (fun ls hl => ?_)
          refine lv_goto (tgt := 24) hx hb dc_B_slotOf_50 (by decide) ?_
          exact ih y1 y2 x105 y4 y5 st h _ _ hP hS ls (lv_sub hl [1, 2, 3, 0, 4, 5] rfl)
  have hl := lv_entry ([.ref (ad 19), .int x1, .int x2]) (n := 6) (Nat.le_of_ble_eq_true rfl)
  rw [lg_entry_eq]
  generalize (lg_sl ([.ref (ad 19), .int x1, .int x2]) ++ List.replicate (6 - (lg_sl ([.ref (ad 19), .int x1, .int x2])).length) Slot.unset).toArray = ls at hl ⊢
  have hl : lv_has ls 6 [(0, .ref (ad 19)), (1, .int x1), (2, .int x2)] := hl
  refine lv_iconst (v := (-1)) hx hb dc_B_slotOf_0 (by decide) ?_
  refine lv_istore_n (lv' := [(3, .int (-1)), (0, .ref (ad 19)), (1, .int x1), (2, .int x2)]) hx hb dc_B_slotOf_1 rfl hl (by decide) rfl (fun ls hl => ?_)
  refine lv_iload_n hx hb dc_B_slotOf_2 rfl (lv_at hl 2 rfl) ?_
  refine lv_aload_n hx hb dc_B_slotOf_3 rfl (lv_at hl 1 rfl) ?_
  refine va_get (D := D) (ci := 1) (v := .int (nI w)) (C := Rn_B) (T := Fn_B) (N := 8) hx hb hts in_B hown hK hP 19 rfl rfl 0 (by decide) (hts _ mw_24) (fun _ h9 => h9) rfl dc_B_slotOf_4 ?_
  refine lv_imul hx hb dc_B_slotOf_7 ?_
  refine lv_topi (fun x101 ex101 => ?_)
  have h := h x101 ex101
  refine lv_istore (lv' := [(4, .int x101), (3, .int (-1)), (0, .ref (ad 19)), (1, .int x1), (2, .int x2)]) hx hb dc_B_slotOf_8 hl (by decide) rfl (fun ls hl => ?_)
  refine lv_aload_n hx hb dc_B_slotOf_10 rfl (lv_at hl 2 rfl) ?_
  refine lv_iload_n hx hb dc_B_slotOf_11 rfl (lv_at hl 3 rfl) ?_
  refine w_cVi (y := yn_B_size) (C := Rn_B) (index := 45) (n := 1) (own := Rn_B) 19 hx hb hml hown hts hK hN hP hS (ct_B_size l D ad cA w hJ x1 st _ h) mw_26 mw_27 mw_28 mw_29 mw_18 (by decide +kernel) ⟨Nat.le_of_ble_eq_true rfl, Nat.le_of_ble_eq_true rfl⟩ rfl rfl rfl rfl rfl hl.1 rfl (lv_room (Nat.le_of_ble_eq_true rfl)) dc_B_slotOf_12 ⟨Nat.zero_le _, Nat.zero_le _⟩ (fun r103 st102 H locs hP hS h => ?_)
  refine lv_aload_n hx hb dc_B_slotOf_15 rfl (lv_at hl 2 rfl) ?_
  refine va_get (D := D) (ci := 1) (v := .int (nI w)) (C := Rn_B) (T := Fn_B) (N := 8) hx hb hts in_B hown hK hP 19 rfl rfl 0 (by decide) (hts _ mw_24) (fun _ h9 => h9) rfl dc_B_slotOf_16 ?_
  refine va_mmin hx hb (hml.trans hl.1.symm) hown (hts _ mw_30) (hts _ mw_31) (hts _ mw_32) (hts _ mw_33) (Nat.le_of_ble_eq_true rfl) (Nat.le_of_ble_eq_true rfl) (Nat.zero_le _) (Nat.zero_le _) dc_B_slotOf_19 ?_
  refine lv_topi (fun x104 ex104 => ?_)
  have h := h x104 ex104
  refine lv_istore (lv' := [(5, .int x104), (4, .int x101), (3, .int (-1)), (0, .ref (ad 19)), (1, .int x1), (2, .int x2)]) hx hb dc_B_slotOf_22 hl (by decide) rfl (fun ls hl => ?_)
  obtain ⟨n, h⟩ := h
  exact Lp_24 n x1 x2 (-1) x101 x104 st102 h _ _ hP hS ls (lv_sub hl [3, 4, 5, 2, 1, 0] rfl)
set_option maxHeartbeats 4000000 in
set_option maxRecDepth 100000 in
theorem ct_B_isEntry (l : Launch) (D : va_G) (ad : Nat → Nat) (cA : Nat → ClassId) (w : Nat) (hJ : Jn_ ad) (x1 : Int32) (x2 : Int32) (st : St_) (post : Int32 → St_ → Prop) (h : wp_B_isEntry w x1 x2 st post) : Met l yn_B_isEntry (Cond.code yn_B_isEntry bc_B_isEntry 3 (some .boolean) :: Wk_) rm_B_isEntry (Pw_ D ad cA w st [.ref (ad 19), .int x1, .int x2]) (Qi_ D ad cA w post) 0 0 (Aw_ ad) := by
  refine Met.ofW (cc := bc_B_isEntry) (maxL := 3) (ret := (some .boolean)) (by decide) rfl ?_
  intro p e s m args below meth c s₁ B hml hv
  obtain ⟨rfl, hP, hK, hN⟩ := hv
  have hx := B.exec
  have hb := B.bytes
  have hr := B.returns
  have hts : ∀ v ∈ Wk_, v.before [.ref (ad 19), .int x1, .int x2].toArray s = true := fun v hv => atoms_spec (ws := Cond.code yn_B_isEntry bc_B_isEntry 3 (some .boolean) :: Wk_) B.pre v (List.mem_cons_of_mem _ hv)
  have hown : s.vm.findClass Rn_B = some m.cls := findClass_of_methodNamed B.named
  have hlocks := B.notSynchronized
  have hS : va_S (Aw_ ad) s.heap s.heap [] := va_S.rf
  have hl := lv_entry ([.ref (ad 19), .int x1, .int x2]) (n := 3) (Nat.le_of_ble_eq_true rfl)
  rw [lg_entry_eq]
  generalize (lg_sl ([.ref (ad 19), .int x1, .int x2]) ++ List.replicate (3 - (lg_sl ([.ref (ad 19), .int x1, .int x2])).length) Slot.unset).toArray = ls at hl ⊢
  have hl : lv_has ls 3 [(0, .ref (ad 19)), (1, .int x1), (2, .int x2)] := hl
  refine lv_aload_n hx hb dc_B_isEntry_0 rfl (lv_at hl 0 rfl) ?_
  refine lv_iload_n hx hb dc_B_isEntry_1 rfl (lv_at hl 1 rfl) ?_
  refine w_cVi (y := yn_B_isBlock) (C := Rn_B) (index := 37) (n := 1) (own := Rn_B) 19 hx hb hml hown hts hK hN hP hS (ct_B_isBlock l D ad cA w hJ x1 st _ h) mw_14 mw_15 mw_16 mw_17 mw_18 (by decide +kernel) ⟨Nat.le_of_ble_eq_true rfl, Nat.le_of_ble_eq_true rfl⟩ rfl rfl rfl rfl rfl hl.1 rfl (lv_room (Nat.le_of_ble_eq_true rfl)) dc_B_isEntry_2 ⟨Nat.zero_le _, Nat.zero_le _⟩ (fun r102 st101 H locs hP hS h => ?_)
  refine lv_if_eq (tgt := 34) hx hb dc_B_isEntry_5 (by decide) (fun c => ?_) (fun c => ?_)
  · have h := h.1 c
    refine lv_iconst (v := 0) hx hb dc_B_isEntry_34 (by decide) ?_
    exact w_zret hx hb hr rfl hlocks hP hS h dc_B_isEntry_35
  · have h := h.2 c
    refine lv_iload_n hx hb dc_B_isEntry_8 rfl (lv_at hl 2 rfl) ?_
    refine lv_if_lt (tgt := 34) hx hb dc_B_isEntry_9 (by decide) (fun c => ?_) (fun c => ?_)
    · have h := h.1 c
      refine lv_iconst (v := 0) hx hb dc_B_isEntry_34 (by decide) ?_
      exact w_zret hx hb hr rfl hlocks hP hS h dc_B_isEntry_35
    · have h := h.2 c
      refine lv_iload_n hx hb dc_B_isEntry_12 rfl (lv_at hl 2 rfl) ?_
      refine lv_aload_n hx hb dc_B_isEntry_13 rfl (lv_at hl 0 rfl) ?_
      refine va_get (D := D) (ci := 1) (v := .int (nI w)) (C := Rn_B) (T := Fn_B) (N := 8) hx hb hts in_B hown hK hP 19 rfl rfl 0 (by decide) (hts _ mw_24) (fun _ h9 => h9) rfl dc_B_isEntry_14 ?_
      refine lv_icmp_ge (tgt := 34) hx hb dc_B_isEntry_17 (by decide) (fun c => ?_) (fun c => ?_)
      · have h := h.1 c
        refine lv_iconst (v := 0) hx hb dc_B_isEntry_34 (by decide) ?_
        exact w_zret hx hb hr rfl hlocks hP hS h dc_B_isEntry_35
      · have h := h.2 c
        refine lv_iload_n hx hb dc_B_isEntry_20 rfl (lv_at hl 2 rfl) ?_
        refine lv_aload_n hx hb dc_B_isEntry_21 rfl (lv_at hl 0 rfl) ?_
        refine va_get (D := D) (ci := 1) (v := .ref (ad 2)) (C := Rn_B) (T := Fn_B) (N := 8) hx hb hts in_B hown hK hP 19 rfl rfl 3 (by decide) (hts _ mw_25) (fun _ h9 => h9) rfl dc_B_isEntry_22 ?_
        refine lv_iload_n hx hb dc_B_isEntry_25 rfl (lv_at hl 1 rfl) ?_
        refine w_ild 2 (by decide) hx hb hK hP h.1 dc_B_isEntry_26 ?_
        have h := h.2
        refine lv_icmp_ge (tgt := 34) hx hb dc_B_isEntry_27 (by decide) (fun c => ?_) (fun c => ?_)
        · have h := h.1 c
          refine lv_iconst (v := 0) hx hb dc_B_isEntry_34 (by decide) ?_
          exact w_zret hx hb hr rfl hlocks hP hS h dc_B_isEntry_35
        · have h := h.2 c
          refine lv_iconst (v := 1) hx hb dc_B_isEntry_30 (by decide) ?_
          refine lv_goto (tgt := 35) hx hb dc_B_isEntry_31 (by decide) ?_
          exact w_zret hx hb hr rfl hlocks hP hS h dc_B_isEntry_35
set_option maxHeartbeats 4000000 in
set_option maxRecDepth 100000 in
theorem ct_B_key (l : Launch) (D : va_G) (ad : Nat → Nat) (cA : Nat → ClassId) (w : Nat) (hJ : Jn_ ad) (x1 : Int32) (x2 : Int32) (st : St_) (post : Int32 → St_ → Prop) (h : wp_B_key w x1 x2 st post) : Met l yn_B_key (Cond.code yn_B_key bc_B_key 3 (some .int) :: Wk_) rm_B_key (Pw_ D ad cA w st [.ref (ad 19), .int x1, .int x2]) (Qi_ D ad cA w post) 0 0 (Aw_ ad) := by
  refine Met.ofW (cc := bc_B_key) (maxL := 3) (ret := (some .int)) (by decide) rfl ?_
  intro p e s m args below meth c s₁ B hml hv
  obtain ⟨rfl, hP, hK, hN⟩ := hv
  have hx := B.exec
  have hb := B.bytes
  have hr := B.returns
  have hts : ∀ v ∈ Wk_, v.before [.ref (ad 19), .int x1, .int x2].toArray s = true := fun v hv => atoms_spec (ws := Cond.code yn_B_key bc_B_key 3 (some .int) :: Wk_) B.pre v (List.mem_cons_of_mem _ hv)
  have hown : s.vm.findClass Rn_B = some m.cls := findClass_of_methodNamed B.named
  have hlocks := B.notSynchronized
  have hS : va_S (Aw_ ad) s.heap s.heap [] := va_S.rf
  have hl := lv_entry ([.ref (ad 19), .int x1, .int x2]) (n := 3) (Nat.le_of_ble_eq_true rfl)
  rw [lg_entry_eq]
  generalize (lg_sl ([.ref (ad 19), .int x1, .int x2]) ++ List.replicate (3 - (lg_sl ([.ref (ad 19), .int x1, .int x2])).length) Slot.unset).toArray = ls at hl ⊢
  have hl : lv_has ls 3 [(0, .ref (ad 19)), (1, .int x1), (2, .int x2)] := hl
  refine lv_aload_n hx hb dc_B_key_0 rfl (lv_at hl 0 rfl) ?_
  refine lv_iload_n hx hb dc_B_key_1 rfl (lv_at hl 1 rfl) ?_
  refine lv_iload_n hx hb dc_B_key_2 rfl (lv_at hl 2 rfl) ?_
  refine w_cVi (y := yn_B_isEntry) (C := Rn_B) (index := 41) (n := 2) (own := Rn_B) 19 hx hb hml hown hts hK hN hP hS (ct_B_isEntry l D ad cA w hJ x1 x2 st _ h) mw_39 mw_40 mw_41 mw_42 mw_18 (by decide +kernel) ⟨Nat.le_of_ble_eq_true rfl, Nat.le_of_ble_eq_true rfl⟩ rfl rfl rfl rfl rfl hl.1 rfl (lv_room (Nat.le_of_ble_eq_true rfl)) dc_B_key_3 ⟨Nat.zero_le _, Nat.zero_le _⟩ (fun r102 st101 H locs hP hS h => ?_)
  refine lv_if_eq (tgt := 25) hx hb dc_B_key_6 (by decide) (fun c => ?_) (fun c => ?_)
  · have h := h.1 c
    refine lv_bipush (v := (-2)) hx hb dc_B_key_25 (by decide) ?_
    exact w_iret hx hb hr hlocks hP hS h dc_B_key_27
  · have h := h.2 c
    refine lv_aload_n hx hb dc_B_key_9 rfl (lv_at hl 0 rfl) ?_
    refine va_get (D := D) (ci := 1) (v := .ref (ad 3)) (C := Rn_B) (T := Fn_B) (N := 8) hx hb hts in_B hown hK hP 19 rfl rfl 4 (by decide) (hts _ mw_34) (fun _ h9 => h9) rfl dc_B_key_10 ?_
    refine lv_iload_n hx hb dc_B_key_13 rfl (lv_at hl 1 rfl) ?_
    refine lv_aload_n hx hb dc_B_key_14 rfl (lv_at hl 0 rfl) ?_
    refine va_get (D := D) (ci := 1) (v := .int (nI w)) (C := Rn_B) (T := Fn_B) (N := 8) hx hb hts in_B hown hK hP 19 rfl rfl 0 (by decide) (hts _ mw_24) (fun _ h9 => h9) rfl dc_B_key_15 ?_
    refine lv_imul hx hb dc_B_key_18 ?_
    refine lv_iload_n hx hb dc_B_key_19 rfl (lv_at hl 2 rfl) ?_
    refine lv_iadd hx hb dc_B_key_20 ?_
    refine w_ild 3 (by decide) hx hb hK hP h.1 dc_B_key_21 ?_
    have h := h.2
    refine lv_goto (tgt := 27) hx hb dc_B_key_22 (by decide) ?_
    exact w_iret hx hb hr hlocks hP hS h dc_B_key_27
set_option maxHeartbeats 4000000 in
set_option maxRecDepth 100000 in
theorem ct_B_goal (l : Launch) (D : va_G) (ad : Nat → Nat) (cA : Nat → ClassId) (w : Nat) (hJ : Jn_ ad) (x1 : Int32) (x2 : Int32) (st : St_) (post : Int32 → St_ → Prop) (h : wp_B_goal w x1 x2 st post) : Met l yn_B_goal (Cond.code yn_B_goal bc_B_goal 3 (some .int) :: Wk_) rm_B_goal (Pw_ D ad cA w st [.ref (ad 19), .int x1, .int x2]) (Qi_ D ad cA w post) 0 0 (Aw_ ad) := by
  refine Met.ofW (cc := bc_B_goal) (maxL := 3) (ret := (some .int)) (by decide) rfl ?_
  intro p e s m args below meth c s₁ B hml hv
  obtain ⟨rfl, hP, hK, hN⟩ := hv
  have hx := B.exec
  have hb := B.bytes
  have hr := B.returns
  have hts : ∀ v ∈ Wk_, v.before [.ref (ad 19), .int x1, .int x2].toArray s = true := fun v hv => atoms_spec (ws := Cond.code yn_B_goal bc_B_goal 3 (some .int) :: Wk_) B.pre v (List.mem_cons_of_mem _ hv)
  have hown : s.vm.findClass Rn_B = some m.cls := findClass_of_methodNamed B.named
  have hlocks := B.notSynchronized
  have hS : va_S (Aw_ ad) s.heap s.heap [] := va_S.rf
  have hl := lv_entry ([.ref (ad 19), .int x1, .int x2]) (n := 3) (Nat.le_of_ble_eq_true rfl)
  rw [lg_entry_eq]
  generalize (lg_sl ([.ref (ad 19), .int x1, .int x2]) ++ List.replicate (3 - (lg_sl ([.ref (ad 19), .int x1, .int x2])).length) Slot.unset).toArray = ls at hl ⊢
  have hl : lv_has ls 3 [(0, .ref (ad 19)), (1, .int x1), (2, .int x2)] := hl
  refine lv_aload_n hx hb dc_B_goal_0 rfl (lv_at hl 0 rfl) ?_
  refine lv_iload_n hx hb dc_B_goal_1 rfl (lv_at hl 1 rfl) ?_
  refine lv_iload_n hx hb dc_B_goal_2 rfl (lv_at hl 2 rfl) ?_
  refine w_cVi (y := yn_B_isEntry) (C := Rn_B) (index := 41) (n := 2) (own := Rn_B) 19 hx hb hml hown hts hK hN hP hS (ct_B_isEntry l D ad cA w hJ x1 x2 st _ h) mw_39 mw_40 mw_41 mw_42 mw_18 (by decide +kernel) ⟨Nat.le_of_ble_eq_true rfl, Nat.le_of_ble_eq_true rfl⟩ rfl rfl rfl rfl rfl hl.1 rfl (lv_room (Nat.le_of_ble_eq_true rfl)) dc_B_goal_3 ⟨Nat.zero_le _, Nat.zero_le _⟩ (fun r102 st101 H locs hP hS h => ?_)
  refine lv_if_eq (tgt := 25) hx hb dc_B_goal_6 (by decide) (fun c => ?_) (fun c => ?_)
  · have h := h.1 c
    refine lv_iconst (v := 0) hx hb dc_B_goal_25 (by decide) ?_
    exact w_iret hx hb hr hlocks hP hS h dc_B_goal_26
  · have h := h.2 c
    refine lv_aload_n hx hb dc_B_goal_9 rfl (lv_at hl 0 rfl) ?_
    refine va_get (D := D) (ci := 1) (v := .ref (ad 4)) (C := Rn_B) (T := Fn_B) (N := 8) hx hb hts in_B hown hK hP 19 rfl rfl 5 (by decide) (hts _ mw_47) (fun _ h9 => h9) rfl dc_B_goal_10 ?_
    refine lv_iload_n hx hb dc_B_goal_13 rfl (lv_at hl 1 rfl) ?_
    refine lv_aload_n hx hb dc_B_goal_14 rfl (lv_at hl 0 rfl) ?_
    refine va_get (D := D) (ci := 1) (v := .int (nI w)) (C := Rn_B) (T := Fn_B) (N := 8) hx hb hts in_B hown hK hP 19 rfl rfl 0 (by decide) (hts _ mw_24) (fun _ h9 => h9) rfl dc_B_goal_15 ?_
    refine lv_imul hx hb dc_B_goal_18 ?_
    refine lv_iload_n hx hb dc_B_goal_19 rfl (lv_at hl 2 rfl) ?_
    refine lv_iadd hx hb dc_B_goal_20 ?_
    refine w_ild 4 (by decide) hx hb hK hP h.1 dc_B_goal_21 ?_
    have h := h.2
    refine lv_goto (tgt := 26) hx hb dc_B_goal_22 (by decide) ?_
    exact w_iret hx hb hr hlocks hP hS h dc_B_goal_26
set_option maxHeartbeats 4000000 in
set_option maxRecDepth 100000 in
theorem ct_T_slotToward (l : Launch) (D : va_G) (ad : Nat → Nat) (cA : Nat → ClassId) (w : Nat) (hJ : Jn_ ad) (x1 : Int32) (x2 : Int32) (st : St_) (post : Int32 → St_ → Prop) (h : wp_T_slotToward w x1 x2 st post) : Met l yn_T_slotToward (Cond.code yn_T_slotToward bc_T_slotToward 3 (some .int) :: Wk_) rm_T_slotToward (Pw_ D ad cA w st [.ref (ad 20), .int x1, .int x2]) (Qi_ D ad cA w post) 0 0 (Aw_ ad) := by
  refine Met.ofW (cc := bc_T_slotToward) (maxL := 3) (ret := (some .int)) (by decide) rfl ?_
  intro p e s m args below meth c s₁ B hml hv
  obtain ⟨rfl, hP, hK, hN⟩ := hv
  have hx := B.exec
  have hb := B.bytes
  have hr := B.returns
  have hts : ∀ v ∈ Wk_, v.before [.ref (ad 20), .int x1, .int x2].toArray s = true := fun v hv => atoms_spec (ws := Cond.code yn_T_slotToward bc_T_slotToward 3 (some .int) :: Wk_) B.pre v (List.mem_cons_of_mem _ hv)
  have hown : s.vm.findClass Rn_T = some m.cls := findClass_of_methodNamed B.named
  have hlocks := B.notSynchronized
  have hS : va_S (Aw_ ad) s.heap s.heap [] := va_S.rf
  have hl := lv_entry ([.ref (ad 20), .int x1, .int x2]) (n := 3) (Nat.le_of_ble_eq_true rfl)
  rw [lg_entry_eq]
  generalize (lg_sl ([.ref (ad 20), .int x1, .int x2]) ++ List.replicate (3 - (lg_sl ([.ref (ad 20), .int x1, .int x2])).length) Slot.unset).toArray = ls at hl ⊢
  have hl : lv_has ls 3 [(0, .ref (ad 20)), (1, .int x1), (2, .int x2)] := hl
  refine lv_iconst (v := 0) hx hb dc_T_slotToward_0 (by decide) ?_
  refine lv_aload_n hx hb dc_T_slotToward_1 rfl (lv_at hl 0 rfl) ?_
  refine va_get (D := D) (ci := 2) (v := .ref (ad 19)) (C := Rn_T) (T := Fn_T) (N := 3) hx hb hts in_T hown hK hP 20 rfl rfl 0 (by decide) (hts _ mw_13) (fun _ h9 => h9) rfl dc_T_slotToward_2 ?_
  refine lv_iload_n hx hb dc_T_slotToward_5 rfl (lv_at hl 1 rfl) ?_
  refine lv_iload_n hx hb dc_T_slotToward_6 rfl (lv_at hl 2 rfl) ?_
  refine w_cVi (y := yn_B_slotOf) (C := Rn_B) (index := 38) (n := 2) (own := Rn_T) 19 hx hb hml hown hts hK hN hP hS (ct_B_slotOf l D ad cA w hJ x1 x2 st _ h) mw_35 mw_36 mw_37 mw_38 mw_18 (by decide +kernel) ⟨Nat.le_of_ble_eq_true rfl, Nat.le_of_ble_eq_true rfl⟩ rfl rfl rfl rfl rfl hl.1 rfl (lv_room (Nat.le_of_ble_eq_true rfl)) dc_T_slotToward_7 ⟨Nat.zero_le _, Nat.zero_le _⟩ (fun r102 st101 H locs hP hS h => ?_)
  refine va_mmax hx hb (hml.trans hl.1.symm) hown (hts _ mw_52) (hts _ mw_53) (hts _ mw_32) (hts _ mw_54) (Nat.le_of_ble_eq_true rfl) (Nat.le_of_ble_eq_true rfl) (Nat.zero_le _) (Nat.zero_le _) dc_T_slotToward_10 ?_
  exact w_iret hx hb hr hlocks hP hS h dc_T_slotToward_13
set_option maxHeartbeats 4000000 in
set_option maxRecDepth 100000 in
theorem ct_T_stampOf (l : Launch) (D : va_G) (ad : Nat → Nat) (cA : Nat → ClassId) (w : Nat) (hJ : Jn_ ad) (x1 : Int32) (x2 : Int32) (st : St_) (post : Int32 → St_ → Prop) (h : wp_T_stampOf w x1 x2 st post) : Met l yn_T_stampOf (Cond.code yn_T_stampOf bc_T_stampOf 5 (some .int) :: Wk_) rm_T_stampOf (Pw_ D ad cA w st [.ref (ad 20), .int x1, .int x2]) (Qi_ D ad cA w post) 0 0 (Aw_ ad) := by
  refine Met.ofW (cc := bc_T_stampOf) (maxL := 5) (ret := (some .int)) (by decide) rfl ?_
  intro p e s m args below meth c s₁ B hml hv
  obtain ⟨rfl, hP, hK, hN⟩ := hv
  have hx := B.exec
  have hb := B.bytes
  have hr := B.returns
  have hts : ∀ v ∈ Wk_, v.before [.ref (ad 20), .int x1, .int x2].toArray s = true := fun v hv => atoms_spec (ws := Cond.code yn_T_stampOf bc_T_stampOf 5 (some .int) :: Wk_) B.pre v (List.mem_cons_of_mem _ hv)
  have hown : s.vm.findClass Rn_T = some m.cls := findClass_of_methodNamed B.named
  have hlocks := B.notSynchronized
  have hS : va_S (Aw_ ad) s.heap s.heap [] := va_S.rf
  have Lp_12 : ∀ (n : Nat) (y1 y2 y3 y4 : Int32) (st : St_), wp_T_stampOf_12 w post n y1 y2 y3 y4 st → ∀ (H : Heap) (locs : List Loc), va_P D sC_ (wd_ ad cA w st) H → va_S (Aw_ ad) s.heap H locs → ∀ ls : Array Slot, lv_has ls 5 [(0, .ref (ad 20)), (1, .int y1), (2, .int y2), (3, .int y3), (4, .int y4)] → W p l e (headSpec (Cond.code yn_T_stampOf bc_T_stampOf 5 (some .int) :: Wk_) rm_T_stampOf).room s m [.ref (ad 20), .int x1, .int x2].toArray below meth c H locs 0 0 (MQ below (Qi_ D ad cA w post) [.ref (ad 20), .int x1, .int x2].toArray s 0 0 (Aw_ ad)) (F0 m 12 ls []) := by
    intro n
    induction n with
    | zero => intro y1 y2 y3 y4 st h; exact h.elim
    | succ n ih =>
      intro y1 y2 y3 y4 st h H locs hP hS ls hl
      refine lv_iload hx hb dc_T_stampOf_12 (lv_at hl 4 rfl) ?_
      refine lv_if_le (tgt := 38) hx hb dc_T_stampOf_14 (by decide) (fun c => ?_) (fun c => ?_)
      · have h := h.1 c
        refine lv_aload_n hx hb dc_T_stampOf_38 rfl (lv_at hl 0 rfl) ?_
        refine va_get (D := D) (ci := 2) (v := .ref (ad 19)) (C := Rn_T) (T := Fn_T) (N := 3) hx hb hts in_T hown hK hP 20 rfl rfl 0 (by decide) (hts _ mw_13) (fun _ h9 => h9) rfl dc_T_stampOf_39 ?_
        refine lv_iload_n hx hb dc_T_stampOf_42 rfl (lv_at hl 3 rfl) ?_
        refine lv_iload_n hx hb dc_T_stampOf_43 rfl (lv_at hl 2 rfl) ?_
        refine w_cVi (y := yn_B_slotOf) (C := Rn_B) (index := 38) (n := 2) (own := Rn_T) 19 hx hb hml hown hts hK hN hP hS (ct_B_slotOf l D ad cA w hJ y3 y2 st _ h) mw_35 mw_36 mw_37 mw_38 mw_18 (by decide +kernel) ⟨Nat.le_of_ble_eq_true rfl, Nat.le_of_ble_eq_true rfl⟩ rfl rfl rfl rfl rfl hl.1 rfl (lv_room (Nat.le_of_ble_eq_true rfl)) dc_T_stampOf_44 ⟨Nat.zero_le _, Nat.zero_le _⟩ (fun r104 st103 H locs hP hS h => ?_)
        refine lv_istore (lv' := [(4, .int r104), (0, .ref (ad 20)), (1, .int y1), (2, .int y2), (3, .int y3)]) hx hb dc_T_stampOf_47 hl (by decide) rfl (fun ls hl => ?_)
        refine lv_aload_n hx hb dc_T_stampOf_49 rfl (lv_at hl 1 rfl) ?_
        refine va_get (D := D) (ci := 2) (v := .ref (ad 19)) (C := Rn_T) (T := Fn_T) (N := 3) hx hb hts in_T hown hK hP 20 rfl rfl 0 (by decide) (hts _ mw_13) (fun _ h9 => h9) rfl dc_T_stampOf_50 ?_
        refine lv_iload_n hx hb dc_T_stampOf_53 rfl (lv_at hl 4 rfl) ?_
        refine lv_iload hx hb dc_T_stampOf_54 (lv_at hl 0 rfl) ?_
        refine w_cVi (y := yn_B_key) (C := Rn_B) (index := 41) (n := 2) (own := Rn_T) 19 hx hb hml hown hts hK hN hP hS (ct_B_key l D ad cA w hJ y3 r104 st103 _ h) mw_43 mw_44 mw_45 mw_46 mw_18 (by decide +kernel) ⟨Nat.le_of_ble_eq_true rfl, Nat.le_of_ble_eq_true rfl⟩ rfl rfl rfl rfl rfl hl.1 rfl (lv_room (Nat.le_of_ble_eq_true rfl)) dc_T_stampOf_56 ⟨Nat.zero_le _, Nat.zero_le _⟩ (fun r106 st105 H locs hP hS h => ?_)
        refine lv_iload_n hx hb dc_T_stampOf_59 rfl (lv_at hl 3 rfl) ?_
        refine lv_icmp_ne (tgt := 76) hx hb dc_T_stampOf_60 (by decide) (fun c => ?_) (fun c => ?_)
        · have h := h.1 c
          refine lv_bipush (v := (-2)) hx hb dc_T_stampOf_76 (by decide) ?_
          exact w_iret hx hb hr hlocks hP hS h dc_T_stampOf_78
        · have h := h.2 c
          refine lv_aload_n hx hb dc_T_stampOf_63 rfl (lv_at hl 1 rfl) ?_
          refine va_get (D := D) (ci := 2) (v := .ref (ad 19)) (C := Rn_T) (T := Fn_T) (N := 3) hx hb hts in_T hown hK hP 20 rfl rfl 0 (by decide) (hts _ mw_13) (fun _ h9 => h9) rfl dc_T_stampOf_64 ?_
          refine lv_iload_n hx hb dc_T_stampOf_67 rfl (lv_at hl 4 rfl) ?_
          refine lv_iload hx hb dc_T_stampOf_68 (lv_at hl 0 rfl) ?_
          refine w_cVi (y := yn_B_goal) (C := Rn_B) (index := 35) (n := 2) (own := Rn_T) 19 hx hb hml hown hts hK hN hP hS (ct_B_goal l D ad cA w hJ y3 r104 st105 _ h) mw_48 mw_49 mw_50 mw_51 mw_18 (by decide +kernel) ⟨Nat.le_of_ble_eq_true rfl, Nat.le_of_ble_eq_true rfl⟩ rfl rfl rfl rfl rfl hl.1 rfl (lv_room (Nat.le_of_ble_eq_true rfl)) dc_T_stampOf_70 ⟨Nat.zero_le _, Nat.zero_le _⟩ (fun r108 st107 H locs hP hS h => ?_)
          refine lv_goto (tgt := 78) hx hb dc_T_stampOf_73 (by decide) ?_
          exact w_iret hx hb hr hlocks hP hS h dc_T_stampOf_78
      · have h := h.2 c
        refine lv_aload_n hx hb dc_T_stampOf_17 rfl (lv_at hl 0 rfl) ?_
        refine va_get (D := D) (ci := 2) (v := .ref (ad 19)) (C := Rn_T) (T := Fn_T) (N := 3) hx hb hts in_T hown hK hP 20 rfl rfl 0 (by decide) (hts _ mw_13) (fun _ h9 => h9) rfl dc_T_stampOf_18 ?_
        refine lv_iload_n hx hb dc_T_stampOf_21 rfl (lv_at hl 3 rfl) ?_
        refine lv_aload_n hx hb dc_T_stampOf_22 rfl (lv_at hl 0 rfl) ?_
        refine lv_iload_n hx hb dc_T_stampOf_23 rfl (lv_at hl 3 rfl) ?_
        refine lv_iload_n hx hb dc_T_stampOf_24 rfl (lv_at hl 2 rfl) ?_
        refine w_cVi (y := yn_T_slotToward) (C := Rn_T) (index := 31) (n := 2) (own := Rn_T) 20 hx hb hml hown hts hK hN hP hS (ct_T_slotToward l D ad cA w hJ y3 y2 st _ h) mw_55 mw_56 mw_57 mw_58 mw_59 (by decide +kernel) ⟨Nat.le_of_ble_eq_true rfl, Nat.le_of_ble_eq_true rfl⟩ rfl rfl rfl rfl rfl hl.1 rfl (lv_room (Nat.le_of_ble_eq_true rfl)) dc_T_stampOf_25 ⟨Nat.zero_le _, Nat.zero_le _⟩ (fun r110 st109 H locs hP hS h => ?_)
        refine w_cVi (y := yn_B_goal) (C := Rn_B) (index := 35) (n := 2) (own := Rn_T) 19 hx hb hml hown hts hK hN hP hS (ct_B_goal l D ad cA w hJ y3 r110 st109 _ h) mw_48 mw_49 mw_50 mw_51 mw_18 (by decide +kernel) ⟨Nat.le_of_ble_eq_true rfl, Nat.le_of_ble_eq_true rfl⟩ rfl rfl rfl rfl rfl hl.1 rfl (lv_room (Nat.le_of_ble_eq_true rfl)) dc_T_stampOf_28 ⟨Nat.zero_le _, Nat.zero_le _⟩ (fun r112 st111 H locs hP hS h => ?_)
        refine lv_istore_n (lv' := [(3, .int r112), (0, .ref (ad 20)), (1, .int y1), (2, .int y2), (4, .int y4)]) hx hb dc_T_stampOf_31 rfl hl (by decide) rfl (fun ls hl => ?_)
        obtain ⟨x113, ex113⟩ : ∃ y : Int32, y = y4 + (-1) := ⟨_, rfl⟩
        have h := h x113 ex113
        refine lv_iinc (v := x113) (lv' := [(4, .int x113), (3, .int r112), (0, .ref (ad 20)), (1, .int y1), (2, .int y2)]) hx hb dc_T_stampOf_32 hl (k := 4) rfl (by rw [ex113]; rfl) (by decide) rfl (fun ls hl => ?_)
        refine lv_goto (tgt := 12) hx hb dc_T_stampOf_35 (by decide) ?_
        exact ih y1 y2 r112 x113 st111 h _ _ hP hS ls (lv_sub hl [2, 3, 4, 1, 0] rfl)
  have hl := lv_entry ([.ref (ad 20), .int x1, .int x2]) (n := 5) (Nat.le_of_ble_eq_true rfl)
  rw [lg_entry_eq]
  generalize (lg_sl ([.ref (ad 20), .int x1, .int x2]) ++ List.replicate (5 - (lg_sl ([.ref (ad 20), .int x1, .int x2])).length) Slot.unset).toArray = ls at hl ⊢
  have hl : lv_has ls 5 [(0, .ref (ad 20)), (1, .int x1), (2, .int x2)] := hl
  refine lv_iload_n hx hb dc_T_stampOf_0 rfl (lv_at hl 1 rfl) ?_
  refine lv_istore_n (lv' := [(3, .int x1), (0, .ref (ad 20)), (1, .int x1), (2, .int x2)]) hx hb dc_T_stampOf_1 rfl hl (by decide) rfl (fun ls hl => ?_)
  refine lv_aload_n hx hb dc_T_stampOf_2 rfl (lv_at hl 1 rfl) ?_
  refine va_get (D := D) (ci := 2) (v := .ref (ad 19)) (C := Rn_T) (T := Fn_T) (N := 3) hx hb hts in_T hown hK hP 20 rfl rfl 0 (by decide) (hts _ mw_13) (fun _ h9 => h9) rfl dc_T_stampOf_3 ?_
  refine lv_iload_n hx hb dc_T_stampOf_6 rfl (lv_at hl 2 rfl) ?_
  refine w_cVi (y := yn_B_level) (C := Rn_B) (index := 26) (n := 1) (own := Rn_T) 19 hx hb hml hown hts hK hN hP hS (ct_B_level l D ad cA w hJ x1 st _ h) mw_20 mw_21 mw_22 mw_23 mw_18 (by decide +kernel) ⟨Nat.le_of_ble_eq_true rfl, Nat.le_of_ble_eq_true rfl⟩ rfl rfl rfl rfl rfl hl.1 rfl (lv_room (Nat.le_of_ble_eq_true rfl)) dc_T_stampOf_7 ⟨Nat.zero_le _, Nat.zero_le _⟩ (fun r102 st101 H locs hP hS h => ?_)
  refine lv_istore (lv' := [(4, .int r102), (3, .int x1), (0, .ref (ad 20)), (1, .int x1), (2, .int x2)]) hx hb dc_T_stampOf_10 hl (by decide) rfl (fun ls hl => ?_)
  obtain ⟨n, h⟩ := h
  exact Lp_12 n x1 x2 x1 r102 st101 h _ _ hP hS ls (lv_sub hl [2, 3, 4, 1, 0] rfl)
set_option maxHeartbeats 4000000 in
set_option maxRecDepth 100000 in
theorem ct_B_ways (l : Launch) (D : va_G) (ad : Nat → Nat) (cA : Nat → ClassId) (w : Nat) (hJ : Jn_ ad) (x1 : Int32) (st : St_) (post : Int32 → St_ → Prop) (h : wp_B_ways w x1 st post) : Met l yn_B_ways (Cond.code yn_B_ways bc_B_ways 2 (some .int) :: Wk_) rm_B_ways (Pw_ D ad cA w st [.ref (ad 19), .int x1]) (Qi_ D ad cA w post) 0 0 (Aw_ ad) := by
  refine Met.ofW (cc := bc_B_ways) (maxL := 2) (ret := (some .int)) (by decide) rfl ?_
  intro p e s m args below meth c s₁ B hml hv
  obtain ⟨rfl, hP, hK, hN⟩ := hv
  have hx := B.exec
  have hb := B.bytes
  have hr := B.returns
  have hts : ∀ v ∈ Wk_, v.before [.ref (ad 19), .int x1].toArray s = true := fun v hv => atoms_spec (ws := Cond.code yn_B_ways bc_B_ways 2 (some .int) :: Wk_) B.pre v (List.mem_cons_of_mem _ hv)
  have hown : s.vm.findClass Rn_B = some m.cls := findClass_of_methodNamed B.named
  have hlocks := B.notSynchronized
  have hS : va_S (Aw_ ad) s.heap s.heap [] := va_S.rf
  have hl := lv_entry ([.ref (ad 19), .int x1]) (n := 2) (Nat.le_of_ble_eq_true rfl)
  rw [lg_entry_eq]
  generalize (lg_sl ([.ref (ad 19), .int x1]) ++ List.replicate (2 - (lg_sl ([.ref (ad 19), .int x1])).length) Slot.unset).toArray = ls at hl ⊢
  have hl : lv_has ls 2 [(0, .ref (ad 19)), (1, .int x1)] := hl
  refine lv_aload_n hx hb dc_B_ways_0 rfl (lv_at hl 0 rfl) ?_
  refine lv_iload_n hx hb dc_B_ways_1 rfl (lv_at hl 1 rfl) ?_
  refine w_cVi (y := yn_B_isBlock) (C := Rn_B) (index := 37) (n := 1) (own := Rn_B) 19 hx hb hml hown hts hK hN hP hS (ct_B_isBlock l D ad cA w hJ x1 st _ h) mw_14 mw_15 mw_16 mw_17 mw_18 (by decide +kernel) ⟨Nat.le_of_ble_eq_true rfl, Nat.le_of_ble_eq_true rfl⟩ rfl rfl rfl rfl rfl hl.1 rfl (lv_room (Nat.le_of_ble_eq_true rfl)) dc_B_ways_2 ⟨Nat.zero_le _, Nat.zero_le _⟩ (fun r102 st101 H locs hP hS h => ?_)
  refine lv_if_eq (tgt := 17) hx hb dc_B_ways_5 (by decide) (fun c => ?_) (fun c => ?_)
  · have h := h.1 c
    refine lv_iconst (v := 0) hx hb dc_B_ways_17 (by decide) ?_
    exact w_iret hx hb hr hlocks hP hS h dc_B_ways_18
  · have h := h.2 c
    refine lv_aload_n hx hb dc_B_ways_8 rfl (lv_at hl 0 rfl) ?_
    refine va_get (D := D) (ci := 1) (v := .ref (ad 0)) (C := Rn_B) (T := Fn_B) (N := 8) hx hb hts in_B hown hK hP 19 rfl rfl 1 (by decide) (hts _ mw_64) (fun _ h9 => h9) rfl dc_B_ways_9 ?_
    refine lv_iload_n hx hb dc_B_ways_12 rfl (lv_at hl 1 rfl) ?_
    refine w_ild 0 (by decide) hx hb hK hP h.1 dc_B_ways_13 ?_
    have h := h.2
    refine lv_goto (tgt := 18) hx hb dc_B_ways_14 (by decide) ?_
    exact w_iret hx hb hr hlocks hP hS h dc_B_ways_18
set_option maxHeartbeats 4000000 in
set_option maxRecDepth 100000 in
theorem ct_B_take (l : Launch) (D : va_G) (ad : Nat → Nat) (cA : Nat → ClassId) (w : Nat) (hJ : Jn_ ad) (x1 : Int32) (st : St_) (post : Int32 → St_ → Prop) (h : wp_B_take w x1 st post) : Met l yn_B_take (Cond.code yn_B_take bc_B_take 3 (some .int) :: Wk_) rm_B_take (Pw_ D ad cA w st [.ref (ad 19), .int x1]) (Qi_ D ad cA w post) 0 0 (Aw_ ad) := by
  refine Met.ofW (cc := bc_B_take) (maxL := 3) (ret := (some .int)) (by decide) rfl ?_
  intro p e s m args below meth c s₁ B hml hv
  obtain ⟨rfl, hP, hK, hN⟩ := hv
  have hx := B.exec
  have hb := B.bytes
  have hr := B.returns
  have hts : ∀ v ∈ Wk_, v.before [.ref (ad 19), .int x1].toArray s = true := fun v hv => atoms_spec (ws := Cond.code yn_B_take bc_B_take 3 (some .int) :: Wk_) B.pre v (List.mem_cons_of_mem _ hv)
  have hown : s.vm.findClass Rn_B = some m.cls := findClass_of_methodNamed B.named
  have hlocks := B.notSynchronized
  have hS : va_S (Aw_ ad) s.heap s.heap [] := va_S.rf
  have hl := lv_entry ([.ref (ad 19), .int x1]) (n := 3) (Nat.le_of_ble_eq_true rfl)
  rw [lg_entry_eq]
  generalize (lg_sl ([.ref (ad 19), .int x1]) ++ List.replicate (3 - (lg_sl ([.ref (ad 19), .int x1])).length) Slot.unset).toArray = ls at hl ⊢
  have hl : lv_has ls 3 [(0, .ref (ad 19)), (1, .int x1)] := hl
  refine lv_aload_n hx hb dc_B_take_0 rfl (lv_at hl 0 rfl) ?_
  refine va_get (D := D) (ci := 1) (v := .int (st 18 0)) (C := Rn_B) (T := Fn_B) (N := 8) hx hb hts in_B hown hK hP 19 rfl rfl 7 (by decide) (hts _ mw_70) (fun _ h9 => h9) rfl dc_B_take_1 ?_
  refine lv_if_le (tgt := 17) hx hb dc_B_take_4 (by decide) (fun c => ?_) (fun c => ?_)
  · have h := h.1 c
    refine lv_iconst (v := 0) hx hb dc_B_take_17 (by decide) ?_
    exact w_iret hx hb hr hlocks hP hS h dc_B_take_18
  · have h := h.2 c
    refine lv_aload_n hx hb dc_B_take_7 rfl (lv_at hl 0 rfl) ?_
    refine va_get (D := D) (ci := 1) (v := .int (st 18 0)) (C := Rn_B) (T := Fn_B) (N := 8) hx hb hts in_B hown hK hP 19 rfl rfl 7 (by decide) (hts _ mw_70) (fun _ h9 => h9) rfl dc_B_take_8 ?_
    refine lv_sipush (v := 1200) hx hb dc_B_take_11 (by decide) ?_
    refine lv_icmp_le (tgt := 19) hx hb dc_B_take_14 (by decide) (fun c => ?_) (fun c => ?_)
    · have h := h.1 c
      refine lv_aload_n hx hb dc_B_take_19 rfl (lv_at hl 0 rfl) ?_
      refine lv_dup hx hb dc_B_take_20 rfl ?_
      refine va_get (D := D) (ci := 1) (v := .int (st 18 0)) (C := Rn_B) (T := Fn_B) (N := 8) hx hb hts in_B hown hK hP 19 rfl rfl 7 (by decide) (hts _ mw_70) (fun _ h9 => h9) rfl dc_B_take_21 ?_
      refine lv_iconst (v := 1) hx hb dc_B_take_24 (by decide) ?_
      refine lv_isub hx hb dc_B_take_25 ?_
      refine va_put (D := D) (ci := 1) (v := .int ((st 18 0) - 1)) (ty := .int) (C := Rn_B) (T := Fn_B) (N := 8) hx hb hts in_B Tn_B to_B nn_B hown hK hP (wd_D hJ) hS 19 rfl rfl 7 (by decide) (hts _ mw_70) (fun _ h9 => h9) rfl (by decide +kernel) rfl rfl (Nat.le_of_ble_eq_true rfl) dc_B_take_26 (fun H locs hP _ hS => ?_)
      obtain ⟨st101, est101⟩ : ∃ z : St_, z = ws_1 st 18 0 ((st 18 0) - 1) := ⟨_, rfl⟩
      have hP : va_P D sC_ (wd_ ad cA w st101) H := by rw [est101]; exact hP
      have h := h st101 est101
      refine lv_aload_n hx hb dc_B_take_29 rfl (lv_at hl 0 rfl) ?_
      refine va_get (D := D) (ci := 1) (v := .ref (ad 5)) (C := Rn_B) (T := Fn_B) (N := 8) hx hb hts in_B hown hK hP 19 rfl rfl 6 (by decide) (hts _ mw_71) (fun _ h9 => h9) rfl dc_B_take_30 ?_
      refine lv_aload_n hx hb dc_B_take_33 rfl (lv_at hl 0 rfl) ?_
      refine va_get (D := D) (ci := 1) (v := .int (st101 18 0)) (C := Rn_B) (T := Fn_B) (N := 8) hx hb hts in_B hown hK hP 19 rfl rfl 7 (by decide) (hts _ mw_70) (fun _ h9 => h9) rfl dc_B_take_34 ?_
      refine w_ild 5 (by decide) hx hb hK hP h.1 dc_B_take_37 ?_
      have h := h.2
      refine lv_topi (fun x102 ex102 => ?_)
      have h := h x102 ex102
      refine lv_istore_n (lv' := [(2, .int x102), (0, .ref (ad 19)), (1, .int x1)]) hx hb dc_B_take_38 rfl hl (by decide) rfl (fun ls hl => ?_)
      refine lv_aload_n hx hb dc_B_take_39 rfl (lv_at hl 1 rfl) ?_
      refine lv_iload_n hx hb dc_B_take_40 rfl (lv_at hl 0 rfl) ?_
      refine w_cVi (y := yn_B_isBlock) (C := Rn_B) (index := 37) (n := 1) (own := Rn_B) 19 hx hb hml hown hts hK hN hP hS (ct_B_isBlock l D ad cA w hJ x102 st101 _ h) mw_14 mw_15 mw_16 mw_17 mw_18 (by decide +kernel) ⟨Nat.le_of_ble_eq_true rfl, Nat.le_of_ble_eq_true rfl⟩ rfl rfl rfl rfl rfl hl.1 rfl (lv_room (Nat.le_of_ble_eq_true rfl)) dc_B_take_41 ⟨Nat.zero_le _, Nat.zero_le _⟩ (fun r104 st103 H locs hP hS h => ?_)
      refine lv_if_eq (tgt := 68) hx hb dc_B_take_44 (by decide) (fun c => ?_) (fun c => ?_)
      · have h := h.1 c
        refine lv_iload_n hx hb dc_B_take_68 rfl (lv_at hl 0 rfl) ?_
        exact w_iret hx hb hr hlocks hP hS h dc_B_take_69
      · have h := h.2 c
        refine lv_aload_n hx hb dc_B_take_47 rfl (lv_at hl 1 rfl) ?_
        refine va_get (D := D) (ci := 1) (v := .ref (ad 0)) (C := Rn_B) (T := Fn_B) (N := 8) hx hb hts in_B hown hK hP 19 rfl rfl 1 (by decide) (hts _ mw_64) (fun _ h9 => h9) rfl dc_B_take_48 ?_
        refine lv_iload_n hx hb dc_B_take_51 rfl (lv_at hl 0 rfl) ?_
        refine lv_iconst (v := 1) hx hb dc_B_take_52 (by decide) ?_
        refine w_ist 0 (by decide) hJ hx hb hK hP hS h.1 dc_B_take_53 (fun H locs hP hS => ?_)
        obtain ⟨st105, est105⟩ : ∃ z : St_, z = ws_1 st103 0 (x102).toNatClampNeg 1 := ⟨_, rfl⟩
        rw [← est105] at hP
        have h := h.2 st105 est105
        refine lv_aload_n hx hb dc_B_take_54 rfl (lv_at hl 1 rfl) ?_
        refine va_get (D := D) (ci := 1) (v := .ref (ad 1)) (C := Rn_B) (T := Fn_B) (N := 8) hx hb hts in_B hown hK hP 19 rfl rfl 2 (by decide) (hts _ mw_19) (fun _ h9 => h9) rfl dc_B_take_55 ?_
        refine lv_iload_n hx hb dc_B_take_58 rfl (lv_at hl 0 rfl) ?_
        refine lv_iload_n hx hb dc_B_take_59 rfl (lv_at hl 2 rfl) ?_
        refine w_ist 1 (by decide) hJ hx hb hK hP hS h.1 dc_B_take_60 (fun H locs hP hS => ?_)
        obtain ⟨st106, est106⟩ : ∃ z : St_, z = ws_1 st105 1 (x102).toNatClampNeg x1 := ⟨_, rfl⟩
        rw [← est106] at hP
        have h := h.2 st106 est106
        refine lv_aload_n hx hb dc_B_take_61 rfl (lv_at hl 1 rfl) ?_
        refine va_get (D := D) (ci := 1) (v := .ref (ad 2)) (C := Rn_B) (T := Fn_B) (N := 8) hx hb hts in_B hown hK hP 19 rfl rfl 3 (by decide) (hts _ mw_25) (fun _ h9 => h9) rfl dc_B_take_62 ?_
        refine lv_iload_n hx hb dc_B_take_65 rfl (lv_at hl 0 rfl) ?_
        refine lv_iconst (v := 0) hx hb dc_B_take_66 (by decide) ?_
        refine w_ist 2 (by decide) hJ hx hb hK hP hS h.1 dc_B_take_67 (fun H locs hP hS => ?_)
        obtain ⟨st107, est107⟩ : ∃ z : St_, z = ws_1 st106 2 (x102).toNatClampNeg 0 := ⟨_, rfl⟩
        rw [← est107] at hP
        have h := h.2 st107 est107
        refine lv_iload_n hx hb dc_B_take_68 rfl (lv_at hl 0 rfl) ?_
        exact w_iret hx hb hr hlocks hP hS h dc_B_take_69
    · have h := h.2 c
      refine lv_iconst (v := 0) hx hb dc_B_take_17 (by decide) ?_
      exact w_iret hx hb hr hlocks hP hS h dc_B_take_18
set_option maxHeartbeats 4000000 in
set_option maxRecDepth 100000 in
theorem ct_B_lose (l : Launch) (D : va_G) (ad : Nat → Nat) (cA : Nat → ClassId) (w : Nat) (hJ : Jn_ ad) (x1 : Int32) (st : St_) (post : Int32 → St_ → Prop) (h : wp_B_lose w x1 st post) : Met l yn_B_lose (Cond.code yn_B_lose bc_B_lose 2 (some .boolean) :: Wk_) rm_B_lose (Pw_ D ad cA w st [.ref (ad 19), .int x1]) (Qi_ D ad cA w post) 0 0 (Aw_ ad) := by
  refine Met.ofW (cc := bc_B_lose) (maxL := 2) (ret := (some .boolean)) (by decide) rfl ?_
  intro p e s m args below meth c s₁ B hml hv
  obtain ⟨rfl, hP, hK, hN⟩ := hv
  have hx := B.exec
  have hb := B.bytes
  have hr := B.returns
  have hts : ∀ v ∈ Wk_, v.before [.ref (ad 19), .int x1].toArray s = true := fun v hv => atoms_spec (ws := Cond.code yn_B_lose bc_B_lose 2 (some .boolean) :: Wk_) B.pre v (List.mem_cons_of_mem _ hv)
  have hown : s.vm.findClass Rn_B = some m.cls := findClass_of_methodNamed B.named
  have hlocks := B.notSynchronized
  have hS : va_S (Aw_ ad) s.heap s.heap [] := va_S.rf
  have hl := lv_entry ([.ref (ad 19), .int x1]) (n := 2) (Nat.le_of_ble_eq_true rfl)
  rw [lg_entry_eq]
  generalize (lg_sl ([.ref (ad 19), .int x1]) ++ List.replicate (2 - (lg_sl ([.ref (ad 19), .int x1])).length) Slot.unset).toArray = ls at hl ⊢
  have hl : lv_has ls 2 [(0, .ref (ad 19)), (1, .int x1)] := hl
  refine lv_aload_n hx hb dc_B_lose_0 rfl (lv_at hl 0 rfl) ?_
  refine lv_iload_n hx hb dc_B_lose_1 rfl (lv_at hl 1 rfl) ?_
  refine w_cVi (y := yn_B_isBlock) (C := Rn_B) (index := 37) (n := 1) (own := Rn_B) 19 hx hb hml hown hts hK hN hP hS (ct_B_isBlock l D ad cA w hJ x1 st _ h) mw_14 mw_15 mw_16 mw_17 mw_18 (by decide +kernel) ⟨Nat.le_of_ble_eq_true rfl, Nat.le_of_ble_eq_true rfl⟩ rfl rfl rfl rfl rfl hl.1 rfl (lv_room (Nat.le_of_ble_eq_true rfl)) dc_B_lose_2 ⟨Nat.zero_le _, Nat.zero_le _⟩ (fun r102 st101 H locs hP hS h => ?_)
  refine lv_if_eq (tgt := 17) hx hb dc_B_lose_5 (by decide) (fun c => ?_) (fun c => ?_)
  · have h := h.1 c
    refine lv_iconst (v := 0) hx hb dc_B_lose_17 (by decide) ?_
    exact w_zret hx hb hr rfl hlocks hP hS h dc_B_lose_18
  · have h := h.2 c
    refine lv_aload_n hx hb dc_B_lose_8 rfl (lv_at hl 0 rfl) ?_
    refine va_get (D := D) (ci := 1) (v := .ref (ad 0)) (C := Rn_B) (T := Fn_B) (N := 8) hx hb hts in_B hown hK hP 19 rfl rfl 1 (by decide) (hts _ mw_64) (fun _ h9 => h9) rfl dc_B_lose_9 ?_
    refine lv_iload_n hx hb dc_B_lose_12 rfl (lv_at hl 1 rfl) ?_
    refine w_ild 0 (by decide) hx hb hK hP h.1 dc_B_lose_13 ?_
    have h := h.2
    refine lv_if_gt (tgt := 19) hx hb dc_B_lose_14 (by decide) (fun c => ?_) (fun c => ?_)
    · have h := h.1 c
      refine lv_aload_n hx hb dc_B_lose_19 rfl (lv_at hl 0 rfl) ?_
      refine va_get (D := D) (ci := 1) (v := .ref (ad 0)) (C := Rn_B) (T := Fn_B) (N := 8) hx hb hts in_B hown hK hP 19 rfl rfl 1 (by decide) (hts _ mw_64) (fun _ h9 => h9) rfl dc_B_lose_20 ?_
      refine lv_iload_n hx hb dc_B_lose_23 rfl (lv_at hl 1 rfl) ?_
      refine lv_dup2_11 hx hb dc_B_lose_24 rfl rfl ?_
      refine w_ild 0 (by decide) hx hb hK hP h.1 dc_B_lose_25 ?_
      have h := h.2
      refine lv_iconst (v := 1) hx hb dc_B_lose_26 (by decide) ?_
      refine lv_isub hx hb dc_B_lose_27 ?_
      refine w_ist 0 (by decide) hJ hx hb hK hP hS h.1 dc_B_lose_28 (fun H locs hP hS => ?_)
      obtain ⟨st103, est103⟩ : ∃ z : St_, z = ws_1 st101 0 (x1).toNatClampNeg ((st101 0 (x1).toNatClampNeg) - 1) := ⟨_, rfl⟩
      rw [← est103] at hP
      have h := h.2 st103 est103
      refine lv_aload_n hx hb dc_B_lose_29 rfl (lv_at hl 0 rfl) ?_
      refine va_get (D := D) (ci := 1) (v := .ref (ad 0)) (C := Rn_B) (T := Fn_B) (N := 8) hx hb hts in_B hown hK hP 19 rfl rfl 1 (by decide) (hts _ mw_64) (fun _ h9 => h9) rfl dc_B_lose_30 ?_
      refine lv_iload_n hx hb dc_B_lose_33 rfl (lv_at hl 1 rfl) ?_
      refine w_ild 0 (by decide) hx hb hK hP h.1 dc_B_lose_34 ?_
      have h := h.2
      refine lv_if_ne (tgt := 42) hx hb dc_B_lose_35 (by decide) (fun c => ?_) (fun c => ?_)
      · have h := h.1 c
        refine lv_iconst (v := 0) hx hb dc_B_lose_42 (by decide) ?_
        exact w_zret hx hb hr rfl hlocks hP hS h dc_B_lose_43
      · have h := h.2 c
        refine lv_iconst (v := 1) hx hb dc_B_lose_38 (by decide) ?_
        refine lv_goto (tgt := 43) hx hb dc_B_lose_39 (by decide) ?_
        exact w_zret hx hb hr rfl hlocks hP hS h dc_B_lose_43
    · have h := h.2 c
      refine lv_iconst (v := 0) hx hb dc_B_lose_17 (by decide) ?_
      exact w_zret hx hb hr rfl hlocks hP hS h dc_B_lose_18
set_option maxHeartbeats 4000000 in
set_option maxRecDepth 100000 in
theorem ct_B_insert (l : Launch) (D : va_G) (ad : Nat → Nat) (cA : Nat → ClassId) (w : Nat) (hJ : Jn_ ad) (x1 : Int32) (x2 : Int32) (x3 : Int32) (x4 : Int32) (st : St_) (post : St_ → Prop) (h : wp_B_insert w x1 x2 x3 x4 st post) : Met l yn_B_insert (Cond.code yn_B_insert bc_B_insert 7 none :: Wk_) rm_B_insert (Pw_ D ad cA w st [.ref (ad 19), .int x1, .int x2, .int x3, .int x4]) (Qv_ D ad cA w post) 0 0 (Aw_ ad) := by
  refine Met.ofW (cc := bc_B_insert) (maxL := 7) (ret := none) (by decide) rfl ?_
  intro p e s m args below meth c s₁ B hml hv
  obtain ⟨rfl, hP, hK, hN⟩ := hv
  have hx := B.exec
  have hb := B.bytes
  have hr := B.returns
  have hts : ∀ v ∈ Wk_, v.before [.ref (ad 19), .int x1, .int x2, .int x3, .int x4].toArray s = true := fun v hv => atoms_spec (ws := Cond.code yn_B_insert bc_B_insert 7 none :: Wk_) B.pre v (List.mem_cons_of_mem _ hv)
  have hown : s.vm.findClass Rn_B = some m.cls := findClass_of_methodNamed B.named
  have hlocks := B.notSynchronized
  have hS : va_S (Aw_ ad) s.heap s.heap [] := va_S.rf
  have hl := lv_entry ([.ref (ad 19), .int x1, .int x2, .int x3, .int x4]) (n := 7) (Nat.le_of_ble_eq_true rfl)
  rw [lg_entry_eq]
  generalize (lg_sl ([.ref (ad 19), .int x1, .int x2, .int x3, .int x4]) ++ List.replicate (7 - (lg_sl ([.ref (ad 19), .int x1, .int x2, .int x3, .int x4])).length) Slot.unset).toArray = ls at hl ⊢
  have hl : lv_has ls 7 [(0, .ref (ad 19)), (1, .int x1), (2, .int x2), (3, .int x3), (4, .int x4)] := hl
  refine lv_aload_n hx hb dc_B_insert_0 rfl (lv_at hl 0 rfl) ?_
  refine lv_iload_n hx hb dc_B_insert_1 rfl (lv_at hl 1 rfl) ?_
  refine w_cVi (y := yn_B_size) (C := Rn_B) (index := 45) (n := 1) (own := Rn_B) 19 hx hb hml hown hts hK hN hP hS (ct_B_size l D ad cA w hJ x1 st _ h) mw_26 mw_27 mw_28 mw_29 mw_18 (by decide +kernel) ⟨Nat.le_of_ble_eq_true rfl, Nat.le_of_ble_eq_true rfl⟩ rfl rfl rfl rfl rfl hl.1 rfl (lv_room (Nat.le_of_ble_eq_true rfl)) dc_B_insert_2 ⟨Nat.zero_le _, Nat.zero_le _⟩ (fun r102 st101 H locs hP hS h => ?_)
  refine lv_istore (lv' := [(5, .int r102), (0, .ref (ad 19)), (1, .int x1), (2, .int x2), (3, .int x3), (4, .int x4)]) hx hb dc_B_insert_5 hl (by decide) rfl (fun ls hl => ?_)
  refine lv_aload_n hx hb dc_B_insert_7 rfl (lv_at hl 1 rfl) ?_
  refine lv_iload_n hx hb dc_B_insert_8 rfl (lv_at hl 2 rfl) ?_
  refine w_cVi (y := yn_B_isBlock) (C := Rn_B) (index := 37) (n := 1) (own := Rn_B) 19 hx hb hml hown hts hK hN hP hS (ct_B_isBlock l D ad cA w hJ x1 st101 _ h) mw_14 mw_15 mw_16 mw_17 mw_18 (by decide +kernel) ⟨Nat.le_of_ble_eq_true rfl, Nat.le_of_ble_eq_true rfl⟩ rfl rfl rfl rfl rfl hl.1 rfl (lv_room (Nat.le_of_ble_eq_true rfl)) dc_B_insert_9 ⟨Nat.zero_le _, Nat.zero_le _⟩ (fun r104 st103 H locs hP hS h => ?_)
  refine lv_if_eq (tgt := 34) hx hb dc_B_insert_12 (by decide) (fun c => ?_) (fun c => ?_)
  · have h := h.1 c
    exact w_vret hx hb hr hlocks hP hS h dc_B_insert_34
  · have h := h.2 c
    refine lv_iload_n hx hb dc_B_insert_15 rfl (lv_at hl 3 rfl) ?_
    refine lv_if_lt (tgt := 34) hx hb dc_B_insert_16 (by decide) (fun c => ?_) (fun c => ?_)
    · have h := h.1 c
      exact w_vret hx hb hr hlocks hP hS h dc_B_insert_34
    · have h := h.2 c
      refine lv_iload_n hx hb dc_B_insert_19 rfl (lv_at hl 3 rfl) ?_
      refine lv_iload hx hb dc_B_insert_20 (lv_at hl 0 rfl) ?_
      refine lv_icmp_gt (tgt := 34) hx hb dc_B_insert_22 (by decide) (fun c => ?_) (fun c => ?_)
      · have h := h.1 c
        exact w_vret hx hb hr hlocks hP hS h dc_B_insert_34
      · have h := h.2 c
        refine lv_iload hx hb dc_B_insert_25 (lv_at hl 0 rfl) ?_
        refine lv_aload_n hx hb dc_B_insert_27 rfl (lv_at hl 1 rfl) ?_
        refine va_get (D := D) (ci := 1) (v := .int (nI w)) (C := Rn_B) (T := Fn_B) (N := 8) hx hb hts in_B hown hK hP 19 rfl rfl 0 (by decide) (hts _ mw_24) (fun _ h9 => h9) rfl dc_B_insert_28 ?_
        refine lv_icmp_lt (tgt := 35) hx hb dc_B_insert_31 (by decide) (fun c => ?_) (fun c => ?_)
        · have h := h.1 c
          refine lv_iload_n hx hb dc_B_insert_35 rfl (lv_at hl 2 rfl) ?_
          refine lv_aload_n hx hb dc_B_insert_36 rfl (lv_at hl 1 rfl) ?_
          refine va_get (D := D) (ci := 1) (v := .int (nI w)) (C := Rn_B) (T := Fn_B) (N := 8) hx hb hts in_B hown hK hP 19 rfl rfl 0 (by decide) (hts _ mw_24) (fun _ h9 => h9) rfl dc_B_insert_37 ?_
          refine lv_imul hx hb dc_B_insert_40 ?_
          refine lv_iload_n hx hb dc_B_insert_41 rfl (lv_at hl 3 rfl) ?_
          refine lv_iadd hx hb dc_B_insert_42 ?_
          refine lv_topi (fun x105 ex105 => ?_)
          have h := h x105 ex105
          refine lv_istore (lv' := [(6, .int x105), (5, .int r102), (0, .ref (ad 19)), (1, .int x1), (2, .int x2), (3, .int x3), (4, .int x4)]) hx hb dc_B_insert_43 hl (by decide) rfl (fun ls hl => ?_)
          refine lv_aload_n hx hb dc_B_insert_45 rfl (lv_at hl 2 rfl) ?_
          refine va_get (D := D) (ci := 1) (v := .ref (ad 3)) (C := Rn_B) (T := Fn_B) (N := 8) hx hb hts in_B hown hK hP 19 rfl rfl 4 (by decide) (hts _ mw_34) (fun _ h9 => h9) rfl dc_B_insert_46 ?_
          refine lv_iload hx hb dc_B_insert_49 (lv_at hl 0 rfl) ?_
          refine lv_aload_n hx hb dc_B_insert_51 rfl (lv_at hl 2 rfl) ?_
          refine va_get (D := D) (ci := 1) (v := .ref (ad 3)) (C := Rn_B) (T := Fn_B) (N := 8) hx hb hts in_B hown hK hP 19 rfl rfl 4 (by decide) (hts _ mw_34) (fun _ h9 => h9) rfl dc_B_insert_52 ?_
          refine lv_iload hx hb dc_B_insert_55 (lv_at hl 0 rfl) ?_
          refine lv_iconst (v := 1) hx hb dc_B_insert_57 (by decide) ?_
          refine lv_iadd hx hb dc_B_insert_58 ?_
          refine lv_iload hx hb dc_B_insert_59 (lv_at hl 1 rfl) ?_
          refine lv_iload_n hx hb dc_B_insert_61 rfl (lv_at hl 4 rfl) ?_
          refine lv_isub hx hb dc_B_insert_62 ?_
          refine w_cpy 3 3 (by decide) (by decide) hJ hx hb (hml.trans hl.1.symm) hown (hts _ mw_82) (hts _ mw_83) (hts _ mw_84) (hts _ mw_85) hK hP hS h.1 (Nat.le_of_ble_eq_true rfl) (Nat.le_of_ble_eq_true rfl) dc_B_insert_63 (fun H locs hP hS => ?_)
          obtain ⟨st106, est106⟩ : ∃ z : St_, z = ws_c st103 3 3 (x105).toNatClampNeg ((x105 + 1)).toNatClampNeg ((r102 - x2)).toNatClampNeg := ⟨_, rfl⟩
          rw [← est106] at hP
          have h := h.2 st106 est106
          refine lv_aload_n hx hb dc_B_insert_66 rfl (lv_at hl 2 rfl) ?_
          refine va_get (D := D) (ci := 1) (v := .ref (ad 4)) (C := Rn_B) (T := Fn_B) (N := 8) hx hb hts in_B hown hK hP 19 rfl rfl 5 (by decide) (hts _ mw_47) (fun _ h9 => h9) rfl dc_B_insert_67 ?_
          refine lv_iload hx hb dc_B_insert_70 (lv_at hl 0 rfl) ?_
          refine lv_aload_n hx hb dc_B_insert_72 rfl (lv_at hl 2 rfl) ?_
          refine va_get (D := D) (ci := 1) (v := .ref (ad 4)) (C := Rn_B) (T := Fn_B) (N := 8) hx hb hts in_B hown hK hP 19 rfl rfl 5 (by decide) (hts _ mw_47) (fun _ h9 => h9) rfl dc_B_insert_73 ?_
          refine lv_iload hx hb dc_B_insert_76 (lv_at hl 0 rfl) ?_
          refine lv_iconst (v := 1) hx hb dc_B_insert_78 (by decide) ?_
          refine lv_iadd hx hb dc_B_insert_79 ?_
          refine lv_iload hx hb dc_B_insert_80 (lv_at hl 1 rfl) ?_
          refine lv_iload_n hx hb dc_B_insert_82 rfl (lv_at hl 4 rfl) ?_
          refine lv_isub hx hb dc_B_insert_83 ?_
          refine w_cpy 4 4 (by decide) (by decide) hJ hx hb (hml.trans hl.1.symm) hown (hts _ mw_82) (hts _ mw_83) (hts _ mw_84) (hts _ mw_85) hK hP hS h.1 (Nat.le_of_ble_eq_true rfl) (Nat.le_of_ble_eq_true rfl) dc_B_insert_84 (fun H locs hP hS => ?_)
          obtain ⟨st107, est107⟩ : ∃ z : St_, z = ws_c st106 4 4 (x105).toNatClampNeg ((x105 + 1)).toNatClampNeg ((r102 - x2)).toNatClampNeg := ⟨_, rfl⟩
          rw [← est107] at hP
          have h := h.2 st107 est107
          refine lv_aload_n hx hb dc_B_insert_87 rfl (lv_at hl 2 rfl) ?_
          refine va_get (D := D) (ci := 1) (v := .ref (ad 3)) (C := Rn_B) (T := Fn_B) (N := 8) hx hb hts in_B hown hK hP 19 rfl rfl 4 (by decide) (hts _ mw_34) (fun _ h9 => h9) rfl dc_B_insert_88 ?_
          refine lv_iload hx hb dc_B_insert_91 (lv_at hl 0 rfl) ?_
          refine lv_iload_n hx hb dc_B_insert_93 rfl (lv_at hl 5 rfl) ?_
          refine w_ist 3 (by decide) hJ hx hb hK hP hS h.1 dc_B_insert_94 (fun H locs hP hS => ?_)
          obtain ⟨st108, est108⟩ : ∃ z : St_, z = ws_1 st107 3 (x105).toNatClampNeg x3 := ⟨_, rfl⟩
          rw [← est108] at hP
          have h := h.2 st108 est108
          refine lv_aload_n hx hb dc_B_insert_95 rfl (lv_at hl 2 rfl) ?_
          refine va_get (D := D) (ci := 1) (v := .ref (ad 4)) (C := Rn_B) (T := Fn_B) (N := 8) hx hb hts in_B hown hK hP 19 rfl rfl 5 (by decide) (hts _ mw_47) (fun _ h9 => h9) rfl dc_B_insert_96 ?_
          refine lv_iload hx hb dc_B_insert_99 (lv_at hl 0 rfl) ?_
          refine lv_iload hx hb dc_B_insert_101 (lv_at hl 6 rfl) ?_
          refine w_ist 4 (by decide) hJ hx hb hK hP hS h.1 dc_B_insert_103 (fun H locs hP hS => ?_)
          obtain ⟨st109, est109⟩ : ∃ z : St_, z = ws_1 st108 4 (x105).toNatClampNeg x4 := ⟨_, rfl⟩
          rw [← est109] at hP
          have h := h.2 st109 est109
          refine lv_aload_n hx hb dc_B_insert_104 rfl (lv_at hl 2 rfl) ?_
          refine va_get (D := D) (ci := 1) (v := .ref (ad 2)) (C := Rn_B) (T := Fn_B) (N := 8) hx hb hts in_B hown hK hP 19 rfl rfl 3 (by decide) (hts _ mw_25) (fun _ h9 => h9) rfl dc_B_insert_105 ?_
          refine lv_iload_n hx hb dc_B_insert_108 rfl (lv_at hl 3 rfl) ?_
          refine lv_iload hx hb dc_B_insert_109 (lv_at hl 1 rfl) ?_
          refine lv_iconst (v := 1) hx hb dc_B_insert_111 (by decide) ?_
          refine lv_iadd hx hb dc_B_insert_112 ?_
          refine w_ist 2 (by decide) hJ hx hb hK hP hS h.1 dc_B_insert_113 (fun H locs hP hS => ?_)
          obtain ⟨st110, est110⟩ : ∃ z : St_, z = ws_1 st109 2 (x1).toNatClampNeg (r102 + 1) := ⟨_, rfl⟩
          rw [← est110] at hP
          have h := h.2 st110 est110
          exact w_vret hx hb hr hlocks hP hS h dc_B_insert_114
        · have h := h.2 c
          exact w_vret hx hb hr hlocks hP hS h dc_B_insert_34
end
section
set_option maxHeartbeats 4000000 in
set_option maxRecDepth 100000 in
theorem ct_B_share (l : Launch) (D : va_G) (ad : Nat → Nat) (cA : Nat → ClassId) (w : Nat) (hJ : Jn_ ad) (x1 : Int32) (st : St_) (post : St_ → Prop) (h : wp_B_share w x1 st post) : Met l yn_B_share (Cond.code yn_B_share bc_B_share 2 none :: Wk_) rm_B_share (Pw_ D ad cA w st [.ref (ad 19), .int x1]) (Qv_ D ad cA w post) 0 0 (Aw_ ad) := by
  refine Met.ofW (cc := bc_B_share) (maxL := 2) (ret := none) (by decide) rfl ?_
  intro p e s m args below meth c s₁ B hml hv
  obtain ⟨rfl, hP, hK, hN⟩ := hv
  have hx := B.exec
  have hb := B.bytes
  have hr := B.returns
  have hts : ∀ v ∈ Wk_, v.before [.ref (ad 19), .int x1].toArray s = true := fun v hv => atoms_spec (ws := Cond.code yn_B_share bc_B_share 2 none :: Wk_) B.pre v (List.mem_cons_of_mem _ hv)
  have hown : s.vm.findClass Rn_B = some m.cls := findClass_of_methodNamed B.named
  have hlocks := B.notSynchronized
  have hS : va_S (Aw_ ad) s.heap s.heap [] := va_S.rf
  have hl := lv_entry ([.ref (ad 19), .int x1]) (n := 2) (Nat.le_of_ble_eq_true rfl)
  rw [lg_entry_eq]
  generalize (lg_sl ([.ref (ad 19), .int x1]) ++ List.replicate (2 - (lg_sl ([.ref (ad 19), .int x1])).length) Slot.unset).toArray = ls at hl ⊢
  have hl : lv_has ls 2 [(0, .ref (ad 19)), (1, .int x1)] := hl
  refine lv_aload_n hx hb dc_B_share_0 rfl (lv_at hl 0 rfl) ?_
  refine lv_iload_n hx hb dc_B_share_1 rfl (lv_at hl 1 rfl) ?_
  refine w_cVi (y := yn_B_isBlock) (C := Rn_B) (index := 37) (n := 1) (own := Rn_B) 19 hx hb hml hown hts hK hN hP hS (ct_B_isBlock l D ad cA w hJ x1 st _ h) mw_14 mw_15 mw_16 mw_17 mw_18 (by decide +kernel) ⟨Nat.le_of_ble_eq_true rfl, Nat.le_of_ble_eq_true rfl⟩ rfl rfl rfl rfl rfl hl.1 rfl (lv_room (Nat.le_of_ble_eq_true rfl)) dc_B_share_2 ⟨Nat.zero_le _, Nat.zero_le _⟩ (fun r102 st101 H locs hP hS h => ?_)
  refine lv_if_eq (tgt := 18) hx hb dc_B_share_5 (by decide) (fun c => ?_) (fun c => ?_)
  · have h := h.1 c
    exact w_vret hx hb hr hlocks hP hS h dc_B_share_18
  · have h := h.2 c
    refine lv_aload_n hx hb dc_B_share_8 rfl (lv_at hl 0 rfl) ?_
    refine va_get (D := D) (ci := 1) (v := .ref (ad 0)) (C := Rn_B) (T := Fn_B) (N := 8) hx hb hts in_B hown hK hP 19 rfl rfl 1 (by decide) (hts _ mw_64) (fun _ h9 => h9) rfl dc_B_share_9 ?_
    refine lv_iload_n hx hb dc_B_share_12 rfl (lv_at hl 1 rfl) ?_
    refine lv_dup2_11 hx hb dc_B_share_13 rfl rfl ?_
    refine w_ild 0 (by decide) hx hb hK hP h.1 dc_B_share_14 ?_
    have h := h.2
    refine lv_iconst (v := 1) hx hb dc_B_share_15 (by decide) ?_
    refine lv_iadd hx hb dc_B_share_16 ?_
    refine w_ist 0 (by decide) hJ hx hb hK hP hS h.1 dc_B_share_17 (fun H locs hP hS => ?_)
    obtain ⟨st103, est103⟩ : ∃ z : St_, z = ws_1 st101 0 (x1).toNatClampNeg ((st101 0 (x1).toNatClampNeg) + 1) := ⟨_, rfl⟩
    rw [← est103] at hP
    have h := h.2 st103 est103
    exact w_vret hx hb hr hlocks hP hS h dc_B_share_18
set_option maxHeartbeats 4000000 in
set_option maxRecDepth 100000 in
theorem ct_B_owned (l : Launch) (D : va_G) (ad : Nat → Nat) (cA : Nat → ClassId) (w : Nat) (hJ : Jn_ ad) (x1 : Int32) (st : St_) (post : Int32 → St_ → Prop) (h : wp_B_owned w x1 st post) : Met l yn_B_owned (Cond.code yn_B_owned bc_B_owned 4 (some .int) :: Wk_) rm_B_owned (Pw_ D ad cA w st [.ref (ad 19), .int x1]) (Qi_ D ad cA w post) 0 0 (Aw_ ad) := by
  refine Met.ofW (cc := bc_B_owned) (maxL := 4) (ret := (some .int)) (by decide) rfl ?_
  intro p e s m args below meth c s₁ B hml hv
  obtain ⟨rfl, hP, hK, hN⟩ := hv
  have hx := B.exec
  have hb := B.bytes
  have hr := B.returns
  have hts : ∀ v ∈ Wk_, v.before [.ref (ad 19), .int x1].toArray s = true := fun v hv => atoms_spec (ws := Cond.code yn_B_owned bc_B_owned 4 (some .int) :: Wk_) B.pre v (List.mem_cons_of_mem _ hv)
  have hown : s.vm.findClass Rn_B = some m.cls := findClass_of_methodNamed B.named
  have hlocks := B.notSynchronized
  have hS : va_S (Aw_ ad) s.heap s.heap [] := va_S.rf
  have Lp_23 : ∀ (n : Nat) (y1 y2 y3 : Int32) (st : St_), wp_B_owned_23 w post n y1 y2 y3 st → ∀ (H : Heap) (locs : List Loc), va_P D sC_ (wd_ ad cA w st) H → va_S (Aw_ ad) s.heap H locs → ∀ ls : Array Slot, lv_has ls 4 [(0, .ref (ad 19)), (1, .int y1), (2, .int y2), (3, .int y3)] → W p l e (headSpec (Cond.code yn_B_owned bc_B_owned 4 (some .int) :: Wk_) rm_B_owned).room s m [.ref (ad 19), .int x1].toArray below meth c H locs 0 0 (MQ below (Qi_ D ad cA w post) [.ref (ad 19), .int x1].toArray s 0 0 (Aw_ ad)) (F0 m 23 ls []) := by
    intro n
    induction n with
    | zero => intro y1 y2 y3 st h; exact h.elim
    | succ n ih =>
      intro y1 y2 y3 st h H locs hP hS ls hl
      refine lv_iload_n hx hb dc_B_owned_23 rfl (lv_at hl 3 rfl) ?_
      refine lv_aload_n hx hb dc_B_owned_24 rfl (lv_at hl 0 rfl) ?_
      refine lv_iload_n hx hb dc_B_owned_25 rfl (lv_at hl 1 rfl) ?_
      refine w_cVi (y := yn_B_size) (C := Rn_B) (index := 45) (n := 1) (own := Rn_B) 19 hx hb hml hown hts hK hN hP hS (ct_B_size l D ad cA w hJ y1 st _ h) mw_26 mw_27 mw_28 mw_29 mw_18 (by decide +kernel) ⟨Nat.le_of_ble_eq_true rfl, Nat.le_of_ble_eq_true rfl⟩ rfl rfl rfl rfl rfl hl.1 rfl (lv_room (Nat.le_of_ble_eq_true rfl)) dc_B_owned_26 ⟨Nat.zero_le _, Nat.zero_le _⟩ (fun r108 st107 H locs hP hS h => ?_)
      refine lv_icmp_ge (tgt := 74) hx hb dc_B_owned_29 (by decide) (fun c => ?_) (fun c => ?_)
      · have h := h.1 c
        refine lv_aload_n hx hb dc_B_owned_74 rfl (lv_at hl 0 rfl) ?_
        refine lv_iload_n hx hb dc_B_owned_75 rfl (lv_at hl 1 rfl) ?_
        refine w_cVi (y := yn_B_lose) (C := Rn_B) (index := 77) (n := 1) (own := Rn_B) 19 hx hb hml hown hts hK hN hP hS (ct_B_lose l D ad cA w hJ y1 st107 _ h) mw_76 mw_77 mw_78 mw_79 mw_18 (by decide +kernel) ⟨Nat.le_of_ble_eq_true rfl, Nat.le_of_ble_eq_true rfl⟩ rfl rfl rfl rfl rfl hl.1 rfl (lv_room (Nat.le_of_ble_eq_true rfl)) dc_B_owned_76 ⟨Nat.zero_le _, Nat.zero_le _⟩ (fun r110 st109 H locs hP hS h => ?_)
        refine lv_pop hx hb dc_B_owned_79 rfl ?_
        refine lv_iload_n hx hb dc_B_owned_80 rfl (lv_at hl 2 rfl) ?_
        exact w_iret hx hb hr hlocks hP hS h dc_B_owned_81
      · have h := h.2 c
        refine lv_aload_n hx hb dc_B_owned_32 rfl (lv_at hl 0 rfl) ?_
        refine lv_iload_n hx hb dc_B_owned_33 rfl (lv_at hl 2 rfl) ?_
        refine lv_iload_n hx hb dc_B_owned_34 rfl (lv_at hl 3 rfl) ?_
        refine lv_aload_n hx hb dc_B_owned_35 rfl (lv_at hl 0 rfl) ?_
        refine lv_iload_n hx hb dc_B_owned_36 rfl (lv_at hl 1 rfl) ?_
        refine lv_iload_n hx hb dc_B_owned_37 rfl (lv_at hl 3 rfl) ?_
        refine w_cVi (y := yn_B_key) (C := Rn_B) (index := 63) (n := 2) (own := Rn_B) 19 hx hb hml hown hts hK hN hP hS (ct_B_key l D ad cA w hJ y1 y3 st107 _ h) mw_43 mw_80 mw_45 mw_46 mw_18 (by decide +kernel) ⟨Nat.le_of_ble_eq_true rfl, Nat.le_of_ble_eq_true rfl⟩ rfl rfl rfl rfl rfl hl.1 rfl (lv_room (Nat.le_of_ble_eq_true rfl)) dc_B_owned_38 ⟨Nat.zero_le _, Nat.zero_le _⟩ (fun r112 st111 H locs hP hS h => ?_)
        refine lv_aload_n hx hb dc_B_owned_41 rfl (lv_at hl 0 rfl) ?_
        refine lv_iload_n hx hb dc_B_owned_42 rfl (lv_at hl 1 rfl) ?_
        refine lv_iload_n hx hb dc_B_owned_43 rfl (lv_at hl 3 rfl) ?_
        refine w_cVi (y := yn_B_goal) (C := Rn_B) (index := 66) (n := 2) (own := Rn_B) 19 hx hb hml hown hts hK hN hP hS (ct_B_goal l D ad cA w hJ y1 y3 st111 _ h) mw_48 mw_81 mw_50 mw_51 mw_18 (by decide +kernel) ⟨Nat.le_of_ble_eq_true rfl, Nat.le_of_ble_eq_true rfl⟩ rfl rfl rfl rfl rfl hl.1 rfl (lv_room (Nat.le_of_ble_eq_true rfl)) dc_B_owned_44 ⟨Nat.zero_le _, Nat.zero_le _⟩ (fun r114 st113 H locs hP hS h => ?_)
        refine w_cVv (y := yn_B_insert) (C := Rn_B) (index := 69) (n := 4) (own := Rn_B) 19 hx hb hml hown hts hK hN hP hS (ct_B_insert l D ad cA w hJ y2 y3 r112 r114 st113 _ h) mw_86 mw_87 mw_88 mw_89 mw_18 (by decide +kernel) ⟨Nat.le_of_ble_eq_true rfl, Nat.le_of_ble_eq_true rfl⟩ rfl rfl rfl rfl rfl hl.1 rfl (lv_room (Nat.le_of_ble_eq_true rfl)) dc_B_owned_47 ⟨Nat.zero_le _, Nat.zero_le _⟩ (fun st115 H locs hP hS h => ?_)
        refine lv_aload_n hx hb dc_B_owned_50 rfl (lv_at hl 0 rfl) ?_
        refine lv_iload_n hx hb dc_B_owned_51 rfl (lv_at hl 1 rfl) ?_
        refine w_cVi (y := yn_B_level) (C := Rn_B) (index := 57) (n := 1) (own := Rn_B) 19 hx hb hml hown hts hK hN hP hS (ct_B_level l D ad cA w hJ y1 st115 _ h) mw_20 mw_69 mw_22 mw_23 mw_18 (by decide +kernel) ⟨Nat.le_of_ble_eq_true rfl, Nat.le_of_ble_eq_true rfl⟩ rfl rfl rfl rfl rfl hl.1 rfl (lv_room (Nat.le_of_ble_eq_true rfl)) dc_B_owned_52 ⟨Nat.zero_le _, Nat.zero_le _⟩ (fun r117 st116 H locs hP hS h => ?_)
        refine lv_if_le (tgt := 68) hx hb dc_B_owned_55 (by decide) (fun c => ?_) (fun c => ?_)
        · have h := h.1 c
          obtain ⟨x118, ex118⟩ : ∃ y : Int32, y = y3 + 1 := ⟨_, rfl⟩
          have h := h x118 ex118
          refine lv_iinc (v := x118) (lv' := [(3, .int x118), (0, .ref (ad 19)), (1, .int y1), (2, .int y2)]) hx hb dc_B_owned_68 hl (k := 3) rfl (by rw [ex118]; rfl) (by decide) rfl (fun ls hl => ?_)
          refine lv_goto (tgt := 23) hx hb dc_B_owned_71 (by decide) ?_
          exact ih y1 y2 x118 st116 h _ _ hP hS ls (lv_sub hl [1, 2, 3, 0] rfl)
        · have h := h.2 c
          refine lv_aload_n hx hb dc_B_owned_58 rfl (lv_at hl 0 rfl) ?_
          refine lv_aload_n hx hb dc_B_owned_59 rfl (lv_at hl 0 rfl) ?_
          refine lv_iload_n hx hb dc_B_owned_60 rfl (lv_at hl 1 rfl) ?_
          refine lv_iload_n hx hb dc_B_owned_61 rfl (lv_at hl 3 rfl) ?_
          refine w_cVi (y := yn_B_goal) (C := Rn_B) (index := 66) (n := 2) (own := Rn_B) 19 hx hb hml hown hts hK hN hP hS (ct_B_goal l D ad cA w hJ y1 y3 st116 _ h) mw_48 mw_81 mw_50 mw_51 mw_18 (by decide +kernel) ⟨Nat.le_of_ble_eq_true rfl, Nat.le_of_ble_eq_true rfl⟩ rfl rfl rfl rfl rfl hl.1 rfl (lv_room (Nat.le_of_ble_eq_true rfl)) dc_B_owned_62 ⟨Nat.zero_le _, Nat.zero_le _⟩ (fun r120 st119 H locs hP hS h => ?_)
          refine w_cVv (y := yn_B_share) (C := Rn_B) (index := 73) (n := 1) (own := Rn_B) 19 hx hb hml hown hts hK hN hP hS (ct_B_share l D ad cA w hJ r120 st119 _ h) mw_90 mw_91 mw_92 mw_93 mw_18 (by decide +kernel) ⟨Nat.le_of_ble_eq_true rfl, Nat.le_of_ble_eq_true rfl⟩ rfl rfl rfl rfl rfl hl.1 rfl (lv_room (Nat.le_of_ble_eq_true rfl)) dc_B_owned_65 ⟨Nat.zero_le _, Nat.zero_le _⟩ (fun st121 H locs hP hS h => ?_)
          obtain ⟨x122, ex122⟩ : ∃ y : Int32, y = y3 + 1 := ⟨_, rfl⟩
          have h := h x122 ex122
          refine lv_iinc (v := x122) (lv' := [(3, .int x122), (0, .ref (ad 19)), (1, .int y1), (2, .int y2)]) hx hb dc_B_owned_68 hl (k := 3) rfl (by rw [ex122]; rfl) (by decide) rfl (fun ls hl => ?_)
          refine lv_goto (tgt := 23) hx hb dc_B_owned_71 (by decide) ?_
          exact ih y1 y2 x122 st121 h _ _ hP hS ls (lv_sub hl [1, 2, 3, 0] rfl)
  have hl := lv_entry ([.ref (ad 19), .int x1]) (n := 4) (Nat.le_of_ble_eq_true rfl)
  rw [lg_entry_eq]
  generalize (lg_sl ([.ref (ad 19), .int x1]) ++ List.replicate (4 - (lg_sl ([.ref (ad 19), .int x1])).length) Slot.unset).toArray = ls at hl ⊢
  have hl : lv_has ls 4 [(0, .ref (ad 19)), (1, .int x1)] := hl
  refine lv_aload_n hx hb dc_B_owned_0 rfl (lv_at hl 0 rfl) ?_
  refine lv_iload_n hx hb dc_B_owned_1 rfl (lv_at hl 1 rfl) ?_
  refine w_cVi (y := yn_B_ways) (C := Rn_B) (index := 55) (n := 1) (own := Rn_B) 19 hx hb hml hown hts hK hN hP hS (ct_B_ways l D ad cA w hJ x1 st _ h) mw_65 mw_66 mw_67 mw_68 mw_18 (by decide +kernel) ⟨Nat.le_of_ble_eq_true rfl, Nat.le_of_ble_eq_true rfl⟩ rfl rfl rfl rfl rfl hl.1 rfl (lv_room (Nat.le_of_ble_eq_true rfl)) dc_B_owned_2 ⟨Nat.zero_le _, Nat.zero_le _⟩ (fun r102 st101 H locs hP hS h => ?_)
  refine lv_iconst (v := 1) hx hb dc_B_owned_5 (by decide) ?_
  refine lv_icmp_gt (tgt := 11) hx hb dc_B_owned_6 (by decide) (fun c => ?_) (fun c => ?_)
  · have h := h.1 c
    refine lv_aload_n hx hb dc_B_owned_11 rfl (lv_at hl 0 rfl) ?_
    refine lv_aload_n hx hb dc_B_owned_12 rfl (lv_at hl 0 rfl) ?_
    refine lv_iload_n hx hb dc_B_owned_13 rfl (lv_at hl 1 rfl) ?_
    refine w_cVi (y := yn_B_level) (C := Rn_B) (index := 57) (n := 1) (own := Rn_B) 19 hx hb hml hown hts hK hN hP hS (ct_B_level l D ad cA w hJ x1 st101 _ h) mw_20 mw_69 mw_22 mw_23 mw_18 (by decide +kernel) ⟨Nat.le_of_ble_eq_true rfl, Nat.le_of_ble_eq_true rfl⟩ rfl rfl rfl rfl rfl hl.1 rfl (lv_room (Nat.le_of_ble_eq_true rfl)) dc_B_owned_14 ⟨Nat.zero_le _, Nat.zero_le _⟩ (fun r104 st103 H locs hP hS h => ?_)
    refine w_cVi (y := yn_B_take) (C := Rn_B) (index := 60) (n := 1) (own := Rn_B) 19 hx hb hml hown hts hK hN hP hS (ct_B_take l D ad cA w hJ r104 st103 _ h) mw_72 mw_73 mw_74 mw_75 mw_18 (by decide +kernel) ⟨Nat.le_of_ble_eq_true rfl, Nat.le_of_ble_eq_true rfl⟩ rfl rfl rfl rfl rfl hl.1 rfl (lv_room (Nat.le_of_ble_eq_true rfl)) dc_B_owned_17 ⟨Nat.zero_le _, Nat.zero_le _⟩ (fun r106 st105 H locs hP hS h => ?_)
    refine lv_istore_n (lv' := [(2, .int r106), (0, .ref (ad 19)), (1, .int x1)]) hx hb dc_B_owned_20 rfl hl (by decide) rfl (fun ls hl => ?_)
    refine lv_iconst (v := 0) hx hb dc_B_owned_21 (by decide) ?_
    refine lv_istore_n (lv' := [(3, .int 0), (2, .int r106), (0, .ref (ad 19)), (1, .int x1)]) hx hb dc_B_owned_22 rfl hl (by decide) rfl (fun ls hl => ?_)
    obtain ⟨n, h⟩ := h
    exact Lp_23 n x1 r106 0 st105 h _ _ hP hS ls (lv_sub hl [2, 3, 1, 0] rfl)
  · have h := h.2 c
    refine lv_iload_n hx hb dc_B_owned_9 rfl (lv_at hl 1 rfl) ?_
    exact w_iret hx hb hr hlocks hP hS h dc_B_owned_10
set_option maxHeartbeats 4000000 in
set_option maxRecDepth 100000 in
theorem ct_B_setGoal (l : Launch) (D : va_G) (ad : Nat → Nat) (cA : Nat → ClassId) (w : Nat) (hJ : Jn_ ad) (x1 : Int32) (x2 : Int32) (x3 : Int32) (st : St_) (post : St_ → Prop) (h : wp_B_setGoal w x1 x2 x3 st post) : Met l yn_B_setGoal (Cond.code yn_B_setGoal bc_B_setGoal 4 none :: Wk_) rm_B_setGoal (Pw_ D ad cA w st [.ref (ad 19), .int x1, .int x2, .int x3]) (Qv_ D ad cA w post) 0 0 (Aw_ ad) := by
  refine Met.ofW (cc := bc_B_setGoal) (maxL := 4) (ret := none) (by decide) rfl ?_
  intro p e s m args below meth c s₁ B hml hv
  obtain ⟨rfl, hP, hK, hN⟩ := hv
  have hx := B.exec
  have hb := B.bytes
  have hr := B.returns
  have hts : ∀ v ∈ Wk_, v.before [.ref (ad 19), .int x1, .int x2, .int x3].toArray s = true := fun v hv => atoms_spec (ws := Cond.code yn_B_setGoal bc_B_setGoal 4 none :: Wk_) B.pre v (List.mem_cons_of_mem _ hv)
  have hown : s.vm.findClass Rn_B = some m.cls := findClass_of_methodNamed B.named
  have hlocks := B.notSynchronized
  have hS : va_S (Aw_ ad) s.heap s.heap [] := va_S.rf
  have hl := lv_entry ([.ref (ad 19), .int x1, .int x2, .int x3]) (n := 4) (Nat.le_of_ble_eq_true rfl)
  rw [lg_entry_eq]
  generalize (lg_sl ([.ref (ad 19), .int x1, .int x2, .int x3]) ++ List.replicate (4 - (lg_sl ([.ref (ad 19), .int x1, .int x2, .int x3])).length) Slot.unset).toArray = ls at hl ⊢
  have hl : lv_has ls 4 [(0, .ref (ad 19)), (1, .int x1), (2, .int x2), (3, .int x3)] := hl
  refine lv_aload_n hx hb dc_B_setGoal_0 rfl (lv_at hl 0 rfl) ?_
  refine lv_iload_n hx hb dc_B_setGoal_1 rfl (lv_at hl 1 rfl) ?_
  refine lv_iload_n hx hb dc_B_setGoal_2 rfl (lv_at hl 2 rfl) ?_
  refine w_cVi (y := yn_B_isEntry) (C := Rn_B) (index := 41) (n := 2) (own := Rn_B) 19 hx hb hml hown hts hK hN hP hS (ct_B_isEntry l D ad cA w hJ x1 x2 st _ h) mw_39 mw_40 mw_41 mw_42 mw_18 (by decide +kernel) ⟨Nat.le_of_ble_eq_true rfl, Nat.le_of_ble_eq_true rfl⟩ rfl rfl rfl rfl rfl hl.1 rfl (lv_room (Nat.le_of_ble_eq_true rfl)) dc_B_setGoal_3 ⟨Nat.zero_le _, Nat.zero_le _⟩ (fun r102 st101 H locs hP hS h => ?_)
  refine lv_if_eq (tgt := 23) hx hb dc_B_setGoal_6 (by decide) (fun c => ?_) (fun c => ?_)
  · have h := h.1 c
    exact w_vret hx hb hr hlocks hP hS h dc_B_setGoal_23
  · have h := h.2 c
    refine lv_aload_n hx hb dc_B_setGoal_9 rfl (lv_at hl 0 rfl) ?_
    refine va_get (D := D) (ci := 1) (v := .ref (ad 4)) (C := Rn_B) (T := Fn_B) (N := 8) hx hb hts in_B hown hK hP 19 rfl rfl 5 (by decide) (hts _ mw_47) (fun _ h9 => h9) rfl dc_B_setGoal_10 ?_
    refine lv_iload_n hx hb dc_B_setGoal_13 rfl (lv_at hl 1 rfl) ?_
    refine lv_aload_n hx hb dc_B_setGoal_14 rfl (lv_at hl 0 rfl) ?_
    refine va_get (D := D) (ci := 1) (v := .int (nI w)) (C := Rn_B) (T := Fn_B) (N := 8) hx hb hts in_B hown hK hP 19 rfl rfl 0 (by decide) (hts _ mw_24) (fun _ h9 => h9) rfl dc_B_setGoal_15 ?_
    refine lv_imul hx hb dc_B_setGoal_18 ?_
    refine lv_iload_n hx hb dc_B_setGoal_19 rfl (lv_at hl 2 rfl) ?_
    refine lv_iadd hx hb dc_B_setGoal_20 ?_
    refine lv_iload_n hx hb dc_B_setGoal_21 rfl (lv_at hl 3 rfl) ?_
    refine w_ist 4 (by decide) hJ hx hb hK hP hS h.1 dc_B_setGoal_22 (fun H locs hP hS => ?_)
    obtain ⟨st103, est103⟩ : ∃ z : St_, z = ws_1 st101 4 (((x1 * (nI w)) + x2)).toNatClampNeg x3 := ⟨_, rfl⟩
    rw [← est103] at hP
    have h := h.2 st103 est103
    exact w_vret hx hb hr hlocks hP hS h dc_B_setGoal_23
set_option maxHeartbeats 4000000 in
set_option maxRecDepth 100000 in
theorem ct_T_ownedChild (l : Launch) (D : va_G) (ad : Nat → Nat) (cA : Nat → ClassId) (w : Nat) (hJ : Jn_ ad) (x1 : Int32) (x2 : Int32) (st : St_) (post : Int32 → St_ → Prop) (h : wp_T_ownedChild w x1 x2 st post) : Met l yn_T_ownedChild (Cond.code yn_T_ownedChild bc_T_ownedChild 4 (some .int) :: Wk_) rm_T_ownedChild (Pw_ D ad cA w st [.ref (ad 20), .int x1, .int x2]) (Qi_ D ad cA w post) 0 0 (Aw_ ad) := by
  refine Met.ofW (cc := bc_T_ownedChild) (maxL := 4) (ret := (some .int)) (by decide) rfl ?_
  intro p e s m args below meth c s₁ B hml hv
  obtain ⟨rfl, hP, hK, hN⟩ := hv
  have hx := B.exec
  have hb := B.bytes
  have hr := B.returns
  have hts : ∀ v ∈ Wk_, v.before [.ref (ad 20), .int x1, .int x2].toArray s = true := fun v hv => atoms_spec (ws := Cond.code yn_T_ownedChild bc_T_ownedChild 4 (some .int) :: Wk_) B.pre v (List.mem_cons_of_mem _ hv)
  have hown : s.vm.findClass Rn_T = some m.cls := findClass_of_methodNamed B.named
  have hlocks := B.notSynchronized
  have hS : va_S (Aw_ ad) s.heap s.heap [] := va_S.rf
  have hl := lv_entry ([.ref (ad 20), .int x1, .int x2]) (n := 4) (Nat.le_of_ble_eq_true rfl)
  rw [lg_entry_eq]
  generalize (lg_sl ([.ref (ad 20), .int x1, .int x2]) ++ List.replicate (4 - (lg_sl ([.ref (ad 20), .int x1, .int x2])).length) Slot.unset).toArray = ls at hl ⊢
  have hl : lv_has ls 4 [(0, .ref (ad 20)), (1, .int x1), (2, .int x2)] := hl
  refine lv_aload_n hx hb dc_T_ownedChild_0 rfl (lv_at hl 0 rfl) ?_
  refine va_get (D := D) (ci := 2) (v := .ref (ad 19)) (C := Rn_T) (T := Fn_T) (N := 3) hx hb hts in_T hown hK hP 20 rfl rfl 0 (by decide) (hts _ mw_13) (fun _ h9 => h9) rfl dc_T_ownedChild_1 ?_
  refine lv_aload_n hx hb dc_T_ownedChild_4 rfl (lv_at hl 0 rfl) ?_
  refine va_get (D := D) (ci := 2) (v := .ref (ad 19)) (C := Rn_T) (T := Fn_T) (N := 3) hx hb hts in_T hown hK hP 20 rfl rfl 0 (by decide) (hts _ mw_13) (fun _ h9 => h9) rfl dc_T_ownedChild_5 ?_
  refine lv_iload_n hx hb dc_T_ownedChild_8 rfl (lv_at hl 1 rfl) ?_
  refine lv_iload_n hx hb dc_T_ownedChild_9 rfl (lv_at hl 2 rfl) ?_
  refine w_cVi (y := yn_B_goal) (C := Rn_B) (index := 35) (n := 2) (own := Rn_T) 19 hx hb hml hown hts hK hN hP hS (ct_B_goal l D ad cA w hJ x1 x2 st _ h) mw_48 mw_49 mw_50 mw_51 mw_18 (by decide +kernel) ⟨Nat.le_of_ble_eq_true rfl, Nat.le_of_ble_eq_true rfl⟩ rfl rfl rfl rfl rfl hl.1 rfl (lv_room (Nat.le_of_ble_eq_true rfl)) dc_T_ownedChild_10 ⟨Nat.zero_le _, Nat.zero_le _⟩ (fun r102 st101 H locs hP hS h => ?_)
  refine w_cVi (y := yn_B_owned) (C := Rn_B) (index := 59) (n := 1) (own := Rn_T) 19 hx hb hml hown hts hK hN hP hS (ct_B_owned l D ad cA w hJ r102 st101 _ h) mw_94 mw_95 mw_96 mw_97 mw_18 (by decide +kernel) ⟨Nat.le_of_ble_eq_true rfl, Nat.le_of_ble_eq_true rfl⟩ rfl rfl rfl rfl rfl hl.1 rfl (lv_room (Nat.le_of_ble_eq_true rfl)) dc_T_ownedChild_13 ⟨Nat.zero_le _, Nat.zero_le _⟩ (fun r104 st103 H locs hP hS h => ?_)
  refine lv_istore_n (lv' := [(3, .int r104), (0, .ref (ad 20)), (1, .int x1), (2, .int x2)]) hx hb dc_T_ownedChild_16 rfl hl (by decide) rfl (fun ls hl => ?_)
  refine lv_aload_n hx hb dc_T_ownedChild_17 rfl (lv_at hl 1 rfl) ?_
  refine va_get (D := D) (ci := 2) (v := .ref (ad 19)) (C := Rn_T) (T := Fn_T) (N := 3) hx hb hts in_T hown hK hP 20 rfl rfl 0 (by decide) (hts _ mw_13) (fun _ h9 => h9) rfl dc_T_ownedChild_18 ?_
  refine lv_iload_n hx hb dc_T_ownedChild_21 rfl (lv_at hl 2 rfl) ?_
  refine lv_iload_n hx hb dc_T_ownedChild_22 rfl (lv_at hl 3 rfl) ?_
  refine lv_iload_n hx hb dc_T_ownedChild_23 rfl (lv_at hl 0 rfl) ?_
  refine w_cVv (y := yn_B_setGoal) (C := Rn_B) (index := 83) (n := 3) (own := Rn_T) 19 hx hb hml hown hts hK hN hP hS (ct_B_setGoal l D ad cA w hJ x1 x2 r104 st103 _ h) mw_98 mw_99 mw_100 mw_101 mw_18 (by decide +kernel) ⟨Nat.le_of_ble_eq_true rfl, Nat.le_of_ble_eq_true rfl⟩ rfl rfl rfl rfl rfl hl.1 rfl (lv_room (Nat.le_of_ble_eq_true rfl)) dc_T_ownedChild_24 ⟨Nat.zero_le _, Nat.zero_le _⟩ (fun st105 H locs hP hS h => ?_)
  refine lv_iload_n hx hb dc_T_ownedChild_27 rfl (lv_at hl 0 rfl) ?_
  exact w_iret hx hb hr hlocks hP hS h dc_T_ownedChild_28
set_option maxHeartbeats 4000000 in
set_option maxRecDepth 100000 in
theorem ct_B_setKey (l : Launch) (D : va_G) (ad : Nat → Nat) (cA : Nat → ClassId) (w : Nat) (hJ : Jn_ ad) (x1 : Int32) (x2 : Int32) (x3 : Int32) (st : St_) (post : St_ → Prop) (h : wp_B_setKey w x1 x2 x3 st post) : Met l yn_B_setKey (Cond.code yn_B_setKey bc_B_setKey 4 none :: Wk_) rm_B_setKey (Pw_ D ad cA w st [.ref (ad 19), .int x1, .int x2, .int x3]) (Qv_ D ad cA w post) 0 0 (Aw_ ad) := by
  refine Met.ofW (cc := bc_B_setKey) (maxL := 4) (ret := none) (by decide) rfl ?_
  intro p e s m args below meth c s₁ B hml hv
  obtain ⟨rfl, hP, hK, hN⟩ := hv
  have hx := B.exec
  have hb := B.bytes
  have hr := B.returns
  have hts : ∀ v ∈ Wk_, v.before [.ref (ad 19), .int x1, .int x2, .int x3].toArray s = true := fun v hv => atoms_spec (ws := Cond.code yn_B_setKey bc_B_setKey 4 none :: Wk_) B.pre v (List.mem_cons_of_mem _ hv)
  have hown : s.vm.findClass Rn_B = some m.cls := findClass_of_methodNamed B.named
  have hlocks := B.notSynchronized
  have hS : va_S (Aw_ ad) s.heap s.heap [] := va_S.rf
  have hl := lv_entry ([.ref (ad 19), .int x1, .int x2, .int x3]) (n := 4) (Nat.le_of_ble_eq_true rfl)
  rw [lg_entry_eq]
  generalize (lg_sl ([.ref (ad 19), .int x1, .int x2, .int x3]) ++ List.replicate (4 - (lg_sl ([.ref (ad 19), .int x1, .int x2, .int x3])).length) Slot.unset).toArray = ls at hl ⊢
  have hl : lv_has ls 4 [(0, .ref (ad 19)), (1, .int x1), (2, .int x2), (3, .int x3)] := hl
  refine lv_aload_n hx hb dc_B_setKey_0 rfl (lv_at hl 0 rfl) ?_
  refine lv_iload_n hx hb dc_B_setKey_1 rfl (lv_at hl 1 rfl) ?_
  refine lv_iload_n hx hb dc_B_setKey_2 rfl (lv_at hl 2 rfl) ?_
  refine w_cVi (y := yn_B_isEntry) (C := Rn_B) (index := 41) (n := 2) (own := Rn_B) 19 hx hb hml hown hts hK hN hP hS (ct_B_isEntry l D ad cA w hJ x1 x2 st _ h) mw_39 mw_40 mw_41 mw_42 mw_18 (by decide +kernel) ⟨Nat.le_of_ble_eq_true rfl, Nat.le_of_ble_eq_true rfl⟩ rfl rfl rfl rfl rfl hl.1 rfl (lv_room (Nat.le_of_ble_eq_true rfl)) dc_B_setKey_3 ⟨Nat.zero_le _, Nat.zero_le _⟩ (fun r102 st101 H locs hP hS h => ?_)
  refine lv_if_eq (tgt := 23) hx hb dc_B_setKey_6 (by decide) (fun c => ?_) (fun c => ?_)
  · have h := h.1 c
    exact w_vret hx hb hr hlocks hP hS h dc_B_setKey_23
  · have h := h.2 c
    refine lv_aload_n hx hb dc_B_setKey_9 rfl (lv_at hl 0 rfl) ?_
    refine va_get (D := D) (ci := 1) (v := .ref (ad 3)) (C := Rn_B) (T := Fn_B) (N := 8) hx hb hts in_B hown hK hP 19 rfl rfl 4 (by decide) (hts _ mw_34) (fun _ h9 => h9) rfl dc_B_setKey_10 ?_
    refine lv_iload_n hx hb dc_B_setKey_13 rfl (lv_at hl 1 rfl) ?_
    refine lv_aload_n hx hb dc_B_setKey_14 rfl (lv_at hl 0 rfl) ?_
    refine va_get (D := D) (ci := 1) (v := .int (nI w)) (C := Rn_B) (T := Fn_B) (N := 8) hx hb hts in_B hown hK hP 19 rfl rfl 0 (by decide) (hts _ mw_24) (fun _ h9 => h9) rfl dc_B_setKey_15 ?_
    refine lv_imul hx hb dc_B_setKey_18 ?_
    refine lv_iload_n hx hb dc_B_setKey_19 rfl (lv_at hl 2 rfl) ?_
    refine lv_iadd hx hb dc_B_setKey_20 ?_
    refine lv_iload_n hx hb dc_B_setKey_21 rfl (lv_at hl 3 rfl) ?_
    refine w_ist 3 (by decide) hJ hx hb hK hP hS h.1 dc_B_setKey_22 (fun H locs hP hS => ?_)
    obtain ⟨st103, est103⟩ : ∃ z : St_, z = ws_1 st101 3 (((x1 * (nI w)) + x2)).toNatClampNeg x3 := ⟨_, rfl⟩
    rw [← est103] at hP
    have h := h.2 st103 est103
    exact w_vret hx hb hr hlocks hP hS h dc_B_setKey_23
set_option maxHeartbeats 4000000 in
set_option maxRecDepth 100000 in
theorem ct_B_moveTail (l : Launch) (D : va_G) (ad : Nat → Nat) (cA : Nat → ClassId) (w : Nat) (hJ : Jn_ ad) (x1 : Int32) (x2 : Int32) (x3 : Int32) (st : St_) (post : St_ → Prop) (h : wp_B_moveTail w x1 x2 x3 st post) : Met l yn_B_moveTail (Cond.code yn_B_moveTail bc_B_moveTail 5 none :: Wk_) rm_B_moveTail (Pw_ D ad cA w st [.ref (ad 19), .int x1, .int x2, .int x3]) (Qv_ D ad cA w post) 0 0 (Aw_ ad) := by
  refine Met.ofW (cc := bc_B_moveTail) (maxL := 5) (ret := none) (by decide) rfl ?_
  intro p e s m args below meth c s₁ B hml hv
  obtain ⟨rfl, hP, hK, hN⟩ := hv
  have hx := B.exec
  have hb := B.bytes
  have hr := B.returns
  have hts : ∀ v ∈ Wk_, v.before [.ref (ad 19), .int x1, .int x2, .int x3].toArray s = true := fun v hv => atoms_spec (ws := Cond.code yn_B_moveTail bc_B_moveTail 5 none :: Wk_) B.pre v (List.mem_cons_of_mem _ hv)
  have hown : s.vm.findClass Rn_B = some m.cls := findClass_of_methodNamed B.named
  have hlocks := B.notSynchronized
  have hS : va_S (Aw_ ad) s.heap s.heap [] := va_S.rf
  have Lp_3 : ∀ (n : Nat) (y1 y2 y3 y4 : Int32) (st : St_), wp_B_moveTail_3 w post n y1 y2 y3 y4 st → ∀ (H : Heap) (locs : List Loc), va_P D sC_ (wd_ ad cA w st) H → va_S (Aw_ ad) s.heap H locs → ∀ ls : Array Slot, lv_has ls 5 [(0, .ref (ad 19)), (1, .int y1), (2, .int y2), (3, .int y3), (4, .int y4)] → W p l e (headSpec (Cond.code yn_B_moveTail bc_B_moveTail 5 none :: Wk_) rm_B_moveTail).room s m [.ref (ad 19), .int x1, .int x2, .int x3].toArray below meth c H locs 0 0 (MQ below (Qv_ D ad cA w post) [.ref (ad 19), .int x1, .int x2, .int x3].toArray s 0 0 (Aw_ ad)) (F0 m 3 ls []) := by
    intro n
    induction n with
    | zero => intro y1 y2 y3 y4 st h; exact h.elim
    | succ n ih =>
      intro y1 y2 y3 y4 st h H locs hP hS ls hl
      refine lv_iload hx hb dc_B_moveTail_3 (lv_at hl 4 rfl) ?_
      refine lv_aload_n hx hb dc_B_moveTail_5 rfl (lv_at hl 0 rfl) ?_
      refine lv_iload_n hx hb dc_B_moveTail_6 rfl (lv_at hl 1 rfl) ?_
      refine w_cVi (y := yn_B_size) (C := Rn_B) (index := 45) (n := 1) (own := Rn_B) 19 hx hb hml hown hts hK hN hP hS (ct_B_size l D ad cA w hJ y1 st _ h) mw_26 mw_27 mw_28 mw_29 mw_18 (by decide +kernel) ⟨Nat.le_of_ble_eq_true rfl, Nat.le_of_ble_eq_true rfl⟩ rfl rfl rfl rfl rfl hl.1 rfl (lv_room (Nat.le_of_ble_eq_true rfl)) dc_B_moveTail_7 ⟨Nat.zero_le _, Nat.zero_le _⟩ (fun r102 st101 H locs hP hS h => ?_)
      refine lv_icmp_ge (tgt := 43) hx hb dc_B_moveTail_10 (by decide) (fun c => ?_) (fun c => ?_)
      · have h := h.1 c
        refine lv_aload_n hx hb dc_B_moveTail_43 rfl (lv_at hl 0 rfl) ?_
        refine lv_iload_n hx hb dc_B_moveTail_44 rfl (lv_at hl 1 rfl) ?_
        refine w_cVi (y := yn_B_isBlock) (C := Rn_B) (index := 37) (n := 1) (own := Rn_B) 19 hx hb hml hown hts hK hN hP hS (ct_B_isBlock l D ad cA w hJ y1 st101 _ h) mw_14 mw_15 mw_16 mw_17 mw_18 (by decide +kernel) ⟨Nat.le_of_ble_eq_true rfl, Nat.le_of_ble_eq_true rfl⟩ rfl rfl rfl rfl rfl hl.1 rfl (lv_room (Nat.le_of_ble_eq_true rfl)) dc_B_moveTail_45 ⟨Nat.zero_le _, Nat.zero_le _⟩ (fun r104 st103 H locs hP hS h => ?_)
        refine lv_if_eq (tgt := 72) hx hb dc_B_moveTail_48 (by decide) (fun c => ?_) (fun c => ?_)
        · have h := h.1 c
          exact w_vret hx hb hr hlocks hP hS h dc_B_moveTail_72
        · have h := h.2 c
          refine lv_iload_n hx hb dc_B_moveTail_51 rfl (lv_at hl 2 rfl) ?_
          refine lv_if_lt (tgt := 72) hx hb dc_B_moveTail_52 (by decide) (fun c => ?_) (fun c => ?_)
          · have h := h.1 c
            exact w_vret hx hb hr hlocks hP hS h dc_B_moveTail_72
          · have h := h.2 c
            refine lv_iload_n hx hb dc_B_moveTail_55 rfl (lv_at hl 2 rfl) ?_
            refine lv_aload_n hx hb dc_B_moveTail_56 rfl (lv_at hl 0 rfl) ?_
            refine va_get (D := D) (ci := 1) (v := .ref (ad 2)) (C := Rn_B) (T := Fn_B) (N := 8) hx hb hts in_B hown hK hP 19 rfl rfl 3 (by decide) (hts _ mw_25) (fun _ h9 => h9) rfl dc_B_moveTail_57 ?_
            refine lv_iload_n hx hb dc_B_moveTail_60 rfl (lv_at hl 1 rfl) ?_
            refine w_ild 2 (by decide) hx hb hK hP h.1 dc_B_moveTail_61 ?_
            have h := h.2
            refine lv_icmp_ge (tgt := 72) hx hb dc_B_moveTail_62 (by decide) (fun c => ?_) (fun c => ?_)
            · have h := h.1 c
              exact w_vret hx hb hr hlocks hP hS h dc_B_moveTail_72
            · have h := h.2 c
              refine lv_aload_n hx hb dc_B_moveTail_65 rfl (lv_at hl 0 rfl) ?_
              refine va_get (D := D) (ci := 1) (v := .ref (ad 2)) (C := Rn_B) (T := Fn_B) (N := 8) hx hb hts in_B hown hK hP 19 rfl rfl 3 (by decide) (hts _ mw_25) (fun _ h9 => h9) rfl dc_B_moveTail_66 ?_
              refine lv_iload_n hx hb dc_B_moveTail_69 rfl (lv_at hl 1 rfl) ?_
              refine lv_iload_n hx hb dc_B_moveTail_70 rfl (lv_at hl 2 rfl) ?_
              refine w_ist 2 (by decide) hJ hx hb hK hP hS h.1 dc_B_moveTail_71 (fun H locs hP hS => ?_)
              obtain ⟨st105, est105⟩ : ∃ z : St_, z = ws_1 st103 2 (y1).toNatClampNeg y2 := ⟨_, rfl⟩
              rw [← est105] at hP
              have h := h.2 st105 est105
              exact w_vret hx hb hr hlocks hP hS h dc_B_moveTail_72
      · have h := h.2 c
        refine lv_aload_n hx hb dc_B_moveTail_13 rfl (lv_at hl 0 rfl) ?_
        refine lv_iload_n hx hb dc_B_moveTail_14 rfl (lv_at hl 3 rfl) ?_
        refine lv_aload_n hx hb dc_B_moveTail_15 rfl (lv_at hl 0 rfl) ?_
        refine lv_iload_n hx hb dc_B_moveTail_16 rfl (lv_at hl 3 rfl) ?_
        refine w_cVi (y := yn_B_size) (C := Rn_B) (index := 45) (n := 1) (own := Rn_B) 19 hx hb hml hown hts hK hN hP hS (ct_B_size l D ad cA w hJ y3 st101 _ h) mw_26 mw_27 mw_28 mw_29 mw_18 (by decide +kernel) ⟨Nat.le_of_ble_eq_true rfl, Nat.le_of_ble_eq_true rfl⟩ rfl rfl rfl rfl rfl hl.1 rfl (lv_room (Nat.le_of_ble_eq_true rfl)) dc_B_moveTail_17 ⟨Nat.zero_le _, Nat.zero_le _⟩ (fun r107 st106 H locs hP hS h => ?_)
        refine lv_aload_n hx hb dc_B_moveTail_20 rfl (lv_at hl 0 rfl) ?_
        refine lv_iload_n hx hb dc_B_moveTail_21 rfl (lv_at hl 1 rfl) ?_
        refine lv_iload hx hb dc_B_moveTail_22 (lv_at hl 4 rfl) ?_
        refine w_cVi (y := yn_B_key) (C := Rn_B) (index := 63) (n := 2) (own := Rn_B) 19 hx hb hml hown hts hK hN hP hS (ct_B_key l D ad cA w hJ y1 y4 st106 _ h) mw_43 mw_80 mw_45 mw_46 mw_18 (by decide +kernel) ⟨Nat.le_of_ble_eq_true rfl, Nat.le_of_ble_eq_true rfl⟩ rfl rfl rfl rfl rfl hl.1 rfl (lv_room (Nat.le_of_ble_eq_true rfl)) dc_B_moveTail_24 ⟨Nat.zero_le _, Nat.zero_le _⟩ (fun r109 st108 H locs hP hS h => ?_)
        refine lv_aload_n hx hb dc_B_moveTail_27 rfl (lv_at hl 0 rfl) ?_
        refine lv_iload_n hx hb dc_B_moveTail_28 rfl (lv_at hl 1 rfl) ?_
        refine lv_iload hx hb dc_B_moveTail_29 (lv_at hl 4 rfl) ?_
        refine w_cVi (y := yn_B_goal) (C := Rn_B) (index := 66) (n := 2) (own := Rn_B) 19 hx hb hml hown hts hK hN hP hS (ct_B_goal l D ad cA w hJ y1 y4 st108 _ h) mw_48 mw_81 mw_50 mw_51 mw_18 (by decide +kernel) ⟨Nat.le_of_ble_eq_true rfl, Nat.le_of_ble_eq_true rfl⟩ rfl rfl rfl rfl rfl hl.1 rfl (lv_room (Nat.le_of_ble_eq_true rfl)) dc_B_moveTail_31 ⟨Nat.zero_le _, Nat.zero_le _⟩ (fun r111 st110 H locs hP hS h => ?_)
        refine w_cVv (y := yn_B_insert) (C := Rn_B) (index := 69) (n := 4) (own := Rn_B) 19 hx hb hml hown hts hK hN hP hS (ct_B_insert l D ad cA w hJ y3 r107 r109 r111 st110 _ h) mw_86 mw_87 mw_88 mw_89 mw_18 (by decide +kernel) ⟨Nat.le_of_ble_eq_true rfl, Nat.le_of_ble_eq_true rfl⟩ rfl rfl rfl rfl rfl hl.1 rfl (lv_room (Nat.le_of_ble_eq_true rfl)) dc_B_moveTail_34 ⟨Nat.zero_le _, Nat.zero_le _⟩ (fun st112 H locs hP hS h => ?_)
        obtain ⟨x113, ex113⟩ : ∃ y : Int32, y = y4 + 1 := ⟨_, rfl⟩
        have h := h x113 ex113
        refine lv_iinc (v := x113) (lv' := [(4, .int x113), (0, .ref (ad 19)), (1, .int y1), (2, .int y2), (3, .int y3)]) hx hb dc_B_moveTail_37 hl (k := 4) rfl (by rw [ex113]; rfl) (by decide) rfl (fun ls hl => ?_)
        refine lv_goto (tgt := 3) hx hb dc_B_moveTail_40 (by decide) ?_
        exact ih y1 y2 y3 x113 st112 h _ _ hP hS ls (lv_sub hl [1, 2, 3, 4, 0] rfl)
  have hl := lv_entry ([.ref (ad 19), .int x1, .int x2, .int x3]) (n := 5) (Nat.le_of_ble_eq_true rfl)
  rw [lg_entry_eq]
  generalize (lg_sl ([.ref (ad 19), .int x1, .int x2, .int x3]) ++ List.replicate (5 - (lg_sl ([.ref (ad 19), .int x1, .int x2, .int x3])).length) Slot.unset).toArray = ls at hl ⊢
  have hl : lv_has ls 5 [(0, .ref (ad 19)), (1, .int x1), (2, .int x2), (3, .int x3)] := hl
  refine lv_iload_n hx hb dc_B_moveTail_0 rfl (lv_at hl 2 rfl) ?_
  refine lv_istore (lv' := [(4, .int x2), (0, .ref (ad 19)), (1, .int x1), (2, .int x2), (3, .int x3)]) hx hb dc_B_moveTail_1 hl (by decide) rfl (fun ls hl => ?_)
  obtain ⟨n, h⟩ := h
  exact Lp_3 n x1 x2 x3 x2 st h _ _ hP hS ls (lv_sub hl [1, 2, 3, 4, 0] rfl)
set_option maxHeartbeats 4000000 in
set_option maxRecDepth 100000 in
theorem ct_T_split (l : Launch) (D : va_G) (ad : Nat → Nat) (cA : Nat → ClassId) (w : Nat) (hJ : Jn_ ad) (x1 : Int32) (x2 : Int32) (st : St_) (post : St_ → Prop) (h : wp_T_split w x1 x2 st post) : Met l yn_T_split (Cond.code yn_T_split bc_T_split 5 none :: Wk_) rm_T_split (Pw_ D ad cA w st [.ref (ad 20), .int x1, .int x2]) (Qv_ D ad cA w post) 0 0 (Aw_ ad) := by
  refine Met.ofW (cc := bc_T_split) (maxL := 5) (ret := none) (by decide) rfl ?_
  intro p e s m args below meth c s₁ B hml hv
  obtain ⟨rfl, hP, hK, hN⟩ := hv
  have hx := B.exec
  have hb := B.bytes
  have hr := B.returns
  have hts : ∀ v ∈ Wk_, v.before [.ref (ad 20), .int x1, .int x2].toArray s = true := fun v hv => atoms_spec (ws := Cond.code yn_T_split bc_T_split 5 none :: Wk_) B.pre v (List.mem_cons_of_mem _ hv)
  have hown : s.vm.findClass Rn_T = some m.cls := findClass_of_methodNamed B.named
  have hlocks := B.notSynchronized
  have hS : va_S (Aw_ ad) s.heap s.heap [] := va_S.rf
  have hl := lv_entry ([.ref (ad 20), .int x1, .int x2]) (n := 5) (Nat.le_of_ble_eq_true rfl)
  rw [lg_entry_eq]
  generalize (lg_sl ([.ref (ad 20), .int x1, .int x2]) ++ List.replicate (5 - (lg_sl ([.ref (ad 20), .int x1, .int x2])).length) Slot.unset).toArray = ls at hl ⊢
  have hl : lv_has ls 5 [(0, .ref (ad 20)), (1, .int x1), (2, .int x2)] := hl
  refine lv_aload_n hx hb dc_T_split_0 rfl (lv_at hl 0 rfl) ?_
  refine va_get (D := D) (ci := 2) (v := .ref (ad 19)) (C := Rn_T) (T := Fn_T) (N := 3) hx hb hts in_T hown hK hP 20 rfl rfl 0 (by decide) (hts _ mw_13) (fun _ h9 => h9) rfl dc_T_split_1 ?_
  refine lv_iload_n hx hb dc_T_split_4 rfl (lv_at hl 1 rfl) ?_
  refine lv_iload_n hx hb dc_T_split_5 rfl (lv_at hl 2 rfl) ?_
  refine w_cVi (y := yn_B_goal) (C := Rn_B) (index := 35) (n := 2) (own := Rn_T) 19 hx hb hml hown hts hK hN hP hS (ct_B_goal l D ad cA w hJ x1 x2 st _ h) mw_48 mw_49 mw_50 mw_51 mw_18 (by decide +kernel) ⟨Nat.le_of_ble_eq_true rfl, Nat.le_of_ble_eq_true rfl⟩ rfl rfl rfl rfl rfl hl.1 rfl (lv_room (Nat.le_of_ble_eq_true rfl)) dc_T_split_6 ⟨Nat.zero_le _, Nat.zero_le _⟩ (fun r102 st101 H locs hP hS h => ?_)
  refine lv_istore_n (lv' := [(3, .int r102), (0, .ref (ad 20)), (1, .int x1), (2, .int x2)]) hx hb dc_T_split_9 rfl hl (by decide) rfl (fun ls hl => ?_)
  refine lv_aload_n hx hb dc_T_split_10 rfl (lv_at hl 1 rfl) ?_
  refine va_get (D := D) (ci := 2) (v := .ref (ad 19)) (C := Rn_T) (T := Fn_T) (N := 3) hx hb hts in_T hown hK hP 20 rfl rfl 0 (by decide) (hts _ mw_13) (fun _ h9 => h9) rfl dc_T_split_11 ?_
  refine lv_aload_n hx hb dc_T_split_14 rfl (lv_at hl 1 rfl) ?_
  refine va_get (D := D) (ci := 2) (v := .ref (ad 19)) (C := Rn_T) (T := Fn_T) (N := 3) hx hb hts in_T hown hK hP 20 rfl rfl 0 (by decide) (hts _ mw_13) (fun _ h9 => h9) rfl dc_T_split_15 ?_
  refine lv_iload_n hx hb dc_T_split_18 rfl (lv_at hl 0 rfl) ?_
  refine w_cVi (y := yn_B_level) (C := Rn_B) (index := 26) (n := 1) (own := Rn_T) 19 hx hb hml hown hts hK hN hP hS (ct_B_level l D ad cA w hJ r102 st101 _ h) mw_20 mw_21 mw_22 mw_23 mw_18 (by decide +kernel) ⟨Nat.le_of_ble_eq_true rfl, Nat.le_of_ble_eq_true rfl⟩ rfl rfl rfl rfl rfl hl.1 rfl (lv_room (Nat.le_of_ble_eq_true rfl)) dc_T_split_19 ⟨Nat.zero_le _, Nat.zero_le _⟩ (fun r104 st103 H locs hP hS h => ?_)
  refine w_cVi (y := yn_B_take) (C := Rn_B) (index := 56) (n := 1) (own := Rn_T) 19 hx hb hml hown hts hK hN hP hS (ct_B_take l D ad cA w hJ r104 st103 _ h) mw_72 mw_116 mw_74 mw_75 mw_18 (by decide +kernel) ⟨Nat.le_of_ble_eq_true rfl, Nat.le_of_ble_eq_true rfl⟩ rfl rfl rfl rfl rfl hl.1 rfl (lv_room (Nat.le_of_ble_eq_true rfl)) dc_T_split_22 ⟨Nat.zero_le _, Nat.zero_le _⟩ (fun r106 st105 H locs hP hS h => ?_)
  refine lv_istore (lv' := [(4, .int r106), (3, .int r102), (0, .ref (ad 20)), (1, .int x1), (2, .int x2)]) hx hb dc_T_split_25 hl (by decide) rfl (fun ls hl => ?_)
  refine lv_aload_n hx hb dc_T_split_27 rfl (lv_at hl 2 rfl) ?_
  refine va_get (D := D) (ci := 2) (v := .ref (ad 19)) (C := Rn_T) (T := Fn_T) (N := 3) hx hb hts in_T hown hK hP 20 rfl rfl 0 (by decide) (hts _ mw_13) (fun _ h9 => h9) rfl dc_T_split_28 ?_
  refine lv_iload_n hx hb dc_T_split_31 rfl (lv_at hl 1 rfl) ?_
  refine lv_aload_n hx hb dc_T_split_32 rfl (lv_at hl 2 rfl) ?_
  refine va_get (D := D) (ci := 2) (v := .int (nI (w / 2))) (C := Rn_T) (T := Fn_T) (N := 3) hx hb hts in_T hown hK hP 20 rfl rfl 2 (by decide) (hts _ mw_117) (fun _ h9 => h9) rfl dc_T_split_33 ?_
  refine lv_iload hx hb dc_T_split_36 (lv_at hl 0 rfl) ?_
  refine w_cVv (y := yn_B_moveTail) (C := Rn_B) (index := 89) (n := 3) (own := Rn_T) 19 hx hb hml hown hts hK hN hP hS (ct_B_moveTail l D ad cA w hJ r102 (nI (w / 2)) r106 st105 _ h) mw_118 mw_119 mw_120 mw_121 mw_18 (by decide +kernel) ⟨Nat.le_of_ble_eq_true rfl, Nat.le_of_ble_eq_true rfl⟩ rfl rfl rfl rfl rfl hl.1 rfl (lv_room (Nat.le_of_ble_eq_true rfl)) dc_T_split_38 ⟨Nat.zero_le _, Nat.zero_le _⟩ (fun st107 H locs hP hS h => ?_)
  refine lv_aload_n hx hb dc_T_split_41 rfl (lv_at hl 2 rfl) ?_
  refine va_get (D := D) (ci := 2) (v := .ref (ad 19)) (C := Rn_T) (T := Fn_T) (N := 3) hx hb hts in_T hown hK hP 20 rfl rfl 0 (by decide) (hts _ mw_13) (fun _ h9 => h9) rfl dc_T_split_42 ?_
  refine lv_iload_n hx hb dc_T_split_45 rfl (lv_at hl 3 rfl) ?_
  refine lv_iload_n hx hb dc_T_split_46 rfl (lv_at hl 4 rfl) ?_
  refine lv_iconst (v := 1) hx hb dc_T_split_47 (by decide) ?_
  refine lv_iadd hx hb dc_T_split_48 ?_
  refine lv_aload_n hx hb dc_T_split_49 rfl (lv_at hl 2 rfl) ?_
  refine va_get (D := D) (ci := 2) (v := .ref (ad 19)) (C := Rn_T) (T := Fn_T) (N := 3) hx hb hts in_T hown hK hP 20 rfl rfl 0 (by decide) (hts _ mw_13) (fun _ h9 => h9) rfl dc_T_split_50 ?_
  refine lv_iload hx hb dc_T_split_53 (lv_at hl 0 rfl) ?_
  refine lv_iconst (v := 0) hx hb dc_T_split_55 (by decide) ?_
  refine w_cVi (y := yn_B_key) (C := Rn_B) (index := 41) (n := 2) (own := Rn_T) 19 hx hb hml hown hts hK hN hP hS (ct_B_key l D ad cA w hJ r106 0 st107 _ h) mw_43 mw_44 mw_45 mw_46 mw_18 (by decide +kernel) ⟨Nat.le_of_ble_eq_true rfl, Nat.le_of_ble_eq_true rfl⟩ rfl rfl rfl rfl rfl hl.1 rfl (lv_room (Nat.le_of_ble_eq_true rfl)) dc_T_split_56 ⟨Nat.zero_le _, Nat.zero_le _⟩ (fun r109 st108 H locs hP hS h => ?_)
  refine lv_iload hx hb dc_T_split_59 (lv_at hl 0 rfl) ?_
  refine w_cVv (y := yn_B_insert) (C := Rn_B) (index := 86) (n := 4) (own := Rn_T) 19 hx hb hml hown hts hK hN hP hS (ct_B_insert l D ad cA w hJ x1 (x2 + 1) r109 r106 st108 _ h) mw_86 mw_122 mw_88 mw_89 mw_18 (by decide +kernel) ⟨Nat.le_of_ble_eq_true rfl, Nat.le_of_ble_eq_true rfl⟩ rfl rfl rfl rfl rfl hl.1 rfl (lv_room (Nat.le_of_ble_eq_true rfl)) dc_T_split_61 ⟨Nat.zero_le _, Nat.zero_le _⟩ (fun st110 H locs hP hS h => ?_)
  exact w_vret hx hb hr hlocks hP hS h dc_T_split_64
set_option maxHeartbeats 4000000 in
set_option maxRecDepth 100000 in
theorem ct_T_putInLeaf (l : Launch) (D : va_G) (ad : Nat → Nat) (cA : Nat → ClassId) (w : Nat) (hJ : Jn_ ad) (x1 : Int32) (x2 : Int32) (x3 : Int32) (st : St_) (post : St_ → Prop) (h : wp_T_putInLeaf w x1 x2 x3 st post) : Met l yn_T_putInLeaf (Cond.code yn_T_putInLeaf bc_T_putInLeaf 5 none :: Wk_) rm_T_putInLeaf (Pw_ D ad cA w st [.ref (ad 20), .int x1, .int x2, .int x3]) (Qv_ D ad cA w post) 0 0 (Aw_ ad) := by
  refine Met.ofW (cc := bc_T_putInLeaf) (maxL := 5) (ret := none) (by decide) rfl ?_
  intro p e s m args below meth c s₁ B hml hv
  obtain ⟨rfl, hP, hK, hN⟩ := hv
  have hx := B.exec
  have hb := B.bytes
  have hr := B.returns
  have hts : ∀ v ∈ Wk_, v.before [.ref (ad 20), .int x1, .int x2, .int x3].toArray s = true := fun v hv => atoms_spec (ws := Cond.code yn_T_putInLeaf bc_T_putInLeaf 5 none :: Wk_) B.pre v (List.mem_cons_of_mem _ hv)
  have hown : s.vm.findClass Rn_T = some m.cls := findClass_of_methodNamed B.named
  have hlocks := B.notSynchronized
  have hS : va_S (Aw_ ad) s.heap s.heap [] := va_S.rf
  have hl := lv_entry ([.ref (ad 20), .int x1, .int x2, .int x3]) (n := 5) (Nat.le_of_ble_eq_true rfl)
  rw [lg_entry_eq]
  generalize (lg_sl ([.ref (ad 20), .int x1, .int x2, .int x3]) ++ List.replicate (5 - (lg_sl ([.ref (ad 20), .int x1, .int x2, .int x3])).length) Slot.unset).toArray = ls at hl ⊢
  have hl : lv_has ls 5 [(0, .ref (ad 20)), (1, .int x1), (2, .int x2), (3, .int x3)] := hl
  refine lv_aload_n hx hb dc_T_putInLeaf_0 rfl (lv_at hl 0 rfl) ?_
  refine va_get (D := D) (ci := 2) (v := .ref (ad 19)) (C := Rn_T) (T := Fn_T) (N := 3) hx hb hts in_T hown hK hP 20 rfl rfl 0 (by decide) (hts _ mw_13) (fun _ h9 => h9) rfl dc_T_putInLeaf_1 ?_
  refine lv_iload_n hx hb dc_T_putInLeaf_4 rfl (lv_at hl 1 rfl) ?_
  refine lv_iload_n hx hb dc_T_putInLeaf_5 rfl (lv_at hl 2 rfl) ?_
  refine w_cVi (y := yn_B_slotOf) (C := Rn_B) (index := 38) (n := 2) (own := Rn_T) 19 hx hb hml hown hts hK hN hP hS (ct_B_slotOf l D ad cA w hJ x1 x2 st _ h) mw_35 mw_36 mw_37 mw_38 mw_18 (by decide +kernel) ⟨Nat.le_of_ble_eq_true rfl, Nat.le_of_ble_eq_true rfl⟩ rfl rfl rfl rfl rfl hl.1 rfl (lv_room (Nat.le_of_ble_eq_true rfl)) dc_T_putInLeaf_6 ⟨Nat.zero_le _, Nat.zero_le _⟩ (fun r102 st101 H locs hP hS h => ?_)
  refine lv_istore (lv' := [(4, .int r102), (0, .ref (ad 20)), (1, .int x1), (2, .int x2), (3, .int x3)]) hx hb dc_T_putInLeaf_9 hl (by decide) rfl (fun ls hl => ?_)
  refine lv_aload_n hx hb dc_T_putInLeaf_11 rfl (lv_at hl 1 rfl) ?_
  refine va_get (D := D) (ci := 2) (v := .ref (ad 19)) (C := Rn_T) (T := Fn_T) (N := 3) hx hb hts in_T hown hK hP 20 rfl rfl 0 (by decide) (hts _ mw_13) (fun _ h9 => h9) rfl dc_T_putInLeaf_12 ?_
  refine lv_iload_n hx hb dc_T_putInLeaf_15 rfl (lv_at hl 2 rfl) ?_
  refine lv_iload hx hb dc_T_putInLeaf_16 (lv_at hl 0 rfl) ?_
  refine w_cVi (y := yn_B_key) (C := Rn_B) (index := 41) (n := 2) (own := Rn_T) 19 hx hb hml hown hts hK hN hP hS (ct_B_key l D ad cA w hJ x1 r102 st101 _ h) mw_43 mw_44 mw_45 mw_46 mw_18 (by decide +kernel) ⟨Nat.le_of_ble_eq_true rfl, Nat.le_of_ble_eq_true rfl⟩ rfl rfl rfl rfl rfl hl.1 rfl (lv_room (Nat.le_of_ble_eq_true rfl)) dc_T_putInLeaf_18 ⟨Nat.zero_le _, Nat.zero_le _⟩ (fun r104 st103 H locs hP hS h => ?_)
  refine lv_iload_n hx hb dc_T_putInLeaf_21 rfl (lv_at hl 3 rfl) ?_
  refine lv_icmp_ne (tgt := 39) hx hb dc_T_putInLeaf_22 (by decide) (fun c => ?_) (fun c => ?_)
  · have h := h.1 c
    refine lv_aload_n hx hb dc_T_putInLeaf_39 rfl (lv_at hl 1 rfl) ?_
    refine va_get (D := D) (ci := 2) (v := .ref (ad 19)) (C := Rn_T) (T := Fn_T) (N := 3) hx hb hts in_T hown hK hP 20 rfl rfl 0 (by decide) (hts _ mw_13) (fun _ h9 => h9) rfl dc_T_putInLeaf_40 ?_
    refine lv_iload_n hx hb dc_T_putInLeaf_43 rfl (lv_at hl 2 rfl) ?_
    refine lv_iload hx hb dc_T_putInLeaf_44 (lv_at hl 0 rfl) ?_
    refine lv_iconst (v := 1) hx hb dc_T_putInLeaf_46 (by decide) ?_
    refine lv_iadd hx hb dc_T_putInLeaf_47 ?_
    refine lv_iload_n hx hb dc_T_putInLeaf_48 rfl (lv_at hl 3 rfl) ?_
    refine lv_iload_n hx hb dc_T_putInLeaf_49 rfl (lv_at hl 4 rfl) ?_
    refine w_cVv (y := yn_B_insert) (C := Rn_B) (index := 86) (n := 4) (own := Rn_T) 19 hx hb hml hown hts hK hN hP hS (ct_B_insert l D ad cA w hJ x1 (r102 + 1) x2 x3 st103 _ h) mw_86 mw_122 mw_88 mw_89 mw_18 (by decide +kernel) ⟨Nat.le_of_ble_eq_true rfl, Nat.le_of_ble_eq_true rfl⟩ rfl rfl rfl rfl rfl hl.1 rfl (lv_room (Nat.le_of_ble_eq_true rfl)) dc_T_putInLeaf_50 ⟨Nat.zero_le _, Nat.zero_le _⟩ (fun st105 H locs hP hS h => ?_)
    exact w_vret hx hb hr hlocks hP hS h dc_T_putInLeaf_53
  · have h := h.2 c
    refine lv_aload_n hx hb dc_T_putInLeaf_25 rfl (lv_at hl 1 rfl) ?_
    refine va_get (D := D) (ci := 2) (v := .ref (ad 19)) (C := Rn_T) (T := Fn_T) (N := 3) hx hb hts in_T hown hK hP 20 rfl rfl 0 (by decide) (hts _ mw_13) (fun _ h9 => h9) rfl dc_T_putInLeaf_26 ?_
    refine lv_iload_n hx hb dc_T_putInLeaf_29 rfl (lv_at hl 2 rfl) ?_
    refine lv_iload hx hb dc_T_putInLeaf_30 (lv_at hl 0 rfl) ?_
    refine lv_iload_n hx hb dc_T_putInLeaf_32 rfl (lv_at hl 4 rfl) ?_
    refine w_cVv (y := yn_B_setGoal) (C := Rn_B) (index := 83) (n := 3) (own := Rn_T) 19 hx hb hml hown hts hK hN hP hS (ct_B_setGoal l D ad cA w hJ x1 r102 x3 st103 _ h) mw_98 mw_99 mw_100 mw_101 mw_18 (by decide +kernel) ⟨Nat.le_of_ble_eq_true rfl, Nat.le_of_ble_eq_true rfl⟩ rfl rfl rfl rfl rfl hl.1 rfl (lv_room (Nat.le_of_ble_eq_true rfl)) dc_T_putInLeaf_33 ⟨Nat.zero_le _, Nat.zero_le _⟩ (fun st106 H locs hP hS h => ?_)
    refine lv_goto (tgt := 53) hx hb dc_T_putInLeaf_36 (by decide) ?_
    exact w_vret hx hb hr hlocks hP hS h dc_T_putInLeaf_53
set_option maxHeartbeats 4000000 in
set_option maxRecDepth 100000 in
theorem ct_T_putBelow (l : Launch) (D : va_G) (ad : Nat → Nat) (cA : Nat → ClassId) (w : Nat) (hJ : Jn_ ad) (d : Nat) : ∀ (x1 : Int32) (x2 : Int32) (x3 : Int32) (x4 : Int32) (st : St_) (post : St_ → Prop), wp_T_putBelow w d x1 x2 x3 x4 st post → Met l yn_T_putBelow (Cond.code yn_T_putBelow bc_T_putBelow 7 none :: Wk_) (rm_T_putBelow d) (Pw_ D ad cA w st [.ref (ad 20), .int x1, .int x2, .int x3, .int x4]) (Qv_ D ad cA w post) 0 0 (Aw_ ad) := by
  induction d with
  | zero =>
    intro x1 x2 x3 x4 st post h
    exact h.elim
  | succ d ihd =>
    intro x1 x2 x3 x4 st post h
    refine Met.ofW (cc := bc_T_putBelow) (maxL := 7) (ret := none) (by decide) rfl ?_
    intro p e s m args below meth c s₁ B hml hv
    obtain ⟨rfl, hP, hK, hN⟩ := hv
    have hx := B.exec
    have hb := B.bytes
    have hr := B.returns
    have hts : ∀ v ∈ Wk_, v.before [.ref (ad 20), .int x1, .int x2, .int x3, .int x4].toArray s = true := fun v hv => atoms_spec (ws := Cond.code yn_T_putBelow bc_T_putBelow 7 none :: Wk_) B.pre v (List.mem_cons_of_mem _ hv)
    have hown : s.vm.findClass Rn_T = some m.cls := findClass_of_methodNamed B.named
    have hlocks := B.notSynchronized
    have hS : va_S (Aw_ ad) s.heap s.heap [] := va_S.rf
    have hl := lv_entry ([.ref (ad 20), .int x1, .int x2, .int x3, .int x4]) (n := 7) (Nat.le_of_ble_eq_true rfl)
    rw [lg_entry_eq]
    generalize (lg_sl ([.ref (ad 20), .int x1, .int x2, .int x3, .int x4]) ++ List.replicate (7 - (lg_sl ([.ref (ad 20), .int x1, .int x2, .int x3, .int x4])).length) Slot.unset).toArray = ls at hl ⊢
    have hl : lv_has ls 7 [(0, .ref (ad 20)), (1, .int x1), (2, .int x2), (3, .int x3), (4, .int x4)] := hl
    refine lv_iload_n hx hb dc_T_putBelow_0 rfl (lv_at hl 2 rfl) ?_
    refine lv_bipush (v := 16) hx hb dc_T_putBelow_1 (by decide) ?_
    refine lv_icmp_le (tgt := 7) hx hb dc_T_putBelow_3 (by decide) (fun c => ?_) (fun c => ?_)
    · have h := h.1 c
      refine lv_iload_n hx hb dc_T_putBelow_7 rfl (lv_at hl 2 rfl) ?_
      refine lv_if_gt (tgt := 20) hx hb dc_T_putBelow_8 (by decide) (fun c => ?_) (fun c => ?_)
      · have h := h.1 c
        refine lv_aload_n hx hb dc_T_putBelow_20 rfl (lv_at hl 0 rfl) ?_
        refine lv_iload_n hx hb dc_T_putBelow_21 rfl (lv_at hl 1 rfl) ?_
        refine lv_iload_n hx hb dc_T_putBelow_22 rfl (lv_at hl 3 rfl) ?_
        refine w_cVi (y := yn_T_slotToward) (C := Rn_T) (index := 31) (n := 2) (own := Rn_T) 20 hx hb hml hown hts hK hN hP hS (ct_T_slotToward l D ad cA w hJ x1 x3 st _ h) mw_55 mw_56 mw_57 mw_58 mw_59 (by decide +kernel) (by refine ⟨?_, ?_⟩ <;> (try dsimp only [headSpec]) <;> omega) rfl rfl rfl rfl rfl hl.1 rfl (lv_room (Nat.le_of_ble_eq_true rfl)) dc_T_putBelow_23 ⟨Nat.zero_le _, Nat.zero_le _⟩ (fun r102 st101 H locs hP hS h => ?_)
        refine lv_istore (lv' := [(5, .int r102), (0, .ref (ad 20)), (1, .int x1), (2, .int x2), (3, .int x3), (4, .int x4)]) hx hb dc_T_putBelow_26 hl (by decide) rfl (fun ls hl => ?_)
        refine lv_aload_n hx hb dc_T_putBelow_28 rfl (lv_at hl 1 rfl) ?_
        refine lv_iload_n hx hb dc_T_putBelow_29 rfl (lv_at hl 2 rfl) ?_
        refine lv_iload hx hb dc_T_putBelow_30 (lv_at hl 0 rfl) ?_
        refine w_cVi (y := yn_T_ownedChild) (C := Rn_T) (index := 73) (n := 2) (own := Rn_T) 20 hx hb hml hown hts hK hN hP hS (ct_T_ownedChild l D ad cA w hJ x1 r102 st101 _ h) mw_102 mw_103 mw_104 mw_105 mw_59 (by decide +kernel) (by refine ⟨?_, ?_⟩ <;> (try dsimp only [headSpec]) <;> omega) rfl rfl rfl rfl rfl hl.1 rfl (lv_room (Nat.le_of_ble_eq_true rfl)) dc_T_putBelow_32 ⟨Nat.zero_le _, Nat.zero_le _⟩ (fun r104 st103 H locs hP hS h => ?_)
        refine lv_istore (lv' := [(6, .int r104), (5, .int r102), (0, .ref (ad 20)), (1, .int x1), (2, .int x2), (3, .int x3), (4, .int x4)]) hx hb dc_T_putBelow_35 hl (by decide) rfl (fun ls hl => ?_)
        refine lv_aload_n hx hb dc_T_putBelow_37 rfl (lv_at hl 2 rfl) ?_
        refine lv_iload hx hb dc_T_putBelow_38 (lv_at hl 0 rfl) ?_
        refine lv_iload_n hx hb dc_T_putBelow_40 rfl (lv_at hl 4 rfl) ?_
        refine lv_iconst (v := 1) hx hb dc_T_putBelow_41 (by decide) ?_
        refine lv_isub hx hb dc_T_putBelow_42 ?_
        refine lv_iload_n hx hb dc_T_putBelow_43 rfl (lv_at hl 5 rfl) ?_
        refine lv_iload hx hb dc_T_putBelow_44 (lv_at hl 6 rfl) ?_
        refine w_cVv (y := yn_T_putBelow) (C := Rn_T) (index := 62) (n := 4) (own := Rn_T) 20 hx hb hml hown hts hK hN hP hS (ihd r104 (x2 - 1) x3 x4 st103 _ h) mw_106 mw_107 mw_108 mw_109 mw_59 (by decide +kernel) (by refine ⟨?_, ?_⟩ <;> (try dsimp only [headSpec]) <;> omega) rfl rfl rfl rfl rfl hl.1 rfl (lv_room (Nat.le_of_ble_eq_true rfl)) dc_T_putBelow_46 ⟨Nat.zero_le _, Nat.zero_le _⟩ (fun st105 H locs hP hS h => ?_)
        refine lv_aload_n hx hb dc_T_putBelow_49 rfl (lv_at hl 2 rfl) ?_
        refine va_get (D := D) (ci := 2) (v := .ref (ad 19)) (C := Rn_T) (T := Fn_T) (N := 3) hx hb hts in_T hown hK hP 20 rfl rfl 0 (by decide) (hts _ mw_13) (fun _ h9 => h9) rfl dc_T_putBelow_50 ?_
        refine lv_iload_n hx hb dc_T_putBelow_53 rfl (lv_at hl 3 rfl) ?_
        refine lv_iload hx hb dc_T_putBelow_54 (lv_at hl 1 rfl) ?_
        refine lv_aload_n hx hb dc_T_putBelow_56 rfl (lv_at hl 2 rfl) ?_
        refine va_get (D := D) (ci := 2) (v := .ref (ad 19)) (C := Rn_T) (T := Fn_T) (N := 3) hx hb hts in_T hown hK hP 20 rfl rfl 0 (by decide) (hts _ mw_13) (fun _ h9 => h9) rfl dc_T_putBelow_57 ?_
        refine lv_iload hx hb dc_T_putBelow_60 (lv_at hl 0 rfl) ?_
        refine lv_iconst (v := 0) hx hb dc_T_putBelow_62 (by decide) ?_
        refine w_cVi (y := yn_B_key) (C := Rn_B) (index := 41) (n := 2) (own := Rn_T) 19 hx hb hml hown hts hK hN hP hS (ct_B_key l D ad cA w hJ r104 0 st105 _ h) mw_43 mw_44 mw_45 mw_46 mw_18 (by decide +kernel) (by refine ⟨?_, ?_⟩ <;> (try dsimp only [headSpec]) <;> omega) rfl rfl rfl rfl rfl hl.1 rfl (lv_room (Nat.le_of_ble_eq_true rfl)) dc_T_putBelow_63 ⟨Nat.zero_le _, Nat.zero_le _⟩ (fun r107 st106 H locs hP hS h => ?_)
        refine w_cVv (y := yn_B_setKey) (C := Rn_B) (index := 76) (n := 3) (own := Rn_T) 19 hx hb hml hown hts hK hN hP hS (ct_B_setKey l D ad cA w hJ x1 r102 r107 st106 _ h) mw_110 mw_111 mw_112 mw_113 mw_18 (by decide +kernel) (by refine ⟨?_, ?_⟩ <;> (try dsimp only [headSpec]) <;> omega) rfl rfl rfl rfl rfl hl.1 rfl (lv_room (Nat.le_of_ble_eq_true rfl)) dc_T_putBelow_66 ⟨Nat.zero_le _, Nat.zero_le _⟩ (fun st108 H locs hP hS h => ?_)
        refine lv_aload_n hx hb dc_T_putBelow_69 rfl (lv_at hl 2 rfl) ?_
        refine va_get (D := D) (ci := 2) (v := .ref (ad 19)) (C := Rn_T) (T := Fn_T) (N := 3) hx hb hts in_T hown hK hP 20 rfl rfl 0 (by decide) (hts _ mw_13) (fun _ h9 => h9) rfl dc_T_putBelow_70 ?_
        refine lv_iload hx hb dc_T_putBelow_73 (lv_at hl 0 rfl) ?_
        refine w_cVi (y := yn_B_size) (C := Rn_B) (index := 48) (n := 1) (own := Rn_T) 19 hx hb hml hown hts hK hN hP hS (ct_B_size l D ad cA w hJ r104 st108 _ h) mw_26 mw_114 mw_28 mw_29 mw_18 (by decide +kernel) (by refine ⟨?_, ?_⟩ <;> (try dsimp only [headSpec]) <;> omega) rfl rfl rfl rfl rfl hl.1 rfl (lv_room (Nat.le_of_ble_eq_true rfl)) dc_T_putBelow_75 ⟨Nat.zero_le _, Nat.zero_le _⟩ (fun r110 st109 H locs hP hS h => ?_)
        refine lv_aload_n hx hb dc_T_putBelow_78 rfl (lv_at hl 2 rfl) ?_
        refine va_get (D := D) (ci := 2) (v := .int (nI (w - 1))) (C := Rn_T) (T := Fn_T) (N := 3) hx hb hts in_T hown hK hP 20 rfl rfl 1 (by decide) (hts _ mw_115) (fun _ h9 => h9) rfl dc_T_putBelow_79 ?_
        refine lv_icmp_le (tgt := 92) hx hb dc_T_putBelow_82 (by decide) (fun c => ?_) (fun c => ?_)
        · have h := h.1 c
          exact w_vret hx hb hr hlocks hP hS h dc_T_putBelow_92
        · have h := h.2 c
          refine lv_aload_n hx hb dc_T_putBelow_85 rfl (lv_at hl 2 rfl) ?_
          refine lv_iload_n hx hb dc_T_putBelow_86 rfl (lv_at hl 3 rfl) ?_
          refine lv_iload hx hb dc_T_putBelow_87 (lv_at hl 1 rfl) ?_
          refine w_cVv (y := yn_T_split) (C := Rn_T) (index := 79) (n := 2) (own := Rn_T) 20 hx hb hml hown hts hK hN hP hS (ct_T_split l D ad cA w hJ x1 r102 st109 _ h) mw_123 mw_124 mw_125 mw_126 mw_59 (by decide +kernel) (by refine ⟨?_, ?_⟩ <;> (try dsimp only [headSpec]) <;> omega) rfl rfl rfl rfl rfl hl.1 rfl (lv_room (Nat.le_of_ble_eq_true rfl)) dc_T_putBelow_89 ⟨Nat.zero_le _, Nat.zero_le _⟩ (fun st111 H locs hP hS h => ?_)
          exact w_vret hx hb hr hlocks hP hS h dc_T_putBelow_92
      · have h := h.2 c
        refine lv_aload_n hx hb dc_T_putBelow_11 rfl (lv_at hl 0 rfl) ?_
        refine lv_iload_n hx hb dc_T_putBelow_12 rfl (lv_at hl 1 rfl) ?_
        refine lv_iload_n hx hb dc_T_putBelow_13 rfl (lv_at hl 3 rfl) ?_
        refine lv_iload hx hb dc_T_putBelow_14 (lv_at hl 4 rfl) ?_
        refine w_cVv (y := yn_T_putInLeaf) (C := Rn_T) (index := 69) (n := 3) (own := Rn_T) 20 hx hb hml hown hts hK hN hP hS (ct_T_putInLeaf l D ad cA w hJ x1 x3 x4 st _ h) mw_127 mw_128 mw_129 mw_130 mw_59 (by decide +kernel) (by refine ⟨?_, ?_⟩ <;> (try dsimp only [headSpec]) <;> omega) rfl rfl rfl rfl rfl hl.1 rfl (lv_room (Nat.le_of_ble_eq_true rfl)) dc_T_putBelow_16 ⟨Nat.zero_le _, Nat.zero_le _⟩ (fun st112 H locs hP hS h => ?_)
        exact w_vret hx hb hr hlocks hP hS h dc_T_putBelow_19
    · have h := h.2 c
      exact w_vret hx hb hr hlocks hP hS h dc_T_putBelow_6
set_option maxHeartbeats 4000000 in
set_option maxRecDepth 100000 in
theorem ct_T_grown (l : Launch) (D : va_G) (ad : Nat → Nat) (cA : Nat → ClassId) (w : Nat) (hJ : Jn_ ad) (x1 : Int32) (st : St_) (post : Int32 → St_ → Prop) (h : wp_T_grown w x1 st post) : Met l yn_T_grown (Cond.code yn_T_grown bc_T_grown 3 (some .int) :: Wk_) rm_T_grown (Pw_ D ad cA w st [.ref (ad 20), .int x1]) (Qi_ D ad cA w post) 0 0 (Aw_ ad) := by
  refine Met.ofW (cc := bc_T_grown) (maxL := 3) (ret := (some .int)) (by decide) rfl ?_
  intro p e s m args below meth c s₁ B hml hv
  obtain ⟨rfl, hP, hK, hN⟩ := hv
  have hx := B.exec
  have hb := B.bytes
  have hr := B.returns
  have hts : ∀ v ∈ Wk_, v.before [.ref (ad 20), .int x1].toArray s = true := fun v hv => atoms_spec (ws := Cond.code yn_T_grown bc_T_grown 3 (some .int) :: Wk_) B.pre v (List.mem_cons_of_mem _ hv)
  have hown : s.vm.findClass Rn_T = some m.cls := findClass_of_methodNamed B.named
  have hlocks := B.notSynchronized
  have hS : va_S (Aw_ ad) s.heap s.heap [] := va_S.rf
  have hl := lv_entry ([.ref (ad 20), .int x1]) (n := 3) (Nat.le_of_ble_eq_true rfl)
  rw [lg_entry_eq]
  generalize (lg_sl ([.ref (ad 20), .int x1]) ++ List.replicate (3 - (lg_sl ([.ref (ad 20), .int x1])).length) Slot.unset).toArray = ls at hl ⊢
  have hl : lv_has ls 3 [(0, .ref (ad 20)), (1, .int x1)] := hl
  refine lv_aload_n hx hb dc_T_grown_0 rfl (lv_at hl 0 rfl) ?_
  refine va_get (D := D) (ci := 2) (v := .ref (ad 19)) (C := Rn_T) (T := Fn_T) (N := 3) hx hb hts in_T hown hK hP 20 rfl rfl 0 (by decide) (hts _ mw_13) (fun _ h9 => h9) rfl dc_T_grown_1 ?_
  refine lv_aload_n hx hb dc_T_grown_4 rfl (lv_at hl 0 rfl) ?_
  refine va_get (D := D) (ci := 2) (v := .ref (ad 19)) (C := Rn_T) (T := Fn_T) (N := 3) hx hb hts in_T hown hK hP 20 rfl rfl 0 (by decide) (hts _ mw_13) (fun _ h9 => h9) rfl dc_T_grown_5 ?_
  refine lv_iload_n hx hb dc_T_grown_8 rfl (lv_at hl 1 rfl) ?_
  refine w_cVi (y := yn_B_level) (C := Rn_B) (index := 26) (n := 1) (own := Rn_T) 19 hx hb hml hown hts hK hN hP hS (ct_B_level l D ad cA w hJ x1 st _ h) mw_20 mw_21 mw_22 mw_23 mw_18 (by decide +kernel) ⟨Nat.le_of_ble_eq_true rfl, Nat.le_of_ble_eq_true rfl⟩ rfl rfl rfl rfl rfl hl.1 rfl (lv_room (Nat.le_of_ble_eq_true rfl)) dc_T_grown_9 ⟨Nat.zero_le _, Nat.zero_le _⟩ (fun r102 st101 H locs hP hS h => ?_)
  refine lv_iconst (v := 1) hx hb dc_T_grown_12 (by decide) ?_
  refine lv_iadd hx hb dc_T_grown_13 ?_
  refine w_cVi (y := yn_B_take) (C := Rn_B) (index := 56) (n := 1) (own := Rn_T) 19 hx hb hml hown hts hK hN hP hS (ct_B_take l D ad cA w hJ (r102 + 1) st101 _ h) mw_72 mw_116 mw_74 mw_75 mw_18 (by decide +kernel) ⟨Nat.le_of_ble_eq_true rfl, Nat.le_of_ble_eq_true rfl⟩ rfl rfl rfl rfl rfl hl.1 rfl (lv_room (Nat.le_of_ble_eq_true rfl)) dc_T_grown_14 ⟨Nat.zero_le _, Nat.zero_le _⟩ (fun r104 st103 H locs hP hS h => ?_)
  refine lv_istore_n (lv' := [(2, .int r104), (0, .ref (ad 20)), (1, .int x1)]) hx hb dc_T_grown_17 rfl hl (by decide) rfl (fun ls hl => ?_)
  refine lv_aload_n hx hb dc_T_grown_18 rfl (lv_at hl 1 rfl) ?_
  refine va_get (D := D) (ci := 2) (v := .ref (ad 19)) (C := Rn_T) (T := Fn_T) (N := 3) hx hb hts in_T hown hK hP 20 rfl rfl 0 (by decide) (hts _ mw_13) (fun _ h9 => h9) rfl dc_T_grown_19 ?_
  refine lv_iload_n hx hb dc_T_grown_22 rfl (lv_at hl 0 rfl) ?_
  refine lv_iconst (v := 0) hx hb dc_T_grown_23 (by decide) ?_
  refine lv_aload_n hx hb dc_T_grown_24 rfl (lv_at hl 1 rfl) ?_
  refine va_get (D := D) (ci := 2) (v := .ref (ad 19)) (C := Rn_T) (T := Fn_T) (N := 3) hx hb hts in_T hown hK hP 20 rfl rfl 0 (by decide) (hts _ mw_13) (fun _ h9 => h9) rfl dc_T_grown_25 ?_
  refine lv_iload_n hx hb dc_T_grown_28 rfl (lv_at hl 2 rfl) ?_
  refine lv_iconst (v := 0) hx hb dc_T_grown_29 (by decide) ?_
  refine w_cVi (y := yn_B_key) (C := Rn_B) (index := 41) (n := 2) (own := Rn_T) 19 hx hb hml hown hts hK hN hP hS (ct_B_key l D ad cA w hJ x1 0 st103 _ h) mw_43 mw_44 mw_45 mw_46 mw_18 (by decide +kernel) ⟨Nat.le_of_ble_eq_true rfl, Nat.le_of_ble_eq_true rfl⟩ rfl rfl rfl rfl rfl hl.1 rfl (lv_room (Nat.le_of_ble_eq_true rfl)) dc_T_grown_30 ⟨Nat.zero_le _, Nat.zero_le _⟩ (fun r106 st105 H locs hP hS h => ?_)
  refine lv_iload_n hx hb dc_T_grown_33 rfl (lv_at hl 2 rfl) ?_
  refine w_cVv (y := yn_B_insert) (C := Rn_B) (index := 86) (n := 4) (own := Rn_T) 19 hx hb hml hown hts hK hN hP hS (ct_B_insert l D ad cA w hJ r104 0 r106 x1 st105 _ h) mw_86 mw_122 mw_88 mw_89 mw_18 (by decide +kernel) ⟨Nat.le_of_ble_eq_true rfl, Nat.le_of_ble_eq_true rfl⟩ rfl rfl rfl rfl rfl hl.1 rfl (lv_room (Nat.le_of_ble_eq_true rfl)) dc_T_grown_34 ⟨Nat.zero_le _, Nat.zero_le _⟩ (fun st107 H locs hP hS h => ?_)
  refine lv_aload_n hx hb dc_T_grown_37 rfl (lv_at hl 1 rfl) ?_
  refine lv_iload_n hx hb dc_T_grown_38 rfl (lv_at hl 0 rfl) ?_
  refine lv_iconst (v := 0) hx hb dc_T_grown_39 (by decide) ?_
  refine w_cVv (y := yn_T_split) (C := Rn_T) (index := 79) (n := 2) (own := Rn_T) 20 hx hb hml hown hts hK hN hP hS (ct_T_split l D ad cA w hJ r104 0 st107 _ h) mw_123 mw_124 mw_125 mw_126 mw_59 (by decide +kernel) ⟨Nat.le_of_ble_eq_true rfl, Nat.le_of_ble_eq_true rfl⟩ rfl rfl rfl rfl rfl hl.1 rfl (lv_room (Nat.le_of_ble_eq_true rfl)) dc_T_grown_40 ⟨Nat.zero_le _, Nat.zero_le _⟩ (fun st108 H locs hP hS h => ?_)
  refine lv_iload_n hx hb dc_T_grown_43 rfl (lv_at hl 0 rfl) ?_
  exact w_iret hx hb hr hlocks hP hS h dc_T_grown_44
end
section
set_option maxHeartbeats 4000000 in
set_option maxRecDepth 100000 in
theorem ct_T_with (l : Launch) (D : va_G) (ad : Nat → Nat) (cA : Nat → ClassId) (w : Nat) (hJ : Jn_ ad) (x1 : Int32) (x2 : Int32) (x3 : Int32) (st : St_) (post : Int32 → St_ → Prop) (h : wp_T_with w x1 x2 x3 st post) : Met l yn_T_with (Cond.code yn_T_with bc_T_with 5 (some .int) :: Wk_) rm_T_with (Pw_ D ad cA w st [.ref (ad 20), .int x1, .int x2, .int x3]) (Qi_ D ad cA w post) 0 0 (Aw_ ad) := by
  refine Met.ofW (cc := bc_T_with) (maxL := 5) (ret := (some .int)) (by decide) rfl ?_
  intro p e s m args below meth c s₁ B hml hv
  obtain ⟨rfl, hP, hK, hN⟩ := hv
  have hx := B.exec
  have hb := B.bytes
  have hr := B.returns
  have hts : ∀ v ∈ Wk_, v.before [.ref (ad 20), .int x1, .int x2, .int x3].toArray s = true := fun v hv => atoms_spec (ws := Cond.code yn_T_with bc_T_with 5 (some .int) :: Wk_) B.pre v (List.mem_cons_of_mem _ hv)
  have hown : s.vm.findClass Rn_T = some m.cls := findClass_of_methodNamed B.named
  have hlocks := B.notSynchronized
  have hS : va_S (Aw_ ad) s.heap s.heap [] := va_S.rf
  have hl := lv_entry ([.ref (ad 20), .int x1, .int x2, .int x3]) (n := 5) (Nat.le_of_ble_eq_true rfl)
  rw [lg_entry_eq]
  generalize (lg_sl ([.ref (ad 20), .int x1, .int x2, .int x3]) ++ List.replicate (5 - (lg_sl ([.ref (ad 20), .int x1, .int x2, .int x3])).length) Slot.unset).toArray = ls at hl ⊢
  have hl : lv_has ls 5 [(0, .ref (ad 20)), (1, .int x1), (2, .int x2), (3, .int x3)] := hl
  refine lv_iload_n hx hb dc_T_with_0 rfl (lv_at hl 1 rfl) ?_
  refine lv_if_ne (tgt := 15) hx hb dc_T_with_1 (by decide) (fun c => ?_) (fun c => ?_)
  · have h := h.1 c
    refine lv_aload_n hx hb dc_T_with_15 rfl (lv_at hl 0 rfl) ?_
    refine va_get (D := D) (ci := 2) (v := .ref (ad 19)) (C := Rn_T) (T := Fn_T) (N := 3) hx hb hts in_T hown hK hP 20 rfl rfl 0 (by decide) (hts _ mw_13) (fun _ h9 => h9) rfl dc_T_with_16 ?_
    refine lv_iload_n hx hb dc_T_with_19 rfl (lv_at hl 1 rfl) ?_
    refine w_cVi (y := yn_B_owned) (C := Rn_B) (index := 59) (n := 1) (own := Rn_T) 19 hx hb hml hown hts hK hN hP hS (ct_B_owned l D ad cA w hJ x1 st _ h) mw_94 mw_95 mw_96 mw_97 mw_18 (by decide +kernel) ⟨Nat.le_of_ble_eq_true rfl, Nat.le_of_ble_eq_true rfl⟩ rfl rfl rfl rfl rfl hl.1 rfl (lv_room (Nat.le_of_ble_eq_true rfl)) dc_T_with_20 ⟨Nat.zero_le _, Nat.zero_le _⟩ (fun r102 st101 H locs hP hS h => ?_)
    refine lv_istore (lv' := [(4, .int r102), (0, .ref (ad 20)), (1, .int x1), (2, .int x2), (3, .int x3)]) hx hb dc_T_with_23 hl (by decide) rfl (fun ls hl => ?_)
    refine lv_aload_n hx hb dc_T_with_25 rfl (lv_at hl 1 rfl) ?_
    refine lv_iload hx hb dc_T_with_26 (lv_at hl 0 rfl) ?_
    refine lv_aload_n hx hb dc_T_with_28 rfl (lv_at hl 1 rfl) ?_
    refine va_get (D := D) (ci := 2) (v := .ref (ad 19)) (C := Rn_T) (T := Fn_T) (N := 3) hx hb hts in_T hown hK hP 20 rfl rfl 0 (by decide) (hts _ mw_13) (fun _ h9 => h9) rfl dc_T_with_29 ?_
    refine lv_iload hx hb dc_T_with_32 (lv_at hl 0 rfl) ?_
    refine w_cVi (y := yn_B_level) (C := Rn_B) (index := 26) (n := 1) (own := Rn_T) 19 hx hb hml hown hts hK hN hP hS (ct_B_level l D ad cA w hJ r102 st101 _ h) mw_20 mw_21 mw_22 mw_23 mw_18 (by decide +kernel) ⟨Nat.le_of_ble_eq_true rfl, Nat.le_of_ble_eq_true rfl⟩ rfl rfl rfl rfl rfl hl.1 rfl (lv_room (Nat.le_of_ble_eq_true rfl)) dc_T_with_34 ⟨Nat.zero_le _, Nat.zero_le _⟩ (fun r104 st103 H locs hP hS h => ?_)
    refine lv_iload_n hx hb dc_T_with_37 rfl (lv_at hl 3 rfl) ?_
    refine lv_iload_n hx hb dc_T_with_38 rfl (lv_at hl 4 rfl) ?_
    refine w_cVv (y := yn_T_putBelow) (C := Rn_T) (index := 62) (n := 4) (own := Rn_T) 20 hx hb hml hown hts hK hN hP hS (ct_T_putBelow l D ad cA w hJ 20 r102 r104 x2 x3 st103 _ h) mw_106 mw_107 mw_108 mw_109 mw_59 (by decide +kernel) ⟨Nat.le_of_ble_eq_true rfl, Nat.le_of_ble_eq_true rfl⟩ rfl rfl rfl rfl rfl hl.1 rfl (lv_room (Nat.le_of_ble_eq_true rfl)) dc_T_with_39 ⟨Nat.zero_le _, Nat.zero_le _⟩ (fun st105 H locs hP hS h => ?_)
    refine lv_aload_n hx hb dc_T_with_42 rfl (lv_at hl 1 rfl) ?_
    refine va_get (D := D) (ci := 2) (v := .ref (ad 19)) (C := Rn_T) (T := Fn_T) (N := 3) hx hb hts in_T hown hK hP 20 rfl rfl 0 (by decide) (hts _ mw_13) (fun _ h9 => h9) rfl dc_T_with_43 ?_
    refine lv_iload hx hb dc_T_with_46 (lv_at hl 0 rfl) ?_
    refine w_cVi (y := yn_B_size) (C := Rn_B) (index := 48) (n := 1) (own := Rn_T) 19 hx hb hml hown hts hK hN hP hS (ct_B_size l D ad cA w hJ r102 st105 _ h) mw_26 mw_114 mw_28 mw_29 mw_18 (by decide +kernel) ⟨Nat.le_of_ble_eq_true rfl, Nat.le_of_ble_eq_true rfl⟩ rfl rfl rfl rfl rfl hl.1 rfl (lv_room (Nat.le_of_ble_eq_true rfl)) dc_T_with_48 ⟨Nat.zero_le _, Nat.zero_le _⟩ (fun r107 st106 H locs hP hS h => ?_)
    refine lv_aload_n hx hb dc_T_with_51 rfl (lv_at hl 1 rfl) ?_
    refine va_get (D := D) (ci := 2) (v := .int (nI (w - 1))) (C := Rn_T) (T := Fn_T) (N := 3) hx hb hts in_T hown hK hP 20 rfl rfl 1 (by decide) (hts _ mw_115) (fun _ h9 => h9) rfl dc_T_with_52 ?_
    refine lv_icmp_le (tgt := 67) hx hb dc_T_with_55 (by decide) (fun c => ?_) (fun c => ?_)
    · have h := h.1 c
      refine lv_iload hx hb dc_T_with_67 (lv_at hl 0 rfl) ?_
      exact w_iret hx hb hr hlocks hP hS h dc_T_with_69
    · have h := h.2 c
      refine lv_aload_n hx hb dc_T_with_58 rfl (lv_at hl 1 rfl) ?_
      refine lv_iload hx hb dc_T_with_59 (lv_at hl 0 rfl) ?_
      refine w_cVi (y := yn_T_grown) (C := Rn_T) (index := 66) (n := 1) (own := Rn_T) 20 hx hb hml hown hts hK hN hP hS (ct_T_grown l D ad cA w hJ r102 st106 _ h) mw_131 mw_132 mw_133 mw_134 mw_59 (by decide +kernel) ⟨Nat.le_of_ble_eq_true rfl, Nat.le_of_ble_eq_true rfl⟩ rfl rfl rfl rfl rfl hl.1 rfl (lv_room (Nat.le_of_ble_eq_true rfl)) dc_T_with_61 ⟨Nat.zero_le _, Nat.zero_le _⟩ (fun r109 st108 H locs hP hS h => ?_)
      refine lv_goto (tgt := 69) hx hb dc_T_with_64 (by decide) ?_
      exact w_iret hx hb hr hlocks hP hS h dc_T_with_69
  · have h := h.2 c
    refine lv_aload_n hx hb dc_T_with_4 rfl (lv_at hl 0 rfl) ?_
    refine va_get (D := D) (ci := 2) (v := .ref (ad 19)) (C := Rn_T) (T := Fn_T) (N := 3) hx hb hts in_T hown hK hP 20 rfl rfl 0 (by decide) (hts _ mw_13) (fun _ h9 => h9) rfl dc_T_with_5 ?_
    refine lv_iconst (v := 0) hx hb dc_T_with_8 (by decide) ?_
    refine w_cVi (y := yn_B_take) (C := Rn_B) (index := 56) (n := 1) (own := Rn_T) 19 hx hb hml hown hts hK hN hP hS (ct_B_take l D ad cA w hJ 0 st _ h) mw_72 mw_116 mw_74 mw_75 mw_18 (by decide +kernel) ⟨Nat.le_of_ble_eq_true rfl, Nat.le_of_ble_eq_true rfl⟩ rfl rfl rfl rfl rfl hl.1 rfl (lv_room (Nat.le_of_ble_eq_true rfl)) dc_T_with_9 ⟨Nat.zero_le _, Nat.zero_le _⟩ (fun r111 st110 H locs hP hS h => ?_)
    refine lv_goto (tgt := 23) hx hb dc_T_with_12 (by decide) ?_
    refine lv_istore (lv' := [(4, .int r111), (0, .ref (ad 20)), (1, .int x1), (2, .int x2), (3, .int x3)]) hx hb dc_T_with_23 hl (by decide) rfl (fun ls hl => ?_)
    refine lv_aload_n hx hb dc_T_with_25 rfl (lv_at hl 1 rfl) ?_
    refine lv_iload hx hb dc_T_with_26 (lv_at hl 0 rfl) ?_
    refine lv_aload_n hx hb dc_T_with_28 rfl (lv_at hl 1 rfl) ?_
    refine va_get (D := D) (ci := 2) (v := .ref (ad 19)) (C := Rn_T) (T := Fn_T) (N := 3) hx hb hts in_T hown hK hP 20 rfl rfl 0 (by decide) (hts _ mw_13) (fun _ h9 => h9) rfl dc_T_with_29 ?_
    refine lv_iload hx hb dc_T_with_32 (lv_at hl 0 rfl) ?_
    refine w_cVi (y := yn_B_level) (C := Rn_B) (index := 26) (n := 1) (own := Rn_T) 19 hx hb hml hown hts hK hN hP hS (ct_B_level l D ad cA w hJ r111 st110 _ h) mw_20 mw_21 mw_22 mw_23 mw_18 (by decide +kernel) ⟨Nat.le_of_ble_eq_true rfl, Nat.le_of_ble_eq_true rfl⟩ rfl rfl rfl rfl rfl hl.1 rfl (lv_room (Nat.le_of_ble_eq_true rfl)) dc_T_with_34 ⟨Nat.zero_le _, Nat.zero_le _⟩ (fun r113 st112 H locs hP hS h => ?_)
    refine lv_iload_n hx hb dc_T_with_37 rfl (lv_at hl 3 rfl) ?_
    refine lv_iload_n hx hb dc_T_with_38 rfl (lv_at hl 4 rfl) ?_
    refine w_cVv (y := yn_T_putBelow) (C := Rn_T) (index := 62) (n := 4) (own := Rn_T) 20 hx hb hml hown hts hK hN hP hS (ct_T_putBelow l D ad cA w hJ 20 r111 r113 x2 x3 st112 _ h) mw_106 mw_107 mw_108 mw_109 mw_59 (by decide +kernel) ⟨Nat.le_of_ble_eq_true rfl, Nat.le_of_ble_eq_true rfl⟩ rfl rfl rfl rfl rfl hl.1 rfl (lv_room (Nat.le_of_ble_eq_true rfl)) dc_T_with_39 ⟨Nat.zero_le _, Nat.zero_le _⟩ (fun st114 H locs hP hS h => ?_)
    refine lv_aload_n hx hb dc_T_with_42 rfl (lv_at hl 1 rfl) ?_
    refine va_get (D := D) (ci := 2) (v := .ref (ad 19)) (C := Rn_T) (T := Fn_T) (N := 3) hx hb hts in_T hown hK hP 20 rfl rfl 0 (by decide) (hts _ mw_13) (fun _ h9 => h9) rfl dc_T_with_43 ?_
    refine lv_iload hx hb dc_T_with_46 (lv_at hl 0 rfl) ?_
    refine w_cVi (y := yn_B_size) (C := Rn_B) (index := 48) (n := 1) (own := Rn_T) 19 hx hb hml hown hts hK hN hP hS (ct_B_size l D ad cA w hJ r111 st114 _ h) mw_26 mw_114 mw_28 mw_29 mw_18 (by decide +kernel) ⟨Nat.le_of_ble_eq_true rfl, Nat.le_of_ble_eq_true rfl⟩ rfl rfl rfl rfl rfl hl.1 rfl (lv_room (Nat.le_of_ble_eq_true rfl)) dc_T_with_48 ⟨Nat.zero_le _, Nat.zero_le _⟩ (fun r116 st115 H locs hP hS h => ?_)
    refine lv_aload_n hx hb dc_T_with_51 rfl (lv_at hl 1 rfl) ?_
    refine va_get (D := D) (ci := 2) (v := .int (nI (w - 1))) (C := Rn_T) (T := Fn_T) (N := 3) hx hb hts in_T hown hK hP 20 rfl rfl 1 (by decide) (hts _ mw_115) (fun _ h9 => h9) rfl dc_T_with_52 ?_
    refine lv_icmp_le (tgt := 67) hx hb dc_T_with_55 (by decide) (fun c => ?_) (fun c => ?_)
    · have h := h.1 c
      refine lv_iload hx hb dc_T_with_67 (lv_at hl 0 rfl) ?_
      exact w_iret hx hb hr hlocks hP hS h dc_T_with_69
    · have h := h.2 c
      refine lv_aload_n hx hb dc_T_with_58 rfl (lv_at hl 1 rfl) ?_
      refine lv_iload hx hb dc_T_with_59 (lv_at hl 0 rfl) ?_
      refine w_cVi (y := yn_T_grown) (C := Rn_T) (index := 66) (n := 1) (own := Rn_T) 20 hx hb hml hown hts hK hN hP hS (ct_T_grown l D ad cA w hJ r111 st115 _ h) mw_131 mw_132 mw_133 mw_134 mw_59 (by decide +kernel) ⟨Nat.le_of_ble_eq_true rfl, Nat.le_of_ble_eq_true rfl⟩ rfl rfl rfl rfl rfl hl.1 rfl (lv_room (Nat.le_of_ble_eq_true rfl)) dc_T_with_61 ⟨Nat.zero_le _, Nat.zero_le _⟩ (fun r118 st117 H locs hP hS h => ?_)
      refine lv_goto (tgt := 69) hx hb dc_T_with_64 (by decide) ?_
      exact w_iret hx hb hr hlocks hP hS h dc_T_with_69
set_option maxHeartbeats 4000000 in
set_option maxRecDepth 100000 in
theorem ct_S_write (l : Launch) (D : va_G) (ad : Nat → Nat) (cA : Nat → ClassId) (w : Nat) (hJ : Jn_ ad) (x1 : Int32) (x2 : Int32) (x3 : Int32) (st : St_) (post : Int32 → St_ → Prop) (h : wp_S_write w x1 x2 x3 st post) : Met l yn_S_write (Cond.code yn_S_write bc_S_write 5 (some .int) :: Wk_) rm_S_write (Pw_ D ad cA w st [.ref (ad 18), .int x1, .int x2, .int x3]) (Qi_ D ad cA w post) 0 0 (Aw_ ad) := by
  refine Met.ofW (cc := bc_S_write) (maxL := 5) (ret := (some .int)) (by decide) rfl ?_
  intro p e s m args below meth c s₁ B hml hv
  obtain ⟨rfl, hP, hK, hN⟩ := hv
  have hx := B.exec
  have hb := B.bytes
  have hr := B.returns
  have hts : ∀ v ∈ Wk_, v.before [.ref (ad 18), .int x1, .int x2, .int x3].toArray s = true := fun v hv => atoms_spec (ws := Cond.code yn_S_write bc_S_write 5 (some .int) :: Wk_) B.pre v (List.mem_cons_of_mem _ hv)
  have hown : s.vm.findClass Rn_S = some m.cls := findClass_of_methodNamed B.named
  have hlocks := B.notSynchronized
  have hS : va_S (Aw_ ad) s.heap s.heap [] := va_S.rf
  have hl := lv_entry ([.ref (ad 18), .int x1, .int x2, .int x3]) (n := 5) (Nat.le_of_ble_eq_true rfl)
  rw [lg_entry_eq]
  generalize (lg_sl ([.ref (ad 18), .int x1, .int x2, .int x3]) ++ List.replicate (5 - (lg_sl ([.ref (ad 18), .int x1, .int x2, .int x3])).length) Slot.unset).toArray = ls at hl ⊢
  have hl : lv_has ls 5 [(0, .ref (ad 18)), (1, .int x1), (2, .int x2), (3, .int x3)] := hl
  refine lv_iload_n hx hb dc_S_write_0 rfl (lv_at hl 1 rfl) ?_
  refine w_cSi (y := yn_S_isMap) (index := 53) (n := 1) (own := Rn_S) hx hb hml hown hts hK hN hP hS (ct_S_isMap l D ad cA w hJ x1 st _ h) mw_0 mw_1 mw_2 mw_3 (by decide +kernel) ⟨Nat.le_of_ble_eq_true rfl, Nat.le_of_ble_eq_true rfl⟩ rfl rfl rfl hl.1 rfl (lv_room (Nat.le_of_ble_eq_true rfl)) dc_S_write_1 ⟨Nat.zero_le _, Nat.zero_le _⟩ (fun r102 st101 H locs hP hS h => ?_)
  refine lv_if_eq (tgt := 21) hx hb dc_S_write_4 (by decide) (fun c => ?_) (fun c => ?_)
  · have h := h.1 c
    refine lv_iconst (v := (-1)) hx hb dc_S_write_21 (by decide) ?_
    exact w_iret hx hb hr hlocks hP hS h dc_S_write_22
  · have h := h.2 c
    refine lv_iload_n hx hb dc_S_write_7 rfl (lv_at hl 2 rfl) ?_
    refine w_cSi (y := yn_S_isKey) (index := 57) (n := 1) (own := Rn_S) hx hb hml hown hts hK hN hP hS (ct_S_isKey l D ad cA w hJ x2 st101 _ h) mw_4 mw_5 mw_6 mw_3 (by decide +kernel) ⟨Nat.le_of_ble_eq_true rfl, Nat.le_of_ble_eq_true rfl⟩ rfl rfl rfl hl.1 rfl (lv_room (Nat.le_of_ble_eq_true rfl)) dc_S_write_8 ⟨Nat.zero_le _, Nat.zero_le _⟩ (fun r104 st103 H locs hP hS h => ?_)
    refine lv_if_eq (tgt := 21) hx hb dc_S_write_11 (by decide) (fun c => ?_) (fun c => ?_)
    · have h := h.1 c
      refine lv_iconst (v := (-1)) hx hb dc_S_write_21 (by decide) ?_
      exact w_iret hx hb hr hlocks hP hS h dc_S_write_22
    · have h := h.2 c
      refine lv_iload_n hx hb dc_S_write_14 rfl (lv_at hl 3 rfl) ?_
      refine w_cSi (y := yn_S_isStamp) (index := 60) (n := 1) (own := Rn_S) hx hb hml hown hts hK hN hP hS (ct_S_isStamp l D ad cA w hJ x3 st103 _ h) mw_8 mw_9 mw_10 mw_3 (by decide +kernel) ⟨Nat.le_of_ble_eq_true rfl, Nat.le_of_ble_eq_true rfl⟩ rfl rfl rfl hl.1 rfl (lv_room (Nat.le_of_ble_eq_true rfl)) dc_S_write_15 ⟨Nat.zero_le _, Nat.zero_le _⟩ (fun r106 st105 H locs hP hS h => ?_)
      refine lv_if_ne (tgt := 23) hx hb dc_S_write_18 (by decide) (fun c => ?_) (fun c => ?_)
      · have h := h.1 c
        refine lv_aload_n hx hb dc_S_write_23 rfl (lv_at hl 0 rfl) ?_
        refine va_get (D := D) (ci := 0) (v := .ref (ad 20)) (C := Rn_S) (T := Fn_S) (N := 5) hx hb hts in_S hown hK hP 18 rfl rfl 1 (by decide) (hts _ mw_11) (fun _ h9 => h9) rfl dc_S_write_24 ?_
        refine lv_aload_n hx hb dc_S_write_27 rfl (lv_at hl 0 rfl) ?_
        refine va_get (D := D) (ci := 0) (v := .ref (ad 22)) (C := Rn_S) (T := Fn_S) (N := 5) hx hb hts in_S hown hK hP 18 rfl rfl 3 (by decide) (hts _ mw_12) (fun _ h9 => h9) rfl dc_S_write_28 ?_
        refine va_getN (D := D) (ci := 4) (v := .ref (ad 10)) (C := Rn_P) (T := Fn_P) (N := 3) (host := nh_) hx hb hts in_P hown hK hP 22 rfl rfl 0 (by decide) (va_Nw.use rfl (hN.1 _ nf_0)) (fun _ h9 => h9) rfl dc_S_write_31 ?_
        refine lv_iload_n hx hb dc_S_write_34 rfl (lv_at hl 1 rfl) ?_
        refine w_ild 10 (by decide) hx hb hK hP h.1 dc_S_write_35 ?_
        have h := h.2
        refine lv_iload_n hx hb dc_S_write_36 rfl (lv_at hl 2 rfl) ?_
        refine w_cVi (y := yn_T_stampOf) (C := Rn_T) (index := 67) (n := 2) (own := Rn_S) 20 hx hb hml hown hts hK hN hP hS (ct_T_stampOf l D ad cA w hJ (st105 10 (x1).toNatClampNeg) x2 st105 _ h) mw_60 mw_61 mw_62 mw_63 mw_59 (by decide +kernel) ⟨Nat.le_of_ble_eq_true rfl, Nat.le_of_ble_eq_true rfl⟩ rfl rfl rfl rfl rfl hl.1 rfl (lv_room (Nat.le_of_ble_eq_true rfl)) dc_S_write_37 ⟨Nat.zero_le _, Nat.zero_le _⟩ (fun r108 st107 H locs hP hS h => ?_)
        refine lv_bipush (v := (-2)) hx hb dc_S_write_40 (by decide) ?_
        refine lv_icmp_ne (tgt := 49) hx hb dc_S_write_42 (by decide) (fun c => ?_) (fun c => ?_)
        · have h := h.1 c
          refine lv_iconst (v := 0) hx hb dc_S_write_49 (by decide) ?_
          refine lv_istore (lv' := [(4, .int 0), (0, .ref (ad 18)), (1, .int x1), (2, .int x2), (3, .int x3)]) hx hb dc_S_write_50 hl (by decide) rfl (fun ls hl => ?_)
          refine lv_iload hx hb dc_S_write_52 (lv_at hl 0 rfl) ?_
          refine lv_if_eq (tgt := 73) hx hb dc_S_write_54 (by decide) (fun c => ?_) (fun c => absurd c (by decide))
          refine lv_aload_n hx hb dc_S_write_73 rfl (lv_at hl 1 rfl) ?_
          refine va_get (D := D) (ci := 0) (v := .ref (ad 22)) (C := Rn_S) (T := Fn_S) (N := 5) hx hb hts in_S hown hK hP 18 rfl rfl 3 (by decide) (hts _ mw_12) (fun _ h9 => h9) rfl dc_S_write_74 ?_
          refine va_getN (D := D) (ci := 4) (v := .ref (ad 10)) (C := Rn_P) (T := Fn_P) (N := 3) (host := nh_) hx hb hts in_P hown hK hP 22 rfl rfl 0 (by decide) (va_Nw.use rfl (hN.1 _ nf_0)) (fun _ h9 => h9) rfl dc_S_write_77 ?_
          refine lv_iload_n hx hb dc_S_write_80 rfl (lv_at hl 2 rfl) ?_
          refine lv_aload_n hx hb dc_S_write_81 rfl (lv_at hl 1 rfl) ?_
          refine va_get (D := D) (ci := 0) (v := .ref (ad 20)) (C := Rn_S) (T := Fn_S) (N := 5) hx hb hts in_S hown hK hP 18 rfl rfl 1 (by decide) (hts _ mw_11) (fun _ h9 => h9) rfl dc_S_write_82 ?_
          refine lv_aload_n hx hb dc_S_write_85 rfl (lv_at hl 1 rfl) ?_
          refine va_get (D := D) (ci := 0) (v := .ref (ad 22)) (C := Rn_S) (T := Fn_S) (N := 5) hx hb hts in_S hown hK hP 18 rfl rfl 3 (by decide) (hts _ mw_12) (fun _ h9 => h9) rfl dc_S_write_86 ?_
          refine va_getN (D := D) (ci := 4) (v := .ref (ad 10)) (C := Rn_P) (T := Fn_P) (N := 3) (host := nh_) hx hb hts in_P hown hK hP 22 rfl rfl 0 (by decide) (va_Nw.use rfl (hN.1 _ nf_0)) (fun _ h9 => h9) rfl dc_S_write_89 ?_
          refine lv_iload_n hx hb dc_S_write_92 rfl (lv_at hl 2 rfl) ?_
          refine w_ild 10 (by decide) hx hb hK hP h.1 dc_S_write_93 ?_
          have h := h.2
          refine lv_iload_n hx hb dc_S_write_94 rfl (lv_at hl 3 rfl) ?_
          refine lv_iload_n hx hb dc_S_write_95 rfl (lv_at hl 4 rfl) ?_
          refine w_cVi (y := yn_T_with) (C := Rn_T) (index := 74) (n := 3) (own := Rn_S) 20 hx hb hml hown hts hK hN hP hS (ct_T_with l D ad cA w hJ (st107 10 (x1).toNatClampNeg) x2 x3 st107 _ h) mw_135 mw_136 mw_137 mw_138 mw_59 (by decide +kernel) ⟨Nat.le_of_ble_eq_true rfl, Nat.le_of_ble_eq_true rfl⟩ rfl rfl rfl rfl rfl hl.1 rfl (lv_room (Nat.le_of_ble_eq_true rfl)) dc_S_write_96 ⟨Nat.zero_le _, Nat.zero_le _⟩ (fun r110 st109 H locs hP hS h => ?_)
          refine w_ist 10 (by decide) hJ hx hb hK hP hS h.1 dc_S_write_99 (fun H locs hP hS => ?_)
          obtain ⟨st111, est111⟩ : ∃ z : St_, z = ws_1 st109 10 (x1).toNatClampNeg r110 := ⟨_, rfl⟩
          rw [← est111] at hP
          have h := h.2 st111 est111
          refine lv_iload hx hb dc_S_write_100 (lv_at hl 0 rfl) ?_
          refine lv_if_eq (tgt := 131) hx hb dc_S_write_102 (by decide) (fun c => ?_) (fun c => absurd c (by decide))
          refine lv_aload_n hx hb dc_S_write_131 rfl (lv_at hl 1 rfl) ?_
          refine va_get (D := D) (ci := 0) (v := .ref (ad 22)) (C := Rn_S) (T := Fn_S) (N := 5) hx hb hts in_S hown hK hP 18 rfl rfl 3 (by decide) (hts _ mw_12) (fun _ h9 => h9) rfl dc_S_write_132 ?_
          refine va_getN (D := D) (ci := 4) (v := .ref (ad 11)) (C := Rn_P) (T := Fn_P) (N := 3) (host := nh_) hx hb hts in_P hown hK hP 22 rfl rfl 1 (by decide) (va_Nw.use rfl (hN.1 _ nf_1)) (fun _ h9 => h9) rfl dc_S_write_135 ?_
          refine lv_iload_n hx hb dc_S_write_138 rfl (lv_at hl 2 rfl) ?_
          refine w_ild 11 (by decide) hx hb hK hP h.1 dc_S_write_139 ?_
          have h := h.2
          exact w_iret hx hb hr hlocks hP hS h dc_S_write_140
        · have h := h.2 c
          refine lv_iconst (v := 1) hx hb dc_S_write_45 (by decide) ?_
          refine lv_goto (tgt := 50) hx hb dc_S_write_46 (by decide) ?_
          refine lv_istore (lv' := [(4, .int 1), (0, .ref (ad 18)), (1, .int x1), (2, .int x2), (3, .int x3)]) hx hb dc_S_write_50 hl (by decide) rfl (fun ls hl => ?_)
          refine lv_iload hx hb dc_S_write_52 (lv_at hl 0 rfl) ?_
          refine lv_if_eq (tgt := 73) hx hb dc_S_write_54 (by decide) (fun c => absurd c (by decide)) (fun c => ?_)
          refine lv_aload_n hx hb dc_S_write_57 rfl (lv_at hl 1 rfl) ?_
          refine va_get (D := D) (ci := 0) (v := .ref (ad 22)) (C := Rn_S) (T := Fn_S) (N := 5) hx hb hts in_S hown hK hP 18 rfl rfl 3 (by decide) (hts _ mw_12) (fun _ h9 => h9) rfl dc_S_write_58 ?_
          refine va_getN (D := D) (ci := 4) (v := .int (st107 19 0)) (C := Rn_P) (T := Fn_P) (N := 3) (host := nh_) hx hb hts in_P hown hK hP 22 rfl rfl 2 (by decide) (va_Nw.use rfl (hN.1 _ nf_2)) (fun _ h9 => h9) rfl dc_S_write_61 ?_
          refine lv_sipush (v := 600) hx hb dc_S_write_64 (by decide) ?_
          refine lv_icmp_lt (tgt := 73) hx hb dc_S_write_67 (by decide) (fun c => ?_) (fun c => ?_)
          · have h := h.1 c
            refine lv_aload_n hx hb dc_S_write_73 rfl (lv_at hl 1 rfl) ?_
            refine va_get (D := D) (ci := 0) (v := .ref (ad 22)) (C := Rn_S) (T := Fn_S) (N := 5) hx hb hts in_S hown hK hP 18 rfl rfl 3 (by decide) (hts _ mw_12) (fun _ h9 => h9) rfl dc_S_write_74 ?_
            refine va_getN (D := D) (ci := 4) (v := .ref (ad 10)) (C := Rn_P) (T := Fn_P) (N := 3) (host := nh_) hx hb hts in_P hown hK hP 22 rfl rfl 0 (by decide) (va_Nw.use rfl (hN.1 _ nf_0)) (fun _ h9 => h9) rfl dc_S_write_77 ?_
            refine lv_iload_n hx hb dc_S_write_80 rfl (lv_at hl 2 rfl) ?_
            refine lv_aload_n hx hb dc_S_write_81 rfl (lv_at hl 1 rfl) ?_
            refine va_get (D := D) (ci := 0) (v := .ref (ad 20)) (C := Rn_S) (T := Fn_S) (N := 5) hx hb hts in_S hown hK hP 18 rfl rfl 1 (by decide) (hts _ mw_11) (fun _ h9 => h9) rfl dc_S_write_82 ?_
            refine lv_aload_n hx hb dc_S_write_85 rfl (lv_at hl 1 rfl) ?_
            refine va_get (D := D) (ci := 0) (v := .ref (ad 22)) (C := Rn_S) (T := Fn_S) (N := 5) hx hb hts in_S hown hK hP 18 rfl rfl 3 (by decide) (hts _ mw_12) (fun _ h9 => h9) rfl dc_S_write_86 ?_
            refine va_getN (D := D) (ci := 4) (v := .ref (ad 10)) (C := Rn_P) (T := Fn_P) (N := 3) (host := nh_) hx hb hts in_P hown hK hP 22 rfl rfl 0 (by decide) (va_Nw.use rfl (hN.1 _ nf_0)) (fun _ h9 => h9) rfl dc_S_write_89 ?_
            refine lv_iload_n hx hb dc_S_write_92 rfl (lv_at hl 2 rfl) ?_
            refine w_ild 10 (by decide) hx hb hK hP h.1 dc_S_write_93 ?_
            have h := h.2
            refine lv_iload_n hx hb dc_S_write_94 rfl (lv_at hl 3 rfl) ?_
            refine lv_iload_n hx hb dc_S_write_95 rfl (lv_at hl 4 rfl) ?_
            refine w_cVi (y := yn_T_with) (C := Rn_T) (index := 74) (n := 3) (own := Rn_S) 20 hx hb hml hown hts hK hN hP hS (ct_T_with l D ad cA w hJ (st107 10 (x1).toNatClampNeg) x2 x3 st107 _ h) mw_135 mw_136 mw_137 mw_138 mw_59 (by decide +kernel) ⟨Nat.le_of_ble_eq_true rfl, Nat.le_of_ble_eq_true rfl⟩ rfl rfl rfl rfl rfl hl.1 rfl (lv_room (Nat.le_of_ble_eq_true rfl)) dc_S_write_96 ⟨Nat.zero_le _, Nat.zero_le _⟩ (fun r113 st112 H locs hP hS h => ?_)
            refine w_ist 10 (by decide) hJ hx hb hK hP hS h.1 dc_S_write_99 (fun H locs hP hS => ?_)
            obtain ⟨st114, est114⟩ : ∃ z : St_, z = ws_1 st112 10 (x1).toNatClampNeg r113 := ⟨_, rfl⟩
            rw [← est114] at hP
            have h := h.2 st114 est114
            refine lv_iload hx hb dc_S_write_100 (lv_at hl 0 rfl) ?_
            refine lv_if_eq (tgt := 131) hx hb dc_S_write_102 (by decide) (fun c => absurd c (by decide)) (fun c => ?_)
            refine lv_aload_n hx hb dc_S_write_105 rfl (lv_at hl 1 rfl) ?_
            refine va_get (D := D) (ci := 0) (v := .ref (ad 22)) (C := Rn_S) (T := Fn_S) (N := 5) hx hb hts in_S hown hK hP 18 rfl rfl 3 (by decide) (hts _ mw_12) (fun _ h9 => h9) rfl dc_S_write_106 ?_
            refine va_getN (D := D) (ci := 4) (v := .ref (ad 11)) (C := Rn_P) (T := Fn_P) (N := 3) (host := nh_) hx hb hts in_P hown hK hP 22 rfl rfl 1 (by decide) (va_Nw.use rfl (hN.1 _ nf_1)) (fun _ h9 => h9) rfl dc_S_write_109 ?_
            refine lv_iload_n hx hb dc_S_write_112 rfl (lv_at hl 2 rfl) ?_
            refine lv_dup2_11 hx hb dc_S_write_113 rfl rfl ?_
            refine w_ild 11 (by decide) hx hb hK hP h.1 dc_S_write_114 ?_
            have h := h.2
            refine lv_iconst (v := 1) hx hb dc_S_write_115 (by decide) ?_
            refine lv_iadd hx hb dc_S_write_116 ?_
            refine w_ist 11 (by decide) hJ hx hb hK hP hS h.1 dc_S_write_117 (fun H locs hP hS => ?_)
            obtain ⟨st115, est115⟩ : ∃ z : St_, z = ws_1 st114 11 (x1).toNatClampNeg ((st114 11 (x1).toNatClampNeg) + 1) := ⟨_, rfl⟩
            rw [← est115] at hP
            have h := h.2 st115 est115
            refine lv_aload_n hx hb dc_S_write_118 rfl (lv_at hl 1 rfl) ?_
            refine va_get (D := D) (ci := 0) (v := .ref (ad 22)) (C := Rn_S) (T := Fn_S) (N := 5) hx hb hts in_S hown hK hP 18 rfl rfl 3 (by decide) (hts _ mw_12) (fun _ h9 => h9) rfl dc_S_write_119 ?_
            refine lv_dup hx hb dc_S_write_122 rfl ?_
            refine va_getN (D := D) (ci := 4) (v := .int (st115 19 0)) (C := Rn_P) (T := Fn_P) (N := 3) (host := nh_) hx hb hts in_P hown hK hP 22 rfl rfl 2 (by decide) (va_Nw.use rfl (hN.1 _ nf_2)) (fun _ h9 => h9) rfl dc_S_write_123 ?_
            refine lv_iconst (v := 1) hx hb dc_S_write_126 (by decide) ?_
            refine lv_iadd hx hb dc_S_write_127 ?_
            refine va_putN (D := D) (ci := 4) (v := .int ((st115 19 0) + 1)) (ty := .int) (C := Rn_P) (T := Fn_P) (N := 3) (host := nh_) hx hb hts in_P Tn_P to_P nn_P hown hK hP (wd_D hJ) hS 22 rfl rfl 2 (by decide) (va_Nw.use rfl (hN.1 _ nf_2)) (fun _ h9 => h9) rfl (by decide +kernel) rfl rfl (Nat.le_of_ble_eq_true rfl) dc_S_write_128 (fun H locs hP _ hS => ?_)
            obtain ⟨st116, est116⟩ : ∃ z : St_, z = ws_1 st115 19 0 ((st115 19 0) + 1) := ⟨_, rfl⟩
            have hP : va_P D sC_ (wd_ ad cA w st116) H := by rw [est116]; exact hP
            have h := h st116 est116
            refine lv_aload_n hx hb dc_S_write_131 rfl (lv_at hl 1 rfl) ?_
            refine va_get (D := D) (ci := 0) (v := .ref (ad 22)) (C := Rn_S) (T := Fn_S) (N := 5) hx hb hts in_S hown hK hP 18 rfl rfl 3 (by decide) (hts _ mw_12) (fun _ h9 => h9) rfl dc_S_write_132 ?_
            refine va_getN (D := D) (ci := 4) (v := .ref (ad 11)) (C := Rn_P) (T := Fn_P) (N := 3) (host := nh_) hx hb hts in_P hown hK hP 22 rfl rfl 1 (by decide) (va_Nw.use rfl (hN.1 _ nf_1)) (fun _ h9 => h9) rfl dc_S_write_135 ?_
            refine lv_iload_n hx hb dc_S_write_138 rfl (lv_at hl 2 rfl) ?_
            refine w_ild 11 (by decide) hx hb hK hP h.1 dc_S_write_139 ?_
            have h := h.2
            exact w_iret hx hb hr hlocks hP hS h dc_S_write_140
          · have h := h.2 c
            refine lv_bipush (v := (-3)) hx hb dc_S_write_70 (by decide) ?_
            exact w_iret hx hb hr hlocks hP hS h dc_S_write_72
      · have h := h.2 c
        refine lv_iconst (v := (-1)) hx hb dc_S_write_21 (by decide) ?_
        exact w_iret hx hb hr hlocks hP hS h dc_S_write_22
set_option maxHeartbeats 4000000 in
set_option maxRecDepth 100000 in
theorem ct_R_isMap (l : Launch) (D : va_G) (ad : Nat → Nat) (cA : Nat → ClassId) (w : Nat) (hJ : Jn_ ad) (x0 : Int32) (st : St_) (post : Int32 → St_ → Prop) (h : wp_R_isMap w x0 st post) : Met l yn_R_isMap (Cond.code yn_R_isMap bc_R_isMap 1 (some .boolean) :: Wk_) rm_R_isMap (Pw_ D ad cA w st [.int x0]) (Qi_ D ad cA w post) 0 0 (Aw_ ad) := by
  refine Met.ofW (cc := bc_R_isMap) (maxL := 1) (ret := (some .boolean)) (by decide) rfl ?_
  intro p e s m args below meth c s₁ B hml hv
  obtain ⟨rfl, hP, hK, hN⟩ := hv
  have hx := B.exec
  have hb := B.bytes
  have hr := B.returns
  have hts : ∀ v ∈ Wk_, v.before [.int x0].toArray s = true := fun v hv => atoms_spec (ws := Cond.code yn_R_isMap bc_R_isMap 1 (some .boolean) :: Wk_) B.pre v (List.mem_cons_of_mem _ hv)
  have hown : s.vm.findClass Rn_R = some m.cls := findClass_of_methodNamed B.named
  have hlocks := B.notSynchronized
  have hS : va_S (Aw_ ad) s.heap s.heap [] := va_S.rf
  have hl := lv_entry ([.int x0]) (n := 1) (Nat.le_of_ble_eq_true rfl)
  rw [lg_entry_eq]
  generalize (lg_sl ([.int x0]) ++ List.replicate (1 - (lg_sl ([.int x0])).length) Slot.unset).toArray = ls at hl ⊢
  have hl : lv_has ls 1 [(0, .int x0)] := hl
  refine lv_iload_n hx hb dc_R_isMap_0 rfl (lv_at hl 0 rfl) ?_
  refine lv_if_lt (tgt := 14) hx hb dc_R_isMap_1 (by decide) (fun c => ?_) (fun c => ?_)
  · have h := h.1 c
    refine lv_iconst (v := 0) hx hb dc_R_isMap_14 (by decide) ?_
    exact w_zret hx hb hr rfl hlocks hP hS h dc_R_isMap_15
  · have h := h.2 c
    refine lv_iload_n hx hb dc_R_isMap_4 rfl (lv_at hl 0 rfl) ?_
    refine lv_bipush (v := 8) hx hb dc_R_isMap_5 (by decide) ?_
    refine lv_icmp_ge (tgt := 14) hx hb dc_R_isMap_7 (by decide) (fun c => ?_) (fun c => ?_)
    · have h := h.1 c
      refine lv_iconst (v := 0) hx hb dc_R_isMap_14 (by decide) ?_
      exact w_zret hx hb hr rfl hlocks hP hS h dc_R_isMap_15
    · have h := h.2 c
      refine lv_iconst (v := 1) hx hb dc_R_isMap_10 (by decide) ?_
      refine lv_goto (tgt := 15) hx hb dc_R_isMap_11 (by decide) ?_
      exact w_zret hx hb hr rfl hlocks hP hS h dc_R_isMap_15
set_option maxHeartbeats 4000000 in
set_option maxRecDepth 100000 in
theorem ct_R_isKey (l : Launch) (D : va_G) (ad : Nat → Nat) (cA : Nat → ClassId) (w : Nat) (hJ : Jn_ ad) (x0 : Int32) (st : St_) (post : Int32 → St_ → Prop) (h : wp_R_isKey w x0 st post) : Met l yn_R_isKey (Cond.code yn_R_isKey bc_R_isKey 1 (some .boolean) :: Wk_) rm_R_isKey (Pw_ D ad cA w st [.int x0]) (Qi_ D ad cA w post) 0 0 (Aw_ ad) := by
  refine Met.ofW (cc := bc_R_isKey) (maxL := 1) (ret := (some .boolean)) (by decide) rfl ?_
  intro p e s m args below meth c s₁ B hml hv
  obtain ⟨rfl, hP, hK, hN⟩ := hv
  have hx := B.exec
  have hb := B.bytes
  have hr := B.returns
  have hts : ∀ v ∈ Wk_, v.before [.int x0].toArray s = true := fun v hv => atoms_spec (ws := Cond.code yn_R_isKey bc_R_isKey 1 (some .boolean) :: Wk_) B.pre v (List.mem_cons_of_mem _ hv)
  have hown : s.vm.findClass Rn_R = some m.cls := findClass_of_methodNamed B.named
  have hlocks := B.notSynchronized
  have hS : va_S (Aw_ ad) s.heap s.heap [] := va_S.rf
  have hl := lv_entry ([.int x0]) (n := 1) (Nat.le_of_ble_eq_true rfl)
  rw [lg_entry_eq]
  generalize (lg_sl ([.int x0]) ++ List.replicate (1 - (lg_sl ([.int x0])).length) Slot.unset).toArray = ls at hl ⊢
  have hl : lv_has ls 1 [(0, .int x0)] := hl
  refine lv_iload_n hx hb dc_R_isKey_0 rfl (lv_at hl 0 rfl) ?_
  refine lv_if_lt (tgt := 15) hx hb dc_R_isKey_1 (by decide) (fun c => ?_) (fun c => ?_)
  · have h := h.1 c
    refine lv_iconst (v := 0) hx hb dc_R_isKey_15 (by decide) ?_
    exact w_zret hx hb hr rfl hlocks hP hS h dc_R_isKey_16
  · have h := h.2 c
    refine lv_iload_n hx hb dc_R_isKey_4 rfl (lv_at hl 0 rfl) ?_
    refine lv_sipush (v := 4096) hx hb dc_R_isKey_5 (by decide) ?_
    refine lv_icmp_ge (tgt := 15) hx hb dc_R_isKey_8 (by decide) (fun c => ?_) (fun c => ?_)
    · have h := h.1 c
      refine lv_iconst (v := 0) hx hb dc_R_isKey_15 (by decide) ?_
      exact w_zret hx hb hr rfl hlocks hP hS h dc_R_isKey_16
    · have h := h.2 c
      refine lv_iconst (v := 1) hx hb dc_R_isKey_11 (by decide) ?_
      refine lv_goto (tgt := 16) hx hb dc_R_isKey_12 (by decide) ?_
      exact w_zret hx hb hr rfl hlocks hP hS h dc_R_isKey_16
set_option maxHeartbeats 4000000 in
set_option maxRecDepth 100000 in
theorem ct_R_isStamp (l : Launch) (D : va_G) (ad : Nat → Nat) (cA : Nat → ClassId) (w : Nat) (hJ : Jn_ ad) (x0 : Int32) (st : St_) (post : Int32 → St_ → Prop) (h : wp_R_isStamp w x0 st post) : Met l yn_R_isStamp (Cond.code yn_R_isStamp bc_R_isStamp 1 (some .boolean) :: Wk_) rm_R_isStamp (Pw_ D ad cA w st [.int x0]) (Qi_ D ad cA w post) 0 0 (Aw_ ad) := by
  refine Met.ofW (cc := bc_R_isStamp) (maxL := 1) (ret := (some .boolean)) (by decide) rfl ?_
  intro p e s m args below meth c s₁ B hml hv
  obtain ⟨rfl, hP, hK, hN⟩ := hv
  have hx := B.exec
  have hb := B.bytes
  have hr := B.returns
  have hts : ∀ v ∈ Wk_, v.before [.int x0].toArray s = true := fun v hv => atoms_spec (ws := Cond.code yn_R_isStamp bc_R_isStamp 1 (some .boolean) :: Wk_) B.pre v (List.mem_cons_of_mem _ hv)
  have hown : s.vm.findClass Rn_R = some m.cls := findClass_of_methodNamed B.named
  have hlocks := B.notSynchronized
  have hS : va_S (Aw_ ad) s.heap s.heap [] := va_S.rf
  have hl := lv_entry ([.int x0]) (n := 1) (Nat.le_of_ble_eq_true rfl)
  rw [lg_entry_eq]
  generalize (lg_sl ([.int x0]) ++ List.replicate (1 - (lg_sl ([.int x0])).length) Slot.unset).toArray = ls at hl ⊢
  have hl : lv_has ls 1 [(0, .int x0)] := hl
  refine lv_iload_n hx hb dc_R_isStamp_0 rfl (lv_at hl 0 rfl) ?_
  refine lv_if_lt (tgt := 14) hx hb dc_R_isStamp_1 (by decide) (fun c => ?_) (fun c => ?_)
  · have h := h.1 c
    refine lv_iconst (v := 0) hx hb dc_R_isStamp_14 (by decide) ?_
    exact w_zret hx hb hr rfl hlocks hP hS h dc_R_isStamp_15
  · have h := h.2 c
    refine lv_iload_n hx hb dc_R_isStamp_4 rfl (lv_at hl 0 rfl) ?_
    refine lv_ldc hx hb hown (hts _ mw_147) dc_R_isStamp_5 ?_
    refine lv_icmp_gt (tgt := 14) hx hb dc_R_isStamp_7 (by decide) (fun c => ?_) (fun c => ?_)
    · have h := h.1 c
      refine lv_iconst (v := 0) hx hb dc_R_isStamp_14 (by decide) ?_
      exact w_zret hx hb hr rfl hlocks hP hS h dc_R_isStamp_15
    · have h := h.2 c
      refine lv_iconst (v := 1) hx hb dc_R_isStamp_10 (by decide) ?_
      refine lv_goto (tgt := 15) hx hb dc_R_isStamp_11 (by decide) ?_
      exact w_zret hx hb hr rfl hlocks hP hS h dc_R_isStamp_15
set_option maxHeartbeats 4000000 in
set_option maxRecDepth 100000 in
theorem ct_R_all (l : Launch) (D : va_G) (ad : Nat → Nat) (cA : Nat → ClassId) (w : Nat) (hJ : Jn_ ad) (st : St_) (post : Int32 → St_ → Prop) (h : wp_R_all w st post) : Met l yn_R_all (Cond.code yn_R_all bc_R_all 3 (some .int) :: Wk_) rm_R_all (Pw_ D ad cA w st [.ref (ad 24)]) (Qi_ D ad cA w post) 0 0 (Aw_ ad) := by
  refine Met.ofW (cc := bc_R_all) (maxL := 3) (ret := (some .int)) (by decide) rfl ?_
  intro p e s m args below meth c s₁ B hml hv
  obtain ⟨rfl, hP, hK, hN⟩ := hv
  have hx := B.exec
  have hb := B.bytes
  have hr := B.returns
  have hts : ∀ v ∈ Wk_, v.before [.ref (ad 24)].toArray s = true := fun v hv => atoms_spec (ws := Cond.code yn_R_all bc_R_all 3 (some .int) :: Wk_) B.pre v (List.mem_cons_of_mem _ hv)
  have hown : s.vm.findClass Rn_R = some m.cls := findClass_of_methodNamed B.named
  have hlocks := B.notSynchronized
  have hS : va_S (Aw_ ad) s.heap s.heap [] := va_S.rf
  have Lp_4 : ∀ (n : Nat) (y1 y2 : Int32) (st : St_), wp_R_all_4 w post n y1 y2 st → ∀ (H : Heap) (locs : List Loc), va_P D sC_ (wd_ ad cA w st) H → va_S (Aw_ ad) s.heap H locs → ∀ ls : Array Slot, lv_has ls 3 [(0, .ref (ad 24)), (1, .int y1), (2, .int y2)] → W p l e (headSpec (Cond.code yn_R_all bc_R_all 3 (some .int) :: Wk_) rm_R_all).room s m [.ref (ad 24)].toArray below meth c H locs 0 0 (MQ below (Qi_ D ad cA w post) [.ref (ad 24)].toArray s 0 0 (Aw_ ad)) (F0 m 4 ls []) := by
    intro n
    induction n with
    | zero => intro y1 y2 st h; exact h.elim
    | succ n ih =>
      intro y1 y2 st h H locs hP hS ls hl
      refine lv_iload_n hx hb dc_R_all_4 rfl (lv_at hl 2 rfl) ?_
      refine lv_bipush (v := 8) hx hb dc_R_all_5 (by decide) ?_
      refine lv_icmp_ge (tgt := 25) hx hb dc_R_all_7 (by decide) (fun c => ?_) (fun c => ?_)
      · have h := h.1 c
        refine lv_iload_n hx hb dc_R_all_25 rfl (lv_at hl 1 rfl) ?_
        exact w_iret hx hb hr hlocks hP hS h dc_R_all_26
      · have h := h.2 c
        refine lv_iload_n hx hb dc_R_all_10 rfl (lv_at hl 1 rfl) ?_
        refine lv_aload_n hx hb dc_R_all_11 rfl (lv_at hl 0 rfl) ?_
        refine va_get (D := D) (ci := 5) (v := .ref (ad 16)) (C := Rn_R) (T := Fn_R) (N := 4) hx hb hts in_R hown hK hP 24 rfl rfl 2 (by decide) (hts _ mw_152) (fun _ h9 => h9) rfl dc_R_all_12 ?_
        refine lv_iload_n hx hb dc_R_all_15 rfl (lv_at hl 2 rfl) ?_
        refine w_ild 16 (by decide) hx hb hK hP h.1 dc_R_all_16 ?_
        have h := h.2
        refine lv_iadd hx hb dc_R_all_17 ?_
        refine lv_topi (fun x101 ex101 => ?_)
        have h := h x101 ex101
        refine lv_istore_n (lv' := [(1, .int x101), (0, .ref (ad 24)), (2, .int y2)]) hx hb dc_R_all_18 rfl hl (by decide) rfl (fun ls hl => ?_)
        obtain ⟨x102, ex102⟩ : ∃ y : Int32, y = y2 + 1 := ⟨_, rfl⟩
        have h := h x102 ex102
        refine lv_iinc (v := x102) (lv' := [(2, .int x102), (1, .int x101), (0, .ref (ad 24))]) hx hb dc_R_all_19 hl (k := 2) rfl (by rw [ex102]; rfl) (by decide) rfl (fun ls hl => ?_)
        refine lv_goto (tgt := 4) hx hb dc_R_all_22 (by decide) ?_
        exact ih x101 x102 st h _ _ hP hS ls (lv_sub hl [2, 1, 0] rfl)
  have hl := lv_entry ([.ref (ad 24)]) (n := 3) (Nat.le_of_ble_eq_true rfl)
  rw [lg_entry_eq]
  generalize (lg_sl ([.ref (ad 24)]) ++ List.replicate (3 - (lg_sl ([.ref (ad 24)])).length) Slot.unset).toArray = ls at hl ⊢
  have hl : lv_has ls 3 [(0, .ref (ad 24))] := hl
  refine lv_iconst (v := 0) hx hb dc_R_all_0 (by decide) ?_
  refine lv_istore_n (lv' := [(1, .int 0), (0, .ref (ad 24))]) hx hb dc_R_all_1 rfl hl (by decide) rfl (fun ls hl => ?_)
  refine lv_iconst (v := 0) hx hb dc_R_all_2 (by decide) ?_
  refine lv_istore_n (lv' := [(2, .int 0), (1, .int 0), (0, .ref (ad 24))]) hx hb dc_R_all_3 rfl hl (by decide) rfl (fun ls hl => ?_)
  obtain ⟨n, h⟩ := h
  exact Lp_4 n 0 0 st h _ _ hP hS ls (lv_sub hl [2, 1, 0] rfl)
set_option maxHeartbeats 4000000 in
set_option maxRecDepth 100000 in
theorem ct_R_write (l : Launch) (D : va_G) (ad : Nat → Nat) (cA : Nat → ClassId) (w : Nat) (hJ : Jn_ ad) (x1 : Int32) (x2 : Int32) (x3 : Int32) (st : St_) (post : Int32 → St_ → Prop) (h : wp_R_write w x1 x2 x3 st post) : Met l yn_R_write (Cond.code yn_R_write bc_R_write 5 (some .int) :: Wk_) rm_R_write (Pw_ D ad cA w st [.ref (ad 24), .int x1, .int x2, .int x3]) (Qi_ D ad cA w post) 0 0 (Aw_ ad) := by
  refine Met.ofW (cc := bc_R_write) (maxL := 5) (ret := (some .int)) (by decide) rfl ?_
  intro p e s m args below meth c s₁ B hml hv
  obtain ⟨rfl, hP, hK, hN⟩ := hv
  have hx := B.exec
  have hb := B.bytes
  have hr := B.returns
  have hts : ∀ v ∈ Wk_, v.before [.ref (ad 24), .int x1, .int x2, .int x3].toArray s = true := fun v hv => atoms_spec (ws := Cond.code yn_R_write bc_R_write 5 (some .int) :: Wk_) B.pre v (List.mem_cons_of_mem _ hv)
  have hown : s.vm.findClass Rn_R = some m.cls := findClass_of_methodNamed B.named
  have hlocks := B.notSynchronized
  have hS : va_S (Aw_ ad) s.heap s.heap [] := va_S.rf
  have hl := lv_entry ([.ref (ad 24), .int x1, .int x2, .int x3]) (n := 5) (Nat.le_of_ble_eq_true rfl)
  rw [lg_entry_eq]
  generalize (lg_sl ([.ref (ad 24), .int x1, .int x2, .int x3]) ++ List.replicate (5 - (lg_sl ([.ref (ad 24), .int x1, .int x2, .int x3])).length) Slot.unset).toArray = ls at hl ⊢
  have hl : lv_has ls 5 [(0, .ref (ad 24)), (1, .int x1), (2, .int x2), (3, .int x3)] := hl
  refine lv_iload_n hx hb dc_R_write_0 rfl (lv_at hl 1 rfl) ?_
  refine w_cSi (y := yn_R_isMap) (index := 24) (n := 1) (own := Rn_R) hx hb hml hown hts hK hN hP hS (ct_R_isMap l D ad cA w hJ x1 st _ h) mw_140 mw_141 mw_142 mw_143 (by decide +kernel) ⟨Nat.le_of_ble_eq_true rfl, Nat.le_of_ble_eq_true rfl⟩ rfl rfl rfl hl.1 rfl (lv_room (Nat.le_of_ble_eq_true rfl)) dc_R_write_1 ⟨Nat.zero_le _, Nat.zero_le _⟩ (fun r102 st101 H locs hP hS h => ?_)
  refine lv_if_eq (tgt := 21) hx hb dc_R_write_4 (by decide) (fun c => ?_) (fun c => ?_)
  · have h := h.1 c
    refine lv_iconst (v := (-1)) hx hb dc_R_write_21 (by decide) ?_
    exact w_iret hx hb hr hlocks hP hS h dc_R_write_22
  · have h := h.2 c
    refine lv_iload_n hx hb dc_R_write_7 rfl (lv_at hl 2 rfl) ?_
    refine w_cSi (y := yn_R_isKey) (index := 28) (n := 1) (own := Rn_R) hx hb hml hown hts hK hN hP hS (ct_R_isKey l D ad cA w hJ x2 st101 _ h) mw_144 mw_145 mw_146 mw_143 (by decide +kernel) ⟨Nat.le_of_ble_eq_true rfl, Nat.le_of_ble_eq_true rfl⟩ rfl rfl rfl hl.1 rfl (lv_room (Nat.le_of_ble_eq_true rfl)) dc_R_write_8 ⟨Nat.zero_le _, Nat.zero_le _⟩ (fun r104 st103 H locs hP hS h => ?_)
    refine lv_if_eq (tgt := 21) hx hb dc_R_write_11 (by decide) (fun c => ?_) (fun c => ?_)
    · have h := h.1 c
      refine lv_iconst (v := (-1)) hx hb dc_R_write_21 (by decide) ?_
      exact w_iret hx hb hr hlocks hP hS h dc_R_write_22
    · have h := h.2 c
      refine lv_iload_n hx hb dc_R_write_14 rfl (lv_at hl 3 rfl) ?_
      refine w_cSi (y := yn_R_isStamp) (index := 31) (n := 1) (own := Rn_R) hx hb hml hown hts hK hN hP hS (ct_R_isStamp l D ad cA w hJ x3 st103 _ h) mw_148 mw_149 mw_150 mw_143 (by decide +kernel) ⟨Nat.le_of_ble_eq_true rfl, Nat.le_of_ble_eq_true rfl⟩ rfl rfl rfl hl.1 rfl (lv_room (Nat.le_of_ble_eq_true rfl)) dc_R_write_15 ⟨Nat.zero_le _, Nat.zero_le _⟩ (fun r106 st105 H locs hP hS h => ?_)
      refine lv_if_ne (tgt := 23) hx hb dc_R_write_18 (by decide) (fun c => ?_) (fun c => ?_)
      · have h := h.1 c
        refine lv_sipush (v := 4096) hx hb dc_R_write_23 (by decide) ?_
        refine lv_iload_n hx hb dc_R_write_26 rfl (lv_at hl 1 rfl) ?_
        refine lv_imul hx hb dc_R_write_27 ?_
        refine lv_iload_n hx hb dc_R_write_28 rfl (lv_at hl 2 rfl) ?_
        refine lv_iadd hx hb dc_R_write_29 ?_
        refine lv_topi (fun x107 ex107 => ?_)
        have h := h x107 ex107
        refine lv_istore (lv' := [(4, .int x107), (0, .ref (ad 24)), (1, .int x1), (2, .int x2), (3, .int x3)]) hx hb dc_R_write_30 hl (by decide) rfl (fun ls hl => ?_)
        refine lv_aload_n hx hb dc_R_write_32 rfl (lv_at hl 1 rfl) ?_
        refine va_get (D := D) (ci := 5) (v := .ref (ad 14)) (C := Rn_R) (T := Fn_R) (N := 4) hx hb hts in_R hown hK hP 24 rfl rfl 0 (by decide) (hts _ mw_151) (fun _ h9 => h9) rfl dc_R_write_33 ?_
        refine lv_iload hx hb dc_R_write_36 (lv_at hl 0 rfl) ?_
        refine w_ild 14 (by decide) hx hb hK hP h.1 dc_R_write_38 ?_
        have h := h.2
        refine lv_if_ne (tgt := 65) hx hb dc_R_write_39 (by decide) (fun c => ?_) (fun c => ?_)
        · have h := h.1 c
          refine lv_aload_n hx hb dc_R_write_65 rfl (lv_at hl 1 rfl) ?_
          refine va_get (D := D) (ci := 5) (v := .ref (ad 14)) (C := Rn_R) (T := Fn_R) (N := 4) hx hb hts in_R hown hK hP 24 rfl rfl 0 (by decide) (hts _ mw_151) (fun _ h9 => h9) rfl dc_R_write_66 ?_
          refine lv_iload hx hb dc_R_write_69 (lv_at hl 0 rfl) ?_
          refine lv_iload_n hx hb dc_R_write_71 rfl (lv_at hl 4 rfl) ?_
          refine lv_iconst (v := 1) hx hb dc_R_write_72 (by decide) ?_
          refine lv_iadd hx hb dc_R_write_73 ?_
          refine w_ist 14 (by decide) hJ hx hb hK hP hS h.1 dc_R_write_74 (fun H locs hP hS => ?_)
          obtain ⟨st108, est108⟩ : ∃ z : St_, z = ws_1 st105 14 (x107).toNatClampNeg (x3 + 1) := ⟨_, rfl⟩
          rw [← est108] at hP
          have h := h.2 st108 est108
          refine lv_aload_n hx hb dc_R_write_75 rfl (lv_at hl 1 rfl) ?_
          refine va_get (D := D) (ci := 5) (v := .ref (ad 16)) (C := Rn_R) (T := Fn_R) (N := 4) hx hb hts in_R hown hK hP 24 rfl rfl 2 (by decide) (hts _ mw_152) (fun _ h9 => h9) rfl dc_R_write_76 ?_
          refine lv_iload_n hx hb dc_R_write_79 rfl (lv_at hl 2 rfl) ?_
          refine w_ild 16 (by decide) hx hb hK hP h.1 dc_R_write_80 ?_
          have h := h.2
          exact w_iret hx hb hr hlocks hP hS h dc_R_write_81
        · have h := h.2 c
          refine lv_aload_n hx hb dc_R_write_42 rfl (lv_at hl 1 rfl) ?_
          refine w_cVi (y := yn_R_all) (C := Rn_R) (index := 34) (n := 0) (own := Rn_R) 24 hx hb hml hown hts hK hN hP hS (ct_R_all l D ad cA w hJ st105 _ h) mw_153 mw_154 mw_155 mw_156 mw_143 (by decide +kernel) ⟨Nat.le_of_ble_eq_true rfl, Nat.le_of_ble_eq_true rfl⟩ rfl rfl rfl rfl rfl hl.1 rfl (lv_room (Nat.le_of_ble_eq_true rfl)) dc_R_write_43 ⟨Nat.zero_le _, Nat.zero_le _⟩ (fun r110 st109 H locs hP hS h => ?_)
          refine lv_sipush (v := 600) hx hb dc_R_write_46 (by decide) ?_
          refine lv_icmp_ne (tgt := 55) hx hb dc_R_write_49 (by decide) (fun c => ?_) (fun c => ?_)
          · have h := h.1 c
            refine lv_aload_n hx hb dc_R_write_55 rfl (lv_at hl 1 rfl) ?_
            refine va_get (D := D) (ci := 5) (v := .ref (ad 16)) (C := Rn_R) (T := Fn_R) (N := 4) hx hb hts in_R hown hK hP 24 rfl rfl 2 (by decide) (hts _ mw_152) (fun _ h9 => h9) rfl dc_R_write_56 ?_
            refine lv_iload_n hx hb dc_R_write_59 rfl (lv_at hl 2 rfl) ?_
            refine lv_dup2_11 hx hb dc_R_write_60 rfl rfl ?_
            refine w_ild 16 (by decide) hx hb hK hP h.1 dc_R_write_61 ?_
            have h := h.2
            refine lv_iconst (v := 1) hx hb dc_R_write_62 (by decide) ?_
            refine lv_iadd hx hb dc_R_write_63 ?_
            refine w_ist 16 (by decide) hJ hx hb hK hP hS h.1 dc_R_write_64 (fun H locs hP hS => ?_)
            obtain ⟨st111, est111⟩ : ∃ z : St_, z = ws_1 st109 16 (x1).toNatClampNeg ((st109 16 (x1).toNatClampNeg) + 1) := ⟨_, rfl⟩
            rw [← est111] at hP
            have h := h.2 st111 est111
            refine lv_aload_n hx hb dc_R_write_65 rfl (lv_at hl 1 rfl) ?_
            refine va_get (D := D) (ci := 5) (v := .ref (ad 14)) (C := Rn_R) (T := Fn_R) (N := 4) hx hb hts in_R hown hK hP 24 rfl rfl 0 (by decide) (hts _ mw_151) (fun _ h9 => h9) rfl dc_R_write_66 ?_
            refine lv_iload hx hb dc_R_write_69 (lv_at hl 0 rfl) ?_
            refine lv_iload_n hx hb dc_R_write_71 rfl (lv_at hl 4 rfl) ?_
            refine lv_iconst (v := 1) hx hb dc_R_write_72 (by decide) ?_
            refine lv_iadd hx hb dc_R_write_73 ?_
            refine w_ist 14 (by decide) hJ hx hb hK hP hS h.1 dc_R_write_74 (fun H locs hP hS => ?_)
            obtain ⟨st112, est112⟩ : ∃ z : St_, z = ws_1 st111 14 (x107).toNatClampNeg (x3 + 1) := ⟨_, rfl⟩
            rw [← est112] at hP
            have h := h.2 st112 est112
            refine lv_aload_n hx hb dc_R_write_75 rfl (lv_at hl 1 rfl) ?_
            refine va_get (D := D) (ci := 5) (v := .ref (ad 16)) (C := Rn_R) (T := Fn_R) (N := 4) hx hb hts in_R hown hK hP 24 rfl rfl 2 (by decide) (hts _ mw_152) (fun _ h9 => h9) rfl dc_R_write_76 ?_
            refine lv_iload_n hx hb dc_R_write_79 rfl (lv_at hl 2 rfl) ?_
            refine w_ild 16 (by decide) hx hb hK hP h.1 dc_R_write_80 ?_
            have h := h.2
            exact w_iret hx hb hr hlocks hP hS h dc_R_write_81
          · have h := h.2 c
            refine lv_bipush (v := (-3)) hx hb dc_R_write_52 (by decide) ?_
            exact w_iret hx hb hr hlocks hP hS h dc_R_write_54
      · have h := h.2 c
        refine lv_iconst (v := (-1)) hx hb dc_R_write_21 (by decide) ?_
        exact w_iret hx hb hr hlocks hP hS h dc_R_write_22
set_option maxHeartbeats 4000000 in
set_option maxRecDepth 100000 in
theorem ct_S_spread (l : Launch) (D : va_G) (ad : Nat → Nat) (cA : Nat → ClassId) (w : Nat) (hJ : Jn_ ad) (x1 : Int32) (x2 : Int32) (x3 : Int32) (x4 : Int32) (x5 : Int32) (st : St_) (post : Int32 → St_ → Prop) (h : wp_S_spread w x1 x2 x3 x4 x5 st post) : Met l yn_S_spread (Cond.code yn_S_spread bc_S_spread 7 (some .int) :: Wk_) rm_S_spread (Pw_ D ad cA w st [.ref (ad 18), .int x1, .int x2, .int x3, .int x4, .int x5]) (Qi_ D ad cA w post) 0 0 (Aw_ ad) := by
  refine Met.ofW (cc := bc_S_spread) (maxL := 7) (ret := (some .int)) (by decide) rfl ?_
  intro p e s m args below meth c s₁ B hml hv
  obtain ⟨rfl, hP, hK, hN⟩ := hv
  have hx := B.exec
  have hb := B.bytes
  have hr := B.returns
  have hts : ∀ v ∈ Wk_, v.before [.ref (ad 18), .int x1, .int x2, .int x3, .int x4, .int x5].toArray s = true := fun v hv => atoms_spec (ws := Cond.code yn_S_spread bc_S_spread 7 (some .int) :: Wk_) B.pre v (List.mem_cons_of_mem _ hv)
  have hown : s.vm.findClass Rn_S = some m.cls := findClass_of_methodNamed B.named
  have hlocks := B.notSynchronized
  have hS : va_S (Aw_ ad) s.heap s.heap [] := va_S.rf
  have Lp_54 : ∀ (n : Nat) (y1 y2 y3 y4 y5 y6 : Int32) (st : St_), wp_S_spread_54 w post n y1 y2 y3 y4 y5 y6 st → ∀ (H : Heap) (locs : List Loc), va_P D sC_ (wd_ ad cA w st) H → va_S (Aw_ ad) s.heap H locs → ∀ ls : Array Slot, lv_has ls 7 [(0, .ref (ad 18)), (1, .int y1), (2, .int y2), (3, .int y3), (4, .int y4), (5, .int y5), (6, .int y6)] → W p l e (headSpec (Cond.code yn_S_spread bc_S_spread 7 (some .int) :: Wk_) rm_S_spread).room s m [.ref (ad 18), .int x1, .int x2, .int x3, .int x4, .int x5].toArray below meth c H locs 0 0 (MQ below (Qi_ D ad cA w post) [.ref (ad 18), .int x1, .int x2, .int x3, .int x4, .int x5].toArray s 0 0 (Aw_ ad)) (F0 m 54 ls []) := by
    intro n
    induction n with
    | zero => intro y1 y2 y3 y4 y5 y6 st h; exact h.elim
    | succ n ih =>
      intro y1 y2 y3 y4 y5 y6 st h H locs hP hS ls hl
      refine lv_iload hx hb dc_S_spread_54 (lv_at hl 6 rfl) ?_
      refine lv_iload hx hb dc_S_spread_56 (lv_at hl 4 rfl) ?_
      refine lv_icmp_ge (tgt := 86) hx hb dc_S_spread_58 (by decide) (fun c => ?_) (fun c => ?_)
      · have h := h.1 c
        refine lv_iload hx hb dc_S_spread_86 (lv_at hl 6 rfl) ?_
        exact w_iret hx hb hr hlocks hP hS h dc_S_spread_88
      · have h := h.2 c
        refine lv_aload_n hx hb dc_S_spread_61 rfl (lv_at hl 0 rfl) ?_
        refine lv_iload_n hx hb dc_S_spread_62 rfl (lv_at hl 1 rfl) ?_
        refine lv_iload_n hx hb dc_S_spread_63 rfl (lv_at hl 2 rfl) ?_
        refine lv_iload hx hb dc_S_spread_64 (lv_at hl 6 rfl) ?_
        refine lv_iload_n hx hb dc_S_spread_66 rfl (lv_at hl 3 rfl) ?_
        refine lv_imul hx hb dc_S_spread_67 ?_
        refine lv_iadd hx hb dc_S_spread_68 ?_
        refine lv_iload hx hb dc_S_spread_69 (lv_at hl 5 rfl) ?_
        refine lv_iload hx hb dc_S_spread_71 (lv_at hl 6 rfl) ?_
        refine lv_iadd hx hb dc_S_spread_73 ?_
        refine w_cVi (y := yn_S_write) (C := Rn_S) (index := 81) (n := 3) (own := Rn_S) 18 hx hb hml hown hts hK hN hP hS (ct_S_write l D ad cA w hJ y1 (y2 + (y6 * y3)) (y5 + y6) st _ h) mw_139 mw_158 mw_159 mw_160 mw_3 (by decide +kernel) ⟨Nat.le_of_ble_eq_true rfl, Nat.le_of_ble_eq_true rfl⟩ rfl rfl rfl rfl rfl hl.1 rfl (lv_room (Nat.le_of_ble_eq_true rfl)) dc_S_spread_74 ⟨Nat.zero_le _, Nat.zero_le _⟩ (fun r108 st107 H locs hP hS h => ?_)
        refine lv_if_lt (tgt := 86) hx hb dc_S_spread_77 (by decide) (fun c => ?_) (fun c => ?_)
        · have h := h.1 c
          refine lv_iload hx hb dc_S_spread_86 (lv_at hl 6 rfl) ?_
          exact w_iret hx hb hr hlocks hP hS h dc_S_spread_88
        · have h := h.2 c
          obtain ⟨x109, ex109⟩ : ∃ y : Int32, y = y6 + 1 := ⟨_, rfl⟩
          have h := h x109 ex109
          refine lv_iinc (v := x109) (lv' := [(6, .int x109), (0, .ref (ad 18)), (1, .int y1), (2, .int y2), (3, .int y3), (4, .int y4), (5, .int y5)]) hx hb dc_S_spread_80 hl (k := 6) rfl (by rw [ex109]; rfl) (by decide) rfl (fun ls hl => ?_)
          refine lv_goto (tgt := 54) hx hb dc_S_spread_83 (by decide) ?_
          exact ih y1 y2 y3 y4 y5 x109 st107 h _ _ hP hS ls (lv_sub hl [1, 2, 3, 4, 5, 6, 0] rfl)
  have hl := lv_entry ([.ref (ad 18), .int x1, .int x2, .int x3, .int x4, .int x5]) (n := 7) (Nat.le_of_ble_eq_true rfl)
  rw [lg_entry_eq]
  generalize (lg_sl ([.ref (ad 18), .int x1, .int x2, .int x3, .int x4, .int x5]) ++ List.replicate (7 - (lg_sl ([.ref (ad 18), .int x1, .int x2, .int x3, .int x4, .int x5])).length) Slot.unset).toArray = ls at hl ⊢
  have hl : lv_has ls 7 [(0, .ref (ad 18)), (1, .int x1), (2, .int x2), (3, .int x3), (4, .int x4), (5, .int x5)] := hl
  refine lv_iload_n hx hb dc_S_spread_0 rfl (lv_at hl 1 rfl) ?_
  refine w_cSi (y := yn_S_isMap) (index := 53) (n := 1) (own := Rn_S) hx hb hml hown hts hK hN hP hS (ct_S_isMap l D ad cA w hJ x1 st _ h) mw_0 mw_1 mw_2 mw_3 (by decide +kernel) ⟨Nat.le_of_ble_eq_true rfl, Nat.le_of_ble_eq_true rfl⟩ rfl rfl rfl hl.1 rfl (lv_room (Nat.le_of_ble_eq_true rfl)) dc_S_spread_1 ⟨Nat.zero_le _, Nat.zero_le _⟩ (fun r102 st101 H locs hP hS h => ?_)
  refine lv_if_eq (tgt := 22) hx hb dc_S_spread_4 (by decide) (fun c => ?_) (fun c => ?_)
  · have h := h.1 c
    refine lv_iconst (v := (-1)) hx hb dc_S_spread_22 (by decide) ?_
    exact w_iret hx hb hr hlocks hP hS h dc_S_spread_23
  · have h := h.2 c
    refine lv_iload_n hx hb dc_S_spread_7 rfl (lv_at hl 2 rfl) ?_
    refine w_cSi (y := yn_S_isKey) (index := 57) (n := 1) (own := Rn_S) hx hb hml hown hts hK hN hP hS (ct_S_isKey l D ad cA w hJ x2 st101 _ h) mw_4 mw_5 mw_6 mw_3 (by decide +kernel) ⟨Nat.le_of_ble_eq_true rfl, Nat.le_of_ble_eq_true rfl⟩ rfl rfl rfl hl.1 rfl (lv_room (Nat.le_of_ble_eq_true rfl)) dc_S_spread_8 ⟨Nat.zero_le _, Nat.zero_le _⟩ (fun r104 st103 H locs hP hS h => ?_)
    refine lv_if_eq (tgt := 22) hx hb dc_S_spread_11 (by decide) (fun c => ?_) (fun c => ?_)
    · have h := h.1 c
      refine lv_iconst (v := (-1)) hx hb dc_S_spread_22 (by decide) ?_
      exact w_iret hx hb hr hlocks hP hS h dc_S_spread_23
    · have h := h.2 c
      refine lv_iload hx hb dc_S_spread_14 (lv_at hl 5 rfl) ?_
      refine w_cSi (y := yn_S_isStamp) (index := 60) (n := 1) (own := Rn_S) hx hb hml hown hts hK hN hP hS (ct_S_isStamp l D ad cA w hJ x5 st103 _ h) mw_8 mw_9 mw_10 mw_3 (by decide +kernel) ⟨Nat.le_of_ble_eq_true rfl, Nat.le_of_ble_eq_true rfl⟩ rfl rfl rfl hl.1 rfl (lv_room (Nat.le_of_ble_eq_true rfl)) dc_S_spread_16 ⟨Nat.zero_le _, Nat.zero_le _⟩ (fun r106 st105 H locs hP hS h => ?_)
      refine lv_if_ne (tgt := 24) hx hb dc_S_spread_19 (by decide) (fun c => ?_) (fun c => ?_)
      · have h := h.1 c
        refine lv_iload_n hx hb dc_S_spread_24 rfl (lv_at hl 3 rfl) ?_
        refine lv_iconst (v := 1) hx hb dc_S_spread_25 (by decide) ?_
        refine lv_icmp_lt (tgt := 49) hx hb dc_S_spread_26 (by decide) (fun c => ?_) (fun c => ?_)
        · have h := h.1 c
          refine lv_iconst (v := (-1)) hx hb dc_S_spread_49 (by decide) ?_
          exact w_iret hx hb hr hlocks hP hS h dc_S_spread_50
        · have h := h.2 c
          refine lv_iload_n hx hb dc_S_spread_29 rfl (lv_at hl 3 rfl) ?_
          refine lv_sipush (v := 4095) hx hb dc_S_spread_30 (by decide) ?_
          refine lv_icmp_gt (tgt := 49) hx hb dc_S_spread_33 (by decide) (fun c => ?_) (fun c => ?_)
          · have h := h.1 c
            refine lv_iconst (v := (-1)) hx hb dc_S_spread_49 (by decide) ?_
            exact w_iret hx hb hr hlocks hP hS h dc_S_spread_50
          · have h := h.2 c
            refine lv_iload hx hb dc_S_spread_36 (lv_at hl 4 rfl) ?_
            refine lv_if_lt (tgt := 49) hx hb dc_S_spread_38 (by decide) (fun c => ?_) (fun c => ?_)
            · have h := h.1 c
              refine lv_iconst (v := (-1)) hx hb dc_S_spread_49 (by decide) ?_
              exact w_iret hx hb hr hlocks hP hS h dc_S_spread_50
            · have h := h.2 c
              refine lv_iload hx hb dc_S_spread_41 (lv_at hl 4 rfl) ?_
              refine lv_sipush (v := 600) hx hb dc_S_spread_43 (by decide) ?_
              refine lv_icmp_le (tgt := 51) hx hb dc_S_spread_46 (by decide) (fun c => ?_) (fun c => ?_)
              · have h := h.1 c
                refine lv_iconst (v := 0) hx hb dc_S_spread_51 (by decide) ?_
                refine lv_istore (lv' := [(6, .int 0), (0, .ref (ad 18)), (1, .int x1), (2, .int x2), (3, .int x3), (4, .int x4), (5, .int x5)]) hx hb dc_S_spread_52 hl (by decide) rfl (fun ls hl => ?_)
                obtain ⟨n, h⟩ := h
                exact Lp_54 n x1 x2 x3 x4 x5 0 st105 h _ _ hP hS ls (lv_sub hl [1, 2, 3, 4, 5, 6, 0] rfl)
              · have h := h.2 c
                refine lv_iconst (v := (-1)) hx hb dc_S_spread_49 (by decide) ?_
                exact w_iret hx hb hr hlocks hP hS h dc_S_spread_50
      · have h := h.2 c
        refine lv_iconst (v := (-1)) hx hb dc_S_spread_22 (by decide) ?_
        exact w_iret hx hb hr hlocks hP hS h dc_S_spread_23
set_option maxHeartbeats 4000000 in
set_option maxRecDepth 100000 in
theorem ct_R_spread (l : Launch) (D : va_G) (ad : Nat → Nat) (cA : Nat → ClassId) (w : Nat) (hJ : Jn_ ad) (x1 : Int32) (x2 : Int32) (x3 : Int32) (x4 : Int32) (x5 : Int32) (st : St_) (post : Int32 → St_ → Prop) (h : wp_R_spread w x1 x2 x3 x4 x5 st post) : Met l yn_R_spread (Cond.code yn_R_spread bc_R_spread 7 (some .int) :: Wk_) rm_R_spread (Pw_ D ad cA w st [.ref (ad 24), .int x1, .int x2, .int x3, .int x4, .int x5]) (Qi_ D ad cA w post) 0 0 (Aw_ ad) := by
  refine Met.ofW (cc := bc_R_spread) (maxL := 7) (ret := (some .int)) (by decide) rfl ?_
  intro p e s m args below meth c s₁ B hml hv
  obtain ⟨rfl, hP, hK, hN⟩ := hv
  have hx := B.exec
  have hb := B.bytes
  have hr := B.returns
  have hts : ∀ v ∈ Wk_, v.before [.ref (ad 24), .int x1, .int x2, .int x3, .int x4, .int x5].toArray s = true := fun v hv => atoms_spec (ws := Cond.code yn_R_spread bc_R_spread 7 (some .int) :: Wk_) B.pre v (List.mem_cons_of_mem _ hv)
  have hown : s.vm.findClass Rn_R = some m.cls := findClass_of_methodNamed B.named
  have hlocks := B.notSynchronized
  have hS : va_S (Aw_ ad) s.heap s.heap [] := va_S.rf
  have Lp_52 : ∀ (n : Nat) (y1 y2 y3 y4 y5 y6 : Int32) (st : St_), wp_R_spread_52 w post n y1 y2 y3 y4 y5 y6 st → ∀ (H : Heap) (locs : List Loc), va_P D sC_ (wd_ ad cA w st) H → va_S (Aw_ ad) s.heap H locs → ∀ ls : Array Slot, lv_has ls 7 [(0, .ref (ad 24)), (1, .int y1), (2, .int y2), (3, .int y3), (4, .int y4), (5, .int y5), (6, .int y6)] → W p l e (headSpec (Cond.code yn_R_spread bc_R_spread 7 (some .int) :: Wk_) rm_R_spread).room s m [.ref (ad 24), .int x1, .int x2, .int x3, .int x4, .int x5].toArray below meth c H locs 0 0 (MQ below (Qi_ D ad cA w post) [.ref (ad 24), .int x1, .int x2, .int x3, .int x4, .int x5].toArray s 0 0 (Aw_ ad)) (F0 m 52 ls []) := by
    intro n
    induction n with
    | zero => intro y1 y2 y3 y4 y5 y6 st h; exact h.elim
    | succ n ih =>
      intro y1 y2 y3 y4 y5 y6 st h H locs hP hS ls hl
      refine lv_iload hx hb dc_R_spread_52 (lv_at hl 6 rfl) ?_
      refine lv_iload hx hb dc_R_spread_54 (lv_at hl 4 rfl) ?_
      refine lv_icmp_ge (tgt := 84) hx hb dc_R_spread_56 (by decide) (fun c => ?_) (fun c => ?_)
      · have h := h.1 c
        refine lv_iload hx hb dc_R_spread_84 (lv_at hl 6 rfl) ?_
        exact w_iret hx hb hr hlocks hP hS h dc_R_spread_86
      · have h := h.2 c
        refine lv_aload_n hx hb dc_R_spread_59 rfl (lv_at hl 0 rfl) ?_
        refine lv_iload_n hx hb dc_R_spread_60 rfl (lv_at hl 1 rfl) ?_
        refine lv_iload_n hx hb dc_R_spread_61 rfl (lv_at hl 2 rfl) ?_
        refine lv_iload hx hb dc_R_spread_62 (lv_at hl 6 rfl) ?_
        refine lv_iload_n hx hb dc_R_spread_64 rfl (lv_at hl 3 rfl) ?_
        refine lv_imul hx hb dc_R_spread_65 ?_
        refine lv_iadd hx hb dc_R_spread_66 ?_
        refine lv_iload hx hb dc_R_spread_67 (lv_at hl 5 rfl) ?_
        refine lv_iload hx hb dc_R_spread_69 (lv_at hl 6 rfl) ?_
        refine lv_iadd hx hb dc_R_spread_71 ?_
        refine w_cVi (y := yn_R_write) (C := Rn_R) (index := 38) (n := 3) (own := Rn_R) 24 hx hb hml hown hts hK hN hP hS (ct_R_write l D ad cA w hJ y1 (y2 + (y6 * y3)) (y5 + y6) st _ h) mw_157 mw_162 mw_163 mw_164 mw_143 (by decide +kernel) ⟨Nat.le_of_ble_eq_true rfl, Nat.le_of_ble_eq_true rfl⟩ rfl rfl rfl rfl rfl hl.1 rfl (lv_room (Nat.le_of_ble_eq_true rfl)) dc_R_spread_72 ⟨Nat.zero_le _, Nat.zero_le _⟩ (fun r108 st107 H locs hP hS h => ?_)
        refine lv_if_lt (tgt := 84) hx hb dc_R_spread_75 (by decide) (fun c => ?_) (fun c => ?_)
        · have h := h.1 c
          refine lv_iload hx hb dc_R_spread_84 (lv_at hl 6 rfl) ?_
          exact w_iret hx hb hr hlocks hP hS h dc_R_spread_86
        · have h := h.2 c
          obtain ⟨x109, ex109⟩ : ∃ y : Int32, y = y6 + 1 := ⟨_, rfl⟩
          have h := h x109 ex109
          refine lv_iinc (v := x109) (lv' := [(6, .int x109), (0, .ref (ad 24)), (1, .int y1), (2, .int y2), (3, .int y3), (4, .int y4), (5, .int y5)]) hx hb dc_R_spread_78 hl (k := 6) rfl (by rw [ex109]; rfl) (by decide) rfl (fun ls hl => ?_)
          refine lv_goto (tgt := 52) hx hb dc_R_spread_81 (by decide) ?_
          exact ih y1 y2 y3 y4 y5 x109 st107 h _ _ hP hS ls (lv_sub hl [1, 2, 3, 4, 5, 6, 0] rfl)
  have hl := lv_entry ([.ref (ad 24), .int x1, .int x2, .int x3, .int x4, .int x5]) (n := 7) (Nat.le_of_ble_eq_true rfl)
  rw [lg_entry_eq]
  generalize (lg_sl ([.ref (ad 24), .int x1, .int x2, .int x3, .int x4, .int x5]) ++ List.replicate (7 - (lg_sl ([.ref (ad 24), .int x1, .int x2, .int x3, .int x4, .int x5])).length) Slot.unset).toArray = ls at hl ⊢
  have hl : lv_has ls 7 [(0, .ref (ad 24)), (1, .int x1), (2, .int x2), (3, .int x3), (4, .int x4), (5, .int x5)] := hl
  refine lv_iload_n hx hb dc_R_spread_0 rfl (lv_at hl 1 rfl) ?_
  refine w_cSi (y := yn_R_isMap) (index := 24) (n := 1) (own := Rn_R) hx hb hml hown hts hK hN hP hS (ct_R_isMap l D ad cA w hJ x1 st _ h) mw_140 mw_141 mw_142 mw_143 (by decide +kernel) ⟨Nat.le_of_ble_eq_true rfl, Nat.le_of_ble_eq_true rfl⟩ rfl rfl rfl hl.1 rfl (lv_room (Nat.le_of_ble_eq_true rfl)) dc_R_spread_1 ⟨Nat.zero_le _, Nat.zero_le _⟩ (fun r102 st101 H locs hP hS h => ?_)
  refine lv_if_eq (tgt := 47) hx hb dc_R_spread_4 (by decide) (fun c => ?_) (fun c => ?_)
  · have h := h.1 c
    refine lv_iconst (v := (-1)) hx hb dc_R_spread_47 (by decide) ?_
    exact w_iret hx hb hr hlocks hP hS h dc_R_spread_48
  · have h := h.2 c
    refine lv_iload_n hx hb dc_R_spread_7 rfl (lv_at hl 2 rfl) ?_
    refine w_cSi (y := yn_R_isKey) (index := 28) (n := 1) (own := Rn_R) hx hb hml hown hts hK hN hP hS (ct_R_isKey l D ad cA w hJ x2 st101 _ h) mw_144 mw_145 mw_146 mw_143 (by decide +kernel) ⟨Nat.le_of_ble_eq_true rfl, Nat.le_of_ble_eq_true rfl⟩ rfl rfl rfl hl.1 rfl (lv_room (Nat.le_of_ble_eq_true rfl)) dc_R_spread_8 ⟨Nat.zero_le _, Nat.zero_le _⟩ (fun r104 st103 H locs hP hS h => ?_)
    refine lv_if_eq (tgt := 47) hx hb dc_R_spread_11 (by decide) (fun c => ?_) (fun c => ?_)
    · have h := h.1 c
      refine lv_iconst (v := (-1)) hx hb dc_R_spread_47 (by decide) ?_
      exact w_iret hx hb hr hlocks hP hS h dc_R_spread_48
    · have h := h.2 c
      refine lv_iload_n hx hb dc_R_spread_14 rfl (lv_at hl 3 rfl) ?_
      refine lv_iconst (v := 1) hx hb dc_R_spread_15 (by decide) ?_
      refine lv_icmp_lt (tgt := 47) hx hb dc_R_spread_16 (by decide) (fun c => ?_) (fun c => ?_)
      · have h := h.1 c
        refine lv_iconst (v := (-1)) hx hb dc_R_spread_47 (by decide) ?_
        exact w_iret hx hb hr hlocks hP hS h dc_R_spread_48
      · have h := h.2 c
        refine lv_iload_n hx hb dc_R_spread_19 rfl (lv_at hl 3 rfl) ?_
        refine lv_sipush (v := 4095) hx hb dc_R_spread_20 (by decide) ?_
        refine lv_icmp_gt (tgt := 47) hx hb dc_R_spread_23 (by decide) (fun c => ?_) (fun c => ?_)
        · have h := h.1 c
          refine lv_iconst (v := (-1)) hx hb dc_R_spread_47 (by decide) ?_
          exact w_iret hx hb hr hlocks hP hS h dc_R_spread_48
        · have h := h.2 c
          refine lv_iload hx hb dc_R_spread_26 (lv_at hl 4 rfl) ?_
          refine lv_if_lt (tgt := 47) hx hb dc_R_spread_28 (by decide) (fun c => ?_) (fun c => ?_)
          · have h := h.1 c
            refine lv_iconst (v := (-1)) hx hb dc_R_spread_47 (by decide) ?_
            exact w_iret hx hb hr hlocks hP hS h dc_R_spread_48
          · have h := h.2 c
            refine lv_iload hx hb dc_R_spread_31 (lv_at hl 4 rfl) ?_
            refine lv_sipush (v := 600) hx hb dc_R_spread_33 (by decide) ?_
            refine lv_icmp_gt (tgt := 47) hx hb dc_R_spread_36 (by decide) (fun c => ?_) (fun c => ?_)
            · have h := h.1 c
              refine lv_iconst (v := (-1)) hx hb dc_R_spread_47 (by decide) ?_
              exact w_iret hx hb hr hlocks hP hS h dc_R_spread_48
            · have h := h.2 c
              refine lv_iload hx hb dc_R_spread_39 (lv_at hl 5 rfl) ?_
              refine w_cSi (y := yn_R_isStamp) (index := 31) (n := 1) (own := Rn_R) hx hb hml hown hts hK hN hP hS (ct_R_isStamp l D ad cA w hJ x5 st103 _ h) mw_148 mw_149 mw_150 mw_143 (by decide +kernel) ⟨Nat.le_of_ble_eq_true rfl, Nat.le_of_ble_eq_true rfl⟩ rfl rfl rfl hl.1 rfl (lv_room (Nat.le_of_ble_eq_true rfl)) dc_R_spread_41 ⟨Nat.zero_le _, Nat.zero_le _⟩ (fun r106 st105 H locs hP hS h => ?_)
              refine lv_if_ne (tgt := 49) hx hb dc_R_spread_44 (by decide) (fun c => ?_) (fun c => ?_)
              · have h := h.1 c
                refine lv_iconst (v := 0) hx hb dc_R_spread_49 (by decide) ?_
                refine lv_istore (lv' := [(6, .int 0), (0, .ref (ad 24)), (1, .int x1), (2, .int x2), (3, .int x3), (4, .int x4), (5, .int x5)]) hx hb dc_R_spread_50 hl (by decide) rfl (fun ls hl => ?_)
                obtain ⟨n, h⟩ := h
                exact Lp_52 n x1 x2 x3 x4 x5 0 st105 h _ _ hP hS ls (lv_sub hl [1, 2, 3, 4, 5, 6, 0] rfl)
              · have h := h.2 c
                refine lv_iconst (v := (-1)) hx hb dc_R_spread_47 (by decide) ?_
                exact w_iret hx hb hr hlocks hP hS h dc_R_spread_48
end
section
set_option maxHeartbeats 4000000 in
set_option maxRecDepth 100000 in
theorem ct_S_read (l : Launch) (D : va_G) (ad : Nat → Nat) (cA : Nat → ClassId) (w : Nat) (hJ : Jn_ ad) (x1 : Int32) (x2 : Int32) (st : St_) (post : Int32 → St_ → Prop) (h : wp_S_read w x1 x2 st post) : Met l yn_S_read (Cond.code yn_S_read bc_S_read 3 (some .int) :: Wk_) rm_S_read (Pw_ D ad cA w st [.ref (ad 18), .int x1, .int x2]) (Qi_ D ad cA w post) 0 0 (Aw_ ad) := by
  refine Met.ofW (cc := bc_S_read) (maxL := 3) (ret := (some .int)) (by decide) rfl ?_
  intro p e s m args below meth c s₁ B hml hv
  obtain ⟨rfl, hP, hK, hN⟩ := hv
  have hx := B.exec
  have hb := B.bytes
  have hr := B.returns
  have hts : ∀ v ∈ Wk_, v.before [.ref (ad 18), .int x1, .int x2].toArray s = true := fun v hv => atoms_spec (ws := Cond.code yn_S_read bc_S_read 3 (some .int) :: Wk_) B.pre v (List.mem_cons_of_mem _ hv)
  have hown : s.vm.findClass Rn_S = some m.cls := findClass_of_methodNamed B.named
  have hlocks := B.notSynchronized
  have hS : va_S (Aw_ ad) s.heap s.heap [] := va_S.rf
  have hl := lv_entry ([.ref (ad 18), .int x1, .int x2]) (n := 3) (Nat.le_of_ble_eq_true rfl)
  rw [lg_entry_eq]
  generalize (lg_sl ([.ref (ad 18), .int x1, .int x2]) ++ List.replicate (3 - (lg_sl ([.ref (ad 18), .int x1, .int x2])).length) Slot.unset).toArray = ls at hl ⊢
  have hl : lv_has ls 3 [(0, .ref (ad 18)), (1, .int x1), (2, .int x2)] := hl
  refine lv_iload_n hx hb dc_S_read_0 rfl (lv_at hl 1 rfl) ?_
  refine w_cSi (y := yn_S_isMap) (index := 53) (n := 1) (own := Rn_S) hx hb hml hown hts hK hN hP hS (ct_S_isMap l D ad cA w hJ x1 st _ h) mw_0 mw_1 mw_2 mw_3 (by decide +kernel) ⟨Nat.le_of_ble_eq_true rfl, Nat.le_of_ble_eq_true rfl⟩ rfl rfl rfl hl.1 rfl (lv_room (Nat.le_of_ble_eq_true rfl)) dc_S_read_1 ⟨Nat.zero_le _, Nat.zero_le _⟩ (fun r102 st101 H locs hP hS h => ?_)
  refine lv_if_eq (tgt := 14) hx hb dc_S_read_4 (by decide) (fun c => ?_) (fun c => ?_)
  · have h := h.1 c
    refine lv_iconst (v := (-1)) hx hb dc_S_read_14 (by decide) ?_
    exact w_iret hx hb hr hlocks hP hS h dc_S_read_15
  · have h := h.2 c
    refine lv_iload_n hx hb dc_S_read_7 rfl (lv_at hl 2 rfl) ?_
    refine w_cSi (y := yn_S_isKey) (index := 57) (n := 1) (own := Rn_S) hx hb hml hown hts hK hN hP hS (ct_S_isKey l D ad cA w hJ x2 st101 _ h) mw_4 mw_5 mw_6 mw_3 (by decide +kernel) ⟨Nat.le_of_ble_eq_true rfl, Nat.le_of_ble_eq_true rfl⟩ rfl rfl rfl hl.1 rfl (lv_room (Nat.le_of_ble_eq_true rfl)) dc_S_read_8 ⟨Nat.zero_le _, Nat.zero_le _⟩ (fun r104 st103 H locs hP hS h => ?_)
    refine lv_if_ne (tgt := 16) hx hb dc_S_read_11 (by decide) (fun c => ?_) (fun c => ?_)
    · have h := h.1 c
      refine lv_aload_n hx hb dc_S_read_16 rfl (lv_at hl 0 rfl) ?_
      refine va_get (D := D) (ci := 0) (v := .ref (ad 20)) (C := Rn_S) (T := Fn_S) (N := 5) hx hb hts in_S hown hK hP 18 rfl rfl 1 (by decide) (hts _ mw_11) (fun _ h9 => h9) rfl dc_S_read_17 ?_
      refine lv_aload_n hx hb dc_S_read_20 rfl (lv_at hl 0 rfl) ?_
      refine va_get (D := D) (ci := 0) (v := .ref (ad 22)) (C := Rn_S) (T := Fn_S) (N := 5) hx hb hts in_S hown hK hP 18 rfl rfl 3 (by decide) (hts _ mw_12) (fun _ h9 => h9) rfl dc_S_read_21 ?_
      refine va_getN (D := D) (ci := 4) (v := .ref (ad 10)) (C := Rn_P) (T := Fn_P) (N := 3) (host := nh_) hx hb hts in_P hown hK hP 22 rfl rfl 0 (by decide) (va_Nw.use rfl (hN.1 _ nf_0)) (fun _ h9 => h9) rfl dc_S_read_24 ?_
      refine lv_iload_n hx hb dc_S_read_27 rfl (lv_at hl 1 rfl) ?_
      refine w_ild 10 (by decide) hx hb hK hP h.1 dc_S_read_28 ?_
      have h := h.2
      refine lv_iload_n hx hb dc_S_read_29 rfl (lv_at hl 2 rfl) ?_
      refine w_cVi (y := yn_T_stampOf) (C := Rn_T) (index := 67) (n := 2) (own := Rn_S) 20 hx hb hml hown hts hK hN hP hS (ct_T_stampOf l D ad cA w hJ (st103 10 (x1).toNatClampNeg) x2 st103 _ h) mw_60 mw_61 mw_62 mw_63 mw_59 (by decide +kernel) ⟨Nat.le_of_ble_eq_true rfl, Nat.le_of_ble_eq_true rfl⟩ rfl rfl rfl rfl rfl hl.1 rfl (lv_room (Nat.le_of_ble_eq_true rfl)) dc_S_read_30 ⟨Nat.zero_le _, Nat.zero_le _⟩ (fun r106 st105 H locs hP hS h => ?_)
      exact w_iret hx hb hr hlocks hP hS h dc_S_read_33
    · have h := h.2 c
      refine lv_iconst (v := (-1)) hx hb dc_S_read_14 (by decide) ?_
      exact w_iret hx hb hr hlocks hP hS h dc_S_read_15
set_option maxHeartbeats 4000000 in
set_option maxRecDepth 100000 in
theorem ct_R_read (l : Launch) (D : va_G) (ad : Nat → Nat) (cA : Nat → ClassId) (w : Nat) (hJ : Jn_ ad) (x1 : Int32) (x2 : Int32) (st : St_) (post : Int32 → St_ → Prop) (h : wp_R_read w x1 x2 st post) : Met l yn_R_read (Cond.code yn_R_read bc_R_read 4 (some .int) :: Wk_) rm_R_read (Pw_ D ad cA w st [.ref (ad 24), .int x1, .int x2]) (Qi_ D ad cA w post) 0 0 (Aw_ ad) := by
  refine Met.ofW (cc := bc_R_read) (maxL := 4) (ret := (some .int)) (by decide) rfl ?_
  intro p e s m args below meth c s₁ B hml hv
  obtain ⟨rfl, hP, hK, hN⟩ := hv
  have hx := B.exec
  have hb := B.bytes
  have hr := B.returns
  have hts : ∀ v ∈ Wk_, v.before [.ref (ad 24), .int x1, .int x2].toArray s = true := fun v hv => atoms_spec (ws := Cond.code yn_R_read bc_R_read 4 (some .int) :: Wk_) B.pre v (List.mem_cons_of_mem _ hv)
  have hown : s.vm.findClass Rn_R = some m.cls := findClass_of_methodNamed B.named
  have hlocks := B.notSynchronized
  have hS : va_S (Aw_ ad) s.heap s.heap [] := va_S.rf
  have hl := lv_entry ([.ref (ad 24), .int x1, .int x2]) (n := 4) (Nat.le_of_ble_eq_true rfl)
  rw [lg_entry_eq]
  generalize (lg_sl ([.ref (ad 24), .int x1, .int x2]) ++ List.replicate (4 - (lg_sl ([.ref (ad 24), .int x1, .int x2])).length) Slot.unset).toArray = ls at hl ⊢
  have hl : lv_has ls 4 [(0, .ref (ad 24)), (1, .int x1), (2, .int x2)] := hl
  refine lv_iload_n hx hb dc_R_read_0 rfl (lv_at hl 1 rfl) ?_
  refine w_cSi (y := yn_R_isMap) (index := 24) (n := 1) (own := Rn_R) hx hb hml hown hts hK hN hP hS (ct_R_isMap l D ad cA w hJ x1 st _ h) mw_140 mw_141 mw_142 mw_143 (by decide +kernel) ⟨Nat.le_of_ble_eq_true rfl, Nat.le_of_ble_eq_true rfl⟩ rfl rfl rfl hl.1 rfl (lv_room (Nat.le_of_ble_eq_true rfl)) dc_R_read_1 ⟨Nat.zero_le _, Nat.zero_le _⟩ (fun r102 st101 H locs hP hS h => ?_)
  refine lv_if_eq (tgt := 14) hx hb dc_R_read_4 (by decide) (fun c => ?_) (fun c => ?_)
  · have h := h.1 c
    refine lv_iconst (v := (-1)) hx hb dc_R_read_14 (by decide) ?_
    exact w_iret hx hb hr hlocks hP hS h dc_R_read_15
  · have h := h.2 c
    refine lv_iload_n hx hb dc_R_read_7 rfl (lv_at hl 2 rfl) ?_
    refine w_cSi (y := yn_R_isKey) (index := 28) (n := 1) (own := Rn_R) hx hb hml hown hts hK hN hP hS (ct_R_isKey l D ad cA w hJ x2 st101 _ h) mw_144 mw_145 mw_146 mw_143 (by decide +kernel) ⟨Nat.le_of_ble_eq_true rfl, Nat.le_of_ble_eq_true rfl⟩ rfl rfl rfl hl.1 rfl (lv_room (Nat.le_of_ble_eq_true rfl)) dc_R_read_8 ⟨Nat.zero_le _, Nat.zero_le _⟩ (fun r104 st103 H locs hP hS h => ?_)
    refine lv_if_ne (tgt := 16) hx hb dc_R_read_11 (by decide) (fun c => ?_) (fun c => ?_)
    · have h := h.1 c
      refine lv_aload_n hx hb dc_R_read_16 rfl (lv_at hl 0 rfl) ?_
      refine va_get (D := D) (ci := 5) (v := .ref (ad 14)) (C := Rn_R) (T := Fn_R) (N := 4) hx hb hts in_R hown hK hP 24 rfl rfl 0 (by decide) (hts _ mw_151) (fun _ h9 => h9) rfl dc_R_read_17 ?_
      refine lv_sipush (v := 4096) hx hb dc_R_read_20 (by decide) ?_
      refine lv_iload_n hx hb dc_R_read_23 rfl (lv_at hl 1 rfl) ?_
      refine lv_imul hx hb dc_R_read_24 ?_
      refine lv_iload_n hx hb dc_R_read_25 rfl (lv_at hl 2 rfl) ?_
      refine lv_iadd hx hb dc_R_read_26 ?_
      refine w_ild 14 (by decide) hx hb hK hP h.1 dc_R_read_27 ?_
      have h := h.2
      refine lv_topi (fun x105 ex105 => ?_)
      have h := h x105 ex105
      refine lv_istore_n (lv' := [(3, .int x105), (0, .ref (ad 24)), (1, .int x1), (2, .int x2)]) hx hb dc_R_read_28 rfl hl (by decide) rfl (fun ls hl => ?_)
      refine lv_iload_n hx hb dc_R_read_29 rfl (lv_at hl 0 rfl) ?_
      refine lv_if_ne (tgt := 38) hx hb dc_R_read_30 (by decide) (fun c => ?_) (fun c => ?_)
      · have h := h.1 c
        refine lv_iload_n hx hb dc_R_read_38 rfl (lv_at hl 0 rfl) ?_
        refine lv_iconst (v := 1) hx hb dc_R_read_39 (by decide) ?_
        refine lv_isub hx hb dc_R_read_40 ?_
        exact w_iret hx hb hr hlocks hP hS h dc_R_read_41
      · have h := h.2 c
        refine lv_bipush (v := (-2)) hx hb dc_R_read_33 (by decide) ?_
        refine lv_goto (tgt := 41) hx hb dc_R_read_35 (by decide) ?_
        exact w_iret hx hb hr hlocks hP hS h dc_R_read_41
    · have h := h.2 c
      refine lv_iconst (v := (-1)) hx hb dc_R_read_14 (by decide) ?_
      exact w_iret hx hb hr hlocks hP hS h dc_R_read_15
set_option maxHeartbeats 4000000 in
set_option maxRecDepth 100000 in
theorem ct_B_remove (l : Launch) (D : va_G) (ad : Nat → Nat) (cA : Nat → ClassId) (w : Nat) (hJ : Jn_ ad) (x1 : Int32) (x2 : Int32) (st : St_) (post : St_ → Prop) (h : wp_B_remove w x1 x2 st post) : Met l yn_B_remove (Cond.code yn_B_remove bc_B_remove 5 none :: Wk_) rm_B_remove (Pw_ D ad cA w st [.ref (ad 19), .int x1, .int x2]) (Qv_ D ad cA w post) 0 0 (Aw_ ad) := by
  refine Met.ofW (cc := bc_B_remove) (maxL := 5) (ret := none) (by decide) rfl ?_
  intro p e s m args below meth c s₁ B hml hv
  obtain ⟨rfl, hP, hK, hN⟩ := hv
  have hx := B.exec
  have hb := B.bytes
  have hr := B.returns
  have hts : ∀ v ∈ Wk_, v.before [.ref (ad 19), .int x1, .int x2].toArray s = true := fun v hv => atoms_spec (ws := Cond.code yn_B_remove bc_B_remove 5 none :: Wk_) B.pre v (List.mem_cons_of_mem _ hv)
  have hown : s.vm.findClass Rn_B = some m.cls := findClass_of_methodNamed B.named
  have hlocks := B.notSynchronized
  have hS : va_S (Aw_ ad) s.heap s.heap [] := va_S.rf
  have hl := lv_entry ([.ref (ad 19), .int x1, .int x2]) (n := 5) (Nat.le_of_ble_eq_true rfl)
  rw [lg_entry_eq]
  generalize (lg_sl ([.ref (ad 19), .int x1, .int x2]) ++ List.replicate (5 - (lg_sl ([.ref (ad 19), .int x1, .int x2])).length) Slot.unset).toArray = ls at hl ⊢
  have hl : lv_has ls 5 [(0, .ref (ad 19)), (1, .int x1), (2, .int x2)] := hl
  refine lv_aload_n hx hb dc_B_remove_0 rfl (lv_at hl 0 rfl) ?_
  refine lv_iload_n hx hb dc_B_remove_1 rfl (lv_at hl 1 rfl) ?_
  refine w_cVi (y := yn_B_size) (C := Rn_B) (index := 45) (n := 1) (own := Rn_B) 19 hx hb hml hown hts hK hN hP hS (ct_B_size l D ad cA w hJ x1 st _ h) mw_26 mw_27 mw_28 mw_29 mw_18 (by decide +kernel) ⟨Nat.le_of_ble_eq_true rfl, Nat.le_of_ble_eq_true rfl⟩ rfl rfl rfl rfl rfl hl.1 rfl (lv_room (Nat.le_of_ble_eq_true rfl)) dc_B_remove_2 ⟨Nat.zero_le _, Nat.zero_le _⟩ (fun r102 st101 H locs hP hS h => ?_)
  refine lv_istore_n (lv' := [(3, .int r102), (0, .ref (ad 19)), (1, .int x1), (2, .int x2)]) hx hb dc_B_remove_5 rfl hl (by decide) rfl (fun ls hl => ?_)
  refine lv_aload_n hx hb dc_B_remove_6 rfl (lv_at hl 1 rfl) ?_
  refine lv_iload_n hx hb dc_B_remove_7 rfl (lv_at hl 2 rfl) ?_
  refine lv_iload_n hx hb dc_B_remove_8 rfl (lv_at hl 3 rfl) ?_
  refine w_cVi (y := yn_B_isEntry) (C := Rn_B) (index := 41) (n := 2) (own := Rn_B) 19 hx hb hml hown hts hK hN hP hS (ct_B_isEntry l D ad cA w hJ x1 x2 st101 _ h) mw_39 mw_40 mw_41 mw_42 mw_18 (by decide +kernel) ⟨Nat.le_of_ble_eq_true rfl, Nat.le_of_ble_eq_true rfl⟩ rfl rfl rfl rfl rfl hl.1 rfl (lv_room (Nat.le_of_ble_eq_true rfl)) dc_B_remove_9 ⟨Nat.zero_le _, Nat.zero_le _⟩ (fun r104 st103 H locs hP hS h => ?_)
  refine lv_if_eq (tgt := 23) hx hb dc_B_remove_12 (by decide) (fun c => ?_) (fun c => ?_)
  · have h := h.1 c
    exact w_vret hx hb hr hlocks hP hS h dc_B_remove_23
  · have h := h.2 c
    refine lv_iload_n hx hb dc_B_remove_15 rfl (lv_at hl 0 rfl) ?_
    refine lv_aload_n hx hb dc_B_remove_16 rfl (lv_at hl 1 rfl) ?_
    refine va_get (D := D) (ci := 1) (v := .int (nI w)) (C := Rn_B) (T := Fn_B) (N := 8) hx hb hts in_B hown hK hP 19 rfl rfl 0 (by decide) (hts _ mw_24) (fun _ h9 => h9) rfl dc_B_remove_17 ?_
    refine lv_icmp_le (tgt := 24) hx hb dc_B_remove_20 (by decide) (fun c => ?_) (fun c => ?_)
    · have h := h.1 c
      refine lv_iload_n hx hb dc_B_remove_24 rfl (lv_at hl 2 rfl) ?_
      refine lv_aload_n hx hb dc_B_remove_25 rfl (lv_at hl 1 rfl) ?_
      refine va_get (D := D) (ci := 1) (v := .int (nI w)) (C := Rn_B) (T := Fn_B) (N := 8) hx hb hts in_B hown hK hP 19 rfl rfl 0 (by decide) (hts _ mw_24) (fun _ h9 => h9) rfl dc_B_remove_26 ?_
      refine lv_imul hx hb dc_B_remove_29 ?_
      refine lv_iload_n hx hb dc_B_remove_30 rfl (lv_at hl 3 rfl) ?_
      refine lv_iadd hx hb dc_B_remove_31 ?_
      refine lv_topi (fun x105 ex105 => ?_)
      have h := h x105 ex105
      refine lv_istore (lv' := [(4, .int x105), (3, .int r102), (0, .ref (ad 19)), (1, .int x1), (2, .int x2)]) hx hb dc_B_remove_32 hl (by decide) rfl (fun ls hl => ?_)
      refine lv_aload_n hx hb dc_B_remove_34 rfl (lv_at hl 2 rfl) ?_
      refine va_get (D := D) (ci := 1) (v := .ref (ad 3)) (C := Rn_B) (T := Fn_B) (N := 8) hx hb hts in_B hown hK hP 19 rfl rfl 4 (by decide) (hts _ mw_34) (fun _ h9 => h9) rfl dc_B_remove_35 ?_
      refine lv_iload hx hb dc_B_remove_38 (lv_at hl 0 rfl) ?_
      refine lv_iconst (v := 1) hx hb dc_B_remove_40 (by decide) ?_
      refine lv_iadd hx hb dc_B_remove_41 ?_
      refine lv_aload_n hx hb dc_B_remove_42 rfl (lv_at hl 2 rfl) ?_
      refine va_get (D := D) (ci := 1) (v := .ref (ad 3)) (C := Rn_B) (T := Fn_B) (N := 8) hx hb hts in_B hown hK hP 19 rfl rfl 4 (by decide) (hts _ mw_34) (fun _ h9 => h9) rfl dc_B_remove_43 ?_
      refine lv_iload hx hb dc_B_remove_46 (lv_at hl 0 rfl) ?_
      refine lv_iload_n hx hb dc_B_remove_48 rfl (lv_at hl 1 rfl) ?_
      refine lv_iload_n hx hb dc_B_remove_49 rfl (lv_at hl 4 rfl) ?_
      refine lv_isub hx hb dc_B_remove_50 ?_
      refine lv_iconst (v := 1) hx hb dc_B_remove_51 (by decide) ?_
      refine lv_isub hx hb dc_B_remove_52 ?_
      refine w_cpy 3 3 (by decide) (by decide) hJ hx hb (hml.trans hl.1.symm) hown (hts _ mw_82) (hts _ mw_83) (hts _ mw_84) (hts _ mw_85) hK hP hS h.1 (Nat.le_of_ble_eq_true rfl) (Nat.le_of_ble_eq_true rfl) dc_B_remove_53 (fun H locs hP hS => ?_)
      obtain ⟨st106, est106⟩ : ∃ z : St_, z = ws_c st103 3 3 ((x105 + 1)).toNatClampNeg (x105).toNatClampNeg (((r102 - x2) - 1)).toNatClampNeg := ⟨_, rfl⟩
      rw [← est106] at hP
      have h := h.2 st106 est106
      refine lv_aload_n hx hb dc_B_remove_56 rfl (lv_at hl 2 rfl) ?_
      refine va_get (D := D) (ci := 1) (v := .ref (ad 4)) (C := Rn_B) (T := Fn_B) (N := 8) hx hb hts in_B hown hK hP 19 rfl rfl 5 (by decide) (hts _ mw_47) (fun _ h9 => h9) rfl dc_B_remove_57 ?_
      refine lv_iload hx hb dc_B_remove_60 (lv_at hl 0 rfl) ?_
      refine lv_iconst (v := 1) hx hb dc_B_remove_62 (by decide) ?_
      refine lv_iadd hx hb dc_B_remove_63 ?_
      refine lv_aload_n hx hb dc_B_remove_64 rfl (lv_at hl 2 rfl) ?_
      refine va_get (D := D) (ci := 1) (v := .ref (ad 4)) (C := Rn_B) (T := Fn_B) (N := 8) hx hb hts in_B hown hK hP 19 rfl rfl 5 (by decide) (hts _ mw_47) (fun _ h9 => h9) rfl dc_B_remove_65 ?_
      refine lv_iload hx hb dc_B_remove_68 (lv_at hl 0 rfl) ?_
      refine lv_iload_n hx hb dc_B_remove_70 rfl (lv_at hl 1 rfl) ?_
      refine lv_iload_n hx hb dc_B_remove_71 rfl (lv_at hl 4 rfl) ?_
      refine lv_isub hx hb dc_B_remove_72 ?_
      refine lv_iconst (v := 1) hx hb dc_B_remove_73 (by decide) ?_
      refine lv_isub hx hb dc_B_remove_74 ?_
      refine w_cpy 4 4 (by decide) (by decide) hJ hx hb (hml.trans hl.1.symm) hown (hts _ mw_82) (hts _ mw_83) (hts _ mw_84) (hts _ mw_85) hK hP hS h.1 (Nat.le_of_ble_eq_true rfl) (Nat.le_of_ble_eq_true rfl) dc_B_remove_75 (fun H locs hP hS => ?_)
      obtain ⟨st107, est107⟩ : ∃ z : St_, z = ws_c st106 4 4 ((x105 + 1)).toNatClampNeg (x105).toNatClampNeg (((r102 - x2) - 1)).toNatClampNeg := ⟨_, rfl⟩
      rw [← est107] at hP
      have h := h.2 st107 est107
      refine lv_aload_n hx hb dc_B_remove_78 rfl (lv_at hl 2 rfl) ?_
      refine va_get (D := D) (ci := 1) (v := .ref (ad 2)) (C := Rn_B) (T := Fn_B) (N := 8) hx hb hts in_B hown hK hP 19 rfl rfl 3 (by decide) (hts _ mw_25) (fun _ h9 => h9) rfl dc_B_remove_79 ?_
      refine lv_iload_n hx hb dc_B_remove_82 rfl (lv_at hl 3 rfl) ?_
      refine lv_iload_n hx hb dc_B_remove_83 rfl (lv_at hl 1 rfl) ?_
      refine lv_iconst (v := 1) hx hb dc_B_remove_84 (by decide) ?_
      refine lv_isub hx hb dc_B_remove_85 ?_
      refine w_ist 2 (by decide) hJ hx hb hK hP hS h.1 dc_B_remove_86 (fun H locs hP hS => ?_)
      obtain ⟨st108, est108⟩ : ∃ z : St_, z = ws_1 st107 2 (x1).toNatClampNeg (r102 - 1) := ⟨_, rfl⟩
      rw [← est108] at hP
      have h := h.2 st108 est108
      exact w_vret hx hb hr hlocks hP hS h dc_B_remove_87
    · have h := h.2 c
      exact w_vret hx hb hr hlocks hP hS h dc_B_remove_23
set_option maxHeartbeats 4000000 in
set_option maxRecDepth 100000 in
theorem ct_T_moveEntry (l : Launch) (D : va_G) (ad : Nat → Nat) (cA : Nat → ClassId) (w : Nat) (hJ : Jn_ ad) (x1 : Int32) (x2 : Int32) (x3 : Int32) (x4 : Int32) (st : St_) (post : St_ → Prop) (h : wp_T_moveEntry w x1 x2 x3 x4 st post) : Met l yn_T_moveEntry (Cond.code yn_T_moveEntry bc_T_moveEntry 5 none :: Wk_) rm_T_moveEntry (Pw_ D ad cA w st [.ref (ad 20), .int x1, .int x2, .int x3, .int x4]) (Qv_ D ad cA w post) 0 0 (Aw_ ad) := by
  refine Met.ofW (cc := bc_T_moveEntry) (maxL := 5) (ret := none) (by decide) rfl ?_
  intro p e s m args below meth c s₁ B hml hv
  obtain ⟨rfl, hP, hK, hN⟩ := hv
  have hx := B.exec
  have hb := B.bytes
  have hr := B.returns
  have hts : ∀ v ∈ Wk_, v.before [.ref (ad 20), .int x1, .int x2, .int x3, .int x4].toArray s = true := fun v hv => atoms_spec (ws := Cond.code yn_T_moveEntry bc_T_moveEntry 5 none :: Wk_) B.pre v (List.mem_cons_of_mem _ hv)
  have hown : s.vm.findClass Rn_T = some m.cls := findClass_of_methodNamed B.named
  have hlocks := B.notSynchronized
  have hS : va_S (Aw_ ad) s.heap s.heap [] := va_S.rf
  have hl := lv_entry ([.ref (ad 20), .int x1, .int x2, .int x3, .int x4]) (n := 5) (Nat.le_of_ble_eq_true rfl)
  rw [lg_entry_eq]
  generalize (lg_sl ([.ref (ad 20), .int x1, .int x2, .int x3, .int x4]) ++ List.replicate (5 - (lg_sl ([.ref (ad 20), .int x1, .int x2, .int x3, .int x4])).length) Slot.unset).toArray = ls at hl ⊢
  have hl : lv_has ls 5 [(0, .ref (ad 20)), (1, .int x1), (2, .int x2), (3, .int x3), (4, .int x4)] := hl
  refine lv_aload_n hx hb dc_T_moveEntry_0 rfl (lv_at hl 0 rfl) ?_
  refine va_get (D := D) (ci := 2) (v := .ref (ad 19)) (C := Rn_T) (T := Fn_T) (N := 3) hx hb hts in_T hown hK hP 20 rfl rfl 0 (by decide) (hts _ mw_13) (fun _ h9 => h9) rfl dc_T_moveEntry_1 ?_
  refine lv_iload_n hx hb dc_T_moveEntry_4 rfl (lv_at hl 3 rfl) ?_
  refine lv_iload hx hb dc_T_moveEntry_5 (lv_at hl 4 rfl) ?_
  refine lv_aload_n hx hb dc_T_moveEntry_7 rfl (lv_at hl 0 rfl) ?_
  refine va_get (D := D) (ci := 2) (v := .ref (ad 19)) (C := Rn_T) (T := Fn_T) (N := 3) hx hb hts in_T hown hK hP 20 rfl rfl 0 (by decide) (hts _ mw_13) (fun _ h9 => h9) rfl dc_T_moveEntry_8 ?_
  refine lv_iload_n hx hb dc_T_moveEntry_11 rfl (lv_at hl 1 rfl) ?_
  refine lv_iload_n hx hb dc_T_moveEntry_12 rfl (lv_at hl 2 rfl) ?_
  refine w_cVi (y := yn_B_key) (C := Rn_B) (index := 41) (n := 2) (own := Rn_T) 19 hx hb hml hown hts hK hN hP hS (ct_B_key l D ad cA w hJ x1 x2 st _ h) mw_43 mw_44 mw_45 mw_46 mw_18 (by decide +kernel) ⟨Nat.le_of_ble_eq_true rfl, Nat.le_of_ble_eq_true rfl⟩ rfl rfl rfl rfl rfl hl.1 rfl (lv_room (Nat.le_of_ble_eq_true rfl)) dc_T_moveEntry_13 ⟨Nat.zero_le _, Nat.zero_le _⟩ (fun r102 st101 H locs hP hS h => ?_)
  refine lv_aload_n hx hb dc_T_moveEntry_16 rfl (lv_at hl 0 rfl) ?_
  refine va_get (D := D) (ci := 2) (v := .ref (ad 19)) (C := Rn_T) (T := Fn_T) (N := 3) hx hb hts in_T hown hK hP 20 rfl rfl 0 (by decide) (hts _ mw_13) (fun _ h9 => h9) rfl dc_T_moveEntry_17 ?_
  refine lv_iload_n hx hb dc_T_moveEntry_20 rfl (lv_at hl 1 rfl) ?_
  refine lv_iload_n hx hb dc_T_moveEntry_21 rfl (lv_at hl 2 rfl) ?_
  refine w_cVi (y := yn_B_goal) (C := Rn_B) (index := 35) (n := 2) (own := Rn_T) 19 hx hb hml hown hts hK hN hP hS (ct_B_goal l D ad cA w hJ x1 x2 st101 _ h) mw_48 mw_49 mw_50 mw_51 mw_18 (by decide +kernel) ⟨Nat.le_of_ble_eq_true rfl, Nat.le_of_ble_eq_true rfl⟩ rfl rfl rfl rfl rfl hl.1 rfl (lv_room (Nat.le_of_ble_eq_true rfl)) dc_T_moveEntry_22 ⟨Nat.zero_le _, Nat.zero_le _⟩ (fun r104 st103 H locs hP hS h => ?_)
  refine w_cVv (y := yn_B_insert) (C := Rn_B) (index := 86) (n := 4) (own := Rn_T) 19 hx hb hml hown hts hK hN hP hS (ct_B_insert l D ad cA w hJ x3 x4 r102 r104 st103 _ h) mw_86 mw_122 mw_88 mw_89 mw_18 (by decide +kernel) ⟨Nat.le_of_ble_eq_true rfl, Nat.le_of_ble_eq_true rfl⟩ rfl rfl rfl rfl rfl hl.1 rfl (lv_room (Nat.le_of_ble_eq_true rfl)) dc_T_moveEntry_25 ⟨Nat.zero_le _, Nat.zero_le _⟩ (fun st105 H locs hP hS h => ?_)
  refine lv_aload_n hx hb dc_T_moveEntry_28 rfl (lv_at hl 0 rfl) ?_
  refine va_get (D := D) (ci := 2) (v := .ref (ad 19)) (C := Rn_T) (T := Fn_T) (N := 3) hx hb hts in_T hown hK hP 20 rfl rfl 0 (by decide) (hts _ mw_13) (fun _ h9 => h9) rfl dc_T_moveEntry_29 ?_
  refine lv_iload_n hx hb dc_T_moveEntry_32 rfl (lv_at hl 1 rfl) ?_
  refine lv_iload_n hx hb dc_T_moveEntry_33 rfl (lv_at hl 2 rfl) ?_
  refine w_cVv (y := yn_B_remove) (C := Rn_B) (index := 98) (n := 2) (own := Rn_T) 19 hx hb hml hown hts hK hN hP hS (ct_B_remove l D ad cA w hJ x1 x2 st105 _ h) mw_172 mw_173 mw_174 mw_175 mw_18 (by decide +kernel) ⟨Nat.le_of_ble_eq_true rfl, Nat.le_of_ble_eq_true rfl⟩ rfl rfl rfl rfl rfl hl.1 rfl (lv_room (Nat.le_of_ble_eq_true rfl)) dc_T_moveEntry_34 ⟨Nat.zero_le _, Nat.zero_le _⟩ (fun st106 H locs hP hS h => ?_)
  exact w_vret hx hb hr hlocks hP hS h dc_T_moveEntry_37
set_option maxHeartbeats 4000000 in
set_option maxRecDepth 100000 in
theorem ct_B_give (l : Launch) (D : va_G) (ad : Nat → Nat) (cA : Nat → ClassId) (w : Nat) (hJ : Jn_ ad) (x1 : Int32) (st : St_) (post : St_ → Prop) (h : wp_B_give w x1 st post) : Met l yn_B_give (Cond.code yn_B_give bc_B_give 2 none :: Wk_) rm_B_give (Pw_ D ad cA w st [.ref (ad 19), .int x1]) (Qv_ D ad cA w post) 0 0 (Aw_ ad) := by
  refine Met.ofW (cc := bc_B_give) (maxL := 2) (ret := none) (by decide) rfl ?_
  intro p e s m args below meth c s₁ B hml hv
  obtain ⟨rfl, hP, hK, hN⟩ := hv
  have hx := B.exec
  have hb := B.bytes
  have hr := B.returns
  have hts : ∀ v ∈ Wk_, v.before [.ref (ad 19), .int x1].toArray s = true := fun v hv => atoms_spec (ws := Cond.code yn_B_give bc_B_give 2 none :: Wk_) B.pre v (List.mem_cons_of_mem _ hv)
  have hown : s.vm.findClass Rn_B = some m.cls := findClass_of_methodNamed B.named
  have hlocks := B.notSynchronized
  have hS : va_S (Aw_ ad) s.heap s.heap [] := va_S.rf
  have hl := lv_entry ([.ref (ad 19), .int x1]) (n := 2) (Nat.le_of_ble_eq_true rfl)
  rw [lg_entry_eq]
  generalize (lg_sl ([.ref (ad 19), .int x1]) ++ List.replicate (2 - (lg_sl ([.ref (ad 19), .int x1])).length) Slot.unset).toArray = ls at hl ⊢
  have hl : lv_has ls 2 [(0, .ref (ad 19)), (1, .int x1)] := hl
  refine lv_aload_n hx hb dc_B_give_0 rfl (lv_at hl 0 rfl) ?_
  refine lv_iload_n hx hb dc_B_give_1 rfl (lv_at hl 1 rfl) ?_
  refine w_cVi (y := yn_B_isBlock) (C := Rn_B) (index := 37) (n := 1) (own := Rn_B) 19 hx hb hml hown hts hK hN hP hS (ct_B_isBlock l D ad cA w hJ x1 st _ h) mw_14 mw_15 mw_16 mw_17 mw_18 (by decide +kernel) ⟨Nat.le_of_ble_eq_true rfl, Nat.le_of_ble_eq_true rfl⟩ rfl rfl rfl rfl rfl hl.1 rfl (lv_room (Nat.le_of_ble_eq_true rfl)) dc_B_give_2 ⟨Nat.zero_le _, Nat.zero_le _⟩ (fun r102 st101 H locs hP hS h => ?_)
  refine lv_if_eq (tgt := 66) hx hb dc_B_give_5 (by decide) (fun c => ?_) (fun c => ?_)
  · have h := h.1 c
    exact w_vret hx hb hr hlocks hP hS h dc_B_give_66
  · have h := h.2 c
    refine lv_aload_n hx hb dc_B_give_8 rfl (lv_at hl 0 rfl) ?_
    refine va_get (D := D) (ci := 1) (v := .int (st101 18 0)) (C := Rn_B) (T := Fn_B) (N := 8) hx hb hts in_B hown hK hP 19 rfl rfl 7 (by decide) (hts _ mw_70) (fun _ h9 => h9) rfl dc_B_give_9 ?_
    refine lv_if_lt (tgt := 66) hx hb dc_B_give_12 (by decide) (fun c => ?_) (fun c => ?_)
    · have h := h.1 c
      exact w_vret hx hb hr hlocks hP hS h dc_B_give_66
    · have h := h.2 c
      refine lv_aload_n hx hb dc_B_give_15 rfl (lv_at hl 0 rfl) ?_
      refine va_get (D := D) (ci := 1) (v := .int (st101 18 0)) (C := Rn_B) (T := Fn_B) (N := 8) hx hb hts in_B hown hK hP 19 rfl rfl 7 (by decide) (hts _ mw_70) (fun _ h9 => h9) rfl dc_B_give_16 ?_
      refine lv_sipush (v := 1200) hx hb dc_B_give_19 (by decide) ?_
      refine lv_icmp_ge (tgt := 66) hx hb dc_B_give_22 (by decide) (fun c => ?_) (fun c => ?_)
      · have h := h.1 c
        exact w_vret hx hb hr hlocks hP hS h dc_B_give_66
      · have h := h.2 c
        refine lv_aload_n hx hb dc_B_give_25 rfl (lv_at hl 0 rfl) ?_
        refine va_get (D := D) (ci := 1) (v := .ref (ad 0)) (C := Rn_B) (T := Fn_B) (N := 8) hx hb hts in_B hown hK hP 19 rfl rfl 1 (by decide) (hts _ mw_64) (fun _ h9 => h9) rfl dc_B_give_26 ?_
        refine lv_iload_n hx hb dc_B_give_29 rfl (lv_at hl 1 rfl) ?_
        refine lv_iconst (v := 0) hx hb dc_B_give_30 (by decide) ?_
        refine w_ist 0 (by decide) hJ hx hb hK hP hS h.1 dc_B_give_31 (fun H locs hP hS => ?_)
        obtain ⟨st103, est103⟩ : ∃ z : St_, z = ws_1 st101 0 (x1).toNatClampNeg 0 := ⟨_, rfl⟩
        rw [← est103] at hP
        have h := h.2 st103 est103
        refine lv_aload_n hx hb dc_B_give_32 rfl (lv_at hl 0 rfl) ?_
        refine va_get (D := D) (ci := 1) (v := .ref (ad 1)) (C := Rn_B) (T := Fn_B) (N := 8) hx hb hts in_B hown hK hP 19 rfl rfl 2 (by decide) (hts _ mw_19) (fun _ h9 => h9) rfl dc_B_give_33 ?_
        refine lv_iload_n hx hb dc_B_give_36 rfl (lv_at hl 1 rfl) ?_
        refine lv_iconst (v := 0) hx hb dc_B_give_37 (by decide) ?_
        refine w_ist 1 (by decide) hJ hx hb hK hP hS h.1 dc_B_give_38 (fun H locs hP hS => ?_)
        obtain ⟨st104, est104⟩ : ∃ z : St_, z = ws_1 st103 1 (x1).toNatClampNeg 0 := ⟨_, rfl⟩
        rw [← est104] at hP
        have h := h.2 st104 est104
        refine lv_aload_n hx hb dc_B_give_39 rfl (lv_at hl 0 rfl) ?_
        refine va_get (D := D) (ci := 1) (v := .ref (ad 2)) (C := Rn_B) (T := Fn_B) (N := 8) hx hb hts in_B hown hK hP 19 rfl rfl 3 (by decide) (hts _ mw_25) (fun _ h9 => h9) rfl dc_B_give_40 ?_
        refine lv_iload_n hx hb dc_B_give_43 rfl (lv_at hl 1 rfl) ?_
        refine lv_iconst (v := 0) hx hb dc_B_give_44 (by decide) ?_
        refine w_ist 2 (by decide) hJ hx hb hK hP hS h.1 dc_B_give_45 (fun H locs hP hS => ?_)
        obtain ⟨st105, est105⟩ : ∃ z : St_, z = ws_1 st104 2 (x1).toNatClampNeg 0 := ⟨_, rfl⟩
        rw [← est105] at hP
        have h := h.2 st105 est105
        refine lv_aload_n hx hb dc_B_give_46 rfl (lv_at hl 0 rfl) ?_
        refine va_get (D := D) (ci := 1) (v := .ref (ad 5)) (C := Rn_B) (T := Fn_B) (N := 8) hx hb hts in_B hown hK hP 19 rfl rfl 6 (by decide) (hts _ mw_71) (fun _ h9 => h9) rfl dc_B_give_47 ?_
        refine lv_aload_n hx hb dc_B_give_50 rfl (lv_at hl 0 rfl) ?_
        refine va_get (D := D) (ci := 1) (v := .int (st105 18 0)) (C := Rn_B) (T := Fn_B) (N := 8) hx hb hts in_B hown hK hP 19 rfl rfl 7 (by decide) (hts _ mw_70) (fun _ h9 => h9) rfl dc_B_give_51 ?_
        refine lv_iload_n hx hb dc_B_give_54 rfl (lv_at hl 1 rfl) ?_
        refine w_ist 5 (by decide) hJ hx hb hK hP hS h.1 dc_B_give_55 (fun H locs hP hS => ?_)
        obtain ⟨st106, est106⟩ : ∃ z : St_, z = ws_1 st105 5 ((st105 18 0)).toNatClampNeg x1 := ⟨_, rfl⟩
        rw [← est106] at hP
        have h := h.2 st106 est106
        refine lv_aload_n hx hb dc_B_give_56 rfl (lv_at hl 0 rfl) ?_
        refine lv_dup hx hb dc_B_give_57 rfl ?_
        refine va_get (D := D) (ci := 1) (v := .int (st106 18 0)) (C := Rn_B) (T := Fn_B) (N := 8) hx hb hts in_B hown hK hP 19 rfl rfl 7 (by decide) (hts _ mw_70) (fun _ h9 => h9) rfl dc_B_give_58 ?_
        refine lv_iconst (v := 1) hx hb dc_B_give_61 (by decide) ?_
        refine lv_iadd hx hb dc_B_give_62 ?_
        refine va_put (D := D) (ci := 1) (v := .int ((st106 18 0) + 1)) (ty := .int) (C := Rn_B) (T := Fn_B) (N := 8) hx hb hts in_B Tn_B to_B nn_B hown hK hP (wd_D hJ) hS 19 rfl rfl 7 (by decide) (hts _ mw_70) (fun _ h9 => h9) rfl (by decide +kernel) rfl rfl (Nat.le_of_ble_eq_true rfl) dc_B_give_63 (fun H locs hP _ hS => ?_)
        obtain ⟨st107, est107⟩ : ∃ z : St_, z = ws_1 st106 18 0 ((st106 18 0) + 1) := ⟨_, rfl⟩
        have hP : va_P D sC_ (wd_ ad cA w st107) H := by rw [est107]; exact hP
        have h := h st107 est107
        exact w_vret hx hb hr hlocks hP hS h dc_B_give_66
set_option maxHeartbeats 4000000 in
set_option maxRecDepth 100000 in
theorem ct_T_fill (l : Launch) (D : va_G) (ad : Nat → Nat) (cA : Nat → ClassId) (w : Nat) (hJ : Jn_ ad) (x1 : Int32) (x2 : Int32) (st : St_) (post : St_ → Prop) (h : wp_T_fill w x1 x2 st post) : Met l yn_T_fill (Cond.code yn_T_fill bc_T_fill 5 none :: Wk_) rm_T_fill (Pw_ D ad cA w st [.ref (ad 20), .int x1, .int x2]) (Qv_ D ad cA w post) 0 0 (Aw_ ad) := by
  refine Met.ofW (cc := bc_T_fill) (maxL := 5) (ret := none) (by decide) rfl ?_
  intro p e s m args below meth c s₁ B hml hv
  obtain ⟨rfl, hP, hK, hN⟩ := hv
  have hx := B.exec
  have hb := B.bytes
  have hr := B.returns
  have hts : ∀ v ∈ Wk_, v.before [.ref (ad 20), .int x1, .int x2].toArray s = true := fun v hv => atoms_spec (ws := Cond.code yn_T_fill bc_T_fill 5 none :: Wk_) B.pre v (List.mem_cons_of_mem _ hv)
  have hown : s.vm.findClass Rn_T = some m.cls := findClass_of_methodNamed B.named
  have hlocks := B.notSynchronized
  have hS : va_S (Aw_ ad) s.heap s.heap [] := va_S.rf
  have hl := lv_entry ([.ref (ad 20), .int x1, .int x2]) (n := 5) (Nat.le_of_ble_eq_true rfl)
  rw [lg_entry_eq]
  generalize (lg_sl ([.ref (ad 20), .int x1, .int x2]) ++ List.replicate (5 - (lg_sl ([.ref (ad 20), .int x1, .int x2])).length) Slot.unset).toArray = ls at hl ⊢
  have hl : lv_has ls 5 [(0, .ref (ad 20)), (1, .int x1), (2, .int x2)] := hl
  refine lv_aload_n hx hb dc_T_fill_0 rfl (lv_at hl 0 rfl) ?_
  refine lv_iload_n hx hb dc_T_fill_1 rfl (lv_at hl 1 rfl) ?_
  refine lv_iload_n hx hb dc_T_fill_2 rfl (lv_at hl 2 rfl) ?_
  refine w_cVi (y := yn_T_ownedChild) (C := Rn_T) (index := 73) (n := 2) (own := Rn_T) 20 hx hb hml hown hts hK hN hP hS (ct_T_ownedChild l D ad cA w hJ x1 x2 st _ h) mw_102 mw_103 mw_104 mw_105 mw_59 (by decide +kernel) ⟨Nat.le_of_ble_eq_true rfl, Nat.le_of_ble_eq_true rfl⟩ rfl rfl rfl rfl rfl hl.1 rfl (lv_room (Nat.le_of_ble_eq_true rfl)) dc_T_fill_3 ⟨Nat.zero_le _, Nat.zero_le _⟩ (fun r102 st101 H locs hP hS h => ?_)
  refine lv_istore_n (lv' := [(3, .int r102), (0, .ref (ad 20)), (1, .int x1), (2, .int x2)]) hx hb dc_T_fill_6 rfl hl (by decide) rfl (fun ls hl => ?_)
  refine lv_aload_n hx hb dc_T_fill_7 rfl (lv_at hl 1 rfl) ?_
  refine lv_iload_n hx hb dc_T_fill_8 rfl (lv_at hl 2 rfl) ?_
  refine lv_iload_n hx hb dc_T_fill_9 rfl (lv_at hl 3 rfl) ?_
  refine lv_iconst (v := 1) hx hb dc_T_fill_10 (by decide) ?_
  refine lv_iadd hx hb dc_T_fill_11 ?_
  refine w_cVi (y := yn_T_ownedChild) (C := Rn_T) (index := 73) (n := 2) (own := Rn_T) 20 hx hb hml hown hts hK hN hP hS (ct_T_ownedChild l D ad cA w hJ x1 (x2 + 1) st101 _ h) mw_102 mw_103 mw_104 mw_105 mw_59 (by decide +kernel) ⟨Nat.le_of_ble_eq_true rfl, Nat.le_of_ble_eq_true rfl⟩ rfl rfl rfl rfl rfl hl.1 rfl (lv_room (Nat.le_of_ble_eq_true rfl)) dc_T_fill_12 ⟨Nat.zero_le _, Nat.zero_le _⟩ (fun r104 st103 H locs hP hS h => ?_)
  refine lv_istore (lv' := [(4, .int r104), (3, .int r102), (0, .ref (ad 20)), (1, .int x1), (2, .int x2)]) hx hb dc_T_fill_15 hl (by decide) rfl (fun ls hl => ?_)
  refine lv_aload_n hx hb dc_T_fill_17 rfl (lv_at hl 2 rfl) ?_
  refine va_get (D := D) (ci := 2) (v := .ref (ad 19)) (C := Rn_T) (T := Fn_T) (N := 3) hx hb hts in_T hown hK hP 20 rfl rfl 0 (by decide) (hts _ mw_13) (fun _ h9 => h9) rfl dc_T_fill_18 ?_
  refine lv_iload_n hx hb dc_T_fill_21 rfl (lv_at hl 1 rfl) ?_
  refine w_cVi (y := yn_B_size) (C := Rn_B) (index := 48) (n := 1) (own := Rn_T) 19 hx hb hml hown hts hK hN hP hS (ct_B_size l D ad cA w hJ r102 st103 _ h) mw_26 mw_114 mw_28 mw_29 mw_18 (by decide +kernel) ⟨Nat.le_of_ble_eq_true rfl, Nat.le_of_ble_eq_true rfl⟩ rfl rfl rfl rfl rfl hl.1 rfl (lv_room (Nat.le_of_ble_eq_true rfl)) dc_T_fill_22 ⟨Nat.zero_le _, Nat.zero_le _⟩ (fun r106 st105 H locs hP hS h => ?_)
  refine lv_aload_n hx hb dc_T_fill_25 rfl (lv_at hl 2 rfl) ?_
  refine va_get (D := D) (ci := 2) (v := .ref (ad 19)) (C := Rn_T) (T := Fn_T) (N := 3) hx hb hts in_T hown hK hP 20 rfl rfl 0 (by decide) (hts _ mw_13) (fun _ h9 => h9) rfl dc_T_fill_26 ?_
  refine lv_iload hx hb dc_T_fill_29 (lv_at hl 0 rfl) ?_
  refine w_cVi (y := yn_B_size) (C := Rn_B) (index := 48) (n := 1) (own := Rn_T) 19 hx hb hml hown hts hK hN hP hS (ct_B_size l D ad cA w hJ r104 st105 _ h) mw_26 mw_114 mw_28 mw_29 mw_18 (by decide +kernel) ⟨Nat.le_of_ble_eq_true rfl, Nat.le_of_ble_eq_true rfl⟩ rfl rfl rfl rfl rfl hl.1 rfl (lv_room (Nat.le_of_ble_eq_true rfl)) dc_T_fill_31 ⟨Nat.zero_le _, Nat.zero_le _⟩ (fun r108 st107 H locs hP hS h => ?_)
  refine lv_iadd hx hb dc_T_fill_34 ?_
  refine lv_aload_n hx hb dc_T_fill_35 rfl (lv_at hl 2 rfl) ?_
  refine va_get (D := D) (ci := 2) (v := .int (nI (w - 1))) (C := Rn_T) (T := Fn_T) (N := 3) hx hb hts in_T hown hK hP 20 rfl rfl 1 (by decide) (hts _ mw_115) (fun _ h9 => h9) rfl dc_T_fill_36 ?_
  refine lv_icmp_gt (tgt := 74) hx hb dc_T_fill_39 (by decide) (fun c => ?_) (fun c => ?_)
  · have h := h.1 c
    refine lv_aload_n hx hb dc_T_fill_74 rfl (lv_at hl 2 rfl) ?_
    refine va_get (D := D) (ci := 2) (v := .ref (ad 19)) (C := Rn_T) (T := Fn_T) (N := 3) hx hb hts in_T hown hK hP 20 rfl rfl 0 (by decide) (hts _ mw_13) (fun _ h9 => h9) rfl dc_T_fill_75 ?_
    refine lv_iload_n hx hb dc_T_fill_78 rfl (lv_at hl 1 rfl) ?_
    refine w_cVi (y := yn_B_size) (C := Rn_B) (index := 48) (n := 1) (own := Rn_T) 19 hx hb hml hown hts hK hN hP hS (ct_B_size l D ad cA w hJ r102 st107 _ h) mw_26 mw_114 mw_28 mw_29 mw_18 (by decide +kernel) ⟨Nat.le_of_ble_eq_true rfl, Nat.le_of_ble_eq_true rfl⟩ rfl rfl rfl rfl rfl hl.1 rfl (lv_room (Nat.le_of_ble_eq_true rfl)) dc_T_fill_79 ⟨Nat.zero_le _, Nat.zero_le _⟩ (fun r110 st109 H locs hP hS h => ?_)
    refine lv_aload_n hx hb dc_T_fill_82 rfl (lv_at hl 2 rfl) ?_
    refine va_get (D := D) (ci := 2) (v := .ref (ad 19)) (C := Rn_T) (T := Fn_T) (N := 3) hx hb hts in_T hown hK hP 20 rfl rfl 0 (by decide) (hts _ mw_13) (fun _ h9 => h9) rfl dc_T_fill_83 ?_
    refine lv_iload hx hb dc_T_fill_86 (lv_at hl 0 rfl) ?_
    refine w_cVi (y := yn_B_size) (C := Rn_B) (index := 48) (n := 1) (own := Rn_T) 19 hx hb hml hown hts hK hN hP hS (ct_B_size l D ad cA w hJ r104 st109 _ h) mw_26 mw_114 mw_28 mw_29 mw_18 (by decide +kernel) ⟨Nat.le_of_ble_eq_true rfl, Nat.le_of_ble_eq_true rfl⟩ rfl rfl rfl rfl rfl hl.1 rfl (lv_room (Nat.le_of_ble_eq_true rfl)) dc_T_fill_88 ⟨Nat.zero_le _, Nat.zero_le _⟩ (fun r112 st111 H locs hP hS h => ?_)
    refine lv_icmp_ge (tgt := 113) hx hb dc_T_fill_91 (by decide) (fun c => ?_) (fun c => ?_)
    · have h := h.1 c
      refine lv_aload_n hx hb dc_T_fill_113 rfl (lv_at hl 2 rfl) ?_
      refine lv_iload_n hx hb dc_T_fill_114 rfl (lv_at hl 1 rfl) ?_
      refine lv_aload_n hx hb dc_T_fill_115 rfl (lv_at hl 2 rfl) ?_
      refine va_get (D := D) (ci := 2) (v := .ref (ad 19)) (C := Rn_T) (T := Fn_T) (N := 3) hx hb hts in_T hown hK hP 20 rfl rfl 0 (by decide) (hts _ mw_13) (fun _ h9 => h9) rfl dc_T_fill_116 ?_
      refine lv_iload_n hx hb dc_T_fill_119 rfl (lv_at hl 1 rfl) ?_
      refine w_cVi (y := yn_B_size) (C := Rn_B) (index := 48) (n := 1) (own := Rn_T) 19 hx hb hml hown hts hK hN hP hS (ct_B_size l D ad cA w hJ r102 st111 _ h) mw_26 mw_114 mw_28 mw_29 mw_18 (by decide +kernel) ⟨Nat.le_of_ble_eq_true rfl, Nat.le_of_ble_eq_true rfl⟩ rfl rfl rfl rfl rfl hl.1 rfl (lv_room (Nat.le_of_ble_eq_true rfl)) dc_T_fill_120 ⟨Nat.zero_le _, Nat.zero_le _⟩ (fun r114 st113 H locs hP hS h => ?_)
      refine lv_iconst (v := 1) hx hb dc_T_fill_123 (by decide) ?_
      refine lv_isub hx hb dc_T_fill_124 ?_
      refine lv_iload hx hb dc_T_fill_125 (lv_at hl 0 rfl) ?_
      refine lv_iconst (v := 0) hx hb dc_T_fill_127 (by decide) ?_
      refine w_cVv (y := yn_T_moveEntry) (C := Rn_T) (index := 108) (n := 4) (own := Rn_T) 20 hx hb hml hown hts hK hN hP hS (ct_T_moveEntry l D ad cA w hJ r102 (r114 - 1) r104 0 st113 _ h) mw_176 mw_177 mw_178 mw_179 mw_59 (by decide +kernel) ⟨Nat.le_of_ble_eq_true rfl, Nat.le_of_ble_eq_true rfl⟩ rfl rfl rfl rfl rfl hl.1 rfl (lv_room (Nat.le_of_ble_eq_true rfl)) dc_T_fill_128 ⟨Nat.zero_le _, Nat.zero_le _⟩ (fun st115 H locs hP hS h => ?_)
      refine lv_aload_n hx hb dc_T_fill_131 rfl (lv_at hl 2 rfl) ?_
      refine va_get (D := D) (ci := 2) (v := .ref (ad 19)) (C := Rn_T) (T := Fn_T) (N := 3) hx hb hts in_T hown hK hP 20 rfl rfl 0 (by decide) (hts _ mw_13) (fun _ h9 => h9) rfl dc_T_fill_132 ?_
      refine lv_iload_n hx hb dc_T_fill_135 rfl (lv_at hl 3 rfl) ?_
      refine lv_iload_n hx hb dc_T_fill_136 rfl (lv_at hl 4 rfl) ?_
      refine lv_iconst (v := 1) hx hb dc_T_fill_137 (by decide) ?_
      refine lv_iadd hx hb dc_T_fill_138 ?_
      refine lv_aload_n hx hb dc_T_fill_139 rfl (lv_at hl 2 rfl) ?_
      refine va_get (D := D) (ci := 2) (v := .ref (ad 19)) (C := Rn_T) (T := Fn_T) (N := 3) hx hb hts in_T hown hK hP 20 rfl rfl 0 (by decide) (hts _ mw_13) (fun _ h9 => h9) rfl dc_T_fill_140 ?_
      refine lv_iload hx hb dc_T_fill_143 (lv_at hl 0 rfl) ?_
      refine lv_iconst (v := 0) hx hb dc_T_fill_145 (by decide) ?_
      refine w_cVi (y := yn_B_key) (C := Rn_B) (index := 41) (n := 2) (own := Rn_T) 19 hx hb hml hown hts hK hN hP hS (ct_B_key l D ad cA w hJ r104 0 st115 _ h) mw_43 mw_44 mw_45 mw_46 mw_18 (by decide +kernel) ⟨Nat.le_of_ble_eq_true rfl, Nat.le_of_ble_eq_true rfl⟩ rfl rfl rfl rfl rfl hl.1 rfl (lv_room (Nat.le_of_ble_eq_true rfl)) dc_T_fill_146 ⟨Nat.zero_le _, Nat.zero_le _⟩ (fun r117 st116 H locs hP hS h => ?_)
      refine w_cVv (y := yn_B_setKey) (C := Rn_B) (index := 76) (n := 3) (own := Rn_T) 19 hx hb hml hown hts hK hN hP hS (ct_B_setKey l D ad cA w hJ x1 (x2 + 1) r117 st116 _ h) mw_110 mw_111 mw_112 mw_113 mw_18 (by decide +kernel) ⟨Nat.le_of_ble_eq_true rfl, Nat.le_of_ble_eq_true rfl⟩ rfl rfl rfl rfl rfl hl.1 rfl (lv_room (Nat.le_of_ble_eq_true rfl)) dc_T_fill_149 ⟨Nat.zero_le _, Nat.zero_le _⟩ (fun st118 H locs hP hS h => ?_)
      exact w_vret hx hb hr hlocks hP hS h dc_T_fill_152
    · have h := h.2 c
      refine lv_aload_n hx hb dc_T_fill_94 rfl (lv_at hl 2 rfl) ?_
      refine lv_iload hx hb dc_T_fill_95 (lv_at hl 0 rfl) ?_
      refine lv_iconst (v := 0) hx hb dc_T_fill_97 (by decide) ?_
      refine lv_iload_n hx hb dc_T_fill_98 rfl (lv_at hl 1 rfl) ?_
      refine lv_aload_n hx hb dc_T_fill_99 rfl (lv_at hl 2 rfl) ?_
      refine va_get (D := D) (ci := 2) (v := .ref (ad 19)) (C := Rn_T) (T := Fn_T) (N := 3) hx hb hts in_T hown hK hP 20 rfl rfl 0 (by decide) (hts _ mw_13) (fun _ h9 => h9) rfl dc_T_fill_100 ?_
      refine lv_iload_n hx hb dc_T_fill_103 rfl (lv_at hl 1 rfl) ?_
      refine w_cVi (y := yn_B_size) (C := Rn_B) (index := 48) (n := 1) (own := Rn_T) 19 hx hb hml hown hts hK hN hP hS (ct_B_size l D ad cA w hJ r102 st111 _ h) mw_26 mw_114 mw_28 mw_29 mw_18 (by decide +kernel) ⟨Nat.le_of_ble_eq_true rfl, Nat.le_of_ble_eq_true rfl⟩ rfl rfl rfl rfl rfl hl.1 rfl (lv_room (Nat.le_of_ble_eq_true rfl)) dc_T_fill_104 ⟨Nat.zero_le _, Nat.zero_le _⟩ (fun r120 st119 H locs hP hS h => ?_)
      refine w_cVv (y := yn_T_moveEntry) (C := Rn_T) (index := 108) (n := 4) (own := Rn_T) 20 hx hb hml hown hts hK hN hP hS (ct_T_moveEntry l D ad cA w hJ r104 0 r102 r120 st119 _ h) mw_176 mw_177 mw_178 mw_179 mw_59 (by decide +kernel) ⟨Nat.le_of_ble_eq_true rfl, Nat.le_of_ble_eq_true rfl⟩ rfl rfl rfl rfl rfl hl.1 rfl (lv_room (Nat.le_of_ble_eq_true rfl)) dc_T_fill_107 ⟨Nat.zero_le _, Nat.zero_le _⟩ (fun st121 H locs hP hS h => ?_)
      refine lv_goto (tgt := 131) hx hb dc_T_fill_110 (by decide) ?_
      refine lv_aload_n hx hb dc_T_fill_131 rfl (lv_at hl 2 rfl) ?_
      refine va_get (D := D) (ci := 2) (v := .ref (ad 19)) (C := Rn_T) (T := Fn_T) (N := 3) hx hb hts in_T hown hK hP 20 rfl rfl 0 (by decide) (hts _ mw_13) (fun _ h9 => h9) rfl dc_T_fill_132 ?_
      refine lv_iload_n hx hb dc_T_fill_135 rfl (lv_at hl 3 rfl) ?_
      refine lv_iload_n hx hb dc_T_fill_136 rfl (lv_at hl 4 rfl) ?_
      refine lv_iconst (v := 1) hx hb dc_T_fill_137 (by decide) ?_
      refine lv_iadd hx hb dc_T_fill_138 ?_
      refine lv_aload_n hx hb dc_T_fill_139 rfl (lv_at hl 2 rfl) ?_
      refine va_get (D := D) (ci := 2) (v := .ref (ad 19)) (C := Rn_T) (T := Fn_T) (N := 3) hx hb hts in_T hown hK hP 20 rfl rfl 0 (by decide) (hts _ mw_13) (fun _ h9 => h9) rfl dc_T_fill_140 ?_
      refine lv_iload hx hb dc_T_fill_143 (lv_at hl 0 rfl) ?_
      refine lv_iconst (v := 0) hx hb dc_T_fill_145 (by decide) ?_
      refine w_cVi (y := yn_B_key) (C := Rn_B) (index := 41) (n := 2) (own := Rn_T) 19 hx hb hml hown hts hK hN hP hS (ct_B_key l D ad cA w hJ r104 0 st121 _ h) mw_43 mw_44 mw_45 mw_46 mw_18 (by decide +kernel) ⟨Nat.le_of_ble_eq_true rfl, Nat.le_of_ble_eq_true rfl⟩ rfl rfl rfl rfl rfl hl.1 rfl (lv_room (Nat.le_of_ble_eq_true rfl)) dc_T_fill_146 ⟨Nat.zero_le _, Nat.zero_le _⟩ (fun r123 st122 H locs hP hS h => ?_)
      refine w_cVv (y := yn_B_setKey) (C := Rn_B) (index := 76) (n := 3) (own := Rn_T) 19 hx hb hml hown hts hK hN hP hS (ct_B_setKey l D ad cA w hJ x1 (x2 + 1) r123 st122 _ h) mw_110 mw_111 mw_112 mw_113 mw_18 (by decide +kernel) ⟨Nat.le_of_ble_eq_true rfl, Nat.le_of_ble_eq_true rfl⟩ rfl rfl rfl rfl rfl hl.1 rfl (lv_room (Nat.le_of_ble_eq_true rfl)) dc_T_fill_149 ⟨Nat.zero_le _, Nat.zero_le _⟩ (fun st124 H locs hP hS h => ?_)
      exact w_vret hx hb hr hlocks hP hS h dc_T_fill_152
  · have h := h.2 c
    refine lv_aload_n hx hb dc_T_fill_42 rfl (lv_at hl 2 rfl) ?_
    refine va_get (D := D) (ci := 2) (v := .ref (ad 19)) (C := Rn_T) (T := Fn_T) (N := 3) hx hb hts in_T hown hK hP 20 rfl rfl 0 (by decide) (hts _ mw_13) (fun _ h9 => h9) rfl dc_T_fill_43 ?_
    refine lv_iload hx hb dc_T_fill_46 (lv_at hl 0 rfl) ?_
    refine lv_iconst (v := 0) hx hb dc_T_fill_48 (by decide) ?_
    refine lv_iload_n hx hb dc_T_fill_49 rfl (lv_at hl 1 rfl) ?_
    refine w_cVv (y := yn_B_moveTail) (C := Rn_B) (index := 89) (n := 3) (own := Rn_T) 19 hx hb hml hown hts hK hN hP hS (ct_B_moveTail l D ad cA w hJ r104 0 r102 st107 _ h) mw_118 mw_119 mw_120 mw_121 mw_18 (by decide +kernel) ⟨Nat.le_of_ble_eq_true rfl, Nat.le_of_ble_eq_true rfl⟩ rfl rfl rfl rfl rfl hl.1 rfl (lv_room (Nat.le_of_ble_eq_true rfl)) dc_T_fill_50 ⟨Nat.zero_le _, Nat.zero_le _⟩ (fun st125 H locs hP hS h => ?_)
    refine lv_aload_n hx hb dc_T_fill_53 rfl (lv_at hl 2 rfl) ?_
    refine va_get (D := D) (ci := 2) (v := .ref (ad 19)) (C := Rn_T) (T := Fn_T) (N := 3) hx hb hts in_T hown hK hP 20 rfl rfl 0 (by decide) (hts _ mw_13) (fun _ h9 => h9) rfl dc_T_fill_54 ?_
    refine lv_iload hx hb dc_T_fill_57 (lv_at hl 0 rfl) ?_
    refine w_cVv (y := yn_B_give) (C := Rn_B) (index := 104) (n := 1) (own := Rn_T) 19 hx hb hml hown hts hK hN hP hS (ct_B_give l D ad cA w hJ r104 st125 _ h) mw_180 mw_181 mw_182 mw_183 mw_18 (by decide +kernel) ⟨Nat.le_of_ble_eq_true rfl, Nat.le_of_ble_eq_true rfl⟩ rfl rfl rfl rfl rfl hl.1 rfl (lv_room (Nat.le_of_ble_eq_true rfl)) dc_T_fill_59 ⟨Nat.zero_le _, Nat.zero_le _⟩ (fun st126 H locs hP hS h => ?_)
    refine lv_aload_n hx hb dc_T_fill_62 rfl (lv_at hl 2 rfl) ?_
    refine va_get (D := D) (ci := 2) (v := .ref (ad 19)) (C := Rn_T) (T := Fn_T) (N := 3) hx hb hts in_T hown hK hP 20 rfl rfl 0 (by decide) (hts _ mw_13) (fun _ h9 => h9) rfl dc_T_fill_63 ?_
    refine lv_iload_n hx hb dc_T_fill_66 rfl (lv_at hl 3 rfl) ?_
    refine lv_iload_n hx hb dc_T_fill_67 rfl (lv_at hl 4 rfl) ?_
    refine lv_iconst (v := 1) hx hb dc_T_fill_68 (by decide) ?_
    refine lv_iadd hx hb dc_T_fill_69 ?_
    refine w_cVv (y := yn_B_remove) (C := Rn_B) (index := 98) (n := 2) (own := Rn_T) 19 hx hb hml hown hts hK hN hP hS (ct_B_remove l D ad cA w hJ x1 (x2 + 1) st126 _ h) mw_172 mw_173 mw_174 mw_175 mw_18 (by decide +kernel) ⟨Nat.le_of_ble_eq_true rfl, Nat.le_of_ble_eq_true rfl⟩ rfl rfl rfl rfl rfl hl.1 rfl (lv_room (Nat.le_of_ble_eq_true rfl)) dc_T_fill_70 ⟨Nat.zero_le _, Nat.zero_le _⟩ (fun st127 H locs hP hS h => ?_)
    exact w_vret hx hb hr hlocks hP hS h dc_T_fill_73
set_option maxHeartbeats 4000000 in
set_option maxRecDepth 100000 in
theorem ct_T_removeBelow (l : Launch) (D : va_G) (ad : Nat → Nat) (cA : Nat → ClassId) (w : Nat) (hJ : Jn_ ad) (d : Nat) : ∀ (x1 : Int32) (x2 : Int32) (x3 : Int32) (st : St_) (post : St_ → Prop), wp_T_removeBelow w d x1 x2 x3 st post → Met l yn_T_removeBelow (Cond.code yn_T_removeBelow bc_T_removeBelow 6 none :: Wk_) (rm_T_removeBelow d) (Pw_ D ad cA w st [.ref (ad 20), .int x1, .int x2, .int x3]) (Qv_ D ad cA w post) 0 0 (Aw_ ad) := by
  induction d with
  | zero =>
    intro x1 x2 x3 st post h
    exact h.elim
  | succ d ihd =>
    intro x1 x2 x3 st post h
    refine Met.ofW (cc := bc_T_removeBelow) (maxL := 6) (ret := none) (by decide) rfl ?_
    intro p e s m args below meth c s₁ B hml hv
    obtain ⟨rfl, hP, hK, hN⟩ := hv
    have hx := B.exec
    have hb := B.bytes
    have hr := B.returns
    have hts : ∀ v ∈ Wk_, v.before [.ref (ad 20), .int x1, .int x2, .int x3].toArray s = true := fun v hv => atoms_spec (ws := Cond.code yn_T_removeBelow bc_T_removeBelow 6 none :: Wk_) B.pre v (List.mem_cons_of_mem _ hv)
    have hown : s.vm.findClass Rn_T = some m.cls := findClass_of_methodNamed B.named
    have hlocks := B.notSynchronized
    have hS : va_S (Aw_ ad) s.heap s.heap [] := va_S.rf
    have hl := lv_entry ([.ref (ad 20), .int x1, .int x2, .int x3]) (n := 6) (Nat.le_of_ble_eq_true rfl)
    rw [lg_entry_eq]
    generalize (lg_sl ([.ref (ad 20), .int x1, .int x2, .int x3]) ++ List.replicate (6 - (lg_sl ([.ref (ad 20), .int x1, .int x2, .int x3])).length) Slot.unset).toArray = ls at hl ⊢
    have hl : lv_has ls 6 [(0, .ref (ad 20)), (1, .int x1), (2, .int x2), (3, .int x3)] := hl
    refine lv_iload_n hx hb dc_T_removeBelow_0 rfl (lv_at hl 2 rfl) ?_
    refine lv_bipush (v := 16) hx hb dc_T_removeBelow_1 (by decide) ?_
    refine lv_icmp_le (tgt := 7) hx hb dc_T_removeBelow_3 (by decide) (fun c => ?_) (fun c => ?_)
    · have h := h.1 c
      refine lv_iload_n hx hb dc_T_removeBelow_7 rfl (lv_at hl 2 rfl) ?_
      refine lv_if_gt (tgt := 29) hx hb dc_T_removeBelow_8 (by decide) (fun c => ?_) (fun c => ?_)
      · have h := h.1 c
        refine lv_aload_n hx hb dc_T_removeBelow_29 rfl (lv_at hl 0 rfl) ?_
        refine lv_iload_n hx hb dc_T_removeBelow_30 rfl (lv_at hl 1 rfl) ?_
        refine lv_iload_n hx hb dc_T_removeBelow_31 rfl (lv_at hl 3 rfl) ?_
        refine w_cVi (y := yn_T_slotToward) (C := Rn_T) (index := 31) (n := 2) (own := Rn_T) 20 hx hb hml hown hts hK hN hP hS (ct_T_slotToward l D ad cA w hJ x1 x3 st _ h) mw_55 mw_56 mw_57 mw_58 mw_59 (by decide +kernel) (by refine ⟨?_, ?_⟩ <;> (try dsimp only [headSpec]) <;> omega) rfl rfl rfl rfl rfl hl.1 rfl (lv_room (Nat.le_of_ble_eq_true rfl)) dc_T_removeBelow_32 ⟨Nat.zero_le _, Nat.zero_le _⟩ (fun r102 st101 H locs hP hS h => ?_)
        refine lv_istore (lv' := [(4, .int r102), (0, .ref (ad 20)), (1, .int x1), (2, .int x2), (3, .int x3)]) hx hb dc_T_removeBelow_35 hl (by decide) rfl (fun ls hl => ?_)
        refine lv_aload_n hx hb dc_T_removeBelow_37 rfl (lv_at hl 1 rfl) ?_
        refine lv_iload_n hx hb dc_T_removeBelow_38 rfl (lv_at hl 2 rfl) ?_
        refine lv_iload hx hb dc_T_removeBelow_39 (lv_at hl 0 rfl) ?_
        refine w_cVi (y := yn_T_ownedChild) (C := Rn_T) (index := 73) (n := 2) (own := Rn_T) 20 hx hb hml hown hts hK hN hP hS (ct_T_ownedChild l D ad cA w hJ x1 r102 st101 _ h) mw_102 mw_103 mw_104 mw_105 mw_59 (by decide +kernel) (by refine ⟨?_, ?_⟩ <;> (try dsimp only [headSpec]) <;> omega) rfl rfl rfl rfl rfl hl.1 rfl (lv_room (Nat.le_of_ble_eq_true rfl)) dc_T_removeBelow_41 ⟨Nat.zero_le _, Nat.zero_le _⟩ (fun r104 st103 H locs hP hS h => ?_)
        refine lv_istore (lv' := [(5, .int r104), (4, .int r102), (0, .ref (ad 20)), (1, .int x1), (2, .int x2), (3, .int x3)]) hx hb dc_T_removeBelow_44 hl (by decide) rfl (fun ls hl => ?_)
        refine lv_aload_n hx hb dc_T_removeBelow_46 rfl (lv_at hl 2 rfl) ?_
        refine lv_iload hx hb dc_T_removeBelow_47 (lv_at hl 0 rfl) ?_
        refine lv_iload_n hx hb dc_T_removeBelow_49 rfl (lv_at hl 4 rfl) ?_
        refine lv_iconst (v := 1) hx hb dc_T_removeBelow_50 (by decide) ?_
        refine lv_isub hx hb dc_T_removeBelow_51 ?_
        refine lv_iload_n hx hb dc_T_removeBelow_52 rfl (lv_at hl 5 rfl) ?_
        refine w_cVv (y := yn_T_removeBelow) (C := Rn_T) (index := 92) (n := 3) (own := Rn_T) 20 hx hb hml hown hts hK hN hP hS (ihd r104 (x2 - 1) x3 st103 _ h) mw_168 mw_169 mw_170 mw_171 mw_59 (by decide +kernel) (by refine ⟨?_, ?_⟩ <;> (try dsimp only [headSpec]) <;> omega) rfl rfl rfl rfl rfl hl.1 rfl (lv_room (Nat.le_of_ble_eq_true rfl)) dc_T_removeBelow_53 ⟨Nat.zero_le _, Nat.zero_le _⟩ (fun st105 H locs hP hS h => ?_)
        refine lv_aload_n hx hb dc_T_removeBelow_56 rfl (lv_at hl 2 rfl) ?_
        refine va_get (D := D) (ci := 2) (v := .ref (ad 19)) (C := Rn_T) (T := Fn_T) (N := 3) hx hb hts in_T hown hK hP 20 rfl rfl 0 (by decide) (hts _ mw_13) (fun _ h9 => h9) rfl dc_T_removeBelow_57 ?_
        refine lv_iload_n hx hb dc_T_removeBelow_60 rfl (lv_at hl 3 rfl) ?_
        refine lv_iload hx hb dc_T_removeBelow_61 (lv_at hl 1 rfl) ?_
        refine lv_aload_n hx hb dc_T_removeBelow_63 rfl (lv_at hl 2 rfl) ?_
        refine va_get (D := D) (ci := 2) (v := .ref (ad 19)) (C := Rn_T) (T := Fn_T) (N := 3) hx hb hts in_T hown hK hP 20 rfl rfl 0 (by decide) (hts _ mw_13) (fun _ h9 => h9) rfl dc_T_removeBelow_64 ?_
        refine lv_iload hx hb dc_T_removeBelow_67 (lv_at hl 0 rfl) ?_
        refine lv_iconst (v := 0) hx hb dc_T_removeBelow_69 (by decide) ?_
        refine w_cVi (y := yn_B_key) (C := Rn_B) (index := 41) (n := 2) (own := Rn_T) 19 hx hb hml hown hts hK hN hP hS (ct_B_key l D ad cA w hJ r104 0 st105 _ h) mw_43 mw_44 mw_45 mw_46 mw_18 (by decide +kernel) (by refine ⟨?_, ?_⟩ <;> (try dsimp only [headSpec]) <;> omega) rfl rfl rfl rfl rfl hl.1 rfl (lv_room (Nat.le_of_ble_eq_true rfl)) dc_T_removeBelow_70 ⟨Nat.zero_le _, Nat.zero_le _⟩ (fun r107 st106 H locs hP hS h => ?_)
        refine w_cVv (y := yn_B_setKey) (C := Rn_B) (index := 76) (n := 3) (own := Rn_T) 19 hx hb hml hown hts hK hN hP hS (ct_B_setKey l D ad cA w hJ x1 r102 r107 st106 _ h) mw_110 mw_111 mw_112 mw_113 mw_18 (by decide +kernel) (by refine ⟨?_, ?_⟩ <;> (try dsimp only [headSpec]) <;> omega) rfl rfl rfl rfl rfl hl.1 rfl (lv_room (Nat.le_of_ble_eq_true rfl)) dc_T_removeBelow_73 ⟨Nat.zero_le _, Nat.zero_le _⟩ (fun st108 H locs hP hS h => ?_)
        refine lv_aload_n hx hb dc_T_removeBelow_76 rfl (lv_at hl 2 rfl) ?_
        refine va_get (D := D) (ci := 2) (v := .ref (ad 19)) (C := Rn_T) (T := Fn_T) (N := 3) hx hb hts in_T hown hK hP 20 rfl rfl 0 (by decide) (hts _ mw_13) (fun _ h9 => h9) rfl dc_T_removeBelow_77 ?_
        refine lv_iload hx hb dc_T_removeBelow_80 (lv_at hl 0 rfl) ?_
        refine w_cVi (y := yn_B_size) (C := Rn_B) (index := 48) (n := 1) (own := Rn_T) 19 hx hb hml hown hts hK hN hP hS (ct_B_size l D ad cA w hJ r104 st108 _ h) mw_26 mw_114 mw_28 mw_29 mw_18 (by decide +kernel) (by refine ⟨?_, ?_⟩ <;> (try dsimp only [headSpec]) <;> omega) rfl rfl rfl rfl rfl hl.1 rfl (lv_room (Nat.le_of_ble_eq_true rfl)) dc_T_removeBelow_82 ⟨Nat.zero_le _, Nat.zero_le _⟩ (fun r110 st109 H locs hP hS h => ?_)
        refine lv_aload_n hx hb dc_T_removeBelow_85 rfl (lv_at hl 2 rfl) ?_
        refine va_get (D := D) (ci := 2) (v := .int (nI (w / 2))) (C := Rn_T) (T := Fn_T) (N := 3) hx hb hts in_T hown hK hP 20 rfl rfl 2 (by decide) (hts _ mw_117) (fun _ h9 => h9) rfl dc_T_removeBelow_86 ?_
        refine lv_icmp_ge (tgt := 105) hx hb dc_T_removeBelow_89 (by decide) (fun c => ?_) (fun c => ?_)
        · have h := h.1 c
          exact w_vret hx hb hr hlocks hP hS h dc_T_removeBelow_105
        · have h := h.2 c
          refine lv_aload_n hx hb dc_T_removeBelow_92 rfl (lv_at hl 2 rfl) ?_
          refine lv_iload_n hx hb dc_T_removeBelow_93 rfl (lv_at hl 3 rfl) ?_
          refine lv_iconst (v := 0) hx hb dc_T_removeBelow_94 (by decide) ?_
          refine lv_iload hx hb dc_T_removeBelow_95 (lv_at hl 1 rfl) ?_
          refine lv_iconst (v := 1) hx hb dc_T_removeBelow_97 (by decide) ?_
          refine lv_isub hx hb dc_T_removeBelow_98 ?_
          refine va_mmax hx hb (hml.trans hl.1.symm) hown (hts _ mw_52) (hts _ mw_53) (hts _ mw_32) (hts _ mw_54) (by (try dsimp only [headSpec]); omega) (by (try dsimp only [headSpec]); (try simp [Value.category]); omega) (Nat.zero_le _) (Nat.zero_le _) dc_T_removeBelow_99 ?_
          refine w_cVv (y := yn_T_fill) (C := Rn_T) (index := 101) (n := 2) (own := Rn_T) 20 hx hb hml hown hts hK hN hP hS (ct_T_fill l D ad cA w hJ x1 (if 0 < (r102 - 1) then (r102 - 1) else 0) st109 _ h) mw_184 mw_185 mw_186 mw_187 mw_59 (by decide +kernel) (by refine ⟨?_, ?_⟩ <;> (try dsimp only [headSpec]) <;> omega) rfl rfl rfl rfl rfl hl.1 rfl (lv_room (Nat.le_of_ble_eq_true rfl)) dc_T_removeBelow_102 ⟨Nat.zero_le _, Nat.zero_le _⟩ (fun st111 H locs hP hS h => ?_)
          exact w_vret hx hb hr hlocks hP hS h dc_T_removeBelow_105
      · have h := h.2 c
        refine lv_aload_n hx hb dc_T_removeBelow_11 rfl (lv_at hl 0 rfl) ?_
        refine va_get (D := D) (ci := 2) (v := .ref (ad 19)) (C := Rn_T) (T := Fn_T) (N := 3) hx hb hts in_T hown hK hP 20 rfl rfl 0 (by decide) (hts _ mw_13) (fun _ h9 => h9) rfl dc_T_removeBelow_12 ?_
        refine lv_iload_n hx hb dc_T_removeBelow_15 rfl (lv_at hl 1 rfl) ?_
        refine lv_aload_n hx hb dc_T_removeBelow_16 rfl (lv_at hl 0 rfl) ?_
        refine va_get (D := D) (ci := 2) (v := .ref (ad 19)) (C := Rn_T) (T := Fn_T) (N := 3) hx hb hts in_T hown hK hP 20 rfl rfl 0 (by decide) (hts _ mw_13) (fun _ h9 => h9) rfl dc_T_removeBelow_17 ?_
        refine lv_iload_n hx hb dc_T_removeBelow_20 rfl (lv_at hl 1 rfl) ?_
        refine lv_iload_n hx hb dc_T_removeBelow_21 rfl (lv_at hl 3 rfl) ?_
        refine w_cVi (y := yn_B_slotOf) (C := Rn_B) (index := 38) (n := 2) (own := Rn_T) 19 hx hb hml hown hts hK hN hP hS (ct_B_slotOf l D ad cA w hJ x1 x3 st _ h) mw_35 mw_36 mw_37 mw_38 mw_18 (by decide +kernel) (by refine ⟨?_, ?_⟩ <;> (try dsimp only [headSpec]) <;> omega) rfl rfl rfl rfl rfl hl.1 rfl (lv_room (Nat.le_of_ble_eq_true rfl)) dc_T_removeBelow_22 ⟨Nat.zero_le _, Nat.zero_le _⟩ (fun r113 st112 H locs hP hS h => ?_)
        refine w_cVv (y := yn_B_remove) (C := Rn_B) (index := 98) (n := 2) (own := Rn_T) 19 hx hb hml hown hts hK hN hP hS (ct_B_remove l D ad cA w hJ x1 r113 st112 _ h) mw_172 mw_173 mw_174 mw_175 mw_18 (by decide +kernel) (by refine ⟨?_, ?_⟩ <;> (try dsimp only [headSpec]) <;> omega) rfl rfl rfl rfl rfl hl.1 rfl (lv_room (Nat.le_of_ble_eq_true rfl)) dc_T_removeBelow_25 ⟨Nat.zero_le _, Nat.zero_le _⟩ (fun st114 H locs hP hS h => ?_)
        exact w_vret hx hb hr hlocks hP hS h dc_T_removeBelow_28
    · have h := h.2 c
      exact w_vret hx hb hr hlocks hP hS h dc_T_removeBelow_6
set_option maxHeartbeats 4000000 in
set_option maxRecDepth 100000 in
theorem ct_T_shrunk (l : Launch) (D : va_G) (ad : Nat → Nat) (cA : Nat → ClassId) (w : Nat) (hJ : Jn_ ad) (x1 : Int32) (st : St_) (post : Int32 → St_ → Prop) (h : wp_T_shrunk w x1 st post) : Met l yn_T_shrunk (Cond.code yn_T_shrunk bc_T_shrunk 3 (some .int) :: Wk_) rm_T_shrunk (Pw_ D ad cA w st [.ref (ad 20), .int x1]) (Qi_ D ad cA w post) 0 0 (Aw_ ad) := by
  refine Met.ofW (cc := bc_T_shrunk) (maxL := 3) (ret := (some .int)) (by decide) rfl ?_
  intro p e s m args below meth c s₁ B hml hv
  obtain ⟨rfl, hP, hK, hN⟩ := hv
  have hx := B.exec
  have hb := B.bytes
  have hr := B.returns
  have hts : ∀ v ∈ Wk_, v.before [.ref (ad 20), .int x1].toArray s = true := fun v hv => atoms_spec (ws := Cond.code yn_T_shrunk bc_T_shrunk 3 (some .int) :: Wk_) B.pre v (List.mem_cons_of_mem _ hv)
  have hown : s.vm.findClass Rn_T = some m.cls := findClass_of_methodNamed B.named
  have hlocks := B.notSynchronized
  have hS : va_S (Aw_ ad) s.heap s.heap [] := va_S.rf
  have hl := lv_entry ([.ref (ad 20), .int x1]) (n := 3) (Nat.le_of_ble_eq_true rfl)
  rw [lg_entry_eq]
  generalize (lg_sl ([.ref (ad 20), .int x1]) ++ List.replicate (3 - (lg_sl ([.ref (ad 20), .int x1])).length) Slot.unset).toArray = ls at hl ⊢
  have hl : lv_has ls 3 [(0, .ref (ad 20)), (1, .int x1)] := hl
  refine lv_aload_n hx hb dc_T_shrunk_0 rfl (lv_at hl 0 rfl) ?_
  refine va_get (D := D) (ci := 2) (v := .ref (ad 19)) (C := Rn_T) (T := Fn_T) (N := 3) hx hb hts in_T hown hK hP 20 rfl rfl 0 (by decide) (hts _ mw_13) (fun _ h9 => h9) rfl dc_T_shrunk_1 ?_
  refine lv_iload_n hx hb dc_T_shrunk_4 rfl (lv_at hl 1 rfl) ?_
  refine w_cVi (y := yn_B_size) (C := Rn_B) (index := 48) (n := 1) (own := Rn_T) 19 hx hb hml hown hts hK hN hP hS (ct_B_size l D ad cA w hJ x1 st _ h) mw_26 mw_114 mw_28 mw_29 mw_18 (by decide +kernel) ⟨Nat.le_of_ble_eq_true rfl, Nat.le_of_ble_eq_true rfl⟩ rfl rfl rfl rfl rfl hl.1 rfl (lv_room (Nat.le_of_ble_eq_true rfl)) dc_T_shrunk_5 ⟨Nat.zero_le _, Nat.zero_le _⟩ (fun r102 st101 H locs hP hS h => ?_)
  refine lv_if_ne (tgt := 21) hx hb dc_T_shrunk_8 (by decide) (fun c => ?_) (fun c => ?_)
  · have h := h.1 c
    refine lv_aload_n hx hb dc_T_shrunk_21 rfl (lv_at hl 0 rfl) ?_
    refine va_get (D := D) (ci := 2) (v := .ref (ad 19)) (C := Rn_T) (T := Fn_T) (N := 3) hx hb hts in_T hown hK hP 20 rfl rfl 0 (by decide) (hts _ mw_13) (fun _ h9 => h9) rfl dc_T_shrunk_22 ?_
    refine lv_iload_n hx hb dc_T_shrunk_25 rfl (lv_at hl 1 rfl) ?_
    refine w_cVi (y := yn_B_level) (C := Rn_B) (index := 26) (n := 1) (own := Rn_T) 19 hx hb hml hown hts hK hN hP hS (ct_B_level l D ad cA w hJ x1 st101 _ h) mw_20 mw_21 mw_22 mw_23 mw_18 (by decide +kernel) ⟨Nat.le_of_ble_eq_true rfl, Nat.le_of_ble_eq_true rfl⟩ rfl rfl rfl rfl rfl hl.1 rfl (lv_room (Nat.le_of_ble_eq_true rfl)) dc_T_shrunk_26 ⟨Nat.zero_le _, Nat.zero_le _⟩ (fun r104 st103 H locs hP hS h => ?_)
    refine lv_if_le (tgt := 64) hx hb dc_T_shrunk_29 (by decide) (fun c => ?_) (fun c => ?_)
    · have h := h.1 c
      refine lv_iload_n hx hb dc_T_shrunk_64 rfl (lv_at hl 1 rfl) ?_
      exact w_iret hx hb hr hlocks hP hS h dc_T_shrunk_65
    · have h := h.2 c
      refine lv_aload_n hx hb dc_T_shrunk_32 rfl (lv_at hl 0 rfl) ?_
      refine va_get (D := D) (ci := 2) (v := .ref (ad 19)) (C := Rn_T) (T := Fn_T) (N := 3) hx hb hts in_T hown hK hP 20 rfl rfl 0 (by decide) (hts _ mw_13) (fun _ h9 => h9) rfl dc_T_shrunk_33 ?_
      refine lv_iload_n hx hb dc_T_shrunk_36 rfl (lv_at hl 1 rfl) ?_
      refine w_cVi (y := yn_B_size) (C := Rn_B) (index := 48) (n := 1) (own := Rn_T) 19 hx hb hml hown hts hK hN hP hS (ct_B_size l D ad cA w hJ x1 st103 _ h) mw_26 mw_114 mw_28 mw_29 mw_18 (by decide +kernel) ⟨Nat.le_of_ble_eq_true rfl, Nat.le_of_ble_eq_true rfl⟩ rfl rfl rfl rfl rfl hl.1 rfl (lv_room (Nat.le_of_ble_eq_true rfl)) dc_T_shrunk_37 ⟨Nat.zero_le _, Nat.zero_le _⟩ (fun r106 st105 H locs hP hS h => ?_)
      refine lv_iconst (v := 1) hx hb dc_T_shrunk_40 (by decide) ?_
      refine lv_icmp_ne (tgt := 64) hx hb dc_T_shrunk_41 (by decide) (fun c => ?_) (fun c => ?_)
      · have h := h.1 c
        refine lv_iload_n hx hb dc_T_shrunk_64 rfl (lv_at hl 1 rfl) ?_
        exact w_iret hx hb hr hlocks hP hS h dc_T_shrunk_65
      · have h := h.2 c
        refine lv_aload_n hx hb dc_T_shrunk_44 rfl (lv_at hl 0 rfl) ?_
        refine va_get (D := D) (ci := 2) (v := .ref (ad 19)) (C := Rn_T) (T := Fn_T) (N := 3) hx hb hts in_T hown hK hP 20 rfl rfl 0 (by decide) (hts _ mw_13) (fun _ h9 => h9) rfl dc_T_shrunk_45 ?_
        refine lv_iload_n hx hb dc_T_shrunk_48 rfl (lv_at hl 1 rfl) ?_
        refine lv_iconst (v := 0) hx hb dc_T_shrunk_49 (by decide) ?_
        refine w_cVi (y := yn_B_goal) (C := Rn_B) (index := 35) (n := 2) (own := Rn_T) 19 hx hb hml hown hts hK hN hP hS (ct_B_goal l D ad cA w hJ x1 0 st105 _ h) mw_48 mw_49 mw_50 mw_51 mw_18 (by decide +kernel) ⟨Nat.le_of_ble_eq_true rfl, Nat.le_of_ble_eq_true rfl⟩ rfl rfl rfl rfl rfl hl.1 rfl (lv_room (Nat.le_of_ble_eq_true rfl)) dc_T_shrunk_50 ⟨Nat.zero_le _, Nat.zero_le _⟩ (fun r108 st107 H locs hP hS h => ?_)
        refine lv_istore_n (lv' := [(2, .int r108), (0, .ref (ad 20)), (1, .int x1)]) hx hb dc_T_shrunk_53 rfl hl (by decide) rfl (fun ls hl => ?_)
        refine lv_aload_n hx hb dc_T_shrunk_54 rfl (lv_at hl 1 rfl) ?_
        refine va_get (D := D) (ci := 2) (v := .ref (ad 19)) (C := Rn_T) (T := Fn_T) (N := 3) hx hb hts in_T hown hK hP 20 rfl rfl 0 (by decide) (hts _ mw_13) (fun _ h9 => h9) rfl dc_T_shrunk_55 ?_
        refine lv_iload_n hx hb dc_T_shrunk_58 rfl (lv_at hl 2 rfl) ?_
        refine w_cVv (y := yn_B_give) (C := Rn_B) (index := 104) (n := 1) (own := Rn_T) 19 hx hb hml hown hts hK hN hP hS (ct_B_give l D ad cA w hJ x1 st107 _ h) mw_180 mw_181 mw_182 mw_183 mw_18 (by decide +kernel) ⟨Nat.le_of_ble_eq_true rfl, Nat.le_of_ble_eq_true rfl⟩ rfl rfl rfl rfl rfl hl.1 rfl (lv_room (Nat.le_of_ble_eq_true rfl)) dc_T_shrunk_59 ⟨Nat.zero_le _, Nat.zero_le _⟩ (fun st109 H locs hP hS h => ?_)
        refine lv_iload_n hx hb dc_T_shrunk_62 rfl (lv_at hl 0 rfl) ?_
        exact w_iret hx hb hr hlocks hP hS h dc_T_shrunk_63
  · have h := h.2 c
    refine lv_aload_n hx hb dc_T_shrunk_11 rfl (lv_at hl 0 rfl) ?_
    refine va_get (D := D) (ci := 2) (v := .ref (ad 19)) (C := Rn_T) (T := Fn_T) (N := 3) hx hb hts in_T hown hK hP 20 rfl rfl 0 (by decide) (hts _ mw_13) (fun _ h9 => h9) rfl dc_T_shrunk_12 ?_
    refine lv_iload_n hx hb dc_T_shrunk_15 rfl (lv_at hl 1 rfl) ?_
    refine w_cVv (y := yn_B_give) (C := Rn_B) (index := 104) (n := 1) (own := Rn_T) 19 hx hb hml hown hts hK hN hP hS (ct_B_give l D ad cA w hJ x1 st101 _ h) mw_180 mw_181 mw_182 mw_183 mw_18 (by decide +kernel) ⟨Nat.le_of_ble_eq_true rfl, Nat.le_of_ble_eq_true rfl⟩ rfl rfl rfl rfl rfl hl.1 rfl (lv_room (Nat.le_of_ble_eq_true rfl)) dc_T_shrunk_16 ⟨Nat.zero_le _, Nat.zero_le _⟩ (fun st110 H locs hP hS h => ?_)
    refine lv_iconst (v := 0) hx hb dc_T_shrunk_19 (by decide) ?_
    exact w_iret hx hb hr hlocks hP hS h dc_T_shrunk_20
end
section
set_option maxHeartbeats 4000000 in
set_option maxRecDepth 100000 in
theorem ct_T_without (l : Launch) (D : va_G) (ad : Nat → Nat) (cA : Nat → ClassId) (w : Nat) (hJ : Jn_ ad) (x1 : Int32) (x2 : Int32) (st : St_) (post : Int32 → St_ → Prop) (h : wp_T_without w x1 x2 st post) : Met l yn_T_without (Cond.code yn_T_without bc_T_without 4 (some .int) :: Wk_) rm_T_without (Pw_ D ad cA w st [.ref (ad 20), .int x1, .int x2]) (Qi_ D ad cA w post) 0 0 (Aw_ ad) := by
  refine Met.ofW (cc := bc_T_without) (maxL := 4) (ret := (some .int)) (by decide) rfl ?_
  intro p e s m args below meth c s₁ B hml hv
  obtain ⟨rfl, hP, hK, hN⟩ := hv
  have hx := B.exec
  have hb := B.bytes
  have hr := B.returns
  have hts : ∀ v ∈ Wk_, v.before [.ref (ad 20), .int x1, .int x2].toArray s = true := fun v hv => atoms_spec (ws := Cond.code yn_T_without bc_T_without 4 (some .int) :: Wk_) B.pre v (List.mem_cons_of_mem _ hv)
  have hown : s.vm.findClass Rn_T = some m.cls := findClass_of_methodNamed B.named
  have hlocks := B.notSynchronized
  have hS : va_S (Aw_ ad) s.heap s.heap [] := va_S.rf
  have hl := lv_entry ([.ref (ad 20), .int x1, .int x2]) (n := 4) (Nat.le_of_ble_eq_true rfl)
  rw [lg_entry_eq]
  generalize (lg_sl ([.ref (ad 20), .int x1, .int x2]) ++ List.replicate (4 - (lg_sl ([.ref (ad 20), .int x1, .int x2])).length) Slot.unset).toArray = ls at hl ⊢
  have hl : lv_has ls 4 [(0, .ref (ad 20)), (1, .int x1), (2, .int x2)] := hl
  refine lv_aload_n hx hb dc_T_without_0 rfl (lv_at hl 0 rfl) ?_
  refine va_get (D := D) (ci := 2) (v := .ref (ad 19)) (C := Rn_T) (T := Fn_T) (N := 3) hx hb hts in_T hown hK hP 20 rfl rfl 0 (by decide) (hts _ mw_13) (fun _ h9 => h9) rfl dc_T_without_1 ?_
  refine lv_iload_n hx hb dc_T_without_4 rfl (lv_at hl 1 rfl) ?_
  refine w_cVi (y := yn_B_owned) (C := Rn_B) (index := 59) (n := 1) (own := Rn_T) 19 hx hb hml hown hts hK hN hP hS (ct_B_owned l D ad cA w hJ x1 st _ h) mw_94 mw_95 mw_96 mw_97 mw_18 (by decide +kernel) ⟨Nat.le_of_ble_eq_true rfl, Nat.le_of_ble_eq_true rfl⟩ rfl rfl rfl rfl rfl hl.1 rfl (lv_room (Nat.le_of_ble_eq_true rfl)) dc_T_without_5 ⟨Nat.zero_le _, Nat.zero_le _⟩ (fun r102 st101 H locs hP hS h => ?_)
  refine lv_istore_n (lv' := [(3, .int r102), (0, .ref (ad 20)), (1, .int x1), (2, .int x2)]) hx hb dc_T_without_8 rfl hl (by decide) rfl (fun ls hl => ?_)
  refine lv_aload_n hx hb dc_T_without_9 rfl (lv_at hl 1 rfl) ?_
  refine lv_iload_n hx hb dc_T_without_10 rfl (lv_at hl 0 rfl) ?_
  refine lv_aload_n hx hb dc_T_without_11 rfl (lv_at hl 1 rfl) ?_
  refine va_get (D := D) (ci := 2) (v := .ref (ad 19)) (C := Rn_T) (T := Fn_T) (N := 3) hx hb hts in_T hown hK hP 20 rfl rfl 0 (by decide) (hts _ mw_13) (fun _ h9 => h9) rfl dc_T_without_12 ?_
  refine lv_iload_n hx hb dc_T_without_15 rfl (lv_at hl 0 rfl) ?_
  refine w_cVi (y := yn_B_level) (C := Rn_B) (index := 26) (n := 1) (own := Rn_T) 19 hx hb hml hown hts hK hN hP hS (ct_B_level l D ad cA w hJ r102 st101 _ h) mw_20 mw_21 mw_22 mw_23 mw_18 (by decide +kernel) ⟨Nat.le_of_ble_eq_true rfl, Nat.le_of_ble_eq_true rfl⟩ rfl rfl rfl rfl rfl hl.1 rfl (lv_room (Nat.le_of_ble_eq_true rfl)) dc_T_without_16 ⟨Nat.zero_le _, Nat.zero_le _⟩ (fun r104 st103 H locs hP hS h => ?_)
  refine lv_iload_n hx hb dc_T_without_19 rfl (lv_at hl 3 rfl) ?_
  refine w_cVv (y := yn_T_removeBelow) (C := Rn_T) (index := 92) (n := 3) (own := Rn_T) 20 hx hb hml hown hts hK hN hP hS (ct_T_removeBelow l D ad cA w hJ 20 r102 r104 x2 st103 _ h) mw_168 mw_169 mw_170 mw_171 mw_59 (by decide +kernel) ⟨Nat.le_of_ble_eq_true rfl, Nat.le_of_ble_eq_true rfl⟩ rfl rfl rfl rfl rfl hl.1 rfl (lv_room (Nat.le_of_ble_eq_true rfl)) dc_T_without_20 ⟨Nat.zero_le _, Nat.zero_le _⟩ (fun st105 H locs hP hS h => ?_)
  refine lv_aload_n hx hb dc_T_without_23 rfl (lv_at hl 1 rfl) ?_
  refine lv_iload_n hx hb dc_T_without_24 rfl (lv_at hl 0 rfl) ?_
  refine w_cVi (y := yn_T_shrunk) (C := Rn_T) (index := 95) (n := 1) (own := Rn_T) 20 hx hb hml hown hts hK hN hP hS (ct_T_shrunk l D ad cA w hJ r102 st105 _ h) mw_188 mw_189 mw_190 mw_191 mw_59 (by decide +kernel) ⟨Nat.le_of_ble_eq_true rfl, Nat.le_of_ble_eq_true rfl⟩ rfl rfl rfl rfl rfl hl.1 rfl (lv_room (Nat.le_of_ble_eq_true rfl)) dc_T_without_25 ⟨Nat.zero_le _, Nat.zero_le _⟩ (fun r107 st106 H locs hP hS h => ?_)
  exact w_iret hx hb hr hlocks hP hS h dc_T_without_28
set_option maxHeartbeats 4000000 in
set_option maxRecDepth 100000 in
theorem ct_S_removeKey (l : Launch) (D : va_G) (ad : Nat → Nat) (cA : Nat → ClassId) (w : Nat) (hJ : Jn_ ad) (x1 : Int32) (x2 : Int32) (st : St_) (post : St_ → Prop) (h : wp_S_removeKey w x1 x2 st post) : Met l yn_S_removeKey (Cond.code yn_S_removeKey bc_S_removeKey 3 none :: Wk_) rm_S_removeKey (Pw_ D ad cA w st [.ref (ad 18), .int x1, .int x2]) (Qv_ D ad cA w post) 0 0 (Aw_ ad) := by
  refine Met.ofW (cc := bc_S_removeKey) (maxL := 3) (ret := none) (by decide) rfl ?_
  intro p e s m args below meth c s₁ B hml hv
  obtain ⟨rfl, hP, hK, hN⟩ := hv
  have hx := B.exec
  have hb := B.bytes
  have hr := B.returns
  have hts : ∀ v ∈ Wk_, v.before [.ref (ad 18), .int x1, .int x2].toArray s = true := fun v hv => atoms_spec (ws := Cond.code yn_S_removeKey bc_S_removeKey 3 none :: Wk_) B.pre v (List.mem_cons_of_mem _ hv)
  have hown : s.vm.findClass Rn_S = some m.cls := findClass_of_methodNamed B.named
  have hlocks := B.notSynchronized
  have hS : va_S (Aw_ ad) s.heap s.heap [] := va_S.rf
  have hl := lv_entry ([.ref (ad 18), .int x1, .int x2]) (n := 3) (Nat.le_of_ble_eq_true rfl)
  rw [lg_entry_eq]
  generalize (lg_sl ([.ref (ad 18), .int x1, .int x2]) ++ List.replicate (3 - (lg_sl ([.ref (ad 18), .int x1, .int x2])).length) Slot.unset).toArray = ls at hl ⊢
  have hl : lv_has ls 3 [(0, .ref (ad 18)), (1, .int x1), (2, .int x2)] := hl
  refine lv_aload_n hx hb dc_S_removeKey_0 rfl (lv_at hl 0 rfl) ?_
  refine va_get (D := D) (ci := 0) (v := .ref (ad 22)) (C := Rn_S) (T := Fn_S) (N := 5) hx hb hts in_S hown hK hP 18 rfl rfl 3 (by decide) (hts _ mw_12) (fun _ h9 => h9) rfl dc_S_removeKey_1 ?_
  refine va_getN (D := D) (ci := 4) (v := .ref (ad 10)) (C := Rn_P) (T := Fn_P) (N := 3) (host := nh_) hx hb hts in_P hown hK hP 22 rfl rfl 0 (by decide) (va_Nw.use rfl (hN.1 _ nf_0)) (fun _ h9 => h9) rfl dc_S_removeKey_4 ?_
  refine lv_iload_n hx hb dc_S_removeKey_7 rfl (lv_at hl 1 rfl) ?_
  refine lv_aload_n hx hb dc_S_removeKey_8 rfl (lv_at hl 0 rfl) ?_
  refine va_get (D := D) (ci := 0) (v := .ref (ad 20)) (C := Rn_S) (T := Fn_S) (N := 5) hx hb hts in_S hown hK hP 18 rfl rfl 1 (by decide) (hts _ mw_11) (fun _ h9 => h9) rfl dc_S_removeKey_9 ?_
  refine lv_aload_n hx hb dc_S_removeKey_12 rfl (lv_at hl 0 rfl) ?_
  refine va_get (D := D) (ci := 0) (v := .ref (ad 22)) (C := Rn_S) (T := Fn_S) (N := 5) hx hb hts in_S hown hK hP 18 rfl rfl 3 (by decide) (hts _ mw_12) (fun _ h9 => h9) rfl dc_S_removeKey_13 ?_
  refine va_getN (D := D) (ci := 4) (v := .ref (ad 10)) (C := Rn_P) (T := Fn_P) (N := 3) (host := nh_) hx hb hts in_P hown hK hP 22 rfl rfl 0 (by decide) (va_Nw.use rfl (hN.1 _ nf_0)) (fun _ h9 => h9) rfl dc_S_removeKey_16 ?_
  refine lv_iload_n hx hb dc_S_removeKey_19 rfl (lv_at hl 1 rfl) ?_
  refine w_ild 10 (by decide) hx hb hK hP h.1 dc_S_removeKey_20 ?_
  have h := h.2
  refine lv_iload_n hx hb dc_S_removeKey_21 rfl (lv_at hl 2 rfl) ?_
  refine w_cVi (y := yn_T_without) (C := Rn_T) (index := 104) (n := 2) (own := Rn_S) 20 hx hb hml hown hts hK hN hP hS (ct_T_without l D ad cA w hJ (st 10 (x1).toNatClampNeg) x2 st _ h) mw_192 mw_193 mw_194 mw_195 mw_59 (by decide +kernel) ⟨Nat.le_of_ble_eq_true rfl, Nat.le_of_ble_eq_true rfl⟩ rfl rfl rfl rfl rfl hl.1 rfl (lv_room (Nat.le_of_ble_eq_true rfl)) dc_S_removeKey_22 ⟨Nat.zero_le _, Nat.zero_le _⟩ (fun r102 st101 H locs hP hS h => ?_)
  refine w_ist 10 (by decide) hJ hx hb hK hP hS h.1 dc_S_removeKey_25 (fun H locs hP hS => ?_)
  obtain ⟨st103, est103⟩ : ∃ z : St_, z = ws_1 st101 10 (x1).toNatClampNeg r102 := ⟨_, rfl⟩
  rw [← est103] at hP
  have h := h.2 st103 est103
  refine lv_aload_n hx hb dc_S_removeKey_26 rfl (lv_at hl 0 rfl) ?_
  refine va_get (D := D) (ci := 0) (v := .ref (ad 22)) (C := Rn_S) (T := Fn_S) (N := 5) hx hb hts in_S hown hK hP 18 rfl rfl 3 (by decide) (hts _ mw_12) (fun _ h9 => h9) rfl dc_S_removeKey_27 ?_
  refine va_getN (D := D) (ci := 4) (v := .ref (ad 11)) (C := Rn_P) (T := Fn_P) (N := 3) (host := nh_) hx hb hts in_P hown hK hP 22 rfl rfl 1 (by decide) (va_Nw.use rfl (hN.1 _ nf_1)) (fun _ h9 => h9) rfl dc_S_removeKey_30 ?_
  refine lv_iload_n hx hb dc_S_removeKey_33 rfl (lv_at hl 1 rfl) ?_
  refine lv_dup2_11 hx hb dc_S_removeKey_34 rfl rfl ?_
  refine w_ild 11 (by decide) hx hb hK hP h.1 dc_S_removeKey_35 ?_
  have h := h.2
  refine lv_iconst (v := 1) hx hb dc_S_removeKey_36 (by decide) ?_
  refine lv_isub hx hb dc_S_removeKey_37 ?_
  refine w_ist 11 (by decide) hJ hx hb hK hP hS h.1 dc_S_removeKey_38 (fun H locs hP hS => ?_)
  obtain ⟨st104, est104⟩ : ∃ z : St_, z = ws_1 st103 11 (x1).toNatClampNeg ((st103 11 (x1).toNatClampNeg) - 1) := ⟨_, rfl⟩
  rw [← est104] at hP
  have h := h.2 st104 est104
  refine lv_aload_n hx hb dc_S_removeKey_39 rfl (lv_at hl 0 rfl) ?_
  refine va_get (D := D) (ci := 0) (v := .ref (ad 22)) (C := Rn_S) (T := Fn_S) (N := 5) hx hb hts in_S hown hK hP 18 rfl rfl 3 (by decide) (hts _ mw_12) (fun _ h9 => h9) rfl dc_S_removeKey_40 ?_
  refine lv_dup hx hb dc_S_removeKey_43 rfl ?_
  refine va_getN (D := D) (ci := 4) (v := .int (st104 19 0)) (C := Rn_P) (T := Fn_P) (N := 3) (host := nh_) hx hb hts in_P hown hK hP 22 rfl rfl 2 (by decide) (va_Nw.use rfl (hN.1 _ nf_2)) (fun _ h9 => h9) rfl dc_S_removeKey_44 ?_
  refine lv_iconst (v := 1) hx hb dc_S_removeKey_47 (by decide) ?_
  refine lv_isub hx hb dc_S_removeKey_48 ?_
  refine va_putN (D := D) (ci := 4) (v := .int ((st104 19 0) - 1)) (ty := .int) (C := Rn_P) (T := Fn_P) (N := 3) (host := nh_) hx hb hts in_P Tn_P to_P nn_P hown hK hP (wd_D hJ) hS 22 rfl rfl 2 (by decide) (va_Nw.use rfl (hN.1 _ nf_2)) (fun _ h9 => h9) rfl (by decide +kernel) rfl rfl (Nat.le_of_ble_eq_true rfl) dc_S_removeKey_49 (fun H locs hP _ hS => ?_)
  obtain ⟨st105, est105⟩ : ∃ z : St_, z = ws_1 st104 19 0 ((st104 19 0) - 1) := ⟨_, rfl⟩
  have hP : va_P D sC_ (wd_ ad cA w st105) H := by rw [est105]; exact hP
  have h := h st105 est105
  exact w_vret hx hb hr hlocks hP hS h dc_S_removeKey_52
set_option maxHeartbeats 4000000 in
set_option maxRecDepth 100000 in
theorem ct_S_erase (l : Launch) (D : va_G) (ad : Nat → Nat) (cA : Nat → ClassId) (w : Nat) (hJ : Jn_ ad) (x1 : Int32) (x2 : Int32) (st : St_) (post : Int32 → St_ → Prop) (h : wp_S_erase w x1 x2 st post) : Met l yn_S_erase (Cond.code yn_S_erase bc_S_erase 4 (some .int) :: Wk_) rm_S_erase (Pw_ D ad cA w st [.ref (ad 18), .int x1, .int x2]) (Qi_ D ad cA w post) 0 0 (Aw_ ad) := by
  refine Met.ofW (cc := bc_S_erase) (maxL := 4) (ret := (some .int)) (by decide) rfl ?_
  intro p e s m args below meth c s₁ B hml hv
  obtain ⟨rfl, hP, hK, hN⟩ := hv
  have hx := B.exec
  have hb := B.bytes
  have hr := B.returns
  have hts : ∀ v ∈ Wk_, v.before [.ref (ad 18), .int x1, .int x2].toArray s = true := fun v hv => atoms_spec (ws := Cond.code yn_S_erase bc_S_erase 4 (some .int) :: Wk_) B.pre v (List.mem_cons_of_mem _ hv)
  have hown : s.vm.findClass Rn_S = some m.cls := findClass_of_methodNamed B.named
  have hlocks := B.notSynchronized
  have hS : va_S (Aw_ ad) s.heap s.heap [] := va_S.rf
  have hl := lv_entry ([.ref (ad 18), .int x1, .int x2]) (n := 4) (Nat.le_of_ble_eq_true rfl)
  rw [lg_entry_eq]
  generalize (lg_sl ([.ref (ad 18), .int x1, .int x2]) ++ List.replicate (4 - (lg_sl ([.ref (ad 18), .int x1, .int x2])).length) Slot.unset).toArray = ls at hl ⊢
  have hl : lv_has ls 4 [(0, .ref (ad 18)), (1, .int x1), (2, .int x2)] := hl
  refine lv_iload_n hx hb dc_S_erase_0 rfl (lv_at hl 1 rfl) ?_
  refine w_cSi (y := yn_S_isMap) (index := 53) (n := 1) (own := Rn_S) hx hb hml hown hts hK hN hP hS (ct_S_isMap l D ad cA w hJ x1 st _ h) mw_0 mw_1 mw_2 mw_3 (by decide +kernel) ⟨Nat.le_of_ble_eq_true rfl, Nat.le_of_ble_eq_true rfl⟩ rfl rfl rfl hl.1 rfl (lv_room (Nat.le_of_ble_eq_true rfl)) dc_S_erase_1 ⟨Nat.zero_le _, Nat.zero_le _⟩ (fun r102 st101 H locs hP hS h => ?_)
  refine lv_if_eq (tgt := 14) hx hb dc_S_erase_4 (by decide) (fun c => ?_) (fun c => ?_)
  · have h := h.1 c
    refine lv_iconst (v := (-1)) hx hb dc_S_erase_14 (by decide) ?_
    exact w_iret hx hb hr hlocks hP hS h dc_S_erase_15
  · have h := h.2 c
    refine lv_iload_n hx hb dc_S_erase_7 rfl (lv_at hl 2 rfl) ?_
    refine w_cSi (y := yn_S_isKey) (index := 57) (n := 1) (own := Rn_S) hx hb hml hown hts hK hN hP hS (ct_S_isKey l D ad cA w hJ x2 st101 _ h) mw_4 mw_5 mw_6 mw_3 (by decide +kernel) ⟨Nat.le_of_ble_eq_true rfl, Nat.le_of_ble_eq_true rfl⟩ rfl rfl rfl hl.1 rfl (lv_room (Nat.le_of_ble_eq_true rfl)) dc_S_erase_8 ⟨Nat.zero_le _, Nat.zero_le _⟩ (fun r104 st103 H locs hP hS h => ?_)
    refine lv_if_ne (tgt := 16) hx hb dc_S_erase_11 (by decide) (fun c => ?_) (fun c => ?_)
    · have h := h.1 c
      refine lv_aload_n hx hb dc_S_erase_16 rfl (lv_at hl 0 rfl) ?_
      refine va_get (D := D) (ci := 0) (v := .ref (ad 20)) (C := Rn_S) (T := Fn_S) (N := 5) hx hb hts in_S hown hK hP 18 rfl rfl 1 (by decide) (hts _ mw_11) (fun _ h9 => h9) rfl dc_S_erase_17 ?_
      refine lv_aload_n hx hb dc_S_erase_20 rfl (lv_at hl 0 rfl) ?_
      refine va_get (D := D) (ci := 0) (v := .ref (ad 22)) (C := Rn_S) (T := Fn_S) (N := 5) hx hb hts in_S hown hK hP 18 rfl rfl 3 (by decide) (hts _ mw_12) (fun _ h9 => h9) rfl dc_S_erase_21 ?_
      refine va_getN (D := D) (ci := 4) (v := .ref (ad 10)) (C := Rn_P) (T := Fn_P) (N := 3) (host := nh_) hx hb hts in_P hown hK hP 22 rfl rfl 0 (by decide) (va_Nw.use rfl (hN.1 _ nf_0)) (fun _ h9 => h9) rfl dc_S_erase_24 ?_
      refine lv_iload_n hx hb dc_S_erase_27 rfl (lv_at hl 1 rfl) ?_
      refine w_ild 10 (by decide) hx hb hK hP h.1 dc_S_erase_28 ?_
      have h := h.2
      refine lv_iload_n hx hb dc_S_erase_29 rfl (lv_at hl 2 rfl) ?_
      refine w_cVi (y := yn_T_stampOf) (C := Rn_T) (index := 67) (n := 2) (own := Rn_S) 20 hx hb hml hown hts hK hN hP hS (ct_T_stampOf l D ad cA w hJ (st103 10 (x1).toNatClampNeg) x2 st103 _ h) mw_60 mw_61 mw_62 mw_63 mw_59 (by decide +kernel) ⟨Nat.le_of_ble_eq_true rfl, Nat.le_of_ble_eq_true rfl⟩ rfl rfl rfl rfl rfl hl.1 rfl (lv_room (Nat.le_of_ble_eq_true rfl)) dc_S_erase_30 ⟨Nat.zero_le _, Nat.zero_le _⟩ (fun r106 st105 H locs hP hS h => ?_)
      refine lv_istore_n (lv' := [(3, .int r106), (0, .ref (ad 18)), (1, .int x1), (2, .int x2)]) hx hb dc_S_erase_33 rfl hl (by decide) rfl (fun ls hl => ?_)
      refine lv_iload_n hx hb dc_S_erase_34 rfl (lv_at hl 0 rfl) ?_
      refine lv_bipush (v := (-2)) hx hb dc_S_erase_35 (by decide) ?_
      refine lv_icmp_eq (tgt := 46) hx hb dc_S_erase_37 (by decide) (fun c => ?_) (fun c => ?_)
      · have h := h.1 c
        refine lv_iload_n hx hb dc_S_erase_46 rfl (lv_at hl 0 rfl) ?_
        exact w_iret hx hb hr hlocks hP hS h dc_S_erase_47
      · have h := h.2 c
        refine lv_aload_n hx hb dc_S_erase_40 rfl (lv_at hl 1 rfl) ?_
        refine lv_iload_n hx hb dc_S_erase_41 rfl (lv_at hl 2 rfl) ?_
        refine lv_iload_n hx hb dc_S_erase_42 rfl (lv_at hl 3 rfl) ?_
        refine w_cVv (y := yn_S_removeKey) (C := Rn_S) (index := 84) (n := 2) (own := Rn_S) 18 hx hb hml hown hts hK hN hP hS (ct_S_removeKey l D ad cA w hJ x1 x2 st105 _ h) mw_196 mw_197 mw_198 mw_199 mw_3 (by decide +kernel) ⟨Nat.le_of_ble_eq_true rfl, Nat.le_of_ble_eq_true rfl⟩ rfl rfl rfl rfl rfl hl.1 rfl (lv_room (Nat.le_of_ble_eq_true rfl)) dc_S_erase_43 ⟨Nat.zero_le _, Nat.zero_le _⟩ (fun st107 H locs hP hS h => ?_)
        refine lv_iload_n hx hb dc_S_erase_46 rfl (lv_at hl 0 rfl) ?_
        exact w_iret hx hb hr hlocks hP hS h dc_S_erase_47
    · have h := h.2 c
      refine lv_iconst (v := (-1)) hx hb dc_S_erase_14 (by decide) ?_
      exact w_iret hx hb hr hlocks hP hS h dc_S_erase_15
set_option maxHeartbeats 4000000 in
set_option maxRecDepth 100000 in
theorem ct_R_erase (l : Launch) (D : va_G) (ad : Nat → Nat) (cA : Nat → ClassId) (w : Nat) (hJ : Jn_ ad) (x1 : Int32) (x2 : Int32) (st : St_) (post : Int32 → St_ → Prop) (h : wp_R_erase w x1 x2 st post) : Met l yn_R_erase (Cond.code yn_R_erase bc_R_erase 4 (some .int) :: Wk_) rm_R_erase (Pw_ D ad cA w st [.ref (ad 24), .int x1, .int x2]) (Qi_ D ad cA w post) 0 0 (Aw_ ad) := by
  refine Met.ofW (cc := bc_R_erase) (maxL := 4) (ret := (some .int)) (by decide) rfl ?_
  intro p e s m args below meth c s₁ B hml hv
  obtain ⟨rfl, hP, hK, hN⟩ := hv
  have hx := B.exec
  have hb := B.bytes
  have hr := B.returns
  have hts : ∀ v ∈ Wk_, v.before [.ref (ad 24), .int x1, .int x2].toArray s = true := fun v hv => atoms_spec (ws := Cond.code yn_R_erase bc_R_erase 4 (some .int) :: Wk_) B.pre v (List.mem_cons_of_mem _ hv)
  have hown : s.vm.findClass Rn_R = some m.cls := findClass_of_methodNamed B.named
  have hlocks := B.notSynchronized
  have hS : va_S (Aw_ ad) s.heap s.heap [] := va_S.rf
  have hl := lv_entry ([.ref (ad 24), .int x1, .int x2]) (n := 4) (Nat.le_of_ble_eq_true rfl)
  rw [lg_entry_eq]
  generalize (lg_sl ([.ref (ad 24), .int x1, .int x2]) ++ List.replicate (4 - (lg_sl ([.ref (ad 24), .int x1, .int x2])).length) Slot.unset).toArray = ls at hl ⊢
  have hl : lv_has ls 4 [(0, .ref (ad 24)), (1, .int x1), (2, .int x2)] := hl
  refine lv_aload_n hx hb dc_R_erase_0 rfl (lv_at hl 0 rfl) ?_
  refine lv_iload_n hx hb dc_R_erase_1 rfl (lv_at hl 1 rfl) ?_
  refine lv_iload_n hx hb dc_R_erase_2 rfl (lv_at hl 2 rfl) ?_
  refine w_cVi (y := yn_R_read) (C := Rn_R) (index := 42) (n := 2) (own := Rn_R) 24 hx hb hml hown hts hK hN hP hS (ct_R_read l D ad cA w hJ x1 x2 st _ h) mw_167 mw_201 mw_202 mw_203 mw_143 (by decide +kernel) ⟨Nat.le_of_ble_eq_true rfl, Nat.le_of_ble_eq_true rfl⟩ rfl rfl rfl rfl rfl hl.1 rfl (lv_room (Nat.le_of_ble_eq_true rfl)) dc_R_erase_3 ⟨Nat.zero_le _, Nat.zero_le _⟩ (fun r102 st101 H locs hP hS h => ?_)
  refine lv_istore_n (lv' := [(3, .int r102), (0, .ref (ad 24)), (1, .int x1), (2, .int x2)]) hx hb dc_R_erase_6 rfl hl (by decide) rfl (fun ls hl => ?_)
  refine lv_iload_n hx hb dc_R_erase_7 rfl (lv_at hl 0 rfl) ?_
  refine lv_if_lt (tgt := 34) hx hb dc_R_erase_8 (by decide) (fun c => ?_) (fun c => ?_)
  · have h := h.1 c
    refine lv_iload_n hx hb dc_R_erase_34 rfl (lv_at hl 0 rfl) ?_
    exact w_iret hx hb hr hlocks hP hS h dc_R_erase_35
  · have h := h.2 c
    refine lv_aload_n hx hb dc_R_erase_11 rfl (lv_at hl 1 rfl) ?_
    refine va_get (D := D) (ci := 5) (v := .ref (ad 14)) (C := Rn_R) (T := Fn_R) (N := 4) hx hb hts in_R hown hK hP 24 rfl rfl 0 (by decide) (hts _ mw_151) (fun _ h9 => h9) rfl dc_R_erase_12 ?_
    refine lv_sipush (v := 4096) hx hb dc_R_erase_15 (by decide) ?_
    refine lv_iload_n hx hb dc_R_erase_18 rfl (lv_at hl 2 rfl) ?_
    refine lv_imul hx hb dc_R_erase_19 ?_
    refine lv_iload_n hx hb dc_R_erase_20 rfl (lv_at hl 3 rfl) ?_
    refine lv_iadd hx hb dc_R_erase_21 ?_
    refine lv_iconst (v := 0) hx hb dc_R_erase_22 (by decide) ?_
    refine w_ist 14 (by decide) hJ hx hb hK hP hS h.1 dc_R_erase_23 (fun H locs hP hS => ?_)
    obtain ⟨st103, est103⟩ : ∃ z : St_, z = ws_1 st101 14 (((4096 * x1) + x2)).toNatClampNeg 0 := ⟨_, rfl⟩
    rw [← est103] at hP
    have h := h.2 st103 est103
    refine lv_aload_n hx hb dc_R_erase_24 rfl (lv_at hl 1 rfl) ?_
    refine va_get (D := D) (ci := 5) (v := .ref (ad 16)) (C := Rn_R) (T := Fn_R) (N := 4) hx hb hts in_R hown hK hP 24 rfl rfl 2 (by decide) (hts _ mw_152) (fun _ h9 => h9) rfl dc_R_erase_25 ?_
    refine lv_iload_n hx hb dc_R_erase_28 rfl (lv_at hl 2 rfl) ?_
    refine lv_dup2_11 hx hb dc_R_erase_29 rfl rfl ?_
    refine w_ild 16 (by decide) hx hb hK hP h.1 dc_R_erase_30 ?_
    have h := h.2
    refine lv_iconst (v := 1) hx hb dc_R_erase_31 (by decide) ?_
    refine lv_isub hx hb dc_R_erase_32 ?_
    refine w_ist 16 (by decide) hJ hx hb hK hP hS h.1 dc_R_erase_33 (fun H locs hP hS => ?_)
    obtain ⟨st104, est104⟩ : ∃ z : St_, z = ws_1 st103 16 (x1).toNatClampNeg ((st103 16 (x1).toNatClampNeg) - 1) := ⟨_, rfl⟩
    rw [← est104] at hP
    have h := h.2 st104 est104
    refine lv_iload_n hx hb dc_R_erase_34 rfl (lv_at hl 0 rfl) ?_
    exact w_iret hx hb hr hlocks hP hS h dc_R_erase_35
set_option maxHeartbeats 4000000 in
set_option maxRecDepth 100000 in
theorem ct_T_keyOr (l : Launch) (D : va_G) (ad : Nat → Nat) (cA : Nat → ClassId) (w : Nat) (hJ : Jn_ ad) (x1 : Int32) (x2 : Int32) (x3 : Int32) (st : St_) (post : Int32 → St_ → Prop) (h : wp_T_keyOr w x1 x2 x3 st post) : Met l yn_T_keyOr (Cond.code yn_T_keyOr bc_T_keyOr 4 (some .int) :: Wk_) rm_T_keyOr (Pw_ D ad cA w st [.ref (ad 20), .int x1, .int x2, .int x3]) (Qi_ D ad cA w post) 0 0 (Aw_ ad) := by
  refine Met.ofW (cc := bc_T_keyOr) (maxL := 4) (ret := (some .int)) (by decide) rfl ?_
  intro p e s m args below meth c s₁ B hml hv
  obtain ⟨rfl, hP, hK, hN⟩ := hv
  have hx := B.exec
  have hb := B.bytes
  have hr := B.returns
  have hts : ∀ v ∈ Wk_, v.before [.ref (ad 20), .int x1, .int x2, .int x3].toArray s = true := fun v hv => atoms_spec (ws := Cond.code yn_T_keyOr bc_T_keyOr 4 (some .int) :: Wk_) B.pre v (List.mem_cons_of_mem _ hv)
  have hown : s.vm.findClass Rn_T = some m.cls := findClass_of_methodNamed B.named
  have hlocks := B.notSynchronized
  have hS : va_S (Aw_ ad) s.heap s.heap [] := va_S.rf
  have hl := lv_entry ([.ref (ad 20), .int x1, .int x2, .int x3]) (n := 4) (Nat.le_of_ble_eq_true rfl)
  rw [lg_entry_eq]
  generalize (lg_sl ([.ref (ad 20), .int x1, .int x2, .int x3]) ++ List.replicate (4 - (lg_sl ([.ref (ad 20), .int x1, .int x2, .int x3])).length) Slot.unset).toArray = ls at hl ⊢
  have hl : lv_has ls 4 [(0, .ref (ad 20)), (1, .int x1), (2, .int x2), (3, .int x3)] := hl
  refine lv_iload_n hx hb dc_T_keyOr_0 rfl (lv_at hl 2 rfl) ?_
  refine lv_aload_n hx hb dc_T_keyOr_1 rfl (lv_at hl 0 rfl) ?_
  refine va_get (D := D) (ci := 2) (v := .ref (ad 19)) (C := Rn_T) (T := Fn_T) (N := 3) hx hb hts in_T hown hK hP 20 rfl rfl 0 (by decide) (hts _ mw_13) (fun _ h9 => h9) rfl dc_T_keyOr_2 ?_
  refine lv_iload_n hx hb dc_T_keyOr_5 rfl (lv_at hl 1 rfl) ?_
  refine w_cVi (y := yn_B_size) (C := Rn_B) (index := 48) (n := 1) (own := Rn_T) 19 hx hb hml hown hts hK hN hP hS (ct_B_size l D ad cA w hJ x1 st _ h) mw_26 mw_114 mw_28 mw_29 mw_18 (by decide +kernel) ⟨Nat.le_of_ble_eq_true rfl, Nat.le_of_ble_eq_true rfl⟩ rfl rfl rfl rfl rfl hl.1 rfl (lv_room (Nat.le_of_ble_eq_true rfl)) dc_T_keyOr_6 ⟨Nat.zero_le _, Nat.zero_le _⟩ (fun r102 st101 H locs hP hS h => ?_)
  refine lv_icmp_ge (tgt := 24) hx hb dc_T_keyOr_9 (by decide) (fun c => ?_) (fun c => ?_)
  · have h := h.1 c
    refine lv_iload_n hx hb dc_T_keyOr_24 rfl (lv_at hl 3 rfl) ?_
    exact w_iret hx hb hr hlocks hP hS h dc_T_keyOr_25
  · have h := h.2 c
    refine lv_aload_n hx hb dc_T_keyOr_12 rfl (lv_at hl 0 rfl) ?_
    refine va_get (D := D) (ci := 2) (v := .ref (ad 19)) (C := Rn_T) (T := Fn_T) (N := 3) hx hb hts in_T hown hK hP 20 rfl rfl 0 (by decide) (hts _ mw_13) (fun _ h9 => h9) rfl dc_T_keyOr_13 ?_
    refine lv_iload_n hx hb dc_T_keyOr_16 rfl (lv_at hl 1 rfl) ?_
    refine lv_iload_n hx hb dc_T_keyOr_17 rfl (lv_at hl 2 rfl) ?_
    refine w_cVi (y := yn_B_key) (C := Rn_B) (index := 41) (n := 2) (own := Rn_T) 19 hx hb hml hown hts hK hN hP hS (ct_B_key l D ad cA w hJ x1 x2 st101 _ h) mw_43 mw_44 mw_45 mw_46 mw_18 (by decide +kernel) ⟨Nat.le_of_ble_eq_true rfl, Nat.le_of_ble_eq_true rfl⟩ rfl rfl rfl rfl rfl hl.1 rfl (lv_room (Nat.le_of_ble_eq_true rfl)) dc_T_keyOr_18 ⟨Nat.zero_le _, Nat.zero_le _⟩ (fun r104 st103 H locs hP hS h => ?_)
    refine lv_goto (tgt := 25) hx hb dc_T_keyOr_21 (by decide) ?_
    exact w_iret hx hb hr hlocks hP hS h dc_T_keyOr_25
set_option maxHeartbeats 4000000 in
set_option maxRecDepth 100000 in
theorem ct_T_keyFrom (l : Launch) (D : va_G) (ad : Nat → Nat) (cA : Nat → ClassId) (w : Nat) (hJ : Jn_ ad) (x1 : Int32) (x2 : Int32) (st : St_) (post : Int32 → St_ → Prop) (h : wp_T_keyFrom w x1 x2 st post) : Met l yn_T_keyFrom (Cond.code yn_T_keyFrom bc_T_keyFrom 7 (some .int) :: Wk_) rm_T_keyFrom (Pw_ D ad cA w st [.ref (ad 20), .int x1, .int x2]) (Qi_ D ad cA w post) 0 0 (Aw_ ad) := by
  refine Met.ofW (cc := bc_T_keyFrom) (maxL := 7) (ret := (some .int)) (by decide) rfl ?_
  intro p e s m args below meth c s₁ B hml hv
  obtain ⟨rfl, hP, hK, hN⟩ := hv
  have hx := B.exec
  have hb := B.bytes
  have hr := B.returns
  have hts : ∀ v ∈ Wk_, v.before [.ref (ad 20), .int x1, .int x2].toArray s = true := fun v hv => atoms_spec (ws := Cond.code yn_T_keyFrom bc_T_keyFrom 7 (some .int) :: Wk_) B.pre v (List.mem_cons_of_mem _ hv)
  have hown : s.vm.findClass Rn_T = some m.cls := findClass_of_methodNamed B.named
  have hlocks := B.notSynchronized
  have hS : va_S (Aw_ ad) s.heap s.heap [] := va_S.rf
  have Lp_16 : ∀ (n : Nat) (y1 y2 y3 y4 y5 : Int32) (st : St_), wp_T_keyFrom_16 w post n y1 y2 y3 y4 y5 st → ∀ (H : Heap) (locs : List Loc), va_P D sC_ (wd_ ad cA w st) H → va_S (Aw_ ad) s.heap H locs → ∀ ls : Array Slot, lv_has ls 7 [(0, .ref (ad 20)), (1, .int y1), (2, .int y2), (3, .int y3), (4, .int y4), (5, .int y5)] → W p l e (headSpec (Cond.code yn_T_keyFrom bc_T_keyFrom 7 (some .int) :: Wk_) rm_T_keyFrom).room s m [.ref (ad 20), .int x1, .int x2].toArray below meth c H locs 0 0 (MQ below (Qi_ D ad cA w post) [.ref (ad 20), .int x1, .int x2].toArray s 0 0 (Aw_ ad)) (F0 m 16 ls []) := by
    intro n
    induction n with
    | zero => intro y1 y2 y3 y4 y5 st h; exact h.elim
    | succ n ih =>
      intro y1 y2 y3 y4 y5 st h H locs hP hS ls hl
      refine lv_iload hx hb dc_T_keyFrom_16 (lv_at hl 5 rfl) ?_
      refine lv_if_le (tgt := 59) hx hb dc_T_keyFrom_18 (by decide) (fun c => ?_) (fun c => ?_)
      · have h := h.1 c
        refine lv_aload_n hx hb dc_T_keyFrom_59 rfl (lv_at hl 0 rfl) ?_
        refine va_get (D := D) (ci := 2) (v := .ref (ad 19)) (C := Rn_T) (T := Fn_T) (N := 3) hx hb hts in_T hown hK hP 20 rfl rfl 0 (by decide) (hts _ mw_13) (fun _ h9 => h9) rfl dc_T_keyFrom_60 ?_
        refine lv_iload_n hx hb dc_T_keyFrom_63 rfl (lv_at hl 3 rfl) ?_
        refine lv_iload_n hx hb dc_T_keyFrom_64 rfl (lv_at hl 2 rfl) ?_
        refine w_cVi (y := yn_B_slotOf) (C := Rn_B) (index := 38) (n := 2) (own := Rn_T) 19 hx hb hml hown hts hK hN hP hS (ct_B_slotOf l D ad cA w hJ y3 y2 st _ h) mw_35 mw_36 mw_37 mw_38 mw_18 (by decide +kernel) ⟨Nat.le_of_ble_eq_true rfl, Nat.le_of_ble_eq_true rfl⟩ rfl rfl rfl rfl rfl hl.1 rfl (lv_room (Nat.le_of_ble_eq_true rfl)) dc_T_keyFrom_65 ⟨Nat.zero_le _, Nat.zero_le _⟩ (fun r104 st103 H locs hP hS h => ?_)
        refine lv_istore (lv' := [(5, .int r104), (0, .ref (ad 20)), (1, .int y1), (2, .int y2), (3, .int y3), (4, .int y4)]) hx hb dc_T_keyFrom_68 hl (by decide) rfl (fun ls hl => ?_)
        refine lv_aload_n hx hb dc_T_keyFrom_70 rfl (lv_at hl 1 rfl) ?_
        refine va_get (D := D) (ci := 2) (v := .ref (ad 19)) (C := Rn_T) (T := Fn_T) (N := 3) hx hb hts in_T hown hK hP 20 rfl rfl 0 (by decide) (hts _ mw_13) (fun _ h9 => h9) rfl dc_T_keyFrom_71 ?_
        refine lv_iload_n hx hb dc_T_keyFrom_74 rfl (lv_at hl 4 rfl) ?_
        refine lv_iload hx hb dc_T_keyFrom_75 (lv_at hl 0 rfl) ?_
        refine w_cVi (y := yn_B_key) (C := Rn_B) (index := 41) (n := 2) (own := Rn_T) 19 hx hb hml hown hts hK hN hP hS (ct_B_key l D ad cA w hJ y3 r104 st103 _ h) mw_43 mw_44 mw_45 mw_46 mw_18 (by decide +kernel) ⟨Nat.le_of_ble_eq_true rfl, Nat.le_of_ble_eq_true rfl⟩ rfl rfl rfl rfl rfl hl.1 rfl (lv_room (Nat.le_of_ble_eq_true rfl)) dc_T_keyFrom_77 ⟨Nat.zero_le _, Nat.zero_le _⟩ (fun r106 st105 H locs hP hS h => ?_)
        refine lv_iload_n hx hb dc_T_keyFrom_80 rfl (lv_at hl 3 rfl) ?_
        refine lv_icmp_ne (tgt := 88) hx hb dc_T_keyFrom_81 (by decide) (fun c => ?_) (fun c => ?_)
        · have h := h.1 c
          refine lv_aload_n hx hb dc_T_keyFrom_88 rfl (lv_at hl 1 rfl) ?_
          refine lv_iload_n hx hb dc_T_keyFrom_89 rfl (lv_at hl 4 rfl) ?_
          refine lv_iload hx hb dc_T_keyFrom_90 (lv_at hl 0 rfl) ?_
          refine lv_iconst (v := 1) hx hb dc_T_keyFrom_92 (by decide) ?_
          refine lv_iadd hx hb dc_T_keyFrom_93 ?_
          refine lv_iload hx hb dc_T_keyFrom_94 (lv_at hl 5 rfl) ?_
          refine w_cVi (y := yn_T_keyOr) (C := Rn_T) (index := 44) (n := 3) (own := Rn_T) 20 hx hb hml hown hts hK hN hP hS (ct_T_keyOr l D ad cA w hJ y3 (r104 + 1) y4 st105 _ h) mw_205 mw_206 mw_207 mw_208 mw_59 (by decide +kernel) ⟨Nat.le_of_ble_eq_true rfl, Nat.le_of_ble_eq_true rfl⟩ rfl rfl rfl rfl rfl hl.1 rfl (lv_room (Nat.le_of_ble_eq_true rfl)) dc_T_keyFrom_96 ⟨Nat.zero_le _, Nat.zero_le _⟩ (fun r108 st107 H locs hP hS h => ?_)
          exact w_iret hx hb hr hlocks hP hS h dc_T_keyFrom_99
        · have h := h.2 c
          refine lv_iload_n hx hb dc_T_keyFrom_84 rfl (lv_at hl 3 rfl) ?_
          refine lv_goto (tgt := 99) hx hb dc_T_keyFrom_85 (by decide) ?_
          exact w_iret hx hb hr hlocks hP hS h dc_T_keyFrom_99
      · have h := h.2 c
        refine lv_aload_n hx hb dc_T_keyFrom_21 rfl (lv_at hl 0 rfl) ?_
        refine lv_iload_n hx hb dc_T_keyFrom_22 rfl (lv_at hl 3 rfl) ?_
        refine lv_iload_n hx hb dc_T_keyFrom_23 rfl (lv_at hl 2 rfl) ?_
        refine w_cVi (y := yn_T_slotToward) (C := Rn_T) (index := 31) (n := 2) (own := Rn_T) 20 hx hb hml hown hts hK hN hP hS (ct_T_slotToward l D ad cA w hJ y3 y2 st _ h) mw_55 mw_56 mw_57 mw_58 mw_59 (by decide +kernel) ⟨Nat.le_of_ble_eq_true rfl, Nat.le_of_ble_eq_true rfl⟩ rfl rfl rfl rfl rfl hl.1 rfl (lv_room (Nat.le_of_ble_eq_true rfl)) dc_T_keyFrom_24 ⟨Nat.zero_le _, Nat.zero_le _⟩ (fun r110 st109 H locs hP hS h => ?_)
        refine lv_istore (lv' := [(6, .int r110), (0, .ref (ad 20)), (1, .int y1), (2, .int y2), (3, .int y3), (4, .int y4), (5, .int y5)]) hx hb dc_T_keyFrom_27 hl (by decide) rfl (fun ls hl => ?_)
        refine lv_aload_n hx hb dc_T_keyFrom_29 rfl (lv_at hl 1 rfl) ?_
        refine lv_iload_n hx hb dc_T_keyFrom_30 rfl (lv_at hl 4 rfl) ?_
        refine lv_iload hx hb dc_T_keyFrom_31 (lv_at hl 0 rfl) ?_
        refine lv_iconst (v := 1) hx hb dc_T_keyFrom_33 (by decide) ?_
        refine lv_iadd hx hb dc_T_keyFrom_34 ?_
        refine lv_iload hx hb dc_T_keyFrom_35 (lv_at hl 5 rfl) ?_
        refine w_cVi (y := yn_T_keyOr) (C := Rn_T) (index := 44) (n := 3) (own := Rn_T) 20 hx hb hml hown hts hK hN hP hS (ct_T_keyOr l D ad cA w hJ y3 (r110 + 1) y4 st109 _ h) mw_205 mw_206 mw_207 mw_208 mw_59 (by decide +kernel) ⟨Nat.le_of_ble_eq_true rfl, Nat.le_of_ble_eq_true rfl⟩ rfl rfl rfl rfl rfl hl.1 rfl (lv_room (Nat.le_of_ble_eq_true rfl)) dc_T_keyFrom_37 ⟨Nat.zero_le _, Nat.zero_le _⟩ (fun r112 st111 H locs hP hS h => ?_)
        refine lv_istore (lv' := [(4, .int r112), (6, .int r110), (0, .ref (ad 20)), (1, .int y1), (2, .int y2), (3, .int y3), (5, .int y5)]) hx hb dc_T_keyFrom_40 hl (by decide) rfl (fun ls hl => ?_)
        refine lv_aload_n hx hb dc_T_keyFrom_42 rfl (lv_at hl 2 rfl) ?_
        refine va_get (D := D) (ci := 2) (v := .ref (ad 19)) (C := Rn_T) (T := Fn_T) (N := 3) hx hb hts in_T hown hK hP 20 rfl rfl 0 (by decide) (hts _ mw_13) (fun _ h9 => h9) rfl dc_T_keyFrom_43 ?_
        refine lv_iload_n hx hb dc_T_keyFrom_46 rfl (lv_at hl 5 rfl) ?_
        refine lv_iload hx hb dc_T_keyFrom_47 (lv_at hl 1 rfl) ?_
        refine w_cVi (y := yn_B_goal) (C := Rn_B) (index := 35) (n := 2) (own := Rn_T) 19 hx hb hml hown hts hK hN hP hS (ct_B_goal l D ad cA w hJ y3 r110 st111 _ h) mw_48 mw_49 mw_50 mw_51 mw_18 (by decide +kernel) ⟨Nat.le_of_ble_eq_true rfl, Nat.le_of_ble_eq_true rfl⟩ rfl rfl rfl rfl rfl hl.1 rfl (lv_room (Nat.le_of_ble_eq_true rfl)) dc_T_keyFrom_49 ⟨Nat.zero_le _, Nat.zero_le _⟩ (fun r114 st113 H locs hP hS h => ?_)
        refine lv_istore_n (lv' := [(3, .int r114), (4, .int r112), (6, .int r110), (0, .ref (ad 20)), (1, .int y1), (2, .int y2), (5, .int y5)]) hx hb dc_T_keyFrom_52 rfl hl (by decide) rfl (fun ls hl => ?_)
        obtain ⟨x115, ex115⟩ : ∃ y : Int32, y = y5 + (-1) := ⟨_, rfl⟩
        have h := h x115 ex115
        refine lv_iinc (v := x115) (lv' := [(5, .int x115), (3, .int r114), (4, .int r112), (6, .int r110), (0, .ref (ad 20)), (1, .int y1), (2, .int y2)]) hx hb dc_T_keyFrom_53 hl (k := 6) rfl (by rw [ex115]; rfl) (by decide) rfl (fun ls hl => ?_)
        refine lv_goto (tgt := 16) hx hb dc_T_keyFrom_56 (by decide) ?_
        exact ih y1 y2 r114 r112 x115 st113 h _ _ hP hS ls (lv_sub hl [4, 5, 6, 1, 2, 0] rfl)
  have hl := lv_entry ([.ref (ad 20), .int x1, .int x2]) (n := 7) (Nat.le_of_ble_eq_true rfl)
  rw [lg_entry_eq]
  generalize (lg_sl ([.ref (ad 20), .int x1, .int x2]) ++ List.replicate (7 - (lg_sl ([.ref (ad 20), .int x1, .int x2])).length) Slot.unset).toArray = ls at hl ⊢
  have hl : lv_has ls 7 [(0, .ref (ad 20)), (1, .int x1), (2, .int x2)] := hl
  refine lv_iload_n hx hb dc_T_keyFrom_0 rfl (lv_at hl 1 rfl) ?_
  refine lv_istore_n (lv' := [(3, .int x1), (0, .ref (ad 20)), (1, .int x1), (2, .int x2)]) hx hb dc_T_keyFrom_1 rfl hl (by decide) rfl (fun ls hl => ?_)
  refine lv_bipush (v := (-2)) hx hb dc_T_keyFrom_2 (by decide) ?_
  refine lv_istore (lv' := [(4, .int (-2)), (3, .int x1), (0, .ref (ad 20)), (1, .int x1), (2, .int x2)]) hx hb dc_T_keyFrom_4 hl (by decide) rfl (fun ls hl => ?_)
  refine lv_aload_n hx hb dc_T_keyFrom_6 rfl (lv_at hl 2 rfl) ?_
  refine va_get (D := D) (ci := 2) (v := .ref (ad 19)) (C := Rn_T) (T := Fn_T) (N := 3) hx hb hts in_T hown hK hP 20 rfl rfl 0 (by decide) (hts _ mw_13) (fun _ h9 => h9) rfl dc_T_keyFrom_7 ?_
  refine lv_iload_n hx hb dc_T_keyFrom_10 rfl (lv_at hl 3 rfl) ?_
  refine w_cVi (y := yn_B_level) (C := Rn_B) (index := 26) (n := 1) (own := Rn_T) 19 hx hb hml hown hts hK hN hP hS (ct_B_level l D ad cA w hJ x1 st _ h) mw_20 mw_21 mw_22 mw_23 mw_18 (by decide +kernel) ⟨Nat.le_of_ble_eq_true rfl, Nat.le_of_ble_eq_true rfl⟩ rfl rfl rfl rfl rfl hl.1 rfl (lv_room (Nat.le_of_ble_eq_true rfl)) dc_T_keyFrom_11 ⟨Nat.zero_le _, Nat.zero_le _⟩ (fun r102 st101 H locs hP hS h => ?_)
  refine lv_istore (lv' := [(5, .int r102), (4, .int (-2)), (3, .int x1), (0, .ref (ad 20)), (1, .int x1), (2, .int x2)]) hx hb dc_T_keyFrom_14 hl (by decide) rfl (fun ls hl => ?_)
  obtain ⟨n, h⟩ := h
  exact Lp_16 n x1 x2 x1 (-2) r102 st101 h _ _ hP hS ls (lv_sub hl [3, 4, 5, 2, 1, 0] rfl)
set_option maxHeartbeats 4000000 in
set_option maxRecDepth 100000 in
theorem ct_S_cut (l : Launch) (D : va_G) (ad : Nat → Nat) (cA : Nat → ClassId) (w : Nat) (hJ : Jn_ ad) (x1 : Int32) (x2 : Int32) (x3 : Int32) (st : St_) (post : Int32 → St_ → Prop) (h : wp_S_cut w x1 x2 x3 st post) : Met l yn_S_cut (Cond.code yn_S_cut bc_S_cut 6 (some .int) :: Wk_) rm_S_cut (Pw_ D ad cA w st [.ref (ad 18), .int x1, .int x2, .int x3]) (Qi_ D ad cA w post) 0 0 (Aw_ ad) := by
  refine Met.ofW (cc := bc_S_cut) (maxL := 6) (ret := (some .int)) (by decide) rfl ?_
  intro p e s m args below meth c s₁ B hml hv
  obtain ⟨rfl, hP, hK, hN⟩ := hv
  have hx := B.exec
  have hb := B.bytes
  have hr := B.returns
  have hts : ∀ v ∈ Wk_, v.before [.ref (ad 18), .int x1, .int x2, .int x3].toArray s = true := fun v hv => atoms_spec (ws := Cond.code yn_S_cut bc_S_cut 6 (some .int) :: Wk_) B.pre v (List.mem_cons_of_mem _ hv)
  have hown : s.vm.findClass Rn_S = some m.cls := findClass_of_methodNamed B.named
  have hlocks := B.notSynchronized
  have hS : va_S (Aw_ ad) s.heap s.heap [] := va_S.rf
  have Lp_50 : ∀ (n : Nat) (y1 y2 y3 y4 y5 : Int32) (st : St_), wp_S_cut_50 w post n y1 y2 y3 y4 y5 st → ∀ (H : Heap) (locs : List Loc), va_P D sC_ (wd_ ad cA w st) H → va_S (Aw_ ad) s.heap H locs → ∀ ls : Array Slot, lv_has ls 6 [(0, .ref (ad 18)), (1, .int y1), (2, .int y2), (3, .int y3), (4, .int y4), (5, .int y5)] → W p l e (headSpec (Cond.code yn_S_cut bc_S_cut 6 (some .int) :: Wk_) rm_S_cut).room s m [.ref (ad 18), .int x1, .int x2, .int x3].toArray below meth c H locs 0 0 (MQ below (Qi_ D ad cA w post) [.ref (ad 18), .int x1, .int x2, .int x3].toArray s 0 0 (Aw_ ad)) (F0 m 50 ls []) := by
    intro n
    induction n with
    | zero => intro y1 y2 y3 y4 y5 st h; exact h.elim
    | succ n ih =>
      intro y1 y2 y3 y4 y5 st h H locs hP hS ls hl
      refine lv_iload hx hb dc_S_cut_50 (lv_at hl 4 rfl) ?_
      refine lv_sipush (v := 600) hx hb dc_S_cut_52 (by decide) ?_
      refine lv_icmp_ge (tgt := 104) hx hb dc_S_cut_55 (by decide) (fun c => ?_) (fun c => ?_)
      · have h := h.1 c
        refine lv_iload hx hb dc_S_cut_104 (lv_at hl 4 rfl) ?_
        exact w_iret hx hb hr hlocks hP hS h dc_S_cut_106
      · have h := h.2 c
        refine lv_iload hx hb dc_S_cut_58 (lv_at hl 5 rfl) ?_
        refine lv_bipush (v := (-2)) hx hb dc_S_cut_60 (by decide) ?_
        refine lv_icmp_eq (tgt := 104) hx hb dc_S_cut_62 (by decide) (fun c => ?_) (fun c => ?_)
        · have h := h.1 c
          refine lv_iload hx hb dc_S_cut_104 (lv_at hl 4 rfl) ?_
          exact w_iret hx hb hr hlocks hP hS h dc_S_cut_106
        · have h := h.2 c
          refine lv_iload hx hb dc_S_cut_65 (lv_at hl 5 rfl) ?_
          refine lv_iload_n hx hb dc_S_cut_67 rfl (lv_at hl 3 rfl) ?_
          refine lv_icmp_gt (tgt := 104) hx hb dc_S_cut_68 (by decide) (fun c => ?_) (fun c => ?_)
          · have h := h.1 c
            refine lv_iload hx hb dc_S_cut_104 (lv_at hl 4 rfl) ?_
            exact w_iret hx hb hr hlocks hP hS h dc_S_cut_106
          · have h := h.2 c
            refine lv_aload_n hx hb dc_S_cut_71 rfl (lv_at hl 0 rfl) ?_
            refine lv_iload_n hx hb dc_S_cut_72 rfl (lv_at hl 1 rfl) ?_
            refine lv_iload hx hb dc_S_cut_73 (lv_at hl 5 rfl) ?_
            refine w_cVv (y := yn_S_removeKey) (C := Rn_S) (index := 84) (n := 2) (own := Rn_S) 18 hx hb hml hown hts hK hN hP hS (ct_S_removeKey l D ad cA w hJ y1 y5 st _ h) mw_196 mw_197 mw_198 mw_199 mw_3 (by decide +kernel) ⟨Nat.le_of_ble_eq_true rfl, Nat.le_of_ble_eq_true rfl⟩ rfl rfl rfl rfl rfl hl.1 rfl (lv_room (Nat.le_of_ble_eq_true rfl)) dc_S_cut_75 ⟨Nat.zero_le _, Nat.zero_le _⟩ (fun st109 H locs hP hS h => ?_)
            obtain ⟨x110, ex110⟩ : ∃ y : Int32, y = y4 + 1 := ⟨_, rfl⟩
            have h := h x110 ex110
            refine lv_iinc (v := x110) (lv' := [(4, .int x110), (0, .ref (ad 18)), (1, .int y1), (2, .int y2), (3, .int y3), (5, .int y5)]) hx hb dc_S_cut_78 hl (k := 4) rfl (by rw [ex110]; rfl) (by decide) rfl (fun ls hl => ?_)
            refine lv_aload_n hx hb dc_S_cut_81 rfl (lv_at hl 1 rfl) ?_
            refine va_get (D := D) (ci := 0) (v := .ref (ad 20)) (C := Rn_S) (T := Fn_S) (N := 5) hx hb hts in_S hown hK hP 18 rfl rfl 1 (by decide) (hts _ mw_11) (fun _ h9 => h9) rfl dc_S_cut_82 ?_
            refine lv_aload_n hx hb dc_S_cut_85 rfl (lv_at hl 1 rfl) ?_
            refine va_get (D := D) (ci := 0) (v := .ref (ad 22)) (C := Rn_S) (T := Fn_S) (N := 5) hx hb hts in_S hown hK hP 18 rfl rfl 3 (by decide) (hts _ mw_12) (fun _ h9 => h9) rfl dc_S_cut_86 ?_
            refine va_getN (D := D) (ci := 4) (v := .ref (ad 10)) (C := Rn_P) (T := Fn_P) (N := 3) (host := nh_) hx hb hts in_P hown hK hP 22 rfl rfl 0 (by decide) (va_Nw.use rfl (hN.1 _ nf_0)) (fun _ h9 => h9) rfl dc_S_cut_89 ?_
            refine lv_iload_n hx hb dc_S_cut_92 rfl (lv_at hl 2 rfl) ?_
            refine w_ild 10 (by decide) hx hb hK hP h.1 dc_S_cut_93 ?_
            have h := h.2
            refine lv_iload hx hb dc_S_cut_94 (lv_at hl 5 rfl) ?_
            refine w_cVi (y := yn_T_keyFrom) (C := Rn_T) (index := 88) (n := 2) (own := Rn_S) 20 hx hb hml hown hts hK hN hP hS (ct_T_keyFrom l D ad cA w hJ (st109 10 (y1).toNatClampNeg) y5 st109 _ h) mw_209 mw_210 mw_211 mw_212 mw_59 (by decide +kernel) ⟨Nat.le_of_ble_eq_true rfl, Nat.le_of_ble_eq_true rfl⟩ rfl rfl rfl rfl rfl hl.1 rfl (lv_room (Nat.le_of_ble_eq_true rfl)) dc_S_cut_96 ⟨Nat.zero_le _, Nat.zero_le _⟩ (fun r112 st111 H locs hP hS h => ?_)
            refine lv_istore (lv' := [(5, .int r112), (4, .int x110), (0, .ref (ad 18)), (1, .int y1), (2, .int y2), (3, .int y3)]) hx hb dc_S_cut_99 hl (by decide) rfl (fun ls hl => ?_)
            refine lv_goto (tgt := 50) hx hb dc_S_cut_101 (by decide) ?_
            exact ih y1 y2 y3 x110 r112 st111 h _ _ hP hS ls (lv_sub hl [2, 3, 4, 5, 1, 0] rfl)
  have hl := lv_entry ([.ref (ad 18), .int x1, .int x2, .int x3]) (n := 6) (Nat.le_of_ble_eq_true rfl)
  rw [lg_entry_eq]
  generalize (lg_sl ([.ref (ad 18), .int x1, .int x2, .int x3]) ++ List.replicate (6 - (lg_sl ([.ref (ad 18), .int x1, .int x2, .int x3])).length) Slot.unset).toArray = ls at hl ⊢
  have hl : lv_has ls 6 [(0, .ref (ad 18)), (1, .int x1), (2, .int x2), (3, .int x3)] := hl
  refine lv_iload_n hx hb dc_S_cut_0 rfl (lv_at hl 1 rfl) ?_
  refine w_cSi (y := yn_S_isMap) (index := 53) (n := 1) (own := Rn_S) hx hb hml hown hts hK hN hP hS (ct_S_isMap l D ad cA w hJ x1 st _ h) mw_0 mw_1 mw_2 mw_3 (by decide +kernel) ⟨Nat.le_of_ble_eq_true rfl, Nat.le_of_ble_eq_true rfl⟩ rfl rfl rfl hl.1 rfl (lv_room (Nat.le_of_ble_eq_true rfl)) dc_S_cut_1 ⟨Nat.zero_le _, Nat.zero_le _⟩ (fun r102 st101 H locs hP hS h => ?_)
  refine lv_if_eq (tgt := 26) hx hb dc_S_cut_4 (by decide) (fun c => ?_) (fun c => ?_)
  · have h := h.1 c
    refine lv_iconst (v := (-1)) hx hb dc_S_cut_26 (by decide) ?_
    exact w_iret hx hb hr hlocks hP hS h dc_S_cut_27
  · have h := h.2 c
    refine lv_iload_n hx hb dc_S_cut_7 rfl (lv_at hl 2 rfl) ?_
    refine w_cSi (y := yn_S_isKey) (index := 57) (n := 1) (own := Rn_S) hx hb hml hown hts hK hN hP hS (ct_S_isKey l D ad cA w hJ x2 st101 _ h) mw_4 mw_5 mw_6 mw_3 (by decide +kernel) ⟨Nat.le_of_ble_eq_true rfl, Nat.le_of_ble_eq_true rfl⟩ rfl rfl rfl hl.1 rfl (lv_room (Nat.le_of_ble_eq_true rfl)) dc_S_cut_8 ⟨Nat.zero_le _, Nat.zero_le _⟩ (fun r104 st103 H locs hP hS h => ?_)
    refine lv_if_eq (tgt := 26) hx hb dc_S_cut_11 (by decide) (fun c => ?_) (fun c => ?_)
    · have h := h.1 c
      refine lv_iconst (v := (-1)) hx hb dc_S_cut_26 (by decide) ?_
      exact w_iret hx hb hr hlocks hP hS h dc_S_cut_27
    · have h := h.2 c
      refine lv_iload_n hx hb dc_S_cut_14 rfl (lv_at hl 3 rfl) ?_
      refine w_cSi (y := yn_S_isKey) (index := 57) (n := 1) (own := Rn_S) hx hb hml hown hts hK hN hP hS (ct_S_isKey l D ad cA w hJ x3 st103 _ h) mw_4 mw_5 mw_6 mw_3 (by decide +kernel) ⟨Nat.le_of_ble_eq_true rfl, Nat.le_of_ble_eq_true rfl⟩ rfl rfl rfl hl.1 rfl (lv_room (Nat.le_of_ble_eq_true rfl)) dc_S_cut_15 ⟨Nat.zero_le _, Nat.zero_le _⟩ (fun r106 st105 H locs hP hS h => ?_)
      refine lv_if_eq (tgt := 26) hx hb dc_S_cut_18 (by decide) (fun c => ?_) (fun c => ?_)
      · have h := h.1 c
        refine lv_iconst (v := (-1)) hx hb dc_S_cut_26 (by decide) ?_
        exact w_iret hx hb hr hlocks hP hS h dc_S_cut_27
      · have h := h.2 c
        refine lv_iload_n hx hb dc_S_cut_21 rfl (lv_at hl 3 rfl) ?_
        refine lv_iload_n hx hb dc_S_cut_22 rfl (lv_at hl 2 rfl) ?_
        refine lv_icmp_ge (tgt := 28) hx hb dc_S_cut_23 (by decide) (fun c => ?_) (fun c => ?_)
        · have h := h.1 c
          refine lv_iconst (v := 0) hx hb dc_S_cut_28 (by decide) ?_
          refine lv_istore (lv' := [(4, .int 0), (0, .ref (ad 18)), (1, .int x1), (2, .int x2), (3, .int x3)]) hx hb dc_S_cut_29 hl (by decide) rfl (fun ls hl => ?_)
          refine lv_aload_n hx hb dc_S_cut_31 rfl (lv_at hl 1 rfl) ?_
          refine va_get (D := D) (ci := 0) (v := .ref (ad 20)) (C := Rn_S) (T := Fn_S) (N := 5) hx hb hts in_S hown hK hP 18 rfl rfl 1 (by decide) (hts _ mw_11) (fun _ h9 => h9) rfl dc_S_cut_32 ?_
          refine lv_aload_n hx hb dc_S_cut_35 rfl (lv_at hl 1 rfl) ?_
          refine va_get (D := D) (ci := 0) (v := .ref (ad 22)) (C := Rn_S) (T := Fn_S) (N := 5) hx hb hts in_S hown hK hP 18 rfl rfl 3 (by decide) (hts _ mw_12) (fun _ h9 => h9) rfl dc_S_cut_36 ?_
          refine va_getN (D := D) (ci := 4) (v := .ref (ad 10)) (C := Rn_P) (T := Fn_P) (N := 3) (host := nh_) hx hb hts in_P hown hK hP 22 rfl rfl 0 (by decide) (va_Nw.use rfl (hN.1 _ nf_0)) (fun _ h9 => h9) rfl dc_S_cut_39 ?_
          refine lv_iload_n hx hb dc_S_cut_42 rfl (lv_at hl 2 rfl) ?_
          refine w_ild 10 (by decide) hx hb hK hP h.1 dc_S_cut_43 ?_
          have h := h.2
          refine lv_iload_n hx hb dc_S_cut_44 rfl (lv_at hl 3 rfl) ?_
          refine w_cVi (y := yn_T_keyFrom) (C := Rn_T) (index := 88) (n := 2) (own := Rn_S) 20 hx hb hml hown hts hK hN hP hS (ct_T_keyFrom l D ad cA w hJ (st105 10 (x1).toNatClampNeg) x2 st105 _ h) mw_209 mw_210 mw_211 mw_212 mw_59 (by decide +kernel) ⟨Nat.le_of_ble_eq_true rfl, Nat.le_of_ble_eq_true rfl⟩ rfl rfl rfl rfl rfl hl.1 rfl (lv_room (Nat.le_of_ble_eq_true rfl)) dc_S_cut_45 ⟨Nat.zero_le _, Nat.zero_le _⟩ (fun r108 st107 H locs hP hS h => ?_)
          refine lv_istore (lv' := [(5, .int r108), (4, .int 0), (0, .ref (ad 18)), (1, .int x1), (2, .int x2), (3, .int x3)]) hx hb dc_S_cut_48 hl (by decide) rfl (fun ls hl => ?_)
          obtain ⟨n, h⟩ := h
          exact Lp_50 n x1 x2 x3 0 r108 st107 h _ _ hP hS ls (lv_sub hl [2, 3, 4, 5, 1, 0] rfl)
        · have h := h.2 c
          refine lv_iconst (v := (-1)) hx hb dc_S_cut_26 (by decide) ?_
          exact w_iret hx hb hr hlocks hP hS h dc_S_cut_27
set_option maxHeartbeats 4000000 in
set_option maxRecDepth 100000 in
theorem ct_R_cut (l : Launch) (D : va_G) (ad : Nat → Nat) (cA : Nat → ClassId) (w : Nat) (hJ : Jn_ ad) (x1 : Int32) (x2 : Int32) (x3 : Int32) (st : St_) (post : Int32 → St_ → Prop) (h : wp_R_cut w x1 x2 x3 st post) : Met l yn_R_cut (Cond.code yn_R_cut bc_R_cut 6 (some .int) :: Wk_) rm_R_cut (Pw_ D ad cA w st [.ref (ad 24), .int x1, .int x2, .int x3]) (Qi_ D ad cA w post) 0 0 (Aw_ ad) := by
  refine Met.ofW (cc := bc_R_cut) (maxL := 6) (ret := (some .int)) (by decide) rfl ?_
  intro p e s m args below meth c s₁ B hml hv
  obtain ⟨rfl, hP, hK, hN⟩ := hv
  have hx := B.exec
  have hb := B.bytes
  have hr := B.returns
  have hts : ∀ v ∈ Wk_, v.before [.ref (ad 24), .int x1, .int x2, .int x3].toArray s = true := fun v hv => atoms_spec (ws := Cond.code yn_R_cut bc_R_cut 6 (some .int) :: Wk_) B.pre v (List.mem_cons_of_mem _ hv)
  have hown : s.vm.findClass Rn_R = some m.cls := findClass_of_methodNamed B.named
  have hlocks := B.notSynchronized
  have hS : va_S (Aw_ ad) s.heap s.heap [] := va_S.rf
  have Lp_34 : ∀ (n : Nat) (y1 y2 y3 y4 y5 : Int32) (st : St_), wp_R_cut_34 w post n y1 y2 y3 y4 y5 st → ∀ (H : Heap) (locs : List Loc), va_P D sC_ (wd_ ad cA w st) H → va_S (Aw_ ad) s.heap H locs → ∀ ls : Array Slot, lv_has ls 6 [(0, .ref (ad 24)), (1, .int y1), (2, .int y2), (3, .int y3), (4, .int y4), (5, .int y5)] → W p l e (headSpec (Cond.code yn_R_cut bc_R_cut 6 (some .int) :: Wk_) rm_R_cut).room s m [.ref (ad 24), .int x1, .int x2, .int x3].toArray below meth c H locs 0 0 (MQ below (Qi_ D ad cA w post) [.ref (ad 24), .int x1, .int x2, .int x3].toArray s 0 0 (Aw_ ad)) (F0 m 34 ls []) := by
    intro n
    induction n with
    | zero => intro y1 y2 y3 y4 y5 st h; exact h.elim
    | succ n ih =>
      intro y1 y2 y3 y4 y5 st h H locs hP hS ls hl
      refine lv_iload hx hb dc_R_cut_34 (lv_at hl 5 rfl) ?_
      refine lv_iload_n hx hb dc_R_cut_36 rfl (lv_at hl 3 rfl) ?_
      refine lv_icmp_gt (tgt := 66) hx hb dc_R_cut_37 (by decide) (fun c => ?_) (fun c => ?_)
      · have h := h.1 c
        refine lv_iload hx hb dc_R_cut_66 (lv_at hl 4 rfl) ?_
        exact w_iret hx hb hr hlocks hP hS h dc_R_cut_68
      · have h := h.2 c
        refine lv_iload hx hb dc_R_cut_40 (lv_at hl 4 rfl) ?_
        refine lv_aload_n hx hb dc_R_cut_42 rfl (lv_at hl 0 rfl) ?_
        refine lv_iload_n hx hb dc_R_cut_43 rfl (lv_at hl 1 rfl) ?_
        refine lv_iload hx hb dc_R_cut_44 (lv_at hl 5 rfl) ?_
        refine w_cVi (y := yn_R_erase) (C := Rn_R) (index := 46) (n := 2) (own := Rn_R) 24 hx hb hml hown hts hK hN hP hS (ct_R_erase l D ad cA w hJ y1 y5 st _ h) mw_204 mw_214 mw_215 mw_216 mw_143 (by decide +kernel) ⟨Nat.le_of_ble_eq_true rfl, Nat.le_of_ble_eq_true rfl⟩ rfl rfl rfl rfl rfl hl.1 rfl (lv_room (Nat.le_of_ble_eq_true rfl)) dc_R_cut_46 ⟨Nat.zero_le _, Nat.zero_le _⟩ (fun r108 st107 H locs hP hS h => ?_)
        refine lv_if_lt (tgt := 56) hx hb dc_R_cut_49 (by decide) (fun c => ?_) (fun c => ?_)
        · have h := h.1 c
          refine lv_iconst (v := 0) hx hb dc_R_cut_56 (by decide) ?_
          refine lv_iadd hx hb dc_R_cut_57 ?_
          refine lv_topi (fun x109 ex109 => ?_)
          have h := h x109 ex109
          refine lv_istore (lv' := [(4, .int x109), (0, .ref (ad 24)), (1, .int y1), (2, .int y2), (3, .int y3), (5, .int y5)]) hx hb dc_R_cut_58 hl (by decide) rfl (fun ls hl => ?_)
          obtain ⟨x110, ex110⟩ : ∃ y : Int32, y = y5 + 1 := ⟨_, rfl⟩
          have h := h x110 ex110
          refine lv_iinc (v := x110) (lv' := [(5, .int x110), (4, .int x109), (0, .ref (ad 24)), (1, .int y1), (2, .int y2), (3, .int y3)]) hx hb dc_R_cut_60 hl (k := 5) rfl (by rw [ex110]; rfl) (by decide) rfl (fun ls hl => ?_)
          refine lv_goto (tgt := 34) hx hb dc_R_cut_63 (by decide) ?_
          exact ih y1 y2 y3 x109 x110 st107 h _ _ hP hS ls (lv_sub hl [2, 3, 4, 5, 1, 0] rfl)
        · have h := h.2 c
          refine lv_iconst (v := 1) hx hb dc_R_cut_52 (by decide) ?_
          refine lv_goto (tgt := 57) hx hb dc_R_cut_53 (by decide) ?_
          refine lv_iadd hx hb dc_R_cut_57 ?_
          refine lv_topi (fun x111 ex111 => ?_)
          have h := h x111 ex111
          refine lv_istore (lv' := [(4, .int x111), (0, .ref (ad 24)), (1, .int y1), (2, .int y2), (3, .int y3), (5, .int y5)]) hx hb dc_R_cut_58 hl (by decide) rfl (fun ls hl => ?_)
          obtain ⟨x112, ex112⟩ : ∃ y : Int32, y = y5 + 1 := ⟨_, rfl⟩
          have h := h x112 ex112
          refine lv_iinc (v := x112) (lv' := [(5, .int x112), (4, .int x111), (0, .ref (ad 24)), (1, .int y1), (2, .int y2), (3, .int y3)]) hx hb dc_R_cut_60 hl (k := 5) rfl (by rw [ex112]; rfl) (by decide) rfl (fun ls hl => ?_)
          refine lv_goto (tgt := 34) hx hb dc_R_cut_63 (by decide) ?_
          exact ih y1 y2 y3 x111 x112 st107 h _ _ hP hS ls (lv_sub hl [2, 3, 4, 5, 1, 0] rfl)
  have hl := lv_entry ([.ref (ad 24), .int x1, .int x2, .int x3]) (n := 6) (Nat.le_of_ble_eq_true rfl)
  rw [lg_entry_eq]
  generalize (lg_sl ([.ref (ad 24), .int x1, .int x2, .int x3]) ++ List.replicate (6 - (lg_sl ([.ref (ad 24), .int x1, .int x2, .int x3])).length) Slot.unset).toArray = ls at hl ⊢
  have hl : lv_has ls 6 [(0, .ref (ad 24)), (1, .int x1), (2, .int x2), (3, .int x3)] := hl
  refine lv_iload_n hx hb dc_R_cut_0 rfl (lv_at hl 1 rfl) ?_
  refine w_cSi (y := yn_R_isMap) (index := 24) (n := 1) (own := Rn_R) hx hb hml hown hts hK hN hP hS (ct_R_isMap l D ad cA w hJ x1 st _ h) mw_140 mw_141 mw_142 mw_143 (by decide +kernel) ⟨Nat.le_of_ble_eq_true rfl, Nat.le_of_ble_eq_true rfl⟩ rfl rfl rfl hl.1 rfl (lv_room (Nat.le_of_ble_eq_true rfl)) dc_R_cut_1 ⟨Nat.zero_le _, Nat.zero_le _⟩ (fun r102 st101 H locs hP hS h => ?_)
  refine lv_if_eq (tgt := 26) hx hb dc_R_cut_4 (by decide) (fun c => ?_) (fun c => ?_)
  · have h := h.1 c
    refine lv_iconst (v := (-1)) hx hb dc_R_cut_26 (by decide) ?_
    exact w_iret hx hb hr hlocks hP hS h dc_R_cut_27
  · have h := h.2 c
    refine lv_iload_n hx hb dc_R_cut_7 rfl (lv_at hl 2 rfl) ?_
    refine w_cSi (y := yn_R_isKey) (index := 28) (n := 1) (own := Rn_R) hx hb hml hown hts hK hN hP hS (ct_R_isKey l D ad cA w hJ x2 st101 _ h) mw_144 mw_145 mw_146 mw_143 (by decide +kernel) ⟨Nat.le_of_ble_eq_true rfl, Nat.le_of_ble_eq_true rfl⟩ rfl rfl rfl hl.1 rfl (lv_room (Nat.le_of_ble_eq_true rfl)) dc_R_cut_8 ⟨Nat.zero_le _, Nat.zero_le _⟩ (fun r104 st103 H locs hP hS h => ?_)
    refine lv_if_eq (tgt := 26) hx hb dc_R_cut_11 (by decide) (fun c => ?_) (fun c => ?_)
    · have h := h.1 c
      refine lv_iconst (v := (-1)) hx hb dc_R_cut_26 (by decide) ?_
      exact w_iret hx hb hr hlocks hP hS h dc_R_cut_27
    · have h := h.2 c
      refine lv_iload_n hx hb dc_R_cut_14 rfl (lv_at hl 3 rfl) ?_
      refine w_cSi (y := yn_R_isKey) (index := 28) (n := 1) (own := Rn_R) hx hb hml hown hts hK hN hP hS (ct_R_isKey l D ad cA w hJ x3 st103 _ h) mw_144 mw_145 mw_146 mw_143 (by decide +kernel) ⟨Nat.le_of_ble_eq_true rfl, Nat.le_of_ble_eq_true rfl⟩ rfl rfl rfl hl.1 rfl (lv_room (Nat.le_of_ble_eq_true rfl)) dc_R_cut_15 ⟨Nat.zero_le _, Nat.zero_le _⟩ (fun r106 st105 H locs hP hS h => ?_)
      refine lv_if_eq (tgt := 26) hx hb dc_R_cut_18 (by decide) (fun c => ?_) (fun c => ?_)
      · have h := h.1 c
        refine lv_iconst (v := (-1)) hx hb dc_R_cut_26 (by decide) ?_
        exact w_iret hx hb hr hlocks hP hS h dc_R_cut_27
      · have h := h.2 c
        refine lv_iload_n hx hb dc_R_cut_21 rfl (lv_at hl 3 rfl) ?_
        refine lv_iload_n hx hb dc_R_cut_22 rfl (lv_at hl 2 rfl) ?_
        refine lv_icmp_ge (tgt := 28) hx hb dc_R_cut_23 (by decide) (fun c => ?_) (fun c => ?_)
        · have h := h.1 c
          refine lv_iconst (v := 0) hx hb dc_R_cut_28 (by decide) ?_
          refine lv_istore (lv' := [(4, .int 0), (0, .ref (ad 24)), (1, .int x1), (2, .int x2), (3, .int x3)]) hx hb dc_R_cut_29 hl (by decide) rfl (fun ls hl => ?_)
          refine lv_iload_n hx hb dc_R_cut_31 rfl (lv_at hl 3 rfl) ?_
          refine lv_istore (lv' := [(5, .int x2), (4, .int 0), (0, .ref (ad 24)), (1, .int x1), (2, .int x2), (3, .int x3)]) hx hb dc_R_cut_32 hl (by decide) rfl (fun ls hl => ?_)
          obtain ⟨n, h⟩ := h
          exact Lp_34 n x1 x2 x3 0 x2 st105 h _ _ hP hS ls (lv_sub hl [2, 3, 4, 5, 1, 0] rfl)
        · have h := h.2 c
          refine lv_iconst (v := (-1)) hx hb dc_R_cut_26 (by decide) ?_
          exact w_iret hx hb hr hlocks hP hS h dc_R_cut_27
set_option maxHeartbeats 4000000 in
set_option maxRecDepth 100000 in
theorem ct_S_next (l : Launch) (D : va_G) (ad : Nat → Nat) (cA : Nat → ClassId) (w : Nat) (hJ : Jn_ ad) (x1 : Int32) (x2 : Int32) (st : St_) (post : Int32 → St_ → Prop) (h : wp_S_next w x1 x2 st post) : Met l yn_S_next (Cond.code yn_S_next bc_S_next 3 (some .int) :: Wk_) rm_S_next (Pw_ D ad cA w st [.ref (ad 18), .int x1, .int x2]) (Qi_ D ad cA w post) 0 0 (Aw_ ad) := by
  refine Met.ofW (cc := bc_S_next) (maxL := 3) (ret := (some .int)) (by decide) rfl ?_
  intro p e s m args below meth c s₁ B hml hv
  obtain ⟨rfl, hP, hK, hN⟩ := hv
  have hx := B.exec
  have hb := B.bytes
  have hr := B.returns
  have hts : ∀ v ∈ Wk_, v.before [.ref (ad 18), .int x1, .int x2].toArray s = true := fun v hv => atoms_spec (ws := Cond.code yn_S_next bc_S_next 3 (some .int) :: Wk_) B.pre v (List.mem_cons_of_mem _ hv)
  have hown : s.vm.findClass Rn_S = some m.cls := findClass_of_methodNamed B.named
  have hlocks := B.notSynchronized
  have hS : va_S (Aw_ ad) s.heap s.heap [] := va_S.rf
  have hl := lv_entry ([.ref (ad 18), .int x1, .int x2]) (n := 3) (Nat.le_of_ble_eq_true rfl)
  rw [lg_entry_eq]
  generalize (lg_sl ([.ref (ad 18), .int x1, .int x2]) ++ List.replicate (3 - (lg_sl ([.ref (ad 18), .int x1, .int x2])).length) Slot.unset).toArray = ls at hl ⊢
  have hl : lv_has ls 3 [(0, .ref (ad 18)), (1, .int x1), (2, .int x2)] := hl
  refine lv_iload_n hx hb dc_S_next_0 rfl (lv_at hl 1 rfl) ?_
  refine w_cSi (y := yn_S_isMap) (index := 53) (n := 1) (own := Rn_S) hx hb hml hown hts hK hN hP hS (ct_S_isMap l D ad cA w hJ x1 st _ h) mw_0 mw_1 mw_2 mw_3 (by decide +kernel) ⟨Nat.le_of_ble_eq_true rfl, Nat.le_of_ble_eq_true rfl⟩ rfl rfl rfl hl.1 rfl (lv_room (Nat.le_of_ble_eq_true rfl)) dc_S_next_1 ⟨Nat.zero_le _, Nat.zero_le _⟩ (fun r102 st101 H locs hP hS h => ?_)
  refine lv_if_eq (tgt := 14) hx hb dc_S_next_4 (by decide) (fun c => ?_) (fun c => ?_)
  · have h := h.1 c
    refine lv_iconst (v := (-1)) hx hb dc_S_next_14 (by decide) ?_
    exact w_iret hx hb hr hlocks hP hS h dc_S_next_15
  · have h := h.2 c
    refine lv_iload_n hx hb dc_S_next_7 rfl (lv_at hl 2 rfl) ?_
    refine w_cSi (y := yn_S_isKey) (index := 57) (n := 1) (own := Rn_S) hx hb hml hown hts hK hN hP hS (ct_S_isKey l D ad cA w hJ x2 st101 _ h) mw_4 mw_5 mw_6 mw_3 (by decide +kernel) ⟨Nat.le_of_ble_eq_true rfl, Nat.le_of_ble_eq_true rfl⟩ rfl rfl rfl hl.1 rfl (lv_room (Nat.le_of_ble_eq_true rfl)) dc_S_next_8 ⟨Nat.zero_le _, Nat.zero_le _⟩ (fun r104 st103 H locs hP hS h => ?_)
    refine lv_if_ne (tgt := 16) hx hb dc_S_next_11 (by decide) (fun c => ?_) (fun c => ?_)
    · have h := h.1 c
      refine lv_aload_n hx hb dc_S_next_16 rfl (lv_at hl 0 rfl) ?_
      refine va_get (D := D) (ci := 0) (v := .ref (ad 20)) (C := Rn_S) (T := Fn_S) (N := 5) hx hb hts in_S hown hK hP 18 rfl rfl 1 (by decide) (hts _ mw_11) (fun _ h9 => h9) rfl dc_S_next_17 ?_
      refine lv_aload_n hx hb dc_S_next_20 rfl (lv_at hl 0 rfl) ?_
      refine va_get (D := D) (ci := 0) (v := .ref (ad 22)) (C := Rn_S) (T := Fn_S) (N := 5) hx hb hts in_S hown hK hP 18 rfl rfl 3 (by decide) (hts _ mw_12) (fun _ h9 => h9) rfl dc_S_next_21 ?_
      refine va_getN (D := D) (ci := 4) (v := .ref (ad 10)) (C := Rn_P) (T := Fn_P) (N := 3) (host := nh_) hx hb hts in_P hown hK hP 22 rfl rfl 0 (by decide) (va_Nw.use rfl (hN.1 _ nf_0)) (fun _ h9 => h9) rfl dc_S_next_24 ?_
      refine lv_iload_n hx hb dc_S_next_27 rfl (lv_at hl 1 rfl) ?_
      refine w_ild 10 (by decide) hx hb hK hP h.1 dc_S_next_28 ?_
      have h := h.2
      refine lv_iload_n hx hb dc_S_next_29 rfl (lv_at hl 2 rfl) ?_
      refine w_cVi (y := yn_T_keyFrom) (C := Rn_T) (index := 88) (n := 2) (own := Rn_S) 20 hx hb hml hown hts hK hN hP hS (ct_T_keyFrom l D ad cA w hJ (st103 10 (x1).toNatClampNeg) x2 st103 _ h) mw_209 mw_210 mw_211 mw_212 mw_59 (by decide +kernel) ⟨Nat.le_of_ble_eq_true rfl, Nat.le_of_ble_eq_true rfl⟩ rfl rfl rfl rfl rfl hl.1 rfl (lv_room (Nat.le_of_ble_eq_true rfl)) dc_S_next_30 ⟨Nat.zero_le _, Nat.zero_le _⟩ (fun r106 st105 H locs hP hS h => ?_)
      exact w_iret hx hb hr hlocks hP hS h dc_S_next_33
    · have h := h.2 c
      refine lv_iconst (v := (-1)) hx hb dc_S_next_14 (by decide) ?_
      exact w_iret hx hb hr hlocks hP hS h dc_S_next_15
set_option maxHeartbeats 4000000 in
set_option maxRecDepth 100000 in
theorem ct_R_next (l : Launch) (D : va_G) (ad : Nat → Nat) (cA : Nat → ClassId) (w : Nat) (hJ : Jn_ ad) (x1 : Int32) (x2 : Int32) (st : St_) (post : Int32 → St_ → Prop) (h : wp_R_next w x1 x2 st post) : Met l yn_R_next (Cond.code yn_R_next bc_R_next 4 (some .int) :: Wk_) rm_R_next (Pw_ D ad cA w st [.ref (ad 24), .int x1, .int x2]) (Qi_ D ad cA w post) 0 0 (Aw_ ad) := by
  refine Met.ofW (cc := bc_R_next) (maxL := 4) (ret := (some .int)) (by decide) rfl ?_
  intro p e s m args below meth c s₁ B hml hv
  obtain ⟨rfl, hP, hK, hN⟩ := hv
  have hx := B.exec
  have hb := B.bytes
  have hr := B.returns
  have hts : ∀ v ∈ Wk_, v.before [.ref (ad 24), .int x1, .int x2].toArray s = true := fun v hv => atoms_spec (ws := Cond.code yn_R_next bc_R_next 4 (some .int) :: Wk_) B.pre v (List.mem_cons_of_mem _ hv)
  have hown : s.vm.findClass Rn_R = some m.cls := findClass_of_methodNamed B.named
  have hlocks := B.notSynchronized
  have hS : va_S (Aw_ ad) s.heap s.heap [] := va_S.rf
  have Lp_18 : ∀ (n : Nat) (y1 y2 y3 : Int32) (st : St_), wp_R_next_18 w post n y1 y2 y3 st → ∀ (H : Heap) (locs : List Loc), va_P D sC_ (wd_ ad cA w st) H → va_S (Aw_ ad) s.heap H locs → ∀ ls : Array Slot, lv_has ls 4 [(0, .ref (ad 24)), (1, .int y1), (2, .int y2), (3, .int y3)] → W p l e (headSpec (Cond.code yn_R_next bc_R_next 4 (some .int) :: Wk_) rm_R_next).room s m [.ref (ad 24), .int x1, .int x2].toArray below meth c H locs 0 0 (MQ below (Qi_ D ad cA w post) [.ref (ad 24), .int x1, .int x2].toArray s 0 0 (Aw_ ad)) (F0 m 18 ls []) := by
    intro n
    induction n with
    | zero => intro y1 y2 y3 st h; exact h.elim
    | succ n ih =>
      intro y1 y2 y3 st h H locs hP hS ls hl
      refine lv_iload_n hx hb dc_R_next_18 rfl (lv_at hl 3 rfl) ?_
      refine lv_sipush (v := 4096) hx hb dc_R_next_19 (by decide) ?_
      refine lv_icmp_ge (tgt := 46) hx hb dc_R_next_22 (by decide) (fun c => ?_) (fun c => ?_)
      · have h := h.1 c
        refine lv_iload_n hx hb dc_R_next_46 rfl (lv_at hl 3 rfl) ?_
        refine lv_sipush (v := 4096) hx hb dc_R_next_47 (by decide) ?_
        refine lv_icmp_ge (tgt := 57) hx hb dc_R_next_50 (by decide) (fun c => ?_) (fun c => ?_)
        · have h := h.1 c
          refine lv_bipush (v := (-2)) hx hb dc_R_next_57 (by decide) ?_
          exact w_iret hx hb hr hlocks hP hS h dc_R_next_59
        · have h := h.2 c
          refine lv_iload_n hx hb dc_R_next_53 rfl (lv_at hl 3 rfl) ?_
          refine lv_goto (tgt := 59) hx hb dc_R_next_54 (by decide) ?_
          exact w_iret hx hb hr hlocks hP hS h dc_R_next_59
      · have h := h.2 c
        refine lv_aload_n hx hb dc_R_next_25 rfl (lv_at hl 0 rfl) ?_
        refine va_get (D := D) (ci := 5) (v := .ref (ad 14)) (C := Rn_R) (T := Fn_R) (N := 4) hx hb hts in_R hown hK hP 24 rfl rfl 0 (by decide) (hts _ mw_151) (fun _ h9 => h9) rfl dc_R_next_26 ?_
        refine lv_sipush (v := 4096) hx hb dc_R_next_29 (by decide) ?_
        refine lv_iload_n hx hb dc_R_next_32 rfl (lv_at hl 1 rfl) ?_
        refine lv_imul hx hb dc_R_next_33 ?_
        refine lv_iload_n hx hb dc_R_next_34 rfl (lv_at hl 3 rfl) ?_
        refine lv_iadd hx hb dc_R_next_35 ?_
        refine w_ild 14 (by decide) hx hb hK hP h.1 dc_R_next_36 ?_
        have h := h.2
        refine lv_if_ne (tgt := 46) hx hb dc_R_next_37 (by decide) (fun c => ?_) (fun c => ?_)
        · have h := h.1 c
          refine lv_iload_n hx hb dc_R_next_46 rfl (lv_at hl 3 rfl) ?_
          refine lv_sipush (v := 4096) hx hb dc_R_next_47 (by decide) ?_
          refine lv_icmp_ge (tgt := 57) hx hb dc_R_next_50 (by decide) (fun c => ?_) (fun c => ?_)
          · have h := h.1 c
            refine lv_bipush (v := (-2)) hx hb dc_R_next_57 (by decide) ?_
            exact w_iret hx hb hr hlocks hP hS h dc_R_next_59
          · have h := h.2 c
            refine lv_iload_n hx hb dc_R_next_53 rfl (lv_at hl 3 rfl) ?_
            refine lv_goto (tgt := 59) hx hb dc_R_next_54 (by decide) ?_
            exact w_iret hx hb hr hlocks hP hS h dc_R_next_59
        · have h := h.2 c
          obtain ⟨x105, ex105⟩ : ∃ y : Int32, y = y3 + 1 := ⟨_, rfl⟩
          have h := h x105 ex105
          refine lv_iinc (v := x105) (lv' := [(3, .int x105), (0, .ref (ad 24)), (1, .int y1), (2, .int y2)]) hx hb dc_R_next_40 hl (k := 3) rfl (by rw [ex105]; rfl) (by decide) rfl (fun ls hl => ?_)
          refine lv_goto (tgt := 18) hx hb dc_R_next_43 (by decide) ?_
          exact ih y1 y2 x105 st h _ _ hP hS ls (lv_sub hl [1, 2, 3, 0] rfl)
  have hl := lv_entry ([.ref (ad 24), .int x1, .int x2]) (n := 4) (Nat.le_of_ble_eq_true rfl)
  rw [lg_entry_eq]
  generalize (lg_sl ([.ref (ad 24), .int x1, .int x2]) ++ List.replicate (4 - (lg_sl ([.ref (ad 24), .int x1, .int x2])).length) Slot.unset).toArray = ls at hl ⊢
  have hl : lv_has ls 4 [(0, .ref (ad 24)), (1, .int x1), (2, .int x2)] := hl
  refine lv_iload_n hx hb dc_R_next_0 rfl (lv_at hl 1 rfl) ?_
  refine w_cSi (y := yn_R_isMap) (index := 24) (n := 1) (own := Rn_R) hx hb hml hown hts hK hN hP hS (ct_R_isMap l D ad cA w hJ x1 st _ h) mw_140 mw_141 mw_142 mw_143 (by decide +kernel) ⟨Nat.le_of_ble_eq_true rfl, Nat.le_of_ble_eq_true rfl⟩ rfl rfl rfl hl.1 rfl (lv_room (Nat.le_of_ble_eq_true rfl)) dc_R_next_1 ⟨Nat.zero_le _, Nat.zero_le _⟩ (fun r102 st101 H locs hP hS h => ?_)
  refine lv_if_eq (tgt := 14) hx hb dc_R_next_4 (by decide) (fun c => ?_) (fun c => ?_)
  · have h := h.1 c
    refine lv_iconst (v := (-1)) hx hb dc_R_next_14 (by decide) ?_
    exact w_iret hx hb hr hlocks hP hS h dc_R_next_15
  · have h := h.2 c
    refine lv_iload_n hx hb dc_R_next_7 rfl (lv_at hl 2 rfl) ?_
    refine w_cSi (y := yn_R_isKey) (index := 28) (n := 1) (own := Rn_R) hx hb hml hown hts hK hN hP hS (ct_R_isKey l D ad cA w hJ x2 st101 _ h) mw_144 mw_145 mw_146 mw_143 (by decide +kernel) ⟨Nat.le_of_ble_eq_true rfl, Nat.le_of_ble_eq_true rfl⟩ rfl rfl rfl hl.1 rfl (lv_room (Nat.le_of_ble_eq_true rfl)) dc_R_next_8 ⟨Nat.zero_le _, Nat.zero_le _⟩ (fun r104 st103 H locs hP hS h => ?_)
    refine lv_if_ne (tgt := 16) hx hb dc_R_next_11 (by decide) (fun c => ?_) (fun c => ?_)
    · have h := h.1 c
      refine lv_iload_n hx hb dc_R_next_16 rfl (lv_at hl 2 rfl) ?_
      refine lv_istore_n (lv' := [(3, .int x2), (0, .ref (ad 24)), (1, .int x1), (2, .int x2)]) hx hb dc_R_next_17 rfl hl (by decide) rfl (fun ls hl => ?_)
      obtain ⟨n, h⟩ := h
      exact Lp_18 n x1 x2 x2 st103 h _ _ hP hS ls (lv_sub hl [1, 2, 3, 0] rfl)
    · have h := h.2 c
      refine lv_iconst (v := (-1)) hx hb dc_R_next_14 (by decide) ?_
      exact w_iret hx hb hr hlocks hP hS h dc_R_next_15
end
section
set_option maxHeartbeats 4000000 in
set_option maxRecDepth 100000 in
theorem ct_T_releaseBelow (l : Launch) (D : va_G) (ad : Nat → Nat) (cA : Nat → ClassId) (w : Nat) (hJ : Jn_ ad) (d : Nat) : ∀ (x1 : Int32) (x2 : Int32) (st : St_) (post : St_ → Prop), wp_T_releaseBelow w d x1 x2 st post → Met l yn_T_releaseBelow (Cond.code yn_T_releaseBelow bc_T_releaseBelow 4 none :: Wk_) (rm_T_releaseBelow d) (Pw_ D ad cA w st [.ref (ad 20), .int x1, .int x2]) (Qv_ D ad cA w post) 0 0 (Aw_ ad) := by
  induction d with
  | zero =>
    intro x1 x2 st post h
    exact h.elim
  | succ d ihd =>
    intro x1 x2 st post h
    refine Met.ofW (cc := bc_T_releaseBelow) (maxL := 4) (ret := none) (by decide) rfl ?_
    intro p e s m args below meth c s₁ B hml hv
    obtain ⟨rfl, hP, hK, hN⟩ := hv
    have hx := B.exec
    have hb := B.bytes
    have hr := B.returns
    have hts : ∀ v ∈ Wk_, v.before [.ref (ad 20), .int x1, .int x2].toArray s = true := fun v hv => atoms_spec (ws := Cond.code yn_T_releaseBelow bc_T_releaseBelow 4 none :: Wk_) B.pre v (List.mem_cons_of_mem _ hv)
    have hown : s.vm.findClass Rn_T = some m.cls := findClass_of_methodNamed B.named
    have hlocks := B.notSynchronized
    have hS : va_S (Aw_ ad) s.heap s.heap [] := va_S.rf
    have Lp_28 : ∀ (n : Nat) (y1 y2 y3 : Int32) (st : St_), wp_T_releaseBelow_28 w (wp_T_releaseBelow w d) post n y1 y2 y3 st → ∀ (H : Heap) (locs : List Loc), va_P D sC_ (wd_ ad cA w st) H → va_S (Aw_ ad) s.heap H locs → ∀ ls : Array Slot, lv_has ls 4 [(0, .ref (ad 20)), (1, .int y1), (2, .int y2), (3, .int y3)] → W p l e (headSpec (Cond.code yn_T_releaseBelow bc_T_releaseBelow 4 none :: Wk_) (rm_T_releaseBelow (d + 1))).room s m [.ref (ad 20), .int x1, .int x2].toArray below meth c H locs 0 0 (MQ below (Qv_ D ad cA w post) [.ref (ad 20), .int x1, .int x2].toArray s 0 0 (Aw_ ad)) (F0 m 28 ls []) := by
      intro n
      induction n with
      | zero => intro y1 y2 y3 st h; exact h.elim
      | succ n ih =>
        intro y1 y2 y3 st h H locs hP hS ls hl
        refine lv_iload_n hx hb dc_T_releaseBelow_28 rfl (lv_at hl 3 rfl) ?_
        refine lv_aload_n hx hb dc_T_releaseBelow_29 rfl (lv_at hl 0 rfl) ?_
        refine va_get (D := D) (ci := 2) (v := .ref (ad 19)) (C := Rn_T) (T := Fn_T) (N := 3) hx hb hts in_T hown hK hP 20 rfl rfl 0 (by decide) (hts _ mw_13) (fun _ h9 => h9) rfl dc_T_releaseBelow_30 ?_
        refine lv_iload_n hx hb dc_T_releaseBelow_33 rfl (lv_at hl 1 rfl) ?_
        refine w_cVi (y := yn_B_size) (C := Rn_B) (index := 48) (n := 1) (own := Rn_T) 19 hx hb hml hown hts hK hN hP hS (ct_B_size l D ad cA w hJ y1 st _ h) mw_26 mw_114 mw_28 mw_29 mw_18 (by decide +kernel) (by refine ⟨?_, ?_⟩ <;> (try dsimp only [headSpec]) <;> omega) rfl rfl rfl rfl rfl hl.1 rfl (lv_room (Nat.le_of_ble_eq_true rfl)) dc_T_releaseBelow_34 ⟨Nat.zero_le _, Nat.zero_le _⟩ (fun r105 st104 H locs hP hS h => ?_)
        refine lv_icmp_ge (tgt := 62) hx hb dc_T_releaseBelow_37 (by decide) (fun c => ?_) (fun c => ?_)
        · have h := h.1 c
          refine lv_aload_n hx hb dc_T_releaseBelow_62 rfl (lv_at hl 0 rfl) ?_
          refine va_get (D := D) (ci := 2) (v := .ref (ad 19)) (C := Rn_T) (T := Fn_T) (N := 3) hx hb hts in_T hown hK hP 20 rfl rfl 0 (by decide) (hts _ mw_13) (fun _ h9 => h9) rfl dc_T_releaseBelow_63 ?_
          refine lv_iload_n hx hb dc_T_releaseBelow_66 rfl (lv_at hl 1 rfl) ?_
          refine w_cVv (y := yn_B_give) (C := Rn_B) (index := 104) (n := 1) (own := Rn_T) 19 hx hb hml hown hts hK hN hP hS (ct_B_give l D ad cA w hJ y1 st104 _ h) mw_180 mw_181 mw_182 mw_183 mw_18 (by decide +kernel) (by refine ⟨?_, ?_⟩ <;> (try dsimp only [headSpec]) <;> omega) rfl rfl rfl rfl rfl hl.1 rfl (lv_room (Nat.le_of_ble_eq_true rfl)) dc_T_releaseBelow_67 ⟨Nat.zero_le _, Nat.zero_le _⟩ (fun st106 H locs hP hS h => ?_)
          exact w_vret hx hb hr hlocks hP hS h dc_T_releaseBelow_70
        · have h := h.2 c
          refine lv_aload_n hx hb dc_T_releaseBelow_40 rfl (lv_at hl 0 rfl) ?_
          refine lv_aload_n hx hb dc_T_releaseBelow_41 rfl (lv_at hl 0 rfl) ?_
          refine va_get (D := D) (ci := 2) (v := .ref (ad 19)) (C := Rn_T) (T := Fn_T) (N := 3) hx hb hts in_T hown hK hP 20 rfl rfl 0 (by decide) (hts _ mw_13) (fun _ h9 => h9) rfl dc_T_releaseBelow_42 ?_
          refine lv_iload_n hx hb dc_T_releaseBelow_45 rfl (lv_at hl 1 rfl) ?_
          refine lv_iload_n hx hb dc_T_releaseBelow_46 rfl (lv_at hl 3 rfl) ?_
          refine w_cVi (y := yn_B_goal) (C := Rn_B) (index := 35) (n := 2) (own := Rn_T) 19 hx hb hml hown hts hK hN hP hS (ct_B_goal l D ad cA w hJ y1 y3 st104 _ h) mw_48 mw_49 mw_50 mw_51 mw_18 (by decide +kernel) (by refine ⟨?_, ?_⟩ <;> (try dsimp only [headSpec]) <;> omega) rfl rfl rfl rfl rfl hl.1 rfl (lv_room (Nat.le_of_ble_eq_true rfl)) dc_T_releaseBelow_47 ⟨Nat.zero_le _, Nat.zero_le _⟩ (fun r108 st107 H locs hP hS h => ?_)
          refine lv_iload_n hx hb dc_T_releaseBelow_50 rfl (lv_at hl 2 rfl) ?_
          refine lv_iconst (v := 1) hx hb dc_T_releaseBelow_51 (by decide) ?_
          refine lv_isub hx hb dc_T_releaseBelow_52 ?_
          refine w_cVv (y := yn_T_releaseBelow) (C := Rn_T) (index := 111) (n := 2) (own := Rn_T) 20 hx hb hml hown hts hK hN hP hS (ihd r108 (y2 - 1) st107 _ h) mw_223 mw_224 mw_225 mw_226 mw_59 (by decide +kernel) (by refine ⟨?_, ?_⟩ <;> (try dsimp only [headSpec]) <;> omega) rfl rfl rfl rfl rfl hl.1 rfl (lv_room (Nat.le_of_ble_eq_true rfl)) dc_T_releaseBelow_53 ⟨Nat.zero_le _, Nat.zero_le _⟩ (fun st109 H locs hP hS h => ?_)
          obtain ⟨x110, ex110⟩ : ∃ y : Int32, y = y3 + 1 := ⟨_, rfl⟩
          have h := h x110 ex110
          refine lv_iinc (v := x110) (lv' := [(3, .int x110), (0, .ref (ad 20)), (1, .int y1), (2, .int y2)]) hx hb dc_T_releaseBelow_56 hl (k := 3) rfl (by rw [ex110]; rfl) (by decide) rfl (fun ls hl => ?_)
          refine lv_goto (tgt := 28) hx hb dc_T_releaseBelow_59 (by decide) ?_
          exact ih y1 y2 x110 st109 h _ _ hP hS ls (lv_sub hl [1, 2, 3, 0] rfl)
    have hl := lv_entry ([.ref (ad 20), .int x1, .int x2]) (n := 4) (Nat.le_of_ble_eq_true rfl)
    rw [lg_entry_eq]
    generalize (lg_sl ([.ref (ad 20), .int x1, .int x2]) ++ List.replicate (4 - (lg_sl ([.ref (ad 20), .int x1, .int x2])).length) Slot.unset).toArray = ls at hl ⊢
    have hl : lv_has ls 4 [(0, .ref (ad 20)), (1, .int x1), (2, .int x2)] := hl
    refine lv_iload_n hx hb dc_T_releaseBelow_0 rfl (lv_at hl 2 rfl) ?_
    refine lv_if_lt (tgt := 21) hx hb dc_T_releaseBelow_1 (by decide) (fun c => ?_) (fun c => ?_)
    · have h := h.1 c
      exact w_vret hx hb hr hlocks hP hS h dc_T_releaseBelow_21
    · have h := h.2 c
      refine lv_iload_n hx hb dc_T_releaseBelow_4 rfl (lv_at hl 2 rfl) ?_
      refine lv_bipush (v := 16) hx hb dc_T_releaseBelow_5 (by decide) ?_
      refine lv_icmp_gt (tgt := 21) hx hb dc_T_releaseBelow_7 (by decide) (fun c => ?_) (fun c => ?_)
      · have h := h.1 c
        exact w_vret hx hb hr hlocks hP hS h dc_T_releaseBelow_21
      · have h := h.2 c
        refine lv_aload_n hx hb dc_T_releaseBelow_10 rfl (lv_at hl 0 rfl) ?_
        refine va_get (D := D) (ci := 2) (v := .ref (ad 19)) (C := Rn_T) (T := Fn_T) (N := 3) hx hb hts in_T hown hK hP 20 rfl rfl 0 (by decide) (hts _ mw_13) (fun _ h9 => h9) rfl dc_T_releaseBelow_11 ?_
        refine lv_iload_n hx hb dc_T_releaseBelow_14 rfl (lv_at hl 1 rfl) ?_
        refine w_cVi (y := yn_B_lose) (C := Rn_B) (index := 114) (n := 1) (own := Rn_T) 19 hx hb hml hown hts hK hN hP hS (ct_B_lose l D ad cA w hJ x1 st _ h) mw_76 mw_222 mw_78 mw_79 mw_18 (by decide +kernel) (by refine ⟨?_, ?_⟩ <;> (try dsimp only [headSpec]) <;> omega) rfl rfl rfl rfl rfl hl.1 rfl (lv_room (Nat.le_of_ble_eq_true rfl)) dc_T_releaseBelow_15 ⟨Nat.zero_le _, Nat.zero_le _⟩ (fun r102 st101 H locs hP hS h => ?_)
        refine lv_if_ne (tgt := 22) hx hb dc_T_releaseBelow_18 (by decide) (fun c => ?_) (fun c => ?_)
        · have h := h.1 c
          refine lv_iload_n hx hb dc_T_releaseBelow_22 rfl (lv_at hl 2 rfl) ?_
          refine lv_if_le (tgt := 62) hx hb dc_T_releaseBelow_23 (by decide) (fun c => ?_) (fun c => ?_)
          · have h := h.1 c
            refine lv_aload_n hx hb dc_T_releaseBelow_62 rfl (lv_at hl 0 rfl) ?_
            refine va_get (D := D) (ci := 2) (v := .ref (ad 19)) (C := Rn_T) (T := Fn_T) (N := 3) hx hb hts in_T hown hK hP 20 rfl rfl 0 (by decide) (hts _ mw_13) (fun _ h9 => h9) rfl dc_T_releaseBelow_63 ?_
            refine lv_iload_n hx hb dc_T_releaseBelow_66 rfl (lv_at hl 1 rfl) ?_
            refine w_cVv (y := yn_B_give) (C := Rn_B) (index := 104) (n := 1) (own := Rn_T) 19 hx hb hml hown hts hK hN hP hS (ct_B_give l D ad cA w hJ x1 st101 _ h) mw_180 mw_181 mw_182 mw_183 mw_18 (by decide +kernel) (by refine ⟨?_, ?_⟩ <;> (try dsimp only [headSpec]) <;> omega) rfl rfl rfl rfl rfl hl.1 rfl (lv_room (Nat.le_of_ble_eq_true rfl)) dc_T_releaseBelow_67 ⟨Nat.zero_le _, Nat.zero_le _⟩ (fun st103 H locs hP hS h => ?_)
            exact w_vret hx hb hr hlocks hP hS h dc_T_releaseBelow_70
          · have h := h.2 c
            refine lv_iconst (v := 0) hx hb dc_T_releaseBelow_26 (by decide) ?_
            refine lv_istore_n (lv' := [(3, .int 0), (0, .ref (ad 20)), (1, .int x1), (2, .int x2)]) hx hb dc_T_releaseBelow_27 rfl hl (by decide) rfl (fun ls hl => ?_)
            obtain ⟨n, h⟩ := h
            exact Lp_28 n x1 x2 0 st101 h _ _ hP hS ls (lv_sub hl [1, 2, 3, 0] rfl)
        · have h := h.2 c
          exact w_vret hx hb hr hlocks hP hS h dc_T_releaseBelow_21
end
section
set_option maxHeartbeats 4000000 in
set_option maxRecDepth 100000 in
theorem ct_T_release (l : Launch) (D : va_G) (ad : Nat → Nat) (cA : Nat → ClassId) (w : Nat) (hJ : Jn_ ad) (x1 : Int32) (st : St_) (post : St_ → Prop) (h : wp_T_release w x1 st post) : Met l yn_T_release (Cond.code yn_T_release bc_T_release 2 none :: Wk_) rm_T_release (Pw_ D ad cA w st [.ref (ad 20), .int x1]) (Qv_ D ad cA w post) 0 0 (Aw_ ad) := by
  refine Met.ofW (cc := bc_T_release) (maxL := 2) (ret := none) (by decide) rfl ?_
  intro p e s m args below meth c s₁ B hml hv
  obtain ⟨rfl, hP, hK, hN⟩ := hv
  have hx := B.exec
  have hb := B.bytes
  have hr := B.returns
  have hts : ∀ v ∈ Wk_, v.before [.ref (ad 20), .int x1].toArray s = true := fun v hv => atoms_spec (ws := Cond.code yn_T_release bc_T_release 2 none :: Wk_) B.pre v (List.mem_cons_of_mem _ hv)
  have hown : s.vm.findClass Rn_T = some m.cls := findClass_of_methodNamed B.named
  have hlocks := B.notSynchronized
  have hS : va_S (Aw_ ad) s.heap s.heap [] := va_S.rf
  have hl := lv_entry ([.ref (ad 20), .int x1]) (n := 2) (Nat.le_of_ble_eq_true rfl)
  rw [lg_entry_eq]
  generalize (lg_sl ([.ref (ad 20), .int x1]) ++ List.replicate (2 - (lg_sl ([.ref (ad 20), .int x1])).length) Slot.unset).toArray = ls at hl ⊢
  have hl : lv_has ls 2 [(0, .ref (ad 20)), (1, .int x1)] := hl
  refine lv_aload_n hx hb dc_T_release_0 rfl (lv_at hl 0 rfl) ?_
  refine lv_iload_n hx hb dc_T_release_1 rfl (lv_at hl 1 rfl) ?_
  refine lv_aload_n hx hb dc_T_release_2 rfl (lv_at hl 0 rfl) ?_
  refine va_get (D := D) (ci := 2) (v := .ref (ad 19)) (C := Rn_T) (T := Fn_T) (N := 3) hx hb hts in_T hown hK hP 20 rfl rfl 0 (by decide) (hts _ mw_13) (fun _ h9 => h9) rfl dc_T_release_3 ?_
  refine lv_iload_n hx hb dc_T_release_6 rfl (lv_at hl 1 rfl) ?_
  refine w_cVi (y := yn_B_level) (C := Rn_B) (index := 26) (n := 1) (own := Rn_T) 19 hx hb hml hown hts hK hN hP hS (ct_B_level l D ad cA w hJ x1 st _ h) mw_20 mw_21 mw_22 mw_23 mw_18 (by decide +kernel) ⟨Nat.le_of_ble_eq_true rfl, Nat.le_of_ble_eq_true rfl⟩ rfl rfl rfl rfl rfl hl.1 rfl (lv_room (Nat.le_of_ble_eq_true rfl)) dc_T_release_7 ⟨Nat.zero_le _, Nat.zero_le _⟩ (fun r102 st101 H locs hP hS h => ?_)
  refine w_cVv (y := yn_T_releaseBelow) (C := Rn_T) (index := 111) (n := 2) (own := Rn_T) 20 hx hb hml hown hts hK hN hP hS (ct_T_releaseBelow l D ad cA w hJ 20 x1 r102 st101 _ h) mw_223 mw_224 mw_225 mw_226 mw_59 (by decide +kernel) ⟨Nat.le_of_ble_eq_true rfl, Nat.le_of_ble_eq_true rfl⟩ rfl rfl rfl rfl rfl hl.1 rfl (lv_room (Nat.le_of_ble_eq_true rfl)) dc_T_release_10 ⟨Nat.zero_le _, Nat.zero_le _⟩ (fun st103 H locs hP hS h => ?_)
  exact w_vret hx hb hr hlocks hP hS h dc_T_release_13
end
section
set_option maxHeartbeats 4000000 in
set_option maxRecDepth 100000 in
theorem ct_S_lead_22 (l : Launch) (D : va_G) (ad : Nat → Nat) (cA : Nat → ClassId) (w : Nat) (hJ : Jn_ ad) (x2 : Int32) (x3 : Int32) (x4 : Int32) (st : St_) (post : St_ → Prop) (h : wp_S_lead_22 w x2 x3 x4 st post) : Met l yn_S_lead (Cond.code yn_S_lead bc_S_lead 5 none :: Wk_) rm_S_lead_22 (Pw_ D ad cA w st [.ref (ad 18), .ref (ad 22), .int x2, .int x3, .int x4]) (Qv_ D ad cA w post) 0 0 (Aw_ ad) := by
  refine Met.ofW (cc := bc_S_lead) (maxL := 5) (ret := none) (by decide) rfl ?_
  intro p e s m args below meth c s₁ B hml hv
  obtain ⟨rfl, hP, hK, hN⟩ := hv
  have hx := B.exec
  have hb := B.bytes
  have hr := B.returns
  have hts : ∀ v ∈ Wk_, v.before [.ref (ad 18), .ref (ad 22), .int x2, .int x3, .int x4].toArray s = true := fun v hv => atoms_spec (ws := Cond.code yn_S_lead bc_S_lead 5 none :: Wk_) B.pre v (List.mem_cons_of_mem _ hv)
  have hown : s.vm.findClass Rn_S = some m.cls := findClass_of_methodNamed B.named
  have hlocks := B.notSynchronized
  have hS : va_S (Aw_ ad) s.heap s.heap [] := va_S.rf
  have hl := lv_entry ([.ref (ad 18), .ref (ad 22), .int x2, .int x3, .int x4]) (n := 5) (Nat.le_of_ble_eq_true rfl)
  rw [lg_entry_eq]
  generalize (lg_sl ([.ref (ad 18), .ref (ad 22), .int x2, .int x3, .int x4]) ++ List.replicate (5 - (lg_sl ([.ref (ad 18), .ref (ad 22), .int x2, .int x3, .int x4])).length) Slot.unset).toArray = ls at hl ⊢
  have hl : lv_has ls 5 [(0, .ref (ad 18)), (1, .ref (ad 22)), (2, .int x2), (3, .int x3), (4, .int x4)] := hl
  refine lv_aload_n hx hb dc_S_lead_0 rfl (lv_at hl 0 rfl) ?_
  refine va_get (D := D) (ci := 0) (v := .ref (ad 19)) (C := Rn_S) (T := Fn_S) (N := 5) hx hb hts in_S hown hK hP 18 rfl rfl 0 (by decide) (hts _ mw_220) (fun _ h9 => h9) rfl dc_S_lead_1 ?_
  refine lv_iload_n hx hb dc_S_lead_4 rfl (lv_at hl 3 rfl) ?_
  refine w_cVv (y := yn_B_share) (C := Rn_B) (index := 107) (n := 1) (own := Rn_S) 19 hx hb hml hown hts hK hN hP hS (ct_B_share l D ad cA w hJ x3 st _ h) mw_90 mw_221 mw_92 mw_93 mw_18 (by decide +kernel) ⟨Nat.le_of_ble_eq_true rfl, Nat.le_of_ble_eq_true rfl⟩ rfl rfl rfl rfl rfl hl.1 rfl (lv_room (Nat.le_of_ble_eq_true rfl)) dc_S_lead_5 ⟨Nat.zero_le _, Nat.zero_le _⟩ (fun st101 H locs hP hS h => ?_)
  refine lv_aload_n hx hb dc_S_lead_8 rfl (lv_at hl 0 rfl) ?_
  refine va_get (D := D) (ci := 0) (v := .ref (ad 20)) (C := Rn_S) (T := Fn_S) (N := 5) hx hb hts in_S hown hK hP 18 rfl rfl 1 (by decide) (hts _ mw_11) (fun _ h9 => h9) rfl dc_S_lead_9 ?_
  refine lv_aload_n hx hb dc_S_lead_12 rfl (lv_at hl 1 rfl) ?_
  refine va_getN (D := D) (ci := 4) (v := .ref (ad 10)) (C := Rn_P) (T := Fn_P) (N := 3) (host := nh_) hx hb hts in_P hown hK hP 22 rfl rfl 0 (by decide) (va_Nw.use rfl (hN.1 _ nf_0)) (fun _ h9 => h9) rfl dc_S_lead_13 ?_
  refine lv_iload_n hx hb dc_S_lead_16 rfl (lv_at hl 2 rfl) ?_
  refine w_ild 10 (by decide) hx hb hK hP h.1 dc_S_lead_17 ?_
  have h := h.2
  refine w_cVv (y := yn_T_release) (C := Rn_T) (index := 110) (n := 1) (own := Rn_S) 20 hx hb hml hown hts hK hN hP hS (ct_T_release l D ad cA w hJ (st101 10 (x2).toNatClampNeg) st101 _ h) mw_227 mw_228 mw_229 mw_230 mw_59 (by decide +kernel) ⟨Nat.le_of_ble_eq_true rfl, Nat.le_of_ble_eq_true rfl⟩ rfl rfl rfl rfl rfl hl.1 rfl (lv_room (Nat.le_of_ble_eq_true rfl)) dc_S_lead_18 ⟨Nat.zero_le _, Nat.zero_le _⟩ (fun st102 H locs hP hS h => ?_)
  refine lv_aload_n hx hb dc_S_lead_21 rfl (lv_at hl 1 rfl) ?_
  refine va_getN (D := D) (ci := 4) (v := .ref (ad 10)) (C := Rn_P) (T := Fn_P) (N := 3) (host := nh_) hx hb hts in_P hown hK hP 22 rfl rfl 0 (by decide) (va_Nw.use rfl (hN.1 _ nf_0)) (fun _ h9 => h9) rfl dc_S_lead_22 ?_
  refine lv_iload_n hx hb dc_S_lead_25 rfl (lv_at hl 2 rfl) ?_
  refine lv_iload_n hx hb dc_S_lead_26 rfl (lv_at hl 3 rfl) ?_
  refine w_ist 10 (by decide) hJ hx hb hK hP hS h.1 dc_S_lead_27 (fun H locs hP hS => ?_)
  obtain ⟨st103, est103⟩ : ∃ z : St_, z = ws_1 st102 10 (x2).toNatClampNeg x3 := ⟨_, rfl⟩
  rw [← est103] at hP
  have h := h.2 st103 est103
  refine lv_aload_n hx hb dc_S_lead_28 rfl (lv_at hl 1 rfl) ?_
  refine lv_dup hx hb dc_S_lead_29 rfl ?_
  refine va_getN (D := D) (ci := 4) (v := .int (st103 19 0)) (C := Rn_P) (T := Fn_P) (N := 3) (host := nh_) hx hb hts in_P hown hK hP 22 rfl rfl 2 (by decide) (va_Nw.use rfl (hN.1 _ nf_2)) (fun _ h9 => h9) rfl dc_S_lead_30 ?_
  refine lv_iload hx hb dc_S_lead_33 (lv_at hl 4 rfl) ?_
  refine lv_aload_n hx hb dc_S_lead_35 rfl (lv_at hl 1 rfl) ?_
  refine va_getN (D := D) (ci := 4) (v := .ref (ad 11)) (C := Rn_P) (T := Fn_P) (N := 3) (host := nh_) hx hb hts in_P hown hK hP 22 rfl rfl 1 (by decide) (va_Nw.use rfl (hN.1 _ nf_1)) (fun _ h9 => h9) rfl dc_S_lead_36 ?_
  refine lv_iload_n hx hb dc_S_lead_39 rfl (lv_at hl 2 rfl) ?_
  refine w_ild 11 (by decide) hx hb hK hP h.1 dc_S_lead_40 ?_
  have h := h.2
  refine lv_isub hx hb dc_S_lead_41 ?_
  refine lv_iadd hx hb dc_S_lead_42 ?_
  refine va_putN (D := D) (ci := 4) (v := .int ((st103 19 0) + (x4 - (st103 11 (x2).toNatClampNeg)))) (ty := .int) (C := Rn_P) (T := Fn_P) (N := 3) (host := nh_) hx hb hts in_P Tn_P to_P nn_P hown hK hP (wd_D hJ) hS 22 rfl rfl 2 (by decide) (va_Nw.use rfl (hN.1 _ nf_2)) (fun _ h9 => h9) rfl (by decide +kernel) rfl rfl (Nat.le_of_ble_eq_true rfl) dc_S_lead_43 (fun H locs hP _ hS => ?_)
  obtain ⟨st104, est104⟩ : ∃ z : St_, z = ws_1 st103 19 0 ((st103 19 0) + (x4 - (st103 11 (x2).toNatClampNeg))) := ⟨_, rfl⟩
  have hP : va_P D sC_ (wd_ ad cA w st104) H := by rw [est104]; exact hP
  have h := h st104 est104
  refine lv_aload_n hx hb dc_S_lead_46 rfl (lv_at hl 1 rfl) ?_
  refine va_getN (D := D) (ci := 4) (v := .ref (ad 11)) (C := Rn_P) (T := Fn_P) (N := 3) (host := nh_) hx hb hts in_P hown hK hP 22 rfl rfl 1 (by decide) (va_Nw.use rfl (hN.1 _ nf_1)) (fun _ h9 => h9) rfl dc_S_lead_47 ?_
  refine lv_iload_n hx hb dc_S_lead_50 rfl (lv_at hl 2 rfl) ?_
  refine lv_iload hx hb dc_S_lead_51 (lv_at hl 4 rfl) ?_
  refine w_ist 11 (by decide) hJ hx hb hK hP hS h.1 dc_S_lead_53 (fun H locs hP hS => ?_)
  obtain ⟨st105, est105⟩ : ∃ z : St_, z = ws_1 st104 11 (x2).toNatClampNeg x4 := ⟨_, rfl⟩
  rw [← est105] at hP
  have h := h.2 st105 est105
  exact w_vret hx hb hr hlocks hP hS h dc_S_lead_54
end
section
set_option maxHeartbeats 4000000 in
set_option maxRecDepth 100000 in
theorem ct_S_clone (l : Launch) (D : va_G) (ad : Nat → Nat) (cA : Nat → ClassId) (w : Nat) (hJ : Jn_ ad) (x1 : Int32) (x2 : Int32) (st : St_) (post : Int32 → St_ → Prop) (h : wp_S_clone w x1 x2 st post) : Met l yn_S_clone (Cond.code yn_S_clone bc_S_clone 3 (some .int) :: Wk_) rm_S_clone (Pw_ D ad cA w st [.ref (ad 18), .int x1, .int x2]) (Qi_ D ad cA w post) 0 0 (Aw_ ad) := by
  refine Met.ofW (cc := bc_S_clone) (maxL := 3) (ret := (some .int)) (by decide) rfl ?_
  intro p e s m args below meth c s₁ B hml hv
  obtain ⟨rfl, hP, hK, hN⟩ := hv
  have hx := B.exec
  have hb := B.bytes
  have hr := B.returns
  have hts : ∀ v ∈ Wk_, v.before [.ref (ad 18), .int x1, .int x2].toArray s = true := fun v hv => atoms_spec (ws := Cond.code yn_S_clone bc_S_clone 3 (some .int) :: Wk_) B.pre v (List.mem_cons_of_mem _ hv)
  have hown : s.vm.findClass Rn_S = some m.cls := findClass_of_methodNamed B.named
  have hlocks := B.notSynchronized
  have hS : va_S (Aw_ ad) s.heap s.heap [] := va_S.rf
  have hl := lv_entry ([.ref (ad 18), .int x1, .int x2]) (n := 3) (Nat.le_of_ble_eq_true rfl)
  rw [lg_entry_eq]
  generalize (lg_sl ([.ref (ad 18), .int x1, .int x2]) ++ List.replicate (3 - (lg_sl ([.ref (ad 18), .int x1, .int x2])).length) Slot.unset).toArray = ls at hl ⊢
  have hl : lv_has ls 3 [(0, .ref (ad 18)), (1, .int x1), (2, .int x2)] := hl
  refine lv_iload_n hx hb dc_S_clone_0 rfl (lv_at hl 1 rfl) ?_
  refine w_cSi (y := yn_S_isMap) (index := 53) (n := 1) (own := Rn_S) hx hb hml hown hts hK hN hP hS (ct_S_isMap l D ad cA w hJ x1 st _ h) mw_0 mw_1 mw_2 mw_3 (by decide +kernel) ⟨Nat.le_of_ble_eq_true rfl, Nat.le_of_ble_eq_true rfl⟩ rfl rfl rfl hl.1 rfl (lv_room (Nat.le_of_ble_eq_true rfl)) dc_S_clone_1 ⟨Nat.zero_le _, Nat.zero_le _⟩ (fun r102 st101 H locs hP hS h => ?_)
  refine lv_if_eq (tgt := 19) hx hb dc_S_clone_4 (by decide) (fun c => ?_) (fun c => ?_)
  · have h := h.1 c
    refine lv_iconst (v := (-1)) hx hb dc_S_clone_19 (by decide) ?_
    exact w_iret hx hb hr hlocks hP hS h dc_S_clone_20
  · have h := h.2 c
    refine lv_iload_n hx hb dc_S_clone_7 rfl (lv_at hl 2 rfl) ?_
    refine w_cSi (y := yn_S_isMap) (index := 53) (n := 1) (own := Rn_S) hx hb hml hown hts hK hN hP hS (ct_S_isMap l D ad cA w hJ x2 st101 _ h) mw_0 mw_1 mw_2 mw_3 (by decide +kernel) ⟨Nat.le_of_ble_eq_true rfl, Nat.le_of_ble_eq_true rfl⟩ rfl rfl rfl hl.1 rfl (lv_room (Nat.le_of_ble_eq_true rfl)) dc_S_clone_8 ⟨Nat.zero_le _, Nat.zero_le _⟩ (fun r104 st103 H locs hP hS h => ?_)
    refine lv_if_eq (tgt := 19) hx hb dc_S_clone_11 (by decide) (fun c => ?_) (fun c => ?_)
    · have h := h.1 c
      refine lv_iconst (v := (-1)) hx hb dc_S_clone_19 (by decide) ?_
      exact w_iret hx hb hr hlocks hP hS h dc_S_clone_20
    · have h := h.2 c
      refine lv_iload_n hx hb dc_S_clone_14 rfl (lv_at hl 1 rfl) ?_
      refine lv_iload_n hx hb dc_S_clone_15 rfl (lv_at hl 2 rfl) ?_
      refine lv_icmp_ne (tgt := 21) hx hb dc_S_clone_16 (by decide) (fun c => ?_) (fun c => ?_)
      · have h := h.1 c
        refine lv_aload_n hx hb dc_S_clone_21 rfl (lv_at hl 0 rfl) ?_
        refine va_get (D := D) (ci := 0) (v := .ref (ad 22)) (C := Rn_S) (T := Fn_S) (N := 5) hx hb hts in_S hown hK hP 18 rfl rfl 3 (by decide) (hts _ mw_12) (fun _ h9 => h9) rfl dc_S_clone_22 ?_
        refine va_getN (D := D) (ci := 4) (v := .int (st103 19 0)) (C := Rn_P) (T := Fn_P) (N := 3) (host := nh_) hx hb hts in_P hown hK hP 22 rfl rfl 2 (by decide) (va_Nw.use rfl (hN.1 _ nf_2)) (fun _ h9 => h9) rfl dc_S_clone_25 ?_
        refine lv_aload_n hx hb dc_S_clone_28 rfl (lv_at hl 0 rfl) ?_
        refine va_get (D := D) (ci := 0) (v := .ref (ad 22)) (C := Rn_S) (T := Fn_S) (N := 5) hx hb hts in_S hown hK hP 18 rfl rfl 3 (by decide) (hts _ mw_12) (fun _ h9 => h9) rfl dc_S_clone_29 ?_
        refine va_getN (D := D) (ci := 4) (v := .ref (ad 11)) (C := Rn_P) (T := Fn_P) (N := 3) (host := nh_) hx hb hts in_P hown hK hP 22 rfl rfl 1 (by decide) (va_Nw.use rfl (hN.1 _ nf_1)) (fun _ h9 => h9) rfl dc_S_clone_32 ?_
        refine lv_iload_n hx hb dc_S_clone_35 rfl (lv_at hl 1 rfl) ?_
        refine w_ild 11 (by decide) hx hb hK hP h.1 dc_S_clone_36 ?_
        have h := h.2
        refine lv_isub hx hb dc_S_clone_37 ?_
        refine lv_aload_n hx hb dc_S_clone_38 rfl (lv_at hl 0 rfl) ?_
        refine va_get (D := D) (ci := 0) (v := .ref (ad 22)) (C := Rn_S) (T := Fn_S) (N := 5) hx hb hts in_S hown hK hP 18 rfl rfl 3 (by decide) (hts _ mw_12) (fun _ h9 => h9) rfl dc_S_clone_39 ?_
        refine va_getN (D := D) (ci := 4) (v := .ref (ad 11)) (C := Rn_P) (T := Fn_P) (N := 3) (host := nh_) hx hb hts in_P hown hK hP 22 rfl rfl 1 (by decide) (va_Nw.use rfl (hN.1 _ nf_1)) (fun _ h9 => h9) rfl dc_S_clone_42 ?_
        refine lv_iload_n hx hb dc_S_clone_45 rfl (lv_at hl 2 rfl) ?_
        refine w_ild 11 (by decide) hx hb hK hP h.1 dc_S_clone_46 ?_
        have h := h.2
        refine lv_iadd hx hb dc_S_clone_47 ?_
        refine lv_sipush (v := 600) hx hb dc_S_clone_48 (by decide) ?_
        refine lv_icmp_le (tgt := 57) hx hb dc_S_clone_51 (by decide) (fun c => ?_) (fun c => ?_)
        · have h := h.1 c
          refine lv_aload_n hx hb dc_S_clone_57 rfl (lv_at hl 0 rfl) ?_
          refine lv_aload_n hx hb dc_S_clone_58 rfl (lv_at hl 0 rfl) ?_
          refine va_get (D := D) (ci := 0) (v := .ref (ad 22)) (C := Rn_S) (T := Fn_S) (N := 5) hx hb hts in_S hown hK hP 18 rfl rfl 3 (by decide) (hts _ mw_12) (fun _ h9 => h9) rfl dc_S_clone_59 ?_
          refine lv_iload_n hx hb dc_S_clone_62 rfl (lv_at hl 1 rfl) ?_
          refine lv_aload_n hx hb dc_S_clone_63 rfl (lv_at hl 0 rfl) ?_
          refine va_get (D := D) (ci := 0) (v := .ref (ad 22)) (C := Rn_S) (T := Fn_S) (N := 5) hx hb hts in_S hown hK hP 18 rfl rfl 3 (by decide) (hts _ mw_12) (fun _ h9 => h9) rfl dc_S_clone_64 ?_
          refine va_getN (D := D) (ci := 4) (v := .ref (ad 10)) (C := Rn_P) (T := Fn_P) (N := 3) (host := nh_) hx hb hts in_P hown hK hP 22 rfl rfl 0 (by decide) (va_Nw.use rfl (hN.1 _ nf_0)) (fun _ h9 => h9) rfl dc_S_clone_67 ?_
          refine lv_iload_n hx hb dc_S_clone_70 rfl (lv_at hl 2 rfl) ?_
          refine w_ild 10 (by decide) hx hb hK hP h.1 dc_S_clone_71 ?_
          have h := h.2
          refine lv_aload_n hx hb dc_S_clone_72 rfl (lv_at hl 0 rfl) ?_
          refine va_get (D := D) (ci := 0) (v := .ref (ad 22)) (C := Rn_S) (T := Fn_S) (N := 5) hx hb hts in_S hown hK hP 18 rfl rfl 3 (by decide) (hts _ mw_12) (fun _ h9 => h9) rfl dc_S_clone_73 ?_
          refine va_getN (D := D) (ci := 4) (v := .ref (ad 11)) (C := Rn_P) (T := Fn_P) (N := 3) (host := nh_) hx hb hts in_P hown hK hP 22 rfl rfl 1 (by decide) (va_Nw.use rfl (hN.1 _ nf_1)) (fun _ h9 => h9) rfl dc_S_clone_76 ?_
          refine lv_iload_n hx hb dc_S_clone_79 rfl (lv_at hl 2 rfl) ?_
          refine w_ild 11 (by decide) hx hb hK hP h.1 dc_S_clone_80 ?_
          have h := h.2
          refine w_cVv (y := yn_S_lead) (C := Rn_S) (index := 91) (n := 4) (own := Rn_S) 18 hx hb hml hown hts hK hN hP hS (ct_S_lead_22 l D ad cA w hJ x1 (st103 10 (x2).toNatClampNeg) (st103 11 (x2).toNatClampNeg) st103 _ h) mw_231 mw_232 mw_233 mw_234 mw_3 (by decide +kernel) ⟨Nat.le_of_ble_eq_true rfl, Nat.le_of_ble_eq_true rfl⟩ rfl rfl rfl rfl rfl hl.1 rfl (lv_room (Nat.le_of_ble_eq_true rfl)) dc_S_clone_81 ⟨Nat.zero_le _, Nat.zero_le _⟩ (fun st105 H locs hP hS h => ?_)
          refine lv_aload_n hx hb dc_S_clone_84 rfl (lv_at hl 0 rfl) ?_
          refine va_get (D := D) (ci := 0) (v := .ref (ad 22)) (C := Rn_S) (T := Fn_S) (N := 5) hx hb hts in_S hown hK hP 18 rfl rfl 3 (by decide) (hts _ mw_12) (fun _ h9 => h9) rfl dc_S_clone_85 ?_
          refine va_getN (D := D) (ci := 4) (v := .ref (ad 11)) (C := Rn_P) (T := Fn_P) (N := 3) (host := nh_) hx hb hts in_P hown hK hP 22 rfl rfl 1 (by decide) (va_Nw.use rfl (hN.1 _ nf_1)) (fun _ h9 => h9) rfl dc_S_clone_88 ?_
          refine lv_iload_n hx hb dc_S_clone_91 rfl (lv_at hl 1 rfl) ?_
          refine w_ild 11 (by decide) hx hb hK hP h.1 dc_S_clone_92 ?_
          have h := h.2
          exact w_iret hx hb hr hlocks hP hS h dc_S_clone_93
        · have h := h.2 c
          refine lv_bipush (v := (-3)) hx hb dc_S_clone_54 (by decide) ?_
          exact w_iret hx hb hr hlocks hP hS h dc_S_clone_56
      · have h := h.2 c
        refine lv_iconst (v := (-1)) hx hb dc_S_clone_19 (by decide) ?_
        exact w_iret hx hb hr hlocks hP hS h dc_S_clone_20
end
section
set_option maxHeartbeats 4000000 in
set_option maxRecDepth 100000 in
theorem ct_R_clone (l : Launch) (D : va_G) (ad : Nat → Nat) (cA : Nat → ClassId) (w : Nat) (hJ : Jn_ ad) (x1 : Int32) (x2 : Int32) (st : St_) (post : Int32 → St_ → Prop) (h : wp_R_clone w x1 x2 st post) : Met l yn_R_clone (Cond.code yn_R_clone bc_R_clone 4 (some .int) :: Wk_) rm_R_clone (Pw_ D ad cA w st [.ref (ad 24), .int x1, .int x2]) (Qi_ D ad cA w post) 0 0 (Aw_ ad) := by
  refine Met.ofW (cc := bc_R_clone) (maxL := 4) (ret := (some .int)) (by decide) rfl ?_
  intro p e s m args below meth c s₁ B hml hv
  obtain ⟨rfl, hP, hK, hN⟩ := hv
  have hx := B.exec
  have hb := B.bytes
  have hr := B.returns
  have hts : ∀ v ∈ Wk_, v.before [.ref (ad 24), .int x1, .int x2].toArray s = true := fun v hv => atoms_spec (ws := Cond.code yn_R_clone bc_R_clone 4 (some .int) :: Wk_) B.pre v (List.mem_cons_of_mem _ hv)
  have hown : s.vm.findClass Rn_R = some m.cls := findClass_of_methodNamed B.named
  have hlocks := B.notSynchronized
  have hS : va_S (Aw_ ad) s.heap s.heap [] := va_S.rf
  have Lp_50 : ∀ (n : Nat) (y1 y2 y3 : Int32) (st : St_), wp_R_clone_50 w post n y1 y2 y3 st → ∀ (H : Heap) (locs : List Loc), va_P D sC_ (wd_ ad cA w st) H → va_S (Aw_ ad) s.heap H locs → ∀ ls : Array Slot, lv_has ls 4 [(0, .ref (ad 24)), (1, .int y1), (2, .int y2), (3, .int y3)] → W p l e (headSpec (Cond.code yn_R_clone bc_R_clone 4 (some .int) :: Wk_) rm_R_clone).room s m [.ref (ad 24), .int x1, .int x2].toArray below meth c H locs 0 0 (MQ below (Qi_ D ad cA w post) [.ref (ad 24), .int x1, .int x2].toArray s 0 0 (Aw_ ad)) (F0 m 50 ls []) := by
    intro n
    induction n with
    | zero => intro y1 y2 y3 st h; exact h.elim
    | succ n ih =>
      intro y1 y2 y3 st h H locs hP hS ls hl
      refine lv_iload_n hx hb dc_R_clone_50 rfl (lv_at hl 3 rfl) ?_
      refine lv_sipush (v := 4096) hx hb dc_R_clone_51 (by decide) ?_
      refine lv_icmp_ge (tgt := 87) hx hb dc_R_clone_54 (by decide) (fun c => ?_) (fun c => ?_)
      · have h := h.1 c
        refine lv_aload_n hx hb dc_R_clone_87 rfl (lv_at hl 0 rfl) ?_
        refine va_get (D := D) (ci := 5) (v := .ref (ad 16)) (C := Rn_R) (T := Fn_R) (N := 4) hx hb hts in_R hown hK hP 24 rfl rfl 2 (by decide) (hts _ mw_152) (fun _ h9 => h9) rfl dc_R_clone_88 ?_
        refine lv_iload_n hx hb dc_R_clone_91 rfl (lv_at hl 1 rfl) ?_
        refine lv_aload_n hx hb dc_R_clone_92 rfl (lv_at hl 0 rfl) ?_
        refine va_get (D := D) (ci := 5) (v := .ref (ad 16)) (C := Rn_R) (T := Fn_R) (N := 4) hx hb hts in_R hown hK hP 24 rfl rfl 2 (by decide) (hts _ mw_152) (fun _ h9 => h9) rfl dc_R_clone_93 ?_
        refine lv_iload_n hx hb dc_R_clone_96 rfl (lv_at hl 2 rfl) ?_
        refine w_ild 16 (by decide) hx hb hK hP h.1 dc_R_clone_97 ?_
        have h := h.2
        refine w_ist 16 (by decide) hJ hx hb hK hP hS h.1 dc_R_clone_98 (fun H locs hP hS => ?_)
        obtain ⟨st107, est107⟩ : ∃ z : St_, z = ws_1 st 16 (y1).toNatClampNeg (st 16 (y2).toNatClampNeg) := ⟨_, rfl⟩
        rw [← est107] at hP
        have h := h.2 st107 est107
        refine lv_aload_n hx hb dc_R_clone_99 rfl (lv_at hl 0 rfl) ?_
        refine va_get (D := D) (ci := 5) (v := .ref (ad 16)) (C := Rn_R) (T := Fn_R) (N := 4) hx hb hts in_R hown hK hP 24 rfl rfl 2 (by decide) (hts _ mw_152) (fun _ h9 => h9) rfl dc_R_clone_100 ?_
        refine lv_iload_n hx hb dc_R_clone_103 rfl (lv_at hl 1 rfl) ?_
        refine w_ild 16 (by decide) hx hb hK hP h.1 dc_R_clone_104 ?_
        have h := h.2
        exact w_iret hx hb hr hlocks hP hS h dc_R_clone_105
      · have h := h.2 c
        refine lv_aload_n hx hb dc_R_clone_57 rfl (lv_at hl 0 rfl) ?_
        refine va_get (D := D) (ci := 5) (v := .ref (ad 14)) (C := Rn_R) (T := Fn_R) (N := 4) hx hb hts in_R hown hK hP 24 rfl rfl 0 (by decide) (hts _ mw_151) (fun _ h9 => h9) rfl dc_R_clone_58 ?_
        refine lv_sipush (v := 4096) hx hb dc_R_clone_61 (by decide) ?_
        refine lv_iload_n hx hb dc_R_clone_64 rfl (lv_at hl 1 rfl) ?_
        refine lv_imul hx hb dc_R_clone_65 ?_
        refine lv_iload_n hx hb dc_R_clone_66 rfl (lv_at hl 3 rfl) ?_
        refine lv_iadd hx hb dc_R_clone_67 ?_
        refine lv_aload_n hx hb dc_R_clone_68 rfl (lv_at hl 0 rfl) ?_
        refine va_get (D := D) (ci := 5) (v := .ref (ad 14)) (C := Rn_R) (T := Fn_R) (N := 4) hx hb hts in_R hown hK hP 24 rfl rfl 0 (by decide) (hts _ mw_151) (fun _ h9 => h9) rfl dc_R_clone_69 ?_
        refine lv_sipush (v := 4096) hx hb dc_R_clone_72 (by decide) ?_
        refine lv_iload_n hx hb dc_R_clone_75 rfl (lv_at hl 2 rfl) ?_
        refine lv_imul hx hb dc_R_clone_76 ?_
        refine lv_iload_n hx hb dc_R_clone_77 rfl (lv_at hl 3 rfl) ?_
        refine lv_iadd hx hb dc_R_clone_78 ?_
        refine w_ild 14 (by decide) hx hb hK hP h.1 dc_R_clone_79 ?_
        have h := h.2
        refine w_ist 14 (by decide) hJ hx hb hK hP hS h.1 dc_R_clone_80 (fun H locs hP hS => ?_)
        obtain ⟨st108, est108⟩ : ∃ z : St_, z = ws_1 st 14 (((4096 * y1) + y3)).toNatClampNeg (st 14 (((4096 * y2) + y3)).toNatClampNeg) := ⟨_, rfl⟩
        rw [← est108] at hP
        have h := h.2 st108 est108
        obtain ⟨x109, ex109⟩ : ∃ y : Int32, y = y3 + 1 := ⟨_, rfl⟩
        have h := h x109 ex109
        refine lv_iinc (v := x109) (lv' := [(3, .int x109), (0, .ref (ad 24)), (1, .int y1), (2, .int y2)]) hx hb dc_R_clone_81 hl (k := 3) rfl (by rw [ex109]; rfl) (by decide) rfl (fun ls hl => ?_)
        refine lv_goto (tgt := 50) hx hb dc_R_clone_84 (by decide) ?_
        exact ih y1 y2 x109 st108 h _ _ hP hS ls (lv_sub hl [1, 2, 3, 0] rfl)
  have hl := lv_entry ([.ref (ad 24), .int x1, .int x2]) (n := 4) (Nat.le_of_ble_eq_true rfl)
  rw [lg_entry_eq]
  generalize (lg_sl ([.ref (ad 24), .int x1, .int x2]) ++ List.replicate (4 - (lg_sl ([.ref (ad 24), .int x1, .int x2])).length) Slot.unset).toArray = ls at hl ⊢
  have hl : lv_has ls 4 [(0, .ref (ad 24)), (1, .int x1), (2, .int x2)] := hl
  refine lv_iload_n hx hb dc_R_clone_0 rfl (lv_at hl 1 rfl) ?_
  refine w_cSi (y := yn_R_isMap) (index := 24) (n := 1) (own := Rn_R) hx hb hml hown hts hK hN hP hS (ct_R_isMap l D ad cA w hJ x1 st _ h) mw_140 mw_141 mw_142 mw_143 (by decide +kernel) ⟨Nat.le_of_ble_eq_true rfl, Nat.le_of_ble_eq_true rfl⟩ rfl rfl rfl hl.1 rfl (lv_room (Nat.le_of_ble_eq_true rfl)) dc_R_clone_1 ⟨Nat.zero_le _, Nat.zero_le _⟩ (fun r102 st101 H locs hP hS h => ?_)
  refine lv_if_eq (tgt := 19) hx hb dc_R_clone_4 (by decide) (fun c => ?_) (fun c => ?_)
  · have h := h.1 c
    refine lv_iconst (v := (-1)) hx hb dc_R_clone_19 (by decide) ?_
    exact w_iret hx hb hr hlocks hP hS h dc_R_clone_20
  · have h := h.2 c
    refine lv_iload_n hx hb dc_R_clone_7 rfl (lv_at hl 2 rfl) ?_
    refine w_cSi (y := yn_R_isMap) (index := 24) (n := 1) (own := Rn_R) hx hb hml hown hts hK hN hP hS (ct_R_isMap l D ad cA w hJ x2 st101 _ h) mw_140 mw_141 mw_142 mw_143 (by decide +kernel) ⟨Nat.le_of_ble_eq_true rfl, Nat.le_of_ble_eq_true rfl⟩ rfl rfl rfl hl.1 rfl (lv_room (Nat.le_of_ble_eq_true rfl)) dc_R_clone_8 ⟨Nat.zero_le _, Nat.zero_le _⟩ (fun r104 st103 H locs hP hS h => ?_)
    refine lv_if_eq (tgt := 19) hx hb dc_R_clone_11 (by decide) (fun c => ?_) (fun c => ?_)
    · have h := h.1 c
      refine lv_iconst (v := (-1)) hx hb dc_R_clone_19 (by decide) ?_
      exact w_iret hx hb hr hlocks hP hS h dc_R_clone_20
    · have h := h.2 c
      refine lv_iload_n hx hb dc_R_clone_14 rfl (lv_at hl 1 rfl) ?_
      refine lv_iload_n hx hb dc_R_clone_15 rfl (lv_at hl 2 rfl) ?_
      refine lv_icmp_ne (tgt := 21) hx hb dc_R_clone_16 (by decide) (fun c => ?_) (fun c => ?_)
      · have h := h.1 c
        refine lv_aload_n hx hb dc_R_clone_21 rfl (lv_at hl 0 rfl) ?_
        refine w_cVi (y := yn_R_all) (C := Rn_R) (index := 34) (n := 0) (own := Rn_R) 24 hx hb hml hown hts hK hN hP hS (ct_R_all l D ad cA w hJ st103 _ h) mw_153 mw_154 mw_155 mw_156 mw_143 (by decide +kernel) ⟨Nat.le_of_ble_eq_true rfl, Nat.le_of_ble_eq_true rfl⟩ rfl rfl rfl rfl rfl hl.1 rfl (lv_room (Nat.le_of_ble_eq_true rfl)) dc_R_clone_22 ⟨Nat.zero_le _, Nat.zero_le _⟩ (fun r106 st105 H locs hP hS h => ?_)
        refine lv_aload_n hx hb dc_R_clone_25 rfl (lv_at hl 0 rfl) ?_
        refine va_get (D := D) (ci := 5) (v := .ref (ad 16)) (C := Rn_R) (T := Fn_R) (N := 4) hx hb hts in_R hown hK hP 24 rfl rfl 2 (by decide) (hts _ mw_152) (fun _ h9 => h9) rfl dc_R_clone_26 ?_
        refine lv_iload_n hx hb dc_R_clone_29 rfl (lv_at hl 1 rfl) ?_
        refine w_ild 16 (by decide) hx hb hK hP h.1 dc_R_clone_30 ?_
        have h := h.2
        refine lv_isub hx hb dc_R_clone_31 ?_
        refine lv_aload_n hx hb dc_R_clone_32 rfl (lv_at hl 0 rfl) ?_
        refine va_get (D := D) (ci := 5) (v := .ref (ad 16)) (C := Rn_R) (T := Fn_R) (N := 4) hx hb hts in_R hown hK hP 24 rfl rfl 2 (by decide) (hts _ mw_152) (fun _ h9 => h9) rfl dc_R_clone_33 ?_
        refine lv_iload_n hx hb dc_R_clone_36 rfl (lv_at hl 2 rfl) ?_
        refine w_ild 16 (by decide) hx hb hK hP h.1 dc_R_clone_37 ?_
        have h := h.2
        refine lv_iadd hx hb dc_R_clone_38 ?_
        refine lv_sipush (v := 600) hx hb dc_R_clone_39 (by decide) ?_
        refine lv_icmp_le (tgt := 48) hx hb dc_R_clone_42 (by decide) (fun c => ?_) (fun c => ?_)
        · have h := h.1 c
          refine lv_iconst (v := 0) hx hb dc_R_clone_48 (by decide) ?_
          refine lv_istore_n (lv' := [(3, .int 0), (0, .ref (ad 24)), (1, .int x1), (2, .int x2)]) hx hb dc_R_clone_49 rfl hl (by decide) rfl (fun ls hl => ?_)
          obtain ⟨n, h⟩ := h
          exact Lp_50 n x1 x2 0 st105 h _ _ hP hS ls (lv_sub hl [1, 2, 3, 0] rfl)
        · have h := h.2 c
          refine lv_bipush (v := (-3)) hx hb dc_R_clone_45 (by decide) ?_
          exact w_iret hx hb hr hlocks hP hS h dc_R_clone_47
      · have h := h.2 c
        refine lv_iconst (v := (-1)) hx hb dc_R_clone_19 (by decide) ?_
        exact w_iret hx hb hr hlocks hP hS h dc_R_clone_20
end
section
set_option maxHeartbeats 4000000 in
set_option maxRecDepth 100000 in
theorem ct_S_drop (l : Launch) (D : va_G) (ad : Nat → Nat) (cA : Nat → ClassId) (w : Nat) (hJ : Jn_ ad) (x1 : Int32) (st : St_) (post : Int32 → St_ → Prop) (h : wp_S_drop w x1 st post) : Met l yn_S_drop (Cond.code yn_S_drop bc_S_drop 3 (some .int) :: Wk_) rm_S_drop (Pw_ D ad cA w st [.ref (ad 18), .int x1]) (Qi_ D ad cA w post) 0 0 (Aw_ ad) := by
  refine Met.ofW (cc := bc_S_drop) (maxL := 3) (ret := (some .int)) (by decide) rfl ?_
  intro p e s m args below meth c s₁ B hml hv
  obtain ⟨rfl, hP, hK, hN⟩ := hv
  have hx := B.exec
  have hb := B.bytes
  have hr := B.returns
  have hts : ∀ v ∈ Wk_, v.before [.ref (ad 18), .int x1].toArray s = true := fun v hv => atoms_spec (ws := Cond.code yn_S_drop bc_S_drop 3 (some .int) :: Wk_) B.pre v (List.mem_cons_of_mem _ hv)
  have hown : s.vm.findClass Rn_S = some m.cls := findClass_of_methodNamed B.named
  have hlocks := B.notSynchronized
  have hS : va_S (Aw_ ad) s.heap s.heap [] := va_S.rf
  have hl := lv_entry ([.ref (ad 18), .int x1]) (n := 3) (Nat.le_of_ble_eq_true rfl)
  rw [lg_entry_eq]
  generalize (lg_sl ([.ref (ad 18), .int x1]) ++ List.replicate (3 - (lg_sl ([.ref (ad 18), .int x1])).length) Slot.unset).toArray = ls at hl ⊢
  have hl : lv_has ls 3 [(0, .ref (ad 18)), (1, .int x1)] := hl
  refine lv_iload_n hx hb dc_S_drop_0 rfl (lv_at hl 1 rfl) ?_
  refine w_cSi (y := yn_S_isMap) (index := 53) (n := 1) (own := Rn_S) hx hb hml hown hts hK hN hP hS (ct_S_isMap l D ad cA w hJ x1 st _ h) mw_0 mw_1 mw_2 mw_3 (by decide +kernel) ⟨Nat.le_of_ble_eq_true rfl, Nat.le_of_ble_eq_true rfl⟩ rfl rfl rfl hl.1 rfl (lv_room (Nat.le_of_ble_eq_true rfl)) dc_S_drop_1 ⟨Nat.zero_le _, Nat.zero_le _⟩ (fun r102 st101 H locs hP hS h => ?_)
  refine lv_if_ne (tgt := 9) hx hb dc_S_drop_4 (by decide) (fun c => ?_) (fun c => ?_)
  · have h := h.1 c
    refine lv_aload_n hx hb dc_S_drop_9 rfl (lv_at hl 0 rfl) ?_
    refine va_get (D := D) (ci := 0) (v := .ref (ad 22)) (C := Rn_S) (T := Fn_S) (N := 5) hx hb hts in_S hown hK hP 18 rfl rfl 3 (by decide) (hts _ mw_12) (fun _ h9 => h9) rfl dc_S_drop_10 ?_
    refine va_getN (D := D) (ci := 4) (v := .ref (ad 11)) (C := Rn_P) (T := Fn_P) (N := 3) (host := nh_) hx hb hts in_P hown hK hP 22 rfl rfl 1 (by decide) (va_Nw.use rfl (hN.1 _ nf_1)) (fun _ h9 => h9) rfl dc_S_drop_13 ?_
    refine lv_iload_n hx hb dc_S_drop_16 rfl (lv_at hl 1 rfl) ?_
    refine w_ild 11 (by decide) hx hb hK hP h.1 dc_S_drop_17 ?_
    have h := h.2
    refine lv_topi (fun x103 ex103 => ?_)
    have h := h x103 ex103
    refine lv_istore_n (lv' := [(2, .int x103), (0, .ref (ad 18)), (1, .int x1)]) hx hb dc_S_drop_18 rfl hl (by decide) rfl (fun ls hl => ?_)
    refine lv_aload_n hx hb dc_S_drop_19 rfl (lv_at hl 1 rfl) ?_
    refine lv_aload_n hx hb dc_S_drop_20 rfl (lv_at hl 1 rfl) ?_
    refine va_get (D := D) (ci := 0) (v := .ref (ad 22)) (C := Rn_S) (T := Fn_S) (N := 5) hx hb hts in_S hown hK hP 18 rfl rfl 3 (by decide) (hts _ mw_12) (fun _ h9 => h9) rfl dc_S_drop_21 ?_
    refine lv_iload_n hx hb dc_S_drop_24 rfl (lv_at hl 2 rfl) ?_
    refine lv_iconst (v := 0) hx hb dc_S_drop_25 (by decide) ?_
    refine lv_iconst (v := 0) hx hb dc_S_drop_26 (by decide) ?_
    refine w_cVv (y := yn_S_lead) (C := Rn_S) (index := 91) (n := 4) (own := Rn_S) 18 hx hb hml hown hts hK hN hP hS (ct_S_lead_22 l D ad cA w hJ x1 0 0 st101 _ h) mw_231 mw_232 mw_233 mw_234 mw_3 (by decide +kernel) ⟨Nat.le_of_ble_eq_true rfl, Nat.le_of_ble_eq_true rfl⟩ rfl rfl rfl rfl rfl hl.1 rfl (lv_room (Nat.le_of_ble_eq_true rfl)) dc_S_drop_27 ⟨Nat.zero_le _, Nat.zero_le _⟩ (fun st104 H locs hP hS h => ?_)
    refine lv_iload_n hx hb dc_S_drop_30 rfl (lv_at hl 0 rfl) ?_
    exact w_iret hx hb hr hlocks hP hS h dc_S_drop_31
  · have h := h.2 c
    refine lv_iconst (v := (-1)) hx hb dc_S_drop_7 (by decide) ?_
    exact w_iret hx hb hr hlocks hP hS h dc_S_drop_8
end
section
set_option maxHeartbeats 4000000 in
set_option maxRecDepth 100000 in
theorem ct_R_drop (l : Launch) (D : va_G) (ad : Nat → Nat) (cA : Nat → ClassId) (w : Nat) (hJ : Jn_ ad) (x1 : Int32) (st : St_) (post : Int32 → St_ → Prop) (h : wp_R_drop w x1 st post) : Met l yn_R_drop (Cond.code yn_R_drop bc_R_drop 3 (some .int) :: Wk_) rm_R_drop (Pw_ D ad cA w st [.ref (ad 24), .int x1]) (Qi_ D ad cA w post) 0 0 (Aw_ ad) := by
  refine Met.ofW (cc := bc_R_drop) (maxL := 3) (ret := (some .int)) (by decide) rfl ?_
  intro p e s m args below meth c s₁ B hml hv
  obtain ⟨rfl, hP, hK, hN⟩ := hv
  have hx := B.exec
  have hb := B.bytes
  have hr := B.returns
  have hts : ∀ v ∈ Wk_, v.before [.ref (ad 24), .int x1].toArray s = true := fun v hv => atoms_spec (ws := Cond.code yn_R_drop bc_R_drop 3 (some .int) :: Wk_) B.pre v (List.mem_cons_of_mem _ hv)
  have hown : s.vm.findClass Rn_R = some m.cls := findClass_of_methodNamed B.named
  have hlocks := B.notSynchronized
  have hS : va_S (Aw_ ad) s.heap s.heap [] := va_S.rf
  have hl := lv_entry ([.ref (ad 24), .int x1]) (n := 3) (Nat.le_of_ble_eq_true rfl)
  rw [lg_entry_eq]
  generalize (lg_sl ([.ref (ad 24), .int x1]) ++ List.replicate (3 - (lg_sl ([.ref (ad 24), .int x1])).length) Slot.unset).toArray = ls at hl ⊢
  have hl : lv_has ls 3 [(0, .ref (ad 24)), (1, .int x1)] := hl
  refine lv_iload_n hx hb dc_R_drop_0 rfl (lv_at hl 1 rfl) ?_
  refine w_cSi (y := yn_R_isMap) (index := 24) (n := 1) (own := Rn_R) hx hb hml hown hts hK hN hP hS (ct_R_isMap l D ad cA w hJ x1 st _ h) mw_140 mw_141 mw_142 mw_143 (by decide +kernel) ⟨Nat.le_of_ble_eq_true rfl, Nat.le_of_ble_eq_true rfl⟩ rfl rfl rfl hl.1 rfl (lv_room (Nat.le_of_ble_eq_true rfl)) dc_R_drop_1 ⟨Nat.zero_le _, Nat.zero_le _⟩ (fun r102 st101 H locs hP hS h => ?_)
  refine lv_if_ne (tgt := 9) hx hb dc_R_drop_4 (by decide) (fun c => ?_) (fun c => ?_)
  · have h := h.1 c
    refine lv_aload_n hx hb dc_R_drop_9 rfl (lv_at hl 0 rfl) ?_
    refine va_get (D := D) (ci := 5) (v := .ref (ad 16)) (C := Rn_R) (T := Fn_R) (N := 4) hx hb hts in_R hown hK hP 24 rfl rfl 2 (by decide) (hts _ mw_152) (fun _ h9 => h9) rfl dc_R_drop_10 ?_
    refine lv_iload_n hx hb dc_R_drop_13 rfl (lv_at hl 1 rfl) ?_
    refine w_ild 16 (by decide) hx hb hK hP h.1 dc_R_drop_14 ?_
    have h := h.2
    refine lv_topi (fun x103 ex103 => ?_)
    have h := h x103 ex103
    refine lv_istore_n (lv' := [(2, .int x103), (0, .ref (ad 24)), (1, .int x1)]) hx hb dc_R_drop_15 rfl hl (by decide) rfl (fun ls hl => ?_)
    refine lv_aload_n hx hb dc_R_drop_16 rfl (lv_at hl 1 rfl) ?_
    refine lv_iload_n hx hb dc_R_drop_17 rfl (lv_at hl 2 rfl) ?_
    refine lv_iconst (v := 0) hx hb dc_R_drop_18 (by decide) ?_
    refine lv_sipush (v := 4095) hx hb dc_R_drop_19 (by decide) ?_
    refine w_cVi (y := yn_R_cut) (C := Rn_R) (index := 49) (n := 3) (own := Rn_R) 24 hx hb hml hown hts hK hN hP hS (ct_R_cut l D ad cA w hJ x1 0 4095 st101 _ h) mw_217 mw_238 mw_239 mw_240 mw_143 (by decide +kernel) ⟨Nat.le_of_ble_eq_true rfl, Nat.le_of_ble_eq_true rfl⟩ rfl rfl rfl rfl rfl hl.1 rfl (lv_room (Nat.le_of_ble_eq_true rfl)) dc_R_drop_22 ⟨Nat.zero_le _, Nat.zero_le _⟩ (fun r105 st104 H locs hP hS h => ?_)
    refine lv_pop hx hb dc_R_drop_25 rfl ?_
    refine lv_iload_n hx hb dc_R_drop_26 rfl (lv_at hl 0 rfl) ?_
    exact w_iret hx hb hr hlocks hP hS h dc_R_drop_27
  · have h := h.2 c
    refine lv_iconst (v := (-1)) hx hb dc_R_drop_7 (by decide) ?_
    exact w_iret hx hb hr hlocks hP hS h dc_R_drop_8
end
section
set_option maxHeartbeats 4000000 in
set_option maxRecDepth 100000 in
theorem ct_S_lead_23 (l : Launch) (D : va_G) (ad : Nat → Nat) (cA : Nat → ClassId) (w : Nat) (hJ : Jn_ ad) (x2 : Int32) (x3 : Int32) (x4 : Int32) (st : St_) (post : St_ → Prop) (h : wp_S_lead_23 w x2 x3 x4 st post) : Met l yn_S_lead (Cond.code yn_S_lead bc_S_lead 5 none :: Wk_) rm_S_lead_23 (Pw_ D ad cA w st [.ref (ad 18), .ref (ad 23), .int x2, .int x3, .int x4]) (Qv_ D ad cA w post) 0 0 (Aw_ ad) := by
  refine Met.ofW (cc := bc_S_lead) (maxL := 5) (ret := none) (by decide) rfl ?_
  intro p e s m args below meth c s₁ B hml hv
  obtain ⟨rfl, hP, hK, hN⟩ := hv
  have hx := B.exec
  have hb := B.bytes
  have hr := B.returns
  have hts : ∀ v ∈ Wk_, v.before [.ref (ad 18), .ref (ad 23), .int x2, .int x3, .int x4].toArray s = true := fun v hv => atoms_spec (ws := Cond.code yn_S_lead bc_S_lead 5 none :: Wk_) B.pre v (List.mem_cons_of_mem _ hv)
  have hown : s.vm.findClass Rn_S = some m.cls := findClass_of_methodNamed B.named
  have hlocks := B.notSynchronized
  have hS : va_S (Aw_ ad) s.heap s.heap [] := va_S.rf
  have hl := lv_entry ([.ref (ad 18), .ref (ad 23), .int x2, .int x3, .int x4]) (n := 5) (Nat.le_of_ble_eq_true rfl)
  rw [lg_entry_eq]
  generalize (lg_sl ([.ref (ad 18), .ref (ad 23), .int x2, .int x3, .int x4]) ++ List.replicate (5 - (lg_sl ([.ref (ad 18), .ref (ad 23), .int x2, .int x3, .int x4])).length) Slot.unset).toArray = ls at hl ⊢
  have hl : lv_has ls 5 [(0, .ref (ad 18)), (1, .ref (ad 23)), (2, .int x2), (3, .int x3), (4, .int x4)] := hl
  refine lv_aload_n hx hb dc_S_lead_0 rfl (lv_at hl 0 rfl) ?_
  refine va_get (D := D) (ci := 0) (v := .ref (ad 19)) (C := Rn_S) (T := Fn_S) (N := 5) hx hb hts in_S hown hK hP 18 rfl rfl 0 (by decide) (hts _ mw_220) (fun _ h9 => h9) rfl dc_S_lead_1 ?_
  refine lv_iload_n hx hb dc_S_lead_4 rfl (lv_at hl 3 rfl) ?_
  refine w_cVv (y := yn_B_share) (C := Rn_B) (index := 107) (n := 1) (own := Rn_S) 19 hx hb hml hown hts hK hN hP hS (ct_B_share l D ad cA w hJ x3 st _ h) mw_90 mw_221 mw_92 mw_93 mw_18 (by decide +kernel) ⟨Nat.le_of_ble_eq_true rfl, Nat.le_of_ble_eq_true rfl⟩ rfl rfl rfl rfl rfl hl.1 rfl (lv_room (Nat.le_of_ble_eq_true rfl)) dc_S_lead_5 ⟨Nat.zero_le _, Nat.zero_le _⟩ (fun st101 H locs hP hS h => ?_)
  refine lv_aload_n hx hb dc_S_lead_8 rfl (lv_at hl 0 rfl) ?_
  refine va_get (D := D) (ci := 0) (v := .ref (ad 20)) (C := Rn_S) (T := Fn_S) (N := 5) hx hb hts in_S hown hK hP 18 rfl rfl 1 (by decide) (hts _ mw_11) (fun _ h9 => h9) rfl dc_S_lead_9 ?_
  refine lv_aload_n hx hb dc_S_lead_12 rfl (lv_at hl 1 rfl) ?_
  refine va_getN (D := D) (ci := 4) (v := .ref (ad 12)) (C := Rn_P) (T := Fn_P) (N := 3) (host := nh_) hx hb hts in_P hown hK hP 23 rfl rfl 0 (by decide) (va_Nw.use rfl (hN.1 _ nf_0)) (fun _ h9 => h9) rfl dc_S_lead_13 ?_
  refine lv_iload_n hx hb dc_S_lead_16 rfl (lv_at hl 2 rfl) ?_
  refine w_ild 12 (by decide) hx hb hK hP h.1 dc_S_lead_17 ?_
  have h := h.2
  refine w_cVv (y := yn_T_release) (C := Rn_T) (index := 110) (n := 1) (own := Rn_S) 20 hx hb hml hown hts hK hN hP hS (ct_T_release l D ad cA w hJ (st101 12 (x2).toNatClampNeg) st101 _ h) mw_227 mw_228 mw_229 mw_230 mw_59 (by decide +kernel) ⟨Nat.le_of_ble_eq_true rfl, Nat.le_of_ble_eq_true rfl⟩ rfl rfl rfl rfl rfl hl.1 rfl (lv_room (Nat.le_of_ble_eq_true rfl)) dc_S_lead_18 ⟨Nat.zero_le _, Nat.zero_le _⟩ (fun st102 H locs hP hS h => ?_)
  refine lv_aload_n hx hb dc_S_lead_21 rfl (lv_at hl 1 rfl) ?_
  refine va_getN (D := D) (ci := 4) (v := .ref (ad 12)) (C := Rn_P) (T := Fn_P) (N := 3) (host := nh_) hx hb hts in_P hown hK hP 23 rfl rfl 0 (by decide) (va_Nw.use rfl (hN.1 _ nf_0)) (fun _ h9 => h9) rfl dc_S_lead_22 ?_
  refine lv_iload_n hx hb dc_S_lead_25 rfl (lv_at hl 2 rfl) ?_
  refine lv_iload_n hx hb dc_S_lead_26 rfl (lv_at hl 3 rfl) ?_
  refine w_ist 12 (by decide) hJ hx hb hK hP hS h.1 dc_S_lead_27 (fun H locs hP hS => ?_)
  obtain ⟨st103, est103⟩ : ∃ z : St_, z = ws_1 st102 12 (x2).toNatClampNeg x3 := ⟨_, rfl⟩
  rw [← est103] at hP
  have h := h.2 st103 est103
  refine lv_aload_n hx hb dc_S_lead_28 rfl (lv_at hl 1 rfl) ?_
  refine lv_dup hx hb dc_S_lead_29 rfl ?_
  refine va_getN (D := D) (ci := 4) (v := .int (st103 20 0)) (C := Rn_P) (T := Fn_P) (N := 3) (host := nh_) hx hb hts in_P hown hK hP 23 rfl rfl 2 (by decide) (va_Nw.use rfl (hN.1 _ nf_2)) (fun _ h9 => h9) rfl dc_S_lead_30 ?_
  refine lv_iload hx hb dc_S_lead_33 (lv_at hl 4 rfl) ?_
  refine lv_aload_n hx hb dc_S_lead_35 rfl (lv_at hl 1 rfl) ?_
  refine va_getN (D := D) (ci := 4) (v := .ref (ad 13)) (C := Rn_P) (T := Fn_P) (N := 3) (host := nh_) hx hb hts in_P hown hK hP 23 rfl rfl 1 (by decide) (va_Nw.use rfl (hN.1 _ nf_1)) (fun _ h9 => h9) rfl dc_S_lead_36 ?_
  refine lv_iload_n hx hb dc_S_lead_39 rfl (lv_at hl 2 rfl) ?_
  refine w_ild 13 (by decide) hx hb hK hP h.1 dc_S_lead_40 ?_
  have h := h.2
  refine lv_isub hx hb dc_S_lead_41 ?_
  refine lv_iadd hx hb dc_S_lead_42 ?_
  refine va_putN (D := D) (ci := 4) (v := .int ((st103 20 0) + (x4 - (st103 13 (x2).toNatClampNeg)))) (ty := .int) (C := Rn_P) (T := Fn_P) (N := 3) (host := nh_) hx hb hts in_P Tn_P to_P nn_P hown hK hP (wd_D hJ) hS 23 rfl rfl 2 (by decide) (va_Nw.use rfl (hN.1 _ nf_2)) (fun _ h9 => h9) rfl (by decide +kernel) rfl rfl (Nat.le_of_ble_eq_true rfl) dc_S_lead_43 (fun H locs hP _ hS => ?_)
  obtain ⟨st104, est104⟩ : ∃ z : St_, z = ws_1 st103 20 0 ((st103 20 0) + (x4 - (st103 13 (x2).toNatClampNeg))) := ⟨_, rfl⟩
  have hP : va_P D sC_ (wd_ ad cA w st104) H := by rw [est104]; exact hP
  have h := h st104 est104
  refine lv_aload_n hx hb dc_S_lead_46 rfl (lv_at hl 1 rfl) ?_
  refine va_getN (D := D) (ci := 4) (v := .ref (ad 13)) (C := Rn_P) (T := Fn_P) (N := 3) (host := nh_) hx hb hts in_P hown hK hP 23 rfl rfl 1 (by decide) (va_Nw.use rfl (hN.1 _ nf_1)) (fun _ h9 => h9) rfl dc_S_lead_47 ?_
  refine lv_iload_n hx hb dc_S_lead_50 rfl (lv_at hl 2 rfl) ?_
  refine lv_iload hx hb dc_S_lead_51 (lv_at hl 4 rfl) ?_
  refine w_ist 13 (by decide) hJ hx hb hK hP hS h.1 dc_S_lead_53 (fun H locs hP hS => ?_)
  obtain ⟨st105, est105⟩ : ∃ z : St_, z = ws_1 st104 13 (x2).toNatClampNeg x4 := ⟨_, rfl⟩
  rw [← est105] at hP
  have h := h.2 st105 est105
  exact w_vret hx hb hr hlocks hP hS h dc_S_lead_54
end
section
set_option maxHeartbeats 4000000 in
set_option maxRecDepth 100000 in
theorem ct_S_leadAll_23_22 (l : Launch) (D : va_G) (ad : Nat → Nat) (cA : Nat → ClassId) (w : Nat) (hJ : Jn_ ad) (st : St_) (post : St_ → Prop) (h : wp_S_leadAll_23_22 w st post) : Met l yn_S_leadAll (Cond.code yn_S_leadAll bc_S_leadAll 4 none :: Wk_) rm_S_leadAll_23_22 (Pw_ D ad cA w st [.ref (ad 18), .ref (ad 23), .ref (ad 22)]) (Qv_ D ad cA w post) 0 0 (Aw_ ad) := by
  refine Met.ofW (cc := bc_S_leadAll) (maxL := 4) (ret := none) (by decide) rfl ?_
  intro p e s m args below meth c s₁ B hml hv
  obtain ⟨rfl, hP, hK, hN⟩ := hv
  have hx := B.exec
  have hb := B.bytes
  have hr := B.returns
  have hts : ∀ v ∈ Wk_, v.before [.ref (ad 18), .ref (ad 23), .ref (ad 22)].toArray s = true := fun v hv => atoms_spec (ws := Cond.code yn_S_leadAll bc_S_leadAll 4 none :: Wk_) B.pre v (List.mem_cons_of_mem _ hv)
  have hown : s.vm.findClass Rn_S = some m.cls := findClass_of_methodNamed B.named
  have hlocks := B.notSynchronized
  have hS : va_S (Aw_ ad) s.heap s.heap [] := va_S.rf
  have Lp_2 : ∀ (n : Nat) (y3 : Int32) (st : St_), wp_S_leadAll_23_22_2 w post n y3 st → ∀ (H : Heap) (locs : List Loc), va_P D sC_ (wd_ ad cA w st) H → va_S (Aw_ ad) s.heap H locs → ∀ ls : Array Slot, lv_has ls 4 [(0, .ref (ad 18)), (1, .ref (ad 23)), (2, .ref (ad 22)), (3, .int y3)] → W p l e (headSpec (Cond.code yn_S_leadAll bc_S_leadAll 4 none :: Wk_) rm_S_leadAll_23_22).room s m [.ref (ad 18), .ref (ad 23), .ref (ad 22)].toArray below meth c H locs 0 0 (MQ below (Qv_ D ad cA w post) [.ref (ad 18), .ref (ad 23), .ref (ad 22)].toArray s 0 0 (Aw_ ad)) (F0 m 2 ls []) := by
    intro n
    induction n with
    | zero => intro y3 st h; exact h.elim
    | succ n ih =>
      intro y3 st h H locs hP hS ls hl
      refine lv_iload_n hx hb dc_S_leadAll_2 rfl (lv_at hl 3 rfl) ?_
      refine lv_bipush (v := 8) hx hb dc_S_leadAll_3 (by decide) ?_
      refine lv_icmp_ge (tgt := 32) hx hb dc_S_leadAll_5 (by decide) (fun c => ?_) (fun c => ?_)
      · have h := h.1 c
        exact w_vret hx hb hr hlocks hP hS h dc_S_leadAll_32
      · have h := h.2 c
        refine lv_aload_n hx hb dc_S_leadAll_8 rfl (lv_at hl 0 rfl) ?_
        refine lv_aload_n hx hb dc_S_leadAll_9 rfl (lv_at hl 1 rfl) ?_
        refine lv_iload_n hx hb dc_S_leadAll_10 rfl (lv_at hl 3 rfl) ?_
        refine lv_aload_n hx hb dc_S_leadAll_11 rfl (lv_at hl 2 rfl) ?_
        refine va_getN (D := D) (ci := 4) (v := .ref (ad 10)) (C := Rn_P) (T := Fn_P) (N := 3) (host := nh_) hx hb hts in_P hown hK hP 22 rfl rfl 0 (by decide) (va_Nw.use rfl (hN.1 _ nf_0)) (fun _ h9 => h9) rfl dc_S_leadAll_12 ?_
        refine lv_iload_n hx hb dc_S_leadAll_15 rfl (lv_at hl 3 rfl) ?_
        refine w_ild 10 (by decide) hx hb hK hP h.1 dc_S_leadAll_16 ?_
        have h := h.2
        refine lv_aload_n hx hb dc_S_leadAll_17 rfl (lv_at hl 2 rfl) ?_
        refine va_getN (D := D) (ci := 4) (v := .ref (ad 11)) (C := Rn_P) (T := Fn_P) (N := 3) (host := nh_) hx hb hts in_P hown hK hP 22 rfl rfl 1 (by decide) (va_Nw.use rfl (hN.1 _ nf_1)) (fun _ h9 => h9) rfl dc_S_leadAll_18 ?_
        refine lv_iload_n hx hb dc_S_leadAll_21 rfl (lv_at hl 3 rfl) ?_
        refine w_ild 11 (by decide) hx hb hK hP h.1 dc_S_leadAll_22 ?_
        have h := h.2
        refine w_cVv (y := yn_S_lead) (C := Rn_S) (index := 91) (n := 4) (own := Rn_S) 18 hx hb hml hown hts hK hN hP hS (ct_S_lead_23 l D ad cA w hJ y3 (st 10 (y3).toNatClampNeg) (st 11 (y3).toNatClampNeg) st _ h) mw_231 mw_232 mw_233 mw_234 mw_3 (by decide +kernel) ⟨Nat.le_of_ble_eq_true rfl, Nat.le_of_ble_eq_true rfl⟩ rfl rfl rfl rfl rfl hl.1 rfl (lv_room (Nat.le_of_ble_eq_true rfl)) dc_S_leadAll_23 ⟨Nat.zero_le _, Nat.zero_le _⟩ (fun st101 H locs hP hS h => ?_)
        obtain ⟨x102, ex102⟩ : ∃ y : Int32, y = y3 + 1 := ⟨_, rfl⟩
        have h := h x102 ex102
        refine lv_iinc (v := x102) (lv' := [(3, .int x102), (0, .ref (ad 18)), (1, .ref (ad 23)), (2, .ref (ad 22))]) hx hb dc_S_leadAll_26 hl (k := 3) rfl (by rw [ex102]; rfl) (by decide) rfl (fun ls hl => ?_)
        refine lv_goto (tgt := 2) hx hb dc_S_leadAll_29 (by decide) ?_
        exact ih x102 st101 h _ _ hP hS ls (lv_sub hl [1, 2, 3, 0] rfl)
  have hl := lv_entry ([.ref (ad 18), .ref (ad 23), .ref (ad 22)]) (n := 4) (Nat.le_of_ble_eq_true rfl)
  rw [lg_entry_eq]
  generalize (lg_sl ([.ref (ad 18), .ref (ad 23), .ref (ad 22)]) ++ List.replicate (4 - (lg_sl ([.ref (ad 18), .ref (ad 23), .ref (ad 22)])).length) Slot.unset).toArray = ls at hl ⊢
  have hl : lv_has ls 4 [(0, .ref (ad 18)), (1, .ref (ad 23)), (2, .ref (ad 22))] := hl
  refine lv_iconst (v := 0) hx hb dc_S_leadAll_0 (by decide) ?_
  refine lv_istore_n (lv' := [(3, .int 0), (0, .ref (ad 18)), (1, .ref (ad 23)), (2, .ref (ad 22))]) hx hb dc_S_leadAll_1 rfl hl (by decide) rfl (fun ls hl => ?_)
  obtain ⟨n, h⟩ := h
  exact Lp_2 n 0 st h _ _ hP hS ls (lv_sub hl [1, 2, 3, 0] rfl)
end
section
set_option maxHeartbeats 4000000 in
set_option maxRecDepth 100000 in
theorem ct_S_keep (l : Launch) (D : va_G) (ad : Nat → Nat) (cA : Nat → ClassId) (w : Nat) (hJ : Jn_ ad) (st : St_) (post : Int32 → St_ → Prop) (h : wp_S_keep w st post) : Met l yn_S_keep (Cond.code yn_S_keep bc_S_keep 1 (some .int) :: Wk_) rm_S_keep (Pw_ D ad cA w st [.ref (ad 18)]) (Qi_ D ad cA w post) 0 0 (Aw_ ad) := by
  refine Met.ofW (cc := bc_S_keep) (maxL := 1) (ret := (some .int)) (by decide) rfl ?_
  intro p e s m args below meth c s₁ B hml hv
  obtain ⟨rfl, hP, hK, hN⟩ := hv
  have hx := B.exec
  have hb := B.bytes
  have hr := B.returns
  have hts : ∀ v ∈ Wk_, v.before [.ref (ad 18)].toArray s = true := fun v hv => atoms_spec (ws := Cond.code yn_S_keep bc_S_keep 1 (some .int) :: Wk_) B.pre v (List.mem_cons_of_mem _ hv)
  have hown : s.vm.findClass Rn_S = some m.cls := findClass_of_methodNamed B.named
  have hlocks := B.notSynchronized
  have hS : va_S (Aw_ ad) s.heap s.heap [] := va_S.rf
  have hl := lv_entry ([.ref (ad 18)]) (n := 1) (Nat.le_of_ble_eq_true rfl)
  rw [lg_entry_eq]
  generalize (lg_sl ([.ref (ad 18)]) ++ List.replicate (1 - (lg_sl ([.ref (ad 18)])).length) Slot.unset).toArray = ls at hl ⊢
  have hl : lv_has ls 1 [(0, .ref (ad 18))] := hl
  refine lv_aload_n hx hb dc_S_keep_0 rfl (lv_at hl 0 rfl) ?_
  refine lv_aload_n hx hb dc_S_keep_1 rfl (lv_at hl 0 rfl) ?_
  refine va_get (D := D) (ci := 0) (v := .ref (ad 23)) (C := Rn_S) (T := Fn_S) (N := 5) hx hb hts in_S hown hK hP 18 rfl rfl 4 (by decide) (hts _ mw_242) (fun _ h9 => h9) rfl dc_S_keep_2 ?_
  refine lv_aload_n hx hb dc_S_keep_5 rfl (lv_at hl 0 rfl) ?_
  refine va_get (D := D) (ci := 0) (v := .ref (ad 22)) (C := Rn_S) (T := Fn_S) (N := 5) hx hb hts in_S hown hK hP 18 rfl rfl 3 (by decide) (hts _ mw_12) (fun _ h9 => h9) rfl dc_S_keep_6 ?_
  refine w_cVv (y := yn_S_leadAll) (C := Rn_S) (index := 95) (n := 2) (own := Rn_S) 18 hx hb hml hown hts hK hN hP hS (ct_S_leadAll_23_22 l D ad cA w hJ st _ h) mw_243 mw_244 mw_245 mw_246 mw_3 (by decide +kernel) ⟨Nat.le_of_ble_eq_true rfl, Nat.le_of_ble_eq_true rfl⟩ rfl rfl rfl rfl rfl hl.1 rfl (lv_room (Nat.le_of_ble_eq_true rfl)) dc_S_keep_9 ⟨Nat.zero_le _, Nat.zero_le _⟩ (fun st101 H locs hP hS h => ?_)
  refine lv_aload_n hx hb dc_S_keep_12 rfl (lv_at hl 0 rfl) ?_
  refine va_get (D := D) (ci := 0) (v := .ref (ad 22)) (C := Rn_S) (T := Fn_S) (N := 5) hx hb hts in_S hown hK hP 18 rfl rfl 3 (by decide) (hts _ mw_12) (fun _ h9 => h9) rfl dc_S_keep_13 ?_
  refine va_getN (D := D) (ci := 4) (v := .int (st101 19 0)) (C := Rn_P) (T := Fn_P) (N := 3) (host := nh_) hx hb hts in_P hown hK hP 22 rfl rfl 2 (by decide) (va_Nw.use rfl (hN.1 _ nf_2)) (fun _ h9 => h9) rfl dc_S_keep_16 ?_
  exact w_iret hx hb hr hlocks hP hS h dc_S_keep_19
end
section
set_option maxHeartbeats 4000000 in
set_option maxRecDepth 100000 in
theorem ct_R_keep (l : Launch) (D : va_G) (ad : Nat → Nat) (cA : Nat → ClassId) (w : Nat) (hJ : Jn_ ad) (st : St_) (post : Int32 → St_ → Prop) (h : wp_R_keep w st post) : Met l yn_R_keep (Cond.code yn_R_keep bc_R_keep 2 (some .int) :: Wk_) rm_R_keep (Pw_ D ad cA w st [.ref (ad 24)]) (Qi_ D ad cA w post) 0 0 (Aw_ ad) := by
  refine Met.ofW (cc := bc_R_keep) (maxL := 2) (ret := (some .int)) (by decide) rfl ?_
  intro p e s m args below meth c s₁ B hml hv
  obtain ⟨rfl, hP, hK, hN⟩ := hv
  have hx := B.exec
  have hb := B.bytes
  have hr := B.returns
  have hts : ∀ v ∈ Wk_, v.before [.ref (ad 24)].toArray s = true := fun v hv => atoms_spec (ws := Cond.code yn_R_keep bc_R_keep 2 (some .int) :: Wk_) B.pre v (List.mem_cons_of_mem _ hv)
  have hown : s.vm.findClass Rn_R = some m.cls := findClass_of_methodNamed B.named
  have hlocks := B.notSynchronized
  have hS : va_S (Aw_ ad) s.heap s.heap [] := va_S.rf
  have Lp_28 : ∀ (n : Nat) (y1 : Int32) (st : St_), wp_R_keep_28 w post n y1 st → ∀ (H : Heap) (locs : List Loc), va_P D sC_ (wd_ ad cA w st) H → va_S (Aw_ ad) s.heap H locs → ∀ ls : Array Slot, lv_has ls 2 [(0, .ref (ad 24)), (1, .int y1)] → W p l e (headSpec (Cond.code yn_R_keep bc_R_keep 2 (some .int) :: Wk_) rm_R_keep).room s m [.ref (ad 24)].toArray below meth c H locs 0 0 (MQ below (Qi_ D ad cA w post) [.ref (ad 24)].toArray s 0 0 (Aw_ ad)) (F0 m 28 ls []) := by
    intro n
    induction n with
    | zero => intro y1 st h; exact h.elim
    | succ n ih =>
      intro y1 st h H locs hP hS ls hl
      refine lv_iload_n hx hb dc_R_keep_28 rfl (lv_at hl 1 rfl) ?_
      refine lv_bipush (v := 8) hx hb dc_R_keep_29 (by decide) ?_
      refine lv_icmp_ge (tgt := 52) hx hb dc_R_keep_31 (by decide) (fun c => ?_) (fun c => ?_)
      · have h := h.1 c
        refine lv_aload_n hx hb dc_R_keep_52 rfl (lv_at hl 0 rfl) ?_
        refine w_cVi (y := yn_R_all) (C := Rn_R) (index := 34) (n := 0) (own := Rn_R) 24 hx hb hml hown hts hK hN hP hS (ct_R_all l D ad cA w hJ st _ h) mw_153 mw_154 mw_155 mw_156 mw_143 (by decide +kernel) ⟨Nat.le_of_ble_eq_true rfl, Nat.le_of_ble_eq_true rfl⟩ rfl rfl rfl rfl rfl hl.1 rfl (lv_room (Nat.le_of_ble_eq_true rfl)) dc_R_keep_53 ⟨Nat.zero_le _, Nat.zero_le _⟩ (fun r102 st101 H locs hP hS h => ?_)
        exact w_iret hx hb hr hlocks hP hS h dc_R_keep_56
      · have h := h.2 c
        refine lv_aload_n hx hb dc_R_keep_34 rfl (lv_at hl 0 rfl) ?_
        refine va_get (D := D) (ci := 5) (v := .ref (ad 17)) (C := Rn_R) (T := Fn_R) (N := 4) hx hb hts in_R hown hK hP 24 rfl rfl 3 (by decide) (hts _ mw_249) (fun _ h9 => h9) rfl dc_R_keep_35 ?_
        refine lv_iload_n hx hb dc_R_keep_38 rfl (lv_at hl 1 rfl) ?_
        refine lv_aload_n hx hb dc_R_keep_39 rfl (lv_at hl 0 rfl) ?_
        refine va_get (D := D) (ci := 5) (v := .ref (ad 16)) (C := Rn_R) (T := Fn_R) (N := 4) hx hb hts in_R hown hK hP 24 rfl rfl 2 (by decide) (hts _ mw_152) (fun _ h9 => h9) rfl dc_R_keep_40 ?_
        refine lv_iload_n hx hb dc_R_keep_43 rfl (lv_at hl 1 rfl) ?_
        refine w_ild 16 (by decide) hx hb hK hP h.1 dc_R_keep_44 ?_
        have h := h.2
        refine w_ist 17 (by decide) hJ hx hb hK hP hS h.1 dc_R_keep_45 (fun H locs hP hS => ?_)
        obtain ⟨st103, est103⟩ : ∃ z : St_, z = ws_1 st 17 (y1).toNatClampNeg (st 16 (y1).toNatClampNeg) := ⟨_, rfl⟩
        rw [← est103] at hP
        have h := h.2 st103 est103
        obtain ⟨x104, ex104⟩ : ∃ y : Int32, y = y1 + 1 := ⟨_, rfl⟩
        have h := h x104 ex104
        refine lv_iinc (v := x104) (lv' := [(1, .int x104), (0, .ref (ad 24))]) hx hb dc_R_keep_46 hl (k := 1) rfl (by rw [ex104]; rfl) (by decide) rfl (fun ls hl => ?_)
        refine lv_goto (tgt := 28) hx hb dc_R_keep_49 (by decide) ?_
        exact ih x104 st103 h _ _ hP hS ls (lv_sub hl [1, 0] rfl)
  have Lp_2 : ∀ (n : Nat) (y1 : Int32) (st : St_), wp_R_keep_2 w post n y1 st → ∀ (H : Heap) (locs : List Loc), va_P D sC_ (wd_ ad cA w st) H → va_S (Aw_ ad) s.heap H locs → ∀ ls : Array Slot, lv_has ls 2 [(0, .ref (ad 24)), (1, .int y1)] → W p l e (headSpec (Cond.code yn_R_keep bc_R_keep 2 (some .int) :: Wk_) rm_R_keep).room s m [.ref (ad 24)].toArray below meth c H locs 0 0 (MQ below (Qi_ D ad cA w post) [.ref (ad 24)].toArray s 0 0 (Aw_ ad)) (F0 m 2 ls []) := by
    intro n
    induction n with
    | zero => intro y1 st h; exact h.elim
    | succ n ih =>
      intro y1 st h H locs hP hS ls hl
      refine lv_iload_n hx hb dc_R_keep_2 rfl (lv_at hl 1 rfl) ?_
      refine lv_ldc hx hb hown (hts _ mw_248) dc_R_keep_3 ?_
      refine lv_icmp_ge (tgt := 26) hx hb dc_R_keep_5 (by decide) (fun c => ?_) (fun c => ?_)
      · have h := h.1 c
        refine lv_iconst (v := 0) hx hb dc_R_keep_26 (by decide) ?_
        refine lv_istore_n (lv' := [(1, .int 0), (0, .ref (ad 24))]) hx hb dc_R_keep_27 rfl hl (by decide) rfl (fun ls hl => ?_)
        obtain ⟨n, h⟩ := h
        exact Lp_28 n 0 st h _ _ hP hS ls (lv_sub hl [1, 0] rfl)
      · have h := h.2 c
        refine lv_aload_n hx hb dc_R_keep_8 rfl (lv_at hl 0 rfl) ?_
        refine va_get (D := D) (ci := 5) (v := .ref (ad 15)) (C := Rn_R) (T := Fn_R) (N := 4) hx hb hts in_R hown hK hP 24 rfl rfl 1 (by decide) (hts _ mw_250) (fun _ h9 => h9) rfl dc_R_keep_9 ?_
        refine lv_iload_n hx hb dc_R_keep_12 rfl (lv_at hl 1 rfl) ?_
        refine lv_aload_n hx hb dc_R_keep_13 rfl (lv_at hl 0 rfl) ?_
        refine va_get (D := D) (ci := 5) (v := .ref (ad 14)) (C := Rn_R) (T := Fn_R) (N := 4) hx hb hts in_R hown hK hP 24 rfl rfl 0 (by decide) (hts _ mw_151) (fun _ h9 => h9) rfl dc_R_keep_14 ?_
        refine lv_iload_n hx hb dc_R_keep_17 rfl (lv_at hl 1 rfl) ?_
        refine w_ild 14 (by decide) hx hb hK hP h.1 dc_R_keep_18 ?_
        have h := h.2
        refine w_ist 15 (by decide) hJ hx hb hK hP hS h.1 dc_R_keep_19 (fun H locs hP hS => ?_)
        obtain ⟨st105, est105⟩ : ∃ z : St_, z = ws_1 st 15 (y1).toNatClampNeg (st 14 (y1).toNatClampNeg) := ⟨_, rfl⟩
        rw [← est105] at hP
        have h := h.2 st105 est105
        obtain ⟨x106, ex106⟩ : ∃ y : Int32, y = y1 + 1 := ⟨_, rfl⟩
        have h := h x106 ex106
        refine lv_iinc (v := x106) (lv' := [(1, .int x106), (0, .ref (ad 24))]) hx hb dc_R_keep_20 hl (k := 1) rfl (by rw [ex106]; rfl) (by decide) rfl (fun ls hl => ?_)
        refine lv_goto (tgt := 2) hx hb dc_R_keep_23 (by decide) ?_
        exact ih x106 st105 h _ _ hP hS ls (lv_sub hl [1, 0] rfl)
  have hl := lv_entry ([.ref (ad 24)]) (n := 2) (Nat.le_of_ble_eq_true rfl)
  rw [lg_entry_eq]
  generalize (lg_sl ([.ref (ad 24)]) ++ List.replicate (2 - (lg_sl ([.ref (ad 24)])).length) Slot.unset).toArray = ls at hl ⊢
  have hl : lv_has ls 2 [(0, .ref (ad 24))] := hl
  refine lv_iconst (v := 0) hx hb dc_R_keep_0 (by decide) ?_
  refine lv_istore_n (lv' := [(1, .int 0), (0, .ref (ad 24))]) hx hb dc_R_keep_1 rfl hl (by decide) rfl (fun ls hl => ?_)
  obtain ⟨n, h⟩ := h
  exact Lp_2 n 0 st h _ _ hP hS ls (lv_sub hl [1, 0] rfl)
end
section
set_option maxHeartbeats 4000000 in
set_option maxRecDepth 100000 in
theorem ct_S_leadAll_22_23 (l : Launch) (D : va_G) (ad : Nat → Nat) (cA : Nat → ClassId) (w : Nat) (hJ : Jn_ ad) (st : St_) (post : St_ → Prop) (h : wp_S_leadAll_22_23 w st post) : Met l yn_S_leadAll (Cond.code yn_S_leadAll bc_S_leadAll 4 none :: Wk_) rm_S_leadAll_22_23 (Pw_ D ad cA w st [.ref (ad 18), .ref (ad 22), .ref (ad 23)]) (Qv_ D ad cA w post) 0 0 (Aw_ ad) := by
  refine Met.ofW (cc := bc_S_leadAll) (maxL := 4) (ret := none) (by decide) rfl ?_
  intro p e s m args below meth c s₁ B hml hv
  obtain ⟨rfl, hP, hK, hN⟩ := hv
  have hx := B.exec
  have hb := B.bytes
  have hr := B.returns
  have hts : ∀ v ∈ Wk_, v.before [.ref (ad 18), .ref (ad 22), .ref (ad 23)].toArray s = true := fun v hv => atoms_spec (ws := Cond.code yn_S_leadAll bc_S_leadAll 4 none :: Wk_) B.pre v (List.mem_cons_of_mem _ hv)
  have hown : s.vm.findClass Rn_S = some m.cls := findClass_of_methodNamed B.named
  have hlocks := B.notSynchronized
  have hS : va_S (Aw_ ad) s.heap s.heap [] := va_S.rf
  have Lp_2 : ∀ (n : Nat) (y3 : Int32) (st : St_), wp_S_leadAll_22_23_2 w post n y3 st → ∀ (H : Heap) (locs : List Loc), va_P D sC_ (wd_ ad cA w st) H → va_S (Aw_ ad) s.heap H locs → ∀ ls : Array Slot, lv_has ls 4 [(0, .ref (ad 18)), (1, .ref (ad 22)), (2, .ref (ad 23)), (3, .int y3)] → W p l e (headSpec (Cond.code yn_S_leadAll bc_S_leadAll 4 none :: Wk_) rm_S_leadAll_22_23).room s m [.ref (ad 18), .ref (ad 22), .ref (ad 23)].toArray below meth c H locs 0 0 (MQ below (Qv_ D ad cA w post) [.ref (ad 18), .ref (ad 22), .ref (ad 23)].toArray s 0 0 (Aw_ ad)) (F0 m 2 ls []) := by
    intro n
    induction n with
    | zero => intro y3 st h; exact h.elim
    | succ n ih =>
      intro y3 st h H locs hP hS ls hl
      refine lv_iload_n hx hb dc_S_leadAll_2 rfl (lv_at hl 3 rfl) ?_
      refine lv_bipush (v := 8) hx hb dc_S_leadAll_3 (by decide) ?_
      refine lv_icmp_ge (tgt := 32) hx hb dc_S_leadAll_5 (by decide) (fun c => ?_) (fun c => ?_)
      · have h := h.1 c
        exact w_vret hx hb hr hlocks hP hS h dc_S_leadAll_32
      · have h := h.2 c
        refine lv_aload_n hx hb dc_S_leadAll_8 rfl (lv_at hl 0 rfl) ?_
        refine lv_aload_n hx hb dc_S_leadAll_9 rfl (lv_at hl 1 rfl) ?_
        refine lv_iload_n hx hb dc_S_leadAll_10 rfl (lv_at hl 3 rfl) ?_
        refine lv_aload_n hx hb dc_S_leadAll_11 rfl (lv_at hl 2 rfl) ?_
        refine va_getN (D := D) (ci := 4) (v := .ref (ad 12)) (C := Rn_P) (T := Fn_P) (N := 3) (host := nh_) hx hb hts in_P hown hK hP 23 rfl rfl 0 (by decide) (va_Nw.use rfl (hN.1 _ nf_0)) (fun _ h9 => h9) rfl dc_S_leadAll_12 ?_
        refine lv_iload_n hx hb dc_S_leadAll_15 rfl (lv_at hl 3 rfl) ?_
        refine w_ild 12 (by decide) hx hb hK hP h.1 dc_S_leadAll_16 ?_
        have h := h.2
        refine lv_aload_n hx hb dc_S_leadAll_17 rfl (lv_at hl 2 rfl) ?_
        refine va_getN (D := D) (ci := 4) (v := .ref (ad 13)) (C := Rn_P) (T := Fn_P) (N := 3) (host := nh_) hx hb hts in_P hown hK hP 23 rfl rfl 1 (by decide) (va_Nw.use rfl (hN.1 _ nf_1)) (fun _ h9 => h9) rfl dc_S_leadAll_18 ?_
        refine lv_iload_n hx hb dc_S_leadAll_21 rfl (lv_at hl 3 rfl) ?_
        refine w_ild 13 (by decide) hx hb hK hP h.1 dc_S_leadAll_22 ?_
        have h := h.2
        refine w_cVv (y := yn_S_lead) (C := Rn_S) (index := 91) (n := 4) (own := Rn_S) 18 hx hb hml hown hts hK hN hP hS (ct_S_lead_22 l D ad cA w hJ y3 (st 12 (y3).toNatClampNeg) (st 13 (y3).toNatClampNeg) st _ h) mw_231 mw_232 mw_233 mw_234 mw_3 (by decide +kernel) ⟨Nat.le_of_ble_eq_true rfl, Nat.le_of_ble_eq_true rfl⟩ rfl rfl rfl rfl rfl hl.1 rfl (lv_room (Nat.le_of_ble_eq_true rfl)) dc_S_leadAll_23 ⟨Nat.zero_le _, Nat.zero_le _⟩ (fun st101 H locs hP hS h => ?_)
        obtain ⟨x102, ex102⟩ : ∃ y : Int32, y = y3 + 1 := ⟨_, rfl⟩
        have h := h x102 ex102
        refine lv_iinc (v := x102) (lv' := [(3, .int x102), (0, .ref (ad 18)), (1, .ref (ad 22)), (2, .ref (ad 23))]) hx hb dc_S_leadAll_26 hl (k := 3) rfl (by rw [ex102]; rfl) (by decide) rfl (fun ls hl => ?_)
        refine lv_goto (tgt := 2) hx hb dc_S_leadAll_29 (by decide) ?_
        exact ih x102 st101 h _ _ hP hS ls (lv_sub hl [1, 2, 3, 0] rfl)
  have hl := lv_entry ([.ref (ad 18), .ref (ad 22), .ref (ad 23)]) (n := 4) (Nat.le_of_ble_eq_true rfl)
  rw [lg_entry_eq]
  generalize (lg_sl ([.ref (ad 18), .ref (ad 22), .ref (ad 23)]) ++ List.replicate (4 - (lg_sl ([.ref (ad 18), .ref (ad 22), .ref (ad 23)])).length) Slot.unset).toArray = ls at hl ⊢
  have hl : lv_has ls 4 [(0, .ref (ad 18)), (1, .ref (ad 22)), (2, .ref (ad 23))] := hl
  refine lv_iconst (v := 0) hx hb dc_S_leadAll_0 (by decide) ?_
  refine lv_istore_n (lv' := [(3, .int 0), (0, .ref (ad 18)), (1, .ref (ad 22)), (2, .ref (ad 23))]) hx hb dc_S_leadAll_1 rfl hl (by decide) rfl (fun ls hl => ?_)
  obtain ⟨n, h⟩ := h
  exact Lp_2 n 0 st h _ _ hP hS ls (lv_sub hl [1, 2, 3, 0] rfl)
end
section
set_option maxHeartbeats 4000000 in
set_option maxRecDepth 100000 in
theorem ct_S_back (l : Launch) (D : va_G) (ad : Nat → Nat) (cA : Nat → ClassId) (w : Nat) (hJ : Jn_ ad) (st : St_) (post : Int32 → St_ → Prop) (h : wp_S_back w st post) : Met l yn_S_back (Cond.code yn_S_back bc_S_back 1 (some .int) :: Wk_) rm_S_back (Pw_ D ad cA w st [.ref (ad 18)]) (Qi_ D ad cA w post) 0 0 (Aw_ ad) := by
  refine Met.ofW (cc := bc_S_back) (maxL := 1) (ret := (some .int)) (by decide) rfl ?_
  intro p e s m args below meth c s₁ B hml hv
  obtain ⟨rfl, hP, hK, hN⟩ := hv
  have hx := B.exec
  have hb := B.bytes
  have hr := B.returns
  have hts : ∀ v ∈ Wk_, v.before [.ref (ad 18)].toArray s = true := fun v hv => atoms_spec (ws := Cond.code yn_S_back bc_S_back 1 (some .int) :: Wk_) B.pre v (List.mem_cons_of_mem _ hv)
  have hown : s.vm.findClass Rn_S = some m.cls := findClass_of_methodNamed B.named
  have hlocks := B.notSynchronized
  have hS : va_S (Aw_ ad) s.heap s.heap [] := va_S.rf
  have hl := lv_entry ([.ref (ad 18)]) (n := 1) (Nat.le_of_ble_eq_true rfl)
  rw [lg_entry_eq]
  generalize (lg_sl ([.ref (ad 18)]) ++ List.replicate (1 - (lg_sl ([.ref (ad 18)])).length) Slot.unset).toArray = ls at hl ⊢
  have hl : lv_has ls 1 [(0, .ref (ad 18))] := hl
  refine lv_aload_n hx hb dc_S_back_0 rfl (lv_at hl 0 rfl) ?_
  refine lv_aload_n hx hb dc_S_back_1 rfl (lv_at hl 0 rfl) ?_
  refine va_get (D := D) (ci := 0) (v := .ref (ad 22)) (C := Rn_S) (T := Fn_S) (N := 5) hx hb hts in_S hown hK hP 18 rfl rfl 3 (by decide) (hts _ mw_12) (fun _ h9 => h9) rfl dc_S_back_2 ?_
  refine lv_aload_n hx hb dc_S_back_5 rfl (lv_at hl 0 rfl) ?_
  refine va_get (D := D) (ci := 0) (v := .ref (ad 23)) (C := Rn_S) (T := Fn_S) (N := 5) hx hb hts in_S hown hK hP 18 rfl rfl 4 (by decide) (hts _ mw_242) (fun _ h9 => h9) rfl dc_S_back_6 ?_
  refine w_cVv (y := yn_S_leadAll) (C := Rn_S) (index := 95) (n := 2) (own := Rn_S) 18 hx hb hml hown hts hK hN hP hS (ct_S_leadAll_22_23 l D ad cA w hJ st _ h) mw_243 mw_244 mw_245 mw_246 mw_3 (by decide +kernel) ⟨Nat.le_of_ble_eq_true rfl, Nat.le_of_ble_eq_true rfl⟩ rfl rfl rfl rfl rfl hl.1 rfl (lv_room (Nat.le_of_ble_eq_true rfl)) dc_S_back_9 ⟨Nat.zero_le _, Nat.zero_le _⟩ (fun st101 H locs hP hS h => ?_)
  refine lv_aload_n hx hb dc_S_back_12 rfl (lv_at hl 0 rfl) ?_
  refine va_get (D := D) (ci := 0) (v := .ref (ad 22)) (C := Rn_S) (T := Fn_S) (N := 5) hx hb hts in_S hown hK hP 18 rfl rfl 3 (by decide) (hts _ mw_12) (fun _ h9 => h9) rfl dc_S_back_13 ?_
  refine va_getN (D := D) (ci := 4) (v := .int (st101 19 0)) (C := Rn_P) (T := Fn_P) (N := 3) (host := nh_) hx hb hts in_P hown hK hP 22 rfl rfl 2 (by decide) (va_Nw.use rfl (hN.1 _ nf_2)) (fun _ h9 => h9) rfl dc_S_back_16 ?_
  exact w_iret hx hb hr hlocks hP hS h dc_S_back_19
end
section
set_option maxHeartbeats 4000000 in
set_option maxRecDepth 100000 in
theorem ct_R_back (l : Launch) (D : va_G) (ad : Nat → Nat) (cA : Nat → ClassId) (w : Nat) (hJ : Jn_ ad) (st : St_) (post : Int32 → St_ → Prop) (h : wp_R_back w st post) : Met l yn_R_back (Cond.code yn_R_back bc_R_back 2 (some .int) :: Wk_) rm_R_back (Pw_ D ad cA w st [.ref (ad 24)]) (Qi_ D ad cA w post) 0 0 (Aw_ ad) := by
  refine Met.ofW (cc := bc_R_back) (maxL := 2) (ret := (some .int)) (by decide) rfl ?_
  intro p e s m args below meth c s₁ B hml hv
  obtain ⟨rfl, hP, hK, hN⟩ := hv
  have hx := B.exec
  have hb := B.bytes
  have hr := B.returns
  have hts : ∀ v ∈ Wk_, v.before [.ref (ad 24)].toArray s = true := fun v hv => atoms_spec (ws := Cond.code yn_R_back bc_R_back 2 (some .int) :: Wk_) B.pre v (List.mem_cons_of_mem _ hv)
  have hown : s.vm.findClass Rn_R = some m.cls := findClass_of_methodNamed B.named
  have hlocks := B.notSynchronized
  have hS : va_S (Aw_ ad) s.heap s.heap [] := va_S.rf
  have Lp_28 : ∀ (n : Nat) (y1 : Int32) (st : St_), wp_R_back_28 w post n y1 st → ∀ (H : Heap) (locs : List Loc), va_P D sC_ (wd_ ad cA w st) H → va_S (Aw_ ad) s.heap H locs → ∀ ls : Array Slot, lv_has ls 2 [(0, .ref (ad 24)), (1, .int y1)] → W p l e (headSpec (Cond.code yn_R_back bc_R_back 2 (some .int) :: Wk_) rm_R_back).room s m [.ref (ad 24)].toArray below meth c H locs 0 0 (MQ below (Qi_ D ad cA w post) [.ref (ad 24)].toArray s 0 0 (Aw_ ad)) (F0 m 28 ls []) := by
    intro n
    induction n with
    | zero => intro y1 st h; exact h.elim
    | succ n ih =>
      intro y1 st h H locs hP hS ls hl
      refine lv_iload_n hx hb dc_R_back_28 rfl (lv_at hl 1 rfl) ?_
      refine lv_bipush (v := 8) hx hb dc_R_back_29 (by decide) ?_
      refine lv_icmp_ge (tgt := 52) hx hb dc_R_back_31 (by decide) (fun c => ?_) (fun c => ?_)
      · have h := h.1 c
        refine lv_aload_n hx hb dc_R_back_52 rfl (lv_at hl 0 rfl) ?_
        refine w_cVi (y := yn_R_all) (C := Rn_R) (index := 34) (n := 0) (own := Rn_R) 24 hx hb hml hown hts hK hN hP hS (ct_R_all l D ad cA w hJ st _ h) mw_153 mw_154 mw_155 mw_156 mw_143 (by decide +kernel) ⟨Nat.le_of_ble_eq_true rfl, Nat.le_of_ble_eq_true rfl⟩ rfl rfl rfl rfl rfl hl.1 rfl (lv_room (Nat.le_of_ble_eq_true rfl)) dc_R_back_53 ⟨Nat.zero_le _, Nat.zero_le _⟩ (fun r102 st101 H locs hP hS h => ?_)
        exact w_iret hx hb hr hlocks hP hS h dc_R_back_56
      · have h := h.2 c
        refine lv_aload_n hx hb dc_R_back_34 rfl (lv_at hl 0 rfl) ?_
        refine va_get (D := D) (ci := 5) (v := .ref (ad 16)) (C := Rn_R) (T := Fn_R) (N := 4) hx hb hts in_R hown hK hP 24 rfl rfl 2 (by decide) (hts _ mw_152) (fun _ h9 => h9) rfl dc_R_back_35 ?_
        refine lv_iload_n hx hb dc_R_back_38 rfl (lv_at hl 1 rfl) ?_
        refine lv_aload_n hx hb dc_R_back_39 rfl (lv_at hl 0 rfl) ?_
        refine va_get (D := D) (ci := 5) (v := .ref (ad 17)) (C := Rn_R) (T := Fn_R) (N := 4) hx hb hts in_R hown hK hP 24 rfl rfl 3 (by decide) (hts _ mw_249) (fun _ h9 => h9) rfl dc_R_back_40 ?_
        refine lv_iload_n hx hb dc_R_back_43 rfl (lv_at hl 1 rfl) ?_
        refine w_ild 17 (by decide) hx hb hK hP h.1 dc_R_back_44 ?_
        have h := h.2
        refine w_ist 16 (by decide) hJ hx hb hK hP hS h.1 dc_R_back_45 (fun H locs hP hS => ?_)
        obtain ⟨st103, est103⟩ : ∃ z : St_, z = ws_1 st 16 (y1).toNatClampNeg (st 17 (y1).toNatClampNeg) := ⟨_, rfl⟩
        rw [← est103] at hP
        have h := h.2 st103 est103
        obtain ⟨x104, ex104⟩ : ∃ y : Int32, y = y1 + 1 := ⟨_, rfl⟩
        have h := h x104 ex104
        refine lv_iinc (v := x104) (lv' := [(1, .int x104), (0, .ref (ad 24))]) hx hb dc_R_back_46 hl (k := 1) rfl (by rw [ex104]; rfl) (by decide) rfl (fun ls hl => ?_)
        refine lv_goto (tgt := 28) hx hb dc_R_back_49 (by decide) ?_
        exact ih x104 st103 h _ _ hP hS ls (lv_sub hl [1, 0] rfl)
  have Lp_2 : ∀ (n : Nat) (y1 : Int32) (st : St_), wp_R_back_2 w post n y1 st → ∀ (H : Heap) (locs : List Loc), va_P D sC_ (wd_ ad cA w st) H → va_S (Aw_ ad) s.heap H locs → ∀ ls : Array Slot, lv_has ls 2 [(0, .ref (ad 24)), (1, .int y1)] → W p l e (headSpec (Cond.code yn_R_back bc_R_back 2 (some .int) :: Wk_) rm_R_back).room s m [.ref (ad 24)].toArray below meth c H locs 0 0 (MQ below (Qi_ D ad cA w post) [.ref (ad 24)].toArray s 0 0 (Aw_ ad)) (F0 m 2 ls []) := by
    intro n
    induction n with
    | zero => intro y1 st h; exact h.elim
    | succ n ih =>
      intro y1 st h H locs hP hS ls hl
      refine lv_iload_n hx hb dc_R_back_2 rfl (lv_at hl 1 rfl) ?_
      refine lv_ldc hx hb hown (hts _ mw_248) dc_R_back_3 ?_
      refine lv_icmp_ge (tgt := 26) hx hb dc_R_back_5 (by decide) (fun c => ?_) (fun c => ?_)
      · have h := h.1 c
        refine lv_iconst (v := 0) hx hb dc_R_back_26 (by decide) ?_
        refine lv_istore_n (lv' := [(1, .int 0), (0, .ref (ad 24))]) hx hb dc_R_back_27 rfl hl (by decide) rfl (fun ls hl => ?_)
        obtain ⟨n, h⟩ := h
        exact Lp_28 n 0 st h _ _ hP hS ls (lv_sub hl [1, 0] rfl)
      · have h := h.2 c
        refine lv_aload_n hx hb dc_R_back_8 rfl (lv_at hl 0 rfl) ?_
        refine va_get (D := D) (ci := 5) (v := .ref (ad 14)) (C := Rn_R) (T := Fn_R) (N := 4) hx hb hts in_R hown hK hP 24 rfl rfl 0 (by decide) (hts _ mw_151) (fun _ h9 => h9) rfl dc_R_back_9 ?_
        refine lv_iload_n hx hb dc_R_back_12 rfl (lv_at hl 1 rfl) ?_
        refine lv_aload_n hx hb dc_R_back_13 rfl (lv_at hl 0 rfl) ?_
        refine va_get (D := D) (ci := 5) (v := .ref (ad 15)) (C := Rn_R) (T := Fn_R) (N := 4) hx hb hts in_R hown hK hP 24 rfl rfl 1 (by decide) (hts _ mw_250) (fun _ h9 => h9) rfl dc_R_back_14 ?_
        refine lv_iload_n hx hb dc_R_back_17 rfl (lv_at hl 1 rfl) ?_
        refine w_ild 15 (by decide) hx hb hK hP h.1 dc_R_back_18 ?_
        have h := h.2
        refine w_ist 14 (by decide) hJ hx hb hK hP hS h.1 dc_R_back_19 (fun H locs hP hS => ?_)
        obtain ⟨st105, est105⟩ : ∃ z : St_, z = ws_1 st 14 (y1).toNatClampNeg (st 15 (y1).toNatClampNeg) := ⟨_, rfl⟩
        rw [← est105] at hP
        have h := h.2 st105 est105
        obtain ⟨x106, ex106⟩ : ∃ y : Int32, y = y1 + 1 := ⟨_, rfl⟩
        have h := h x106 ex106
        refine lv_iinc (v := x106) (lv' := [(1, .int x106), (0, .ref (ad 24))]) hx hb dc_R_back_20 hl (k := 1) rfl (by rw [ex106]; rfl) (by decide) rfl (fun ls hl => ?_)
        refine lv_goto (tgt := 2) hx hb dc_R_back_23 (by decide) ?_
        exact ih x106 st105 h _ _ hP hS ls (lv_sub hl [1, 0] rfl)
  have hl := lv_entry ([.ref (ad 24)]) (n := 2) (Nat.le_of_ble_eq_true rfl)
  rw [lg_entry_eq]
  generalize (lg_sl ([.ref (ad 24)]) ++ List.replicate (2 - (lg_sl ([.ref (ad 24)])).length) Slot.unset).toArray = ls at hl ⊢
  have hl : lv_has ls 2 [(0, .ref (ad 24))] := hl
  refine lv_iconst (v := 0) hx hb dc_R_back_0 (by decide) ?_
  refine lv_istore_n (lv' := [(1, .int 0), (0, .ref (ad 24))]) hx hb dc_R_back_1 rfl hl (by decide) rfl (fun ls hl => ?_)
  obtain ⟨n, h⟩ := h
  exact Lp_2 n 0 st h _ _ hP hS ls (lv_sub hl [1, 0] rfl)
end
section
set_option maxHeartbeats 4000000 in
set_option maxRecDepth 100000 in
theorem ct_S_keys (l : Launch) (D : va_G) (ad : Nat → Nat) (cA : Nat → ClassId) (w : Nat) (hJ : Jn_ ad) (x1 : Int32) (st : St_) (post : Int32 → St_ → Prop) (h : wp_S_keys w x1 st post) : Met l yn_S_keys (Cond.code yn_S_keys bc_S_keys 2 (some .int) :: Wk_) rm_S_keys (Pw_ D ad cA w st [.ref (ad 18), .int x1]) (Qi_ D ad cA w post) 0 0 (Aw_ ad) := by
  refine Met.ofW (cc := bc_S_keys) (maxL := 2) (ret := (some .int)) (by decide) rfl ?_
  intro p e s m args below meth c s₁ B hml hv
  obtain ⟨rfl, hP, hK, hN⟩ := hv
  have hx := B.exec
  have hb := B.bytes
  have hr := B.returns
  have hts : ∀ v ∈ Wk_, v.before [.ref (ad 18), .int x1].toArray s = true := fun v hv => atoms_spec (ws := Cond.code yn_S_keys bc_S_keys 2 (some .int) :: Wk_) B.pre v (List.mem_cons_of_mem _ hv)
  have hown : s.vm.findClass Rn_S = some m.cls := findClass_of_methodNamed B.named
  have hlocks := B.notSynchronized
  have hS : va_S (Aw_ ad) s.heap s.heap [] := va_S.rf
  have hl := lv_entry ([.ref (ad 18), .int x1]) (n := 2) (Nat.le_of_ble_eq_true rfl)
  rw [lg_entry_eq]
  generalize (lg_sl ([.ref (ad 18), .int x1]) ++ List.replicate (2 - (lg_sl ([.ref (ad 18), .int x1])).length) Slot.unset).toArray = ls at hl ⊢
  have hl : lv_has ls 2 [(0, .ref (ad 18)), (1, .int x1)] := hl
  refine lv_iload_n hx hb dc_S_keys_0 rfl (lv_at hl 1 rfl) ?_
  refine lv_iconst (v := (-1)) hx hb dc_S_keys_1 (by decide) ?_
  refine lv_icmp_ne (tgt := 13) hx hb dc_S_keys_2 (by decide) (fun c => ?_) (fun c => ?_)
  · have h := h.1 c
    refine lv_iload_n hx hb dc_S_keys_13 rfl (lv_at hl 1 rfl) ?_
    refine w_cSi (y := yn_S_isMap) (index := 53) (n := 1) (own := Rn_S) hx hb hml hown hts hK hN hP hS (ct_S_isMap l D ad cA w hJ x1 st _ h) mw_0 mw_1 mw_2 mw_3 (by decide +kernel) ⟨Nat.le_of_ble_eq_true rfl, Nat.le_of_ble_eq_true rfl⟩ rfl rfl rfl hl.1 rfl (lv_room (Nat.le_of_ble_eq_true rfl)) dc_S_keys_14 ⟨Nat.zero_le _, Nat.zero_le _⟩ (fun r102 st101 H locs hP hS h => ?_)
    refine lv_if_eq (tgt := 32) hx hb dc_S_keys_17 (by decide) (fun c => ?_) (fun c => ?_)
    · have h := h.1 c
      refine lv_iconst (v := (-1)) hx hb dc_S_keys_32 (by decide) ?_
      exact w_iret hx hb hr hlocks hP hS h dc_S_keys_33
    · have h := h.2 c
      refine lv_aload_n hx hb dc_S_keys_20 rfl (lv_at hl 0 rfl) ?_
      refine va_get (D := D) (ci := 0) (v := .ref (ad 22)) (C := Rn_S) (T := Fn_S) (N := 5) hx hb hts in_S hown hK hP 18 rfl rfl 3 (by decide) (hts _ mw_12) (fun _ h9 => h9) rfl dc_S_keys_21 ?_
      refine va_getN (D := D) (ci := 4) (v := .ref (ad 11)) (C := Rn_P) (T := Fn_P) (N := 3) (host := nh_) hx hb hts in_P hown hK hP 22 rfl rfl 1 (by decide) (va_Nw.use rfl (hN.1 _ nf_1)) (fun _ h9 => h9) rfl dc_S_keys_24 ?_
      refine lv_iload_n hx hb dc_S_keys_27 rfl (lv_at hl 1 rfl) ?_
      refine w_ild 11 (by decide) hx hb hK hP h.1 dc_S_keys_28 ?_
      have h := h.2
      refine lv_goto (tgt := 33) hx hb dc_S_keys_29 (by decide) ?_
      exact w_iret hx hb hr hlocks hP hS h dc_S_keys_33
  · have h := h.2 c
    refine lv_aload_n hx hb dc_S_keys_5 rfl (lv_at hl 0 rfl) ?_
    refine va_get (D := D) (ci := 0) (v := .ref (ad 22)) (C := Rn_S) (T := Fn_S) (N := 5) hx hb hts in_S hown hK hP 18 rfl rfl 3 (by decide) (hts _ mw_12) (fun _ h9 => h9) rfl dc_S_keys_6 ?_
    refine va_getN (D := D) (ci := 4) (v := .int (st 19 0)) (C := Rn_P) (T := Fn_P) (N := 3) (host := nh_) hx hb hts in_P hown hK hP 22 rfl rfl 2 (by decide) (va_Nw.use rfl (hN.1 _ nf_2)) (fun _ h9 => h9) rfl dc_S_keys_9 ?_
    exact w_iret hx hb hr hlocks hP hS h dc_S_keys_12
end
section
set_option maxHeartbeats 4000000 in
set_option maxRecDepth 100000 in
theorem ct_R_keys (l : Launch) (D : va_G) (ad : Nat → Nat) (cA : Nat → ClassId) (w : Nat) (hJ : Jn_ ad) (x1 : Int32) (st : St_) (post : Int32 → St_ → Prop) (h : wp_R_keys w x1 st post) : Met l yn_R_keys (Cond.code yn_R_keys bc_R_keys 2 (some .int) :: Wk_) rm_R_keys (Pw_ D ad cA w st [.ref (ad 24), .int x1]) (Qi_ D ad cA w post) 0 0 (Aw_ ad) := by
  refine Met.ofW (cc := bc_R_keys) (maxL := 2) (ret := (some .int)) (by decide) rfl ?_
  intro p e s m args below meth c s₁ B hml hv
  obtain ⟨rfl, hP, hK, hN⟩ := hv
  have hx := B.exec
  have hb := B.bytes
  have hr := B.returns
  have hts : ∀ v ∈ Wk_, v.before [.ref (ad 24), .int x1].toArray s = true := fun v hv => atoms_spec (ws := Cond.code yn_R_keys bc_R_keys 2 (some .int) :: Wk_) B.pre v (List.mem_cons_of_mem _ hv)
  have hown : s.vm.findClass Rn_R = some m.cls := findClass_of_methodNamed B.named
  have hlocks := B.notSynchronized
  have hS : va_S (Aw_ ad) s.heap s.heap [] := va_S.rf
  have hl := lv_entry ([.ref (ad 24), .int x1]) (n := 2) (Nat.le_of_ble_eq_true rfl)
  rw [lg_entry_eq]
  generalize (lg_sl ([.ref (ad 24), .int x1]) ++ List.replicate (2 - (lg_sl ([.ref (ad 24), .int x1])).length) Slot.unset).toArray = ls at hl ⊢
  have hl : lv_has ls 2 [(0, .ref (ad 24)), (1, .int x1)] := hl
  refine lv_iload_n hx hb dc_R_keys_0 rfl (lv_at hl 1 rfl) ?_
  refine lv_iconst (v := (-1)) hx hb dc_R_keys_1 (by decide) ?_
  refine lv_icmp_ne (tgt := 12) hx hb dc_R_keys_2 (by decide) (fun c => ?_) (fun c => ?_)
  · have h := h.1 c
    refine lv_iload_n hx hb dc_R_keys_12 rfl (lv_at hl 1 rfl) ?_
    refine w_cSi (y := yn_R_isMap) (index := 24) (n := 1) (own := Rn_R) hx hb hml hown hts hK hN hP hS (ct_R_isMap l D ad cA w hJ x1 st _ h) mw_140 mw_141 mw_142 mw_143 (by decide +kernel) ⟨Nat.le_of_ble_eq_true rfl, Nat.le_of_ble_eq_true rfl⟩ rfl rfl rfl hl.1 rfl (lv_room (Nat.le_of_ble_eq_true rfl)) dc_R_keys_13 ⟨Nat.zero_le _, Nat.zero_le _⟩ (fun r102 st101 H locs hP hS h => ?_)
    refine lv_if_eq (tgt := 28) hx hb dc_R_keys_16 (by decide) (fun c => ?_) (fun c => ?_)
    · have h := h.1 c
      refine lv_iconst (v := (-1)) hx hb dc_R_keys_28 (by decide) ?_
      exact w_iret hx hb hr hlocks hP hS h dc_R_keys_29
    · have h := h.2 c
      refine lv_aload_n hx hb dc_R_keys_19 rfl (lv_at hl 0 rfl) ?_
      refine va_get (D := D) (ci := 5) (v := .ref (ad 16)) (C := Rn_R) (T := Fn_R) (N := 4) hx hb hts in_R hown hK hP 24 rfl rfl 2 (by decide) (hts _ mw_152) (fun _ h9 => h9) rfl dc_R_keys_20 ?_
      refine lv_iload_n hx hb dc_R_keys_23 rfl (lv_at hl 1 rfl) ?_
      refine w_ild 16 (by decide) hx hb hK hP h.1 dc_R_keys_24 ?_
      have h := h.2
      refine lv_goto (tgt := 29) hx hb dc_R_keys_25 (by decide) ?_
      exact w_iret hx hb hr hlocks hP hS h dc_R_keys_29
  · have h := h.2 c
    refine lv_aload_n hx hb dc_R_keys_5 rfl (lv_at hl 0 rfl) ?_
    refine w_cVi (y := yn_R_all) (C := Rn_R) (index := 34) (n := 0) (own := Rn_R) 24 hx hb hml hown hts hK hN hP hS (ct_R_all l D ad cA w hJ st _ h) mw_153 mw_154 mw_155 mw_156 mw_143 (by decide +kernel) ⟨Nat.le_of_ble_eq_true rfl, Nat.le_of_ble_eq_true rfl⟩ rfl rfl rfl rfl rfl hl.1 rfl (lv_room (Nat.le_of_ble_eq_true rfl)) dc_R_keys_6 ⟨Nat.zero_le _, Nat.zero_le _⟩ (fun r104 st103 H locs hP hS h => ?_)
    refine lv_goto (tgt := 29) hx hb dc_R_keys_9 (by decide) ?_
    exact w_iret hx hb hr hlocks hP hS h dc_R_keys_29
end
section
set_option maxHeartbeats 4000000 in
set_option maxRecDepth 100000 in
theorem ct_I_hasOrder (l : Launch) (D : va_G) (ad : Nat → Nat) (cA : Nat → ClassId) (w : Nat) (hJ : Jn_ ad) (x1 : Int32) (st : St_) (post : Int32 → St_ → Prop) (h : wp_I_hasOrder w x1 st post) : Met l yn_I_hasOrder (Cond.code yn_I_hasOrder bc_I_hasOrder 4 (some .boolean) :: Wk_) rm_I_hasOrder (Pw_ D ad cA w st [.ref (ad 21), .int x1]) (Qi_ D ad cA w post) 0 0 (Aw_ ad) := by
  refine Met.ofW (cc := bc_I_hasOrder) (maxL := 4) (ret := (some .boolean)) (by decide) rfl ?_
  intro p e s m args below meth c s₁ B hml hv
  obtain ⟨rfl, hP, hK, hN⟩ := hv
  have hx := B.exec
  have hb := B.bytes
  have hr := B.returns
  have hts : ∀ v ∈ Wk_, v.before [.ref (ad 21), .int x1].toArray s = true := fun v hv => atoms_spec (ws := Cond.code yn_I_hasOrder bc_I_hasOrder 4 (some .boolean) :: Wk_) B.pre v (List.mem_cons_of_mem _ hv)
  have hown : s.vm.findClass Rn_I = some m.cls := findClass_of_methodNamed B.named
  have hlocks := B.notSynchronized
  have hS : va_S (Aw_ ad) s.heap s.heap [] := va_S.rf
  have Lp_26 : ∀ (n : Nat) (y1 y2 y3 : Int32) (st : St_), wp_I_hasOrder_26 w post n y1 y2 y3 st → ∀ (H : Heap) (locs : List Loc), va_P D sC_ (wd_ ad cA w st) H → va_S (Aw_ ad) s.heap H locs → ∀ ls : Array Slot, lv_has ls 4 [(0, .ref (ad 21)), (1, .int y1), (2, .int y2), (3, .int y3)] → W p l e (headSpec (Cond.code yn_I_hasOrder bc_I_hasOrder 4 (some .boolean) :: Wk_) rm_I_hasOrder).room s m [.ref (ad 21), .int x1].toArray below meth c H locs 0 0 (MQ below (Qi_ D ad cA w post) [.ref (ad 21), .int x1].toArray s 0 0 (Aw_ ad)) (F0 m 26 ls []) := by
    intro n
    induction n with
    | zero => intro y1 y2 y3 st h; exact h.elim
    | succ n ih =>
      intro y1 y2 y3 st h H locs hP hS ls hl
      refine lv_iload_n hx hb dc_I_hasOrder_26 rfl (lv_at hl 3 rfl) ?_
      refine lv_iload_n hx hb dc_I_hasOrder_27 rfl (lv_at hl 2 rfl) ?_
      refine lv_icmp_ge (tgt := 62) hx hb dc_I_hasOrder_28 (by decide) (fun c => ?_) (fun c => ?_)
      · have h := h.1 c
        refine lv_aload_n hx hb dc_I_hasOrder_62 rfl (lv_at hl 0 rfl) ?_
        refine va_get (D := D) (ci := 3) (v := .ref (ad 19)) (C := Rn_I) (T := Fn_I) (N := 7) hx hb hts in_I hown hK hP 21 rfl rfl 0 (by decide) (hts _ mw_257) (fun _ h9 => h9) rfl dc_I_hasOrder_63 ?_
        refine lv_iload_n hx hb dc_I_hasOrder_66 rfl (lv_at hl 1 rfl) ?_
        refine lv_iconst (v := 0) hx hb dc_I_hasOrder_67 (by decide) ?_
        refine w_cVi (y := yn_B_key) (C := Rn_B) (index := 91) (n := 2) (own := Rn_I) 19 hx hb hml hown hts hK hN hP hS (ct_B_key l D ad cA w hJ y1 0 st _ h) mw_43 mw_263 mw_45 mw_46 mw_18 (by decide +kernel) ⟨Nat.le_of_ble_eq_true rfl, Nat.le_of_ble_eq_true rfl⟩ rfl rfl rfl rfl rfl hl.1 rfl (lv_room (Nat.le_of_ble_eq_true rfl)) dc_I_hasOrder_68 ⟨Nat.zero_le _, Nat.zero_le _⟩ (fun r104 st103 H locs hP hS h => ?_)
        refine w_cNi (y := yn_S_isKey) (index := 94) (n := 1) (own := Rn_I) (host := nh_) hx hb hml hown hts hK hN hP hS (ct_S_isKey l D ad cA w hJ r104 st103 _ h) mw_4 (hN.2 _ nm_0) mw_6 mw_3 (by decide +kernel) ⟨Nat.le_of_ble_eq_true rfl, Nat.le_of_ble_eq_true rfl⟩ rfl rfl rfl hl.1 rfl (lv_room (Nat.le_of_ble_eq_true rfl)) dc_I_hasOrder_71 ⟨Nat.zero_le _, Nat.zero_le _⟩ (fun r106 st105 H locs hP hS h => ?_)
        refine lv_if_eq (tgt := 98) hx hb dc_I_hasOrder_74 (by decide) (fun c => ?_) (fun c => ?_)
        · have h := h.1 c
          refine lv_iconst (v := 0) hx hb dc_I_hasOrder_98 (by decide) ?_
          exact w_zret hx hb hr rfl hlocks hP hS h dc_I_hasOrder_99
        · have h := h.2 c
          refine lv_aload_n hx hb dc_I_hasOrder_77 rfl (lv_at hl 0 rfl) ?_
          refine va_get (D := D) (ci := 3) (v := .ref (ad 19)) (C := Rn_I) (T := Fn_I) (N := 7) hx hb hts in_I hown hK hP 21 rfl rfl 0 (by decide) (hts _ mw_257) (fun _ h9 => h9) rfl dc_I_hasOrder_78 ?_
          refine lv_iload_n hx hb dc_I_hasOrder_81 rfl (lv_at hl 1 rfl) ?_
          refine lv_iload_n hx hb dc_I_hasOrder_82 rfl (lv_at hl 2 rfl) ?_
          refine lv_iconst (v := 1) hx hb dc_I_hasOrder_83 (by decide) ?_
          refine lv_isub hx hb dc_I_hasOrder_84 ?_
          refine w_cVi (y := yn_B_key) (C := Rn_B) (index := 91) (n := 2) (own := Rn_I) 19 hx hb hml hown hts hK hN hP hS (ct_B_key l D ad cA w hJ y1 (y2 - 1) st105 _ h) mw_43 mw_263 mw_45 mw_46 mw_18 (by decide +kernel) ⟨Nat.le_of_ble_eq_true rfl, Nat.le_of_ble_eq_true rfl⟩ rfl rfl rfl rfl rfl hl.1 rfl (lv_room (Nat.le_of_ble_eq_true rfl)) dc_I_hasOrder_85 ⟨Nat.zero_le _, Nat.zero_le _⟩ (fun r108 st107 H locs hP hS h => ?_)
          refine w_cNi (y := yn_S_isKey) (index := 94) (n := 1) (own := Rn_I) (host := nh_) hx hb hml hown hts hK hN hP hS (ct_S_isKey l D ad cA w hJ r108 st107 _ h) mw_4 (hN.2 _ nm_0) mw_6 mw_3 (by decide +kernel) ⟨Nat.le_of_ble_eq_true rfl, Nat.le_of_ble_eq_true rfl⟩ rfl rfl rfl hl.1 rfl (lv_room (Nat.le_of_ble_eq_true rfl)) dc_I_hasOrder_88 ⟨Nat.zero_le _, Nat.zero_le _⟩ (fun r110 st109 H locs hP hS h => ?_)
          refine lv_if_eq (tgt := 98) hx hb dc_I_hasOrder_91 (by decide) (fun c => ?_) (fun c => ?_)
          · have h := h.1 c
            refine lv_iconst (v := 0) hx hb dc_I_hasOrder_98 (by decide) ?_
            exact w_zret hx hb hr rfl hlocks hP hS h dc_I_hasOrder_99
          · have h := h.2 c
            refine lv_iconst (v := 1) hx hb dc_I_hasOrder_94 (by decide) ?_
            refine lv_goto (tgt := 99) hx hb dc_I_hasOrder_95 (by decide) ?_
            exact w_zret hx hb hr rfl hlocks hP hS h dc_I_hasOrder_99
      · have h := h.2 c
        refine lv_aload_n hx hb dc_I_hasOrder_31 rfl (lv_at hl 0 rfl) ?_
        refine va_get (D := D) (ci := 3) (v := .ref (ad 19)) (C := Rn_I) (T := Fn_I) (N := 7) hx hb hts in_I hown hK hP 21 rfl rfl 0 (by decide) (hts _ mw_257) (fun _ h9 => h9) rfl dc_I_hasOrder_32 ?_
        refine lv_iload_n hx hb dc_I_hasOrder_35 rfl (lv_at hl 1 rfl) ?_
        refine lv_iload_n hx hb dc_I_hasOrder_36 rfl (lv_at hl 3 rfl) ?_
        refine lv_iconst (v := 1) hx hb dc_I_hasOrder_37 (by decide) ?_
        refine lv_isub hx hb dc_I_hasOrder_38 ?_
        refine w_cVi (y := yn_B_key) (C := Rn_B) (index := 91) (n := 2) (own := Rn_I) 19 hx hb hml hown hts hK hN hP hS (ct_B_key l D ad cA w hJ y1 (y3 - 1) st _ h) mw_43 mw_263 mw_45 mw_46 mw_18 (by decide +kernel) ⟨Nat.le_of_ble_eq_true rfl, Nat.le_of_ble_eq_true rfl⟩ rfl rfl rfl rfl rfl hl.1 rfl (lv_room (Nat.le_of_ble_eq_true rfl)) dc_I_hasOrder_39 ⟨Nat.zero_le _, Nat.zero_le _⟩ (fun r112 st111 H locs hP hS h => ?_)
        refine lv_aload_n hx hb dc_I_hasOrder_42 rfl (lv_at hl 0 rfl) ?_
        refine va_get (D := D) (ci := 3) (v := .ref (ad 19)) (C := Rn_I) (T := Fn_I) (N := 7) hx hb hts in_I hown hK hP 21 rfl rfl 0 (by decide) (hts _ mw_257) (fun _ h9 => h9) rfl dc_I_hasOrder_43 ?_
        refine lv_iload_n hx hb dc_I_hasOrder_46 rfl (lv_at hl 1 rfl) ?_
        refine lv_iload_n hx hb dc_I_hasOrder_47 rfl (lv_at hl 3 rfl) ?_
        refine w_cVi (y := yn_B_key) (C := Rn_B) (index := 91) (n := 2) (own := Rn_I) 19 hx hb hml hown hts hK hN hP hS (ct_B_key l D ad cA w hJ y1 y3 st111 _ h) mw_43 mw_263 mw_45 mw_46 mw_18 (by decide +kernel) ⟨Nat.le_of_ble_eq_true rfl, Nat.le_of_ble_eq_true rfl⟩ rfl rfl rfl rfl rfl hl.1 rfl (lv_room (Nat.le_of_ble_eq_true rfl)) dc_I_hasOrder_48 ⟨Nat.zero_le _, Nat.zero_le _⟩ (fun r114 st113 H locs hP hS h => ?_)
        refine lv_icmp_lt (tgt := 56) hx hb dc_I_hasOrder_51 (by decide) (fun c => ?_) (fun c => ?_)
        · have h := h.1 c
          obtain ⟨x115, ex115⟩ : ∃ y : Int32, y = y3 + 1 := ⟨_, rfl⟩
          have h := h x115 ex115
          refine lv_iinc (v := x115) (lv' := [(3, .int x115), (0, .ref (ad 21)), (1, .int y1), (2, .int y2)]) hx hb dc_I_hasOrder_56 hl (k := 3) rfl (by rw [ex115]; rfl) (by decide) rfl (fun ls hl => ?_)
          refine lv_goto (tgt := 26) hx hb dc_I_hasOrder_59 (by decide) ?_
          exact ih y1 y2 x115 st113 h _ _ hP hS ls (lv_sub hl [1, 2, 3, 0] rfl)
        · have h := h.2 c
          refine lv_iconst (v := 0) hx hb dc_I_hasOrder_54 (by decide) ?_
          exact w_zret hx hb hr rfl hlocks hP hS h dc_I_hasOrder_55
  have hl := lv_entry ([.ref (ad 21), .int x1]) (n := 4) (Nat.le_of_ble_eq_true rfl)
  rw [lg_entry_eq]
  generalize (lg_sl ([.ref (ad 21), .int x1]) ++ List.replicate (4 - (lg_sl ([.ref (ad 21), .int x1])).length) Slot.unset).toArray = ls at hl ⊢
  have hl : lv_has ls 4 [(0, .ref (ad 21)), (1, .int x1)] := hl
  refine lv_aload_n hx hb dc_I_hasOrder_0 rfl (lv_at hl 0 rfl) ?_
  refine va_get (D := D) (ci := 3) (v := .ref (ad 19)) (C := Rn_I) (T := Fn_I) (N := 7) hx hb hts in_I hown hK hP 21 rfl rfl 0 (by decide) (hts _ mw_257) (fun _ h9 => h9) rfl dc_I_hasOrder_1 ?_
  refine lv_iload_n hx hb dc_I_hasOrder_4 rfl (lv_at hl 1 rfl) ?_
  refine w_cVi (y := yn_B_size) (C := Rn_B) (index := 75) (n := 1) (own := Rn_I) 19 hx hb hml hown hts hK hN hP hS (ct_B_size l D ad cA w hJ x1 st _ h) mw_26 mw_260 mw_28 mw_29 mw_18 (by decide +kernel) ⟨Nat.le_of_ble_eq_true rfl, Nat.le_of_ble_eq_true rfl⟩ rfl rfl rfl rfl rfl hl.1 rfl (lv_room (Nat.le_of_ble_eq_true rfl)) dc_I_hasOrder_5 ⟨Nat.zero_le _, Nat.zero_le _⟩ (fun r102 st101 H locs hP hS h => ?_)
  refine lv_istore_n (lv' := [(2, .int r102), (0, .ref (ad 21)), (1, .int x1)]) hx hb dc_I_hasOrder_8 rfl hl (by decide) rfl (fun ls hl => ?_)
  refine lv_iload_n hx hb dc_I_hasOrder_9 rfl (lv_at hl 0 rfl) ?_
  refine lv_iconst (v := 1) hx hb dc_I_hasOrder_10 (by decide) ?_
  refine lv_icmp_lt (tgt := 22) hx hb dc_I_hasOrder_11 (by decide) (fun c => ?_) (fun c => ?_)
  · have h := h.1 c
    refine lv_iconst (v := 0) hx hb dc_I_hasOrder_22 (by decide) ?_
    exact w_zret hx hb hr rfl hlocks hP hS h dc_I_hasOrder_23
  · have h := h.2 c
    refine lv_iload_n hx hb dc_I_hasOrder_14 rfl (lv_at hl 0 rfl) ?_
    refine lv_aload_n hx hb dc_I_hasOrder_15 rfl (lv_at hl 1 rfl) ?_
    refine va_get (D := D) (ci := 3) (v := .int (nI (w - 1))) (C := Rn_I) (T := Fn_I) (N := 7) hx hb hts in_I hown hK hP 21 rfl rfl 1 (by decide) (hts _ mw_262) (fun _ h9 => h9) rfl dc_I_hasOrder_16 ?_
    refine lv_icmp_le (tgt := 24) hx hb dc_I_hasOrder_19 (by decide) (fun c => ?_) (fun c => ?_)
    · have h := h.1 c
      refine lv_iconst (v := 1) hx hb dc_I_hasOrder_24 (by decide) ?_
      refine lv_istore_n (lv' := [(3, .int 1), (2, .int r102), (0, .ref (ad 21)), (1, .int x1)]) hx hb dc_I_hasOrder_25 rfl hl (by decide) rfl (fun ls hl => ?_)
      obtain ⟨n, h⟩ := h
      exact Lp_26 n x1 r102 1 st101 h _ _ hP hS ls (lv_sub hl [2, 3, 1, 0] rfl)
    · have h := h.2 c
      refine lv_iconst (v := 0) hx hb dc_I_hasOrder_22 (by decide) ?_
      exact w_zret hx hb hr rfl hlocks hP hS h dc_I_hasOrder_23
end
section
set_option maxHeartbeats 4000000 in
set_option maxRecDepth 100000 in
theorem ct_I_faultOfNode (l : Launch) (D : va_G) (ad : Nat → Nat) (cA : Nat → ClassId) (w : Nat) (hJ : Jn_ ad) (d : Nat) (rec : Int32 → Int32 → St_ → (Int32 → St_ → Prop) → Prop) (hrec : ∀ (z0 : Int32) (z1 : Int32) (st : St_) (post : Int32 → St_ → Prop), rec z0 z1 st post → Met l yn_I_faultBelow (Cond.code yn_I_faultBelow bc_I_faultBelow 3 (some .int) :: Wk_) (rm_I_faultBelow d) (Pw_ D ad cA w st [.ref (ad 21), .int z0, .int z1]) (Qi_ D ad cA w post) 0 0 (Aw_ ad)) (x1 : Int32) (x2 : Int32) (st : St_) (post : Int32 → St_ → Prop) (h : wp_I_faultOfNode w rec x1 x2 st post) : Met l yn_I_faultOfNode (Cond.code yn_I_faultOfNode bc_I_faultOfNode 10 (some .int) :: Wk_) (rm_I_faultOfNode d) (Pw_ D ad cA w st [.ref (ad 21), .int x1, .int x2]) (Qi_ D ad cA w post) 0 0 (Aw_ ad) := by
  refine Met.ofW (cc := bc_I_faultOfNode) (maxL := 10) (ret := (some .int)) (by decide) rfl ?_
  intro p e s m args below meth c s₁ B hml hv
  obtain ⟨rfl, hP, hK, hN⟩ := hv
  have hx := B.exec
  have hb := B.bytes
  have hr := B.returns
  have hts : ∀ v ∈ Wk_, v.before [.ref (ad 21), .int x1, .int x2].toArray s = true := fun v hv => atoms_spec (ws := Cond.code yn_I_faultOfNode bc_I_faultOfNode 10 (some .int) :: Wk_) B.pre v (List.mem_cons_of_mem _ hv)
  have hown : s.vm.findClass Rn_I = some m.cls := findClass_of_methodNamed B.named
  have hlocks := B.notSynchronized
  have hS : va_S (Aw_ ad) s.heap s.heap [] := va_S.rf
  have Lp_19 : ∀ (n : Nat) (y1 y2 y3 y4 y5 y6 : Int32) (st : St_), wp_I_faultOfNode_19 w rec post n y1 y2 y3 y4 y5 y6 st → ∀ (H : Heap) (locs : List Loc), va_P D sC_ (wd_ ad cA w st) H → va_S (Aw_ ad) s.heap H locs → ∀ ls : Array Slot, lv_has ls 10 [(0, .ref (ad 21)), (1, .int y1), (2, .int y2), (3, .int y3), (4, .int y4), (5, .int y5), (6, .int y6)] → W p l e (headSpec (Cond.code yn_I_faultOfNode bc_I_faultOfNode 10 (some .int) :: Wk_) (rm_I_faultOfNode d)).room s m [.ref (ad 21), .int x1, .int x2].toArray below meth c H locs 0 0 (MQ below (Qi_ D ad cA w post) [.ref (ad 21), .int x1, .int x2].toArray s 0 0 (Aw_ ad)) (F0 m 19 ls []) := by
    intro n
    induction n with
    | zero => intro y1 y2 y3 y4 y5 y6 st h; exact h.elim
    | succ n ih =>
      intro y1 y2 y3 y4 y5 y6 st h H locs hP hS ls hl
      refine lv_iload hx hb dc_I_faultOfNode_19 (lv_at hl 6 rfl) ?_
      refine lv_iload_n hx hb dc_I_faultOfNode_21 rfl (lv_at hl 3 rfl) ?_
      refine lv_icmp_ge (tgt := 167) hx hb dc_I_faultOfNode_22 (by decide) (fun c => ?_) (fun c => ?_)
      · have h := h.1 c
        refine lv_aload_n hx hb dc_I_faultOfNode_167 rfl (lv_at hl 0 rfl) ?_
        refine va_get (D := D) (ci := 3) (v := .ref (ad 7)) (C := Rn_I) (T := Fn_I) (N := 7) hx hb hts in_I hown hK hP 21 rfl rfl 4 (by decide) (hts _ mw_269) (fun _ h9 => h9) rfl dc_I_faultOfNode_168 ?_
        refine lv_iload_n hx hb dc_I_faultOfNode_171 rfl (lv_at hl 1 rfl) ?_
        refine lv_iload hx hb dc_I_faultOfNode_172 (lv_at hl 4 rfl) ?_
        refine w_ist 7 (by decide) hJ hx hb hK hP hS h.1 dc_I_faultOfNode_174 (fun H locs hP hS => ?_)
        obtain ⟨st103, est103⟩ : ∃ z : St_, z = ws_1 st 7 (y1).toNatClampNeg y4 := ⟨_, rfl⟩
        rw [← est103] at hP
        have h := h.2 st103 est103
        refine lv_aload_n hx hb dc_I_faultOfNode_175 rfl (lv_at hl 0 rfl) ?_
        refine va_get (D := D) (ci := 3) (v := .ref (ad 8)) (C := Rn_I) (T := Fn_I) (N := 7) hx hb hts in_I hown hK hP 21 rfl rfl 5 (by decide) (hts _ mw_270) (fun _ h9 => h9) rfl dc_I_faultOfNode_176 ?_
        refine lv_iload_n hx hb dc_I_faultOfNode_179 rfl (lv_at hl 1 rfl) ?_
        refine lv_iload hx hb dc_I_faultOfNode_180 (lv_at hl 5 rfl) ?_
        refine w_ist 8 (by decide) hJ hx hb hK hP hS h.1 dc_I_faultOfNode_182 (fun H locs hP hS => ?_)
        obtain ⟨st104, est104⟩ : ∃ z : St_, z = ws_1 st103 8 (y1).toNatClampNeg y5 := ⟨_, rfl⟩
        rw [← est104] at hP
        have h := h.2 st104 est104
        refine lv_iconst (v := 0) hx hb dc_I_faultOfNode_183 (by decide) ?_
        exact w_iret hx hb hr hlocks hP hS h dc_I_faultOfNode_184
      · have h := h.2 c
        refine lv_aload_n hx hb dc_I_faultOfNode_25 rfl (lv_at hl 0 rfl) ?_
        refine va_get (D := D) (ci := 3) (v := .ref (ad 19)) (C := Rn_I) (T := Fn_I) (N := 7) hx hb hts in_I hown hK hP 21 rfl rfl 0 (by decide) (hts _ mw_257) (fun _ h9 => h9) rfl dc_I_faultOfNode_26 ?_
        refine lv_iload_n hx hb dc_I_faultOfNode_29 rfl (lv_at hl 1 rfl) ?_
        refine lv_iload hx hb dc_I_faultOfNode_30 (lv_at hl 6 rfl) ?_
        refine w_cVi (y := yn_B_goal) (C := Rn_B) (index := 97) (n := 2) (own := Rn_I) 19 hx hb hml hown hts hK hN hP hS (ct_B_goal l D ad cA w hJ y1 y6 st _ h) mw_48 mw_271 mw_50 mw_51 mw_18 (by decide +kernel) (by refine ⟨?_, ?_⟩ <;> (try dsimp only [headSpec]) <;> omega) rfl rfl rfl rfl rfl hl.1 rfl (lv_room (Nat.le_of_ble_eq_true rfl)) dc_I_faultOfNode_32 ⟨Nat.zero_le _, Nat.zero_le _⟩ (fun r106 st105 H locs hP hS h => ?_)
        refine lv_istore (lv' := [(7, .int r106), (0, .ref (ad 21)), (1, .int y1), (2, .int y2), (3, .int y3), (4, .int y4), (5, .int y5), (6, .int y6)]) hx hb dc_I_faultOfNode_35 hl (by decide) rfl (fun ls hl => ?_)
        refine lv_aload_n hx hb dc_I_faultOfNode_37 rfl (lv_at hl 1 rfl) ?_
        refine va_get (D := D) (ci := 3) (v := .ref (ad 19)) (C := Rn_I) (T := Fn_I) (N := 7) hx hb hts in_I hown hK hP 21 rfl rfl 0 (by decide) (hts _ mw_257) (fun _ h9 => h9) rfl dc_I_faultOfNode_38 ?_
        refine lv_iload hx hb dc_I_faultOfNode_41 (lv_at hl 0 rfl) ?_
        refine w_cVi (y := yn_B_isBlock) (C := Rn_B) (index := 66) (n := 1) (own := Rn_I) 19 hx hb hml hown hts hK hN hP hS (ct_B_isBlock l D ad cA w hJ r106 st105 _ h) mw_14 mw_258 mw_16 mw_17 mw_18 (by decide +kernel) (by refine ⟨?_, ?_⟩ <;> (try dsimp only [headSpec]) <;> omega) rfl rfl rfl rfl rfl hl.1 rfl (lv_room (Nat.le_of_ble_eq_true rfl)) dc_I_faultOfNode_43 ⟨Nat.zero_le _, Nat.zero_le _⟩ (fun r108 st107 H locs hP hS h => ?_)
        refine lv_if_eq (tgt := 64) hx hb dc_I_faultOfNode_46 (by decide) (fun c => ?_) (fun c => ?_)
        · have h := h.1 c
          refine lv_iload_n hx hb dc_I_faultOfNode_64 rfl (lv_at hl 2 rfl) ?_
          exact w_iret hx hb hr hlocks hP hS h dc_I_faultOfNode_65
        · have h := h.2 c
          refine lv_aload_n hx hb dc_I_faultOfNode_49 rfl (lv_at hl 1 rfl) ?_
          refine va_get (D := D) (ci := 3) (v := .ref (ad 19)) (C := Rn_I) (T := Fn_I) (N := 7) hx hb hts in_I hown hK hP 21 rfl rfl 0 (by decide) (hts _ mw_257) (fun _ h9 => h9) rfl dc_I_faultOfNode_50 ?_
          refine lv_iload hx hb dc_I_faultOfNode_53 (lv_at hl 0 rfl) ?_
          refine w_cVi (y := yn_B_level) (C := Rn_B) (index := 72) (n := 1) (own := Rn_I) 19 hx hb hml hown hts hK hN hP hS (ct_B_level l D ad cA w hJ r106 st107 _ h) mw_20 mw_259 mw_22 mw_23 mw_18 (by decide +kernel) (by refine ⟨?_, ?_⟩ <;> (try dsimp only [headSpec]) <;> omega) rfl rfl rfl rfl rfl hl.1 rfl (lv_room (Nat.le_of_ble_eq_true rfl)) dc_I_faultOfNode_55 ⟨Nat.zero_le _, Nat.zero_le _⟩ (fun r110 st109 H locs hP hS h => ?_)
          refine lv_iload_n hx hb dc_I_faultOfNode_58 rfl (lv_at hl 3 rfl) ?_
          refine lv_iconst (v := 1) hx hb dc_I_faultOfNode_59 (by decide) ?_
          refine lv_isub hx hb dc_I_faultOfNode_60 ?_
          refine lv_icmp_eq (tgt := 66) hx hb dc_I_faultOfNode_61 (by decide) (fun c => ?_) (fun c => ?_)
          · have h := h.1 c
            refine lv_aload_n hx hb dc_I_faultOfNode_66 rfl (lv_at hl 1 rfl) ?_
            refine va_get (D := D) (ci := 3) (v := .ref (ad 19)) (C := Rn_I) (T := Fn_I) (N := 7) hx hb hts in_I hown hK hP 21 rfl rfl 0 (by decide) (hts _ mw_257) (fun _ h9 => h9) rfl dc_I_faultOfNode_67 ?_
            refine lv_iload hx hb dc_I_faultOfNode_70 (lv_at hl 0 rfl) ?_
            refine w_cVi (y := yn_B_size) (C := Rn_B) (index := 75) (n := 1) (own := Rn_I) 19 hx hb hml hown hts hK hN hP hS (ct_B_size l D ad cA w hJ r106 st109 _ h) mw_26 mw_260 mw_28 mw_29 mw_18 (by decide +kernel) (by refine ⟨?_, ?_⟩ <;> (try dsimp only [headSpec]) <;> omega) rfl rfl rfl rfl rfl hl.1 rfl (lv_room (Nat.le_of_ble_eq_true rfl)) dc_I_faultOfNode_72 ⟨Nat.zero_le _, Nat.zero_le _⟩ (fun r112 st111 H locs hP hS h => ?_)
            refine lv_aload_n hx hb dc_I_faultOfNode_75 rfl (lv_at hl 1 rfl) ?_
            refine va_get (D := D) (ci := 3) (v := .int (nI (w / 2))) (C := Rn_I) (T := Fn_I) (N := 7) hx hb hts in_I hown hK hP 21 rfl rfl 2 (by decide) (hts _ mw_272) (fun _ h9 => h9) rfl dc_I_faultOfNode_76 ?_
            refine lv_icmp_ge (tgt := 85) hx hb dc_I_faultOfNode_79 (by decide) (fun c => ?_) (fun c => ?_)
            · have h := h.1 c
              refine lv_aload_n hx hb dc_I_faultOfNode_85 rfl (lv_at hl 1 rfl) ?_
              refine lv_iload hx hb dc_I_faultOfNode_86 (lv_at hl 0 rfl) ?_
              refine lv_iload_n hx hb dc_I_faultOfNode_88 rfl (lv_at hl 3 rfl) ?_
              refine lv_iconst (v := 1) hx hb dc_I_faultOfNode_89 (by decide) ?_
              refine lv_isub hx hb dc_I_faultOfNode_90 ?_
              refine w_cVi (y := yn_I_faultBelow) (C := Rn_I) (index := 78) (n := 2) (own := Rn_I) 21 hx hb hml hown hts hK hN hP hS (hrec r106 (y2 - 1) st111 _ h) mw_273 mw_274 mw_275 mw_276 mw_268 (by decide +kernel) (by refine ⟨?_, ?_⟩ <;> (try dsimp only [headSpec]) <;> omega) rfl rfl rfl rfl rfl hl.1 rfl (lv_room (Nat.le_of_ble_eq_true rfl)) dc_I_faultOfNode_91 ⟨Nat.zero_le _, Nat.zero_le _⟩ (fun r114 st113 H locs hP hS h => ?_)
              refine lv_istore (lv' := [(8, .int r114), (7, .int r106), (0, .ref (ad 21)), (1, .int y1), (2, .int y2), (3, .int y3), (4, .int y4), (5, .int y5), (6, .int y6)]) hx hb dc_I_faultOfNode_94 hl (by decide) rfl (fun ls hl => ?_)
              refine lv_iload hx hb dc_I_faultOfNode_96 (lv_at hl 0 rfl) ?_
              refine lv_if_eq (tgt := 104) hx hb dc_I_faultOfNode_98 (by decide) (fun c => ?_) (fun c => ?_)
              · have h := h.1 c
                refine lv_aload_n hx hb dc_I_faultOfNode_104 rfl (lv_at hl 2 rfl) ?_
                refine va_get (D := D) (ci := 3) (v := .ref (ad 19)) (C := Rn_I) (T := Fn_I) (N := 7) hx hb hts in_I hown hK hP 21 rfl rfl 0 (by decide) (hts _ mw_257) (fun _ h9 => h9) rfl dc_I_faultOfNode_105 ?_
                refine lv_iload_n hx hb dc_I_faultOfNode_108 rfl (lv_at hl 3 rfl) ?_
                refine lv_iload hx hb dc_I_faultOfNode_109 (lv_at hl 8 rfl) ?_
                refine w_cVi (y := yn_B_key) (C := Rn_B) (index := 91) (n := 2) (own := Rn_I) 19 hx hb hml hown hts hK hN hP hS (ct_B_key l D ad cA w hJ y1 y6 st113 _ h) mw_43 mw_263 mw_45 mw_46 mw_18 (by decide +kernel) (by refine ⟨?_, ?_⟩ <;> (try dsimp only [headSpec]) <;> omega) rfl rfl rfl rfl rfl hl.1 rfl (lv_room (Nat.le_of_ble_eq_true rfl)) dc_I_faultOfNode_111 ⟨Nat.zero_le _, Nat.zero_le _⟩ (fun r116 st115 H locs hP hS h => ?_)
                refine lv_istore (lv' := [(9, .int r116), (8, .int r114), (7, .int r106), (0, .ref (ad 21)), (1, .int y1), (2, .int y2), (3, .int y3), (4, .int y4), (5, .int y5), (6, .int y6)]) hx hb dc_I_faultOfNode_114 hl (by decide) rfl (fun ls hl => ?_)
                refine lv_iload hx hb dc_I_faultOfNode_116 (lv_at hl 0 rfl) ?_
                refine lv_aload_n hx hb dc_I_faultOfNode_118 rfl (lv_at hl 3 rfl) ?_
                refine va_get (D := D) (ci := 3) (v := .ref (ad 19)) (C := Rn_I) (T := Fn_I) (N := 7) hx hb hts in_I hown hK hP 21 rfl rfl 0 (by decide) (hts _ mw_257) (fun _ h9 => h9) rfl dc_I_faultOfNode_119 ?_
                refine lv_iload hx hb dc_I_faultOfNode_122 (lv_at hl 2 rfl) ?_
                refine lv_iconst (v := 0) hx hb dc_I_faultOfNode_124 (by decide) ?_
                refine w_cVi (y := yn_B_key) (C := Rn_B) (index := 91) (n := 2) (own := Rn_I) 19 hx hb hml hown hts hK hN hP hS (ct_B_key l D ad cA w hJ r106 0 st115 _ h) mw_43 mw_263 mw_45 mw_46 mw_18 (by decide +kernel) (by refine ⟨?_, ?_⟩ <;> (try dsimp only [headSpec]) <;> omega) rfl rfl rfl rfl rfl hl.1 rfl (lv_room (Nat.le_of_ble_eq_true rfl)) dc_I_faultOfNode_125 ⟨Nat.zero_le _, Nat.zero_le _⟩ (fun r118 st117 H locs hP hS h => ?_)
                refine lv_icmp_ne (tgt := 138) hx hb dc_I_faultOfNode_128 (by decide) (fun c => ?_) (fun c => ?_)
                · have h := h.1 c
                  refine lv_iload_n hx hb dc_I_faultOfNode_138 rfl (lv_at hl 4 rfl) ?_
                  exact w_iret hx hb hr hlocks hP hS h dc_I_faultOfNode_139
                · have h := h.2 c
                  refine lv_iload hx hb dc_I_faultOfNode_131 (lv_at hl 0 rfl) ?_
                  refine lv_iload hx hb dc_I_faultOfNode_133 (lv_at hl 8 rfl) ?_
                  refine lv_icmp_gt (tgt := 140) hx hb dc_I_faultOfNode_135 (by decide) (fun c => ?_) (fun c => ?_)
                  · have h := h.1 c
                    refine lv_aload_n hx hb dc_I_faultOfNode_140 rfl (lv_at hl 3 rfl) ?_
                    refine va_get (D := D) (ci := 3) (v := .ref (ad 8)) (C := Rn_I) (T := Fn_I) (N := 7) hx hb hts in_I hown hK hP 21 rfl rfl 5 (by decide) (hts _ mw_270) (fun _ h9 => h9) rfl dc_I_faultOfNode_141 ?_
                    refine lv_iload hx hb dc_I_faultOfNode_144 (lv_at hl 2 rfl) ?_
                    refine w_ild 8 (by decide) hx hb hK hP h.1 dc_I_faultOfNode_146 ?_
                    have h := h.2
                    refine lv_topi (fun x119 ex119 => ?_)
                    have h := h x119 ex119
                    refine lv_istore (lv' := [(5, .int x119), (9, .int r116), (8, .int r114), (7, .int r106), (0, .ref (ad 21)), (1, .int y1), (2, .int y2), (3, .int y3), (4, .int y4), (6, .int y6)]) hx hb dc_I_faultOfNode_147 hl (by decide) rfl (fun ls hl => ?_)
                    refine lv_iload hx hb dc_I_faultOfNode_149 (lv_at hl 8 rfl) ?_
                    refine lv_aload_n hx hb dc_I_faultOfNode_151 rfl (lv_at hl 4 rfl) ?_
                    refine va_get (D := D) (ci := 3) (v := .ref (ad 7)) (C := Rn_I) (T := Fn_I) (N := 7) hx hb hts in_I hown hK hP 21 rfl rfl 4 (by decide) (hts _ mw_269) (fun _ h9 => h9) rfl dc_I_faultOfNode_152 ?_
                    refine lv_iload hx hb dc_I_faultOfNode_155 (lv_at hl 3 rfl) ?_
                    refine w_ild 7 (by decide) hx hb hK hP h.1 dc_I_faultOfNode_157 ?_
                    have h := h.2
                    refine lv_iadd hx hb dc_I_faultOfNode_158 ?_
                    refine lv_topi (fun x120 ex120 => ?_)
                    have h := h x120 ex120
                    refine lv_istore (lv' := [(4, .int x120), (5, .int x119), (9, .int r116), (8, .int r114), (7, .int r106), (0, .ref (ad 21)), (1, .int y1), (2, .int y2), (3, .int y3), (6, .int y6)]) hx hb dc_I_faultOfNode_159 hl (by decide) rfl (fun ls hl => ?_)
                    obtain ⟨x121, ex121⟩ : ∃ y : Int32, y = y6 + 1 := ⟨_, rfl⟩
                    have h := h x121 ex121
                    refine lv_iinc (v := x121) (lv' := [(6, .int x121), (4, .int x120), (5, .int x119), (9, .int r116), (8, .int r114), (7, .int r106), (0, .ref (ad 21)), (1, .int y1), (2, .int y2), (3, .int y3)]) hx hb dc_I_faultOfNode_161 hl (k := 9) rfl (by rw [ex121]; rfl) (by decide) rfl (fun ls hl => ?_)
                    refine lv_goto (tgt := 19) hx hb dc_I_faultOfNode_164 (by decide) ?_
                    exact ih y1 y2 y3 x120 x119 x121 st117 h _ _ hP hS ls (lv_sub hl [6, 7, 8, 9, 1, 2, 0] rfl)
                  · have h := h.2 c
                    refine lv_iload_n hx hb dc_I_faultOfNode_138 rfl (lv_at hl 4 rfl) ?_
                    exact w_iret hx hb hr hlocks hP hS h dc_I_faultOfNode_139
              · have h := h.2 c
                refine lv_iload hx hb dc_I_faultOfNode_101 (lv_at hl 0 rfl) ?_
                exact w_iret hx hb hr hlocks hP hS h dc_I_faultOfNode_103
            · have h := h.2 c
              refine lv_iload hx hb dc_I_faultOfNode_82 (lv_at hl 0 rfl) ?_
              exact w_iret hx hb hr hlocks hP hS h dc_I_faultOfNode_84
          · have h := h.2 c
            refine lv_iload_n hx hb dc_I_faultOfNode_64 rfl (lv_at hl 2 rfl) ?_
            exact w_iret hx hb hr hlocks hP hS h dc_I_faultOfNode_65
  have hl := lv_entry ([.ref (ad 21), .int x1, .int x2]) (n := 10) (Nat.le_of_ble_eq_true rfl)
  rw [lg_entry_eq]
  generalize (lg_sl ([.ref (ad 21), .int x1, .int x2]) ++ List.replicate (10 - (lg_sl ([.ref (ad 21), .int x1, .int x2])).length) Slot.unset).toArray = ls at hl ⊢
  have hl : lv_has ls 10 [(0, .ref (ad 21)), (1, .int x1), (2, .int x2)] := hl
  refine lv_aload_n hx hb dc_I_faultOfNode_0 rfl (lv_at hl 0 rfl) ?_
  refine va_get (D := D) (ci := 3) (v := .ref (ad 19)) (C := Rn_I) (T := Fn_I) (N := 7) hx hb hts in_I hown hK hP 21 rfl rfl 0 (by decide) (hts _ mw_257) (fun _ h9 => h9) rfl dc_I_faultOfNode_1 ?_
  refine lv_iload_n hx hb dc_I_faultOfNode_4 rfl (lv_at hl 1 rfl) ?_
  refine w_cVi (y := yn_B_size) (C := Rn_B) (index := 75) (n := 1) (own := Rn_I) 19 hx hb hml hown hts hK hN hP hS (ct_B_size l D ad cA w hJ x1 st _ h) mw_26 mw_260 mw_28 mw_29 mw_18 (by decide +kernel) (by refine ⟨?_, ?_⟩ <;> (try dsimp only [headSpec]) <;> omega) rfl rfl rfl rfl rfl hl.1 rfl (lv_room (Nat.le_of_ble_eq_true rfl)) dc_I_faultOfNode_5 ⟨Nat.zero_le _, Nat.zero_le _⟩ (fun r102 st101 H locs hP hS h => ?_)
  refine lv_istore_n (lv' := [(3, .int r102), (0, .ref (ad 21)), (1, .int x1), (2, .int x2)]) hx hb dc_I_faultOfNode_8 rfl hl (by decide) rfl (fun ls hl => ?_)
  refine lv_iconst (v := 0) hx hb dc_I_faultOfNode_9 (by decide) ?_
  refine lv_istore (lv' := [(4, .int 0), (3, .int r102), (0, .ref (ad 21)), (1, .int x1), (2, .int x2)]) hx hb dc_I_faultOfNode_10 hl (by decide) rfl (fun ls hl => ?_)
  refine lv_bipush (v := (-2)) hx hb dc_I_faultOfNode_12 (by decide) ?_
  refine lv_istore (lv' := [(5, .int (-2)), (4, .int 0), (3, .int r102), (0, .ref (ad 21)), (1, .int x1), (2, .int x2)]) hx hb dc_I_faultOfNode_14 hl (by decide) rfl (fun ls hl => ?_)
  refine lv_iconst (v := 0) hx hb dc_I_faultOfNode_16 (by decide) ?_
  refine lv_istore (lv' := [(6, .int 0), (5, .int (-2)), (4, .int 0), (3, .int r102), (0, .ref (ad 21)), (1, .int x1), (2, .int x2)]) hx hb dc_I_faultOfNode_17 hl (by decide) rfl (fun ls hl => ?_)
  obtain ⟨n, h⟩ := h
  exact Lp_19 n x1 x2 r102 0 (-2) 0 st101 h _ _ hP hS ls (lv_sub hl [4, 5, 6, 3, 2, 1, 0] rfl)
end
section
set_option maxHeartbeats 4000000 in
set_option maxRecDepth 100000 in
theorem ct_I_faultOfLeaf (l : Launch) (D : va_G) (ad : Nat → Nat) (cA : Nat → ClassId) (w : Nat) (hJ : Jn_ ad) (x1 : Int32) (st : St_) (post : Int32 → St_ → Prop) (h : wp_I_faultOfLeaf w x1 st post) : Met l yn_I_faultOfLeaf (Cond.code yn_I_faultOfLeaf bc_I_faultOfLeaf 4 (some .int) :: Wk_) rm_I_faultOfLeaf (Pw_ D ad cA w st [.ref (ad 21), .int x1]) (Qi_ D ad cA w post) 0 0 (Aw_ ad) := by
  refine Met.ofW (cc := bc_I_faultOfLeaf) (maxL := 4) (ret := (some .int)) (by decide) rfl ?_
  intro p e s m args below meth c s₁ B hml hv
  obtain ⟨rfl, hP, hK, hN⟩ := hv
  have hx := B.exec
  have hb := B.bytes
  have hr := B.returns
  have hts : ∀ v ∈ Wk_, v.before [.ref (ad 21), .int x1].toArray s = true := fun v hv => atoms_spec (ws := Cond.code yn_I_faultOfLeaf bc_I_faultOfLeaf 4 (some .int) :: Wk_) B.pre v (List.mem_cons_of_mem _ hv)
  have hown : s.vm.findClass Rn_I = some m.cls := findClass_of_methodNamed B.named
  have hlocks := B.notSynchronized
  have hS : va_S (Aw_ ad) s.heap s.heap [] := va_S.rf
  have Lp_11 : ∀ (n : Nat) (y1 y2 y3 : Int32) (st : St_), wp_I_faultOfLeaf_11 w post n y1 y2 y3 st → ∀ (H : Heap) (locs : List Loc), va_P D sC_ (wd_ ad cA w st) H → va_S (Aw_ ad) s.heap H locs → ∀ ls : Array Slot, lv_has ls 4 [(0, .ref (ad 21)), (1, .int y1), (2, .int y2), (3, .int y3)] → W p l e (headSpec (Cond.code yn_I_faultOfLeaf bc_I_faultOfLeaf 4 (some .int) :: Wk_) rm_I_faultOfLeaf).room s m [.ref (ad 21), .int x1].toArray below meth c H locs 0 0 (MQ below (Qi_ D ad cA w post) [.ref (ad 21), .int x1].toArray s 0 0 (Aw_ ad)) (F0 m 11 ls []) := by
    intro n
    induction n with
    | zero => intro y1 y2 y3 st h; exact h.elim
    | succ n ih =>
      intro y1 y2 y3 st h H locs hP hS ls hl
      refine lv_iload_n hx hb dc_I_faultOfLeaf_11 rfl (lv_at hl 3 rfl) ?_
      refine lv_iload_n hx hb dc_I_faultOfLeaf_12 rfl (lv_at hl 2 rfl) ?_
      refine lv_icmp_ge (tgt := 39) hx hb dc_I_faultOfLeaf_13 (by decide) (fun c => ?_) (fun c => ?_)
      · have h := h.1 c
        refine lv_aload_n hx hb dc_I_faultOfLeaf_39 rfl (lv_at hl 0 rfl) ?_
        refine va_get (D := D) (ci := 3) (v := .ref (ad 7)) (C := Rn_I) (T := Fn_I) (N := 7) hx hb hts in_I hown hK hP 21 rfl rfl 4 (by decide) (hts _ mw_269) (fun _ h9 => h9) rfl dc_I_faultOfLeaf_40 ?_
        refine lv_iload_n hx hb dc_I_faultOfLeaf_43 rfl (lv_at hl 1 rfl) ?_
        refine lv_iload_n hx hb dc_I_faultOfLeaf_44 rfl (lv_at hl 2 rfl) ?_
        refine w_ist 7 (by decide) hJ hx hb hK hP hS h.1 dc_I_faultOfLeaf_45 (fun H locs hP hS => ?_)
        obtain ⟨st103, est103⟩ : ∃ z : St_, z = ws_1 st 7 (y1).toNatClampNeg y2 := ⟨_, rfl⟩
        rw [← est103] at hP
        have h := h.2 st103 est103
        refine lv_aload_n hx hb dc_I_faultOfLeaf_46 rfl (lv_at hl 0 rfl) ?_
        refine va_get (D := D) (ci := 3) (v := .ref (ad 8)) (C := Rn_I) (T := Fn_I) (N := 7) hx hb hts in_I hown hK hP 21 rfl rfl 5 (by decide) (hts _ mw_270) (fun _ h9 => h9) rfl dc_I_faultOfLeaf_47 ?_
        refine lv_iload_n hx hb dc_I_faultOfLeaf_50 rfl (lv_at hl 1 rfl) ?_
        refine lv_aload_n hx hb dc_I_faultOfLeaf_51 rfl (lv_at hl 0 rfl) ?_
        refine va_get (D := D) (ci := 3) (v := .ref (ad 19)) (C := Rn_I) (T := Fn_I) (N := 7) hx hb hts in_I hown hK hP 21 rfl rfl 0 (by decide) (hts _ mw_257) (fun _ h9 => h9) rfl dc_I_faultOfLeaf_52 ?_
        refine lv_iload_n hx hb dc_I_faultOfLeaf_55 rfl (lv_at hl 1 rfl) ?_
        refine lv_iload_n hx hb dc_I_faultOfLeaf_56 rfl (lv_at hl 2 rfl) ?_
        refine lv_iconst (v := 1) hx hb dc_I_faultOfLeaf_57 (by decide) ?_
        refine lv_isub hx hb dc_I_faultOfLeaf_58 ?_
        refine w_cVi (y := yn_B_key) (C := Rn_B) (index := 91) (n := 2) (own := Rn_I) 19 hx hb hml hown hts hK hN hP hS (ct_B_key l D ad cA w hJ y1 (y2 - 1) st103 _ h) mw_43 mw_263 mw_45 mw_46 mw_18 (by decide +kernel) ⟨Nat.le_of_ble_eq_true rfl, Nat.le_of_ble_eq_true rfl⟩ rfl rfl rfl rfl rfl hl.1 rfl (lv_room (Nat.le_of_ble_eq_true rfl)) dc_I_faultOfLeaf_59 ⟨Nat.zero_le _, Nat.zero_le _⟩ (fun r105 st104 H locs hP hS h => ?_)
        refine w_ist 8 (by decide) hJ hx hb hK hP hS h.1 dc_I_faultOfLeaf_62 (fun H locs hP hS => ?_)
        obtain ⟨st106, est106⟩ : ∃ z : St_, z = ws_1 st104 8 (y1).toNatClampNeg r105 := ⟨_, rfl⟩
        rw [← est106] at hP
        have h := h.2 st106 est106
        refine lv_iconst (v := 0) hx hb dc_I_faultOfLeaf_63 (by decide) ?_
        exact w_iret hx hb hr hlocks hP hS h dc_I_faultOfLeaf_64
      · have h := h.2 c
        refine lv_aload_n hx hb dc_I_faultOfLeaf_16 rfl (lv_at hl 0 rfl) ?_
        refine va_get (D := D) (ci := 3) (v := .ref (ad 19)) (C := Rn_I) (T := Fn_I) (N := 7) hx hb hts in_I hown hK hP 21 rfl rfl 0 (by decide) (hts _ mw_257) (fun _ h9 => h9) rfl dc_I_faultOfLeaf_17 ?_
        refine lv_iload_n hx hb dc_I_faultOfLeaf_20 rfl (lv_at hl 1 rfl) ?_
        refine lv_iload_n hx hb dc_I_faultOfLeaf_21 rfl (lv_at hl 3 rfl) ?_
        refine w_cVi (y := yn_B_goal) (C := Rn_B) (index := 97) (n := 2) (own := Rn_I) 19 hx hb hml hown hts hK hN hP hS (ct_B_goal l D ad cA w hJ y1 y3 st _ h) mw_48 mw_271 mw_50 mw_51 mw_18 (by decide +kernel) ⟨Nat.le_of_ble_eq_true rfl, Nat.le_of_ble_eq_true rfl⟩ rfl rfl rfl rfl rfl hl.1 rfl (lv_room (Nat.le_of_ble_eq_true rfl)) dc_I_faultOfLeaf_22 ⟨Nat.zero_le _, Nat.zero_le _⟩ (fun r108 st107 H locs hP hS h => ?_)
        refine w_cNi (y := yn_S_isStamp) (index := 100) (n := 1) (own := Rn_I) (host := nh_) hx hb hml hown hts hK hN hP hS (ct_S_isStamp l D ad cA w hJ r108 st107 _ h) mw_8 (hN.2 _ nm_1) mw_10 mw_3 (by decide +kernel) ⟨Nat.le_of_ble_eq_true rfl, Nat.le_of_ble_eq_true rfl⟩ rfl rfl rfl hl.1 rfl (lv_room (Nat.le_of_ble_eq_true rfl)) dc_I_faultOfLeaf_25 ⟨Nat.zero_le _, Nat.zero_le _⟩ (fun r110 st109 H locs hP hS h => ?_)
        refine lv_if_ne (tgt := 33) hx hb dc_I_faultOfLeaf_28 (by decide) (fun c => ?_) (fun c => ?_)
        · have h := h.1 c
          obtain ⟨x111, ex111⟩ : ∃ y : Int32, y = y3 + 1 := ⟨_, rfl⟩
          have h := h x111 ex111
          refine lv_iinc (v := x111) (lv' := [(3, .int x111), (0, .ref (ad 21)), (1, .int y1), (2, .int y2)]) hx hb dc_I_faultOfLeaf_33 hl (k := 3) rfl (by rw [ex111]; rfl) (by decide) rfl (fun ls hl => ?_)
          refine lv_goto (tgt := 11) hx hb dc_I_faultOfLeaf_36 (by decide) ?_
          exact ih y1 y2 x111 st109 h _ _ hP hS ls (lv_sub hl [1, 2, 3, 0] rfl)
        · have h := h.2 c
          refine lv_iload_n hx hb dc_I_faultOfLeaf_31 rfl (lv_at hl 1 rfl) ?_
          exact w_iret hx hb hr hlocks hP hS h dc_I_faultOfLeaf_32
  have hl := lv_entry ([.ref (ad 21), .int x1]) (n := 4) (Nat.le_of_ble_eq_true rfl)
  rw [lg_entry_eq]
  generalize (lg_sl ([.ref (ad 21), .int x1]) ++ List.replicate (4 - (lg_sl ([.ref (ad 21), .int x1])).length) Slot.unset).toArray = ls at hl ⊢
  have hl : lv_has ls 4 [(0, .ref (ad 21)), (1, .int x1)] := hl
  refine lv_aload_n hx hb dc_I_faultOfLeaf_0 rfl (lv_at hl 0 rfl) ?_
  refine va_get (D := D) (ci := 3) (v := .ref (ad 19)) (C := Rn_I) (T := Fn_I) (N := 7) hx hb hts in_I hown hK hP 21 rfl rfl 0 (by decide) (hts _ mw_257) (fun _ h9 => h9) rfl dc_I_faultOfLeaf_1 ?_
  refine lv_iload_n hx hb dc_I_faultOfLeaf_4 rfl (lv_at hl 1 rfl) ?_
  refine w_cVi (y := yn_B_size) (C := Rn_B) (index := 75) (n := 1) (own := Rn_I) 19 hx hb hml hown hts hK hN hP hS (ct_B_size l D ad cA w hJ x1 st _ h) mw_26 mw_260 mw_28 mw_29 mw_18 (by decide +kernel) ⟨Nat.le_of_ble_eq_true rfl, Nat.le_of_ble_eq_true rfl⟩ rfl rfl rfl rfl rfl hl.1 rfl (lv_room (Nat.le_of_ble_eq_true rfl)) dc_I_faultOfLeaf_5 ⟨Nat.zero_le _, Nat.zero_le _⟩ (fun r102 st101 H locs hP hS h => ?_)
  refine lv_istore_n (lv' := [(2, .int r102), (0, .ref (ad 21)), (1, .int x1)]) hx hb dc_I_faultOfLeaf_8 rfl hl (by decide) rfl (fun ls hl => ?_)
  refine lv_iconst (v := 0) hx hb dc_I_faultOfLeaf_9 (by decide) ?_
  refine lv_istore_n (lv' := [(3, .int 0), (2, .int r102), (0, .ref (ad 21)), (1, .int x1)]) hx hb dc_I_faultOfLeaf_10 rfl hl (by decide) rfl (fun ls hl => ?_)
  obtain ⟨n, h⟩ := h
  exact Lp_11 n x1 r102 0 st101 h _ _ hP hS ls (lv_sub hl [2, 3, 1, 0] rfl)
end
section
set_option maxHeartbeats 4000000 in
set_option maxRecDepth 100000 in
theorem ct_I_faultBelow (l : Launch) (D : va_G) (ad : Nat → Nat) (cA : Nat → ClassId) (w : Nat) (hJ : Jn_ ad) (d : Nat) : ∀ (x1 : Int32) (x2 : Int32) (st : St_) (post : Int32 → St_ → Prop), wp_I_faultBelow w d x1 x2 st post → Met l yn_I_faultBelow (Cond.code yn_I_faultBelow bc_I_faultBelow 3 (some .int) :: Wk_) (rm_I_faultBelow d) (Pw_ D ad cA w st [.ref (ad 21), .int x1, .int x2]) (Qi_ D ad cA w post) 0 0 (Aw_ ad) := by
  induction d with
  | zero =>
    intro x1 x2 st post h
    exact h.elim
  | succ d ihd =>
    intro x1 x2 st post h
    refine Met.ofW (cc := bc_I_faultBelow) (maxL := 3) (ret := (some .int)) (by decide) rfl ?_
    intro p e s m args below meth c s₁ B hml hv
    obtain ⟨rfl, hP, hK, hN⟩ := hv
    have hx := B.exec
    have hb := B.bytes
    have hr := B.returns
    have hts : ∀ v ∈ Wk_, v.before [.ref (ad 21), .int x1, .int x2].toArray s = true := fun v hv => atoms_spec (ws := Cond.code yn_I_faultBelow bc_I_faultBelow 3 (some .int) :: Wk_) B.pre v (List.mem_cons_of_mem _ hv)
    have hown : s.vm.findClass Rn_I = some m.cls := findClass_of_methodNamed B.named
    have hlocks := B.notSynchronized
    have hS : va_S (Aw_ ad) s.heap s.heap [] := va_S.rf
    have hl := lv_entry ([.ref (ad 21), .int x1, .int x2]) (n := 3) (Nat.le_of_ble_eq_true rfl)
    rw [lg_entry_eq]
    generalize (lg_sl ([.ref (ad 21), .int x1, .int x2]) ++ List.replicate (3 - (lg_sl ([.ref (ad 21), .int x1, .int x2])).length) Slot.unset).toArray = ls at hl ⊢
    have hl : lv_has ls 3 [(0, .ref (ad 21)), (1, .int x1), (2, .int x2)] := hl
    refine lv_iload_n hx hb dc_I_faultBelow_0 rfl (lv_at hl 2 rfl) ?_
    refine lv_if_lt (tgt := 21) hx hb dc_I_faultBelow_1 (by decide) (fun c => ?_) (fun c => ?_)
    · have h := h.1 c
      refine lv_sipush (v := 1219) hx hb dc_I_faultBelow_21 (by decide) ?_
      exact w_iret hx hb hr hlocks hP hS h dc_I_faultBelow_24
    · have h := h.2 c
      refine lv_iload_n hx hb dc_I_faultBelow_4 rfl (lv_at hl 2 rfl) ?_
      refine lv_bipush (v := 16) hx hb dc_I_faultBelow_5 (by decide) ?_
      refine lv_icmp_gt (tgt := 21) hx hb dc_I_faultBelow_7 (by decide) (fun c => ?_) (fun c => ?_)
      · have h := h.1 c
        refine lv_sipush (v := 1219) hx hb dc_I_faultBelow_21 (by decide) ?_
        exact w_iret hx hb hr hlocks hP hS h dc_I_faultBelow_24
      · have h := h.2 c
        refine lv_aload_n hx hb dc_I_faultBelow_10 rfl (lv_at hl 0 rfl) ?_
        refine va_get (D := D) (ci := 3) (v := .ref (ad 19)) (C := Rn_I) (T := Fn_I) (N := 7) hx hb hts in_I hown hK hP 21 rfl rfl 0 (by decide) (hts _ mw_257) (fun _ h9 => h9) rfl dc_I_faultBelow_11 ?_
        refine lv_iload_n hx hb dc_I_faultBelow_14 rfl (lv_at hl 1 rfl) ?_
        refine w_cVi (y := yn_B_isBlock) (C := Rn_B) (index := 66) (n := 1) (own := Rn_I) 19 hx hb hml hown hts hK hN hP hS (ct_B_isBlock l D ad cA w hJ x1 st _ h) mw_14 mw_258 mw_16 mw_17 mw_18 (by decide +kernel) (by refine ⟨?_, ?_⟩ <;> (try dsimp only [headSpec]) <;> omega) rfl rfl rfl rfl rfl hl.1 rfl (lv_room (Nat.le_of_ble_eq_true rfl)) dc_I_faultBelow_15 ⟨Nat.zero_le _, Nat.zero_le _⟩ (fun r102 st101 H locs hP hS h => ?_)
        refine lv_if_ne (tgt := 25) hx hb dc_I_faultBelow_18 (by decide) (fun c => ?_) (fun c => ?_)
        · have h := h.1 c
          refine lv_aload_n hx hb dc_I_faultBelow_25 rfl (lv_at hl 0 rfl) ?_
          refine va_get (D := D) (ci := 3) (v := .ref (ad 6)) (C := Rn_I) (T := Fn_I) (N := 7) hx hb hts in_I hown hK hP 21 rfl rfl 3 (by decide) (hts _ mw_261) (fun _ h9 => h9) rfl dc_I_faultBelow_26 ?_
          refine lv_iload_n hx hb dc_I_faultBelow_29 rfl (lv_at hl 1 rfl) ?_
          refine lv_dup2_11 hx hb dc_I_faultBelow_30 rfl rfl ?_
          refine w_ild 6 (by decide) hx hb hK hP h.1 dc_I_faultBelow_31 ?_
          have h := h.2
          refine lv_iconst (v := 1) hx hb dc_I_faultBelow_32 (by decide) ?_
          refine lv_iadd hx hb dc_I_faultBelow_33 ?_
          refine w_ist 6 (by decide) hJ hx hb hK hP hS h.1 dc_I_faultBelow_34 (fun H locs hP hS => ?_)
          obtain ⟨st103, est103⟩ : ∃ z : St_, z = ws_1 st101 6 (x1).toNatClampNeg ((st101 6 (x1).toNatClampNeg) + 1) := ⟨_, rfl⟩
          rw [← est103] at hP
          have h := h.2 st103 est103
          refine lv_aload_n hx hb dc_I_faultBelow_35 rfl (lv_at hl 0 rfl) ?_
          refine va_get (D := D) (ci := 3) (v := .ref (ad 6)) (C := Rn_I) (T := Fn_I) (N := 7) hx hb hts in_I hown hK hP 21 rfl rfl 3 (by decide) (hts _ mw_261) (fun _ h9 => h9) rfl dc_I_faultBelow_36 ?_
          refine lv_iload_n hx hb dc_I_faultBelow_39 rfl (lv_at hl 1 rfl) ?_
          refine w_ild 6 (by decide) hx hb hK hP h.1 dc_I_faultBelow_40 ?_
          have h := h.2
          refine lv_iconst (v := 1) hx hb dc_I_faultBelow_41 (by decide) ?_
          refine lv_icmp_le (tgt := 47) hx hb dc_I_faultBelow_42 (by decide) (fun c => ?_) (fun c => ?_)
          · have h := h.1 c
            refine lv_aload_n hx hb dc_I_faultBelow_47 rfl (lv_at hl 0 rfl) ?_
            refine lv_iload_n hx hb dc_I_faultBelow_48 rfl (lv_at hl 1 rfl) ?_
            refine w_cVi (y := yn_I_hasOrder) (C := Rn_I) (index := 82) (n := 1) (own := Rn_I) 21 hx hb hml hown hts hK hN hP hS (ct_I_hasOrder l D ad cA w hJ x1 st103 _ h) mw_264 mw_265 mw_266 mw_267 mw_268 (by decide +kernel) (by refine ⟨?_, ?_⟩ <;> (try dsimp only [headSpec]) <;> omega) rfl rfl rfl rfl rfl hl.1 rfl (lv_room (Nat.le_of_ble_eq_true rfl)) dc_I_faultBelow_49 ⟨Nat.zero_le _, Nat.zero_le _⟩ (fun r105 st104 H locs hP hS h => ?_)
            refine lv_if_ne (tgt := 57) hx hb dc_I_faultBelow_52 (by decide) (fun c => ?_) (fun c => ?_)
            · have h := h.1 c
              refine lv_iload_n hx hb dc_I_faultBelow_57 rfl (lv_at hl 2 rfl) ?_
              refine lv_if_ne (tgt := 69) hx hb dc_I_faultBelow_58 (by decide) (fun c => ?_) (fun c => ?_)
              · have h := h.1 c
                refine lv_aload_n hx hb dc_I_faultBelow_69 rfl (lv_at hl 0 rfl) ?_
                refine lv_iload_n hx hb dc_I_faultBelow_70 rfl (lv_at hl 1 rfl) ?_
                refine lv_iload_n hx hb dc_I_faultBelow_71 rfl (lv_at hl 2 rfl) ?_
                refine w_cVi (y := yn_I_faultOfNode) (C := Rn_I) (index := 88) (n := 2) (own := Rn_I) 21 hx hb hml hown hts hK hN hP hS (ct_I_faultOfNode l D ad cA w hJ d (wp_I_faultBelow w d) ihd x1 x2 st104 _ h) mw_277 mw_278 mw_279 mw_280 mw_268 (by decide +kernel) (by refine ⟨?_, ?_⟩ <;> (try dsimp only [headSpec]) <;> omega) rfl rfl rfl rfl rfl hl.1 rfl (lv_room (Nat.le_of_ble_eq_true rfl)) dc_I_faultBelow_72 ⟨Nat.zero_le _, Nat.zero_le _⟩ (fun r107 st106 H locs hP hS h => ?_)
                exact w_iret hx hb hr hlocks hP hS h dc_I_faultBelow_75
              · have h := h.2 c
                refine lv_aload_n hx hb dc_I_faultBelow_61 rfl (lv_at hl 0 rfl) ?_
                refine lv_iload_n hx hb dc_I_faultBelow_62 rfl (lv_at hl 1 rfl) ?_
                refine w_cVi (y := yn_I_faultOfLeaf) (C := Rn_I) (index := 85) (n := 1) (own := Rn_I) 21 hx hb hml hown hts hK hN hP hS (ct_I_faultOfLeaf l D ad cA w hJ x1 st104 _ h) mw_281 mw_282 mw_283 mw_284 mw_268 (by decide +kernel) (by refine ⟨?_, ?_⟩ <;> (try dsimp only [headSpec]) <;> omega) rfl rfl rfl rfl rfl hl.1 rfl (lv_room (Nat.le_of_ble_eq_true rfl)) dc_I_faultBelow_63 ⟨Nat.zero_le _, Nat.zero_le _⟩ (fun r109 st108 H locs hP hS h => ?_)
                refine lv_goto (tgt := 75) hx hb dc_I_faultBelow_66 (by decide) ?_
                exact w_iret hx hb hr hlocks hP hS h dc_I_faultBelow_75
            · have h := h.2 c
              refine lv_iload_n hx hb dc_I_faultBelow_55 rfl (lv_at hl 1 rfl) ?_
              exact w_iret hx hb hr hlocks hP hS h dc_I_faultBelow_56
          · have h := h.2 c
            refine lv_iconst (v := 0) hx hb dc_I_faultBelow_45 (by decide) ?_
            exact w_iret hx hb hr hlocks hP hS h dc_I_faultBelow_46
        · have h := h.2 c
          refine lv_sipush (v := 1219) hx hb dc_I_faultBelow_21 (by decide) ?_
          exact w_iret hx hb hr hlocks hP hS h dc_I_faultBelow_24
end
section
set_option maxHeartbeats 4000000 in
set_option maxRecDepth 100000 in
theorem ct_I_faultOfTree (l : Launch) (D : va_G) (ad : Nat → Nat) (cA : Nat → ClassId) (w : Nat) (hJ : Jn_ ad) (x1 : Int32) (x2 : Int32) (x3 : Int32) (st : St_) (post : Int32 → St_ → Prop) (h : wp_I_faultOfTree w x1 x2 x3 st post) : Met l yn_I_faultOfTree (Cond.code yn_I_faultOfTree bc_I_faultOfTree 6 (some .int) :: Wk_) rm_I_faultOfTree (Pw_ D ad cA w st [.ref (ad 21), .int x1, .int x2, .int x3]) (Qi_ D ad cA w post) 0 0 (Aw_ ad) := by
  refine Met.ofW (cc := bc_I_faultOfTree) (maxL := 6) (ret := (some .int)) (by decide) rfl ?_
  intro p e s m args below meth c s₁ B hml hv
  obtain ⟨rfl, hP, hK, hN⟩ := hv
  have hx := B.exec
  have hb := B.bytes
  have hr := B.returns
  have hts : ∀ v ∈ Wk_, v.before [.ref (ad 21), .int x1, .int x2, .int x3].toArray s = true := fun v hv => atoms_spec (ws := Cond.code yn_I_faultOfTree bc_I_faultOfTree 6 (some .int) :: Wk_) B.pre v (List.mem_cons_of_mem _ hv)
  have hown : s.vm.findClass Rn_I = some m.cls := findClass_of_methodNamed B.named
  have hlocks := B.notSynchronized
  have hS : va_S (Aw_ ad) s.heap s.heap [] := va_S.rf
  have hl := lv_entry ([.ref (ad 21), .int x1, .int x2, .int x3]) (n := 6) (Nat.le_of_ble_eq_true rfl)
  rw [lg_entry_eq]
  generalize (lg_sl ([.ref (ad 21), .int x1, .int x2, .int x3]) ++ List.replicate (6 - (lg_sl ([.ref (ad 21), .int x1, .int x2, .int x3])).length) Slot.unset).toArray = ls at hl ⊢
  have hl : lv_has ls 6 [(0, .ref (ad 21)), (1, .int x1), (2, .int x2), (3, .int x3)] := hl
  refine lv_iload_n hx hb dc_I_faultOfTree_0 rfl (lv_at hl 1 rfl) ?_
  refine lv_if_ne (tgt := 14) hx hb dc_I_faultOfTree_1 (by decide) (fun c => ?_) (fun c => ?_)
  · have h := h.1 c
    refine lv_aload_n hx hb dc_I_faultOfTree_14 rfl (lv_at hl 0 rfl) ?_
    refine va_get (D := D) (ci := 3) (v := .ref (ad 19)) (C := Rn_I) (T := Fn_I) (N := 7) hx hb hts in_I hown hK hP 21 rfl rfl 0 (by decide) (hts _ mw_257) (fun _ h9 => h9) rfl dc_I_faultOfTree_15 ?_
    refine lv_iload_n hx hb dc_I_faultOfTree_18 rfl (lv_at hl 1 rfl) ?_
    refine w_cVi (y := yn_B_isBlock) (C := Rn_B) (index := 66) (n := 1) (own := Rn_I) 19 hx hb hml hown hts hK hN hP hS (ct_B_isBlock l D ad cA w hJ x1 st _ h) mw_14 mw_258 mw_16 mw_17 mw_18 (by decide +kernel) ⟨Nat.le_of_ble_eq_true rfl, Nat.le_of_ble_eq_true rfl⟩ rfl rfl rfl rfl rfl hl.1 rfl (lv_room (Nat.le_of_ble_eq_true rfl)) dc_I_faultOfTree_19 ⟨Nat.zero_le _, Nat.zero_le _⟩ (fun r102 st101 H locs hP hS h => ?_)
    refine lv_if_ne (tgt := 27) hx hb dc_I_faultOfTree_22 (by decide) (fun c => ?_) (fun c => ?_)
    · have h := h.1 c
      refine lv_aload_n hx hb dc_I_faultOfTree_27 rfl (lv_at hl 0 rfl) ?_
      refine va_get (D := D) (ci := 3) (v := .ref (ad 19)) (C := Rn_I) (T := Fn_I) (N := 7) hx hb hts in_I hown hK hP 21 rfl rfl 0 (by decide) (hts _ mw_257) (fun _ h9 => h9) rfl dc_I_faultOfTree_28 ?_
      refine lv_iload_n hx hb dc_I_faultOfTree_31 rfl (lv_at hl 1 rfl) ?_
      refine w_cVi (y := yn_B_level) (C := Rn_B) (index := 72) (n := 1) (own := Rn_I) 19 hx hb hml hown hts hK hN hP hS (ct_B_level l D ad cA w hJ x1 st101 _ h) mw_20 mw_259 mw_22 mw_23 mw_18 (by decide +kernel) ⟨Nat.le_of_ble_eq_true rfl, Nat.le_of_ble_eq_true rfl⟩ rfl rfl rfl rfl rfl hl.1 rfl (lv_room (Nat.le_of_ble_eq_true rfl)) dc_I_faultOfTree_32 ⟨Nat.zero_le _, Nat.zero_le _⟩ (fun r104 st103 H locs hP hS h => ?_)
      refine lv_istore (lv' := [(4, .int r104), (0, .ref (ad 21)), (1, .int x1), (2, .int x2), (3, .int x3)]) hx hb dc_I_faultOfTree_35 hl (by decide) rfl (fun ls hl => ?_)
      refine lv_aload_n hx hb dc_I_faultOfTree_37 rfl (lv_at hl 1 rfl) ?_
      refine va_get (D := D) (ci := 3) (v := .ref (ad 19)) (C := Rn_I) (T := Fn_I) (N := 7) hx hb hts in_I hown hK hP 21 rfl rfl 0 (by decide) (hts _ mw_257) (fun _ h9 => h9) rfl dc_I_faultOfTree_38 ?_
      refine lv_iload_n hx hb dc_I_faultOfTree_41 rfl (lv_at hl 2 rfl) ?_
      refine w_cVi (y := yn_B_size) (C := Rn_B) (index := 75) (n := 1) (own := Rn_I) 19 hx hb hml hown hts hK hN hP hS (ct_B_size l D ad cA w hJ x1 st103 _ h) mw_26 mw_260 mw_28 mw_29 mw_18 (by decide +kernel) ⟨Nat.le_of_ble_eq_true rfl, Nat.le_of_ble_eq_true rfl⟩ rfl rfl rfl rfl rfl hl.1 rfl (lv_room (Nat.le_of_ble_eq_true rfl)) dc_I_faultOfTree_42 ⟨Nat.zero_le _, Nat.zero_le _⟩ (fun r106 st105 H locs hP hS h => ?_)
      refine lv_iload hx hb dc_I_faultOfTree_45 (lv_at hl 0 rfl) ?_
      refine lv_if_ne (tgt := 54) hx hb dc_I_faultOfTree_47 (by decide) (fun c => ?_) (fun c => ?_)
      · have h := h.1 c
        refine lv_iconst (v := 2) hx hb dc_I_faultOfTree_54 (by decide) ?_
        refine lv_icmp_ge (tgt := 60) hx hb dc_I_faultOfTree_55 (by decide) (fun c => ?_) (fun c => ?_)
        · have h := h.1 c
          refine lv_aload_n hx hb dc_I_faultOfTree_60 rfl (lv_at hl 1 rfl) ?_
          refine lv_iload_n hx hb dc_I_faultOfTree_61 rfl (lv_at hl 2 rfl) ?_
          refine lv_iload hx hb dc_I_faultOfTree_62 (lv_at hl 0 rfl) ?_
          refine w_cVi (y := yn_I_faultBelow) (C := Rn_I) (index := 78) (n := 2) (own := Rn_I) 21 hx hb hml hown hts hK hN hP hS (ct_I_faultBelow l D ad cA w hJ 20 x1 r104 st105 _ h) mw_273 mw_274 mw_275 mw_276 mw_268 (by decide +kernel) ⟨Nat.le_of_ble_eq_true rfl, Nat.le_of_ble_eq_true rfl⟩ rfl rfl rfl rfl rfl hl.1 rfl (lv_room (Nat.le_of_ble_eq_true rfl)) dc_I_faultOfTree_64 ⟨Nat.zero_le _, Nat.zero_le _⟩ (fun r108 st107 H locs hP hS h => ?_)
          refine lv_istore (lv' := [(5, .int r108), (4, .int r104), (0, .ref (ad 21)), (1, .int x1), (2, .int x2), (3, .int x3)]) hx hb dc_I_faultOfTree_67 hl (by decide) rfl (fun ls hl => ?_)
          refine lv_iload hx hb dc_I_faultOfTree_69 (lv_at hl 0 rfl) ?_
          refine lv_if_eq (tgt := 77) hx hb dc_I_faultOfTree_71 (by decide) (fun c => ?_) (fun c => ?_)
          · have h := h.1 c
            refine lv_aload_n hx hb dc_I_faultOfTree_77 rfl (lv_at hl 2 rfl) ?_
            refine va_get (D := D) (ci := 3) (v := .ref (ad 7)) (C := Rn_I) (T := Fn_I) (N := 7) hx hb hts in_I hown hK hP 21 rfl rfl 4 (by decide) (hts _ mw_269) (fun _ h9 => h9) rfl dc_I_faultOfTree_78 ?_
            refine lv_iload_n hx hb dc_I_faultOfTree_81 rfl (lv_at hl 3 rfl) ?_
            refine w_ild 7 (by decide) hx hb hK hP h.1 dc_I_faultOfTree_82 ?_
            have h := h.2
            refine lv_iload_n hx hb dc_I_faultOfTree_83 rfl (lv_at hl 4 rfl) ?_
            refine lv_icmp_ne (tgt := 91) hx hb dc_I_faultOfTree_84 (by decide) (fun c => ?_) (fun c => ?_)
            · have h := h.1 c
              refine lv_iload_n hx hb dc_I_faultOfTree_91 rfl (lv_at hl 5 rfl) ?_
              exact w_iret hx hb hr hlocks hP hS h dc_I_faultOfTree_92
            · have h := h.2 c
              refine lv_iconst (v := 0) hx hb dc_I_faultOfTree_87 (by decide) ?_
              refine lv_goto (tgt := 92) hx hb dc_I_faultOfTree_88 (by decide) ?_
              exact w_iret hx hb hr hlocks hP hS h dc_I_faultOfTree_92
          · have h := h.2 c
            refine lv_iload hx hb dc_I_faultOfTree_74 (lv_at hl 0 rfl) ?_
            exact w_iret hx hb hr hlocks hP hS h dc_I_faultOfTree_76
        · have h := h.2 c
          refine lv_iload_n hx hb dc_I_faultOfTree_58 rfl (lv_at hl 2 rfl) ?_
          exact w_iret hx hb hr hlocks hP hS h dc_I_faultOfTree_59
      · have h := h.2 c
        refine lv_iconst (v := 1) hx hb dc_I_faultOfTree_50 (by decide) ?_
        refine lv_goto (tgt := 55) hx hb dc_I_faultOfTree_51 (by decide) ?_
        refine lv_icmp_ge (tgt := 60) hx hb dc_I_faultOfTree_55 (by decide) (fun c => ?_) (fun c => ?_)
        · have h := h.1 c
          refine lv_aload_n hx hb dc_I_faultOfTree_60 rfl (lv_at hl 1 rfl) ?_
          refine lv_iload_n hx hb dc_I_faultOfTree_61 rfl (lv_at hl 2 rfl) ?_
          refine lv_iload hx hb dc_I_faultOfTree_62 (lv_at hl 0 rfl) ?_
          refine w_cVi (y := yn_I_faultBelow) (C := Rn_I) (index := 78) (n := 2) (own := Rn_I) 21 hx hb hml hown hts hK hN hP hS (ct_I_faultBelow l D ad cA w hJ 20 x1 r104 st105 _ h) mw_273 mw_274 mw_275 mw_276 mw_268 (by decide +kernel) ⟨Nat.le_of_ble_eq_true rfl, Nat.le_of_ble_eq_true rfl⟩ rfl rfl rfl rfl rfl hl.1 rfl (lv_room (Nat.le_of_ble_eq_true rfl)) dc_I_faultOfTree_64 ⟨Nat.zero_le _, Nat.zero_le _⟩ (fun r110 st109 H locs hP hS h => ?_)
          refine lv_istore (lv' := [(5, .int r110), (4, .int r104), (0, .ref (ad 21)), (1, .int x1), (2, .int x2), (3, .int x3)]) hx hb dc_I_faultOfTree_67 hl (by decide) rfl (fun ls hl => ?_)
          refine lv_iload hx hb dc_I_faultOfTree_69 (lv_at hl 0 rfl) ?_
          refine lv_if_eq (tgt := 77) hx hb dc_I_faultOfTree_71 (by decide) (fun c => ?_) (fun c => ?_)
          · have h := h.1 c
            refine lv_aload_n hx hb dc_I_faultOfTree_77 rfl (lv_at hl 2 rfl) ?_
            refine va_get (D := D) (ci := 3) (v := .ref (ad 7)) (C := Rn_I) (T := Fn_I) (N := 7) hx hb hts in_I hown hK hP 21 rfl rfl 4 (by decide) (hts _ mw_269) (fun _ h9 => h9) rfl dc_I_faultOfTree_78 ?_
            refine lv_iload_n hx hb dc_I_faultOfTree_81 rfl (lv_at hl 3 rfl) ?_
            refine w_ild 7 (by decide) hx hb hK hP h.1 dc_I_faultOfTree_82 ?_
            have h := h.2
            refine lv_iload_n hx hb dc_I_faultOfTree_83 rfl (lv_at hl 4 rfl) ?_
            refine lv_icmp_ne (tgt := 91) hx hb dc_I_faultOfTree_84 (by decide) (fun c => ?_) (fun c => ?_)
            · have h := h.1 c
              refine lv_iload_n hx hb dc_I_faultOfTree_91 rfl (lv_at hl 5 rfl) ?_
              exact w_iret hx hb hr hlocks hP hS h dc_I_faultOfTree_92
            · have h := h.2 c
              refine lv_iconst (v := 0) hx hb dc_I_faultOfTree_87 (by decide) ?_
              refine lv_goto (tgt := 92) hx hb dc_I_faultOfTree_88 (by decide) ?_
              exact w_iret hx hb hr hlocks hP hS h dc_I_faultOfTree_92
          · have h := h.2 c
            refine lv_iload hx hb dc_I_faultOfTree_74 (lv_at hl 0 rfl) ?_
            exact w_iret hx hb hr hlocks hP hS h dc_I_faultOfTree_76
        · have h := h.2 c
          refine lv_iload_n hx hb dc_I_faultOfTree_58 rfl (lv_at hl 2 rfl) ?_
          exact w_iret hx hb hr hlocks hP hS h dc_I_faultOfTree_59
    · have h := h.2 c
      refine lv_iload_n hx hb dc_I_faultOfTree_25 rfl (lv_at hl 3 rfl) ?_
      exact w_iret hx hb hr hlocks hP hS h dc_I_faultOfTree_26
  · have h := h.2 c
    refine lv_iload_n hx hb dc_I_faultOfTree_4 rfl (lv_at hl 2 rfl) ?_
    refine lv_if_ne (tgt := 12) hx hb dc_I_faultOfTree_5 (by decide) (fun c => ?_) (fun c => ?_)
    · have h := h.1 c
      refine lv_iload_n hx hb dc_I_faultOfTree_12 rfl (lv_at hl 3 rfl) ?_
      exact w_iret hx hb hr hlocks hP hS h dc_I_faultOfTree_13
    · have h := h.2 c
      refine lv_iconst (v := 0) hx hb dc_I_faultOfTree_8 (by decide) ?_
      refine lv_goto (tgt := 13) hx hb dc_I_faultOfTree_9 (by decide) ?_
      exact w_iret hx hb hr hlocks hP hS h dc_I_faultOfTree_13
end
section
set_option maxHeartbeats 4000000 in
set_option maxRecDepth 100000 in
theorem ct_I_faultOfMaps_22 (l : Launch) (D : va_G) (ad : Nat → Nat) (cA : Nat → ClassId) (w : Nat) (hJ : Jn_ ad) (x2 : Int32) (st : St_) (post : Int32 → St_ → Prop) (h : wp_I_faultOfMaps_22 w x2 st post) : Met l yn_I_faultOfMaps (Cond.code yn_I_faultOfMaps bc_I_faultOfMaps 6 (some .int) :: Wk_) rm_I_faultOfMaps_22 (Pw_ D ad cA w st [.ref (ad 21), .ref (ad 22), .int x2]) (Qi_ D ad cA w post) 0 0 (Aw_ ad) := by
  refine Met.ofW (cc := bc_I_faultOfMaps) (maxL := 6) (ret := (some .int)) (by decide) rfl ?_
  intro p e s m args below meth c s₁ B hml hv
  obtain ⟨rfl, hP, hK, hN⟩ := hv
  have hx := B.exec
  have hb := B.bytes
  have hr := B.returns
  have hts : ∀ v ∈ Wk_, v.before [.ref (ad 21), .ref (ad 22), .int x2].toArray s = true := fun v hv => atoms_spec (ws := Cond.code yn_I_faultOfMaps bc_I_faultOfMaps 6 (some .int) :: Wk_) B.pre v (List.mem_cons_of_mem _ hv)
  have hown : s.vm.findClass Rn_I = some m.cls := findClass_of_methodNamed B.named
  have hlocks := B.notSynchronized
  have hS : va_S (Aw_ ad) s.heap s.heap [] := va_S.rf
  have Lp_5 : ∀ (n : Nat) (y2 y3 y4 : Int32) (st : St_), wp_I_faultOfMaps_22_5 w post n y2 y3 y4 st → ∀ (H : Heap) (locs : List Loc), va_P D sC_ (wd_ ad cA w st) H → va_S (Aw_ ad) s.heap H locs → ∀ ls : Array Slot, lv_has ls 6 [(0, .ref (ad 21)), (1, .ref (ad 22)), (2, .int y2), (3, .int y3), (4, .int y4)] → W p l e (headSpec (Cond.code yn_I_faultOfMaps bc_I_faultOfMaps 6 (some .int) :: Wk_) rm_I_faultOfMaps_22).room s m [.ref (ad 21), .ref (ad 22), .int x2].toArray below meth c H locs 0 0 (MQ below (Qi_ D ad cA w post) [.ref (ad 21), .ref (ad 22), .int x2].toArray s 0 0 (Aw_ ad)) (F0 m 5 ls []) := by
    intro n
    induction n with
    | zero => intro y2 y3 y4 st h; exact h.elim
    | succ n ih =>
      intro y2 y3 y4 st h H locs hP hS ls hl
      refine lv_iload hx hb dc_I_faultOfMaps_5 (lv_at hl 4 rfl) ?_
      refine lv_bipush (v := 8) hx hb dc_I_faultOfMaps_7 (by decide) ?_
      refine lv_icmp_ge (tgt := 60) hx hb dc_I_faultOfMaps_9 (by decide) (fun c => ?_) (fun c => ?_)
      · have h := h.1 c
        refine lv_iload_n hx hb dc_I_faultOfMaps_60 rfl (lv_at hl 3 rfl) ?_
        refine lv_aload_n hx hb dc_I_faultOfMaps_61 rfl (lv_at hl 1 rfl) ?_
        refine va_getN (D := D) (ci := 4) (v := .int (st 19 0)) (C := Rn_P) (T := Fn_P) (N := 3) (host := nh_) hx hb hts in_P hown hK hP 22 rfl rfl 2 (by decide) (va_Nw.use rfl (hN.1 _ nf_3)) (fun _ h9 => h9) rfl dc_I_faultOfMaps_62 ?_
        refine lv_icmp_ne (tgt := 79) hx hb dc_I_faultOfMaps_65 (by decide) (fun c => ?_) (fun c => ?_)
        · have h := h.1 c
          refine lv_sipush (v := 1217) hx hb dc_I_faultOfMaps_79 (by decide) ?_
          exact w_iret hx hb hr hlocks hP hS h dc_I_faultOfMaps_82
        · have h := h.2 c
          refine lv_iload_n hx hb dc_I_faultOfMaps_68 rfl (lv_at hl 3 rfl) ?_
          refine lv_sipush (v := 600) hx hb dc_I_faultOfMaps_69 (by decide) ?_
          refine lv_icmp_gt (tgt := 79) hx hb dc_I_faultOfMaps_72 (by decide) (fun c => ?_) (fun c => ?_)
          · have h := h.1 c
            refine lv_sipush (v := 1217) hx hb dc_I_faultOfMaps_79 (by decide) ?_
            exact w_iret hx hb hr hlocks hP hS h dc_I_faultOfMaps_82
          · have h := h.2 c
            refine lv_iconst (v := 0) hx hb dc_I_faultOfMaps_75 (by decide) ?_
            refine lv_goto (tgt := 82) hx hb dc_I_faultOfMaps_76 (by decide) ?_
            exact w_iret hx hb hr hlocks hP hS h dc_I_faultOfMaps_82
      · have h := h.2 c
        refine lv_aload_n hx hb dc_I_faultOfMaps_12 rfl (lv_at hl 0 rfl) ?_
        refine lv_aload_n hx hb dc_I_faultOfMaps_13 rfl (lv_at hl 1 rfl) ?_
        refine va_getN (D := D) (ci := 4) (v := .ref (ad 10)) (C := Rn_P) (T := Fn_P) (N := 3) (host := nh_) hx hb hts in_P hown hK hP 22 rfl rfl 0 (by decide) (va_Nw.use rfl (hN.1 _ nf_4)) (fun _ h9 => h9) rfl dc_I_faultOfMaps_14 ?_
        refine lv_iload hx hb dc_I_faultOfMaps_17 (lv_at hl 4 rfl) ?_
        refine w_ild 10 (by decide) hx hb hK hP h.1 dc_I_faultOfMaps_19 ?_
        have h := h.2
        refine lv_aload_n hx hb dc_I_faultOfMaps_20 rfl (lv_at hl 1 rfl) ?_
        refine va_getN (D := D) (ci := 4) (v := .ref (ad 11)) (C := Rn_P) (T := Fn_P) (N := 3) (host := nh_) hx hb hts in_P hown hK hP 22 rfl rfl 1 (by decide) (va_Nw.use rfl (hN.1 _ nf_5)) (fun _ h9 => h9) rfl dc_I_faultOfMaps_21 ?_
        refine lv_iload hx hb dc_I_faultOfMaps_24 (lv_at hl 4 rfl) ?_
        refine w_ild 11 (by decide) hx hb hK hP h.1 dc_I_faultOfMaps_26 ?_
        have h := h.2
        refine lv_iload_n hx hb dc_I_faultOfMaps_27 rfl (lv_at hl 2 rfl) ?_
        refine lv_iload hx hb dc_I_faultOfMaps_28 (lv_at hl 4 rfl) ?_
        refine lv_iadd hx hb dc_I_faultOfMaps_30 ?_
        refine w_cVi (y := yn_I_faultOfTree) (C := Rn_I) (index := 59) (n := 3) (own := Rn_I) 21 hx hb hml hown hts hK hN hP hS (ct_I_faultOfTree l D ad cA w hJ (st 10 (y4).toNatClampNeg) (st 11 (y4).toNatClampNeg) (y2 + y4) st _ h) mw_285 mw_286 mw_287 mw_288 mw_268 (by decide +kernel) ⟨Nat.le_of_ble_eq_true rfl, Nat.le_of_ble_eq_true rfl⟩ rfl rfl rfl rfl rfl hl.1 rfl (lv_room (Nat.le_of_ble_eq_true rfl)) dc_I_faultOfMaps_31 ⟨Nat.zero_le _, Nat.zero_le _⟩ (fun r102 st101 H locs hP hS h => ?_)
        refine lv_istore (lv' := [(5, .int r102), (0, .ref (ad 21)), (1, .ref (ad 22)), (2, .int y2), (3, .int y3), (4, .int y4)]) hx hb dc_I_faultOfMaps_34 hl (by decide) rfl (fun ls hl => ?_)
        refine lv_iload hx hb dc_I_faultOfMaps_36 (lv_at hl 0 rfl) ?_
        refine lv_if_eq (tgt := 44) hx hb dc_I_faultOfMaps_38 (by decide) (fun c => ?_) (fun c => ?_)
        · have h := h.1 c
          refine lv_iload_n hx hb dc_I_faultOfMaps_44 rfl (lv_at hl 4 rfl) ?_
          refine lv_aload_n hx hb dc_I_faultOfMaps_45 rfl (lv_at hl 2 rfl) ?_
          refine va_getN (D := D) (ci := 4) (v := .ref (ad 11)) (C := Rn_P) (T := Fn_P) (N := 3) (host := nh_) hx hb hts in_P hown hK hP 22 rfl rfl 1 (by decide) (va_Nw.use rfl (hN.1 _ nf_5)) (fun _ h9 => h9) rfl dc_I_faultOfMaps_46 ?_
          refine lv_iload hx hb dc_I_faultOfMaps_49 (lv_at hl 5 rfl) ?_
          refine w_ild 11 (by decide) hx hb hK hP h.1 dc_I_faultOfMaps_51 ?_
          have h := h.2
          refine lv_iadd hx hb dc_I_faultOfMaps_52 ?_
          refine lv_topi (fun x103 ex103 => ?_)
          have h := h x103 ex103
          refine lv_istore_n (lv' := [(3, .int x103), (5, .int r102), (0, .ref (ad 21)), (1, .ref (ad 22)), (2, .int y2), (4, .int y4)]) hx hb dc_I_faultOfMaps_53 rfl hl (by decide) rfl (fun ls hl => ?_)
          obtain ⟨x104, ex104⟩ : ∃ y : Int32, y = y4 + 1 := ⟨_, rfl⟩
          have h := h x104 ex104
          refine lv_iinc (v := x104) (lv' := [(4, .int x104), (3, .int x103), (5, .int r102), (0, .ref (ad 21)), (1, .ref (ad 22)), (2, .int y2)]) hx hb dc_I_faultOfMaps_54 hl (k := 5) rfl (by rw [ex104]; rfl) (by decide) rfl (fun ls hl => ?_)
          refine lv_goto (tgt := 5) hx hb dc_I_faultOfMaps_57 (by decide) ?_
          exact ih y2 x103 x104 st101 h _ _ hP hS ls (lv_sub hl [3, 4, 5, 1, 0] rfl)
        · have h := h.2 c
          refine lv_iload hx hb dc_I_faultOfMaps_41 (lv_at hl 0 rfl) ?_
          exact w_iret hx hb hr hlocks hP hS h dc_I_faultOfMaps_43
  have hl := lv_entry ([.ref (ad 21), .ref (ad 22), .int x2]) (n := 6) (Nat.le_of_ble_eq_true rfl)
  rw [lg_entry_eq]
  generalize (lg_sl ([.ref (ad 21), .ref (ad 22), .int x2]) ++ List.replicate (6 - (lg_sl ([.ref (ad 21), .ref (ad 22), .int x2])).length) Slot.unset).toArray = ls at hl ⊢
  have hl : lv_has ls 6 [(0, .ref (ad 21)), (1, .ref (ad 22)), (2, .int x2)] := hl
  refine lv_iconst (v := 0) hx hb dc_I_faultOfMaps_0 (by decide) ?_
  refine lv_istore_n (lv' := [(3, .int 0), (0, .ref (ad 21)), (1, .ref (ad 22)), (2, .int x2)]) hx hb dc_I_faultOfMaps_1 rfl hl (by decide) rfl (fun ls hl => ?_)
  refine lv_iconst (v := 0) hx hb dc_I_faultOfMaps_2 (by decide) ?_
  refine lv_istore (lv' := [(4, .int 0), (3, .int 0), (0, .ref (ad 21)), (1, .ref (ad 22)), (2, .int x2)]) hx hb dc_I_faultOfMaps_3 hl (by decide) rfl (fun ls hl => ?_)
  obtain ⟨n, h⟩ := h
  exact Lp_5 n x2 0 0 st h _ _ hP hS ls (lv_sub hl [2, 3, 4, 1, 0] rfl)
end
section
set_option maxHeartbeats 4000000 in
set_option maxRecDepth 100000 in
theorem ct_I_faultOfWays (l : Launch) (D : va_G) (ad : Nat → Nat) (cA : Nat → ClassId) (w : Nat) (hJ : Jn_ ad) (st : St_) (post : Int32 → St_ → Prop) (h : wp_I_faultOfWays w st post) : Met l yn_I_faultOfWays (Cond.code yn_I_faultOfWays bc_I_faultOfWays 3 (some .int) :: Wk_) rm_I_faultOfWays (Pw_ D ad cA w st [.ref (ad 21)]) (Qi_ D ad cA w post) 0 0 (Aw_ ad) := by
  refine Met.ofW (cc := bc_I_faultOfWays) (maxL := 3) (ret := (some .int)) (by decide) rfl ?_
  intro p e s m args below meth c s₁ B hml hv
  obtain ⟨rfl, hP, hK, hN⟩ := hv
  have hx := B.exec
  have hb := B.bytes
  have hr := B.returns
  have hts : ∀ v ∈ Wk_, v.before [.ref (ad 21)].toArray s = true := fun v hv => atoms_spec (ws := Cond.code yn_I_faultOfWays bc_I_faultOfWays 3 (some .int) :: Wk_) B.pre v (List.mem_cons_of_mem _ hv)
  have hown : s.vm.findClass Rn_I = some m.cls := findClass_of_methodNamed B.named
  have hlocks := B.notSynchronized
  have hS : va_S (Aw_ ad) s.heap s.heap [] := va_S.rf
  have Lp_2 : ∀ (n : Nat) (y1 : Int32) (st : St_), wp_I_faultOfWays_2 w post n y1 st → ∀ (H : Heap) (locs : List Loc), va_P D sC_ (wd_ ad cA w st) H → va_S (Aw_ ad) s.heap H locs → ∀ ls : Array Slot, lv_has ls 3 [(0, .ref (ad 21)), (1, .int y1)] → W p l e (headSpec (Cond.code yn_I_faultOfWays bc_I_faultOfWays 3 (some .int) :: Wk_) rm_I_faultOfWays).room s m [.ref (ad 21)].toArray below meth c H locs 0 0 (MQ below (Qi_ D ad cA w post) [.ref (ad 21)].toArray s 0 0 (Aw_ ad)) (F0 m 2 ls []) := by
    intro n
    induction n with
    | zero => intro y1 st h; exact h.elim
    | succ n ih =>
      intro y1 st h H locs hP hS ls hl
      refine lv_iload_n hx hb dc_I_faultOfWays_2 rfl (lv_at hl 1 rfl) ?_
      refine lv_sipush (v := 1200) hx hb dc_I_faultOfWays_3 (by decide) ?_
      refine lv_icmp_gt (tgt := 59) hx hb dc_I_faultOfWays_6 (by decide) (fun c => ?_) (fun c => ?_)
      · have h := h.1 c
        refine lv_iconst (v := 0) hx hb dc_I_faultOfWays_59 (by decide) ?_
        exact w_iret hx hb hr hlocks hP hS h dc_I_faultOfWays_60
      · have h := h.2 c
        refine lv_aload_n hx hb dc_I_faultOfWays_9 rfl (lv_at hl 0 rfl) ?_
        refine va_get (D := D) (ci := 3) (v := .ref (ad 6)) (C := Rn_I) (T := Fn_I) (N := 7) hx hb hts in_I hown hK hP 21 rfl rfl 3 (by decide) (hts _ mw_261) (fun _ h9 => h9) rfl dc_I_faultOfWays_10 ?_
        refine lv_iload_n hx hb dc_I_faultOfWays_13 rfl (lv_at hl 1 rfl) ?_
        refine w_ild 6 (by decide) hx hb hK hP h.1 dc_I_faultOfWays_14 ?_
        have h := h.2
        refine lv_if_ne (tgt := 22) hx hb dc_I_faultOfWays_15 (by decide) (fun c => ?_) (fun c => ?_)
        · have h := h.1 c
          refine lv_iconst (v := 0) hx hb dc_I_faultOfWays_22 (by decide) ?_
          refine lv_istore_n (lv' := [(2, .int 0), (0, .ref (ad 21)), (1, .int y1)]) hx hb dc_I_faultOfWays_23 rfl hl (by decide) rfl (fun ls hl => ?_)
          refine lv_aload_n hx hb dc_I_faultOfWays_24 rfl (lv_at hl 1 rfl) ?_
          refine va_get (D := D) (ci := 3) (v := .ref (ad 19)) (C := Rn_I) (T := Fn_I) (N := 7) hx hb hts in_I hown hK hP 21 rfl rfl 0 (by decide) (hts _ mw_257) (fun _ h9 => h9) rfl dc_I_faultOfWays_25 ?_
          refine lv_iload_n hx hb dc_I_faultOfWays_28 rfl (lv_at hl 2 rfl) ?_
          refine w_cVi (y := yn_B_ways) (C := Rn_B) (index := 109) (n := 1) (own := Rn_I) 19 hx hb hml hown hts hK hN hP hS (ct_B_ways l D ad cA w hJ y1 st _ h) mw_65 mw_293 mw_67 mw_68 mw_18 (by decide +kernel) ⟨Nat.le_of_ble_eq_true rfl, Nat.le_of_ble_eq_true rfl⟩ rfl rfl rfl rfl rfl hl.1 rfl (lv_room (Nat.le_of_ble_eq_true rfl)) dc_I_faultOfWays_29 ⟨Nat.zero_le _, Nat.zero_le _⟩ (fun r102 st101 H locs hP hS h => ?_)
          refine lv_aload_n hx hb dc_I_faultOfWays_32 rfl (lv_at hl 1 rfl) ?_
          refine va_get (D := D) (ci := 3) (v := .ref (ad 6)) (C := Rn_I) (T := Fn_I) (N := 7) hx hb hts in_I hown hK hP 21 rfl rfl 3 (by decide) (hts _ mw_261) (fun _ h9 => h9) rfl dc_I_faultOfWays_33 ?_
          refine lv_iload_n hx hb dc_I_faultOfWays_36 rfl (lv_at hl 2 rfl) ?_
          refine w_ild 6 (by decide) hx hb hK hP h.1 dc_I_faultOfWays_37 ?_
          have h := h.2
          refine lv_icmp_ne (tgt := 51) hx hb dc_I_faultOfWays_38 (by decide) (fun c => ?_) (fun c => ?_)
          · have h := h.1 c
            refine lv_iload_n hx hb dc_I_faultOfWays_51 rfl (lv_at hl 2 rfl) ?_
            exact w_iret hx hb hr hlocks hP hS h dc_I_faultOfWays_52
          · have h := h.2 c
            refine lv_aload_n hx hb dc_I_faultOfWays_41 rfl (lv_at hl 1 rfl) ?_
            refine va_get (D := D) (ci := 3) (v := .ref (ad 9)) (C := Rn_I) (T := Fn_I) (N := 7) hx hb hts in_I hown hK hP 21 rfl rfl 6 (by decide) (hts _ mw_294) (fun _ h9 => h9) rfl dc_I_faultOfWays_42 ?_
            refine lv_iload_n hx hb dc_I_faultOfWays_45 rfl (lv_at hl 2 rfl) ?_
            refine w_zld hx hb hK hP h.1 dc_I_faultOfWays_46 ?_
            have h := h.2
            refine lv_iload_n hx hb dc_I_faultOfWays_47 rfl (lv_at hl 0 rfl) ?_
            refine lv_icmp_eq (tgt := 53) hx hb dc_I_faultOfWays_48 (by decide) (fun c => ?_) (fun c => ?_)
            · have h := h.1 c
              obtain ⟨x103, ex103⟩ : ∃ y : Int32, y = y1 + 1 := ⟨_, rfl⟩
              have h := h x103 ex103
              refine lv_iinc (v := x103) (lv' := [(1, .int x103), (2, .int 0), (0, .ref (ad 21))]) hx hb dc_I_faultOfWays_53 hl (k := 2) rfl (by rw [ex103]; rfl) (by decide) rfl (fun ls hl => ?_)
              refine lv_goto (tgt := 2) hx hb dc_I_faultOfWays_56 (by decide) ?_
              exact ih x103 st101 h _ _ hP hS ls (lv_sub hl [2, 0] rfl)
            · have h := h.2 c
              refine lv_iload_n hx hb dc_I_faultOfWays_51 rfl (lv_at hl 2 rfl) ?_
              exact w_iret hx hb hr hlocks hP hS h dc_I_faultOfWays_52
        · have h := h.2 c
          refine lv_iconst (v := 1) hx hb dc_I_faultOfWays_18 (by decide) ?_
          refine lv_goto (tgt := 23) hx hb dc_I_faultOfWays_19 (by decide) ?_
          refine lv_istore_n (lv' := [(2, .int 1), (0, .ref (ad 21)), (1, .int y1)]) hx hb dc_I_faultOfWays_23 rfl hl (by decide) rfl (fun ls hl => ?_)
          refine lv_aload_n hx hb dc_I_faultOfWays_24 rfl (lv_at hl 1 rfl) ?_
          refine va_get (D := D) (ci := 3) (v := .ref (ad 19)) (C := Rn_I) (T := Fn_I) (N := 7) hx hb hts in_I hown hK hP 21 rfl rfl 0 (by decide) (hts _ mw_257) (fun _ h9 => h9) rfl dc_I_faultOfWays_25 ?_
          refine lv_iload_n hx hb dc_I_faultOfWays_28 rfl (lv_at hl 2 rfl) ?_
          refine w_cVi (y := yn_B_ways) (C := Rn_B) (index := 109) (n := 1) (own := Rn_I) 19 hx hb hml hown hts hK hN hP hS (ct_B_ways l D ad cA w hJ y1 st _ h) mw_65 mw_293 mw_67 mw_68 mw_18 (by decide +kernel) ⟨Nat.le_of_ble_eq_true rfl, Nat.le_of_ble_eq_true rfl⟩ rfl rfl rfl rfl rfl hl.1 rfl (lv_room (Nat.le_of_ble_eq_true rfl)) dc_I_faultOfWays_29 ⟨Nat.zero_le _, Nat.zero_le _⟩ (fun r105 st104 H locs hP hS h => ?_)
          refine lv_aload_n hx hb dc_I_faultOfWays_32 rfl (lv_at hl 1 rfl) ?_
          refine va_get (D := D) (ci := 3) (v := .ref (ad 6)) (C := Rn_I) (T := Fn_I) (N := 7) hx hb hts in_I hown hK hP 21 rfl rfl 3 (by decide) (hts _ mw_261) (fun _ h9 => h9) rfl dc_I_faultOfWays_33 ?_
          refine lv_iload_n hx hb dc_I_faultOfWays_36 rfl (lv_at hl 2 rfl) ?_
          refine w_ild 6 (by decide) hx hb hK hP h.1 dc_I_faultOfWays_37 ?_
          have h := h.2
          refine lv_icmp_ne (tgt := 51) hx hb dc_I_faultOfWays_38 (by decide) (fun c => ?_) (fun c => ?_)
          · have h := h.1 c
            refine lv_iload_n hx hb dc_I_faultOfWays_51 rfl (lv_at hl 2 rfl) ?_
            exact w_iret hx hb hr hlocks hP hS h dc_I_faultOfWays_52
          · have h := h.2 c
            refine lv_aload_n hx hb dc_I_faultOfWays_41 rfl (lv_at hl 1 rfl) ?_
            refine va_get (D := D) (ci := 3) (v := .ref (ad 9)) (C := Rn_I) (T := Fn_I) (N := 7) hx hb hts in_I hown hK hP 21 rfl rfl 6 (by decide) (hts _ mw_294) (fun _ h9 => h9) rfl dc_I_faultOfWays_42 ?_
            refine lv_iload_n hx hb dc_I_faultOfWays_45 rfl (lv_at hl 2 rfl) ?_
            refine w_zld hx hb hK hP h.1 dc_I_faultOfWays_46 ?_
            have h := h.2
            refine lv_iload_n hx hb dc_I_faultOfWays_47 rfl (lv_at hl 0 rfl) ?_
            refine lv_icmp_eq (tgt := 53) hx hb dc_I_faultOfWays_48 (by decide) (fun c => ?_) (fun c => ?_)
            · have h := h.1 c
              obtain ⟨x106, ex106⟩ : ∃ y : Int32, y = y1 + 1 := ⟨_, rfl⟩
              have h := h x106 ex106
              refine lv_iinc (v := x106) (lv' := [(1, .int x106), (2, .int 1), (0, .ref (ad 21))]) hx hb dc_I_faultOfWays_53 hl (k := 2) rfl (by rw [ex106]; rfl) (by decide) rfl (fun ls hl => ?_)
              refine lv_goto (tgt := 2) hx hb dc_I_faultOfWays_56 (by decide) ?_
              exact ih x106 st104 h _ _ hP hS ls (lv_sub hl [2, 0] rfl)
            · have h := h.2 c
              refine lv_iload_n hx hb dc_I_faultOfWays_51 rfl (lv_at hl 2 rfl) ?_
              exact w_iret hx hb hr hlocks hP hS h dc_I_faultOfWays_52
  have hl := lv_entry ([.ref (ad 21)]) (n := 3) (Nat.le_of_ble_eq_true rfl)
  rw [lg_entry_eq]
  generalize (lg_sl ([.ref (ad 21)]) ++ List.replicate (3 - (lg_sl ([.ref (ad 21)])).length) Slot.unset).toArray = ls at hl ⊢
  have hl : lv_has ls 3 [(0, .ref (ad 21))] := hl
  refine lv_iconst (v := 1) hx hb dc_I_faultOfWays_0 (by decide) ?_
  refine lv_istore_n (lv' := [(1, .int 1), (0, .ref (ad 21))]) hx hb dc_I_faultOfWays_1 rfl hl (by decide) rfl (fun ls hl => ?_)
  obtain ⟨n, h⟩ := h
  exact Lp_2 n 1 st h _ _ hP hS ls (lv_sub hl [1, 0] rfl)
end
section
set_option maxHeartbeats 4000000 in
set_option maxRecDepth 100000 in
theorem ct_B_freeCount (l : Launch) (D : va_G) (ad : Nat → Nat) (cA : Nat → ClassId) (w : Nat) (hJ : Jn_ ad) (st : St_) (post : Int32 → St_ → Prop) (h : wp_B_freeCount w st post) : Met l yn_B_freeCount (Cond.code yn_B_freeCount bc_B_freeCount 1 (some .int) :: Wk_) rm_B_freeCount (Pw_ D ad cA w st [.ref (ad 19)]) (Qi_ D ad cA w post) 0 0 (Aw_ ad) := by
  refine Met.ofW (cc := bc_B_freeCount) (maxL := 1) (ret := (some .int)) (by decide) rfl ?_
  intro p e s m args below meth c s₁ B hml hv
  obtain ⟨rfl, hP, hK, hN⟩ := hv
  have hx := B.exec
  have hb := B.bytes
  have hr := B.returns
  have hts : ∀ v ∈ Wk_, v.before [.ref (ad 19)].toArray s = true := fun v hv => atoms_spec (ws := Cond.code yn_B_freeCount bc_B_freeCount 1 (some .int) :: Wk_) B.pre v (List.mem_cons_of_mem _ hv)
  have hown : s.vm.findClass Rn_B = some m.cls := findClass_of_methodNamed B.named
  have hlocks := B.notSynchronized
  have hS : va_S (Aw_ ad) s.heap s.heap [] := va_S.rf
  have hl := lv_entry ([.ref (ad 19)]) (n := 1) (Nat.le_of_ble_eq_true rfl)
  rw [lg_entry_eq]
  generalize (lg_sl ([.ref (ad 19)]) ++ List.replicate (1 - (lg_sl ([.ref (ad 19)])).length) Slot.unset).toArray = ls at hl ⊢
  have hl : lv_has ls 1 [(0, .ref (ad 19))] := hl
  refine lv_aload_n hx hb dc_B_freeCount_0 rfl (lv_at hl 0 rfl) ?_
  refine va_get (D := D) (ci := 1) (v := .int (st 18 0)) (C := Rn_B) (T := Fn_B) (N := 8) hx hb hts in_B hown hK hP 19 rfl rfl 7 (by decide) (hts _ mw_70) (fun _ h9 => h9) rfl dc_B_freeCount_1 ?_
  exact w_iret hx hb hr hlocks hP hS h dc_B_freeCount_4
end
section
set_option maxHeartbeats 4000000 in
set_option maxRecDepth 100000 in
theorem ct_B_freeBlock (l : Launch) (D : va_G) (ad : Nat → Nat) (cA : Nat → ClassId) (w : Nat) (hJ : Jn_ ad) (x1 : Int32) (st : St_) (post : Int32 → St_ → Prop) (h : wp_B_freeBlock w x1 st post) : Met l yn_B_freeBlock (Cond.code yn_B_freeBlock bc_B_freeBlock 2 (some .int) :: Wk_) rm_B_freeBlock (Pw_ D ad cA w st [.ref (ad 19), .int x1]) (Qi_ D ad cA w post) 0 0 (Aw_ ad) := by
  refine Met.ofW (cc := bc_B_freeBlock) (maxL := 2) (ret := (some .int)) (by decide) rfl ?_
  intro p e s m args below meth c s₁ B hml hv
  obtain ⟨rfl, hP, hK, hN⟩ := hv
  have hx := B.exec
  have hb := B.bytes
  have hr := B.returns
  have hts : ∀ v ∈ Wk_, v.before [.ref (ad 19), .int x1].toArray s = true := fun v hv => atoms_spec (ws := Cond.code yn_B_freeBlock bc_B_freeBlock 2 (some .int) :: Wk_) B.pre v (List.mem_cons_of_mem _ hv)
  have hown : s.vm.findClass Rn_B = some m.cls := findClass_of_methodNamed B.named
  have hlocks := B.notSynchronized
  have hS : va_S (Aw_ ad) s.heap s.heap [] := va_S.rf
  have hl := lv_entry ([.ref (ad 19), .int x1]) (n := 2) (Nat.le_of_ble_eq_true rfl)
  rw [lg_entry_eq]
  generalize (lg_sl ([.ref (ad 19), .int x1]) ++ List.replicate (2 - (lg_sl ([.ref (ad 19), .int x1])).length) Slot.unset).toArray = ls at hl ⊢
  have hl : lv_has ls 2 [(0, .ref (ad 19)), (1, .int x1)] := hl
  refine lv_iload_n hx hb dc_B_freeBlock_0 rfl (lv_at hl 1 rfl) ?_
  refine lv_if_lt (tgt := 28) hx hb dc_B_freeBlock_1 (by decide) (fun c => ?_) (fun c => ?_)
  · have h := h.1 c
    refine lv_iconst (v := 0) hx hb dc_B_freeBlock_28 (by decide) ?_
    exact w_iret hx hb hr hlocks hP hS h dc_B_freeBlock_29
  · have h := h.2 c
    refine lv_iload_n hx hb dc_B_freeBlock_4 rfl (lv_at hl 1 rfl) ?_
    refine lv_aload_n hx hb dc_B_freeBlock_5 rfl (lv_at hl 0 rfl) ?_
    refine va_get (D := D) (ci := 1) (v := .int (st 18 0)) (C := Rn_B) (T := Fn_B) (N := 8) hx hb hts in_B hown hK hP 19 rfl rfl 7 (by decide) (hts _ mw_70) (fun _ h9 => h9) rfl dc_B_freeBlock_6 ?_
    refine lv_icmp_ge (tgt := 28) hx hb dc_B_freeBlock_9 (by decide) (fun c => ?_) (fun c => ?_)
    · have h := h.1 c
      refine lv_iconst (v := 0) hx hb dc_B_freeBlock_28 (by decide) ?_
      exact w_iret hx hb hr hlocks hP hS h dc_B_freeBlock_29
    · have h := h.2 c
      refine lv_iload_n hx hb dc_B_freeBlock_12 rfl (lv_at hl 1 rfl) ?_
      refine lv_sipush (v := 1200) hx hb dc_B_freeBlock_13 (by decide) ?_
      refine lv_icmp_ge (tgt := 28) hx hb dc_B_freeBlock_16 (by decide) (fun c => ?_) (fun c => ?_)
      · have h := h.1 c
        refine lv_iconst (v := 0) hx hb dc_B_freeBlock_28 (by decide) ?_
        exact w_iret hx hb hr hlocks hP hS h dc_B_freeBlock_29
      · have h := h.2 c
        refine lv_aload_n hx hb dc_B_freeBlock_19 rfl (lv_at hl 0 rfl) ?_
        refine va_get (D := D) (ci := 1) (v := .ref (ad 5)) (C := Rn_B) (T := Fn_B) (N := 8) hx hb hts in_B hown hK hP 19 rfl rfl 6 (by decide) (hts _ mw_71) (fun _ h9 => h9) rfl dc_B_freeBlock_20 ?_
        refine lv_iload_n hx hb dc_B_freeBlock_23 rfl (lv_at hl 1 rfl) ?_
        refine w_ild 5 (by decide) hx hb hK hP h.1 dc_B_freeBlock_24 ?_
        have h := h.2
        refine lv_goto (tgt := 29) hx hb dc_B_freeBlock_25 (by decide) ?_
        exact w_iret hx hb hr hlocks hP hS h dc_B_freeBlock_29
end
section
set_option maxHeartbeats 4000000 in
set_option maxRecDepth 100000 in
theorem ct_I_faultOfFree (l : Launch) (D : va_G) (ad : Nat → Nat) (cA : Nat → ClassId) (w : Nat) (hJ : Jn_ ad) (st : St_) (post : Int32 → St_ → Prop) (h : wp_I_faultOfFree w st post) : Met l yn_I_faultOfFree (Cond.code yn_I_faultOfFree bc_I_faultOfFree 4 (some .int) :: Wk_) rm_I_faultOfFree (Pw_ D ad cA w st [.ref (ad 21)]) (Qi_ D ad cA w post) 0 0 (Aw_ ad) := by
  refine Met.ofW (cc := bc_I_faultOfFree) (maxL := 4) (ret := (some .int)) (by decide) rfl ?_
  intro p e s m args below meth c s₁ B hml hv
  obtain ⟨rfl, hP, hK, hN⟩ := hv
  have hx := B.exec
  have hb := B.bytes
  have hr := B.returns
  have hts : ∀ v ∈ Wk_, v.before [.ref (ad 21)].toArray s = true := fun v hv => atoms_spec (ws := Cond.code yn_I_faultOfFree bc_I_faultOfFree 4 (some .int) :: Wk_) B.pre v (List.mem_cons_of_mem _ hv)
  have hown : s.vm.findClass Rn_I = some m.cls := findClass_of_methodNamed B.named
  have hlocks := B.notSynchronized
  have hS : va_S (Aw_ ad) s.heap s.heap [] := va_S.rf
  have Lp_25 : ∀ (n : Nat) (y1 y2 : Int32) (st : St_), wp_I_faultOfFree_25 w post n y1 y2 st → ∀ (H : Heap) (locs : List Loc), va_P D sC_ (wd_ ad cA w st) H → va_S (Aw_ ad) s.heap H locs → ∀ ls : Array Slot, lv_has ls 4 [(0, .ref (ad 21)), (1, .int y1), (2, .int y2)] → W p l e (headSpec (Cond.code yn_I_faultOfFree bc_I_faultOfFree 4 (some .int) :: Wk_) rm_I_faultOfFree).room s m [.ref (ad 21)].toArray below meth c H locs 0 0 (MQ below (Qi_ D ad cA w post) [.ref (ad 21)].toArray s 0 0 (Aw_ ad)) (F0 m 25 ls []) := by
    intro n
    induction n with
    | zero => intro y1 y2 st h; exact h.elim
    | succ n ih =>
      intro y1 y2 st h H locs hP hS ls hl
      refine lv_iload_n hx hb dc_I_faultOfFree_25 rfl (lv_at hl 2 rfl) ?_
      refine lv_iload_n hx hb dc_I_faultOfFree_26 rfl (lv_at hl 1 rfl) ?_
      refine lv_icmp_ge (tgt := 76) hx hb dc_I_faultOfFree_27 (by decide) (fun c => ?_) (fun c => ?_)
      · have h := h.1 c
        refine lv_iconst (v := 0) hx hb dc_I_faultOfFree_76 (by decide) ?_
        exact w_iret hx hb hr hlocks hP hS h dc_I_faultOfFree_77
      · have h := h.2 c
        refine lv_aload_n hx hb dc_I_faultOfFree_30 rfl (lv_at hl 0 rfl) ?_
        refine va_get (D := D) (ci := 3) (v := .ref (ad 19)) (C := Rn_I) (T := Fn_I) (N := 7) hx hb hts in_I hown hK hP 21 rfl rfl 0 (by decide) (hts _ mw_257) (fun _ h9 => h9) rfl dc_I_faultOfFree_31 ?_
        refine lv_iload_n hx hb dc_I_faultOfFree_34 rfl (lv_at hl 2 rfl) ?_
        refine w_cVi (y := yn_B_freeBlock) (C := Rn_B) (index := 106) (n := 1) (own := Rn_I) 19 hx hb hml hown hts hK hN hP hS (ct_B_freeBlock l D ad cA w hJ y2 st _ h) mw_303 mw_304 mw_305 mw_306 mw_18 (by decide +kernel) ⟨Nat.le_of_ble_eq_true rfl, Nat.le_of_ble_eq_true rfl⟩ rfl rfl rfl rfl rfl hl.1 rfl (lv_room (Nat.le_of_ble_eq_true rfl)) dc_I_faultOfFree_35 ⟨Nat.zero_le _, Nat.zero_le _⟩ (fun r104 st103 H locs hP hS h => ?_)
        refine lv_istore_n (lv' := [(3, .int r104), (0, .ref (ad 21)), (1, .int y1), (2, .int y2)]) hx hb dc_I_faultOfFree_38 rfl hl (by decide) rfl (fun ls hl => ?_)
        refine lv_aload_n hx hb dc_I_faultOfFree_39 rfl (lv_at hl 1 rfl) ?_
        refine va_get (D := D) (ci := 3) (v := .ref (ad 19)) (C := Rn_I) (T := Fn_I) (N := 7) hx hb hts in_I hown hK hP 21 rfl rfl 0 (by decide) (hts _ mw_257) (fun _ h9 => h9) rfl dc_I_faultOfFree_40 ?_
        refine lv_iload_n hx hb dc_I_faultOfFree_43 rfl (lv_at hl 0 rfl) ?_
        refine w_cVi (y := yn_B_isBlock) (C := Rn_B) (index := 66) (n := 1) (own := Rn_I) 19 hx hb hml hown hts hK hN hP hS (ct_B_isBlock l D ad cA w hJ r104 st103 _ h) mw_14 mw_258 mw_16 mw_17 mw_18 (by decide +kernel) ⟨Nat.le_of_ble_eq_true rfl, Nat.le_of_ble_eq_true rfl⟩ rfl rfl rfl rfl rfl hl.1 rfl (lv_room (Nat.le_of_ble_eq_true rfl)) dc_I_faultOfFree_44 ⟨Nat.zero_le _, Nat.zero_le _⟩ (fun r106 st105 H locs hP hS h => ?_)
        refine lv_if_eq (tgt := 59) hx hb dc_I_faultOfFree_47 (by decide) (fun c => ?_) (fun c => ?_)
        · have h := h.1 c
          refine lv_sipush (v := 1218) hx hb dc_I_faultOfFree_59 (by decide) ?_
          exact w_iret hx hb hr hlocks hP hS h dc_I_faultOfFree_62
        · have h := h.2 c
          refine lv_aload_n hx hb dc_I_faultOfFree_50 rfl (lv_at hl 1 rfl) ?_
          refine va_get (D := D) (ci := 3) (v := .ref (ad 9)) (C := Rn_I) (T := Fn_I) (N := 7) hx hb hts in_I hown hK hP 21 rfl rfl 6 (by decide) (hts _ mw_294) (fun _ h9 => h9) rfl dc_I_faultOfFree_51 ?_
          refine lv_iload_n hx hb dc_I_faultOfFree_54 rfl (lv_at hl 0 rfl) ?_
          refine w_zld hx hb hK hP h.1 dc_I_faultOfFree_55 ?_
          have h := h.2
          refine lv_if_eq (tgt := 63) hx hb dc_I_faultOfFree_56 (by decide) (fun c => ?_) (fun c => ?_)
          · have h := h.1 c
            refine lv_aload_n hx hb dc_I_faultOfFree_63 rfl (lv_at hl 1 rfl) ?_
            refine va_get (D := D) (ci := 3) (v := .ref (ad 9)) (C := Rn_I) (T := Fn_I) (N := 7) hx hb hts in_I hown hK hP 21 rfl rfl 6 (by decide) (hts _ mw_294) (fun _ h9 => h9) rfl dc_I_faultOfFree_64 ?_
            refine lv_iload_n hx hb dc_I_faultOfFree_67 rfl (lv_at hl 0 rfl) ?_
            refine lv_iconst (v := 1) hx hb dc_I_faultOfFree_68 (by decide) ?_
            refine w_zst hJ hx hb hK hP hS h.1 dc_I_faultOfFree_69 (fun H locs hP hS => ?_)
            obtain ⟨st107, est107⟩ : ∃ z : St_, z = ws_1 st105 9 (r104).toNatClampNeg (vp_nar .boolean 1) := ⟨_, rfl⟩
            rw [← est107] at hP
            have h := h.2 st107 est107
            obtain ⟨x108, ex108⟩ : ∃ y : Int32, y = y2 + 1 := ⟨_, rfl⟩
            have h := h x108 ex108
            refine lv_iinc (v := x108) (lv' := [(2, .int x108), (3, .int r104), (0, .ref (ad 21)), (1, .int y1)]) hx hb dc_I_faultOfFree_70 hl (k := 3) rfl (by rw [ex108]; rfl) (by decide) rfl (fun ls hl => ?_)
            refine lv_goto (tgt := 25) hx hb dc_I_faultOfFree_73 (by decide) ?_
            exact ih y1 x108 st107 h _ _ hP hS ls (lv_sub hl [2, 3, 0] rfl)
          · have h := h.2 c
            refine lv_sipush (v := 1218) hx hb dc_I_faultOfFree_59 (by decide) ?_
            exact w_iret hx hb hr hlocks hP hS h dc_I_faultOfFree_62
  have hl := lv_entry ([.ref (ad 21)]) (n := 4) (Nat.le_of_ble_eq_true rfl)
  rw [lg_entry_eq]
  generalize (lg_sl ([.ref (ad 21)]) ++ List.replicate (4 - (lg_sl ([.ref (ad 21)])).length) Slot.unset).toArray = ls at hl ⊢
  have hl : lv_has ls 4 [(0, .ref (ad 21))] := hl
  refine lv_aload_n hx hb dc_I_faultOfFree_0 rfl (lv_at hl 0 rfl) ?_
  refine va_get (D := D) (ci := 3) (v := .ref (ad 19)) (C := Rn_I) (T := Fn_I) (N := 7) hx hb hts in_I hown hK hP 21 rfl rfl 0 (by decide) (hts _ mw_257) (fun _ h9 => h9) rfl dc_I_faultOfFree_1 ?_
  refine w_cVi (y := yn_B_freeCount) (C := Rn_B) (index := 103) (n := 0) (own := Rn_I) 19 hx hb hml hown hts hK hN hP hS (ct_B_freeCount l D ad cA w hJ st _ h) mw_299 mw_300 mw_301 mw_302 mw_18 (by decide +kernel) ⟨Nat.le_of_ble_eq_true rfl, Nat.le_of_ble_eq_true rfl⟩ rfl rfl rfl rfl rfl hl.1 rfl (lv_room (Nat.le_of_ble_eq_true rfl)) dc_I_faultOfFree_4 ⟨Nat.zero_le _, Nat.zero_le _⟩ (fun r102 st101 H locs hP hS h => ?_)
  refine lv_istore_n (lv' := [(1, .int r102), (0, .ref (ad 21))]) hx hb dc_I_faultOfFree_7 rfl hl (by decide) rfl (fun ls hl => ?_)
  refine lv_iload_n hx hb dc_I_faultOfFree_8 rfl (lv_at hl 0 rfl) ?_
  refine lv_if_lt (tgt := 19) hx hb dc_I_faultOfFree_9 (by decide) (fun c => ?_) (fun c => ?_)
  · have h := h.1 c
    refine lv_sipush (v := 1218) hx hb dc_I_faultOfFree_19 (by decide) ?_
    exact w_iret hx hb hr hlocks hP hS h dc_I_faultOfFree_22
  · have h := h.2 c
    refine lv_iload_n hx hb dc_I_faultOfFree_12 rfl (lv_at hl 0 rfl) ?_
    refine lv_sipush (v := 1200) hx hb dc_I_faultOfFree_13 (by decide) ?_
    refine lv_icmp_le (tgt := 23) hx hb dc_I_faultOfFree_16 (by decide) (fun c => ?_) (fun c => ?_)
    · have h := h.1 c
      refine lv_iconst (v := 0) hx hb dc_I_faultOfFree_23 (by decide) ?_
      refine lv_istore_n (lv' := [(2, .int 0), (1, .int r102), (0, .ref (ad 21))]) hx hb dc_I_faultOfFree_24 rfl hl (by decide) rfl (fun ls hl => ?_)
      obtain ⟨n, h⟩ := h
      exact Lp_25 n r102 0 st101 h _ _ hP hS ls (lv_sub hl [2, 1, 0] rfl)
    · have h := h.2 c
      refine lv_sipush (v := 1218) hx hb dc_I_faultOfFree_19 (by decide) ?_
      exact w_iret hx hb hr hlocks hP hS h dc_I_faultOfFree_22
end
section
set_option maxHeartbeats 4000000 in
set_option maxRecDepth 100000 in
theorem ct_I_faultOfMaps_23 (l : Launch) (D : va_G) (ad : Nat → Nat) (cA : Nat → ClassId) (w : Nat) (hJ : Jn_ ad) (x2 : Int32) (st : St_) (post : Int32 → St_ → Prop) (h : wp_I_faultOfMaps_23 w x2 st post) : Met l yn_I_faultOfMaps (Cond.code yn_I_faultOfMaps bc_I_faultOfMaps 6 (some .int) :: Wk_) rm_I_faultOfMaps_23 (Pw_ D ad cA w st [.ref (ad 21), .ref (ad 23), .int x2]) (Qi_ D ad cA w post) 0 0 (Aw_ ad) := by
  refine Met.ofW (cc := bc_I_faultOfMaps) (maxL := 6) (ret := (some .int)) (by decide) rfl ?_
  intro p e s m args below meth c s₁ B hml hv
  obtain ⟨rfl, hP, hK, hN⟩ := hv
  have hx := B.exec
  have hb := B.bytes
  have hr := B.returns
  have hts : ∀ v ∈ Wk_, v.before [.ref (ad 21), .ref (ad 23), .int x2].toArray s = true := fun v hv => atoms_spec (ws := Cond.code yn_I_faultOfMaps bc_I_faultOfMaps 6 (some .int) :: Wk_) B.pre v (List.mem_cons_of_mem _ hv)
  have hown : s.vm.findClass Rn_I = some m.cls := findClass_of_methodNamed B.named
  have hlocks := B.notSynchronized
  have hS : va_S (Aw_ ad) s.heap s.heap [] := va_S.rf
  have Lp_5 : ∀ (n : Nat) (y2 y3 y4 : Int32) (st : St_), wp_I_faultOfMaps_23_5 w post n y2 y3 y4 st → ∀ (H : Heap) (locs : List Loc), va_P D sC_ (wd_ ad cA w st) H → va_S (Aw_ ad) s.heap H locs → ∀ ls : Array Slot, lv_has ls 6 [(0, .ref (ad 21)), (1, .ref (ad 23)), (2, .int y2), (3, .int y3), (4, .int y4)] → W p l e (headSpec (Cond.code yn_I_faultOfMaps bc_I_faultOfMaps 6 (some .int) :: Wk_) rm_I_faultOfMaps_23).room s m [.ref (ad 21), .ref (ad 23), .int x2].toArray below meth c H locs 0 0 (MQ below (Qi_ D ad cA w post) [.ref (ad 21), .ref (ad 23), .int x2].toArray s 0 0 (Aw_ ad)) (F0 m 5 ls []) := by
    intro n
    induction n with
    | zero => intro y2 y3 y4 st h; exact h.elim
    | succ n ih =>
      intro y2 y3 y4 st h H locs hP hS ls hl
      refine lv_iload hx hb dc_I_faultOfMaps_5 (lv_at hl 4 rfl) ?_
      refine lv_bipush (v := 8) hx hb dc_I_faultOfMaps_7 (by decide) ?_
      refine lv_icmp_ge (tgt := 60) hx hb dc_I_faultOfMaps_9 (by decide) (fun c => ?_) (fun c => ?_)
      · have h := h.1 c
        refine lv_iload_n hx hb dc_I_faultOfMaps_60 rfl (lv_at hl 3 rfl) ?_
        refine lv_aload_n hx hb dc_I_faultOfMaps_61 rfl (lv_at hl 1 rfl) ?_
        refine va_getN (D := D) (ci := 4) (v := .int (st 20 0)) (C := Rn_P) (T := Fn_P) (N := 3) (host := nh_) hx hb hts in_P hown hK hP 23 rfl rfl 2 (by decide) (va_Nw.use rfl (hN.1 _ nf_3)) (fun _ h9 => h9) rfl dc_I_faultOfMaps_62 ?_
        refine lv_icmp_ne (tgt := 79) hx hb dc_I_faultOfMaps_65 (by decide) (fun c => ?_) (fun c => ?_)
        · have h := h.1 c
          refine lv_sipush (v := 1217) hx hb dc_I_faultOfMaps_79 (by decide) ?_
          exact w_iret hx hb hr hlocks hP hS h dc_I_faultOfMaps_82
        · have h := h.2 c
          refine lv_iload_n hx hb dc_I_faultOfMaps_68 rfl (lv_at hl 3 rfl) ?_
          refine lv_sipush (v := 600) hx hb dc_I_faultOfMaps_69 (by decide) ?_
          refine lv_icmp_gt (tgt := 79) hx hb dc_I_faultOfMaps_72 (by decide) (fun c => ?_) (fun c => ?_)
          · have h := h.1 c
            refine lv_sipush (v := 1217) hx hb dc_I_faultOfMaps_79 (by decide) ?_
            exact w_iret hx hb hr hlocks hP hS h dc_I_faultOfMaps_82
          · have h := h.2 c
            refine lv_iconst (v := 0) hx hb dc_I_faultOfMaps_75 (by decide) ?_
            refine lv_goto (tgt := 82) hx hb dc_I_faultOfMaps_76 (by decide) ?_
            exact w_iret hx hb hr hlocks hP hS h dc_I_faultOfMaps_82
      · have h := h.2 c
        refine lv_aload_n hx hb dc_I_faultOfMaps_12 rfl (lv_at hl 0 rfl) ?_
        refine lv_aload_n hx hb dc_I_faultOfMaps_13 rfl (lv_at hl 1 rfl) ?_
        refine va_getN (D := D) (ci := 4) (v := .ref (ad 12)) (C := Rn_P) (T := Fn_P) (N := 3) (host := nh_) hx hb hts in_P hown hK hP 23 rfl rfl 0 (by decide) (va_Nw.use rfl (hN.1 _ nf_4)) (fun _ h9 => h9) rfl dc_I_faultOfMaps_14 ?_
        refine lv_iload hx hb dc_I_faultOfMaps_17 (lv_at hl 4 rfl) ?_
        refine w_ild 12 (by decide) hx hb hK hP h.1 dc_I_faultOfMaps_19 ?_
        have h := h.2
        refine lv_aload_n hx hb dc_I_faultOfMaps_20 rfl (lv_at hl 1 rfl) ?_
        refine va_getN (D := D) (ci := 4) (v := .ref (ad 13)) (C := Rn_P) (T := Fn_P) (N := 3) (host := nh_) hx hb hts in_P hown hK hP 23 rfl rfl 1 (by decide) (va_Nw.use rfl (hN.1 _ nf_5)) (fun _ h9 => h9) rfl dc_I_faultOfMaps_21 ?_
        refine lv_iload hx hb dc_I_faultOfMaps_24 (lv_at hl 4 rfl) ?_
        refine w_ild 13 (by decide) hx hb hK hP h.1 dc_I_faultOfMaps_26 ?_
        have h := h.2
        refine lv_iload_n hx hb dc_I_faultOfMaps_27 rfl (lv_at hl 2 rfl) ?_
        refine lv_iload hx hb dc_I_faultOfMaps_28 (lv_at hl 4 rfl) ?_
        refine lv_iadd hx hb dc_I_faultOfMaps_30 ?_
        refine w_cVi (y := yn_I_faultOfTree) (C := Rn_I) (index := 59) (n := 3) (own := Rn_I) 21 hx hb hml hown hts hK hN hP hS (ct_I_faultOfTree l D ad cA w hJ (st 12 (y4).toNatClampNeg) (st 13 (y4).toNatClampNeg) (y2 + y4) st _ h) mw_285 mw_286 mw_287 mw_288 mw_268 (by decide +kernel) ⟨Nat.le_of_ble_eq_true rfl, Nat.le_of_ble_eq_true rfl⟩ rfl rfl rfl rfl rfl hl.1 rfl (lv_room (Nat.le_of_ble_eq_true rfl)) dc_I_faultOfMaps_31 ⟨Nat.zero_le _, Nat.zero_le _⟩ (fun r102 st101 H locs hP hS h => ?_)
        refine lv_istore (lv' := [(5, .int r102), (0, .ref (ad 21)), (1, .ref (ad 23)), (2, .int y2), (3, .int y3), (4, .int y4)]) hx hb dc_I_faultOfMaps_34 hl (by decide) rfl (fun ls hl => ?_)
        refine lv_iload hx hb dc_I_faultOfMaps_36 (lv_at hl 0 rfl) ?_
        refine lv_if_eq (tgt := 44) hx hb dc_I_faultOfMaps_38 (by decide) (fun c => ?_) (fun c => ?_)
        · have h := h.1 c
          refine lv_iload_n hx hb dc_I_faultOfMaps_44 rfl (lv_at hl 4 rfl) ?_
          refine lv_aload_n hx hb dc_I_faultOfMaps_45 rfl (lv_at hl 2 rfl) ?_
          refine va_getN (D := D) (ci := 4) (v := .ref (ad 13)) (C := Rn_P) (T := Fn_P) (N := 3) (host := nh_) hx hb hts in_P hown hK hP 23 rfl rfl 1 (by decide) (va_Nw.use rfl (hN.1 _ nf_5)) (fun _ h9 => h9) rfl dc_I_faultOfMaps_46 ?_
          refine lv_iload hx hb dc_I_faultOfMaps_49 (lv_at hl 5 rfl) ?_
          refine w_ild 13 (by decide) hx hb hK hP h.1 dc_I_faultOfMaps_51 ?_
          have h := h.2
          refine lv_iadd hx hb dc_I_faultOfMaps_52 ?_
          refine lv_topi (fun x103 ex103 => ?_)
          have h := h x103 ex103
          refine lv_istore_n (lv' := [(3, .int x103), (5, .int r102), (0, .ref (ad 21)), (1, .ref (ad 23)), (2, .int y2), (4, .int y4)]) hx hb dc_I_faultOfMaps_53 rfl hl (by decide) rfl (fun ls hl => ?_)
          obtain ⟨x104, ex104⟩ : ∃ y : Int32, y = y4 + 1 := ⟨_, rfl⟩
          have h := h x104 ex104
          refine lv_iinc (v := x104) (lv' := [(4, .int x104), (3, .int x103), (5, .int r102), (0, .ref (ad 21)), (1, .ref (ad 23)), (2, .int y2)]) hx hb dc_I_faultOfMaps_54 hl (k := 5) rfl (by rw [ex104]; rfl) (by decide) rfl (fun ls hl => ?_)
          refine lv_goto (tgt := 5) hx hb dc_I_faultOfMaps_57 (by decide) ?_
          exact ih y2 x103 x104 st101 h _ _ hP hS ls (lv_sub hl [3, 4, 5, 1, 0] rfl)
        · have h := h.2 c
          refine lv_iload hx hb dc_I_faultOfMaps_41 (lv_at hl 0 rfl) ?_
          exact w_iret hx hb hr hlocks hP hS h dc_I_faultOfMaps_43
  have hl := lv_entry ([.ref (ad 21), .ref (ad 23), .int x2]) (n := 6) (Nat.le_of_ble_eq_true rfl)
  rw [lg_entry_eq]
  generalize (lg_sl ([.ref (ad 21), .ref (ad 23), .int x2]) ++ List.replicate (6 - (lg_sl ([.ref (ad 21), .ref (ad 23), .int x2])).length) Slot.unset).toArray = ls at hl ⊢
  have hl : lv_has ls 6 [(0, .ref (ad 21)), (1, .ref (ad 23)), (2, .int x2)] := hl
  refine lv_iconst (v := 0) hx hb dc_I_faultOfMaps_0 (by decide) ?_
  refine lv_istore_n (lv' := [(3, .int 0), (0, .ref (ad 21)), (1, .ref (ad 23)), (2, .int x2)]) hx hb dc_I_faultOfMaps_1 rfl hl (by decide) rfl (fun ls hl => ?_)
  refine lv_iconst (v := 0) hx hb dc_I_faultOfMaps_2 (by decide) ?_
  refine lv_istore (lv' := [(4, .int 0), (3, .int 0), (0, .ref (ad 21)), (1, .ref (ad 23)), (2, .int x2)]) hx hb dc_I_faultOfMaps_3 hl (by decide) rfl (fun ls hl => ?_)
  obtain ⟨n, h⟩ := h
  exact Lp_5 n x2 0 0 st h _ _ hP hS ls (lv_sub hl [2, 3, 4, 1, 0] rfl)
end
section
set_option maxHeartbeats 4000000 in
set_option maxRecDepth 100000 in
theorem ct_I_firstFault_22_23 (l : Launch) (D : va_G) (ad : Nat → Nat) (cA : Nat → ClassId) (w : Nat) (hJ : Jn_ ad) (st : St_) (post : Int32 → St_ → Prop) (h : wp_I_firstFault_22_23 w st post) : Met l yn_I_firstFault (Cond.code yn_I_firstFault bc_I_firstFault 4 (some .int) :: Wk_) rm_I_firstFault_22_23 (Pw_ D ad cA w st [.ref (ad 21), .ref (ad 22), .ref (ad 23)]) (Qi_ D ad cA w post) 0 0 (Aw_ ad) := by
  refine Met.ofW (cc := bc_I_firstFault) (maxL := 4) (ret := (some .int)) (by decide) rfl ?_
  intro p e s m args below meth c s₁ B hml hv
  obtain ⟨rfl, hP, hK, hN⟩ := hv
  have hx := B.exec
  have hb := B.bytes
  have hr := B.returns
  have hts : ∀ v ∈ Wk_, v.before [.ref (ad 21), .ref (ad 22), .ref (ad 23)].toArray s = true := fun v hv => atoms_spec (ws := Cond.code yn_I_firstFault bc_I_firstFault 4 (some .int) :: Wk_) B.pre v (List.mem_cons_of_mem _ hv)
  have hown : s.vm.findClass Rn_I = some m.cls := findClass_of_methodNamed B.named
  have hlocks := B.notSynchronized
  have hS : va_S (Aw_ ad) s.heap s.heap [] := va_S.rf
  have Lp_2 : ∀ (n : Nat) (y3 : Int32) (st : St_), wp_I_firstFault_22_23_2 w post n y3 st → ∀ (H : Heap) (locs : List Loc), va_P D sC_ (wd_ ad cA w st) H → va_S (Aw_ ad) s.heap H locs → ∀ ls : Array Slot, lv_has ls 4 [(0, .ref (ad 21)), (1, .ref (ad 22)), (2, .ref (ad 23)), (3, .int y3)] → W p l e (headSpec (Cond.code yn_I_firstFault bc_I_firstFault 4 (some .int) :: Wk_) rm_I_firstFault_22_23).room s m [.ref (ad 21), .ref (ad 22), .ref (ad 23)].toArray below meth c H locs 0 0 (MQ below (Qi_ D ad cA w post) [.ref (ad 21), .ref (ad 22), .ref (ad 23)].toArray s 0 0 (Aw_ ad)) (F0 m 2 ls []) := by
    intro n
    induction n with
    | zero => intro y3 st h; exact h.elim
    | succ n ih =>
      intro y3 st h H locs hP hS ls hl
      refine lv_iload_n hx hb dc_I_firstFault_2 rfl (lv_at hl 3 rfl) ?_
      refine lv_sipush (v := 1200) hx hb dc_I_firstFault_3 (by decide) ?_
      refine lv_icmp_gt (tgt := 29) hx hb dc_I_firstFault_6 (by decide) (fun c => ?_) (fun c => ?_)
      · have h := h.1 c
        refine lv_aload_n hx hb dc_I_firstFault_29 rfl (lv_at hl 0 rfl) ?_
        refine lv_aload_n hx hb dc_I_firstFault_30 rfl (lv_at hl 1 rfl) ?_
        refine lv_sipush (v := 1201) hx hb dc_I_firstFault_31 (by decide) ?_
        refine w_cVi (y := yn_I_faultOfMaps) (C := Rn_I) (index := 40) (n := 2) (own := Rn_I) 21 hx hb hml hown hts hK hN hP hS (ct_I_faultOfMaps_22 l D ad cA w hJ 1201 st _ h) mw_289 mw_290 mw_291 mw_292 mw_268 (by decide +kernel) ⟨Nat.le_of_ble_eq_true rfl, Nat.le_of_ble_eq_true rfl⟩ rfl rfl rfl rfl rfl hl.1 rfl (lv_room (Nat.le_of_ble_eq_true rfl)) dc_I_firstFault_34 ⟨Nat.zero_le _, Nat.zero_le _⟩ (fun r102 st101 H locs hP hS h => ?_)
        refine lv_istore_n (lv' := [(3, .int r102), (0, .ref (ad 21)), (1, .ref (ad 22)), (2, .ref (ad 23))]) hx hb dc_I_firstFault_37 rfl hl (by decide) rfl (fun ls hl => ?_)
        refine lv_iload_n hx hb dc_I_firstFault_38 rfl (lv_at hl 0 rfl) ?_
        refine lv_if_ne (tgt := 51) hx hb dc_I_firstFault_39 (by decide) (fun c => ?_) (fun c => ?_)
        · have h := h.1 c
          refine lv_iload_n hx hb dc_I_firstFault_51 rfl (lv_at hl 0 rfl) ?_
          refine lv_if_ne (tgt := 60) hx hb dc_I_firstFault_52 (by decide) (fun c => ?_) (fun c => ?_)
          · have h := h.1 c
            refine lv_iload_n hx hb dc_I_firstFault_60 rfl (lv_at hl 0 rfl) ?_
            refine lv_if_eq (tgt := 68) hx hb dc_I_firstFault_61 (by decide) (fun c => ?_) (fun c => ?_)
            · have h := h.1 c
              refine lv_aload_n hx hb dc_I_firstFault_68 rfl (lv_at hl 1 rfl) ?_
              refine w_cVi (y := yn_I_faultOfWays) (C := Rn_I) (index := 48) (n := 0) (own := Rn_I) 21 hx hb hml hown hts hK hN hP hS (ct_I_faultOfWays l D ad cA w hJ st101 _ h) mw_295 mw_296 mw_297 mw_298 mw_268 (by decide +kernel) ⟨Nat.le_of_ble_eq_true rfl, Nat.le_of_ble_eq_true rfl⟩ rfl rfl rfl rfl rfl hl.1 rfl (lv_room (Nat.le_of_ble_eq_true rfl)) dc_I_firstFault_69 ⟨Nat.zero_le _, Nat.zero_le _⟩ (fun r104 st103 H locs hP hS h => ?_)
              exact w_iret hx hb hr hlocks hP hS h dc_I_firstFault_72
            · have h := h.2 c
              refine lv_iload_n hx hb dc_I_firstFault_64 rfl (lv_at hl 0 rfl) ?_
              refine lv_goto (tgt := 72) hx hb dc_I_firstFault_65 (by decide) ?_
              exact w_iret hx hb hr hlocks hP hS h dc_I_firstFault_72
          · have h := h.2 c
            refine lv_aload_n hx hb dc_I_firstFault_55 rfl (lv_at hl 1 rfl) ?_
            refine w_cVi (y := yn_I_faultOfFree) (C := Rn_I) (index := 44) (n := 0) (own := Rn_I) 21 hx hb hml hown hts hK hN hP hS (ct_I_faultOfFree l D ad cA w hJ st101 _ h) mw_307 mw_308 mw_309 mw_310 mw_268 (by decide +kernel) ⟨Nat.le_of_ble_eq_true rfl, Nat.le_of_ble_eq_true rfl⟩ rfl rfl rfl rfl rfl hl.1 rfl (lv_room (Nat.le_of_ble_eq_true rfl)) dc_I_firstFault_56 ⟨Nat.zero_le _, Nat.zero_le _⟩ (fun r106 st105 H locs hP hS h => ?_)
            refine lv_istore_n (lv' := [(3, .int r106), (0, .ref (ad 21)), (1, .ref (ad 22)), (2, .ref (ad 23))]) hx hb dc_I_firstFault_59 rfl hl (by decide) rfl (fun ls hl => ?_)
            refine lv_iload_n hx hb dc_I_firstFault_60 rfl (lv_at hl 0 rfl) ?_
            refine lv_if_eq (tgt := 68) hx hb dc_I_firstFault_61 (by decide) (fun c => ?_) (fun c => ?_)
            · have h := h.1 c
              refine lv_aload_n hx hb dc_I_firstFault_68 rfl (lv_at hl 1 rfl) ?_
              refine w_cVi (y := yn_I_faultOfWays) (C := Rn_I) (index := 48) (n := 0) (own := Rn_I) 21 hx hb hml hown hts hK hN hP hS (ct_I_faultOfWays l D ad cA w hJ st105 _ h) mw_295 mw_296 mw_297 mw_298 mw_268 (by decide +kernel) ⟨Nat.le_of_ble_eq_true rfl, Nat.le_of_ble_eq_true rfl⟩ rfl rfl rfl rfl rfl hl.1 rfl (lv_room (Nat.le_of_ble_eq_true rfl)) dc_I_firstFault_69 ⟨Nat.zero_le _, Nat.zero_le _⟩ (fun r108 st107 H locs hP hS h => ?_)
              exact w_iret hx hb hr hlocks hP hS h dc_I_firstFault_72
            · have h := h.2 c
              refine lv_iload_n hx hb dc_I_firstFault_64 rfl (lv_at hl 0 rfl) ?_
              refine lv_goto (tgt := 72) hx hb dc_I_firstFault_65 (by decide) ?_
              exact w_iret hx hb hr hlocks hP hS h dc_I_firstFault_72
        · have h := h.2 c
          refine lv_aload_n hx hb dc_I_firstFault_42 rfl (lv_at hl 1 rfl) ?_
          refine lv_aload_n hx hb dc_I_firstFault_43 rfl (lv_at hl 3 rfl) ?_
          refine lv_sipush (v := 1209) hx hb dc_I_firstFault_44 (by decide) ?_
          refine w_cVi (y := yn_I_faultOfMaps) (C := Rn_I) (index := 40) (n := 2) (own := Rn_I) 21 hx hb hml hown hts hK hN hP hS (ct_I_faultOfMaps_23 l D ad cA w hJ 1209 st101 _ h) mw_289 mw_290 mw_291 mw_292 mw_268 (by decide +kernel) ⟨Nat.le_of_ble_eq_true rfl, Nat.le_of_ble_eq_true rfl⟩ rfl rfl rfl rfl rfl hl.1 rfl (lv_room (Nat.le_of_ble_eq_true rfl)) dc_I_firstFault_47 ⟨Nat.zero_le _, Nat.zero_le _⟩ (fun r110 st109 H locs hP hS h => ?_)
          refine lv_istore_n (lv' := [(3, .int r110), (0, .ref (ad 21)), (1, .ref (ad 22)), (2, .ref (ad 23))]) hx hb dc_I_firstFault_50 rfl hl (by decide) rfl (fun ls hl => ?_)
          refine lv_iload_n hx hb dc_I_firstFault_51 rfl (lv_at hl 0 rfl) ?_
          refine lv_if_ne (tgt := 60) hx hb dc_I_firstFault_52 (by decide) (fun c => ?_) (fun c => ?_)
          · have h := h.1 c
            refine lv_iload_n hx hb dc_I_firstFault_60 rfl (lv_at hl 0 rfl) ?_
            refine lv_if_eq (tgt := 68) hx hb dc_I_firstFault_61 (by decide) (fun c => ?_) (fun c => ?_)
            · have h := h.1 c
              refine lv_aload_n hx hb dc_I_firstFault_68 rfl (lv_at hl 1 rfl) ?_
              refine w_cVi (y := yn_I_faultOfWays) (C := Rn_I) (index := 48) (n := 0) (own := Rn_I) 21 hx hb hml hown hts hK hN hP hS (ct_I_faultOfWays l D ad cA w hJ st109 _ h) mw_295 mw_296 mw_297 mw_298 mw_268 (by decide +kernel) ⟨Nat.le_of_ble_eq_true rfl, Nat.le_of_ble_eq_true rfl⟩ rfl rfl rfl rfl rfl hl.1 rfl (lv_room (Nat.le_of_ble_eq_true rfl)) dc_I_firstFault_69 ⟨Nat.zero_le _, Nat.zero_le _⟩ (fun r112 st111 H locs hP hS h => ?_)
              exact w_iret hx hb hr hlocks hP hS h dc_I_firstFault_72
            · have h := h.2 c
              refine lv_iload_n hx hb dc_I_firstFault_64 rfl (lv_at hl 0 rfl) ?_
              refine lv_goto (tgt := 72) hx hb dc_I_firstFault_65 (by decide) ?_
              exact w_iret hx hb hr hlocks hP hS h dc_I_firstFault_72
          · have h := h.2 c
            refine lv_aload_n hx hb dc_I_firstFault_55 rfl (lv_at hl 1 rfl) ?_
            refine w_cVi (y := yn_I_faultOfFree) (C := Rn_I) (index := 44) (n := 0) (own := Rn_I) 21 hx hb hml hown hts hK hN hP hS (ct_I_faultOfFree l D ad cA w hJ st109 _ h) mw_307 mw_308 mw_309 mw_310 mw_268 (by decide +kernel) ⟨Nat.le_of_ble_eq_true rfl, Nat.le_of_ble_eq_true rfl⟩ rfl rfl rfl rfl rfl hl.1 rfl (lv_room (Nat.le_of_ble_eq_true rfl)) dc_I_firstFault_56 ⟨Nat.zero_le _, Nat.zero_le _⟩ (fun r114 st113 H locs hP hS h => ?_)
            refine lv_istore_n (lv' := [(3, .int r114), (0, .ref (ad 21)), (1, .ref (ad 22)), (2, .ref (ad 23))]) hx hb dc_I_firstFault_59 rfl hl (by decide) rfl (fun ls hl => ?_)
            refine lv_iload_n hx hb dc_I_firstFault_60 rfl (lv_at hl 0 rfl) ?_
            refine lv_if_eq (tgt := 68) hx hb dc_I_firstFault_61 (by decide) (fun c => ?_) (fun c => ?_)
            · have h := h.1 c
              refine lv_aload_n hx hb dc_I_firstFault_68 rfl (lv_at hl 1 rfl) ?_
              refine w_cVi (y := yn_I_faultOfWays) (C := Rn_I) (index := 48) (n := 0) (own := Rn_I) 21 hx hb hml hown hts hK hN hP hS (ct_I_faultOfWays l D ad cA w hJ st113 _ h) mw_295 mw_296 mw_297 mw_298 mw_268 (by decide +kernel) ⟨Nat.le_of_ble_eq_true rfl, Nat.le_of_ble_eq_true rfl⟩ rfl rfl rfl rfl rfl hl.1 rfl (lv_room (Nat.le_of_ble_eq_true rfl)) dc_I_firstFault_69 ⟨Nat.zero_le _, Nat.zero_le _⟩ (fun r116 st115 H locs hP hS h => ?_)
              exact w_iret hx hb hr hlocks hP hS h dc_I_firstFault_72
            · have h := h.2 c
              refine lv_iload_n hx hb dc_I_firstFault_64 rfl (lv_at hl 0 rfl) ?_
              refine lv_goto (tgt := 72) hx hb dc_I_firstFault_65 (by decide) ?_
              exact w_iret hx hb hr hlocks hP hS h dc_I_firstFault_72
      · have h := h.2 c
        refine lv_aload_n hx hb dc_I_firstFault_9 rfl (lv_at hl 0 rfl) ?_
        refine va_get (D := D) (ci := 3) (v := .ref (ad 6)) (C := Rn_I) (T := Fn_I) (N := 7) hx hb hts in_I hown hK hP 21 rfl rfl 3 (by decide) (hts _ mw_261) (fun _ h9 => h9) rfl dc_I_firstFault_10 ?_
        refine lv_iload_n hx hb dc_I_firstFault_13 rfl (lv_at hl 3 rfl) ?_
        refine lv_iconst (v := 0) hx hb dc_I_firstFault_14 (by decide) ?_
        refine w_ist 6 (by decide) hJ hx hb hK hP hS h.1 dc_I_firstFault_15 (fun H locs hP hS => ?_)
        obtain ⟨st117, est117⟩ : ∃ z : St_, z = ws_1 st 6 (y3).toNatClampNeg 0 := ⟨_, rfl⟩
        rw [← est117] at hP
        have h := h.2 st117 est117
        refine lv_aload_n hx hb dc_I_firstFault_16 rfl (lv_at hl 0 rfl) ?_
        refine va_get (D := D) (ci := 3) (v := .ref (ad 9)) (C := Rn_I) (T := Fn_I) (N := 7) hx hb hts in_I hown hK hP 21 rfl rfl 6 (by decide) (hts _ mw_294) (fun _ h9 => h9) rfl dc_I_firstFault_17 ?_
        refine lv_iload_n hx hb dc_I_firstFault_20 rfl (lv_at hl 3 rfl) ?_
        refine lv_iconst (v := 0) hx hb dc_I_firstFault_21 (by decide) ?_
        refine w_zst hJ hx hb hK hP hS h.1 dc_I_firstFault_22 (fun H locs hP hS => ?_)
        obtain ⟨st118, est118⟩ : ∃ z : St_, z = ws_1 st117 9 (y3).toNatClampNeg (vp_nar .boolean 0) := ⟨_, rfl⟩
        rw [← est118] at hP
        have h := h.2 st118 est118
        obtain ⟨x119, ex119⟩ : ∃ y : Int32, y = y3 + 1 := ⟨_, rfl⟩
        have h := h x119 ex119
        refine lv_iinc (v := x119) (lv' := [(3, .int x119), (0, .ref (ad 21)), (1, .ref (ad 22)), (2, .ref (ad 23))]) hx hb dc_I_firstFault_23 hl (k := 3) rfl (by rw [ex119]; rfl) (by decide) rfl (fun ls hl => ?_)
        refine lv_goto (tgt := 2) hx hb dc_I_firstFault_26 (by decide) ?_
        exact ih x119 st118 h _ _ hP hS ls (lv_sub hl [1, 2, 3, 0] rfl)
  have hl := lv_entry ([.ref (ad 21), .ref (ad 22), .ref (ad 23)]) (n := 4) (Nat.le_of_ble_eq_true rfl)
  rw [lg_entry_eq]
  generalize (lg_sl ([.ref (ad 21), .ref (ad 22), .ref (ad 23)]) ++ List.replicate (4 - (lg_sl ([.ref (ad 21), .ref (ad 22), .ref (ad 23)])).length) Slot.unset).toArray = ls at hl ⊢
  have hl : lv_has ls 4 [(0, .ref (ad 21)), (1, .ref (ad 22)), (2, .ref (ad 23))] := hl
  refine lv_iconst (v := 0) hx hb dc_I_firstFault_0 (by decide) ?_
  refine lv_istore_n (lv' := [(3, .int 0), (0, .ref (ad 21)), (1, .ref (ad 22)), (2, .ref (ad 23))]) hx hb dc_I_firstFault_1 rfl hl (by decide) rfl (fun ls hl => ?_)
  obtain ⟨n, h⟩ := h
  exact Lp_2 n 0 st h _ _ hP hS ls (lv_sub hl [1, 2, 3, 0] rfl)
end
section
set_option maxHeartbeats 4000000 in
set_option maxRecDepth 100000 in
theorem ct_S_check (l : Launch) (D : va_G) (ad : Nat → Nat) (cA : Nat → ClassId) (w : Nat) (hJ : Jn_ ad) (st : St_) (post : Int32 → St_ → Prop) (h : wp_S_check w st post) : Met l yn_S_check (Cond.code yn_S_check bc_S_check 1 (some .int) :: Wk_) rm_S_check (Pw_ D ad cA w st [.ref (ad 18)]) (Qi_ D ad cA w post) 0 0 (Aw_ ad) := by
  refine Met.ofW (cc := bc_S_check) (maxL := 1) (ret := (some .int)) (by decide) rfl ?_
  intro p e s m args below meth c s₁ B hml hv
  obtain ⟨rfl, hP, hK, hN⟩ := hv
  have hx := B.exec
  have hb := B.bytes
  have hr := B.returns
  have hts : ∀ v ∈ Wk_, v.before [.ref (ad 18)].toArray s = true := fun v hv => atoms_spec (ws := Cond.code yn_S_check bc_S_check 1 (some .int) :: Wk_) B.pre v (List.mem_cons_of_mem _ hv)
  have hown : s.vm.findClass Rn_S = some m.cls := findClass_of_methodNamed B.named
  have hlocks := B.notSynchronized
  have hS : va_S (Aw_ ad) s.heap s.heap [] := va_S.rf
  have hl := lv_entry ([.ref (ad 18)]) (n := 1) (Nat.le_of_ble_eq_true rfl)
  rw [lg_entry_eq]
  generalize (lg_sl ([.ref (ad 18)]) ++ List.replicate (1 - (lg_sl ([.ref (ad 18)])).length) Slot.unset).toArray = ls at hl ⊢
  have hl : lv_has ls 1 [(0, .ref (ad 18))] := hl
  refine lv_aload_n hx hb dc_S_check_0 rfl (lv_at hl 0 rfl) ?_
  refine va_get (D := D) (ci := 0) (v := .ref (ad 21)) (C := Rn_S) (T := Fn_S) (N := 5) hx hb hts in_S hown hK hP 18 rfl rfl 2 (by decide) (hts _ mw_256) (fun _ h9 => h9) rfl dc_S_check_1 ?_
  refine lv_aload_n hx hb dc_S_check_4 rfl (lv_at hl 0 rfl) ?_
  refine va_get (D := D) (ci := 0) (v := .ref (ad 22)) (C := Rn_S) (T := Fn_S) (N := 5) hx hb hts in_S hown hK hP 18 rfl rfl 3 (by decide) (hts _ mw_12) (fun _ h9 => h9) rfl dc_S_check_5 ?_
  refine lv_aload_n hx hb dc_S_check_8 rfl (lv_at hl 0 rfl) ?_
  refine va_get (D := D) (ci := 0) (v := .ref (ad 23)) (C := Rn_S) (T := Fn_S) (N := 5) hx hb hts in_S hown hK hP 18 rfl rfl 4 (by decide) (hts _ mw_242) (fun _ h9 => h9) rfl dc_S_check_9 ?_
  refine w_cVi (y := yn_I_firstFault) (C := Rn_I) (index := 99) (n := 2) (own := Rn_S) 21 hx hb hml hown hts hK hN hP hS (ct_I_firstFault_22_23 l D ad cA w hJ st _ h) mw_311 mw_312 mw_313 mw_314 mw_268 (by decide +kernel) ⟨Nat.le_of_ble_eq_true rfl, Nat.le_of_ble_eq_true rfl⟩ rfl rfl rfl rfl rfl hl.1 rfl (lv_room (Nat.le_of_ble_eq_true rfl)) dc_S_check_12 ⟨Nat.zero_le _, Nat.zero_le _⟩ (fun r102 st101 H locs hP hS h => ?_)
  exact w_iret hx hb hr hlocks hP hS h dc_S_check_15
end
section
set_option maxHeartbeats 4000000 in
set_option maxRecDepth 100000 in
theorem ct_R_check (l : Launch) (D : va_G) (ad : Nat → Nat) (cA : Nat → ClassId) (w : Nat) (hJ : Jn_ ad) (st : St_) (post : Int32 → St_ → Prop) (h : wp_R_check w st post) : Met l yn_R_check (Cond.code yn_R_check bc_R_check 1 (some .int) :: Wk_) rm_R_check (Pw_ D ad cA w st [.ref (ad 24)]) (Qi_ D ad cA w post) 0 0 (Aw_ ad) := by
  refine Met.ofW (cc := bc_R_check) (maxL := 1) (ret := (some .int)) (by decide) rfl ?_
  intro p e s m args below meth c s₁ B hml hv
  obtain ⟨rfl, hP, hK, hN⟩ := hv
  have hx := B.exec
  have hb := B.bytes
  have hr := B.returns
  have hts : ∀ v ∈ Wk_, v.before [.ref (ad 24)].toArray s = true := fun v hv => atoms_spec (ws := Cond.code yn_R_check bc_R_check 1 (some .int) :: Wk_) B.pre v (List.mem_cons_of_mem _ hv)
  have hown : s.vm.findClass Rn_R = some m.cls := findClass_of_methodNamed B.named
  have hlocks := B.notSynchronized
  have hS : va_S (Aw_ ad) s.heap s.heap [] := va_S.rf
  have hl := lv_entry ([.ref (ad 24)]) (n := 1) (Nat.le_of_ble_eq_true rfl)
  rw [lg_entry_eq]
  generalize (lg_sl ([.ref (ad 24)]) ++ List.replicate (1 - (lg_sl ([.ref (ad 24)])).length) Slot.unset).toArray = ls at hl ⊢
  have hl : lv_has ls 1 [(0, .ref (ad 24))] := hl
  refine lv_iconst (v := 0) hx hb dc_R_check_0 (by decide) ?_
  exact w_iret hx hb hr hlocks hP hS h dc_R_check_1
end
section
-- PURE: sums over the first n numbers, lists of pairs, sorted lists
def sm_ : Nat → (Nat → Nat) → Nat
  | 0, _ => 0
  | n + 1, f => sm_ n f + f n
theorem sm_congr {n : Nat} {f g : Nat → Nat} (h : ∀ i, i < n → f i = g i) : sm_ n f = sm_ n g := by
  induction n with
  | zero => rfl
  | succ n ih =>
    show sm_ n f + f n = sm_ n g + g n
    rw [ih (fun i hi => h i (by omega)), h n (by omega)]
theorem sm_add (n : Nat) (f g : Nat → Nat) : sm_ n (fun i => f i + g i) = sm_ n f + sm_ n g := by
  induction n with
  | zero => rfl
  | succ n ih =>
    show sm_ n (fun i => f i + g i) + (f n + g n) = (sm_ n f + f n) + (sm_ n g + g n)
    rw [ih]; omega
theorem sm_le {n : Nat} {f g : Nat → Nat} (h : ∀ i, i < n → f i ≤ g i) : sm_ n f ≤ sm_ n g := by
  induction n with
  | zero => exact Nat.le_refl _
  | succ n ih =>
    show sm_ n f + f n ≤ sm_ n g + g n
    have h1 := ih (fun i hi => h i (by omega))
    have h2 := h n (by omega)
    omega
theorem sm_0 {n : Nat} {f : Nat → Nat} (h : ∀ i, i < n → f i = 0) : sm_ n f = 0 := by
  induction n with
  | zero => rfl
  | succ n ih =>
    show sm_ n f + f n = 0
    rw [ih (fun i hi => h i (by omega)), h n (by omega)]
theorem sm_one {n k : Nat} (f : Nat → Nat) (hk : k < n) : f k ≤ sm_ n f := by
  induction n with
  | zero => omega
  | succ n ih =>
    show f k ≤ sm_ n f + f n
    by_cases h : k = n
    · subst h; omega
    · have := ih (by omega); omega
theorem sm_two {n j k : Nat} (f : Nat → Nat) (hj : j < n) (hk : k < n) (hne : j ≠ k) : f j + f k ≤ sm_ n f := by
  induction n with
  | zero => omega
  | succ n ih =>
    show f j + f k ≤ sm_ n f + f n
    by_cases h : k = n
    · subst h
      have := sm_one (n := k) f (k := j) (by omega)
      omega
    · by_cases h2 : j = n
      · subst h2
        have := sm_one (n := j) f (k := k) (by omega)
        omega
      · have := ih (by omega) (by omega); omega
/-- one summand is changed -/
theorem sm_up {n k : Nat} {f g : Nat → Nat} (hk : k < n) (h : ∀ i, i < n → i ≠ k → g i = f i) : sm_ n g + f k = sm_ n f + g k := by
  induction n with
  | zero => omega
  | succ n ih =>
    show sm_ n g + g n + f k = sm_ n f + f n + g k
    by_cases e : k = n
    · subst e
      rw [sm_congr (fun i hi => h i (by omega) (by omega))]
      omega
    · have h1 := ih (by omega) (fun i hi => h i (by omega))
      have h2 := h n (by omega) (by omega)
      omega
/-- two summands are changed -/
theorem sm_up2 {n j k : Nat} {f g : Nat → Nat} (hj : j < n) (hk : k < n) (hne : j ≠ k) (h : ∀ i, i < n → i ≠ j → i ≠ k → g i = f i) : sm_ n g + f j + f k = sm_ n f + g j + g k := by
  have h1 := sm_up (f := f) (g := va_up f j (g j)) hj (fun i _ hi => by simp [va_up, hi])
  have h2 := sm_up (f := va_up f j (g j)) (g := g) hk (fun i hi hik => by
    by_cases e : i = j
    · subst e; simp [va_up]
    · simp [va_up, e]; exact h i hi e hik)
  simp only [va_up, if_true] at h1
  rw [show va_up f j (g j) k = f k by simp [va_up, Ne.symm hne]] at h2
  omega
theorem sm_swap (n m : Nat) (f : Nat → Nat → Nat) : sm_ n (fun i => sm_ m (fun j => f i j)) = sm_ m (fun j => sm_ n (fun i => f i j)) := by
  induction n with
  | zero => exact (sm_0 (fun _ _ => rfl)).symm
  | succ n ih =>
    show sm_ n (fun i => sm_ m (fun j => f i j)) + sm_ m (fun j => f n j) = sm_ m (fun j => sm_ n (fun i => f i j) + f n j)
    rw [ih, sm_add]
theorem sm_mul (n c : Nat) (f : Nat → Nat) : sm_ n (fun i => f i * c) = sm_ n f * c := by
  induction n with
  | zero => simp [sm_]
  | succ n ih =>
    show sm_ n (fun i => f i * c) + f n * c = (sm_ n f + f n) * c
    rw [ih, Nat.add_mul]
/-- how often a list of pairs leads to x -/
def cn_ (x : Nat) : List (Nat × Nat) → Nat
  | [] => 0
  | e :: l => (if e.2 = x then 1 else 0) + cn_ x l
/-- the sum of f over what a list of pairs leads to -/
def su_ (f : Nat → Nat) : List (Nat × Nat) → Nat
  | [] => 0
  | e :: l => f e.2 + su_ f l
theorem cn_app (x : Nat) (a b : List (Nat × Nat)) : cn_ x (a ++ b) = cn_ x a + cn_ x b := by
  induction a with
  | nil => simp [cn_]
  | cons e l ih => simp only [List.cons_append, cn_, ih]; omega
theorem su_app (f : Nat → Nat) (a b : List (Nat × Nat)) : su_ f (a ++ b) = su_ f a + su_ f b := by
  induction a with
  | nil => simp [su_]
  | cons e l ih => simp only [List.cons_append, su_, ih]; omega
theorem cn_mem {x : Nat} {l : List (Nat × Nat)} {e : Nat × Nat} (h : e ∈ l) (hx : e.2 = x) : 1 ≤ cn_ x l := by
  induction l with
  | nil => simp at h
  | cons d l ih =>
    rcases List.mem_cons.mp h with rfl | h
    · simp [cn_, hx]
    · have := ih h
      simp only [cn_]; omega
theorem cn_pos {x : Nat} {l : List (Nat × Nat)} (h : 1 ≤ cn_ x l) : ∃ e ∈ l, e.2 = x := by
  induction l with
  | nil => simp [cn_] at h
  | cons d l ih =>
    by_cases hd : d.2 = x
    · exact ⟨d, List.mem_cons_self, hd⟩
    · simp only [cn_, hd, if_false] at h
      obtain ⟨e, h1, h2⟩ := ih (by omega)
      exact ⟨e, List.mem_cons_of_mem _ h1, h2⟩
theorem cn_0 {x : Nat} {l : List (Nat × Nat)} (h : ∀ e ∈ l, e.2 ≠ x) : cn_ x l = 0 := by
  rcases Nat.eq_zero_or_pos (cn_ x l) with h0 | h0
  · exact h0
  · obtain ⟨e, h1, h2⟩ := cn_pos h0
    exact absurd h2 (h e h1)
theorem cn_len (x : Nat) (l : List (Nat × Nat)) : cn_ x l ≤ l.length := by
  induction l with
  | nil => simp [cn_]
  | cons e l ih => simp only [cn_, List.length_cons]; split <;> omega
theorem su_congr {f g : Nat → Nat} {l : List (Nat × Nat)} (h : ∀ e ∈ l, f e.2 = g e.2) : su_ f l = su_ g l := by
  induction l with
  | nil => rfl
  | cons e l ih =>
    simp only [su_]
    rw [h e List.mem_cons_self, ih (fun d hd => h d (List.mem_cons_of_mem _ hd))]
theorem su_1 (l : List (Nat × Nat)) : su_ (fun _ => 1) l = l.length := by
  induction l with
  | nil => rfl
  | cons e l ih => simp only [su_, ih, List.length_cons]; omega
theorem su_add (f g : Nat → Nat) (l : List (Nat × Nat)) : su_ (fun x => f x + g x) l = su_ f l + su_ g l := by
  induction l with
  | nil => rfl
  | cons e l ih => simp only [su_, ih]; omega
theorem sm_cn {n : Nat} (f : Nat → Nat) {l : List (Nat × Nat)} (h : ∀ e ∈ l, e.2 < n) : sm_ n (fun z => cn_ z l * f z) = su_ f l := by
  induction l with
  | nil => exact sm_0 (fun _ _ => by simp [cn_])
  | cons e l ih =>
    have h1 : sm_ n (fun z => cn_ z (e :: l) * f z) = sm_ n (fun z => (if e.2 = z then 1 else 0) * f z + cn_ z l * f z) := sm_congr (fun i _ => by simp only [cn_, Nat.add_mul])
    rw [h1, sm_add, ih (fun d hd => h d (List.mem_cons_of_mem _ hd))]
    have h2 := sm_up (n := n) (k := e.2) (f := fun _ => 0) (g := fun z => (if e.2 = z then 1 else 0) * f z) (h e List.mem_cons_self) (fun i _ hi => by simp [Ne.symm hi])
    rw [sm_0 (f := fun _ => 0) (fun _ _ => rfl)] at h2
    simp only [if_true, Nat.one_mul] at h2
    simp only [su_]
    omega
-- sorted lists of pairs
def so_ (l : List (Nat × Nat)) : Prop := l.Pairwise (fun a b => a.1 < b.1)
theorem so_app {a b : List (Nat × Nat)} : so_ (a ++ b) ↔ so_ a ∧ so_ b ∧ ∀ x ∈ a, ∀ y ∈ b, x.1 < y.1 := List.pairwise_append
theorem so_cons {e : Nat × Nat} {l : List (Nat × Nat)} : so_ (e :: l) ↔ (∀ y ∈ l, e.1 < y.1) ∧ so_ l := List.pairwise_cons
theorem so_nil : so_ [] := List.Pairwise.nil
/-- put (k, s) in -/
def iz_ (k s : Nat) : List (Nat × Nat) → List (Nat × Nat)
  | [] => [(k, s)]
  | e :: l => if k < e.1 then (k, s) :: e :: l else if k = e.1 then (k, s) :: l else e :: iz_ k s l
/-- take k out -/
def dz_ (k : Nat) (l : List (Nat × Nat)) : List (Nat × Nat) := l.filter (fun e => !(e.1 == k))
theorem iz_left {k s : Nat} {p l : List (Nat × Nat)} (h : ∀ e ∈ p, e.1 < k) : iz_ k s (p ++ l) = p ++ iz_ k s l := by
  induction p with
  | nil => rfl
  | cons e p ih =>
    have he := h e List.mem_cons_self
    simp only [List.cons_append, iz_]
    rw [if_neg (by omega), if_neg (by omega), ih (fun d hd => h d (List.mem_cons_of_mem _ hd))]
theorem iz_right {k s : Nat} {l q : List (Nat × Nat)} (h : ∀ e ∈ q, k < e.1) : iz_ k s (l ++ q) = iz_ k s l ++ q := by
  induction l with
  | nil =>
    cases q with
    | nil => rfl
    | cons e q =>
      have he := h e List.mem_cons_self
      simp only [List.nil_append, iz_]
      rw [if_pos he]
      rfl
  | cons e l ih =>
    simp only [List.cons_append, iz_]
    split
    · rfl
    · split
      · rfl
      · rw [ih]; rfl
theorem iz_mem {k s : Nat} {l : List (Nat × Nat)} (hs : so_ l) (a t : Nat) : (a, t) ∈ iz_ k s l ↔ (a = k ∧ t = s) ∨ (a ≠ k ∧ (a, t) ∈ l) := by
  induction l with
  | nil =>
    simp only [iz_, List.mem_singleton, Prod.mk.injEq, List.not_mem_nil, and_false, or_false]
  | cons e l ih =>
    obtain ⟨h1, h2⟩ := so_cons.mp hs
    have ih := ih h2
    simp only [iz_]
    split
    · next hk =>
      simp only [List.mem_cons, Prod.mk.injEq]
      constructor
      · rintro (⟨rfl, rfl⟩ | h)
        · exact Or.inl ⟨rfl, rfl⟩
        · refine Or.inr ⟨?_, h⟩
          rcases h with h | h
          · have : a = e.1 := by rw [← h]
            omega
          · have := h1 _ h
            simp only at this
            omega
      · rintro (⟨rfl, rfl⟩ | ⟨_, h⟩)
        · exact Or.inl ⟨rfl, rfl⟩
        · exact Or.inr h
    · split
      · next hk =>
        simp only [List.mem_cons, Prod.mk.injEq]
        constructor
        · rintro (⟨rfl, rfl⟩ | h)
          · exact Or.inl ⟨rfl, rfl⟩
          · have := h1 _ h
            simp only at this
            exact Or.inr ⟨by omega, Or.inr h⟩
        · rintro (⟨rfl, rfl⟩ | ⟨hn, h⟩)
          · exact Or.inl ⟨rfl, rfl⟩
          · rcases h with h | h
            · have : a = e.1 := by rw [← h]
              exact absurd (this.trans hk.symm) hn
            · exact Or.inr h
      · next hk1 hk2 =>
        simp only [List.mem_cons]
        constructor
        · rintro (h | h)
          · have : a = e.1 := by rw [← h]
            exact Or.inr ⟨by omega, Or.inl h⟩
          · rcases ih.mp h with h | ⟨hn, h⟩
            · exact Or.inl h
            · exact Or.inr ⟨hn, Or.inr h⟩
        · rintro (h | ⟨hn, h⟩)
          · exact Or.inr (ih.mpr (Or.inl h))
          · rcases h with h | h
            · exact Or.inl h
            · exact Or.inr (ih.mpr (Or.inr ⟨hn, h⟩))
theorem iz_so {k s : Nat} {l : List (Nat × Nat)} (hs : so_ l) : so_ (iz_ k s l) := by
  induction l with
  | nil => simp [iz_, so_]
  | cons e l ih =>
    obtain ⟨h1, h2⟩ := so_cons.mp hs
    simp only [iz_]
    split
    · next hk =>
      refine so_cons.mpr ⟨fun y hy => ?_, hs⟩
      rcases List.mem_cons.mp hy with rfl | hy
      · exact hk
      · have := h1 y hy
        show k < y.1
        omega
    · split
      · next hk =>
        refine so_cons.mpr ⟨fun y hy => ?_, h2⟩
        have := h1 y hy
        show k < y.1
        omega
      · refine so_cons.mpr ⟨fun y hy => ?_, ih h2⟩
        obtain ⟨a, t⟩ := y
        rcases (iz_mem h2 a t).mp hy with ⟨rfl, rfl⟩ | ⟨_, h⟩
        · show e.1 < a
          omega
        · exact h1 _ h
theorem iz_len0 {k s : Nat} {l : List (Nat × Nat)} (h : ∀ t, (k, t) ∉ l) : (iz_ k s l).length = l.length + 1 := by
  induction l with
  | nil => rfl
  | cons e l ih =>
    have he : e.1 ≠ k := fun q => h e.2 (by rw [← q]; exact List.mem_cons_self)
    simp only [iz_]
    split
    · simp
    · rw [if_neg (Ne.symm he)]
      simp only [List.length_cons]
      rw [ih (fun t ht => h t (List.mem_cons_of_mem _ ht))]
theorem iz_len1 {k s t : Nat} {l : List (Nat × Nat)} (hs : so_ l) (h : (k, t) ∈ l) : (iz_ k s l).length = l.length := by
  induction l with
  | nil => simp at h
  | cons e l ih =>
    obtain ⟨h1, h2⟩ := so_cons.mp hs
    simp only [iz_]
    rcases List.mem_cons.mp h with h | h
    · have : k = e.1 := by rw [← h]
      rw [if_neg (by omega), if_pos this]; rfl
    · have := h1 _ h
      simp only at this
      rw [if_neg (by omega), if_neg (by omega)]
      simp only [List.length_cons]
      rw [ih h2 h]
theorem dz_app (k : Nat) (a b : List (Nat × Nat)) : dz_ k (a ++ b) = dz_ k a ++ dz_ k b := by simp [dz_]
theorem dz_no {k : Nat} {l : List (Nat × Nat)} (h : ∀ t, (k, t) ∉ l) : dz_ k l = l := by
  simp only [dz_]
  rw [List.filter_eq_self]
  intro e he
  have : e.1 ≠ k := fun q => h e.2 (by rw [← q]; exact he)
  simp [this]
theorem dz_mem (k a t : Nat) (l : List (Nat × Nat)) : (a, t) ∈ dz_ k l ↔ a ≠ k ∧ (a, t) ∈ l := by
  simp only [dz_, List.mem_filter]
  constructor
  · rintro ⟨h1, h2⟩
    exact ⟨by simpa using h2, h1⟩
  · rintro ⟨h1, h2⟩
    exact ⟨h2, by simpa using h1⟩
theorem dz_so {k : Nat} {l : List (Nat × Nat)} (hs : so_ l) : so_ (dz_ k l) := List.Pairwise.filter _ hs
theorem dz_len1 {k t : Nat} {l : List (Nat × Nat)} (hs : so_ l) (h : (k, t) ∈ l) : (dz_ k l).length + 1 = l.length := by
  induction l with
  | nil => simp at h
  | cons e l ih =>
    obtain ⟨h1, h2⟩ := so_cons.mp hs
    rcases List.mem_cons.mp h with h | h
    · have he : e.1 = k := by rw [← h]
      have hn : dz_ k l = l := dz_no (fun t ht => by have := h1 _ ht; simp only at this; omega)
      have : dz_ k (e :: l) = dz_ k l := by simp [dz_, he]
      rw [this, hn]; rfl
    · have := h1 _ h
      simp only at this
      have hd : dz_ k (e :: l) = e :: dz_ k l := by
        simp only [dz_]
        rw [List.filter_cons_of_pos (by simp; omega)]
      rw [hd]
      simp only [List.length_cons]
      rw [ih h2 h]
theorem so_fun {l : List (Nat × Nat)} (hs : so_ l) {a t u : Nat} (h1 : (a, t) ∈ l) (h2 : (a, u) ∈ l) : t = u := by
  induction l with
  | nil => simp at h1
  | cons e l ih =>
    obtain ⟨g1, g2⟩ := so_cons.mp hs
    rcases List.mem_cons.mp h1 with e1 | h1 <;> rcases List.mem_cons.mp h2 with e2 | h2
    · rw [← e1] at e2; exact (Prod.mk.inj e2).2.symm
    · have := g1 _ h2; rw [← e1] at this; simp at this
    · have := g1 _ h1; rw [← e2] at this; simp at this
    · exact ih g2 h1 h2
/-- a list with no entry twice, that holds just those of 1 .. n with P, has as many entries as there are such -/
theorem nd_len (P : Nat → Prop) [DecidablePred P] (n : Nat) : ∀ (l : List Nat), l.Nodup → (∀ b, b ∈ l ↔ 1 ≤ b ∧ b ≤ n ∧ P b) → l.length = sm_ n (fun i => if P (i + 1) then 1 else 0) := by
  induction n with
  | zero =>
    intro l _ h
    cases l with
    | nil => rfl
    | cons b l => have := (h b).mp List.mem_cons_self; omega
  | succ n ih =>
    intro l hn h
    have h1 := ih (l.filter (fun b => !(b == n + 1))) (List.Pairwise.filter _ hn) (fun b => by
      simp only [List.mem_filter, h, Bool.not_eq_true', beq_eq_false_iff_ne]
      constructor
      · rintro ⟨⟨a, b1, c⟩, d⟩; exact ⟨a, by omega, c⟩
      · rintro ⟨a, b1, c⟩; exact ⟨⟨a, by omega, c⟩, by omega⟩)
    show l.length = sm_ n (fun i => if P (i + 1) then 1 else 0) + (if P (n + 1) then 1 else 0)
    rw [← h1]
    by_cases hp : P (n + 1)
    · rw [if_pos hp]
      have hm : n + 1 ∈ l := (h _).mpr ⟨by omega, by omega, hp⟩
      clear h h1 ih
      induction l with
      | nil => simp at hm
      | cons b l ihl =>
        rw [List.nodup_cons] at hn
        by_cases hb : b = n + 1
        · subst hb
          have : (l.filter (fun b => !(b == n + 1))) = l := by
            rw [List.filter_eq_self]
            intro q hq
            have : q ≠ n + 1 := fun e => hn.1 (e ▸ hq)
            simp [this]
          simp [this]
        · have hm2 : n + 1 ∈ l := by
            rcases List.mem_cons.mp hm with e | h
            · exact absurd e.symm hb
            · exact h
          have := ihl hn.2 hm2
          rw [List.filter_cons_of_pos (by simp [hb])]
          simp only [List.length_cons]
          omega
    · rw [if_neg hp]
      have : (l.filter (fun b => !(b == n + 1))) = l := by
        rw [List.filter_eq_self]
        intro q hq
        have : q ≠ n + 1 := fun e => hp (by have := ((h q).mp hq).2.2; rw [e] at this; exact this)
        simp [this]
      rw [this]; rfl
end
section
-- PURE: the store of blocks as mathematics: ways, levels, entries of each block, the list of free blocks
abbrev Sg_ : Type := (Nat → Nat) × (Nat → Nat) × (Nat → List (Nat × Nat)) × List Nat
abbrev gw_ (G : Sg_) : Nat → Nat := G.1
abbrev gl_ (G : Sg_) : Nat → Nat := G.2.1
abbrev ge_ (G : Sg_) : Nat → List (Nat × Nat) := G.2.2.1
abbrev gf_ (G : Sg_) : List Nat := G.2.2.2
/-- the arrays of Blocks hold the store G -/
def Rp_ (w : Nat) (st : St_) (G : Sg_) : Prop :=
  (∀ b, 1 ≤ b → b ≤ 1200 → st 0 b = nI (gw_ G b) ∧ st 1 b = nI (gl_ G b) ∧ st 2 b = nI (ge_ G b).length ∧ (ge_ G b).length ≤ w ∧
    ∀ i, i < (ge_ G b).length → st 3 (b * w + i) = nI ((ge_ G b).getD i (0, 0)).1 ∧ st 4 (b * w + i) = nI ((ge_ G b).getD i (0, 0)).2) ∧
  (∀ b, ∀ e ∈ ge_ G b, e.1 < 4096 ∧ e.2 ≤ 1000000000) ∧
  st 18 0 = nI (gf_ G).length ∧ (gf_ G).length ≤ 1200 ∧ ∀ i, i < (gf_ G).length → st 5 i = nI ((gf_ G).getD i 0)
/-- all but the arrays of Blocks is as it was -/
def Fr_ (st st' : St_) : Prop := ∀ k, 6 ≤ k → k ≠ 18 → st' k = st k
theorem Fr_.rf {st : St_} : Fr_ st st := fun _ _ _ => rfl
theorem Fr_.tr {a b c : St_} (h1 : Fr_ a b) (h2 : Fr_ b c) : Fr_ a c := fun k h3 h4 => (h2 k h3 h4).trans (h1 k h3 h4)
theorem rb_t {c A B : Prop} (h : ¬ c) (a : A) : (¬ c → A) ∧ (c → B) := ⟨fun _ => a, fun q => absurd q h⟩
theorem rb_f {c A B : Prop} (h : c) (b : B) : (¬ c → A) ∧ (c → B) := ⟨fun q => absurd h q, fun _ => b⟩
theorem ix_lt {b i w : Nat} (hb : b ≤ 1200) (hi : i < w) : b * w + i < 1201 * w := by
  have h1 : b * w ≤ 1200 * w := Nat.mul_le_mul_right w hb
  omega
theorem ix_inj {b c i j w : Nat} (hi : i < w) (hj : j < w) (h : b * w + i = c * w + j) : b = c ∧ i = j := by
  have hw : 0 < w := by omega
  have h1 : (b * w + i) / w = b := by rw [Nat.mul_comm, Nat.mul_add_div hw, Nat.div_eq_of_lt hi]; rfl
  have h2 : (c * w + j) / w = c := by rw [Nat.mul_comm, Nat.mul_add_div hw, Nat.div_eq_of_lt hj]; rfl
  have e : b = c := by rw [← h1, ← h2, h]
  subst e
  exact ⟨rfl, by omega⟩
theorem ix_big {w : Nat} (hw : w ≤ 32) : 1201 * w < 2 ^ 31 := by omega
theorem ws_1_at {st : St_} {k i : Nat} {x : Int32} : ws_1 st k i x k i = x := by simp [ws_1, va_up, upd]
theorem ws_1_ne {st : St_} {k i j : Nat} {x : Int32} (h : j ≠ i) : ws_1 st k i x k j = st k j := by simp [ws_1, va_up, upd, h]
theorem ws_1_arr {st : St_} {k i q : Nat} {x : Int32} (h : q ≠ k) : ws_1 st k i x q = st q := by simp [ws_1, va_up, h]
theorem ws_c_arr {st : St_} {k j sp dp n q : Nat} (h : q ≠ j) : ws_c st k j sp dp n q = st q := by simp [ws_c, va_up, h]
section PB
variable {w : Nat} {st : St_} {G : Sg_}
theorem p_isBlock {b : Nat} {post : Int32 → St_ → Prop} (hb : 1 ≤ b ∧ b ≤ 1200) (k : post 1 st) : wp_B_isBlock w (nI b) st post := by
  unfold wp_B_isBlock
  refine br_f (nI_nle (by omega) (by omega)) (br_f (fun c => ?_) k)
  have := (nI_ltI (a := 1200) (b := b) (by omega) (by omega)).mp c
  omega
theorem p_isBlock0 {post : Int32 → St_ → Prop} (k : post 0 st) : wp_B_isBlock w 0 st post := by
  unfold wp_B_isBlock
  exact br_t (by decide) k
theorem p_ways {b : Nat} {post : Int32 → St_ → Prop} (hR : Rp_ w st G) (hb : 1 ≤ b ∧ b ≤ 1200) (k : post (nI (gw_ G b)) st) : wp_B_ways w (nI b) st post := by
  unfold wp_B_ways
  refine p_isBlock hb (br_f (by decide) ⟨vp_in_nI (by omega) (by omega), ?_⟩)
  rw [nI_clamp (by omega), (hR.1 b hb.1 hb.2).1]
  exact k
theorem p_level {b : Nat} {post : Int32 → St_ → Prop} (hR : Rp_ w st G) (hb : 1 ≤ b ∧ b ≤ 1200) (k : post (nI (gl_ G b)) st) : wp_B_level w (nI b) st post := by
  unfold wp_B_level
  refine p_isBlock hb (br_f (by decide) ⟨vp_in_nI (by omega) (by omega), ?_⟩)
  rw [nI_clamp (by omega), (hR.1 b hb.1 hb.2).2.1]
  exact k
theorem p_level0 {post : Int32 → St_ → Prop} (k : post 0 st) : wp_B_level w 0 st post := by
  unfold wp_B_level
  exact p_isBlock0 (br_t rfl k)
theorem p_size {b : Nat} {post : Int32 → St_ → Prop} (hR : Rp_ w st G) (hb : 1 ≤ b ∧ b ≤ 1200) (k : post (nI (ge_ G b).length) st) : wp_B_size w (nI b) st post := by
  unfold wp_B_size
  refine p_isBlock hb (br_f (by decide) ⟨vp_in_nI (by omega) (by omega), ?_⟩)
  rw [nI_clamp (by omega), (hR.1 b hb.1 hb.2).2.2.1]
  exact k
theorem p_size0 {post : Int32 → St_ → Prop} (k : post 0 st) : wp_B_size w 0 st post := by
  unfold wp_B_size
  exact p_isBlock0 (br_t rfl k)
theorem p_isEntry {b i : Nat} {post : Int32 → St_ → Prop} (hw : 5 ≤ w ∧ w ≤ 32) (hR : Rp_ w st G) (hb : 1 ≤ b ∧ b ≤ 1200) (hi : i < (ge_ G b).length) (k : post 1 st) : wp_B_isEntry w (nI b) (nI i) st post := by
  unfold wp_B_isEntry
  obtain ⟨h0, h1, h2, h3, h4⟩ := hR.1 b hb.1 hb.2
  refine p_isBlock hb (br_f (by decide) (br_f (nI_pos (by omega)) (br_f (nI_ge (by omega) (by omega)) ⟨vp_in_nI (by omega) (by omega), ?_⟩)))
  rw [nI_clamp (by omega), h2]
  exact br_f (nI_ge hi (by omega)) k
theorem p_isEntryM {b : Nat} {x : Int32} {post : Int32 → St_ → Prop} (hb : 1 ≤ b ∧ b ≤ 1200) (hx : x < 0) (k : post 0 st) : wp_B_isEntry w (nI b) x st post := by
  unfold wp_B_isEntry
  exact p_isBlock hb (br_f (by decide) (br_t hx k))
theorem p_isEntryO {b i : Nat} {post : Int32 → St_ → Prop} (hw : 5 ≤ w ∧ w ≤ 32) (hR : Rp_ w st G) (hb : 1 ≤ b ∧ b ≤ 1200) (hi : (ge_ G b).length ≤ i) (hi2 : i < 2 ^ 31) (k : post 0 st) : wp_B_isEntry w (nI b) (nI i) st post := by
  unfold wp_B_isEntry
  obtain ⟨h0, h1, h2, h3, h4⟩ := hR.1 b hb.1 hb.2
  refine p_isBlock hb (br_f (by decide) (br_f (nI_pos (by omega)) (br_c (fun _ => k) (fun _ => ⟨vp_in_nI (by omega) (by omega), ?_⟩))))
  rw [nI_clamp (by omega), h2]
  exact br_t (nI_le hi (by omega)) k
theorem p_isEntry0 {x : Int32} {post : Int32 → St_ → Prop} (k : post 0 st) : wp_B_isEntry w 0 x st post := by
  unfold wp_B_isEntry
  exact p_isBlock0 (br_t rfl k)
theorem ix_e (b i w : Nat) : nI b * nI w + nI i = nI (b * w + i) := by rw [pk_mul, nI_add]
theorem p_key {b i : Nat} {post : Int32 → St_ → Prop} (hw : 5 ≤ w ∧ w ≤ 32) (hR : Rp_ w st G) (hb : 1 ≤ b ∧ b ≤ 1200) (hi : i < (ge_ G b).length) (k : post (nI ((ge_ G b).getD i (0, 0)).1) st) : wp_B_key w (nI b) (nI i) st post := by
  unfold wp_B_key
  obtain ⟨h0, h1, h2, h3, h4⟩ := hR.1 b hb.1 hb.2
  have h5 : b * w + i < 1201 * w := ix_lt hb.2 (by omega)
  have h6 := ix_big hw.2
  refine p_isEntry hw hR hb hi (br_f (by decide) ?_)
  rw [ix_e]
  refine ⟨vp_in_nI h5 h6, ?_⟩
  rw [nI_clamp (by omega), (h4 i hi).1]
  exact k
theorem p_keyM {b : Nat} {x : Int32} {post : Int32 → St_ → Prop} (hb : 1 ≤ b ∧ b ≤ 1200) (hx : x < 0) (k : post (-2) st) : wp_B_key w (nI b) x st post := by
  unfold wp_B_key
  exact p_isEntryM hb hx (br_t rfl k)
theorem p_keyO {b i : Nat} {post : Int32 → St_ → Prop} (hw : 5 ≤ w ∧ w ≤ 32) (hR : Rp_ w st G) (hb : 1 ≤ b ∧ b ≤ 1200) (hi : (ge_ G b).length ≤ i) (hi2 : i < 2 ^ 31) (k : post (-2) st) : wp_B_key w (nI b) (nI i) st post := by
  unfold wp_B_key
  exact p_isEntryO hw hR hb hi hi2 (br_t rfl k)
theorem p_key0 {x : Int32} {post : Int32 → St_ → Prop} (k : post (-2) st) : wp_B_key w 0 x st post := by
  unfold wp_B_key
  exact p_isEntry0 (br_t rfl k)
theorem p_goal {b i : Nat} {post : Int32 → St_ → Prop} (hw : 5 ≤ w ∧ w ≤ 32) (hR : Rp_ w st G) (hb : 1 ≤ b ∧ b ≤ 1200) (hi : i < (ge_ G b).length) (k : post (nI ((ge_ G b).getD i (0, 0)).2) st) : wp_B_goal w (nI b) (nI i) st post := by
  unfold wp_B_goal
  obtain ⟨h0, h1, h2, h3, h4⟩ := hR.1 b hb.1 hb.2
  have h5 : b * w + i < 1201 * w := ix_lt hb.2 (by omega)
  have h6 := ix_big hw.2
  refine p_isEntry hw hR hb hi (br_f (by decide) ?_)
  rw [ix_e]
  refine ⟨vp_in_nI h5 h6, ?_⟩
  rw [nI_clamp (by omega), (h4 i hi).2]
  exact k
/-- the key of an entry is set -/
abbrev sk_ (l : List (Nat × Nat)) (i k : Nat) : List (Nat × Nat) := l.set i (k, (l.getD i (0, 0)).2)
abbrev sg_ (l : List (Nat × Nat)) (i g : Nat) : List (Nat × Nat) := l.set i ((l.getD i (0, 0)).1, g)
abbrev se_ (G : Sg_) (b : Nat) (l : List (Nat × Nat)) : Sg_ := (G.1, G.2.1, va_up G.2.2.1 b l, G.2.2.2)
abbrev sw_ (G : Sg_) (b n : Nat) : Sg_ := (va_up G.1 b n, G.2.1, G.2.2.1, G.2.2.2)
theorem se_at (G : Sg_) (b : Nat) (l : List (Nat × Nat)) : ge_ (se_ G b l) b = l := by
  show va_up G.2.2.1 b l b = l
  simp [va_up]
theorem se_ne (G : Sg_) {b c : Nat} (l : List (Nat × Nat)) (h : c ≠ b) : ge_ (se_ G b l) c = ge_ G c := by
  show va_up G.2.2.1 b l c = G.2.2.1 c
  simp [va_up, h]
theorem getD_set {l : List (Nat × Nat)} {i j : Nat} {e d : Nat × Nat} (hi : i < l.length) : (l.set i e).getD j d = if j = i then e else l.getD j d := by
  simp only [List.getD_eq_getElem?_getD, List.getElem?_set]
  by_cases h : j = i
  · subst h; simp [hi]
  · simp [h, Ne.symm h]
theorem Rp_.bd (hR : Rp_ w st G) {b i : Nat} (hi : i < (ge_ G b).length) : ((ge_ G b).getD i (0, 0)).1 < 4096 ∧ ((ge_ G b).getD i (0, 0)).2 ≤ 1000000000 := by
  refine hR.2.1 b _ ?_
  rw [List.getD_eq_getElem?_getD, List.getElem?_eq_getElem hi]
  exact List.getElem_mem hi
/-- the store with other entries in one block, if the arrays have them -/
theorem Rp_.ents {st' : St_} (hR : Rp_ w st G) {b : Nat} {l : List (Nat × Nat)} (hl : l.length ≤ w) (hbd : ∀ e ∈ l, e.1 < 4096 ∧ e.2 ≤ 1000000000)
    (e0 : st' 0 = st 0) (e1 : st' 1 = st 1) (e5 : st' 5 = st 5) (e18 : st' 18 = st 18) (e2 : ∀ c, c ≠ b → st' 2 c = st 2 c) (e2b : st' 2 b = nI l.length)
    (e3 : ∀ c i, c ≠ b → i < w → st' 3 (c * w + i) = st 3 (c * w + i)) (e4 : ∀ c i, c ≠ b → i < w → st' 4 (c * w + i) = st 4 (c * w + i))
    (e34 : ∀ i, i < l.length → st' 3 (b * w + i) = nI (l.getD i (0, 0)).1 ∧ st' 4 (b * w + i) = nI (l.getD i (0, 0)).2) : Rp_ w st' (se_ G b l) := by
  obtain ⟨h1, h2, h3, h4, h5⟩ := hR
  refine ⟨fun c c1 c2 => ?_, fun c e he => ?_, by rw [e18]; exact h3, h4, fun i hi => by rw [e5]; exact h5 i hi⟩
  · obtain ⟨g0, g1, g2, g3, g4⟩ := h1 c c1 c2
    refine ⟨by rw [e0]; exact g0, by rw [e1]; exact g1, ?_⟩
    by_cases hc : c = b
    · subst hc
      rw [se_at]
      exact ⟨e2b, hl, e34⟩
    · rw [se_ne G l hc]
      refine ⟨by rw [e2 c hc]; exact g2, g3, fun i hi => ?_⟩
      rw [e3 c i hc (by omega), e4 c i hc (by omega)]
      exact g4 i hi
  · by_cases hc : c = b
    · subst hc
      rw [se_at] at he
      exact hbd e he
    · rw [se_ne G l hc] at he
      exact h2 c e he
theorem p_setKey {b i x : Nat} {post : St_ → Prop} (hw : 5 ≤ w ∧ w ≤ 32) (hR : Rp_ w st G) (hb : 1 ≤ b ∧ b ≤ 1200) (hi : i < (ge_ G b).length) (hx : x < 4096)
    (k : ∀ st', Rp_ w st' (se_ G b (sk_ (ge_ G b) i x)) → Fr_ st st' → post st') : wp_B_setKey w (nI b) (nI i) (nI x) st post := by
  unfold wp_B_setKey
  obtain ⟨h0, h1, h2, h3, h4⟩ := hR.1 b hb.1 hb.2
  have h5 : b * w + i < 1201 * w := ix_lt hb.2 (by omega)
  have h6 := ix_big hw.2
  refine p_isEntry hw hR hb hi (br_f (by decide) ?_)
  rw [ix_e]
  refine ⟨vp_in_nI h5 h6, fun st' e => ?_⟩
  rw [nI_clamp (by omega)] at e
  subst e
  have hbd := hR.bd hi
  refine k _ (hR.ents (by simp; exact h3) (fun e he => ?_) (ws_1_arr (by decide)) (ws_1_arr (by decide)) (ws_1_arr (by decide)) (ws_1_arr (by decide)) (fun c _ => by rw [ws_1_arr (by decide)]) (by rw [ws_1_arr (by decide), List.length_set]; exact h2) (fun c j hc hj => ?_) (fun c j _ _ => by rw [ws_1_arr (by decide)]) (fun j hj => ?_)) (fun q q1 q2 => ws_1_arr (by omega))
  · rcases List.mem_or_eq_of_mem_set he with h | h
    · exact hR.2.1 b e h
    · subst h; exact ⟨hx, hbd.2⟩
  · exact ws_1_ne (fun e => hc (ix_inj hj (by omega) e).1)
  · rw [List.length_set] at hj
    rw [getD_set hi]
    by_cases hji : j = i
    · subst hji
      rw [ws_1_at, ws_1_arr (by decide), (h4 j hj).2]
      simp
    · rw [ws_1_ne (fun e => hji (ix_inj (by omega) (by omega) e).2), ws_1_arr (by decide)]
      simp only [hji, if_false]
      exact h4 j hj
theorem p_setGoal {b i x : Nat} {post : St_ → Prop} (hw : 5 ≤ w ∧ w ≤ 32) (hR : Rp_ w st G) (hb : 1 ≤ b ∧ b ≤ 1200) (hi : i < (ge_ G b).length) (hx : x ≤ 1000000000)
    (k : ∀ st', Rp_ w st' (se_ G b (sg_ (ge_ G b) i x)) → Fr_ st st' → post st') : wp_B_setGoal w (nI b) (nI i) (nI x) st post := by
  unfold wp_B_setGoal
  obtain ⟨h0, h1, h2, h3, h4⟩ := hR.1 b hb.1 hb.2
  have h5 : b * w + i < 1201 * w := ix_lt hb.2 (by omega)
  have h6 := ix_big hw.2
  refine p_isEntry hw hR hb hi (br_f (by decide) ?_)
  rw [ix_e]
  refine ⟨vp_in_nI h5 h6, fun st' e => ?_⟩
  rw [nI_clamp (by omega)] at e
  subst e
  have hbd := hR.bd hi
  refine k _ (hR.ents (by simp; exact h3) (fun e he => ?_) (ws_1_arr (by decide)) (ws_1_arr (by decide)) (ws_1_arr (by decide)) (ws_1_arr (by decide)) (fun c _ => by rw [ws_1_arr (by decide)]) (by rw [ws_1_arr (by decide), List.length_set]; exact h2) (fun c j _ _ => by rw [ws_1_arr (by decide)]) (fun c j hc hj => ?_) (fun j hj => ?_)) (fun q q1 q2 => ws_1_arr (by omega))
  · rcases List.mem_or_eq_of_mem_set he with h | h
    · exact hR.2.1 b e h
    · subst h; exact ⟨hbd.1, hx⟩
  · exact ws_1_ne (fun e => hc (ix_inj hj (by omega) e).1)
  · rw [List.length_set] at hj
    rw [getD_set hi]
    by_cases hji : j = i
    · subst hji
      rw [ws_1_at, ws_1_arr (by decide), (h4 j hj).1]
      simp
    · rw [ws_1_ne (fun e => hji (ix_inj (by omega) (by omega) e).2), ws_1_arr (by decide)]
      simp only [hji, if_false]
      exact h4 j hj
end PB
end
section
-- PURE: the methods of Blocks over the store
abbrev il_ (l : List (Nat × Nat)) (i : Nat) (e : Nat × Nat) : List (Nat × Nat) := l.take i ++ e :: l.drop i
abbrev el_ (l : List (Nat × Nat)) (i : Nat) : List (Nat × Nat) := l.take i ++ l.drop (i + 1)
theorem il_len {l : List (Nat × Nat)} {i : Nat} {e : Nat × Nat} (hi : i ≤ l.length) : (il_ l i e).length = l.length + 1 := by
  simp; omega
theorem el_len {l : List (Nat × Nat)} {i : Nat} (hi : i < l.length) : (el_ l i).length + 1 = l.length := by
  simp; omega
theorem il_getD {l : List (Nat × Nat)} {i j : Nat} {e d : Nat × Nat} (hi : i ≤ l.length) : (il_ l i e).getD j d = if j < i then l.getD j d else if j = i then e else l.getD (j - 1) d := by
  simp only [List.getD_eq_getElem?_getD]
  by_cases h : j < i
  · rw [if_pos h, List.getElem?_append_left (by simp; omega), List.getElem?_take_of_lt h]
  · rw [if_neg h, List.getElem?_append_right (by simp; omega)]
    have e1 : (l.take i).length = i := by simp; omega
    rw [e1]
    by_cases h2 : j = i
    · subst h2; simp
    · rw [if_neg h2, show j - i = (j - i - 1) + 1 by omega, List.getElem?_cons_succ, List.getElem?_drop, show i + (j - i - 1) = j - 1 by omega]
theorem el_getD {l : List (Nat × Nat)} {i j : Nat} {d : Nat × Nat} (hi : i < l.length) : (el_ l i).getD j d = if j < i then l.getD j d else l.getD (j + 1) d := by
  simp only [List.getD_eq_getElem?_getD]
  by_cases h : j < i
  · rw [if_pos h, List.getElem?_append_left (by simp; omega), List.getElem?_take_of_lt h]
  · rw [if_neg h, List.getElem?_append_right (by simp; omega)]
    have e1 : (l.take i).length = i := by simp; omega
    rw [e1, List.getElem?_drop, show i + 1 + (j - i) = j + 1 by omega]
theorem il_mem {l : List (Nat × Nat)} {i : Nat} {e x : Nat × Nat} (h : x ∈ il_ l i e) : x = e ∨ x ∈ l := by
  rcases List.mem_append.mp h with h | h
  · exact Or.inr (List.mem_of_mem_take h)
  · rcases List.mem_cons.mp h with h | h
    · exact Or.inl h
    · exact Or.inr (List.mem_of_mem_drop h)
theorem el_mem {l : List (Nat × Nat)} {i : Nat} {x : Nat × Nat} (h : x ∈ el_ l i) : x ∈ l := by
  rcases List.mem_append.mp h with h | h
  · exact List.mem_of_mem_take h
  · exact List.mem_of_mem_drop h
theorem i_sac (a : Int32) : a - 1 + 1 = a := by
  apply Int32.toBitVec_inj.mp
  simp
theorem i_aac (a b : Int32) : a + (b - 1) + 1 = a + b := by
  rw [Int32.add_assoc, i_sac]
theorem i_m1 : nI 0 - 1 < 0 := by decide
section PB2
variable {w : Nat} {st : St_} {G : Sg_}
/-- how many keys at the front are not above k -/
def fk_ (l : List (Nat × Nat)) (k j : Nat) : Prop := j ≤ l.length ∧ (∀ i, i < j → (l.getD i (0, 0)).1 ≤ k) ∧ (j < l.length → k < (l.getD j (0, 0)).1)
theorem p_slotOf_loop {b x : Nat} {post : Int32 → St_ → Prop} (hw : 5 ≤ w ∧ w ≤ 32) (hR : Rp_ w st G) (hb : 1 ≤ b ∧ b ≤ 1200) (hx : x < 4096)
    (k : ∀ j, fk_ (ge_ G b) x j → post (nI j - 1) st) :
    ∀ (n j : Nat), j ≤ (ge_ G b).length → (ge_ G b).length < n + j → (∀ i, i < j → ((ge_ G b).getD i (0, 0)).1 ≤ x) → wp_B_slotOf_24 w post n (nI b) (nI x) (nI j - 1) (nI (b * w)) (nI (ge_ G b).length) st := by
  obtain ⟨h0, h1, h2, h3, h4⟩ := hR.1 b hb.1 hb.2
  intro n
  induction n with
  | zero => intro j hj hn; omega
  | succ n ih =>
    intro j hj hn hle
    show (_ → _) ∧ (_ → _)
    rw [i_sac, i_aac, nI_add]
    refine pk_le (ge_ G b).length j (fun hlt => ?_) (fun hlt => ?_) rfl rfl (by omega) (by omega)
    · exact k j ⟨hj, hle, fun h => by omega⟩
    · have h5 : b * w + j < 1201 * w := ix_lt hb.2 (by omega)
      have h6 := ix_big hw.2
      refine ⟨vp_in_nI h5 h6, ?_⟩
      rw [nI_clamp (by omega), (h4 j hlt).1]
      have hbd := hR.bd hlt
      refine pk_lt x ((ge_ G b).getD j (0, 0)).1 (fun hk => ?_) (fun hk => ?_) rfl rfl (by omega) (by omega)
      · exact k j ⟨hj, hle, fun _ => hk⟩
      · intro y hy
        rw [show y = nI (j + 1) - 1 by rw [hy, nI_pred]]
        exact ih (j + 1) (by omega) (by omega) (fun i hi => by
          by_cases e : i = j
          · subst e; exact hk
          · exact hle i (by omega))
theorem p_slotOf {b x : Nat} {post : Int32 → St_ → Prop} (hw : 5 ≤ w ∧ w ≤ 32) (hR : Rp_ w st G) (hb : 1 ≤ b ∧ b ≤ 1200) (hx : x < 4096)
    (k : ∀ j, fk_ (ge_ G b) x j → post (nI j - 1) st) : wp_B_slotOf w (nI b) (nI x) st post := by
  unfold wp_B_slotOf
  obtain ⟨h0, h1, h2, h3, h4⟩ := hR.1 b hb.1 hb.2
  intro z hz
  refine p_size hR hb ?_
  intro y hy
  rw [if_neg (nI_nlt h3 (by omega))] at hy
  rw [hy, hz, pk_mul]
  refine ⟨(ge_ G b).length + 1, ?_⟩
  have := p_slotOf_loop hw hR hb hx k ((ge_ G b).length + 1) 0 (by omega) (by omega) (fun i hi => by omega)
  exact this
theorem st_ofj (j : Nat) (hj : j < 2 ^ 31) : (if 0 < nI j - 1 then nI j - 1 else 0) = nI (j - 1) := by
  cases j with
  | zero => decide
  | succ j =>
    rw [nI_pred]
    cases j with
    | zero => decide
    | succ j =>
      rw [if_pos]
      · rfl
      · exact nI_lt (a := 0) (by omega) (by omega)
theorem p_slotToward {b x : Nat} {post : Int32 → St_ → Prop} (hw : 5 ≤ w ∧ w ≤ 32) (hR : Rp_ w st G) (hb : 1 ≤ b ∧ b ≤ 1200) (hx : x < 4096)
    (k : ∀ j, fk_ (ge_ G b) x j → post (nI (j - 1)) st) : wp_T_slotToward w (nI b) (nI x) st post := by
  unfold wp_T_slotToward
  refine p_slotOf hw hR hb hx (fun j hj => ?_)
  have h3 := (hR.1 b hb.1 hb.2).2.2.2.1
  have h4 := hj.1
  rw [st_ofj j (by omega)]
  exact k j hj
theorem p_insert {b i x g : Nat} {post : St_ → Prop} (hw : 5 ≤ w ∧ w ≤ 32) (hR : Rp_ w st G) (hb : 1 ≤ b ∧ b ≤ 1200) (hi : i ≤ (ge_ G b).length) (hl : (ge_ G b).length < w) (hx : x < 4096) (hg : g ≤ 1000000000)
    (k : ∀ st', Rp_ w st' (se_ G b (il_ (ge_ G b) i (x, g))) → Fr_ st st' → post st') : wp_B_insert w (nI b) (nI i) (nI x) (nI g) st post := by
  unfold wp_B_insert
  obtain ⟨h0, h1, h2, h3, h4⟩ := hR.1 b hb.1 hb.2
  have h5 : b * w + i < 1201 * w := ix_lt hb.2 (by omega)
  have h5' : b * w + (ge_ G b).length < 1201 * w := ix_lt hb.2 hl
  have h6 := ix_big hw.2
  refine p_size hR hb (p_isBlock hb (br_f (by decide) (br_f (nI_pos (by omega)) (br_f (nI_nlt hi (by omega)) (br_t (nI_lt hl (by omega)) ?_)))))
  intro a ha
  rw [ix_e] at ha
  subst ha
  rw [nI_1, pk_sub hi, nI_clamp (n := b * w + i) (by omega), nI_clamp (n := b * w + i + 1) (by omega), nI_clamp (n := (ge_ G b).length - i) (by omega)]
  refine ⟨⟨nI_pos (by omega), nI_pos (by omega), nI_pos (by omega), by omega, by omega⟩, fun s1 e1 => ⟨⟨nI_pos (by omega), nI_pos (by omega), nI_pos (by omega), by omega, by omega⟩, fun s2 e2 => ⟨vp_in_nI h5 h6, fun s3 e3 => ⟨vp_in_nI h5 h6, fun s4 e4 => ⟨vp_in_nI (by omega) (by omega), fun s5 e5 => ?_⟩⟩⟩⟩⟩
  rw [nI_1, nI_clamp (n := b) (by omega)] at e5
  have k3 : ∀ q, s5 3 q = if q = b * w + i then nI x else va_cpy (st 3) (st 3) (b * w + i) (b * w + i + 1) ((ge_ G b).length - i) q := by
    intro q
    rw [e5, ws_1_arr (by decide), e4, ws_1_arr (by decide), e3]
    by_cases hq : q = b * w + i
    · rw [if_pos hq, hq, ws_1_at]
    · rw [if_neg hq, ws_1_ne hq, e2, ws_c_arr (by decide), e1]
      simp [ws_c, va_up]
  have k4 : ∀ q, s5 4 q = if q = b * w + i then nI g else va_cpy (st 4) (st 4) (b * w + i) (b * w + i + 1) ((ge_ G b).length - i) q := by
    intro q
    rw [e5, ws_1_arr (by decide), e4]
    by_cases hq : q = b * w + i
    · rw [if_pos hq, hq, ws_1_at]
    · rw [if_neg hq, ws_1_ne hq, e3, ws_1_arr (by decide), e2]
      simp only [ws_c, va_up, if_true]
      rw [e1]
      simp [ws_c, va_up]
  have kk : ∀ q, q ≠ 2 → q ≠ 3 → q ≠ 4 → s5 q = st q := by
    intro q q2 q3 q4
    rw [e5, ws_1_arr q2, e4, ws_1_arr q4, e3, ws_1_arr q3, e2, ws_c_arr q4, e1, ws_c_arr q3]
  have k2 : ∀ c, s5 2 c = if c = b then nI ((ge_ G b).length + 1) else st 2 c := by
    intro c
    rw [e5]
    by_cases hc : c = b
    · rw [if_pos hc, hc, ws_1_at]
    · rw [if_neg hc, ws_1_ne hc, e4, ws_1_arr (by decide), e3, ws_1_arr (by decide), e2, ws_c_arr (by decide), e1, ws_c_arr (by decide)]
  refine k s5 (hR.ents (by rw [il_len hi]; omega) (fun e he => ?_) (kk 0 (by decide) (by decide) (by decide)) (kk 1 (by decide) (by decide) (by decide)) (kk 5 (by decide) (by decide) (by decide)) (kk 18 (by decide) (by decide) (by decide)) (fun c hc => by rw [k2, if_neg hc]) (by rw [k2, if_pos rfl, il_len hi]) (fun c j hc hj => ?_) (fun c j hc hj => ?_) (fun j hj => ?_)) (fun q q1 q2 => kk q (by omega) (by omega) (by omega))
  · rcases il_mem he with h | h
    · subst h; exact ⟨hx, hg⟩
    · exact hR.2.1 b e h
  · have hne : ∀ t, t < w → c * w + j ≠ b * w + t := fun t ht e => hc (ix_inj hj ht e).1
    rw [k3, if_neg (hne i (by omega)), pk_cpy_out]
    by_cases hlo : c * w + j < b * w + i + 1
    · exact Or.inl hlo
    · refine Or.inr (Nat.not_lt.mp fun hh => ?_)
      exact hne (c * w + j - b * w) (by omega) (by omega)
  · have hne : ∀ t, t < w → c * w + j ≠ b * w + t := fun t ht e => hc (ix_inj hj ht e).1
    rw [k4, if_neg (hne i (by omega)), pk_cpy_out]
    by_cases hlo : c * w + j < b * w + i + 1
    · exact Or.inl hlo
    · refine Or.inr (Nat.not_lt.mp fun hh => ?_)
      exact hne (c * w + j - b * w) (by omega) (by omega)
  · rw [il_len hi] at hj
    rw [k3, k4, il_getD hi]
    by_cases hji : j = i
    · have hjj : b * w + j = b * w + i := by omega
      have hjn : ¬ j < i := by omega
      rw [if_pos hjj, if_pos hjj, if_neg hjn, if_pos hji]
      exact ⟨rfl, rfl⟩
    · have hjj : ¬ b * w + j = b * w + i := by omega
      rw [if_neg hjj, if_neg hjj]
      by_cases hlt : j < i
      · rw [if_pos hlt, pk_cpy_out (Or.inl (by omega)), pk_cpy_out (Or.inl (by omega))]
        exact h4 j (by omega)
      · rw [if_neg hlt, if_neg hji, pk_cpy_in (by omega) (by omega), pk_cpy_in (by omega) (by omega)]
        rw [show b * w + i + (b * w + j - (b * w + i + 1)) = b * w + (j - 1) by omega]
        exact h4 (j - 1) (by omega)
theorem p_remove {b i : Nat} {post : St_ → Prop} (hw : 5 ≤ w ∧ w ≤ 32) (hR : Rp_ w st G) (hb : 1 ≤ b ∧ b ≤ 1200) (hi : i < (ge_ G b).length)
    (k : ∀ st', Rp_ w st' (se_ G b (el_ (ge_ G b) i)) → Fr_ st st' → post st') : wp_B_remove w (nI b) (nI i) st post := by
  unfold wp_B_remove
  obtain ⟨h0, h1, h2, h3, h4⟩ := hR.1 b hb.1 hb.2
  have h5 : b * w + i < 1201 * w := ix_lt hb.2 (by omega)
  have h5' : b * w + ((ge_ G b).length - 1) < 1201 * w := ix_lt hb.2 (by omega)
  have h6 := ix_big hw.2
  have hln := el_len hi
  refine p_size hR hb (p_isEntry hw hR hb hi (br_f (by decide) (br_t (nI_le h3 (by omega)) ?_)))
  intro a ha
  rw [ix_e] at ha
  subst ha
  have em : ∀ q : Nat, 1 ≤ q → nI q - 1 = nI (q - 1) := fun q hq => by
    have := nI_pred (q - 1)
    rw [show q - 1 + 1 = q by omega] at this
    exact this
  rw [nI_1, pk_sub (by omega), em _ (by omega), em _ (by omega), nI_clamp (n := b * w + i) (by omega), nI_clamp (n := b * w + i + 1) (by omega), nI_clamp (n := (ge_ G b).length - i - 1) (by omega)]
  refine ⟨⟨nI_pos (by omega), nI_pos (by omega), nI_pos (by omega), by omega, by omega⟩, fun s1 e1 => ⟨⟨nI_pos (by omega), nI_pos (by omega), nI_pos (by omega), by omega, by omega⟩, fun s2 e2 => ⟨vp_in_nI (by omega) (by omega), fun s5 e5 => ?_⟩⟩⟩
  rw [nI_clamp (n := b) (by omega)] at e5
  have k3 : ∀ q, s5 3 q = va_cpy (st 3) (st 3) (b * w + i + 1) (b * w + i) ((ge_ G b).length - i - 1) q := by
    intro q
    rw [e5, ws_1_arr (by decide), e2, ws_c_arr (by decide), e1]
    simp [ws_c, va_up]
  have k4 : ∀ q, s5 4 q = va_cpy (st 4) (st 4) (b * w + i + 1) (b * w + i) ((ge_ G b).length - i - 1) q := by
    intro q
    rw [e5, ws_1_arr (by decide), e2]
    simp only [ws_c, va_up, if_true]
    rw [e1]
    simp [ws_c, va_up]
  have kk : ∀ q, q ≠ 2 → q ≠ 3 → q ≠ 4 → s5 q = st q := by
    intro q q2 q3 q4
    rw [e5, ws_1_arr q2, e2, ws_c_arr q4, e1, ws_c_arr q3]
  have k2 : ∀ c, s5 2 c = if c = b then nI ((ge_ G b).length - 1) else st 2 c := by
    intro c
    rw [e5]
    by_cases hc : c = b
    · rw [if_pos hc, hc, ws_1_at]
    · rw [if_neg hc, ws_1_ne hc, e2, ws_c_arr (by decide), e1, ws_c_arr (by decide)]
  refine k s5 (hR.ents (by omega) (fun e he => hR.2.1 b e (el_mem he)) (kk 0 (by decide) (by decide) (by decide)) (kk 1 (by decide) (by decide) (by decide)) (kk 5 (by decide) (by decide) (by decide)) (kk 18 (by decide) (by decide) (by decide)) (fun c hc => by rw [k2, if_neg hc]) (by rw [k2, if_pos rfl]; congr 1; omega) (fun c j hc hj => ?_) (fun c j hc hj => ?_) (fun j hj => ?_)) (fun q q1 q2 => kk q (by omega) (by omega) (by omega))
  · have hne : ∀ t, t < w → c * w + j ≠ b * w + t := fun t ht e => hc (ix_inj hj ht e).1
    rw [k3, pk_cpy_out]
    by_cases hlo : c * w + j < b * w + i
    · exact Or.inl hlo
    · refine Or.inr (Nat.not_lt.mp fun hh => ?_)
      exact hne (c * w + j - b * w) (by omega) (by omega)
  · have hne : ∀ t, t < w → c * w + j ≠ b * w + t := fun t ht e => hc (ix_inj hj ht e).1
    rw [k4, pk_cpy_out]
    by_cases hlo : c * w + j < b * w + i
    · exact Or.inl hlo
    · refine Or.inr (Nat.not_lt.mp fun hh => ?_)
      exact hne (c * w + j - b * w) (by omega) (by omega)
  · rw [k3, k4, el_getD hi]
    by_cases hlt : j < i
    · rw [if_pos hlt, pk_cpy_out (Or.inl (by omega)), pk_cpy_out (Or.inl (by omega))]
      exact h4 j (by omega)
    · rw [if_neg hlt, pk_cpy_in (by omega) (by omega), pk_cpy_in (by omega) (by omega)]
      rw [show b * w + i + 1 + (b * w + j - (b * w + i)) = b * w + (j + 1) by omega]
      exact h4 (j + 1) (by omega)
end PB2
end
section
-- PURE: the rest of Blocks: moveTail, take, give, share, lose, owned
section PB3
variable {w : Nat}
theorem il_end (l : List (Nat × Nat)) (e : Nat × Nat) : il_ l l.length e = l ++ [e] := by
  show l.take l.length ++ e :: l.drop l.length = _
  simp
theorem tk_snoc {l : List (Nat × Nat)} {s i : Nat} (h : s ≤ i) (hi : i < l.length) : (l.drop s).take (i + 1 - s) = (l.drop s).take (i - s) ++ [l.getD i (0, 0)] := by
  rw [show i + 1 - s = (i - s) + 1 by omega, List.take_succ, List.getElem?_drop, show s + (i - s) = i by omega, List.getElem?_eq_getElem hi, List.getD_eq_getElem?_getD, List.getElem?_eq_getElem hi]
  rfl
theorem Rp_.eq {st : St_} {G G' : Sg_} (h : Rp_ w st G) (e : G = G') : Rp_ w st G' := e ▸ h
theorem se_se (G : Sg_) (b : Nat) (l m : List (Nat × Nat)) : se_ (se_ G b l) b m = se_ G b m := by
  simp only [se_]
  congr 2
  · congr 1
    exact bx_uu _ _ _ _
theorem se_comm (G : Sg_) {b c : Nat} (l m : List (Nat × Nat)) (h : b ≠ c) : se_ (se_ G b l) c m = se_ (se_ G c m) b l := by
  simp only [se_]
  congr 3
  funext j
  by_cases h1 : j = b
  · subst h1
    simp [va_up, h]
  · by_cases h2 : j = c
    · subst h2; simp [va_up, h1]
    · simp [va_up, h1, h2]
theorem p_moveTail_loop {f t s : Nat} {post : St_ → Prop} {G : Sg_} (hw : 5 ≤ w ∧ w ≤ 32) (hf : 1 ≤ f ∧ f ≤ 1200) (ht : 1 ≤ t ∧ t ≤ 1200) (hne : f ≠ t) (hs : s ≤ (ge_ G f).length) (hl : (ge_ G t).length + ((ge_ G f).length - s) ≤ w) (st0 : St_)
    (k : ∀ st', Rp_ w st' (se_ (se_ G t (ge_ G t ++ (ge_ G f).drop s)) f ((ge_ G f).take s)) → Fr_ st0 st' → post st') :
    ∀ (n i : Nat) (st : St_), s ≤ i → i ≤ (ge_ G f).length → (ge_ G f).length < n + i → Rp_ w st (se_ G t (ge_ G t ++ ((ge_ G f).drop s).take (i - s))) → Fr_ st0 st → wp_B_moveTail_3 w post n (nI f) (nI s) (nI t) (nI i) st := by
  intro n
  induction n with
  | zero => intro i st h1 h2 h3; omega
  | succ n ih =>
    intro i st hsi hi hn hR hF
    have hfe : ge_ (se_ G t (ge_ G t ++ ((ge_ G f).drop s).take (i - s))) f = ge_ G f := se_ne _ _ hne
    have hte : ge_ (se_ G t (ge_ G t ++ ((ge_ G f).drop s).take (i - s))) t = ge_ G t ++ ((ge_ G f).drop s).take (i - s) := se_at _ _ _
    have hfl : (ge_ G f).length ≤ w := by have := (hR.1 f hf.1 hf.2).2.2.2.1; rw [hfe] at this; exact this
    refine p_size hR hf ?_
    rw [hfe]
    refine pk_le (ge_ G f).length i (fun hle => ?_) (fun hlt => ?_) rfl rfl (by omega) (by omega)
    · have hie : i = (ge_ G f).length := by omega
      subst hie
      have hdrop : ((ge_ G f).drop s).take ((ge_ G f).length - s) = (ge_ G f).drop s := List.take_of_length_le (by simp)
      rw [hdrop] at hR hfe hte
      refine p_isBlock hf (br_f (by decide) (br_f (nI_pos (by omega)) ⟨vp_in_nI (by omega) (by omega), ?_⟩))
      have h2 := (hR.1 f hf.1 hf.2).2.2.1
      rw [hfe] at h2
      rw [nI_clamp (by omega), h2]
      refine pk_le (ge_ G f).length s (fun hle => ?_) (fun hlt => ?_) rfl rfl (by omega) (by omega)
      · refine k st (hR.eq ?_) hF
        rw [List.take_of_length_le (by omega)]
        have e : va_up (va_up G.2.2.1 t (ge_ G t ++ (ge_ G f).drop s)) f (ge_ G f) = va_up G.2.2.1 t (ge_ G t ++ (ge_ G f).drop s) := by
          funext j
          by_cases hj : j = f
          · subst hj; simp [va_up, hne]
          · simp [va_up, hj]
        simp only [se_]
        rw [e]
      · refine ⟨vp_in_nI (by omega) (by omega), fun s5 e5 => ?_⟩
        have h4 := (hR.1 f hf.1 hf.2).2.2.2.2
        rw [hfe] at h4
        refine k s5 (hR.ents (by simp; omega) (fun e he => hR.2.1 f e (by rw [hfe]; exact List.mem_of_mem_take he)) (by rw [e5, ws_1_arr (by decide)]) (by rw [e5, ws_1_arr (by decide)]) (by rw [e5, ws_1_arr (by decide)]) (by rw [e5, ws_1_arr (by decide)]) (fun c hc => by rw [e5, ws_1_ne hc]) (by rw [e5, ws_1_at]; simp; congr 1; omega) (fun c j _ _ => by rw [e5, ws_1_arr (by decide)]) (fun c j _ _ => by rw [e5, ws_1_arr (by decide)]) (fun j hj => ?_)) (hF.tr (fun q q1 q2 => by rw [e5, ws_1_arr (by omega)]))
        have hj2 : j < s := by simp at hj; omega
        rw [e5, ws_1_arr (by decide), ws_1_arr (by decide)]
        have := h4 j (by omega)
        rw [this.1, this.2]
        simp only [List.getD_eq_getElem?_getD, List.getElem?_take_of_lt hj2]
        constructor <;> first | trivial | rfl
    · refine p_size hR ht ?_
      rw [hte]
      have hi2 : i < (ge_ (se_ G t (ge_ G t ++ ((ge_ G f).drop s).take (i - s))) f).length := by rw [hfe]; exact hlt
      refine p_key hw hR hf hi2 (p_goal hw hR hf hi2 ?_)
      have hbd := hR.bd hi2
      rw [hfe] at hbd ⊢
      have hlt2 : (ge_ G t ++ ((ge_ G f).drop s).take (i - s)).length < w := by simp; omega
      have hins := p_insert (b := t) (i := (ge_ G t ++ ((ge_ G f).drop s).take (i - s)).length) (x := ((ge_ G f).getD i (0, 0)).1) (g := ((ge_ G f).getD i (0, 0)).2) (post := fun st112 => ∀ x113 : Int32, x113 = nI i + 1 → wp_B_moveTail_3 w post n (nI f) (nI s) (nI t) x113 st112) hw hR ht (by rw [hte]; exact Nat.le_refl _) (by rw [hte]; exact hlt2) hbd.1 hbd.2 (fun s1 hR1 hF1 y hy => by
        rw [hy, nI_1]
        refine ih (i + 1) s1 (by omega) (by omega) (by omega) (hR1.eq ?_) (hF.tr hF1)
        rw [hte, il_end, se_se, tk_snoc hsi hlt, List.append_assoc])
      exact hins
theorem p_moveTail {f t s : Nat} {post : St_ → Prop} {G : Sg_} {st : St_} (hw : 5 ≤ w ∧ w ≤ 32) (hR : Rp_ w st G) (hf : 1 ≤ f ∧ f ≤ 1200) (ht : 1 ≤ t ∧ t ≤ 1200) (hne : f ≠ t) (hs : s ≤ (ge_ G f).length) (hl : (ge_ G t).length + ((ge_ G f).length - s) ≤ w)
    (k : ∀ st', Rp_ w st' (se_ (se_ G t (ge_ G t ++ (ge_ G f).drop s)) f ((ge_ G f).take s)) → Fr_ st st' → post st') : wp_B_moveTail w (nI f) (nI s) (nI t) st post := by
  unfold wp_B_moveTail
  refine ⟨(ge_ G f).length + 1, p_moveTail_loop hw hf ht hne hs hl st k _ s st (Nat.le_refl _) hs (by omega) (hR.eq ?_) Fr_.rf⟩
  have e : va_up G.2.2.1 t (ge_ G t) = G.2.2.1 := by
    funext j
    by_cases hj : j = t
    · subst hj; simp [va_up]
    · simp [va_up, hj]
  simp [se_, e]
/-- a block is taken -/
abbrev tk_ (G : Sg_) (b l : Nat) (f : List Nat) : Sg_ := (va_up G.1 b 1, va_up G.2.1 b l, va_up G.2.2.1 b [], f)
theorem p_take {st : St_} {G : Sg_} {b l : Nat} {f : List Nat} {post : Int32 → St_ → Prop} (hR : Rp_ w st G) (hf : gf_ G = f ++ [b]) (hb : 1 ≤ b ∧ b ≤ 1200)
    (k : ∀ st', Rp_ w st' (tk_ G b l f) → Fr_ st st' → post (nI b) st') : wp_B_take w (nI l) st post := by
  unfold wp_B_take
  obtain ⟨h1, h2, h3, h4, h5⟩ := hR
  have hln : (gf_ G).length = f.length + 1 := by rw [hf]; simp
  rw [h3]
  refine br_f (nI_nle (by omega) (by omega)) (br_t (nI_le (b := 1200) h4 (by omega)) (fun s1 e1 => ?_))
  rw [hln, nI_pred] at e1
  have e18 : s1 18 0 = nI f.length := by rw [e1, ws_1_at]
  rw [e18]
  refine ⟨vp_in_nI (by omega) (by omega), fun x hx => ?_⟩
  have hxb : x = nI b := by
    rw [hx, e1, ws_1_arr (by decide), nI_clamp (by omega), h5 f.length (by omega), hf]
    simp
  subst hxb
  refine p_isBlock hb (br_f (by decide) ⟨vp_in_nI (by omega) (by omega), fun s2 e2 => ⟨vp_in_nI (by omega) (by omega), fun s3 e3 => ⟨vp_in_nI (by omega) (by omega), fun s4 e4 => ?_⟩⟩⟩)
  rw [nI_clamp (by omega)] at e2 e3 e4
  have a0 : ∀ c, s4 0 c = if c = b then 1 else st 0 c := fun c => by
    rw [e4, ws_1_arr (by decide), e3, ws_1_arr (by decide), e2]
    by_cases hc : c = b
    · rw [if_pos hc, hc, ws_1_at]
    · rw [if_neg hc, ws_1_ne hc, e1, ws_1_arr (by decide)]
  have a1 : ∀ c, s4 1 c = if c = b then nI l else st 1 c := fun c => by
    rw [e4, ws_1_arr (by decide), e3]
    by_cases hc : c = b
    · rw [if_pos hc, hc, ws_1_at]
    · rw [if_neg hc, ws_1_ne hc, e2, ws_1_arr (by decide), e1, ws_1_arr (by decide)]
  have a2 : ∀ c, s4 2 c = if c = b then 0 else st 2 c := fun c => by
    rw [e4]
    by_cases hc : c = b
    · rw [if_pos hc, hc, ws_1_at]
    · rw [if_neg hc, ws_1_ne hc, e3, ws_1_arr (by decide), e2, ws_1_arr (by decide), e1, ws_1_arr (by decide)]
  have ak : ∀ q, q ≠ 0 → q ≠ 1 → q ≠ 2 → q ≠ 18 → s4 q = st q := fun q q0 q1 q2 q3 => by
    rw [e4, ws_1_arr q2, e3, ws_1_arr q1, e2, ws_1_arr q0, e1, ws_1_arr q3]
  have a18 : s4 18 0 = nI f.length := by rw [e4, ws_1_arr (by decide), e3, ws_1_arr (by decide), e2, ws_1_arr (by decide), e18]
  refine k s4 ⟨fun c c1 c2 => ?_, fun c e he => ?_, a18, by show f.length ≤ 1200; omega, fun i hi => ?_⟩ (fun q q1 q2 => ak q (by omega) (by omega) (by omega) q2)
  · obtain ⟨g0, g1, g2, g3, g4⟩ := h1 c c1 c2
    rw [a0, a1, a2, ak 3 (by decide) (by decide) (by decide) (by decide), ak 4 (by decide) (by decide) (by decide) (by decide)]
    by_cases hc : c = b
    · subst hc
      simp only [gw_, gl_, ge_, tk_, va_up, if_true]
      refine ⟨?_, ?_, ?_, ?_, fun i hi => by simp at hi⟩ <;> first | trivial | rfl | simp
    · simp only [gw_, gl_, ge_, tk_, va_up, hc, if_false]
      exact ⟨g0, g1, g2, g3, g4⟩
  · by_cases hc : c = b
    · subst hc; simp [gw_, gl_, ge_, tk_, va_up] at he
    · simp only [gw_, gl_, ge_, tk_, va_up, hc, if_false] at he
      exact h2 c e he
  · rw [ak 5 (by decide) (by decide) (by decide) (by decide)]
    have hi' : i < f.length := hi
    rw [h5 i (by omega), hf]
    simp only [List.getD_eq_getElem?_getD]
    rw [List.getElem?_append_left hi']
/-- a block is given back -/
abbrev gv_ (G : Sg_) (b : Nat) : Sg_ := (va_up G.1 b 0, va_up G.2.1 b 0, va_up G.2.2.1 b [], G.2.2.2 ++ [b])
theorem p_give {st : St_} {G : Sg_} {b : Nat} {post : St_ → Prop} (hR : Rp_ w st G) (hf : (gf_ G).length < 1200) (hb : 1 ≤ b ∧ b ≤ 1200)
    (k : ∀ st', Rp_ w st' (gv_ G b) → Fr_ st st' → post st') : wp_B_give w (nI b) st post := by
  unfold wp_B_give
  obtain ⟨h1, h2, h3, h4, h5⟩ := hR
  refine p_isBlock hb (br_f (by decide) ?_)
  rw [h3]
  refine br_f (nI_pos (by omega)) (br_f (nI_ge (b := 1200) hf (by omega)) ⟨vp_in_nI (by omega) (by omega), fun s1 e1 => ⟨vp_in_nI (by omega) (by omega), fun s2 e2 => ⟨vp_in_nI (by omega) (by omega), fun s3 e3 => ?_⟩⟩⟩)
  rw [nI_clamp (by omega)] at e1 e2 e3
  have e18 : s3 18 0 = nI (gf_ G).length := by rw [e3, ws_1_arr (by decide), e2, ws_1_arr (by decide), e1, ws_1_arr (by decide), h3]
  rw [e18]
  refine ⟨vp_in_nI hf (by omega), fun s4 e4 s5 e5 => ?_⟩
  rw [nI_clamp (by omega)] at e4
  have a0 : ∀ c, s5 0 c = if c = b then 0 else st 0 c := fun c => by
    rw [e5, ws_1_arr (by decide), e4, ws_1_arr (by decide), e3, ws_1_arr (by decide), e2, ws_1_arr (by decide), e1]
    by_cases hc : c = b
    · rw [if_pos hc, hc, ws_1_at]
    · rw [if_neg hc, ws_1_ne hc]
  have a1 : ∀ c, s5 1 c = if c = b then 0 else st 1 c := fun c => by
    rw [e5, ws_1_arr (by decide), e4, ws_1_arr (by decide), e3, ws_1_arr (by decide), e2]
    by_cases hc : c = b
    · rw [if_pos hc, hc, ws_1_at]
    · rw [if_neg hc, ws_1_ne hc, e1, ws_1_arr (by decide)]
  have a2 : ∀ c, s5 2 c = if c = b then 0 else st 2 c := fun c => by
    rw [e5, ws_1_arr (by decide), e4, ws_1_arr (by decide), e3]
    by_cases hc : c = b
    · rw [if_pos hc, hc, ws_1_at]
    · rw [if_neg hc, ws_1_ne hc, e2, ws_1_arr (by decide), e1, ws_1_arr (by decide)]
  have a5 : ∀ c, s5 5 c = if c = (gf_ G).length then nI b else st 5 c := fun c => by
    rw [e5, ws_1_arr (by decide), e4]
    by_cases hc : c = (gf_ G).length
    · rw [if_pos hc, hc, ws_1_at]
    · rw [if_neg hc, ws_1_ne hc, e3, ws_1_arr (by decide), e2, ws_1_arr (by decide), e1, ws_1_arr (by decide)]
  have ak : ∀ q, q ≠ 0 → q ≠ 1 → q ≠ 2 → q ≠ 5 → q ≠ 18 → s5 q = st q := fun q q0 q1 q2 q4 q3 => by
    rw [e5, ws_1_arr q3, e4, ws_1_arr q4, e3, ws_1_arr q2, e2, ws_1_arr q1, e1, ws_1_arr q0]
  have a18 : s5 18 0 = nI ((gf_ G).length + 1) := by
    rw [e5, ws_1_at, e4, ws_1_arr (by decide), e18, nI_1]
  refine k s5 ⟨fun c c1 c2 => ?_, fun c e he => ?_, by rw [a18]; show nI ((gf_ G).length + 1) = nI (gf_ G ++ [b]).length; simp, by show (gf_ G ++ [b]).length ≤ 1200; simp; omega, fun i hi => ?_⟩ (fun q q1 q2 => ak q (by omega) (by omega) (by omega) (by omega) q2)
  · obtain ⟨g0, g1, g2, g3, g4⟩ := h1 c c1 c2
    rw [a0, a1, a2, ak 3 (by decide) (by decide) (by decide) (by decide) (by decide), ak 4 (by decide) (by decide) (by decide) (by decide) (by decide)]
    by_cases hc : c = b
    · subst hc
      simp only [gw_, gl_, ge_, gv_, va_up, if_true]
      refine ⟨?_, ?_, ?_, ?_, fun i hi => by simp at hi⟩ <;> first | trivial | rfl | simp
    · simp only [gw_, gl_, ge_, gv_, va_up, hc, if_false]
      exact ⟨g0, g1, g2, g3, g4⟩
  · by_cases hc : c = b
    · subst hc; simp [gw_, gl_, ge_, gv_, va_up] at he
    · simp only [gw_, gl_, ge_, gv_, va_up, hc, if_false] at he
      exact h2 c e he
  · rw [a5]
    have hi' : i < (gf_ G ++ [b]).length := hi
    rw [List.length_append, List.length_singleton] at hi'
    show _ = nI ((gf_ G ++ [b]).getD i 0)
    simp only [List.getD_eq_getElem?_getD]
    by_cases hc : i = (gf_ G).length
    · rw [if_pos hc, hc, List.getElem?_append_right (Nat.le_refl _)]
      simp
    · rw [if_neg hc, List.getElem?_append_left (by omega), h5 i (by omega), List.getD_eq_getElem?_getD]
theorem Rp_.ways {st st' : St_} {G : Sg_} (hR : Rp_ w st G) {b n : Nat} (e0 : st' 0 b = nI n) (e1 : ∀ c, c ≠ b → st' 0 c = st 0 c) (ek : ∀ q, q ≠ 0 → st' q = st q) : Rp_ w st' (sw_ G b n) := by
  obtain ⟨h1, h2, h3, h4, h5⟩ := hR
  refine ⟨fun c c1 c2 => ?_, h2, by rw [ek 18 (by decide)]; exact h3, h4, fun i hi => by rw [ek 5 (by decide)]; exact h5 i hi⟩
  obtain ⟨g0, g1, g2, g3, g4⟩ := h1 c c1 c2
  refine ⟨?_, by rw [ek 1 (by decide)]; exact g1, by rw [ek 2 (by decide)]; exact g2, g3, fun i hi => by rw [ek 3 (by decide), ek 4 (by decide)]; exact g4 i hi⟩
  by_cases hc : c = b
  · subst hc; simp only [gw_, sw_, va_up, if_true]; exact e0
  · simp only [gw_, sw_, va_up, hc, if_false]; rw [e1 c hc]; exact g0
theorem p_share {st : St_} {G : Sg_} {b : Nat} {post : St_ → Prop} (hR : Rp_ w st G) (hb : 1 ≤ b ∧ b ≤ 1200)
    (k : ∀ st', Rp_ w st' (sw_ G b (gw_ G b + 1)) → Fr_ st st' → post st') : wp_B_share w (nI b) st post := by
  unfold wp_B_share
  refine p_isBlock hb (br_f (by decide) ⟨vp_in_nI (by omega) (by omega), vp_in_nI (by omega) (by omega), fun s1 e1 => ?_⟩)
  rw [nI_clamp (by omega), (hR.1 b hb.1 hb.2).1, nI_1] at e1
  exact k s1 (hR.ways (by rw [e1, ws_1_at]) (fun c hc => by rw [e1, ws_1_ne hc]) (fun q hq => by rw [e1, ws_1_arr hq])) (fun q q1 q2 => by rw [e1, ws_1_arr (by omega)])
theorem p_share0 {st : St_} {post : St_ → Prop} (k : post st) : wp_B_share w 0 st post := by
  unfold wp_B_share
  exact p_isBlock0 (br_t rfl k)
theorem p_lose {st : St_} {G : Sg_} {b : Nat} {post : Int32 → St_ → Prop} (hR : Rp_ w st G) (hb : 1 ≤ b ∧ b ≤ 1200) (h1 : 1 ≤ gw_ G b) (h2 : gw_ G b < 2 ^ 31)
    (k : ∀ st', Rp_ w st' (sw_ G b (gw_ G b - 1)) → Fr_ st st' → post (if gw_ G b = 1 then 1 else 0) st') : wp_B_lose w (nI b) st post := by
  unfold wp_B_lose
  refine p_isBlock hb (br_f (by decide) ⟨vp_in_nI (by omega) (by omega), ?_⟩)
  rw [nI_clamp (by omega), (hR.1 b hb.1 hb.2).1]
  refine br_t (nI_lt (a := 0) (by omega) h2) ⟨vp_in_nI (by omega) (by omega), vp_in_nI (by omega) (by omega), fun s1 e1 => ⟨vp_in_nI (by omega) (by omega), ?_⟩⟩
  have em : nI (gw_ G b) - 1 = nI (gw_ G b - 1) := by
    have := nI_pred (gw_ G b - 1)
    rw [show gw_ G b - 1 + 1 = gw_ G b by omega] at this
    exact this
  rw [em] at e1
  have e0 : s1 0 b = nI (gw_ G b - 1) := by rw [e1, ws_1_at]
  have hk := k s1 (hR.ways e0 (fun c hc => by rw [e1, ws_1_ne hc]) (fun q hq => by rw [e1, ws_1_arr hq])) (fun q q1 q2 => by rw [e1, ws_1_arr (by omega)])
  rw [e0]
  by_cases h : gw_ G b = 1
  · rw [if_pos h] at hk
    exact rb_f (by rw [h]; rfl) hk
  · rw [if_neg h] at hk
    exact rb_t (nI_ne0 (by omega) (by omega)) hk
end PB3
end
