section
-- ===== PART A: goes FIRST, ahead of the names: the tables' words, and 'selects' of the private methods out of them =====
/-- a private method of a class that the tables say can be made, by its rows of tables_1 -/
def lw_okq (q : MethodName × Nat) : Prop := (q.1.cls ≠ "java/lang/invoke/MethodHandle" ∧ q.1.cls ≠ "java/lang/invoke/VarHandle") ∧ Cond.instantiable q.1.cls q.2 ∈ tables_1 ∧ Cond.privateMethod q.1 ∈ tables_1 ∧ Cond.instanceMethod q.1 ∈ tables_1
theorem lw_p0 : lw_okq (⟨"SharedTrees$Trees", "slotToward", "(II)I"⟩, 3) := ⟨⟨by decide +kernel, by decide +kernel⟩, List.mem_of_getElem? (i := 56) (by decide +kernel), List.mem_of_getElem? (i := 168) (by decide +kernel), List.mem_of_getElem? (i := 169) (by decide +kernel)⟩
theorem lw_p1 : lw_okq (⟨"SharedTrees$Blocks", "isEntry", "(II)Z"⟩, 8) := ⟨⟨by decide +kernel, by decide +kernel⟩, List.mem_of_getElem? (i := 24) (by decide +kernel), List.mem_of_getElem? (i := 186) (by decide +kernel), List.mem_of_getElem? (i := 187) (by decide +kernel)⟩
theorem lw_p2 : lw_okq (⟨"SharedTrees$Blocks", "copyEntries", "(II)V"⟩, 8) := ⟨⟨by decide +kernel, by decide +kernel⟩, List.mem_of_getElem? (i := 24) (by decide +kernel), List.mem_of_getElem? (i := 212) (by decide +kernel), List.mem_of_getElem? (i := 213) (by decide +kernel)⟩
theorem lw_p3 : lw_okq (⟨"SharedTrees$Trees", "putBelow", "(IIII)V"⟩, 3) := ⟨⟨by decide +kernel, by decide +kernel⟩, List.mem_of_getElem? (i := 56) (by decide +kernel), List.mem_of_getElem? (i := 228) (by decide +kernel), List.mem_of_getElem? (i := 229) (by decide +kernel)⟩
theorem lw_p4 : lw_okq (⟨"SharedTrees$Trees", "putInLeaf", "(III)V"⟩, 3) := ⟨⟨by decide +kernel, by decide +kernel⟩, List.mem_of_getElem? (i := 56) (by decide +kernel), List.mem_of_getElem? (i := 232) (by decide +kernel), List.mem_of_getElem? (i := 233) (by decide +kernel)⟩
theorem lw_p5 : lw_okq (⟨"SharedTrees$Trees", "ownedChild", "(II)I"⟩, 3) := ⟨⟨by decide +kernel, by decide +kernel⟩, List.mem_of_getElem? (i := 56) (by decide +kernel), List.mem_of_getElem? (i := 244) (by decide +kernel), List.mem_of_getElem? (i := 245) (by decide +kernel)⟩
theorem lw_p6 : lw_okq (⟨"SharedTrees$Trees", "split", "(II)V"⟩, 3) := ⟨⟨by decide +kernel, by decide +kernel⟩, List.mem_of_getElem? (i := 56) (by decide +kernel), List.mem_of_getElem? (i := 253) (by decide +kernel), List.mem_of_getElem? (i := 254) (by decide +kernel)⟩
theorem lw_p7 : lw_okq (⟨"SharedTrees$Trees", "grown", "(I)I"⟩, 3) := ⟨⟨by decide +kernel, by decide +kernel⟩, List.mem_of_getElem? (i := 56) (by decide +kernel), List.mem_of_getElem? (i := 263) (by decide +kernel), List.mem_of_getElem? (i := 264) (by decide +kernel)⟩
theorem lw_p8 : lw_okq (⟨"SharedTrees$Trees", "removeBelow", "(III)V"⟩, 3) := ⟨⟨by decide +kernel, by decide +kernel⟩, List.mem_of_getElem? (i := 56) (by decide +kernel), List.mem_of_getElem? (i := 287) (by decide +kernel), List.mem_of_getElem? (i := 288) (by decide +kernel)⟩
theorem lw_p9 : lw_okq (⟨"SharedTrees$Trees", "fill", "(II)V"⟩, 3) := ⟨⟨by decide +kernel, by decide +kernel⟩, List.mem_of_getElem? (i := 56) (by decide +kernel), List.mem_of_getElem? (i := 295) (by decide +kernel), List.mem_of_getElem? (i := 296) (by decide +kernel)⟩
theorem lw_p10 : lw_okq (⟨"SharedTrees$Trees", "moveEntry", "(IIII)V"⟩, 3) := ⟨⟨by decide +kernel, by decide +kernel⟩, List.mem_of_getElem? (i := 56) (by decide +kernel), List.mem_of_getElem? (i := 303) (by decide +kernel), List.mem_of_getElem? (i := 304) (by decide +kernel)⟩
theorem lw_p11 : lw_okq (⟨"SharedTrees$Trees", "shrunk", "(I)I"⟩, 3) := ⟨⟨by decide +kernel, by decide +kernel⟩, List.mem_of_getElem? (i := 56) (by decide +kernel), List.mem_of_getElem? (i := 307) (by decide +kernel), List.mem_of_getElem? (i := 308) (by decide +kernel)⟩
theorem lw_p12 : lw_okq (⟨"SharedTrees$Trees", "keyOr", "(III)I"⟩, 3) := ⟨⟨by decide +kernel, by decide +kernel⟩, List.mem_of_getElem? (i := 56) (by decide +kernel), List.mem_of_getElem? (i := 319) (by decide +kernel), List.mem_of_getElem? (i := 320) (by decide +kernel)⟩
theorem lw_p13 : lw_okq (⟨"SharedTrees", "lead", "(LSharedTrees$Maps;III)V"⟩, 5) := ⟨⟨by decide +kernel, by decide +kernel⟩, List.mem_of_getElem? (i := 10) (by decide +kernel), List.mem_of_getElem? (i := 331) (by decide +kernel), List.mem_of_getElem? (i := 332) (by decide +kernel)⟩
theorem lw_p14 : lw_okq (⟨"SharedTrees$Trees", "releaseBelow", "(II)V"⟩, 3) := ⟨⟨by decide +kernel, by decide +kernel⟩, List.mem_of_getElem? (i := 56) (by decide +kernel), List.mem_of_getElem? (i := 340) (by decide +kernel), List.mem_of_getElem? (i := 341) (by decide +kernel)⟩
theorem lw_p15 : lw_okq (⟨"SharedTrees", "leadAll", "(LSharedTrees$Maps;LSharedTrees$Maps;)V"⟩, 5) := ⟨⟨by decide +kernel, by decide +kernel⟩, List.mem_of_getElem? (i := 10) (by decide +kernel), List.mem_of_getElem? (i := 353) (by decide +kernel), List.mem_of_getElem? (i := 354) (by decide +kernel)⟩
def lw_privs_1 : List (MethodName × Nat) := [(⟨"SharedTrees$Trees", "slotToward", "(II)I"⟩, 3), (⟨"SharedTrees$Blocks", "isEntry", "(II)Z"⟩, 8), (⟨"SharedTrees$Blocks", "copyEntries", "(II)V"⟩, 8), (⟨"SharedTrees$Trees", "putBelow", "(IIII)V"⟩, 3), (⟨"SharedTrees$Trees", "putInLeaf", "(III)V"⟩, 3), (⟨"SharedTrees$Trees", "ownedChild", "(II)I"⟩, 3), (⟨"SharedTrees$Trees", "split", "(II)V"⟩, 3), (⟨"SharedTrees$Trees", "grown", "(I)I"⟩, 3), (⟨"SharedTrees$Trees", "removeBelow", "(III)V"⟩, 3), (⟨"SharedTrees$Trees", "fill", "(II)V"⟩, 3), (⟨"SharedTrees$Trees", "moveEntry", "(IIII)V"⟩, 3), (⟨"SharedTrees$Trees", "shrunk", "(I)I"⟩, 3), (⟨"SharedTrees$Trees", "keyOr", "(III)I"⟩, 3), (⟨"SharedTrees", "lead", "(LSharedTrees$Maps;III)V"⟩, 5), (⟨"SharedTrees$Trees", "releaseBelow", "(II)V"⟩, 3), (⟨"SharedTrees", "leadAll", "(LSharedTrees$Maps;LSharedTrees$Maps;)V"⟩, 5)]
theorem lw_r1 : ∀ q ∈ lw_privs_1, lw_okq q := List.forall_mem_cons.mpr ⟨lw_p0, List.forall_mem_cons.mpr ⟨lw_p1, List.forall_mem_cons.mpr ⟨lw_p2, List.forall_mem_cons.mpr ⟨lw_p3, List.forall_mem_cons.mpr ⟨lw_p4, List.forall_mem_cons.mpr ⟨lw_p5, List.forall_mem_cons.mpr ⟨lw_p6, List.forall_mem_cons.mpr ⟨lw_p7, List.forall_mem_cons.mpr ⟨lw_p8, List.forall_mem_cons.mpr ⟨lw_p9, List.forall_mem_cons.mpr ⟨lw_p10, List.forall_mem_cons.mpr ⟨lw_p11, List.forall_mem_cons.mpr ⟨lw_p12, List.forall_mem_cons.mpr ⟨lw_p13, List.forall_mem_cons.mpr ⟨lw_p14, List.forall_mem_cons.mpr ⟨lw_p15, fun _ h => absurd h List.not_mem_nil⟩⟩⟩⟩⟩⟩⟩⟩⟩⟩⟩⟩⟩⟩⟩⟩
theorem lw_p16 : lw_okq (⟨"SharedTrees$Inspection", "faultOfMaps", "(LSharedTrees$Maps;I)I"⟩, 7) := ⟨⟨by decide +kernel, by decide +kernel⟩, List.mem_of_getElem? (i := 75) (by decide +kernel), List.mem_of_getElem? (i := 373) (by decide +kernel), List.mem_of_getElem? (i := 374) (by decide +kernel)⟩
theorem lw_p17 : lw_okq (⟨"SharedTrees$Inspection", "faultOfTree", "(III)I"⟩, 7) := ⟨⟨by decide +kernel, by decide +kernel⟩, List.mem_of_getElem? (i := 75) (by decide +kernel), List.mem_of_getElem? (i := 377) (by decide +kernel), List.mem_of_getElem? (i := 378) (by decide +kernel)⟩
theorem lw_p18 : lw_okq (⟨"SharedTrees$Inspection", "faultBelow", "(II)I"⟩, 7) := ⟨⟨by decide +kernel, by decide +kernel⟩, List.mem_of_getElem? (i := 75) (by decide +kernel), List.mem_of_getElem? (i := 384) (by decide +kernel), List.mem_of_getElem? (i := 385) (by decide +kernel)⟩
theorem lw_p19 : lw_okq (⟨"SharedTrees$Inspection", "hasOrder", "(I)Z"⟩, 7) := ⟨⟨by decide +kernel, by decide +kernel⟩, List.mem_of_getElem? (i := 75) (by decide +kernel), List.mem_of_getElem? (i := 388) (by decide +kernel), List.mem_of_getElem? (i := 389) (by decide +kernel)⟩
theorem lw_p20 : lw_okq (⟨"SharedTrees$Inspection", "faultOfLeaf", "(I)I"⟩, 7) := ⟨⟨by decide +kernel, by decide +kernel⟩, List.mem_of_getElem? (i := 75) (by decide +kernel), List.mem_of_getElem? (i := 394) (by decide +kernel), List.mem_of_getElem? (i := 395) (by decide +kernel)⟩
theorem lw_p21 : lw_okq (⟨"SharedTrees$Inspection", "faultOfNode", "(II)I"⟩, 7) := ⟨⟨by decide +kernel, by decide +kernel⟩, List.mem_of_getElem? (i := 75) (by decide +kernel), List.mem_of_getElem? (i := 400) (by decide +kernel), List.mem_of_getElem? (i := 401) (by decide +kernel)⟩
theorem lw_p22 : lw_okq (⟨"SharedTrees$Inspection", "faultOfFree", "()I"⟩, 7) := ⟨⟨by decide +kernel, by decide +kernel⟩, List.mem_of_getElem? (i := 75) (by decide +kernel), List.mem_of_getElem? (i := 404) (by decide +kernel), List.mem_of_getElem? (i := 405) (by decide +kernel)⟩
theorem lw_p23 : lw_okq (⟨"SharedTrees$Inspection", "faultOfWays", "()I"⟩, 7) := ⟨⟨by decide +kernel, by decide +kernel⟩, List.mem_of_getElem? (i := 75) (by decide +kernel), List.mem_of_getElem? (i := 416) (by decide +kernel), List.mem_of_getElem? (i := 417) (by decide +kernel)⟩
theorem lw_p24 : lw_okq (⟨"SharedTreesModel", "all", "()I"⟩, 4) := ⟨⟨by decide +kernel, by decide +kernel⟩, List.mem_of_getElem? (i := 424) (by decide +kernel), List.mem_of_getElem? (i := 458) (by decide +kernel), List.mem_of_getElem? (i := 459) (by decide +kernel)⟩
def lw_privs_2 : List (MethodName × Nat) := [(⟨"SharedTrees$Inspection", "faultOfMaps", "(LSharedTrees$Maps;I)I"⟩, 7), (⟨"SharedTrees$Inspection", "faultOfTree", "(III)I"⟩, 7), (⟨"SharedTrees$Inspection", "faultBelow", "(II)I"⟩, 7), (⟨"SharedTrees$Inspection", "hasOrder", "(I)Z"⟩, 7), (⟨"SharedTrees$Inspection", "faultOfLeaf", "(I)I"⟩, 7), (⟨"SharedTrees$Inspection", "faultOfNode", "(II)I"⟩, 7), (⟨"SharedTrees$Inspection", "faultOfFree", "()I"⟩, 7), (⟨"SharedTrees$Inspection", "faultOfWays", "()I"⟩, 7), (⟨"SharedTreesModel", "all", "()I"⟩, 4)]
theorem lw_r2 : ∀ q ∈ lw_privs_2, lw_okq q := List.forall_mem_cons.mpr ⟨lw_p16, List.forall_mem_cons.mpr ⟨lw_p17, List.forall_mem_cons.mpr ⟨lw_p18, List.forall_mem_cons.mpr ⟨lw_p19, List.forall_mem_cons.mpr ⟨lw_p20, List.forall_mem_cons.mpr ⟨lw_p21, List.forall_mem_cons.mpr ⟨lw_p22, List.forall_mem_cons.mpr ⟨lw_p23, List.forall_mem_cons.mpr ⟨lw_p24, fun _ h => absurd h List.not_mem_nil⟩⟩⟩⟩⟩⟩⟩⟩⟩
def lw_privs : List (MethodName × Nat) := lw_privs_1 ++ (lw_privs_2)
def lw_tbl : List Cond := k2_sels lw_privs ++ tables_1
theorem lw_privs_ok : ∀ q ∈ lw_privs, lw_okq q := by
  show ∀ q ∈ lw_privs_1 ++ (lw_privs_2), lw_okq q
  exact List.forall_mem_append.mpr ⟨lw_r1, lw_r2⟩
end
section
def Rn_S : String := "SharedTrees"
def Rn_B : String := "SharedTrees$Blocks"
def Rn_T : String := "SharedTrees$Trees"
def Rn_I : String := "SharedTrees$Inspection"
def Rn_P : String := "SharedTrees$Maps"
def Rn_R : String := "SharedTreesModel"
def Rn_L : String := "SharedTreesLaw"
def Fn_S : u_T := fun k => match k with
  | 0 => ("SharedTrees", "blocks", "LSharedTrees$Blocks;", true)
  | 1 => ("SharedTrees", "trees", "LSharedTrees$Trees;", true)
  | 2 => ("SharedTrees", "inspection", "LSharedTrees$Inspection;", true)
  | 3 => ("SharedTrees", "now", "LSharedTrees$Maps;", true)
  | _ => ("SharedTrees", "kept", "LSharedTrees$Maps;", true)
def Tn_S : Nat → FieldType := fun k => match k with
  | 0 => .object "SharedTrees$Blocks"
  | 1 => .object "SharedTrees$Trees"
  | 2 => .object "SharedTrees$Inspection"
  | 3 => .object "SharedTrees$Maps"
  | _ => .object "SharedTrees$Maps"
theorem nn_S : ∀ a, a < 5 → ∀ b, b < 5 → a ≠ b → (Fn_S a).2.1 ≠ (Fn_S b).2.1 := by decide +kernel
theorem to_S : ∀ k, k < 5 → parseFieldDescriptor (Fn_S k).2.2.1 = some (Tn_S k) := by decide +kernel
def Fn_B : u_T := fun k => match k with
  | 0 => ("SharedTrees$Blocks", "width", "I", true)
  | 1 => ("SharedTrees$Blocks", "ways", "[I", true)
  | 2 => ("SharedTrees$Blocks", "levels", "[I", true)
  | 3 => ("SharedTrees$Blocks", "sizes", "[I", true)
  | 4 => ("SharedTrees$Blocks", "entryKeys", "[I", true)
  | 5 => ("SharedTrees$Blocks", "entryGoals", "[I", true)
  | 6 => ("SharedTrees$Blocks", "free", "[I", true)
  | _ => ("SharedTrees$Blocks", "freeCount", "I", false)
def Tn_B : Nat → FieldType := fun k => match k with
  | 0 => .int
  | 1 => .array .int
  | 2 => .array .int
  | 3 => .array .int
  | 4 => .array .int
  | 5 => .array .int
  | 6 => .array .int
  | _ => .int
theorem nn_B : ∀ a, a < 8 → ∀ b, b < 8 → a ≠ b → (Fn_B a).2.1 ≠ (Fn_B b).2.1 := by decide +kernel
theorem to_B : ∀ k, k < 8 → parseFieldDescriptor (Fn_B k).2.2.1 = some (Tn_B k) := by decide +kernel
def Fn_T : u_T := fun k => match k with
  | 0 => ("SharedTrees$Trees", "blocks", "LSharedTrees$Blocks;", true)
  | 1 => ("SharedTrees$Trees", "most", "I", true)
  | _ => ("SharedTrees$Trees", "least", "I", true)
def Tn_T : Nat → FieldType := fun k => match k with
  | 0 => .object "SharedTrees$Blocks"
  | 1 => .int
  | _ => .int
theorem nn_T : ∀ a, a < 3 → ∀ b, b < 3 → a ≠ b → (Fn_T a).2.1 ≠ (Fn_T b).2.1 := by decide +kernel
theorem to_T : ∀ k, k < 3 → parseFieldDescriptor (Fn_T k).2.2.1 = some (Tn_T k) := by decide +kernel
def Fn_I : u_T := fun k => match k with
  | 0 => ("SharedTrees$Inspection", "blocks", "LSharedTrees$Blocks;", true)
  | 1 => ("SharedTrees$Inspection", "most", "I", true)
  | 2 => ("SharedTrees$Inspection", "least", "I", true)
  | 3 => ("SharedTrees$Inspection", "found", "[I", true)
  | 4 => ("SharedTrees$Inspection", "keysBelow", "[I", true)
  | 5 => ("SharedTrees$Inspection", "lastKeys", "[I", true)
  | _ => ("SharedTrees$Inspection", "listed", "[Z", true)
def Tn_I : Nat → FieldType := fun k => match k with
  | 0 => .object "SharedTrees$Blocks"
  | 1 => .int
  | 2 => .int
  | 3 => .array .int
  | 4 => .array .int
  | 5 => .array .int
  | _ => .array .boolean
theorem nn_I : ∀ a, a < 7 → ∀ b, b < 7 → a ≠ b → (Fn_I a).2.1 ≠ (Fn_I b).2.1 := by decide +kernel
theorem to_I : ∀ k, k < 7 → parseFieldDescriptor (Fn_I k).2.2.1 = some (Tn_I k) := by decide +kernel
def Fn_P : u_T := fun k => match k with
  | 0 => ("SharedTrees$Maps", "roots", "[I", true)
  | 1 => ("SharedTrees$Maps", "counts", "[I", true)
  | _ => ("SharedTrees$Maps", "total", "I", false)
def Tn_P : Nat → FieldType := fun k => match k with
  | 0 => .array .int
  | 1 => .array .int
  | _ => .int
theorem nn_P : ∀ a, a < 3 → ∀ b, b < 3 → a ≠ b → (Fn_P a).2.1 ≠ (Fn_P b).2.1 := by decide +kernel
theorem to_P : ∀ k, k < 3 → parseFieldDescriptor (Fn_P k).2.2.1 = some (Tn_P k) := by decide +kernel
def Fn_R : u_T := fun k => match k with
  | 0 => ("SharedTreesModel", "stamps", "[I", true)
  | 1 => ("SharedTreesModel", "kept", "[I", true)
  | 2 => ("SharedTreesModel", "counts", "[I", true)
  | _ => ("SharedTreesModel", "keptCounts", "[I", true)
def Tn_R : Nat → FieldType := fun k => match k with
  | 0 => .array .int
  | 1 => .array .int
  | 2 => .array .int
  | _ => .array .int
theorem nn_R : ∀ a, a < 4 → ∀ b, b < 4 → a ≠ b → (Fn_R a).2.1 ≠ (Fn_R b).2.1 := by decide +kernel
theorem to_R : ∀ k, k < 4 → parseFieldDescriptor (Fn_R k).2.2.1 = some (Tn_R k) := by decide +kernel
abbrev sC_ : List vw_C := [(Rn_S, Fn_S, 5), (Rn_B, Fn_B, 8), (Rn_T, Fn_T, 3), (Rn_I, Fn_I, 7), (Rn_P, Fn_P, 3), (Rn_R, Fn_R, 4)]
def nh_ : String := "SharedTrees"
abbrev bc_S_init : ByteArray := prog_1_method_1_code
def yn_S_init : MethodName := ⟨Rn_S, "<init>", "(I)V"⟩
abbrev bc_S_write : ByteArray := prog_1_method_2_code
def yn_S_write : MethodName := ⟨Rn_S, "write", "(III)I"⟩
abbrev bc_S_spread : ByteArray := prog_1_method_3_code
def yn_S_spread : MethodName := ⟨Rn_S, "spread", "(IIIII)I"⟩
abbrev bc_S_read : ByteArray := prog_1_method_4_code
def yn_S_read : MethodName := ⟨Rn_S, "read", "(II)I"⟩
abbrev bc_S_erase : ByteArray := prog_1_method_5_code
def yn_S_erase : MethodName := ⟨Rn_S, "erase", "(II)I"⟩
abbrev bc_S_cut : ByteArray := prog_1_method_6_code
def yn_S_cut : MethodName := ⟨Rn_S, "cut", "(III)I"⟩
abbrev bc_S_next : ByteArray := prog_1_method_7_code
def yn_S_next : MethodName := ⟨Rn_S, "next", "(II)I"⟩
abbrev bc_S_clone : ByteArray := prog_1_method_8_code
def yn_S_clone : MethodName := ⟨Rn_S, "clone", "(II)I"⟩
abbrev bc_S_drop : ByteArray := prog_1_method_9_code
def yn_S_drop : MethodName := ⟨Rn_S, "drop", "(I)I"⟩
abbrev bc_S_keep : ByteArray := prog_1_method_10_code
def yn_S_keep : MethodName := ⟨Rn_S, "keep", "()I"⟩
abbrev bc_S_back : ByteArray := prog_1_method_11_code
def yn_S_back : MethodName := ⟨Rn_S, "back", "()I"⟩
abbrev bc_S_keys : ByteArray := prog_1_method_12_code
def yn_S_keys : MethodName := ⟨Rn_S, "keys", "(I)I"⟩
abbrev bc_S_check : ByteArray := prog_1_method_13_code
def yn_S_check : MethodName := ⟨Rn_S, "check", "()I"⟩
abbrev bc_S_isMap : ByteArray := prog_1_method_14_code
def yn_S_isMap : MethodName := ⟨Rn_S, "isMap", "(I)Z"⟩
abbrev bc_S_isKey : ByteArray := prog_1_method_15_code
def yn_S_isKey : MethodName := ⟨Rn_S, "isKey", "(I)Z"⟩
abbrev bc_S_isStamp : ByteArray := prog_1_method_16_code
def yn_S_isStamp : MethodName := ⟨Rn_S, "isStamp", "(I)Z"⟩
abbrev bc_S_leastEntries : ByteArray := prog_1_method_17_code
def yn_S_leastEntries : MethodName := ⟨Rn_S, "leastEntries", "(I)I"⟩
abbrev bc_S_changeCount : ByteArray := prog_1_method_18_code
def yn_S_changeCount : MethodName := ⟨Rn_S, "changeCount", "(LSharedTrees$Maps;II)V"⟩
abbrev bc_S_leadAll : ByteArray := prog_1_method_19_code
def yn_S_leadAll : MethodName := ⟨Rn_S, "leadAll", "(LSharedTrees$Maps;LSharedTrees$Maps;)V"⟩
abbrev bc_S_lead : ByteArray := prog_1_method_20_code
def yn_S_lead : MethodName := ⟨Rn_S, "lead", "(LSharedTrees$Maps;III)V"⟩
abbrev bc_B_init : ByteArray := prog_2_method_1_code
def yn_B_init : MethodName := ⟨Rn_B, "<init>", "(I)V"⟩
abbrev bc_B_isBlock : ByteArray := prog_2_method_2_code
def yn_B_isBlock : MethodName := ⟨Rn_B, "isBlock", "(I)Z"⟩
abbrev bc_B_ways : ByteArray := prog_2_method_3_code
def yn_B_ways : MethodName := ⟨Rn_B, "ways", "(I)I"⟩
abbrev bc_B_level : ByteArray := prog_2_method_4_code
def yn_B_level : MethodName := ⟨Rn_B, "level", "(I)I"⟩
abbrev bc_B_size : ByteArray := prog_2_method_5_code
def yn_B_size : MethodName := ⟨Rn_B, "size", "(I)I"⟩
abbrev bc_B_key : ByteArray := prog_2_method_6_code
def yn_B_key : MethodName := ⟨Rn_B, "key", "(II)I"⟩
abbrev bc_B_goal : ByteArray := prog_2_method_7_code
def yn_B_goal : MethodName := ⟨Rn_B, "goal", "(II)I"⟩
abbrev bc_B_setKey : ByteArray := prog_2_method_8_code
def yn_B_setKey : MethodName := ⟨Rn_B, "setKey", "(III)V"⟩
abbrev bc_B_setGoal : ByteArray := prog_2_method_9_code
def yn_B_setGoal : MethodName := ⟨Rn_B, "setGoal", "(III)V"⟩
abbrev bc_B_freeCount : ByteArray := prog_2_method_10_code
def yn_B_freeCount : MethodName := ⟨Rn_B, "freeCount", "()I"⟩
abbrev bc_B_freeBlock : ByteArray := prog_2_method_11_code
def yn_B_freeBlock : MethodName := ⟨Rn_B, "freeBlock", "(I)I"⟩
abbrev bc_B_isEntry : ByteArray := prog_2_method_12_code
def yn_B_isEntry : MethodName := ⟨Rn_B, "isEntry", "(II)Z"⟩
abbrev bc_B_slotOf : ByteArray := prog_2_method_13_code
def yn_B_slotOf : MethodName := ⟨Rn_B, "slotOf", "(II)I"⟩
abbrev bc_B_take : ByteArray := prog_2_method_14_code
def yn_B_take : MethodName := ⟨Rn_B, "take", "(I)I"⟩
abbrev bc_B_give : ByteArray := prog_2_method_15_code
def yn_B_give : MethodName := ⟨Rn_B, "give", "(I)V"⟩
abbrev bc_B_share : ByteArray := prog_2_method_16_code
def yn_B_share : MethodName := ⟨Rn_B, "share", "(I)V"⟩
abbrev bc_B_lose : ByteArray := prog_2_method_17_code
def yn_B_lose : MethodName := ⟨Rn_B, "lose", "(I)Z"⟩
abbrev bc_B_owned : ByteArray := prog_2_method_18_code
def yn_B_owned : MethodName := ⟨Rn_B, "owned", "(I)I"⟩
abbrev bc_B_copyEntries : ByteArray := prog_2_method_19_code
def yn_B_copyEntries : MethodName := ⟨Rn_B, "copyEntries", "(II)V"⟩
abbrev bc_B_insert : ByteArray := prog_2_method_20_code
def yn_B_insert : MethodName := ⟨Rn_B, "insert", "(IIII)V"⟩
abbrev bc_B_remove : ByteArray := prog_2_method_21_code
def yn_B_remove : MethodName := ⟨Rn_B, "remove", "(II)V"⟩
abbrev bc_B_moveTail : ByteArray := prog_2_method_22_code
def yn_B_moveTail : MethodName := ⟨Rn_B, "moveTail", "(III)V"⟩
abbrev bc_T_init : ByteArray := prog_5_method_1_code
def yn_T_init : MethodName := ⟨Rn_T, "<init>", "(LSharedTrees$Blocks;I)V"⟩
abbrev bc_T_stampOf : ByteArray := prog_5_method_2_code
def yn_T_stampOf : MethodName := ⟨Rn_T, "stampOf", "(II)I"⟩
abbrev bc_T_keyFrom : ByteArray := prog_5_method_3_code
def yn_T_keyFrom : MethodName := ⟨Rn_T, "keyFrom", "(II)I"⟩
abbrev bc_T_keyOr : ByteArray := prog_5_method_4_code
def yn_T_keyOr : MethodName := ⟨Rn_T, "keyOr", "(III)I"⟩
abbrev bc_T_slotToward : ByteArray := prog_5_method_5_code
def yn_T_slotToward : MethodName := ⟨Rn_T, "slotToward", "(II)I"⟩
abbrev bc_T_with : ByteArray := prog_5_method_6_code
def yn_T_with : MethodName := ⟨Rn_T, "with", "(III)I"⟩
abbrev bc_T_putBelow : ByteArray := prog_5_method_7_code
def yn_T_putBelow : MethodName := ⟨Rn_T, "putBelow", "(IIII)V"⟩
abbrev bc_T_putInLeaf : ByteArray := prog_5_method_8_code
def yn_T_putInLeaf : MethodName := ⟨Rn_T, "putInLeaf", "(III)V"⟩
abbrev bc_T_ownedChild : ByteArray := prog_5_method_9_code
def yn_T_ownedChild : MethodName := ⟨Rn_T, "ownedChild", "(II)I"⟩
abbrev bc_T_split : ByteArray := prog_5_method_10_code
def yn_T_split : MethodName := ⟨Rn_T, "split", "(II)V"⟩
abbrev bc_T_grown : ByteArray := prog_5_method_11_code
def yn_T_grown : MethodName := ⟨Rn_T, "grown", "(I)I"⟩
abbrev bc_T_without : ByteArray := prog_5_method_12_code
def yn_T_without : MethodName := ⟨Rn_T, "without", "(II)I"⟩
abbrev bc_T_removeBelow : ByteArray := prog_5_method_13_code
def yn_T_removeBelow : MethodName := ⟨Rn_T, "removeBelow", "(III)V"⟩
abbrev bc_T_fill : ByteArray := prog_5_method_14_code
def yn_T_fill : MethodName := ⟨Rn_T, "fill", "(II)V"⟩
abbrev bc_T_moveEntry : ByteArray := prog_5_method_15_code
def yn_T_moveEntry : MethodName := ⟨Rn_T, "moveEntry", "(IIII)V"⟩
abbrev bc_T_shrunk : ByteArray := prog_5_method_16_code
def yn_T_shrunk : MethodName := ⟨Rn_T, "shrunk", "(I)I"⟩
abbrev bc_T_release : ByteArray := prog_5_method_17_code
def yn_T_release : MethodName := ⟨Rn_T, "release", "(I)V"⟩
abbrev bc_T_releaseBelow : ByteArray := prog_5_method_18_code
def yn_T_releaseBelow : MethodName := ⟨Rn_T, "releaseBelow", "(II)V"⟩
abbrev bc_I_init : ByteArray := prog_3_method_1_code
def yn_I_init : MethodName := ⟨Rn_I, "<init>", "(LSharedTrees$Blocks;I)V"⟩
abbrev bc_I_firstFault : ByteArray := prog_3_method_2_code
def yn_I_firstFault : MethodName := ⟨Rn_I, "firstFault", "(LSharedTrees$Maps;LSharedTrees$Maps;)I"⟩
abbrev bc_I_faultOfMaps : ByteArray := prog_3_method_3_code
def yn_I_faultOfMaps : MethodName := ⟨Rn_I, "faultOfMaps", "(LSharedTrees$Maps;I)I"⟩
abbrev bc_I_faultOfTree : ByteArray := prog_3_method_4_code
def yn_I_faultOfTree : MethodName := ⟨Rn_I, "faultOfTree", "(III)I"⟩
abbrev bc_I_faultBelow : ByteArray := prog_3_method_5_code
def yn_I_faultBelow : MethodName := ⟨Rn_I, "faultBelow", "(II)I"⟩
abbrev bc_I_hasOrder : ByteArray := prog_3_method_6_code
def yn_I_hasOrder : MethodName := ⟨Rn_I, "hasOrder", "(I)Z"⟩
abbrev bc_I_faultOfLeaf : ByteArray := prog_3_method_7_code
def yn_I_faultOfLeaf : MethodName := ⟨Rn_I, "faultOfLeaf", "(I)I"⟩
abbrev bc_I_faultOfNode : ByteArray := prog_3_method_8_code
def yn_I_faultOfNode : MethodName := ⟨Rn_I, "faultOfNode", "(II)I"⟩
abbrev bc_I_faultOfFree : ByteArray := prog_3_method_9_code
def yn_I_faultOfFree : MethodName := ⟨Rn_I, "faultOfFree", "()I"⟩
abbrev bc_I_faultOfWays : ByteArray := prog_3_method_10_code
def yn_I_faultOfWays : MethodName := ⟨Rn_I, "faultOfWays", "()I"⟩
abbrev bc_P_init : ByteArray := prog_4_method_1_code
def yn_P_init : MethodName := ⟨Rn_P, "<init>", "()V"⟩
abbrev bc_R_init : ByteArray := prog_7_method_1_code
def yn_R_init : MethodName := ⟨Rn_R, "<init>", "(I)V"⟩
abbrev bc_R_isMap : ByteArray := prog_7_method_3_code
def yn_R_isMap : MethodName := ⟨Rn_R, "isMap", "(I)Z"⟩
abbrev bc_R_isKey : ByteArray := prog_7_method_4_code
def yn_R_isKey : MethodName := ⟨Rn_R, "isKey", "(I)Z"⟩
abbrev bc_R_isStamp : ByteArray := prog_7_method_5_code
def yn_R_isStamp : MethodName := ⟨Rn_R, "isStamp", "(I)Z"⟩
abbrev bc_R_all : ByteArray := prog_7_method_6_code
def yn_R_all : MethodName := ⟨Rn_R, "all", "()I"⟩
abbrev bc_R_write : ByteArray := prog_7_method_7_code
def yn_R_write : MethodName := ⟨Rn_R, "write", "(III)I"⟩
abbrev bc_R_spread : ByteArray := prog_7_method_8_code
def yn_R_spread : MethodName := ⟨Rn_R, "spread", "(IIIII)I"⟩
abbrev bc_R_read : ByteArray := prog_7_method_9_code
def yn_R_read : MethodName := ⟨Rn_R, "read", "(II)I"⟩
abbrev bc_R_erase : ByteArray := prog_7_method_10_code
def yn_R_erase : MethodName := ⟨Rn_R, "erase", "(II)I"⟩
abbrev bc_R_cut : ByteArray := prog_7_method_11_code
def yn_R_cut : MethodName := ⟨Rn_R, "cut", "(III)I"⟩
abbrev bc_R_next : ByteArray := prog_7_method_12_code
def yn_R_next : MethodName := ⟨Rn_R, "next", "(II)I"⟩
abbrev bc_R_clone : ByteArray := prog_7_method_13_code
def yn_R_clone : MethodName := ⟨Rn_R, "clone", "(II)I"⟩
abbrev bc_R_drop : ByteArray := prog_7_method_14_code
def yn_R_drop : MethodName := ⟨Rn_R, "drop", "(I)I"⟩
abbrev bc_R_keep : ByteArray := prog_7_method_15_code
def yn_R_keep : MethodName := ⟨Rn_R, "keep", "()I"⟩
abbrev bc_R_back : ByteArray := prog_7_method_16_code
def yn_R_back : MethodName := ⟨Rn_R, "back", "()I"⟩
abbrev bc_R_keys : ByteArray := prog_7_method_17_code
def yn_R_keys : MethodName := ⟨Rn_R, "keys", "(I)I"⟩
abbrev bc_R_check : ByteArray := prog_7_method_18_code
def yn_R_check : MethodName := ⟨Rn_R, "check", "()I"⟩
abbrev bc_L_cell : ByteArray := method_2_code
def yn_L_cell : MethodName := ⟨Rn_L, "cell", "([II)I"⟩
abbrev bc_L_law : ByteArray := code
def yn_L_law : MethodName := ⟨Rn_L, "law", "([I)Z"⟩
abbrev St_ : Type := Nat → Nat → Int32
def ws_1 (st : St_) (k i : Nat) (x : Int32) : St_ := va_up st k (upd (st k) i x)
def ws_c (st : St_) (k j sp dp n : Nat) : St_ := va_up st j (va_cpy (st k) (st j) sp dp n)
def wl_ (w k : Nat) : Nat := match k with
  | 0 => 1201
  | 1 => 1201
  | 2 => 1201
  | 3 => 1201 * w
  | 4 => 1201 * w
  | 5 => 1200
  | 6 => 1201
  | 7 => 1201
  | 8 => 1201
  | 9 => 1201
  | 10 => 8
  | 11 => 8
  | 12 => 8
  | 13 => 8
  | 14 => 32768
  | 15 => 32768
  | 16 => 8
  | _ => 8
def wd_ (ad : Nat → Nat) (cA : Nat → ClassId) (w : Nat) (st : St_) : va_W := [(ad 0, .inl (cA 0, 1201, .inl (st 0))),
  (ad 1, .inl (cA 1, 1201, .inl (st 1))),
  (ad 2, .inl (cA 2, 1201, .inl (st 2))),
  (ad 3, .inl (cA 3, (1201 * w), .inl (st 3))),
  (ad 4, .inl (cA 4, (1201 * w), .inl (st 4))),
  (ad 5, .inl (cA 5, 1200, .inl (st 5))),
  (ad 6, .inl (cA 6, 1201, .inl (st 6))),
  (ad 7, .inl (cA 7, 1201, .inl (st 7))),
  (ad 8, .inl (cA 8, 1201, .inl (st 8))),
  (ad 9, .inl (cA 9, 1201, .inl (st 9))),
  (ad 10, .inl (cA 10, 8, .inl (st 10))),
  (ad 11, .inl (cA 11, 8, .inl (st 11))),
  (ad 12, .inl (cA 12, 8, .inl (st 12))),
  (ad 13, .inl (cA 13, 8, .inl (st 13))),
  (ad 14, .inl (cA 14, 32768, .inl (st 14))),
  (ad 15, .inl (cA 15, 32768, .inl (st 15))),
  (ad 16, .inl (cA 16, 8, .inl (st 16))),
  (ad 17, .inl (cA 17, 8, .inl (st 17))),
  (ad 18, .inr (0, [.ref (ad 19), .ref (ad 20), .ref (ad 21), .ref (ad 22), .ref (ad 23)])),
  (ad 19, .inr (1, [.int (nI w), .ref (ad 0), .ref (ad 1), .ref (ad 2), .ref (ad 3), .ref (ad 4), .ref (ad 5), .int (st 18 0)])),
  (ad 20, .inr (2, [.ref (ad 19), .int (nI (w - 1)), .int (nI (w / 2))])),
  (ad 21, .inr (3, [.ref (ad 19), .int (nI (w - 1)), .int (nI (w / 2)), .ref (ad 6), .ref (ad 7), .ref (ad 8), .ref (ad 9)])),
  (ad 22, .inr (4, [.ref (ad 10), .ref (ad 11), .int (st 19 0)])),
  (ad 23, .inr (4, [.ref (ad 12), .ref (ad 13), .int (st 20 0)])),
  (ad 24, .inr (5, [.ref (ad 14), .ref (ad 15), .ref (ad 16), .ref (ad 17)]))]
def ty_ (cA : Nat → ClassId) : List (ClassId × FieldType) := [(cA 0, .int), (cA 1, .int), (cA 2, .int), (cA 3, .int), (cA 4, .int), (cA 5, .int), (cA 6, .int), (cA 7, .int), (cA 8, .int), (cA 9, .boolean), (cA 10, .int), (cA 11, .int), (cA 12, .int), (cA 13, .int), (cA 14, .int), (cA 15, .int), (cA 16, .int), (cA 17, .int)]
end
section
theorem dc_S_write_0 : decode bc_S_write 0 = .ok (.iload_n 1, 1) := by decide +kernel
theorem dc_S_write_1 : decode bc_S_write 1 = .ok (.invokestatic 53, 3) := by decide +kernel
theorem dc_S_write_4 : decode bc_S_write 4 = .ok (.ifCond .eq 17, 3) := by decide +kernel
theorem dc_S_write_21 : decode bc_S_write 21 = .ok (.iconst (-1), 1) := by decide +kernel
theorem dc_S_write_22 : decode bc_S_write 22 = .ok (.ireturn, 1) := by decide +kernel
theorem dc_S_write_7 : decode bc_S_write 7 = .ok (.iload_n 2, 1) := by decide +kernel
theorem dc_S_write_8 : decode bc_S_write 8 = .ok (.invokestatic 57, 3) := by decide +kernel
theorem dc_S_write_11 : decode bc_S_write 11 = .ok (.ifCond .eq 10, 3) := by decide +kernel
theorem dc_S_write_14 : decode bc_S_write 14 = .ok (.iload_n 3, 1) := by decide +kernel
theorem dc_S_write_15 : decode bc_S_write 15 = .ok (.invokestatic 60, 3) := by decide +kernel
theorem dc_S_write_18 : decode bc_S_write 18 = .ok (.ifCond .ne 5, 3) := by decide +kernel
theorem dc_S_write_23 : decode bc_S_write 23 = .ok (.aload_n 0, 1) := by decide +kernel
theorem dc_S_write_24 : decode bc_S_write 24 = .ok (.getfield 32, 3) := by decide +kernel
theorem dc_S_write_27 : decode bc_S_write 27 = .ok (.aload_n 0, 1) := by decide +kernel
theorem dc_S_write_28 : decode bc_S_write 28 = .ok (.getfield 46, 3) := by decide +kernel
theorem dc_S_write_31 : decode bc_S_write 31 = .ok (.getfield 63, 3) := by decide +kernel
theorem dc_S_write_34 : decode bc_S_write 34 = .ok (.iload_n 1, 1) := by decide +kernel
theorem dc_S_write_35 : decode bc_S_write 35 = .ok (.iaload, 1) := by decide +kernel
theorem dc_S_write_36 : decode bc_S_write 36 = .ok (.iload_n 2, 1) := by decide +kernel
theorem dc_S_write_37 : decode bc_S_write 37 = .ok (.invokevirtual 67, 3) := by decide +kernel
theorem dc_S_write_40 : decode bc_S_write 40 = .ok (.bipush (-2), 2) := by decide +kernel
theorem dc_S_write_42 : decode bc_S_write 42 = .ok (.if_icmp .ne 7, 3) := by decide +kernel
theorem dc_S_write_49 : decode bc_S_write 49 = .ok (.iconst 0, 1) := by decide +kernel
theorem dc_S_write_50 : decode bc_S_write 50 = .ok (.istore 4, 2) := by decide +kernel
theorem dc_S_write_52 : decode bc_S_write 52 = .ok (.iload 4, 2) := by decide +kernel
theorem dc_S_write_54 : decode bc_S_write 54 = .ok (.ifCond .eq 19, 3) := by decide +kernel
theorem dc_S_write_73 : decode bc_S_write 73 = .ok (.aload_n 0, 1) := by decide +kernel
theorem dc_S_write_74 : decode bc_S_write 74 = .ok (.getfield 46, 3) := by decide +kernel
theorem dc_S_write_77 : decode bc_S_write 77 = .ok (.getfield 63, 3) := by decide +kernel
theorem dc_S_write_80 : decode bc_S_write 80 = .ok (.iload_n 1, 1) := by decide +kernel
theorem dc_S_write_81 : decode bc_S_write 81 = .ok (.aload_n 0, 1) := by decide +kernel
theorem dc_S_write_82 : decode bc_S_write 82 = .ok (.getfield 32, 3) := by decide +kernel
theorem dc_S_write_85 : decode bc_S_write 85 = .ok (.aload_n 0, 1) := by decide +kernel
theorem dc_S_write_86 : decode bc_S_write 86 = .ok (.getfield 46, 3) := by decide +kernel
theorem dc_S_write_89 : decode bc_S_write 89 = .ok (.getfield 63, 3) := by decide +kernel
theorem dc_S_write_92 : decode bc_S_write 92 = .ok (.iload_n 1, 1) := by decide +kernel
theorem dc_S_write_93 : decode bc_S_write 93 = .ok (.iaload, 1) := by decide +kernel
theorem dc_S_write_94 : decode bc_S_write 94 = .ok (.iload_n 2, 1) := by decide +kernel
theorem dc_S_write_95 : decode bc_S_write 95 = .ok (.iload_n 3, 1) := by decide +kernel
theorem dc_S_write_96 : decode bc_S_write 96 = .ok (.invokevirtual 74, 3) := by decide +kernel
theorem dc_S_write_99 : decode bc_S_write 99 = .ok (.iastore, 1) := by decide +kernel
theorem dc_S_write_100 : decode bc_S_write 100 = .ok (.iload 4, 2) := by decide +kernel
theorem dc_S_write_102 : decode bc_S_write 102 = .ok (.ifCond .eq 12, 3) := by decide +kernel
theorem dc_S_write_114 : decode bc_S_write 114 = .ok (.aload_n 0, 1) := by decide +kernel
theorem dc_S_write_115 : decode bc_S_write 115 = .ok (.getfield 46, 3) := by decide +kernel
theorem dc_S_write_118 : decode bc_S_write 118 = .ok (.getfield 82, 3) := by decide +kernel
theorem dc_S_write_121 : decode bc_S_write 121 = .ok (.iload_n 1, 1) := by decide +kernel
theorem dc_S_write_122 : decode bc_S_write 122 = .ok (.iaload, 1) := by decide +kernel
theorem dc_S_write_123 : decode bc_S_write 123 = .ok (.ireturn, 1) := by decide +kernel
theorem dc_S_write_45 : decode bc_S_write 45 = .ok (.iconst 1, 1) := by decide +kernel
theorem dc_S_write_46 : decode bc_S_write 46 = .ok (.goto 4, 3) := by decide +kernel
theorem dc_S_write_57 : decode bc_S_write 57 = .ok (.aload_n 0, 1) := by decide +kernel
theorem dc_S_write_58 : decode bc_S_write 58 = .ok (.getfield 46, 3) := by decide +kernel
theorem dc_S_write_61 : decode bc_S_write 61 = .ok (.getfield 70, 3) := by decide +kernel
theorem dc_S_write_64 : decode bc_S_write 64 = .ok (.sipush 600, 3) := by decide +kernel
theorem dc_S_write_67 : decode bc_S_write 67 = .ok (.if_icmp .lt 6, 3) := by decide +kernel
theorem dc_S_write_105 : decode bc_S_write 105 = .ok (.aload_n 0, 1) := by decide +kernel
theorem dc_S_write_106 : decode bc_S_write 106 = .ok (.getfield 46, 3) := by decide +kernel
theorem dc_S_write_109 : decode bc_S_write 109 = .ok (.iload_n 1, 1) := by decide +kernel
theorem dc_S_write_110 : decode bc_S_write 110 = .ok (.iconst 1, 1) := by decide +kernel
theorem dc_S_write_111 : decode bc_S_write 111 = .ok (.invokestatic 78, 3) := by decide +kernel
theorem dc_S_write_70 : decode bc_S_write 70 = .ok (.bipush (-3), 2) := by decide +kernel
theorem dc_S_write_72 : decode bc_S_write 72 = .ok (.ireturn, 1) := by decide +kernel
theorem dc_S_isMap_0 : decode bc_S_isMap 0 = .ok (.iload_n 0, 1) := by decide +kernel
theorem dc_S_isMap_1 : decode bc_S_isMap 1 = .ok (.ifCond .lt 13, 3) := by decide +kernel
theorem dc_S_isMap_14 : decode bc_S_isMap 14 = .ok (.iconst 0, 1) := by decide +kernel
theorem dc_S_isMap_15 : decode bc_S_isMap 15 = .ok (.ireturn, 1) := by decide +kernel
theorem dc_S_isMap_4 : decode bc_S_isMap 4 = .ok (.iload_n 0, 1) := by decide +kernel
theorem dc_S_isMap_5 : decode bc_S_isMap 5 = .ok (.bipush 8, 2) := by decide +kernel
theorem dc_S_isMap_7 : decode bc_S_isMap 7 = .ok (.if_icmp .ge 7, 3) := by decide +kernel
theorem dc_S_isMap_10 : decode bc_S_isMap 10 = .ok (.iconst 1, 1) := by decide +kernel
theorem dc_S_isMap_11 : decode bc_S_isMap 11 = .ok (.goto 4, 3) := by decide +kernel
theorem dc_S_isKey_0 : decode bc_S_isKey 0 = .ok (.iload_n 0, 1) := by decide +kernel
theorem dc_S_isKey_1 : decode bc_S_isKey 1 = .ok (.ifCond .lt 14, 3) := by decide +kernel
theorem dc_S_isKey_15 : decode bc_S_isKey 15 = .ok (.iconst 0, 1) := by decide +kernel
theorem dc_S_isKey_16 : decode bc_S_isKey 16 = .ok (.ireturn, 1) := by decide +kernel
theorem dc_S_isKey_4 : decode bc_S_isKey 4 = .ok (.iload_n 0, 1) := by decide +kernel
theorem dc_S_isKey_5 : decode bc_S_isKey 5 = .ok (.sipush 4095, 3) := by decide +kernel
theorem dc_S_isKey_8 : decode bc_S_isKey 8 = .ok (.if_icmp .gt 7, 3) := by decide +kernel
theorem dc_S_isKey_11 : decode bc_S_isKey 11 = .ok (.iconst 1, 1) := by decide +kernel
theorem dc_S_isKey_12 : decode bc_S_isKey 12 = .ok (.goto 4, 3) := by decide +kernel
theorem dc_S_isStamp_0 : decode bc_S_isStamp 0 = .ok (.iload_n 0, 1) := by decide +kernel
theorem dc_S_isStamp_1 : decode bc_S_isStamp 1 = .ok (.ifCond .lt 13, 3) := by decide +kernel
theorem dc_S_isStamp_14 : decode bc_S_isStamp 14 = .ok (.iconst 0, 1) := by decide +kernel
theorem dc_S_isStamp_15 : decode bc_S_isStamp 15 = .ok (.ireturn, 1) := by decide +kernel
theorem dc_S_isStamp_4 : decode bc_S_isStamp 4 = .ok (.iload_n 0, 1) := by decide +kernel
theorem dc_S_isStamp_5 : decode bc_S_isStamp 5 = .ok (.ldc 106, 2) := by decide +kernel
theorem dc_S_isStamp_7 : decode bc_S_isStamp 7 = .ok (.if_icmp .gt 7, 3) := by decide +kernel
theorem dc_S_isStamp_10 : decode bc_S_isStamp 10 = .ok (.iconst 1, 1) := by decide +kernel
theorem dc_S_isStamp_11 : decode bc_S_isStamp 11 = .ok (.goto 4, 3) := by decide +kernel
theorem dc_T_stampOf_0 : decode bc_T_stampOf 0 = .ok (.iload_n 1, 1) := by decide +kernel
theorem dc_T_stampOf_1 : decode bc_T_stampOf 1 = .ok (.istore_n 3, 1) := by decide +kernel
theorem dc_T_stampOf_2 : decode bc_T_stampOf 2 = .ok (.aload_n 0, 1) := by decide +kernel
theorem dc_T_stampOf_3 : decode bc_T_stampOf 3 = .ok (.getfield 9, 3) := by decide +kernel
theorem dc_T_stampOf_6 : decode bc_T_stampOf 6 = .ok (.iload_n 1, 1) := by decide +kernel
theorem dc_T_stampOf_7 : decode bc_T_stampOf 7 = .ok (.invokevirtual 26, 3) := by decide +kernel
theorem dc_T_stampOf_10 : decode bc_T_stampOf 10 = .ok (.istore 4, 2) := by decide +kernel
theorem dc_T_stampOf_12 : decode bc_T_stampOf 12 = .ok (.iload 4, 2) := by decide +kernel
theorem dc_T_stampOf_14 : decode bc_T_stampOf 14 = .ok (.ifCond .le 24, 3) := by decide +kernel
theorem dc_T_stampOf_38 : decode bc_T_stampOf 38 = .ok (.aload_n 0, 1) := by decide +kernel
theorem dc_T_stampOf_39 : decode bc_T_stampOf 39 = .ok (.getfield 9, 3) := by decide +kernel
theorem dc_T_stampOf_42 : decode bc_T_stampOf 42 = .ok (.iload_n 3, 1) := by decide +kernel
theorem dc_T_stampOf_43 : decode bc_T_stampOf 43 = .ok (.iload_n 2, 1) := by decide +kernel
theorem dc_T_stampOf_44 : decode bc_T_stampOf 44 = .ok (.invokevirtual 38, 3) := by decide +kernel
theorem dc_T_stampOf_47 : decode bc_T_stampOf 47 = .ok (.istore 4, 2) := by decide +kernel
theorem dc_T_stampOf_49 : decode bc_T_stampOf 49 = .ok (.aload_n 0, 1) := by decide +kernel
theorem dc_T_stampOf_50 : decode bc_T_stampOf 50 = .ok (.getfield 9, 3) := by decide +kernel
theorem dc_T_stampOf_53 : decode bc_T_stampOf 53 = .ok (.iload_n 3, 1) := by decide +kernel
theorem dc_T_stampOf_54 : decode bc_T_stampOf 54 = .ok (.iload 4, 2) := by decide +kernel
theorem dc_T_stampOf_56 : decode bc_T_stampOf 56 = .ok (.invokevirtual 41, 3) := by decide +kernel
theorem dc_T_stampOf_59 : decode bc_T_stampOf 59 = .ok (.iload_n 2, 1) := by decide +kernel
theorem dc_T_stampOf_60 : decode bc_T_stampOf 60 = .ok (.if_icmp .ne 16, 3) := by decide +kernel
theorem dc_T_stampOf_76 : decode bc_T_stampOf 76 = .ok (.bipush (-2), 2) := by decide +kernel
theorem dc_T_stampOf_78 : decode bc_T_stampOf 78 = .ok (.ireturn, 1) := by decide +kernel
theorem dc_T_stampOf_63 : decode bc_T_stampOf 63 = .ok (.aload_n 0, 1) := by decide +kernel
theorem dc_T_stampOf_64 : decode bc_T_stampOf 64 = .ok (.getfield 9, 3) := by decide +kernel
theorem dc_T_stampOf_67 : decode bc_T_stampOf 67 = .ok (.iload_n 3, 1) := by decide +kernel
theorem dc_T_stampOf_68 : decode bc_T_stampOf 68 = .ok (.iload 4, 2) := by decide +kernel
theorem dc_T_stampOf_70 : decode bc_T_stampOf 70 = .ok (.invokevirtual 35, 3) := by decide +kernel
theorem dc_T_stampOf_73 : decode bc_T_stampOf 73 = .ok (.goto 5, 3) := by decide +kernel
theorem dc_T_stampOf_17 : decode bc_T_stampOf 17 = .ok (.aload_n 0, 1) := by decide +kernel
theorem dc_T_stampOf_18 : decode bc_T_stampOf 18 = .ok (.getfield 9, 3) := by decide +kernel
theorem dc_T_stampOf_21 : decode bc_T_stampOf 21 = .ok (.iload_n 3, 1) := by decide +kernel
theorem dc_T_stampOf_22 : decode bc_T_stampOf 22 = .ok (.aload_n 0, 1) := by decide +kernel
theorem dc_T_stampOf_23 : decode bc_T_stampOf 23 = .ok (.iload_n 3, 1) := by decide +kernel
theorem dc_T_stampOf_24 : decode bc_T_stampOf 24 = .ok (.iload_n 2, 1) := by decide +kernel
theorem dc_T_stampOf_25 : decode bc_T_stampOf 25 = .ok (.invokevirtual 31, 3) := by decide +kernel
theorem dc_T_stampOf_28 : decode bc_T_stampOf 28 = .ok (.invokevirtual 35, 3) := by decide +kernel
theorem dc_T_stampOf_31 : decode bc_T_stampOf 31 = .ok (.istore_n 3, 1) := by decide +kernel
theorem dc_T_stampOf_32 : decode bc_T_stampOf 32 = .ok (.iinc 4 (-1), 3) := by decide +kernel
theorem dc_T_stampOf_35 : decode bc_T_stampOf 35 = .ok (.goto (-23), 3) := by decide +kernel
theorem dc_B_level_0 : decode bc_B_level 0 = .ok (.aload_n 0, 1) := by decide +kernel
theorem dc_B_level_1 : decode bc_B_level 1 = .ok (.iload_n 1, 1) := by decide +kernel
theorem dc_B_level_2 : decode bc_B_level 2 = .ok (.invokevirtual 37, 3) := by decide +kernel
theorem dc_B_level_5 : decode bc_B_level 5 = .ok (.ifCond .eq 12, 3) := by decide +kernel
theorem dc_B_level_17 : decode bc_B_level 17 = .ok (.iconst 0, 1) := by decide +kernel
theorem dc_B_level_18 : decode bc_B_level 18 = .ok (.ireturn, 1) := by decide +kernel
theorem dc_B_level_8 : decode bc_B_level 8 = .ok (.aload_n 0, 1) := by decide +kernel
theorem dc_B_level_9 : decode bc_B_level 9 = .ok (.getfield 15, 3) := by decide +kernel
theorem dc_B_level_12 : decode bc_B_level 12 = .ok (.iload_n 1, 1) := by decide +kernel
theorem dc_B_level_13 : decode bc_B_level 13 = .ok (.iaload, 1) := by decide +kernel
theorem dc_B_level_14 : decode bc_B_level 14 = .ok (.goto 4, 3) := by decide +kernel
theorem dc_B_isBlock_0 : decode bc_B_isBlock 0 = .ok (.iload_n 1, 1) := by decide +kernel
theorem dc_B_isBlock_1 : decode bc_B_isBlock 1 = .ok (.ifCond .le 14, 3) := by decide +kernel
theorem dc_B_isBlock_15 : decode bc_B_isBlock 15 = .ok (.iconst 0, 1) := by decide +kernel
theorem dc_B_isBlock_16 : decode bc_B_isBlock 16 = .ok (.ireturn, 1) := by decide +kernel
theorem dc_B_isBlock_4 : decode bc_B_isBlock 4 = .ok (.iload_n 1, 1) := by decide +kernel
theorem dc_B_isBlock_5 : decode bc_B_isBlock 5 = .ok (.sipush 1200, 3) := by decide +kernel
theorem dc_B_isBlock_8 : decode bc_B_isBlock 8 = .ok (.if_icmp .gt 7, 3) := by decide +kernel
theorem dc_B_isBlock_11 : decode bc_B_isBlock 11 = .ok (.iconst 1, 1) := by decide +kernel
theorem dc_B_isBlock_12 : decode bc_B_isBlock 12 = .ok (.goto 4, 3) := by decide +kernel
theorem dc_B_slotOf_0 : decode bc_B_slotOf 0 = .ok (.iconst (-1), 1) := by decide +kernel
theorem dc_B_slotOf_1 : decode bc_B_slotOf 1 = .ok (.istore_n 3, 1) := by decide +kernel
theorem dc_B_slotOf_2 : decode bc_B_slotOf 2 = .ok (.iload_n 1, 1) := by decide +kernel
theorem dc_B_slotOf_3 : decode bc_B_slotOf 3 = .ok (.aload_n 0, 1) := by decide +kernel
theorem dc_B_slotOf_4 : decode bc_B_slotOf 4 = .ok (.getfield 28, 3) := by decide +kernel
theorem dc_B_slotOf_7 : decode bc_B_slotOf 7 = .ok (.imul, 1) := by decide +kernel
theorem dc_B_slotOf_8 : decode bc_B_slotOf 8 = .ok (.istore 4, 2) := by decide +kernel
theorem dc_B_slotOf_10 : decode bc_B_slotOf 10 = .ok (.aload_n 0, 1) := by decide +kernel
theorem dc_B_slotOf_11 : decode bc_B_slotOf 11 = .ok (.iload_n 1, 1) := by decide +kernel
theorem dc_B_slotOf_12 : decode bc_B_slotOf 12 = .ok (.invokevirtual 45, 3) := by decide +kernel
theorem dc_B_slotOf_15 : decode bc_B_slotOf 15 = .ok (.aload_n 0, 1) := by decide +kernel
theorem dc_B_slotOf_16 : decode bc_B_slotOf 16 = .ok (.getfield 28, 3) := by decide +kernel
theorem dc_B_slotOf_19 : decode bc_B_slotOf 19 = .ok (.invokestatic 49, 3) := by decide +kernel
theorem dc_B_slotOf_22 : decode bc_B_slotOf 22 = .ok (.istore 5, 2) := by decide +kernel
theorem dc_B_slotOf_24 : decode bc_B_slotOf 24 = .ok (.iload_n 3, 1) := by decide +kernel
theorem dc_B_slotOf_25 : decode bc_B_slotOf 25 = .ok (.iconst 1, 1) := by decide +kernel
theorem dc_B_slotOf_26 : decode bc_B_slotOf 26 = .ok (.iadd, 1) := by decide +kernel
theorem dc_B_slotOf_27 : decode bc_B_slotOf 27 = .ok (.iload 5, 2) := by decide +kernel
theorem dc_B_slotOf_29 : decode bc_B_slotOf 29 = .ok (.if_icmp .ge 24, 3) := by decide +kernel
theorem dc_B_slotOf_53 : decode bc_B_slotOf 53 = .ok (.iload_n 3, 1) := by decide +kernel
theorem dc_B_slotOf_54 : decode bc_B_slotOf 54 = .ok (.ireturn, 1) := by decide +kernel
theorem dc_B_slotOf_32 : decode bc_B_slotOf 32 = .ok (.aload_n 0, 1) := by decide +kernel
theorem dc_B_slotOf_33 : decode bc_B_slotOf 33 = .ok (.getfield 31, 3) := by decide +kernel
theorem dc_B_slotOf_36 : decode bc_B_slotOf 36 = .ok (.iload 4, 2) := by decide +kernel
theorem dc_B_slotOf_38 : decode bc_B_slotOf 38 = .ok (.iload_n 3, 1) := by decide +kernel
theorem dc_B_slotOf_39 : decode bc_B_slotOf 39 = .ok (.iadd, 1) := by decide +kernel
theorem dc_B_slotOf_40 : decode bc_B_slotOf 40 = .ok (.iconst 1, 1) := by decide +kernel
theorem dc_B_slotOf_41 : decode bc_B_slotOf 41 = .ok (.iadd, 1) := by decide +kernel
theorem dc_B_slotOf_42 : decode bc_B_slotOf 42 = .ok (.iaload, 1) := by decide +kernel
theorem dc_B_slotOf_43 : decode bc_B_slotOf 43 = .ok (.iload_n 2, 1) := by decide +kernel
theorem dc_B_slotOf_44 : decode bc_B_slotOf 44 = .ok (.if_icmp .gt 9, 3) := by decide +kernel
theorem dc_B_slotOf_47 : decode bc_B_slotOf 47 = .ok (.iinc 3 1, 3) := by decide +kernel
theorem dc_B_slotOf_50 : decode bc_B_slotOf 50 = .ok (.goto (-26), 3) := by decide +kernel
theorem dc_B_size_0 : decode bc_B_size 0 = .ok (.aload_n 0, 1) := by decide +kernel
theorem dc_B_size_1 : decode bc_B_size 1 = .ok (.iload_n 1, 1) := by decide +kernel
theorem dc_B_size_2 : decode bc_B_size 2 = .ok (.invokevirtual 37, 3) := by decide +kernel
theorem dc_B_size_5 : decode bc_B_size 5 = .ok (.ifCond .eq 12, 3) := by decide +kernel
theorem dc_B_size_17 : decode bc_B_size 17 = .ok (.iconst 0, 1) := by decide +kernel
theorem dc_B_size_18 : decode bc_B_size 18 = .ok (.ireturn, 1) := by decide +kernel
theorem dc_B_size_8 : decode bc_B_size 8 = .ok (.aload_n 0, 1) := by decide +kernel
theorem dc_B_size_9 : decode bc_B_size 9 = .ok (.getfield 18, 3) := by decide +kernel
theorem dc_B_size_12 : decode bc_B_size 12 = .ok (.iload_n 1, 1) := by decide +kernel
theorem dc_B_size_13 : decode bc_B_size 13 = .ok (.iaload, 1) := by decide +kernel
theorem dc_B_size_14 : decode bc_B_size 14 = .ok (.goto 4, 3) := by decide +kernel
theorem dc_B_key_0 : decode bc_B_key 0 = .ok (.aload_n 0, 1) := by decide +kernel
theorem dc_B_key_1 : decode bc_B_key 1 = .ok (.iload_n 1, 1) := by decide +kernel
theorem dc_B_key_2 : decode bc_B_key 2 = .ok (.iload_n 2, 1) := by decide +kernel
theorem dc_B_key_3 : decode bc_B_key 3 = .ok (.invokevirtual 41, 3) := by decide +kernel
theorem dc_B_key_6 : decode bc_B_key 6 = .ok (.ifCond .eq 19, 3) := by decide +kernel
theorem dc_B_key_25 : decode bc_B_key 25 = .ok (.bipush (-2), 2) := by decide +kernel
theorem dc_B_key_27 : decode bc_B_key 27 = .ok (.ireturn, 1) := by decide +kernel
theorem dc_B_key_9 : decode bc_B_key 9 = .ok (.aload_n 0, 1) := by decide +kernel
theorem dc_B_key_10 : decode bc_B_key 10 = .ok (.getfield 31, 3) := by decide +kernel
theorem dc_B_key_13 : decode bc_B_key 13 = .ok (.iload_n 1, 1) := by decide +kernel
theorem dc_B_key_14 : decode bc_B_key 14 = .ok (.aload_n 0, 1) := by decide +kernel
theorem dc_B_key_15 : decode bc_B_key 15 = .ok (.getfield 28, 3) := by decide +kernel
theorem dc_B_key_18 : decode bc_B_key 18 = .ok (.imul, 1) := by decide +kernel
theorem dc_B_key_19 : decode bc_B_key 19 = .ok (.iload_n 2, 1) := by decide +kernel
theorem dc_B_key_20 : decode bc_B_key 20 = .ok (.iadd, 1) := by decide +kernel
theorem dc_B_key_21 : decode bc_B_key 21 = .ok (.iaload, 1) := by decide +kernel
theorem dc_B_key_22 : decode bc_B_key 22 = .ok (.goto 5, 3) := by decide +kernel
theorem dc_B_isEntry_0 : decode bc_B_isEntry 0 = .ok (.iload_n 1, 1) := by decide +kernel
theorem dc_B_isEntry_1 : decode bc_B_isEntry 1 = .ok (.ifCond .lt 36, 3) := by decide +kernel
theorem dc_B_isEntry_37 : decode bc_B_isEntry 37 = .ok (.iconst 0, 1) := by decide +kernel
theorem dc_B_isEntry_38 : decode bc_B_isEntry 38 = .ok (.ireturn, 1) := by decide +kernel
theorem dc_B_isEntry_4 : decode bc_B_isEntry 4 = .ok (.iload_n 1, 1) := by decide +kernel
theorem dc_B_isEntry_5 : decode bc_B_isEntry 5 = .ok (.sipush 1200, 3) := by decide +kernel
theorem dc_B_isEntry_8 : decode bc_B_isEntry 8 = .ok (.if_icmp .gt 29, 3) := by decide +kernel
theorem dc_B_isEntry_11 : decode bc_B_isEntry 11 = .ok (.iload_n 2, 1) := by decide +kernel
theorem dc_B_isEntry_12 : decode bc_B_isEntry 12 = .ok (.ifCond .lt 25, 3) := by decide +kernel
theorem dc_B_isEntry_15 : decode bc_B_isEntry 15 = .ok (.iload_n 2, 1) := by decide +kernel
theorem dc_B_isEntry_16 : decode bc_B_isEntry 16 = .ok (.aload_n 0, 1) := by decide +kernel
theorem dc_B_isEntry_17 : decode bc_B_isEntry 17 = .ok (.getfield 28, 3) := by decide +kernel
theorem dc_B_isEntry_20 : decode bc_B_isEntry 20 = .ok (.if_icmp .ge 17, 3) := by decide +kernel
theorem dc_B_isEntry_23 : decode bc_B_isEntry 23 = .ok (.iload_n 2, 1) := by decide +kernel
theorem dc_B_isEntry_24 : decode bc_B_isEntry 24 = .ok (.aload_n 0, 1) := by decide +kernel
theorem dc_B_isEntry_25 : decode bc_B_isEntry 25 = .ok (.getfield 18, 3) := by decide +kernel
theorem dc_B_isEntry_28 : decode bc_B_isEntry 28 = .ok (.iload_n 1, 1) := by decide +kernel
theorem dc_B_isEntry_29 : decode bc_B_isEntry 29 = .ok (.iaload, 1) := by decide +kernel
theorem dc_B_isEntry_30 : decode bc_B_isEntry 30 = .ok (.if_icmp .ge 7, 3) := by decide +kernel
theorem dc_B_isEntry_33 : decode bc_B_isEntry 33 = .ok (.iconst 1, 1) := by decide +kernel
theorem dc_B_isEntry_34 : decode bc_B_isEntry 34 = .ok (.goto 4, 3) := by decide +kernel
theorem dc_B_goal_0 : decode bc_B_goal 0 = .ok (.aload_n 0, 1) := by decide +kernel
theorem dc_B_goal_1 : decode bc_B_goal 1 = .ok (.iload_n 1, 1) := by decide +kernel
theorem dc_B_goal_2 : decode bc_B_goal 2 = .ok (.iload_n 2, 1) := by decide +kernel
theorem dc_B_goal_3 : decode bc_B_goal 3 = .ok (.invokevirtual 41, 3) := by decide +kernel
theorem dc_B_goal_6 : decode bc_B_goal 6 = .ok (.ifCond .eq 19, 3) := by decide +kernel
theorem dc_B_goal_25 : decode bc_B_goal 25 = .ok (.iconst 0, 1) := by decide +kernel
theorem dc_B_goal_26 : decode bc_B_goal 26 = .ok (.ireturn, 1) := by decide +kernel
theorem dc_B_goal_9 : decode bc_B_goal 9 = .ok (.aload_n 0, 1) := by decide +kernel
theorem dc_B_goal_10 : decode bc_B_goal 10 = .ok (.getfield 34, 3) := by decide +kernel
theorem dc_B_goal_13 : decode bc_B_goal 13 = .ok (.iload_n 1, 1) := by decide +kernel
theorem dc_B_goal_14 : decode bc_B_goal 14 = .ok (.aload_n 0, 1) := by decide +kernel
theorem dc_B_goal_15 : decode bc_B_goal 15 = .ok (.getfield 28, 3) := by decide +kernel
theorem dc_B_goal_18 : decode bc_B_goal 18 = .ok (.imul, 1) := by decide +kernel
theorem dc_B_goal_19 : decode bc_B_goal 19 = .ok (.iload_n 2, 1) := by decide +kernel
theorem dc_B_goal_20 : decode bc_B_goal 20 = .ok (.iadd, 1) := by decide +kernel
theorem dc_B_goal_21 : decode bc_B_goal 21 = .ok (.iaload, 1) := by decide +kernel
theorem dc_B_goal_22 : decode bc_B_goal 22 = .ok (.goto 4, 3) := by decide +kernel
theorem dc_T_slotToward_0 : decode bc_T_slotToward 0 = .ok (.iconst 0, 1) := by decide +kernel
theorem dc_T_slotToward_1 : decode bc_T_slotToward 1 = .ok (.aload_n 0, 1) := by decide +kernel
theorem dc_T_slotToward_2 : decode bc_T_slotToward 2 = .ok (.getfield 9, 3) := by decide +kernel
theorem dc_T_slotToward_5 : decode bc_T_slotToward 5 = .ok (.iload_n 1, 1) := by decide +kernel
theorem dc_T_slotToward_6 : decode bc_T_slotToward 6 = .ok (.iload_n 2, 1) := by decide +kernel
theorem dc_T_slotToward_7 : decode bc_T_slotToward 7 = .ok (.invokevirtual 38, 3) := by decide +kernel
theorem dc_T_slotToward_10 : decode bc_T_slotToward 10 = .ok (.invokestatic 51, 3) := by decide +kernel
theorem dc_T_slotToward_13 : decode bc_T_slotToward 13 = .ok (.ireturn, 1) := by decide +kernel
theorem dc_T_with_0 : decode bc_T_with 0 = .ok (.iload_n 1, 1) := by decide +kernel
theorem dc_T_with_1 : decode bc_T_with 1 = .ok (.ifCond .ne 14, 3) := by decide +kernel
theorem dc_T_with_15 : decode bc_T_with 15 = .ok (.aload_n 0, 1) := by decide +kernel
theorem dc_T_with_16 : decode bc_T_with 16 = .ok (.getfield 9, 3) := by decide +kernel
theorem dc_T_with_19 : decode bc_T_with 19 = .ok (.iload_n 1, 1) := by decide +kernel
theorem dc_T_with_20 : decode bc_T_with 20 = .ok (.invokevirtual 59, 3) := by decide +kernel
theorem dc_T_with_23 : decode bc_T_with 23 = .ok (.istore 4, 2) := by decide +kernel
theorem dc_T_with_25 : decode bc_T_with 25 = .ok (.aload_n 0, 1) := by decide +kernel
theorem dc_T_with_26 : decode bc_T_with 26 = .ok (.iload 4, 2) := by decide +kernel
theorem dc_T_with_28 : decode bc_T_with 28 = .ok (.aload_n 0, 1) := by decide +kernel
theorem dc_T_with_29 : decode bc_T_with 29 = .ok (.getfield 9, 3) := by decide +kernel
theorem dc_T_with_32 : decode bc_T_with 32 = .ok (.iload 4, 2) := by decide +kernel
theorem dc_T_with_34 : decode bc_T_with 34 = .ok (.invokevirtual 26, 3) := by decide +kernel
theorem dc_T_with_37 : decode bc_T_with 37 = .ok (.iload_n 2, 1) := by decide +kernel
theorem dc_T_with_38 : decode bc_T_with 38 = .ok (.iload_n 3, 1) := by decide +kernel
theorem dc_T_with_39 : decode bc_T_with 39 = .ok (.invokevirtual 62, 3) := by decide +kernel
theorem dc_T_with_42 : decode bc_T_with 42 = .ok (.aload_n 0, 1) := by decide +kernel
theorem dc_T_with_43 : decode bc_T_with 43 = .ok (.getfield 9, 3) := by decide +kernel
theorem dc_T_with_46 : decode bc_T_with 46 = .ok (.iload 4, 2) := by decide +kernel
theorem dc_T_with_48 : decode bc_T_with 48 = .ok (.invokevirtual 48, 3) := by decide +kernel
theorem dc_T_with_51 : decode bc_T_with 51 = .ok (.aload_n 0, 1) := by decide +kernel
theorem dc_T_with_52 : decode bc_T_with 52 = .ok (.getfield 15, 3) := by decide +kernel
theorem dc_T_with_55 : decode bc_T_with 55 = .ok (.if_icmp .le 12, 3) := by decide +kernel
theorem dc_T_with_67 : decode bc_T_with 67 = .ok (.iload 4, 2) := by decide +kernel
theorem dc_T_with_69 : decode bc_T_with 69 = .ok (.ireturn, 1) := by decide +kernel
theorem dc_T_with_58 : decode bc_T_with 58 = .ok (.aload_n 0, 1) := by decide +kernel
theorem dc_T_with_59 : decode bc_T_with 59 = .ok (.iload 4, 2) := by decide +kernel
theorem dc_T_with_61 : decode bc_T_with 61 = .ok (.invokevirtual 66, 3) := by decide +kernel
theorem dc_T_with_64 : decode bc_T_with 64 = .ok (.goto 5, 3) := by decide +kernel
theorem dc_T_with_4 : decode bc_T_with 4 = .ok (.aload_n 0, 1) := by decide +kernel
theorem dc_T_with_5 : decode bc_T_with 5 = .ok (.getfield 9, 3) := by decide +kernel
theorem dc_T_with_8 : decode bc_T_with 8 = .ok (.iconst 0, 1) := by decide +kernel
theorem dc_T_with_9 : decode bc_T_with 9 = .ok (.invokevirtual 56, 3) := by decide +kernel
theorem dc_T_with_12 : decode bc_T_with 12 = .ok (.goto 11, 3) := by decide +kernel
theorem dc_B_owned_0 : decode bc_B_owned 0 = .ok (.aload_n 0, 1) := by decide +kernel
theorem dc_B_owned_1 : decode bc_B_owned 1 = .ok (.iload_n 1, 1) := by decide +kernel
theorem dc_B_owned_2 : decode bc_B_owned 2 = .ok (.invokevirtual 55, 3) := by decide +kernel
theorem dc_B_owned_5 : decode bc_B_owned 5 = .ok (.iconst 1, 1) := by decide +kernel
theorem dc_B_owned_6 : decode bc_B_owned 6 = .ok (.if_icmp .gt 5, 3) := by decide +kernel
theorem dc_B_owned_11 : decode bc_B_owned 11 = .ok (.aload_n 0, 1) := by decide +kernel
theorem dc_B_owned_12 : decode bc_B_owned 12 = .ok (.aload_n 0, 1) := by decide +kernel
theorem dc_B_owned_13 : decode bc_B_owned 13 = .ok (.iload_n 1, 1) := by decide +kernel
theorem dc_B_owned_14 : decode bc_B_owned 14 = .ok (.invokevirtual 57, 3) := by decide +kernel
theorem dc_B_owned_17 : decode bc_B_owned 17 = .ok (.invokevirtual 60, 3) := by decide +kernel
theorem dc_B_owned_20 : decode bc_B_owned 20 = .ok (.istore_n 2, 1) := by decide +kernel
theorem dc_B_owned_21 : decode bc_B_owned 21 = .ok (.aload_n 0, 1) := by decide +kernel
theorem dc_B_owned_22 : decode bc_B_owned 22 = .ok (.iload_n 1, 1) := by decide +kernel
theorem dc_B_owned_23 : decode bc_B_owned 23 = .ok (.iload_n 2, 1) := by decide +kernel
theorem dc_B_owned_24 : decode bc_B_owned 24 = .ok (.invokevirtual 63, 3) := by decide +kernel
theorem dc_B_owned_27 : decode bc_B_owned 27 = .ok (.aload_n 0, 1) := by decide +kernel
theorem dc_B_owned_28 : decode bc_B_owned 28 = .ok (.iload_n 1, 1) := by decide +kernel
theorem dc_B_owned_29 : decode bc_B_owned 29 = .ok (.invokevirtual 57, 3) := by decide +kernel
theorem dc_B_owned_32 : decode bc_B_owned 32 = .ok (.ifCond .le 30, 3) := by decide +kernel
theorem dc_B_owned_62 : decode bc_B_owned 62 = .ok (.aload_n 0, 1) := by decide +kernel
theorem dc_B_owned_63 : decode bc_B_owned 63 = .ok (.iload_n 1, 1) := by decide +kernel
theorem dc_B_owned_64 : decode bc_B_owned 64 = .ok (.invokevirtual 74, 3) := by decide +kernel
theorem dc_B_owned_67 : decode bc_B_owned 67 = .ok (.pop, 1) := by decide +kernel
theorem dc_B_owned_68 : decode bc_B_owned 68 = .ok (.iload_n 2, 1) := by decide +kernel
theorem dc_B_owned_69 : decode bc_B_owned 69 = .ok (.ireturn, 1) := by decide +kernel
theorem dc_B_owned_35 : decode bc_B_owned 35 = .ok (.iconst 0, 1) := by decide +kernel
theorem dc_B_owned_36 : decode bc_B_owned 36 = .ok (.istore_n 3, 1) := by decide +kernel
theorem dc_B_owned_37 : decode bc_B_owned 37 = .ok (.iload_n 3, 1) := by decide +kernel
theorem dc_B_owned_38 : decode bc_B_owned 38 = .ok (.aload_n 0, 1) := by decide +kernel
theorem dc_B_owned_39 : decode bc_B_owned 39 = .ok (.iload_n 1, 1) := by decide +kernel
theorem dc_B_owned_40 : decode bc_B_owned 40 = .ok (.invokevirtual 45, 3) := by decide +kernel
theorem dc_B_owned_43 : decode bc_B_owned 43 = .ok (.if_icmp .ge 19, 3) := by decide +kernel
theorem dc_B_owned_46 : decode bc_B_owned 46 = .ok (.aload_n 0, 1) := by decide +kernel
theorem dc_B_owned_47 : decode bc_B_owned 47 = .ok (.aload_n 0, 1) := by decide +kernel
theorem dc_B_owned_48 : decode bc_B_owned 48 = .ok (.iload_n 1, 1) := by decide +kernel
theorem dc_B_owned_49 : decode bc_B_owned 49 = .ok (.iload_n 3, 1) := by decide +kernel
theorem dc_B_owned_50 : decode bc_B_owned 50 = .ok (.invokevirtual 67, 3) := by decide +kernel
theorem dc_B_owned_53 : decode bc_B_owned 53 = .ok (.invokevirtual 70, 3) := by decide +kernel
theorem dc_B_owned_56 : decode bc_B_owned 56 = .ok (.iinc 3 1, 3) := by decide +kernel
theorem dc_B_owned_59 : decode bc_B_owned 59 = .ok (.goto (-22), 3) := by decide +kernel
theorem dc_B_owned_9 : decode bc_B_owned 9 = .ok (.iload_n 1, 1) := by decide +kernel
theorem dc_B_owned_10 : decode bc_B_owned 10 = .ok (.ireturn, 1) := by decide +kernel
theorem dc_B_ways_0 : decode bc_B_ways 0 = .ok (.aload_n 0, 1) := by decide +kernel
theorem dc_B_ways_1 : decode bc_B_ways 1 = .ok (.iload_n 1, 1) := by decide +kernel
theorem dc_B_ways_2 : decode bc_B_ways 2 = .ok (.invokevirtual 37, 3) := by decide +kernel
theorem dc_B_ways_5 : decode bc_B_ways 5 = .ok (.ifCond .eq 12, 3) := by decide +kernel
theorem dc_B_ways_17 : decode bc_B_ways 17 = .ok (.iconst 0, 1) := by decide +kernel
theorem dc_B_ways_18 : decode bc_B_ways 18 = .ok (.ireturn, 1) := by decide +kernel
theorem dc_B_ways_8 : decode bc_B_ways 8 = .ok (.aload_n 0, 1) := by decide +kernel
theorem dc_B_ways_9 : decode bc_B_ways 9 = .ok (.getfield 9, 3) := by decide +kernel
theorem dc_B_ways_12 : decode bc_B_ways 12 = .ok (.iload_n 1, 1) := by decide +kernel
theorem dc_B_ways_13 : decode bc_B_ways 13 = .ok (.iaload, 1) := by decide +kernel
theorem dc_B_ways_14 : decode bc_B_ways 14 = .ok (.goto 4, 3) := by decide +kernel
theorem dc_B_take_0 : decode bc_B_take 0 = .ok (.aload_n 0, 1) := by decide +kernel
theorem dc_B_take_1 : decode bc_B_take 1 = .ok (.getfield 24, 3) := by decide +kernel
theorem dc_B_take_4 : decode bc_B_take 4 = .ok (.ifCond .le 13, 3) := by decide +kernel
theorem dc_B_take_17 : decode bc_B_take 17 = .ok (.iconst 0, 1) := by decide +kernel
theorem dc_B_take_18 : decode bc_B_take 18 = .ok (.ireturn, 1) := by decide +kernel
theorem dc_B_take_7 : decode bc_B_take 7 = .ok (.aload_n 0, 1) := by decide +kernel
theorem dc_B_take_8 : decode bc_B_take 8 = .ok (.getfield 24, 3) := by decide +kernel
theorem dc_B_take_11 : decode bc_B_take 11 = .ok (.sipush 1200, 3) := by decide +kernel
theorem dc_B_take_14 : decode bc_B_take 14 = .ok (.if_icmp .le 5, 3) := by decide +kernel
theorem dc_B_take_19 : decode bc_B_take 19 = .ok (.aload_n 0, 1) := by decide +kernel
theorem dc_B_take_20 : decode bc_B_take 20 = .ok (.dup, 1) := by decide +kernel
theorem dc_B_take_21 : decode bc_B_take 21 = .ok (.getfield 24, 3) := by decide +kernel
theorem dc_B_take_24 : decode bc_B_take 24 = .ok (.iconst 1, 1) := by decide +kernel
theorem dc_B_take_25 : decode bc_B_take 25 = .ok (.isub, 1) := by decide +kernel
theorem dc_B_take_26 : decode bc_B_take 26 = .ok (.putfield 24, 3) := by decide +kernel
theorem dc_B_take_29 : decode bc_B_take 29 = .ok (.aload_n 0, 1) := by decide +kernel
theorem dc_B_take_30 : decode bc_B_take 30 = .ok (.getfield 21, 3) := by decide +kernel
theorem dc_B_take_33 : decode bc_B_take 33 = .ok (.aload_n 0, 1) := by decide +kernel
theorem dc_B_take_34 : decode bc_B_take 34 = .ok (.getfield 24, 3) := by decide +kernel
theorem dc_B_take_37 : decode bc_B_take 37 = .ok (.iaload, 1) := by decide +kernel
theorem dc_B_take_38 : decode bc_B_take 38 = .ok (.istore_n 2, 1) := by decide +kernel
theorem dc_B_take_39 : decode bc_B_take 39 = .ok (.aload_n 0, 1) := by decide +kernel
theorem dc_B_take_40 : decode bc_B_take 40 = .ok (.iload_n 2, 1) := by decide +kernel
theorem dc_B_take_41 : decode bc_B_take 41 = .ok (.invokevirtual 37, 3) := by decide +kernel
theorem dc_B_take_44 : decode bc_B_take 44 = .ok (.ifCond .eq 24, 3) := by decide +kernel
theorem dc_B_take_68 : decode bc_B_take 68 = .ok (.iload_n 2, 1) := by decide +kernel
theorem dc_B_take_69 : decode bc_B_take 69 = .ok (.ireturn, 1) := by decide +kernel
theorem dc_B_take_47 : decode bc_B_take 47 = .ok (.aload_n 0, 1) := by decide +kernel
theorem dc_B_take_48 : decode bc_B_take 48 = .ok (.getfield 9, 3) := by decide +kernel
theorem dc_B_take_51 : decode bc_B_take 51 = .ok (.iload_n 2, 1) := by decide +kernel
theorem dc_B_take_52 : decode bc_B_take 52 = .ok (.iconst 1, 1) := by decide +kernel
theorem dc_B_take_53 : decode bc_B_take 53 = .ok (.iastore, 1) := by decide +kernel
theorem dc_B_take_54 : decode bc_B_take 54 = .ok (.aload_n 0, 1) := by decide +kernel
theorem dc_B_take_55 : decode bc_B_take 55 = .ok (.getfield 15, 3) := by decide +kernel
theorem dc_B_take_58 : decode bc_B_take 58 = .ok (.iload_n 2, 1) := by decide +kernel
theorem dc_B_take_59 : decode bc_B_take 59 = .ok (.iload_n 1, 1) := by decide +kernel
theorem dc_B_take_60 : decode bc_B_take 60 = .ok (.iastore, 1) := by decide +kernel
theorem dc_B_take_61 : decode bc_B_take 61 = .ok (.aload_n 0, 1) := by decide +kernel
theorem dc_B_take_62 : decode bc_B_take 62 = .ok (.getfield 18, 3) := by decide +kernel
theorem dc_B_take_65 : decode bc_B_take 65 = .ok (.iload_n 2, 1) := by decide +kernel
theorem dc_B_take_66 : decode bc_B_take 66 = .ok (.iconst 0, 1) := by decide +kernel
theorem dc_B_take_67 : decode bc_B_take 67 = .ok (.iastore, 1) := by decide +kernel
theorem dc_B_copyEntries_0 : decode bc_B_copyEntries 0 = .ok (.aload_n 0, 1) := by decide +kernel
theorem dc_B_copyEntries_1 : decode bc_B_copyEntries 1 = .ok (.iload_n 1, 1) := by decide +kernel
theorem dc_B_copyEntries_2 : decode bc_B_copyEntries 2 = .ok (.invokevirtual 37, 3) := by decide +kernel
theorem dc_B_copyEntries_5 : decode bc_B_copyEntries 5 = .ok (.ifCond .eq 77, 3) := by decide +kernel
theorem dc_B_copyEntries_82 : decode bc_B_copyEntries 82 = .ok (.return_, 1) := by decide +kernel
theorem dc_B_copyEntries_8 : decode bc_B_copyEntries 8 = .ok (.aload_n 0, 1) := by decide +kernel
theorem dc_B_copyEntries_9 : decode bc_B_copyEntries 9 = .ok (.iload_n 2, 1) := by decide +kernel
theorem dc_B_copyEntries_10 : decode bc_B_copyEntries 10 = .ok (.invokevirtual 37, 3) := by decide +kernel
theorem dc_B_copyEntries_13 : decode bc_B_copyEntries 13 = .ok (.ifCond .eq 69, 3) := by decide +kernel
theorem dc_B_copyEntries_16 : decode bc_B_copyEntries 16 = .ok (.aload_n 0, 1) := by decide +kernel
theorem dc_B_copyEntries_17 : decode bc_B_copyEntries 17 = .ok (.getfield 31, 3) := by decide +kernel
theorem dc_B_copyEntries_20 : decode bc_B_copyEntries 20 = .ok (.iload_n 1, 1) := by decide +kernel
theorem dc_B_copyEntries_21 : decode bc_B_copyEntries 21 = .ok (.aload_n 0, 1) := by decide +kernel
end
section
theorem dc_B_copyEntries_22 : decode bc_B_copyEntries 22 = .ok (.getfield 28, 3) := by decide +kernel
theorem dc_B_copyEntries_25 : decode bc_B_copyEntries 25 = .ok (.imul, 1) := by decide +kernel
theorem dc_B_copyEntries_26 : decode bc_B_copyEntries 26 = .ok (.aload_n 0, 1) := by decide +kernel
theorem dc_B_copyEntries_27 : decode bc_B_copyEntries 27 = .ok (.getfield 31, 3) := by decide +kernel
theorem dc_B_copyEntries_30 : decode bc_B_copyEntries 30 = .ok (.iload_n 2, 1) := by decide +kernel
theorem dc_B_copyEntries_31 : decode bc_B_copyEntries 31 = .ok (.aload_n 0, 1) := by decide +kernel
theorem dc_B_copyEntries_32 : decode bc_B_copyEntries 32 = .ok (.getfield 28, 3) := by decide +kernel
theorem dc_B_copyEntries_35 : decode bc_B_copyEntries 35 = .ok (.imul, 1) := by decide +kernel
theorem dc_B_copyEntries_36 : decode bc_B_copyEntries 36 = .ok (.aload_n 0, 1) := by decide +kernel
theorem dc_B_copyEntries_37 : decode bc_B_copyEntries 37 = .ok (.getfield 28, 3) := by decide +kernel
theorem dc_B_copyEntries_40 : decode bc_B_copyEntries 40 = .ok (.invokestatic 77, 3) := by decide +kernel
theorem dc_B_copyEntries_43 : decode bc_B_copyEntries 43 = .ok (.aload_n 0, 1) := by decide +kernel
theorem dc_B_copyEntries_44 : decode bc_B_copyEntries 44 = .ok (.getfield 34, 3) := by decide +kernel
theorem dc_B_copyEntries_47 : decode bc_B_copyEntries 47 = .ok (.iload_n 1, 1) := by decide +kernel
theorem dc_B_copyEntries_48 : decode bc_B_copyEntries 48 = .ok (.aload_n 0, 1) := by decide +kernel
theorem dc_B_copyEntries_49 : decode bc_B_copyEntries 49 = .ok (.getfield 28, 3) := by decide +kernel
theorem dc_B_copyEntries_52 : decode bc_B_copyEntries 52 = .ok (.imul, 1) := by decide +kernel
theorem dc_B_copyEntries_53 : decode bc_B_copyEntries 53 = .ok (.aload_n 0, 1) := by decide +kernel
theorem dc_B_copyEntries_54 : decode bc_B_copyEntries 54 = .ok (.getfield 34, 3) := by decide +kernel
theorem dc_B_copyEntries_57 : decode bc_B_copyEntries 57 = .ok (.iload_n 2, 1) := by decide +kernel
theorem dc_B_copyEntries_58 : decode bc_B_copyEntries 58 = .ok (.aload_n 0, 1) := by decide +kernel
theorem dc_B_copyEntries_59 : decode bc_B_copyEntries 59 = .ok (.getfield 28, 3) := by decide +kernel
theorem dc_B_copyEntries_62 : decode bc_B_copyEntries 62 = .ok (.imul, 1) := by decide +kernel
theorem dc_B_copyEntries_63 : decode bc_B_copyEntries 63 = .ok (.aload_n 0, 1) := by decide +kernel
theorem dc_B_copyEntries_64 : decode bc_B_copyEntries 64 = .ok (.getfield 28, 3) := by decide +kernel
theorem dc_B_copyEntries_67 : decode bc_B_copyEntries 67 = .ok (.invokestatic 77, 3) := by decide +kernel
theorem dc_B_copyEntries_70 : decode bc_B_copyEntries 70 = .ok (.aload_n 0, 1) := by decide +kernel
theorem dc_B_copyEntries_71 : decode bc_B_copyEntries 71 = .ok (.getfield 18, 3) := by decide +kernel
theorem dc_B_copyEntries_74 : decode bc_B_copyEntries 74 = .ok (.iload_n 2, 1) := by decide +kernel
theorem dc_B_copyEntries_75 : decode bc_B_copyEntries 75 = .ok (.aload_n 0, 1) := by decide +kernel
theorem dc_B_copyEntries_76 : decode bc_B_copyEntries 76 = .ok (.getfield 18, 3) := by decide +kernel
theorem dc_B_copyEntries_79 : decode bc_B_copyEntries 79 = .ok (.iload_n 1, 1) := by decide +kernel
theorem dc_B_copyEntries_80 : decode bc_B_copyEntries 80 = .ok (.iaload, 1) := by decide +kernel
theorem dc_B_copyEntries_81 : decode bc_B_copyEntries 81 = .ok (.iastore, 1) := by decide +kernel
theorem dc_B_lose_0 : decode bc_B_lose 0 = .ok (.aload_n 0, 1) := by decide +kernel
theorem dc_B_lose_1 : decode bc_B_lose 1 = .ok (.iload_n 1, 1) := by decide +kernel
theorem dc_B_lose_2 : decode bc_B_lose 2 = .ok (.invokevirtual 37, 3) := by decide +kernel
theorem dc_B_lose_5 : decode bc_B_lose 5 = .ok (.ifCond .eq 12, 3) := by decide +kernel
theorem dc_B_lose_17 : decode bc_B_lose 17 = .ok (.iconst 0, 1) := by decide +kernel
theorem dc_B_lose_18 : decode bc_B_lose 18 = .ok (.ireturn, 1) := by decide +kernel
theorem dc_B_lose_8 : decode bc_B_lose 8 = .ok (.aload_n 0, 1) := by decide +kernel
theorem dc_B_lose_9 : decode bc_B_lose 9 = .ok (.getfield 9, 3) := by decide +kernel
theorem dc_B_lose_12 : decode bc_B_lose 12 = .ok (.iload_n 1, 1) := by decide +kernel
theorem dc_B_lose_13 : decode bc_B_lose 13 = .ok (.iaload, 1) := by decide +kernel
theorem dc_B_lose_14 : decode bc_B_lose 14 = .ok (.ifCond .gt 5, 3) := by decide +kernel
theorem dc_B_lose_19 : decode bc_B_lose 19 = .ok (.aload_n 0, 1) := by decide +kernel
theorem dc_B_lose_20 : decode bc_B_lose 20 = .ok (.getfield 9, 3) := by decide +kernel
theorem dc_B_lose_23 : decode bc_B_lose 23 = .ok (.iload_n 1, 1) := by decide +kernel
theorem dc_B_lose_24 : decode bc_B_lose 24 = .ok (.dup2, 1) := by decide +kernel
theorem dc_B_lose_25 : decode bc_B_lose 25 = .ok (.iaload, 1) := by decide +kernel
theorem dc_B_lose_26 : decode bc_B_lose 26 = .ok (.iconst 1, 1) := by decide +kernel
theorem dc_B_lose_27 : decode bc_B_lose 27 = .ok (.isub, 1) := by decide +kernel
theorem dc_B_lose_28 : decode bc_B_lose 28 = .ok (.iastore, 1) := by decide +kernel
theorem dc_B_lose_29 : decode bc_B_lose 29 = .ok (.aload_n 0, 1) := by decide +kernel
theorem dc_B_lose_30 : decode bc_B_lose 30 = .ok (.getfield 9, 3) := by decide +kernel
theorem dc_B_lose_33 : decode bc_B_lose 33 = .ok (.iload_n 1, 1) := by decide +kernel
theorem dc_B_lose_34 : decode bc_B_lose 34 = .ok (.iaload, 1) := by decide +kernel
theorem dc_B_lose_35 : decode bc_B_lose 35 = .ok (.ifCond .ne 7, 3) := by decide +kernel
theorem dc_B_lose_42 : decode bc_B_lose 42 = .ok (.iconst 0, 1) := by decide +kernel
theorem dc_B_lose_43 : decode bc_B_lose 43 = .ok (.ireturn, 1) := by decide +kernel
theorem dc_B_lose_38 : decode bc_B_lose 38 = .ok (.iconst 1, 1) := by decide +kernel
theorem dc_B_lose_39 : decode bc_B_lose 39 = .ok (.goto 4, 3) := by decide +kernel
theorem dc_B_share_0 : decode bc_B_share 0 = .ok (.aload_n 0, 1) := by decide +kernel
theorem dc_B_share_1 : decode bc_B_share 1 = .ok (.iload_n 1, 1) := by decide +kernel
theorem dc_B_share_2 : decode bc_B_share 2 = .ok (.invokevirtual 37, 3) := by decide +kernel
theorem dc_B_share_5 : decode bc_B_share 5 = .ok (.ifCond .eq 13, 3) := by decide +kernel
theorem dc_B_share_18 : decode bc_B_share 18 = .ok (.return_, 1) := by decide +kernel
theorem dc_B_share_8 : decode bc_B_share 8 = .ok (.aload_n 0, 1) := by decide +kernel
theorem dc_B_share_9 : decode bc_B_share 9 = .ok (.getfield 9, 3) := by decide +kernel
theorem dc_B_share_12 : decode bc_B_share 12 = .ok (.iload_n 1, 1) := by decide +kernel
theorem dc_B_share_13 : decode bc_B_share 13 = .ok (.dup2, 1) := by decide +kernel
theorem dc_B_share_14 : decode bc_B_share 14 = .ok (.iaload, 1) := by decide +kernel
theorem dc_B_share_15 : decode bc_B_share 15 = .ok (.iconst 1, 1) := by decide +kernel
theorem dc_B_share_16 : decode bc_B_share 16 = .ok (.iadd, 1) := by decide +kernel
theorem dc_B_share_17 : decode bc_B_share 17 = .ok (.iastore, 1) := by decide +kernel
theorem dc_T_putBelow_0 : decode bc_T_putBelow 0 = .ok (.iload_n 2, 1) := by decide +kernel
theorem dc_T_putBelow_1 : decode bc_T_putBelow 1 = .ok (.bipush 16, 2) := by decide +kernel
theorem dc_T_putBelow_3 : decode bc_T_putBelow 3 = .ok (.if_icmp .le 4, 3) := by decide +kernel
theorem dc_T_putBelow_7 : decode bc_T_putBelow 7 = .ok (.iload_n 2, 1) := by decide +kernel
theorem dc_T_putBelow_8 : decode bc_T_putBelow 8 = .ok (.ifCond .gt 12, 3) := by decide +kernel
theorem dc_T_putBelow_20 : decode bc_T_putBelow 20 = .ok (.aload_n 0, 1) := by decide +kernel
theorem dc_T_putBelow_21 : decode bc_T_putBelow 21 = .ok (.iload_n 1, 1) := by decide +kernel
theorem dc_T_putBelow_22 : decode bc_T_putBelow 22 = .ok (.iload_n 3, 1) := by decide +kernel
theorem dc_T_putBelow_23 : decode bc_T_putBelow 23 = .ok (.invokevirtual 31, 3) := by decide +kernel
theorem dc_T_putBelow_26 : decode bc_T_putBelow 26 = .ok (.istore 5, 2) := by decide +kernel
theorem dc_T_putBelow_28 : decode bc_T_putBelow 28 = .ok (.aload_n 0, 1) := by decide +kernel
theorem dc_T_putBelow_29 : decode bc_T_putBelow 29 = .ok (.iload_n 1, 1) := by decide +kernel
theorem dc_T_putBelow_30 : decode bc_T_putBelow 30 = .ok (.iload 5, 2) := by decide +kernel
theorem dc_T_putBelow_32 : decode bc_T_putBelow 32 = .ok (.invokevirtual 73, 3) := by decide +kernel
theorem dc_T_putBelow_35 : decode bc_T_putBelow 35 = .ok (.istore 6, 2) := by decide +kernel
theorem dc_T_putBelow_37 : decode bc_T_putBelow 37 = .ok (.aload_n 0, 1) := by decide +kernel
theorem dc_T_putBelow_38 : decode bc_T_putBelow 38 = .ok (.iload 6, 2) := by decide +kernel
theorem dc_T_putBelow_40 : decode bc_T_putBelow 40 = .ok (.iload_n 2, 1) := by decide +kernel
theorem dc_T_putBelow_41 : decode bc_T_putBelow 41 = .ok (.iconst 1, 1) := by decide +kernel
theorem dc_T_putBelow_42 : decode bc_T_putBelow 42 = .ok (.isub, 1) := by decide +kernel
theorem dc_T_putBelow_43 : decode bc_T_putBelow 43 = .ok (.iload_n 3, 1) := by decide +kernel
theorem dc_T_putBelow_44 : decode bc_T_putBelow 44 = .ok (.iload 4, 2) := by decide +kernel
theorem dc_T_putBelow_46 : decode bc_T_putBelow 46 = .ok (.invokevirtual 62, 3) := by decide +kernel
theorem dc_T_putBelow_49 : decode bc_T_putBelow 49 = .ok (.aload_n 0, 1) := by decide +kernel
theorem dc_T_putBelow_50 : decode bc_T_putBelow 50 = .ok (.getfield 9, 3) := by decide +kernel
theorem dc_T_putBelow_53 : decode bc_T_putBelow 53 = .ok (.iload_n 1, 1) := by decide +kernel
theorem dc_T_putBelow_54 : decode bc_T_putBelow 54 = .ok (.iload 5, 2) := by decide +kernel
theorem dc_T_putBelow_56 : decode bc_T_putBelow 56 = .ok (.aload_n 0, 1) := by decide +kernel
theorem dc_T_putBelow_57 : decode bc_T_putBelow 57 = .ok (.getfield 9, 3) := by decide +kernel
theorem dc_T_putBelow_60 : decode bc_T_putBelow 60 = .ok (.iload 6, 2) := by decide +kernel
theorem dc_T_putBelow_62 : decode bc_T_putBelow 62 = .ok (.iconst 0, 1) := by decide +kernel
theorem dc_T_putBelow_63 : decode bc_T_putBelow 63 = .ok (.invokevirtual 41, 3) := by decide +kernel
theorem dc_T_putBelow_66 : decode bc_T_putBelow 66 = .ok (.invokevirtual 76, 3) := by decide +kernel
theorem dc_T_putBelow_69 : decode bc_T_putBelow 69 = .ok (.aload_n 0, 1) := by decide +kernel
theorem dc_T_putBelow_70 : decode bc_T_putBelow 70 = .ok (.getfield 9, 3) := by decide +kernel
theorem dc_T_putBelow_73 : decode bc_T_putBelow 73 = .ok (.iload 6, 2) := by decide +kernel
theorem dc_T_putBelow_75 : decode bc_T_putBelow 75 = .ok (.invokevirtual 48, 3) := by decide +kernel
theorem dc_T_putBelow_78 : decode bc_T_putBelow 78 = .ok (.aload_n 0, 1) := by decide +kernel
theorem dc_T_putBelow_79 : decode bc_T_putBelow 79 = .ok (.getfield 15, 3) := by decide +kernel
theorem dc_T_putBelow_82 : decode bc_T_putBelow 82 = .ok (.if_icmp .le 10, 3) := by decide +kernel
theorem dc_T_putBelow_92 : decode bc_T_putBelow 92 = .ok (.return_, 1) := by decide +kernel
theorem dc_T_putBelow_85 : decode bc_T_putBelow 85 = .ok (.aload_n 0, 1) := by decide +kernel
theorem dc_T_putBelow_86 : decode bc_T_putBelow 86 = .ok (.iload_n 1, 1) := by decide +kernel
theorem dc_T_putBelow_87 : decode bc_T_putBelow 87 = .ok (.iload 5, 2) := by decide +kernel
theorem dc_T_putBelow_89 : decode bc_T_putBelow 89 = .ok (.invokevirtual 79, 3) := by decide +kernel
theorem dc_T_putBelow_11 : decode bc_T_putBelow 11 = .ok (.aload_n 0, 1) := by decide +kernel
theorem dc_T_putBelow_12 : decode bc_T_putBelow 12 = .ok (.iload_n 1, 1) := by decide +kernel
theorem dc_T_putBelow_13 : decode bc_T_putBelow 13 = .ok (.iload_n 3, 1) := by decide +kernel
theorem dc_T_putBelow_14 : decode bc_T_putBelow 14 = .ok (.iload 4, 2) := by decide +kernel
theorem dc_T_putBelow_16 : decode bc_T_putBelow 16 = .ok (.invokevirtual 69, 3) := by decide +kernel
theorem dc_T_putBelow_19 : decode bc_T_putBelow 19 = .ok (.return_, 1) := by decide +kernel
theorem dc_T_putBelow_6 : decode bc_T_putBelow 6 = .ok (.return_, 1) := by decide +kernel
theorem dc_T_ownedChild_0 : decode bc_T_ownedChild 0 = .ok (.aload_n 0, 1) := by decide +kernel
theorem dc_T_ownedChild_1 : decode bc_T_ownedChild 1 = .ok (.getfield 9, 3) := by decide +kernel
theorem dc_T_ownedChild_4 : decode bc_T_ownedChild 4 = .ok (.aload_n 0, 1) := by decide +kernel
theorem dc_T_ownedChild_5 : decode bc_T_ownedChild 5 = .ok (.getfield 9, 3) := by decide +kernel
theorem dc_T_ownedChild_8 : decode bc_T_ownedChild 8 = .ok (.iload_n 1, 1) := by decide +kernel
theorem dc_T_ownedChild_9 : decode bc_T_ownedChild 9 = .ok (.iload_n 2, 1) := by decide +kernel
theorem dc_T_ownedChild_10 : decode bc_T_ownedChild 10 = .ok (.invokevirtual 35, 3) := by decide +kernel
theorem dc_T_ownedChild_13 : decode bc_T_ownedChild 13 = .ok (.invokevirtual 59, 3) := by decide +kernel
theorem dc_T_ownedChild_16 : decode bc_T_ownedChild 16 = .ok (.istore_n 3, 1) := by decide +kernel
theorem dc_T_ownedChild_17 : decode bc_T_ownedChild 17 = .ok (.aload_n 0, 1) := by decide +kernel
theorem dc_T_ownedChild_18 : decode bc_T_ownedChild 18 = .ok (.getfield 9, 3) := by decide +kernel
theorem dc_T_ownedChild_21 : decode bc_T_ownedChild 21 = .ok (.iload_n 1, 1) := by decide +kernel
theorem dc_T_ownedChild_22 : decode bc_T_ownedChild 22 = .ok (.iload_n 2, 1) := by decide +kernel
theorem dc_T_ownedChild_23 : decode bc_T_ownedChild 23 = .ok (.iload_n 3, 1) := by decide +kernel
theorem dc_T_ownedChild_24 : decode bc_T_ownedChild 24 = .ok (.invokevirtual 83, 3) := by decide +kernel
theorem dc_T_ownedChild_27 : decode bc_T_ownedChild 27 = .ok (.iload_n 3, 1) := by decide +kernel
theorem dc_T_ownedChild_28 : decode bc_T_ownedChild 28 = .ok (.ireturn, 1) := by decide +kernel
theorem dc_B_setGoal_0 : decode bc_B_setGoal 0 = .ok (.aload_n 0, 1) := by decide +kernel
theorem dc_B_setGoal_1 : decode bc_B_setGoal 1 = .ok (.iload_n 1, 1) := by decide +kernel
theorem dc_B_setGoal_2 : decode bc_B_setGoal 2 = .ok (.iload_n 2, 1) := by decide +kernel
theorem dc_B_setGoal_3 : decode bc_B_setGoal 3 = .ok (.invokevirtual 41, 3) := by decide +kernel
theorem dc_B_setGoal_6 : decode bc_B_setGoal 6 = .ok (.ifCond .eq 17, 3) := by decide +kernel
theorem dc_B_setGoal_23 : decode bc_B_setGoal 23 = .ok (.return_, 1) := by decide +kernel
theorem dc_B_setGoal_9 : decode bc_B_setGoal 9 = .ok (.aload_n 0, 1) := by decide +kernel
theorem dc_B_setGoal_10 : decode bc_B_setGoal 10 = .ok (.getfield 34, 3) := by decide +kernel
theorem dc_B_setGoal_13 : decode bc_B_setGoal 13 = .ok (.iload_n 1, 1) := by decide +kernel
theorem dc_B_setGoal_14 : decode bc_B_setGoal 14 = .ok (.aload_n 0, 1) := by decide +kernel
theorem dc_B_setGoal_15 : decode bc_B_setGoal 15 = .ok (.getfield 28, 3) := by decide +kernel
theorem dc_B_setGoal_18 : decode bc_B_setGoal 18 = .ok (.imul, 1) := by decide +kernel
theorem dc_B_setGoal_19 : decode bc_B_setGoal 19 = .ok (.iload_n 2, 1) := by decide +kernel
theorem dc_B_setGoal_20 : decode bc_B_setGoal 20 = .ok (.iadd, 1) := by decide +kernel
theorem dc_B_setGoal_21 : decode bc_B_setGoal 21 = .ok (.iload_n 3, 1) := by decide +kernel
theorem dc_B_setGoal_22 : decode bc_B_setGoal 22 = .ok (.iastore, 1) := by decide +kernel
theorem dc_B_setKey_0 : decode bc_B_setKey 0 = .ok (.aload_n 0, 1) := by decide +kernel
theorem dc_B_setKey_1 : decode bc_B_setKey 1 = .ok (.iload_n 1, 1) := by decide +kernel
theorem dc_B_setKey_2 : decode bc_B_setKey 2 = .ok (.iload_n 2, 1) := by decide +kernel
theorem dc_B_setKey_3 : decode bc_B_setKey 3 = .ok (.invokevirtual 41, 3) := by decide +kernel
theorem dc_B_setKey_6 : decode bc_B_setKey 6 = .ok (.ifCond .eq 17, 3) := by decide +kernel
theorem dc_B_setKey_23 : decode bc_B_setKey 23 = .ok (.return_, 1) := by decide +kernel
theorem dc_B_setKey_9 : decode bc_B_setKey 9 = .ok (.aload_n 0, 1) := by decide +kernel
theorem dc_B_setKey_10 : decode bc_B_setKey 10 = .ok (.getfield 31, 3) := by decide +kernel
theorem dc_B_setKey_13 : decode bc_B_setKey 13 = .ok (.iload_n 1, 1) := by decide +kernel
theorem dc_B_setKey_14 : decode bc_B_setKey 14 = .ok (.aload_n 0, 1) := by decide +kernel
theorem dc_B_setKey_15 : decode bc_B_setKey 15 = .ok (.getfield 28, 3) := by decide +kernel
theorem dc_B_setKey_18 : decode bc_B_setKey 18 = .ok (.imul, 1) := by decide +kernel
theorem dc_B_setKey_19 : decode bc_B_setKey 19 = .ok (.iload_n 2, 1) := by decide +kernel
theorem dc_B_setKey_20 : decode bc_B_setKey 20 = .ok (.iadd, 1) := by decide +kernel
theorem dc_B_setKey_21 : decode bc_B_setKey 21 = .ok (.iload_n 3, 1) := by decide +kernel
theorem dc_B_setKey_22 : decode bc_B_setKey 22 = .ok (.iastore, 1) := by decide +kernel
theorem dc_T_split_0 : decode bc_T_split 0 = .ok (.aload_n 0, 1) := by decide +kernel
theorem dc_T_split_1 : decode bc_T_split 1 = .ok (.getfield 9, 3) := by decide +kernel
theorem dc_T_split_4 : decode bc_T_split 4 = .ok (.iload_n 1, 1) := by decide +kernel
theorem dc_T_split_5 : decode bc_T_split 5 = .ok (.iload_n 2, 1) := by decide +kernel
theorem dc_T_split_6 : decode bc_T_split 6 = .ok (.invokevirtual 35, 3) := by decide +kernel
theorem dc_T_split_9 : decode bc_T_split 9 = .ok (.istore_n 3, 1) := by decide +kernel
theorem dc_T_split_10 : decode bc_T_split 10 = .ok (.aload_n 0, 1) := by decide +kernel
theorem dc_T_split_11 : decode bc_T_split 11 = .ok (.getfield 9, 3) := by decide +kernel
theorem dc_T_split_14 : decode bc_T_split 14 = .ok (.aload_n 0, 1) := by decide +kernel
theorem dc_T_split_15 : decode bc_T_split 15 = .ok (.getfield 9, 3) := by decide +kernel
theorem dc_T_split_18 : decode bc_T_split 18 = .ok (.iload_n 3, 1) := by decide +kernel
theorem dc_T_split_19 : decode bc_T_split 19 = .ok (.invokevirtual 26, 3) := by decide +kernel
theorem dc_T_split_22 : decode bc_T_split 22 = .ok (.invokevirtual 56, 3) := by decide +kernel
theorem dc_T_split_25 : decode bc_T_split 25 = .ok (.istore 4, 2) := by decide +kernel
theorem dc_T_split_27 : decode bc_T_split 27 = .ok (.aload_n 0, 1) := by decide +kernel
theorem dc_T_split_28 : decode bc_T_split 28 = .ok (.getfield 9, 3) := by decide +kernel
theorem dc_T_split_31 : decode bc_T_split 31 = .ok (.iload_n 3, 1) := by decide +kernel
theorem dc_T_split_32 : decode bc_T_split 32 = .ok (.aload_n 0, 1) := by decide +kernel
theorem dc_T_split_33 : decode bc_T_split 33 = .ok (.getfield 23, 3) := by decide +kernel
theorem dc_T_split_36 : decode bc_T_split 36 = .ok (.iload 4, 2) := by decide +kernel
theorem dc_T_split_38 : decode bc_T_split 38 = .ok (.invokevirtual 89, 3) := by decide +kernel
theorem dc_T_split_41 : decode bc_T_split 41 = .ok (.aload_n 0, 1) := by decide +kernel
theorem dc_T_split_42 : decode bc_T_split 42 = .ok (.getfield 9, 3) := by decide +kernel
theorem dc_T_split_45 : decode bc_T_split 45 = .ok (.iload_n 1, 1) := by decide +kernel
theorem dc_T_split_46 : decode bc_T_split 46 = .ok (.iload_n 2, 1) := by decide +kernel
theorem dc_T_split_47 : decode bc_T_split 47 = .ok (.iconst 1, 1) := by decide +kernel
theorem dc_T_split_48 : decode bc_T_split 48 = .ok (.iadd, 1) := by decide +kernel
theorem dc_T_split_49 : decode bc_T_split 49 = .ok (.aload_n 0, 1) := by decide +kernel
theorem dc_T_split_50 : decode bc_T_split 50 = .ok (.getfield 9, 3) := by decide +kernel
theorem dc_T_split_53 : decode bc_T_split 53 = .ok (.iload 4, 2) := by decide +kernel
theorem dc_T_split_55 : decode bc_T_split 55 = .ok (.iconst 0, 1) := by decide +kernel
theorem dc_T_split_56 : decode bc_T_split 56 = .ok (.invokevirtual 41, 3) := by decide +kernel
theorem dc_T_split_59 : decode bc_T_split 59 = .ok (.iload 4, 2) := by decide +kernel
theorem dc_T_split_61 : decode bc_T_split 61 = .ok (.invokevirtual 86, 3) := by decide +kernel
theorem dc_T_split_64 : decode bc_T_split 64 = .ok (.return_, 1) := by decide +kernel
theorem dc_B_moveTail_0 : decode bc_B_moveTail 0 = .ok (.iload_n 2, 1) := by decide +kernel
theorem dc_B_moveTail_1 : decode bc_B_moveTail 1 = .ok (.istore 4, 2) := by decide +kernel
theorem dc_B_moveTail_3 : decode bc_B_moveTail 3 = .ok (.iload 4, 2) := by decide +kernel
theorem dc_B_moveTail_5 : decode bc_B_moveTail 5 = .ok (.aload_n 0, 1) := by decide +kernel
theorem dc_B_moveTail_6 : decode bc_B_moveTail 6 = .ok (.iload_n 1, 1) := by decide +kernel
theorem dc_B_moveTail_7 : decode bc_B_moveTail 7 = .ok (.invokevirtual 45, 3) := by decide +kernel
theorem dc_B_moveTail_10 : decode bc_B_moveTail 10 = .ok (.if_icmp .ge 33, 3) := by decide +kernel
theorem dc_B_moveTail_43 : decode bc_B_moveTail 43 = .ok (.aload_n 0, 1) := by decide +kernel
theorem dc_B_moveTail_44 : decode bc_B_moveTail 44 = .ok (.iload_n 1, 1) := by decide +kernel
theorem dc_B_moveTail_45 : decode bc_B_moveTail 45 = .ok (.invokevirtual 37, 3) := by decide +kernel
theorem dc_B_moveTail_48 : decode bc_B_moveTail 48 = .ok (.ifCond .eq 24, 3) := by decide +kernel
theorem dc_B_moveTail_72 : decode bc_B_moveTail 72 = .ok (.return_, 1) := by decide +kernel
theorem dc_B_moveTail_51 : decode bc_B_moveTail 51 = .ok (.iload_n 2, 1) := by decide +kernel
theorem dc_B_moveTail_52 : decode bc_B_moveTail 52 = .ok (.ifCond .lt 20, 3) := by decide +kernel
theorem dc_B_moveTail_55 : decode bc_B_moveTail 55 = .ok (.iload_n 2, 1) := by decide +kernel
theorem dc_B_moveTail_56 : decode bc_B_moveTail 56 = .ok (.aload_n 0, 1) := by decide +kernel
theorem dc_B_moveTail_57 : decode bc_B_moveTail 57 = .ok (.getfield 18, 3) := by decide +kernel
theorem dc_B_moveTail_60 : decode bc_B_moveTail 60 = .ok (.iload_n 1, 1) := by decide +kernel
theorem dc_B_moveTail_61 : decode bc_B_moveTail 61 = .ok (.iaload, 1) := by decide +kernel
theorem dc_B_moveTail_62 : decode bc_B_moveTail 62 = .ok (.if_icmp .ge 10, 3) := by decide +kernel
theorem dc_B_moveTail_65 : decode bc_B_moveTail 65 = .ok (.aload_n 0, 1) := by decide +kernel
theorem dc_B_moveTail_66 : decode bc_B_moveTail 66 = .ok (.getfield 18, 3) := by decide +kernel
theorem dc_B_moveTail_69 : decode bc_B_moveTail 69 = .ok (.iload_n 1, 1) := by decide +kernel
theorem dc_B_moveTail_70 : decode bc_B_moveTail 70 = .ok (.iload_n 2, 1) := by decide +kernel
theorem dc_B_moveTail_71 : decode bc_B_moveTail 71 = .ok (.iastore, 1) := by decide +kernel
theorem dc_B_moveTail_13 : decode bc_B_moveTail 13 = .ok (.aload_n 0, 1) := by decide +kernel
theorem dc_B_moveTail_14 : decode bc_B_moveTail 14 = .ok (.iload_n 3, 1) := by decide +kernel
theorem dc_B_moveTail_15 : decode bc_B_moveTail 15 = .ok (.aload_n 0, 1) := by decide +kernel
theorem dc_B_moveTail_16 : decode bc_B_moveTail 16 = .ok (.iload_n 3, 1) := by decide +kernel
theorem dc_B_moveTail_17 : decode bc_B_moveTail 17 = .ok (.invokevirtual 45, 3) := by decide +kernel
theorem dc_B_moveTail_20 : decode bc_B_moveTail 20 = .ok (.aload_n 0, 1) := by decide +kernel
theorem dc_B_moveTail_21 : decode bc_B_moveTail 21 = .ok (.iload_n 1, 1) := by decide +kernel
theorem dc_B_moveTail_22 : decode bc_B_moveTail 22 = .ok (.iload 4, 2) := by decide +kernel
theorem dc_B_moveTail_24 : decode bc_B_moveTail 24 = .ok (.invokevirtual 83, 3) := by decide +kernel
theorem dc_B_moveTail_27 : decode bc_B_moveTail 27 = .ok (.aload_n 0, 1) := by decide +kernel
theorem dc_B_moveTail_28 : decode bc_B_moveTail 28 = .ok (.iload_n 1, 1) := by decide +kernel
theorem dc_B_moveTail_29 : decode bc_B_moveTail 29 = .ok (.iload 4, 2) := by decide +kernel
theorem dc_B_moveTail_31 : decode bc_B_moveTail 31 = .ok (.invokevirtual 67, 3) := by decide +kernel
theorem dc_B_moveTail_34 : decode bc_B_moveTail 34 = .ok (.invokevirtual 86, 3) := by decide +kernel
theorem dc_B_moveTail_37 : decode bc_B_moveTail 37 = .ok (.iinc 4 1, 3) := by decide +kernel
theorem dc_B_moveTail_40 : decode bc_B_moveTail 40 = .ok (.goto (-37), 3) := by decide +kernel
theorem dc_B_insert_0 : decode bc_B_insert 0 = .ok (.aload_n 0, 1) := by decide +kernel
theorem dc_B_insert_1 : decode bc_B_insert 1 = .ok (.iload_n 1, 1) := by decide +kernel
theorem dc_B_insert_2 : decode bc_B_insert 2 = .ok (.invokevirtual 37, 3) := by decide +kernel
theorem dc_B_insert_5 : decode bc_B_insert 5 = .ok (.ifCond .eq 30, 3) := by decide +kernel
theorem dc_B_insert_35 : decode bc_B_insert 35 = .ok (.return_, 1) := by decide +kernel
theorem dc_B_insert_8 : decode bc_B_insert 8 = .ok (.iload_n 2, 1) := by decide +kernel
theorem dc_B_insert_9 : decode bc_B_insert 9 = .ok (.ifCond .lt 26, 3) := by decide +kernel
theorem dc_B_insert_12 : decode bc_B_insert 12 = .ok (.iload_n 2, 1) := by decide +kernel
theorem dc_B_insert_13 : decode bc_B_insert 13 = .ok (.aload_n 0, 1) := by decide +kernel
theorem dc_B_insert_14 : decode bc_B_insert 14 = .ok (.getfield 18, 3) := by decide +kernel
theorem dc_B_insert_17 : decode bc_B_insert 17 = .ok (.iload_n 1, 1) := by decide +kernel
theorem dc_B_insert_18 : decode bc_B_insert 18 = .ok (.iaload, 1) := by decide +kernel
theorem dc_B_insert_19 : decode bc_B_insert 19 = .ok (.if_icmp .gt 16, 3) := by decide +kernel
theorem dc_B_insert_22 : decode bc_B_insert 22 = .ok (.aload_n 0, 1) := by decide +kernel
theorem dc_B_insert_23 : decode bc_B_insert 23 = .ok (.getfield 18, 3) := by decide +kernel
theorem dc_B_insert_26 : decode bc_B_insert 26 = .ok (.iload_n 1, 1) := by decide +kernel
theorem dc_B_insert_27 : decode bc_B_insert 27 = .ok (.iaload, 1) := by decide +kernel
theorem dc_B_insert_28 : decode bc_B_insert 28 = .ok (.aload_n 0, 1) := by decide +kernel
theorem dc_B_insert_29 : decode bc_B_insert 29 = .ok (.getfield 28, 3) := by decide +kernel
theorem dc_B_insert_32 : decode bc_B_insert 32 = .ok (.if_icmp .lt 4, 3) := by decide +kernel
theorem dc_B_insert_36 : decode bc_B_insert 36 = .ok (.aload_n 0, 1) := by decide +kernel
theorem dc_B_insert_37 : decode bc_B_insert 37 = .ok (.getfield 18, 3) := by decide +kernel
theorem dc_B_insert_40 : decode bc_B_insert 40 = .ok (.iload_n 1, 1) := by decide +kernel
theorem dc_B_insert_41 : decode bc_B_insert 41 = .ok (.iaload, 1) := by decide +kernel
theorem dc_B_insert_42 : decode bc_B_insert 42 = .ok (.istore 5, 2) := by decide +kernel
theorem dc_B_insert_44 : decode bc_B_insert 44 = .ok (.iload_n 1, 1) := by decide +kernel
theorem dc_B_insert_45 : decode bc_B_insert 45 = .ok (.aload_n 0, 1) := by decide +kernel
theorem dc_B_insert_46 : decode bc_B_insert 46 = .ok (.getfield 28, 3) := by decide +kernel
theorem dc_B_insert_49 : decode bc_B_insert 49 = .ok (.imul, 1) := by decide +kernel
theorem dc_B_insert_50 : decode bc_B_insert 50 = .ok (.iload_n 2, 1) := by decide +kernel
theorem dc_B_insert_51 : decode bc_B_insert 51 = .ok (.iadd, 1) := by decide +kernel
theorem dc_B_insert_52 : decode bc_B_insert 52 = .ok (.istore 6, 2) := by decide +kernel
theorem dc_B_insert_54 : decode bc_B_insert 54 = .ok (.aload_n 0, 1) := by decide +kernel
theorem dc_B_insert_55 : decode bc_B_insert 55 = .ok (.getfield 31, 3) := by decide +kernel
theorem dc_B_insert_58 : decode bc_B_insert 58 = .ok (.iload 6, 2) := by decide +kernel
theorem dc_B_insert_60 : decode bc_B_insert 60 = .ok (.aload_n 0, 1) := by decide +kernel
theorem dc_B_insert_61 : decode bc_B_insert 61 = .ok (.getfield 31, 3) := by decide +kernel
theorem dc_B_insert_64 : decode bc_B_insert 64 = .ok (.iload 6, 2) := by decide +kernel
theorem dc_B_insert_66 : decode bc_B_insert 66 = .ok (.iconst 1, 1) := by decide +kernel
theorem dc_B_insert_67 : decode bc_B_insert 67 = .ok (.iadd, 1) := by decide +kernel
theorem dc_B_insert_68 : decode bc_B_insert 68 = .ok (.iload 5, 2) := by decide +kernel
theorem dc_B_insert_70 : decode bc_B_insert 70 = .ok (.iload_n 2, 1) := by decide +kernel
theorem dc_B_insert_71 : decode bc_B_insert 71 = .ok (.isub, 1) := by decide +kernel
theorem dc_B_insert_72 : decode bc_B_insert 72 = .ok (.invokestatic 77, 3) := by decide +kernel
theorem dc_B_insert_75 : decode bc_B_insert 75 = .ok (.aload_n 0, 1) := by decide +kernel
theorem dc_B_insert_76 : decode bc_B_insert 76 = .ok (.getfield 34, 3) := by decide +kernel
theorem dc_B_insert_79 : decode bc_B_insert 79 = .ok (.iload 6, 2) := by decide +kernel
theorem dc_B_insert_81 : decode bc_B_insert 81 = .ok (.aload_n 0, 1) := by decide +kernel
theorem dc_B_insert_82 : decode bc_B_insert 82 = .ok (.getfield 34, 3) := by decide +kernel
theorem dc_B_insert_85 : decode bc_B_insert 85 = .ok (.iload 6, 2) := by decide +kernel
theorem dc_B_insert_87 : decode bc_B_insert 87 = .ok (.iconst 1, 1) := by decide +kernel
theorem dc_B_insert_88 : decode bc_B_insert 88 = .ok (.iadd, 1) := by decide +kernel
theorem dc_B_insert_89 : decode bc_B_insert 89 = .ok (.iload 5, 2) := by decide +kernel
theorem dc_B_insert_91 : decode bc_B_insert 91 = .ok (.iload_n 2, 1) := by decide +kernel
theorem dc_B_insert_92 : decode bc_B_insert 92 = .ok (.isub, 1) := by decide +kernel
theorem dc_B_insert_93 : decode bc_B_insert 93 = .ok (.invokestatic 77, 3) := by decide +kernel
theorem dc_B_insert_96 : decode bc_B_insert 96 = .ok (.aload_n 0, 1) := by decide +kernel
theorem dc_B_insert_97 : decode bc_B_insert 97 = .ok (.getfield 31, 3) := by decide +kernel
theorem dc_B_insert_100 : decode bc_B_insert 100 = .ok (.iload 6, 2) := by decide +kernel
theorem dc_B_insert_102 : decode bc_B_insert 102 = .ok (.iload_n 3, 1) := by decide +kernel
theorem dc_B_insert_103 : decode bc_B_insert 103 = .ok (.iastore, 1) := by decide +kernel
theorem dc_B_insert_104 : decode bc_B_insert 104 = .ok (.aload_n 0, 1) := by decide +kernel
theorem dc_B_insert_105 : decode bc_B_insert 105 = .ok (.getfield 34, 3) := by decide +kernel
theorem dc_B_insert_108 : decode bc_B_insert 108 = .ok (.iload 6, 2) := by decide +kernel
theorem dc_B_insert_110 : decode bc_B_insert 110 = .ok (.iload 4, 2) := by decide +kernel
theorem dc_B_insert_112 : decode bc_B_insert 112 = .ok (.iastore, 1) := by decide +kernel
theorem dc_B_insert_113 : decode bc_B_insert 113 = .ok (.aload_n 0, 1) := by decide +kernel
theorem dc_B_insert_114 : decode bc_B_insert 114 = .ok (.getfield 18, 3) := by decide +kernel
theorem dc_B_insert_117 : decode bc_B_insert 117 = .ok (.iload_n 1, 1) := by decide +kernel
theorem dc_B_insert_118 : decode bc_B_insert 118 = .ok (.iload 5, 2) := by decide +kernel
theorem dc_B_insert_120 : decode bc_B_insert 120 = .ok (.iconst 1, 1) := by decide +kernel
theorem dc_B_insert_121 : decode bc_B_insert 121 = .ok (.iadd, 1) := by decide +kernel
theorem dc_B_insert_122 : decode bc_B_insert 122 = .ok (.iastore, 1) := by decide +kernel
theorem dc_B_insert_123 : decode bc_B_insert 123 = .ok (.return_, 1) := by decide +kernel
theorem dc_T_putInLeaf_0 : decode bc_T_putInLeaf 0 = .ok (.aload_n 0, 1) := by decide +kernel
theorem dc_T_putInLeaf_1 : decode bc_T_putInLeaf 1 = .ok (.getfield 9, 3) := by decide +kernel
theorem dc_T_putInLeaf_4 : decode bc_T_putInLeaf 4 = .ok (.iload_n 1, 1) := by decide +kernel
theorem dc_T_putInLeaf_5 : decode bc_T_putInLeaf 5 = .ok (.iload_n 2, 1) := by decide +kernel
theorem dc_T_putInLeaf_6 : decode bc_T_putInLeaf 6 = .ok (.invokevirtual 38, 3) := by decide +kernel
theorem dc_T_putInLeaf_9 : decode bc_T_putInLeaf 9 = .ok (.istore 4, 2) := by decide +kernel
theorem dc_T_putInLeaf_11 : decode bc_T_putInLeaf 11 = .ok (.aload_n 0, 1) := by decide +kernel
theorem dc_T_putInLeaf_12 : decode bc_T_putInLeaf 12 = .ok (.getfield 9, 3) := by decide +kernel
theorem dc_T_putInLeaf_15 : decode bc_T_putInLeaf 15 = .ok (.iload_n 1, 1) := by decide +kernel
theorem dc_T_putInLeaf_16 : decode bc_T_putInLeaf 16 = .ok (.iload 4, 2) := by decide +kernel
theorem dc_T_putInLeaf_18 : decode bc_T_putInLeaf 18 = .ok (.invokevirtual 41, 3) := by decide +kernel
theorem dc_T_putInLeaf_21 : decode bc_T_putInLeaf 21 = .ok (.iload_n 2, 1) := by decide +kernel
theorem dc_T_putInLeaf_22 : decode bc_T_putInLeaf 22 = .ok (.if_icmp .ne 17, 3) := by decide +kernel
theorem dc_T_putInLeaf_39 : decode bc_T_putInLeaf 39 = .ok (.aload_n 0, 1) := by decide +kernel
theorem dc_T_putInLeaf_40 : decode bc_T_putInLeaf 40 = .ok (.getfield 9, 3) := by decide +kernel
theorem dc_T_putInLeaf_43 : decode bc_T_putInLeaf 43 = .ok (.iload_n 1, 1) := by decide +kernel
theorem dc_T_putInLeaf_44 : decode bc_T_putInLeaf 44 = .ok (.iload 4, 2) := by decide +kernel
theorem dc_T_putInLeaf_46 : decode bc_T_putInLeaf 46 = .ok (.iconst 1, 1) := by decide +kernel
theorem dc_T_putInLeaf_47 : decode bc_T_putInLeaf 47 = .ok (.iadd, 1) := by decide +kernel
theorem dc_T_putInLeaf_48 : decode bc_T_putInLeaf 48 = .ok (.iload_n 2, 1) := by decide +kernel
theorem dc_T_putInLeaf_49 : decode bc_T_putInLeaf 49 = .ok (.iload_n 3, 1) := by decide +kernel
theorem dc_T_putInLeaf_50 : decode bc_T_putInLeaf 50 = .ok (.invokevirtual 86, 3) := by decide +kernel
theorem dc_T_putInLeaf_53 : decode bc_T_putInLeaf 53 = .ok (.return_, 1) := by decide +kernel
theorem dc_T_putInLeaf_25 : decode bc_T_putInLeaf 25 = .ok (.aload_n 0, 1) := by decide +kernel
theorem dc_T_putInLeaf_26 : decode bc_T_putInLeaf 26 = .ok (.getfield 9, 3) := by decide +kernel
theorem dc_T_putInLeaf_29 : decode bc_T_putInLeaf 29 = .ok (.iload_n 1, 1) := by decide +kernel
theorem dc_T_putInLeaf_30 : decode bc_T_putInLeaf 30 = .ok (.iload 4, 2) := by decide +kernel
theorem dc_T_putInLeaf_32 : decode bc_T_putInLeaf 32 = .ok (.iload_n 3, 1) := by decide +kernel
theorem dc_T_putInLeaf_33 : decode bc_T_putInLeaf 33 = .ok (.invokevirtual 83, 3) := by decide +kernel
theorem dc_T_putInLeaf_36 : decode bc_T_putInLeaf 36 = .ok (.goto 17, 3) := by decide +kernel
theorem dc_T_grown_0 : decode bc_T_grown 0 = .ok (.aload_n 0, 1) := by decide +kernel
theorem dc_T_grown_1 : decode bc_T_grown 1 = .ok (.getfield 9, 3) := by decide +kernel
theorem dc_T_grown_4 : decode bc_T_grown 4 = .ok (.aload_n 0, 1) := by decide +kernel
theorem dc_T_grown_5 : decode bc_T_grown 5 = .ok (.getfield 9, 3) := by decide +kernel
theorem dc_T_grown_8 : decode bc_T_grown 8 = .ok (.iload_n 1, 1) := by decide +kernel
theorem dc_T_grown_9 : decode bc_T_grown 9 = .ok (.invokevirtual 26, 3) := by decide +kernel
theorem dc_T_grown_12 : decode bc_T_grown 12 = .ok (.iconst 1, 1) := by decide +kernel
theorem dc_T_grown_13 : decode bc_T_grown 13 = .ok (.iadd, 1) := by decide +kernel
theorem dc_T_grown_14 : decode bc_T_grown 14 = .ok (.invokevirtual 56, 3) := by decide +kernel
theorem dc_T_grown_17 : decode bc_T_grown 17 = .ok (.istore_n 2, 1) := by decide +kernel
theorem dc_T_grown_18 : decode bc_T_grown 18 = .ok (.aload_n 0, 1) := by decide +kernel
theorem dc_T_grown_19 : decode bc_T_grown 19 = .ok (.getfield 9, 3) := by decide +kernel
theorem dc_T_grown_22 : decode bc_T_grown 22 = .ok (.iload_n 2, 1) := by decide +kernel
theorem dc_T_grown_23 : decode bc_T_grown 23 = .ok (.iconst 0, 1) := by decide +kernel
theorem dc_T_grown_24 : decode bc_T_grown 24 = .ok (.aload_n 0, 1) := by decide +kernel
theorem dc_T_grown_25 : decode bc_T_grown 25 = .ok (.getfield 9, 3) := by decide +kernel
theorem dc_T_grown_28 : decode bc_T_grown 28 = .ok (.iload_n 1, 1) := by decide +kernel
theorem dc_T_grown_29 : decode bc_T_grown 29 = .ok (.iconst 0, 1) := by decide +kernel
theorem dc_T_grown_30 : decode bc_T_grown 30 = .ok (.invokevirtual 41, 3) := by decide +kernel
theorem dc_T_grown_33 : decode bc_T_grown 33 = .ok (.iload_n 1, 1) := by decide +kernel
theorem dc_T_grown_34 : decode bc_T_grown 34 = .ok (.invokevirtual 86, 3) := by decide +kernel
theorem dc_T_grown_37 : decode bc_T_grown 37 = .ok (.aload_n 0, 1) := by decide +kernel
theorem dc_T_grown_38 : decode bc_T_grown 38 = .ok (.iload_n 2, 1) := by decide +kernel
theorem dc_T_grown_39 : decode bc_T_grown 39 = .ok (.iconst 0, 1) := by decide +kernel
theorem dc_T_grown_40 : decode bc_T_grown 40 = .ok (.invokevirtual 79, 3) := by decide +kernel
theorem dc_T_grown_43 : decode bc_T_grown 43 = .ok (.iload_n 2, 1) := by decide +kernel
theorem dc_T_grown_44 : decode bc_T_grown 44 = .ok (.ireturn, 1) := by decide +kernel
theorem dc_S_changeCount_0 : decode bc_S_changeCount 0 = .ok (.aload_n 0, 1) := by decide +kernel
theorem dc_S_changeCount_1 : decode bc_S_changeCount 1 = .ok (.getfield 82, 3) := by decide +kernel
theorem dc_S_changeCount_4 : decode bc_S_changeCount 4 = .ok (.iload_n 1, 1) := by decide +kernel
theorem dc_S_changeCount_5 : decode bc_S_changeCount 5 = .ok (.dup2, 1) := by decide +kernel
theorem dc_S_changeCount_6 : decode bc_S_changeCount 6 = .ok (.iaload, 1) := by decide +kernel
theorem dc_S_changeCount_7 : decode bc_S_changeCount 7 = .ok (.iload_n 2, 1) := by decide +kernel
theorem dc_S_changeCount_8 : decode bc_S_changeCount 8 = .ok (.iadd, 1) := by decide +kernel
theorem dc_S_changeCount_9 : decode bc_S_changeCount 9 = .ok (.iastore, 1) := by decide +kernel
theorem dc_S_changeCount_10 : decode bc_S_changeCount 10 = .ok (.aload_n 0, 1) := by decide +kernel
theorem dc_S_changeCount_11 : decode bc_S_changeCount 11 = .ok (.dup, 1) := by decide +kernel
theorem dc_S_changeCount_12 : decode bc_S_changeCount 12 = .ok (.getfield 70, 3) := by decide +kernel
theorem dc_S_changeCount_15 : decode bc_S_changeCount 15 = .ok (.iload_n 2, 1) := by decide +kernel
theorem dc_S_changeCount_16 : decode bc_S_changeCount 16 = .ok (.iadd, 1) := by decide +kernel
theorem dc_S_changeCount_17 : decode bc_S_changeCount 17 = .ok (.putfield 70, 3) := by decide +kernel
theorem dc_S_changeCount_20 : decode bc_S_changeCount 20 = .ok (.return_, 1) := by decide +kernel
theorem dc_R_write_0 : decode bc_R_write 0 = .ok (.iload_n 1, 1) := by decide +kernel
theorem dc_R_write_1 : decode bc_R_write 1 = .ok (.invokestatic 24, 3) := by decide +kernel
end
section
theorem dc_R_write_4 : decode bc_R_write 4 = .ok (.ifCond .eq 17, 3) := by decide +kernel
theorem dc_R_write_21 : decode bc_R_write 21 = .ok (.iconst (-1), 1) := by decide +kernel
theorem dc_R_write_22 : decode bc_R_write 22 = .ok (.ireturn, 1) := by decide +kernel
theorem dc_R_write_7 : decode bc_R_write 7 = .ok (.iload_n 2, 1) := by decide +kernel
theorem dc_R_write_8 : decode bc_R_write 8 = .ok (.invokestatic 28, 3) := by decide +kernel
theorem dc_R_write_11 : decode bc_R_write 11 = .ok (.ifCond .eq 10, 3) := by decide +kernel
theorem dc_R_write_14 : decode bc_R_write 14 = .ok (.iload_n 3, 1) := by decide +kernel
theorem dc_R_write_15 : decode bc_R_write 15 = .ok (.invokestatic 31, 3) := by decide +kernel
theorem dc_R_write_18 : decode bc_R_write 18 = .ok (.ifCond .ne 5, 3) := by decide +kernel
theorem dc_R_write_23 : decode bc_R_write 23 = .ok (.sipush 4096, 3) := by decide +kernel
theorem dc_R_write_26 : decode bc_R_write 26 = .ok (.iload_n 1, 1) := by decide +kernel
theorem dc_R_write_27 : decode bc_R_write 27 = .ok (.imul, 1) := by decide +kernel
theorem dc_R_write_28 : decode bc_R_write 28 = .ok (.iload_n 2, 1) := by decide +kernel
theorem dc_R_write_29 : decode bc_R_write 29 = .ok (.iadd, 1) := by decide +kernel
theorem dc_R_write_30 : decode bc_R_write 30 = .ok (.istore 4, 2) := by decide +kernel
theorem dc_R_write_32 : decode bc_R_write 32 = .ok (.aload_n 0, 1) := by decide +kernel
theorem dc_R_write_33 : decode bc_R_write 33 = .ok (.getfield 8, 3) := by decide +kernel
theorem dc_R_write_36 : decode bc_R_write 36 = .ok (.iload 4, 2) := by decide +kernel
theorem dc_R_write_38 : decode bc_R_write 38 = .ok (.iaload, 1) := by decide +kernel
theorem dc_R_write_39 : decode bc_R_write 39 = .ok (.ifCond .ne 26, 3) := by decide +kernel
theorem dc_R_write_65 : decode bc_R_write 65 = .ok (.aload_n 0, 1) := by decide +kernel
theorem dc_R_write_66 : decode bc_R_write 66 = .ok (.getfield 8, 3) := by decide +kernel
theorem dc_R_write_69 : decode bc_R_write 69 = .ok (.iload 4, 2) := by decide +kernel
theorem dc_R_write_71 : decode bc_R_write 71 = .ok (.iload_n 3, 1) := by decide +kernel
theorem dc_R_write_72 : decode bc_R_write 72 = .ok (.iconst 1, 1) := by decide +kernel
theorem dc_R_write_73 : decode bc_R_write 73 = .ok (.iadd, 1) := by decide +kernel
theorem dc_R_write_74 : decode bc_R_write 74 = .ok (.iastore, 1) := by decide +kernel
theorem dc_R_write_75 : decode bc_R_write 75 = .ok (.aload_n 0, 1) := by decide +kernel
theorem dc_R_write_76 : decode bc_R_write 76 = .ok (.getfield 17, 3) := by decide +kernel
theorem dc_R_write_79 : decode bc_R_write 79 = .ok (.iload_n 1, 1) := by decide +kernel
theorem dc_R_write_80 : decode bc_R_write 80 = .ok (.iaload, 1) := by decide +kernel
theorem dc_R_write_81 : decode bc_R_write 81 = .ok (.ireturn, 1) := by decide +kernel
theorem dc_R_write_42 : decode bc_R_write 42 = .ok (.aload_n 0, 1) := by decide +kernel
theorem dc_R_write_43 : decode bc_R_write 43 = .ok (.invokevirtual 34, 3) := by decide +kernel
theorem dc_R_write_46 : decode bc_R_write 46 = .ok (.sipush 600, 3) := by decide +kernel
theorem dc_R_write_49 : decode bc_R_write 49 = .ok (.if_icmp .ne 6, 3) := by decide +kernel
theorem dc_R_write_55 : decode bc_R_write 55 = .ok (.aload_n 0, 1) := by decide +kernel
theorem dc_R_write_56 : decode bc_R_write 56 = .ok (.getfield 17, 3) := by decide +kernel
theorem dc_R_write_59 : decode bc_R_write 59 = .ok (.iload_n 1, 1) := by decide +kernel
theorem dc_R_write_60 : decode bc_R_write 60 = .ok (.dup2, 1) := by decide +kernel
theorem dc_R_write_61 : decode bc_R_write 61 = .ok (.iaload, 1) := by decide +kernel
theorem dc_R_write_62 : decode bc_R_write 62 = .ok (.iconst 1, 1) := by decide +kernel
theorem dc_R_write_63 : decode bc_R_write 63 = .ok (.iadd, 1) := by decide +kernel
theorem dc_R_write_64 : decode bc_R_write 64 = .ok (.iastore, 1) := by decide +kernel
theorem dc_R_write_52 : decode bc_R_write 52 = .ok (.bipush (-3), 2) := by decide +kernel
theorem dc_R_write_54 : decode bc_R_write 54 = .ok (.ireturn, 1) := by decide +kernel
theorem dc_R_isMap_0 : decode bc_R_isMap 0 = .ok (.iload_n 0, 1) := by decide +kernel
theorem dc_R_isMap_1 : decode bc_R_isMap 1 = .ok (.ifCond .lt 13, 3) := by decide +kernel
theorem dc_R_isMap_14 : decode bc_R_isMap 14 = .ok (.iconst 0, 1) := by decide +kernel
theorem dc_R_isMap_15 : decode bc_R_isMap 15 = .ok (.ireturn, 1) := by decide +kernel
theorem dc_R_isMap_4 : decode bc_R_isMap 4 = .ok (.iload_n 0, 1) := by decide +kernel
theorem dc_R_isMap_5 : decode bc_R_isMap 5 = .ok (.bipush 8, 2) := by decide +kernel
theorem dc_R_isMap_7 : decode bc_R_isMap 7 = .ok (.if_icmp .ge 7, 3) := by decide +kernel
theorem dc_R_isMap_10 : decode bc_R_isMap 10 = .ok (.iconst 1, 1) := by decide +kernel
theorem dc_R_isMap_11 : decode bc_R_isMap 11 = .ok (.goto 4, 3) := by decide +kernel
theorem dc_R_isKey_0 : decode bc_R_isKey 0 = .ok (.iload_n 0, 1) := by decide +kernel
theorem dc_R_isKey_1 : decode bc_R_isKey 1 = .ok (.ifCond .lt 14, 3) := by decide +kernel
theorem dc_R_isKey_15 : decode bc_R_isKey 15 = .ok (.iconst 0, 1) := by decide +kernel
theorem dc_R_isKey_16 : decode bc_R_isKey 16 = .ok (.ireturn, 1) := by decide +kernel
theorem dc_R_isKey_4 : decode bc_R_isKey 4 = .ok (.iload_n 0, 1) := by decide +kernel
theorem dc_R_isKey_5 : decode bc_R_isKey 5 = .ok (.sipush 4096, 3) := by decide +kernel
theorem dc_R_isKey_8 : decode bc_R_isKey 8 = .ok (.if_icmp .ge 7, 3) := by decide +kernel
theorem dc_R_isKey_11 : decode bc_R_isKey 11 = .ok (.iconst 1, 1) := by decide +kernel
theorem dc_R_isKey_12 : decode bc_R_isKey 12 = .ok (.goto 4, 3) := by decide +kernel
theorem dc_R_isStamp_0 : decode bc_R_isStamp 0 = .ok (.iload_n 0, 1) := by decide +kernel
theorem dc_R_isStamp_1 : decode bc_R_isStamp 1 = .ok (.ifCond .lt 13, 3) := by decide +kernel
theorem dc_R_isStamp_14 : decode bc_R_isStamp 14 = .ok (.iconst 0, 1) := by decide +kernel
theorem dc_R_isStamp_15 : decode bc_R_isStamp 15 = .ok (.ireturn, 1) := by decide +kernel
theorem dc_R_isStamp_4 : decode bc_R_isStamp 4 = .ok (.iload_n 0, 1) := by decide +kernel
theorem dc_R_isStamp_5 : decode bc_R_isStamp 5 = .ok (.ldc 23, 2) := by decide +kernel
theorem dc_R_isStamp_7 : decode bc_R_isStamp 7 = .ok (.if_icmp .gt 7, 3) := by decide +kernel
theorem dc_R_isStamp_10 : decode bc_R_isStamp 10 = .ok (.iconst 1, 1) := by decide +kernel
theorem dc_R_isStamp_11 : decode bc_R_isStamp 11 = .ok (.goto 4, 3) := by decide +kernel
theorem dc_R_all_0 : decode bc_R_all 0 = .ok (.iconst 0, 1) := by decide +kernel
theorem dc_R_all_1 : decode bc_R_all 1 = .ok (.istore_n 1, 1) := by decide +kernel
theorem dc_R_all_2 : decode bc_R_all 2 = .ok (.iconst 0, 1) := by decide +kernel
theorem dc_R_all_3 : decode bc_R_all 3 = .ok (.istore_n 2, 1) := by decide +kernel
theorem dc_R_all_4 : decode bc_R_all 4 = .ok (.iload_n 2, 1) := by decide +kernel
theorem dc_R_all_5 : decode bc_R_all 5 = .ok (.bipush 8, 2) := by decide +kernel
theorem dc_R_all_7 : decode bc_R_all 7 = .ok (.if_icmp .ge 18, 3) := by decide +kernel
theorem dc_R_all_25 : decode bc_R_all 25 = .ok (.iload_n 1, 1) := by decide +kernel
theorem dc_R_all_26 : decode bc_R_all 26 = .ok (.ireturn, 1) := by decide +kernel
theorem dc_R_all_10 : decode bc_R_all 10 = .ok (.iload_n 1, 1) := by decide +kernel
theorem dc_R_all_11 : decode bc_R_all 11 = .ok (.aload_n 0, 1) := by decide +kernel
theorem dc_R_all_12 : decode bc_R_all 12 = .ok (.getfield 17, 3) := by decide +kernel
theorem dc_R_all_15 : decode bc_R_all 15 = .ok (.iload_n 2, 1) := by decide +kernel
theorem dc_R_all_16 : decode bc_R_all 16 = .ok (.iaload, 1) := by decide +kernel
theorem dc_R_all_17 : decode bc_R_all 17 = .ok (.iadd, 1) := by decide +kernel
theorem dc_R_all_18 : decode bc_R_all 18 = .ok (.istore_n 1, 1) := by decide +kernel
theorem dc_R_all_19 : decode bc_R_all 19 = .ok (.iinc 2 1, 3) := by decide +kernel
theorem dc_R_all_22 : decode bc_R_all 22 = .ok (.goto (-18), 3) := by decide +kernel
theorem dc_S_spread_0 : decode bc_S_spread 0 = .ok (.iload_n 1, 1) := by decide +kernel
theorem dc_S_spread_1 : decode bc_S_spread 1 = .ok (.invokestatic 53, 3) := by decide +kernel
theorem dc_S_spread_4 : decode bc_S_spread 4 = .ok (.ifCond .eq 18, 3) := by decide +kernel
theorem dc_S_spread_22 : decode bc_S_spread 22 = .ok (.iconst (-1), 1) := by decide +kernel
theorem dc_S_spread_23 : decode bc_S_spread 23 = .ok (.ireturn, 1) := by decide +kernel
theorem dc_S_spread_7 : decode bc_S_spread 7 = .ok (.iload_n 2, 1) := by decide +kernel
theorem dc_S_spread_8 : decode bc_S_spread 8 = .ok (.invokestatic 57, 3) := by decide +kernel
theorem dc_S_spread_11 : decode bc_S_spread 11 = .ok (.ifCond .eq 11, 3) := by decide +kernel
theorem dc_S_spread_14 : decode bc_S_spread 14 = .ok (.iload 5, 2) := by decide +kernel
theorem dc_S_spread_16 : decode bc_S_spread 16 = .ok (.invokestatic 60, 3) := by decide +kernel
theorem dc_S_spread_19 : decode bc_S_spread 19 = .ok (.ifCond .ne 5, 3) := by decide +kernel
theorem dc_S_spread_24 : decode bc_S_spread 24 = .ok (.iload_n 3, 1) := by decide +kernel
theorem dc_S_spread_25 : decode bc_S_spread 25 = .ok (.iconst 1, 1) := by decide +kernel
theorem dc_S_spread_26 : decode bc_S_spread 26 = .ok (.if_icmp .lt 23, 3) := by decide +kernel
theorem dc_S_spread_49 : decode bc_S_spread 49 = .ok (.iconst (-1), 1) := by decide +kernel
theorem dc_S_spread_50 : decode bc_S_spread 50 = .ok (.ireturn, 1) := by decide +kernel
theorem dc_S_spread_29 : decode bc_S_spread 29 = .ok (.iload_n 3, 1) := by decide +kernel
theorem dc_S_spread_30 : decode bc_S_spread 30 = .ok (.sipush 4095, 3) := by decide +kernel
theorem dc_S_spread_33 : decode bc_S_spread 33 = .ok (.if_icmp .gt 16, 3) := by decide +kernel
theorem dc_S_spread_36 : decode bc_S_spread 36 = .ok (.iload 4, 2) := by decide +kernel
theorem dc_S_spread_38 : decode bc_S_spread 38 = .ok (.ifCond .lt 11, 3) := by decide +kernel
theorem dc_S_spread_41 : decode bc_S_spread 41 = .ok (.iload 4, 2) := by decide +kernel
theorem dc_S_spread_43 : decode bc_S_spread 43 = .ok (.sipush 600, 3) := by decide +kernel
theorem dc_S_spread_46 : decode bc_S_spread 46 = .ok (.if_icmp .le 5, 3) := by decide +kernel
theorem dc_S_spread_51 : decode bc_S_spread 51 = .ok (.iconst 0, 1) := by decide +kernel
theorem dc_S_spread_52 : decode bc_S_spread 52 = .ok (.istore 6, 2) := by decide +kernel
theorem dc_S_spread_54 : decode bc_S_spread 54 = .ok (.iload 6, 2) := by decide +kernel
theorem dc_S_spread_56 : decode bc_S_spread 56 = .ok (.iload 4, 2) := by decide +kernel
theorem dc_S_spread_58 : decode bc_S_spread 58 = .ok (.if_icmp .ge 28, 3) := by decide +kernel
theorem dc_S_spread_86 : decode bc_S_spread 86 = .ok (.iload 6, 2) := by decide +kernel
theorem dc_S_spread_88 : decode bc_S_spread 88 = .ok (.ireturn, 1) := by decide +kernel
theorem dc_S_spread_61 : decode bc_S_spread 61 = .ok (.aload_n 0, 1) := by decide +kernel
theorem dc_S_spread_62 : decode bc_S_spread 62 = .ok (.iload_n 1, 1) := by decide +kernel
theorem dc_S_spread_63 : decode bc_S_spread 63 = .ok (.iload_n 2, 1) := by decide +kernel
theorem dc_S_spread_64 : decode bc_S_spread 64 = .ok (.iload 6, 2) := by decide +kernel
theorem dc_S_spread_66 : decode bc_S_spread 66 = .ok (.iload_n 3, 1) := by decide +kernel
theorem dc_S_spread_67 : decode bc_S_spread 67 = .ok (.imul, 1) := by decide +kernel
theorem dc_S_spread_68 : decode bc_S_spread 68 = .ok (.iadd, 1) := by decide +kernel
theorem dc_S_spread_69 : decode bc_S_spread 69 = .ok (.iload 5, 2) := by decide +kernel
theorem dc_S_spread_71 : decode bc_S_spread 71 = .ok (.iload 6, 2) := by decide +kernel
theorem dc_S_spread_73 : decode bc_S_spread 73 = .ok (.iadd, 1) := by decide +kernel
theorem dc_S_spread_74 : decode bc_S_spread 74 = .ok (.invokevirtual 85, 3) := by decide +kernel
theorem dc_S_spread_77 : decode bc_S_spread 77 = .ok (.ifCond .lt 9, 3) := by decide +kernel
theorem dc_S_spread_80 : decode bc_S_spread 80 = .ok (.iinc 6 1, 3) := by decide +kernel
theorem dc_S_spread_83 : decode bc_S_spread 83 = .ok (.goto (-29), 3) := by decide +kernel
theorem dc_R_spread_0 : decode bc_R_spread 0 = .ok (.iload_n 1, 1) := by decide +kernel
theorem dc_R_spread_1 : decode bc_R_spread 1 = .ok (.invokestatic 24, 3) := by decide +kernel
theorem dc_R_spread_4 : decode bc_R_spread 4 = .ok (.ifCond .eq 43, 3) := by decide +kernel
theorem dc_R_spread_47 : decode bc_R_spread 47 = .ok (.iconst (-1), 1) := by decide +kernel
theorem dc_R_spread_48 : decode bc_R_spread 48 = .ok (.ireturn, 1) := by decide +kernel
theorem dc_R_spread_7 : decode bc_R_spread 7 = .ok (.iload_n 2, 1) := by decide +kernel
theorem dc_R_spread_8 : decode bc_R_spread 8 = .ok (.invokestatic 28, 3) := by decide +kernel
theorem dc_R_spread_11 : decode bc_R_spread 11 = .ok (.ifCond .eq 36, 3) := by decide +kernel
theorem dc_R_spread_14 : decode bc_R_spread 14 = .ok (.iload_n 3, 1) := by decide +kernel
theorem dc_R_spread_15 : decode bc_R_spread 15 = .ok (.iconst 1, 1) := by decide +kernel
theorem dc_R_spread_16 : decode bc_R_spread 16 = .ok (.if_icmp .lt 31, 3) := by decide +kernel
theorem dc_R_spread_19 : decode bc_R_spread 19 = .ok (.iload_n 3, 1) := by decide +kernel
theorem dc_R_spread_20 : decode bc_R_spread 20 = .ok (.sipush 4095, 3) := by decide +kernel
theorem dc_R_spread_23 : decode bc_R_spread 23 = .ok (.if_icmp .gt 24, 3) := by decide +kernel
theorem dc_R_spread_26 : decode bc_R_spread 26 = .ok (.iload 4, 2) := by decide +kernel
theorem dc_R_spread_28 : decode bc_R_spread 28 = .ok (.ifCond .lt 19, 3) := by decide +kernel
theorem dc_R_spread_31 : decode bc_R_spread 31 = .ok (.iload 4, 2) := by decide +kernel
theorem dc_R_spread_33 : decode bc_R_spread 33 = .ok (.sipush 600, 3) := by decide +kernel
theorem dc_R_spread_36 : decode bc_R_spread 36 = .ok (.if_icmp .gt 11, 3) := by decide +kernel
theorem dc_R_spread_39 : decode bc_R_spread 39 = .ok (.iload 5, 2) := by decide +kernel
theorem dc_R_spread_41 : decode bc_R_spread 41 = .ok (.invokestatic 31, 3) := by decide +kernel
theorem dc_R_spread_44 : decode bc_R_spread 44 = .ok (.ifCond .ne 5, 3) := by decide +kernel
theorem dc_R_spread_49 : decode bc_R_spread 49 = .ok (.iconst 0, 1) := by decide +kernel
theorem dc_R_spread_50 : decode bc_R_spread 50 = .ok (.istore 6, 2) := by decide +kernel
theorem dc_R_spread_52 : decode bc_R_spread 52 = .ok (.iload 6, 2) := by decide +kernel
theorem dc_R_spread_54 : decode bc_R_spread 54 = .ok (.iload 4, 2) := by decide +kernel
theorem dc_R_spread_56 : decode bc_R_spread 56 = .ok (.if_icmp .ge 28, 3) := by decide +kernel
theorem dc_R_spread_84 : decode bc_R_spread 84 = .ok (.iload 6, 2) := by decide +kernel
theorem dc_R_spread_86 : decode bc_R_spread 86 = .ok (.ireturn, 1) := by decide +kernel
theorem dc_R_spread_59 : decode bc_R_spread 59 = .ok (.aload_n 0, 1) := by decide +kernel
theorem dc_R_spread_60 : decode bc_R_spread 60 = .ok (.iload_n 1, 1) := by decide +kernel
theorem dc_R_spread_61 : decode bc_R_spread 61 = .ok (.iload_n 2, 1) := by decide +kernel
theorem dc_R_spread_62 : decode bc_R_spread 62 = .ok (.iload 6, 2) := by decide +kernel
theorem dc_R_spread_64 : decode bc_R_spread 64 = .ok (.iload_n 3, 1) := by decide +kernel
theorem dc_R_spread_65 : decode bc_R_spread 65 = .ok (.imul, 1) := by decide +kernel
theorem dc_R_spread_66 : decode bc_R_spread 66 = .ok (.iadd, 1) := by decide +kernel
theorem dc_R_spread_67 : decode bc_R_spread 67 = .ok (.iload 5, 2) := by decide +kernel
theorem dc_R_spread_69 : decode bc_R_spread 69 = .ok (.iload 6, 2) := by decide +kernel
theorem dc_R_spread_71 : decode bc_R_spread 71 = .ok (.iadd, 1) := by decide +kernel
theorem dc_R_spread_72 : decode bc_R_spread 72 = .ok (.invokevirtual 38, 3) := by decide +kernel
theorem dc_R_spread_75 : decode bc_R_spread 75 = .ok (.ifCond .lt 9, 3) := by decide +kernel
theorem dc_R_spread_78 : decode bc_R_spread 78 = .ok (.iinc 6 1, 3) := by decide +kernel
theorem dc_R_spread_81 : decode bc_R_spread 81 = .ok (.goto (-29), 3) := by decide +kernel
theorem dc_S_read_0 : decode bc_S_read 0 = .ok (.iload_n 1, 1) := by decide +kernel
theorem dc_S_read_1 : decode bc_S_read 1 = .ok (.invokestatic 53, 3) := by decide +kernel
theorem dc_S_read_4 : decode bc_S_read 4 = .ok (.ifCond .eq 10, 3) := by decide +kernel
theorem dc_S_read_14 : decode bc_S_read 14 = .ok (.iconst (-1), 1) := by decide +kernel
theorem dc_S_read_15 : decode bc_S_read 15 = .ok (.ireturn, 1) := by decide +kernel
theorem dc_S_read_7 : decode bc_S_read 7 = .ok (.iload_n 2, 1) := by decide +kernel
theorem dc_S_read_8 : decode bc_S_read 8 = .ok (.invokestatic 57, 3) := by decide +kernel
theorem dc_S_read_11 : decode bc_S_read 11 = .ok (.ifCond .ne 5, 3) := by decide +kernel
theorem dc_S_read_16 : decode bc_S_read 16 = .ok (.aload_n 0, 1) := by decide +kernel
theorem dc_S_read_17 : decode bc_S_read 17 = .ok (.getfield 32, 3) := by decide +kernel
theorem dc_S_read_20 : decode bc_S_read 20 = .ok (.aload_n 0, 1) := by decide +kernel
theorem dc_S_read_21 : decode bc_S_read 21 = .ok (.getfield 46, 3) := by decide +kernel
theorem dc_S_read_24 : decode bc_S_read 24 = .ok (.getfield 63, 3) := by decide +kernel
theorem dc_S_read_27 : decode bc_S_read 27 = .ok (.iload_n 1, 1) := by decide +kernel
theorem dc_S_read_28 : decode bc_S_read 28 = .ok (.iaload, 1) := by decide +kernel
theorem dc_S_read_29 : decode bc_S_read 29 = .ok (.iload_n 2, 1) := by decide +kernel
theorem dc_S_read_30 : decode bc_S_read 30 = .ok (.invokevirtual 67, 3) := by decide +kernel
theorem dc_S_read_33 : decode bc_S_read 33 = .ok (.ireturn, 1) := by decide +kernel
theorem dc_R_read_0 : decode bc_R_read 0 = .ok (.iload_n 1, 1) := by decide +kernel
theorem dc_R_read_1 : decode bc_R_read 1 = .ok (.invokestatic 24, 3) := by decide +kernel
theorem dc_R_read_4 : decode bc_R_read 4 = .ok (.ifCond .eq 10, 3) := by decide +kernel
theorem dc_R_read_14 : decode bc_R_read 14 = .ok (.iconst (-1), 1) := by decide +kernel
theorem dc_R_read_15 : decode bc_R_read 15 = .ok (.ireturn, 1) := by decide +kernel
theorem dc_R_read_7 : decode bc_R_read 7 = .ok (.iload_n 2, 1) := by decide +kernel
theorem dc_R_read_8 : decode bc_R_read 8 = .ok (.invokestatic 28, 3) := by decide +kernel
theorem dc_R_read_11 : decode bc_R_read 11 = .ok (.ifCond .ne 5, 3) := by decide +kernel
theorem dc_R_read_16 : decode bc_R_read 16 = .ok (.aload_n 0, 1) := by decide +kernel
theorem dc_R_read_17 : decode bc_R_read 17 = .ok (.getfield 8, 3) := by decide +kernel
theorem dc_R_read_20 : decode bc_R_read 20 = .ok (.sipush 4096, 3) := by decide +kernel
theorem dc_R_read_23 : decode bc_R_read 23 = .ok (.iload_n 1, 1) := by decide +kernel
theorem dc_R_read_24 : decode bc_R_read 24 = .ok (.imul, 1) := by decide +kernel
theorem dc_R_read_25 : decode bc_R_read 25 = .ok (.iload_n 2, 1) := by decide +kernel
theorem dc_R_read_26 : decode bc_R_read 26 = .ok (.iadd, 1) := by decide +kernel
theorem dc_R_read_27 : decode bc_R_read 27 = .ok (.iaload, 1) := by decide +kernel
theorem dc_R_read_28 : decode bc_R_read 28 = .ok (.istore_n 3, 1) := by decide +kernel
theorem dc_R_read_29 : decode bc_R_read 29 = .ok (.iload_n 3, 1) := by decide +kernel
theorem dc_R_read_30 : decode bc_R_read 30 = .ok (.ifCond .ne 8, 3) := by decide +kernel
theorem dc_R_read_38 : decode bc_R_read 38 = .ok (.iload_n 3, 1) := by decide +kernel
theorem dc_R_read_39 : decode bc_R_read 39 = .ok (.iconst 1, 1) := by decide +kernel
theorem dc_R_read_40 : decode bc_R_read 40 = .ok (.isub, 1) := by decide +kernel
theorem dc_R_read_41 : decode bc_R_read 41 = .ok (.ireturn, 1) := by decide +kernel
theorem dc_R_read_33 : decode bc_R_read 33 = .ok (.bipush (-2), 2) := by decide +kernel
theorem dc_R_read_35 : decode bc_R_read 35 = .ok (.goto 6, 3) := by decide +kernel
theorem dc_S_erase_0 : decode bc_S_erase 0 = .ok (.iload_n 1, 1) := by decide +kernel
theorem dc_S_erase_1 : decode bc_S_erase 1 = .ok (.invokestatic 53, 3) := by decide +kernel
theorem dc_S_erase_4 : decode bc_S_erase 4 = .ok (.ifCond .eq 10, 3) := by decide +kernel
theorem dc_S_erase_14 : decode bc_S_erase 14 = .ok (.iconst (-1), 1) := by decide +kernel
theorem dc_S_erase_15 : decode bc_S_erase 15 = .ok (.ireturn, 1) := by decide +kernel
theorem dc_S_erase_7 : decode bc_S_erase 7 = .ok (.iload_n 2, 1) := by decide +kernel
theorem dc_S_erase_8 : decode bc_S_erase 8 = .ok (.invokestatic 57, 3) := by decide +kernel
theorem dc_S_erase_11 : decode bc_S_erase 11 = .ok (.ifCond .ne 5, 3) := by decide +kernel
theorem dc_S_erase_16 : decode bc_S_erase 16 = .ok (.aload_n 0, 1) := by decide +kernel
theorem dc_S_erase_17 : decode bc_S_erase 17 = .ok (.getfield 32, 3) := by decide +kernel
theorem dc_S_erase_20 : decode bc_S_erase 20 = .ok (.aload_n 0, 1) := by decide +kernel
theorem dc_S_erase_21 : decode bc_S_erase 21 = .ok (.getfield 46, 3) := by decide +kernel
theorem dc_S_erase_24 : decode bc_S_erase 24 = .ok (.getfield 63, 3) := by decide +kernel
theorem dc_S_erase_27 : decode bc_S_erase 27 = .ok (.iload_n 1, 1) := by decide +kernel
theorem dc_S_erase_28 : decode bc_S_erase 28 = .ok (.iaload, 1) := by decide +kernel
theorem dc_S_erase_29 : decode bc_S_erase 29 = .ok (.iload_n 2, 1) := by decide +kernel
theorem dc_S_erase_30 : decode bc_S_erase 30 = .ok (.invokevirtual 67, 3) := by decide +kernel
theorem dc_S_erase_33 : decode bc_S_erase 33 = .ok (.istore_n 3, 1) := by decide +kernel
theorem dc_S_erase_34 : decode bc_S_erase 34 = .ok (.iload_n 3, 1) := by decide +kernel
theorem dc_S_erase_35 : decode bc_S_erase 35 = .ok (.bipush (-2), 2) := by decide +kernel
theorem dc_S_erase_37 : decode bc_S_erase 37 = .ok (.if_icmp .eq 38, 3) := by decide +kernel
theorem dc_S_erase_75 : decode bc_S_erase 75 = .ok (.iload_n 3, 1) := by decide +kernel
theorem dc_S_erase_76 : decode bc_S_erase 76 = .ok (.ireturn, 1) := by decide +kernel
theorem dc_S_erase_40 : decode bc_S_erase 40 = .ok (.aload_n 0, 1) := by decide +kernel
theorem dc_S_erase_41 : decode bc_S_erase 41 = .ok (.getfield 46, 3) := by decide +kernel
theorem dc_S_erase_44 : decode bc_S_erase 44 = .ok (.getfield 63, 3) := by decide +kernel
theorem dc_S_erase_47 : decode bc_S_erase 47 = .ok (.iload_n 1, 1) := by decide +kernel
theorem dc_S_erase_48 : decode bc_S_erase 48 = .ok (.aload_n 0, 1) := by decide +kernel
theorem dc_S_erase_49 : decode bc_S_erase 49 = .ok (.getfield 32, 3) := by decide +kernel
theorem dc_S_erase_52 : decode bc_S_erase 52 = .ok (.aload_n 0, 1) := by decide +kernel
theorem dc_S_erase_53 : decode bc_S_erase 53 = .ok (.getfield 46, 3) := by decide +kernel
theorem dc_S_erase_56 : decode bc_S_erase 56 = .ok (.getfield 63, 3) := by decide +kernel
theorem dc_S_erase_59 : decode bc_S_erase 59 = .ok (.iload_n 1, 1) := by decide +kernel
theorem dc_S_erase_60 : decode bc_S_erase 60 = .ok (.iaload, 1) := by decide +kernel
theorem dc_S_erase_61 : decode bc_S_erase 61 = .ok (.iload_n 2, 1) := by decide +kernel
theorem dc_S_erase_62 : decode bc_S_erase 62 = .ok (.invokevirtual 88, 3) := by decide +kernel
theorem dc_S_erase_65 : decode bc_S_erase 65 = .ok (.iastore, 1) := by decide +kernel
theorem dc_S_erase_66 : decode bc_S_erase 66 = .ok (.aload_n 0, 1) := by decide +kernel
theorem dc_S_erase_67 : decode bc_S_erase 67 = .ok (.getfield 46, 3) := by decide +kernel
theorem dc_S_erase_70 : decode bc_S_erase 70 = .ok (.iload_n 1, 1) := by decide +kernel
theorem dc_S_erase_71 : decode bc_S_erase 71 = .ok (.iconst (-1), 1) := by decide +kernel
theorem dc_S_erase_72 : decode bc_S_erase 72 = .ok (.invokestatic 78, 3) := by decide +kernel
theorem dc_T_without_0 : decode bc_T_without 0 = .ok (.aload_n 0, 1) := by decide +kernel
theorem dc_T_without_1 : decode bc_T_without 1 = .ok (.getfield 9, 3) := by decide +kernel
theorem dc_T_without_4 : decode bc_T_without 4 = .ok (.iload_n 1, 1) := by decide +kernel
theorem dc_T_without_5 : decode bc_T_without 5 = .ok (.invokevirtual 59, 3) := by decide +kernel
theorem dc_T_without_8 : decode bc_T_without 8 = .ok (.istore_n 3, 1) := by decide +kernel
theorem dc_T_without_9 : decode bc_T_without 9 = .ok (.aload_n 0, 1) := by decide +kernel
theorem dc_T_without_10 : decode bc_T_without 10 = .ok (.iload_n 3, 1) := by decide +kernel
theorem dc_T_without_11 : decode bc_T_without 11 = .ok (.aload_n 0, 1) := by decide +kernel
theorem dc_T_without_12 : decode bc_T_without 12 = .ok (.getfield 9, 3) := by decide +kernel
theorem dc_T_without_15 : decode bc_T_without 15 = .ok (.iload_n 3, 1) := by decide +kernel
theorem dc_T_without_16 : decode bc_T_without 16 = .ok (.invokevirtual 26, 3) := by decide +kernel
theorem dc_T_without_19 : decode bc_T_without 19 = .ok (.iload_n 2, 1) := by decide +kernel
theorem dc_T_without_20 : decode bc_T_without 20 = .ok (.invokevirtual 92, 3) := by decide +kernel
theorem dc_T_without_23 : decode bc_T_without 23 = .ok (.aload_n 0, 1) := by decide +kernel
theorem dc_T_without_24 : decode bc_T_without 24 = .ok (.iload_n 3, 1) := by decide +kernel
theorem dc_T_without_25 : decode bc_T_without 25 = .ok (.invokevirtual 95, 3) := by decide +kernel
theorem dc_T_without_28 : decode bc_T_without 28 = .ok (.ireturn, 1) := by decide +kernel
theorem dc_T_removeBelow_0 : decode bc_T_removeBelow 0 = .ok (.iload_n 2, 1) := by decide +kernel
theorem dc_T_removeBelow_1 : decode bc_T_removeBelow 1 = .ok (.bipush 16, 2) := by decide +kernel
theorem dc_T_removeBelow_3 : decode bc_T_removeBelow 3 = .ok (.if_icmp .le 4, 3) := by decide +kernel
theorem dc_T_removeBelow_7 : decode bc_T_removeBelow 7 = .ok (.iload_n 2, 1) := by decide +kernel
theorem dc_T_removeBelow_8 : decode bc_T_removeBelow 8 = .ok (.ifCond .gt 21, 3) := by decide +kernel
theorem dc_T_removeBelow_29 : decode bc_T_removeBelow 29 = .ok (.aload_n 0, 1) := by decide +kernel
theorem dc_T_removeBelow_30 : decode bc_T_removeBelow 30 = .ok (.iload_n 1, 1) := by decide +kernel
theorem dc_T_removeBelow_31 : decode bc_T_removeBelow 31 = .ok (.iload_n 3, 1) := by decide +kernel
theorem dc_T_removeBelow_32 : decode bc_T_removeBelow 32 = .ok (.invokevirtual 31, 3) := by decide +kernel
theorem dc_T_removeBelow_35 : decode bc_T_removeBelow 35 = .ok (.istore 4, 2) := by decide +kernel
theorem dc_T_removeBelow_37 : decode bc_T_removeBelow 37 = .ok (.aload_n 0, 1) := by decide +kernel
theorem dc_T_removeBelow_38 : decode bc_T_removeBelow 38 = .ok (.iload_n 1, 1) := by decide +kernel
theorem dc_T_removeBelow_39 : decode bc_T_removeBelow 39 = .ok (.iload 4, 2) := by decide +kernel
theorem dc_T_removeBelow_41 : decode bc_T_removeBelow 41 = .ok (.invokevirtual 73, 3) := by decide +kernel
theorem dc_T_removeBelow_44 : decode bc_T_removeBelow 44 = .ok (.istore 5, 2) := by decide +kernel
theorem dc_T_removeBelow_46 : decode bc_T_removeBelow 46 = .ok (.aload_n 0, 1) := by decide +kernel
theorem dc_T_removeBelow_47 : decode bc_T_removeBelow 47 = .ok (.iload 5, 2) := by decide +kernel
theorem dc_T_removeBelow_49 : decode bc_T_removeBelow 49 = .ok (.iload_n 2, 1) := by decide +kernel
theorem dc_T_removeBelow_50 : decode bc_T_removeBelow 50 = .ok (.iconst 1, 1) := by decide +kernel
theorem dc_T_removeBelow_51 : decode bc_T_removeBelow 51 = .ok (.isub, 1) := by decide +kernel
theorem dc_T_removeBelow_52 : decode bc_T_removeBelow 52 = .ok (.iload_n 3, 1) := by decide +kernel
theorem dc_T_removeBelow_53 : decode bc_T_removeBelow 53 = .ok (.invokevirtual 92, 3) := by decide +kernel
theorem dc_T_removeBelow_56 : decode bc_T_removeBelow 56 = .ok (.aload_n 0, 1) := by decide +kernel
theorem dc_T_removeBelow_57 : decode bc_T_removeBelow 57 = .ok (.getfield 9, 3) := by decide +kernel
theorem dc_T_removeBelow_60 : decode bc_T_removeBelow 60 = .ok (.iload_n 1, 1) := by decide +kernel
theorem dc_T_removeBelow_61 : decode bc_T_removeBelow 61 = .ok (.iload 4, 2) := by decide +kernel
theorem dc_T_removeBelow_63 : decode bc_T_removeBelow 63 = .ok (.aload_n 0, 1) := by decide +kernel
theorem dc_T_removeBelow_64 : decode bc_T_removeBelow 64 = .ok (.getfield 9, 3) := by decide +kernel
theorem dc_T_removeBelow_67 : decode bc_T_removeBelow 67 = .ok (.iload 5, 2) := by decide +kernel
theorem dc_T_removeBelow_69 : decode bc_T_removeBelow 69 = .ok (.iconst 0, 1) := by decide +kernel
theorem dc_T_removeBelow_70 : decode bc_T_removeBelow 70 = .ok (.invokevirtual 41, 3) := by decide +kernel
theorem dc_T_removeBelow_73 : decode bc_T_removeBelow 73 = .ok (.invokevirtual 76, 3) := by decide +kernel
theorem dc_T_removeBelow_76 : decode bc_T_removeBelow 76 = .ok (.aload_n 0, 1) := by decide +kernel
theorem dc_T_removeBelow_77 : decode bc_T_removeBelow 77 = .ok (.getfield 9, 3) := by decide +kernel
theorem dc_T_removeBelow_80 : decode bc_T_removeBelow 80 = .ok (.iload 5, 2) := by decide +kernel
theorem dc_T_removeBelow_82 : decode bc_T_removeBelow 82 = .ok (.invokevirtual 48, 3) := by decide +kernel
theorem dc_T_removeBelow_85 : decode bc_T_removeBelow 85 = .ok (.aload_n 0, 1) := by decide +kernel
theorem dc_T_removeBelow_86 : decode bc_T_removeBelow 86 = .ok (.getfield 23, 3) := by decide +kernel
theorem dc_T_removeBelow_89 : decode bc_T_removeBelow 89 = .ok (.if_icmp .ge 16, 3) := by decide +kernel
theorem dc_T_removeBelow_105 : decode bc_T_removeBelow 105 = .ok (.return_, 1) := by decide +kernel
theorem dc_T_removeBelow_92 : decode bc_T_removeBelow 92 = .ok (.aload_n 0, 1) := by decide +kernel
theorem dc_T_removeBelow_93 : decode bc_T_removeBelow 93 = .ok (.iload_n 1, 1) := by decide +kernel
theorem dc_T_removeBelow_94 : decode bc_T_removeBelow 94 = .ok (.iconst 0, 1) := by decide +kernel
theorem dc_T_removeBelow_95 : decode bc_T_removeBelow 95 = .ok (.iload 4, 2) := by decide +kernel
theorem dc_T_removeBelow_97 : decode bc_T_removeBelow 97 = .ok (.iconst 1, 1) := by decide +kernel
theorem dc_T_removeBelow_98 : decode bc_T_removeBelow 98 = .ok (.isub, 1) := by decide +kernel
theorem dc_T_removeBelow_99 : decode bc_T_removeBelow 99 = .ok (.invokestatic 51, 3) := by decide +kernel
theorem dc_T_removeBelow_102 : decode bc_T_removeBelow 102 = .ok (.invokevirtual 101, 3) := by decide +kernel
theorem dc_T_removeBelow_11 : decode bc_T_removeBelow 11 = .ok (.aload_n 0, 1) := by decide +kernel
theorem dc_T_removeBelow_12 : decode bc_T_removeBelow 12 = .ok (.getfield 9, 3) := by decide +kernel
theorem dc_T_removeBelow_15 : decode bc_T_removeBelow 15 = .ok (.iload_n 1, 1) := by decide +kernel
theorem dc_T_removeBelow_16 : decode bc_T_removeBelow 16 = .ok (.aload_n 0, 1) := by decide +kernel
theorem dc_T_removeBelow_17 : decode bc_T_removeBelow 17 = .ok (.getfield 9, 3) := by decide +kernel
theorem dc_T_removeBelow_20 : decode bc_T_removeBelow 20 = .ok (.iload_n 1, 1) := by decide +kernel
theorem dc_T_removeBelow_21 : decode bc_T_removeBelow 21 = .ok (.iload_n 3, 1) := by decide +kernel
theorem dc_T_removeBelow_22 : decode bc_T_removeBelow 22 = .ok (.invokevirtual 38, 3) := by decide +kernel
theorem dc_T_removeBelow_25 : decode bc_T_removeBelow 25 = .ok (.invokevirtual 98, 3) := by decide +kernel
theorem dc_T_removeBelow_28 : decode bc_T_removeBelow 28 = .ok (.return_, 1) := by decide +kernel
theorem dc_T_removeBelow_6 : decode bc_T_removeBelow 6 = .ok (.return_, 1) := by decide +kernel
theorem dc_T_fill_0 : decode bc_T_fill 0 = .ok (.aload_n 0, 1) := by decide +kernel
theorem dc_T_fill_1 : decode bc_T_fill 1 = .ok (.iload_n 1, 1) := by decide +kernel
theorem dc_T_fill_2 : decode bc_T_fill 2 = .ok (.iload_n 2, 1) := by decide +kernel
theorem dc_T_fill_3 : decode bc_T_fill 3 = .ok (.invokevirtual 73, 3) := by decide +kernel
theorem dc_T_fill_6 : decode bc_T_fill 6 = .ok (.istore_n 3, 1) := by decide +kernel
theorem dc_T_fill_7 : decode bc_T_fill 7 = .ok (.aload_n 0, 1) := by decide +kernel
theorem dc_T_fill_8 : decode bc_T_fill 8 = .ok (.iload_n 1, 1) := by decide +kernel
theorem dc_T_fill_9 : decode bc_T_fill 9 = .ok (.iload_n 2, 1) := by decide +kernel
theorem dc_T_fill_10 : decode bc_T_fill 10 = .ok (.iconst 1, 1) := by decide +kernel
theorem dc_T_fill_11 : decode bc_T_fill 11 = .ok (.iadd, 1) := by decide +kernel
theorem dc_T_fill_12 : decode bc_T_fill 12 = .ok (.invokevirtual 73, 3) := by decide +kernel
theorem dc_T_fill_15 : decode bc_T_fill 15 = .ok (.istore 4, 2) := by decide +kernel
theorem dc_T_fill_17 : decode bc_T_fill 17 = .ok (.aload_n 0, 1) := by decide +kernel
theorem dc_T_fill_18 : decode bc_T_fill 18 = .ok (.getfield 9, 3) := by decide +kernel
theorem dc_T_fill_21 : decode bc_T_fill 21 = .ok (.iload_n 3, 1) := by decide +kernel
theorem dc_T_fill_22 : decode bc_T_fill 22 = .ok (.invokevirtual 48, 3) := by decide +kernel
theorem dc_T_fill_25 : decode bc_T_fill 25 = .ok (.aload_n 0, 1) := by decide +kernel
theorem dc_T_fill_26 : decode bc_T_fill 26 = .ok (.getfield 9, 3) := by decide +kernel
theorem dc_T_fill_29 : decode bc_T_fill 29 = .ok (.iload 4, 2) := by decide +kernel
theorem dc_T_fill_31 : decode bc_T_fill 31 = .ok (.invokevirtual 48, 3) := by decide +kernel
theorem dc_T_fill_34 : decode bc_T_fill 34 = .ok (.iadd, 1) := by decide +kernel
theorem dc_T_fill_35 : decode bc_T_fill 35 = .ok (.aload_n 0, 1) := by decide +kernel
theorem dc_T_fill_36 : decode bc_T_fill 36 = .ok (.getfield 15, 3) := by decide +kernel
theorem dc_T_fill_39 : decode bc_T_fill 39 = .ok (.if_icmp .gt 35, 3) := by decide +kernel
theorem dc_T_fill_74 : decode bc_T_fill 74 = .ok (.aload_n 0, 1) := by decide +kernel
theorem dc_T_fill_75 : decode bc_T_fill 75 = .ok (.getfield 9, 3) := by decide +kernel
theorem dc_T_fill_78 : decode bc_T_fill 78 = .ok (.iload_n 3, 1) := by decide +kernel
theorem dc_T_fill_79 : decode bc_T_fill 79 = .ok (.invokevirtual 48, 3) := by decide +kernel
theorem dc_T_fill_82 : decode bc_T_fill 82 = .ok (.aload_n 0, 1) := by decide +kernel
theorem dc_T_fill_83 : decode bc_T_fill 83 = .ok (.getfield 9, 3) := by decide +kernel
theorem dc_T_fill_86 : decode bc_T_fill 86 = .ok (.iload 4, 2) := by decide +kernel
theorem dc_T_fill_88 : decode bc_T_fill 88 = .ok (.invokevirtual 48, 3) := by decide +kernel
theorem dc_T_fill_91 : decode bc_T_fill 91 = .ok (.if_icmp .ge 22, 3) := by decide +kernel
theorem dc_T_fill_113 : decode bc_T_fill 113 = .ok (.aload_n 0, 1) := by decide +kernel
theorem dc_T_fill_114 : decode bc_T_fill 114 = .ok (.iload_n 3, 1) := by decide +kernel
theorem dc_T_fill_115 : decode bc_T_fill 115 = .ok (.aload_n 0, 1) := by decide +kernel
theorem dc_T_fill_116 : decode bc_T_fill 116 = .ok (.getfield 9, 3) := by decide +kernel
theorem dc_T_fill_119 : decode bc_T_fill 119 = .ok (.iload_n 3, 1) := by decide +kernel
theorem dc_T_fill_120 : decode bc_T_fill 120 = .ok (.invokevirtual 48, 3) := by decide +kernel
theorem dc_T_fill_123 : decode bc_T_fill 123 = .ok (.iconst 1, 1) := by decide +kernel
theorem dc_T_fill_124 : decode bc_T_fill 124 = .ok (.isub, 1) := by decide +kernel
theorem dc_T_fill_125 : decode bc_T_fill 125 = .ok (.iload 4, 2) := by decide +kernel
theorem dc_T_fill_127 : decode bc_T_fill 127 = .ok (.iconst 0, 1) := by decide +kernel
theorem dc_T_fill_128 : decode bc_T_fill 128 = .ok (.invokevirtual 108, 3) := by decide +kernel
theorem dc_T_fill_131 : decode bc_T_fill 131 = .ok (.aload_n 0, 1) := by decide +kernel
theorem dc_T_fill_132 : decode bc_T_fill 132 = .ok (.getfield 9, 3) := by decide +kernel
theorem dc_T_fill_135 : decode bc_T_fill 135 = .ok (.iload_n 1, 1) := by decide +kernel
theorem dc_T_fill_136 : decode bc_T_fill 136 = .ok (.iload_n 2, 1) := by decide +kernel
theorem dc_T_fill_137 : decode bc_T_fill 137 = .ok (.iconst 1, 1) := by decide +kernel
theorem dc_T_fill_138 : decode bc_T_fill 138 = .ok (.iadd, 1) := by decide +kernel
theorem dc_T_fill_139 : decode bc_T_fill 139 = .ok (.aload_n 0, 1) := by decide +kernel
theorem dc_T_fill_140 : decode bc_T_fill 140 = .ok (.getfield 9, 3) := by decide +kernel
theorem dc_T_fill_143 : decode bc_T_fill 143 = .ok (.iload 4, 2) := by decide +kernel
theorem dc_T_fill_145 : decode bc_T_fill 145 = .ok (.iconst 0, 1) := by decide +kernel
theorem dc_T_fill_146 : decode bc_T_fill 146 = .ok (.invokevirtual 41, 3) := by decide +kernel
theorem dc_T_fill_149 : decode bc_T_fill 149 = .ok (.invokevirtual 76, 3) := by decide +kernel
theorem dc_T_fill_152 : decode bc_T_fill 152 = .ok (.return_, 1) := by decide +kernel
theorem dc_T_fill_94 : decode bc_T_fill 94 = .ok (.aload_n 0, 1) := by decide +kernel
theorem dc_T_fill_95 : decode bc_T_fill 95 = .ok (.iload 4, 2) := by decide +kernel
theorem dc_T_fill_97 : decode bc_T_fill 97 = .ok (.iconst 0, 1) := by decide +kernel
end
section
theorem dc_T_fill_98 : decode bc_T_fill 98 = .ok (.iload_n 3, 1) := by decide +kernel
theorem dc_T_fill_99 : decode bc_T_fill 99 = .ok (.aload_n 0, 1) := by decide +kernel
theorem dc_T_fill_100 : decode bc_T_fill 100 = .ok (.getfield 9, 3) := by decide +kernel
theorem dc_T_fill_103 : decode bc_T_fill 103 = .ok (.iload_n 3, 1) := by decide +kernel
theorem dc_T_fill_104 : decode bc_T_fill 104 = .ok (.invokevirtual 48, 3) := by decide +kernel
theorem dc_T_fill_107 : decode bc_T_fill 107 = .ok (.invokevirtual 108, 3) := by decide +kernel
theorem dc_T_fill_110 : decode bc_T_fill 110 = .ok (.goto 21, 3) := by decide +kernel
theorem dc_T_fill_42 : decode bc_T_fill 42 = .ok (.aload_n 0, 1) := by decide +kernel
theorem dc_T_fill_43 : decode bc_T_fill 43 = .ok (.getfield 9, 3) := by decide +kernel
theorem dc_T_fill_46 : decode bc_T_fill 46 = .ok (.iload 4, 2) := by decide +kernel
theorem dc_T_fill_48 : decode bc_T_fill 48 = .ok (.iconst 0, 1) := by decide +kernel
theorem dc_T_fill_49 : decode bc_T_fill 49 = .ok (.iload_n 3, 1) := by decide +kernel
theorem dc_T_fill_50 : decode bc_T_fill 50 = .ok (.invokevirtual 89, 3) := by decide +kernel
theorem dc_T_fill_53 : decode bc_T_fill 53 = .ok (.aload_n 0, 1) := by decide +kernel
theorem dc_T_fill_54 : decode bc_T_fill 54 = .ok (.getfield 9, 3) := by decide +kernel
theorem dc_T_fill_57 : decode bc_T_fill 57 = .ok (.iload 4, 2) := by decide +kernel
theorem dc_T_fill_59 : decode bc_T_fill 59 = .ok (.invokevirtual 104, 3) := by decide +kernel
theorem dc_T_fill_62 : decode bc_T_fill 62 = .ok (.aload_n 0, 1) := by decide +kernel
theorem dc_T_fill_63 : decode bc_T_fill 63 = .ok (.getfield 9, 3) := by decide +kernel
theorem dc_T_fill_66 : decode bc_T_fill 66 = .ok (.iload_n 1, 1) := by decide +kernel
theorem dc_T_fill_67 : decode bc_T_fill 67 = .ok (.iload_n 2, 1) := by decide +kernel
theorem dc_T_fill_68 : decode bc_T_fill 68 = .ok (.iconst 1, 1) := by decide +kernel
theorem dc_T_fill_69 : decode bc_T_fill 69 = .ok (.iadd, 1) := by decide +kernel
theorem dc_T_fill_70 : decode bc_T_fill 70 = .ok (.invokevirtual 98, 3) := by decide +kernel
theorem dc_T_fill_73 : decode bc_T_fill 73 = .ok (.return_, 1) := by decide +kernel
theorem dc_T_moveEntry_0 : decode bc_T_moveEntry 0 = .ok (.aload_n 0, 1) := by decide +kernel
theorem dc_T_moveEntry_1 : decode bc_T_moveEntry 1 = .ok (.getfield 9, 3) := by decide +kernel
theorem dc_T_moveEntry_4 : decode bc_T_moveEntry 4 = .ok (.iload_n 3, 1) := by decide +kernel
theorem dc_T_moveEntry_5 : decode bc_T_moveEntry 5 = .ok (.iload 4, 2) := by decide +kernel
theorem dc_T_moveEntry_7 : decode bc_T_moveEntry 7 = .ok (.aload_n 0, 1) := by decide +kernel
theorem dc_T_moveEntry_8 : decode bc_T_moveEntry 8 = .ok (.getfield 9, 3) := by decide +kernel
theorem dc_T_moveEntry_11 : decode bc_T_moveEntry 11 = .ok (.iload_n 1, 1) := by decide +kernel
theorem dc_T_moveEntry_12 : decode bc_T_moveEntry 12 = .ok (.iload_n 2, 1) := by decide +kernel
theorem dc_T_moveEntry_13 : decode bc_T_moveEntry 13 = .ok (.invokevirtual 41, 3) := by decide +kernel
theorem dc_T_moveEntry_16 : decode bc_T_moveEntry 16 = .ok (.aload_n 0, 1) := by decide +kernel
theorem dc_T_moveEntry_17 : decode bc_T_moveEntry 17 = .ok (.getfield 9, 3) := by decide +kernel
theorem dc_T_moveEntry_20 : decode bc_T_moveEntry 20 = .ok (.iload_n 1, 1) := by decide +kernel
theorem dc_T_moveEntry_21 : decode bc_T_moveEntry 21 = .ok (.iload_n 2, 1) := by decide +kernel
theorem dc_T_moveEntry_22 : decode bc_T_moveEntry 22 = .ok (.invokevirtual 35, 3) := by decide +kernel
theorem dc_T_moveEntry_25 : decode bc_T_moveEntry 25 = .ok (.invokevirtual 86, 3) := by decide +kernel
theorem dc_T_moveEntry_28 : decode bc_T_moveEntry 28 = .ok (.aload_n 0, 1) := by decide +kernel
theorem dc_T_moveEntry_29 : decode bc_T_moveEntry 29 = .ok (.getfield 9, 3) := by decide +kernel
theorem dc_T_moveEntry_32 : decode bc_T_moveEntry 32 = .ok (.iload_n 1, 1) := by decide +kernel
theorem dc_T_moveEntry_33 : decode bc_T_moveEntry 33 = .ok (.iload_n 2, 1) := by decide +kernel
theorem dc_T_moveEntry_34 : decode bc_T_moveEntry 34 = .ok (.invokevirtual 98, 3) := by decide +kernel
theorem dc_T_moveEntry_37 : decode bc_T_moveEntry 37 = .ok (.return_, 1) := by decide +kernel
theorem dc_B_remove_0 : decode bc_B_remove 0 = .ok (.aload_n 0, 1) := by decide +kernel
theorem dc_B_remove_1 : decode bc_B_remove 1 = .ok (.iload_n 1, 1) := by decide +kernel
theorem dc_B_remove_2 : decode bc_B_remove 2 = .ok (.invokevirtual 45, 3) := by decide +kernel
theorem dc_B_remove_5 : decode bc_B_remove 5 = .ok (.istore_n 3, 1) := by decide +kernel
theorem dc_B_remove_6 : decode bc_B_remove 6 = .ok (.aload_n 0, 1) := by decide +kernel
theorem dc_B_remove_7 : decode bc_B_remove 7 = .ok (.iload_n 1, 1) := by decide +kernel
theorem dc_B_remove_8 : decode bc_B_remove 8 = .ok (.iload_n 2, 1) := by decide +kernel
theorem dc_B_remove_9 : decode bc_B_remove 9 = .ok (.invokevirtual 41, 3) := by decide +kernel
theorem dc_B_remove_12 : decode bc_B_remove 12 = .ok (.ifCond .eq 11, 3) := by decide +kernel
theorem dc_B_remove_23 : decode bc_B_remove 23 = .ok (.return_, 1) := by decide +kernel
theorem dc_B_remove_15 : decode bc_B_remove 15 = .ok (.iload_n 3, 1) := by decide +kernel
theorem dc_B_remove_16 : decode bc_B_remove 16 = .ok (.aload_n 0, 1) := by decide +kernel
theorem dc_B_remove_17 : decode bc_B_remove 17 = .ok (.getfield 28, 3) := by decide +kernel
theorem dc_B_remove_20 : decode bc_B_remove 20 = .ok (.if_icmp .le 4, 3) := by decide +kernel
theorem dc_B_remove_24 : decode bc_B_remove 24 = .ok (.iload_n 1, 1) := by decide +kernel
theorem dc_B_remove_25 : decode bc_B_remove 25 = .ok (.aload_n 0, 1) := by decide +kernel
theorem dc_B_remove_26 : decode bc_B_remove 26 = .ok (.getfield 28, 3) := by decide +kernel
theorem dc_B_remove_29 : decode bc_B_remove 29 = .ok (.imul, 1) := by decide +kernel
theorem dc_B_remove_30 : decode bc_B_remove 30 = .ok (.iload_n 2, 1) := by decide +kernel
theorem dc_B_remove_31 : decode bc_B_remove 31 = .ok (.iadd, 1) := by decide +kernel
theorem dc_B_remove_32 : decode bc_B_remove 32 = .ok (.istore 4, 2) := by decide +kernel
theorem dc_B_remove_34 : decode bc_B_remove 34 = .ok (.aload_n 0, 1) := by decide +kernel
theorem dc_B_remove_35 : decode bc_B_remove 35 = .ok (.getfield 31, 3) := by decide +kernel
theorem dc_B_remove_38 : decode bc_B_remove 38 = .ok (.iload 4, 2) := by decide +kernel
theorem dc_B_remove_40 : decode bc_B_remove 40 = .ok (.iconst 1, 1) := by decide +kernel
theorem dc_B_remove_41 : decode bc_B_remove 41 = .ok (.iadd, 1) := by decide +kernel
theorem dc_B_remove_42 : decode bc_B_remove 42 = .ok (.aload_n 0, 1) := by decide +kernel
theorem dc_B_remove_43 : decode bc_B_remove 43 = .ok (.getfield 31, 3) := by decide +kernel
theorem dc_B_remove_46 : decode bc_B_remove 46 = .ok (.iload 4, 2) := by decide +kernel
theorem dc_B_remove_48 : decode bc_B_remove 48 = .ok (.iload_n 3, 1) := by decide +kernel
theorem dc_B_remove_49 : decode bc_B_remove 49 = .ok (.iload_n 2, 1) := by decide +kernel
theorem dc_B_remove_50 : decode bc_B_remove 50 = .ok (.isub, 1) := by decide +kernel
theorem dc_B_remove_51 : decode bc_B_remove 51 = .ok (.iconst 1, 1) := by decide +kernel
theorem dc_B_remove_52 : decode bc_B_remove 52 = .ok (.isub, 1) := by decide +kernel
theorem dc_B_remove_53 : decode bc_B_remove 53 = .ok (.invokestatic 77, 3) := by decide +kernel
theorem dc_B_remove_56 : decode bc_B_remove 56 = .ok (.aload_n 0, 1) := by decide +kernel
theorem dc_B_remove_57 : decode bc_B_remove 57 = .ok (.getfield 34, 3) := by decide +kernel
theorem dc_B_remove_60 : decode bc_B_remove 60 = .ok (.iload 4, 2) := by decide +kernel
theorem dc_B_remove_62 : decode bc_B_remove 62 = .ok (.iconst 1, 1) := by decide +kernel
theorem dc_B_remove_63 : decode bc_B_remove 63 = .ok (.iadd, 1) := by decide +kernel
theorem dc_B_remove_64 : decode bc_B_remove 64 = .ok (.aload_n 0, 1) := by decide +kernel
theorem dc_B_remove_65 : decode bc_B_remove 65 = .ok (.getfield 34, 3) := by decide +kernel
theorem dc_B_remove_68 : decode bc_B_remove 68 = .ok (.iload 4, 2) := by decide +kernel
theorem dc_B_remove_70 : decode bc_B_remove 70 = .ok (.iload_n 3, 1) := by decide +kernel
theorem dc_B_remove_71 : decode bc_B_remove 71 = .ok (.iload_n 2, 1) := by decide +kernel
theorem dc_B_remove_72 : decode bc_B_remove 72 = .ok (.isub, 1) := by decide +kernel
theorem dc_B_remove_73 : decode bc_B_remove 73 = .ok (.iconst 1, 1) := by decide +kernel
theorem dc_B_remove_74 : decode bc_B_remove 74 = .ok (.isub, 1) := by decide +kernel
theorem dc_B_remove_75 : decode bc_B_remove 75 = .ok (.invokestatic 77, 3) := by decide +kernel
theorem dc_B_remove_78 : decode bc_B_remove 78 = .ok (.aload_n 0, 1) := by decide +kernel
theorem dc_B_remove_79 : decode bc_B_remove 79 = .ok (.getfield 18, 3) := by decide +kernel
theorem dc_B_remove_82 : decode bc_B_remove 82 = .ok (.iload_n 1, 1) := by decide +kernel
theorem dc_B_remove_83 : decode bc_B_remove 83 = .ok (.iload_n 3, 1) := by decide +kernel
theorem dc_B_remove_84 : decode bc_B_remove 84 = .ok (.iconst 1, 1) := by decide +kernel
theorem dc_B_remove_85 : decode bc_B_remove 85 = .ok (.isub, 1) := by decide +kernel
theorem dc_B_remove_86 : decode bc_B_remove 86 = .ok (.iastore, 1) := by decide +kernel
theorem dc_B_remove_87 : decode bc_B_remove 87 = .ok (.return_, 1) := by decide +kernel
theorem dc_B_give_0 : decode bc_B_give 0 = .ok (.aload_n 0, 1) := by decide +kernel
theorem dc_B_give_1 : decode bc_B_give 1 = .ok (.iload_n 1, 1) := by decide +kernel
theorem dc_B_give_2 : decode bc_B_give 2 = .ok (.invokevirtual 37, 3) := by decide +kernel
theorem dc_B_give_5 : decode bc_B_give 5 = .ok (.ifCond .eq 61, 3) := by decide +kernel
theorem dc_B_give_66 : decode bc_B_give 66 = .ok (.return_, 1) := by decide +kernel
theorem dc_B_give_8 : decode bc_B_give 8 = .ok (.aload_n 0, 1) := by decide +kernel
theorem dc_B_give_9 : decode bc_B_give 9 = .ok (.getfield 24, 3) := by decide +kernel
theorem dc_B_give_12 : decode bc_B_give 12 = .ok (.ifCond .lt 54, 3) := by decide +kernel
theorem dc_B_give_15 : decode bc_B_give 15 = .ok (.aload_n 0, 1) := by decide +kernel
theorem dc_B_give_16 : decode bc_B_give 16 = .ok (.getfield 24, 3) := by decide +kernel
theorem dc_B_give_19 : decode bc_B_give 19 = .ok (.sipush 1200, 3) := by decide +kernel
theorem dc_B_give_22 : decode bc_B_give 22 = .ok (.if_icmp .ge 44, 3) := by decide +kernel
theorem dc_B_give_25 : decode bc_B_give 25 = .ok (.aload_n 0, 1) := by decide +kernel
theorem dc_B_give_26 : decode bc_B_give 26 = .ok (.getfield 9, 3) := by decide +kernel
theorem dc_B_give_29 : decode bc_B_give 29 = .ok (.iload_n 1, 1) := by decide +kernel
theorem dc_B_give_30 : decode bc_B_give 30 = .ok (.iconst 0, 1) := by decide +kernel
theorem dc_B_give_31 : decode bc_B_give 31 = .ok (.iastore, 1) := by decide +kernel
theorem dc_B_give_32 : decode bc_B_give 32 = .ok (.aload_n 0, 1) := by decide +kernel
theorem dc_B_give_33 : decode bc_B_give 33 = .ok (.getfield 15, 3) := by decide +kernel
theorem dc_B_give_36 : decode bc_B_give 36 = .ok (.iload_n 1, 1) := by decide +kernel
theorem dc_B_give_37 : decode bc_B_give 37 = .ok (.iconst 0, 1) := by decide +kernel
theorem dc_B_give_38 : decode bc_B_give 38 = .ok (.iastore, 1) := by decide +kernel
theorem dc_B_give_39 : decode bc_B_give 39 = .ok (.aload_n 0, 1) := by decide +kernel
theorem dc_B_give_40 : decode bc_B_give 40 = .ok (.getfield 18, 3) := by decide +kernel
theorem dc_B_give_43 : decode bc_B_give 43 = .ok (.iload_n 1, 1) := by decide +kernel
theorem dc_B_give_44 : decode bc_B_give 44 = .ok (.iconst 0, 1) := by decide +kernel
theorem dc_B_give_45 : decode bc_B_give 45 = .ok (.iastore, 1) := by decide +kernel
theorem dc_B_give_46 : decode bc_B_give 46 = .ok (.aload_n 0, 1) := by decide +kernel
theorem dc_B_give_47 : decode bc_B_give 47 = .ok (.getfield 21, 3) := by decide +kernel
theorem dc_B_give_50 : decode bc_B_give 50 = .ok (.aload_n 0, 1) := by decide +kernel
theorem dc_B_give_51 : decode bc_B_give 51 = .ok (.getfield 24, 3) := by decide +kernel
theorem dc_B_give_54 : decode bc_B_give 54 = .ok (.iload_n 1, 1) := by decide +kernel
theorem dc_B_give_55 : decode bc_B_give 55 = .ok (.iastore, 1) := by decide +kernel
theorem dc_B_give_56 : decode bc_B_give 56 = .ok (.aload_n 0, 1) := by decide +kernel
theorem dc_B_give_57 : decode bc_B_give 57 = .ok (.dup, 1) := by decide +kernel
theorem dc_B_give_58 : decode bc_B_give 58 = .ok (.getfield 24, 3) := by decide +kernel
theorem dc_B_give_61 : decode bc_B_give 61 = .ok (.iconst 1, 1) := by decide +kernel
theorem dc_B_give_62 : decode bc_B_give 62 = .ok (.iadd, 1) := by decide +kernel
theorem dc_B_give_63 : decode bc_B_give 63 = .ok (.putfield 24, 3) := by decide +kernel
theorem dc_T_shrunk_0 : decode bc_T_shrunk 0 = .ok (.aload_n 0, 1) := by decide +kernel
theorem dc_T_shrunk_1 : decode bc_T_shrunk 1 = .ok (.getfield 9, 3) := by decide +kernel
theorem dc_T_shrunk_4 : decode bc_T_shrunk 4 = .ok (.iload_n 1, 1) := by decide +kernel
theorem dc_T_shrunk_5 : decode bc_T_shrunk 5 = .ok (.invokevirtual 48, 3) := by decide +kernel
theorem dc_T_shrunk_8 : decode bc_T_shrunk 8 = .ok (.ifCond .ne 13, 3) := by decide +kernel
theorem dc_T_shrunk_21 : decode bc_T_shrunk 21 = .ok (.aload_n 0, 1) := by decide +kernel
theorem dc_T_shrunk_22 : decode bc_T_shrunk 22 = .ok (.getfield 9, 3) := by decide +kernel
theorem dc_T_shrunk_25 : decode bc_T_shrunk 25 = .ok (.iload_n 1, 1) := by decide +kernel
theorem dc_T_shrunk_26 : decode bc_T_shrunk 26 = .ok (.invokevirtual 26, 3) := by decide +kernel
theorem dc_T_shrunk_29 : decode bc_T_shrunk 29 = .ok (.ifCond .le 35, 3) := by decide +kernel
theorem dc_T_shrunk_64 : decode bc_T_shrunk 64 = .ok (.iload_n 1, 1) := by decide +kernel
theorem dc_T_shrunk_65 : decode bc_T_shrunk 65 = .ok (.ireturn, 1) := by decide +kernel
theorem dc_T_shrunk_32 : decode bc_T_shrunk 32 = .ok (.aload_n 0, 1) := by decide +kernel
theorem dc_T_shrunk_33 : decode bc_T_shrunk 33 = .ok (.getfield 9, 3) := by decide +kernel
theorem dc_T_shrunk_36 : decode bc_T_shrunk 36 = .ok (.iload_n 1, 1) := by decide +kernel
theorem dc_T_shrunk_37 : decode bc_T_shrunk 37 = .ok (.invokevirtual 48, 3) := by decide +kernel
theorem dc_T_shrunk_40 : decode bc_T_shrunk 40 = .ok (.iconst 1, 1) := by decide +kernel
theorem dc_T_shrunk_41 : decode bc_T_shrunk 41 = .ok (.if_icmp .ne 23, 3) := by decide +kernel
theorem dc_T_shrunk_44 : decode bc_T_shrunk 44 = .ok (.aload_n 0, 1) := by decide +kernel
theorem dc_T_shrunk_45 : decode bc_T_shrunk 45 = .ok (.getfield 9, 3) := by decide +kernel
theorem dc_T_shrunk_48 : decode bc_T_shrunk 48 = .ok (.iload_n 1, 1) := by decide +kernel
theorem dc_T_shrunk_49 : decode bc_T_shrunk 49 = .ok (.iconst 0, 1) := by decide +kernel
theorem dc_T_shrunk_50 : decode bc_T_shrunk 50 = .ok (.invokevirtual 35, 3) := by decide +kernel
theorem dc_T_shrunk_53 : decode bc_T_shrunk 53 = .ok (.istore_n 2, 1) := by decide +kernel
theorem dc_T_shrunk_54 : decode bc_T_shrunk 54 = .ok (.aload_n 0, 1) := by decide +kernel
theorem dc_T_shrunk_55 : decode bc_T_shrunk 55 = .ok (.getfield 9, 3) := by decide +kernel
theorem dc_T_shrunk_58 : decode bc_T_shrunk 58 = .ok (.iload_n 1, 1) := by decide +kernel
theorem dc_T_shrunk_59 : decode bc_T_shrunk 59 = .ok (.invokevirtual 104, 3) := by decide +kernel
theorem dc_T_shrunk_62 : decode bc_T_shrunk 62 = .ok (.iload_n 2, 1) := by decide +kernel
theorem dc_T_shrunk_63 : decode bc_T_shrunk 63 = .ok (.ireturn, 1) := by decide +kernel
theorem dc_T_shrunk_11 : decode bc_T_shrunk 11 = .ok (.aload_n 0, 1) := by decide +kernel
theorem dc_T_shrunk_12 : decode bc_T_shrunk 12 = .ok (.getfield 9, 3) := by decide +kernel
theorem dc_T_shrunk_15 : decode bc_T_shrunk 15 = .ok (.iload_n 1, 1) := by decide +kernel
theorem dc_T_shrunk_16 : decode bc_T_shrunk 16 = .ok (.invokevirtual 104, 3) := by decide +kernel
theorem dc_T_shrunk_19 : decode bc_T_shrunk 19 = .ok (.iconst 0, 1) := by decide +kernel
theorem dc_T_shrunk_20 : decode bc_T_shrunk 20 = .ok (.ireturn, 1) := by decide +kernel
theorem dc_R_erase_0 : decode bc_R_erase 0 = .ok (.aload_n 0, 1) := by decide +kernel
theorem dc_R_erase_1 : decode bc_R_erase 1 = .ok (.iload_n 1, 1) := by decide +kernel
theorem dc_R_erase_2 : decode bc_R_erase 2 = .ok (.iload_n 2, 1) := by decide +kernel
theorem dc_R_erase_3 : decode bc_R_erase 3 = .ok (.invokevirtual 42, 3) := by decide +kernel
theorem dc_R_erase_6 : decode bc_R_erase 6 = .ok (.istore_n 3, 1) := by decide +kernel
theorem dc_R_erase_7 : decode bc_R_erase 7 = .ok (.iload_n 3, 1) := by decide +kernel
theorem dc_R_erase_8 : decode bc_R_erase 8 = .ok (.ifCond .lt 26, 3) := by decide +kernel
theorem dc_R_erase_34 : decode bc_R_erase 34 = .ok (.iload_n 3, 1) := by decide +kernel
theorem dc_R_erase_35 : decode bc_R_erase 35 = .ok (.ireturn, 1) := by decide +kernel
theorem dc_R_erase_11 : decode bc_R_erase 11 = .ok (.aload_n 0, 1) := by decide +kernel
theorem dc_R_erase_12 : decode bc_R_erase 12 = .ok (.getfield 8, 3) := by decide +kernel
theorem dc_R_erase_15 : decode bc_R_erase 15 = .ok (.sipush 4096, 3) := by decide +kernel
theorem dc_R_erase_18 : decode bc_R_erase 18 = .ok (.iload_n 1, 1) := by decide +kernel
theorem dc_R_erase_19 : decode bc_R_erase 19 = .ok (.imul, 1) := by decide +kernel
theorem dc_R_erase_20 : decode bc_R_erase 20 = .ok (.iload_n 2, 1) := by decide +kernel
theorem dc_R_erase_21 : decode bc_R_erase 21 = .ok (.iadd, 1) := by decide +kernel
theorem dc_R_erase_22 : decode bc_R_erase 22 = .ok (.iconst 0, 1) := by decide +kernel
theorem dc_R_erase_23 : decode bc_R_erase 23 = .ok (.iastore, 1) := by decide +kernel
theorem dc_R_erase_24 : decode bc_R_erase 24 = .ok (.aload_n 0, 1) := by decide +kernel
theorem dc_R_erase_25 : decode bc_R_erase 25 = .ok (.getfield 17, 3) := by decide +kernel
theorem dc_R_erase_28 : decode bc_R_erase 28 = .ok (.iload_n 1, 1) := by decide +kernel
theorem dc_R_erase_29 : decode bc_R_erase 29 = .ok (.dup2, 1) := by decide +kernel
theorem dc_R_erase_30 : decode bc_R_erase 30 = .ok (.iaload, 1) := by decide +kernel
theorem dc_R_erase_31 : decode bc_R_erase 31 = .ok (.iconst 1, 1) := by decide +kernel
theorem dc_R_erase_32 : decode bc_R_erase 32 = .ok (.isub, 1) := by decide +kernel
theorem dc_R_erase_33 : decode bc_R_erase 33 = .ok (.iastore, 1) := by decide +kernel
theorem dc_S_cut_0 : decode bc_S_cut 0 = .ok (.iload_n 1, 1) := by decide +kernel
theorem dc_S_cut_1 : decode bc_S_cut 1 = .ok (.invokestatic 53, 3) := by decide +kernel
theorem dc_S_cut_4 : decode bc_S_cut 4 = .ok (.ifCond .eq 22, 3) := by decide +kernel
theorem dc_S_cut_26 : decode bc_S_cut 26 = .ok (.iconst (-1), 1) := by decide +kernel
theorem dc_S_cut_27 : decode bc_S_cut 27 = .ok (.ireturn, 1) := by decide +kernel
theorem dc_S_cut_7 : decode bc_S_cut 7 = .ok (.iload_n 2, 1) := by decide +kernel
theorem dc_S_cut_8 : decode bc_S_cut 8 = .ok (.invokestatic 57, 3) := by decide +kernel
theorem dc_S_cut_11 : decode bc_S_cut 11 = .ok (.ifCond .eq 15, 3) := by decide +kernel
theorem dc_S_cut_14 : decode bc_S_cut 14 = .ok (.iload_n 3, 1) := by decide +kernel
theorem dc_S_cut_15 : decode bc_S_cut 15 = .ok (.invokestatic 57, 3) := by decide +kernel
theorem dc_S_cut_18 : decode bc_S_cut 18 = .ok (.ifCond .eq 8, 3) := by decide +kernel
theorem dc_S_cut_21 : decode bc_S_cut 21 = .ok (.iload_n 3, 1) := by decide +kernel
theorem dc_S_cut_22 : decode bc_S_cut 22 = .ok (.iload_n 2, 1) := by decide +kernel
theorem dc_S_cut_23 : decode bc_S_cut 23 = .ok (.if_icmp .ge 5, 3) := by decide +kernel
theorem dc_S_cut_28 : decode bc_S_cut 28 = .ok (.iconst 0, 1) := by decide +kernel
theorem dc_S_cut_29 : decode bc_S_cut 29 = .ok (.istore 4, 2) := by decide +kernel
theorem dc_S_cut_31 : decode bc_S_cut 31 = .ok (.aload_n 0, 1) := by decide +kernel
theorem dc_S_cut_32 : decode bc_S_cut 32 = .ok (.getfield 32, 3) := by decide +kernel
theorem dc_S_cut_35 : decode bc_S_cut 35 = .ok (.aload_n 0, 1) := by decide +kernel
theorem dc_S_cut_36 : decode bc_S_cut 36 = .ok (.getfield 46, 3) := by decide +kernel
theorem dc_S_cut_39 : decode bc_S_cut 39 = .ok (.getfield 63, 3) := by decide +kernel
theorem dc_S_cut_42 : decode bc_S_cut 42 = .ok (.iload_n 1, 1) := by decide +kernel
theorem dc_S_cut_43 : decode bc_S_cut 43 = .ok (.iaload, 1) := by decide +kernel
theorem dc_S_cut_44 : decode bc_S_cut 44 = .ok (.iload_n 2, 1) := by decide +kernel
theorem dc_S_cut_45 : decode bc_S_cut 45 = .ok (.invokevirtual 91, 3) := by decide +kernel
theorem dc_S_cut_48 : decode bc_S_cut 48 = .ok (.istore 5, 2) := by decide +kernel
theorem dc_S_cut_50 : decode bc_S_cut 50 = .ok (.iload 4, 2) := by decide +kernel
theorem dc_S_cut_52 : decode bc_S_cut 52 = .ok (.sipush 600, 3) := by decide +kernel
theorem dc_S_cut_55 : decode bc_S_cut 55 = .ok (.if_icmp .ge 69, 3) := by decide +kernel
theorem dc_S_cut_124 : decode bc_S_cut 124 = .ok (.aload_n 0, 1) := by decide +kernel
theorem dc_S_cut_125 : decode bc_S_cut 125 = .ok (.getfield 46, 3) := by decide +kernel
theorem dc_S_cut_128 : decode bc_S_cut 128 = .ok (.iload_n 1, 1) := by decide +kernel
theorem dc_S_cut_129 : decode bc_S_cut 129 = .ok (.iload 4, 2) := by decide +kernel
theorem dc_S_cut_131 : decode bc_S_cut 131 = .ok (.ineg, 1) := by decide +kernel
theorem dc_S_cut_132 : decode bc_S_cut 132 = .ok (.invokestatic 78, 3) := by decide +kernel
theorem dc_S_cut_135 : decode bc_S_cut 135 = .ok (.iload 4, 2) := by decide +kernel
theorem dc_S_cut_137 : decode bc_S_cut 137 = .ok (.ireturn, 1) := by decide +kernel
theorem dc_S_cut_58 : decode bc_S_cut 58 = .ok (.iload 5, 2) := by decide +kernel
theorem dc_S_cut_60 : decode bc_S_cut 60 = .ok (.bipush (-2), 2) := by decide +kernel
theorem dc_S_cut_62 : decode bc_S_cut 62 = .ok (.if_icmp .eq 62, 3) := by decide +kernel
theorem dc_S_cut_65 : decode bc_S_cut 65 = .ok (.iload 5, 2) := by decide +kernel
theorem dc_S_cut_67 : decode bc_S_cut 67 = .ok (.iload_n 3, 1) := by decide +kernel
theorem dc_S_cut_68 : decode bc_S_cut 68 = .ok (.if_icmp .gt 56, 3) := by decide +kernel
theorem dc_S_cut_71 : decode bc_S_cut 71 = .ok (.aload_n 0, 1) := by decide +kernel
theorem dc_S_cut_72 : decode bc_S_cut 72 = .ok (.getfield 46, 3) := by decide +kernel
theorem dc_S_cut_75 : decode bc_S_cut 75 = .ok (.getfield 63, 3) := by decide +kernel
theorem dc_S_cut_78 : decode bc_S_cut 78 = .ok (.iload_n 1, 1) := by decide +kernel
theorem dc_S_cut_79 : decode bc_S_cut 79 = .ok (.aload_n 0, 1) := by decide +kernel
theorem dc_S_cut_80 : decode bc_S_cut 80 = .ok (.getfield 32, 3) := by decide +kernel
theorem dc_S_cut_83 : decode bc_S_cut 83 = .ok (.aload_n 0, 1) := by decide +kernel
theorem dc_S_cut_84 : decode bc_S_cut 84 = .ok (.getfield 46, 3) := by decide +kernel
theorem dc_S_cut_87 : decode bc_S_cut 87 = .ok (.getfield 63, 3) := by decide +kernel
theorem dc_S_cut_90 : decode bc_S_cut 90 = .ok (.iload_n 1, 1) := by decide +kernel
theorem dc_S_cut_91 : decode bc_S_cut 91 = .ok (.iaload, 1) := by decide +kernel
theorem dc_S_cut_92 : decode bc_S_cut 92 = .ok (.iload 5, 2) := by decide +kernel
theorem dc_S_cut_94 : decode bc_S_cut 94 = .ok (.invokevirtual 88, 3) := by decide +kernel
theorem dc_S_cut_97 : decode bc_S_cut 97 = .ok (.iastore, 1) := by decide +kernel
theorem dc_S_cut_98 : decode bc_S_cut 98 = .ok (.iinc 4 1, 3) := by decide +kernel
theorem dc_S_cut_101 : decode bc_S_cut 101 = .ok (.aload_n 0, 1) := by decide +kernel
theorem dc_S_cut_102 : decode bc_S_cut 102 = .ok (.getfield 32, 3) := by decide +kernel
theorem dc_S_cut_105 : decode bc_S_cut 105 = .ok (.aload_n 0, 1) := by decide +kernel
theorem dc_S_cut_106 : decode bc_S_cut 106 = .ok (.getfield 46, 3) := by decide +kernel
theorem dc_S_cut_109 : decode bc_S_cut 109 = .ok (.getfield 63, 3) := by decide +kernel
theorem dc_S_cut_112 : decode bc_S_cut 112 = .ok (.iload_n 1, 1) := by decide +kernel
theorem dc_S_cut_113 : decode bc_S_cut 113 = .ok (.iaload, 1) := by decide +kernel
theorem dc_S_cut_114 : decode bc_S_cut 114 = .ok (.iload 5, 2) := by decide +kernel
theorem dc_S_cut_116 : decode bc_S_cut 116 = .ok (.invokevirtual 91, 3) := by decide +kernel
theorem dc_S_cut_119 : decode bc_S_cut 119 = .ok (.istore 5, 2) := by decide +kernel
theorem dc_S_cut_121 : decode bc_S_cut 121 = .ok (.goto (-71), 3) := by decide +kernel
theorem dc_T_keyFrom_0 : decode bc_T_keyFrom 0 = .ok (.iload_n 1, 1) := by decide +kernel
theorem dc_T_keyFrom_1 : decode bc_T_keyFrom 1 = .ok (.istore_n 3, 1) := by decide +kernel
theorem dc_T_keyFrom_2 : decode bc_T_keyFrom 2 = .ok (.bipush (-2), 2) := by decide +kernel
theorem dc_T_keyFrom_4 : decode bc_T_keyFrom 4 = .ok (.istore 4, 2) := by decide +kernel
theorem dc_T_keyFrom_6 : decode bc_T_keyFrom 6 = .ok (.aload_n 0, 1) := by decide +kernel
theorem dc_T_keyFrom_7 : decode bc_T_keyFrom 7 = .ok (.getfield 9, 3) := by decide +kernel
theorem dc_T_keyFrom_10 : decode bc_T_keyFrom 10 = .ok (.iload_n 1, 1) := by decide +kernel
theorem dc_T_keyFrom_11 : decode bc_T_keyFrom 11 = .ok (.invokevirtual 26, 3) := by decide +kernel
theorem dc_T_keyFrom_14 : decode bc_T_keyFrom 14 = .ok (.istore 5, 2) := by decide +kernel
theorem dc_T_keyFrom_16 : decode bc_T_keyFrom 16 = .ok (.iload 5, 2) := by decide +kernel
theorem dc_T_keyFrom_18 : decode bc_T_keyFrom 18 = .ok (.ifCond .le 41, 3) := by decide +kernel
theorem dc_T_keyFrom_59 : decode bc_T_keyFrom 59 = .ok (.aload_n 0, 1) := by decide +kernel
theorem dc_T_keyFrom_60 : decode bc_T_keyFrom 60 = .ok (.getfield 9, 3) := by decide +kernel
theorem dc_T_keyFrom_63 : decode bc_T_keyFrom 63 = .ok (.iload_n 3, 1) := by decide +kernel
theorem dc_T_keyFrom_64 : decode bc_T_keyFrom 64 = .ok (.iload_n 2, 1) := by decide +kernel
theorem dc_T_keyFrom_65 : decode bc_T_keyFrom 65 = .ok (.invokevirtual 38, 3) := by decide +kernel
theorem dc_T_keyFrom_68 : decode bc_T_keyFrom 68 = .ok (.istore 5, 2) := by decide +kernel
theorem dc_T_keyFrom_70 : decode bc_T_keyFrom 70 = .ok (.aload_n 0, 1) := by decide +kernel
theorem dc_T_keyFrom_71 : decode bc_T_keyFrom 71 = .ok (.getfield 9, 3) := by decide +kernel
theorem dc_T_keyFrom_74 : decode bc_T_keyFrom 74 = .ok (.iload_n 3, 1) := by decide +kernel
theorem dc_T_keyFrom_75 : decode bc_T_keyFrom 75 = .ok (.iload 5, 2) := by decide +kernel
theorem dc_T_keyFrom_77 : decode bc_T_keyFrom 77 = .ok (.invokevirtual 41, 3) := by decide +kernel
theorem dc_T_keyFrom_80 : decode bc_T_keyFrom 80 = .ok (.iload_n 2, 1) := by decide +kernel
theorem dc_T_keyFrom_81 : decode bc_T_keyFrom 81 = .ok (.if_icmp .ne 7, 3) := by decide +kernel
theorem dc_T_keyFrom_88 : decode bc_T_keyFrom 88 = .ok (.aload_n 0, 1) := by decide +kernel
theorem dc_T_keyFrom_89 : decode bc_T_keyFrom 89 = .ok (.iload_n 3, 1) := by decide +kernel
theorem dc_T_keyFrom_90 : decode bc_T_keyFrom 90 = .ok (.iload 5, 2) := by decide +kernel
theorem dc_T_keyFrom_92 : decode bc_T_keyFrom 92 = .ok (.iconst 1, 1) := by decide +kernel
theorem dc_T_keyFrom_93 : decode bc_T_keyFrom 93 = .ok (.iadd, 1) := by decide +kernel
theorem dc_T_keyFrom_94 : decode bc_T_keyFrom 94 = .ok (.iload 4, 2) := by decide +kernel
theorem dc_T_keyFrom_96 : decode bc_T_keyFrom 96 = .ok (.invokevirtual 44, 3) := by decide +kernel
theorem dc_T_keyFrom_99 : decode bc_T_keyFrom 99 = .ok (.ireturn, 1) := by decide +kernel
theorem dc_T_keyFrom_84 : decode bc_T_keyFrom 84 = .ok (.iload_n 2, 1) := by decide +kernel
theorem dc_T_keyFrom_85 : decode bc_T_keyFrom 85 = .ok (.goto 14, 3) := by decide +kernel
theorem dc_T_keyFrom_21 : decode bc_T_keyFrom 21 = .ok (.aload_n 0, 1) := by decide +kernel
theorem dc_T_keyFrom_22 : decode bc_T_keyFrom 22 = .ok (.iload_n 3, 1) := by decide +kernel
theorem dc_T_keyFrom_23 : decode bc_T_keyFrom 23 = .ok (.iload_n 2, 1) := by decide +kernel
theorem dc_T_keyFrom_24 : decode bc_T_keyFrom 24 = .ok (.invokevirtual 31, 3) := by decide +kernel
theorem dc_T_keyFrom_27 : decode bc_T_keyFrom 27 = .ok (.istore 6, 2) := by decide +kernel
theorem dc_T_keyFrom_29 : decode bc_T_keyFrom 29 = .ok (.aload_n 0, 1) := by decide +kernel
theorem dc_T_keyFrom_30 : decode bc_T_keyFrom 30 = .ok (.iload_n 3, 1) := by decide +kernel
theorem dc_T_keyFrom_31 : decode bc_T_keyFrom 31 = .ok (.iload 6, 2) := by decide +kernel
theorem dc_T_keyFrom_33 : decode bc_T_keyFrom 33 = .ok (.iconst 1, 1) := by decide +kernel
theorem dc_T_keyFrom_34 : decode bc_T_keyFrom 34 = .ok (.iadd, 1) := by decide +kernel
theorem dc_T_keyFrom_35 : decode bc_T_keyFrom 35 = .ok (.iload 4, 2) := by decide +kernel
theorem dc_T_keyFrom_37 : decode bc_T_keyFrom 37 = .ok (.invokevirtual 44, 3) := by decide +kernel
theorem dc_T_keyFrom_40 : decode bc_T_keyFrom 40 = .ok (.istore 4, 2) := by decide +kernel
theorem dc_T_keyFrom_42 : decode bc_T_keyFrom 42 = .ok (.aload_n 0, 1) := by decide +kernel
theorem dc_T_keyFrom_43 : decode bc_T_keyFrom 43 = .ok (.getfield 9, 3) := by decide +kernel
theorem dc_T_keyFrom_46 : decode bc_T_keyFrom 46 = .ok (.iload_n 3, 1) := by decide +kernel
theorem dc_T_keyFrom_47 : decode bc_T_keyFrom 47 = .ok (.iload 6, 2) := by decide +kernel
theorem dc_T_keyFrom_49 : decode bc_T_keyFrom 49 = .ok (.invokevirtual 35, 3) := by decide +kernel
theorem dc_T_keyFrom_52 : decode bc_T_keyFrom 52 = .ok (.istore_n 3, 1) := by decide +kernel
theorem dc_T_keyFrom_53 : decode bc_T_keyFrom 53 = .ok (.iinc 5 (-1), 3) := by decide +kernel
theorem dc_T_keyFrom_56 : decode bc_T_keyFrom 56 = .ok (.goto (-40), 3) := by decide +kernel
theorem dc_T_keyOr_0 : decode bc_T_keyOr 0 = .ok (.iload_n 2, 1) := by decide +kernel
theorem dc_T_keyOr_1 : decode bc_T_keyOr 1 = .ok (.aload_n 0, 1) := by decide +kernel
theorem dc_T_keyOr_2 : decode bc_T_keyOr 2 = .ok (.getfield 9, 3) := by decide +kernel
theorem dc_T_keyOr_5 : decode bc_T_keyOr 5 = .ok (.iload_n 1, 1) := by decide +kernel
theorem dc_T_keyOr_6 : decode bc_T_keyOr 6 = .ok (.invokevirtual 48, 3) := by decide +kernel
theorem dc_T_keyOr_9 : decode bc_T_keyOr 9 = .ok (.if_icmp .ge 15, 3) := by decide +kernel
theorem dc_T_keyOr_24 : decode bc_T_keyOr 24 = .ok (.iload_n 3, 1) := by decide +kernel
theorem dc_T_keyOr_25 : decode bc_T_keyOr 25 = .ok (.ireturn, 1) := by decide +kernel
theorem dc_T_keyOr_12 : decode bc_T_keyOr 12 = .ok (.aload_n 0, 1) := by decide +kernel
theorem dc_T_keyOr_13 : decode bc_T_keyOr 13 = .ok (.getfield 9, 3) := by decide +kernel
theorem dc_T_keyOr_16 : decode bc_T_keyOr 16 = .ok (.iload_n 1, 1) := by decide +kernel
theorem dc_T_keyOr_17 : decode bc_T_keyOr 17 = .ok (.iload_n 2, 1) := by decide +kernel
theorem dc_T_keyOr_18 : decode bc_T_keyOr 18 = .ok (.invokevirtual 41, 3) := by decide +kernel
theorem dc_T_keyOr_21 : decode bc_T_keyOr 21 = .ok (.goto 4, 3) := by decide +kernel
theorem dc_R_cut_0 : decode bc_R_cut 0 = .ok (.iload_n 1, 1) := by decide +kernel
theorem dc_R_cut_1 : decode bc_R_cut 1 = .ok (.invokestatic 24, 3) := by decide +kernel
theorem dc_R_cut_4 : decode bc_R_cut 4 = .ok (.ifCond .eq 22, 3) := by decide +kernel
theorem dc_R_cut_26 : decode bc_R_cut 26 = .ok (.iconst (-1), 1) := by decide +kernel
theorem dc_R_cut_27 : decode bc_R_cut 27 = .ok (.ireturn, 1) := by decide +kernel
theorem dc_R_cut_7 : decode bc_R_cut 7 = .ok (.iload_n 2, 1) := by decide +kernel
theorem dc_R_cut_8 : decode bc_R_cut 8 = .ok (.invokestatic 28, 3) := by decide +kernel
theorem dc_R_cut_11 : decode bc_R_cut 11 = .ok (.ifCond .eq 15, 3) := by decide +kernel
theorem dc_R_cut_14 : decode bc_R_cut 14 = .ok (.iload_n 3, 1) := by decide +kernel
theorem dc_R_cut_15 : decode bc_R_cut 15 = .ok (.invokestatic 28, 3) := by decide +kernel
theorem dc_R_cut_18 : decode bc_R_cut 18 = .ok (.ifCond .eq 8, 3) := by decide +kernel
theorem dc_R_cut_21 : decode bc_R_cut 21 = .ok (.iload_n 3, 1) := by decide +kernel
theorem dc_R_cut_22 : decode bc_R_cut 22 = .ok (.iload_n 2, 1) := by decide +kernel
theorem dc_R_cut_23 : decode bc_R_cut 23 = .ok (.if_icmp .ge 5, 3) := by decide +kernel
theorem dc_R_cut_28 : decode bc_R_cut 28 = .ok (.iconst 0, 1) := by decide +kernel
theorem dc_R_cut_29 : decode bc_R_cut 29 = .ok (.istore 4, 2) := by decide +kernel
theorem dc_R_cut_31 : decode bc_R_cut 31 = .ok (.iload_n 2, 1) := by decide +kernel
theorem dc_R_cut_32 : decode bc_R_cut 32 = .ok (.istore 5, 2) := by decide +kernel
theorem dc_R_cut_34 : decode bc_R_cut 34 = .ok (.iload 5, 2) := by decide +kernel
theorem dc_R_cut_36 : decode bc_R_cut 36 = .ok (.iload_n 3, 1) := by decide +kernel
theorem dc_R_cut_37 : decode bc_R_cut 37 = .ok (.if_icmp .gt 29, 3) := by decide +kernel
theorem dc_R_cut_66 : decode bc_R_cut 66 = .ok (.iload 4, 2) := by decide +kernel
theorem dc_R_cut_68 : decode bc_R_cut 68 = .ok (.ireturn, 1) := by decide +kernel
theorem dc_R_cut_40 : decode bc_R_cut 40 = .ok (.iload 4, 2) := by decide +kernel
theorem dc_R_cut_42 : decode bc_R_cut 42 = .ok (.aload_n 0, 1) := by decide +kernel
theorem dc_R_cut_43 : decode bc_R_cut 43 = .ok (.iload_n 1, 1) := by decide +kernel
theorem dc_R_cut_44 : decode bc_R_cut 44 = .ok (.iload 5, 2) := by decide +kernel
theorem dc_R_cut_46 : decode bc_R_cut 46 = .ok (.invokevirtual 46, 3) := by decide +kernel
theorem dc_R_cut_49 : decode bc_R_cut 49 = .ok (.ifCond .lt 7, 3) := by decide +kernel
theorem dc_R_cut_56 : decode bc_R_cut 56 = .ok (.iconst 0, 1) := by decide +kernel
theorem dc_R_cut_57 : decode bc_R_cut 57 = .ok (.iadd, 1) := by decide +kernel
theorem dc_R_cut_58 : decode bc_R_cut 58 = .ok (.istore 4, 2) := by decide +kernel
theorem dc_R_cut_60 : decode bc_R_cut 60 = .ok (.iinc 5 1, 3) := by decide +kernel
theorem dc_R_cut_63 : decode bc_R_cut 63 = .ok (.goto (-29), 3) := by decide +kernel
theorem dc_R_cut_52 : decode bc_R_cut 52 = .ok (.iconst 1, 1) := by decide +kernel
theorem dc_R_cut_53 : decode bc_R_cut 53 = .ok (.goto 4, 3) := by decide +kernel
theorem dc_S_next_0 : decode bc_S_next 0 = .ok (.iload_n 1, 1) := by decide +kernel
theorem dc_S_next_1 : decode bc_S_next 1 = .ok (.invokestatic 53, 3) := by decide +kernel
theorem dc_S_next_4 : decode bc_S_next 4 = .ok (.ifCond .eq 10, 3) := by decide +kernel
theorem dc_S_next_14 : decode bc_S_next 14 = .ok (.iconst (-1), 1) := by decide +kernel
theorem dc_S_next_15 : decode bc_S_next 15 = .ok (.ireturn, 1) := by decide +kernel
theorem dc_S_next_7 : decode bc_S_next 7 = .ok (.iload_n 2, 1) := by decide +kernel
theorem dc_S_next_8 : decode bc_S_next 8 = .ok (.invokestatic 57, 3) := by decide +kernel
theorem dc_S_next_11 : decode bc_S_next 11 = .ok (.ifCond .ne 5, 3) := by decide +kernel
theorem dc_S_next_16 : decode bc_S_next 16 = .ok (.aload_n 0, 1) := by decide +kernel
theorem dc_S_next_17 : decode bc_S_next 17 = .ok (.getfield 32, 3) := by decide +kernel
theorem dc_S_next_20 : decode bc_S_next 20 = .ok (.aload_n 0, 1) := by decide +kernel
theorem dc_S_next_21 : decode bc_S_next 21 = .ok (.getfield 46, 3) := by decide +kernel
theorem dc_S_next_24 : decode bc_S_next 24 = .ok (.getfield 63, 3) := by decide +kernel
theorem dc_S_next_27 : decode bc_S_next 27 = .ok (.iload_n 1, 1) := by decide +kernel
theorem dc_S_next_28 : decode bc_S_next 28 = .ok (.iaload, 1) := by decide +kernel
theorem dc_S_next_29 : decode bc_S_next 29 = .ok (.iload_n 2, 1) := by decide +kernel
theorem dc_S_next_30 : decode bc_S_next 30 = .ok (.invokevirtual 91, 3) := by decide +kernel
theorem dc_S_next_33 : decode bc_S_next 33 = .ok (.ireturn, 1) := by decide +kernel
theorem dc_R_next_0 : decode bc_R_next 0 = .ok (.iload_n 1, 1) := by decide +kernel
theorem dc_R_next_1 : decode bc_R_next 1 = .ok (.invokestatic 24, 3) := by decide +kernel
theorem dc_R_next_4 : decode bc_R_next 4 = .ok (.ifCond .eq 10, 3) := by decide +kernel
theorem dc_R_next_14 : decode bc_R_next 14 = .ok (.iconst (-1), 1) := by decide +kernel
end
section
theorem dc_R_next_15 : decode bc_R_next 15 = .ok (.ireturn, 1) := by decide +kernel
theorem dc_R_next_7 : decode bc_R_next 7 = .ok (.iload_n 2, 1) := by decide +kernel
theorem dc_R_next_8 : decode bc_R_next 8 = .ok (.invokestatic 28, 3) := by decide +kernel
theorem dc_R_next_11 : decode bc_R_next 11 = .ok (.ifCond .ne 5, 3) := by decide +kernel
theorem dc_R_next_16 : decode bc_R_next 16 = .ok (.iload_n 2, 1) := by decide +kernel
theorem dc_R_next_17 : decode bc_R_next 17 = .ok (.istore_n 3, 1) := by decide +kernel
theorem dc_R_next_18 : decode bc_R_next 18 = .ok (.iload_n 3, 1) := by decide +kernel
theorem dc_R_next_19 : decode bc_R_next 19 = .ok (.sipush 4096, 3) := by decide +kernel
theorem dc_R_next_22 : decode bc_R_next 22 = .ok (.if_icmp .ge 24, 3) := by decide +kernel
theorem dc_R_next_46 : decode bc_R_next 46 = .ok (.iload_n 3, 1) := by decide +kernel
theorem dc_R_next_47 : decode bc_R_next 47 = .ok (.sipush 4096, 3) := by decide +kernel
theorem dc_R_next_50 : decode bc_R_next 50 = .ok (.if_icmp .ge 7, 3) := by decide +kernel
theorem dc_R_next_57 : decode bc_R_next 57 = .ok (.bipush (-2), 2) := by decide +kernel
theorem dc_R_next_59 : decode bc_R_next 59 = .ok (.ireturn, 1) := by decide +kernel
theorem dc_R_next_53 : decode bc_R_next 53 = .ok (.iload_n 3, 1) := by decide +kernel
theorem dc_R_next_54 : decode bc_R_next 54 = .ok (.goto 5, 3) := by decide +kernel
theorem dc_R_next_25 : decode bc_R_next 25 = .ok (.aload_n 0, 1) := by decide +kernel
theorem dc_R_next_26 : decode bc_R_next 26 = .ok (.getfield 8, 3) := by decide +kernel
theorem dc_R_next_29 : decode bc_R_next 29 = .ok (.sipush 4096, 3) := by decide +kernel
theorem dc_R_next_32 : decode bc_R_next 32 = .ok (.iload_n 1, 1) := by decide +kernel
theorem dc_R_next_33 : decode bc_R_next 33 = .ok (.imul, 1) := by decide +kernel
theorem dc_R_next_34 : decode bc_R_next 34 = .ok (.iload_n 3, 1) := by decide +kernel
theorem dc_R_next_35 : decode bc_R_next 35 = .ok (.iadd, 1) := by decide +kernel
theorem dc_R_next_36 : decode bc_R_next 36 = .ok (.iaload, 1) := by decide +kernel
theorem dc_R_next_37 : decode bc_R_next 37 = .ok (.ifCond .ne 9, 3) := by decide +kernel
theorem dc_R_next_40 : decode bc_R_next 40 = .ok (.iinc 3 1, 3) := by decide +kernel
theorem dc_R_next_43 : decode bc_R_next 43 = .ok (.goto (-25), 3) := by decide +kernel
theorem dc_S_clone_0 : decode bc_S_clone 0 = .ok (.iload_n 1, 1) := by decide +kernel
theorem dc_S_clone_1 : decode bc_S_clone 1 = .ok (.invokestatic 53, 3) := by decide +kernel
theorem dc_S_clone_4 : decode bc_S_clone 4 = .ok (.ifCond .eq 15, 3) := by decide +kernel
theorem dc_S_clone_19 : decode bc_S_clone 19 = .ok (.iconst (-1), 1) := by decide +kernel
theorem dc_S_clone_20 : decode bc_S_clone 20 = .ok (.ireturn, 1) := by decide +kernel
theorem dc_S_clone_7 : decode bc_S_clone 7 = .ok (.iload_n 2, 1) := by decide +kernel
theorem dc_S_clone_8 : decode bc_S_clone 8 = .ok (.invokestatic 53, 3) := by decide +kernel
theorem dc_S_clone_11 : decode bc_S_clone 11 = .ok (.ifCond .eq 8, 3) := by decide +kernel
theorem dc_S_clone_14 : decode bc_S_clone 14 = .ok (.iload_n 1, 1) := by decide +kernel
theorem dc_S_clone_15 : decode bc_S_clone 15 = .ok (.iload_n 2, 1) := by decide +kernel
theorem dc_S_clone_16 : decode bc_S_clone 16 = .ok (.if_icmp .ne 5, 3) := by decide +kernel
theorem dc_S_clone_21 : decode bc_S_clone 21 = .ok (.aload_n 0, 1) := by decide +kernel
theorem dc_S_clone_22 : decode bc_S_clone 22 = .ok (.getfield 46, 3) := by decide +kernel
theorem dc_S_clone_25 : decode bc_S_clone 25 = .ok (.getfield 70, 3) := by decide +kernel
theorem dc_S_clone_28 : decode bc_S_clone 28 = .ok (.aload_n 0, 1) := by decide +kernel
theorem dc_S_clone_29 : decode bc_S_clone 29 = .ok (.getfield 46, 3) := by decide +kernel
theorem dc_S_clone_32 : decode bc_S_clone 32 = .ok (.getfield 82, 3) := by decide +kernel
theorem dc_S_clone_35 : decode bc_S_clone 35 = .ok (.iload_n 1, 1) := by decide +kernel
theorem dc_S_clone_36 : decode bc_S_clone 36 = .ok (.iaload, 1) := by decide +kernel
theorem dc_S_clone_37 : decode bc_S_clone 37 = .ok (.isub, 1) := by decide +kernel
theorem dc_S_clone_38 : decode bc_S_clone 38 = .ok (.aload_n 0, 1) := by decide +kernel
theorem dc_S_clone_39 : decode bc_S_clone 39 = .ok (.getfield 46, 3) := by decide +kernel
theorem dc_S_clone_42 : decode bc_S_clone 42 = .ok (.getfield 82, 3) := by decide +kernel
theorem dc_S_clone_45 : decode bc_S_clone 45 = .ok (.iload_n 2, 1) := by decide +kernel
theorem dc_S_clone_46 : decode bc_S_clone 46 = .ok (.iaload, 1) := by decide +kernel
theorem dc_S_clone_47 : decode bc_S_clone 47 = .ok (.iadd, 1) := by decide +kernel
theorem dc_S_clone_48 : decode bc_S_clone 48 = .ok (.sipush 600, 3) := by decide +kernel
theorem dc_S_clone_51 : decode bc_S_clone 51 = .ok (.if_icmp .le 6, 3) := by decide +kernel
theorem dc_S_clone_57 : decode bc_S_clone 57 = .ok (.aload_n 0, 1) := by decide +kernel
theorem dc_S_clone_58 : decode bc_S_clone 58 = .ok (.aload_n 0, 1) := by decide +kernel
theorem dc_S_clone_59 : decode bc_S_clone 59 = .ok (.getfield 46, 3) := by decide +kernel
theorem dc_S_clone_62 : decode bc_S_clone 62 = .ok (.iload_n 1, 1) := by decide +kernel
theorem dc_S_clone_63 : decode bc_S_clone 63 = .ok (.aload_n 0, 1) := by decide +kernel
theorem dc_S_clone_64 : decode bc_S_clone 64 = .ok (.getfield 46, 3) := by decide +kernel
theorem dc_S_clone_67 : decode bc_S_clone 67 = .ok (.getfield 63, 3) := by decide +kernel
theorem dc_S_clone_70 : decode bc_S_clone 70 = .ok (.iload_n 2, 1) := by decide +kernel
theorem dc_S_clone_71 : decode bc_S_clone 71 = .ok (.iaload, 1) := by decide +kernel
theorem dc_S_clone_72 : decode bc_S_clone 72 = .ok (.aload_n 0, 1) := by decide +kernel
theorem dc_S_clone_73 : decode bc_S_clone 73 = .ok (.getfield 46, 3) := by decide +kernel
theorem dc_S_clone_76 : decode bc_S_clone 76 = .ok (.getfield 82, 3) := by decide +kernel
theorem dc_S_clone_79 : decode bc_S_clone 79 = .ok (.iload_n 2, 1) := by decide +kernel
theorem dc_S_clone_80 : decode bc_S_clone 80 = .ok (.iaload, 1) := by decide +kernel
theorem dc_S_clone_81 : decode bc_S_clone 81 = .ok (.invokevirtual 94, 3) := by decide +kernel
theorem dc_S_clone_84 : decode bc_S_clone 84 = .ok (.aload_n 0, 1) := by decide +kernel
theorem dc_S_clone_85 : decode bc_S_clone 85 = .ok (.getfield 46, 3) := by decide +kernel
theorem dc_S_clone_88 : decode bc_S_clone 88 = .ok (.getfield 82, 3) := by decide +kernel
theorem dc_S_clone_91 : decode bc_S_clone 91 = .ok (.iload_n 1, 1) := by decide +kernel
theorem dc_S_clone_92 : decode bc_S_clone 92 = .ok (.iaload, 1) := by decide +kernel
theorem dc_S_clone_93 : decode bc_S_clone 93 = .ok (.ireturn, 1) := by decide +kernel
theorem dc_S_clone_54 : decode bc_S_clone 54 = .ok (.bipush (-3), 2) := by decide +kernel
theorem dc_S_clone_56 : decode bc_S_clone 56 = .ok (.ireturn, 1) := by decide +kernel
theorem dc_S_lead_0 : decode bc_S_lead 0 = .ok (.aload_n 0, 1) := by decide +kernel
theorem dc_S_lead_1 : decode bc_S_lead 1 = .ok (.getfield 23, 3) := by decide +kernel
theorem dc_S_lead_4 : decode bc_S_lead 4 = .ok (.iload_n 3, 1) := by decide +kernel
theorem dc_S_lead_5 : decode bc_S_lead 5 = .ok (.invokevirtual 107, 3) := by decide +kernel
theorem dc_S_lead_8 : decode bc_S_lead 8 = .ok (.aload_n 0, 1) := by decide +kernel
theorem dc_S_lead_9 : decode bc_S_lead 9 = .ok (.getfield 32, 3) := by decide +kernel
theorem dc_S_lead_12 : decode bc_S_lead 12 = .ok (.aload_n 1, 1) := by decide +kernel
theorem dc_S_lead_13 : decode bc_S_lead 13 = .ok (.getfield 63, 3) := by decide +kernel
theorem dc_S_lead_16 : decode bc_S_lead 16 = .ok (.iload_n 2, 1) := by decide +kernel
theorem dc_S_lead_17 : decode bc_S_lead 17 = .ok (.iaload, 1) := by decide +kernel
theorem dc_S_lead_18 : decode bc_S_lead 18 = .ok (.invokevirtual 110, 3) := by decide +kernel
theorem dc_S_lead_21 : decode bc_S_lead 21 = .ok (.aload_n 1, 1) := by decide +kernel
theorem dc_S_lead_22 : decode bc_S_lead 22 = .ok (.getfield 63, 3) := by decide +kernel
theorem dc_S_lead_25 : decode bc_S_lead 25 = .ok (.iload_n 2, 1) := by decide +kernel
theorem dc_S_lead_26 : decode bc_S_lead 26 = .ok (.iload_n 3, 1) := by decide +kernel
theorem dc_S_lead_27 : decode bc_S_lead 27 = .ok (.iastore, 1) := by decide +kernel
theorem dc_S_lead_28 : decode bc_S_lead 28 = .ok (.aload_n 1, 1) := by decide +kernel
theorem dc_S_lead_29 : decode bc_S_lead 29 = .ok (.iload_n 2, 1) := by decide +kernel
theorem dc_S_lead_30 : decode bc_S_lead 30 = .ok (.iload 4, 2) := by decide +kernel
theorem dc_S_lead_32 : decode bc_S_lead 32 = .ok (.aload_n 1, 1) := by decide +kernel
theorem dc_S_lead_33 : decode bc_S_lead 33 = .ok (.getfield 82, 3) := by decide +kernel
theorem dc_S_lead_36 : decode bc_S_lead 36 = .ok (.iload_n 2, 1) := by decide +kernel
theorem dc_S_lead_37 : decode bc_S_lead 37 = .ok (.iaload, 1) := by decide +kernel
theorem dc_S_lead_38 : decode bc_S_lead 38 = .ok (.isub, 1) := by decide +kernel
theorem dc_S_lead_39 : decode bc_S_lead 39 = .ok (.invokestatic 78, 3) := by decide +kernel
theorem dc_S_lead_42 : decode bc_S_lead 42 = .ok (.return_, 1) := by decide +kernel
theorem dc_T_release_0 : decode bc_T_release 0 = .ok (.aload_n 0, 1) := by decide +kernel
theorem dc_T_release_1 : decode bc_T_release 1 = .ok (.iload_n 1, 1) := by decide +kernel
theorem dc_T_release_2 : decode bc_T_release 2 = .ok (.aload_n 0, 1) := by decide +kernel
theorem dc_T_release_3 : decode bc_T_release 3 = .ok (.getfield 9, 3) := by decide +kernel
theorem dc_T_release_6 : decode bc_T_release 6 = .ok (.iload_n 1, 1) := by decide +kernel
theorem dc_T_release_7 : decode bc_T_release 7 = .ok (.invokevirtual 26, 3) := by decide +kernel
theorem dc_T_release_10 : decode bc_T_release 10 = .ok (.invokevirtual 111, 3) := by decide +kernel
theorem dc_T_release_13 : decode bc_T_release 13 = .ok (.return_, 1) := by decide +kernel
theorem dc_T_releaseBelow_0 : decode bc_T_releaseBelow 0 = .ok (.iload_n 2, 1) := by decide +kernel
theorem dc_T_releaseBelow_1 : decode bc_T_releaseBelow 1 = .ok (.ifCond .lt 20, 3) := by decide +kernel
theorem dc_T_releaseBelow_21 : decode bc_T_releaseBelow 21 = .ok (.return_, 1) := by decide +kernel
theorem dc_T_releaseBelow_4 : decode bc_T_releaseBelow 4 = .ok (.iload_n 2, 1) := by decide +kernel
theorem dc_T_releaseBelow_5 : decode bc_T_releaseBelow 5 = .ok (.bipush 16, 2) := by decide +kernel
theorem dc_T_releaseBelow_7 : decode bc_T_releaseBelow 7 = .ok (.if_icmp .gt 14, 3) := by decide +kernel
theorem dc_T_releaseBelow_10 : decode bc_T_releaseBelow 10 = .ok (.aload_n 0, 1) := by decide +kernel
theorem dc_T_releaseBelow_11 : decode bc_T_releaseBelow 11 = .ok (.getfield 9, 3) := by decide +kernel
theorem dc_T_releaseBelow_14 : decode bc_T_releaseBelow 14 = .ok (.iload_n 1, 1) := by decide +kernel
theorem dc_T_releaseBelow_15 : decode bc_T_releaseBelow 15 = .ok (.invokevirtual 114, 3) := by decide +kernel
theorem dc_T_releaseBelow_18 : decode bc_T_releaseBelow 18 = .ok (.ifCond .ne 4, 3) := by decide +kernel
theorem dc_T_releaseBelow_22 : decode bc_T_releaseBelow 22 = .ok (.iload_n 2, 1) := by decide +kernel
theorem dc_T_releaseBelow_23 : decode bc_T_releaseBelow 23 = .ok (.ifCond .le 39, 3) := by decide +kernel
theorem dc_T_releaseBelow_62 : decode bc_T_releaseBelow 62 = .ok (.aload_n 0, 1) := by decide +kernel
theorem dc_T_releaseBelow_63 : decode bc_T_releaseBelow 63 = .ok (.getfield 9, 3) := by decide +kernel
theorem dc_T_releaseBelow_66 : decode bc_T_releaseBelow 66 = .ok (.iload_n 1, 1) := by decide +kernel
theorem dc_T_releaseBelow_67 : decode bc_T_releaseBelow 67 = .ok (.invokevirtual 104, 3) := by decide +kernel
theorem dc_T_releaseBelow_70 : decode bc_T_releaseBelow 70 = .ok (.return_, 1) := by decide +kernel
theorem dc_T_releaseBelow_26 : decode bc_T_releaseBelow 26 = .ok (.iconst 0, 1) := by decide +kernel
theorem dc_T_releaseBelow_27 : decode bc_T_releaseBelow 27 = .ok (.istore_n 3, 1) := by decide +kernel
theorem dc_T_releaseBelow_28 : decode bc_T_releaseBelow 28 = .ok (.iload_n 3, 1) := by decide +kernel
theorem dc_T_releaseBelow_29 : decode bc_T_releaseBelow 29 = .ok (.aload_n 0, 1) := by decide +kernel
theorem dc_T_releaseBelow_30 : decode bc_T_releaseBelow 30 = .ok (.getfield 9, 3) := by decide +kernel
theorem dc_T_releaseBelow_33 : decode bc_T_releaseBelow 33 = .ok (.iload_n 1, 1) := by decide +kernel
theorem dc_T_releaseBelow_34 : decode bc_T_releaseBelow 34 = .ok (.invokevirtual 48, 3) := by decide +kernel
theorem dc_T_releaseBelow_37 : decode bc_T_releaseBelow 37 = .ok (.if_icmp .ge 25, 3) := by decide +kernel
theorem dc_T_releaseBelow_40 : decode bc_T_releaseBelow 40 = .ok (.aload_n 0, 1) := by decide +kernel
theorem dc_T_releaseBelow_41 : decode bc_T_releaseBelow 41 = .ok (.aload_n 0, 1) := by decide +kernel
theorem dc_T_releaseBelow_42 : decode bc_T_releaseBelow 42 = .ok (.getfield 9, 3) := by decide +kernel
theorem dc_T_releaseBelow_45 : decode bc_T_releaseBelow 45 = .ok (.iload_n 1, 1) := by decide +kernel
theorem dc_T_releaseBelow_46 : decode bc_T_releaseBelow 46 = .ok (.iload_n 3, 1) := by decide +kernel
theorem dc_T_releaseBelow_47 : decode bc_T_releaseBelow 47 = .ok (.invokevirtual 35, 3) := by decide +kernel
theorem dc_T_releaseBelow_50 : decode bc_T_releaseBelow 50 = .ok (.iload_n 2, 1) := by decide +kernel
theorem dc_T_releaseBelow_51 : decode bc_T_releaseBelow 51 = .ok (.iconst 1, 1) := by decide +kernel
theorem dc_T_releaseBelow_52 : decode bc_T_releaseBelow 52 = .ok (.isub, 1) := by decide +kernel
theorem dc_T_releaseBelow_53 : decode bc_T_releaseBelow 53 = .ok (.invokevirtual 111, 3) := by decide +kernel
theorem dc_T_releaseBelow_56 : decode bc_T_releaseBelow 56 = .ok (.iinc 3 1, 3) := by decide +kernel
theorem dc_T_releaseBelow_59 : decode bc_T_releaseBelow 59 = .ok (.goto (-31), 3) := by decide +kernel
theorem dc_R_clone_0 : decode bc_R_clone 0 = .ok (.iload_n 1, 1) := by decide +kernel
theorem dc_R_clone_1 : decode bc_R_clone 1 = .ok (.invokestatic 24, 3) := by decide +kernel
theorem dc_R_clone_4 : decode bc_R_clone 4 = .ok (.ifCond .eq 15, 3) := by decide +kernel
theorem dc_R_clone_19 : decode bc_R_clone 19 = .ok (.iconst (-1), 1) := by decide +kernel
theorem dc_R_clone_20 : decode bc_R_clone 20 = .ok (.ireturn, 1) := by decide +kernel
theorem dc_R_clone_7 : decode bc_R_clone 7 = .ok (.iload_n 2, 1) := by decide +kernel
theorem dc_R_clone_8 : decode bc_R_clone 8 = .ok (.invokestatic 24, 3) := by decide +kernel
theorem dc_R_clone_11 : decode bc_R_clone 11 = .ok (.ifCond .eq 8, 3) := by decide +kernel
theorem dc_R_clone_14 : decode bc_R_clone 14 = .ok (.iload_n 1, 1) := by decide +kernel
theorem dc_R_clone_15 : decode bc_R_clone 15 = .ok (.iload_n 2, 1) := by decide +kernel
theorem dc_R_clone_16 : decode bc_R_clone 16 = .ok (.if_icmp .ne 5, 3) := by decide +kernel
theorem dc_R_clone_21 : decode bc_R_clone 21 = .ok (.aload_n 0, 1) := by decide +kernel
theorem dc_R_clone_22 : decode bc_R_clone 22 = .ok (.invokevirtual 34, 3) := by decide +kernel
theorem dc_R_clone_25 : decode bc_R_clone 25 = .ok (.aload_n 0, 1) := by decide +kernel
theorem dc_R_clone_26 : decode bc_R_clone 26 = .ok (.getfield 17, 3) := by decide +kernel
theorem dc_R_clone_29 : decode bc_R_clone 29 = .ok (.iload_n 1, 1) := by decide +kernel
theorem dc_R_clone_30 : decode bc_R_clone 30 = .ok (.iaload, 1) := by decide +kernel
theorem dc_R_clone_31 : decode bc_R_clone 31 = .ok (.isub, 1) := by decide +kernel
theorem dc_R_clone_32 : decode bc_R_clone 32 = .ok (.aload_n 0, 1) := by decide +kernel
theorem dc_R_clone_33 : decode bc_R_clone 33 = .ok (.getfield 17, 3) := by decide +kernel
theorem dc_R_clone_36 : decode bc_R_clone 36 = .ok (.iload_n 2, 1) := by decide +kernel
theorem dc_R_clone_37 : decode bc_R_clone 37 = .ok (.iaload, 1) := by decide +kernel
theorem dc_R_clone_38 : decode bc_R_clone 38 = .ok (.iadd, 1) := by decide +kernel
theorem dc_R_clone_39 : decode bc_R_clone 39 = .ok (.sipush 600, 3) := by decide +kernel
theorem dc_R_clone_42 : decode bc_R_clone 42 = .ok (.if_icmp .le 6, 3) := by decide +kernel
theorem dc_R_clone_48 : decode bc_R_clone 48 = .ok (.iconst 0, 1) := by decide +kernel
theorem dc_R_clone_49 : decode bc_R_clone 49 = .ok (.istore_n 3, 1) := by decide +kernel
theorem dc_R_clone_50 : decode bc_R_clone 50 = .ok (.iload_n 3, 1) := by decide +kernel
theorem dc_R_clone_51 : decode bc_R_clone 51 = .ok (.sipush 4096, 3) := by decide +kernel
theorem dc_R_clone_54 : decode bc_R_clone 54 = .ok (.if_icmp .ge 33, 3) := by decide +kernel
theorem dc_R_clone_87 : decode bc_R_clone 87 = .ok (.aload_n 0, 1) := by decide +kernel
theorem dc_R_clone_88 : decode bc_R_clone 88 = .ok (.getfield 17, 3) := by decide +kernel
theorem dc_R_clone_91 : decode bc_R_clone 91 = .ok (.iload_n 1, 1) := by decide +kernel
theorem dc_R_clone_92 : decode bc_R_clone 92 = .ok (.aload_n 0, 1) := by decide +kernel
theorem dc_R_clone_93 : decode bc_R_clone 93 = .ok (.getfield 17, 3) := by decide +kernel
theorem dc_R_clone_96 : decode bc_R_clone 96 = .ok (.iload_n 2, 1) := by decide +kernel
theorem dc_R_clone_97 : decode bc_R_clone 97 = .ok (.iaload, 1) := by decide +kernel
theorem dc_R_clone_98 : decode bc_R_clone 98 = .ok (.iastore, 1) := by decide +kernel
theorem dc_R_clone_99 : decode bc_R_clone 99 = .ok (.aload_n 0, 1) := by decide +kernel
theorem dc_R_clone_100 : decode bc_R_clone 100 = .ok (.getfield 17, 3) := by decide +kernel
theorem dc_R_clone_103 : decode bc_R_clone 103 = .ok (.iload_n 1, 1) := by decide +kernel
theorem dc_R_clone_104 : decode bc_R_clone 104 = .ok (.iaload, 1) := by decide +kernel
theorem dc_R_clone_105 : decode bc_R_clone 105 = .ok (.ireturn, 1) := by decide +kernel
theorem dc_R_clone_57 : decode bc_R_clone 57 = .ok (.aload_n 0, 1) := by decide +kernel
theorem dc_R_clone_58 : decode bc_R_clone 58 = .ok (.getfield 8, 3) := by decide +kernel
theorem dc_R_clone_61 : decode bc_R_clone 61 = .ok (.sipush 4096, 3) := by decide +kernel
theorem dc_R_clone_64 : decode bc_R_clone 64 = .ok (.iload_n 1, 1) := by decide +kernel
theorem dc_R_clone_65 : decode bc_R_clone 65 = .ok (.imul, 1) := by decide +kernel
theorem dc_R_clone_66 : decode bc_R_clone 66 = .ok (.iload_n 3, 1) := by decide +kernel
theorem dc_R_clone_67 : decode bc_R_clone 67 = .ok (.iadd, 1) := by decide +kernel
theorem dc_R_clone_68 : decode bc_R_clone 68 = .ok (.aload_n 0, 1) := by decide +kernel
theorem dc_R_clone_69 : decode bc_R_clone 69 = .ok (.getfield 8, 3) := by decide +kernel
theorem dc_R_clone_72 : decode bc_R_clone 72 = .ok (.sipush 4096, 3) := by decide +kernel
theorem dc_R_clone_75 : decode bc_R_clone 75 = .ok (.iload_n 2, 1) := by decide +kernel
theorem dc_R_clone_76 : decode bc_R_clone 76 = .ok (.imul, 1) := by decide +kernel
theorem dc_R_clone_77 : decode bc_R_clone 77 = .ok (.iload_n 3, 1) := by decide +kernel
theorem dc_R_clone_78 : decode bc_R_clone 78 = .ok (.iadd, 1) := by decide +kernel
theorem dc_R_clone_79 : decode bc_R_clone 79 = .ok (.iaload, 1) := by decide +kernel
theorem dc_R_clone_80 : decode bc_R_clone 80 = .ok (.iastore, 1) := by decide +kernel
theorem dc_R_clone_81 : decode bc_R_clone 81 = .ok (.iinc 3 1, 3) := by decide +kernel
theorem dc_R_clone_84 : decode bc_R_clone 84 = .ok (.goto (-34), 3) := by decide +kernel
theorem dc_R_clone_45 : decode bc_R_clone 45 = .ok (.bipush (-3), 2) := by decide +kernel
theorem dc_R_clone_47 : decode bc_R_clone 47 = .ok (.ireturn, 1) := by decide +kernel
theorem dc_S_drop_0 : decode bc_S_drop 0 = .ok (.iload_n 1, 1) := by decide +kernel
theorem dc_S_drop_1 : decode bc_S_drop 1 = .ok (.invokestatic 53, 3) := by decide +kernel
theorem dc_S_drop_4 : decode bc_S_drop 4 = .ok (.ifCond .ne 5, 3) := by decide +kernel
theorem dc_S_drop_9 : decode bc_S_drop 9 = .ok (.aload_n 0, 1) := by decide +kernel
theorem dc_S_drop_10 : decode bc_S_drop 10 = .ok (.getfield 46, 3) := by decide +kernel
theorem dc_S_drop_13 : decode bc_S_drop 13 = .ok (.getfield 82, 3) := by decide +kernel
theorem dc_S_drop_16 : decode bc_S_drop 16 = .ok (.iload_n 1, 1) := by decide +kernel
theorem dc_S_drop_17 : decode bc_S_drop 17 = .ok (.iaload, 1) := by decide +kernel
theorem dc_S_drop_18 : decode bc_S_drop 18 = .ok (.istore_n 2, 1) := by decide +kernel
theorem dc_S_drop_19 : decode bc_S_drop 19 = .ok (.aload_n 0, 1) := by decide +kernel
theorem dc_S_drop_20 : decode bc_S_drop 20 = .ok (.aload_n 0, 1) := by decide +kernel
theorem dc_S_drop_21 : decode bc_S_drop 21 = .ok (.getfield 46, 3) := by decide +kernel
theorem dc_S_drop_24 : decode bc_S_drop 24 = .ok (.iload_n 1, 1) := by decide +kernel
theorem dc_S_drop_25 : decode bc_S_drop 25 = .ok (.iconst 0, 1) := by decide +kernel
theorem dc_S_drop_26 : decode bc_S_drop 26 = .ok (.iconst 0, 1) := by decide +kernel
theorem dc_S_drop_27 : decode bc_S_drop 27 = .ok (.invokevirtual 94, 3) := by decide +kernel
theorem dc_S_drop_30 : decode bc_S_drop 30 = .ok (.iload_n 2, 1) := by decide +kernel
theorem dc_S_drop_31 : decode bc_S_drop 31 = .ok (.ireturn, 1) := by decide +kernel
theorem dc_S_drop_7 : decode bc_S_drop 7 = .ok (.iconst (-1), 1) := by decide +kernel
theorem dc_S_drop_8 : decode bc_S_drop 8 = .ok (.ireturn, 1) := by decide +kernel
theorem dc_R_drop_0 : decode bc_R_drop 0 = .ok (.iload_n 1, 1) := by decide +kernel
theorem dc_R_drop_1 : decode bc_R_drop 1 = .ok (.invokestatic 24, 3) := by decide +kernel
theorem dc_R_drop_4 : decode bc_R_drop 4 = .ok (.ifCond .ne 5, 3) := by decide +kernel
theorem dc_R_drop_9 : decode bc_R_drop 9 = .ok (.aload_n 0, 1) := by decide +kernel
theorem dc_R_drop_10 : decode bc_R_drop 10 = .ok (.getfield 17, 3) := by decide +kernel
theorem dc_R_drop_13 : decode bc_R_drop 13 = .ok (.iload_n 1, 1) := by decide +kernel
theorem dc_R_drop_14 : decode bc_R_drop 14 = .ok (.iaload, 1) := by decide +kernel
theorem dc_R_drop_15 : decode bc_R_drop 15 = .ok (.istore_n 2, 1) := by decide +kernel
theorem dc_R_drop_16 : decode bc_R_drop 16 = .ok (.aload_n 0, 1) := by decide +kernel
theorem dc_R_drop_17 : decode bc_R_drop 17 = .ok (.iload_n 1, 1) := by decide +kernel
theorem dc_R_drop_18 : decode bc_R_drop 18 = .ok (.iconst 0, 1) := by decide +kernel
theorem dc_R_drop_19 : decode bc_R_drop 19 = .ok (.sipush 4095, 3) := by decide +kernel
theorem dc_R_drop_22 : decode bc_R_drop 22 = .ok (.invokevirtual 49, 3) := by decide +kernel
theorem dc_R_drop_25 : decode bc_R_drop 25 = .ok (.pop, 1) := by decide +kernel
theorem dc_R_drop_26 : decode bc_R_drop 26 = .ok (.iload_n 2, 1) := by decide +kernel
theorem dc_R_drop_27 : decode bc_R_drop 27 = .ok (.ireturn, 1) := by decide +kernel
theorem dc_R_drop_7 : decode bc_R_drop 7 = .ok (.iconst (-1), 1) := by decide +kernel
theorem dc_R_drop_8 : decode bc_R_drop 8 = .ok (.ireturn, 1) := by decide +kernel
theorem dc_S_keep_0 : decode bc_S_keep 0 = .ok (.aload_n 0, 1) := by decide +kernel
theorem dc_S_keep_1 : decode bc_S_keep 1 = .ok (.aload_n 0, 1) := by decide +kernel
theorem dc_S_keep_2 : decode bc_S_keep 2 = .ok (.getfield 50, 3) := by decide +kernel
theorem dc_S_keep_5 : decode bc_S_keep 5 = .ok (.aload_n 0, 1) := by decide +kernel
theorem dc_S_keep_6 : decode bc_S_keep 6 = .ok (.getfield 46, 3) := by decide +kernel
theorem dc_S_keep_9 : decode bc_S_keep 9 = .ok (.invokevirtual 98, 3) := by decide +kernel
theorem dc_S_keep_12 : decode bc_S_keep 12 = .ok (.aload_n 0, 1) := by decide +kernel
theorem dc_S_keep_13 : decode bc_S_keep 13 = .ok (.getfield 46, 3) := by decide +kernel
theorem dc_S_keep_16 : decode bc_S_keep 16 = .ok (.getfield 70, 3) := by decide +kernel
theorem dc_S_keep_19 : decode bc_S_keep 19 = .ok (.ireturn, 1) := by decide +kernel
theorem dc_S_leadAll_0 : decode bc_S_leadAll 0 = .ok (.iconst 0, 1) := by decide +kernel
theorem dc_S_leadAll_1 : decode bc_S_leadAll 1 = .ok (.istore_n 3, 1) := by decide +kernel
theorem dc_S_leadAll_2 : decode bc_S_leadAll 2 = .ok (.iload_n 3, 1) := by decide +kernel
theorem dc_S_leadAll_3 : decode bc_S_leadAll 3 = .ok (.bipush 8, 2) := by decide +kernel
theorem dc_S_leadAll_5 : decode bc_S_leadAll 5 = .ok (.if_icmp .ge 27, 3) := by decide +kernel
theorem dc_S_leadAll_32 : decode bc_S_leadAll 32 = .ok (.return_, 1) := by decide +kernel
theorem dc_S_leadAll_8 : decode bc_S_leadAll 8 = .ok (.aload_n 0, 1) := by decide +kernel
theorem dc_S_leadAll_9 : decode bc_S_leadAll 9 = .ok (.aload_n 1, 1) := by decide +kernel
theorem dc_S_leadAll_10 : decode bc_S_leadAll 10 = .ok (.iload_n 3, 1) := by decide +kernel
theorem dc_S_leadAll_11 : decode bc_S_leadAll 11 = .ok (.aload_n 2, 1) := by decide +kernel
theorem dc_S_leadAll_12 : decode bc_S_leadAll 12 = .ok (.getfield 63, 3) := by decide +kernel
theorem dc_S_leadAll_15 : decode bc_S_leadAll 15 = .ok (.iload_n 3, 1) := by decide +kernel
theorem dc_S_leadAll_16 : decode bc_S_leadAll 16 = .ok (.iaload, 1) := by decide +kernel
theorem dc_S_leadAll_17 : decode bc_S_leadAll 17 = .ok (.aload_n 2, 1) := by decide +kernel
theorem dc_S_leadAll_18 : decode bc_S_leadAll 18 = .ok (.getfield 82, 3) := by decide +kernel
theorem dc_S_leadAll_21 : decode bc_S_leadAll 21 = .ok (.iload_n 3, 1) := by decide +kernel
theorem dc_S_leadAll_22 : decode bc_S_leadAll 22 = .ok (.iaload, 1) := by decide +kernel
theorem dc_S_leadAll_23 : decode bc_S_leadAll 23 = .ok (.invokevirtual 94, 3) := by decide +kernel
theorem dc_S_leadAll_26 : decode bc_S_leadAll 26 = .ok (.iinc 3 1, 3) := by decide +kernel
theorem dc_S_leadAll_29 : decode bc_S_leadAll 29 = .ok (.goto (-27), 3) := by decide +kernel
theorem dc_R_keep_0 : decode bc_R_keep 0 = .ok (.iconst 0, 1) := by decide +kernel
theorem dc_R_keep_1 : decode bc_R_keep 1 = .ok (.istore_n 1, 1) := by decide +kernel
theorem dc_R_keep_2 : decode bc_R_keep 2 = .ok (.iload_n 1, 1) := by decide +kernel
theorem dc_R_keep_3 : decode bc_R_keep 3 = .ok (.ldc 7, 2) := by decide +kernel
theorem dc_R_keep_5 : decode bc_R_keep 5 = .ok (.if_icmp .ge 21, 3) := by decide +kernel
theorem dc_R_keep_26 : decode bc_R_keep 26 = .ok (.iconst 0, 1) := by decide +kernel
theorem dc_R_keep_27 : decode bc_R_keep 27 = .ok (.istore_n 1, 1) := by decide +kernel
theorem dc_R_keep_28 : decode bc_R_keep 28 = .ok (.iload_n 1, 1) := by decide +kernel
theorem dc_R_keep_29 : decode bc_R_keep 29 = .ok (.bipush 8, 2) := by decide +kernel
theorem dc_R_keep_31 : decode bc_R_keep 31 = .ok (.if_icmp .ge 21, 3) := by decide +kernel
theorem dc_R_keep_52 : decode bc_R_keep 52 = .ok (.aload_n 0, 1) := by decide +kernel
theorem dc_R_keep_53 : decode bc_R_keep 53 = .ok (.invokevirtual 34, 3) := by decide +kernel
theorem dc_R_keep_56 : decode bc_R_keep 56 = .ok (.ireturn, 1) := by decide +kernel
theorem dc_R_keep_34 : decode bc_R_keep 34 = .ok (.aload_n 0, 1) := by decide +kernel
theorem dc_R_keep_35 : decode bc_R_keep 35 = .ok (.getfield 20, 3) := by decide +kernel
theorem dc_R_keep_38 : decode bc_R_keep 38 = .ok (.iload_n 1, 1) := by decide +kernel
theorem dc_R_keep_39 : decode bc_R_keep 39 = .ok (.aload_n 0, 1) := by decide +kernel
theorem dc_R_keep_40 : decode bc_R_keep 40 = .ok (.getfield 17, 3) := by decide +kernel
theorem dc_R_keep_43 : decode bc_R_keep 43 = .ok (.iload_n 1, 1) := by decide +kernel
theorem dc_R_keep_44 : decode bc_R_keep 44 = .ok (.iaload, 1) := by decide +kernel
theorem dc_R_keep_45 : decode bc_R_keep 45 = .ok (.iastore, 1) := by decide +kernel
theorem dc_R_keep_46 : decode bc_R_keep 46 = .ok (.iinc 1 1, 3) := by decide +kernel
theorem dc_R_keep_49 : decode bc_R_keep 49 = .ok (.goto (-21), 3) := by decide +kernel
theorem dc_R_keep_8 : decode bc_R_keep 8 = .ok (.aload_n 0, 1) := by decide +kernel
theorem dc_R_keep_9 : decode bc_R_keep 9 = .ok (.getfield 14, 3) := by decide +kernel
theorem dc_R_keep_12 : decode bc_R_keep 12 = .ok (.iload_n 1, 1) := by decide +kernel
theorem dc_R_keep_13 : decode bc_R_keep 13 = .ok (.aload_n 0, 1) := by decide +kernel
theorem dc_R_keep_14 : decode bc_R_keep 14 = .ok (.getfield 8, 3) := by decide +kernel
theorem dc_R_keep_17 : decode bc_R_keep 17 = .ok (.iload_n 1, 1) := by decide +kernel
theorem dc_R_keep_18 : decode bc_R_keep 18 = .ok (.iaload, 1) := by decide +kernel
theorem dc_R_keep_19 : decode bc_R_keep 19 = .ok (.iastore, 1) := by decide +kernel
theorem dc_R_keep_20 : decode bc_R_keep 20 = .ok (.iinc 1 1, 3) := by decide +kernel
theorem dc_R_keep_23 : decode bc_R_keep 23 = .ok (.goto (-21), 3) := by decide +kernel
theorem dc_S_back_0 : decode bc_S_back 0 = .ok (.aload_n 0, 1) := by decide +kernel
theorem dc_S_back_1 : decode bc_S_back 1 = .ok (.aload_n 0, 1) := by decide +kernel
theorem dc_S_back_2 : decode bc_S_back 2 = .ok (.getfield 46, 3) := by decide +kernel
theorem dc_S_back_5 : decode bc_S_back 5 = .ok (.aload_n 0, 1) := by decide +kernel
theorem dc_S_back_6 : decode bc_S_back 6 = .ok (.getfield 50, 3) := by decide +kernel
theorem dc_S_back_9 : decode bc_S_back 9 = .ok (.invokevirtual 98, 3) := by decide +kernel
theorem dc_S_back_12 : decode bc_S_back 12 = .ok (.aload_n 0, 1) := by decide +kernel
theorem dc_S_back_13 : decode bc_S_back 13 = .ok (.getfield 46, 3) := by decide +kernel
theorem dc_S_back_16 : decode bc_S_back 16 = .ok (.getfield 70, 3) := by decide +kernel
theorem dc_S_back_19 : decode bc_S_back 19 = .ok (.ireturn, 1) := by decide +kernel
theorem dc_R_back_0 : decode bc_R_back 0 = .ok (.iconst 0, 1) := by decide +kernel
theorem dc_R_back_1 : decode bc_R_back 1 = .ok (.istore_n 1, 1) := by decide +kernel
theorem dc_R_back_2 : decode bc_R_back 2 = .ok (.iload_n 1, 1) := by decide +kernel
theorem dc_R_back_3 : decode bc_R_back 3 = .ok (.ldc 7, 2) := by decide +kernel
theorem dc_R_back_5 : decode bc_R_back 5 = .ok (.if_icmp .ge 21, 3) := by decide +kernel
theorem dc_R_back_26 : decode bc_R_back 26 = .ok (.iconst 0, 1) := by decide +kernel
theorem dc_R_back_27 : decode bc_R_back 27 = .ok (.istore_n 1, 1) := by decide +kernel
theorem dc_R_back_28 : decode bc_R_back 28 = .ok (.iload_n 1, 1) := by decide +kernel
theorem dc_R_back_29 : decode bc_R_back 29 = .ok (.bipush 8, 2) := by decide +kernel
theorem dc_R_back_31 : decode bc_R_back 31 = .ok (.if_icmp .ge 21, 3) := by decide +kernel
theorem dc_R_back_52 : decode bc_R_back 52 = .ok (.aload_n 0, 1) := by decide +kernel
theorem dc_R_back_53 : decode bc_R_back 53 = .ok (.invokevirtual 34, 3) := by decide +kernel
theorem dc_R_back_56 : decode bc_R_back 56 = .ok (.ireturn, 1) := by decide +kernel
theorem dc_R_back_34 : decode bc_R_back 34 = .ok (.aload_n 0, 1) := by decide +kernel
theorem dc_R_back_35 : decode bc_R_back 35 = .ok (.getfield 17, 3) := by decide +kernel
theorem dc_R_back_38 : decode bc_R_back 38 = .ok (.iload_n 1, 1) := by decide +kernel
theorem dc_R_back_39 : decode bc_R_back 39 = .ok (.aload_n 0, 1) := by decide +kernel
theorem dc_R_back_40 : decode bc_R_back 40 = .ok (.getfield 20, 3) := by decide +kernel
theorem dc_R_back_43 : decode bc_R_back 43 = .ok (.iload_n 1, 1) := by decide +kernel
theorem dc_R_back_44 : decode bc_R_back 44 = .ok (.iaload, 1) := by decide +kernel
theorem dc_R_back_45 : decode bc_R_back 45 = .ok (.iastore, 1) := by decide +kernel
theorem dc_R_back_46 : decode bc_R_back 46 = .ok (.iinc 1 1, 3) := by decide +kernel
theorem dc_R_back_49 : decode bc_R_back 49 = .ok (.goto (-21), 3) := by decide +kernel
theorem dc_R_back_8 : decode bc_R_back 8 = .ok (.aload_n 0, 1) := by decide +kernel
theorem dc_R_back_9 : decode bc_R_back 9 = .ok (.getfield 8, 3) := by decide +kernel
theorem dc_R_back_12 : decode bc_R_back 12 = .ok (.iload_n 1, 1) := by decide +kernel
theorem dc_R_back_13 : decode bc_R_back 13 = .ok (.aload_n 0, 1) := by decide +kernel
theorem dc_R_back_14 : decode bc_R_back 14 = .ok (.getfield 14, 3) := by decide +kernel
theorem dc_R_back_17 : decode bc_R_back 17 = .ok (.iload_n 1, 1) := by decide +kernel
theorem dc_R_back_18 : decode bc_R_back 18 = .ok (.iaload, 1) := by decide +kernel
theorem dc_R_back_19 : decode bc_R_back 19 = .ok (.iastore, 1) := by decide +kernel
theorem dc_R_back_20 : decode bc_R_back 20 = .ok (.iinc 1 1, 3) := by decide +kernel
theorem dc_R_back_23 : decode bc_R_back 23 = .ok (.goto (-21), 3) := by decide +kernel
theorem dc_S_keys_0 : decode bc_S_keys 0 = .ok (.iload_n 1, 1) := by decide +kernel
theorem dc_S_keys_1 : decode bc_S_keys 1 = .ok (.iconst (-1), 1) := by decide +kernel
theorem dc_S_keys_2 : decode bc_S_keys 2 = .ok (.if_icmp .ne 11, 3) := by decide +kernel
theorem dc_S_keys_13 : decode bc_S_keys 13 = .ok (.iload_n 1, 1) := by decide +kernel
theorem dc_S_keys_14 : decode bc_S_keys 14 = .ok (.invokestatic 53, 3) := by decide +kernel
theorem dc_S_keys_17 : decode bc_S_keys 17 = .ok (.ifCond .eq 15, 3) := by decide +kernel
theorem dc_S_keys_32 : decode bc_S_keys 32 = .ok (.iconst (-1), 1) := by decide +kernel
theorem dc_S_keys_33 : decode bc_S_keys 33 = .ok (.ireturn, 1) := by decide +kernel
theorem dc_S_keys_20 : decode bc_S_keys 20 = .ok (.aload_n 0, 1) := by decide +kernel
theorem dc_S_keys_21 : decode bc_S_keys 21 = .ok (.getfield 46, 3) := by decide +kernel
theorem dc_S_keys_24 : decode bc_S_keys 24 = .ok (.getfield 82, 3) := by decide +kernel
theorem dc_S_keys_27 : decode bc_S_keys 27 = .ok (.iload_n 1, 1) := by decide +kernel
theorem dc_S_keys_28 : decode bc_S_keys 28 = .ok (.iaload, 1) := by decide +kernel
theorem dc_S_keys_29 : decode bc_S_keys 29 = .ok (.goto 4, 3) := by decide +kernel
theorem dc_S_keys_5 : decode bc_S_keys 5 = .ok (.aload_n 0, 1) := by decide +kernel
theorem dc_S_keys_6 : decode bc_S_keys 6 = .ok (.getfield 46, 3) := by decide +kernel
theorem dc_S_keys_9 : decode bc_S_keys 9 = .ok (.getfield 70, 3) := by decide +kernel
theorem dc_S_keys_12 : decode bc_S_keys 12 = .ok (.ireturn, 1) := by decide +kernel
theorem dc_R_keys_0 : decode bc_R_keys 0 = .ok (.iload_n 1, 1) := by decide +kernel
theorem dc_R_keys_1 : decode bc_R_keys 1 = .ok (.iconst (-1), 1) := by decide +kernel
theorem dc_R_keys_2 : decode bc_R_keys 2 = .ok (.if_icmp .ne 10, 3) := by decide +kernel
theorem dc_R_keys_12 : decode bc_R_keys 12 = .ok (.iload_n 1, 1) := by decide +kernel
theorem dc_R_keys_13 : decode bc_R_keys 13 = .ok (.invokestatic 24, 3) := by decide +kernel
theorem dc_R_keys_16 : decode bc_R_keys 16 = .ok (.ifCond .eq 12, 3) := by decide +kernel
theorem dc_R_keys_28 : decode bc_R_keys 28 = .ok (.iconst (-1), 1) := by decide +kernel
theorem dc_R_keys_29 : decode bc_R_keys 29 = .ok (.ireturn, 1) := by decide +kernel
theorem dc_R_keys_19 : decode bc_R_keys 19 = .ok (.aload_n 0, 1) := by decide +kernel
theorem dc_R_keys_20 : decode bc_R_keys 20 = .ok (.getfield 17, 3) := by decide +kernel
theorem dc_R_keys_23 : decode bc_R_keys 23 = .ok (.iload_n 1, 1) := by decide +kernel
theorem dc_R_keys_24 : decode bc_R_keys 24 = .ok (.iaload, 1) := by decide +kernel
theorem dc_R_keys_25 : decode bc_R_keys 25 = .ok (.goto 4, 3) := by decide +kernel
theorem dc_R_keys_5 : decode bc_R_keys 5 = .ok (.aload_n 0, 1) := by decide +kernel
theorem dc_R_keys_6 : decode bc_R_keys 6 = .ok (.invokevirtual 34, 3) := by decide +kernel
theorem dc_R_keys_9 : decode bc_R_keys 9 = .ok (.goto 20, 3) := by decide +kernel
theorem dc_S_check_0 : decode bc_S_check 0 = .ok (.aload_n 0, 1) := by decide +kernel
theorem dc_S_check_1 : decode bc_S_check 1 = .ok (.getfield 39, 3) := by decide +kernel
theorem dc_S_check_4 : decode bc_S_check 4 = .ok (.aload_n 0, 1) := by decide +kernel
theorem dc_S_check_5 : decode bc_S_check 5 = .ok (.getfield 46, 3) := by decide +kernel
theorem dc_S_check_8 : decode bc_S_check 8 = .ok (.aload_n 0, 1) := by decide +kernel
theorem dc_S_check_9 : decode bc_S_check 9 = .ok (.getfield 50, 3) := by decide +kernel
theorem dc_S_check_12 : decode bc_S_check 12 = .ok (.invokevirtual 102, 3) := by decide +kernel
theorem dc_S_check_15 : decode bc_S_check 15 = .ok (.ireturn, 1) := by decide +kernel
theorem dc_I_firstFault_0 : decode bc_I_firstFault 0 = .ok (.iconst 0, 1) := by decide +kernel
end
section
theorem dc_I_firstFault_1 : decode bc_I_firstFault 1 = .ok (.istore_n 3, 1) := by decide +kernel
theorem dc_I_firstFault_2 : decode bc_I_firstFault 2 = .ok (.iload_n 3, 1) := by decide +kernel
theorem dc_I_firstFault_3 : decode bc_I_firstFault 3 = .ok (.sipush 1200, 3) := by decide +kernel
theorem dc_I_firstFault_6 : decode bc_I_firstFault 6 = .ok (.if_icmp .gt 23, 3) := by decide +kernel
theorem dc_I_firstFault_29 : decode bc_I_firstFault 29 = .ok (.aload_n 0, 1) := by decide +kernel
theorem dc_I_firstFault_30 : decode bc_I_firstFault 30 = .ok (.aload_n 1, 1) := by decide +kernel
theorem dc_I_firstFault_31 : decode bc_I_firstFault 31 = .ok (.sipush 1201, 3) := by decide +kernel
theorem dc_I_firstFault_34 : decode bc_I_firstFault 34 = .ok (.invokevirtual 40, 3) := by decide +kernel
theorem dc_I_firstFault_37 : decode bc_I_firstFault 37 = .ok (.istore_n 3, 1) := by decide +kernel
theorem dc_I_firstFault_38 : decode bc_I_firstFault 38 = .ok (.iload_n 3, 1) := by decide +kernel
theorem dc_I_firstFault_39 : decode bc_I_firstFault 39 = .ok (.ifCond .ne 12, 3) := by decide +kernel
theorem dc_I_firstFault_51 : decode bc_I_firstFault 51 = .ok (.iload_n 3, 1) := by decide +kernel
theorem dc_I_firstFault_52 : decode bc_I_firstFault 52 = .ok (.ifCond .ne 8, 3) := by decide +kernel
theorem dc_I_firstFault_60 : decode bc_I_firstFault 60 = .ok (.iload_n 3, 1) := by decide +kernel
theorem dc_I_firstFault_61 : decode bc_I_firstFault 61 = .ok (.ifCond .eq 7, 3) := by decide +kernel
theorem dc_I_firstFault_68 : decode bc_I_firstFault 68 = .ok (.aload_n 0, 1) := by decide +kernel
theorem dc_I_firstFault_69 : decode bc_I_firstFault 69 = .ok (.invokevirtual 48, 3) := by decide +kernel
theorem dc_I_firstFault_72 : decode bc_I_firstFault 72 = .ok (.ireturn, 1) := by decide +kernel
theorem dc_I_firstFault_64 : decode bc_I_firstFault 64 = .ok (.iload_n 3, 1) := by decide +kernel
theorem dc_I_firstFault_65 : decode bc_I_firstFault 65 = .ok (.goto 7, 3) := by decide +kernel
theorem dc_I_firstFault_55 : decode bc_I_firstFault 55 = .ok (.aload_n 0, 1) := by decide +kernel
theorem dc_I_firstFault_56 : decode bc_I_firstFault 56 = .ok (.invokevirtual 44, 3) := by decide +kernel
theorem dc_I_firstFault_59 : decode bc_I_firstFault 59 = .ok (.istore_n 3, 1) := by decide +kernel
theorem dc_I_firstFault_42 : decode bc_I_firstFault 42 = .ok (.aload_n 0, 1) := by decide +kernel
theorem dc_I_firstFault_43 : decode bc_I_firstFault 43 = .ok (.aload_n 2, 1) := by decide +kernel
theorem dc_I_firstFault_44 : decode bc_I_firstFault 44 = .ok (.sipush 1209, 3) := by decide +kernel
theorem dc_I_firstFault_47 : decode bc_I_firstFault 47 = .ok (.invokevirtual 40, 3) := by decide +kernel
theorem dc_I_firstFault_50 : decode bc_I_firstFault 50 = .ok (.istore_n 3, 1) := by decide +kernel
theorem dc_I_firstFault_9 : decode bc_I_firstFault 9 = .ok (.aload_n 0, 1) := by decide +kernel
theorem dc_I_firstFault_10 : decode bc_I_firstFault 10 = .ok (.getfield 9, 3) := by decide +kernel
theorem dc_I_firstFault_13 : decode bc_I_firstFault 13 = .ok (.iload_n 3, 1) := by decide +kernel
theorem dc_I_firstFault_14 : decode bc_I_firstFault 14 = .ok (.iconst 0, 1) := by decide +kernel
theorem dc_I_firstFault_15 : decode bc_I_firstFault 15 = .ok (.iastore, 1) := by decide +kernel
theorem dc_I_firstFault_16 : decode bc_I_firstFault 16 = .ok (.aload_n 0, 1) := by decide +kernel
theorem dc_I_firstFault_17 : decode bc_I_firstFault 17 = .ok (.getfield 21, 3) := by decide +kernel
theorem dc_I_firstFault_20 : decode bc_I_firstFault 20 = .ok (.iload_n 3, 1) := by decide +kernel
theorem dc_I_firstFault_21 : decode bc_I_firstFault 21 = .ok (.iconst 0, 1) := by decide +kernel
theorem dc_I_firstFault_22 : decode bc_I_firstFault 22 = .ok (.bastore, 1) := by decide +kernel
theorem dc_I_firstFault_23 : decode bc_I_firstFault 23 = .ok (.iinc 3 1, 3) := by decide +kernel
theorem dc_I_firstFault_26 : decode bc_I_firstFault 26 = .ok (.goto (-24), 3) := by decide +kernel
theorem dc_I_faultOfMaps_0 : decode bc_I_faultOfMaps 0 = .ok (.iconst 0, 1) := by decide +kernel
theorem dc_I_faultOfMaps_1 : decode bc_I_faultOfMaps 1 = .ok (.istore_n 3, 1) := by decide +kernel
theorem dc_I_faultOfMaps_2 : decode bc_I_faultOfMaps 2 = .ok (.iconst 0, 1) := by decide +kernel
theorem dc_I_faultOfMaps_3 : decode bc_I_faultOfMaps 3 = .ok (.istore 4, 2) := by decide +kernel
theorem dc_I_faultOfMaps_5 : decode bc_I_faultOfMaps 5 = .ok (.iload 4, 2) := by decide +kernel
theorem dc_I_faultOfMaps_7 : decode bc_I_faultOfMaps 7 = .ok (.bipush 8, 2) := by decide +kernel
theorem dc_I_faultOfMaps_9 : decode bc_I_faultOfMaps 9 = .ok (.if_icmp .ge 51, 3) := by decide +kernel
theorem dc_I_faultOfMaps_60 : decode bc_I_faultOfMaps 60 = .ok (.iload_n 3, 1) := by decide +kernel
theorem dc_I_faultOfMaps_61 : decode bc_I_faultOfMaps 61 = .ok (.aload_n 1, 1) := by decide +kernel
theorem dc_I_faultOfMaps_62 : decode bc_I_faultOfMaps 62 = .ok (.getfield 63, 3) := by decide +kernel
theorem dc_I_faultOfMaps_65 : decode bc_I_faultOfMaps 65 = .ok (.if_icmp .ne 14, 3) := by decide +kernel
theorem dc_I_faultOfMaps_79 : decode bc_I_faultOfMaps 79 = .ok (.sipush 1217, 3) := by decide +kernel
theorem dc_I_faultOfMaps_82 : decode bc_I_faultOfMaps 82 = .ok (.ireturn, 1) := by decide +kernel
theorem dc_I_faultOfMaps_68 : decode bc_I_faultOfMaps 68 = .ok (.iload_n 3, 1) := by decide +kernel
theorem dc_I_faultOfMaps_69 : decode bc_I_faultOfMaps 69 = .ok (.sipush 600, 3) := by decide +kernel
theorem dc_I_faultOfMaps_72 : decode bc_I_faultOfMaps 72 = .ok (.if_icmp .gt 7, 3) := by decide +kernel
theorem dc_I_faultOfMaps_75 : decode bc_I_faultOfMaps 75 = .ok (.iconst 0, 1) := by decide +kernel
theorem dc_I_faultOfMaps_76 : decode bc_I_faultOfMaps 76 = .ok (.goto 6, 3) := by decide +kernel
theorem dc_I_faultOfMaps_12 : decode bc_I_faultOfMaps 12 = .ok (.aload_n 0, 1) := by decide +kernel
theorem dc_I_faultOfMaps_13 : decode bc_I_faultOfMaps 13 = .ok (.aload_n 1, 1) := by decide +kernel
theorem dc_I_faultOfMaps_14 : decode bc_I_faultOfMaps 14 = .ok (.getfield 51, 3) := by decide +kernel
theorem dc_I_faultOfMaps_17 : decode bc_I_faultOfMaps 17 = .ok (.iload 4, 2) := by decide +kernel
theorem dc_I_faultOfMaps_19 : decode bc_I_faultOfMaps 19 = .ok (.iaload, 1) := by decide +kernel
theorem dc_I_faultOfMaps_20 : decode bc_I_faultOfMaps 20 = .ok (.aload_n 1, 1) := by decide +kernel
theorem dc_I_faultOfMaps_21 : decode bc_I_faultOfMaps 21 = .ok (.getfield 56, 3) := by decide +kernel
theorem dc_I_faultOfMaps_24 : decode bc_I_faultOfMaps 24 = .ok (.iload 4, 2) := by decide +kernel
theorem dc_I_faultOfMaps_26 : decode bc_I_faultOfMaps 26 = .ok (.iaload, 1) := by decide +kernel
theorem dc_I_faultOfMaps_27 : decode bc_I_faultOfMaps 27 = .ok (.iload_n 2, 1) := by decide +kernel
theorem dc_I_faultOfMaps_28 : decode bc_I_faultOfMaps 28 = .ok (.iload 4, 2) := by decide +kernel
theorem dc_I_faultOfMaps_30 : decode bc_I_faultOfMaps 30 = .ok (.iadd, 1) := by decide +kernel
theorem dc_I_faultOfMaps_31 : decode bc_I_faultOfMaps 31 = .ok (.invokevirtual 59, 3) := by decide +kernel
theorem dc_I_faultOfMaps_34 : decode bc_I_faultOfMaps 34 = .ok (.istore 5, 2) := by decide +kernel
theorem dc_I_faultOfMaps_36 : decode bc_I_faultOfMaps 36 = .ok (.iload 5, 2) := by decide +kernel
theorem dc_I_faultOfMaps_38 : decode bc_I_faultOfMaps 38 = .ok (.ifCond .eq 6, 3) := by decide +kernel
theorem dc_I_faultOfMaps_44 : decode bc_I_faultOfMaps 44 = .ok (.iload_n 3, 1) := by decide +kernel
theorem dc_I_faultOfMaps_45 : decode bc_I_faultOfMaps 45 = .ok (.aload_n 1, 1) := by decide +kernel
theorem dc_I_faultOfMaps_46 : decode bc_I_faultOfMaps 46 = .ok (.getfield 56, 3) := by decide +kernel
theorem dc_I_faultOfMaps_49 : decode bc_I_faultOfMaps 49 = .ok (.iload 4, 2) := by decide +kernel
theorem dc_I_faultOfMaps_51 : decode bc_I_faultOfMaps 51 = .ok (.iaload, 1) := by decide +kernel
theorem dc_I_faultOfMaps_52 : decode bc_I_faultOfMaps 52 = .ok (.iadd, 1) := by decide +kernel
theorem dc_I_faultOfMaps_53 : decode bc_I_faultOfMaps 53 = .ok (.istore_n 3, 1) := by decide +kernel
theorem dc_I_faultOfMaps_54 : decode bc_I_faultOfMaps 54 = .ok (.iinc 4 1, 3) := by decide +kernel
theorem dc_I_faultOfMaps_57 : decode bc_I_faultOfMaps 57 = .ok (.goto (-52), 3) := by decide +kernel
theorem dc_I_faultOfMaps_41 : decode bc_I_faultOfMaps 41 = .ok (.iload 5, 2) := by decide +kernel
theorem dc_I_faultOfMaps_43 : decode bc_I_faultOfMaps 43 = .ok (.ireturn, 1) := by decide +kernel
theorem dc_I_faultOfTree_0 : decode bc_I_faultOfTree 0 = .ok (.iload_n 1, 1) := by decide +kernel
theorem dc_I_faultOfTree_1 : decode bc_I_faultOfTree 1 = .ok (.ifCond .ne 13, 3) := by decide +kernel
theorem dc_I_faultOfTree_14 : decode bc_I_faultOfTree 14 = .ok (.aload_n 0, 1) := by decide +kernel
theorem dc_I_faultOfTree_15 : decode bc_I_faultOfTree 15 = .ok (.getfield 25, 3) := by decide +kernel
theorem dc_I_faultOfTree_18 : decode bc_I_faultOfTree 18 = .ok (.iload_n 1, 1) := by decide +kernel
theorem dc_I_faultOfTree_19 : decode bc_I_faultOfTree 19 = .ok (.invokevirtual 66, 3) := by decide +kernel
theorem dc_I_faultOfTree_22 : decode bc_I_faultOfTree 22 = .ok (.ifCond .ne 5, 3) := by decide +kernel
theorem dc_I_faultOfTree_27 : decode bc_I_faultOfTree 27 = .ok (.aload_n 0, 1) := by decide +kernel
theorem dc_I_faultOfTree_28 : decode bc_I_faultOfTree 28 = .ok (.getfield 25, 3) := by decide +kernel
theorem dc_I_faultOfTree_31 : decode bc_I_faultOfTree 31 = .ok (.iload_n 1, 1) := by decide +kernel
theorem dc_I_faultOfTree_32 : decode bc_I_faultOfTree 32 = .ok (.invokevirtual 72, 3) := by decide +kernel
theorem dc_I_faultOfTree_35 : decode bc_I_faultOfTree 35 = .ok (.istore 4, 2) := by decide +kernel
theorem dc_I_faultOfTree_37 : decode bc_I_faultOfTree 37 = .ok (.aload_n 0, 1) := by decide +kernel
theorem dc_I_faultOfTree_38 : decode bc_I_faultOfTree 38 = .ok (.getfield 25, 3) := by decide +kernel
theorem dc_I_faultOfTree_41 : decode bc_I_faultOfTree 41 = .ok (.iload_n 1, 1) := by decide +kernel
theorem dc_I_faultOfTree_42 : decode bc_I_faultOfTree 42 = .ok (.invokevirtual 75, 3) := by decide +kernel
theorem dc_I_faultOfTree_45 : decode bc_I_faultOfTree 45 = .ok (.iload 4, 2) := by decide +kernel
theorem dc_I_faultOfTree_47 : decode bc_I_faultOfTree 47 = .ok (.ifCond .ne 7, 3) := by decide +kernel
theorem dc_I_faultOfTree_54 : decode bc_I_faultOfTree 54 = .ok (.iconst 2, 1) := by decide +kernel
theorem dc_I_faultOfTree_55 : decode bc_I_faultOfTree 55 = .ok (.if_icmp .ge 5, 3) := by decide +kernel
theorem dc_I_faultOfTree_60 : decode bc_I_faultOfTree 60 = .ok (.aload_n 0, 1) := by decide +kernel
theorem dc_I_faultOfTree_61 : decode bc_I_faultOfTree 61 = .ok (.iload_n 1, 1) := by decide +kernel
theorem dc_I_faultOfTree_62 : decode bc_I_faultOfTree 62 = .ok (.iload 4, 2) := by decide +kernel
theorem dc_I_faultOfTree_64 : decode bc_I_faultOfTree 64 = .ok (.invokevirtual 78, 3) := by decide +kernel
theorem dc_I_faultOfTree_67 : decode bc_I_faultOfTree 67 = .ok (.istore 5, 2) := by decide +kernel
theorem dc_I_faultOfTree_69 : decode bc_I_faultOfTree 69 = .ok (.iload 5, 2) := by decide +kernel
theorem dc_I_faultOfTree_71 : decode bc_I_faultOfTree 71 = .ok (.ifCond .eq 6, 3) := by decide +kernel
theorem dc_I_faultOfTree_77 : decode bc_I_faultOfTree 77 = .ok (.aload_n 0, 1) := by decide +kernel
theorem dc_I_faultOfTree_78 : decode bc_I_faultOfTree 78 = .ok (.getfield 15, 3) := by decide +kernel
theorem dc_I_faultOfTree_81 : decode bc_I_faultOfTree 81 = .ok (.iload_n 1, 1) := by decide +kernel
theorem dc_I_faultOfTree_82 : decode bc_I_faultOfTree 82 = .ok (.iaload, 1) := by decide +kernel
theorem dc_I_faultOfTree_83 : decode bc_I_faultOfTree 83 = .ok (.iload_n 2, 1) := by decide +kernel
theorem dc_I_faultOfTree_84 : decode bc_I_faultOfTree 84 = .ok (.if_icmp .ne 7, 3) := by decide +kernel
theorem dc_I_faultOfTree_91 : decode bc_I_faultOfTree 91 = .ok (.iload_n 3, 1) := by decide +kernel
theorem dc_I_faultOfTree_92 : decode bc_I_faultOfTree 92 = .ok (.ireturn, 1) := by decide +kernel
theorem dc_I_faultOfTree_87 : decode bc_I_faultOfTree 87 = .ok (.iconst 0, 1) := by decide +kernel
theorem dc_I_faultOfTree_88 : decode bc_I_faultOfTree 88 = .ok (.goto 4, 3) := by decide +kernel
theorem dc_I_faultOfTree_74 : decode bc_I_faultOfTree 74 = .ok (.iload 5, 2) := by decide +kernel
theorem dc_I_faultOfTree_76 : decode bc_I_faultOfTree 76 = .ok (.ireturn, 1) := by decide +kernel
theorem dc_I_faultOfTree_58 : decode bc_I_faultOfTree 58 = .ok (.iload_n 1, 1) := by decide +kernel
theorem dc_I_faultOfTree_59 : decode bc_I_faultOfTree 59 = .ok (.ireturn, 1) := by decide +kernel
theorem dc_I_faultOfTree_50 : decode bc_I_faultOfTree 50 = .ok (.iconst 1, 1) := by decide +kernel
theorem dc_I_faultOfTree_51 : decode bc_I_faultOfTree 51 = .ok (.goto 4, 3) := by decide +kernel
theorem dc_I_faultOfTree_25 : decode bc_I_faultOfTree 25 = .ok (.iload_n 3, 1) := by decide +kernel
theorem dc_I_faultOfTree_26 : decode bc_I_faultOfTree 26 = .ok (.ireturn, 1) := by decide +kernel
theorem dc_I_faultOfTree_4 : decode bc_I_faultOfTree 4 = .ok (.iload_n 2, 1) := by decide +kernel
theorem dc_I_faultOfTree_5 : decode bc_I_faultOfTree 5 = .ok (.ifCond .ne 7, 3) := by decide +kernel
theorem dc_I_faultOfTree_12 : decode bc_I_faultOfTree 12 = .ok (.iload_n 3, 1) := by decide +kernel
theorem dc_I_faultOfTree_13 : decode bc_I_faultOfTree 13 = .ok (.ireturn, 1) := by decide +kernel
theorem dc_I_faultOfTree_8 : decode bc_I_faultOfTree 8 = .ok (.iconst 0, 1) := by decide +kernel
theorem dc_I_faultOfTree_9 : decode bc_I_faultOfTree 9 = .ok (.goto 4, 3) := by decide +kernel
theorem dc_I_faultBelow_0 : decode bc_I_faultBelow 0 = .ok (.iload_n 2, 1) := by decide +kernel
theorem dc_I_faultBelow_1 : decode bc_I_faultBelow 1 = .ok (.ifCond .lt 20, 3) := by decide +kernel
theorem dc_I_faultBelow_21 : decode bc_I_faultBelow 21 = .ok (.sipush 1219, 3) := by decide +kernel
theorem dc_I_faultBelow_24 : decode bc_I_faultBelow 24 = .ok (.ireturn, 1) := by decide +kernel
theorem dc_I_faultBelow_4 : decode bc_I_faultBelow 4 = .ok (.iload_n 2, 1) := by decide +kernel
theorem dc_I_faultBelow_5 : decode bc_I_faultBelow 5 = .ok (.bipush 16, 2) := by decide +kernel
theorem dc_I_faultBelow_7 : decode bc_I_faultBelow 7 = .ok (.if_icmp .gt 14, 3) := by decide +kernel
theorem dc_I_faultBelow_10 : decode bc_I_faultBelow 10 = .ok (.aload_n 0, 1) := by decide +kernel
theorem dc_I_faultBelow_11 : decode bc_I_faultBelow 11 = .ok (.getfield 25, 3) := by decide +kernel
theorem dc_I_faultBelow_14 : decode bc_I_faultBelow 14 = .ok (.iload_n 1, 1) := by decide +kernel
theorem dc_I_faultBelow_15 : decode bc_I_faultBelow 15 = .ok (.invokevirtual 66, 3) := by decide +kernel
theorem dc_I_faultBelow_18 : decode bc_I_faultBelow 18 = .ok (.ifCond .ne 7, 3) := by decide +kernel
theorem dc_I_faultBelow_25 : decode bc_I_faultBelow 25 = .ok (.aload_n 0, 1) := by decide +kernel
theorem dc_I_faultBelow_26 : decode bc_I_faultBelow 26 = .ok (.getfield 9, 3) := by decide +kernel
theorem dc_I_faultBelow_29 : decode bc_I_faultBelow 29 = .ok (.iload_n 1, 1) := by decide +kernel
theorem dc_I_faultBelow_30 : decode bc_I_faultBelow 30 = .ok (.dup2, 1) := by decide +kernel
theorem dc_I_faultBelow_31 : decode bc_I_faultBelow 31 = .ok (.iaload, 1) := by decide +kernel
theorem dc_I_faultBelow_32 : decode bc_I_faultBelow 32 = .ok (.iconst 1, 1) := by decide +kernel
theorem dc_I_faultBelow_33 : decode bc_I_faultBelow 33 = .ok (.iadd, 1) := by decide +kernel
theorem dc_I_faultBelow_34 : decode bc_I_faultBelow 34 = .ok (.iastore, 1) := by decide +kernel
theorem dc_I_faultBelow_35 : decode bc_I_faultBelow 35 = .ok (.aload_n 0, 1) := by decide +kernel
theorem dc_I_faultBelow_36 : decode bc_I_faultBelow 36 = .ok (.getfield 9, 3) := by decide +kernel
theorem dc_I_faultBelow_39 : decode bc_I_faultBelow 39 = .ok (.iload_n 1, 1) := by decide +kernel
theorem dc_I_faultBelow_40 : decode bc_I_faultBelow 40 = .ok (.iaload, 1) := by decide +kernel
theorem dc_I_faultBelow_41 : decode bc_I_faultBelow 41 = .ok (.iconst 1, 1) := by decide +kernel
theorem dc_I_faultBelow_42 : decode bc_I_faultBelow 42 = .ok (.if_icmp .le 5, 3) := by decide +kernel
theorem dc_I_faultBelow_47 : decode bc_I_faultBelow 47 = .ok (.aload_n 0, 1) := by decide +kernel
theorem dc_I_faultBelow_48 : decode bc_I_faultBelow 48 = .ok (.iload_n 1, 1) := by decide +kernel
theorem dc_I_faultBelow_49 : decode bc_I_faultBelow 49 = .ok (.invokevirtual 82, 3) := by decide +kernel
theorem dc_I_faultBelow_52 : decode bc_I_faultBelow 52 = .ok (.ifCond .ne 5, 3) := by decide +kernel
theorem dc_I_faultBelow_57 : decode bc_I_faultBelow 57 = .ok (.iload_n 2, 1) := by decide +kernel
theorem dc_I_faultBelow_58 : decode bc_I_faultBelow 58 = .ok (.ifCond .ne 11, 3) := by decide +kernel
theorem dc_I_faultBelow_69 : decode bc_I_faultBelow 69 = .ok (.aload_n 0, 1) := by decide +kernel
theorem dc_I_faultBelow_70 : decode bc_I_faultBelow 70 = .ok (.iload_n 1, 1) := by decide +kernel
theorem dc_I_faultBelow_71 : decode bc_I_faultBelow 71 = .ok (.iload_n 2, 1) := by decide +kernel
theorem dc_I_faultBelow_72 : decode bc_I_faultBelow 72 = .ok (.invokevirtual 88, 3) := by decide +kernel
theorem dc_I_faultBelow_75 : decode bc_I_faultBelow 75 = .ok (.ireturn, 1) := by decide +kernel
theorem dc_I_faultBelow_61 : decode bc_I_faultBelow 61 = .ok (.aload_n 0, 1) := by decide +kernel
theorem dc_I_faultBelow_62 : decode bc_I_faultBelow 62 = .ok (.iload_n 1, 1) := by decide +kernel
theorem dc_I_faultBelow_63 : decode bc_I_faultBelow 63 = .ok (.invokevirtual 85, 3) := by decide +kernel
theorem dc_I_faultBelow_66 : decode bc_I_faultBelow 66 = .ok (.goto 9, 3) := by decide +kernel
theorem dc_I_faultBelow_55 : decode bc_I_faultBelow 55 = .ok (.iload_n 1, 1) := by decide +kernel
theorem dc_I_faultBelow_56 : decode bc_I_faultBelow 56 = .ok (.ireturn, 1) := by decide +kernel
theorem dc_I_faultBelow_45 : decode bc_I_faultBelow 45 = .ok (.iconst 0, 1) := by decide +kernel
theorem dc_I_faultBelow_46 : decode bc_I_faultBelow 46 = .ok (.ireturn, 1) := by decide +kernel
theorem dc_I_hasOrder_0 : decode bc_I_hasOrder 0 = .ok (.aload_n 0, 1) := by decide +kernel
theorem dc_I_hasOrder_1 : decode bc_I_hasOrder 1 = .ok (.getfield 25, 3) := by decide +kernel
theorem dc_I_hasOrder_4 : decode bc_I_hasOrder 4 = .ok (.iload_n 1, 1) := by decide +kernel
theorem dc_I_hasOrder_5 : decode bc_I_hasOrder 5 = .ok (.invokevirtual 75, 3) := by decide +kernel
theorem dc_I_hasOrder_8 : decode bc_I_hasOrder 8 = .ok (.istore_n 2, 1) := by decide +kernel
theorem dc_I_hasOrder_9 : decode bc_I_hasOrder 9 = .ok (.iload_n 2, 1) := by decide +kernel
theorem dc_I_hasOrder_10 : decode bc_I_hasOrder 10 = .ok (.iconst 1, 1) := by decide +kernel
theorem dc_I_hasOrder_11 : decode bc_I_hasOrder 11 = .ok (.if_icmp .lt 11, 3) := by decide +kernel
theorem dc_I_hasOrder_22 : decode bc_I_hasOrder 22 = .ok (.iconst 0, 1) := by decide +kernel
theorem dc_I_hasOrder_23 : decode bc_I_hasOrder 23 = .ok (.ireturn, 1) := by decide +kernel
theorem dc_I_hasOrder_14 : decode bc_I_hasOrder 14 = .ok (.iload_n 2, 1) := by decide +kernel
theorem dc_I_hasOrder_15 : decode bc_I_hasOrder 15 = .ok (.aload_n 0, 1) := by decide +kernel
theorem dc_I_hasOrder_16 : decode bc_I_hasOrder 16 = .ok (.getfield 29, 3) := by decide +kernel
theorem dc_I_hasOrder_19 : decode bc_I_hasOrder 19 = .ok (.if_icmp .le 5, 3) := by decide +kernel
theorem dc_I_hasOrder_24 : decode bc_I_hasOrder 24 = .ok (.iconst 1, 1) := by decide +kernel
theorem dc_I_hasOrder_25 : decode bc_I_hasOrder 25 = .ok (.istore_n 3, 1) := by decide +kernel
theorem dc_I_hasOrder_26 : decode bc_I_hasOrder 26 = .ok (.iload_n 3, 1) := by decide +kernel
theorem dc_I_hasOrder_27 : decode bc_I_hasOrder 27 = .ok (.iload_n 2, 1) := by decide +kernel
theorem dc_I_hasOrder_28 : decode bc_I_hasOrder 28 = .ok (.if_icmp .ge 34, 3) := by decide +kernel
theorem dc_I_hasOrder_62 : decode bc_I_hasOrder 62 = .ok (.aload_n 0, 1) := by decide +kernel
theorem dc_I_hasOrder_63 : decode bc_I_hasOrder 63 = .ok (.getfield 25, 3) := by decide +kernel
theorem dc_I_hasOrder_66 : decode bc_I_hasOrder 66 = .ok (.iload_n 1, 1) := by decide +kernel
theorem dc_I_hasOrder_67 : decode bc_I_hasOrder 67 = .ok (.iconst 0, 1) := by decide +kernel
theorem dc_I_hasOrder_68 : decode bc_I_hasOrder 68 = .ok (.invokevirtual 91, 3) := by decide +kernel
theorem dc_I_hasOrder_71 : decode bc_I_hasOrder 71 = .ok (.invokestatic 94, 3) := by decide +kernel
theorem dc_I_hasOrder_74 : decode bc_I_hasOrder 74 = .ok (.ifCond .eq 24, 3) := by decide +kernel
theorem dc_I_hasOrder_98 : decode bc_I_hasOrder 98 = .ok (.iconst 0, 1) := by decide +kernel
theorem dc_I_hasOrder_99 : decode bc_I_hasOrder 99 = .ok (.ireturn, 1) := by decide +kernel
theorem dc_I_hasOrder_77 : decode bc_I_hasOrder 77 = .ok (.aload_n 0, 1) := by decide +kernel
theorem dc_I_hasOrder_78 : decode bc_I_hasOrder 78 = .ok (.getfield 25, 3) := by decide +kernel
theorem dc_I_hasOrder_81 : decode bc_I_hasOrder 81 = .ok (.iload_n 1, 1) := by decide +kernel
theorem dc_I_hasOrder_82 : decode bc_I_hasOrder 82 = .ok (.iload_n 2, 1) := by decide +kernel
theorem dc_I_hasOrder_83 : decode bc_I_hasOrder 83 = .ok (.iconst 1, 1) := by decide +kernel
theorem dc_I_hasOrder_84 : decode bc_I_hasOrder 84 = .ok (.isub, 1) := by decide +kernel
theorem dc_I_hasOrder_85 : decode bc_I_hasOrder 85 = .ok (.invokevirtual 91, 3) := by decide +kernel
theorem dc_I_hasOrder_88 : decode bc_I_hasOrder 88 = .ok (.invokestatic 94, 3) := by decide +kernel
theorem dc_I_hasOrder_91 : decode bc_I_hasOrder 91 = .ok (.ifCond .eq 7, 3) := by decide +kernel
theorem dc_I_hasOrder_94 : decode bc_I_hasOrder 94 = .ok (.iconst 1, 1) := by decide +kernel
theorem dc_I_hasOrder_95 : decode bc_I_hasOrder 95 = .ok (.goto 4, 3) := by decide +kernel
theorem dc_I_hasOrder_31 : decode bc_I_hasOrder 31 = .ok (.aload_n 0, 1) := by decide +kernel
theorem dc_I_hasOrder_32 : decode bc_I_hasOrder 32 = .ok (.getfield 25, 3) := by decide +kernel
theorem dc_I_hasOrder_35 : decode bc_I_hasOrder 35 = .ok (.iload_n 1, 1) := by decide +kernel
theorem dc_I_hasOrder_36 : decode bc_I_hasOrder 36 = .ok (.iload_n 3, 1) := by decide +kernel
theorem dc_I_hasOrder_37 : decode bc_I_hasOrder 37 = .ok (.iconst 1, 1) := by decide +kernel
theorem dc_I_hasOrder_38 : decode bc_I_hasOrder 38 = .ok (.isub, 1) := by decide +kernel
theorem dc_I_hasOrder_39 : decode bc_I_hasOrder 39 = .ok (.invokevirtual 91, 3) := by decide +kernel
theorem dc_I_hasOrder_42 : decode bc_I_hasOrder 42 = .ok (.aload_n 0, 1) := by decide +kernel
theorem dc_I_hasOrder_43 : decode bc_I_hasOrder 43 = .ok (.getfield 25, 3) := by decide +kernel
theorem dc_I_hasOrder_46 : decode bc_I_hasOrder 46 = .ok (.iload_n 1, 1) := by decide +kernel
theorem dc_I_hasOrder_47 : decode bc_I_hasOrder 47 = .ok (.iload_n 3, 1) := by decide +kernel
theorem dc_I_hasOrder_48 : decode bc_I_hasOrder 48 = .ok (.invokevirtual 91, 3) := by decide +kernel
theorem dc_I_hasOrder_51 : decode bc_I_hasOrder 51 = .ok (.if_icmp .lt 5, 3) := by decide +kernel
theorem dc_I_hasOrder_56 : decode bc_I_hasOrder 56 = .ok (.iinc 3 1, 3) := by decide +kernel
theorem dc_I_hasOrder_59 : decode bc_I_hasOrder 59 = .ok (.goto (-33), 3) := by decide +kernel
theorem dc_I_hasOrder_54 : decode bc_I_hasOrder 54 = .ok (.iconst 0, 1) := by decide +kernel
theorem dc_I_hasOrder_55 : decode bc_I_hasOrder 55 = .ok (.ireturn, 1) := by decide +kernel
theorem dc_I_faultOfNode_0 : decode bc_I_faultOfNode 0 = .ok (.aload_n 0, 1) := by decide +kernel
theorem dc_I_faultOfNode_1 : decode bc_I_faultOfNode 1 = .ok (.getfield 25, 3) := by decide +kernel
theorem dc_I_faultOfNode_4 : decode bc_I_faultOfNode 4 = .ok (.iload_n 1, 1) := by decide +kernel
theorem dc_I_faultOfNode_5 : decode bc_I_faultOfNode 5 = .ok (.invokevirtual 75, 3) := by decide +kernel
theorem dc_I_faultOfNode_8 : decode bc_I_faultOfNode 8 = .ok (.istore_n 3, 1) := by decide +kernel
theorem dc_I_faultOfNode_9 : decode bc_I_faultOfNode 9 = .ok (.iconst 0, 1) := by decide +kernel
theorem dc_I_faultOfNode_10 : decode bc_I_faultOfNode 10 = .ok (.istore 4, 2) := by decide +kernel
theorem dc_I_faultOfNode_12 : decode bc_I_faultOfNode 12 = .ok (.bipush (-2), 2) := by decide +kernel
theorem dc_I_faultOfNode_14 : decode bc_I_faultOfNode 14 = .ok (.istore 5, 2) := by decide +kernel
theorem dc_I_faultOfNode_16 : decode bc_I_faultOfNode 16 = .ok (.iconst 0, 1) := by decide +kernel
theorem dc_I_faultOfNode_17 : decode bc_I_faultOfNode 17 = .ok (.istore 6, 2) := by decide +kernel
theorem dc_I_faultOfNode_19 : decode bc_I_faultOfNode 19 = .ok (.iload 6, 2) := by decide +kernel
theorem dc_I_faultOfNode_21 : decode bc_I_faultOfNode 21 = .ok (.iload_n 3, 1) := by decide +kernel
theorem dc_I_faultOfNode_22 : decode bc_I_faultOfNode 22 = .ok (.if_icmp .ge 145, 3) := by decide +kernel
theorem dc_I_faultOfNode_167 : decode bc_I_faultOfNode 167 = .ok (.aload_n 0, 1) := by decide +kernel
theorem dc_I_faultOfNode_168 : decode bc_I_faultOfNode 168 = .ok (.getfield 15, 3) := by decide +kernel
theorem dc_I_faultOfNode_171 : decode bc_I_faultOfNode 171 = .ok (.iload_n 1, 1) := by decide +kernel
theorem dc_I_faultOfNode_172 : decode bc_I_faultOfNode 172 = .ok (.iload 4, 2) := by decide +kernel
theorem dc_I_faultOfNode_174 : decode bc_I_faultOfNode 174 = .ok (.iastore, 1) := by decide +kernel
theorem dc_I_faultOfNode_175 : decode bc_I_faultOfNode 175 = .ok (.aload_n 0, 1) := by decide +kernel
theorem dc_I_faultOfNode_176 : decode bc_I_faultOfNode 176 = .ok (.getfield 18, 3) := by decide +kernel
theorem dc_I_faultOfNode_179 : decode bc_I_faultOfNode 179 = .ok (.iload_n 1, 1) := by decide +kernel
theorem dc_I_faultOfNode_180 : decode bc_I_faultOfNode 180 = .ok (.iload 5, 2) := by decide +kernel
theorem dc_I_faultOfNode_182 : decode bc_I_faultOfNode 182 = .ok (.iastore, 1) := by decide +kernel
theorem dc_I_faultOfNode_183 : decode bc_I_faultOfNode 183 = .ok (.iconst 0, 1) := by decide +kernel
theorem dc_I_faultOfNode_184 : decode bc_I_faultOfNode 184 = .ok (.ireturn, 1) := by decide +kernel
theorem dc_I_faultOfNode_25 : decode bc_I_faultOfNode 25 = .ok (.aload_n 0, 1) := by decide +kernel
theorem dc_I_faultOfNode_26 : decode bc_I_faultOfNode 26 = .ok (.getfield 25, 3) := by decide +kernel
theorem dc_I_faultOfNode_29 : decode bc_I_faultOfNode 29 = .ok (.iload_n 1, 1) := by decide +kernel
theorem dc_I_faultOfNode_30 : decode bc_I_faultOfNode 30 = .ok (.iload 6, 2) := by decide +kernel
theorem dc_I_faultOfNode_32 : decode bc_I_faultOfNode 32 = .ok (.invokevirtual 97, 3) := by decide +kernel
theorem dc_I_faultOfNode_35 : decode bc_I_faultOfNode 35 = .ok (.istore 7, 2) := by decide +kernel
theorem dc_I_faultOfNode_37 : decode bc_I_faultOfNode 37 = .ok (.aload_n 0, 1) := by decide +kernel
theorem dc_I_faultOfNode_38 : decode bc_I_faultOfNode 38 = .ok (.getfield 25, 3) := by decide +kernel
theorem dc_I_faultOfNode_41 : decode bc_I_faultOfNode 41 = .ok (.iload 7, 2) := by decide +kernel
theorem dc_I_faultOfNode_43 : decode bc_I_faultOfNode 43 = .ok (.invokevirtual 66, 3) := by decide +kernel
theorem dc_I_faultOfNode_46 : decode bc_I_faultOfNode 46 = .ok (.ifCond .eq 18, 3) := by decide +kernel
theorem dc_I_faultOfNode_64 : decode bc_I_faultOfNode 64 = .ok (.iload_n 1, 1) := by decide +kernel
theorem dc_I_faultOfNode_65 : decode bc_I_faultOfNode 65 = .ok (.ireturn, 1) := by decide +kernel
theorem dc_I_faultOfNode_49 : decode bc_I_faultOfNode 49 = .ok (.aload_n 0, 1) := by decide +kernel
theorem dc_I_faultOfNode_50 : decode bc_I_faultOfNode 50 = .ok (.getfield 25, 3) := by decide +kernel
theorem dc_I_faultOfNode_53 : decode bc_I_faultOfNode 53 = .ok (.iload 7, 2) := by decide +kernel
theorem dc_I_faultOfNode_55 : decode bc_I_faultOfNode 55 = .ok (.invokevirtual 72, 3) := by decide +kernel
theorem dc_I_faultOfNode_58 : decode bc_I_faultOfNode 58 = .ok (.iload_n 2, 1) := by decide +kernel
theorem dc_I_faultOfNode_59 : decode bc_I_faultOfNode 59 = .ok (.iconst 1, 1) := by decide +kernel
theorem dc_I_faultOfNode_60 : decode bc_I_faultOfNode 60 = .ok (.isub, 1) := by decide +kernel
theorem dc_I_faultOfNode_61 : decode bc_I_faultOfNode 61 = .ok (.if_icmp .eq 5, 3) := by decide +kernel
theorem dc_I_faultOfNode_66 : decode bc_I_faultOfNode 66 = .ok (.aload_n 0, 1) := by decide +kernel
theorem dc_I_faultOfNode_67 : decode bc_I_faultOfNode 67 = .ok (.getfield 25, 3) := by decide +kernel
theorem dc_I_faultOfNode_70 : decode bc_I_faultOfNode 70 = .ok (.iload 7, 2) := by decide +kernel
theorem dc_I_faultOfNode_72 : decode bc_I_faultOfNode 72 = .ok (.invokevirtual 75, 3) := by decide +kernel
theorem dc_I_faultOfNode_75 : decode bc_I_faultOfNode 75 = .ok (.aload_n 0, 1) := by decide +kernel
theorem dc_I_faultOfNode_76 : decode bc_I_faultOfNode 76 = .ok (.getfield 37, 3) := by decide +kernel
theorem dc_I_faultOfNode_79 : decode bc_I_faultOfNode 79 = .ok (.if_icmp .ge 6, 3) := by decide +kernel
theorem dc_I_faultOfNode_85 : decode bc_I_faultOfNode 85 = .ok (.aload_n 0, 1) := by decide +kernel
theorem dc_I_faultOfNode_86 : decode bc_I_faultOfNode 86 = .ok (.iload 7, 2) := by decide +kernel
theorem dc_I_faultOfNode_88 : decode bc_I_faultOfNode 88 = .ok (.iload_n 2, 1) := by decide +kernel
theorem dc_I_faultOfNode_89 : decode bc_I_faultOfNode 89 = .ok (.iconst 1, 1) := by decide +kernel
theorem dc_I_faultOfNode_90 : decode bc_I_faultOfNode 90 = .ok (.isub, 1) := by decide +kernel
theorem dc_I_faultOfNode_91 : decode bc_I_faultOfNode 91 = .ok (.invokevirtual 78, 3) := by decide +kernel
theorem dc_I_faultOfNode_94 : decode bc_I_faultOfNode 94 = .ok (.istore 8, 2) := by decide +kernel
theorem dc_I_faultOfNode_96 : decode bc_I_faultOfNode 96 = .ok (.iload 8, 2) := by decide +kernel
theorem dc_I_faultOfNode_98 : decode bc_I_faultOfNode 98 = .ok (.ifCond .eq 6, 3) := by decide +kernel
theorem dc_I_faultOfNode_104 : decode bc_I_faultOfNode 104 = .ok (.aload_n 0, 1) := by decide +kernel
theorem dc_I_faultOfNode_105 : decode bc_I_faultOfNode 105 = .ok (.getfield 25, 3) := by decide +kernel
theorem dc_I_faultOfNode_108 : decode bc_I_faultOfNode 108 = .ok (.iload_n 1, 1) := by decide +kernel
theorem dc_I_faultOfNode_109 : decode bc_I_faultOfNode 109 = .ok (.iload 6, 2) := by decide +kernel
theorem dc_I_faultOfNode_111 : decode bc_I_faultOfNode 111 = .ok (.invokevirtual 91, 3) := by decide +kernel
theorem dc_I_faultOfNode_114 : decode bc_I_faultOfNode 114 = .ok (.istore 9, 2) := by decide +kernel
theorem dc_I_faultOfNode_116 : decode bc_I_faultOfNode 116 = .ok (.iload 9, 2) := by decide +kernel
theorem dc_I_faultOfNode_118 : decode bc_I_faultOfNode 118 = .ok (.aload_n 0, 1) := by decide +kernel
theorem dc_I_faultOfNode_119 : decode bc_I_faultOfNode 119 = .ok (.getfield 25, 3) := by decide +kernel
theorem dc_I_faultOfNode_122 : decode bc_I_faultOfNode 122 = .ok (.iload 7, 2) := by decide +kernel
theorem dc_I_faultOfNode_124 : decode bc_I_faultOfNode 124 = .ok (.iconst 0, 1) := by decide +kernel
theorem dc_I_faultOfNode_125 : decode bc_I_faultOfNode 125 = .ok (.invokevirtual 91, 3) := by decide +kernel
theorem dc_I_faultOfNode_128 : decode bc_I_faultOfNode 128 = .ok (.if_icmp .ne 10, 3) := by decide +kernel
theorem dc_I_faultOfNode_138 : decode bc_I_faultOfNode 138 = .ok (.iload_n 1, 1) := by decide +kernel
theorem dc_I_faultOfNode_139 : decode bc_I_faultOfNode 139 = .ok (.ireturn, 1) := by decide +kernel
theorem dc_I_faultOfNode_131 : decode bc_I_faultOfNode 131 = .ok (.iload 9, 2) := by decide +kernel
theorem dc_I_faultOfNode_133 : decode bc_I_faultOfNode 133 = .ok (.iload 5, 2) := by decide +kernel
theorem dc_I_faultOfNode_135 : decode bc_I_faultOfNode 135 = .ok (.if_icmp .gt 5, 3) := by decide +kernel
theorem dc_I_faultOfNode_140 : decode bc_I_faultOfNode 140 = .ok (.aload_n 0, 1) := by decide +kernel
theorem dc_I_faultOfNode_141 : decode bc_I_faultOfNode 141 = .ok (.getfield 18, 3) := by decide +kernel
theorem dc_I_faultOfNode_144 : decode bc_I_faultOfNode 144 = .ok (.iload 7, 2) := by decide +kernel
theorem dc_I_faultOfNode_146 : decode bc_I_faultOfNode 146 = .ok (.iaload, 1) := by decide +kernel
theorem dc_I_faultOfNode_147 : decode bc_I_faultOfNode 147 = .ok (.istore 5, 2) := by decide +kernel
theorem dc_I_faultOfNode_149 : decode bc_I_faultOfNode 149 = .ok (.iload 4, 2) := by decide +kernel
theorem dc_I_faultOfNode_151 : decode bc_I_faultOfNode 151 = .ok (.aload_n 0, 1) := by decide +kernel
theorem dc_I_faultOfNode_152 : decode bc_I_faultOfNode 152 = .ok (.getfield 15, 3) := by decide +kernel
theorem dc_I_faultOfNode_155 : decode bc_I_faultOfNode 155 = .ok (.iload 7, 2) := by decide +kernel
theorem dc_I_faultOfNode_157 : decode bc_I_faultOfNode 157 = .ok (.iaload, 1) := by decide +kernel
theorem dc_I_faultOfNode_158 : decode bc_I_faultOfNode 158 = .ok (.iadd, 1) := by decide +kernel
theorem dc_I_faultOfNode_159 : decode bc_I_faultOfNode 159 = .ok (.istore 4, 2) := by decide +kernel
theorem dc_I_faultOfNode_161 : decode bc_I_faultOfNode 161 = .ok (.iinc 6 1, 3) := by decide +kernel
theorem dc_I_faultOfNode_164 : decode bc_I_faultOfNode 164 = .ok (.goto (-145), 3) := by decide +kernel
theorem dc_I_faultOfNode_101 : decode bc_I_faultOfNode 101 = .ok (.iload 8, 2) := by decide +kernel
theorem dc_I_faultOfNode_103 : decode bc_I_faultOfNode 103 = .ok (.ireturn, 1) := by decide +kernel
theorem dc_I_faultOfNode_82 : decode bc_I_faultOfNode 82 = .ok (.iload 7, 2) := by decide +kernel
theorem dc_I_faultOfNode_84 : decode bc_I_faultOfNode 84 = .ok (.ireturn, 1) := by decide +kernel
theorem dc_I_faultOfLeaf_0 : decode bc_I_faultOfLeaf 0 = .ok (.aload_n 0, 1) := by decide +kernel
theorem dc_I_faultOfLeaf_1 : decode bc_I_faultOfLeaf 1 = .ok (.getfield 25, 3) := by decide +kernel
theorem dc_I_faultOfLeaf_4 : decode bc_I_faultOfLeaf 4 = .ok (.iload_n 1, 1) := by decide +kernel
theorem dc_I_faultOfLeaf_5 : decode bc_I_faultOfLeaf 5 = .ok (.invokevirtual 75, 3) := by decide +kernel
theorem dc_I_faultOfLeaf_8 : decode bc_I_faultOfLeaf 8 = .ok (.istore_n 2, 1) := by decide +kernel
theorem dc_I_faultOfLeaf_9 : decode bc_I_faultOfLeaf 9 = .ok (.iconst 0, 1) := by decide +kernel
theorem dc_I_faultOfLeaf_10 : decode bc_I_faultOfLeaf 10 = .ok (.istore_n 3, 1) := by decide +kernel
theorem dc_I_faultOfLeaf_11 : decode bc_I_faultOfLeaf 11 = .ok (.iload_n 3, 1) := by decide +kernel
theorem dc_I_faultOfLeaf_12 : decode bc_I_faultOfLeaf 12 = .ok (.iload_n 2, 1) := by decide +kernel
theorem dc_I_faultOfLeaf_13 : decode bc_I_faultOfLeaf 13 = .ok (.if_icmp .ge 26, 3) := by decide +kernel
theorem dc_I_faultOfLeaf_39 : decode bc_I_faultOfLeaf 39 = .ok (.aload_n 0, 1) := by decide +kernel
theorem dc_I_faultOfLeaf_40 : decode bc_I_faultOfLeaf 40 = .ok (.getfield 15, 3) := by decide +kernel
theorem dc_I_faultOfLeaf_43 : decode bc_I_faultOfLeaf 43 = .ok (.iload_n 1, 1) := by decide +kernel
theorem dc_I_faultOfLeaf_44 : decode bc_I_faultOfLeaf 44 = .ok (.iload_n 2, 1) := by decide +kernel
theorem dc_I_faultOfLeaf_45 : decode bc_I_faultOfLeaf 45 = .ok (.iastore, 1) := by decide +kernel
theorem dc_I_faultOfLeaf_46 : decode bc_I_faultOfLeaf 46 = .ok (.aload_n 0, 1) := by decide +kernel
theorem dc_I_faultOfLeaf_47 : decode bc_I_faultOfLeaf 47 = .ok (.getfield 18, 3) := by decide +kernel
theorem dc_I_faultOfLeaf_50 : decode bc_I_faultOfLeaf 50 = .ok (.iload_n 1, 1) := by decide +kernel
theorem dc_I_faultOfLeaf_51 : decode bc_I_faultOfLeaf 51 = .ok (.aload_n 0, 1) := by decide +kernel
theorem dc_I_faultOfLeaf_52 : decode bc_I_faultOfLeaf 52 = .ok (.getfield 25, 3) := by decide +kernel
theorem dc_I_faultOfLeaf_55 : decode bc_I_faultOfLeaf 55 = .ok (.iload_n 1, 1) := by decide +kernel
theorem dc_I_faultOfLeaf_56 : decode bc_I_faultOfLeaf 56 = .ok (.iload_n 2, 1) := by decide +kernel
theorem dc_I_faultOfLeaf_57 : decode bc_I_faultOfLeaf 57 = .ok (.iconst 1, 1) := by decide +kernel
theorem dc_I_faultOfLeaf_58 : decode bc_I_faultOfLeaf 58 = .ok (.isub, 1) := by decide +kernel
theorem dc_I_faultOfLeaf_59 : decode bc_I_faultOfLeaf 59 = .ok (.invokevirtual 91, 3) := by decide +kernel
theorem dc_I_faultOfLeaf_62 : decode bc_I_faultOfLeaf 62 = .ok (.iastore, 1) := by decide +kernel
theorem dc_I_faultOfLeaf_63 : decode bc_I_faultOfLeaf 63 = .ok (.iconst 0, 1) := by decide +kernel
theorem dc_I_faultOfLeaf_64 : decode bc_I_faultOfLeaf 64 = .ok (.ireturn, 1) := by decide +kernel
theorem dc_I_faultOfLeaf_16 : decode bc_I_faultOfLeaf 16 = .ok (.aload_n 0, 1) := by decide +kernel
theorem dc_I_faultOfLeaf_17 : decode bc_I_faultOfLeaf 17 = .ok (.getfield 25, 3) := by decide +kernel
theorem dc_I_faultOfLeaf_20 : decode bc_I_faultOfLeaf 20 = .ok (.iload_n 1, 1) := by decide +kernel
theorem dc_I_faultOfLeaf_21 : decode bc_I_faultOfLeaf 21 = .ok (.iload_n 3, 1) := by decide +kernel
theorem dc_I_faultOfLeaf_22 : decode bc_I_faultOfLeaf 22 = .ok (.invokevirtual 97, 3) := by decide +kernel
theorem dc_I_faultOfLeaf_25 : decode bc_I_faultOfLeaf 25 = .ok (.invokestatic 100, 3) := by decide +kernel
theorem dc_I_faultOfLeaf_28 : decode bc_I_faultOfLeaf 28 = .ok (.ifCond .ne 5, 3) := by decide +kernel
theorem dc_I_faultOfLeaf_33 : decode bc_I_faultOfLeaf 33 = .ok (.iinc 3 1, 3) := by decide +kernel
theorem dc_I_faultOfLeaf_36 : decode bc_I_faultOfLeaf 36 = .ok (.goto (-25), 3) := by decide +kernel
theorem dc_I_faultOfLeaf_31 : decode bc_I_faultOfLeaf 31 = .ok (.iload_n 1, 1) := by decide +kernel
theorem dc_I_faultOfLeaf_32 : decode bc_I_faultOfLeaf 32 = .ok (.ireturn, 1) := by decide +kernel
theorem dc_I_faultOfWays_0 : decode bc_I_faultOfWays 0 = .ok (.iconst 1, 1) := by decide +kernel
theorem dc_I_faultOfWays_1 : decode bc_I_faultOfWays 1 = .ok (.istore_n 1, 1) := by decide +kernel
theorem dc_I_faultOfWays_2 : decode bc_I_faultOfWays 2 = .ok (.iload_n 1, 1) := by decide +kernel
theorem dc_I_faultOfWays_3 : decode bc_I_faultOfWays 3 = .ok (.sipush 1200, 3) := by decide +kernel
theorem dc_I_faultOfWays_6 : decode bc_I_faultOfWays 6 = .ok (.if_icmp .gt 53, 3) := by decide +kernel
theorem dc_I_faultOfWays_59 : decode bc_I_faultOfWays 59 = .ok (.iconst 0, 1) := by decide +kernel
theorem dc_I_faultOfWays_60 : decode bc_I_faultOfWays 60 = .ok (.ireturn, 1) := by decide +kernel
theorem dc_I_faultOfWays_9 : decode bc_I_faultOfWays 9 = .ok (.aload_n 0, 1) := by decide +kernel
theorem dc_I_faultOfWays_10 : decode bc_I_faultOfWays 10 = .ok (.getfield 9, 3) := by decide +kernel
theorem dc_I_faultOfWays_13 : decode bc_I_faultOfWays 13 = .ok (.iload_n 1, 1) := by decide +kernel
theorem dc_I_faultOfWays_14 : decode bc_I_faultOfWays 14 = .ok (.iaload, 1) := by decide +kernel
theorem dc_I_faultOfWays_15 : decode bc_I_faultOfWays 15 = .ok (.ifCond .ne 7, 3) := by decide +kernel
theorem dc_I_faultOfWays_22 : decode bc_I_faultOfWays 22 = .ok (.iconst 0, 1) := by decide +kernel
theorem dc_I_faultOfWays_23 : decode bc_I_faultOfWays 23 = .ok (.istore_n 2, 1) := by decide +kernel
theorem dc_I_faultOfWays_24 : decode bc_I_faultOfWays 24 = .ok (.aload_n 0, 1) := by decide +kernel
theorem dc_I_faultOfWays_25 : decode bc_I_faultOfWays 25 = .ok (.getfield 25, 3) := by decide +kernel
theorem dc_I_faultOfWays_28 : decode bc_I_faultOfWays 28 = .ok (.iload_n 1, 1) := by decide +kernel
theorem dc_I_faultOfWays_29 : decode bc_I_faultOfWays 29 = .ok (.invokevirtual 109, 3) := by decide +kernel
theorem dc_I_faultOfWays_32 : decode bc_I_faultOfWays 32 = .ok (.aload_n 0, 1) := by decide +kernel
theorem dc_I_faultOfWays_33 : decode bc_I_faultOfWays 33 = .ok (.getfield 9, 3) := by decide +kernel
theorem dc_I_faultOfWays_36 : decode bc_I_faultOfWays 36 = .ok (.iload_n 1, 1) := by decide +kernel
theorem dc_I_faultOfWays_37 : decode bc_I_faultOfWays 37 = .ok (.iaload, 1) := by decide +kernel
theorem dc_I_faultOfWays_38 : decode bc_I_faultOfWays 38 = .ok (.if_icmp .ne 13, 3) := by decide +kernel
theorem dc_I_faultOfWays_51 : decode bc_I_faultOfWays 51 = .ok (.iload_n 1, 1) := by decide +kernel
theorem dc_I_faultOfWays_52 : decode bc_I_faultOfWays 52 = .ok (.ireturn, 1) := by decide +kernel
end
section
theorem dc_I_faultOfWays_41 : decode bc_I_faultOfWays 41 = .ok (.aload_n 0, 1) := by decide +kernel
theorem dc_I_faultOfWays_42 : decode bc_I_faultOfWays 42 = .ok (.getfield 21, 3) := by decide +kernel
theorem dc_I_faultOfWays_45 : decode bc_I_faultOfWays 45 = .ok (.iload_n 1, 1) := by decide +kernel
theorem dc_I_faultOfWays_46 : decode bc_I_faultOfWays 46 = .ok (.baload, 1) := by decide +kernel
theorem dc_I_faultOfWays_47 : decode bc_I_faultOfWays 47 = .ok (.iload_n 2, 1) := by decide +kernel
theorem dc_I_faultOfWays_48 : decode bc_I_faultOfWays 48 = .ok (.if_icmp .eq 5, 3) := by decide +kernel
theorem dc_I_faultOfWays_53 : decode bc_I_faultOfWays 53 = .ok (.iinc 1 1, 3) := by decide +kernel
theorem dc_I_faultOfWays_56 : decode bc_I_faultOfWays 56 = .ok (.goto (-54), 3) := by decide +kernel
theorem dc_I_faultOfWays_18 : decode bc_I_faultOfWays 18 = .ok (.iconst 1, 1) := by decide +kernel
theorem dc_I_faultOfWays_19 : decode bc_I_faultOfWays 19 = .ok (.goto 4, 3) := by decide +kernel
theorem dc_I_faultOfFree_0 : decode bc_I_faultOfFree 0 = .ok (.aload_n 0, 1) := by decide +kernel
theorem dc_I_faultOfFree_1 : decode bc_I_faultOfFree 1 = .ok (.getfield 25, 3) := by decide +kernel
theorem dc_I_faultOfFree_4 : decode bc_I_faultOfFree 4 = .ok (.invokevirtual 103, 3) := by decide +kernel
theorem dc_I_faultOfFree_7 : decode bc_I_faultOfFree 7 = .ok (.istore_n 1, 1) := by decide +kernel
theorem dc_I_faultOfFree_8 : decode bc_I_faultOfFree 8 = .ok (.iload_n 1, 1) := by decide +kernel
theorem dc_I_faultOfFree_9 : decode bc_I_faultOfFree 9 = .ok (.ifCond .lt 10, 3) := by decide +kernel
theorem dc_I_faultOfFree_19 : decode bc_I_faultOfFree 19 = .ok (.sipush 1218, 3) := by decide +kernel
theorem dc_I_faultOfFree_22 : decode bc_I_faultOfFree 22 = .ok (.ireturn, 1) := by decide +kernel
theorem dc_I_faultOfFree_12 : decode bc_I_faultOfFree 12 = .ok (.iload_n 1, 1) := by decide +kernel
theorem dc_I_faultOfFree_13 : decode bc_I_faultOfFree 13 = .ok (.sipush 1200, 3) := by decide +kernel
theorem dc_I_faultOfFree_16 : decode bc_I_faultOfFree 16 = .ok (.if_icmp .le 7, 3) := by decide +kernel
theorem dc_I_faultOfFree_23 : decode bc_I_faultOfFree 23 = .ok (.iconst 0, 1) := by decide +kernel
theorem dc_I_faultOfFree_24 : decode bc_I_faultOfFree 24 = .ok (.istore_n 2, 1) := by decide +kernel
theorem dc_I_faultOfFree_25 : decode bc_I_faultOfFree 25 = .ok (.iload_n 2, 1) := by decide +kernel
theorem dc_I_faultOfFree_26 : decode bc_I_faultOfFree 26 = .ok (.iload_n 1, 1) := by decide +kernel
theorem dc_I_faultOfFree_27 : decode bc_I_faultOfFree 27 = .ok (.if_icmp .ge 49, 3) := by decide +kernel
theorem dc_I_faultOfFree_76 : decode bc_I_faultOfFree 76 = .ok (.iconst 0, 1) := by decide +kernel
theorem dc_I_faultOfFree_77 : decode bc_I_faultOfFree 77 = .ok (.ireturn, 1) := by decide +kernel
theorem dc_I_faultOfFree_30 : decode bc_I_faultOfFree 30 = .ok (.aload_n 0, 1) := by decide +kernel
theorem dc_I_faultOfFree_31 : decode bc_I_faultOfFree 31 = .ok (.getfield 25, 3) := by decide +kernel
theorem dc_I_faultOfFree_34 : decode bc_I_faultOfFree 34 = .ok (.iload_n 2, 1) := by decide +kernel
theorem dc_I_faultOfFree_35 : decode bc_I_faultOfFree 35 = .ok (.invokevirtual 106, 3) := by decide +kernel
theorem dc_I_faultOfFree_38 : decode bc_I_faultOfFree 38 = .ok (.istore_n 3, 1) := by decide +kernel
theorem dc_I_faultOfFree_39 : decode bc_I_faultOfFree 39 = .ok (.aload_n 0, 1) := by decide +kernel
theorem dc_I_faultOfFree_40 : decode bc_I_faultOfFree 40 = .ok (.getfield 25, 3) := by decide +kernel
theorem dc_I_faultOfFree_43 : decode bc_I_faultOfFree 43 = .ok (.iload_n 3, 1) := by decide +kernel
theorem dc_I_faultOfFree_44 : decode bc_I_faultOfFree 44 = .ok (.invokevirtual 66, 3) := by decide +kernel
theorem dc_I_faultOfFree_47 : decode bc_I_faultOfFree 47 = .ok (.ifCond .eq 12, 3) := by decide +kernel
theorem dc_I_faultOfFree_59 : decode bc_I_faultOfFree 59 = .ok (.sipush 1218, 3) := by decide +kernel
theorem dc_I_faultOfFree_62 : decode bc_I_faultOfFree 62 = .ok (.ireturn, 1) := by decide +kernel
theorem dc_I_faultOfFree_50 : decode bc_I_faultOfFree 50 = .ok (.aload_n 0, 1) := by decide +kernel
theorem dc_I_faultOfFree_51 : decode bc_I_faultOfFree 51 = .ok (.getfield 21, 3) := by decide +kernel
theorem dc_I_faultOfFree_54 : decode bc_I_faultOfFree 54 = .ok (.iload_n 3, 1) := by decide +kernel
theorem dc_I_faultOfFree_55 : decode bc_I_faultOfFree 55 = .ok (.baload, 1) := by decide +kernel
theorem dc_I_faultOfFree_56 : decode bc_I_faultOfFree 56 = .ok (.ifCond .eq 7, 3) := by decide +kernel
theorem dc_I_faultOfFree_63 : decode bc_I_faultOfFree 63 = .ok (.aload_n 0, 1) := by decide +kernel
theorem dc_I_faultOfFree_64 : decode bc_I_faultOfFree 64 = .ok (.getfield 21, 3) := by decide +kernel
theorem dc_I_faultOfFree_67 : decode bc_I_faultOfFree 67 = .ok (.iload_n 3, 1) := by decide +kernel
theorem dc_I_faultOfFree_68 : decode bc_I_faultOfFree 68 = .ok (.iconst 1, 1) := by decide +kernel
theorem dc_I_faultOfFree_69 : decode bc_I_faultOfFree 69 = .ok (.bastore, 1) := by decide +kernel
theorem dc_I_faultOfFree_70 : decode bc_I_faultOfFree 70 = .ok (.iinc 2 1, 3) := by decide +kernel
theorem dc_I_faultOfFree_73 : decode bc_I_faultOfFree 73 = .ok (.goto (-48), 3) := by decide +kernel
theorem dc_B_freeCount_0 : decode bc_B_freeCount 0 = .ok (.aload_n 0, 1) := by decide +kernel
theorem dc_B_freeCount_1 : decode bc_B_freeCount 1 = .ok (.getfield 24, 3) := by decide +kernel
theorem dc_B_freeCount_4 : decode bc_B_freeCount 4 = .ok (.ireturn, 1) := by decide +kernel
theorem dc_B_freeBlock_0 : decode bc_B_freeBlock 0 = .ok (.iload_n 1, 1) := by decide +kernel
theorem dc_B_freeBlock_1 : decode bc_B_freeBlock 1 = .ok (.ifCond .lt 27, 3) := by decide +kernel
theorem dc_B_freeBlock_28 : decode bc_B_freeBlock 28 = .ok (.iconst 0, 1) := by decide +kernel
theorem dc_B_freeBlock_29 : decode bc_B_freeBlock 29 = .ok (.ireturn, 1) := by decide +kernel
theorem dc_B_freeBlock_4 : decode bc_B_freeBlock 4 = .ok (.iload_n 1, 1) := by decide +kernel
theorem dc_B_freeBlock_5 : decode bc_B_freeBlock 5 = .ok (.aload_n 0, 1) := by decide +kernel
theorem dc_B_freeBlock_6 : decode bc_B_freeBlock 6 = .ok (.getfield 24, 3) := by decide +kernel
theorem dc_B_freeBlock_9 : decode bc_B_freeBlock 9 = .ok (.if_icmp .ge 19, 3) := by decide +kernel
theorem dc_B_freeBlock_12 : decode bc_B_freeBlock 12 = .ok (.iload_n 1, 1) := by decide +kernel
theorem dc_B_freeBlock_13 : decode bc_B_freeBlock 13 = .ok (.sipush 1200, 3) := by decide +kernel
theorem dc_B_freeBlock_16 : decode bc_B_freeBlock 16 = .ok (.if_icmp .ge 12, 3) := by decide +kernel
theorem dc_B_freeBlock_19 : decode bc_B_freeBlock 19 = .ok (.aload_n 0, 1) := by decide +kernel
theorem dc_B_freeBlock_20 : decode bc_B_freeBlock 20 = .ok (.getfield 21, 3) := by decide +kernel
theorem dc_B_freeBlock_23 : decode bc_B_freeBlock 23 = .ok (.iload_n 1, 1) := by decide +kernel
theorem dc_B_freeBlock_24 : decode bc_B_freeBlock 24 = .ok (.iaload, 1) := by decide +kernel
theorem dc_B_freeBlock_25 : decode bc_B_freeBlock 25 = .ok (.goto 4, 3) := by decide +kernel
theorem dc_R_check_0 : decode bc_R_check 0 = .ok (.iconst 0, 1) := by decide +kernel
theorem dc_R_check_1 : decode bc_R_check 1 = .ok (.ireturn, 1) := by decide +kernel
end
section
def Wk_ : List Cond := [.code yn_S_isMap bc_S_isMap 1 (some .boolean),
  .methodLink Rn_S 53 yn_S_isMap,
  .static yn_S_isMap,
  .initialized Rn_S,
  .code yn_S_isKey bc_S_isKey 1 (some .boolean),
  .methodLink Rn_S 57 yn_S_isKey,
  .static yn_S_isKey,
  .constant Rn_S 106 1000000000,
  .code yn_S_isStamp bc_S_isStamp 1 (some .boolean),
  .methodLink Rn_S 60 yn_S_isStamp,
  .static yn_S_isStamp,
  .fieldLink Rn_S 32 "SharedTrees" "trees" "LSharedTrees$Trees;",
  .fieldLink Rn_S 46 "SharedTrees" "now" "LSharedTrees$Maps;",
  .fieldLink Rn_T 9 "SharedTrees$Trees" "blocks" "LSharedTrees$Blocks;",
  .code yn_B_isBlock bc_B_isBlock 2 (some .boolean),
  .methodLink Rn_B 37 yn_B_isBlock,
  .instanceMethod yn_B_isBlock,
  .selects Rn_B yn_B_isBlock yn_B_isBlock,
  .initialized Rn_B,
  .fieldLink Rn_B 15 "SharedTrees$Blocks" "levels" "[I",
  .code yn_B_level bc_B_level 2 (some .int),
  .methodLink Rn_T 26 yn_B_level,
  .instanceMethod yn_B_level,
  .selects Rn_B yn_B_level yn_B_level,
  .fieldLink Rn_B 28 "SharedTrees$Blocks" "width" "I",
  .fieldLink Rn_B 18 "SharedTrees$Blocks" "sizes" "[I",
  .code yn_B_size bc_B_size 2 (some .int),
  .methodLink Rn_B 45 yn_B_size,
  .instanceMethod yn_B_size,
  .selects Rn_B yn_B_size yn_B_size,
  .methodLink Rn_B 49 Lib.Math.min.name,
  .static Lib.Math.min.name,
  .initialized "java/lang/Math",
  .code Lib.Math.min.name Lib.Math.min.code 2 (some .int),
  .fieldLink Rn_B 31 "SharedTrees$Blocks" "entryKeys" "[I",
  .code yn_B_slotOf bc_B_slotOf 6 (some .int),
  .methodLink Rn_T 38 yn_B_slotOf,
  .instanceMethod yn_B_slotOf,
  .selects Rn_B yn_B_slotOf yn_B_slotOf,
  .code yn_B_isEntry bc_B_isEntry 3 (some .boolean),
  .methodLink Rn_B 41 yn_B_isEntry,
  .instanceMethod yn_B_isEntry,
  .selects Rn_B yn_B_isEntry yn_B_isEntry,
  .code yn_B_key bc_B_key 3 (some .int),
  .methodLink Rn_T 41 yn_B_key,
  .instanceMethod yn_B_key,
  .selects Rn_B yn_B_key yn_B_key,
  .fieldLink Rn_B 34 "SharedTrees$Blocks" "entryGoals" "[I",
  .code yn_B_goal bc_B_goal 3 (some .int),
  .methodLink Rn_T 35 yn_B_goal,
  .instanceMethod yn_B_goal,
  .selects Rn_B yn_B_goal yn_B_goal,
  .methodLink Rn_T 51 Lib.Math.max.name,
  .static Lib.Math.max.name,
  .code Lib.Math.max.name Lib.Math.max.code 2 (some .int),
  .code yn_T_slotToward bc_T_slotToward 3 (some .int),
  .methodLink Rn_T 31 yn_T_slotToward,
  .instanceMethod yn_T_slotToward,
  .selects Rn_T yn_T_slotToward yn_T_slotToward,
  .initialized Rn_T,
  .code yn_T_stampOf bc_T_stampOf 5 (some .int),
  .methodLink Rn_S 67 yn_T_stampOf,
  .instanceMethod yn_T_stampOf,
  .selects Rn_T yn_T_stampOf yn_T_stampOf,
  .fieldLink Rn_B 9 "SharedTrees$Blocks" "ways" "[I",
  .code yn_B_ways bc_B_ways 2 (some .int),
  .methodLink Rn_B 55 yn_B_ways,
  .instanceMethod yn_B_ways,
  .selects Rn_B yn_B_ways yn_B_ways,
  .methodLink Rn_B 57 yn_B_level,
  .fieldLink Rn_B 24 "SharedTrees$Blocks" "freeCount" "I",
  .fieldLink Rn_B 21 "SharedTrees$Blocks" "free" "[I",
  .code yn_B_take bc_B_take 3 (some .int),
  .methodLink Rn_B 60 yn_B_take,
  .instanceMethod yn_B_take,
  .selects Rn_B yn_B_take yn_B_take,
  .methodLink Rn_B 77 arraycopyName,
  .native arraycopyName,
  .static arraycopyName,
  .initialized "java/lang/System",
  .code yn_B_copyEntries bc_B_copyEntries 3 none,
  .methodLink Rn_B 63 yn_B_copyEntries,
  .instanceMethod yn_B_copyEntries,
  .selects Rn_B yn_B_copyEntries yn_B_copyEntries,
  .code yn_B_lose bc_B_lose 2 (some .boolean),
  .methodLink Rn_B 74 yn_B_lose,
  .instanceMethod yn_B_lose,
  .selects Rn_B yn_B_lose yn_B_lose,
  .methodLink Rn_B 67 yn_B_goal,
  .code yn_B_share bc_B_share 2 none,
  .methodLink Rn_B 70 yn_B_share,
  .instanceMethod yn_B_share,
  .selects Rn_B yn_B_share yn_B_share,
  .code yn_B_owned bc_B_owned 4 (some .int),
  .methodLink Rn_T 59 yn_B_owned,
  .instanceMethod yn_B_owned,
  .selects Rn_B yn_B_owned yn_B_owned,
  .code yn_B_setGoal bc_B_setGoal 4 none,
  .methodLink Rn_T 83 yn_B_setGoal,
  .instanceMethod yn_B_setGoal,
  .selects Rn_B yn_B_setGoal yn_B_setGoal,
  .code yn_T_ownedChild bc_T_ownedChild 4 (some .int),
  .methodLink Rn_T 73 yn_T_ownedChild,
  .instanceMethod yn_T_ownedChild,
  .selects Rn_T yn_T_ownedChild yn_T_ownedChild,
  .code yn_T_putBelow bc_T_putBelow 7 none,
  .methodLink Rn_T 62 yn_T_putBelow,
  .instanceMethod yn_T_putBelow,
  .selects Rn_T yn_T_putBelow yn_T_putBelow,
  .code yn_B_setKey bc_B_setKey 4 none,
  .methodLink Rn_T 76 yn_B_setKey,
  .instanceMethod yn_B_setKey,
  .selects Rn_B yn_B_setKey yn_B_setKey,
  .methodLink Rn_T 48 yn_B_size,
  .fieldLink Rn_T 15 "SharedTrees$Trees" "most" "I",
  .methodLink Rn_T 56 yn_B_take,
  .fieldLink Rn_T 23 "SharedTrees$Trees" "least" "I",
  .methodLink Rn_B 83 yn_B_key,
  .code yn_B_insert bc_B_insert 7 none,
  .methodLink Rn_B 86 yn_B_insert,
  .instanceMethod yn_B_insert,
  .selects Rn_B yn_B_insert yn_B_insert,
  .code yn_B_moveTail bc_B_moveTail 5 none,
  .methodLink Rn_T 89 yn_B_moveTail,
  .instanceMethod yn_B_moveTail,
  .selects Rn_B yn_B_moveTail yn_B_moveTail,
  .methodLink Rn_T 86 yn_B_insert,
  .code yn_T_split bc_T_split 5 none,
  .methodLink Rn_T 79 yn_T_split,
  .instanceMethod yn_T_split,
  .selects Rn_T yn_T_split yn_T_split,
  .code yn_T_putInLeaf bc_T_putInLeaf 5 none,
  .methodLink Rn_T 69 yn_T_putInLeaf,
  .instanceMethod yn_T_putInLeaf,
  .selects Rn_T yn_T_putInLeaf yn_T_putInLeaf,
  .code yn_T_grown bc_T_grown 3 (some .int),
  .methodLink Rn_T 66 yn_T_grown,
  .instanceMethod yn_T_grown,
  .selects Rn_T yn_T_grown yn_T_grown,
  .code yn_T_with bc_T_with 5 (some .int),
  .methodLink Rn_S 74 yn_T_with,
  .instanceMethod yn_T_with,
  .selects Rn_T yn_T_with yn_T_with,
  .code yn_S_changeCount bc_S_changeCount 3 none,
  .methodLink Rn_S 78 yn_S_changeCount,
  .static yn_S_changeCount,
  .code yn_S_write bc_S_write 5 (some .int),
  .code yn_R_isMap bc_R_isMap 1 (some .boolean),
  .methodLink Rn_R 24 yn_R_isMap,
  .static yn_R_isMap,
  .initialized Rn_R,
  .code yn_R_isKey bc_R_isKey 1 (some .boolean),
  .methodLink Rn_R 28 yn_R_isKey,
  .static yn_R_isKey,
  .constant Rn_R 23 1000000000,
  .code yn_R_isStamp bc_R_isStamp 1 (some .boolean),
  .methodLink Rn_R 31 yn_R_isStamp,
  .static yn_R_isStamp,
  .fieldLink Rn_R 8 "SharedTreesModel" "stamps" "[I",
  .fieldLink Rn_R 17 "SharedTreesModel" "counts" "[I",
  .code yn_R_all bc_R_all 3 (some .int),
  .methodLink Rn_R 34 yn_R_all,
  .instanceMethod yn_R_all,
  .selects Rn_R yn_R_all yn_R_all,
  .code yn_R_write bc_R_write 5 (some .int),
  .methodLink Rn_S 85 yn_S_write,
  .instanceMethod yn_S_write,
  .selects Rn_S yn_S_write yn_S_write,
  .code yn_S_spread bc_S_spread 7 (some .int),
  .methodLink Rn_R 38 yn_R_write,
  .instanceMethod yn_R_write,
  .selects Rn_R yn_R_write yn_R_write,
  .code yn_R_spread bc_R_spread 7 (some .int),
  .code yn_S_read bc_S_read 3 (some .int),
  .code yn_R_read bc_R_read 4 (some .int),
  .code yn_T_removeBelow bc_T_removeBelow 6 none,
  .methodLink Rn_T 92 yn_T_removeBelow,
  .instanceMethod yn_T_removeBelow,
  .selects Rn_T yn_T_removeBelow yn_T_removeBelow,
  .code yn_B_remove bc_B_remove 5 none,
  .methodLink Rn_T 98 yn_B_remove,
  .instanceMethod yn_B_remove,
  .selects Rn_B yn_B_remove yn_B_remove,
  .code yn_T_moveEntry bc_T_moveEntry 5 none,
  .methodLink Rn_T 108 yn_T_moveEntry,
  .instanceMethod yn_T_moveEntry,
  .selects Rn_T yn_T_moveEntry yn_T_moveEntry,
  .code yn_B_give bc_B_give 2 none,
  .methodLink Rn_T 104 yn_B_give,
  .instanceMethod yn_B_give,
  .selects Rn_B yn_B_give yn_B_give,
  .code yn_T_fill bc_T_fill 5 none,
  .methodLink Rn_T 101 yn_T_fill,
  .instanceMethod yn_T_fill,
  .selects Rn_T yn_T_fill yn_T_fill,
  .code yn_T_shrunk bc_T_shrunk 3 (some .int),
  .methodLink Rn_T 95 yn_T_shrunk,
  .instanceMethod yn_T_shrunk,
  .selects Rn_T yn_T_shrunk yn_T_shrunk,
  .code yn_T_without bc_T_without 4 (some .int),
  .methodLink Rn_S 88 yn_T_without,
  .instanceMethod yn_T_without,
  .selects Rn_T yn_T_without yn_T_without,
  .code yn_S_erase bc_S_erase 4 (some .int),
  .methodLink Rn_R 42 yn_R_read,
  .instanceMethod yn_R_read,
  .selects Rn_R yn_R_read yn_R_read,
  .code yn_R_erase bc_R_erase 4 (some .int),
  .code yn_T_keyOr bc_T_keyOr 4 (some .int),
  .methodLink Rn_T 44 yn_T_keyOr,
  .instanceMethod yn_T_keyOr,
  .selects Rn_T yn_T_keyOr yn_T_keyOr,
  .code yn_T_keyFrom bc_T_keyFrom 7 (some .int),
  .methodLink Rn_S 91 yn_T_keyFrom,
  .instanceMethod yn_T_keyFrom,
  .selects Rn_T yn_T_keyFrom yn_T_keyFrom,
  .code yn_S_cut bc_S_cut 6 (some .int),
  .methodLink Rn_R 46 yn_R_erase,
  .instanceMethod yn_R_erase,
  .selects Rn_R yn_R_erase yn_R_erase,
  .code yn_R_cut bc_R_cut 6 (some .int),
  .code yn_S_next bc_S_next 3 (some .int),
  .code yn_R_next bc_R_next 4 (some .int),
  .fieldLink Rn_S 23 "SharedTrees" "blocks" "LSharedTrees$Blocks;",
  .methodLink Rn_S 107 yn_B_share,
  .methodLink Rn_T 114 yn_B_lose,
  .code yn_T_releaseBelow bc_T_releaseBelow 4 none,
  .methodLink Rn_T 111 yn_T_releaseBelow,
  .instanceMethod yn_T_releaseBelow,
  .selects Rn_T yn_T_releaseBelow yn_T_releaseBelow,
  .code yn_T_release bc_T_release 2 none,
  .methodLink Rn_S 110 yn_T_release,
  .instanceMethod yn_T_release,
  .selects Rn_T yn_T_release yn_T_release,
  .code yn_S_lead bc_S_lead 5 none,
  .methodLink Rn_S 94 yn_S_lead,
  .instanceMethod yn_S_lead,
  .selects Rn_S yn_S_lead yn_S_lead,
  .code yn_S_clone bc_S_clone 3 (some .int),
  .code yn_R_clone bc_R_clone 4 (some .int),
  .code yn_S_drop bc_S_drop 3 (some .int),
  .methodLink Rn_R 49 yn_R_cut,
  .instanceMethod yn_R_cut,
  .selects Rn_R yn_R_cut yn_R_cut,
  .code yn_R_drop bc_R_drop 3 (some .int),
  .fieldLink Rn_S 50 "SharedTrees" "kept" "LSharedTrees$Maps;",
  .code yn_S_leadAll bc_S_leadAll 4 none,
  .methodLink Rn_S 98 yn_S_leadAll,
  .instanceMethod yn_S_leadAll,
  .selects Rn_S yn_S_leadAll yn_S_leadAll,
  .code yn_S_keep bc_S_keep 1 (some .int),
  .constant Rn_R 7 32768,
  .fieldLink Rn_R 20 "SharedTreesModel" "keptCounts" "[I",
  .fieldLink Rn_R 14 "SharedTreesModel" "kept" "[I",
  .code yn_R_keep bc_R_keep 2 (some .int),
  .code yn_S_back bc_S_back 1 (some .int),
  .code yn_R_back bc_R_back 2 (some .int),
  .code yn_S_keys bc_S_keys 2 (some .int),
  .code yn_R_keys bc_R_keys 2 (some .int),
  .fieldLink Rn_S 39 "SharedTrees" "inspection" "LSharedTrees$Inspection;",
  .fieldLink Rn_I 25 "SharedTrees$Inspection" "blocks" "LSharedTrees$Blocks;",
  .methodLink Rn_I 66 yn_B_isBlock,
  .methodLink Rn_I 72 yn_B_level,
  .methodLink Rn_I 75 yn_B_size,
  .fieldLink Rn_I 9 "SharedTrees$Inspection" "found" "[I",
  .fieldLink Rn_I 29 "SharedTrees$Inspection" "most" "I",
  .methodLink Rn_I 91 yn_B_key,
  .code yn_I_hasOrder bc_I_hasOrder 4 (some .boolean),
  .methodLink Rn_I 82 yn_I_hasOrder,
  .instanceMethod yn_I_hasOrder,
  .selects Rn_I yn_I_hasOrder yn_I_hasOrder,
  .initialized Rn_I,
  .fieldLink Rn_I 15 "SharedTrees$Inspection" "keysBelow" "[I",
  .fieldLink Rn_I 18 "SharedTrees$Inspection" "lastKeys" "[I",
  .methodLink Rn_I 97 yn_B_goal,
  .fieldLink Rn_I 37 "SharedTrees$Inspection" "least" "I",
  .code yn_I_faultBelow bc_I_faultBelow 3 (some .int),
  .methodLink Rn_I 78 yn_I_faultBelow,
  .instanceMethod yn_I_faultBelow,
  .selects Rn_I yn_I_faultBelow yn_I_faultBelow,
  .code yn_I_faultOfNode bc_I_faultOfNode 10 (some .int),
  .methodLink Rn_I 88 yn_I_faultOfNode,
  .instanceMethod yn_I_faultOfNode,
  .selects Rn_I yn_I_faultOfNode yn_I_faultOfNode,
  .code yn_I_faultOfLeaf bc_I_faultOfLeaf 4 (some .int),
  .methodLink Rn_I 85 yn_I_faultOfLeaf,
  .instanceMethod yn_I_faultOfLeaf,
  .selects Rn_I yn_I_faultOfLeaf yn_I_faultOfLeaf,
  .code yn_I_faultOfTree bc_I_faultOfTree 6 (some .int),
  .methodLink Rn_I 59 yn_I_faultOfTree,
  .instanceMethod yn_I_faultOfTree,
  .selects Rn_I yn_I_faultOfTree yn_I_faultOfTree,
  .code yn_I_faultOfMaps bc_I_faultOfMaps 6 (some .int),
  .methodLink Rn_I 40 yn_I_faultOfMaps,
  .instanceMethod yn_I_faultOfMaps,
  .selects Rn_I yn_I_faultOfMaps yn_I_faultOfMaps,
  .methodLink Rn_I 109 yn_B_ways,
  .fieldLink Rn_I 21 "SharedTrees$Inspection" "listed" "[Z",
  .code yn_I_faultOfWays bc_I_faultOfWays 3 (some .int),
  .methodLink Rn_I 48 yn_I_faultOfWays,
  .instanceMethod yn_I_faultOfWays,
  .selects Rn_I yn_I_faultOfWays yn_I_faultOfWays,
  .code yn_B_freeCount bc_B_freeCount 1 (some .int),
  .methodLink Rn_I 103 yn_B_freeCount,
  .instanceMethod yn_B_freeCount,
  .selects Rn_B yn_B_freeCount yn_B_freeCount,
  .code yn_B_freeBlock bc_B_freeBlock 2 (some .int),
  .methodLink Rn_I 106 yn_B_freeBlock,
  .instanceMethod yn_B_freeBlock,
  .selects Rn_B yn_B_freeBlock yn_B_freeBlock,
  .code yn_I_faultOfFree bc_I_faultOfFree 4 (some .int),
  .methodLink Rn_I 44 yn_I_faultOfFree,
  .instanceMethod yn_I_faultOfFree,
  .selects Rn_I yn_I_faultOfFree yn_I_faultOfFree,
  .code yn_I_firstFault bc_I_firstFault 4 (some .int),
  .methodLink Rn_S 102 yn_I_firstFault,
  .instanceMethod yn_I_firstFault,
  .selects Rn_I yn_I_firstFault yn_I_firstFault,
  .code yn_S_check bc_S_check 1 (some .int),
  .code yn_R_check bc_R_check 1 (some .int),
  .laysFinal Rn_S "SharedTrees" "blocks" "LSharedTrees$Blocks;",
  .laysFinal Rn_S "SharedTrees" "trees" "LSharedTrees$Trees;",
  .laysFinal Rn_S "SharedTrees" "inspection" "LSharedTrees$Inspection;",
  .laysFinal Rn_S "SharedTrees" "now" "LSharedTrees$Maps;",
  .laysFinal Rn_S "SharedTrees" "kept" "LSharedTrees$Maps;",
  .laysFinal Rn_B "SharedTrees$Blocks" "width" "I",
  .laysFinal Rn_B "SharedTrees$Blocks" "ways" "[I",
  .laysFinal Rn_B "SharedTrees$Blocks" "levels" "[I",
  .laysFinal Rn_B "SharedTrees$Blocks" "sizes" "[I",
  .laysFinal Rn_B "SharedTrees$Blocks" "entryKeys" "[I",
  .laysFinal Rn_B "SharedTrees$Blocks" "entryGoals" "[I",
  .laysFinal Rn_B "SharedTrees$Blocks" "free" "[I",
  .lays Rn_B "SharedTrees$Blocks" "freeCount" "I",
  .laysFinal Rn_T "SharedTrees$Trees" "blocks" "LSharedTrees$Blocks;",
  .laysFinal Rn_T "SharedTrees$Trees" "most" "I",
  .laysFinal Rn_T "SharedTrees$Trees" "least" "I",
  .laysFinal Rn_I "SharedTrees$Inspection" "blocks" "LSharedTrees$Blocks;",
  .laysFinal Rn_I "SharedTrees$Inspection" "most" "I",
  .laysFinal Rn_I "SharedTrees$Inspection" "least" "I",
  .laysFinal Rn_I "SharedTrees$Inspection" "found" "[I",
  .laysFinal Rn_I "SharedTrees$Inspection" "keysBelow" "[I",
  .laysFinal Rn_I "SharedTrees$Inspection" "lastKeys" "[I",
  .laysFinal Rn_I "SharedTrees$Inspection" "listed" "[Z",
  .laysFinal Rn_P "SharedTrees$Maps" "roots" "[I",
  .laysFinal Rn_P "SharedTrees$Maps" "counts" "[I",
  .lays Rn_P "SharedTrees$Maps" "total" "I",
  .laysFinal Rn_R "SharedTreesModel" "stamps" "[I",
  .laysFinal Rn_R "SharedTreesModel" "kept" "[I",
  .laysFinal Rn_R "SharedTreesModel" "counts" "[I",
  .laysFinal Rn_R "SharedTreesModel" "keptCounts" "[I"]
theorem wk_g : Wk_.all (fun w => w.onTables && w.keeps) = true := by decide +kernel
theorem wk_good : ∀ w ∈ Wk_, (w.onTables && w.keeps) = true ∨ ∃ ty, w = .arrayClass ty := fun w hw => Or.inl (List.all_eq_true.mp wk_g w hw)
theorem mw_0 : (Cond.code yn_S_isMap bc_S_isMap 1 (some .boolean) : Cond) ∈ Wk_ := List.mem_of_getElem? (i := 0) rfl
theorem mw_1 : (Cond.methodLink Rn_S 53 yn_S_isMap : Cond) ∈ Wk_ := List.mem_of_getElem? (i := 1) rfl
theorem mw_2 : (Cond.static yn_S_isMap : Cond) ∈ Wk_ := List.mem_of_getElem? (i := 2) rfl
theorem mw_3 : (Cond.initialized Rn_S : Cond) ∈ Wk_ := List.mem_of_getElem? (i := 3) rfl
theorem mw_4 : (Cond.code yn_S_isKey bc_S_isKey 1 (some .boolean) : Cond) ∈ Wk_ := List.mem_of_getElem? (i := 4) rfl
theorem mw_5 : (Cond.methodLink Rn_S 57 yn_S_isKey : Cond) ∈ Wk_ := List.mem_of_getElem? (i := 5) rfl
theorem mw_6 : (Cond.static yn_S_isKey : Cond) ∈ Wk_ := List.mem_of_getElem? (i := 6) rfl
theorem mw_7 : (Cond.constant Rn_S 106 1000000000 : Cond) ∈ Wk_ := List.mem_of_getElem? (i := 7) rfl
theorem mw_8 : (Cond.code yn_S_isStamp bc_S_isStamp 1 (some .boolean) : Cond) ∈ Wk_ := List.mem_of_getElem? (i := 8) rfl
theorem mw_9 : (Cond.methodLink Rn_S 60 yn_S_isStamp : Cond) ∈ Wk_ := List.mem_of_getElem? (i := 9) rfl
theorem mw_10 : (Cond.static yn_S_isStamp : Cond) ∈ Wk_ := List.mem_of_getElem? (i := 10) rfl
theorem mw_11 : (Cond.fieldLink Rn_S 32 "SharedTrees" "trees" "LSharedTrees$Trees;" : Cond) ∈ Wk_ := List.mem_of_getElem? (i := 11) rfl
theorem mw_12 : (Cond.fieldLink Rn_S 46 "SharedTrees" "now" "LSharedTrees$Maps;" : Cond) ∈ Wk_ := List.mem_of_getElem? (i := 12) rfl
theorem mw_13 : (Cond.fieldLink Rn_T 9 "SharedTrees$Trees" "blocks" "LSharedTrees$Blocks;" : Cond) ∈ Wk_ := List.mem_of_getElem? (i := 13) rfl
theorem mw_14 : (Cond.code yn_B_isBlock bc_B_isBlock 2 (some .boolean) : Cond) ∈ Wk_ := List.mem_of_getElem? (i := 14) rfl
theorem mw_15 : (Cond.methodLink Rn_B 37 yn_B_isBlock : Cond) ∈ Wk_ := List.mem_of_getElem? (i := 15) rfl
theorem mw_16 : (Cond.instanceMethod yn_B_isBlock : Cond) ∈ Wk_ := List.mem_of_getElem? (i := 16) rfl
theorem mw_17 : (Cond.selects Rn_B yn_B_isBlock yn_B_isBlock : Cond) ∈ Wk_ := List.mem_of_getElem? (i := 17) rfl
theorem mw_18 : (Cond.initialized Rn_B : Cond) ∈ Wk_ := List.mem_of_getElem? (i := 18) rfl
theorem mw_19 : (Cond.fieldLink Rn_B 15 "SharedTrees$Blocks" "levels" "[I" : Cond) ∈ Wk_ := List.mem_of_getElem? (i := 19) rfl
theorem mw_20 : (Cond.code yn_B_level bc_B_level 2 (some .int) : Cond) ∈ Wk_ := List.mem_of_getElem? (i := 20) rfl
theorem mw_21 : (Cond.methodLink Rn_T 26 yn_B_level : Cond) ∈ Wk_ := List.mem_of_getElem? (i := 21) rfl
theorem mw_22 : (Cond.instanceMethod yn_B_level : Cond) ∈ Wk_ := List.mem_of_getElem? (i := 22) rfl
theorem mw_23 : (Cond.selects Rn_B yn_B_level yn_B_level : Cond) ∈ Wk_ := List.mem_of_getElem? (i := 23) rfl
theorem mw_24 : (Cond.fieldLink Rn_B 28 "SharedTrees$Blocks" "width" "I" : Cond) ∈ Wk_ := List.mem_of_getElem? (i := 24) rfl
theorem mw_25 : (Cond.fieldLink Rn_B 18 "SharedTrees$Blocks" "sizes" "[I" : Cond) ∈ Wk_ := List.mem_of_getElem? (i := 25) rfl
theorem mw_26 : (Cond.code yn_B_size bc_B_size 2 (some .int) : Cond) ∈ Wk_ := List.mem_of_getElem? (i := 26) rfl
theorem mw_27 : (Cond.methodLink Rn_B 45 yn_B_size : Cond) ∈ Wk_ := List.mem_of_getElem? (i := 27) rfl
theorem mw_28 : (Cond.instanceMethod yn_B_size : Cond) ∈ Wk_ := List.mem_of_getElem? (i := 28) rfl
theorem mw_29 : (Cond.selects Rn_B yn_B_size yn_B_size : Cond) ∈ Wk_ := List.mem_of_getElem? (i := 29) rfl
theorem mw_30 : (Cond.methodLink Rn_B 49 Lib.Math.min.name : Cond) ∈ Wk_ := List.mem_of_getElem? (i := 30) rfl
theorem mw_31 : (Cond.static Lib.Math.min.name : Cond) ∈ Wk_ := List.mem_of_getElem? (i := 31) rfl
theorem mw_32 : (Cond.initialized "java/lang/Math" : Cond) ∈ Wk_ := List.mem_of_getElem? (i := 32) rfl
theorem mw_33 : (Cond.code Lib.Math.min.name Lib.Math.min.code 2 (some .int) : Cond) ∈ Wk_ := List.mem_of_getElem? (i := 33) rfl
theorem mw_34 : (Cond.fieldLink Rn_B 31 "SharedTrees$Blocks" "entryKeys" "[I" : Cond) ∈ Wk_ := List.mem_of_getElem? (i := 34) rfl
theorem mw_35 : (Cond.code yn_B_slotOf bc_B_slotOf 6 (some .int) : Cond) ∈ Wk_ := List.mem_of_getElem? (i := 35) rfl
theorem mw_36 : (Cond.methodLink Rn_T 38 yn_B_slotOf : Cond) ∈ Wk_ := List.mem_of_getElem? (i := 36) rfl
theorem mw_37 : (Cond.instanceMethod yn_B_slotOf : Cond) ∈ Wk_ := List.mem_of_getElem? (i := 37) rfl
theorem mw_38 : (Cond.selects Rn_B yn_B_slotOf yn_B_slotOf : Cond) ∈ Wk_ := List.mem_of_getElem? (i := 38) rfl
theorem mw_39 : (Cond.code yn_B_isEntry bc_B_isEntry 3 (some .boolean) : Cond) ∈ Wk_ := List.mem_of_getElem? (i := 39) rfl
theorem mw_40 : (Cond.methodLink Rn_B 41 yn_B_isEntry : Cond) ∈ Wk_ := List.mem_of_getElem? (i := 40) rfl
theorem mw_41 : (Cond.instanceMethod yn_B_isEntry : Cond) ∈ Wk_ := List.mem_of_getElem? (i := 41) rfl
theorem mw_42 : (Cond.selects Rn_B yn_B_isEntry yn_B_isEntry : Cond) ∈ Wk_ := List.mem_of_getElem? (i := 42) rfl
theorem mw_43 : (Cond.code yn_B_key bc_B_key 3 (some .int) : Cond) ∈ Wk_ := List.mem_of_getElem? (i := 43) rfl
theorem mw_44 : (Cond.methodLink Rn_T 41 yn_B_key : Cond) ∈ Wk_ := List.mem_of_getElem? (i := 44) rfl
theorem mw_45 : (Cond.instanceMethod yn_B_key : Cond) ∈ Wk_ := List.mem_of_getElem? (i := 45) rfl
theorem mw_46 : (Cond.selects Rn_B yn_B_key yn_B_key : Cond) ∈ Wk_ := List.mem_of_getElem? (i := 46) rfl
theorem mw_47 : (Cond.fieldLink Rn_B 34 "SharedTrees$Blocks" "entryGoals" "[I" : Cond) ∈ Wk_ := List.mem_of_getElem? (i := 47) rfl
theorem mw_48 : (Cond.code yn_B_goal bc_B_goal 3 (some .int) : Cond) ∈ Wk_ := List.mem_of_getElem? (i := 48) rfl
theorem mw_49 : (Cond.methodLink Rn_T 35 yn_B_goal : Cond) ∈ Wk_ := List.mem_of_getElem? (i := 49) rfl
theorem mw_50 : (Cond.instanceMethod yn_B_goal : Cond) ∈ Wk_ := List.mem_of_getElem? (i := 50) rfl
theorem mw_51 : (Cond.selects Rn_B yn_B_goal yn_B_goal : Cond) ∈ Wk_ := List.mem_of_getElem? (i := 51) rfl
theorem mw_52 : (Cond.methodLink Rn_T 51 Lib.Math.max.name : Cond) ∈ Wk_ := List.mem_of_getElem? (i := 52) rfl
theorem mw_53 : (Cond.static Lib.Math.max.name : Cond) ∈ Wk_ := List.mem_of_getElem? (i := 53) rfl
theorem mw_54 : (Cond.code Lib.Math.max.name Lib.Math.max.code 2 (some .int) : Cond) ∈ Wk_ := List.mem_of_getElem? (i := 54) rfl
theorem mw_55 : (Cond.code yn_T_slotToward bc_T_slotToward 3 (some .int) : Cond) ∈ Wk_ := List.mem_of_getElem? (i := 55) rfl
theorem mw_56 : (Cond.methodLink Rn_T 31 yn_T_slotToward : Cond) ∈ Wk_ := List.mem_of_getElem? (i := 56) rfl
theorem mw_57 : (Cond.instanceMethod yn_T_slotToward : Cond) ∈ Wk_ := List.mem_of_getElem? (i := 57) rfl
theorem mw_58 : (Cond.selects Rn_T yn_T_slotToward yn_T_slotToward : Cond) ∈ Wk_ := List.mem_of_getElem? (i := 58) rfl
theorem mw_59 : (Cond.initialized Rn_T : Cond) ∈ Wk_ := List.mem_of_getElem? (i := 59) rfl
theorem mw_60 : (Cond.code yn_T_stampOf bc_T_stampOf 5 (some .int) : Cond) ∈ Wk_ := List.mem_of_getElem? (i := 60) rfl
theorem mw_61 : (Cond.methodLink Rn_S 67 yn_T_stampOf : Cond) ∈ Wk_ := List.mem_of_getElem? (i := 61) rfl
theorem mw_62 : (Cond.instanceMethod yn_T_stampOf : Cond) ∈ Wk_ := List.mem_of_getElem? (i := 62) rfl
theorem mw_63 : (Cond.selects Rn_T yn_T_stampOf yn_T_stampOf : Cond) ∈ Wk_ := List.mem_of_getElem? (i := 63) rfl
theorem mw_64 : (Cond.fieldLink Rn_B 9 "SharedTrees$Blocks" "ways" "[I" : Cond) ∈ Wk_ := List.mem_of_getElem? (i := 64) rfl
theorem mw_65 : (Cond.code yn_B_ways bc_B_ways 2 (some .int) : Cond) ∈ Wk_ := List.mem_of_getElem? (i := 65) rfl
theorem mw_66 : (Cond.methodLink Rn_B 55 yn_B_ways : Cond) ∈ Wk_ := List.mem_of_getElem? (i := 66) rfl
theorem mw_67 : (Cond.instanceMethod yn_B_ways : Cond) ∈ Wk_ := List.mem_of_getElem? (i := 67) rfl
theorem mw_68 : (Cond.selects Rn_B yn_B_ways yn_B_ways : Cond) ∈ Wk_ := List.mem_of_getElem? (i := 68) rfl
theorem mw_69 : (Cond.methodLink Rn_B 57 yn_B_level : Cond) ∈ Wk_ := List.mem_of_getElem? (i := 69) rfl
theorem mw_70 : (Cond.fieldLink Rn_B 24 "SharedTrees$Blocks" "freeCount" "I" : Cond) ∈ Wk_ := List.mem_of_getElem? (i := 70) rfl
theorem mw_71 : (Cond.fieldLink Rn_B 21 "SharedTrees$Blocks" "free" "[I" : Cond) ∈ Wk_ := List.mem_of_getElem? (i := 71) rfl
theorem mw_72 : (Cond.code yn_B_take bc_B_take 3 (some .int) : Cond) ∈ Wk_ := List.mem_of_getElem? (i := 72) rfl
theorem mw_73 : (Cond.methodLink Rn_B 60 yn_B_take : Cond) ∈ Wk_ := List.mem_of_getElem? (i := 73) rfl
theorem mw_74 : (Cond.instanceMethod yn_B_take : Cond) ∈ Wk_ := List.mem_of_getElem? (i := 74) rfl
theorem mw_75 : (Cond.selects Rn_B yn_B_take yn_B_take : Cond) ∈ Wk_ := List.mem_of_getElem? (i := 75) rfl
theorem mw_76 : (Cond.methodLink Rn_B 77 arraycopyName : Cond) ∈ Wk_ := List.mem_of_getElem? (i := 76) rfl
theorem mw_77 : (Cond.native arraycopyName : Cond) ∈ Wk_ := List.mem_of_getElem? (i := 77) rfl
theorem mw_78 : (Cond.static arraycopyName : Cond) ∈ Wk_ := List.mem_of_getElem? (i := 78) rfl
theorem mw_79 : (Cond.initialized "java/lang/System" : Cond) ∈ Wk_ := List.mem_of_getElem? (i := 79) rfl
theorem mw_80 : (Cond.code yn_B_copyEntries bc_B_copyEntries 3 none : Cond) ∈ Wk_ := List.mem_of_getElem? (i := 80) rfl
theorem mw_81 : (Cond.methodLink Rn_B 63 yn_B_copyEntries : Cond) ∈ Wk_ := List.mem_of_getElem? (i := 81) rfl
theorem mw_82 : (Cond.instanceMethod yn_B_copyEntries : Cond) ∈ Wk_ := List.mem_of_getElem? (i := 82) rfl
theorem mw_83 : (Cond.selects Rn_B yn_B_copyEntries yn_B_copyEntries : Cond) ∈ Wk_ := List.mem_of_getElem? (i := 83) rfl
theorem mw_84 : (Cond.code yn_B_lose bc_B_lose 2 (some .boolean) : Cond) ∈ Wk_ := List.mem_of_getElem? (i := 84) rfl
theorem mw_85 : (Cond.methodLink Rn_B 74 yn_B_lose : Cond) ∈ Wk_ := List.mem_of_getElem? (i := 85) rfl
theorem mw_86 : (Cond.instanceMethod yn_B_lose : Cond) ∈ Wk_ := List.mem_of_getElem? (i := 86) rfl
theorem mw_87 : (Cond.selects Rn_B yn_B_lose yn_B_lose : Cond) ∈ Wk_ := List.mem_of_getElem? (i := 87) rfl
theorem mw_88 : (Cond.methodLink Rn_B 67 yn_B_goal : Cond) ∈ Wk_ := List.mem_of_getElem? (i := 88) rfl
theorem mw_89 : (Cond.code yn_B_share bc_B_share 2 none : Cond) ∈ Wk_ := List.mem_of_getElem? (i := 89) rfl
theorem mw_90 : (Cond.methodLink Rn_B 70 yn_B_share : Cond) ∈ Wk_ := List.mem_of_getElem? (i := 90) rfl
theorem mw_91 : (Cond.instanceMethod yn_B_share : Cond) ∈ Wk_ := List.mem_of_getElem? (i := 91) rfl
theorem mw_92 : (Cond.selects Rn_B yn_B_share yn_B_share : Cond) ∈ Wk_ := List.mem_of_getElem? (i := 92) rfl
theorem mw_93 : (Cond.code yn_B_owned bc_B_owned 4 (some .int) : Cond) ∈ Wk_ := List.mem_of_getElem? (i := 93) rfl
theorem mw_94 : (Cond.methodLink Rn_T 59 yn_B_owned : Cond) ∈ Wk_ := List.mem_of_getElem? (i := 94) rfl
theorem mw_95 : (Cond.instanceMethod yn_B_owned : Cond) ∈ Wk_ := List.mem_of_getElem? (i := 95) rfl
theorem mw_96 : (Cond.selects Rn_B yn_B_owned yn_B_owned : Cond) ∈ Wk_ := List.mem_of_getElem? (i := 96) rfl
theorem mw_97 : (Cond.code yn_B_setGoal bc_B_setGoal 4 none : Cond) ∈ Wk_ := List.mem_of_getElem? (i := 97) rfl
theorem mw_98 : (Cond.methodLink Rn_T 83 yn_B_setGoal : Cond) ∈ Wk_ := List.mem_of_getElem? (i := 98) rfl
theorem mw_99 : (Cond.instanceMethod yn_B_setGoal : Cond) ∈ Wk_ := List.mem_of_getElem? (i := 99) rfl
theorem mw_100 : (Cond.selects Rn_B yn_B_setGoal yn_B_setGoal : Cond) ∈ Wk_ := List.mem_of_getElem? (i := 100) rfl
theorem mw_101 : (Cond.code yn_T_ownedChild bc_T_ownedChild 4 (some .int) : Cond) ∈ Wk_ := List.mem_of_getElem? (i := 101) rfl
theorem mw_102 : (Cond.methodLink Rn_T 73 yn_T_ownedChild : Cond) ∈ Wk_ := List.mem_of_getElem? (i := 102) rfl
theorem mw_103 : (Cond.instanceMethod yn_T_ownedChild : Cond) ∈ Wk_ := List.mem_of_getElem? (i := 103) rfl
theorem mw_104 : (Cond.selects Rn_T yn_T_ownedChild yn_T_ownedChild : Cond) ∈ Wk_ := List.mem_of_getElem? (i := 104) rfl
theorem mw_105 : (Cond.code yn_T_putBelow bc_T_putBelow 7 none : Cond) ∈ Wk_ := List.mem_of_getElem? (i := 105) rfl
theorem mw_106 : (Cond.methodLink Rn_T 62 yn_T_putBelow : Cond) ∈ Wk_ := List.mem_of_getElem? (i := 106) rfl
theorem mw_107 : (Cond.instanceMethod yn_T_putBelow : Cond) ∈ Wk_ := List.mem_of_getElem? (i := 107) rfl
theorem mw_108 : (Cond.selects Rn_T yn_T_putBelow yn_T_putBelow : Cond) ∈ Wk_ := List.mem_of_getElem? (i := 108) rfl
theorem mw_109 : (Cond.code yn_B_setKey bc_B_setKey 4 none : Cond) ∈ Wk_ := List.mem_of_getElem? (i := 109) rfl
theorem mw_110 : (Cond.methodLink Rn_T 76 yn_B_setKey : Cond) ∈ Wk_ := List.mem_of_getElem? (i := 110) rfl
theorem mw_111 : (Cond.instanceMethod yn_B_setKey : Cond) ∈ Wk_ := List.mem_of_getElem? (i := 111) rfl
theorem mw_112 : (Cond.selects Rn_B yn_B_setKey yn_B_setKey : Cond) ∈ Wk_ := List.mem_of_getElem? (i := 112) rfl
theorem mw_113 : (Cond.methodLink Rn_T 48 yn_B_size : Cond) ∈ Wk_ := List.mem_of_getElem? (i := 113) rfl
theorem mw_114 : (Cond.fieldLink Rn_T 15 "SharedTrees$Trees" "most" "I" : Cond) ∈ Wk_ := List.mem_of_getElem? (i := 114) rfl
theorem mw_115 : (Cond.methodLink Rn_T 56 yn_B_take : Cond) ∈ Wk_ := List.mem_of_getElem? (i := 115) rfl
theorem mw_116 : (Cond.fieldLink Rn_T 23 "SharedTrees$Trees" "least" "I" : Cond) ∈ Wk_ := List.mem_of_getElem? (i := 116) rfl
theorem mw_117 : (Cond.methodLink Rn_B 83 yn_B_key : Cond) ∈ Wk_ := List.mem_of_getElem? (i := 117) rfl
theorem mw_118 : (Cond.code yn_B_insert bc_B_insert 7 none : Cond) ∈ Wk_ := List.mem_of_getElem? (i := 118) rfl
theorem mw_119 : (Cond.methodLink Rn_B 86 yn_B_insert : Cond) ∈ Wk_ := List.mem_of_getElem? (i := 119) rfl
theorem mw_120 : (Cond.instanceMethod yn_B_insert : Cond) ∈ Wk_ := List.mem_of_getElem? (i := 120) rfl
theorem mw_121 : (Cond.selects Rn_B yn_B_insert yn_B_insert : Cond) ∈ Wk_ := List.mem_of_getElem? (i := 121) rfl
theorem mw_122 : (Cond.code yn_B_moveTail bc_B_moveTail 5 none : Cond) ∈ Wk_ := List.mem_of_getElem? (i := 122) rfl
theorem mw_123 : (Cond.methodLink Rn_T 89 yn_B_moveTail : Cond) ∈ Wk_ := List.mem_of_getElem? (i := 123) rfl
theorem mw_124 : (Cond.instanceMethod yn_B_moveTail : Cond) ∈ Wk_ := List.mem_of_getElem? (i := 124) rfl
theorem mw_125 : (Cond.selects Rn_B yn_B_moveTail yn_B_moveTail : Cond) ∈ Wk_ := List.mem_of_getElem? (i := 125) rfl
theorem mw_126 : (Cond.methodLink Rn_T 86 yn_B_insert : Cond) ∈ Wk_ := List.mem_of_getElem? (i := 126) rfl
theorem mw_127 : (Cond.code yn_T_split bc_T_split 5 none : Cond) ∈ Wk_ := List.mem_of_getElem? (i := 127) rfl
theorem mw_128 : (Cond.methodLink Rn_T 79 yn_T_split : Cond) ∈ Wk_ := List.mem_of_getElem? (i := 128) rfl
theorem mw_129 : (Cond.instanceMethod yn_T_split : Cond) ∈ Wk_ := List.mem_of_getElem? (i := 129) rfl
theorem mw_130 : (Cond.selects Rn_T yn_T_split yn_T_split : Cond) ∈ Wk_ := List.mem_of_getElem? (i := 130) rfl
theorem mw_131 : (Cond.code yn_T_putInLeaf bc_T_putInLeaf 5 none : Cond) ∈ Wk_ := List.mem_of_getElem? (i := 131) rfl
theorem mw_132 : (Cond.methodLink Rn_T 69 yn_T_putInLeaf : Cond) ∈ Wk_ := List.mem_of_getElem? (i := 132) rfl
theorem mw_133 : (Cond.instanceMethod yn_T_putInLeaf : Cond) ∈ Wk_ := List.mem_of_getElem? (i := 133) rfl
theorem mw_134 : (Cond.selects Rn_T yn_T_putInLeaf yn_T_putInLeaf : Cond) ∈ Wk_ := List.mem_of_getElem? (i := 134) rfl
theorem mw_135 : (Cond.code yn_T_grown bc_T_grown 3 (some .int) : Cond) ∈ Wk_ := List.mem_of_getElem? (i := 135) rfl
theorem mw_136 : (Cond.methodLink Rn_T 66 yn_T_grown : Cond) ∈ Wk_ := List.mem_of_getElem? (i := 136) rfl
theorem mw_137 : (Cond.instanceMethod yn_T_grown : Cond) ∈ Wk_ := List.mem_of_getElem? (i := 137) rfl
theorem mw_138 : (Cond.selects Rn_T yn_T_grown yn_T_grown : Cond) ∈ Wk_ := List.mem_of_getElem? (i := 138) rfl
theorem mw_139 : (Cond.code yn_T_with bc_T_with 5 (some .int) : Cond) ∈ Wk_ := List.mem_of_getElem? (i := 139) rfl
theorem mw_140 : (Cond.methodLink Rn_S 74 yn_T_with : Cond) ∈ Wk_ := List.mem_of_getElem? (i := 140) rfl
theorem mw_141 : (Cond.instanceMethod yn_T_with : Cond) ∈ Wk_ := List.mem_of_getElem? (i := 141) rfl
theorem mw_142 : (Cond.selects Rn_T yn_T_with yn_T_with : Cond) ∈ Wk_ := List.mem_of_getElem? (i := 142) rfl
theorem mw_143 : (Cond.code yn_S_changeCount bc_S_changeCount 3 none : Cond) ∈ Wk_ := List.mem_of_getElem? (i := 143) rfl
theorem mw_144 : (Cond.methodLink Rn_S 78 yn_S_changeCount : Cond) ∈ Wk_ := List.mem_of_getElem? (i := 144) rfl
theorem mw_145 : (Cond.static yn_S_changeCount : Cond) ∈ Wk_ := List.mem_of_getElem? (i := 145) rfl
theorem mw_146 : (Cond.code yn_S_write bc_S_write 5 (some .int) : Cond) ∈ Wk_ := List.mem_of_getElem? (i := 146) rfl
theorem mw_147 : (Cond.code yn_R_isMap bc_R_isMap 1 (some .boolean) : Cond) ∈ Wk_ := List.mem_of_getElem? (i := 147) rfl
theorem mw_148 : (Cond.methodLink Rn_R 24 yn_R_isMap : Cond) ∈ Wk_ := List.mem_of_getElem? (i := 148) rfl
theorem mw_149 : (Cond.static yn_R_isMap : Cond) ∈ Wk_ := List.mem_of_getElem? (i := 149) rfl
theorem mw_150 : (Cond.initialized Rn_R : Cond) ∈ Wk_ := List.mem_of_getElem? (i := 150) rfl
theorem mw_151 : (Cond.code yn_R_isKey bc_R_isKey 1 (some .boolean) : Cond) ∈ Wk_ := List.mem_of_getElem? (i := 151) rfl
theorem mw_152 : (Cond.methodLink Rn_R 28 yn_R_isKey : Cond) ∈ Wk_ := List.mem_of_getElem? (i := 152) rfl
theorem mw_153 : (Cond.static yn_R_isKey : Cond) ∈ Wk_ := List.mem_of_getElem? (i := 153) rfl
theorem mw_154 : (Cond.constant Rn_R 23 1000000000 : Cond) ∈ Wk_ := List.mem_of_getElem? (i := 154) rfl
theorem mw_155 : (Cond.code yn_R_isStamp bc_R_isStamp 1 (some .boolean) : Cond) ∈ Wk_ := List.mem_of_getElem? (i := 155) rfl
theorem mw_156 : (Cond.methodLink Rn_R 31 yn_R_isStamp : Cond) ∈ Wk_ := List.mem_of_getElem? (i := 156) rfl
theorem mw_157 : (Cond.static yn_R_isStamp : Cond) ∈ Wk_ := List.mem_of_getElem? (i := 157) rfl
theorem mw_158 : (Cond.fieldLink Rn_R 8 "SharedTreesModel" "stamps" "[I" : Cond) ∈ Wk_ := List.mem_of_getElem? (i := 158) rfl
theorem mw_159 : (Cond.fieldLink Rn_R 17 "SharedTreesModel" "counts" "[I" : Cond) ∈ Wk_ := List.mem_of_getElem? (i := 159) rfl
theorem mw_160 : (Cond.code yn_R_all bc_R_all 3 (some .int) : Cond) ∈ Wk_ := List.mem_of_getElem? (i := 160) rfl
theorem mw_161 : (Cond.methodLink Rn_R 34 yn_R_all : Cond) ∈ Wk_ := List.mem_of_getElem? (i := 161) rfl
theorem mw_162 : (Cond.instanceMethod yn_R_all : Cond) ∈ Wk_ := List.mem_of_getElem? (i := 162) rfl
theorem mw_163 : (Cond.selects Rn_R yn_R_all yn_R_all : Cond) ∈ Wk_ := List.mem_of_getElem? (i := 163) rfl
theorem mw_164 : (Cond.code yn_R_write bc_R_write 5 (some .int) : Cond) ∈ Wk_ := List.mem_of_getElem? (i := 164) rfl
theorem mw_165 : (Cond.methodLink Rn_S 85 yn_S_write : Cond) ∈ Wk_ := List.mem_of_getElem? (i := 165) rfl
theorem mw_166 : (Cond.instanceMethod yn_S_write : Cond) ∈ Wk_ := List.mem_of_getElem? (i := 166) rfl
theorem mw_167 : (Cond.selects Rn_S yn_S_write yn_S_write : Cond) ∈ Wk_ := List.mem_of_getElem? (i := 167) rfl
theorem mw_168 : (Cond.code yn_S_spread bc_S_spread 7 (some .int) : Cond) ∈ Wk_ := List.mem_of_getElem? (i := 168) rfl
theorem mw_169 : (Cond.methodLink Rn_R 38 yn_R_write : Cond) ∈ Wk_ := List.mem_of_getElem? (i := 169) rfl
theorem mw_170 : (Cond.instanceMethod yn_R_write : Cond) ∈ Wk_ := List.mem_of_getElem? (i := 170) rfl
theorem mw_171 : (Cond.selects Rn_R yn_R_write yn_R_write : Cond) ∈ Wk_ := List.mem_of_getElem? (i := 171) rfl
theorem mw_172 : (Cond.code yn_R_spread bc_R_spread 7 (some .int) : Cond) ∈ Wk_ := List.mem_of_getElem? (i := 172) rfl
theorem mw_173 : (Cond.code yn_S_read bc_S_read 3 (some .int) : Cond) ∈ Wk_ := List.mem_of_getElem? (i := 173) rfl
theorem mw_174 : (Cond.code yn_R_read bc_R_read 4 (some .int) : Cond) ∈ Wk_ := List.mem_of_getElem? (i := 174) rfl
theorem mw_175 : (Cond.code yn_T_removeBelow bc_T_removeBelow 6 none : Cond) ∈ Wk_ := List.mem_of_getElem? (i := 175) rfl
theorem mw_176 : (Cond.methodLink Rn_T 92 yn_T_removeBelow : Cond) ∈ Wk_ := List.mem_of_getElem? (i := 176) rfl
theorem mw_177 : (Cond.instanceMethod yn_T_removeBelow : Cond) ∈ Wk_ := List.mem_of_getElem? (i := 177) rfl
theorem mw_178 : (Cond.selects Rn_T yn_T_removeBelow yn_T_removeBelow : Cond) ∈ Wk_ := List.mem_of_getElem? (i := 178) rfl
theorem mw_179 : (Cond.code yn_B_remove bc_B_remove 5 none : Cond) ∈ Wk_ := List.mem_of_getElem? (i := 179) rfl
theorem mw_180 : (Cond.methodLink Rn_T 98 yn_B_remove : Cond) ∈ Wk_ := List.mem_of_getElem? (i := 180) rfl
theorem mw_181 : (Cond.instanceMethod yn_B_remove : Cond) ∈ Wk_ := List.mem_of_getElem? (i := 181) rfl
theorem mw_182 : (Cond.selects Rn_B yn_B_remove yn_B_remove : Cond) ∈ Wk_ := List.mem_of_getElem? (i := 182) rfl
theorem mw_183 : (Cond.code yn_T_moveEntry bc_T_moveEntry 5 none : Cond) ∈ Wk_ := List.mem_of_getElem? (i := 183) rfl
theorem mw_184 : (Cond.methodLink Rn_T 108 yn_T_moveEntry : Cond) ∈ Wk_ := List.mem_of_getElem? (i := 184) rfl
theorem mw_185 : (Cond.instanceMethod yn_T_moveEntry : Cond) ∈ Wk_ := List.mem_of_getElem? (i := 185) rfl
theorem mw_186 : (Cond.selects Rn_T yn_T_moveEntry yn_T_moveEntry : Cond) ∈ Wk_ := List.mem_of_getElem? (i := 186) rfl
theorem mw_187 : (Cond.code yn_B_give bc_B_give 2 none : Cond) ∈ Wk_ := List.mem_of_getElem? (i := 187) rfl
theorem mw_188 : (Cond.methodLink Rn_T 104 yn_B_give : Cond) ∈ Wk_ := List.mem_of_getElem? (i := 188) rfl
theorem mw_189 : (Cond.instanceMethod yn_B_give : Cond) ∈ Wk_ := List.mem_of_getElem? (i := 189) rfl
theorem mw_190 : (Cond.selects Rn_B yn_B_give yn_B_give : Cond) ∈ Wk_ := List.mem_of_getElem? (i := 190) rfl
theorem mw_191 : (Cond.code yn_T_fill bc_T_fill 5 none : Cond) ∈ Wk_ := List.mem_of_getElem? (i := 191) rfl
theorem mw_192 : (Cond.methodLink Rn_T 101 yn_T_fill : Cond) ∈ Wk_ := List.mem_of_getElem? (i := 192) rfl
theorem mw_193 : (Cond.instanceMethod yn_T_fill : Cond) ∈ Wk_ := List.mem_of_getElem? (i := 193) rfl
theorem mw_194 : (Cond.selects Rn_T yn_T_fill yn_T_fill : Cond) ∈ Wk_ := List.mem_of_getElem? (i := 194) rfl
theorem mw_195 : (Cond.code yn_T_shrunk bc_T_shrunk 3 (some .int) : Cond) ∈ Wk_ := List.mem_of_getElem? (i := 195) rfl
theorem mw_196 : (Cond.methodLink Rn_T 95 yn_T_shrunk : Cond) ∈ Wk_ := List.mem_of_getElem? (i := 196) rfl
theorem mw_197 : (Cond.instanceMethod yn_T_shrunk : Cond) ∈ Wk_ := List.mem_of_getElem? (i := 197) rfl
theorem mw_198 : (Cond.selects Rn_T yn_T_shrunk yn_T_shrunk : Cond) ∈ Wk_ := List.mem_of_getElem? (i := 198) rfl
theorem mw_199 : (Cond.code yn_T_without bc_T_without 4 (some .int) : Cond) ∈ Wk_ := List.mem_of_getElem? (i := 199) rfl
theorem mw_200 : (Cond.methodLink Rn_S 88 yn_T_without : Cond) ∈ Wk_ := List.mem_of_getElem? (i := 200) rfl
theorem mw_201 : (Cond.instanceMethod yn_T_without : Cond) ∈ Wk_ := List.mem_of_getElem? (i := 201) rfl
theorem mw_202 : (Cond.selects Rn_T yn_T_without yn_T_without : Cond) ∈ Wk_ := List.mem_of_getElem? (i := 202) rfl
theorem mw_203 : (Cond.code yn_S_erase bc_S_erase 4 (some .int) : Cond) ∈ Wk_ := List.mem_of_getElem? (i := 203) rfl
theorem mw_204 : (Cond.methodLink Rn_R 42 yn_R_read : Cond) ∈ Wk_ := List.mem_of_getElem? (i := 204) rfl
theorem mw_205 : (Cond.instanceMethod yn_R_read : Cond) ∈ Wk_ := List.mem_of_getElem? (i := 205) rfl
theorem mw_206 : (Cond.selects Rn_R yn_R_read yn_R_read : Cond) ∈ Wk_ := List.mem_of_getElem? (i := 206) rfl
theorem mw_207 : (Cond.code yn_R_erase bc_R_erase 4 (some .int) : Cond) ∈ Wk_ := List.mem_of_getElem? (i := 207) rfl
theorem mw_208 : (Cond.code yn_T_keyOr bc_T_keyOr 4 (some .int) : Cond) ∈ Wk_ := List.mem_of_getElem? (i := 208) rfl
theorem mw_209 : (Cond.methodLink Rn_T 44 yn_T_keyOr : Cond) ∈ Wk_ := List.mem_of_getElem? (i := 209) rfl
theorem mw_210 : (Cond.instanceMethod yn_T_keyOr : Cond) ∈ Wk_ := List.mem_of_getElem? (i := 210) rfl
theorem mw_211 : (Cond.selects Rn_T yn_T_keyOr yn_T_keyOr : Cond) ∈ Wk_ := List.mem_of_getElem? (i := 211) rfl
theorem mw_212 : (Cond.code yn_T_keyFrom bc_T_keyFrom 7 (some .int) : Cond) ∈ Wk_ := List.mem_of_getElem? (i := 212) rfl
theorem mw_213 : (Cond.methodLink Rn_S 91 yn_T_keyFrom : Cond) ∈ Wk_ := List.mem_of_getElem? (i := 213) rfl
theorem mw_214 : (Cond.instanceMethod yn_T_keyFrom : Cond) ∈ Wk_ := List.mem_of_getElem? (i := 214) rfl
theorem mw_215 : (Cond.selects Rn_T yn_T_keyFrom yn_T_keyFrom : Cond) ∈ Wk_ := List.mem_of_getElem? (i := 215) rfl
theorem mw_216 : (Cond.code yn_S_cut bc_S_cut 6 (some .int) : Cond) ∈ Wk_ := List.mem_of_getElem? (i := 216) rfl
theorem mw_217 : (Cond.methodLink Rn_R 46 yn_R_erase : Cond) ∈ Wk_ := List.mem_of_getElem? (i := 217) rfl
theorem mw_218 : (Cond.instanceMethod yn_R_erase : Cond) ∈ Wk_ := List.mem_of_getElem? (i := 218) rfl
theorem mw_219 : (Cond.selects Rn_R yn_R_erase yn_R_erase : Cond) ∈ Wk_ := List.mem_of_getElem? (i := 219) rfl
theorem mw_220 : (Cond.code yn_R_cut bc_R_cut 6 (some .int) : Cond) ∈ Wk_ := List.mem_of_getElem? (i := 220) rfl
theorem mw_221 : (Cond.code yn_S_next bc_S_next 3 (some .int) : Cond) ∈ Wk_ := List.mem_of_getElem? (i := 221) rfl
theorem mw_222 : (Cond.code yn_R_next bc_R_next 4 (some .int) : Cond) ∈ Wk_ := List.mem_of_getElem? (i := 222) rfl
theorem mw_223 : (Cond.fieldLink Rn_S 23 "SharedTrees" "blocks" "LSharedTrees$Blocks;" : Cond) ∈ Wk_ := List.mem_of_getElem? (i := 223) rfl
theorem mw_224 : (Cond.methodLink Rn_S 107 yn_B_share : Cond) ∈ Wk_ := List.mem_of_getElem? (i := 224) rfl
theorem mw_225 : (Cond.methodLink Rn_T 114 yn_B_lose : Cond) ∈ Wk_ := List.mem_of_getElem? (i := 225) rfl
theorem mw_226 : (Cond.code yn_T_releaseBelow bc_T_releaseBelow 4 none : Cond) ∈ Wk_ := List.mem_of_getElem? (i := 226) rfl
theorem mw_227 : (Cond.methodLink Rn_T 111 yn_T_releaseBelow : Cond) ∈ Wk_ := List.mem_of_getElem? (i := 227) rfl
theorem mw_228 : (Cond.instanceMethod yn_T_releaseBelow : Cond) ∈ Wk_ := List.mem_of_getElem? (i := 228) rfl
theorem mw_229 : (Cond.selects Rn_T yn_T_releaseBelow yn_T_releaseBelow : Cond) ∈ Wk_ := List.mem_of_getElem? (i := 229) rfl
theorem mw_230 : (Cond.code yn_T_release bc_T_release 2 none : Cond) ∈ Wk_ := List.mem_of_getElem? (i := 230) rfl
theorem mw_231 : (Cond.methodLink Rn_S 110 yn_T_release : Cond) ∈ Wk_ := List.mem_of_getElem? (i := 231) rfl
theorem mw_232 : (Cond.instanceMethod yn_T_release : Cond) ∈ Wk_ := List.mem_of_getElem? (i := 232) rfl
theorem mw_233 : (Cond.selects Rn_T yn_T_release yn_T_release : Cond) ∈ Wk_ := List.mem_of_getElem? (i := 233) rfl
theorem mw_234 : (Cond.code yn_S_lead bc_S_lead 5 none : Cond) ∈ Wk_ := List.mem_of_getElem? (i := 234) rfl
theorem mw_235 : (Cond.methodLink Rn_S 94 yn_S_lead : Cond) ∈ Wk_ := List.mem_of_getElem? (i := 235) rfl
theorem mw_236 : (Cond.instanceMethod yn_S_lead : Cond) ∈ Wk_ := List.mem_of_getElem? (i := 236) rfl
theorem mw_237 : (Cond.selects Rn_S yn_S_lead yn_S_lead : Cond) ∈ Wk_ := List.mem_of_getElem? (i := 237) rfl
theorem mw_238 : (Cond.code yn_S_clone bc_S_clone 3 (some .int) : Cond) ∈ Wk_ := List.mem_of_getElem? (i := 238) rfl
theorem mw_239 : (Cond.code yn_R_clone bc_R_clone 4 (some .int) : Cond) ∈ Wk_ := List.mem_of_getElem? (i := 239) rfl
theorem mw_240 : (Cond.code yn_S_drop bc_S_drop 3 (some .int) : Cond) ∈ Wk_ := List.mem_of_getElem? (i := 240) rfl
theorem mw_241 : (Cond.methodLink Rn_R 49 yn_R_cut : Cond) ∈ Wk_ := List.mem_of_getElem? (i := 241) rfl
theorem mw_242 : (Cond.instanceMethod yn_R_cut : Cond) ∈ Wk_ := List.mem_of_getElem? (i := 242) rfl
theorem mw_243 : (Cond.selects Rn_R yn_R_cut yn_R_cut : Cond) ∈ Wk_ := List.mem_of_getElem? (i := 243) rfl
theorem mw_244 : (Cond.code yn_R_drop bc_R_drop 3 (some .int) : Cond) ∈ Wk_ := List.mem_of_getElem? (i := 244) rfl
theorem mw_245 : (Cond.fieldLink Rn_S 50 "SharedTrees" "kept" "LSharedTrees$Maps;" : Cond) ∈ Wk_ := List.mem_of_getElem? (i := 245) rfl
theorem mw_246 : (Cond.code yn_S_leadAll bc_S_leadAll 4 none : Cond) ∈ Wk_ := List.mem_of_getElem? (i := 246) rfl
theorem mw_247 : (Cond.methodLink Rn_S 98 yn_S_leadAll : Cond) ∈ Wk_ := List.mem_of_getElem? (i := 247) rfl
theorem mw_248 : (Cond.instanceMethod yn_S_leadAll : Cond) ∈ Wk_ := List.mem_of_getElem? (i := 248) rfl
theorem mw_249 : (Cond.selects Rn_S yn_S_leadAll yn_S_leadAll : Cond) ∈ Wk_ := List.mem_of_getElem? (i := 249) rfl
theorem mw_250 : (Cond.code yn_S_keep bc_S_keep 1 (some .int) : Cond) ∈ Wk_ := List.mem_of_getElem? (i := 250) rfl
theorem mw_251 : (Cond.constant Rn_R 7 32768 : Cond) ∈ Wk_ := List.mem_of_getElem? (i := 251) rfl
theorem mw_252 : (Cond.fieldLink Rn_R 20 "SharedTreesModel" "keptCounts" "[I" : Cond) ∈ Wk_ := List.mem_of_getElem? (i := 252) rfl
theorem mw_253 : (Cond.fieldLink Rn_R 14 "SharedTreesModel" "kept" "[I" : Cond) ∈ Wk_ := List.mem_of_getElem? (i := 253) rfl
theorem mw_254 : (Cond.code yn_R_keep bc_R_keep 2 (some .int) : Cond) ∈ Wk_ := List.mem_of_getElem? (i := 254) rfl
theorem mw_255 : (Cond.code yn_S_back bc_S_back 1 (some .int) : Cond) ∈ Wk_ := List.mem_of_getElem? (i := 255) rfl
theorem mw_256 : (Cond.code yn_R_back bc_R_back 2 (some .int) : Cond) ∈ Wk_ := List.mem_of_getElem? (i := 256) rfl
theorem mw_257 : (Cond.code yn_S_keys bc_S_keys 2 (some .int) : Cond) ∈ Wk_ := List.mem_of_getElem? (i := 257) rfl
theorem mw_258 : (Cond.code yn_R_keys bc_R_keys 2 (some .int) : Cond) ∈ Wk_ := List.mem_of_getElem? (i := 258) rfl
theorem mw_259 : (Cond.fieldLink Rn_S 39 "SharedTrees" "inspection" "LSharedTrees$Inspection;" : Cond) ∈ Wk_ := List.mem_of_getElem? (i := 259) rfl
theorem mw_260 : (Cond.fieldLink Rn_I 25 "SharedTrees$Inspection" "blocks" "LSharedTrees$Blocks;" : Cond) ∈ Wk_ := List.mem_of_getElem? (i := 260) rfl
theorem mw_261 : (Cond.methodLink Rn_I 66 yn_B_isBlock : Cond) ∈ Wk_ := List.mem_of_getElem? (i := 261) rfl
theorem mw_262 : (Cond.methodLink Rn_I 72 yn_B_level : Cond) ∈ Wk_ := List.mem_of_getElem? (i := 262) rfl
theorem mw_263 : (Cond.methodLink Rn_I 75 yn_B_size : Cond) ∈ Wk_ := List.mem_of_getElem? (i := 263) rfl
theorem mw_264 : (Cond.fieldLink Rn_I 9 "SharedTrees$Inspection" "found" "[I" : Cond) ∈ Wk_ := List.mem_of_getElem? (i := 264) rfl
theorem mw_265 : (Cond.fieldLink Rn_I 29 "SharedTrees$Inspection" "most" "I" : Cond) ∈ Wk_ := List.mem_of_getElem? (i := 265) rfl
theorem mw_266 : (Cond.methodLink Rn_I 91 yn_B_key : Cond) ∈ Wk_ := List.mem_of_getElem? (i := 266) rfl
theorem mw_267 : (Cond.code yn_I_hasOrder bc_I_hasOrder 4 (some .boolean) : Cond) ∈ Wk_ := List.mem_of_getElem? (i := 267) rfl
theorem mw_268 : (Cond.methodLink Rn_I 82 yn_I_hasOrder : Cond) ∈ Wk_ := List.mem_of_getElem? (i := 268) rfl
theorem mw_269 : (Cond.instanceMethod yn_I_hasOrder : Cond) ∈ Wk_ := List.mem_of_getElem? (i := 269) rfl
theorem mw_270 : (Cond.selects Rn_I yn_I_hasOrder yn_I_hasOrder : Cond) ∈ Wk_ := List.mem_of_getElem? (i := 270) rfl
theorem mw_271 : (Cond.initialized Rn_I : Cond) ∈ Wk_ := List.mem_of_getElem? (i := 271) rfl
theorem mw_272 : (Cond.fieldLink Rn_I 15 "SharedTrees$Inspection" "keysBelow" "[I" : Cond) ∈ Wk_ := List.mem_of_getElem? (i := 272) rfl
theorem mw_273 : (Cond.fieldLink Rn_I 18 "SharedTrees$Inspection" "lastKeys" "[I" : Cond) ∈ Wk_ := List.mem_of_getElem? (i := 273) rfl
theorem mw_274 : (Cond.methodLink Rn_I 97 yn_B_goal : Cond) ∈ Wk_ := List.mem_of_getElem? (i := 274) rfl
theorem mw_275 : (Cond.fieldLink Rn_I 37 "SharedTrees$Inspection" "least" "I" : Cond) ∈ Wk_ := List.mem_of_getElem? (i := 275) rfl
theorem mw_276 : (Cond.code yn_I_faultBelow bc_I_faultBelow 3 (some .int) : Cond) ∈ Wk_ := List.mem_of_getElem? (i := 276) rfl
theorem mw_277 : (Cond.methodLink Rn_I 78 yn_I_faultBelow : Cond) ∈ Wk_ := List.mem_of_getElem? (i := 277) rfl
theorem mw_278 : (Cond.instanceMethod yn_I_faultBelow : Cond) ∈ Wk_ := List.mem_of_getElem? (i := 278) rfl
theorem mw_279 : (Cond.selects Rn_I yn_I_faultBelow yn_I_faultBelow : Cond) ∈ Wk_ := List.mem_of_getElem? (i := 279) rfl
theorem mw_280 : (Cond.code yn_I_faultOfNode bc_I_faultOfNode 10 (some .int) : Cond) ∈ Wk_ := List.mem_of_getElem? (i := 280) rfl
theorem mw_281 : (Cond.methodLink Rn_I 88 yn_I_faultOfNode : Cond) ∈ Wk_ := List.mem_of_getElem? (i := 281) rfl
theorem mw_282 : (Cond.instanceMethod yn_I_faultOfNode : Cond) ∈ Wk_ := List.mem_of_getElem? (i := 282) rfl
theorem mw_283 : (Cond.selects Rn_I yn_I_faultOfNode yn_I_faultOfNode : Cond) ∈ Wk_ := List.mem_of_getElem? (i := 283) rfl
theorem mw_284 : (Cond.code yn_I_faultOfLeaf bc_I_faultOfLeaf 4 (some .int) : Cond) ∈ Wk_ := List.mem_of_getElem? (i := 284) rfl
theorem mw_285 : (Cond.methodLink Rn_I 85 yn_I_faultOfLeaf : Cond) ∈ Wk_ := List.mem_of_getElem? (i := 285) rfl
theorem mw_286 : (Cond.instanceMethod yn_I_faultOfLeaf : Cond) ∈ Wk_ := List.mem_of_getElem? (i := 286) rfl
theorem mw_287 : (Cond.selects Rn_I yn_I_faultOfLeaf yn_I_faultOfLeaf : Cond) ∈ Wk_ := List.mem_of_getElem? (i := 287) rfl
theorem mw_288 : (Cond.code yn_I_faultOfTree bc_I_faultOfTree 6 (some .int) : Cond) ∈ Wk_ := List.mem_of_getElem? (i := 288) rfl
theorem mw_289 : (Cond.methodLink Rn_I 59 yn_I_faultOfTree : Cond) ∈ Wk_ := List.mem_of_getElem? (i := 289) rfl
theorem mw_290 : (Cond.instanceMethod yn_I_faultOfTree : Cond) ∈ Wk_ := List.mem_of_getElem? (i := 290) rfl
theorem mw_291 : (Cond.selects Rn_I yn_I_faultOfTree yn_I_faultOfTree : Cond) ∈ Wk_ := List.mem_of_getElem? (i := 291) rfl
theorem mw_292 : (Cond.code yn_I_faultOfMaps bc_I_faultOfMaps 6 (some .int) : Cond) ∈ Wk_ := List.mem_of_getElem? (i := 292) rfl
theorem mw_293 : (Cond.methodLink Rn_I 40 yn_I_faultOfMaps : Cond) ∈ Wk_ := List.mem_of_getElem? (i := 293) rfl
theorem mw_294 : (Cond.instanceMethod yn_I_faultOfMaps : Cond) ∈ Wk_ := List.mem_of_getElem? (i := 294) rfl
theorem mw_295 : (Cond.selects Rn_I yn_I_faultOfMaps yn_I_faultOfMaps : Cond) ∈ Wk_ := List.mem_of_getElem? (i := 295) rfl
theorem mw_296 : (Cond.methodLink Rn_I 109 yn_B_ways : Cond) ∈ Wk_ := List.mem_of_getElem? (i := 296) rfl
theorem mw_297 : (Cond.fieldLink Rn_I 21 "SharedTrees$Inspection" "listed" "[Z" : Cond) ∈ Wk_ := List.mem_of_getElem? (i := 297) rfl
theorem mw_298 : (Cond.code yn_I_faultOfWays bc_I_faultOfWays 3 (some .int) : Cond) ∈ Wk_ := List.mem_of_getElem? (i := 298) rfl
theorem mw_299 : (Cond.methodLink Rn_I 48 yn_I_faultOfWays : Cond) ∈ Wk_ := List.mem_of_getElem? (i := 299) rfl
theorem mw_300 : (Cond.instanceMethod yn_I_faultOfWays : Cond) ∈ Wk_ := List.mem_of_getElem? (i := 300) rfl
theorem mw_301 : (Cond.selects Rn_I yn_I_faultOfWays yn_I_faultOfWays : Cond) ∈ Wk_ := List.mem_of_getElem? (i := 301) rfl
theorem mw_302 : (Cond.code yn_B_freeCount bc_B_freeCount 1 (some .int) : Cond) ∈ Wk_ := List.mem_of_getElem? (i := 302) rfl
theorem mw_303 : (Cond.methodLink Rn_I 103 yn_B_freeCount : Cond) ∈ Wk_ := List.mem_of_getElem? (i := 303) rfl
theorem mw_304 : (Cond.instanceMethod yn_B_freeCount : Cond) ∈ Wk_ := List.mem_of_getElem? (i := 304) rfl
theorem mw_305 : (Cond.selects Rn_B yn_B_freeCount yn_B_freeCount : Cond) ∈ Wk_ := List.mem_of_getElem? (i := 305) rfl
theorem mw_306 : (Cond.code yn_B_freeBlock bc_B_freeBlock 2 (some .int) : Cond) ∈ Wk_ := List.mem_of_getElem? (i := 306) rfl
theorem mw_307 : (Cond.methodLink Rn_I 106 yn_B_freeBlock : Cond) ∈ Wk_ := List.mem_of_getElem? (i := 307) rfl
theorem mw_308 : (Cond.instanceMethod yn_B_freeBlock : Cond) ∈ Wk_ := List.mem_of_getElem? (i := 308) rfl
theorem mw_309 : (Cond.selects Rn_B yn_B_freeBlock yn_B_freeBlock : Cond) ∈ Wk_ := List.mem_of_getElem? (i := 309) rfl
theorem mw_310 : (Cond.code yn_I_faultOfFree bc_I_faultOfFree 4 (some .int) : Cond) ∈ Wk_ := List.mem_of_getElem? (i := 310) rfl
theorem mw_311 : (Cond.methodLink Rn_I 44 yn_I_faultOfFree : Cond) ∈ Wk_ := List.mem_of_getElem? (i := 311) rfl
theorem mw_312 : (Cond.instanceMethod yn_I_faultOfFree : Cond) ∈ Wk_ := List.mem_of_getElem? (i := 312) rfl
theorem mw_313 : (Cond.selects Rn_I yn_I_faultOfFree yn_I_faultOfFree : Cond) ∈ Wk_ := List.mem_of_getElem? (i := 313) rfl
theorem mw_314 : (Cond.code yn_I_firstFault bc_I_firstFault 4 (some .int) : Cond) ∈ Wk_ := List.mem_of_getElem? (i := 314) rfl
theorem mw_315 : (Cond.methodLink Rn_S 102 yn_I_firstFault : Cond) ∈ Wk_ := List.mem_of_getElem? (i := 315) rfl
theorem mw_316 : (Cond.instanceMethod yn_I_firstFault : Cond) ∈ Wk_ := List.mem_of_getElem? (i := 316) rfl
theorem mw_317 : (Cond.selects Rn_I yn_I_firstFault yn_I_firstFault : Cond) ∈ Wk_ := List.mem_of_getElem? (i := 317) rfl
theorem mw_318 : (Cond.code yn_S_check bc_S_check 1 (some .int) : Cond) ∈ Wk_ := List.mem_of_getElem? (i := 318) rfl
theorem mw_319 : (Cond.code yn_R_check bc_R_check 1 (some .int) : Cond) ∈ Wk_ := List.mem_of_getElem? (i := 319) rfl
theorem mw_320 : (Cond.laysFinal Rn_S "SharedTrees" "blocks" "LSharedTrees$Blocks;" : Cond) ∈ Wk_ := List.mem_of_getElem? (i := 320) rfl
theorem mw_321 : (Cond.laysFinal Rn_S "SharedTrees" "trees" "LSharedTrees$Trees;" : Cond) ∈ Wk_ := List.mem_of_getElem? (i := 321) rfl
theorem mw_322 : (Cond.laysFinal Rn_S "SharedTrees" "inspection" "LSharedTrees$Inspection;" : Cond) ∈ Wk_ := List.mem_of_getElem? (i := 322) rfl
theorem mw_323 : (Cond.laysFinal Rn_S "SharedTrees" "now" "LSharedTrees$Maps;" : Cond) ∈ Wk_ := List.mem_of_getElem? (i := 323) rfl
theorem mw_324 : (Cond.laysFinal Rn_S "SharedTrees" "kept" "LSharedTrees$Maps;" : Cond) ∈ Wk_ := List.mem_of_getElem? (i := 324) rfl
theorem mw_325 : (Cond.laysFinal Rn_B "SharedTrees$Blocks" "width" "I" : Cond) ∈ Wk_ := List.mem_of_getElem? (i := 325) rfl
theorem mw_326 : (Cond.laysFinal Rn_B "SharedTrees$Blocks" "ways" "[I" : Cond) ∈ Wk_ := List.mem_of_getElem? (i := 326) rfl
theorem mw_327 : (Cond.laysFinal Rn_B "SharedTrees$Blocks" "levels" "[I" : Cond) ∈ Wk_ := List.mem_of_getElem? (i := 327) rfl
theorem mw_328 : (Cond.laysFinal Rn_B "SharedTrees$Blocks" "sizes" "[I" : Cond) ∈ Wk_ := List.mem_of_getElem? (i := 328) rfl
theorem mw_329 : (Cond.laysFinal Rn_B "SharedTrees$Blocks" "entryKeys" "[I" : Cond) ∈ Wk_ := List.mem_of_getElem? (i := 329) rfl
theorem mw_330 : (Cond.laysFinal Rn_B "SharedTrees$Blocks" "entryGoals" "[I" : Cond) ∈ Wk_ := List.mem_of_getElem? (i := 330) rfl
theorem mw_331 : (Cond.laysFinal Rn_B "SharedTrees$Blocks" "free" "[I" : Cond) ∈ Wk_ := List.mem_of_getElem? (i := 331) rfl
theorem mw_332 : (Cond.lays Rn_B "SharedTrees$Blocks" "freeCount" "I" : Cond) ∈ Wk_ := List.mem_of_getElem? (i := 332) rfl
theorem mw_333 : (Cond.laysFinal Rn_T "SharedTrees$Trees" "blocks" "LSharedTrees$Blocks;" : Cond) ∈ Wk_ := List.mem_of_getElem? (i := 333) rfl
theorem mw_334 : (Cond.laysFinal Rn_T "SharedTrees$Trees" "most" "I" : Cond) ∈ Wk_ := List.mem_of_getElem? (i := 334) rfl
theorem mw_335 : (Cond.laysFinal Rn_T "SharedTrees$Trees" "least" "I" : Cond) ∈ Wk_ := List.mem_of_getElem? (i := 335) rfl
theorem mw_336 : (Cond.laysFinal Rn_I "SharedTrees$Inspection" "blocks" "LSharedTrees$Blocks;" : Cond) ∈ Wk_ := List.mem_of_getElem? (i := 336) rfl
theorem mw_337 : (Cond.laysFinal Rn_I "SharedTrees$Inspection" "most" "I" : Cond) ∈ Wk_ := List.mem_of_getElem? (i := 337) rfl
theorem mw_338 : (Cond.laysFinal Rn_I "SharedTrees$Inspection" "least" "I" : Cond) ∈ Wk_ := List.mem_of_getElem? (i := 338) rfl
theorem mw_339 : (Cond.laysFinal Rn_I "SharedTrees$Inspection" "found" "[I" : Cond) ∈ Wk_ := List.mem_of_getElem? (i := 339) rfl
theorem mw_340 : (Cond.laysFinal Rn_I "SharedTrees$Inspection" "keysBelow" "[I" : Cond) ∈ Wk_ := List.mem_of_getElem? (i := 340) rfl
theorem mw_341 : (Cond.laysFinal Rn_I "SharedTrees$Inspection" "lastKeys" "[I" : Cond) ∈ Wk_ := List.mem_of_getElem? (i := 341) rfl
theorem mw_342 : (Cond.laysFinal Rn_I "SharedTrees$Inspection" "listed" "[Z" : Cond) ∈ Wk_ := List.mem_of_getElem? (i := 342) rfl
theorem mw_343 : (Cond.laysFinal Rn_P "SharedTrees$Maps" "roots" "[I" : Cond) ∈ Wk_ := List.mem_of_getElem? (i := 343) rfl
theorem mw_344 : (Cond.laysFinal Rn_P "SharedTrees$Maps" "counts" "[I" : Cond) ∈ Wk_ := List.mem_of_getElem? (i := 344) rfl
theorem mw_345 : (Cond.lays Rn_P "SharedTrees$Maps" "total" "I" : Cond) ∈ Wk_ := List.mem_of_getElem? (i := 345) rfl
theorem mw_346 : (Cond.laysFinal Rn_R "SharedTreesModel" "stamps" "[I" : Cond) ∈ Wk_ := List.mem_of_getElem? (i := 346) rfl
theorem mw_347 : (Cond.laysFinal Rn_R "SharedTreesModel" "kept" "[I" : Cond) ∈ Wk_ := List.mem_of_getElem? (i := 347) rfl
theorem mw_348 : (Cond.laysFinal Rn_R "SharedTreesModel" "counts" "[I" : Cond) ∈ Wk_ := List.mem_of_getElem? (i := 348) rfl
theorem mw_349 : (Cond.laysFinal Rn_R "SharedTreesModel" "keptCounts" "[I" : Cond) ∈ Wk_ := List.mem_of_getElem? (i := 349) rfl
theorem in_S : ∀ w ∈ u_ws Rn_S Fn_S 5, w ∈ Wk_ := by decide +kernel
theorem in_B : ∀ w ∈ u_ws Rn_B Fn_B 8, w ∈ Wk_ := by decide +kernel
theorem in_T : ∀ w ∈ u_ws Rn_T Fn_T 3, w ∈ Wk_ := by decide +kernel
theorem in_I : ∀ w ∈ u_ws Rn_I Fn_I 7, w ∈ Wk_ := by decide +kernel
theorem in_P : ∀ w ∈ u_ws Rn_P Fn_P 3, w ∈ Wk_ := by decide +kernel
theorem in_R : ∀ w ∈ u_ws Rn_R Fn_R 4, w ∈ Wk_ := by decide +kernel
def nfl_ : List (String × Nat × String × String × String) := [(Rn_S, 63, "SharedTrees$Maps", "roots", "[I"), (Rn_S, 82, "SharedTrees$Maps", "counts", "[I"), (Rn_S, 70, "SharedTrees$Maps", "total", "I"), (Rn_I, 63, "SharedTrees$Maps", "total", "I"), (Rn_I, 51, "SharedTrees$Maps", "roots", "[I"), (Rn_I, 56, "SharedTrees$Maps", "counts", "[I")]
def nml_ : List (String × Nat × MethodName) := [(Rn_I, 94, yn_S_isKey), (Rn_I, 100, yn_S_isStamp)]
theorem nf_0 : (Rn_S, 63, "SharedTrees$Maps", "roots", "[I") ∈ nfl_ := List.mem_of_getElem? (i := 0) rfl
theorem nf_1 : (Rn_S, 82, "SharedTrees$Maps", "counts", "[I") ∈ nfl_ := List.mem_of_getElem? (i := 1) rfl
theorem nf_2 : (Rn_S, 70, "SharedTrees$Maps", "total", "I") ∈ nfl_ := List.mem_of_getElem? (i := 2) rfl
theorem nf_3 : (Rn_I, 63, "SharedTrees$Maps", "total", "I") ∈ nfl_ := List.mem_of_getElem? (i := 3) rfl
theorem nf_4 : (Rn_I, 51, "SharedTrees$Maps", "roots", "[I") ∈ nfl_ := List.mem_of_getElem? (i := 4) rfl
theorem nf_5 : (Rn_I, 56, "SharedTrees$Maps", "counts", "[I") ∈ nfl_ := List.mem_of_getElem? (i := 5) rfl
theorem nm_0 : (Rn_I, 94, yn_S_isKey) ∈ nml_ := List.mem_of_getElem? (i := 0) rfl
theorem nm_1 : (Rn_I, 100, yn_S_isStamp) ∈ nml_ := List.mem_of_getElem? (i := 1) rfl
end
section
-- THE WORLD: 18 arrays (0..17), 7 objects (18..24), all at fixed addresses; the state: what the arrays hold, and three int fields (18, 19, 20)
theorem wd_at {ad : Nat → Nat} {cA : Nat → ClassId} {w : Nat} {st : St_} (k : Nat) (hk : k < 18) : (wd_ ad cA w st)[k]? = some (ad k, .inl (cA k, wl_ w k, .inl (st k))) := by
  have h : k = 0 ∨ k = 1 ∨ k = 2 ∨ k = 3 ∨ k = 4 ∨ k = 5 ∨ k = 6 ∨ k = 7 ∨ k = 8 ∨ k = 9 ∨ k = 10 ∨ k = 11 ∨ k = 12 ∨ k = 13 ∨ k = 14 ∨ k = 15 ∨ k = 16 ∨ k = 17 := by omega
  rcases h with rfl | rfl | rfl | rfl | rfl | rfl | rfl | rfl | rfl | rfl | rfl | rfl | rfl | rfl | rfl | rfl | rfl | rfl <;> rfl
theorem wd_up {ad : Nat → Nat} {cA : Nat → ClassId} {w : Nat} {st : St_} (k : Nat) (hk : k < 18) (v : Nat → Int32) : (wd_ ad cA w st).set k (ad k, .inl (cA k, wl_ w k, .inl v)) = wd_ ad cA w (va_up st k v) := by
  have h : k = 0 ∨ k = 1 ∨ k = 2 ∨ k = 3 ∨ k = 4 ∨ k = 5 ∨ k = 6 ∨ k = 7 ∨ k = 8 ∨ k = 9 ∨ k = 10 ∨ k = 11 ∨ k = 12 ∨ k = 13 ∨ k = 14 ∨ k = 15 ∨ k = 16 ∨ k = 17 := by omega
  rcases h with rfl | rfl | rfl | rfl | rfl | rfl | rfl | rfl | rfl | rfl | rfl | rfl | rfl | rfl | rfl | rfl | rfl | rfl <;> rfl
theorem ty_at {cA : Nat → ClassId} (k : Nat) (hk : k < 18 ∧ k ≠ 9) : (ty_ cA)[k]? = some (cA k, .int) := by
  have h : k = 0 ∨ k = 1 ∨ k = 2 ∨ k = 3 ∨ k = 4 ∨ k = 5 ∨ k = 6 ∨ k = 7 ∨ k = 8 ∨ k = 10 ∨ k = 11 ∨ k = 12 ∨ k = 13 ∨ k = 14 ∨ k = 15 ∨ k = 16 ∨ k = 17 := by omega
  rcases h with rfl | rfl | rfl | rfl | rfl | rfl | rfl | rfl | rfl | rfl | rfl | rfl | rfl | rfl | rfl | rfl | rfl <;> rfl
/-- the cells that a method may change -/
def Aw_ (ad : Nat → Nat) : Nat → Prop := fun q => ∃ k, k < 25 ∧ q = ad k
/-- the addresses are apart -/
def Jn_ (ad : Nat → Nat) : Prop := ∀ i j, i < 25 → j < 25 → ad i = ad j → i = j
theorem wd_ad {ad : Nat → Nat} {cA : Nat → ClassId} {w : Nat} {st : St_} {i : Nat} {p : Nat × va_E} (h : (wd_ ad cA w st)[i]? = some p) : i < 25 ∧ p.1 = ad i := by
  have e : (wd_ ad cA w st).map (fun q => q.1) = (List.range 25).map ad := rfl
  have h1 : ((wd_ ad cA w st).map (fun q => q.1))[i]? = some p.1 := by rw [List.getElem?_map, h]; rfl
  rw [e, List.getElem?_map] at h1
  have hi : i < 25 := by
    by_cases hi : i < 25
    · exact hi
    · rw [List.getElem?_eq_none (by simp; omega)] at h1; cases h1
  rw [List.getElem?_range hi] at h1
  exact ⟨hi, (Option.some.inj h1).symm⟩
theorem wd_D {ad : Nat → Nat} {cA : Nat → ClassId} {w : Nat} {st : St_} (hJ : Jn_ ad) : va_D (Aw_ ad) (wd_ ad cA w st) := by
  refine ⟨fun i j p q hi hj e => ?_, fun k q hk => ?_⟩
  · obtain ⟨i1, e1⟩ := wd_ad hi
    obtain ⟨j1, e2⟩ := wd_ad hj
    exact hJ i j i1 j1 (by rw [← e1, ← e2]; exact e)
  · obtain ⟨i1, e1⟩ := wd_ad hk
    exact ⟨k, i1, e1⟩
/-- the links into private members of nest mates -/
def NW_ (U : State) : Prop := (∀ q ∈ nfl_, va_Nw (.fieldLinkNest q.1 q.2.1 q.2.2.1 q.2.2.2.1 q.2.2.2.2 nh_) U) ∧ (∀ q ∈ nml_, va_Nw (.methodLinkNest q.1 q.2.1 q.2.2 nh_) U)
theorem NW_moved {s U : State} (hW : s.WarmedH U.vm) (h : NW_ s) : NW_ U := ⟨fun q hq => va_Nw.warmF hW (h.1 q hq), fun q hq => va_Nw.warmM hW (h.2 q hq)⟩
theorem NW_same {s U : State} (e : s.vm = U.vm) (h : NW_ s) : NW_ U := ⟨fun q hq => va_Nw.same rfl e (h.1 q hq), fun q hq => va_Nw.same rfl e (h.2 q hq)⟩
abbrev Pw_ (D : va_G) (ad : Nat → Nat) (cA : Nat → ClassId) (w : Nat) (st : St_) (av : List Value) : Array Value → State → Prop := va_Pc av (fun U => va_P D sC_ (wd_ ad cA w st) U.heap ∧ va_K D sC_ (ty_ cA) U ∧ NW_ U)
abbrev Qi_ (D : va_G) (ad : Nat → Nat) (cA : Nat → ClassId) (w : Nat) (post : Int32 → St_ → Prop) : Array Value → State → Outcome → State → Prop := va_Qi post (fun u t => va_P D sC_ (wd_ ad cA w u) t.heap) (Aw_ ad)
abbrev Qv_ (D : va_G) (ad : Nat → Nat) (cA : Nat → ClassId) (w : Nat) (post : St_ → Prop) : Array Value → State → Outcome → State → Prop := va_Qv post (fun u t => va_P D sC_ (wd_ ad cA w u) t.heap) (Aw_ ad)
theorem fb_ {D : va_G} {ad : Nat → Nat} {cA : Nat → ClassId} {w : Nat} {st : St_} {av : List Value} : FrameBlind (Pw_ D ad cA w st av) := fun a U g mk q => by
  obtain ⟨q0, qP, qK, qN⟩ := q
  exact ⟨q0, qP, va_K.moved (u := U) (U := U.calling g mk a) (Vm.Alike.refl U.vm) qK, NW_same (s := U) (U := U.calling g mk a) rfl qN⟩
section WR
variable {p : Program} {l : Launch} {e : Env} {R : Room} {s : State} {m : MethodId} {args : Array Value} {below : List Frame} {meth : Method} {c : Code} {H H0 : Heap} {locs : List Loc} {cells slots : Nat} {Q : State → Prop}
variable {cc : ByteArray} {pc : Nat} {ls : Array Slot} {rest : List Value} {D : va_G} {ad : Nat → Nat} {cA : Nat → ClassId} {w : Nat} {st : St_}
theorem w_ild (k : Nat) (hk : k < 18 ∧ k ≠ 9) (hx : p.tables.exec = Jvm.exec) (hb : c.code = cc) (hK : va_K D sC_ (ty_ cA) s) (hP : va_P D sC_ (wd_ ad cA w st) H) {i : Int32} (hin : vp_in i (wl_ w k)) (hdg : decode cc pc = .ok (.iaload, 1))
    (kk : W p l e R s m args below meth c H locs cells slots Q (F0 m (pc + 1) ls (.int (st k i.toNatClampNeg) :: rest))) : W p l e R s m args below meth c H locs cells slots Q (F0 m pc ls (.int i :: .ref (ad k) :: rest)) :=
  va_iald hx hb hK hP k k (wd_at k hk.1) (ty_at k hk) hin hdg kk
theorem w_zld (hx : p.tables.exec = Jvm.exec) (hb : c.code = cc) (hK : va_K D sC_ (ty_ cA) s) (hP : va_P D sC_ (wd_ ad cA w st) H) {i : Int32} (hin : vp_in i 1201) (hdg : decode cc pc = .ok (.baload, 1))
    (kk : W p l e R s m args below meth c H locs cells slots Q (F0 m (pc + 1) ls (.int (st 9 i.toNatClampNeg) :: rest))) : W p l e R s m args below meth c H locs cells slots Q (F0 m pc ls (.int i :: .ref (ad 9) :: rest)) :=
  va_zald hx hb hK hP 9 9 (wd_at 9 (by decide)) rfl hin hdg kk
theorem w_ist (k : Nat) (hk : k < 18 ∧ k ≠ 9) (hJ : Jn_ ad) (hx : p.tables.exec = Jvm.exec) (hb : c.code = cc) (hK : va_K D sC_ (ty_ cA) s) (hP : va_P D sC_ (wd_ ad cA w st) H) (hS : va_S (Aw_ ad) H0 H locs) {i x : Int32} (hin : vp_in i (wl_ w k)) (hdg : decode cc pc = .ok (.iastore, 1))
    (kk : ∀ (H1 : Heap) (locs1 : List Loc), va_P D sC_ (wd_ ad cA w (ws_1 st k i.toNatClampNeg x)) H1 → va_S (Aw_ ad) H0 H1 locs1 → W p l e R s m args below meth c H1 locs1 cells slots Q (F0 m (pc + 1) ls rest)) : W p l e R s m args below meth c H locs cells slots Q (F0 m pc ls (.int x :: .int i :: .ref (ad k) :: rest)) :=
  va_iast hx hb hK hP (wd_D hJ) hS k k (wd_at k hk.1) (ty_at k hk) hin hdg (fun H1 locs1 hP1 _ hS1 => kk H1 locs1 (by rw [wd_up k hk.1] at hP1; exact hP1) hS1)
theorem w_zst (hJ : Jn_ ad) (hx : p.tables.exec = Jvm.exec) (hb : c.code = cc) (hK : va_K D sC_ (ty_ cA) s) (hP : va_P D sC_ (wd_ ad cA w st) H) (hS : va_S (Aw_ ad) H0 H locs) {i x : Int32} (hin : vp_in i 1201) (hdg : decode cc pc = .ok (.bastore, 1))
    (kk : ∀ (H1 : Heap) (locs1 : List Loc), va_P D sC_ (wd_ ad cA w (ws_1 st 9 i.toNatClampNeg (vp_nar .boolean x))) H1 → va_S (Aw_ ad) H0 H1 locs1 → W p l e R s m args below meth c H1 locs1 cells slots Q (F0 m (pc + 1) ls rest)) : W p l e R s m args below meth c H locs cells slots Q (F0 m pc ls (.int x :: .int i :: .ref (ad 9) :: rest)) :=
  va_zast hx hb hK hP (wd_D hJ) hS 9 9 (wd_at 9 (by decide)) rfl hin hdg (fun H1 locs1 hP1 _ hS1 => kk H1 locs1 (by
    have e := wd_up (ad := ad) (cA := cA) (w := w) (st := st) 9 (by decide) (upd (st 9) i.toNatClampNeg (vp_nar .boolean x))
    have hP2 : va_P D sC_ ((wd_ ad cA w st).set 9 (ad 9, .inl (cA 9, wl_ w 9, .inl (upd (st 9) i.toNatClampNeg (vp_nar .boolean x))))) H1 := hP1
    rw [e] at hP2; exact hP2) hS1)
theorem w_cpy (k j : Nat) (hk : k < 18 ∧ k ≠ 9) (hj : j < 18 ∧ j ≠ 9) (hJ : Jn_ ad) (hx : p.tables.exec = Jvm.exec) (hb : c.code = cc) (hml : c.maxLocals = ls.size) {own : String} {index : Nat} (hown : s.vm.findClass own = some m.cls) (hlink : (Cond.methodLink own index arraycopyName).before args s = true) (hnat : (Cond.native arraycopyName).before args s = true) (hstat : (Cond.static arraycopyName).before args s = true) (hini : (Cond.initialized "java/lang/System").before args s = true)
    (hK : va_K D sC_ (ty_ cA) s) (hP : va_P D sC_ (wd_ ad cA w st) H) (hS : va_S (Aw_ ad) H0 H locs) {sp dp n : Int32} (hc : ¬ sp < 0 ∧ ¬ dp < 0 ∧ ¬ n < 0 ∧ sp.toNatClampNeg + n.toNatClampNeg ≤ wl_ w k ∧ dp.toNatClampNeg + n.toNatClampNeg ≤ wl_ w j)
    (hframes : 1 ≤ R.frames) (hlocals : (rest.map fun v => v.category).sum + (nativeFrameWords "java/lang/System" "arraycopy" 5 + 11) ≤ R.locals) (hdg : decode cc pc = .ok (.invokestatic index, 3))
    (kk : ∀ (H1 : Heap) (locs1 : List Loc), va_P D sC_ (wd_ ad cA w (ws_c st k j sp.toNatClampNeg dp.toNatClampNeg n.toNatClampNeg)) H1 → va_S (Aw_ ad) H0 H1 locs1 → W p l e R s m args below meth c H1 locs1 cells slots Q (F0 m (pc + 3) ls rest)) : W p l e R s m args below meth c H locs cells slots Q (F0 m pc ls (.int n :: .int dp :: .ref (ad j) :: .int sp :: .ref (ad k) :: rest)) :=
  va_copyi hx hb hml hown hlink hnat hstat hini hK hP (wd_D hJ) hS k j k j (ty := .int) (wd_at k hk.1) (wd_at j hj.1) (ty_at k hk) (ty_at j hj) rfl hc.1 hc.2.1 hc.2.2.1 hc.2.2.2.1 hc.2.2.2.2 (fun i _ => rfl) hframes hlocals hdg (fun H1 locs1 hP1 _ hS1 => kk H1 locs1 (by rw [wd_up j hj.1] at hP1; exact hP1) hS1)
theorem w_iret (hx : p.tables.exec = Jvm.exec) (hb : c.code = cc) (hr : meth.sig.returnType = some .int) (hlocks : meth.locks = false) (hP : va_P D sC_ (wd_ ad cA w st) H) (hS : va_S (Aw_ ad) s.heap H locs) {v : Int32} {post : Int32 → St_ → Prop} (h : post v st) (hdg : decode cc pc = .ok (.ireturn, 1)) :
    W p l e R s m args below meth c H locs 0 0 (MQ below (Qi_ D ad cA w post) args s 0 0 (Aw_ ad)) (F0 m pc ls [.int v]) :=
  W.iret (v := v) hx hb hr (fun t ht _ => ⟨⟨v, st, rfl, h, by show va_P D sC_ (wd_ ad cA w st) t.heap; rw [ht]; exact hP⟩, hS.F ht⟩) hS.2.2 hdg hlocks
theorem w_zret (hx : p.tables.exec = Jvm.exec) (hb : c.code = cc) (hr : meth.sig.returnType = some .boolean) {v : Int32} (hn : narrow .boolean (.int v) = .int v) (hlocks : meth.locks = false) (hP : va_P D sC_ (wd_ ad cA w st) H) (hS : va_S (Aw_ ad) s.heap H locs) {post : Int32 → St_ → Prop} (h : post v st) (hdg : decode cc pc = .ok (.ireturn, 1)) :
    W p l e R s m args below meth c H locs 0 0 (MQ below (Qi_ D ad cA w post) args s 0 0 (Aw_ ad)) (F0 m pc ls [.int v]) :=
  W.zret (v := v) hx hb hr hn (fun t ht _ => ⟨⟨v, st, rfl, h, by show va_P D sC_ (wd_ ad cA w st) t.heap; rw [ht]; exact hP⟩, hS.F ht⟩) hS.2.2 hdg hlocks
theorem w_vret (hx : p.tables.exec = Jvm.exec) (hb : c.code = cc) (hr : meth.sig.returnType = none) (hlocks : meth.locks = false) (hP : va_P D sC_ (wd_ ad cA w st) H) (hS : va_S (Aw_ ad) s.heap H locs) {post : St_ → Prop} (h : post st) (hdg : decode cc pc = .ok (.return_, 1)) :
    W p l e R s m args below meth c H locs 0 0 (MQ below (Qv_ D ad cA w post) args s 0 0 (Aw_ ad)) (F0 m pc ls []) :=
  W.vret hx hb hr (fun t ht _ => ⟨⟨st, rfl, h, by show va_P D sC_ (wd_ ad cA w st) t.heap; rw [ht]; exact hP⟩, hS.F ht⟩) hS.2.2 hdg hlocks
variable {y : MethodName} {bytes : ByteArray} {maxL nL index n ci N : Nat} {ret : Option FieldType} {rm : Room} {own C host : String} {As stk : List Value} {fs : List Value} {T : u_T}
theorem wk_in {v : Cond} (hv : v ∈ Wk_) : GoodIn Wk_ (v :: Wk_) := fun q hq => by
  rcases List.mem_cons.mp hq with rfl | h
  · exact ⟨hv, wk_good _ hv⟩
  · exact ⟨h, wk_good _ h⟩
theorem w_runV (qb : Nat) {Qc : Array Value → State → Outcome → State → Prop} (hx : p.tables.exec = Jvm.exec) (hb : c.code = cc) (hml : c.maxLocals = nL) (hown : s.vm.findClass own = some m.cls) (hts : ∀ v ∈ Wk_, v.before args s = true) (hK : va_K D sC_ (ty_ cA) s) (hN : NW_ s) (hP : va_P D sC_ (wd_ ad cA w st) H)
    (hM : Met l y (Cond.code y bytes maxL ret :: Wk_) rm (Pw_ D ad cA w st (.ref (ad qb) :: As)) Qc 0 0 (Aw_ ad)) (hcode : Cond.code y bytes maxL ret ∈ Wk_) (hlink : Cond.methodLink own index y ∈ Wk_) (hinst : Cond.instanceMethod y ∈ Wk_) (hsel : Cond.selects C y y ∈ Wk_) (hini : Cond.initialized C ∈ Wk_)
    (hd : y.cls = C ∧ y.cls ≠ "java/lang/invoke/MethodHandle" ∧ y.cls ≠ "java/lang/invoke/VarHandle" ∧ (parseMethodDescriptor y.desc).map (fun d => d.parameters.length) = some n) (hR : rm.frames + 1 ≤ R.frames ∧ 8 + (maxL + 11) + rm.locals ≤ R.locals) (hrc : rm.cells = 0) (hrs : rm.slots = 0)
    (hob : (wd_ ad cA w st)[qb]? = some (ad qb, .inr (ci, fs))) (hcl : sC_[ci]? = some (C, T, N)) (hn : As.length = n) (hsize : ls.size = nL) (hstk : stk = As.reverse ++ .ref (ad qb) :: rest) (hW : 2 * (F0 m pc ls stk).monitorRoom + (rest.map fun v => v.category).sum ≤ 8) (hdg : decode cc pc = .ok (.invokevirtual index, 3)) (hf : cells + 0 ≤ R.cells ∧ slots + 0 ≤ R.slots) :
    va_Run p l e R s m args below meth c H locs cells slots 0 0 (F0 m pc ls stk) rest (Qc (Value.ref (ad qb) :: As).toArray) (Aw_ ad) := by
  have hG : GoodIn Wk_ (wsV own index C y (Cond.code y bytes maxL ret :: Wk_)) := by
    intro q hq
    have h1 : q ∈ Wk_ := by
      simp only [wsV, List.mem_append, List.mem_cons, List.not_mem_nil, or_false] at hq
      rcases hq with (rfl | rfl | rfl | rfl) | rfl | h
      · exact hlink
      · exact hinst
      · exact hsel
      · exact hini
      · exact hcode
      · exact h
    exact ⟨h1, wk_good _ h1⟩
  exact va_runV (As := As) (rest := rest) ⟨hx, hb, hml, hown, hts⟩ hM (cwV n hts hG rfl hrc hrs hd hR) ⟨fb_, va_recv (q := (C, T, N)) hK hP hcl hob, fun U hU hW => ⟨rfl, by rw [hU]; exact hP, va_K.moved hW.alike hK, NW_moved hW hN⟩⟩ rfl hn hsize hstk hW hdg hf
theorem w_cVi (qb : Nat) {post : Int32 → St_ → Prop} (hx : p.tables.exec = Jvm.exec) (hb : c.code = cc) (hml : c.maxLocals = nL) (hown : s.vm.findClass own = some m.cls) (hts : ∀ v ∈ Wk_, v.before args s = true) (hK : va_K D sC_ (ty_ cA) s) (hN : NW_ s) (hP : va_P D sC_ (wd_ ad cA w st) H) (hS : va_S (Aw_ ad) H0 H locs)
    (hM : Met l y (Cond.code y bytes maxL ret :: Wk_) rm (Pw_ D ad cA w st (.ref (ad qb) :: As)) (Qi_ D ad cA w post) 0 0 (Aw_ ad)) (hcode : Cond.code y bytes maxL ret ∈ Wk_) (hlink : Cond.methodLink own index y ∈ Wk_) (hinst : Cond.instanceMethod y ∈ Wk_) (hsel : Cond.selects C y y ∈ Wk_) (hini : Cond.initialized C ∈ Wk_)
    (hd : y.cls = C ∧ y.cls ≠ "java/lang/invoke/MethodHandle" ∧ y.cls ≠ "java/lang/invoke/VarHandle" ∧ (parseMethodDescriptor y.desc).map (fun d => d.parameters.length) = some n) (hR : rm.frames + 1 ≤ R.frames ∧ 8 + (maxL + 11) + rm.locals ≤ R.locals) (hrc : rm.cells = 0) (hrs : rm.slots = 0)
    (hob : (wd_ ad cA w st)[qb]? = some (ad qb, .inr (ci, fs))) (hcl : sC_[ci]? = some (C, T, N)) (hn : As.length = n) (hsize : ls.size = nL) (hstk : stk = As.reverse ++ .ref (ad qb) :: rest) (hW : 2 * (F0 m pc ls stk).monitorRoom + (rest.map fun v => v.category).sum ≤ 8) (hdg : decode cc pc = .ok (.invokevirtual index, 3)) (hf : cells + 0 ≤ R.cells ∧ slots + 0 ≤ R.slots)
    (kk : ∀ (r : Int32) (u : St_) (H1 : Heap) (locs1 : List Loc), va_P D sC_ (wd_ ad cA w u) H1 → va_S (Aw_ ad) H0 H1 locs1 → post r u → W p l e R s m args below meth c H1 locs1 cells slots Q (F0 m (pc + 3) ls (.int r :: rest))) : W p l e R s m args below meth c H locs cells slots Q (F0 m pc ls stk) :=
  va_calli (w_runV qb hx hb hml hown hts hK hN hP hM hcode hlink hinst hsel hini hd hR hrc hrs hob hcl hn hsize hstk hW hdg hf) hS (fun q _ h => h) (fun q h => h) (fun r u t H1 locs1 ht _ hw hB _ _ hS1 => kk r u H1 locs1 (by rw [← ht]; exact hB) hS1 hw)
theorem w_cVv (qb : Nat) {post : St_ → Prop} (hx : p.tables.exec = Jvm.exec) (hb : c.code = cc) (hml : c.maxLocals = nL) (hown : s.vm.findClass own = some m.cls) (hts : ∀ v ∈ Wk_, v.before args s = true) (hK : va_K D sC_ (ty_ cA) s) (hN : NW_ s) (hP : va_P D sC_ (wd_ ad cA w st) H) (hS : va_S (Aw_ ad) H0 H locs)
    (hM : Met l y (Cond.code y bytes maxL ret :: Wk_) rm (Pw_ D ad cA w st (.ref (ad qb) :: As)) (Qv_ D ad cA w post) 0 0 (Aw_ ad)) (hcode : Cond.code y bytes maxL ret ∈ Wk_) (hlink : Cond.methodLink own index y ∈ Wk_) (hinst : Cond.instanceMethod y ∈ Wk_) (hsel : Cond.selects C y y ∈ Wk_) (hini : Cond.initialized C ∈ Wk_)
    (hd : y.cls = C ∧ y.cls ≠ "java/lang/invoke/MethodHandle" ∧ y.cls ≠ "java/lang/invoke/VarHandle" ∧ (parseMethodDescriptor y.desc).map (fun d => d.parameters.length) = some n) (hR : rm.frames + 1 ≤ R.frames ∧ 8 + (maxL + 11) + rm.locals ≤ R.locals) (hrc : rm.cells = 0) (hrs : rm.slots = 0)
    (hob : (wd_ ad cA w st)[qb]? = some (ad qb, .inr (ci, fs))) (hcl : sC_[ci]? = some (C, T, N)) (hn : As.length = n) (hsize : ls.size = nL) (hstk : stk = As.reverse ++ .ref (ad qb) :: rest) (hW : 2 * (F0 m pc ls stk).monitorRoom + (rest.map fun v => v.category).sum ≤ 8) (hdg : decode cc pc = .ok (.invokevirtual index, 3)) (hf : cells + 0 ≤ R.cells ∧ slots + 0 ≤ R.slots)
    (kk : ∀ (u : St_) (H1 : Heap) (locs1 : List Loc), va_P D sC_ (wd_ ad cA w u) H1 → va_S (Aw_ ad) H0 H1 locs1 → post u → W p l e R s m args below meth c H1 locs1 cells slots Q (F0 m (pc + 3) ls rest)) : W p l e R s m args below meth c H locs cells slots Q (F0 m pc ls stk) :=
  va_callv (w_runV qb hx hb hml hown hts hK hN hP hM hcode hlink hinst hsel hini hd hR hrc hrs hob hcl hn hsize hstk hW hdg hf) hS (fun q _ h => h) (fun q h => h) (fun u t H1 locs1 ht _ hw hB _ _ hS1 => kk u H1 locs1 (by rw [← ht]; exact hB) hS1 hw)
theorem w_cSi {post : Int32 → St_ → Prop} (hx : p.tables.exec = Jvm.exec) (hb : c.code = cc) (hml : c.maxLocals = nL) (hown : s.vm.findClass own = some m.cls) (hts : ∀ v ∈ Wk_, v.before args s = true) (hK : va_K D sC_ (ty_ cA) s) (hN : NW_ s) (hP : va_P D sC_ (wd_ ad cA w st) H) (hS : va_S (Aw_ ad) H0 H locs)
    (hM : Met l y (Cond.code y bytes maxL ret :: Wk_) rm (Pw_ D ad cA w st As) (Qi_ D ad cA w post) 0 0 (Aw_ ad)) (hcode : Cond.code y bytes maxL ret ∈ Wk_) (hlink : Cond.methodLink own index y ∈ Wk_) (hstat : Cond.static y ∈ Wk_) (hini : Cond.initialized own ∈ Wk_)
    (hd : y.cls = own ∧ y.cls ≠ "java/lang/invoke/MethodHandle" ∧ y.cls ≠ "java/lang/invoke/VarHandle" ∧ (parseMethodDescriptor y.desc).map (fun d => d.parameters.length) = some n) (hR : rm.frames + 1 ≤ R.frames ∧ 8 + (maxL + 11) + rm.locals ≤ R.locals) (hrc : rm.cells = 0) (hrs : rm.slots = 0)
    (hn : As.length = n) (hsize : ls.size = nL) (hstk : stk = As.reverse ++ rest) (hW : 2 * (F0 m pc ls stk).monitorRoom + (rest.map fun v => v.category).sum ≤ 8) (hdg : decode cc pc = .ok (.invokestatic index, 3)) (hf : cells + 0 ≤ R.cells ∧ slots + 0 ≤ R.slots)
    (kk : ∀ (r : Int32) (u : St_) (H1 : Heap) (locs1 : List Loc), va_P D sC_ (wd_ ad cA w u) H1 → va_S (Aw_ ad) H0 H1 locs1 → post r u → W p l e R s m args below meth c H1 locs1 cells slots Q (F0 m (pc + 3) ls (.int r :: rest))) : W p l e R s m args below meth c H locs cells slots Q (F0 m pc ls stk) := by
  have hG : GoodIn Wk_ (wsS own index y (Cond.code y bytes maxL ret :: Wk_)) := by
    intro q hq
    have h1 : q ∈ Wk_ := by
      simp only [wsS, List.mem_append, List.mem_cons, List.not_mem_nil, or_false] at hq
      rcases hq with (rfl | rfl | rfl) | rfl | h
      · exact hlink
      · exact hstat
      · exact hini
      · exact hcode
      · exact h
    exact ⟨h1, wk_good _ h1⟩
  exact va_calli (va_runS (As := As) (rest := rest) ⟨hx, hb, hml, hown, hts⟩ hM (cwS n hts hG rfl hrc hrs hd hR) ⟨fb_, fun U hU hW => ⟨rfl, by rw [hU]; exact hP, va_K.moved hW.alike hK, NW_moved hW hN⟩⟩ rfl hn hsize hstk hW hdg hf) hS (fun q _ h => h) (fun q h => h) (fun r u t H1 locs1 ht _ hw hB _ _ hS1 => kk r u H1 locs1 (by rw [← ht]; exact hB) hS1 hw)
theorem w_cNi {post : Int32 → St_ → Prop} (hx : p.tables.exec = Jvm.exec) (hb : c.code = cc) (hml : c.maxLocals = nL) (hown : s.vm.findClass own = some m.cls) (hts : ∀ v ∈ Wk_, v.before args s = true) (hK : va_K D sC_ (ty_ cA) s) (hN : NW_ s) (hP : va_P D sC_ (wd_ ad cA w st) H) (hS : va_S (Aw_ ad) H0 H locs)
    (hM : Met l y (Cond.code y bytes maxL ret :: Wk_) rm (Pw_ D ad cA w st As) (Qi_ D ad cA w post) 0 0 (Aw_ ad)) (hcode : Cond.code y bytes maxL ret ∈ Wk_) (hlink : va_Nw (.methodLinkNest own index y host) s) (hstat : Cond.static y ∈ Wk_) (hini : Cond.initialized y.cls ∈ Wk_)
    (hd : y.cls ≠ "java/lang/invoke/MethodHandle" ∧ y.cls ≠ "java/lang/invoke/VarHandle" ∧ (parseMethodDescriptor y.desc).map (fun d => d.parameters.length) = some n) (hR : rm.frames + 1 ≤ R.frames ∧ 8 + (maxL + 11) + rm.locals ≤ R.locals) (hrc : rm.cells = 0) (hrs : rm.slots = 0)
    (hn : As.length = n) (hsize : ls.size = nL) (hstk : stk = As.reverse ++ rest) (hW : 2 * (F0 m pc ls stk).monitorRoom + (rest.map fun v => v.category).sum ≤ 8) (hdg : decode cc pc = .ok (.invokestatic index, 3)) (hf : cells + 0 ≤ R.cells ∧ slots + 0 ≤ R.slots)
    (kk : ∀ (r : Int32) (u : St_) (H1 : Heap) (locs1 : List Loc), va_P D sC_ (wd_ ad cA w u) H1 → va_S (Aw_ ad) H0 H1 locs1 → post r u → W p l e R s m args below meth c H1 locs1 cells slots Q (F0 m (pc + 3) ls (.int r :: rest))) : W p l e R s m args below meth c H locs cells slots Q (F0 m pc ls stk) :=
  va_calli (va_runSN (As := As) (rest := rest) ⟨hx, hb, hml, hown, hts⟩ hM ⟨va_cnB n hts (wk_in hcode) rfl hrc hrs hlink (hts _ hini) hd hR, hts _ hstat, trivial⟩ ⟨fb_, fun U hU hW => ⟨rfl, by rw [hU]; exact hP, va_K.moved hW.alike hK, NW_moved hW hN⟩⟩ rfl hn hsize hstk hW hdg hf) hS (fun q _ h => h) (fun q h => h) (fun r u t H1 locs1 ht _ hw hB _ _ hS1 => kk r u H1 locs1 (by rw [← ht]; exact hB) hS1 hw)
end WR
end
section
def wp_S_isMap (w : Nat) (x0 : Int32) (st : St_) (post : Int32 → St_ → Prop) : Prop := ((x0 < 0 → post 0 st) ∧ (¬ x0 < 0 → ((8 ≤ x0 → post 0 st) ∧ (¬ 8 ≤ x0 → post 1 st))))
def wp_S_isKey (w : Nat) (x0 : Int32) (st : St_) (post : Int32 → St_ → Prop) : Prop := ((x0 < 0 → post 0 st) ∧ (¬ x0 < 0 → ((4095 < x0 → post 0 st) ∧ (¬ 4095 < x0 → post 1 st))))
def wp_S_isStamp (w : Nat) (x0 : Int32) (st : St_) (post : Int32 → St_ → Prop) : Prop := ((x0 < 0 → post 0 st) ∧ (¬ x0 < 0 → ((1000000000 < x0 → post 0 st) ∧ (¬ 1000000000 < x0 → post 1 st))))
def wp_B_isBlock (w : Nat) (x1 : Int32) (st : St_) (post : Int32 → St_ → Prop) : Prop := ((x1 ≤ 0 → post 0 st) ∧ (¬ x1 ≤ 0 → ((1200 < x1 → post 0 st) ∧ (¬ 1200 < x1 → post 1 st))))
def wp_B_level (w : Nat) (x1 : Int32) (st : St_) (post : Int32 → St_ → Prop) : Prop := wp_B_isBlock w x1 st (fun (r102 : Int32) (st101 : St_) => ((r102 = 0 → post 0 st101) ∧ (¬ r102 = 0 → vp_in x1 1201 ∧ (post (st101 1 (x1).toNatClampNeg) st101))))
def wp_B_size (w : Nat) (x1 : Int32) (st : St_) (post : Int32 → St_ → Prop) : Prop := wp_B_isBlock w x1 st (fun (r102 : Int32) (st101 : St_) => ((r102 = 0 → post 0 st101) ∧ (¬ r102 = 0 → vp_in x1 1201 ∧ (post (st101 2 (x1).toNatClampNeg) st101))))
def wp_B_slotOf_24 (w : Nat) (post : Int32 → St_ → Prop) : Nat → Int32 → Int32 → Int32 → Int32 → Int32 → St_ → Prop
  | 0, _, _, _, _, _, _ => False
  | n + 1, y1, y2, y3, y4, y5, st => ((y5 ≤ (y3 + 1) → post y3 st) ∧ (¬ y5 ≤ (y3 + 1) → vp_in ((y4 + y3) + 1) (1201 * w) ∧ (((y2 < (st 3 (((y4 + y3) + 1)).toNatClampNeg) → post y3 st) ∧ (¬ y2 < (st 3 (((y4 + y3) + 1)).toNatClampNeg) → ∀ x105 : Int32, x105 = y3 + 1 → (wp_B_slotOf_24 w post n y1 y2 x105 y4 y5 st))))))
def wp_B_slotOf (w : Nat) (x1 : Int32) (x2 : Int32) (st : St_) (post : Int32 → St_ → Prop) : Prop := ∀ x101 : Int32, x101 = (x1 * (nI w)) → (wp_B_size w x1 st (fun (r103 : Int32) (st102 : St_) => ∀ x104 : Int32, x104 = (if (nI w) < r103 then (nI w) else r103) → ((∃ n, wp_B_slotOf_24 w post n x1 x2 (-1) x101 x104 st102))))
def wp_B_isEntry (w : Nat) (x1 : Int32) (x2 : Int32) (st : St_) (post : Int32 → St_ → Prop) : Prop := ((x1 < 0 → post 0 st) ∧ (¬ x1 < 0 → ((1200 < x1 → post 0 st) ∧ (¬ 1200 < x1 → ((x2 < 0 → post 0 st) ∧ (¬ x2 < 0 → (((nI w) ≤ x2 → post 0 st) ∧ (¬ (nI w) ≤ x2 → vp_in x1 1201 ∧ ((((st 2 (x1).toNatClampNeg) ≤ x2 → post 0 st) ∧ (¬ (st 2 (x1).toNatClampNeg) ≤ x2 → post 1 st)))))))))))
def wp_B_key (w : Nat) (x1 : Int32) (x2 : Int32) (st : St_) (post : Int32 → St_ → Prop) : Prop := wp_B_isEntry w x1 x2 st (fun (r102 : Int32) (st101 : St_) => ((r102 = 0 → post (-2) st101) ∧ (¬ r102 = 0 → vp_in ((x1 * (nI w)) + x2) (1201 * w) ∧ (post (st101 3 (((x1 * (nI w)) + x2)).toNatClampNeg) st101))))
def wp_B_goal (w : Nat) (x1 : Int32) (x2 : Int32) (st : St_) (post : Int32 → St_ → Prop) : Prop := wp_B_isEntry w x1 x2 st (fun (r102 : Int32) (st101 : St_) => ((r102 = 0 → post 0 st101) ∧ (¬ r102 = 0 → vp_in ((x1 * (nI w)) + x2) (1201 * w) ∧ (post (st101 4 (((x1 * (nI w)) + x2)).toNatClampNeg) st101))))
def wp_T_slotToward (w : Nat) (x1 : Int32) (x2 : Int32) (st : St_) (post : Int32 → St_ → Prop) : Prop := wp_B_slotOf w x1 x2 st (fun (r102 : Int32) (st101 : St_) => post (if 0 < r102 then r102 else 0) st101)
def wp_T_stampOf_12 (w : Nat) (post : Int32 → St_ → Prop) : Nat → Int32 → Int32 → Int32 → Int32 → St_ → Prop
  | 0, _, _, _, _, _ => False
  | n + 1, y1, y2, y3, y4, st => ((y4 ≤ 0 → wp_B_slotOf w y3 y2 st (fun (r104 : Int32) (st103 : St_) => wp_B_key w y3 r104 st103 (fun (r106 : Int32) (st105 : St_) => ((¬ r106 = y2 → post (-2) st105) ∧ (r106 = y2 → wp_B_goal w y3 r104 st105 (fun (r108 : Int32) (st107 : St_) => post r108 st107)))))) ∧ (¬ y4 ≤ 0 → wp_T_slotToward w y3 y2 st (fun (r110 : Int32) (st109 : St_) => wp_B_goal w y3 r110 st109 (fun (r112 : Int32) (st111 : St_) => ∀ x113 : Int32, x113 = y4 + (-1) → (wp_T_stampOf_12 w post n y1 y2 r112 x113 st111)))))
def wp_T_stampOf (w : Nat) (x1 : Int32) (x2 : Int32) (st : St_) (post : Int32 → St_ → Prop) : Prop := wp_B_level w x1 st (fun (r102 : Int32) (st101 : St_) => (∃ n, wp_T_stampOf_12 w post n x1 x2 x1 r102 st101))
def wp_B_ways (w : Nat) (x1 : Int32) (st : St_) (post : Int32 → St_ → Prop) : Prop := wp_B_isBlock w x1 st (fun (r102 : Int32) (st101 : St_) => ((r102 = 0 → post 0 st101) ∧ (¬ r102 = 0 → vp_in x1 1201 ∧ (post (st101 0 (x1).toNatClampNeg) st101))))
def wp_B_take (w : Nat) (x1 : Int32) (st : St_) (post : Int32 → St_ → Prop) : Prop := (((st 18 0) ≤ 0 → post 0 st) ∧ (¬ (st 18 0) ≤ 0 → (((st 18 0) ≤ 1200 → ∀ st101 : St_, st101 = ws_1 st 18 0 ((st 18 0) - 1) → (vp_in (st101 18 0) 1200 ∧ (∀ x102 : Int32, x102 = (st101 5 ((st101 18 0)).toNatClampNeg) → (wp_B_isBlock w x102 st101 (fun (r104 : Int32) (st103 : St_) => ((r104 = 0 → post x102 st103) ∧ (¬ r104 = 0 → vp_in x102 1201 ∧ (∀ st105 : St_, st105 = ws_1 st103 0 (x102).toNatClampNeg 1 → (vp_in x102 1201 ∧ (∀ st106 : St_, st106 = ws_1 st105 1 (x102).toNatClampNeg x1 → (vp_in x102 1201 ∧ (∀ st107 : St_, st107 = ws_1 st106 2 (x102).toNatClampNeg 0 → (post x102 st107))))))))))))) ∧ (¬ (st 18 0) ≤ 1200 → post 0 st))))
def wp_B_copyEntries (w : Nat) (x1 : Int32) (x2 : Int32) (st : St_) (post : St_ → Prop) : Prop := wp_B_isBlock w x1 st (fun (r102 : Int32) (st101 : St_) => ((r102 = 0 → post st101) ∧ (¬ r102 = 0 → wp_B_isBlock w x2 st101 (fun (r104 : Int32) (st103 : St_) => ((r104 = 0 → post st103) ∧ (¬ r104 = 0 → (¬ (x1 * (nI w)) < 0 ∧ ¬ (x2 * (nI w)) < 0 ∧ ¬ (nI w) < 0 ∧ ((x1 * (nI w))).toNatClampNeg + ((nI w)).toNatClampNeg ≤ (1201 * w) ∧ ((x2 * (nI w))).toNatClampNeg + ((nI w)).toNatClampNeg ≤ (1201 * w)) ∧ (∀ st105 : St_, st105 = ws_c st103 3 3 ((x1 * (nI w))).toNatClampNeg ((x2 * (nI w))).toNatClampNeg ((nI w)).toNatClampNeg → ((¬ (x1 * (nI w)) < 0 ∧ ¬ (x2 * (nI w)) < 0 ∧ ¬ (nI w) < 0 ∧ ((x1 * (nI w))).toNatClampNeg + ((nI w)).toNatClampNeg ≤ (1201 * w) ∧ ((x2 * (nI w))).toNatClampNeg + ((nI w)).toNatClampNeg ≤ (1201 * w)) ∧ (∀ st106 : St_, st106 = ws_c st105 4 4 ((x1 * (nI w))).toNatClampNeg ((x2 * (nI w))).toNatClampNeg ((nI w)).toNatClampNeg → (vp_in x1 1201 ∧ (vp_in x2 1201 ∧ (∀ st107 : St_, st107 = ws_1 st106 2 (x2).toNatClampNeg (st106 2 (x1).toNatClampNeg) → (post st107)))))))))))))
def wp_B_lose (w : Nat) (x1 : Int32) (st : St_) (post : Int32 → St_ → Prop) : Prop := wp_B_isBlock w x1 st (fun (r102 : Int32) (st101 : St_) => ((r102 = 0 → post 0 st101) ∧ (¬ r102 = 0 → vp_in x1 1201 ∧ (((0 < (st101 0 (x1).toNatClampNeg) → vp_in x1 1201 ∧ (vp_in x1 1201 ∧ (∀ st103 : St_, st103 = ws_1 st101 0 (x1).toNatClampNeg ((st101 0 (x1).toNatClampNeg) - 1) → (vp_in x1 1201 ∧ (((¬ (st103 0 (x1).toNatClampNeg) = 0 → post 0 st103) ∧ ((st103 0 (x1).toNatClampNeg) = 0 → post 1 st103))))))) ∧ (¬ 0 < (st101 0 (x1).toNatClampNeg) → post 0 st101))))))
def wp_B_share (w : Nat) (x1 : Int32) (st : St_) (post : St_ → Prop) : Prop := wp_B_isBlock w x1 st (fun (r102 : Int32) (st101 : St_) => ((r102 = 0 → post st101) ∧ (¬ r102 = 0 → vp_in x1 1201 ∧ (vp_in x1 1201 ∧ (∀ st103 : St_, st103 = ws_1 st101 0 (x1).toNatClampNeg ((st101 0 (x1).toNatClampNeg) + 1) → (post st103))))))
def wp_B_owned_37 (w : Nat) (post : Int32 → St_ → Prop) : Nat → Int32 → Int32 → Int32 → St_ → Prop
  | 0, _, _, _, _ => False
  | n + 1, y1, y2, y3, st => wp_B_size w y1 st (fun (r113 : Int32) (st112 : St_) => ((r113 ≤ y3 → wp_B_lose w y1 st112 (fun (r115 : Int32) (st114 : St_) => post y2 st114)) ∧ (¬ r113 ≤ y3 → wp_B_goal w y1 y3 st112 (fun (r117 : Int32) (st116 : St_) => wp_B_share w r117 st116 (fun (st118 : St_) => ∀ x119 : Int32, x119 = y3 + 1 → (wp_B_owned_37 w post n y1 y2 x119 st118))))))
def wp_B_owned (w : Nat) (x1 : Int32) (st : St_) (post : Int32 → St_ → Prop) : Prop := wp_B_ways w x1 st (fun (r102 : Int32) (st101 : St_) => ((1 < r102 → wp_B_level w x1 st101 (fun (r104 : Int32) (st103 : St_) => wp_B_take w r104 st103 (fun (r106 : Int32) (st105 : St_) => wp_B_copyEntries w x1 r106 st105 (fun (st107 : St_) => wp_B_level w x1 st107 (fun (r109 : Int32) (st108 : St_) => ((r109 ≤ 0 → wp_B_lose w x1 st108 (fun (r111 : Int32) (st110 : St_) => post r106 st110)) ∧ (¬ r109 ≤ 0 → (∃ n, wp_B_owned_37 w post n x1 r106 0 st108)))))))) ∧ (¬ 1 < r102 → post x1 st101)))
def wp_B_setGoal (w : Nat) (x1 : Int32) (x2 : Int32) (x3 : Int32) (st : St_) (post : St_ → Prop) : Prop := wp_B_isEntry w x1 x2 st (fun (r102 : Int32) (st101 : St_) => ((r102 = 0 → post st101) ∧ (¬ r102 = 0 → vp_in ((x1 * (nI w)) + x2) (1201 * w) ∧ (∀ st103 : St_, st103 = ws_1 st101 4 (((x1 * (nI w)) + x2)).toNatClampNeg x3 → (post st103)))))
def wp_T_ownedChild (w : Nat) (x1 : Int32) (x2 : Int32) (st : St_) (post : Int32 → St_ → Prop) : Prop := wp_B_goal w x1 x2 st (fun (r102 : Int32) (st101 : St_) => wp_B_owned w r102 st101 (fun (r104 : Int32) (st103 : St_) => wp_B_setGoal w x1 x2 r104 st103 (fun (st105 : St_) => post r104 st105)))
def wp_B_setKey (w : Nat) (x1 : Int32) (x2 : Int32) (x3 : Int32) (st : St_) (post : St_ → Prop) : Prop := wp_B_isEntry w x1 x2 st (fun (r102 : Int32) (st101 : St_) => ((r102 = 0 → post st101) ∧ (¬ r102 = 0 → vp_in ((x1 * (nI w)) + x2) (1201 * w) ∧ (∀ st103 : St_, st103 = ws_1 st101 3 (((x1 * (nI w)) + x2)).toNatClampNeg x3 → (post st103)))))
def wp_B_insert (w : Nat) (x1 : Int32) (x2 : Int32) (x3 : Int32) (x4 : Int32) (st : St_) (post : St_ → Prop) : Prop := wp_B_isBlock w x1 st (fun (r102 : Int32) (st101 : St_) => ((r102 = 0 → post st101) ∧ (¬ r102 = 0 → ((x2 < 0 → post st101) ∧ (¬ x2 < 0 → vp_in x1 1201 ∧ ((((st101 2 (x1).toNatClampNeg) < x2 → post st101) ∧ (¬ (st101 2 (x1).toNatClampNeg) < x2 → vp_in x1 1201 ∧ ((((st101 2 (x1).toNatClampNeg) < (nI w) → vp_in x1 1201 ∧ (∀ x103 : Int32, x103 = (st101 2 (x1).toNatClampNeg) → (∀ x104 : Int32, x104 = ((x1 * (nI w)) + x2) → ((¬ x104 < 0 ∧ ¬ (x104 + 1) < 0 ∧ ¬ (x103 - x2) < 0 ∧ (x104).toNatClampNeg + ((x103 - x2)).toNatClampNeg ≤ (1201 * w) ∧ ((x104 + 1)).toNatClampNeg + ((x103 - x2)).toNatClampNeg ≤ (1201 * w)) ∧ (∀ st105 : St_, st105 = ws_c st101 3 3 (x104).toNatClampNeg ((x104 + 1)).toNatClampNeg ((x103 - x2)).toNatClampNeg → ((¬ x104 < 0 ∧ ¬ (x104 + 1) < 0 ∧ ¬ (x103 - x2) < 0 ∧ (x104).toNatClampNeg + ((x103 - x2)).toNatClampNeg ≤ (1201 * w) ∧ ((x104 + 1)).toNatClampNeg + ((x103 - x2)).toNatClampNeg ≤ (1201 * w)) ∧ (∀ st106 : St_, st106 = ws_c st105 4 4 (x104).toNatClampNeg ((x104 + 1)).toNatClampNeg ((x103 - x2)).toNatClampNeg → (vp_in x104 (1201 * w) ∧ (∀ st107 : St_, st107 = ws_1 st106 3 (x104).toNatClampNeg x3 → (vp_in x104 (1201 * w) ∧ (∀ st108 : St_, st108 = ws_1 st107 4 (x104).toNatClampNeg x4 → (vp_in x1 1201 ∧ (∀ st109 : St_, st109 = ws_1 st108 2 (x1).toNatClampNeg (x103 + 1) → (post st109)))))))))))))) ∧ (¬ (st101 2 (x1).toNatClampNeg) < (nI w) → post st101)))))))))))
def wp_B_moveTail_3 (w : Nat) (post : St_ → Prop) : Nat → Int32 → Int32 → Int32 → Int32 → St_ → Prop
  | 0, _, _, _, _, _ => False
  | n + 1, y1, y2, y3, y4, st => wp_B_size w y1 st (fun (r102 : Int32) (st101 : St_) => ((r102 ≤ y4 → wp_B_isBlock w y1 st101 (fun (r104 : Int32) (st103 : St_) => ((r104 = 0 → post st103) ∧ (¬ r104 = 0 → ((y2 < 0 → post st103) ∧ (¬ y2 < 0 → vp_in y1 1201 ∧ ((((st103 2 (y1).toNatClampNeg) ≤ y2 → post st103) ∧ (¬ (st103 2 (y1).toNatClampNeg) ≤ y2 → vp_in y1 1201 ∧ (∀ st105 : St_, st105 = ws_1 st103 2 (y1).toNatClampNeg y2 → (post st105))))))))))) ∧ (¬ r102 ≤ y4 → wp_B_size w y3 st101 (fun (r107 : Int32) (st106 : St_) => wp_B_key w y1 y4 st106 (fun (r109 : Int32) (st108 : St_) => wp_B_goal w y1 y4 st108 (fun (r111 : Int32) (st110 : St_) => wp_B_insert w y3 r107 r109 r111 st110 (fun (st112 : St_) => ∀ x113 : Int32, x113 = y4 + 1 → (wp_B_moveTail_3 w post n y1 y2 y3 x113 st112))))))))
def wp_B_moveTail (w : Nat) (x1 : Int32) (x2 : Int32) (x3 : Int32) (st : St_) (post : St_ → Prop) : Prop := (∃ n, wp_B_moveTail_3 w post n x1 x2 x3 x2 st)
def wp_T_split (w : Nat) (x1 : Int32) (x2 : Int32) (st : St_) (post : St_ → Prop) : Prop := wp_B_goal w x1 x2 st (fun (r102 : Int32) (st101 : St_) => wp_B_level w r102 st101 (fun (r104 : Int32) (st103 : St_) => wp_B_take w r104 st103 (fun (r106 : Int32) (st105 : St_) => wp_B_moveTail w r102 (nI (w / 2)) r106 st105 (fun (st107 : St_) => wp_B_key w r106 0 st107 (fun (r109 : Int32) (st108 : St_) => wp_B_insert w x1 (x2 + 1) r109 r106 st108 (fun (st110 : St_) => post st110))))))
def wp_T_putInLeaf (w : Nat) (x1 : Int32) (x2 : Int32) (x3 : Int32) (st : St_) (post : St_ → Prop) : Prop := wp_B_slotOf w x1 x2 st (fun (r102 : Int32) (st101 : St_) => wp_B_key w x1 r102 st101 (fun (r104 : Int32) (st103 : St_) => ((¬ r104 = x2 → wp_B_insert w x1 (r102 + 1) x2 x3 st103 (fun (st105 : St_) => post st105)) ∧ (r104 = x2 → wp_B_setGoal w x1 r102 x3 st103 (fun (st106 : St_) => post st106)))))
def wp_T_putBelow (w : Nat) : Nat → Int32 → Int32 → Int32 → Int32 → St_ → (St_ → Prop) → Prop
  | 0, _, _, _, _, _, _ => False
  | d + 1, x1, x2, x3, x4, st, post => ((x2 ≤ 16 → ((0 < x2 → wp_T_slotToward w x1 x3 st (fun (r102 : Int32) (st101 : St_) => wp_T_ownedChild w x1 r102 st101 (fun (r104 : Int32) (st103 : St_) => (wp_T_putBelow w d) r104 (x2 - 1) x3 x4 st103 (fun (st105 : St_) => wp_B_key w r104 0 st105 (fun (r107 : Int32) (st106 : St_) => wp_B_setKey w x1 r102 r107 st106 (fun (st108 : St_) => wp_B_size w r104 st108 (fun (r110 : Int32) (st109 : St_) => ((r110 ≤ (nI (w - 1)) → post st109) ∧ (¬ r110 ≤ (nI (w - 1)) → wp_T_split w x1 r102 st109 (fun (st111 : St_) => post st111)))))))))) ∧ (¬ 0 < x2 → wp_T_putInLeaf w x1 x3 x4 st (fun (st112 : St_) => post st112)))) ∧ (¬ x2 ≤ 16 → post st))
def wp_T_grown (w : Nat) (x1 : Int32) (st : St_) (post : Int32 → St_ → Prop) : Prop := wp_B_level w x1 st (fun (r102 : Int32) (st101 : St_) => wp_B_take w (r102 + 1) st101 (fun (r104 : Int32) (st103 : St_) => wp_B_key w x1 0 st103 (fun (r106 : Int32) (st105 : St_) => wp_B_insert w r104 0 r106 x1 st105 (fun (st107 : St_) => wp_T_split w r104 0 st107 (fun (st108 : St_) => post r104 st108)))))
def wp_T_with (w : Nat) (x1 : Int32) (x2 : Int32) (x3 : Int32) (st : St_) (post : Int32 → St_ → Prop) : Prop := ((¬ x1 = 0 → wp_B_owned w x1 st (fun (r102 : Int32) (st101 : St_) => wp_B_level w r102 st101 (fun (r104 : Int32) (st103 : St_) => wp_T_putBelow w 20 r102 r104 x2 x3 st103 (fun (st105 : St_) => wp_B_size w r102 st105 (fun (r107 : Int32) (st106 : St_) => ((r107 ≤ (nI (w - 1)) → post r102 st106) ∧ (¬ r107 ≤ (nI (w - 1)) → wp_T_grown w r102 st106 (fun (r109 : Int32) (st108 : St_) => post r109 st108)))))))) ∧ (x1 = 0 → wp_B_take w 0 st (fun (r111 : Int32) (st110 : St_) => wp_B_level w r111 st110 (fun (r113 : Int32) (st112 : St_) => wp_T_putBelow w 20 r111 r113 x2 x3 st112 (fun (st114 : St_) => wp_B_size w r111 st114 (fun (r116 : Int32) (st115 : St_) => ((r116 ≤ (nI (w - 1)) → post r111 st115) ∧ (¬ r116 ≤ (nI (w - 1)) → wp_T_grown w r111 st115 (fun (r118 : Int32) (st117 : St_) => post r118 st117)))))))))
def wp_S_changeCount_22 (w : Nat) (x1 : Int32) (x2 : Int32) (st : St_) (post : St_ → Prop) : Prop := vp_in x1 8 ∧ (vp_in x1 8 ∧ (∀ st101 : St_, st101 = ws_1 st 11 (x1).toNatClampNeg ((st 11 (x1).toNatClampNeg) + x2) → (∀ st102 : St_, st102 = ws_1 st101 19 0 ((st101 19 0) + x2) → (post st102))))
def wp_S_write (w : Nat) (x1 : Int32) (x2 : Int32) (x3 : Int32) (st : St_) (post : Int32 → St_ → Prop) : Prop := wp_S_isMap w x1 st (fun (r102 : Int32) (st101 : St_) => ((r102 = 0 → post (-1) st101) ∧ (¬ r102 = 0 → wp_S_isKey w x2 st101 (fun (r104 : Int32) (st103 : St_) => ((r104 = 0 → post (-1) st103) ∧ (¬ r104 = 0 → wp_S_isStamp w x3 st103 (fun (r106 : Int32) (st105 : St_) => ((¬ r106 = 0 → vp_in x1 8 ∧ (wp_T_stampOf w (st105 10 (x1).toNatClampNeg) x2 st105 (fun (r108 : Int32) (st107 : St_) => ((¬ r108 = (-2) → vp_in x1 8 ∧ (wp_T_with w (st107 10 (x1).toNatClampNeg) x2 x3 st107 (fun (r110 : Int32) (st109 : St_) => vp_in x1 8 ∧ (∀ st111 : St_, st111 = ws_1 st109 10 (x1).toNatClampNeg r110 → (vp_in x1 8 ∧ (post (st111 11 (x1).toNatClampNeg) st111)))))) ∧ (r108 = (-2) → (((st107 19 0) < 600 → vp_in x1 8 ∧ (wp_T_with w (st107 10 (x1).toNatClampNeg) x2 x3 st107 (fun (r113 : Int32) (st112 : St_) => vp_in x1 8 ∧ (∀ st114 : St_, st114 = ws_1 st112 10 (x1).toNatClampNeg r113 → (wp_S_changeCount_22 w x1 1 st114 (fun (st115 : St_) => vp_in x1 8 ∧ (post (st115 11 (x1).toNatClampNeg) st115))))))) ∧ (¬ (st107 19 0) < 600 → post (-3) st107))))))) ∧ (r106 = 0 → post (-1) st105)))))))))
def wp_R_isMap (w : Nat) (x0 : Int32) (st : St_) (post : Int32 → St_ → Prop) : Prop := ((x0 < 0 → post 0 st) ∧ (¬ x0 < 0 → ((8 ≤ x0 → post 0 st) ∧ (¬ 8 ≤ x0 → post 1 st))))
def wp_R_isKey (w : Nat) (x0 : Int32) (st : St_) (post : Int32 → St_ → Prop) : Prop := ((x0 < 0 → post 0 st) ∧ (¬ x0 < 0 → ((4096 ≤ x0 → post 0 st) ∧ (¬ 4096 ≤ x0 → post 1 st))))
def wp_R_isStamp (w : Nat) (x0 : Int32) (st : St_) (post : Int32 → St_ → Prop) : Prop := ((x0 < 0 → post 0 st) ∧ (¬ x0 < 0 → ((1000000000 < x0 → post 0 st) ∧ (¬ 1000000000 < x0 → post 1 st))))
def wp_R_all_4 (w : Nat) (post : Int32 → St_ → Prop) : Nat → Int32 → Int32 → St_ → Prop
  | 0, _, _, _ => False
  | n + 1, y1, y2, st => ((8 ≤ y2 → post y1 st) ∧ (¬ 8 ≤ y2 → vp_in y2 8 ∧ (∀ x101 : Int32, x101 = (y1 + (st 16 (y2).toNatClampNeg)) → (∀ x102 : Int32, x102 = y2 + 1 → (wp_R_all_4 w post n x101 x102 st)))))
def wp_R_all (w : Nat) (st : St_) (post : Int32 → St_ → Prop) : Prop := (∃ n, wp_R_all_4 w post n 0 0 st)
def wp_R_write (w : Nat) (x1 : Int32) (x2 : Int32) (x3 : Int32) (st : St_) (post : Int32 → St_ → Prop) : Prop := wp_R_isMap w x1 st (fun (r102 : Int32) (st101 : St_) => ((r102 = 0 → post (-1) st101) ∧ (¬ r102 = 0 → wp_R_isKey w x2 st101 (fun (r104 : Int32) (st103 : St_) => ((r104 = 0 → post (-1) st103) ∧ (¬ r104 = 0 → wp_R_isStamp w x3 st103 (fun (r106 : Int32) (st105 : St_) => ((¬ r106 = 0 → ∀ x107 : Int32, x107 = ((4096 * x1) + x2) → (vp_in x107 32768 ∧ (((¬ (st105 14 (x107).toNatClampNeg) = 0 → vp_in x107 32768 ∧ (∀ st108 : St_, st108 = ws_1 st105 14 (x107).toNatClampNeg (x3 + 1) → (vp_in x1 8 ∧ (post (st108 16 (x1).toNatClampNeg) st108)))) ∧ ((st105 14 (x107).toNatClampNeg) = 0 → wp_R_all w st105 (fun (r110 : Int32) (st109 : St_) => ((¬ r110 = 600 → vp_in x1 8 ∧ (vp_in x1 8 ∧ (∀ st111 : St_, st111 = ws_1 st109 16 (x1).toNatClampNeg ((st109 16 (x1).toNatClampNeg) + 1) → (vp_in x107 32768 ∧ (∀ st112 : St_, st112 = ws_1 st111 14 (x107).toNatClampNeg (x3 + 1) → (vp_in x1 8 ∧ (post (st112 16 (x1).toNatClampNeg) st112))))))) ∧ (r110 = 600 → post (-3) st109)))))))) ∧ (r106 = 0 → post (-1) st105)))))))))
def wp_S_spread_54 (w : Nat) (post : Int32 → St_ → Prop) : Nat → Int32 → Int32 → Int32 → Int32 → Int32 → Int32 → St_ → Prop
  | 0, _, _, _, _, _, _, _ => False
  | n + 1, y1, y2, y3, y4, y5, y6, st => ((y4 ≤ y6 → post y6 st) ∧ (¬ y4 ≤ y6 → wp_S_write w y1 (y2 + (y6 * y3)) (y5 + y6) st (fun (r108 : Int32) (st107 : St_) => ((r108 < 0 → post y6 st107) ∧ (¬ r108 < 0 → ∀ x109 : Int32, x109 = y6 + 1 → (wp_S_spread_54 w post n y1 y2 y3 y4 y5 x109 st107))))))
def wp_S_spread (w : Nat) (x1 : Int32) (x2 : Int32) (x3 : Int32) (x4 : Int32) (x5 : Int32) (st : St_) (post : Int32 → St_ → Prop) : Prop := wp_S_isMap w x1 st (fun (r102 : Int32) (st101 : St_) => ((r102 = 0 → post (-1) st101) ∧ (¬ r102 = 0 → wp_S_isKey w x2 st101 (fun (r104 : Int32) (st103 : St_) => ((r104 = 0 → post (-1) st103) ∧ (¬ r104 = 0 → wp_S_isStamp w x5 st103 (fun (r106 : Int32) (st105 : St_) => ((¬ r106 = 0 → ((x3 < 1 → post (-1) st105) ∧ (¬ x3 < 1 → ((4095 < x3 → post (-1) st105) ∧ (¬ 4095 < x3 → ((x4 < 0 → post (-1) st105) ∧ (¬ x4 < 0 → ((x4 ≤ 600 → (∃ n, wp_S_spread_54 w post n x1 x2 x3 x4 x5 0 st105)) ∧ (¬ x4 ≤ 600 → post (-1) st105))))))))) ∧ (r106 = 0 → post (-1) st105)))))))))
def wp_R_spread_52 (w : Nat) (post : Int32 → St_ → Prop) : Nat → Int32 → Int32 → Int32 → Int32 → Int32 → Int32 → St_ → Prop
  | 0, _, _, _, _, _, _, _ => False
  | n + 1, y1, y2, y3, y4, y5, y6, st => ((y4 ≤ y6 → post y6 st) ∧ (¬ y4 ≤ y6 → wp_R_write w y1 (y2 + (y6 * y3)) (y5 + y6) st (fun (r108 : Int32) (st107 : St_) => ((r108 < 0 → post y6 st107) ∧ (¬ r108 < 0 → ∀ x109 : Int32, x109 = y6 + 1 → (wp_R_spread_52 w post n y1 y2 y3 y4 y5 x109 st107))))))
def wp_R_spread (w : Nat) (x1 : Int32) (x2 : Int32) (x3 : Int32) (x4 : Int32) (x5 : Int32) (st : St_) (post : Int32 → St_ → Prop) : Prop := wp_R_isMap w x1 st (fun (r102 : Int32) (st101 : St_) => ((r102 = 0 → post (-1) st101) ∧ (¬ r102 = 0 → wp_R_isKey w x2 st101 (fun (r104 : Int32) (st103 : St_) => ((r104 = 0 → post (-1) st103) ∧ (¬ r104 = 0 → ((x3 < 1 → post (-1) st103) ∧ (¬ x3 < 1 → ((4095 < x3 → post (-1) st103) ∧ (¬ 4095 < x3 → ((x4 < 0 → post (-1) st103) ∧ (¬ x4 < 0 → ((600 < x4 → post (-1) st103) ∧ (¬ 600 < x4 → wp_R_isStamp w x5 st103 (fun (r106 : Int32) (st105 : St_) => ((¬ r106 = 0 → (∃ n, wp_R_spread_52 w post n x1 x2 x3 x4 x5 0 st105)) ∧ (r106 = 0 → post (-1) st105)))))))))))))))))
def wp_S_read (w : Nat) (x1 : Int32) (x2 : Int32) (st : St_) (post : Int32 → St_ → Prop) : Prop := wp_S_isMap w x1 st (fun (r102 : Int32) (st101 : St_) => ((r102 = 0 → post (-1) st101) ∧ (¬ r102 = 0 → wp_S_isKey w x2 st101 (fun (r104 : Int32) (st103 : St_) => ((¬ r104 = 0 → vp_in x1 8 ∧ (wp_T_stampOf w (st103 10 (x1).toNatClampNeg) x2 st103 (fun (r106 : Int32) (st105 : St_) => post r106 st105))) ∧ (r104 = 0 → post (-1) st103))))))
def wp_R_read (w : Nat) (x1 : Int32) (x2 : Int32) (st : St_) (post : Int32 → St_ → Prop) : Prop := wp_R_isMap w x1 st (fun (r102 : Int32) (st101 : St_) => ((r102 = 0 → post (-1) st101) ∧ (¬ r102 = 0 → wp_R_isKey w x2 st101 (fun (r104 : Int32) (st103 : St_) => ((¬ r104 = 0 → vp_in ((4096 * x1) + x2) 32768 ∧ (∀ x105 : Int32, x105 = (st103 14 (((4096 * x1) + x2)).toNatClampNeg) → (((¬ x105 = 0 → post (x105 - 1) st103) ∧ (x105 = 0 → post (-2) st103))))) ∧ (r104 = 0 → post (-1) st103))))))
def wp_B_remove (w : Nat) (x1 : Int32) (x2 : Int32) (st : St_) (post : St_ → Prop) : Prop := wp_B_size w x1 st (fun (r102 : Int32) (st101 : St_) => wp_B_isEntry w x1 x2 st101 (fun (r104 : Int32) (st103 : St_) => ((r104 = 0 → post st103) ∧ (¬ r104 = 0 → ((r102 ≤ (nI w) → ∀ x105 : Int32, x105 = ((x1 * (nI w)) + x2) → ((¬ (x105 + 1) < 0 ∧ ¬ x105 < 0 ∧ ¬ ((r102 - x2) - 1) < 0 ∧ ((x105 + 1)).toNatClampNeg + (((r102 - x2) - 1)).toNatClampNeg ≤ (1201 * w) ∧ (x105).toNatClampNeg + (((r102 - x2) - 1)).toNatClampNeg ≤ (1201 * w)) ∧ (∀ st106 : St_, st106 = ws_c st103 3 3 ((x105 + 1)).toNatClampNeg (x105).toNatClampNeg (((r102 - x2) - 1)).toNatClampNeg → ((¬ (x105 + 1) < 0 ∧ ¬ x105 < 0 ∧ ¬ ((r102 - x2) - 1) < 0 ∧ ((x105 + 1)).toNatClampNeg + (((r102 - x2) - 1)).toNatClampNeg ≤ (1201 * w) ∧ (x105).toNatClampNeg + (((r102 - x2) - 1)).toNatClampNeg ≤ (1201 * w)) ∧ (∀ st107 : St_, st107 = ws_c st106 4 4 ((x105 + 1)).toNatClampNeg (x105).toNatClampNeg (((r102 - x2) - 1)).toNatClampNeg → (vp_in x1 1201 ∧ (∀ st108 : St_, st108 = ws_1 st107 2 (x1).toNatClampNeg (r102 - 1) → (post st108)))))))) ∧ (¬ r102 ≤ (nI w) → post st103))))))
def wp_T_moveEntry (w : Nat) (x1 : Int32) (x2 : Int32) (x3 : Int32) (x4 : Int32) (st : St_) (post : St_ → Prop) : Prop := wp_B_key w x1 x2 st (fun (r102 : Int32) (st101 : St_) => wp_B_goal w x1 x2 st101 (fun (r104 : Int32) (st103 : St_) => wp_B_insert w x3 x4 r102 r104 st103 (fun (st105 : St_) => wp_B_remove w x1 x2 st105 (fun (st106 : St_) => post st106))))
def wp_B_give (w : Nat) (x1 : Int32) (st : St_) (post : St_ → Prop) : Prop := wp_B_isBlock w x1 st (fun (r102 : Int32) (st101 : St_) => ((r102 = 0 → post st101) ∧ (¬ r102 = 0 → (((st101 18 0) < 0 → post st101) ∧ (¬ (st101 18 0) < 0 → ((1200 ≤ (st101 18 0) → post st101) ∧ (¬ 1200 ≤ (st101 18 0) → vp_in x1 1201 ∧ (∀ st103 : St_, st103 = ws_1 st101 0 (x1).toNatClampNeg 0 → (vp_in x1 1201 ∧ (∀ st104 : St_, st104 = ws_1 st103 1 (x1).toNatClampNeg 0 → (vp_in x1 1201 ∧ (∀ st105 : St_, st105 = ws_1 st104 2 (x1).toNatClampNeg 0 → (vp_in (st105 18 0) 1200 ∧ (∀ st106 : St_, st106 = ws_1 st105 5 ((st105 18 0)).toNatClampNeg x1 → (∀ st107 : St_, st107 = ws_1 st106 18 0 ((st106 18 0) + 1) → (post st107))))))))))))))))
def wp_T_fill (w : Nat) (x1 : Int32) (x2 : Int32) (st : St_) (post : St_ → Prop) : Prop := wp_T_ownedChild w x1 x2 st (fun (r102 : Int32) (st101 : St_) => wp_T_ownedChild w x1 (x2 + 1) st101 (fun (r104 : Int32) (st103 : St_) => wp_B_size w r102 st103 (fun (r106 : Int32) (st105 : St_) => wp_B_size w r104 st105 (fun (r108 : Int32) (st107 : St_) => (((nI (w - 1)) < (r106 + r108) → wp_B_size w r102 st107 (fun (r110 : Int32) (st109 : St_) => wp_B_size w r104 st109 (fun (r112 : Int32) (st111 : St_) => ((r112 ≤ r110 → wp_B_size w r102 st111 (fun (r114 : Int32) (st113 : St_) => wp_T_moveEntry w r102 (r114 - 1) r104 0 st113 (fun (st115 : St_) => wp_B_key w r104 0 st115 (fun (r117 : Int32) (st116 : St_) => wp_B_setKey w x1 (x2 + 1) r117 st116 (fun (st118 : St_) => post st118))))) ∧ (¬ r112 ≤ r110 → wp_B_size w r102 st111 (fun (r120 : Int32) (st119 : St_) => wp_T_moveEntry w r104 0 r102 r120 st119 (fun (st121 : St_) => wp_B_key w r104 0 st121 (fun (r123 : Int32) (st122 : St_) => wp_B_setKey w x1 (x2 + 1) r123 st122 (fun (st124 : St_) => post st124))))))))) ∧ (¬ (nI (w - 1)) < (r106 + r108) → wp_B_moveTail w r104 0 r102 st107 (fun (st125 : St_) => wp_B_give w r104 st125 (fun (st126 : St_) => wp_B_remove w x1 (x2 + 1) st126 (fun (st127 : St_) => post st127)))))))))
def wp_T_removeBelow (w : Nat) : Nat → Int32 → Int32 → Int32 → St_ → (St_ → Prop) → Prop
  | 0, _, _, _, _, _ => False
  | d + 1, x1, x2, x3, st, post => ((x2 ≤ 16 → ((0 < x2 → wp_T_slotToward w x1 x3 st (fun (r102 : Int32) (st101 : St_) => wp_T_ownedChild w x1 r102 st101 (fun (r104 : Int32) (st103 : St_) => (wp_T_removeBelow w d) r104 (x2 - 1) x3 st103 (fun (st105 : St_) => wp_B_key w r104 0 st105 (fun (r107 : Int32) (st106 : St_) => wp_B_setKey w x1 r102 r107 st106 (fun (st108 : St_) => wp_B_size w r104 st108 (fun (r110 : Int32) (st109 : St_) => (((nI (w / 2)) ≤ r110 → post st109) ∧ (¬ (nI (w / 2)) ≤ r110 → wp_T_fill w x1 (if 0 < (r102 - 1) then (r102 - 1) else 0) st109 (fun (st111 : St_) => post st111)))))))))) ∧ (¬ 0 < x2 → wp_B_slotOf w x1 x3 st (fun (r113 : Int32) (st112 : St_) => wp_B_remove w x1 r113 st112 (fun (st114 : St_) => post st114))))) ∧ (¬ x2 ≤ 16 → post st))
def wp_T_shrunk (w : Nat) (x1 : Int32) (st : St_) (post : Int32 → St_ → Prop) : Prop := wp_B_size w x1 st (fun (r102 : Int32) (st101 : St_) => ((¬ r102 = 0 → wp_B_level w x1 st101 (fun (r104 : Int32) (st103 : St_) => ((r104 ≤ 0 → post x1 st103) ∧ (¬ r104 ≤ 0 → wp_B_size w x1 st103 (fun (r106 : Int32) (st105 : St_) => ((¬ r106 = 1 → post x1 st105) ∧ (r106 = 1 → wp_B_goal w x1 0 st105 (fun (r108 : Int32) (st107 : St_) => wp_B_give w x1 st107 (fun (st109 : St_) => post r108 st109))))))))) ∧ (r102 = 0 → wp_B_give w x1 st101 (fun (st110 : St_) => post 0 st110))))
def wp_T_without (w : Nat) (x1 : Int32) (x2 : Int32) (st : St_) (post : Int32 → St_ → Prop) : Prop := wp_B_owned w x1 st (fun (r102 : Int32) (st101 : St_) => wp_B_level w r102 st101 (fun (r104 : Int32) (st103 : St_) => wp_T_removeBelow w 20 r102 r104 x2 st103 (fun (st105 : St_) => wp_T_shrunk w r102 st105 (fun (r107 : Int32) (st106 : St_) => post r107 st106))))
def wp_S_erase (w : Nat) (x1 : Int32) (x2 : Int32) (st : St_) (post : Int32 → St_ → Prop) : Prop := wp_S_isMap w x1 st (fun (r102 : Int32) (st101 : St_) => ((r102 = 0 → post (-1) st101) ∧ (¬ r102 = 0 → wp_S_isKey w x2 st101 (fun (r104 : Int32) (st103 : St_) => ((¬ r104 = 0 → vp_in x1 8 ∧ (wp_T_stampOf w (st103 10 (x1).toNatClampNeg) x2 st103 (fun (r106 : Int32) (st105 : St_) => ((r106 = (-2) → post r106 st105) ∧ (¬ r106 = (-2) → vp_in x1 8 ∧ (wp_T_without w (st105 10 (x1).toNatClampNeg) x2 st105 (fun (r108 : Int32) (st107 : St_) => vp_in x1 8 ∧ (∀ st109 : St_, st109 = ws_1 st107 10 (x1).toNatClampNeg r108 → (wp_S_changeCount_22 w x1 (-1) st109 (fun (st110 : St_) => post r106 st110)))))))))) ∧ (r104 = 0 → post (-1) st103))))))
def wp_R_erase (w : Nat) (x1 : Int32) (x2 : Int32) (st : St_) (post : Int32 → St_ → Prop) : Prop := wp_R_read w x1 x2 st (fun (r102 : Int32) (st101 : St_) => ((r102 < 0 → post r102 st101) ∧ (¬ r102 < 0 → vp_in ((4096 * x1) + x2) 32768 ∧ (∀ st103 : St_, st103 = ws_1 st101 14 (((4096 * x1) + x2)).toNatClampNeg 0 → (vp_in x1 8 ∧ (vp_in x1 8 ∧ (∀ st104 : St_, st104 = ws_1 st103 16 (x1).toNatClampNeg ((st103 16 (x1).toNatClampNeg) - 1) → (post r102 st104))))))))
def wp_T_keyOr (w : Nat) (x1 : Int32) (x2 : Int32) (x3 : Int32) (st : St_) (post : Int32 → St_ → Prop) : Prop := wp_B_size w x1 st (fun (r102 : Int32) (st101 : St_) => ((r102 ≤ x2 → post x3 st101) ∧ (¬ r102 ≤ x2 → wp_B_key w x1 x2 st101 (fun (r104 : Int32) (st103 : St_) => post r104 st103))))
def wp_T_keyFrom_16 (w : Nat) (post : Int32 → St_ → Prop) : Nat → Int32 → Int32 → Int32 → Int32 → Int32 → St_ → Prop
  | 0, _, _, _, _, _, _ => False
  | n + 1, y1, y2, y3, y4, y5, st => ((y5 ≤ 0 → wp_B_slotOf w y3 y2 st (fun (r104 : Int32) (st103 : St_) => wp_B_key w y3 r104 st103 (fun (r106 : Int32) (st105 : St_) => ((¬ r106 = y2 → wp_T_keyOr w y3 (r104 + 1) y4 st105 (fun (r108 : Int32) (st107 : St_) => post r108 st107)) ∧ (r106 = y2 → post y2 st105))))) ∧ (¬ y5 ≤ 0 → wp_T_slotToward w y3 y2 st (fun (r110 : Int32) (st109 : St_) => wp_T_keyOr w y3 (r110 + 1) y4 st109 (fun (r112 : Int32) (st111 : St_) => wp_B_goal w y3 r110 st111 (fun (r114 : Int32) (st113 : St_) => ∀ x115 : Int32, x115 = y5 + (-1) → (wp_T_keyFrom_16 w post n y1 y2 r114 r112 x115 st113))))))
def wp_T_keyFrom (w : Nat) (x1 : Int32) (x2 : Int32) (st : St_) (post : Int32 → St_ → Prop) : Prop := wp_B_level w x1 st (fun (r102 : Int32) (st101 : St_) => (∃ n, wp_T_keyFrom_16 w post n x1 x2 x1 (-2) r102 st101))
def wp_S_cut_50 (w : Nat) (post : Int32 → St_ → Prop) : Nat → Int32 → Int32 → Int32 → Int32 → Int32 → St_ → Prop
  | 0, _, _, _, _, _, _ => False
  | n + 1, y1, y2, y3, y4, y5, st => ((600 ≤ y4 → wp_S_changeCount_22 w y1 (-y4) st (fun (st109 : St_) => post y4 st109)) ∧ (¬ 600 ≤ y4 → ((y5 = (-2) → wp_S_changeCount_22 w y1 (-y4) st (fun (st110 : St_) => post y4 st110)) ∧ (¬ y5 = (-2) → ((y3 < y5 → wp_S_changeCount_22 w y1 (-y4) st (fun (st111 : St_) => post y4 st111)) ∧ (¬ y3 < y5 → vp_in y1 8 ∧ (wp_T_without w (st 10 (y1).toNatClampNeg) y5 st (fun (r113 : Int32) (st112 : St_) => vp_in y1 8 ∧ (∀ st114 : St_, st114 = ws_1 st112 10 (y1).toNatClampNeg r113 → (∀ x115 : Int32, x115 = y4 + 1 → (vp_in y1 8 ∧ (wp_T_keyFrom w (st114 10 (y1).toNatClampNeg) y5 st114 (fun (r117 : Int32) (st116 : St_) => wp_S_cut_50 w post n y1 y2 y3 x115 r117 st116)))))))))))))
def wp_S_cut (w : Nat) (x1 : Int32) (x2 : Int32) (x3 : Int32) (st : St_) (post : Int32 → St_ → Prop) : Prop := wp_S_isMap w x1 st (fun (r102 : Int32) (st101 : St_) => ((r102 = 0 → post (-1) st101) ∧ (¬ r102 = 0 → wp_S_isKey w x2 st101 (fun (r104 : Int32) (st103 : St_) => ((r104 = 0 → post (-1) st103) ∧ (¬ r104 = 0 → wp_S_isKey w x3 st103 (fun (r106 : Int32) (st105 : St_) => ((r106 = 0 → post (-1) st105) ∧ (¬ r106 = 0 → ((x2 ≤ x3 → vp_in x1 8 ∧ (wp_T_keyFrom w (st105 10 (x1).toNatClampNeg) x2 st105 (fun (r108 : Int32) (st107 : St_) => (∃ n, wp_S_cut_50 w post n x1 x2 x3 0 r108 st107)))) ∧ (¬ x2 ≤ x3 → post (-1) st105)))))))))))
def wp_R_cut_34 (w : Nat) (post : Int32 → St_ → Prop) : Nat → Int32 → Int32 → Int32 → Int32 → Int32 → St_ → Prop
  | 0, _, _, _, _, _, _ => False
  | n + 1, y1, y2, y3, y4, y5, st => ((y3 < y5 → post y4 st) ∧ (¬ y3 < y5 → wp_R_erase w y1 y5 st (fun (r108 : Int32) (st107 : St_) => ((r108 < 0 → ∀ x109 : Int32, x109 = (y4 + 0) → (∀ x110 : Int32, x110 = y5 + 1 → (wp_R_cut_34 w post n y1 y2 y3 x109 x110 st107))) ∧ (¬ r108 < 0 → ∀ x111 : Int32, x111 = (y4 + 1) → (∀ x112 : Int32, x112 = y5 + 1 → (wp_R_cut_34 w post n y1 y2 y3 x111 x112 st107)))))))
def wp_R_cut (w : Nat) (x1 : Int32) (x2 : Int32) (x3 : Int32) (st : St_) (post : Int32 → St_ → Prop) : Prop := wp_R_isMap w x1 st (fun (r102 : Int32) (st101 : St_) => ((r102 = 0 → post (-1) st101) ∧ (¬ r102 = 0 → wp_R_isKey w x2 st101 (fun (r104 : Int32) (st103 : St_) => ((r104 = 0 → post (-1) st103) ∧ (¬ r104 = 0 → wp_R_isKey w x3 st103 (fun (r106 : Int32) (st105 : St_) => ((r106 = 0 → post (-1) st105) ∧ (¬ r106 = 0 → ((x2 ≤ x3 → (∃ n, wp_R_cut_34 w post n x1 x2 x3 0 x2 st105)) ∧ (¬ x2 ≤ x3 → post (-1) st105)))))))))))
def wp_S_next (w : Nat) (x1 : Int32) (x2 : Int32) (st : St_) (post : Int32 → St_ → Prop) : Prop := wp_S_isMap w x1 st (fun (r102 : Int32) (st101 : St_) => ((r102 = 0 → post (-1) st101) ∧ (¬ r102 = 0 → wp_S_isKey w x2 st101 (fun (r104 : Int32) (st103 : St_) => ((¬ r104 = 0 → vp_in x1 8 ∧ (wp_T_keyFrom w (st103 10 (x1).toNatClampNeg) x2 st103 (fun (r106 : Int32) (st105 : St_) => post r106 st105))) ∧ (r104 = 0 → post (-1) st103))))))
def wp_R_next_18 (w : Nat) (post : Int32 → St_ → Prop) : Nat → Int32 → Int32 → Int32 → St_ → Prop
  | 0, _, _, _, _ => False
  | n + 1, y1, y2, y3, st => ((4096 ≤ y3 → ((4096 ≤ y3 → post (-2) st) ∧ (¬ 4096 ≤ y3 → post y3 st))) ∧ (¬ 4096 ≤ y3 → vp_in ((4096 * y1) + y3) 32768 ∧ (((¬ (st 14 (((4096 * y1) + y3)).toNatClampNeg) = 0 → ((4096 ≤ y3 → post (-2) st) ∧ (¬ 4096 ≤ y3 → post y3 st))) ∧ ((st 14 (((4096 * y1) + y3)).toNatClampNeg) = 0 → ∀ x105 : Int32, x105 = y3 + 1 → (wp_R_next_18 w post n y1 y2 x105 st))))))
def wp_R_next (w : Nat) (x1 : Int32) (x2 : Int32) (st : St_) (post : Int32 → St_ → Prop) : Prop := wp_R_isMap w x1 st (fun (r102 : Int32) (st101 : St_) => ((r102 = 0 → post (-1) st101) ∧ (¬ r102 = 0 → wp_R_isKey w x2 st101 (fun (r104 : Int32) (st103 : St_) => ((¬ r104 = 0 → (∃ n, wp_R_next_18 w post n x1 x2 x2 st103)) ∧ (r104 = 0 → post (-1) st103))))))
def wp_T_releaseBelow_28 (w : Nat) (rec : Int32 → Int32 → St_ → (St_ → Prop) → Prop) (post : St_ → Prop) : Nat → Int32 → Int32 → Int32 → St_ → Prop
  | 0, _, _, _, _ => False
  | n + 1, y1, y2, y3, st => wp_B_size w y1 st (fun (r105 : Int32) (st104 : St_) => ((r105 ≤ y3 → wp_B_give w y1 st104 (fun (st106 : St_) => post st106)) ∧ (¬ r105 ≤ y3 → wp_B_goal w y1 y3 st104 (fun (r108 : Int32) (st107 : St_) => rec r108 (y2 - 1) st107 (fun (st109 : St_) => ∀ x110 : Int32, x110 = y3 + 1 → (wp_T_releaseBelow_28 w rec post n y1 y2 x110 st109))))))
def wp_T_releaseBelow (w : Nat) : Nat → Int32 → Int32 → St_ → (St_ → Prop) → Prop
  | 0, _, _, _, _ => False
  | d + 1, x1, x2, st, post => ((x2 < 0 → post st) ∧ (¬ x2 < 0 → ((16 < x2 → post st) ∧ (¬ 16 < x2 → wp_B_lose w x1 st (fun (r102 : Int32) (st101 : St_) => ((¬ r102 = 0 → ((x2 ≤ 0 → wp_B_give w x1 st101 (fun (st103 : St_) => post st103)) ∧ (¬ x2 ≤ 0 → (∃ n, wp_T_releaseBelow_28 w (wp_T_releaseBelow w d) post n x1 x2 0 st101)))) ∧ (r102 = 0 → post st101)))))))
def wp_T_release (w : Nat) (x1 : Int32) (st : St_) (post : St_ → Prop) : Prop := wp_B_level w x1 st (fun (r102 : Int32) (st101 : St_) => wp_T_releaseBelow w 20 x1 r102 st101 (fun (st103 : St_) => post st103))
def wp_S_lead_22 (w : Nat) (x2 : Int32) (x3 : Int32) (x4 : Int32) (st : St_) (post : St_ → Prop) : Prop := wp_B_share w x3 st (fun (st101 : St_) => vp_in x2 8 ∧ (wp_T_release w (st101 10 (x2).toNatClampNeg) st101 (fun (st102 : St_) => vp_in x2 8 ∧ (∀ st103 : St_, st103 = ws_1 st102 10 (x2).toNatClampNeg x3 → (vp_in x2 8 ∧ (wp_S_changeCount_22 w x2 (x4 - (st103 11 (x2).toNatClampNeg)) st103 (fun (st104 : St_) => post st104)))))))
def wp_S_clone (w : Nat) (x1 : Int32) (x2 : Int32) (st : St_) (post : Int32 → St_ → Prop) : Prop := wp_S_isMap w x1 st (fun (r102 : Int32) (st101 : St_) => ((r102 = 0 → post (-1) st101) ∧ (¬ r102 = 0 → wp_S_isMap w x2 st101 (fun (r104 : Int32) (st103 : St_) => ((r104 = 0 → post (-1) st103) ∧ (¬ r104 = 0 → ((¬ x1 = x2 → vp_in x1 8 ∧ (vp_in x2 8 ∧ ((((((st103 19 0) - (st103 11 (x1).toNatClampNeg)) + (st103 11 (x2).toNatClampNeg)) ≤ 600 → vp_in x2 8 ∧ (vp_in x2 8 ∧ (wp_S_lead_22 w x1 (st103 10 (x2).toNatClampNeg) (st103 11 (x2).toNatClampNeg) st103 (fun (st105 : St_) => vp_in x1 8 ∧ (post (st105 11 (x1).toNatClampNeg) st105))))) ∧ (¬ (((st103 19 0) - (st103 11 (x1).toNatClampNeg)) + (st103 11 (x2).toNatClampNeg)) ≤ 600 → post (-3) st103))))) ∧ (x1 = x2 → post (-1) st103))))))))
def wp_R_clone_50 (w : Nat) (post : Int32 → St_ → Prop) : Nat → Int32 → Int32 → Int32 → St_ → Prop
  | 0, _, _, _, _ => False
  | n + 1, y1, y2, y3, st => ((4096 ≤ y3 → vp_in y2 8 ∧ (vp_in y1 8 ∧ (∀ st107 : St_, st107 = ws_1 st 16 (y1).toNatClampNeg (st 16 (y2).toNatClampNeg) → (vp_in y1 8 ∧ (post (st107 16 (y1).toNatClampNeg) st107))))) ∧ (¬ 4096 ≤ y3 → vp_in ((4096 * y2) + y3) 32768 ∧ (vp_in ((4096 * y1) + y3) 32768 ∧ (∀ st108 : St_, st108 = ws_1 st 14 (((4096 * y1) + y3)).toNatClampNeg (st 14 (((4096 * y2) + y3)).toNatClampNeg) → (∀ x109 : Int32, x109 = y3 + 1 → (wp_R_clone_50 w post n y1 y2 x109 st108))))))
def wp_R_clone (w : Nat) (x1 : Int32) (x2 : Int32) (st : St_) (post : Int32 → St_ → Prop) : Prop := wp_R_isMap w x1 st (fun (r102 : Int32) (st101 : St_) => ((r102 = 0 → post (-1) st101) ∧ (¬ r102 = 0 → wp_R_isMap w x2 st101 (fun (r104 : Int32) (st103 : St_) => ((r104 = 0 → post (-1) st103) ∧ (¬ r104 = 0 → ((¬ x1 = x2 → wp_R_all w st103 (fun (r106 : Int32) (st105 : St_) => vp_in x1 8 ∧ (vp_in x2 8 ∧ (((((r106 - (st105 16 (x1).toNatClampNeg)) + (st105 16 (x2).toNatClampNeg)) ≤ 600 → (∃ n, wp_R_clone_50 w post n x1 x2 0 st105)) ∧ (¬ ((r106 - (st105 16 (x1).toNatClampNeg)) + (st105 16 (x2).toNatClampNeg)) ≤ 600 → post (-3) st105)))))) ∧ (x1 = x2 → post (-1) st103))))))))
def wp_S_drop (w : Nat) (x1 : Int32) (st : St_) (post : Int32 → St_ → Prop) : Prop := wp_S_isMap w x1 st (fun (r102 : Int32) (st101 : St_) => ((¬ r102 = 0 → vp_in x1 8 ∧ (∀ x103 : Int32, x103 = (st101 11 (x1).toNatClampNeg) → (wp_S_lead_22 w x1 0 0 st101 (fun (st104 : St_) => post x103 st104)))) ∧ (r102 = 0 → post (-1) st101)))
def wp_R_drop (w : Nat) (x1 : Int32) (st : St_) (post : Int32 → St_ → Prop) : Prop := wp_R_isMap w x1 st (fun (r102 : Int32) (st101 : St_) => ((¬ r102 = 0 → vp_in x1 8 ∧ (∀ x103 : Int32, x103 = (st101 16 (x1).toNatClampNeg) → (wp_R_cut w x1 0 4095 st101 (fun (r105 : Int32) (st104 : St_) => post x103 st104)))) ∧ (r102 = 0 → post (-1) st101)))
def wp_S_changeCount_23 (w : Nat) (x1 : Int32) (x2 : Int32) (st : St_) (post : St_ → Prop) : Prop := vp_in x1 8 ∧ (vp_in x1 8 ∧ (∀ st101 : St_, st101 = ws_1 st 13 (x1).toNatClampNeg ((st 13 (x1).toNatClampNeg) + x2) → (∀ st102 : St_, st102 = ws_1 st101 20 0 ((st101 20 0) + x2) → (post st102))))
def wp_S_lead_23 (w : Nat) (x2 : Int32) (x3 : Int32) (x4 : Int32) (st : St_) (post : St_ → Prop) : Prop := wp_B_share w x3 st (fun (st101 : St_) => vp_in x2 8 ∧ (wp_T_release w (st101 12 (x2).toNatClampNeg) st101 (fun (st102 : St_) => vp_in x2 8 ∧ (∀ st103 : St_, st103 = ws_1 st102 12 (x2).toNatClampNeg x3 → (vp_in x2 8 ∧ (wp_S_changeCount_23 w x2 (x4 - (st103 13 (x2).toNatClampNeg)) st103 (fun (st104 : St_) => post st104)))))))
def wp_S_leadAll_23_22_2 (w : Nat) (post : St_ → Prop) : Nat → Int32 → St_ → Prop
  | 0, _, _ => False
  | n + 1, y3, st => ((8 ≤ y3 → post st) ∧ (¬ 8 ≤ y3 → vp_in y3 8 ∧ (vp_in y3 8 ∧ (wp_S_lead_23 w y3 (st 10 (y3).toNatClampNeg) (st 11 (y3).toNatClampNeg) st (fun (st101 : St_) => ∀ x102 : Int32, x102 = y3 + 1 → (wp_S_leadAll_23_22_2 w post n x102 st101))))))
def wp_S_leadAll_23_22 (w : Nat) (st : St_) (post : St_ → Prop) : Prop := (∃ n, wp_S_leadAll_23_22_2 w post n 0 st)
def wp_S_keep (w : Nat) (st : St_) (post : Int32 → St_ → Prop) : Prop := wp_S_leadAll_23_22 w st (fun (st101 : St_) => post (st101 19 0) st101)
def wp_R_keep_28 (w : Nat) (post : Int32 → St_ → Prop) : Nat → Int32 → St_ → Prop
  | 0, _, _ => False
  | n + 1, y1, st => ((8 ≤ y1 → wp_R_all w st (fun (r102 : Int32) (st101 : St_) => post r102 st101)) ∧ (¬ 8 ≤ y1 → vp_in y1 8 ∧ (vp_in y1 8 ∧ (∀ st103 : St_, st103 = ws_1 st 17 (y1).toNatClampNeg (st 16 (y1).toNatClampNeg) → (∀ x104 : Int32, x104 = y1 + 1 → (wp_R_keep_28 w post n x104 st103))))))
def wp_R_keep_2 (w : Nat) (post : Int32 → St_ → Prop) : Nat → Int32 → St_ → Prop
  | 0, _, _ => False
  | n + 1, y1, st => ((32768 ≤ y1 → (∃ n, wp_R_keep_28 w post n 0 st)) ∧ (¬ 32768 ≤ y1 → vp_in y1 32768 ∧ (vp_in y1 32768 ∧ (∀ st105 : St_, st105 = ws_1 st 15 (y1).toNatClampNeg (st 14 (y1).toNatClampNeg) → (∀ x106 : Int32, x106 = y1 + 1 → (wp_R_keep_2 w post n x106 st105))))))
def wp_R_keep (w : Nat) (st : St_) (post : Int32 → St_ → Prop) : Prop := (∃ n, wp_R_keep_2 w post n 0 st)
def wp_S_leadAll_22_23_2 (w : Nat) (post : St_ → Prop) : Nat → Int32 → St_ → Prop
  | 0, _, _ => False
  | n + 1, y3, st => ((8 ≤ y3 → post st) ∧ (¬ 8 ≤ y3 → vp_in y3 8 ∧ (vp_in y3 8 ∧ (wp_S_lead_22 w y3 (st 12 (y3).toNatClampNeg) (st 13 (y3).toNatClampNeg) st (fun (st101 : St_) => ∀ x102 : Int32, x102 = y3 + 1 → (wp_S_leadAll_22_23_2 w post n x102 st101))))))
def wp_S_leadAll_22_23 (w : Nat) (st : St_) (post : St_ → Prop) : Prop := (∃ n, wp_S_leadAll_22_23_2 w post n 0 st)
def wp_S_back (w : Nat) (st : St_) (post : Int32 → St_ → Prop) : Prop := wp_S_leadAll_22_23 w st (fun (st101 : St_) => post (st101 19 0) st101)
def wp_R_back_28 (w : Nat) (post : Int32 → St_ → Prop) : Nat → Int32 → St_ → Prop
  | 0, _, _ => False
  | n + 1, y1, st => ((8 ≤ y1 → wp_R_all w st (fun (r102 : Int32) (st101 : St_) => post r102 st101)) ∧ (¬ 8 ≤ y1 → vp_in y1 8 ∧ (vp_in y1 8 ∧ (∀ st103 : St_, st103 = ws_1 st 16 (y1).toNatClampNeg (st 17 (y1).toNatClampNeg) → (∀ x104 : Int32, x104 = y1 + 1 → (wp_R_back_28 w post n x104 st103))))))
def wp_R_back_2 (w : Nat) (post : Int32 → St_ → Prop) : Nat → Int32 → St_ → Prop
  | 0, _, _ => False
  | n + 1, y1, st => ((32768 ≤ y1 → (∃ n, wp_R_back_28 w post n 0 st)) ∧ (¬ 32768 ≤ y1 → vp_in y1 32768 ∧ (vp_in y1 32768 ∧ (∀ st105 : St_, st105 = ws_1 st 14 (y1).toNatClampNeg (st 15 (y1).toNatClampNeg) → (∀ x106 : Int32, x106 = y1 + 1 → (wp_R_back_2 w post n x106 st105))))))
def wp_R_back (w : Nat) (st : St_) (post : Int32 → St_ → Prop) : Prop := (∃ n, wp_R_back_2 w post n 0 st)
def wp_S_keys (w : Nat) (x1 : Int32) (st : St_) (post : Int32 → St_ → Prop) : Prop := ((¬ x1 = (-1) → wp_S_isMap w x1 st (fun (r102 : Int32) (st101 : St_) => ((r102 = 0 → post (-1) st101) ∧ (¬ r102 = 0 → vp_in x1 8 ∧ (post (st101 11 (x1).toNatClampNeg) st101))))) ∧ (x1 = (-1) → post (st 19 0) st))
def wp_R_keys (w : Nat) (x1 : Int32) (st : St_) (post : Int32 → St_ → Prop) : Prop := ((¬ x1 = (-1) → wp_R_isMap w x1 st (fun (r102 : Int32) (st101 : St_) => ((r102 = 0 → post (-1) st101) ∧ (¬ r102 = 0 → vp_in x1 8 ∧ (post (st101 16 (x1).toNatClampNeg) st101))))) ∧ (x1 = (-1) → wp_R_all w st (fun (r104 : Int32) (st103 : St_) => post r104 st103)))
def wp_I_hasOrder_26 (w : Nat) (post : Int32 → St_ → Prop) : Nat → Int32 → Int32 → Int32 → St_ → Prop
  | 0, _, _, _, _ => False
  | n + 1, y1, y2, y3, st => ((y2 ≤ y3 → wp_B_key w y1 0 st (fun (r104 : Int32) (st103 : St_) => wp_S_isKey w r104 st103 (fun (r106 : Int32) (st105 : St_) => ((r106 = 0 → post 0 st105) ∧ (¬ r106 = 0 → wp_B_key w y1 (y2 - 1) st105 (fun (r108 : Int32) (st107 : St_) => wp_S_isKey w r108 st107 (fun (r110 : Int32) (st109 : St_) => ((r110 = 0 → post 0 st109) ∧ (¬ r110 = 0 → post 1 st109))))))))) ∧ (¬ y2 ≤ y3 → wp_B_key w y1 (y3 - 1) st (fun (r112 : Int32) (st111 : St_) => wp_B_key w y1 y3 st111 (fun (r114 : Int32) (st113 : St_) => ((r112 < r114 → ∀ x115 : Int32, x115 = y3 + 1 → (wp_I_hasOrder_26 w post n y1 y2 x115 st113)) ∧ (¬ r112 < r114 → post 0 st113))))))
def wp_I_hasOrder (w : Nat) (x1 : Int32) (st : St_) (post : Int32 → St_ → Prop) : Prop := wp_B_size w x1 st (fun (r102 : Int32) (st101 : St_) => ((r102 < 1 → post 0 st101) ∧ (¬ r102 < 1 → ((r102 ≤ (nI (w - 1)) → (∃ n, wp_I_hasOrder_26 w post n x1 r102 1 st101)) ∧ (¬ r102 ≤ (nI (w - 1)) → post 0 st101)))))
def wp_I_faultOfNode_19 (w : Nat) (rec : Int32 → Int32 → St_ → (Int32 → St_ → Prop) → Prop) (post : Int32 → St_ → Prop) : Nat → Int32 → Int32 → Int32 → Int32 → Int32 → Int32 → St_ → Prop
  | 0, _, _, _, _, _, _, _ => False
  | n + 1, y1, y2, y3, y4, y5, y6, st => ((y3 ≤ y6 → vp_in y1 1201 ∧ (∀ st103 : St_, st103 = ws_1 st 7 (y1).toNatClampNeg y4 → (vp_in y1 1201 ∧ (∀ st104 : St_, st104 = ws_1 st103 8 (y1).toNatClampNeg y5 → (post 0 st104))))) ∧ (¬ y3 ≤ y6 → wp_B_goal w y1 y6 st (fun (r106 : Int32) (st105 : St_) => wp_B_isBlock w r106 st105 (fun (r108 : Int32) (st107 : St_) => ((r108 = 0 → post y1 st107) ∧ (¬ r108 = 0 → wp_B_level w r106 st107 (fun (r110 : Int32) (st109 : St_) => ((r110 = (y2 - 1) → wp_B_size w r106 st109 (fun (r112 : Int32) (st111 : St_) => (((nI (w / 2)) ≤ r112 → rec r106 (y2 - 1) st111 (fun (r114 : Int32) (st113 : St_) => ((r114 = 0 → wp_B_key w y1 y6 st113 (fun (r116 : Int32) (st115 : St_) => wp_B_key w r106 0 st115 (fun (r118 : Int32) (st117 : St_) => ((¬ r116 = r118 → post y1 st117) ∧ (r116 = r118 → ((y5 < r116 → vp_in r106 1201 ∧ (∀ x119 : Int32, x119 = (st117 8 (r106).toNatClampNeg) → (vp_in r106 1201 ∧ (∀ x120 : Int32, x120 = (y4 + (st117 7 (r106).toNatClampNeg)) → (∀ x121 : Int32, x121 = y6 + 1 → (wp_I_faultOfNode_19 w rec post n y1 y2 y3 x120 x119 x121 st117)))))) ∧ (¬ y5 < r116 → post y1 st117))))))) ∧ (¬ r114 = 0 → post r114 st113)))) ∧ (¬ (nI (w / 2)) ≤ r112 → post r106 st111)))) ∧ (¬ r110 = (y2 - 1) → post y1 st109)))))))))
def wp_I_faultOfNode (w : Nat) (rec : Int32 → Int32 → St_ → (Int32 → St_ → Prop) → Prop) (x1 : Int32) (x2 : Int32) (st : St_) (post : Int32 → St_ → Prop) : Prop := wp_B_size w x1 st (fun (r102 : Int32) (st101 : St_) => (∃ n, wp_I_faultOfNode_19 w rec post n x1 x2 r102 0 (-2) 0 st101))
def wp_I_faultOfLeaf_11 (w : Nat) (post : Int32 → St_ → Prop) : Nat → Int32 → Int32 → Int32 → St_ → Prop
  | 0, _, _, _, _ => False
  | n + 1, y1, y2, y3, st => ((y2 ≤ y3 → vp_in y1 1201 ∧ (∀ st103 : St_, st103 = ws_1 st 7 (y1).toNatClampNeg y2 → (wp_B_key w y1 (y2 - 1) st103 (fun (r105 : Int32) (st104 : St_) => vp_in y1 1201 ∧ (∀ st106 : St_, st106 = ws_1 st104 8 (y1).toNatClampNeg r105 → (post 0 st106)))))) ∧ (¬ y2 ≤ y3 → wp_B_goal w y1 y3 st (fun (r108 : Int32) (st107 : St_) => wp_S_isStamp w r108 st107 (fun (r110 : Int32) (st109 : St_) => ((¬ r110 = 0 → ∀ x111 : Int32, x111 = y3 + 1 → (wp_I_faultOfLeaf_11 w post n y1 y2 x111 st109)) ∧ (r110 = 0 → post y1 st109))))))
def wp_I_faultOfLeaf (w : Nat) (x1 : Int32) (st : St_) (post : Int32 → St_ → Prop) : Prop := wp_B_size w x1 st (fun (r102 : Int32) (st101 : St_) => (∃ n, wp_I_faultOfLeaf_11 w post n x1 r102 0 st101))
def wp_I_faultBelow (w : Nat) : Nat → Int32 → Int32 → St_ → (Int32 → St_ → Prop) → Prop
  | 0, _, _, _, _ => False
  | d + 1, x1, x2, st, post => ((x2 < 0 → post 1219 st) ∧ (¬ x2 < 0 → ((16 < x2 → post 1219 st) ∧ (¬ 16 < x2 → wp_B_isBlock w x1 st (fun (r102 : Int32) (st101 : St_) => ((¬ r102 = 0 → vp_in x1 1201 ∧ (vp_in x1 1201 ∧ (∀ st103 : St_, st103 = ws_1 st101 6 (x1).toNatClampNeg ((st101 6 (x1).toNatClampNeg) + 1) → (vp_in x1 1201 ∧ ((((st103 6 (x1).toNatClampNeg) ≤ 1 → wp_I_hasOrder w x1 st103 (fun (r105 : Int32) (st104 : St_) => ((¬ r105 = 0 → ((¬ x2 = 0 → wp_I_faultOfNode w (wp_I_faultBelow w d) x1 x2 st104 (fun (r107 : Int32) (st106 : St_) => post r107 st106)) ∧ (x2 = 0 → wp_I_faultOfLeaf w x1 st104 (fun (r109 : Int32) (st108 : St_) => post r109 st108)))) ∧ (r105 = 0 → post x1 st104)))) ∧ (¬ (st103 6 (x1).toNatClampNeg) ≤ 1 → post 0 st103))))))) ∧ (r102 = 0 → post 1219 st101)))))))
def wp_I_faultOfTree (w : Nat) (x1 : Int32) (x2 : Int32) (x3 : Int32) (st : St_) (post : Int32 → St_ → Prop) : Prop := ((¬ x1 = 0 → wp_B_isBlock w x1 st (fun (r102 : Int32) (st101 : St_) => ((¬ r102 = 0 → wp_B_level w x1 st101 (fun (r104 : Int32) (st103 : St_) => wp_B_size w x1 st103 (fun (r106 : Int32) (st105 : St_) => ((¬ r104 = 0 → ((2 ≤ r106 → wp_I_faultBelow w 20 x1 r104 st105 (fun (r108 : Int32) (st107 : St_) => ((r108 = 0 → vp_in x1 1201 ∧ (((¬ (st107 7 (x1).toNatClampNeg) = x2 → post x3 st107) ∧ ((st107 7 (x1).toNatClampNeg) = x2 → post 0 st107)))) ∧ (¬ r108 = 0 → post r108 st107)))) ∧ (¬ 2 ≤ r106 → post x1 st105))) ∧ (r104 = 0 → ((1 ≤ r106 → wp_I_faultBelow w 20 x1 r104 st105 (fun (r110 : Int32) (st109 : St_) => ((r110 = 0 → vp_in x1 1201 ∧ (((¬ (st109 7 (x1).toNatClampNeg) = x2 → post x3 st109) ∧ ((st109 7 (x1).toNatClampNeg) = x2 → post 0 st109)))) ∧ (¬ r110 = 0 → post r110 st109)))) ∧ (¬ 1 ≤ r106 → post x1 st105))))))) ∧ (r102 = 0 → post x3 st101)))) ∧ (x1 = 0 → ((¬ x2 = 0 → post x3 st) ∧ (x2 = 0 → post 0 st))))
def wp_I_faultOfMaps_22_5 (w : Nat) (post : Int32 → St_ → Prop) : Nat → Int32 → Int32 → Int32 → St_ → Prop
  | 0, _, _, _, _ => False
  | n + 1, y2, y3, y4, st => ((8 ≤ y4 → ((¬ y3 = (st 19 0) → post 1217 st) ∧ (y3 = (st 19 0) → ((600 < y3 → post 1217 st) ∧ (¬ 600 < y3 → post 0 st))))) ∧ (¬ 8 ≤ y4 → vp_in y4 8 ∧ (vp_in y4 8 ∧ (wp_I_faultOfTree w (st 10 (y4).toNatClampNeg) (st 11 (y4).toNatClampNeg) (y2 + y4) st (fun (r102 : Int32) (st101 : St_) => ((r102 = 0 → vp_in y4 8 ∧ (∀ x103 : Int32, x103 = (y3 + (st101 11 (y4).toNatClampNeg)) → (∀ x104 : Int32, x104 = y4 + 1 → (wp_I_faultOfMaps_22_5 w post n y2 x103 x104 st101)))) ∧ (¬ r102 = 0 → post r102 st101)))))))
def wp_I_faultOfMaps_22 (w : Nat) (x2 : Int32) (st : St_) (post : Int32 → St_ → Prop) : Prop := (∃ n, wp_I_faultOfMaps_22_5 w post n x2 0 0 st)
def wp_I_faultOfWays_2 (w : Nat) (post : Int32 → St_ → Prop) : Nat → Int32 → St_ → Prop
  | 0, _, _ => False
  | n + 1, y1, st => ((1200 < y1 → post 0 st) ∧ (¬ 1200 < y1 → vp_in y1 1201 ∧ (((¬ (st 6 (y1).toNatClampNeg) = 0 → wp_B_ways w y1 st (fun (r102 : Int32) (st101 : St_) => vp_in y1 1201 ∧ (((¬ r102 = (st101 6 (y1).toNatClampNeg) → post y1 st101) ∧ (r102 = (st101 6 (y1).toNatClampNeg) → vp_in y1 1201 ∧ ((((st101 9 (y1).toNatClampNeg) = 0 → ∀ x103 : Int32, x103 = y1 + 1 → (wp_I_faultOfWays_2 w post n x103 st101)) ∧ (¬ (st101 9 (y1).toNatClampNeg) = 0 → post y1 st101)))))))) ∧ ((st 6 (y1).toNatClampNeg) = 0 → wp_B_ways w y1 st (fun (r105 : Int32) (st104 : St_) => vp_in y1 1201 ∧ (((¬ r105 = (st104 6 (y1).toNatClampNeg) → post y1 st104) ∧ (r105 = (st104 6 (y1).toNatClampNeg) → vp_in y1 1201 ∧ ((((st104 9 (y1).toNatClampNeg) = 1 → ∀ x106 : Int32, x106 = y1 + 1 → (wp_I_faultOfWays_2 w post n x106 st104)) ∧ (¬ (st104 9 (y1).toNatClampNeg) = 1 → post y1 st104))))))))))))
def wp_I_faultOfWays (w : Nat) (st : St_) (post : Int32 → St_ → Prop) : Prop := (∃ n, wp_I_faultOfWays_2 w post n 1 st)
def wp_B_freeCount (w : Nat) (st : St_) (post : Int32 → St_ → Prop) : Prop := post (st 18 0) st
def wp_B_freeBlock (w : Nat) (x1 : Int32) (st : St_) (post : Int32 → St_ → Prop) : Prop := ((x1 < 0 → post 0 st) ∧ (¬ x1 < 0 → (((st 18 0) ≤ x1 → post 0 st) ∧ (¬ (st 18 0) ≤ x1 → ((1200 ≤ x1 → post 0 st) ∧ (¬ 1200 ≤ x1 → vp_in x1 1200 ∧ (post (st 5 (x1).toNatClampNeg) st)))))))
def wp_I_faultOfFree_25 (w : Nat) (post : Int32 → St_ → Prop) : Nat → Int32 → Int32 → St_ → Prop
  | 0, _, _, _ => False
  | n + 1, y1, y2, st => ((y1 ≤ y2 → post 0 st) ∧ (¬ y1 ≤ y2 → wp_B_freeBlock w y2 st (fun (r104 : Int32) (st103 : St_) => wp_B_isBlock w r104 st103 (fun (r106 : Int32) (st105 : St_) => ((r106 = 0 → post 1218 st105) ∧ (¬ r106 = 0 → vp_in r104 1201 ∧ ((((st105 9 (r104).toNatClampNeg) = 0 → vp_in r104 1201 ∧ (∀ st107 : St_, st107 = ws_1 st105 9 (r104).toNatClampNeg (vp_nar .boolean 1) → (∀ x108 : Int32, x108 = y2 + 1 → (wp_I_faultOfFree_25 w post n y1 x108 st107)))) ∧ (¬ (st105 9 (r104).toNatClampNeg) = 0 → post 1218 st105)))))))))
def wp_I_faultOfFree (w : Nat) (st : St_) (post : Int32 → St_ → Prop) : Prop := wp_B_freeCount w st (fun (r102 : Int32) (st101 : St_) => ((r102 < 0 → post 1218 st101) ∧ (¬ r102 < 0 → ((r102 ≤ 1200 → (∃ n, wp_I_faultOfFree_25 w post n r102 0 st101)) ∧ (¬ r102 ≤ 1200 → post 1218 st101)))))
def wp_I_faultOfMaps_23_5 (w : Nat) (post : Int32 → St_ → Prop) : Nat → Int32 → Int32 → Int32 → St_ → Prop
  | 0, _, _, _, _ => False
  | n + 1, y2, y3, y4, st => ((8 ≤ y4 → ((¬ y3 = (st 20 0) → post 1217 st) ∧ (y3 = (st 20 0) → ((600 < y3 → post 1217 st) ∧ (¬ 600 < y3 → post 0 st))))) ∧ (¬ 8 ≤ y4 → vp_in y4 8 ∧ (vp_in y4 8 ∧ (wp_I_faultOfTree w (st 12 (y4).toNatClampNeg) (st 13 (y4).toNatClampNeg) (y2 + y4) st (fun (r102 : Int32) (st101 : St_) => ((r102 = 0 → vp_in y4 8 ∧ (∀ x103 : Int32, x103 = (y3 + (st101 13 (y4).toNatClampNeg)) → (∀ x104 : Int32, x104 = y4 + 1 → (wp_I_faultOfMaps_23_5 w post n y2 x103 x104 st101)))) ∧ (¬ r102 = 0 → post r102 st101)))))))
def wp_I_faultOfMaps_23 (w : Nat) (x2 : Int32) (st : St_) (post : Int32 → St_ → Prop) : Prop := (∃ n, wp_I_faultOfMaps_23_5 w post n x2 0 0 st)
def wp_I_firstFault_22_23_2 (w : Nat) (post : Int32 → St_ → Prop) : Nat → Int32 → St_ → Prop
  | 0, _, _ => False
  | n + 1, y3, st => ((1200 < y3 → wp_I_faultOfMaps_22 w 1201 st (fun (r102 : Int32) (st101 : St_) => ((¬ r102 = 0 → ((¬ r102 = 0 → ((r102 = 0 → wp_I_faultOfWays w st101 (fun (r104 : Int32) (st103 : St_) => post r104 st103)) ∧ (¬ r102 = 0 → post r102 st101))) ∧ (r102 = 0 → wp_I_faultOfFree w st101 (fun (r106 : Int32) (st105 : St_) => ((r106 = 0 → wp_I_faultOfWays w st105 (fun (r108 : Int32) (st107 : St_) => post r108 st107)) ∧ (¬ r106 = 0 → post r106 st105)))))) ∧ (r102 = 0 → wp_I_faultOfMaps_23 w 1209 st101 (fun (r110 : Int32) (st109 : St_) => ((¬ r110 = 0 → ((r110 = 0 → wp_I_faultOfWays w st109 (fun (r112 : Int32) (st111 : St_) => post r112 st111)) ∧ (¬ r110 = 0 → post r110 st109))) ∧ (r110 = 0 → wp_I_faultOfFree w st109 (fun (r114 : Int32) (st113 : St_) => ((r114 = 0 → wp_I_faultOfWays w st113 (fun (r116 : Int32) (st115 : St_) => post r116 st115)) ∧ (¬ r114 = 0 → post r114 st113)))))))))) ∧ (¬ 1200 < y3 → vp_in y3 1201 ∧ (∀ st117 : St_, st117 = ws_1 st 6 (y3).toNatClampNeg 0 → (vp_in y3 1201 ∧ (∀ st118 : St_, st118 = ws_1 st117 9 (y3).toNatClampNeg (vp_nar .boolean 0) → (∀ x119 : Int32, x119 = y3 + 1 → (wp_I_firstFault_22_23_2 w post n x119 st118)))))))
def wp_I_firstFault_22_23 (w : Nat) (st : St_) (post : Int32 → St_ → Prop) : Prop := (∃ n, wp_I_firstFault_22_23_2 w post n 0 st)
def wp_S_check (w : Nat) (st : St_) (post : Int32 → St_ → Prop) : Prop := wp_I_firstFault_22_23 w st (fun (r102 : Int32) (st101 : St_) => post r102 st101)
def wp_R_check (w : Nat) (st : St_) (post : Int32 → St_ → Prop) : Prop := post 0 st
abbrev rm_S_isMap : Room := { frames := 0, cells := 0, slots := 0, locals := 0 }
abbrev rm_S_isKey : Room := { frames := 0, cells := 0, slots := 0, locals := 0 }
abbrev rm_S_isStamp : Room := { frames := 0, cells := 0, slots := 0, locals := 0 }
abbrev rm_B_isBlock : Room := { frames := 0, cells := 0, slots := 0, locals := 0 }
abbrev rm_B_level : Room := { frames := 1, cells := 0, slots := 0, locals := 21 }
abbrev rm_B_size : Room := { frames := 1, cells := 0, slots := 0, locals := 21 }
abbrev rm_B_slotOf : Room := { frames := 2, cells := 0, slots := 0, locals := 42 }
abbrev rm_B_isEntry : Room := { frames := 0, cells := 0, slots := 0, locals := 0 }
abbrev rm_B_key : Room := { frames := 1, cells := 0, slots := 0, locals := 22 }
abbrev rm_B_goal : Room := { frames := 1, cells := 0, slots := 0, locals := 22 }
abbrev rm_T_slotToward : Room := { frames := 3, cells := 0, slots := 0, locals := 67 }
abbrev rm_T_stampOf : Room := { frames := 4, cells := 0, slots := 0, locals := 89 }
abbrev rm_B_ways : Room := { frames := 1, cells := 0, slots := 0, locals := 21 }
abbrev rm_B_take : Room := { frames := 1, cells := 0, slots := 0, locals := 21 }
abbrev rm_B_copyEntries : Room := { frames := 1, cells := 0, slots := 0, locals := 120 }
abbrev rm_B_lose : Room := { frames := 1, cells := 0, slots := 0, locals := 21 }
abbrev rm_B_share : Room := { frames := 1, cells := 0, slots := 0, locals := 21 }
abbrev rm_B_owned : Room := { frames := 2, cells := 0, slots := 0, locals := 142 }
abbrev rm_B_setGoal : Room := { frames := 1, cells := 0, slots := 0, locals := 22 }
abbrev rm_T_ownedChild : Room := { frames := 3, cells := 0, slots := 0, locals := 165 }
abbrev rm_B_setKey : Room := { frames := 1, cells := 0, slots := 0, locals := 22 }
abbrev rm_B_insert : Room := { frames := 1, cells := 0, slots := 0, locals := 120 }
abbrev rm_B_moveTail : Room := { frames := 2, cells := 0, slots := 0, locals := 146 }
abbrev rm_T_split : Room := { frames := 3, cells := 0, slots := 0, locals := 170 }
abbrev rm_T_putInLeaf : Room := { frames := 3, cells := 0, slots := 0, locals := 146 }
abbrev rm_T_putBelow (d : Nat) : Room := { frames := 4 + d, cells := 0, slots := 0, locals := 194 + 26 * d }
abbrev rm_T_grown : Room := { frames := 4, cells := 0, slots := 0, locals := 194 }
abbrev rm_T_with : Room := { frames := 25, cells := 0, slots := 0, locals := 740 }
abbrev rm_S_changeCount_22 : Room := { frames := 0, cells := 0, slots := 0, locals := 0 }
abbrev rm_S_write : Room := { frames := 26, cells := 0, slots := 0, locals := 764 }
abbrev rm_R_isMap : Room := { frames := 0, cells := 0, slots := 0, locals := 0 }
abbrev rm_R_isKey : Room := { frames := 0, cells := 0, slots := 0, locals := 0 }
abbrev rm_R_isStamp : Room := { frames := 0, cells := 0, slots := 0, locals := 0 }
abbrev rm_R_all : Room := { frames := 0, cells := 0, slots := 0, locals := 0 }
abbrev rm_R_write : Room := { frames := 1, cells := 0, slots := 0, locals := 22 }
abbrev rm_S_spread : Room := { frames := 27, cells := 0, slots := 0, locals := 788 }
abbrev rm_R_spread : Room := { frames := 2, cells := 0, slots := 0, locals := 46 }
abbrev rm_S_read : Room := { frames := 5, cells := 0, slots := 0, locals := 113 }
abbrev rm_R_read : Room := { frames := 1, cells := 0, slots := 0, locals := 20 }
abbrev rm_B_remove : Room := { frames := 2, cells := 0, slots := 0, locals := 120 }
abbrev rm_T_moveEntry : Room := { frames := 3, cells := 0, slots := 0, locals := 146 }
abbrev rm_B_give : Room := { frames := 1, cells := 0, slots := 0, locals := 21 }
abbrev rm_T_fill : Room := { frames := 4, cells := 0, slots := 0, locals := 188 }
abbrev rm_T_removeBelow (d : Nat) : Room := { frames := 5 + d, cells := 0, slots := 0, locals := 212 + 25 * d }
abbrev rm_T_shrunk : Room := { frames := 2, cells := 0, slots := 0, locals := 44 }
abbrev rm_T_without : Room := { frames := 26, cells := 0, slots := 0, locals := 737 }
abbrev rm_S_erase : Room := { frames := 27, cells := 0, slots := 0, locals := 760 }
abbrev rm_R_erase : Room := { frames := 2, cells := 0, slots := 0, locals := 43 }
abbrev rm_T_keyOr : Room := { frames := 2, cells := 0, slots := 0, locals := 44 }
abbrev rm_T_keyFrom : Room := { frames := 4, cells := 0, slots := 0, locals := 89 }
abbrev rm_S_cut : Room := { frames := 27, cells := 0, slots := 0, locals := 760 }
abbrev rm_R_cut : Room := { frames := 3, cells := 0, slots := 0, locals := 66 }
abbrev rm_S_next : Room := { frames := 5, cells := 0, slots := 0, locals := 115 }
abbrev rm_R_next : Room := { frames := 1, cells := 0, slots := 0, locals := 20 }
abbrev rm_T_releaseBelow (d : Nat) : Room := { frames := 2 + d, cells := 0, slots := 0, locals := 44 + 23 * d }
abbrev rm_T_release : Room := { frames := 23, cells := 0, slots := 0, locals := 527 }
abbrev rm_S_lead_22 : Room := { frames := 24, cells := 0, slots := 0, locals := 548 }
abbrev rm_S_clone : Room := { frames := 25, cells := 0, slots := 0, locals := 572 }
abbrev rm_R_clone : Room := { frames := 1, cells := 0, slots := 0, locals := 22 }
abbrev rm_S_drop : Room := { frames := 25, cells := 0, slots := 0, locals := 572 }
abbrev rm_R_drop : Room := { frames := 4, cells := 0, slots := 0, locals := 91 }
abbrev rm_S_changeCount_23 : Room := { frames := 0, cells := 0, slots := 0, locals := 0 }
abbrev rm_S_lead_23 : Room := { frames := 24, cells := 0, slots := 0, locals := 548 }
abbrev rm_S_leadAll_23_22 : Room := { frames := 25, cells := 0, slots := 0, locals := 572 }
abbrev rm_S_keep : Room := { frames := 26, cells := 0, slots := 0, locals := 595 }
abbrev rm_R_keep : Room := { frames := 1, cells := 0, slots := 0, locals := 22 }
abbrev rm_S_leadAll_22_23 : Room := { frames := 25, cells := 0, slots := 0, locals := 572 }
abbrev rm_S_back : Room := { frames := 26, cells := 0, slots := 0, locals := 595 }
abbrev rm_R_back : Room := { frames := 1, cells := 0, slots := 0, locals := 22 }
abbrev rm_S_keys : Room := { frames := 1, cells := 0, slots := 0, locals := 20 }
abbrev rm_R_keys : Room := { frames := 1, cells := 0, slots := 0, locals := 22 }
abbrev rm_I_hasOrder : Room := { frames := 2, cells := 0, slots := 0, locals := 44 }
abbrev rm_I_faultOfNode (d : Nat) : Room := { frames := 3 + 2 * d + 1, cells := 0, slots := 0, locals := 67 + 51 * d + 22 }
abbrev rm_I_faultOfLeaf : Room := { frames := 2, cells := 0, slots := 0, locals := 44 }
abbrev rm_I_faultBelow (d : Nat) : Room := { frames := 3 + 2 * d, cells := 0, slots := 0, locals := 67 + 51 * d }
abbrev rm_I_faultOfTree : Room := { frames := 44, cells := 0, slots := 0, locals := 1109 }
abbrev rm_I_faultOfMaps_22 : Room := { frames := 45, cells := 0, slots := 0, locals := 1134 }
abbrev rm_I_faultOfWays : Room := { frames := 2, cells := 0, slots := 0, locals := 42 }
abbrev rm_B_freeCount : Room := { frames := 0, cells := 0, slots := 0, locals := 0 }
abbrev rm_B_freeBlock : Room := { frames := 0, cells := 0, slots := 0, locals := 0 }
abbrev rm_I_faultOfFree : Room := { frames := 1, cells := 0, slots := 0, locals := 21 }
abbrev rm_I_faultOfMaps_23 : Room := { frames := 45, cells := 0, slots := 0, locals := 1134 }
abbrev rm_I_firstFault_22_23 : Room := { frames := 46, cells := 0, slots := 0, locals := 1159 }
abbrev rm_S_check : Room := { frames := 47, cells := 0, slots := 0, locals := 1182 }
abbrev rm_R_check : Room := { frames := 0, cells := 0, slots := 0, locals := 0 }
end
section
-- PURE: sums over the first n numbers, lists of pairs, sorted lists
def sm_ : Nat → (Nat → Nat) → Nat
  | 0, _ => 0
  | n + 1, f => sm_ n f + f n
theorem sm_congr {n : Nat} {f g : Nat → Nat} (h : ∀ i, i < n → f i = g i) : sm_ n f = sm_ n g := by
  induction n with
  | zero => rfl
  | succ n ih =>
    show sm_ n f + f n = sm_ n g + g n
    rw [ih (fun i hi => h i (by omega)), h n (by omega)]
theorem sm_add (n : Nat) (f g : Nat → Nat) : sm_ n (fun i => f i + g i) = sm_ n f + sm_ n g := by
  induction n with
  | zero => rfl
  | succ n ih =>
    show sm_ n (fun i => f i + g i) + (f n + g n) = (sm_ n f + f n) + (sm_ n g + g n)
    rw [ih]; omega
theorem sm_le {n : Nat} {f g : Nat → Nat} (h : ∀ i, i < n → f i ≤ g i) : sm_ n f ≤ sm_ n g := by
  induction n with
  | zero => exact Nat.le_refl _
  | succ n ih =>
    show sm_ n f + f n ≤ sm_ n g + g n
    have h1 := ih (fun i hi => h i (by omega))
    have h2 := h n (by omega)
    omega
theorem sm_0 {n : Nat} {f : Nat → Nat} (h : ∀ i, i < n → f i = 0) : sm_ n f = 0 := by
  induction n with
  | zero => rfl
  | succ n ih =>
    show sm_ n f + f n = 0
    rw [ih (fun i hi => h i (by omega)), h n (by omega)]
theorem sm_one {n k : Nat} (f : Nat → Nat) (hk : k < n) : f k ≤ sm_ n f := by
  induction n with
  | zero => omega
  | succ n ih =>
    show f k ≤ sm_ n f + f n
    by_cases h : k = n
    · subst h; omega
    · have := ih (by omega); omega
theorem sm_two {n j k : Nat} (f : Nat → Nat) (hj : j < n) (hk : k < n) (hne : j ≠ k) : f j + f k ≤ sm_ n f := by
  induction n with
  | zero => omega
  | succ n ih =>
    show f j + f k ≤ sm_ n f + f n
    by_cases h : k = n
    · subst h
      have := sm_one (n := k) f (k := j) (by omega)
      omega
    · by_cases h2 : j = n
      · subst h2
        have := sm_one (n := j) f (k := k) (by omega)
        omega
      · have := ih (by omega) (by omega); omega
/-- one summand is changed -/
theorem sm_up {n k : Nat} {f g : Nat → Nat} (hk : k < n) (h : ∀ i, i < n → i ≠ k → g i = f i) : sm_ n g + f k = sm_ n f + g k := by
  induction n with
  | zero => omega
  | succ n ih =>
    show sm_ n g + g n + f k = sm_ n f + f n + g k
    by_cases e : k = n
    · subst e
      rw [sm_congr (fun i hi => h i (by omega) (by omega))]
      omega
    · have h1 := ih (by omega) (fun i hi => h i (by omega))
      have h2 := h n (by omega) (by omega)
      omega
/-- two summands are changed -/
theorem sm_up2 {n j k : Nat} {f g : Nat → Nat} (hj : j < n) (hk : k < n) (hne : j ≠ k) (h : ∀ i, i < n → i ≠ j → i ≠ k → g i = f i) : sm_ n g + f j + f k = sm_ n f + g j + g k := by
  have h1 := sm_up (f := f) (g := va_up f j (g j)) hj (fun i _ hi => by simp [va_up, hi])
  have h2 := sm_up (f := va_up f j (g j)) (g := g) hk (fun i hi hik => by
    by_cases e : i = j
    · subst e; simp [va_up]
    · simp [va_up, e]; exact h i hi e hik)
  simp only [va_up, if_true] at h1
  rw [show va_up f j (g j) k = f k by simp [va_up, Ne.symm hne]] at h2
  omega
theorem sm_swap (n m : Nat) (f : Nat → Nat → Nat) : sm_ n (fun i => sm_ m (fun j => f i j)) = sm_ m (fun j => sm_ n (fun i => f i j)) := by
  induction n with
  | zero => exact (sm_0 (fun _ _ => rfl)).symm
  | succ n ih =>
    show sm_ n (fun i => sm_ m (fun j => f i j)) + sm_ m (fun j => f n j) = sm_ m (fun j => sm_ n (fun i => f i j) + f n j)
    rw [ih, sm_add]
theorem sm_mul (n c : Nat) (f : Nat → Nat) : sm_ n (fun i => f i * c) = sm_ n f * c := by
  induction n with
  | zero => simp [sm_]
  | succ n ih =>
    show sm_ n (fun i => f i * c) + f n * c = (sm_ n f + f n) * c
    rw [ih, Nat.add_mul]
/-- how often a list of pairs leads to x -/
def cn_ (x : Nat) : List (Nat × Nat) → Nat
  | [] => 0
  | e :: l => (if e.2 = x then 1 else 0) + cn_ x l
/-- the sum of f over what a list of pairs leads to -/
def su_ (f : Nat → Nat) : List (Nat × Nat) → Nat
  | [] => 0
  | e :: l => f e.2 + su_ f l
theorem cn_app (x : Nat) (a b : List (Nat × Nat)) : cn_ x (a ++ b) = cn_ x a + cn_ x b := by
  induction a with
  | nil => simp [cn_]
  | cons e l ih => simp only [List.cons_append, cn_, ih]; omega
theorem su_app (f : Nat → Nat) (a b : List (Nat × Nat)) : su_ f (a ++ b) = su_ f a + su_ f b := by
  induction a with
  | nil => simp [su_]
  | cons e l ih => simp only [List.cons_append, su_, ih]; omega
theorem cn_mem {x : Nat} {l : List (Nat × Nat)} {e : Nat × Nat} (h : e ∈ l) (hx : e.2 = x) : 1 ≤ cn_ x l := by
  induction l with
  | nil => simp at h
  | cons d l ih =>
    rcases List.mem_cons.mp h with rfl | h
    · simp [cn_, hx]
    · have := ih h
      simp only [cn_]; omega
theorem cn_pos {x : Nat} {l : List (Nat × Nat)} (h : 1 ≤ cn_ x l) : ∃ e ∈ l, e.2 = x := by
  induction l with
  | nil => simp [cn_] at h
  | cons d l ih =>
    by_cases hd : d.2 = x
    · exact ⟨d, List.mem_cons_self, hd⟩
    · simp only [cn_, hd, if_false] at h
      obtain ⟨e, h1, h2⟩ := ih (by omega)
      exact ⟨e, List.mem_cons_of_mem _ h1, h2⟩
theorem cn_0 {x : Nat} {l : List (Nat × Nat)} (h : ∀ e ∈ l, e.2 ≠ x) : cn_ x l = 0 := by
  rcases Nat.eq_zero_or_pos (cn_ x l) with h0 | h0
  · exact h0
  · obtain ⟨e, h1, h2⟩ := cn_pos h0
    exact absurd h2 (h e h1)
theorem cn_len (x : Nat) (l : List (Nat × Nat)) : cn_ x l ≤ l.length := by
  induction l with
  | nil => simp [cn_]
  | cons e l ih => simp only [cn_, List.length_cons]; split <;> omega
theorem su_congr {f g : Nat → Nat} {l : List (Nat × Nat)} (h : ∀ e ∈ l, f e.2 = g e.2) : su_ f l = su_ g l := by
  induction l with
  | nil => rfl
  | cons e l ih =>
    simp only [su_]
    rw [h e List.mem_cons_self, ih (fun d hd => h d (List.mem_cons_of_mem _ hd))]
theorem su_1 (l : List (Nat × Nat)) : su_ (fun _ => 1) l = l.length := by
  induction l with
  | nil => rfl
  | cons e l ih => simp only [su_, ih, List.length_cons]; omega
theorem su_add (f g : Nat → Nat) (l : List (Nat × Nat)) : su_ (fun x => f x + g x) l = su_ f l + su_ g l := by
  induction l with
  | nil => rfl
  | cons e l ih => simp only [su_, ih]; omega
theorem sm_cn {n : Nat} (f : Nat → Nat) {l : List (Nat × Nat)} (h : ∀ e ∈ l, e.2 < n) : sm_ n (fun z => cn_ z l * f z) = su_ f l := by
  induction l with
  | nil => exact sm_0 (fun _ _ => by simp [cn_])
  | cons e l ih =>
    have h1 : sm_ n (fun z => cn_ z (e :: l) * f z) = sm_ n (fun z => (if e.2 = z then 1 else 0) * f z + cn_ z l * f z) := sm_congr (fun i _ => by simp only [cn_, Nat.add_mul])
    rw [h1, sm_add, ih (fun d hd => h d (List.mem_cons_of_mem _ hd))]
    have h2 := sm_up (n := n) (k := e.2) (f := fun _ => 0) (g := fun z => (if e.2 = z then 1 else 0) * f z) (h e List.mem_cons_self) (fun i _ hi => by simp [Ne.symm hi])
    rw [sm_0 (f := fun _ => 0) (fun _ _ => rfl)] at h2
    simp only [if_true, Nat.one_mul] at h2
    simp only [su_]
    omega
-- sorted lists of pairs
def so_ (l : List (Nat × Nat)) : Prop := l.Pairwise (fun a b => a.1 < b.1)
theorem so_app {a b : List (Nat × Nat)} : so_ (a ++ b) ↔ so_ a ∧ so_ b ∧ ∀ x ∈ a, ∀ y ∈ b, x.1 < y.1 := List.pairwise_append
theorem so_cons {e : Nat × Nat} {l : List (Nat × Nat)} : so_ (e :: l) ↔ (∀ y ∈ l, e.1 < y.1) ∧ so_ l := List.pairwise_cons
theorem so_nil : so_ [] := List.Pairwise.nil
/-- put (k, s) in -/
def iz_ (k s : Nat) : List (Nat × Nat) → List (Nat × Nat)
  | [] => [(k, s)]
  | e :: l => if k < e.1 then (k, s) :: e :: l else if k = e.1 then (k, s) :: l else e :: iz_ k s l
/-- take k out -/
def dz_ (k : Nat) (l : List (Nat × Nat)) : List (Nat × Nat) := l.filter (fun e => !(e.1 == k))
theorem iz_left {k s : Nat} {p l : List (Nat × Nat)} (h : ∀ e ∈ p, e.1 < k) : iz_ k s (p ++ l) = p ++ iz_ k s l := by
  induction p with
  | nil => rfl
  | cons e p ih =>
    have he := h e List.mem_cons_self
    simp only [List.cons_append, iz_]
    rw [if_neg (by omega), if_neg (by omega), ih (fun d hd => h d (List.mem_cons_of_mem _ hd))]
theorem iz_right {k s : Nat} {l q : List (Nat × Nat)} (h : ∀ e ∈ q, k < e.1) : iz_ k s (l ++ q) = iz_ k s l ++ q := by
  induction l with
  | nil =>
    cases q with
    | nil => rfl
    | cons e q =>
      have he := h e List.mem_cons_self
      simp only [List.nil_append, iz_]
      rw [if_pos he]
      rfl
  | cons e l ih =>
    simp only [List.cons_append, iz_]
    split
    · rfl
    · split
      · rfl
      · rw [ih]; rfl
theorem iz_mem {k s : Nat} {l : List (Nat × Nat)} (hs : so_ l) (a t : Nat) : (a, t) ∈ iz_ k s l ↔ (a = k ∧ t = s) ∨ (a ≠ k ∧ (a, t) ∈ l) := by
  induction l with
  | nil =>
    simp only [iz_, List.mem_singleton, Prod.mk.injEq, List.not_mem_nil, and_false, or_false]
  | cons e l ih =>
    obtain ⟨h1, h2⟩ := so_cons.mp hs
    have ih := ih h2
    simp only [iz_]
    split
    · next hk =>
      simp only [List.mem_cons, Prod.mk.injEq]
      constructor
      · rintro (⟨rfl, rfl⟩ | h)
        · exact Or.inl ⟨rfl, rfl⟩
        · refine Or.inr ⟨?_, h⟩
          rcases h with h | h
          · have : a = e.1 := by rw [← h]
            omega
          · have := h1 _ h
            simp only at this
            omega
      · rintro (⟨rfl, rfl⟩ | ⟨_, h⟩)
        · exact Or.inl ⟨rfl, rfl⟩
        · exact Or.inr h
    · split
      · next hk =>
        simp only [List.mem_cons, Prod.mk.injEq]
        constructor
        · rintro (⟨rfl, rfl⟩ | h)
          · exact Or.inl ⟨rfl, rfl⟩
          · have := h1 _ h
            simp only at this
            exact Or.inr ⟨by omega, Or.inr h⟩
        · rintro (⟨rfl, rfl⟩ | ⟨hn, h⟩)
          · exact Or.inl ⟨rfl, rfl⟩
          · rcases h with h | h
            · have : a = e.1 := by rw [← h]
              exact absurd (this.trans hk.symm) hn
            · exact Or.inr h
      · next hk1 hk2 =>
        simp only [List.mem_cons]
        constructor
        · rintro (h | h)
          · have : a = e.1 := by rw [← h]
            exact Or.inr ⟨by omega, Or.inl h⟩
          · rcases ih.mp h with h | ⟨hn, h⟩
            · exact Or.inl h
            · exact Or.inr ⟨hn, Or.inr h⟩
        · rintro (h | ⟨hn, h⟩)
          · exact Or.inr (ih.mpr (Or.inl h))
          · rcases h with h | h
            · exact Or.inl h
            · exact Or.inr (ih.mpr (Or.inr ⟨hn, h⟩))
theorem iz_so {k s : Nat} {l : List (Nat × Nat)} (hs : so_ l) : so_ (iz_ k s l) := by
  induction l with
  | nil => simp [iz_, so_]
  | cons e l ih =>
    obtain ⟨h1, h2⟩ := so_cons.mp hs
    simp only [iz_]
    split
    · next hk =>
      refine so_cons.mpr ⟨fun y hy => ?_, hs⟩
      rcases List.mem_cons.mp hy with rfl | hy
      · exact hk
      · have := h1 y hy
        show k < y.1
        omega
    · split
      · next hk =>
        refine so_cons.mpr ⟨fun y hy => ?_, h2⟩
        have := h1 y hy
        show k < y.1
        omega
      · refine so_cons.mpr ⟨fun y hy => ?_, ih h2⟩
        obtain ⟨a, t⟩ := y
        rcases (iz_mem h2 a t).mp hy with ⟨rfl, rfl⟩ | ⟨_, h⟩
        · show e.1 < a
          omega
        · exact h1 _ h
theorem iz_len0 {k s : Nat} {l : List (Nat × Nat)} (h : ∀ t, (k, t) ∉ l) : (iz_ k s l).length = l.length + 1 := by
  induction l with
  | nil => rfl
  | cons e l ih =>
    have he : e.1 ≠ k := fun q => h e.2 (by rw [← q]; exact List.mem_cons_self)
    simp only [iz_]
    split
    · simp
    · rw [if_neg (Ne.symm he)]
      simp only [List.length_cons]
      rw [ih (fun t ht => h t (List.mem_cons_of_mem _ ht))]
theorem iz_len1 {k s t : Nat} {l : List (Nat × Nat)} (hs : so_ l) (h : (k, t) ∈ l) : (iz_ k s l).length = l.length := by
  induction l with
  | nil => simp at h
  | cons e l ih =>
    obtain ⟨h1, h2⟩ := so_cons.mp hs
    simp only [iz_]
    rcases List.mem_cons.mp h with h | h
    · have : k = e.1 := by rw [← h]
      rw [if_neg (by omega), if_pos this]; rfl
    · have := h1 _ h
      simp only at this
      rw [if_neg (by omega), if_neg (by omega)]
      simp only [List.length_cons]
      rw [ih h2 h]
theorem dz_app (k : Nat) (a b : List (Nat × Nat)) : dz_ k (a ++ b) = dz_ k a ++ dz_ k b := by simp [dz_]
theorem dz_no {k : Nat} {l : List (Nat × Nat)} (h : ∀ t, (k, t) ∉ l) : dz_ k l = l := by
  simp only [dz_]
  rw [List.filter_eq_self]
  intro e he
  have : e.1 ≠ k := fun q => h e.2 (by rw [← q]; exact he)
  simp [this]
theorem dz_mem (k a t : Nat) (l : List (Nat × Nat)) : (a, t) ∈ dz_ k l ↔ a ≠ k ∧ (a, t) ∈ l := by
  simp only [dz_, List.mem_filter]
  constructor
  · rintro ⟨h1, h2⟩
    exact ⟨by simpa using h2, h1⟩
  · rintro ⟨h1, h2⟩
    exact ⟨h2, by simpa using h1⟩
theorem dz_so {k : Nat} {l : List (Nat × Nat)} (hs : so_ l) : so_ (dz_ k l) := List.Pairwise.filter _ hs
theorem dz_len1 {k t : Nat} {l : List (Nat × Nat)} (hs : so_ l) (h : (k, t) ∈ l) : (dz_ k l).length + 1 = l.length := by
  induction l with
  | nil => simp at h
  | cons e l ih =>
    obtain ⟨h1, h2⟩ := so_cons.mp hs
    rcases List.mem_cons.mp h with h | h
    · have he : e.1 = k := by rw [← h]
      have hn : dz_ k l = l := dz_no (fun t ht => by have := h1 _ ht; simp only at this; omega)
      have : dz_ k (e :: l) = dz_ k l := by simp [dz_, he]
      rw [this, hn]; rfl
    · have := h1 _ h
      simp only at this
      have hd : dz_ k (e :: l) = e :: dz_ k l := by
        simp only [dz_]
        rw [List.filter_cons_of_pos (by simp; omega)]
      rw [hd]
      simp only [List.length_cons]
      rw [ih h2 h]
theorem so_fun {l : List (Nat × Nat)} (hs : so_ l) {a t u : Nat} (h1 : (a, t) ∈ l) (h2 : (a, u) ∈ l) : t = u := by
  induction l with
  | nil => simp at h1
  | cons e l ih =>
    obtain ⟨g1, g2⟩ := so_cons.mp hs
    rcases List.mem_cons.mp h1 with e1 | h1 <;> rcases List.mem_cons.mp h2 with e2 | h2
    · rw [← e1] at e2; exact (Prod.mk.inj e2).2.symm
    · have := g1 _ h2; rw [← e1] at this; simp at this
    · have := g1 _ h1; rw [← e2] at this; simp at this
    · exact ih g2 h1 h2
/-- a list with no entry twice, that holds just those of 1 .. n with P, has as many entries as there are such -/
theorem nd_len (P : Nat → Prop) [DecidablePred P] (n : Nat) : ∀ (l : List Nat), l.Nodup → (∀ b, b ∈ l ↔ 1 ≤ b ∧ b ≤ n ∧ P b) → l.length = sm_ n (fun i => if P (i + 1) then 1 else 0) := by
  induction n with
  | zero =>
    intro l _ h
    cases l with
    | nil => rfl
    | cons b l => have := (h b).mp List.mem_cons_self; omega
  | succ n ih =>
    intro l hn h
    have h1 := ih (l.filter (fun b => !(b == n + 1))) (List.Pairwise.filter _ hn) (fun b => by
      simp only [List.mem_filter, h, Bool.not_eq_true', beq_eq_false_iff_ne]
      constructor
      · rintro ⟨⟨a, b1, c⟩, d⟩; exact ⟨a, by omega, c⟩
      · rintro ⟨a, b1, c⟩; exact ⟨⟨a, by omega, c⟩, by omega⟩)
    show l.length = sm_ n (fun i => if P (i + 1) then 1 else 0) + (if P (n + 1) then 1 else 0)
    rw [← h1]
    by_cases hp : P (n + 1)
    · rw [if_pos hp]
      have hm : n + 1 ∈ l := (h _).mpr ⟨by omega, by omega, hp⟩
      clear h h1 ih
      induction l with
      | nil => simp at hm
      | cons b l ihl =>
        rw [List.nodup_cons] at hn
        by_cases hb : b = n + 1
        · subst hb
          have : (l.filter (fun b => !(b == n + 1))) = l := by
            rw [List.filter_eq_self]
            intro q hq
            have : q ≠ n + 1 := fun e => hn.1 (e ▸ hq)
            simp [this]
          simp [this]
        · have hm2 : n + 1 ∈ l := by
            rcases List.mem_cons.mp hm with e | h
            · exact absurd e.symm hb
            · exact h
          have := ihl hn.2 hm2
          rw [List.filter_cons_of_pos (by simp [hb])]
          simp only [List.length_cons]
          omega
    · rw [if_neg hp]
      have : (l.filter (fun b => !(b == n + 1))) = l := by
        rw [List.filter_eq_self]
        intro q hq
        have : q ≠ n + 1 := fun e => hp (by have := ((h q).mp hq).2.2; rw [e] at this; exact this)
        simp [this]
      rw [this]; rfl
end
section
-- PURE: the store of blocks as mathematics: ways, levels, entries of each block, the list of free blocks
abbrev Sg_ : Type := (Nat → Nat) × (Nat → Nat) × (Nat → List (Nat × Nat)) × List Nat
abbrev gw_ (G : Sg_) : Nat → Nat := G.1
abbrev gl_ (G : Sg_) : Nat → Nat := G.2.1
abbrev ge_ (G : Sg_) : Nat → List (Nat × Nat) := G.2.2.1
abbrev gf_ (G : Sg_) : List Nat := G.2.2.2
/-- the arrays of Blocks hold the store G -/
def Rp_ (w : Nat) (st : St_) (G : Sg_) : Prop :=
  (∀ b, 1 ≤ b → b ≤ 1200 → st 0 b = nI (gw_ G b) ∧ st 1 b = nI (gl_ G b) ∧ st 2 b = nI (ge_ G b).length ∧ (ge_ G b).length ≤ w ∧
    ∀ i, i < (ge_ G b).length → st 3 (b * w + i) = nI ((ge_ G b).getD i (0, 0)).1 ∧ st 4 (b * w + i) = nI ((ge_ G b).getD i (0, 0)).2) ∧
  (∀ b, ∀ e ∈ ge_ G b, e.1 < 4096 ∧ e.2 ≤ 1000000000) ∧
  st 18 0 = nI (gf_ G).length ∧ (gf_ G).length ≤ 1200 ∧ (∀ i, i < (gf_ G).length → st 5 i = nI ((gf_ G).getD i 0)) ∧ st 2 0 = 0
/-- all but the arrays of Blocks is as it was -/
def Fr_ (st st' : St_) : Prop := ∀ k, 6 ≤ k → k ≠ 18 → st' k = st k
theorem Fr_.rf {st : St_} : Fr_ st st := fun _ _ _ => rfl
theorem Fr_.tr {a b c : St_} (h1 : Fr_ a b) (h2 : Fr_ b c) : Fr_ a c := fun k h3 h4 => (h2 k h3 h4).trans (h1 k h3 h4)
theorem rb_t {c A B : Prop} (h : ¬ c) (a : A) : (¬ c → A) ∧ (c → B) := ⟨fun _ => a, fun q => absurd q h⟩
theorem rb_f {c A B : Prop} (h : c) (b : B) : (¬ c → A) ∧ (c → B) := ⟨fun q => absurd h q, fun _ => b⟩
theorem ix_lt {b i w : Nat} (hb : b ≤ 1200) (hi : i < w) : b * w + i < 1201 * w := by
  have h1 : b * w ≤ 1200 * w := Nat.mul_le_mul_right w hb
  omega
theorem ix_inj {b c i j w : Nat} (hi : i < w) (hj : j < w) (h : b * w + i = c * w + j) : b = c ∧ i = j := by
  have hw : 0 < w := by omega
  have h1 : (b * w + i) / w = b := by rw [Nat.mul_comm, Nat.mul_add_div hw, Nat.div_eq_of_lt hi]; rfl
  have h2 : (c * w + j) / w = c := by rw [Nat.mul_comm, Nat.mul_add_div hw, Nat.div_eq_of_lt hj]; rfl
  have e : b = c := by rw [← h1, ← h2, h]
  subst e
  exact ⟨rfl, by omega⟩
theorem ix_big {w : Nat} (hw : w ≤ 32) : 1201 * w < 2 ^ 31 := by omega
theorem ws_1_at {st : St_} {k i : Nat} {x : Int32} : ws_1 st k i x k i = x := by simp [ws_1, va_up, upd]
theorem ws_1_ne {st : St_} {k i j : Nat} {x : Int32} (h : j ≠ i) : ws_1 st k i x k j = st k j := by simp [ws_1, va_up, upd, h]
theorem ws_1_arr {st : St_} {k i q : Nat} {x : Int32} (h : q ≠ k) : ws_1 st k i x q = st q := by simp [ws_1, va_up, h]
theorem ws_c_arr {st : St_} {k j sp dp n q : Nat} (h : q ≠ j) : ws_c st k j sp dp n q = st q := by simp [ws_c, va_up, h]
section PB
variable {w : Nat} {st : St_} {G : Sg_}
theorem p_isBlock {b : Nat} {post : Int32 → St_ → Prop} (hb : 1 ≤ b ∧ b ≤ 1200) (k : post 1 st) : wp_B_isBlock w (nI b) st post := by
  unfold wp_B_isBlock
  refine br_f (nI_nle (by omega) (by omega)) (br_f (fun c => ?_) k)
  have := (nI_ltI (a := 1200) (b := b) (by omega) (by omega)).mp c
  omega
theorem p_isBlock0 {post : Int32 → St_ → Prop} (k : post 0 st) : wp_B_isBlock w 0 st post := by
  unfold wp_B_isBlock
  exact br_t (by decide) k
theorem p_ways {b : Nat} {post : Int32 → St_ → Prop} (hR : Rp_ w st G) (hb : 1 ≤ b ∧ b ≤ 1200) (k : post (nI (gw_ G b)) st) : wp_B_ways w (nI b) st post := by
  unfold wp_B_ways
  refine p_isBlock hb (br_f (by decide) ⟨vp_in_nI (by omega) (by omega), ?_⟩)
  rw [nI_clamp (by omega), (hR.1 b hb.1 hb.2).1]
  exact k
theorem p_level {b : Nat} {post : Int32 → St_ → Prop} (hR : Rp_ w st G) (hb : 1 ≤ b ∧ b ≤ 1200) (k : post (nI (gl_ G b)) st) : wp_B_level w (nI b) st post := by
  unfold wp_B_level
  refine p_isBlock hb (br_f (by decide) ⟨vp_in_nI (by omega) (by omega), ?_⟩)
  rw [nI_clamp (by omega), (hR.1 b hb.1 hb.2).2.1]
  exact k
theorem p_level0 {post : Int32 → St_ → Prop} (k : post 0 st) : wp_B_level w 0 st post := by
  unfold wp_B_level
  exact p_isBlock0 (br_t rfl k)
theorem p_size {b : Nat} {post : Int32 → St_ → Prop} (hR : Rp_ w st G) (hb : 1 ≤ b ∧ b ≤ 1200) (k : post (nI (ge_ G b).length) st) : wp_B_size w (nI b) st post := by
  unfold wp_B_size
  refine p_isBlock hb (br_f (by decide) ⟨vp_in_nI (by omega) (by omega), ?_⟩)
  rw [nI_clamp (by omega), (hR.1 b hb.1 hb.2).2.2.1]
  exact k
theorem p_size0 {post : Int32 → St_ → Prop} (k : post 0 st) : wp_B_size w 0 st post := by
  unfold wp_B_size
  exact p_isBlock0 (br_t rfl k)
theorem bk_p {b : Nat} (hb : 1 ≤ b ∧ b ≤ 1200) : ¬ nI b < 0 := nI_pos (by omega)
theorem bk_m {b : Nat} (hb : 1 ≤ b ∧ b ≤ 1200) : ¬ 1200 < nI b := nI_nlt (a := 1200) hb.2 (by omega)
theorem p_isEntry {b i : Nat} {post : Int32 → St_ → Prop} (hw : 5 ≤ w ∧ w ≤ 32) (hR : Rp_ w st G) (hb : 1 ≤ b ∧ b ≤ 1200) (hi : i < (ge_ G b).length) (k : post 1 st) : wp_B_isEntry w (nI b) (nI i) st post := by
  unfold wp_B_isEntry
  obtain ⟨h0, h1, h2, h3, h4⟩ := hR.1 b hb.1 hb.2
  refine br_f (bk_p hb) (br_f (bk_m hb) (br_f (nI_pos (by omega)) (br_f (nI_ge (by omega) (by omega)) ⟨vp_in_nI (by omega) (by omega), ?_⟩)))
  rw [nI_clamp (by omega), h2]
  exact br_f (nI_ge hi (by omega)) k
theorem p_isEntryM {b : Nat} {x : Int32} {post : Int32 → St_ → Prop} (hb : 1 ≤ b ∧ b ≤ 1200) (hx : x < 0) (k : post 0 st) : wp_B_isEntry w (nI b) x st post := by
  unfold wp_B_isEntry
  exact br_f (bk_p hb) (br_f (bk_m hb) (br_t hx k))
theorem p_isEntryO {b i : Nat} {post : Int32 → St_ → Prop} (hw : 5 ≤ w ∧ w ≤ 32) (hR : Rp_ w st G) (hb : 1 ≤ b ∧ b ≤ 1200) (hi : (ge_ G b).length ≤ i) (hi2 : i < 2 ^ 31) (k : post 0 st) : wp_B_isEntry w (nI b) (nI i) st post := by
  unfold wp_B_isEntry
  obtain ⟨h0, h1, h2, h3, h4⟩ := hR.1 b hb.1 hb.2
  refine br_f (bk_p hb) (br_f (bk_m hb) (br_f (nI_pos (by omega)) (br_c (fun _ => k) (fun _ => ⟨vp_in_nI (by omega) (by omega), ?_⟩))))
  rw [nI_clamp (by omega), h2]
  exact br_t (nI_le hi (by omega)) k
theorem p_isEntry0 {x : Int32} {post : Int32 → St_ → Prop} (hR : Rp_ w st G) (k : post 0 st) : wp_B_isEntry w 0 x st post := by
  unfold wp_B_isEntry
  refine br_f (by decide) (br_f (by decide) (br_c (fun _ => k) (fun hx => br_c (fun _ => k) (fun _ => ⟨(vp_in_nI (by omega) (by omega) : vp_in (nI 0) 1201), br_t ?_ k⟩))))
  rw [show (0 : Int32).toNatClampNeg = 0 from rfl, hR.2.2.2.2.2]
  exact Int32.not_lt.mp hx
theorem ix_e (b i w : Nat) : nI b * nI w + nI i = nI (b * w + i) := by rw [pk_mul, nI_add]
theorem p_key {b i : Nat} {post : Int32 → St_ → Prop} (hw : 5 ≤ w ∧ w ≤ 32) (hR : Rp_ w st G) (hb : 1 ≤ b ∧ b ≤ 1200) (hi : i < (ge_ G b).length) (k : post (nI ((ge_ G b).getD i (0, 0)).1) st) : wp_B_key w (nI b) (nI i) st post := by
  unfold wp_B_key
  obtain ⟨h0, h1, h2, h3, h4⟩ := hR.1 b hb.1 hb.2
  have h5 : b * w + i < 1201 * w := ix_lt hb.2 (by omega)
  have h6 := ix_big hw.2
  refine p_isEntry hw hR hb hi (br_f (by decide) ?_)
  rw [ix_e]
  refine ⟨vp_in_nI h5 h6, ?_⟩
  rw [nI_clamp (by omega), (h4 i hi).1]
  exact k
theorem p_keyM {b : Nat} {x : Int32} {post : Int32 → St_ → Prop} (hb : 1 ≤ b ∧ b ≤ 1200) (hx : x < 0) (k : post (-2) st) : wp_B_key w (nI b) x st post := by
  unfold wp_B_key
  exact p_isEntryM hb hx (br_t rfl k)
theorem p_keyO {b i : Nat} {post : Int32 → St_ → Prop} (hw : 5 ≤ w ∧ w ≤ 32) (hR : Rp_ w st G) (hb : 1 ≤ b ∧ b ≤ 1200) (hi : (ge_ G b).length ≤ i) (hi2 : i < 2 ^ 31) (k : post (-2) st) : wp_B_key w (nI b) (nI i) st post := by
  unfold wp_B_key
  exact p_isEntryO hw hR hb hi hi2 (br_t rfl k)
theorem p_key0 {x : Int32} {post : Int32 → St_ → Prop} (hR : Rp_ w st G) (k : post (-2) st) : wp_B_key w 0 x st post := by
  unfold wp_B_key
  exact p_isEntry0 hR (br_t rfl k)
theorem p_goal {b i : Nat} {post : Int32 → St_ → Prop} (hw : 5 ≤ w ∧ w ≤ 32) (hR : Rp_ w st G) (hb : 1 ≤ b ∧ b ≤ 1200) (hi : i < (ge_ G b).length) (k : post (nI ((ge_ G b).getD i (0, 0)).2) st) : wp_B_goal w (nI b) (nI i) st post := by
  unfold wp_B_goal
  obtain ⟨h0, h1, h2, h3, h4⟩ := hR.1 b hb.1 hb.2
  have h5 : b * w + i < 1201 * w := ix_lt hb.2 (by omega)
  have h6 := ix_big hw.2
  refine p_isEntry hw hR hb hi (br_f (by decide) ?_)
  rw [ix_e]
  refine ⟨vp_in_nI h5 h6, ?_⟩
  rw [nI_clamp (by omega), (h4 i hi).2]
  exact k
/-- the key of an entry is set -/
abbrev sk_ (l : List (Nat × Nat)) (i k : Nat) : List (Nat × Nat) := l.set i (k, (l.getD i (0, 0)).2)
abbrev sg_ (l : List (Nat × Nat)) (i g : Nat) : List (Nat × Nat) := l.set i ((l.getD i (0, 0)).1, g)
abbrev se_ (G : Sg_) (b : Nat) (l : List (Nat × Nat)) : Sg_ := (G.1, G.2.1, va_up G.2.2.1 b l, G.2.2.2)
abbrev sw_ (G : Sg_) (b n : Nat) : Sg_ := (va_up G.1 b n, G.2.1, G.2.2.1, G.2.2.2)
theorem se_at (G : Sg_) (b : Nat) (l : List (Nat × Nat)) : ge_ (se_ G b l) b = l := by
  show va_up G.2.2.1 b l b = l
  simp [va_up]
theorem se_ne (G : Sg_) {b c : Nat} (l : List (Nat × Nat)) (h : c ≠ b) : ge_ (se_ G b l) c = ge_ G c := by
  show va_up G.2.2.1 b l c = G.2.2.1 c
  simp [va_up, h]
theorem getD_set {l : List (Nat × Nat)} {i j : Nat} {e d : Nat × Nat} (hi : i < l.length) : (l.set i e).getD j d = if j = i then e else l.getD j d := by
  simp only [List.getD_eq_getElem?_getD, List.getElem?_set]
  by_cases h : j = i
  · subst h; simp [hi]
  · simp [h, Ne.symm h]
theorem Rp_.bd (hR : Rp_ w st G) {b i : Nat} (hi : i < (ge_ G b).length) : ((ge_ G b).getD i (0, 0)).1 < 4096 ∧ ((ge_ G b).getD i (0, 0)).2 ≤ 1000000000 := by
  refine hR.2.1 b _ ?_
  rw [List.getD_eq_getElem?_getD, List.getElem?_eq_getElem hi]
  exact List.getElem_mem hi
/-- the store with other entries in one block, if the arrays have them -/
theorem Rp_.ents {st' : St_} (hR : Rp_ w st G) {b : Nat} {l : List (Nat × Nat)} (hb0 : 1 ≤ b) (hl : l.length ≤ w) (hbd : ∀ e ∈ l, e.1 < 4096 ∧ e.2 ≤ 1000000000)
    (e0 : st' 0 = st 0) (e1 : st' 1 = st 1) (e5 : st' 5 = st 5) (e18 : st' 18 = st 18) (e2 : ∀ c, c ≠ b → st' 2 c = st 2 c) (e2b : st' 2 b = nI l.length)
    (e3 : ∀ c i, c ≠ b → i < w → st' 3 (c * w + i) = st 3 (c * w + i)) (e4 : ∀ c i, c ≠ b → i < w → st' 4 (c * w + i) = st 4 (c * w + i))
    (e34 : ∀ i, i < l.length → st' 3 (b * w + i) = nI (l.getD i (0, 0)).1 ∧ st' 4 (b * w + i) = nI (l.getD i (0, 0)).2) : Rp_ w st' (se_ G b l) := by
  obtain ⟨h1, h2, h3, h4, h5, hz0⟩ := hR
  refine ⟨fun c c1 c2 => ?_, fun c e he => ?_, by rw [e18]; exact h3, h4, fun i hi => by rw [e5]; exact h5 i hi, by rw [e2 0 (by omega)]; exact hz0⟩
  · obtain ⟨g0, g1, g2, g3, g4⟩ := h1 c c1 c2
    refine ⟨by rw [e0]; exact g0, by rw [e1]; exact g1, ?_⟩
    by_cases hc : c = b
    · subst hc
      rw [se_at]
      exact ⟨e2b, hl, e34⟩
    · rw [se_ne G l hc]
      refine ⟨by rw [e2 c hc]; exact g2, g3, fun i hi => ?_⟩
      rw [e3 c i hc (by omega), e4 c i hc (by omega)]
      exact g4 i hi
  · by_cases hc : c = b
    · subst hc
      rw [se_at] at he
      exact hbd e he
    · rw [se_ne G l hc] at he
      exact h2 c e he
theorem p_setKey {b i x : Nat} {post : St_ → Prop} (hw : 5 ≤ w ∧ w ≤ 32) (hR : Rp_ w st G) (hb : 1 ≤ b ∧ b ≤ 1200) (hi : i < (ge_ G b).length) (hx : x < 4096)
    (k : ∀ st', Rp_ w st' (se_ G b (sk_ (ge_ G b) i x)) → Fr_ st st' → post st') : wp_B_setKey w (nI b) (nI i) (nI x) st post := by
  unfold wp_B_setKey
  obtain ⟨h0, h1, h2, h3, h4⟩ := hR.1 b hb.1 hb.2
  have h5 : b * w + i < 1201 * w := ix_lt hb.2 (by omega)
  have h6 := ix_big hw.2
  refine p_isEntry hw hR hb hi (br_f (by decide) ?_)
  rw [ix_e]
  refine ⟨vp_in_nI h5 h6, fun st' e => ?_⟩
  rw [nI_clamp (by omega)] at e
  subst e
  have hbd := hR.bd hi
  refine k _ (hR.ents hb.1 (by simp; exact h3) (fun e he => ?_) (ws_1_arr (by decide)) (ws_1_arr (by decide)) (ws_1_arr (by decide)) (ws_1_arr (by decide)) (fun c _ => by rw [ws_1_arr (by decide)]) (by rw [ws_1_arr (by decide), List.length_set]; exact h2) (fun c j hc hj => ?_) (fun c j _ _ => by rw [ws_1_arr (by decide)]) (fun j hj => ?_)) (fun q q1 q2 => ws_1_arr (by omega))
  · rcases List.mem_or_eq_of_mem_set he with h | h
    · exact hR.2.1 b e h
    · subst h; exact ⟨hx, hbd.2⟩
  · exact ws_1_ne (fun e => hc (ix_inj hj (by omega) e).1)
  · rw [List.length_set] at hj
    rw [getD_set hi]
    by_cases hji : j = i
    · subst hji
      rw [ws_1_at, ws_1_arr (by decide), (h4 j hj).2]
      simp
    · rw [ws_1_ne (fun e => hji (ix_inj (by omega) (by omega) e).2), ws_1_arr (by decide)]
      simp only [hji, if_false]
      exact h4 j hj
theorem p_setGoal {b i x : Nat} {post : St_ → Prop} (hw : 5 ≤ w ∧ w ≤ 32) (hR : Rp_ w st G) (hb : 1 ≤ b ∧ b ≤ 1200) (hi : i < (ge_ G b).length) (hx : x ≤ 1000000000)
    (k : ∀ st', Rp_ w st' (se_ G b (sg_ (ge_ G b) i x)) → Fr_ st st' → post st') : wp_B_setGoal w (nI b) (nI i) (nI x) st post := by
  unfold wp_B_setGoal
  obtain ⟨h0, h1, h2, h3, h4⟩ := hR.1 b hb.1 hb.2
  have h5 : b * w + i < 1201 * w := ix_lt hb.2 (by omega)
  have h6 := ix_big hw.2
  refine p_isEntry hw hR hb hi (br_f (by decide) ?_)
  rw [ix_e]
  refine ⟨vp_in_nI h5 h6, fun st' e => ?_⟩
  rw [nI_clamp (by omega)] at e
  subst e
  have hbd := hR.bd hi
  refine k _ (hR.ents hb.1 (by simp; exact h3) (fun e he => ?_) (ws_1_arr (by decide)) (ws_1_arr (by decide)) (ws_1_arr (by decide)) (ws_1_arr (by decide)) (fun c _ => by rw [ws_1_arr (by decide)]) (by rw [ws_1_arr (by decide), List.length_set]; exact h2) (fun c j _ _ => by rw [ws_1_arr (by decide)]) (fun c j hc hj => ?_) (fun j hj => ?_)) (fun q q1 q2 => ws_1_arr (by omega))
  · rcases List.mem_or_eq_of_mem_set he with h | h
    · exact hR.2.1 b e h
    · subst h; exact ⟨hbd.1, hx⟩
  · exact ws_1_ne (fun e => hc (ix_inj hj (by omega) e).1)
  · rw [List.length_set] at hj
    rw [getD_set hi]
    by_cases hji : j = i
    · subst hji
      rw [ws_1_at, ws_1_arr (by decide), (h4 j hj).1]
      simp
    · rw [ws_1_ne (fun e => hji (ix_inj (by omega) (by omega) e).2), ws_1_arr (by decide)]
      simp only [hji, if_false]
      exact h4 j hj
end PB
end
section
-- PURE: the methods of Blocks over the store
abbrev il_ (l : List (Nat × Nat)) (i : Nat) (e : Nat × Nat) : List (Nat × Nat) := l.take i ++ e :: l.drop i
abbrev el_ (l : List (Nat × Nat)) (i : Nat) : List (Nat × Nat) := l.take i ++ l.drop (i + 1)
theorem il_len {l : List (Nat × Nat)} {i : Nat} {e : Nat × Nat} (hi : i ≤ l.length) : (il_ l i e).length = l.length + 1 := by
  simp; omega
theorem el_len {l : List (Nat × Nat)} {i : Nat} (hi : i < l.length) : (el_ l i).length + 1 = l.length := by
  simp; omega
theorem il_getD {l : List (Nat × Nat)} {i j : Nat} {e d : Nat × Nat} (hi : i ≤ l.length) : (il_ l i e).getD j d = if j < i then l.getD j d else if j = i then e else l.getD (j - 1) d := by
  simp only [List.getD_eq_getElem?_getD]
  by_cases h : j < i
  · rw [if_pos h, List.getElem?_append_left (by simp; omega), List.getElem?_take_of_lt h]
  · rw [if_neg h, List.getElem?_append_right (by simp; omega)]
    have e1 : (l.take i).length = i := by simp; omega
    rw [e1]
    by_cases h2 : j = i
    · subst h2; simp
    · rw [if_neg h2, show j - i = (j - i - 1) + 1 by omega, List.getElem?_cons_succ, List.getElem?_drop, show i + (j - i - 1) = j - 1 by omega]
theorem el_getD {l : List (Nat × Nat)} {i j : Nat} {d : Nat × Nat} (hi : i < l.length) : (el_ l i).getD j d = if j < i then l.getD j d else l.getD (j + 1) d := by
  simp only [List.getD_eq_getElem?_getD]
  by_cases h : j < i
  · rw [if_pos h, List.getElem?_append_left (by simp; omega), List.getElem?_take_of_lt h]
  · rw [if_neg h, List.getElem?_append_right (by simp; omega)]
    have e1 : (l.take i).length = i := by simp; omega
    rw [e1, List.getElem?_drop, show i + 1 + (j - i) = j + 1 by omega]
theorem il_mem {l : List (Nat × Nat)} {i : Nat} {e x : Nat × Nat} (h : x ∈ il_ l i e) : x = e ∨ x ∈ l := by
  rcases List.mem_append.mp h with h | h
  · exact Or.inr (List.mem_of_mem_take h)
  · rcases List.mem_cons.mp h with h | h
    · exact Or.inl h
    · exact Or.inr (List.mem_of_mem_drop h)
theorem el_mem {l : List (Nat × Nat)} {i : Nat} {x : Nat × Nat} (h : x ∈ el_ l i) : x ∈ l := by
  rcases List.mem_append.mp h with h | h
  · exact List.mem_of_mem_take h
  · exact List.mem_of_mem_drop h
theorem i_sac (a : Int32) : a - 1 + 1 = a := by
  apply Int32.toBitVec_inj.mp
  simp
theorem i_aac (a b : Int32) : a + (b - 1) + 1 = a + b := by
  rw [Int32.add_assoc, i_sac]
theorem i_m1 : nI 0 - 1 < 0 := by decide
section PB2
variable {w : Nat} {st : St_} {G : Sg_}
/-- how many keys at the front are not above k -/
def fk_ (l : List (Nat × Nat)) (k j : Nat) : Prop := j ≤ l.length ∧ (∀ i, i < j → (l.getD i (0, 0)).1 ≤ k) ∧ (j < l.length → k < (l.getD j (0, 0)).1)
theorem p_slotOf_loop {b x : Nat} {post : Int32 → St_ → Prop} (hw : 5 ≤ w ∧ w ≤ 32) (hR : Rp_ w st G) (hb : 1 ≤ b ∧ b ≤ 1200) (hx : x < 4096)
    (k : ∀ j, fk_ (ge_ G b) x j → post (nI j - 1) st) :
    ∀ (n j : Nat), j ≤ (ge_ G b).length → (ge_ G b).length < n + j → (∀ i, i < j → ((ge_ G b).getD i (0, 0)).1 ≤ x) → wp_B_slotOf_24 w post n (nI b) (nI x) (nI j - 1) (nI (b * w)) (nI (ge_ G b).length) st := by
  obtain ⟨h0, h1, h2, h3, h4⟩ := hR.1 b hb.1 hb.2
  intro n
  induction n with
  | zero => intro j hj hn; omega
  | succ n ih =>
    intro j hj hn hle
    show (_ → _) ∧ (_ → _)
    rw [i_sac, i_aac, nI_add]
    refine pk_le (ge_ G b).length j (fun hlt => ?_) (fun hlt => ?_) rfl rfl (by omega) (by omega)
    · exact k j ⟨hj, hle, fun h => by omega⟩
    · have h5 : b * w + j < 1201 * w := ix_lt hb.2 (by omega)
      have h6 := ix_big hw.2
      refine ⟨vp_in_nI h5 h6, ?_⟩
      rw [nI_clamp (by omega), (h4 j hlt).1]
      have hbd := hR.bd hlt
      refine pk_lt x ((ge_ G b).getD j (0, 0)).1 (fun hk => ?_) (fun hk => ?_) rfl rfl (by omega) (by omega)
      · exact k j ⟨hj, hle, fun _ => hk⟩
      · intro y hy
        rw [show y = nI (j + 1) - 1 by rw [hy, nI_pred]]
        exact ih (j + 1) (by omega) (by omega) (fun i hi => by
          by_cases e : i = j
          · subst e; exact hk
          · exact hle i (by omega))
theorem p_slotOf {b x : Nat} {post : Int32 → St_ → Prop} (hw : 5 ≤ w ∧ w ≤ 32) (hR : Rp_ w st G) (hb : 1 ≤ b ∧ b ≤ 1200) (hx : x < 4096)
    (k : ∀ j, fk_ (ge_ G b) x j → post (nI j - 1) st) : wp_B_slotOf w (nI b) (nI x) st post := by
  unfold wp_B_slotOf
  obtain ⟨h0, h1, h2, h3, h4⟩ := hR.1 b hb.1 hb.2
  intro z hz
  refine p_size hR hb ?_
  intro y hy
  rw [if_neg (nI_nlt h3 (by omega))] at hy
  rw [hy, hz, pk_mul]
  refine ⟨(ge_ G b).length + 1, ?_⟩
  have := p_slotOf_loop hw hR hb hx k ((ge_ G b).length + 1) 0 (by omega) (by omega) (fun i hi => by omega)
  exact this
theorem st_ofj (j : Nat) (hj : j < 2 ^ 31) : (if 0 < nI j - 1 then nI j - 1 else 0) = nI (j - 1) := by
  cases j with
  | zero => decide
  | succ j =>
    rw [nI_pred]
    cases j with
    | zero => decide
    | succ j =>
      rw [if_pos]
      · rfl
      · exact nI_lt (a := 0) (by omega) (by omega)
theorem p_slotToward {b x : Nat} {post : Int32 → St_ → Prop} (hw : 5 ≤ w ∧ w ≤ 32) (hR : Rp_ w st G) (hb : 1 ≤ b ∧ b ≤ 1200) (hx : x < 4096)
    (k : ∀ j, fk_ (ge_ G b) x j → post (nI (j - 1)) st) : wp_T_slotToward w (nI b) (nI x) st post := by
  unfold wp_T_slotToward
  refine p_slotOf hw hR hb hx (fun j hj => ?_)
  have h3 := (hR.1 b hb.1 hb.2).2.2.2.1
  have h4 := hj.1
  rw [st_ofj j (by omega)]
  exact k j hj
theorem p_insert {b i x g : Nat} {post : St_ → Prop} (hw : 5 ≤ w ∧ w ≤ 32) (hR : Rp_ w st G) (hb : 1 ≤ b ∧ b ≤ 1200) (hi : i ≤ (ge_ G b).length) (hl : (ge_ G b).length < w) (hx : x < 4096) (hg : g ≤ 1000000000)
    (k : ∀ st', Rp_ w st' (se_ G b (il_ (ge_ G b) i (x, g))) → Fr_ st st' → post st') : wp_B_insert w (nI b) (nI i) (nI x) (nI g) st post := by
  unfold wp_B_insert
  obtain ⟨h0, h1, h2, h3, h4⟩ := hR.1 b hb.1 hb.2
  have h5 : b * w + i < 1201 * w := ix_lt hb.2 (by omega)
  have h5' : b * w + (ge_ G b).length < 1201 * w := ix_lt hb.2 hl
  have h6 := ix_big hw.2
  refine p_isBlock hb (br_f (by decide) (br_f (nI_pos (by omega)) ⟨vp_in_nI (by omega) (by omega), ?_⟩))
  rw [nI_clamp (n := b) (by omega), h2]
  refine br_f (nI_nlt hi (by omega)) ⟨vp_in_nI (by omega) (by omega), br_t (nI_lt hl (by omega)) ⟨vp_in_nI (by omega) (by omega), ?_⟩⟩
  intro z hz a ha
  subst hz
  rw [ix_e] at ha
  subst ha
  rw [nI_1, pk_sub hi, nI_clamp (n := b * w + i) (by omega), nI_clamp (n := b * w + i + 1) (by omega), nI_clamp (n := (ge_ G b).length - i) (by omega)]
  refine ⟨⟨nI_pos (by omega), nI_pos (by omega), nI_pos (by omega), by omega, by omega⟩, fun s1 e1 => ⟨⟨nI_pos (by omega), nI_pos (by omega), nI_pos (by omega), by omega, by omega⟩, fun s2 e2 => ⟨vp_in_nI h5 h6, fun s3 e3 => ⟨vp_in_nI h5 h6, fun s4 e4 => ⟨vp_in_nI (by omega) (by omega), fun s5 e5 => ?_⟩⟩⟩⟩⟩
  rw [nI_1] at e5
  have k3 : ∀ q, s5 3 q = if q = b * w + i then nI x else va_cpy (st 3) (st 3) (b * w + i) (b * w + i + 1) ((ge_ G b).length - i) q := by
    intro q
    rw [e5, ws_1_arr (by decide), e4, ws_1_arr (by decide), e3]
    by_cases hq : q = b * w + i
    · rw [if_pos hq, hq, ws_1_at]
    · rw [if_neg hq, ws_1_ne hq, e2, ws_c_arr (by decide), e1]
      simp [ws_c, va_up]
  have k4 : ∀ q, s5 4 q = if q = b * w + i then nI g else va_cpy (st 4) (st 4) (b * w + i) (b * w + i + 1) ((ge_ G b).length - i) q := by
    intro q
    rw [e5, ws_1_arr (by decide), e4]
    by_cases hq : q = b * w + i
    · rw [if_pos hq, hq, ws_1_at]
    · rw [if_neg hq, ws_1_ne hq, e3, ws_1_arr (by decide), e2]
      simp only [ws_c, va_up, if_true]
      rw [e1]
      simp [ws_c, va_up]
  have kk : ∀ q, q ≠ 2 → q ≠ 3 → q ≠ 4 → s5 q = st q := by
    intro q q2 q3 q4
    rw [e5, ws_1_arr q2, e4, ws_1_arr q4, e3, ws_1_arr q3, e2, ws_c_arr q4, e1, ws_c_arr q3]
  have k2 : ∀ c, s5 2 c = if c = b then nI ((ge_ G b).length + 1) else st 2 c := by
    intro c
    rw [e5]
    by_cases hc : c = b
    · rw [if_pos hc, hc, ws_1_at]
    · rw [if_neg hc, ws_1_ne hc, e4, ws_1_arr (by decide), e3, ws_1_arr (by decide), e2, ws_c_arr (by decide), e1, ws_c_arr (by decide)]
  refine k s5 (hR.ents hb.1 (by rw [il_len hi]; omega) (fun e he => ?_) (kk 0 (by decide) (by decide) (by decide)) (kk 1 (by decide) (by decide) (by decide)) (kk 5 (by decide) (by decide) (by decide)) (kk 18 (by decide) (by decide) (by decide)) (fun c hc => by rw [k2, if_neg hc]) (by rw [k2, if_pos rfl, il_len hi]) (fun c j hc hj => ?_) (fun c j hc hj => ?_) (fun j hj => ?_)) (fun q q1 q2 => kk q (by omega) (by omega) (by omega))
  · rcases il_mem he with h | h
    · subst h; exact ⟨hx, hg⟩
    · exact hR.2.1 b e h
  · have hne : ∀ t, t < w → c * w + j ≠ b * w + t := fun t ht e => hc (ix_inj hj ht e).1
    rw [k3, if_neg (hne i (by omega)), pk_cpy_out]
    by_cases hlo : c * w + j < b * w + i + 1
    · exact Or.inl hlo
    · refine Or.inr (Nat.not_lt.mp fun hh => ?_)
      exact hne (c * w + j - b * w) (by omega) (by omega)
  · have hne : ∀ t, t < w → c * w + j ≠ b * w + t := fun t ht e => hc (ix_inj hj ht e).1
    rw [k4, if_neg (hne i (by omega)), pk_cpy_out]
    by_cases hlo : c * w + j < b * w + i + 1
    · exact Or.inl hlo
    · refine Or.inr (Nat.not_lt.mp fun hh => ?_)
      exact hne (c * w + j - b * w) (by omega) (by omega)
  · rw [il_len hi] at hj
    rw [k3, k4, il_getD hi]
    by_cases hji : j = i
    · have hjj : b * w + j = b * w + i := by omega
      have hjn : ¬ j < i := by omega
      rw [if_pos hjj, if_pos hjj, if_neg hjn, if_pos hji]
      exact ⟨rfl, rfl⟩
    · have hjj : ¬ b * w + j = b * w + i := by omega
      rw [if_neg hjj, if_neg hjj]
      by_cases hlt : j < i
      · rw [if_pos hlt, pk_cpy_out (Or.inl (by omega)), pk_cpy_out (Or.inl (by omega))]
        exact h4 j (by omega)
      · rw [if_neg hlt, if_neg hji, pk_cpy_in (by omega) (by omega), pk_cpy_in (by omega) (by omega)]
        rw [show b * w + i + (b * w + j - (b * w + i + 1)) = b * w + (j - 1) by omega]
        exact h4 (j - 1) (by omega)
theorem p_remove {b i : Nat} {post : St_ → Prop} (hw : 5 ≤ w ∧ w ≤ 32) (hR : Rp_ w st G) (hb : 1 ≤ b ∧ b ≤ 1200) (hi : i < (ge_ G b).length)
    (k : ∀ st', Rp_ w st' (se_ G b (el_ (ge_ G b) i)) → Fr_ st st' → post st') : wp_B_remove w (nI b) (nI i) st post := by
  unfold wp_B_remove
  obtain ⟨h0, h1, h2, h3, h4⟩ := hR.1 b hb.1 hb.2
  have h5 : b * w + i < 1201 * w := ix_lt hb.2 (by omega)
  have h5' : b * w + ((ge_ G b).length - 1) < 1201 * w := ix_lt hb.2 (by omega)
  have h6 := ix_big hw.2
  have hln := el_len hi
  refine p_size hR hb (p_isEntry hw hR hb hi (br_f (by decide) (br_t (nI_le h3 (by omega)) ?_)))
  intro a ha
  rw [ix_e] at ha
  subst ha
  have em : ∀ q : Nat, 1 ≤ q → nI q - 1 = nI (q - 1) := fun q hq => by
    have := nI_pred (q - 1)
    rw [show q - 1 + 1 = q by omega] at this
    exact this
  rw [nI_1, pk_sub (by omega), em _ (by omega), em _ (by omega), nI_clamp (n := b * w + i) (by omega), nI_clamp (n := b * w + i + 1) (by omega), nI_clamp (n := (ge_ G b).length - i - 1) (by omega)]
  refine ⟨⟨nI_pos (by omega), nI_pos (by omega), nI_pos (by omega), by omega, by omega⟩, fun s1 e1 => ⟨⟨nI_pos (by omega), nI_pos (by omega), nI_pos (by omega), by omega, by omega⟩, fun s2 e2 => ⟨vp_in_nI (by omega) (by omega), fun s5 e5 => ?_⟩⟩⟩
  rw [nI_clamp (n := b) (by omega)] at e5
  have k3 : ∀ q, s5 3 q = va_cpy (st 3) (st 3) (b * w + i + 1) (b * w + i) ((ge_ G b).length - i - 1) q := by
    intro q
    rw [e5, ws_1_arr (by decide), e2, ws_c_arr (by decide), e1]
    simp [ws_c, va_up]
  have k4 : ∀ q, s5 4 q = va_cpy (st 4) (st 4) (b * w + i + 1) (b * w + i) ((ge_ G b).length - i - 1) q := by
    intro q
    rw [e5, ws_1_arr (by decide), e2]
    simp only [ws_c, va_up, if_true]
    rw [e1]
    simp [ws_c, va_up]
  have kk : ∀ q, q ≠ 2 → q ≠ 3 → q ≠ 4 → s5 q = st q := by
    intro q q2 q3 q4
    rw [e5, ws_1_arr q2, e2, ws_c_arr q4, e1, ws_c_arr q3]
  have k2 : ∀ c, s5 2 c = if c = b then nI ((ge_ G b).length - 1) else st 2 c := by
    intro c
    rw [e5]
    by_cases hc : c = b
    · rw [if_pos hc, hc, ws_1_at]
    · rw [if_neg hc, ws_1_ne hc, e2, ws_c_arr (by decide), e1, ws_c_arr (by decide)]
  refine k s5 (hR.ents hb.1 (by omega) (fun e he => hR.2.1 b e (el_mem he)) (kk 0 (by decide) (by decide) (by decide)) (kk 1 (by decide) (by decide) (by decide)) (kk 5 (by decide) (by decide) (by decide)) (kk 18 (by decide) (by decide) (by decide)) (fun c hc => by rw [k2, if_neg hc]) (by rw [k2, if_pos rfl]; congr 1; omega) (fun c j hc hj => ?_) (fun c j hc hj => ?_) (fun j hj => ?_)) (fun q q1 q2 => kk q (by omega) (by omega) (by omega))
  · have hne : ∀ t, t < w → c * w + j ≠ b * w + t := fun t ht e => hc (ix_inj hj ht e).1
    rw [k3, pk_cpy_out]
    by_cases hlo : c * w + j < b * w + i
    · exact Or.inl hlo
    · refine Or.inr (Nat.not_lt.mp fun hh => ?_)
      exact hne (c * w + j - b * w) (by omega) (by omega)
  · have hne : ∀ t, t < w → c * w + j ≠ b * w + t := fun t ht e => hc (ix_inj hj ht e).1
    rw [k4, pk_cpy_out]
    by_cases hlo : c * w + j < b * w + i
    · exact Or.inl hlo
    · refine Or.inr (Nat.not_lt.mp fun hh => ?_)
      exact hne (c * w + j - b * w) (by omega) (by omega)
  · rw [k3, k4, el_getD hi]
    by_cases hlt : j < i
    · rw [if_pos hlt, pk_cpy_out (Or.inl (by omega)), pk_cpy_out (Or.inl (by omega))]
      exact h4 j (by omega)
    · rw [if_neg hlt, pk_cpy_in (by omega) (by omega), pk_cpy_in (by omega) (by omega)]
      rw [show b * w + i + 1 + (b * w + j - (b * w + i)) = b * w + (j + 1) by omega]
      exact h4 (j + 1) (by omega)
end PB2
end
section
-- PURE: the rest of Blocks: moveTail, take, give, share, lose, owned
section PB3
variable {w : Nat}
theorem il_end (l : List (Nat × Nat)) (e : Nat × Nat) : il_ l l.length e = l ++ [e] := by
  show l.take l.length ++ e :: l.drop l.length = _
  simp
theorem tk_snoc {l : List (Nat × Nat)} {s i : Nat} (h : s ≤ i) (hi : i < l.length) : (l.drop s).take (i + 1 - s) = (l.drop s).take (i - s) ++ [l.getD i (0, 0)] := by
  rw [show i + 1 - s = (i - s) + 1 by omega, List.take_succ, List.getElem?_drop, show s + (i - s) = i by omega, List.getElem?_eq_getElem hi, List.getD_eq_getElem?_getD, List.getElem?_eq_getElem hi]
  rfl
theorem Rp_.eq {st : St_} {G G' : Sg_} (h : Rp_ w st G) (e : G = G') : Rp_ w st G' := e ▸ h
theorem se_se (G : Sg_) (b : Nat) (l m : List (Nat × Nat)) : se_ (se_ G b l) b m = se_ G b m := by
  simp only [se_]
  congr 2
  · congr 1
    exact bx_uu _ _ _ _
theorem se_comm (G : Sg_) {b c : Nat} (l m : List (Nat × Nat)) (h : b ≠ c) : se_ (se_ G b l) c m = se_ (se_ G c m) b l := by
  simp only [se_]
  congr 3
  funext j
  by_cases h1 : j = b
  · subst h1
    simp [va_up, h]
  · by_cases h2 : j = c
    · subst h2; simp [va_up, h1]
    · simp [va_up, h1, h2]
theorem p_moveTail_loop {f t s : Nat} {post : St_ → Prop} {G : Sg_} (hw : 5 ≤ w ∧ w ≤ 32) (hf : 1 ≤ f ∧ f ≤ 1200) (ht : 1 ≤ t ∧ t ≤ 1200) (hne : f ≠ t) (hs : s ≤ (ge_ G f).length) (hl : (ge_ G t).length + ((ge_ G f).length - s) ≤ w) (st0 : St_)
    (k : ∀ st', Rp_ w st' (se_ (se_ G t (ge_ G t ++ (ge_ G f).drop s)) f ((ge_ G f).take s)) → Fr_ st0 st' → post st') :
    ∀ (n i : Nat) (st : St_), s ≤ i → i ≤ (ge_ G f).length → (ge_ G f).length < n + i → Rp_ w st (se_ G t (ge_ G t ++ ((ge_ G f).drop s).take (i - s))) → Fr_ st0 st → wp_B_moveTail_3 w post n (nI f) (nI s) (nI t) (nI i) st := by
  intro n
  induction n with
  | zero => intro i st h1 h2 h3; omega
  | succ n ih =>
    intro i st hsi hi hn hR hF
    have hfe : ge_ (se_ G t (ge_ G t ++ ((ge_ G f).drop s).take (i - s))) f = ge_ G f := se_ne _ _ hne
    have hte : ge_ (se_ G t (ge_ G t ++ ((ge_ G f).drop s).take (i - s))) t = ge_ G t ++ ((ge_ G f).drop s).take (i - s) := se_at _ _ _
    have hfl : (ge_ G f).length ≤ w := by have := (hR.1 f hf.1 hf.2).2.2.2.1; rw [hfe] at this; exact this
    refine p_size hR hf ?_
    rw [hfe]
    refine pk_le (ge_ G f).length i (fun hle => ?_) (fun hlt => ?_) rfl rfl (by omega) (by omega)
    · have hie : i = (ge_ G f).length := by omega
      subst hie
      have hdrop : ((ge_ G f).drop s).take ((ge_ G f).length - s) = (ge_ G f).drop s := List.take_of_length_le (by simp)
      rw [hdrop] at hR hfe hte
      refine p_isBlock hf (br_f (by decide) (br_f (nI_pos (by omega)) ⟨vp_in_nI (by omega) (by omega), ?_⟩))
      have h2 := (hR.1 f hf.1 hf.2).2.2.1
      rw [hfe] at h2
      rw [nI_clamp (by omega), h2]
      refine pk_le (ge_ G f).length s (fun hle => ?_) (fun hlt => ?_) rfl rfl (by omega) (by omega)
      · refine k st (hR.eq ?_) hF
        rw [List.take_of_length_le (by omega)]
        have e : va_up (va_up G.2.2.1 t (ge_ G t ++ (ge_ G f).drop s)) f (ge_ G f) = va_up G.2.2.1 t (ge_ G t ++ (ge_ G f).drop s) := by
          funext j
          by_cases hj : j = f
          · subst hj; simp [va_up, hne]
          · simp [va_up, hj]
        simp only [se_]
        rw [e]
      · refine ⟨vp_in_nI (by omega) (by omega), fun s5 e5 => ?_⟩
        have h4 := (hR.1 f hf.1 hf.2).2.2.2.2
        rw [hfe] at h4
        refine k s5 (hR.ents hf.1 (by simp; omega) (fun e he => hR.2.1 f e (by rw [hfe]; exact List.mem_of_mem_take he)) (by rw [e5, ws_1_arr (by decide)]) (by rw [e5, ws_1_arr (by decide)]) (by rw [e5, ws_1_arr (by decide)]) (by rw [e5, ws_1_arr (by decide)]) (fun c hc => by rw [e5, ws_1_ne hc]) (by rw [e5, ws_1_at]; simp; congr 1; omega) (fun c j _ _ => by rw [e5, ws_1_arr (by decide)]) (fun c j _ _ => by rw [e5, ws_1_arr (by decide)]) (fun j hj => ?_)) (hF.tr (fun q q1 q2 => by rw [e5, ws_1_arr (by omega)]))
        have hj2 : j < s := by simp at hj; omega
        rw [e5, ws_1_arr (by decide), ws_1_arr (by decide)]
        have := h4 j (by omega)
        rw [this.1, this.2]
        simp only [List.getD_eq_getElem?_getD, List.getElem?_take_of_lt hj2]
        constructor <;> first | trivial | rfl
    · refine p_size hR ht ?_
      rw [hte]
      have hi2 : i < (ge_ (se_ G t (ge_ G t ++ ((ge_ G f).drop s).take (i - s))) f).length := by rw [hfe]; exact hlt
      refine p_key hw hR hf hi2 (p_goal hw hR hf hi2 ?_)
      have hbd := hR.bd hi2
      rw [hfe] at hbd ⊢
      have hlt2 : (ge_ G t ++ ((ge_ G f).drop s).take (i - s)).length < w := by simp; omega
      have hins := p_insert (b := t) (i := (ge_ G t ++ ((ge_ G f).drop s).take (i - s)).length) (x := ((ge_ G f).getD i (0, 0)).1) (g := ((ge_ G f).getD i (0, 0)).2) (post := fun st112 => ∀ x113 : Int32, x113 = nI i + 1 → wp_B_moveTail_3 w post n (nI f) (nI s) (nI t) x113 st112) hw hR ht (by rw [hte]; exact Nat.le_refl _) (by rw [hte]; exact hlt2) hbd.1 hbd.2 (fun s1 hR1 hF1 y hy => by
        rw [hy, nI_1]
        refine ih (i + 1) s1 (by omega) (by omega) (by omega) (hR1.eq ?_) (hF.tr hF1)
        rw [hte, il_end, se_se, tk_snoc hsi hlt, List.append_assoc])
      exact hins
theorem p_moveTail {f t s : Nat} {post : St_ → Prop} {G : Sg_} {st : St_} (hw : 5 ≤ w ∧ w ≤ 32) (hR : Rp_ w st G) (hf : 1 ≤ f ∧ f ≤ 1200) (ht : 1 ≤ t ∧ t ≤ 1200) (hne : f ≠ t) (hs : s ≤ (ge_ G f).length) (hl : (ge_ G t).length + ((ge_ G f).length - s) ≤ w)
    (k : ∀ st', Rp_ w st' (se_ (se_ G t (ge_ G t ++ (ge_ G f).drop s)) f ((ge_ G f).take s)) → Fr_ st st' → post st') : wp_B_moveTail w (nI f) (nI s) (nI t) st post := by
  unfold wp_B_moveTail
  refine ⟨(ge_ G f).length + 1, p_moveTail_loop hw hf ht hne hs hl st k _ s st (Nat.le_refl _) hs (by omega) (hR.eq ?_) Fr_.rf⟩
  have e : va_up G.2.2.1 t (ge_ G t) = G.2.2.1 := by
    funext j
    by_cases hj : j = t
    · subst hj; simp [va_up]
    · simp [va_up, hj]
  simp [se_, e]
/-- a block is taken -/
abbrev tk_ (G : Sg_) (b l : Nat) (f : List Nat) : Sg_ := (va_up G.1 b 1, va_up G.2.1 b l, va_up G.2.2.1 b [], f)
theorem p_take {st : St_} {G : Sg_} {b l : Nat} {f : List Nat} {post : Int32 → St_ → Prop} (hR : Rp_ w st G) (hf : gf_ G = f ++ [b]) (hb : 1 ≤ b ∧ b ≤ 1200)
    (k : ∀ st', Rp_ w st' (tk_ G b l f) → Fr_ st st' → post (nI b) st') : wp_B_take w (nI l) st post := by
  unfold wp_B_take
  obtain ⟨h1, h2, h3, h4, h5, hz0⟩ := hR
  have hln : (gf_ G).length = f.length + 1 := by rw [hf]; simp
  rw [h3]
  refine br_f (nI_nle (by omega) (by omega)) (br_t (nI_le (b := 1200) h4 (by omega)) (fun s1 e1 => ?_))
  rw [hln, nI_pred] at e1
  have e18 : s1 18 0 = nI f.length := by rw [e1, ws_1_at]
  rw [e18]
  refine ⟨vp_in_nI (by omega) (by omega), fun x hx => ?_⟩
  have hxb : x = nI b := by
    rw [hx, e1, ws_1_arr (by decide), nI_clamp (by omega), h5 f.length (by omega), hf]
    simp
  subst hxb
  refine p_isBlock hb (br_f (by decide) ⟨vp_in_nI (by omega) (by omega), fun s2 e2 => ⟨vp_in_nI (by omega) (by omega), fun s3 e3 => ⟨vp_in_nI (by omega) (by omega), fun s4 e4 => ?_⟩⟩⟩)
  rw [nI_clamp (by omega)] at e2 e3 e4
  have a0 : ∀ c, s4 0 c = if c = b then 1 else st 0 c := fun c => by
    rw [e4, ws_1_arr (by decide), e3, ws_1_arr (by decide), e2]
    by_cases hc : c = b
    · rw [if_pos hc, hc, ws_1_at]
    · rw [if_neg hc, ws_1_ne hc, e1, ws_1_arr (by decide)]
  have a1 : ∀ c, s4 1 c = if c = b then nI l else st 1 c := fun c => by
    rw [e4, ws_1_arr (by decide), e3]
    by_cases hc : c = b
    · rw [if_pos hc, hc, ws_1_at]
    · rw [if_neg hc, ws_1_ne hc, e2, ws_1_arr (by decide), e1, ws_1_arr (by decide)]
  have a2 : ∀ c, s4 2 c = if c = b then 0 else st 2 c := fun c => by
    rw [e4]
    by_cases hc : c = b
    · rw [if_pos hc, hc, ws_1_at]
    · rw [if_neg hc, ws_1_ne hc, e3, ws_1_arr (by decide), e2, ws_1_arr (by decide), e1, ws_1_arr (by decide)]
  have ak : ∀ q, q ≠ 0 → q ≠ 1 → q ≠ 2 → q ≠ 18 → s4 q = st q := fun q q0 q1 q2 q3 => by
    rw [e4, ws_1_arr q2, e3, ws_1_arr q1, e2, ws_1_arr q0, e1, ws_1_arr q3]
  have a18 : s4 18 0 = nI f.length := by rw [e4, ws_1_arr (by decide), e3, ws_1_arr (by decide), e2, ws_1_arr (by decide), e18]
  refine k s4 ⟨fun c c1 c2 => ?_, fun c e he => ?_, a18, by show f.length ≤ 1200; omega, fun i hi => ?_, by rw [a2, if_neg (by omega)]; exact hz0⟩ (fun q q1 q2 => ak q (by omega) (by omega) (by omega) q2)
  · obtain ⟨g0, g1, g2, g3, g4⟩ := h1 c c1 c2
    rw [a0, a1, a2, ak 3 (by decide) (by decide) (by decide) (by decide), ak 4 (by decide) (by decide) (by decide) (by decide)]
    by_cases hc : c = b
    · subst hc
      simp only [gw_, gl_, ge_, tk_, va_up, if_true]
      refine ⟨?_, ?_, ?_, ?_, fun i hi => by simp at hi⟩ <;> first | trivial | rfl | simp
    · simp only [gw_, gl_, ge_, tk_, va_up, hc, if_false]
      exact ⟨g0, g1, g2, g3, g4⟩
  · by_cases hc : c = b
    · subst hc; simp [gw_, gl_, ge_, tk_, va_up] at he
    · simp only [gw_, gl_, ge_, tk_, va_up, hc, if_false] at he
      exact h2 c e he
  · rw [ak 5 (by decide) (by decide) (by decide) (by decide)]
    have hi' : i < f.length := hi
    rw [h5 i (by omega), hf]
    simp only [List.getD_eq_getElem?_getD]
    rw [List.getElem?_append_left hi']
/-- a block is given back -/
abbrev gv_ (G : Sg_) (b : Nat) : Sg_ := (va_up G.1 b 0, va_up G.2.1 b 0, va_up G.2.2.1 b [], G.2.2.2 ++ [b])
theorem p_give {st : St_} {G : Sg_} {b : Nat} {post : St_ → Prop} (hR : Rp_ w st G) (hf : (gf_ G).length < 1200) (hb : 1 ≤ b ∧ b ≤ 1200)
    (k : ∀ st', Rp_ w st' (gv_ G b) → Fr_ st st' → post st') : wp_B_give w (nI b) st post := by
  unfold wp_B_give
  obtain ⟨h1, h2, h3, h4, h5, hz0⟩ := hR
  refine p_isBlock hb (br_f (by decide) ?_)
  rw [h3]
  refine br_f (nI_pos (by omega)) (br_f (nI_ge (b := 1200) hf (by omega)) ⟨vp_in_nI (by omega) (by omega), fun s1 e1 => ⟨vp_in_nI (by omega) (by omega), fun s2 e2 => ⟨vp_in_nI (by omega) (by omega), fun s3 e3 => ?_⟩⟩⟩)
  rw [nI_clamp (by omega)] at e1 e2 e3
  have e18 : s3 18 0 = nI (gf_ G).length := by rw [e3, ws_1_arr (by decide), e2, ws_1_arr (by decide), e1, ws_1_arr (by decide), h3]
  rw [e18]
  refine ⟨vp_in_nI hf (by omega), fun s4 e4 s5 e5 => ?_⟩
  rw [nI_clamp (by omega)] at e4
  have a0 : ∀ c, s5 0 c = if c = b then 0 else st 0 c := fun c => by
    rw [e5, ws_1_arr (by decide), e4, ws_1_arr (by decide), e3, ws_1_arr (by decide), e2, ws_1_arr (by decide), e1]
    by_cases hc : c = b
    · rw [if_pos hc, hc, ws_1_at]
    · rw [if_neg hc, ws_1_ne hc]
  have a1 : ∀ c, s5 1 c = if c = b then 0 else st 1 c := fun c => by
    rw [e5, ws_1_arr (by decide), e4, ws_1_arr (by decide), e3, ws_1_arr (by decide), e2]
    by_cases hc : c = b
    · rw [if_pos hc, hc, ws_1_at]
    · rw [if_neg hc, ws_1_ne hc, e1, ws_1_arr (by decide)]
  have a2 : ∀ c, s5 2 c = if c = b then 0 else st 2 c := fun c => by
    rw [e5, ws_1_arr (by decide), e4, ws_1_arr (by decide), e3]
    by_cases hc : c = b
    · rw [if_pos hc, hc, ws_1_at]
    · rw [if_neg hc, ws_1_ne hc, e2, ws_1_arr (by decide), e1, ws_1_arr (by decide)]
  have a5 : ∀ c, s5 5 c = if c = (gf_ G).length then nI b else st 5 c := fun c => by
    rw [e5, ws_1_arr (by decide), e4]
    by_cases hc : c = (gf_ G).length
    · rw [if_pos hc, hc, ws_1_at]
    · rw [if_neg hc, ws_1_ne hc, e3, ws_1_arr (by decide), e2, ws_1_arr (by decide), e1, ws_1_arr (by decide)]
  have ak : ∀ q, q ≠ 0 → q ≠ 1 → q ≠ 2 → q ≠ 5 → q ≠ 18 → s5 q = st q := fun q q0 q1 q2 q4 q3 => by
    rw [e5, ws_1_arr q3, e4, ws_1_arr q4, e3, ws_1_arr q2, e2, ws_1_arr q1, e1, ws_1_arr q0]
  have a18 : s5 18 0 = nI ((gf_ G).length + 1) := by
    rw [e5, ws_1_at, e4, ws_1_arr (by decide), e18, nI_1]
  refine k s5 ⟨fun c c1 c2 => ?_, fun c e he => ?_, by rw [a18]; show nI ((gf_ G).length + 1) = nI (gf_ G ++ [b]).length; simp, by show (gf_ G ++ [b]).length ≤ 1200; simp; omega, fun i hi => ?_, by rw [a2, if_neg (by omega)]; exact hz0⟩ (fun q q1 q2 => ak q (by omega) (by omega) (by omega) (by omega) q2)
  · obtain ⟨g0, g1, g2, g3, g4⟩ := h1 c c1 c2
    rw [a0, a1, a2, ak 3 (by decide) (by decide) (by decide) (by decide) (by decide), ak 4 (by decide) (by decide) (by decide) (by decide) (by decide)]
    by_cases hc : c = b
    · subst hc
      simp only [gw_, gl_, ge_, gv_, va_up, if_true]
      refine ⟨?_, ?_, ?_, ?_, fun i hi => by simp at hi⟩ <;> first | trivial | rfl | simp
    · simp only [gw_, gl_, ge_, gv_, va_up, hc, if_false]
      exact ⟨g0, g1, g2, g3, g4⟩
  · by_cases hc : c = b
    · subst hc; simp [gw_, gl_, ge_, gv_, va_up] at he
    · simp only [gw_, gl_, ge_, gv_, va_up, hc, if_false] at he
      exact h2 c e he
  · rw [a5]
    have hi' : i < (gf_ G ++ [b]).length := hi
    rw [List.length_append, List.length_singleton] at hi'
    show _ = nI ((gf_ G ++ [b]).getD i 0)
    simp only [List.getD_eq_getElem?_getD]
    by_cases hc : i = (gf_ G).length
    · rw [if_pos hc, hc, List.getElem?_append_right (Nat.le_refl _)]
      simp
    · rw [if_neg hc, List.getElem?_append_left (by omega), h5 i (by omega), List.getD_eq_getElem?_getD]
theorem Rp_.ways {st st' : St_} {G : Sg_} (hR : Rp_ w st G) {b n : Nat} (e0 : st' 0 b = nI n) (e1 : ∀ c, c ≠ b → st' 0 c = st 0 c) (ek : ∀ q, q ≠ 0 → st' q = st q) : Rp_ w st' (sw_ G b n) := by
  obtain ⟨h1, h2, h3, h4, h5, hz0⟩ := hR
  refine ⟨fun c c1 c2 => ?_, h2, by rw [ek 18 (by decide)]; exact h3, h4, fun i hi => by rw [ek 5 (by decide)]; exact h5 i hi, by rw [ek 2 (by decide)]; exact hz0⟩
  obtain ⟨g0, g1, g2, g3, g4⟩ := h1 c c1 c2
  refine ⟨?_, by rw [ek 1 (by decide)]; exact g1, by rw [ek 2 (by decide)]; exact g2, g3, fun i hi => by rw [ek 3 (by decide), ek 4 (by decide)]; exact g4 i hi⟩
  by_cases hc : c = b
  · subst hc; simp only [gw_, sw_, va_up, if_true]; exact e0
  · simp only [gw_, sw_, va_up, hc, if_false]; rw [e1 c hc]; exact g0
theorem p_share {st : St_} {G : Sg_} {b : Nat} {post : St_ → Prop} (hR : Rp_ w st G) (hb : 1 ≤ b ∧ b ≤ 1200)
    (k : ∀ st', Rp_ w st' (sw_ G b (gw_ G b + 1)) → Fr_ st st' → post st') : wp_B_share w (nI b) st post := by
  unfold wp_B_share
  refine p_isBlock hb (br_f (by decide) ⟨vp_in_nI (by omega) (by omega), vp_in_nI (by omega) (by omega), fun s1 e1 => ?_⟩)
  rw [nI_clamp (by omega), (hR.1 b hb.1 hb.2).1, nI_1] at e1
  exact k s1 (hR.ways (by rw [e1, ws_1_at]) (fun c hc => by rw [e1, ws_1_ne hc]) (fun q hq => by rw [e1, ws_1_arr hq])) (fun q q1 q2 => by rw [e1, ws_1_arr (by omega)])
theorem p_share0 {st : St_} {post : St_ → Prop} (k : post st) : wp_B_share w 0 st post := by
  unfold wp_B_share
  exact p_isBlock0 (br_t rfl k)
theorem p_lose {st : St_} {G : Sg_} {b : Nat} {post : Int32 → St_ → Prop} (hR : Rp_ w st G) (hb : 1 ≤ b ∧ b ≤ 1200) (h1 : 1 ≤ gw_ G b) (h2 : gw_ G b < 2 ^ 31)
    (k : ∀ st', Rp_ w st' (sw_ G b (gw_ G b - 1)) → Fr_ st st' → post (if gw_ G b = 1 then 1 else 0) st') : wp_B_lose w (nI b) st post := by
  unfold wp_B_lose
  refine p_isBlock hb (br_f (by decide) ⟨vp_in_nI (by omega) (by omega), ?_⟩)
  rw [nI_clamp (by omega), (hR.1 b hb.1 hb.2).1]
  refine br_t (nI_lt (a := 0) (by omega) h2) ⟨vp_in_nI (by omega) (by omega), vp_in_nI (by omega) (by omega), fun s1 e1 => ⟨vp_in_nI (by omega) (by omega), ?_⟩⟩
  have em : nI (gw_ G b) - 1 = nI (gw_ G b - 1) := by
    have := nI_pred (gw_ G b - 1)
    rw [show gw_ G b - 1 + 1 = gw_ G b by omega] at this
    exact this
  rw [em] at e1
  have e0 : s1 0 b = nI (gw_ G b - 1) := by rw [e1, ws_1_at]
  have hk := k s1 (hR.ways e0 (fun c hc => by rw [e1, ws_1_ne hc]) (fun q hq => by rw [e1, ws_1_arr hq])) (fun q q1 q2 => by rw [e1, ws_1_arr (by omega)])
  rw [e0]
  by_cases h : gw_ G b = 1
  · rw [if_pos h] at hk
    exact rb_f (by rw [h]; rfl) hk
  · rw [if_neg h] at hk
    exact rb_t (nI_ne0 (by omega) (by omega)) hk
end PB3
end
section
-- PURE: Blocks.owned
section PO
variable {w : Nat}
/-- the copy c of block b, i entries shared -/
abbrev ci_ (G : Sg_) (b c : Nat) (f : List Nat) (i : Nat) : Sg_ :=
  (fun x => va_up G.1 c 1 x + cn_ x ((G.2.2.1 b).take i), va_up G.2.1 c (G.2.1 b), va_up G.2.2.1 c (G.2.2.1 b), f)
abbrev cp_ (G : Sg_) (b c : Nat) (f : List Nat) : Sg_ :=
  (fun x => va_up G.1 c 1 x + (if G.2.1 b = 0 then 0 else cn_ x (G.2.2.1 b)) - (if x = b then 1 else 0), va_up G.2.1 c (G.2.1 b), va_up G.2.2.1 c (G.2.2.1 b), f)
theorem tk_1 {l : List (Nat × Nat)} {i : Nat} (hi : i < l.length) : l.take (i + 1) = l.take i ++ [l.getD i (0, 0)] := by
  rw [List.take_succ, List.getElem?_eq_getElem hi, List.getD_eq_getElem?_getD, List.getElem?_eq_getElem hi]
  rfl
theorem gd_mem {l : List (Nat × Nat)} {i : Nat} (hi : i < l.length) : l.getD i (0, 0) ∈ l := by
  rw [List.getD_eq_getElem?_getD, List.getElem?_eq_getElem hi]
  exact List.getElem_mem hi
theorem Sg_ext {A B : Sg_} (h0 : ∀ x, A.1 x = B.1 x) (h1 : ∀ x, A.2.1 x = B.2.1 x) (h2 : ∀ x, A.2.2.1 x = B.2.2.1 x) (h3 : A.2.2.2 = B.2.2.2) : A = B := by
  obtain ⟨a, b, c, d⟩ := A
  obtain ⟨a', b', c', d'⟩ := B
  obtain rfl : a = a' := funext h0
  obtain rfl : b = b' := funext h1
  obtain rfl : c = c' := funext h2
  obtain rfl : d = d' := h3
  rfl
theorem p_copyEntries {st : St_} {G : Sg_} {b c : Nat} {post : St_ → Prop} (hw : 5 ≤ w ∧ w ≤ 32) (hR : Rp_ w st G) (hb : 1 ≤ b ∧ b ≤ 1200) (hc : 1 ≤ c ∧ c ≤ 1200)
    (k : ∀ st', Rp_ w st' (se_ G c (ge_ G b)) → Fr_ st st' → post st') : wp_B_copyEntries w (nI b) (nI c) st post := by
  unfold wp_B_copyEntries
  obtain ⟨h0, h1, h2, h3, h4⟩ := hR.1 b hb.1 hb.2
  have h5 : b * w + w ≤ 1201 * w := by
    have := Nat.mul_le_mul_right w hb.2
    omega
  have h5' : c * w + w ≤ 1201 * w := by
    have := Nat.mul_le_mul_right w hc.2
    omega
  have h6 := ix_big hw.2
  refine p_isBlock hb (br_f (by decide) (p_isBlock hc (br_f (by decide) ?_)))
  simp only [pk_mul, nI_clamp (n := b * w) (by omega), nI_clamp (n := c * w) (by omega), nI_clamp (n := w) (by omega), nI_clamp (n := b) (by omega), nI_clamp (n := c) (by omega)]
  refine ⟨⟨nI_pos (by omega), nI_pos (by omega), nI_pos (by omega), h5, h5'⟩, fun s1 e1 => ⟨⟨nI_pos (by omega), nI_pos (by omega), nI_pos (by omega), h5, h5'⟩, fun s2 e2 => ⟨vp_in_nI (by omega) (by omega), vp_in_nI (by omega) (by omega), fun s3 e3 => ?_⟩⟩⟩
  have k3 : ∀ q, s3 3 q = va_cpy (st 3) (st 3) (b * w) (c * w) w q := by
    intro q
    rw [e3, ws_1_arr (by decide), e2, ws_c_arr (by decide), e1]
    simp [ws_c, va_up]
  have k4 : ∀ q, s3 4 q = va_cpy (st 4) (st 4) (b * w) (c * w) w q := by
    intro q
    rw [e3, ws_1_arr (by decide), e2]
    simp only [ws_c, va_up, if_true]
    rw [e1]
    simp [ws_c, va_up]
  have kk : ∀ q, q ≠ 2 → q ≠ 3 → q ≠ 4 → s3 q = st q := by
    intro q q2 q3 q4
    rw [e3, ws_1_arr q2, e2, ws_c_arr q4, e1, ws_c_arr q3]
  have g2 : s2 2 = st 2 := by rw [e2, ws_c_arr (by decide), e1, ws_c_arr (by decide)]
  have k2 : ∀ d, s3 2 d = if d = c then nI (ge_ G b).length else st 2 d := by
    intro d
    rw [e3]
    by_cases hd : d = c
    · rw [if_pos hd, hd, ws_1_at, g2, h2]
    · rw [if_neg hd, ws_1_ne hd, g2]
  refine k s3 (hR.ents hc.1 h3 (fun e he => hR.2.1 b e he) (kk 0 (by decide) (by decide) (by decide)) (kk 1 (by decide) (by decide) (by decide)) (kk 5 (by decide) (by decide) (by decide)) (kk 18 (by decide) (by decide) (by decide)) (fun d hd => by rw [k2, if_neg hd]) (by rw [k2, if_pos rfl]) (fun d j hd hj => ?_) (fun d j hd hj => ?_) (fun j hj => ?_)) (fun q q1 q2 => kk q (by omega) (by omega) (by omega))
  · have hne : ∀ t, t < w → d * w + j ≠ c * w + t := fun t ht e => hd (ix_inj hj ht e).1
    rw [k3, pk_cpy_out]
    by_cases hlo : d * w + j < c * w
    · exact Or.inl hlo
    · refine Or.inr (Nat.not_lt.mp fun hh => ?_)
      exact hne (d * w + j - c * w) (by omega) (by omega)
  · have hne : ∀ t, t < w → d * w + j ≠ c * w + t := fun t ht e => hd (ix_inj hj ht e).1
    rw [k4, pk_cpy_out]
    by_cases hlo : d * w + j < c * w
    · exact Or.inl hlo
    · refine Or.inr (Nat.not_lt.mp fun hh => ?_)
      exact hne (d * w + j - c * w) (by omega) (by omega)
  · rw [k3, k4, pk_cpy_in (by omega) (by omega), pk_cpy_in (by omega) (by omega)]
    rw [show b * w + (c * w + j - c * w) = b * w + j by omega]
    exact h4 j hj
theorem p_owned_loop {G : Sg_} {b c : Nat} {f : List Nat} {post : Int32 → St_ → Prop} (hw : 5 ≤ w ∧ w ≤ 32) (hb : 1 ≤ b ∧ b ≤ 1200) (hbc : b ≠ c) (hl : (ge_ G b).length ≤ w) (hne : ¬ gl_ G b = 0)
    (hch : ∀ e ∈ ge_ G b, 1 ≤ e.2 ∧ e.2 ≤ 1200) (h1 : 1 ≤ gw_ G b) (h2 : ∀ i, gw_ (ci_ G b c f i) b < 2 ^ 31) (st0 : St_)
    (k : ∀ st', Rp_ w st' (cp_ G b c f) → Fr_ st0 st' → post (nI c) st') :
    ∀ (n i : Nat) (st : St_), i ≤ (ge_ G b).length → (ge_ G b).length < n + i → Rp_ w st (ci_ G b c f i) → Fr_ st0 st → wp_B_owned_37 w post n (nI b) (nI c) (nI i) st := by
  have hne' : ¬ G.2.1 b = 0 := hne
  intro n
  induction n with
  | zero => intro i st h3 h4; omega
  | succ n ih =>
    intro i st hi hn hR hF
    have heb : ge_ (ci_ G b c f i) b = ge_ G b := by simp [gw_, gl_, ge_, ci_, cp_, se_, sw_, tk_, va_up, hbc]
    refine p_size hR hb ?_
    rw [heb]
    refine pk_le (ge_ G b).length i (fun hle => ?_) (fun hlt => ?_) rfl rfl (by omega) (by omega)
    · have hie : i = (ge_ G b).length := by omega
      subst hie
      have hge : 1 ≤ gw_ (ci_ G b c f (ge_ G b).length) b := by
        show 1 ≤ va_up G.1 c 1 b + _
        simp only [gw_, gl_, ge_, ci_, cp_, se_, sw_, tk_, va_up, hbc, if_false]
        have : 1 ≤ G.1 b := h1
        omega
      refine p_lose hR hb hge (h2 _) (fun s1 hR1 hF1 => ?_)
      refine k s1 (hR1.eq (Sg_ext (fun x => ?_) (fun x => rfl) (fun x => rfl) rfl)) (hF.tr hF1)
      by_cases hx : x = b
      · subst hx
        simp only [gw_, gl_, ge_, ci_, cp_, se_, sw_, tk_, va_up, if_true, List.take_length, hne', if_false]
      · simp only [gw_, gl_, ge_, ci_, cp_, se_, sw_, tk_, va_up, hx, if_false, List.take_length, Nat.sub_zero, hne']
    · have hi2 : i < (ge_ (ci_ G b c f i) b).length := by rw [heb]; exact hlt
      refine p_goal hw hR hb hi2 ?_
      rw [heb]
      have hg := hch _ (gd_mem hlt)
      refine p_share hR hg (fun s2 hR2 hF2 => ?_)
      intro y hy
      rw [hy, nI_1]
      refine ih (i + 1) s2 (by omega) (by omega) (hR2.eq (Sg_ext (fun x => ?_) (fun x => rfl) (fun x => rfl) rfl)) (hF.tr hF2)
      have ht : cn_ x ((G.2.2.1 b).take (i + 1)) = cn_ x ((G.2.2.1 b).take i) + (if ((G.2.2.1 b).getD i (0, 0)).2 = x then 1 else 0) := by
        have := tk_1 hlt
        rw [show (G.2.2.1 b).take (i + 1) = (G.2.2.1 b).take i ++ [(G.2.2.1 b).getD i (0, 0)] from this, cn_app]
        simp [cn_]
      by_cases hx : x = ((ge_ G b).getD i (0, 0)).2
      · have hx' : ((G.2.2.1 b).getD i (0, 0)).2 = x := hx.symm
        show _ = va_up G.1 c 1 x + cn_ x ((G.2.2.1 b).take (i + 1))
        rw [ht, if_pos hx']
        rw [hx]
        simp only [gw_, gl_, ge_, ci_, cp_, se_, sw_, tk_, va_up, if_true]
        omega
      · have hx' : ¬ ((G.2.2.1 b).getD i (0, 0)).2 = x := fun e => hx e.symm
        show _ = va_up G.1 c 1 x + cn_ x ((G.2.2.1 b).take (i + 1))
        rw [ht, if_neg hx']
        simp only [gw_, gl_, ge_, ci_, cp_, se_, sw_, tk_, va_up, hx, if_false]
        omega
theorem p_owned1 {st : St_} {G : Sg_} {b : Nat} {post : Int32 → St_ → Prop} (hR : Rp_ w st G) (hb : 1 ≤ b ∧ b ≤ 1200) (h1 : gw_ G b ≤ 1) (k : post (nI b) st) : wp_B_owned w (nI b) st post := by
  unfold wp_B_owned
  refine p_ways hR hb (br_f ?_ k)
  exact nI_nlt (a := 1) h1 (by omega)
theorem p_owned2 {st : St_} {G : Sg_} {b c : Nat} {f : List Nat} {post : Int32 → St_ → Prop} (hw : 5 ≤ w ∧ w ≤ 32) (hR : Rp_ w st G) (hb : 1 ≤ b ∧ b ≤ 1200) (h1 : 2 ≤ gw_ G b) (h2 : gw_ G b + cn_ b (ge_ G b) < 2 ^ 31) (hlv : gl_ G b ≤ 16)
    (hf : gf_ G = f ++ [c]) (hc : 1 ≤ c ∧ c ≤ 1200) (hbc : b ≠ c) (hch : gl_ G b ≠ 0 → ∀ e ∈ ge_ G b, 1 ≤ e.2 ∧ e.2 ≤ 1200)
    (k : ∀ st', Rp_ w st' (cp_ G b c f) → Fr_ st st' → post (nI c) st') : wp_B_owned w (nI b) st post := by
  unfold wp_B_owned
  refine p_ways hR hb (br_t (nI_lt (a := 1) (by omega) (by omega)) (p_level hR hb (p_take hR hf hc (fun s1 hR1 hF1 => p_copyEntries hw hR1 hb hc (fun s2 hR2 hF2 => p_level hR2 hb ?_)))))
  have hl := (hR.1 b hb.1 hb.2).2.2.2.1
  have heb : ge_ (tk_ G c (gl_ G b) f) b = ge_ G b := by simp [gw_, gl_, ge_, se_, sw_, tk_, va_up, hbc]
  have hlb : gl_ (se_ (tk_ G c (gl_ G b) f) c (ge_ (tk_ G c (gl_ G b) f) b)) b = gl_ G b := by simp [gw_, gl_, ge_, se_, sw_, tk_, va_up, hbc]
  have hwb : gw_ (se_ (tk_ G c (gl_ G b) f) c (ge_ (tk_ G c (gl_ G b) f) b)) b = gw_ G b := by simp [gw_, gl_, ge_, se_, sw_, tk_, va_up, hbc]
  rw [hlb]
  refine pk_le (gl_ G b) 0 (fun h0 => ?_) (fun h0 => ?_) rfl rfl (by omega) (by omega)
  · have h0' : G.2.1 b = 0 := by
      have : gl_ G b = 0 := by omega
      exact this
    refine p_lose hR2 hb (by rw [hwb]; omega) (by rw [hwb]; omega) (fun s3 hR3 hF3 => ?_)
    refine k s3 (hR3.eq (Sg_ext (fun x => ?_) (fun x => rfl) (fun x => ?_) rfl)) ((hF1.tr hF2).tr hF3)
    · by_cases hx : x = b
      · subst hx
        simp only [gw_, gl_, ge_, ci_, cp_, se_, sw_, tk_, va_up, if_true, h0', Nat.add_zero]
      · simp only [gw_, gl_, ge_, ci_, cp_, se_, sw_, tk_, va_up, hx, if_false, h0', if_true, Nat.add_zero, Nat.sub_zero]
    · show va_up (va_up G.2.2.1 c []) c (ge_ (tk_ G c (gl_ G b) f) b) x = va_up G.2.2.1 c (G.2.2.1 b) x
      rw [heb, bx_uu]
  · refine ⟨(ge_ G b).length + 1, p_owned_loop hw hb hbc hl (by omega) (hch (by omega)) (by omega) (fun i => ?_) st k _ 0 s2 (Nat.zero_le _) (by omega) (hR2.eq (Sg_ext (fun x => ?_) (fun x => rfl) (fun x => ?_) rfl)) (hF1.tr hF2)⟩
    · show va_up G.1 c 1 b + _ < _
      simp only [gw_, gl_, ge_, ci_, cp_, se_, sw_, tk_, va_up, hbc, if_false]
      have h3 : cn_ b ((G.2.2.1 b).take i) ≤ cn_ b (G.2.2.1 b) := by
        have := cn_app b ((G.2.2.1 b).take i) ((G.2.2.1 b).drop i)
        rw [List.take_append_drop] at this
        omega
      have h4 : gw_ G b + cn_ b (ge_ G b) < 2 ^ 31 := h2
      show G.1 b + _ < _
      have h5 : G.1 b + cn_ b (G.2.2.1 b) < 2 ^ 31 := h4
      omega
    · simp [cn_]
    · show va_up (va_up G.2.2.1 c []) c (ge_ (tk_ G c (gl_ G b) f) b) x = va_up G.2.2.1 c (G.2.2.1 b) x
      rw [heb, bx_uu]
end PO
end
section
-- PURE: trees in the store
/-- what a block holds, level l: its pairs of a key and a stamp, in order -/
def et_ (E : Nat → List (Nat × Nat)) : Nat → Nat → List (Nat × Nat)
  | 0, b => E b
  | l + 1, b => (E b).flatMap (fun e => et_ E l e.2)
abbrev fm_ (E : Nat → List (Nat × Nat)) (l : Nat) (L : List (Nat × Nat)) : List (Nat × Nat) := L.flatMap (fun e => et_ E l e.2)
theorem fm_congr {E E' : Nat → List (Nat × Nat)} {l : Nat} {L : List (Nat × Nat)} (h : ∀ e ∈ L, et_ E' l e.2 = et_ E l e.2) : fm_ E' l L = fm_ E l L := by
  induction L with
  | nil => rfl
  | cons e L ih =>
    simp only [fm_, List.flatMap_cons]
    rw [h e List.mem_cons_self]
    have := ih (fun d hd => h d (List.mem_cons_of_mem _ hd))
    simp only [fm_] at this
    rw [this]
theorem et_same {E E' : Nat → List (Nat × Nat)} (P : Nat → Nat → Prop) (h : ∀ l y, P l y → E' y = E y) (hc : ∀ l y, P (l + 1) y → ∀ e ∈ E y, P l e.2) : ∀ l y, P l y → et_ E' l y = et_ E l y := by
  intro l
  induction l with
  | zero => intro y hy; exact h 0 y hy
  | succ l ih =>
    intro y hy
    show (E' y).flatMap _ = (E y).flatMap _
    rw [h _ y hy]
    exact fm_congr (fun e he => ih e.2 (hc l y hy e he))
theorem et_succ (E : Nat → List (Nat × Nat)) (l b : Nat) : et_ E (l + 1) b = fm_ E l (E b) := rfl
theorem fm_app (E : Nat → List (Nat × Nat)) (l : Nat) (A B : List (Nat × Nat)) : fm_ E l (A ++ B) = fm_ E l A ++ fm_ E l B := by simp [fm_]
theorem fm_cons (E : Nat → List (Nat × Nat)) (l : Nat) (e : Nat × Nat) (B : List (Nat × Nat)) : fm_ E l (e :: B) = et_ E l e.2 ++ fm_ E l B := by simp [fm_]
theorem fm_nil (E : Nat → List (Nat × Nat)) (l : Nat) : fm_ E l [] = [] := rfl
theorem fm_su (E : Nat → List (Nat × Nat)) (l : Nat) (L : List (Nat × Nat)) : (fm_ E l L).length = su_ (fun y => (et_ E l y).length) L := by
  induction L with
  | nil => rfl
  | cons e L ih => rw [fm_cons, List.length_append, ih]; rfl
/-- the number of ways to x from nodes -/
def eg_ (G : Sg_) (x : Nat) : Nat := sm_ 1201 (fun p => if gw_ G p = 0 ∨ gl_ G p = 0 then 0 else cn_ x (ge_ G p))
/-- a block is as it should be; X: blocks that may have too many or too few entries -/
def Vn_ (w : Nat) (X : List Nat) (G : Sg_) (b : Nat) : Prop :=
  (b ∉ X → 1 ≤ (ge_ G b).length ∧ (ge_ G b).length + 1 ≤ w) ∧ so_ (et_ (ge_ G) (gl_ G b) b) ∧
  (gl_ G b ≠ 0 → ∀ e ∈ ge_ G b, 1 ≤ gw_ G e.2 ∧ gl_ G e.2 + 1 = gl_ G b ∧ (e.2 ∉ X → w / 2 ≤ (ge_ G e.2).length) ∧ (ge_ G e.2).head?.map Prod.fst = some e.1)
/-- ways are counted, the free are listed, blocks up to level l are as they should be; R: the ways from outside; Z: blocks that are being freed -/
def Ic_ (w : Nat) (X : List Nat) (l : Nat) (R : Nat → Nat) (Z : List Nat) (G : Sg_) : Prop :=
  (∀ b, 1 ≤ gw_ G b → 1 ≤ b ∧ b ≤ 1200 ∧ gl_ G b ≤ 16) ∧
  ((gf_ G).Nodup ∧ (∀ b ∈ gf_ G, 1 ≤ b ∧ b ≤ 1200 ∧ gw_ G b = 0) ∧ ∀ b, 1 ≤ b → b ≤ 1200 → gw_ G b = 0 → b ∈ gf_ G ∨ b ∈ Z) ∧
  (∀ b, 1 ≤ b → gw_ G b = R b + eg_ G b) ∧
  (∀ b, 1 ≤ gw_ G b → gl_ G b ≤ l → Vn_ w X G b)
abbrev kp_ (G : Sg_) (y : Nat) : Nat := (et_ (ge_ G) (gl_ G y) y).length
section TR
variable {w l : Nat} {X : List Nat} {R : Nat → Nat} {Z : List Nat} {G : Sg_}
theorem Ic_.child (hI : Ic_ w X l R Z G) {b : Nat} (hb : 1 ≤ gw_ G b) (hl : gl_ G b ≤ l) (h0 : gl_ G b ≠ 0) {e : Nat × Nat} (he : e ∈ ge_ G b) :
    1 ≤ gw_ G e.2 ∧ gl_ G e.2 + 1 = gl_ G b ∧ (e.2 ∉ X → w / 2 ≤ (ge_ G e.2).length) ∧ (ge_ G e.2).head?.map Prod.fst = some e.1 := (hI.2.2.2 b hb hl).2.2 h0 e he
theorem hd_len {L : List (Nat × Nat)} {h : Nat} (hh : L.head?.map Prod.fst = some h) : 1 ≤ L.length := by
  cases L with
  | nil => simp at hh
  | cons e L => simp
theorem fm_len {E : Nat → List (Nat × Nat)} {l : Nat} {L : List (Nat × Nat)} (h : ∀ e ∈ L, 1 ≤ (et_ E l e.2).length) : L.length ≤ (fm_ E l L).length := by
  induction L with
  | nil => exact Nat.le_refl _
  | cons e L ih =>
    rw [fm_cons, List.length_append, List.length_cons]
    have h1 := h e List.mem_cons_self
    have h2 := ih (fun d hd => h d (List.mem_cons_of_mem _ hd))
    omega
theorem kp_len (hw : 5 ≤ w) (hI : Ic_ w X l R Z G) : ∀ (n y : Nat), 1 ≤ gw_ G y → gl_ G y = n → n ≤ l → (ge_ G y).length ≤ (et_ (ge_ G) n y).length := by
  intro n
  induction n with
  | zero => intro y _ _ _; exact Nat.le_refl _
  | succ n ih =>
    intro y h1 h2 h3
    refine fm_len (fun e he => ?_)
    obtain ⟨g1, g2, g3, g4⟩ := hI.child h1 (by omega) (by omega) he
    have := ih e.2 g1 (by omega) (by omega)
    have := hd_len g4
    omega
theorem kp_one (hw : 5 ≤ w) (hI : Ic_ w X l R Z G) {b n : Nat} (hb : 1 ≤ gw_ G b) (hl : gl_ G b ≤ l) (hn : gl_ G b = n + 1) {e : Nat × Nat} (he : e ∈ ge_ G b) : 1 ≤ (et_ (ge_ G) n e.2).length := by
  obtain ⟨g1, g2, g3, g4⟩ := hI.child hb hl (by omega) he
  have := kp_len hw hI n e.2 g1 (by omega) (by omega)
  have := hd_len g4
  omega
theorem kp_kid (hw : 5 ≤ w) (hI : Ic_ w X l R Z G) {b n : Nat} (hb : 1 ≤ gw_ G b) (hl : gl_ G b ≤ l) (hn : gl_ G b = n + 1) {e : Nat × Nat} (he : e ∈ ge_ G b) (heX : e.2 ∉ X) : 2 ≤ (et_ (ge_ G) n e.2).length := by
  obtain ⟨g1, g2, g3, g4⟩ := hI.child hb hl (by omega) he
  have := kp_len hw hI n e.2 g1 (by omega) (by omega)
  have := g3 heX
  omega
theorem et_hd (hw : 5 ≤ w) (hI : Ic_ w X l R Z G) : ∀ (n y : Nat), 1 ≤ gw_ G y → gl_ G y = n → n ≤ l → (et_ (ge_ G) n y).head?.map Prod.fst = (ge_ G y).head?.map Prod.fst := by
  intro n
  induction n with
  | zero => intro y _ _ _; rfl
  | succ n ih =>
    intro y h1 h2 h3
    rw [et_succ]
    cases hy : ge_ G y with
    | nil => rfl
    | cons e L =>
      have he : e ∈ ge_ G y := by rw [hy]; exact List.mem_cons_self
      obtain ⟨g1, g2, g3, g4⟩ := hI.child h1 (by omega) (by omega) he
      have h4 := ih e.2 g1 (by omega) (by omega)
      have h5 := kp_one hw hI h1 (by omega) h2 he
      rw [fm_cons]
      cases hc : et_ (ge_ G) n e.2 with
      | nil => rw [hc] at h5; simp at h5
      | cons d D =>
        rw [hc] at h4
        simp only [List.cons_append, List.head?_cons, Option.map_some] at h4 ⊢
        rw [h4, g4]
theorem kp_pow (hw : 5 ≤ w) (hI : Ic_ w [] l R Z G) : ∀ (n y : Nat), 1 ≤ gw_ G y → gl_ G y = n → n ≤ l → 2 ≤ (ge_ G y).length → 2 ^ (n + 1) ≤ (et_ (ge_ G) n y).length := by
  intro n
  induction n with
  | zero => intro y _ _ _ h; exact h
  | succ n ih =>
    intro y h1 h2 h3 h4
    have hk : ∀ e ∈ ge_ G y, 2 ^ (n + 1) ≤ (et_ (ge_ G) n e.2).length := fun e he => by
      obtain ⟨g1, g2, g3, g4⟩ := hI.child h1 (by omega) (by omega) he
      have := g3 (by simp)
      exact ih e.2 g1 (by omega) (by omega) (by omega)
    have hs : ∀ L : List (Nat × Nat), (∀ e ∈ L, 2 ^ (n + 1) ≤ (et_ (ge_ G) n e.2).length) → L.length * 2 ^ (n + 1) ≤ (fm_ (ge_ G) n L).length := by
      intro L
      induction L with
      | nil => intro _; simp
      | cons e L ihL =>
        intro hL
        have a1 := hL e List.mem_cons_self
        have a2 := ihL (fun d hd => hL d (List.mem_cons_of_mem _ hd))
        rw [fm_cons, List.length_append, List.length_cons, Nat.add_mul]
        omega
    have h5 := hs _ hk
    rw [et_succ]
    have h6 : 2 * 2 ^ (n + 1) ≤ (ge_ G y).length * 2 ^ (n + 1) := Nat.mul_le_mul_right _ h4
    rw [Nat.pow_succ]
    omega
theorem so_hd {L : List (Nat × Nat)} (hs : so_ L) {h : Nat} (hh : L.head?.map Prod.fst = some h) : ∀ q ∈ L, h ≤ q.1 := by
  cases L with
  | nil => simp at hh
  | cons e L =>
    simp only [List.head?_cons, Option.map_some, Option.some.injEq] at hh
    intro q hq
    rcases List.mem_cons.mp hq with rfl | hq
    · omega
    · have := (so_cons.mp hs).1 q hq
      omega
theorem hd_mem {L : List (Nat × Nat)} {h : Nat} (hh : L.head?.map Prod.fst = some h) : ∃ q ∈ L, q.1 = h := by
  cases L with
  | nil => simp at hh
  | cons e L =>
    simp only [List.head?_cons, Option.map_some, Option.some.injEq] at hh
    exact ⟨e, List.mem_cons_self, hh⟩
theorem spl_ {L : List (Nat × Nat)} {i : Nat} (hi : i < L.length) : L = L.take i ++ L.getD i (0, 0) :: L.drop (i + 1) := by
  have h1 : L.drop i = L.getD i (0, 0) :: L.drop (i + 1) := by
    rw [List.drop_eq_getElem_cons hi, List.getD_eq_getElem?_getD, List.getElem?_eq_getElem hi]
    rfl
  rw [← h1, List.take_append_drop]
/-- on the way down: what lies left of the child has lesser keys, what lies right of it greater ones -/
theorem loc_ (hw : 5 ≤ w) (hI : Ic_ w X l R Z G) {b n k j : Nat} (hb : 1 ≤ gw_ G b) (hl : gl_ G b ≤ l) (hn : gl_ G b = n + 1) (h1 : 1 ≤ (ge_ G b).length) (hj : fk_ (ge_ G b) k j) :
    j - 1 < (ge_ G b).length ∧ (∀ q ∈ fm_ (ge_ G) n ((ge_ G b).take (j - 1)), q.1 < k) ∧ (∀ q ∈ fm_ (ge_ G) n ((ge_ G b).drop (j - 1 + 1)), k < q.1) := by
  obtain ⟨j1, j2, j3⟩ := hj
  have hi : j - 1 < (ge_ G b).length := by omega
  have hso := (hI.2.2.2 b hb hl).2.1
  rw [hn, et_succ, spl_ hi, fm_app, fm_cons] at hso
  obtain ⟨s1, s2, s3⟩ := so_app.mp hso
  obtain ⟨s4, s5, s6⟩ := so_app.mp s2
  have hcm := gd_mem hi
  obtain ⟨g1, g2, g3, g4⟩ := hI.child hb hl (by omega) hcm
  have hh := et_hd hw hI n ((ge_ G b).getD (j - 1) (0, 0)).2 g1 (by omega) (by omega)
  rw [g4] at hh
  obtain ⟨c0, hc0, hc1⟩ := hd_mem hh
  refine ⟨hi, fun q hq => ?_, fun q hq => ?_⟩
  · by_cases hj0 : j = 0
    · subst hj0; simp [fm_] at hq
    · have h2 := s3 q hq c0 (List.mem_append_left _ hc0)
      have h3 := j2 (j - 1) (by omega)
      omega
  · by_cases hj0 : j = 0
    · subst hj0
      have h2 := s6 c0 hc0 q hq
      have h3 := j3 (by omega)
      simp only [Nat.zero_sub] at hc1
      omega
    · have hjl : j < (ge_ G b).length := by
        rcases Nat.lt_or_ge j (ge_ G b).length with h | h
        · exact h
        · rw [List.drop_eq_nil_of_le (by omega)] at hq
          simp [fm_] at hq
      have h3 := j3 hjl
      have hd : (ge_ G b).drop (j - 1 + 1) = (ge_ G b).getD j (0, 0) :: (ge_ G b).drop (j + 1) := by
        rw [show j - 1 + 1 = j by omega, List.drop_eq_getElem_cons hjl, List.getD_eq_getElem?_getD, List.getElem?_eq_getElem hjl]
        rfl
      have hcm2 := gd_mem hjl
      obtain ⟨k1, k2, k3, k4⟩ := hI.child hb hl (by omega) hcm2
      have hh2 := et_hd hw hI n ((ge_ G b).getD j (0, 0)).2 k1 (by omega) (by omega)
      rw [k4] at hh2
      have h5 : (fm_ (ge_ G) n ((ge_ G b).drop (j - 1 + 1))).head?.map Prod.fst = some ((ge_ G b).getD j (0, 0)).1 := by
        rw [hd, fm_cons]
        cases hc : et_ (ge_ G) n ((ge_ G b).getD j (0, 0)).2 with
        | nil => rw [hc] at hh2; simp at hh2
        | cons d D => rw [hc] at hh2; simpa using hh2
      have h6 := so_hd s5 h5 q hq
      omega
end TR
end
section
-- PURE: Trees.stampOf, Trees.keyFrom
theorem nI_m2 {n : Nat} (h : n < 2 ^ 31) : ¬ nI n = -2 := fun e => by
  have h1 := congrArg Int32.toInt e
  rw [nI_toInt h] at h1
  have h2 : (-2 : Int32).toInt = -2 := by decide
  rw [h2] at h1
  omega
theorem so_ix {L : List (Nat × Nat)} (hs : so_ L) {i k : Nat} (hik : i < k) (hk : k < L.length) : (L.getD i (0, 0)).1 < (L.getD k (0, 0)).1 := by
  have h := List.pairwise_iff_getElem.mp hs i k (by omega) hk hik
  simp only [List.getD_eq_getElem?_getD, List.getElem?_eq_getElem hk, List.getElem?_eq_getElem (show i < L.length by omega)]
  exact h
theorem mem_ix {L : List (Nat × Nat)} {e : Nat × Nat} (h : e ∈ L) : ∃ i, i < L.length ∧ L.getD i (0, 0) = e := by
  obtain ⟨i, hi, he⟩ := List.getElem_of_mem h
  exact ⟨i, hi, by rw [List.getD_eq_getElem?_getD, List.getElem?_eq_getElem hi]; exact he⟩
/-- of a sorted list: the entries below j have keys not above k, the others greater ones -/
theorem fk_lo {L : List (Nat × Nat)} (hs : so_ L) {k j : Nat} (hj : fk_ L k j) {i : Nat} (hi : i < L.length) : (i < j → (L.getD i (0, 0)).1 ≤ k) ∧ (j ≤ i → k < (L.getD i (0, 0)).1) := by
  refine ⟨hj.2.1 i, fun h => ?_⟩
  have h1 := hj.2.2 (by omega)
  by_cases e : j = i
  · subst e; exact h1
  · have := so_ix hs (show j < i by omega) hi
    omega
theorem fk_no {L : List (Nat × Nat)} (hs : so_ L) {k j : Nat} (hj : fk_ L k j) (h : j = 0 ∨ (L.getD (j - 1) (0, 0)).1 ≠ k) : ∀ s, (k, s) ∉ L := by
  intro s hm
  obtain ⟨i, hi, he⟩ := mem_ix hm
  have he1 : (L.getD i (0, 0)).1 = k := by rw [he]
  obtain ⟨h1, h2⟩ := fk_lo hs hj hi
  by_cases hij : j ≤ i
  · have := h2 hij; omega
  · rcases h with h | h
    · omega
    · by_cases e : i = j - 1
      · subst e; exact h he1
      · have h3 := so_ix hs (show i < j - 1 by omega) (by have := hj.1; omega)
        have h4 := hj.2.1 (j - 1) (by omega)
        omega
theorem nI_p {j : Nat} (h : 1 ≤ j) : nI j - 1 = nI (j - 1) := by
  have := nI_pred (j - 1)
  rw [show j - 1 + 1 = j by omega] at this
  exact this
section PS
variable {w : Nat} {R : Nat → Nat} {Z : List Nat} {G : Sg_} {st : St_}
theorem p_slotOf0 {x : Int32} {post : Int32 → St_ → Prop} (hw : 5 ≤ w ∧ w ≤ 32) (k : post (-1) st) : wp_B_slotOf w 0 x st post := by
  unfold wp_B_slotOf
  intro z hz
  refine p_size0 ?_
  intro y hy
  rw [if_neg (nI_pos (by omega))] at hy
  subst hy
  refine ⟨1, ?_⟩
  exact br_t (by decide) k
theorem p_stampOf_loop {k0 : Int32} {x : Nat} {post : Int32 → St_ → Prop} (hw : 5 ≤ w ∧ w ≤ 32) (hR : Rp_ w st G) (hI : Ic_ w [] 16 R Z G) (hx : x < 4096) :
    ∀ (n m b : Nat), 1 ≤ gw_ G b → gl_ G b = m → m < n → (∀ s, (x, s) ∈ et_ (ge_ G) m b → post (nI s) st) → ((∀ s, (x, s) ∉ et_ (ge_ G) m b) → post (-2) st) → wp_T_stampOf_12 w post n k0 (nI x) (nI b) (nI m) st := by
  intro n
  induction n with
  | zero => intro m b _ _ h; omega
  | succ n ih =>
    intro m b hb hm hn k1 k2
    obtain ⟨b1, b2, b3⟩ := hI.1 b hb
    have hv := hI.2.2.2 b hb b3
    have hl3 := (hR.1 b b1 b2).2.2.2.1
    refine pk_le m 0 (fun h0 => ?_) (fun h0 => ?_) rfl rfl (by omega) (by omega)
    · have hm0 : m = 0 := by omega
      subst hm0
      have hso : so_ (ge_ G b) := by have := hv.2.1; rw [hm] at this; exact this
      refine p_slotOf hw hR ⟨b1, b2⟩ hx (fun j hj => ?_)
      by_cases hj0 : j = 0
      · subst hj0
        refine p_keyM ⟨b1, b2⟩ i_m1 (rb_t (fun e => nI_m2 (by omega) e.symm) ?_)
        exact k2 (fk_no hso hj (Or.inl rfl))
      · rw [nI_p (by omega)]
        have hji : j - 1 < (ge_ G b).length := by have := hj.1; omega
        have hbd := hR.bd hji
        refine p_key hw hR ⟨b1, b2⟩ hji ?_
        by_cases he : ((ge_ G b).getD (j - 1) (0, 0)).1 = x
        · refine rb_f (by rw [he]) (p_goal hw hR ⟨b1, b2⟩ hji ?_)
          refine k1 _ ?_
          have := gd_mem hji
          rw [← he]
          exact this
        · refine rb_t (fun e => he ((nI_eq (by omega) (by omega)).mp e)) ?_
          exact k2 (fk_no hso hj (Or.inr he))
    · obtain ⟨q, rfl⟩ : ∃ q, m = q + 1 := ⟨m - 1, by omega⟩
      have hne := (hv.1 (by simp)).1
      refine p_slotToward hw hR ⟨b1, b2⟩ hx (fun j hj => ?_)
      obtain ⟨hi, hA, hB⟩ := loc_ hw.1 hI hb b3 hm hne hj
      refine p_goal hw hR ⟨b1, b2⟩ hi ?_
      obtain ⟨g1, g2, g3, g4⟩ := hI.child hb b3 (by omega) (gd_mem hi)
      intro y hy
      rw [hy, show nI (q + 1) + (-1) = nI q from pk_m1 q]
      have he : et_ (ge_ G) (q + 1) b = fm_ (ge_ G) q ((ge_ G b).take (j - 1)) ++ (et_ (ge_ G) q ((ge_ G b).getD (j - 1) (0, 0)).2 ++ fm_ (ge_ G) q ((ge_ G b).drop (j - 1 + 1))) := by
        rw [et_succ]
        conv => lhs; rw [spl_ hi]
        rw [fm_app, fm_cons]
      have hmem : ∀ s, (x, s) ∈ et_ (ge_ G) (q + 1) b ↔ (x, s) ∈ et_ (ge_ G) q ((ge_ G b).getD (j - 1) (0, 0)).2 := fun s => by
        rw [he, List.mem_append, List.mem_append]
        constructor
        · rintro (h | h | h)
          · have := hA _ h; simp at this
          · exact h
          · have := hB _ h; simp at this
        · exact fun h => Or.inr (Or.inl h)
      exact ih q _ g1 (by omega) (by omega) (fun s h => k1 s ((hmem s).mpr h)) (fun h => k2 (fun s hs => h s ((hmem s).mp hs)))
theorem p_stampOf {b x : Nat} {post : Int32 → St_ → Prop} (hw : 5 ≤ w ∧ w ≤ 32) (hR : Rp_ w st G) (hI : Ic_ w [] 16 R Z G) (hb : 1 ≤ gw_ G b) (hx : x < 4096)
    (k1 : ∀ s, (x, s) ∈ et_ (ge_ G) (gl_ G b) b → post (nI s) st) (k2 : (∀ s, (x, s) ∉ et_ (ge_ G) (gl_ G b) b) → post (-2) st) : wp_T_stampOf w (nI b) (nI x) st post := by
  unfold wp_T_stampOf
  obtain ⟨b1, b2, b3⟩ := hI.1 b hb
  exact p_level hR ⟨b1, b2⟩ ⟨gl_ G b + 1, p_stampOf_loop hw hR hI hx _ _ b hb rfl (by omega) k1 k2⟩
theorem p_stampOf0 {x : Nat} {post : Int32 → St_ → Prop} (hw : 5 ≤ w ∧ w ≤ 32) (hR : Rp_ w st G) (hx : x < 4096) (k : post (-2) st) : wp_T_stampOf w 0 (nI x) st post := by
  unfold wp_T_stampOf
  refine p_level0 ⟨1, ?_⟩
  refine br_t (by decide) (p_slotOf0 hw (p_key0 hR (rb_t (fun e => nI_m2 (by omega) e.symm) k)))
/-- r is the least key from k on, or -2 if there is none -/
def LK_ (L : List (Nat × Nat)) (k : Nat) (r : Int32) : Prop := (∃ q ∈ L, k ≤ q.1 ∧ r = nI q.1 ∧ ∀ p ∈ L, k ≤ p.1 → q.1 ≤ p.1) ∨ (r = -2 ∧ ∀ p ∈ L, p.1 < k)
def hk_ (L : List (Nat × Nat)) : Int32 := match L.head? with
  | none => -2
  | some e => nI e.1
theorem LK_left {A L : List (Nat × Nat)} {k : Nat} {r : Int32} (hA : ∀ q ∈ A, q.1 < k) (h : LK_ L k r) : LK_ (A ++ L) k r := by
  rcases h with ⟨q, h1, h2, h3, h4⟩ | ⟨h1, h2⟩
  · refine Or.inl ⟨q, List.mem_append_right _ h1, h2, h3, fun p hp hk => ?_⟩
    rcases List.mem_append.mp hp with h | h
    · have := hA p h; omega
    · exact h4 p h hk
  · refine Or.inr ⟨h1, fun p hp => ?_⟩
    rcases List.mem_append.mp hp with h | h
    · exact hA p h
    · exact h2 p h
theorem LK_hd {L : List (Nat × Nat)} {k : Nat} (hs : so_ L) (h : ∀ q ∈ L, k ≤ q.1) : LK_ L k (hk_ L) := by
  cases L with
  | nil => exact Or.inr ⟨rfl, fun p hp => by simp at hp⟩
  | cons e L =>
    refine Or.inl ⟨e, List.mem_cons_self, h e List.mem_cons_self, rfl, fun p hp _ => ?_⟩
    rcases List.mem_cons.mp hp with rfl | hp
    · exact Nat.le_refl _
    · have := (so_cons.mp hs).1 p hp; omega
theorem p_keyOr {b i : Nat} {a : Int32} {post : Int32 → St_ → Prop} (hw : 5 ≤ w ∧ w ≤ 32) (hR : Rp_ w st G) (hb : 1 ≤ b ∧ b ≤ 1200) (hi : i ≤ (ge_ G b).length)
    (k1 : i < (ge_ G b).length → post (nI ((ge_ G b).getD i (0, 0)).1) st) (k2 : i = (ge_ G b).length → post a st) : wp_T_keyOr w (nI b) (nI i) a st post := by
  unfold wp_T_keyOr
  have hl := (hR.1 b hb.1 hb.2).2.2.2.1
  refine p_size hR hb (pk_le (ge_ G b).length i (fun h => k2 (by omega)) (fun h => p_key hw hR hb h (k1 h)) rfl rfl (by omega) (by omega))
theorem p_keyFrom_loop {k0 : Int32} {x : Nat} {post : Int32 → St_ → Prop} (hw : 5 ≤ w ∧ w ≤ 32) (hR : Rp_ w st G) (hI : Ic_ w [] 16 R Z G) (hx : x < 4096) :
    ∀ (n m b : Nat) (Q : List (Nat × Nat)), 1 ≤ gw_ G b → gl_ G b = m → m < n → so_ (et_ (ge_ G) m b ++ Q) → (∀ q ∈ Q, x < q.1) → (∀ r, LK_ (et_ (ge_ G) m b ++ Q) x r → post r st) → wp_T_keyFrom_16 w post n k0 (nI x) (nI b) (hk_ Q) (nI m) st := by
  intro n
  induction n with
  | zero => intro m b Q _ _ h; omega
  | succ n ih =>
    intro m b Q hb hm hn hsQ hQ k
    obtain ⟨b1, b2, b3⟩ := hI.1 b hb
    have hv := hI.2.2.2 b hb b3
    have hl3 := (hR.1 b b1 b2).2.2.2.1
    refine pk_le m 0 (fun h0 => ?_) (fun h0 => ?_) rfl rfl (by omega) (by omega)
    · have hm0 : m = 0 := by omega
      subst hm0
      have hso : so_ (ge_ G b) := by have := hv.2.1; rw [hm] at this; exact this
      refine p_slotOf hw hR ⟨b1, b2⟩ hx (fun j hj => ?_)
      have hfin : (j = 0 ∨ ((ge_ G b).getD (j - 1) (0, 0)).1 ≠ x) → wp_T_keyOr w (nI b) (nI j - 1 + 1) (hk_ Q) st (fun r st => post r st) := by
        intro hno
        rw [i_sac]
        have hlow : ∀ q ∈ (ge_ G b).take j, q.1 < x := by
          intro q hq
          have hq2 := List.mem_of_mem_take hq
          obtain ⟨i, hi, he⟩ := mem_ix hq
          have hij : i < j := by simp at hi; omega
          have hil : i < (ge_ G b).length := by have := hj.1; omega
          have he2 : (ge_ G b).getD i (0, 0) = q := by
            rw [← he]
            simp only [List.getD_eq_getElem?_getD, List.getElem?_take_of_lt hij]
          have h1 := hj.2.1 i hij
          rw [he2] at h1
          rcases Nat.lt_or_ge q.1 x with h | h
          · exact h
          · exfalso
            have : (x, q.2) ∈ ge_ G b := by rw [show x = q.1 by omega]; exact hq2
            exact fk_no hso hj hno q.2 this
        have hhi : ∀ q ∈ (ge_ G b).drop j ++ Q, x ≤ q.1 := by
          intro q hq
          rcases List.mem_append.mp hq with h | h
          · obtain ⟨i, hi, he⟩ := mem_ix h
            have hil : j + i < (ge_ G b).length := by simp at hi; omega
            have he2 : (ge_ G b).getD (j + i) (0, 0) = q := by
              rw [← he]
              simp only [List.getD_eq_getElem?_getD, List.getElem?_drop]
            have := (fk_lo hso hj hil).2 (by omega)
            rw [he2] at this
            omega
          · have := hQ q h; omega
        have hsplit : et_ (ge_ G) 0 b ++ Q = (ge_ G b).take j ++ ((ge_ G b).drop j ++ Q) := by
          rw [← List.append_assoc, List.take_append_drop]; rfl
        have hso2 : so_ ((ge_ G b).drop j ++ Q) := by
          rw [hsplit] at hsQ
          exact (so_app.mp hsQ).2.1
        have hr := LK_left hlow (LK_hd hso2 hhi)
        rw [← hsplit] at hr
        have hk := k _ hr
        refine p_keyOr hw hR ⟨b1, b2⟩ hj.1 (fun h => ?_) (fun h => ?_)
        · have : hk_ ((ge_ G b).drop j ++ Q) = nI ((ge_ G b).getD j (0, 0)).1 := by
            rw [List.drop_eq_getElem_cons h]
            simp [hk_, List.getD_eq_getElem?_getD, List.getElem?_eq_getElem h]
          rw [this] at hk
          exact hk
        · have : hk_ ((ge_ G b).drop j ++ Q) = hk_ Q := by
            rw [h, List.drop_length]; rfl
          rw [this] at hk
          exact hk
      by_cases hj0 : j = 0
      · subst hj0
        exact p_keyM ⟨b1, b2⟩ i_m1 (rb_t (fun e => nI_m2 (by omega) e.symm) (hfin (Or.inl rfl)))
      · have hf := hfin
        rw [nI_p (by omega)] at hf ⊢
        have hji : j - 1 < (ge_ G b).length := by have := hj.1; omega
        have hbd := hR.bd hji
        refine p_key hw hR ⟨b1, b2⟩ hji ?_
        by_cases he : ((ge_ G b).getD (j - 1) (0, 0)).1 = x
        · refine rb_f (by rw [he]) (k _ (Or.inl ⟨(ge_ G b).getD (j - 1) (0, 0), List.mem_append_left _ (gd_mem hji), by omega, by rw [he], fun p _ hp => by omega⟩))
        · exact rb_t (fun e => he ((nI_eq (by omega) (by omega)).mp e)) (hf (Or.inr he))
    · obtain ⟨q, rfl⟩ : ∃ q, m = q + 1 := ⟨m - 1, by omega⟩
      have hne := (hv.1 (by simp)).1
      refine p_slotToward hw hR ⟨b1, b2⟩ hx (fun j hj => ?_)
      obtain ⟨hi, hA, hB⟩ := loc_ hw.1 hI hb b3 hm hne hj
      obtain ⟨g1, g2, g3, g4⟩ := hI.child hb b3 (by omega) (gd_mem hi)
      have he : et_ (ge_ G) (q + 1) b = fm_ (ge_ G) q ((ge_ G b).take (j - 1)) ++ (et_ (ge_ G) q ((ge_ G b).getD (j - 1) (0, 0)).2 ++ fm_ (ge_ G) q ((ge_ G b).drop (j - 1 + 1))) := by
        rw [et_succ]
        conv => lhs; rw [spl_ hi]
        rw [fm_app, fm_cons]
      rw [he, List.append_assoc, List.append_assoc] at hsQ
      have hs2 := (so_app.mp hsQ).2.1
      have hgo : ∀ a : Int32, a = hk_ (fm_ (ge_ G) q ((ge_ G b).drop (j - 1 + 1)) ++ Q) → wp_B_goal w (nI b) (nI (j - 1)) st (fun (r114 : Int32) (st113 : St_) => ∀ x115 : Int32, x115 = nI (q + 1) + (-1) → (wp_T_keyFrom_16 w post n k0 (nI x) r114 a x115 st113)) := by
        intro a ha
        subst ha
        refine p_goal hw hR ⟨b1, b2⟩ hi ?_
        intro y hy
        rw [hy, show nI (q + 1) + (-1) = nI q from pk_m1 q]
        refine ih q _ _ g1 (by omega) (by omega) hs2 (fun p hp => ?_) (fun r hr => k r ?_)
        · rcases List.mem_append.mp hp with h | h
          · exact hB p h
          · exact hQ p h
        · rw [he, List.append_assoc, List.append_assoc]
          exact LK_left hA hr
      rw [show nI (j - 1) + 1 = nI (j - 1 + 1) from nI_1 _]
      refine p_keyOr hw hR ⟨b1, b2⟩ (by omega) (fun h => hgo _ ?_) (fun h => hgo _ ?_)
      · obtain ⟨k1, k2, k3, k4⟩ := hI.child hb b3 (by omega) (gd_mem h)
        have hh2 := et_hd hw.1 hI q ((ge_ G b).getD (j - 1 + 1) (0, 0)).2 k1 (by omega) (by omega)
        rw [k4] at hh2
        have hd : (ge_ G b).drop (j - 1 + 1) = (ge_ G b).getD (j - 1 + 1) (0, 0) :: (ge_ G b).drop (j - 1 + 1 + 1) := by
          rw [List.drop_eq_getElem_cons h, List.getD_eq_getElem?_getD, List.getElem?_eq_getElem h]
          rfl
        rw [hd, fm_cons]
        cases hc : et_ (ge_ G) q ((ge_ G b).getD (j - 1 + 1) (0, 0)).2 with
        | nil => rw [hc] at hh2; simp at hh2
        | cons d D =>
          rw [hc] at hh2
          simp only [List.head?_cons, Option.map_some, Option.some.injEq] at hh2
          simp [hk_, hh2]
      · rw [h, List.drop_length]; rfl
theorem p_keyFrom {b x : Nat} {post : Int32 → St_ → Prop} (hw : 5 ≤ w ∧ w ≤ 32) (hR : Rp_ w st G) (hI : Ic_ w [] 16 R Z G) (hb : 1 ≤ gw_ G b) (hx : x < 4096)
    (k : ∀ r, LK_ (et_ (ge_ G) (gl_ G b) b) x r → post r st) : wp_T_keyFrom w (nI b) (nI x) st post := by
  unfold wp_T_keyFrom
  obtain ⟨b1, b2, b3⟩ := hI.1 b hb
  have hv := hI.2.2.2 b hb b3
  refine p_level hR ⟨b1, b2⟩ ⟨gl_ G b + 1, ?_⟩
  have := p_keyFrom_loop (k0 := nI b) (post := post) hw hR hI hx (gl_ G b + 1) (gl_ G b) b [] hb rfl (by omega) (by rw [List.append_nil]; exact hv.2.1) (fun q hq => by simp at hq) (fun r hr => k r (by rw [List.append_nil] at hr; exact hr))
  exact this
theorem p_keyFrom0 {x : Nat} {post : Int32 → St_ → Prop} (hw : 5 ≤ w ∧ w ≤ 32) (hR : Rp_ w st G) (hx : x < 4096) (k : post (-2) st) : wp_T_keyFrom w 0 (nI x) st post := by
  unfold wp_T_keyFrom
  refine p_level0 ⟨1, ?_⟩
  refine br_t (by decide) (p_slotOf0 hw (p_key0 hR (rb_t (fun e => nI_m2 (by omega) e.symm) ?_)))
  unfold wp_T_keyOr
  exact p_size0 (br_t (by decide) k)
end PS
end
section
-- PURE: a block is copied
abbrev mu_ (G : Sg_) (y : Nat) : Nat := max (kp_ G y - 1) 1
def sl_ (G : Sg_) (y : Nat) : Nat := (gw_ G y - 1) * mu_ G y + ((ge_ G y).length - 2)
/-- how many blocks can still be wanted for what is shared, or has many entries, up to level l -/
def SL_ (l : Nat) (G : Sg_) : Nat := sm_ 1201 (fun y => if gw_ G y = 0 ∨ l < gl_ G y then 0 else sl_ G y)
def In_ (w : Nat) (X : List Nat) (l : Nat) (R : Nat → Nat) (a : Nat) (G : Sg_) : Prop := Ic_ w X l R [] G ∧ a + SL_ l G ≤ (gf_ G).length
theorem SL_one {l y : Nat} {G : Sg_} (hy : 1 ≤ gw_ G y) (hr : y ≤ 1200) (hl : gl_ G y ≤ l) : sl_ G y ≤ SL_ l G := by
  have h := sm_one (n := 1201) (k := y) (fun y => if gw_ G y = 0 ∨ l < gl_ G y then 0 else sl_ G y) (by omega)
  simp only [show ¬ (gw_ G y = 0 ∨ l < gl_ G y) by omega, if_false] at h
  exact h
section CW
variable {w l : Nat} {X : List Nat} {R : Nat → Nat} {Z : List Nat} {G : Sg_}
/-- the ways that the copy adds -/
abbrev qc_ (G : Sg_) (b y : Nat) : Nat := if gl_ G b = 0 then 0 else cn_ y (ge_ G b)
theorem fr_last (hI : Ic_ w X l R Z G) {f : List Nat} {c : Nat} (hf : gf_ G = f ++ [c]) : 1 ≤ c ∧ c ≤ 1200 ∧ gw_ G c = 0 ∧ c ∉ f ∧ f.Nodup := by
  have h1 := hI.2.1.2.1 c (by rw [hf]; simp)
  have h2 := hI.2.1.1
  rw [hf, List.nodup_append] at h2
  exact ⟨h1.1, h1.2.1, h1.2.2, fun h => h2.2.2 c h c (by simp) rfl, h2.1⟩
theorem qc_used (hI : Ic_ w X l R Z G) {b y : Nat} (hb : 1 ≤ gw_ G b) (hl : gl_ G b ≤ l) (hq : 1 ≤ qc_ G b y) : 1 ≤ gw_ G y ∧ gl_ G y + 1 = gl_ G b := by
  simp only [qc_] at hq
  split at hq
  · omega
  · next h0 =>
    obtain ⟨e, he, hy⟩ := cn_pos hq
    obtain ⟨g1, g2, -, -⟩ := hI.child hb hl h0 he
    rw [hy] at g1 g2
    exact ⟨g1, g2⟩
theorem qc_self (hI : Ic_ w X l R Z G) {b : Nat} (hb : 1 ≤ gw_ G b) (hl : gl_ G b ≤ l) : qc_ G b b = 0 := by
  rcases Nat.eq_zero_or_pos (qc_ G b b) with h | h
  · exact h
  · have := (qc_used hI hb hl h).2; omega
theorem qc_free (hI : Ic_ w X l R Z G) {b c : Nat} (hb : 1 ≤ gw_ G b) (hl : gl_ G b ≤ l) (hc : gw_ G c = 0) : qc_ G b c = 0 := by
  rcases Nat.eq_zero_or_pos (qc_ G b c) with h | h
  · exact h
  · have := (qc_used hI hb hl h).1; omega
theorem cp_w (hI : Ic_ w X l R Z G) {b c : Nat} {f : List Nat} (hb : 2 ≤ gw_ G b) (hl : gl_ G b ≤ l) (hf : gf_ G = f ++ [c]) :
    gw_ (cp_ G b c f) c = 1 ∧ gw_ (cp_ G b c f) b + 1 = gw_ G b ∧ ∀ y, y ≠ b → y ≠ c → gw_ (cp_ G b c f) y = gw_ G y + qc_ G b y := by
  obtain ⟨c1, c2, c3, -, -⟩ := fr_last hI hf
  have hbc : b ≠ c := fun e => by rw [e] at hb; omega
  have h1 := qc_self hI (b := b) (by omega) hl
  have h2 := qc_free hI (b := b) (by omega) hl c3
  refine ⟨?_, ?_, fun y hy1 hy2 => ?_⟩
  · show va_up G.1 c 1 c + qc_ G b c - (if c = b then 1 else 0) = 1
    rw [h2, if_neg (Ne.symm hbc)]
    simp [va_up]
  · show va_up G.1 c 1 b + qc_ G b b - (if b = b then 1 else 0) + 1 = gw_ G b
    rw [h1]
    simp only [va_up, hbc, if_false, if_true]
    have : gw_ G b = G.1 b := rfl
    omega
  · show va_up G.1 c 1 y + qc_ G b y - (if y = b then 1 else 0) = _
    simp only [va_up, hy1, hy2, if_false]
    rfl
theorem cp_used (hI : Ic_ w X l R Z G) {b c : Nat} {f : List Nat} (hb : 2 ≤ gw_ G b) (hl : gl_ G b ≤ l) (hf : gf_ G = f ++ [c]) (y : Nat) : 1 ≤ gw_ (cp_ G b c f) y ↔ (1 ≤ gw_ G y ∨ y = c) := by
  obtain ⟨h1, h2, h3⟩ := cp_w hI hb hl hf
  by_cases e1 : y = c
  · subst e1
    exact ⟨fun _ => Or.inr rfl, fun _ => by omega⟩
  · by_cases e2 : y = b
    · subst e2
      exact ⟨fun _ => Or.inl (by omega), fun _ => by omega⟩
    · rw [h3 y e2 e1]
      constructor
      · intro h
        rcases Nat.eq_zero_or_pos (qc_ G b y) with h4 | h4
        · exact Or.inl (by omega)
        · exact Or.inl (qc_used hI (by omega) hl h4).1
      · rintro (h | h)
        · omega
        · exact absurd h e1
theorem cp_l {b c y : Nat} {f : List Nat} (h : y ≠ c) : gl_ (cp_ G b c f) y = gl_ G y ∧ ge_ (cp_ G b c f) y = ge_ G y := by simp [gl_, ge_, cp_, va_up, h]
theorem cp_lc {b c : Nat} {f : List Nat} : gl_ (cp_ G b c f) c = gl_ G b ∧ ge_ (cp_ G b c f) c = ge_ G b := by simp [gl_, ge_, cp_, va_up]
theorem cp_eg (hI : Ic_ w X l R Z G) {b c : Nat} {f : List Nat} (hb : 2 ≤ gw_ G b) (hl : gl_ G b ≤ l) (hf : gf_ G = f ++ [c]) (y : Nat) : eg_ (cp_ G b c f) y = eg_ G y + qc_ G b y := by
  obtain ⟨c1, c2, c3, -, -⟩ := fr_last hI hf
  have h := sm_up (n := 1201) (k := c) (f := fun p => if gw_ G p = 0 ∨ gl_ G p = 0 then 0 else cn_ y (ge_ G p)) (g := fun p => if gw_ (cp_ G b c f) p = 0 ∨ gl_ (cp_ G b c f) p = 0 then 0 else cn_ y (ge_ (cp_ G b c f) p)) (by omega) (fun p _ hp => by
    have h1 := cp_used hI hb hl hf p
    have h2 : (gw_ (cp_ G b c f) p = 0) ↔ gw_ G p = 0 := by
      constructor
      · intro h
        rcases Nat.eq_zero_or_pos (gw_ G p) with h3 | h3
        · exact h3
        · have := h1.mpr (Or.inl h3); omega
      · intro h
        rcases Nat.eq_zero_or_pos (gw_ (cp_ G b c f) p) with h3 | h3
        · exact h3
        · rcases h1.mp h3 with h4 | h4
          · omega
          · exact absurd h4 hp
    simp only [h2, (cp_l (G := G) (b := b) (f := f) hp).1, (cp_l (G := G) (b := b) (f := f) hp).2])
  have hc1 : gw_ (cp_ G b c f) c = 1 := (cp_w hI hb hl hf).1
  simp only [c3, true_or, if_true, hc1, cp_lc.1, cp_lc.2] at h
  simp only [show ¬ ((1 : Nat) = 0) by decide, false_or] at h
  simp only [eg_, qc_]
  omega
theorem cp_cnt (hI : Ic_ w X l R Z G) {b c : Nat} {f : List Nat} (hb : 2 ≤ gw_ G b) (hl : gl_ G b ≤ l) (hf : gf_ G = f ++ [c]) (y : Nat) (hy : 1 ≤ y) : gw_ (cp_ G b c f) y + (if y = b then 1 else 0) = R y + eg_ (cp_ G b c f) y + (if y = c then 1 else 0) := by
  obtain ⟨c1, c2, c3, -, -⟩ := fr_last hI hf
  obtain ⟨h1, h2, h3⟩ := cp_w hI hb hl hf
  have hbc : b ≠ c := fun e => by rw [e] at hb; omega
  rw [cp_eg hI hb hl hf]
  have h4 := hI.2.2.1 y hy
  by_cases e1 : y = c
  · subst e1
    rw [h1, if_neg (Ne.symm hbc), if_pos rfl]
    have := qc_free hI (b := b) (by omega) hl c3
    omega
  · by_cases e2 : y = b
    · subst e2
      rw [if_pos rfl, if_neg e1]
      have := qc_self hI (b := y) (by omega) hl
      omega
    · rw [h3 y e2 e1, if_neg e2, if_neg e1]
      omega
theorem cp_et (hI : Ic_ w X l R Z G) {b c : Nat} {f : List Nat} (hf : gf_ G = f ++ [c]) {y : Nat} (hy : 1 ≤ gw_ G y) (hl : gl_ G y ≤ l) : et_ (ge_ (cp_ G b c f)) (gl_ G y) y = et_ (ge_ G) (gl_ G y) y := by
  obtain ⟨c1, c2, c3, -, -⟩ := fr_last hI hf
  refine et_same (fun n y => 1 ≤ gw_ G y ∧ gl_ G y = n ∧ n ≤ l) (fun n y h => ?_) (fun n y h e he => ?_) _ y ⟨hy, rfl, hl⟩
  · exact (cp_l (fun e => by rw [e] at h; omega)).2
  · obtain ⟨g1, g2, -, -⟩ := hI.child h.1 (by omega) (by omega) he
    exact ⟨g1, by omega, by omega⟩
theorem cp_etc (hI : Ic_ w X l R Z G) {b c : Nat} {f : List Nat} (hb : 1 ≤ gw_ G b) (hl : gl_ G b ≤ l) (hf : gf_ G = f ++ [c]) : et_ (ge_ (cp_ G b c f)) (gl_ G b) c = et_ (ge_ G) (gl_ G b) b := by
  cases hn : gl_ G b with
  | zero => exact cp_lc.2
  | succ n =>
    rw [et_succ, et_succ, cp_lc.2]
    refine fm_congr (fun e he => ?_)
    obtain ⟨g1, g2, -, -⟩ := hI.child hb hl (by omega) he
    have := cp_et (b := b) hI hf g1 (by omega)
    rw [show gl_ G e.2 = n by omega] at this
    exact this
theorem cp_u (hI : Ic_ w X l R Z G) {b c : Nat} {f : List Nat} (hb : 2 ≤ gw_ G b) (hl : gl_ G b ≤ l) (hf : gf_ G = f ++ [c]) : ∀ y, 1 ≤ gw_ (cp_ G b c f) y → 1 ≤ y ∧ y ≤ 1200 ∧ gl_ (cp_ G b c f) y ≤ 16 := by
  intro y hy
  obtain ⟨c1, c2, c3, -, -⟩ := fr_last hI hf
  by_cases e : y = c
  · subst e
    rw [cp_lc.1]
    exact ⟨c1, c2, (hI.1 b (by omega)).2.2⟩
  · rw [(cp_l e).1]
    rcases (cp_used hI hb hl hf y).mp hy with h | h
    · exact hI.1 y h
    · exact absurd h e
theorem cp_f (hI : Ic_ w X l R Z G) {b c : Nat} {f : List Nat} (hb : 2 ≤ gw_ G b) (hl : gl_ G b ≤ l) (hf : gf_ G = f ++ [c]) : (gf_ (cp_ G b c f)).Nodup ∧ (∀ y ∈ gf_ (cp_ G b c f), 1 ≤ y ∧ y ≤ 1200 ∧ gw_ (cp_ G b c f) y = 0) ∧ ∀ y, 1 ≤ y → y ≤ 1200 → gw_ (cp_ G b c f) y = 0 → y ∈ gf_ (cp_ G b c f) ∨ y ∈ Z := by
  obtain ⟨c1, c2, c3, c4, c5⟩ := fr_last hI hf
  refine ⟨c5, fun y hy => ?_, fun y y1 y2 y3 => ?_⟩
  · have hy' : y ∈ f := hy
    obtain ⟨g1, g2, g3⟩ := hI.2.1.2.1 y (by rw [hf]; exact List.mem_append_left _ hy')
    refine ⟨g1, g2, ?_⟩
    rcases Nat.eq_zero_or_pos (gw_ (cp_ G b c f) y) with h | h
    · exact h
    · rcases (cp_used hI hb hl hf y).mp h with h | h
      · omega
      · exact absurd (h ▸ hy') c4
  · have h1 : ¬ (1 ≤ gw_ G y ∨ y = c) := fun h => by have := (cp_used hI hb hl hf y).mpr h; omega
    have h2 : gw_ G y = 0 := by
      rcases Nat.eq_zero_or_pos (gw_ G y) with h | h
      · exact h
      · exact absurd (Or.inl h) h1
    rcases hI.2.1.2.2 y y1 y2 h2 with h | h
    · rw [hf] at h
      rcases List.mem_append.mp h with h | h
      · exact Or.inl h
      · exact absurd (Or.inr (by simpa using h)) h1
    · exact Or.inr h
theorem cp_v (hI : Ic_ w X l R Z G) {b c : Nat} {f : List Nat} (hb : 2 ≤ gw_ G b) (hl : gl_ G b ≤ l) (hf : gf_ G = f ++ [c]) (hbX : b ∉ X) : ∀ y, 1 ≤ gw_ (cp_ G b c f) y → gl_ (cp_ G b c f) y ≤ l → Vn_ w X (cp_ G b c f) y := by
  intro y hy hyl
  obtain ⟨c1, c2, c3, -, -⟩ := fr_last hI hf
  have kid : ∀ z, 1 ≤ gw_ G z → gl_ G z ≤ l → gl_ G z ≠ 0 → ∀ e ∈ ge_ G z, 1 ≤ gw_ (cp_ G b c f) e.2 ∧ gl_ (cp_ G b c f) e.2 + 1 = gl_ G z ∧ (e.2 ∉ X → w / 2 ≤ (ge_ (cp_ G b c f) e.2).length) ∧ (ge_ (cp_ G b c f) e.2).head?.map Prod.fst = some e.1 := by
    intro z z1 z2 z3 e he
    obtain ⟨g1, g2, g3, g4⟩ := hI.child z1 z2 z3 he
    have hne : e.2 ≠ c := fun q => by rw [q] at g1; omega
    rw [(cp_l hne).1, (cp_l hne).2]
    exact ⟨(cp_used hI hb hl hf _).mpr (Or.inl g1), g2, g3, g4⟩
  by_cases e : y = c
  · subst e
    have hv := hI.2.2.2 b (by omega) hl
    refine ⟨fun _ => ?_, ?_, fun h0 => ?_⟩
    · rw [cp_lc.2]; exact hv.1 hbX
    · rw [cp_lc.1, cp_etc hI (by omega) hl hf]; exact hv.2.1
    · rw [cp_lc.1] at h0 ⊢
      rw [cp_lc.2]
      exact kid b (by omega) hl h0
  · have hu : 1 ≤ gw_ G y := by
      rcases (cp_used hI hb hl hf y).mp hy with h | h
      · exact h
      · exact absurd h e
    rw [(cp_l e).1] at hyl
    have hv := hI.2.2.2 y hu hyl
    refine ⟨fun hx => ?_, ?_, fun h0 => ?_⟩
    · rw [(cp_l e).2]; exact hv.1 hx
    · rw [(cp_l e).1, cp_et hI hf hu hyl]; exact hv.2.1
    · rw [(cp_l e).1] at h0 ⊢
      rw [(cp_l e).2]
      exact kid y hu hyl h0
theorem cp_SL (hw : 5 ≤ w) (hI : Ic_ w X l R Z G) {b c : Nat} {f : List Nat} (hb : 2 ≤ gw_ G b) (hl : gl_ G b ≤ l) (hf : gf_ G = f ++ [c]) (hln : 1 ≤ (ge_ G b).length) (h2 : gl_ G b = 0 ∨ 2 ≤ (ge_ G b).length) (hk : gl_ G b ≠ 0 → ∀ e ∈ ge_ G b, e.2 ∉ X) : SL_ l (cp_ G b c f) + 1 = SL_ l G := by
  obtain ⟨c1, c2, c3, -, -⟩ := fr_last hI hf
  obtain ⟨w1, w2, w3⟩ := cp_w hI hb hl hf
  have hbc : b ≠ c := fun e => by rw [e] at hb; omega
  have hbr := hI.1 b (by omega)
  -- the sum with the children's ways added
  have e1 : sm_ 1201 (fun y => (if gw_ G y = 0 ∨ l < gl_ G y then 0 else sl_ G y) + qc_ G b y * mu_ G y) = SL_ l G + (if gl_ G b = 0 then 0 else su_ (fun y => mu_ G y) (ge_ G b)) := by
    rw [sm_add]
    congr 1
    by_cases h0 : gl_ G b = 0
    · rw [if_pos h0]
      exact sm_0 (fun i _ => by simp [qc_, h0])
    · rw [if_neg h0, ← sm_cn (n := 1201) (fun y => mu_ G y) (fun e he => by
        have := (hI.1 e.2 (hI.child (by omega) hl h0 he).1).2.1; omega)]
      exact sm_congr (fun i _ => by simp [qc_, h0])
  have hq : qc_ G b b = 0 := qc_self hI (by omega) hl
  have hqc : qc_ G b c = 0 := qc_free hI (by omega) hl c3
  have hkp : ∀ y, 1 ≤ gw_ G y → gl_ G y ≤ l → y ≠ c → kp_ (cp_ G b c f) y = kp_ G y := fun y y1 y2 y3 => by
    show (et_ _ (gl_ (cp_ G b c f) y) y).length = _
    rw [(cp_l y3).1, cp_et hI hf y1 y2]
  have e2 := sm_up2 (n := 1201) (j := b) (k := c) (f := fun y => (if gw_ G y = 0 ∨ l < gl_ G y then 0 else sl_ G y) + qc_ G b y * mu_ G y) (g := fun y => if gw_ (cp_ G b c f) y = 0 ∨ l < gl_ (cp_ G b c f) y then 0 else sl_ (cp_ G b c f) y) (by omega) (by omega) hbc (fun y _ yb yc => by
    simp only [(cp_l (G := G) (b := b) (f := f) yc).1]
    by_cases hu : gw_ G y = 0
    · have h4 : gw_ (cp_ G b c f) y = 0 := by
        rw [w3 y yb yc, hu, qc_free hI (by omega) hl hu]
      simp [h4, hu, qc_free hI (b := b) (by omega) hl hu]
    · have h4 : ¬ gw_ (cp_ G b c f) y = 0 := by rw [w3 y yb yc]; omega
      by_cases hyl : l < gl_ G y
      · have h5 : qc_ G b y = 0 := by
          rcases Nat.eq_zero_or_pos (qc_ G b y) with h | h
          · exact h
          · have := (qc_used hI (by omega) hl h).2; omega
        simp [hyl, h5]
      · simp only [hu, h4, hyl, or_self, if_false]
        simp only [sl_, (cp_l (G := G) (b := b) (f := f) yc).2, w3 y yb yc]
        have : mu_ (cp_ G b c f) y = mu_ G y := by
          show max (kp_ (cp_ G b c f) y - 1) 1 = _
          rw [hkp y (by omega) (by omega) yc]
        rw [this, show gw_ G y + qc_ G b y - 1 = (gw_ G y - 1) + qc_ G b y by omega, Nat.add_mul]
        omega)
  have hub : ¬ (gw_ G b = 0 ∨ l < gl_ G b) := by omega
  have hub1 : ¬ (gw_ (cp_ G b c f) b = 0 ∨ l < gl_ (cp_ G b c f) b) := by
    rw [(cp_l hbc).1]; omega
  have huc1 : ¬ (gw_ (cp_ G b c f) c = 0 ∨ l < gl_ (cp_ G b c f) c) := by
    rw [cp_lc.1, w1]; omega
  simp only [hub, hub1, huc1, if_false, hq, hqc, c3, true_or, if_true, Nat.zero_mul, Nat.add_zero] at e2
  have hslb : sl_ (cp_ G b c f) b + mu_ G b = sl_ G b := by
    simp only [sl_, (cp_l (G := G) (b := b) (f := f) hbc).2]
    have : mu_ (cp_ G b c f) b = mu_ G b := by
      show max (kp_ (cp_ G b c f) b - 1) 1 = _
      rw [hkp b (by omega) hl hbc]
    rw [this, show gw_ G b - 1 = (gw_ (cp_ G b c f) b - 1) + 1 by omega, Nat.add_mul]
    omega
  have hslc : sl_ (cp_ G b c f) c = (ge_ G b).length - 2 := by
    simp only [sl_, w1, cp_lc.2]
    simp
  have hsu : (if gl_ G b = 0 then 0 else su_ (fun y => mu_ G y) (ge_ G b)) + ((ge_ G b).length - 2) + 1 = mu_ G b := by
    by_cases h0 : gl_ G b = 0
    · rw [if_pos h0]
      show _ = max ((et_ (ge_ G) (gl_ G b) b).length - 1) 1
      rw [h0]
      show _ = max ((ge_ G b).length - 1) 1
      omega
    · rw [if_neg h0]
      obtain ⟨n, hn⟩ : ∃ n, gl_ G b = n + 1 := ⟨gl_ G b - 1, by omega⟩
      have h3 : su_ (fun y => mu_ G y) (ge_ G b) + (ge_ G b).length = kp_ G b := by
        show _ = (et_ (ge_ G) (gl_ G b) b).length
        rw [hn, et_succ, fm_su, ← su_1, ← su_add]
        refine su_congr (fun e he => ?_)
        obtain ⟨g1, g2, -, -⟩ := hI.child (by omega) hl h0 he
        have h5 := kp_kid hw hI (by omega) hl hn he (hk h0 e he)
        show max ((et_ (ge_ G) (gl_ G e.2) e.2).length - 1) 1 + 1 = _
        rw [show gl_ G e.2 = n by omega]
        omega
      show _ = max (kp_ G b - 1) 1
      omega
  have e3 : SL_ l (cp_ G b c f) = sm_ 1201 (fun y => if gw_ (cp_ G b c f) y = 0 ∨ l < gl_ (cp_ G b c f) y then 0 else sl_ (cp_ G b c f) y) := rfl
  rw [← e3, e1, hslc] at e2
  omega
end CW
end
section
-- PURE: a way gets a block of its own: Trees.ownedChild, and a root's
theorem cn_set (y : Nat) : ∀ (L : List (Nat × Nat)) (i : Nat) (e : Nat × Nat), i < L.length → cn_ y (L.set i e) + (if (L.getD i (0, 0)).2 = y then 1 else 0) = cn_ y L + (if e.2 = y then 1 else 0)
  | [], i, e, h => by simp at h
  | d :: L, 0, e, _ => by simp only [List.set_cons_zero, cn_, List.getD_cons_zero]; omega
  | d :: L, i + 1, e, h => by
    have := cn_set y L i e (by simpa using h)
    simp only [List.set_cons_succ, cn_, List.getD_cons_succ]
    omega
theorem et_repl {E1 E2 : Nat → List (Nat × Nat)} {p m : Nat} (P : Nat → Nat → Prop) (h : ∀ n y, P n y → y ≠ p → E2 y = E1 y) (hc : ∀ n y, P (n + 1) y → ∀ e ∈ E1 y, P n e.2) (hp : ∀ n, P n p → n = m + 1) (hk : ∀ e ∈ E2 p, P m e.2) (hf : fm_ E1 m (E2 p) = fm_ E1 m (E1 p)) : ∀ n y, P n y → et_ E2 n y = et_ E1 n y := by
  intro n
  induction n with
  | zero =>
    intro y hy
    by_cases e : y = p
    · subst e; have := hp 0 hy; omega
    · exact h 0 y hy e
  | succ n ih =>
    intro y hy
    by_cases e : y = p
    · subst e
      have hn : n = m := by have := hp _ hy; omega
      subst hn
      rw [et_succ, et_succ, ← hf]
      exact fm_congr (fun d hd => ih d.2 (hk d hd))
    · rw [et_succ, et_succ, h _ y hy e]
      exact fm_congr (fun d hd => ih d.2 (hc n y hy d hd))
theorem fm_set {E : Nat → List (Nat × Nat)} {l i : Nat} {L : List (Nat × Nat)} {e : Nat × Nat} (hi : i < L.length) (h : et_ E l e.2 = et_ E l (L.getD i (0, 0)).2) : fm_ E l (L.set i e) = fm_ E l L := by
  have h1 : L.set i e = L.take i ++ e :: L.drop (i + 1) := by rw [List.set_eq_take_append_cons_drop, if_pos hi]
  rw [h1, fm_app, fm_cons, h]
  conv => rhs; rw [spl_ hi, fm_app, fm_cons]
theorem sum_le_mul (n c : Nat) (f : Nat → Nat) (h : ∀ i, i < n → f i ≤ c) : sm_ n f ≤ n * c := by
  induction n with
  | zero => simp [sm_]
  | succ n ih =>
    have h1 := ih (fun i hi => h i (by omega))
    have h2 := h n (by omega)
    show sm_ n f + f n ≤ (n + 1) * c
    rw [Nat.add_mul]; omega
section OW
variable {w l a : Nat} {X : List Nat} {R : Nat → Nat} {Z : List Nat} {G : Sg_} {st : St_}
theorem gw_bd (hw : 5 ≤ w ∧ w ≤ 32) (hR : Rp_ w st G) (hI : Ic_ w X l R Z G) (hr : ∀ y, R y ≤ 1000) (b : Nat) (hb : 1 ≤ gw_ G b) : gw_ G b + cn_ b (ge_ G b) < 2 ^ 31 := by
  obtain ⟨b1, b2, b3⟩ := hI.1 b hb
  have h1 := hI.2.2.1 b b1
  have hln : ∀ p, 1 ≤ gw_ G p → (ge_ G p).length ≤ 32 := fun p hp => by
    obtain ⟨p1, p2, -⟩ := hI.1 p hp
    have := (hR.1 p p1 p2).2.2.2.1; omega
  have h2 : eg_ G b ≤ 1201 * 32 := sum_le_mul _ _ _ (fun p _ => by
    by_cases hu : gw_ G p = 0 ∨ gl_ G p = 0
    · simp [hu]
    · simp only [hu, if_false]
      have := cn_len b (ge_ G p)
      have := hln p (by omega)
      omega)
  have h3 := hr b
  have h4 := cn_len b (ge_ G b)
  have h5 := hln b hb
  omega
theorem In_root (hw : 5 ≤ w) (hI : In_ w X l R a G) {b c : Nat} {f : List Nat} {R' : Nat → Nat} (hb : 2 ≤ gw_ G b) (hl : gl_ G b ≤ l) (hf : gf_ G = f ++ [c]) (hbX : b ∉ X) (h2 : gl_ G b = 0 ∨ 2 ≤ (ge_ G b).length) (hk : gl_ G b ≠ 0 → ∀ e ∈ ge_ G b, e.2 ∉ X)
    (hR' : ∀ y, 1 ≤ y → R' y + (if y = b then 1 else 0) = R y + (if y = c then 1 else 0)) : In_ w X l R' a (cp_ G b c f) := by
  obtain ⟨hI, hs⟩ := hI
  have hln := ((hI.2.2.2 b (by omega) hl).1 hbX).1
  refine ⟨⟨cp_u hI hb hl hf, cp_f hI hb hl hf, fun y hy => ?_, cp_v hI hb hl hf hbX⟩, ?_⟩
  · have h1 := cp_cnt hI hb hl hf y hy
    have h3 := hR' y hy
    omega
  · have h1 := cp_SL hw hI hb hl hf hln h2 hk
    have h3 : (gf_ G).length = f.length + 1 := by rw [hf]; simp
    show a + SL_ l (cp_ G b c f) ≤ f.length
    omega
/-- what ownedChild does: entry i of p leads to c, which is its alone -/
def Ow_ (l : Nat) (G G' : Sg_) (p i c : Nat) : Prop :=
  gw_ G' c = 1 ∧ gl_ G' c + 1 = gl_ G p ∧ ge_ G' c = ge_ G ((ge_ G p).getD i (0, 0)).2 ∧
  ge_ G' p = sg_ (ge_ G p) i c ∧ gl_ G' p = gl_ G p ∧ gw_ G' p = gw_ G p ∧
  (∀ y, 1 ≤ gw_ G y → y ≠ p → ge_ G' y = ge_ G y ∧ gl_ G' y = gl_ G y ∧ 1 ≤ gw_ G' y) ∧
  (∀ y, 1 ≤ gw_ G y → gl_ G p ≤ gl_ G y → gw_ G' y = gw_ G y) ∧
  (∀ y, 1 ≤ gw_ G y → gl_ G p ≤ gl_ G y + 1 → y ≠ ((ge_ G p).getD i (0, 0)).2 → gw_ G' y = gw_ G y) ∧
  (∀ y, 1 ≤ gw_ G' y → 1 ≤ gw_ G y ∨ y = c) ∧
  (∀ y, 1 ≤ gw_ G y → gl_ G y ≤ l → et_ (ge_ G') (gl_ G y) y = et_ (ge_ G) (gl_ G y) y) ∧
  et_ (ge_ G') (gl_ G' c) c = et_ (ge_ G) (gl_ G' c) ((ge_ G p).getD i (0, 0)).2 ∧
  (c = ((ge_ G p).getD i (0, 0)).2 ∨ (gw_ G c = 0 ∧ 2 ≤ gw_ G ((ge_ G p).getD i (0, 0)).2))
theorem own_ {p i : Nat} {post : Int32 → St_ → Prop} (hw : 5 ≤ w ∧ w ≤ 32) (hR : Rp_ w st G) (hI : In_ w X l R a G) (hr : ∀ y, R y ≤ 1000) (hp : 1 ≤ gw_ G p) (hpl : gl_ G p ≤ l) (hp0 : gl_ G p ≠ 0) (hi : i < (ge_ G p).length)
    (hbX : 2 ≤ gw_ G ((ge_ G p).getD i (0, 0)).2 → ((ge_ G p).getD i (0, 0)).2 ∉ X) (hk : 2 ≤ gw_ G ((ge_ G p).getD i (0, 0)).2 → gl_ G ((ge_ G p).getD i (0, 0)).2 ≠ 0 → ∀ e ∈ ge_ G ((ge_ G p).getD i (0, 0)).2, e.2 ∉ X)
    (k : ∀ st' G' c, Rp_ w st' G' → Fr_ st st' → In_ w X l R a G' → Ow_ l G G' p i c → post (nI c) st') : wp_T_ownedChild w (nI p) (nI i) st post := by
  unfold wp_T_ownedChild
  obtain ⟨hI, hs⟩ := hI
  obtain ⟨p1, p2, p3⟩ := hI.1 p hp
  have hbd := hR.bd hi
  refine p_goal hw hR ⟨p1, p2⟩ hi ?_
  have hm := gd_mem hi
  obtain ⟨g1, g2, g3, g4⟩ := hI.child hp hpl hp0 hm
  generalize hbe : ((ge_ G p).getD i (0, 0)).2 = b at *
  obtain ⟨b1, b2, b3⟩ := hI.1 b g1
  by_cases hb1 : gw_ G b ≤ 1
  · refine p_owned1 hR ⟨b1, b2⟩ hb1 ?_
    refine p_setGoal hw hR ⟨p1, p2⟩ hi hbd.2 (fun s1 hR1 hF1 => ?_)
    have e1 : sg_ (ge_ G p) i b = ge_ G p := by
      rw [← hbe]
      apply List.ext_getElem?
      intro j
      rw [List.getElem?_set]
      by_cases hj : i = j
      · subst hj
        simp [hi, List.getD_eq_getElem?_getD, List.getElem?_eq_getElem hi]
      · simp [hj]
    have e2 : se_ G p (sg_ (ge_ G p) i b) = G := by
      rw [e1]
      refine Sg_ext (fun _ => rfl) (fun _ => rfl) (fun x => ?_) rfl
      by_cases hx : x = p
      · subst hx; simp [va_up]
      · simp [va_up, hx]
    rw [e2] at hR1
    refine k s1 G b hR1 hF1 ⟨hI, hs⟩ ⟨by omega, g2, by rw [hbe], e1.symm, rfl, rfl, fun y h1 _ => ⟨rfl, rfl, h1⟩, fun _ _ _ => rfl, fun _ _ _ _ => rfl, fun y h => Or.inl h, fun _ _ _ => rfl, by rw [hbe], Or.inl hbe.symm⟩
  · have hb2 : 2 ≤ gw_ G b := by omega
    have hbX' := hbX hb2
    have hkX := hk hb2
    have hbl : gl_ G b ≤ l := by omega
    have hv := hI.2.2.2 b g1 hbl
    have hln := (hv.1 hbX').1
    have hl2 : 2 ≤ (ge_ G b).length := by have := g3 hbX'; omega
    -- a free block
    have hsl := SL_one (l := l) g1 b2 hbl
    have hsl2 : 1 ≤ sl_ G b := by
      have : 1 ≤ (gw_ G b - 1) * mu_ G b := Nat.mul_pos (by omega) (by show 1 ≤ max _ 1; omega)
      simp only [sl_]; omega
    obtain ⟨f, c, hf⟩ : ∃ f c, gf_ G = f ++ [c] := by
      have hne : gf_ G ≠ [] := fun e => by rw [e] at hs; simp at hs; omega
      exact ⟨(gf_ G).dropLast, (gf_ G).getLast hne, (List.dropLast_concat_getLast hne).symm⟩
    obtain ⟨c1, c2, c3, -, -⟩ := fr_last hI hf
    have hbc : b ≠ c := fun e => by rw [e] at hb2; omega
    have hpc : p ≠ c := fun e => by rw [e] at hp; omega
    have hpb : p ≠ b := fun e => by rw [e] at g2; omega
    obtain ⟨w1, w2, w3⟩ := cp_w hI hb2 hbl hf
    refine p_owned2 hw hR ⟨b1, b2⟩ hb2 (gw_bd hw hR hI hr b g1) b3 hf ⟨c1, c2⟩ hbc (fun h0 e he => by
      obtain ⟨q1, -, -, -⟩ := hI.child g1 hbl h0 he
      have := hI.1 e.2 q1; exact ⟨this.1, this.2.1⟩) (fun s1 hR1 hF1 => ?_)
    have hi1 : i < (ge_ (cp_ G b c f) p).length := by rw [(cp_l hpc).2]; exact hi
    refine p_setGoal hw hR1 ⟨p1, p2⟩ hi1 (by omega) (fun s2 hR2 hF2 => ?_)
    rw [(cp_l hpc).2] at hR2
    have hqp : qc_ G b p = 0 := by
      rcases Nat.eq_zero_or_pos (qc_ G b p) with h | h
      · exact h
      · have := (qc_used hI g1 hbl h).2; omega
    -- the entries
    have het : ∀ y, 1 ≤ gw_ G y → gl_ G y ≤ l → et_ (ge_ (se_ (cp_ G b c f) p (sg_ (ge_ G p) i c))) (gl_ G y) y = et_ (ge_ G) (gl_ G y) y := by
      intro y hy hyl
      rw [← cp_et (b := b) hI hf hy hyl]
      refine et_repl (p := p) (m := gl_ G b) (fun n y => (1 ≤ gw_ G y ∧ gl_ G y = n ∧ n ≤ l) ∨ (y = c ∧ n = gl_ G b)) (fun n y h hne => ?_) (fun n y h e he => ?_) (fun n h => ?_) (fun e he => ?_) ?_ _ y (Or.inl ⟨hy, rfl, hyl⟩)
      · exact se_ne _ _ hne
      · rcases h with ⟨h1, h2, h3⟩ | ⟨h1, h2⟩
        · have hyc : y ≠ c := fun q => by rw [q] at h1; omega
          rw [(cp_l hyc).2] at he
          obtain ⟨q1, q2, -, -⟩ := hI.child h1 (by omega) (by omega) he
          exact Or.inl ⟨q1, by omega, by omega⟩
        · rw [h1, cp_lc.2] at he
          obtain ⟨q1, q2, -, -⟩ := hI.child g1 hbl (by omega) he
          exact Or.inl ⟨q1, by omega, by omega⟩
      · rcases h with ⟨h1, h2, h3⟩ | ⟨h1, h2⟩
        · omega
        · exact absurd h1 hpc
      · rw [se_at] at he
        rcases List.mem_or_eq_of_mem_set he with h | h
        · obtain ⟨q1, q2, -, -⟩ := hI.child hp hpl hp0 h
          exact Or.inl ⟨q1, by omega, by omega⟩
        · subst h; exact Or.inr ⟨rfl, rfl⟩
      · rw [se_at, (cp_l hpc).2]
        refine fm_set hi ?_
        rw [hbe]
        show et_ (ge_ (cp_ G b c f)) (gl_ G b) c = et_ (ge_ (cp_ G b c f)) (gl_ G b) b
        rw [cp_etc hI g1 hbl hf, cp_et hI hf g1 hbl]
    have hetc : et_ (ge_ (se_ (cp_ G b c f) p (sg_ (ge_ G p) i c))) (gl_ G b) c = et_ (ge_ G) (gl_ G b) b := by
      cases hn : gl_ G b with
      | zero =>
        show ge_ _ c = ge_ G b
        rw [se_ne _ _ (Ne.symm hpc), cp_lc.2]
      | succ n =>
        rw [et_succ, et_succ, se_ne _ _ (Ne.symm hpc), cp_lc.2]
        refine fm_congr (fun e he => ?_)
        obtain ⟨q1, q2, -, -⟩ := hI.child g1 hbl (by omega) he
        have := het e.2 q1 (by omega)
        rw [show gl_ G e.2 = n by omega] at this
        exact this
    have hOw : Ow_ l G (se_ (cp_ G b c f) p (sg_ (ge_ G p) i c)) p i c := by
      refine ⟨w1, ?_, ?_, se_at _ _ _, (cp_l (f := f) hpc).1, ?_, fun y hy hyp => ?_, fun y hy hyl => ?_, fun y hy hyl hyb => ?_, fun y hy => (cp_used hI hb2 hbl hf y).mp hy, het, ?_, Or.inr ⟨c3, by rw [hbe]; exact hb2⟩⟩
      · show gl_ (cp_ G b c f) c + 1 = _
        rw [cp_lc.1]; exact g2
      · rw [se_ne _ _ (Ne.symm hpc), cp_lc.2, hbe]
      · show gw_ (cp_ G b c f) p = _
        rw [w3 p hpb hpc, hqp]; rfl
      · have hyc : y ≠ c := fun q => by rw [q] at hy; omega
        rw [se_ne _ _ hyp]
        exact ⟨(cp_l (f := f) hyc).2, (cp_l (f := f) hyc).1, (cp_used hI hb2 hbl hf y).mpr (Or.inl hy)⟩
      · have hyc : y ≠ c := fun q => by rw [q] at hy; omega
        have hyb : y ≠ b := fun q => by rw [q] at hyl; omega
        show gw_ (cp_ G b c f) y = _
        rw [w3 y hyb hyc]
        rcases Nat.eq_zero_or_pos (qc_ G b y) with h | h
        · omega
        · have := (qc_used hI g1 hbl h).2; omega
      · have hyc : y ≠ c := fun q => by rw [q] at hy; omega
        rw [hbe] at hyb
        show gw_ (cp_ G b c f) y = _
        rw [w3 y hyb hyc]
        rcases Nat.eq_zero_or_pos (qc_ G b y) with h | h
        · omega
        · have := (qc_used hI g1 hbl h).2; omega
      · show et_ _ (gl_ (cp_ G b c f) c) c = _
        rw [cp_lc.1, hbe]; exact hetc
    refine k s2 _ c hR2 (hF1.tr hF2) ⟨⟨cp_u hI hb2 hbl hf, cp_f hI hb2 hbl hf, fun y hy => ?_, fun y hy hyl => ?_⟩, ?_⟩ hOw
    · have h1 := cp_cnt hI hb2 hbl hf y hy
      have hwp : ¬ (gw_ (cp_ G b c f) p = 0 ∨ gl_ (cp_ G b c f) p = 0) := by
        rw [(cp_l hpc).1, w3 p hpb hpc]; omega
      have h3 := sm_up (n := 1201) (k := p) (f := fun q => if gw_ (cp_ G b c f) q = 0 ∨ gl_ (cp_ G b c f) q = 0 then 0 else cn_ y (ge_ (cp_ G b c f) q)) (g := fun q => if gw_ (cp_ G b c f) q = 0 ∨ gl_ (cp_ G b c f) q = 0 then 0 else cn_ y (ge_ (se_ (cp_ G b c f) p (sg_ (ge_ G p) i c)) q)) (by omega) (fun q _ hq => by
        simp only [se_ne (cp_ G b c f) (sg_ (ge_ G p) i c) hq])
      simp only [hwp, if_false, se_at, (cp_l (G := G) (b := b) (f := f) hpc).2] at h3
      have h4 : cn_ y (sg_ (ge_ G p) i c) + (if ((ge_ G p).getD i (0, 0)).2 = y then 1 else 0) = cn_ y (ge_ G p) + (if c = y then 1 else 0) := cn_set y (ge_ G p) i ((((ge_ G p).getD i (0, 0)).1, c)) hi
      rw [hbe] at h4
      have e3 : eg_ (se_ (cp_ G b c f) p (sg_ (ge_ G p) i c)) y = sm_ 1201 (fun q => if gw_ (cp_ G b c f) q = 0 ∨ gl_ (cp_ G b c f) q = 0 then 0 else cn_ y (ge_ (se_ (cp_ G b c f) p (sg_ (ge_ G p) i c)) q)) := rfl
      have e4 : eg_ (cp_ G b c f) y = sm_ 1201 (fun q => if gw_ (cp_ G b c f) q = 0 ∨ gl_ (cp_ G b c f) q = 0 then 0 else cn_ y (ge_ (cp_ G b c f) q)) := rfl
      rw [← e3, ← e4] at h3
      show gw_ (cp_ G b c f) y = _
      have e5 : (if b = y then 1 else 0) = (if y = b then 1 else 0) := by simp only [eq_comm]
      have e6 : (if c = y then 1 else 0) = (if y = c then 1 else 0) := by simp only [eq_comm]
      rw [e5, e6] at h4
      omega
    · have hv1 := cp_v hI hb2 hbl hf hbX' y hy hyl
      have hyu := (cp_used hI hb2 hbl hf y).mp hy
      have hgl : ∀ z, gl_ (se_ (cp_ G b c f) p (sg_ (ge_ G p) i c)) z = gl_ (cp_ G b c f) z := fun _ => rfl
      have hgw : ∀ z, gw_ (se_ (cp_ G b c f) p (sg_ (ge_ G p) i c)) z = gw_ (cp_ G b c f) z := fun _ => rfl
      have hlen : ∀ z, (ge_ (se_ (cp_ G b c f) p (sg_ (ge_ G p) i c)) z).length = (ge_ (cp_ G b c f) z).length := fun z => by
        by_cases hz : z = p
        · subst hz; rw [se_at, (cp_l hpc).2, List.length_set]
        · rw [se_ne _ _ hz]
      have hhd : ∀ z, (ge_ (se_ (cp_ G b c f) p (sg_ (ge_ G p) i c)) z).head?.map Prod.fst = (ge_ (cp_ G b c f) z).head?.map Prod.fst := fun z => by
        by_cases hz : z = p
        · subst hz
          rw [se_at, (cp_l hpc).2]
          cases hL : ge_ G z with
          | nil => rw [hL] at hi; simp at hi
          | cons d D =>
            cases i with
            | zero => simp [sg_]
            | succ i => simp [sg_]
        · rw [se_ne _ _ hz]
      refine ⟨fun hx => by rw [hlen]; exact hv1.1 hx, ?_, fun h0 => ?_⟩
      · have : et_ (ge_ (se_ (cp_ G b c f) p (sg_ (ge_ G p) i c))) (gl_ (cp_ G b c f) y) y = et_ (ge_ (cp_ G b c f)) (gl_ (cp_ G b c f) y) y := by
          by_cases hyc : y = c
          · subst hyc
            rw [cp_lc.1, hetc, cp_etc hI g1 hbl hf]
          · have hyu' : 1 ≤ gw_ G y := by
              rcases hyu with h | h
              · exact h
              · exact absurd h hyc
            have hyl' : gl_ G y ≤ l := by have := hyl; rw [hgl, (cp_l hyc).1] at this; exact this
            rw [(cp_l hyc).1, het y hyu' hyl', cp_et hI hf hyu' hyl']
        rw [hgl, this]
        exact hv1.2.1
      · intro e he
        by_cases hyp : y = p
        · subst hyp
          rw [se_at] at he
          rw [hgl, hgl, hgw, hlen, hhd]
          rcases List.mem_or_eq_of_mem_set he with h | h
          · have hv3 := hv1.2.2 (by rw [(cp_l hpc).1]; exact hp0) e (by rw [(cp_l hpc).2]; exact h)
            exact hv3
          · subst h
            have hgk := g4
            refine ⟨by show 1 ≤ gw_ (cp_ G b c f) c; omega, ?_, fun _ => ?_, ?_⟩
            · show gl_ (cp_ G b c f) c + 1 = gl_ (cp_ G b c f) y
              rw [cp_lc.1, (cp_l hpc).1]; exact g2
            · show w / 2 ≤ (ge_ (cp_ G b c f) c).length
              rw [cp_lc.2]; exact g3 hbX'
            · show (ge_ (cp_ G b c f) c).head?.map Prod.fst = _
              rw [cp_lc.2]; exact g4
        · rw [se_ne _ _ hyp] at he
          rw [hgl, hgl, hgw, hlen, hhd]
          exact hv1.2.2 h0 e he
    · have h1 := cp_SL hw.1 hI hb2 hbl hf hln (Or.inr hl2) hkX
      have h3 : (gf_ G).length = f.length + 1 := by rw [hf]; simp
      have h4 : SL_ l (se_ (cp_ G b c f) p (sg_ (ge_ G p) i c)) = SL_ l (cp_ G b c f) := by
        refine sm_congr (fun y _ => ?_)
        show (if gw_ (cp_ G b c f) y = 0 ∨ l < gl_ (cp_ G b c f) y then 0 else sl_ _ y) = if gw_ (cp_ G b c f) y = 0 ∨ l < gl_ (cp_ G b c f) y then 0 else sl_ _ y
        split
        · rfl
        · next hu =>
          have hyu := (cp_used hI hb2 hbl hf y).mp (by omega)
          have hk1 : kp_ (se_ (cp_ G b c f) p (sg_ (ge_ G p) i c)) y = kp_ (cp_ G b c f) y := by
            show (et_ (ge_ (se_ (cp_ G b c f) p (sg_ (ge_ G p) i c))) (gl_ (cp_ G b c f) y) y).length = (et_ (ge_ (cp_ G b c f)) (gl_ (cp_ G b c f) y) y).length
            by_cases hyc : y = c
            · subst hyc
              rw [cp_lc.1, hetc, cp_etc hI g1 hbl hf]
            · have hyu' : 1 ≤ gw_ G y := by
                rcases hyu with h | h
                · exact h
                · exact absurd h hyc
              rw [(cp_l hyc).1] at hu ⊢
              rw [het y hyu' (by omega), cp_et hI hf hyu' (by omega)]
          have hlen : (ge_ (se_ (cp_ G b c f) p (sg_ (ge_ G p) i c)) y).length = (ge_ (cp_ G b c f) y).length := by
            by_cases hz : y = p
            · subst hz; rw [se_at, (cp_l hpc).2, List.length_set]
            · rw [se_ne _ _ hz]
          show (gw_ (cp_ G b c f) y - 1) * max (kp_ (se_ (cp_ G b c f) p (sg_ (ge_ G p) i c)) y - 1) 1 + _ = (gw_ (cp_ G b c f) y - 1) * max (kp_ (cp_ G b c f) y - 1) 1 + _
          rw [hk1, hlen]
      show a + SL_ l (se_ (cp_ G b c f) p (sg_ (ge_ G p) i c)) ≤ f.length
      omega
end OW
end
section
-- PURE: what an operation below a block leaves as it was; one level up
/-- from G to G' all that is held from outside level n, but for c, is as it was -/
def Cp_ (n : Nat) (R : Nat → Nat) (G G' : Sg_) (c : Nat) : Prop :=
  gw_ G' c = 1 ∧ gl_ G' c = n ∧
  (∀ y, 1 ≤ gw_ G y → y ≠ c → (n ≤ gl_ G y ∨ 1 ≤ R y) → ge_ G' y = ge_ G y ∧ gl_ G' y = gl_ G y ∧ 1 ≤ gw_ G' y ∧ (gl_ G y ≤ n → et_ (ge_ G') (gl_ G y) y = et_ (ge_ G) (gl_ G y) y)) ∧
  (∀ y, y ≠ c → n ≤ gl_ G y → 1 ≤ gw_ G y → gw_ G' y = gw_ G y) ∧
  (∀ y, 1 ≤ gw_ G' y → n ≤ gl_ G' y → 1 ≤ gw_ G y ∧ gl_ G y = gl_ G' y)
theorem Cp_.rf {n : Nat} {R : Nat → Nat} {G : Sg_} {c : Nat} (h1 : gw_ G c = 1) (h2 : gl_ G c = n) : Cp_ n R G G c :=
  ⟨h1, h2, fun _ h _ _ => ⟨rfl, rfl, h, fun _ => rfl⟩, fun _ _ _ _ => rfl, fun _ h _ => ⟨h, rfl⟩⟩
theorem Cp_.tr {n : Nat} {R : Nat → Nat} {G G1 G2 : Sg_} {c : Nat} (h1 : Cp_ n R G G1 c) (h2 : Cp_ n R G1 G2 c) : Cp_ n R G G2 c := by
  obtain ⟨a1, a2, a3, a4, a5⟩ := h1
  obtain ⟨b1, b2, b3, b4, b5⟩ := h2
  refine ⟨b1, b2, fun y y1 y2 y3 => ?_, fun y y1 y2 y3 => ?_, fun y y1 y2 => ?_⟩
  · obtain ⟨c1, c2, c3, c4⟩ := a3 y y1 y2 y3
    obtain ⟨d1, d2, d3, d4⟩ := b3 y c3 y2 (by rw [c2]; exact y3)
    refine ⟨d1.trans c1, d2.trans c2, d3, fun h => ?_⟩
    have := d4 (by rw [c2]; exact h)
    rw [c2] at this
    exact this.trans (c4 h)
  · obtain ⟨c1, c2, c3, c4⟩ := a3 y y3 y1 (Or.inl y2)
    rw [b4 y y1 (by rw [c2]; exact y2) c3]
    exact a4 y y1 y2 y3
  · obtain ⟨c1, c2⟩ := b5 y y1 y2
    obtain ⟨d1, d2⟩ := a5 y c1 (by rw [c2]; exact y2)
    exact ⟨d1, d2.trans c2⟩
theorem Cp_ow {n i b c : Nat} {R : Nat → Nat} {G G' : Sg_} (hw : gw_ G b = 1) (hn : gl_ G b = n + 1) (h : Ow_ (n + 1) G G' b i c) : Cp_ (n + 1) R G G' b := by
  obtain ⟨o1, o2, o3, o4, o5, o6, o7, o8, o9, o10, o11, o12, o13⟩ := h
  refine ⟨by rw [o6]; exact hw, by rw [o5]; exact hn, fun y y1 y2 y3 => ?_, fun y y1 y2 y3 => o8 y y3 (by omega), fun y y1 y2 => ?_⟩
  · obtain ⟨c1, c2, c3⟩ := o7 y y1 y2
    exact ⟨c1, c2, c3, fun h => o11 y y1 h⟩
  · by_cases hy : y = b
    · subst hy; exact ⟨by omega, o5.symm⟩
    · rcases o10 y y1 with h | h
      · exact ⟨h, (o7 y h hy).2.1.symm⟩
      · subst h; omega
section RS
variable {w l a n : Nat} {X : List Nat} {R : Nat → Nat} {Z : List Nat} {G : Sg_}
/-- a block with one way: it is the one from p -/
theorem uniq_ (hI : Ic_ w X l R Z G) {p c : Nat} (hp : 1 ≤ gw_ G p) (hp0 : gl_ G p ≠ 0) (hc : gw_ G c = 1) (hm : 1 ≤ cn_ c (ge_ G p)) : R c = 0 ∧ cn_ c (ge_ G p) = 1 ∧ ∀ q, 1 ≤ gw_ G q → gl_ G q ≠ 0 → q ≠ p → cn_ c (ge_ G q) = 0 := by
  obtain ⟨c1, c2, c3⟩ := hI.1 c (by omega)
  have h1 := hI.2.2.1 c c1
  obtain ⟨p1, p2, p3⟩ := hI.1 p hp
  have h2 := sm_one (n := 1201) (k := p) (fun p => if gw_ G p = 0 ∨ gl_ G p = 0 then 0 else cn_ c (ge_ G p)) (by omega)
  simp only [show ¬ (gw_ G p = 0 ∨ gl_ G p = 0) by omega, if_false] at h2
  have h3 : eg_ G c = sm_ 1201 (fun p => if gw_ G p = 0 ∨ gl_ G p = 0 then 0 else cn_ c (ge_ G p)) := rfl
  refine ⟨by omega, by omega, fun q q1 q2 q3 => ?_⟩
  obtain ⟨r1, r2, r3⟩ := hI.1 q q1
  have h4 := sm_two (n := 1201) (j := p) (k := q) (fun p => if gw_ G p = 0 ∨ gl_ G p = 0 then 0 else cn_ c (ge_ G p)) (by omega) (by omega) (Ne.symm q3)
  simp only [show ¬ (gw_ G p = 0 ∨ gl_ G p = 0) by omega, show ¬ (gw_ G q = 0 ∨ gl_ G q = 0) by omega, if_false] at h4
  omega
theorem cn_split (c : Nat) {L : List (Nat × Nat)} {i : Nat} (hi : i < L.length) (hc : (L.getD i (0, 0)).2 = c) : cn_ c L = cn_ c (L.take i) + 1 + cn_ c (L.drop (i + 1)) := by
  conv => lhs; rw [spl_ hi]
  rw [cn_app]
  simp only [cn_, hc, if_true]
  omega
def TL_ (m : Nat) (G : Sg_) : Nat := sm_ 1201 (fun y => if gw_ G y = 0 ∨ gl_ G y ≠ m then 0 else sl_ G y)
theorem SL_succ (n : Nat) (G : Sg_) : SL_ (n + 1) G = SL_ n G + TL_ (n + 1) G := by
  simp only [SL_, TL_]
  rw [← sm_add]
  refine sm_congr (fun y _ => ?_)
  by_cases h0 : gw_ G y = 0
  · simp [h0]
  · by_cases h1 : gl_ G y = n + 1
    · simp [h0, h1]
    · by_cases h2 : n < gl_ G y
      · simp only [h0, h1, false_or, show n + 1 < gl_ G y by omega, h2, if_true, ne_eq, not_false_eq_true]
      · simp only [h0, h1, false_or, show ¬ (n + 1 < gl_ G y) by omega, h2, if_false, ne_eq, not_false_eq_true, if_true, Nat.add_zero]
theorem In_.low (hI : In_ w X (n + 1) R a G) : In_ w X n R (a + TL_ (n + 1) G) G := by
  obtain ⟨⟨h1, h2, h3, h4⟩, h5⟩ := hI
  refine ⟨⟨h1, h2, h3, fun b hb hl => h4 b hb (by omega)⟩, ?_⟩
  rw [SL_succ] at h5
  omega
theorem Vn_.mono {X Y : List Nat} (h : ∀ y, y ∈ X → y ∈ Y) {b : Nat} (hv : Vn_ w X G b) : Vn_ w Y G b :=
  ⟨fun hb => hv.1 (fun q => hb (h _ q)), hv.2.1, fun h0 e he => ⟨(hv.2.2 h0 e he).1, (hv.2.2 h0 e he).2.1, fun q => (hv.2.2 h0 e he).2.2.1 (fun z => q (h _ z)), (hv.2.2 h0 e he).2.2.2⟩⟩
theorem In_.mono {X Y : List Nat} (h : ∀ y, y ∈ X → y ∈ Y) (hI : In_ w X l R a G) : In_ w Y l R a G :=
  ⟨⟨hI.1.1, hI.1.2.1, hI.1.2.2.1, fun b hb hl => (hI.1.2.2.2 b hb hl).mono h⟩, hI.2⟩
theorem In_.less {a' : Nat} (h : a' ≤ a) (hI : In_ w X l R a G) : In_ w X l R a' G := ⟨hI.1, by have := hI.2; omega⟩
/-- blocks of level n or less do not see an entry of a block above -/
theorem et_up {m b : Nat} {L : List (Nat × Nat)} (hI : Ic_ w X m R Z G) (hb : m < gl_ G b) {y : Nat} (hy : 1 ≤ gw_ G y) (hl : gl_ G y ≤ m) : et_ (ge_ (se_ G b L)) (gl_ G y) y = et_ (ge_ G) (gl_ G y) y := by
  refine et_same (fun n y => 1 ≤ gw_ G y ∧ gl_ G y = n ∧ n ≤ m) (fun n y h => se_ne _ _ (fun e => by rw [e] at h; omega)) (fun n y h e he => ?_) _ y ⟨hy, rfl, hl⟩
  obtain ⟨g1, g2, -, -⟩ := hI.child h.1 (by omega) (by omega) he
  exact ⟨g1, by omega, by omega⟩
/-- one level up: the child c of b has changed, b's entry gets its key -/
theorem raise_ {G1 G2 : Sg_} {b i c a2 k0 : Nat} (hw : 5 ≤ w) (hI1 : In_ w [b] (n + 1) R a G1) (hb1 : gw_ G1 b = 1) (hbn : gl_ G1 b = n + 1) (hi : i < (ge_ G1 b).length) (hc : ((ge_ G1 b).getD i (0, 0)).2 = c) (hc1 : gw_ G1 c = 1)
    (hC : Cp_ n R G1 G2 c) (hI2 : In_ w [c] n R (a2 + TL_ (n + 1) G1) G2) (hk : (ge_ G2 c).head?.map Prod.fst = some k0)
    (hso : so_ (fm_ (ge_ G1) n ((ge_ G1 b).take i) ++ (et_ (ge_ G2) n c ++ fm_ (ge_ G1) n ((ge_ G1 b).drop (i + 1))))) :
    In_ w [b, c] (n + 1) R a2 (se_ G2 b (sk_ (ge_ G2 b) i k0)) ∧ Cp_ (n + 1) R G1 (se_ G2 b (sk_ (ge_ G2 b) i k0)) b ∧
    et_ (ge_ (se_ G2 b (sk_ (ge_ G2 b) i k0))) (n + 1) b = fm_ (ge_ G1) n ((ge_ G1 b).take i) ++ (et_ (ge_ G2) n c ++ fm_ (ge_ G1) n ((ge_ G1 b).drop (i + 1))) ∧
    ge_ G2 b = ge_ G1 b ∧ c ≠ b ∧ gw_ G2 b = 1 := by
  obtain ⟨cw, cl, F1, F2, F3⟩ := hC
  have hcm : ((ge_ G1 b).getD i (0, 0)) ∈ ge_ G1 b := gd_mem hi
  have hch := hI1.1.child (by omega) (by omega) (by omega) hcm
  rw [hc] at hch
  obtain ⟨g1, g2, g3, g4⟩ := hch
  have hcb : c ≠ b := fun e => by rw [e] at g2; omega
  have hun := uniq_ hI1.1 (p := b) (c := c) (by omega) (by omega) hc1 (cn_mem hcm hc)
  obtain ⟨u1, u2, u3⟩ := hun
  obtain ⟨e1, e2, e3, -⟩ := F1 b (by omega) (Ne.symm hcb) (Or.inl (by omega))
  have hwb : gw_ G2 b = 1 := by rw [F2 b (Ne.symm hcb) (by omega) (by omega)]; exact hb1
  have hlb : gl_ G2 b = n + 1 := by rw [e2]; exact hbn
  -- other entries of level n + 1 lead elsewhere
  have hoth : ∀ y, 1 ≤ gw_ G1 y → gl_ G1 y = n + 1 → y ≠ b → ∀ e ∈ ge_ G1 y, e.2 ≠ c := fun y y1 y2 y3 e he q => by
    have h1 := u3 y y1 (by omega) y3
    have h2 := cn_mem he q
    omega
  have hsp := cn_split c hi hc
  have hA : ∀ e ∈ (ge_ G1 b).take i, e.2 ≠ c := fun e he q => by have := cn_mem he q; omega
  have hB : ∀ e ∈ (ge_ G1 b).drop (i + 1), e.2 ≠ c := fun e he q => by have := cn_mem he q; omega
  -- children other than c are as they were
  have hkid : ∀ y, 1 ≤ gw_ G1 y → gl_ G1 y = n + 1 → ∀ e ∈ ge_ G1 y, e.2 ≠ c → 1 ≤ gw_ G2 e.2 ∧ gl_ G2 e.2 = n ∧ ge_ G2 e.2 = ge_ G1 e.2 ∧ et_ (ge_ G2) n e.2 = et_ (ge_ G1) n e.2 := fun y y1 y2 e he hne => by
    obtain ⟨q1, q2, -, -⟩ := hI1.1.child y1 (by omega) (by omega) he
    obtain ⟨r1, r2, r3, r4⟩ := F1 e.2 q1 hne (Or.inl (by omega))
    have := r4 (by omega)
    rw [show gl_ G1 e.2 = n by omega] at this
    exact ⟨r3, by omega, r1, this⟩
  -- et at level n and below in the new store
  have hetn : ∀ y, 1 ≤ gw_ G2 y → gl_ G2 y ≤ n → et_ (ge_ (se_ G2 b (sk_ (ge_ G2 b) i k0))) (gl_ G2 y) y = et_ (ge_ G2) (gl_ G2 y) y := fun y y1 y2 => et_up hI2.1 (by omega) y1 y2
  have hi2 : i < (ge_ G2 b).length := by rw [e1]; exact hi
  have hset : sk_ (ge_ G2 b) i k0 = (ge_ G1 b).take i ++ (k0, c) :: (ge_ G1 b).drop (i + 1) := by
    rw [e1]
    show (ge_ G1 b).set i (k0, ((ge_ G1 b).getD i (0, 0)).2) = _
    rw [hc, List.set_eq_take_append_cons_drop, if_pos hi]
  have hfm : ∀ L : List (Nat × Nat), (∀ e ∈ L, e ∈ ge_ G1 b ∧ e.2 ≠ c) → fm_ (ge_ (se_ G2 b (sk_ (ge_ G2 b) i k0))) n L = fm_ (ge_ G1) n L := fun L hL => by
    refine fm_congr (fun e he => ?_)
    obtain ⟨q1, q2, q3, q4⟩ := hkid b (by omega) hbn e (hL e he).1 (hL e he).2
    have := hetn e.2 q1 (by omega)
    rw [q2] at this
    rw [this, q4]
  have het : et_ (ge_ (se_ G2 b (sk_ (ge_ G2 b) i k0))) (n + 1) b = fm_ (ge_ G1) n ((ge_ G1 b).take i) ++ (et_ (ge_ G2) n c ++ fm_ (ge_ G1) n ((ge_ G1 b).drop (i + 1))) := by
    have hbb : ge_ (se_ G2 b (sk_ (ge_ G2 b) i k0)) b = (ge_ G1 b).take i ++ (k0, c) :: (ge_ G1 b).drop (i + 1) := (se_at _ _ _).trans hset
    rw [et_succ, hbb, fm_app, fm_cons]
    rw [hfm _ (fun e he => ⟨List.mem_of_mem_take he, hA e he⟩), hfm _ (fun e he => ⟨List.mem_of_mem_drop he, hB e he⟩)]
    have := hetn c (by omega) (by omega)
    rw [cl] at this
    rw [this]
  have hety : ∀ y, 1 ≤ gw_ G1 y → gl_ G1 y = n + 1 → y ≠ b → et_ (ge_ (se_ G2 b (sk_ (ge_ G2 b) i k0))) (n + 1) y = et_ (ge_ G1) (n + 1) y := fun y y1 y2 y3 => by
    obtain ⟨r1, r2, r3, -⟩ := F1 y y1 (fun q => by rw [q] at y2; omega) (Or.inl (by omega))
    rw [et_succ, et_succ, se_ne _ _ y3, r1]
    refine fm_congr (fun e he => ?_)
    obtain ⟨q1, q2, q3, q4⟩ := hkid y y1 y2 e he (hoth y y1 y2 y3 e he)
    have := hetn e.2 q1 (by omega)
    rw [q2] at this
    rw [this, q4]
  have hCp : Cp_ (n + 1) R G1 (se_ G2 b (sk_ (ge_ G2 b) i k0)) b := by
    refine ⟨hwb, hlb, fun y y1 y2 y3 => ?_, fun y y1 y2 y3 => F2 y (fun q => by rw [q] at y2; omega) (by omega) y3, fun y y1 y2 => F3 y y1 (by have : n + 1 ≤ gl_ G2 y := y2; omega)⟩
    have hyc : y ≠ c := fun q => by
      rw [q] at y3
      rcases y3 with h | h <;> omega
    obtain ⟨r1, r2, r3, r4⟩ := F1 y y1 hyc (by omega)
    refine ⟨by rw [se_ne _ _ y2]; exact r1, r2, r3, fun hy => ?_⟩
    by_cases hyn : gl_ G1 y = n + 1
    · rw [hyn]; exact hety y y1 hyn y2
    · have h5 := r4 (by omega)
      have h6 := hetn y r3 (by omega)
      rw [r2] at h6
      rw [h6]; exact h5
  refine ⟨⟨⟨hI2.1.1, hI2.1.2.1, fun y hy => ?_, fun y hy hyl => ?_⟩, ?_⟩, hCp, het, e1, hcb, hwb⟩
  · have h1 := hI2.1.2.2.1 y hy
    have h2 : eg_ (se_ G2 b (sk_ (ge_ G2 b) i k0)) y = eg_ G2 y := by
      refine sm_congr (fun p _ => ?_)
      show (if gw_ G2 p = 0 ∨ gl_ G2 p = 0 then 0 else cn_ y (ge_ (se_ G2 b (sk_ (ge_ G2 b) i k0)) p)) = if gw_ G2 p = 0 ∨ gl_ G2 p = 0 then 0 else cn_ y (ge_ G2 p)
      by_cases hp : p = b
      · subst hp
        rw [se_at]
        have h9 : cn_ y (sk_ (ge_ G2 p) i k0) + (if ((ge_ G2 p).getD i (0, 0)).2 = y then 1 else 0) = cn_ y (ge_ G2 p) + (if ((ge_ G2 p).getD i (0, 0)).2 = y then 1 else 0) := cn_set y (ge_ G2 p) i (k0, ((ge_ G2 p).getD i (0, 0)).2) hi2
        rw [show cn_ y (sk_ (ge_ G2 p) i k0) = cn_ y (ge_ G2 p) by omega]
      · rw [se_ne _ _ hp]
    rw [h2]; exact h1
  · have hyl' : gl_ G2 y ≤ n + 1 := hyl
    have hy' : 1 ≤ gw_ G2 y := hy
    by_cases hyb : y = b
    · subst hyb
      refine ⟨fun h => absurd (by simp) h, ?_, fun _ e he => ?_⟩
      · show so_ (et_ _ (gl_ G2 y) y)
        rw [hlb, het]; exact hso
      · rw [se_at, hset] at he
        have hold : ∀ e ∈ ge_ G1 y, e.2 ≠ c → 1 ≤ gw_ G2 e.2 ∧ gl_ G2 e.2 + 1 = gl_ G2 y ∧ (e.2 ∉ [y, c] → w / 2 ≤ (ge_ (se_ G2 y (sk_ (ge_ G2 y) i k0)) e.2).length) ∧ (ge_ (se_ G2 y (sk_ (ge_ G2 y) i k0)) e.2).head?.map Prod.fst = some e.1 := fun e he hne => by
          obtain ⟨q1, q2, q3, q4⟩ := hkid y (by omega) hbn e he hne
          obtain ⟨s1, s2, s3, s4⟩ := hI1.1.child (by omega) (by omega) (by omega) he
          have hney : e.2 ≠ y := fun q => by rw [q] at s2; omega
          rw [se_ne _ _ hney, q3]
          exact ⟨q1, by omega, fun h => s3 (fun q => h (by simp at q; exact absurd q hney)), s4⟩
        rcases List.mem_append.mp he with h | h
        · exact hold e (List.mem_of_mem_take h) (hA e h)
        · rcases List.mem_cons.mp h with h | h
          · subst h
            refine ⟨by show 1 ≤ gw_ G2 c; omega, by show gl_ G2 c + 1 = gl_ G2 y; omega, fun h => absurd (by simp) h, ?_⟩
            show (ge_ (se_ G2 y (sk_ (ge_ G2 y) i k0)) c).head?.map Prod.fst = some k0
            rw [se_ne _ _ hcb]; exact hk
          · exact hold e (List.mem_of_mem_drop h) (hB e h)
    · by_cases hyn : gl_ G2 y = n + 1
      · have hyc : y ≠ c := fun q => by rw [q] at hyn; omega
        obtain ⟨f1, f2⟩ := F3 y hy' (by omega)
        obtain ⟨r1, r2, r3, -⟩ := F1 y f1 hyc (Or.inl (by omega))
        have hv := hI1.1.2.2.2 y f1 (by omega)
        refine ⟨fun h => ?_, ?_, fun _ e he => ?_⟩
        · rw [se_ne _ _ hyb, r1]
          exact hv.1 (by simpa using hyb)
        · show so_ (et_ _ (gl_ G2 y) y)
          rw [hyn, hety y f1 (by omega) hyb]
          have := hv.2.1
          rw [f2, hyn] at this
          exact this
        · rw [se_ne _ _ hyb, r1] at he
          have hne := hoth y f1 (by omega) hyb e he
          obtain ⟨q1, q2, q3, q4⟩ := hkid y f1 (by omega) e he hne
          obtain ⟨s1, s2, s3, s4⟩ := hI1.1.child f1 (by omega) (by omega) he
          have hneb : e.2 ≠ b := fun q => by rw [q] at s2; omega
          rw [se_ne _ _ hneb, q3]
          exact ⟨q1, by show gl_ G2 e.2 + 1 = gl_ G2 y; omega, fun h => s3 (fun q => h (by simp at q; exact absurd q hneb)), s4⟩
      · have hv := hI2.1.2.2.2 y hy' (by omega)
        refine ⟨fun h => ?_, ?_, fun h0 e he => ?_⟩
        · rw [se_ne _ _ hyb]
          exact hv.1 (fun q => h (by simp at q; simp [q]))
        · show so_ (et_ _ (gl_ G2 y) y)
          rw [hetn y hy' (by omega)]; exact hv.2.1
        · rw [se_ne _ _ hyb] at he
          obtain ⟨s1, s2, s3, s4⟩ := hv.2.2 h0 e he
          have hneb : e.2 ≠ b := fun q => by rw [q, hlb] at s2; have : gl_ G2 y ≤ n + 1 := hyl'; omega
          rw [se_ne _ _ hneb]
          exact ⟨s1, s2, fun h => s3 (fun q => h (by simp at q; simp [q])), s4⟩
  · have h1 := hI2.2
    rw [SL_succ]
    have h2 : SL_ n (se_ G2 b (sk_ (ge_ G2 b) i k0)) = SL_ n G2 := by
      refine sm_congr (fun y _ => ?_)
      show (if gw_ G2 y = 0 ∨ n < gl_ G2 y then 0 else sl_ (se_ G2 b (sk_ (ge_ G2 b) i k0)) y) = if gw_ G2 y = 0 ∨ n < gl_ G2 y then 0 else sl_ G2 y
      split
      · rfl
      · next hu =>
        have hyb : y ≠ b := fun q => by rw [q] at hu; omega
        show (gw_ G2 y - 1) * max ((et_ (ge_ (se_ G2 b (sk_ (ge_ G2 b) i k0))) (gl_ G2 y) y).length - 1) 1 + ((ge_ (se_ G2 b (sk_ (ge_ G2 b) i k0)) y).length - 2) = (gw_ G2 y - 1) * max ((et_ (ge_ G2) (gl_ G2 y) y).length - 1) 1 + ((ge_ G2 y).length - 2)
        rw [hetn y (by omega) (by omega), se_ne _ _ hyb]
    have h3 : TL_ (n + 1) (se_ G2 b (sk_ (ge_ G2 b) i k0)) = TL_ (n + 1) G1 := by
      refine sm_congr (fun y _ => ?_)
      show (if gw_ G2 y = 0 ∨ gl_ G2 y ≠ n + 1 then 0 else sl_ (se_ G2 b (sk_ (ge_ G2 b) i k0)) y) = if gw_ G1 y = 0 ∨ gl_ G1 y ≠ n + 1 then 0 else sl_ G1 y
      by_cases hu : gw_ G1 y = 0 ∨ gl_ G1 y ≠ n + 1
      · have hu2 : gw_ G2 y = 0 ∨ gl_ G2 y ≠ n + 1 := by
          rcases Nat.eq_zero_or_pos (gw_ G2 y) with h | h
          · exact Or.inl h
          · refine Or.inr (fun q => ?_)
            obtain ⟨f1, f2⟩ := F3 y h (by omega)
            omega
        simp only [hu, hu2, if_true]
      · have hyu : 1 ≤ gw_ G1 y := by omega
        have hyn : gl_ G1 y = n + 1 := by omega
        have hyc : y ≠ c := fun q => by rw [q] at hyn; omega
        obtain ⟨r1, r2, r3, -⟩ := F1 y hyu hyc (Or.inl (by omega))
        have hw2 := F2 y hyc (by omega) hyu
        have hu2 : ¬ (gw_ G2 y = 0 ∨ gl_ G2 y ≠ n + 1) := by omega
        simp only [hu, hu2, if_false]
        show (gw_ G2 y - 1) * max ((et_ (ge_ (se_ G2 b (sk_ (ge_ G2 b) i k0))) (gl_ G2 y) y).length - 1) 1 + ((ge_ (se_ G2 b (sk_ (ge_ G2 b) i k0)) y).length - 2) = (gw_ G1 y - 1) * max ((et_ (ge_ G1) (gl_ G1 y) y).length - 1) 1 + ((ge_ G1 y).length - 2)
        by_cases hyb : y = b
        · subst hyb
          rw [hw2, hb1, se_at, List.length_set, e1]
          simp
        · rw [hw2, se_ne _ _ hyb, r1, r2, hyn, hety y hyu hyn hyb]
    show a2 + (SL_ n (se_ G2 b (sk_ (ge_ G2 b) i k0)) + TL_ (n + 1) (se_ G2 b (sk_ (ge_ G2 b) i k0))) ≤ (gf_ G2).length
    rw [h2, h3]
    omega
end RS
end
section
-- PURE: Trees.split
theorem sm_up3 {n i j k : Nat} {f g : Nat → Nat} (hi : i < n) (hj : j < n) (hk : k < n) (hij : i ≠ j) (hik : i ≠ k) (hjk : j ≠ k) (h : ∀ q, q < n → q ≠ i → q ≠ j → q ≠ k → g q = f q) : sm_ n g + f i + f j + f k = sm_ n f + g i + g j + g k := by
  have h1 := sm_up2 (f := f) (g := va_up g k (f k)) hi hj hij (fun q hq q1 q2 => by
    by_cases e : q = k
    · subst e; simp [va_up]
    · simp only [va_up, e, if_false]; exact h q hq q1 q2 e)
  have h2 := sm_up (f := va_up g k (f k)) (g := g) hk (fun q _ hqk => by simp [va_up, hqk])
  rw [show va_up g k (f k) i = g i by simp [va_up, hik], show va_up g k (f k) j = g j by simp [va_up, hjk]] at h1
  rw [show va_up g k (f k) k = f k by simp [va_up]] at h2
  omega
section SP
variable {w a n : Nat} {R : Nat → Nat} {G : Sg_} {st : St_}
abbrev sp_ (w : Nat) (G : Sg_) (b c r n : Nat) (f : List Nat) (L : List (Nat × Nat)) : Sg_ :=
  (va_up G.1 r 1, va_up G.2.1 r n, va_up (va_up (va_up G.2.2.1 r ((G.2.2.1 c).drop (w / 2))) c ((G.2.2.1 c).take (w / 2))) b L, f)
theorem split_pure {b i c r kr : Nat} {f : List Nat} (hw : 5 ≤ w) (hI : In_ w [b, c] (n + 1) R a G) (hb1 : gw_ G b = 1) (hbn : gl_ G b = n + 1) (hi : i < (ge_ G b).length) (hc : ((ge_ G b).getD i (0, 0)).2 = c) (hc1 : gw_ G c = 1) (hcl : (ge_ G c).length = w) (hf : gf_ G = f ++ [r])
    (hkr : ((ge_ G c).drop (w / 2)).head?.map Prod.fst = some kr) :
    In_ w [b] (n + 1) R a (sp_ w G b c r n f (il_ (ge_ G b) (i + 1) (kr, r))) ∧ Cp_ (n + 1) R G (sp_ w G b c r n f (il_ (ge_ G b) (i + 1) (kr, r))) b ∧
    et_ (ge_ (sp_ w G b c r n f (il_ (ge_ G b) (i + 1) (kr, r)))) (n + 1) b = et_ (ge_ G) (n + 1) b := by
  obtain ⟨hI, hs⟩ := hI
  obtain ⟨r1, r2, r3, r4, r5⟩ := fr_last hI hf
  have hcm : ((ge_ G b).getD i (0, 0)) ∈ ge_ G b := gd_mem hi
  have hch := hI.child (by omega) (by omega) (by omega) hcm
  rw [hc] at hch
  obtain ⟨g1, g2, g3, g4⟩ := hch
  have hcn : gl_ G c = n := by omega
  have hcb : c ≠ b := fun e => by rw [e] at g2; omega
  have hrb : r ≠ b := fun e => by rw [e] at r3; omega
  have hrc : r ≠ c := fun e => by rw [e] at r3; omega
  obtain ⟨u1, u2, u3⟩ := uniq_ hI (p := b) (c := c) (by omega) (by omega) hc1 (cn_mem hcm hc)
  obtain ⟨b1, b2, b3⟩ := hI.1 b (by omega)
  obtain ⟨c1, c2, c3⟩ := hI.1 c (by omega)
  generalize hG' : sp_ w G b c r n f (il_ (ge_ G b) (i + 1) (kr, r)) = G'
  have hgw : ∀ y, gw_ G' y = if y = r then 1 else gw_ G y := fun y => by rw [← hG']; rfl
  have hgl : ∀ y, gl_ G' y = if y = r then n else gl_ G y := fun y => by rw [← hG']; rfl
  have heb : ge_ G' b = il_ (ge_ G b) (i + 1) (kr, r) := by rw [← hG']; simp [ge_, sp_, va_up]
  have hec : ge_ G' c = (ge_ G c).take (w / 2) := by rw [← hG']; simp [ge_, sp_, va_up, hcb]
  have her : ge_ G' r = (ge_ G c).drop (w / 2) := by rw [← hG']; simp [ge_, sp_, va_up, hrb, hrc]
  have hey : ∀ y, y ≠ b → y ≠ c → y ≠ r → ge_ G' y = ge_ G y := fun y y1 y2 y3 => by rw [← hG']; simp [ge_, sp_, va_up, y1, y2, y3]
  have hgf : gf_ G' = f := by rw [← hG']
  have hsp := cn_split c hi hc
  have hA : ∀ e ∈ (ge_ G b).take i, e.2 ≠ c := fun e he q => by have := cn_mem he q; omega
  have hB : ∀ e ∈ (ge_ G b).drop (i + 1), e.2 ≠ c := fun e he q => by have := cn_mem he q; omega
  have hoth : ∀ y, 1 ≤ gw_ G y → gl_ G y = n + 1 → y ≠ b → ∀ e ∈ ge_ G y, e.2 ≠ c := fun y y1 y2 y3 e he q => by
    have h1 := u3 y y1 (by omega) y3
    have h2 := cn_mem he q
    omega
  have hur : ∀ y, 1 ≤ gw_ G y → y ≠ r := fun y hy e => by rw [e] at hy; omega
  -- low levels
  have hlow : ∀ y, 1 ≤ gw_ G y → gl_ G y ≤ n → y ≠ c → et_ (ge_ G') (gl_ G y) y = et_ (ge_ G) (gl_ G y) y := fun y y1 y2 y3 => by
    refine et_same (fun m y => 1 ≤ gw_ G y ∧ gl_ G y = m ∧ m ≤ n ∧ y ≠ c) (fun m y h => hey y (fun q => by rw [q] at h; omega) h.2.2.2 (hur y h.1)) (fun m y h e he => ?_) _ y ⟨y1, rfl, y2, y3⟩
    obtain ⟨q1, q2, -, -⟩ := hI.child h.1 (by omega) (by omega) he
    exact ⟨q1, by omega, by omega, fun q => by rw [q] at q2; omega⟩
  have hkid : ∀ y, 1 ≤ gw_ G y → gl_ G y = n + 1 → ∀ e ∈ ge_ G y, e.2 ≠ c → et_ (ge_ G') n e.2 = et_ (ge_ G) n e.2 := fun y y1 y2 e he hne => by
    obtain ⟨q1, q2, -, -⟩ := hI.child y1 (by omega) (by omega) he
    have := hlow e.2 q1 (by omega) hne
    rw [show gl_ G e.2 = n by omega] at this
    exact this
  have hpart : ∀ L : List (Nat × Nat), (∀ e ∈ L, e ∈ ge_ G c) → n ≠ 0 → fm_ (ge_ G') (n - 1) L = fm_ (ge_ G) (n - 1) L := fun L hL h0 => by
    refine fm_congr (fun e he => ?_)
    obtain ⟨q1, q2, -, -⟩ := hI.child (b := c) (by omega) (by omega) (by omega) (hL e he)
    have := hlow e.2 q1 (by omega) (fun q => by rw [q] at q2; omega)
    rw [show gl_ G e.2 = n - 1 by omega] at this
    exact this
  have hcr : et_ (ge_ G') n c ++ et_ (ge_ G') n r = et_ (ge_ G) n c := by
    cases hn : n with
    | zero =>
      show ge_ G' c ++ ge_ G' r = ge_ G c
      rw [hec, her, List.take_append_drop]
    | succ m =>
      have h0 : n ≠ 0 := by omega
      have h1 := hpart ((ge_ G c).take (w / 2)) (fun e he => List.mem_of_mem_take he) h0
      have h2 := hpart ((ge_ G c).drop (w / 2)) (fun e he => List.mem_of_mem_drop he) h0
      rw [show n - 1 = m by omega] at h1 h2
      rw [et_succ, et_succ, et_succ, hec, her, h1, h2, ← fm_app, List.take_append_drop]
  have hety : ∀ y, 1 ≤ gw_ G y → gl_ G y = n + 1 → y ≠ b → et_ (ge_ G') (n + 1) y = et_ (ge_ G) (n + 1) y := fun y y1 y2 y3 => by
    rw [et_succ, et_succ, hey y y3 (fun q => by rw [q] at y2; omega) (hur y y1)]
    exact fm_congr (fun e he => hkid y y1 y2 e he (hoth y y1 y2 y3 e he))
  have hil : il_ (ge_ G b) (i + 1) (kr, r) = (ge_ G b).take i ++ (ge_ G b).getD i (0, 0) :: (kr, r) :: (ge_ G b).drop (i + 1) := by
    show (ge_ G b).take (i + 1) ++ _ = _
    rw [tk_1 hi, List.append_assoc]; rfl
  have hetb : et_ (ge_ G') (n + 1) b = et_ (ge_ G) (n + 1) b := by
    rw [et_succ, et_succ, heb, hil, fm_app, fm_cons, fm_cons, hc]
    conv => rhs; rw [spl_ hi, fm_app, fm_cons, hc, ← hcr]
    rw [fm_congr (fun e he => hkid b (by omega) hbn e (List.mem_of_mem_take he) (hA e he)), fm_congr (fun e he => hkid b (by omega) hbn e (List.mem_of_mem_drop he) (hB e he)), List.append_assoc]
  have hCp : Cp_ (n + 1) R G G' b := by
    refine ⟨by rw [hgw, if_neg (Ne.symm hrb)]; exact hb1, by rw [hgl, if_neg (Ne.symm hrb)]; exact hbn, fun y y1 y2 y3 => ?_, fun y y1 y2 y3 => by rw [hgw, if_neg (hur y y3)], fun y y1 y2 => ?_⟩
    · have hyc : y ≠ c := fun q => by
        rw [q] at y3
        rcases y3 with h | h <;> omega
      refine ⟨hey y y2 hyc (hur y y1), by rw [hgl, if_neg (hur y y1)], by rw [hgw, if_neg (hur y y1)]; exact y1, fun hy => ?_⟩
      by_cases hyn : gl_ G y = n + 1
      · rw [hyn]; exact hety y y1 hyn y2
      · exact hlow y y1 (by omega) hyc
    · rw [hgl] at y2 ⊢
      rw [hgw] at y1
      by_cases hyr : y = r
      · rw [if_pos hyr] at y2; omega
      · rw [if_neg hyr] at y1 y2 ⊢
        exact ⟨y1, rfl⟩
  have hvc := hI.2.2.2 c (by omega) (by omega)
  have hso : so_ (et_ (ge_ G') n c) ∧ so_ (et_ (ge_ G') n r) := by
    have := hvc.2.1
    rw [hcn, ← hcr] at this
    exact ⟨(so_app.mp this).1, (so_app.mp this).2.1⟩
  have hckid : ∀ e ∈ ge_ G c, n ≠ 0 → 1 ≤ gw_ G' e.2 ∧ gl_ G' e.2 + 1 = n ∧ (e.2 ∉ [b] → w / 2 ≤ (ge_ G' e.2).length) ∧ (ge_ G' e.2).head?.map Prod.fst = some e.1 := fun e he h0 => by
    obtain ⟨q1, q2, q3, q4⟩ := hI.child (b := c) (by omega) (by omega) (by omega) he
    have hn1 : e.2 ≠ b := fun q => by rw [q] at q2; omega
    have hn2 : e.2 ≠ c := fun q => by rw [q] at q2; omega
    rw [hgw, hgl, if_neg (hur _ q1), if_neg (hur _ q1), hey _ hn1 hn2 (hur _ q1)]
    exact ⟨q1, by omega, fun _ => q3 (by simp [hn1, hn2]), q4⟩
  refine ⟨⟨⟨fun y hy => ?_, ⟨by rw [hgf]; exact r5, fun y hy => ?_, fun y y1 y2 y3 => ?_⟩, fun y hy => ?_, fun y hy hyl => ?_⟩, ?_⟩, hCp, hetb⟩
  · rw [hgl]
    rw [hgw] at hy
    by_cases hyr : y = r
    · rw [if_pos hyr, hyr]; exact ⟨r1, r2, by omega⟩
    · rw [if_neg hyr] at hy ⊢; exact hI.1 y hy
  · rw [hgf] at hy
    obtain ⟨q1, q2, q3⟩ := hI.2.1.2.1 y (by rw [hf]; exact List.mem_append_left _ hy)
    refine ⟨q1, q2, ?_⟩
    rw [hgw, if_neg (show y ≠ r from fun q => r4 (q ▸ hy))]; exact q3
  · rw [hgw] at y3
    by_cases hyr : y = r
    · rw [if_pos hyr] at y3; omega
    · rw [if_neg hyr] at y3
      rcases hI.2.1.2.2 y y1 y2 y3 with h | h
      · rw [hf] at h
        rcases List.mem_append.mp h with h | h
        · rw [hgf]; exact Or.inl h
        · exact absurd (by simpa using h) hyr
      · exact Or.inr h
  · -- counts
    have h1 := hI.2.2.1 y hy
    have h2 := sm_up3 (n := 1201) (i := b) (j := c) (k := r) (f := fun p => if gw_ G p = 0 ∨ gl_ G p = 0 then 0 else cn_ y (ge_ G p)) (g := fun p => if gw_ G' p = 0 ∨ gl_ G' p = 0 then 0 else cn_ y (ge_ G' p)) (by omega) (by omega) (by omega) (Ne.symm hcb) (Ne.symm hrb) (Ne.symm hrc) (fun q _ q1 q2 q3 => by
      rw [hgw, hgl, if_neg q3, if_neg q3, hey q q1 q2 q3])
    have e1 : eg_ G y = sm_ 1201 (fun p => if gw_ G p = 0 ∨ gl_ G p = 0 then 0 else cn_ y (ge_ G p)) := rfl
    have e2 : eg_ G' y = sm_ 1201 (fun p => if gw_ G' p = 0 ∨ gl_ G' p = 0 then 0 else cn_ y (ge_ G' p)) := rfl
    have v1 : (if gw_ G b = 0 ∨ gl_ G b = 0 then 0 else cn_ y (ge_ G b)) = cn_ y (ge_ G b) := if_neg (by omega)
    have v2 : (if gw_ G' b = 0 ∨ gl_ G' b = 0 then 0 else cn_ y (ge_ G' b)) = cn_ y (ge_ G b) + (if y = r then 1 else 0) := by
      rw [hgw, hgl, if_neg (Ne.symm hrb), if_neg (Ne.symm hrb), if_neg (by omega), heb, hil]
      conv => rhs; rw [spl_ hi]
      rw [cn_app, cn_app]
      simp only [cn_]
      rw [show (if r = y then 1 else 0) = (if y = r then 1 else 0) by simp only [eq_comm]]
      omega
    have v3 : (if gw_ G r = 0 ∨ gl_ G r = 0 then 0 else cn_ y (ge_ G r)) = 0 := if_pos (Or.inl r3)
    have v4 : (if gw_ G' c = 0 ∨ gl_ G' c = 0 then 0 else cn_ y (ge_ G' c)) + (if gw_ G' r = 0 ∨ gl_ G' r = 0 then 0 else cn_ y (ge_ G' r)) = (if gw_ G c = 0 ∨ gl_ G c = 0 then 0 else cn_ y (ge_ G c)) := by
      rw [hgw, hgl, hgw, hgl, if_neg (Ne.symm hrc), if_neg (Ne.symm hrc), if_pos rfl, if_pos rfl, hcn, hec, her]
      by_cases h0 : n = 0
      · simp [h0]
      · rw [if_neg (by omega), if_neg (by omega), if_neg (by omega), ← cn_app, List.take_append_drop]
    rw [v1, v2, v3, ← e1, ← e2] at h2
    rw [hgw]
    by_cases hyr : y = r
    · rw [if_pos hyr] at h2 ⊢
      rw [hyr] at h1 h2 v4 ⊢
      omega
    · rw [if_neg hyr] at h2 ⊢
      omega
  · -- validity
    rw [hgl] at hyl
    rw [hgw] at hy
    by_cases hyr : y = r
    · subst hyr
      refine ⟨fun _ => ?_, ?_, fun h0 e he => ?_⟩
      · rw [her]; simp; omega
      · rw [hgl, if_pos rfl]; exact hso.2
      · have hly : gl_ G' y = n := by rw [hgl, if_pos rfl]
        rw [hly] at h0 ⊢
        rw [her] at he
        exact hckid e (List.mem_of_mem_drop he) h0
    · rw [if_neg hyr] at hyl hy
      by_cases hyc : y = c
      · subst hyc
        refine ⟨fun _ => ?_, ?_, fun h0 e he => ?_⟩
        · rw [hec]; simp; omega
        · rw [hgl, if_neg hyr, hcn]; exact hso.1
        · have hly : gl_ G' y = n := by rw [hgl, if_neg hyr]; exact hcn
          rw [hly] at h0 ⊢
          rw [hec] at he
          exact hckid e (List.mem_of_mem_take he) h0
      · by_cases hyb : y = b
        · subst hyb
          refine ⟨fun h => absurd (by simp) h, ?_, fun h0 e he => ?_⟩
          · rw [hgl, if_neg hyr, hbn, hetb]
            have := (hI.2.2.2 y (by omega) (by omega)).2.1
            rw [hbn] at this
            exact this
          · rw [hgl y, if_neg hyr, hbn]
            rw [heb, hil] at he
            have hold : ∀ e ∈ ge_ G y, e.2 ≠ c → 1 ≤ gw_ G' e.2 ∧ gl_ G' e.2 + 1 = n + 1 ∧ (e.2 ∉ [y] → w / 2 ≤ (ge_ G' e.2).length) ∧ (ge_ G' e.2).head?.map Prod.fst = some e.1 := fun e he hne => by
              obtain ⟨q1, q2, q3, q4⟩ := hI.child (b := y) (by omega) (by omega) (by omega) he
              have hn1 : e.2 ≠ y := fun q => by rw [q] at q2; omega
              rw [hgw, hgl, if_neg (hur _ q1), if_neg (hur _ q1), hey _ hn1 hne (hur _ q1)]
              exact ⟨q1, by omega, fun _ => q3 (by simp [hn1, hne]), q4⟩
            rcases List.mem_append.mp he with h | h
            · exact hold e (List.mem_of_mem_take h) (hA e h)
            · rcases List.mem_cons.mp h with h | h
              · have h1 : e.2 = c := by rw [h]; exact hc
                have h2 : e.1 = ((ge_ G y).getD i (0, 0)).1 := by rw [h]
                rw [h1, hgw, hgl, if_neg (Ne.symm hrc), if_neg (Ne.symm hrc), hec, h2, ← g4]
                refine ⟨by omega, by omega, fun _ => by simp; omega, ?_⟩
                cases hL : ge_ G c with
                | nil => rw [hL] at hcl; simp at hcl; omega
                | cons d D =>
                  rw [show w / 2 = (w / 2 - 1) + 1 by omega]
                  rfl
              · rcases List.mem_cons.mp h with h | h
                · subst h
                  show 1 ≤ gw_ G' r ∧ gl_ G' r + 1 = n + 1 ∧ (r ∉ [y] → w / 2 ≤ (ge_ G' r).length) ∧ (ge_ G' r).head?.map Prod.fst = some kr
                  rw [hgw, hgl, if_pos rfl, if_pos rfl, her]
                  exact ⟨by omega, rfl, fun _ => by simp; omega, hkr⟩
                · exact hold e (List.mem_of_mem_drop h) (hB e h)
        · have hv := hI.2.2.2 y hy hyl
          have hall : ∀ e ∈ ge_ G y, gl_ G y ≠ 0 → e.2 ≠ c ∧ e.2 ≠ b := fun e he h0 => by
            obtain ⟨q1, q2, -, -⟩ := hI.child hy hyl h0 he
            refine ⟨?_, fun q => by rw [q] at q2; omega⟩
            by_cases hyn : gl_ G y = n + 1
            · exact hoth y hy hyn hyb e he
            · exact fun q => by rw [q] at q2; omega
          refine ⟨fun _ => ?_, ?_, fun h0 e he => ?_⟩
          · rw [hey y hyb hyc hyr]; exact hv.1 (by simp [hyb, hyc])
          · rw [hgl, if_neg hyr]
            by_cases hyn : gl_ G y = n + 1
            · rw [hyn, hety y hy hyn hyb]
              have := hv.2.1
              rw [hyn] at this
              exact this
            · rw [hlow y hy (by omega) hyc]; exact hv.2.1
          · rw [hgl, if_neg hyr] at h0
            rw [hey y hyb hyc hyr] at he
            obtain ⟨q1, q2, q3, q4⟩ := hv.2.2 h0 e he
            obtain ⟨n1, n2⟩ := hall e he h0
            rw [hgw, hgl, hgl, if_neg (hur _ q1), if_neg (hur _ q1), if_neg hyr, hey _ n2 n1 (hur _ q1)]
            exact ⟨q1, q2, fun _ => q3 (by simp [n1, n2]), q4⟩
  · -- room
    rw [hgf]
    have hfl : (gf_ G).length = f.length + 1 := by rw [hf]; simp
    have hkp : ∀ y, 1 ≤ gw_ G y → gl_ G y ≤ n + 1 → y ≠ b → y ≠ c → sl_ G' y = sl_ G y := fun y y1 y2 y3 y4 => by
      show (gw_ G' y - 1) * max ((et_ (ge_ G') (gl_ G' y) y).length - 1) 1 + ((ge_ G' y).length - 2) = (gw_ G y - 1) * max ((et_ (ge_ G) (gl_ G y) y).length - 1) 1 + ((ge_ G y).length - 2)
      rw [hgw, hgl, if_neg (hur y y1), if_neg (hur y y1), hey y y3 y4 (hur y y1)]
      by_cases hyn : gl_ G y = n + 1
      · rw [hyn, hety y y1 hyn y3]
      · rw [hlow y y1 (by omega) y4]
    have h2 := sm_up3 (n := 1201) (i := b) (j := c) (k := r) (f := fun y => if gw_ G y = 0 ∨ n + 1 < gl_ G y then 0 else sl_ G y) (g := fun y => if gw_ G' y = 0 ∨ n + 1 < gl_ G' y then 0 else sl_ G' y) (by omega) (by omega) (by omega) (Ne.symm hcb) (Ne.symm hrb) (Ne.symm hrc) (fun q _ q1 q2 q3 => by
      rw [hgw, hgl, if_neg q3, if_neg q3]
      by_cases hu : gw_ G q = 0 ∨ n + 1 < gl_ G q
      · simp only [hu, if_true]
      · simp only [hu, if_false]; exact hkp q (by omega) (by omega) q1 q2)
    have e1 : SL_ (n + 1) G = sm_ 1201 (fun y => if gw_ G y = 0 ∨ n + 1 < gl_ G y then 0 else sl_ G y) := rfl
    have e2 : SL_ (n + 1) G' = sm_ 1201 (fun y => if gw_ G' y = 0 ∨ n + 1 < gl_ G' y then 0 else sl_ G' y) := rfl
    have v1 : (if gw_ G b = 0 ∨ n + 1 < gl_ G b then 0 else sl_ G b) = (ge_ G b).length - 2 := by
      rw [if_neg (by omega)]; simp [sl_, hb1]
    have v2 : (if gw_ G' b = 0 ∨ n + 1 < gl_ G' b then 0 else sl_ G' b) = (ge_ G b).length + 1 - 2 := by
      rw [hgw, hgl, if_neg (Ne.symm hrb), if_neg (Ne.symm hrb), if_neg (by omega)]
      simp only [sl_]
      rw [hgw, if_neg (Ne.symm hrb), hb1, heb, il_len (by omega)]
      simp
    have v3 : (if gw_ G c = 0 ∨ n + 1 < gl_ G c then 0 else sl_ G c) = w - 2 := by
      rw [if_neg (by omega)]; simp [sl_, hc1, hcl]
    have v4 : (if gw_ G' c = 0 ∨ n + 1 < gl_ G' c then 0 else sl_ G' c) = w / 2 - 2 := by
      rw [hgw, hgl, if_neg (Ne.symm hrc), if_neg (Ne.symm hrc), if_neg (by omega)]
      simp only [sl_]
      rw [hgw, if_neg (Ne.symm hrc), hc1, hec]
      simp; omega
    have v5 : (if gw_ G r = 0 ∨ n + 1 < gl_ G r then 0 else sl_ G r) = 0 := if_pos (Or.inl r3)
    have v6 : (if gw_ G' r = 0 ∨ n + 1 < gl_ G' r then 0 else sl_ G' r) = w - w / 2 - 2 := by
      rw [hgw, hgl, if_pos rfl, if_pos rfl, if_neg (by omega)]
      simp only [sl_]
      rw [hgw, if_pos rfl, her]
      simp; omega
    rw [v1, v2, v3, v4, v5, v6, ← e1, ← e2] at h2
    omega
end SP
end
section
-- PURE: Trees.split, putInLeaf, putBelow
theorem gd_hd {L : List (Nat × Nat)} (h : 1 ≤ L.length) : L.head?.map Prod.fst = some (L.getD 0 (0, 0)).1 := by
  cases L with
  | nil => simp at h
  | cons e L => rfl
section PT
variable {w a n : Nat} {R : Nat → Nat} {G : Sg_} {st : St_}
theorem p_split {b i c : Nat} {post : St_ → Prop} (hw : 5 ≤ w ∧ w ≤ 32) (hR : Rp_ w st G) (hI : In_ w [b, c] (n + 1) R a G) (hb1 : gw_ G b = 1) (hbn : gl_ G b = n + 1) (hi : i < (ge_ G b).length) (hc : ((ge_ G b).getD i (0, 0)).2 = c) (hc1 : gw_ G c = 1) (hcl : (ge_ G c).length = w) (hbl : (ge_ G b).length + 1 ≤ w)
    (k : ∀ st' G', Rp_ w st' G' → Fr_ st st' → In_ w [b] (n + 1) R a G' → Cp_ (n + 1) R G G' b → et_ (ge_ G') (n + 1) b = et_ (ge_ G) (n + 1) b → (ge_ G' b).length = (ge_ G b).length + 1 → post st') : wp_T_split w (nI b) (nI i) st post := by
  unfold wp_T_split
  obtain ⟨b1, b2, b3⟩ := hI.1.1 b (by omega)
  obtain ⟨c1, c2, c3⟩ := hI.1.1 c (by omega)
  have hch := hI.1.child (b := b) (by omega) (by omega) (by omega) (gd_mem hi)
  rw [hc] at hch
  obtain ⟨g1, g2, g3, g4⟩ := hch
  have hcn : gl_ G c = n := by omega
  have hcb : c ≠ b := fun e => by rw [e] at g2; omega
  have hsl := SL_one (l := n + 1) (G := G) (y := c) (by omega) c2 (by omega)
  have hslc : sl_ G c = w - 2 := by simp [sl_, hc1, hcl]
  obtain ⟨f, r, hf⟩ : ∃ f c, gf_ G = f ++ [c] := by
    have hne : gf_ G ≠ [] := fun e => by have := hI.2; rw [e] at this; simp at this; omega
    exact ⟨(gf_ G).dropLast, (gf_ G).getLast hne, (List.dropLast_concat_getLast hne).symm⟩
  obtain ⟨r1, r2, r3, r4, r5⟩ := fr_last hI.1 hf
  have hrb : r ≠ b := fun e => by rw [e] at r3; omega
  have hrc : r ≠ c := fun e => by rw [e] at r3; omega
  refine p_goal hw hR ⟨b1, b2⟩ hi ?_
  rw [hc]
  refine p_level hR ⟨c1, c2⟩ ?_
  rw [hcn]
  refine p_take hR hf ⟨r1, r2⟩ (fun s1 hR1 hF1 => ?_)
  have t1 : ge_ (tk_ G r n f) c = ge_ G c := by simp [ge_, tk_, va_up, Ne.symm hrc]
  have t2 : ge_ (tk_ G r n f) r = [] := by simp [ge_, tk_, va_up]
  have t3 : ge_ (tk_ G r n f) b = ge_ G b := by simp [ge_, tk_, va_up, Ne.symm hrb]
  refine p_moveTail hw hR1 ⟨c1, c2⟩ ⟨r1, r2⟩ (Ne.symm hrc) (by rw [t1]; omega) (by rw [t1, t2, hcl]; simp) (fun s2 hR2 hF2 => ?_)
  rw [t1, t2, List.nil_append] at hR2
  have u1 : ge_ (se_ (se_ (tk_ G r n f) r ((ge_ G c).drop (w / 2))) c ((ge_ G c).take (w / 2))) r = (ge_ G c).drop (w / 2) := by
    rw [se_ne _ _ hrc, se_at]
  have u2 : ge_ (se_ (se_ (tk_ G r n f) r ((ge_ G c).drop (w / 2))) c ((ge_ G c).take (w / 2))) b = ge_ G b := by
    rw [se_ne _ _ (Ne.symm hcb), se_ne _ _ (Ne.symm hrb), t3]
  have hdl : 1 ≤ ((ge_ G c).drop (w / 2)).length := by simp; omega
  have hi0 : 0 < (ge_ (se_ (se_ (tk_ G r n f) r ((ge_ G c).drop (w / 2))) c ((ge_ G c).take (w / 2))) r).length := by rw [u1]; omega
  have hkb := hR2.bd hi0
  rw [u1] at hkb
  refine p_key (i := 0) hw hR2 ⟨r1, r2⟩ hi0 ?_
  rw [u1, nI_1]
  refine p_insert hw hR2 ⟨b1, b2⟩ (by rw [u2]; omega) (by rw [u2]; omega) hkb.1 (by omega) (fun s3 hR3 hF3 => ?_)
  rw [u2] at hR3
  obtain ⟨q1, q2, q3⟩ := split_pure hw.1 hI hb1 hbn hi hc hc1 hcl hf (gd_hd hdl)
  have hR4 : Rp_ w s3 (sp_ w G b c r n f (il_ (ge_ G b) (i + 1) ((((ge_ G c).drop (w / 2)).getD 0 (0, 0)).1, r))) := by
    refine hR3.eq (Sg_ext (fun _ => rfl) (fun _ => rfl) (fun x => ?_) rfl)
    by_cases x1 : x = b
    · subst x1; simp [va_up]
    · by_cases x2 : x = c
      · subst x2; simp [va_up, x1]
      · by_cases x3 : x = r
        · subst x3; simp [va_up, x1, x2]
        · simp [va_up, x1, x2, x3]
  refine k s3 _ hR4 ((hF1.tr hF2).tr hF3) q1 q2 q3 ?_
  · have e : ge_ (sp_ w G b c r n f (il_ (ge_ G b) (i + 1) ((((ge_ G c).drop (w / 2)).getD 0 (0, 0)).1, r))) b = il_ (ge_ G b) (i + 1) ((((ge_ G c).drop (w / 2)).getD 0 (0, 0)).1, r) := by simp [ge_, sp_, va_up]
    rw [e, il_len (by omega)]
theorem iz_all {x s : Nat} {q : List (Nat × Nat)} (h : ∀ e ∈ q, x < e.1) : iz_ x s q = (x, s) :: q := by
  have := iz_right (k := x) (s := s) (l := []) h
  exact this
theorem lf_new {L : List (Nat × Nat)} {x s j : Nat} (hs : so_ L) (hj : fk_ L x j) (h : j = 0 ∨ (L.getD (j - 1) (0, 0)).1 ≠ x) : il_ L j (x, s) = iz_ x s L := by
  have hlow : ∀ q ∈ L.take j, q.1 < x := by
    intro q hq
    have hq2 := List.mem_of_mem_take hq
    obtain ⟨i, hi, he⟩ := mem_ix hq
    have hij : i < j := by simp at hi; omega
    have he2 : L.getD i (0, 0) = q := by
      rw [← he]
      simp only [List.getD_eq_getElem?_getD, List.getElem?_take_of_lt hij]
    have h1 := hj.2.1 i hij
    rw [he2] at h1
    rcases Nat.lt_or_ge q.1 x with h2 | h2
    · exact h2
    · exfalso
      have : (x, q.2) ∈ L := by rw [show x = q.1 by omega]; exact hq2
      exact fk_no hs hj h q.2 this
  have hhi : ∀ q ∈ L.drop j, x < q.1 := by
    intro q hq
    obtain ⟨i, hi, he⟩ := mem_ix hq
    have hil : j + i < L.length := by simp at hi; omega
    have he2 : L.getD (j + i) (0, 0) = q := by
      rw [← he]
      simp only [List.getD_eq_getElem?_getD, List.getElem?_drop]
    have := (fk_lo hs hj hil).2 (by omega)
    rw [he2] at this
    exact this
  conv => rhs; rw [← List.take_append_drop j L]
  rw [iz_left hlow, iz_all hhi]
theorem lf_old {L : List (Nat × Nat)} {x s j : Nat} (hs : so_ L) (hj : fk_ L x j) (h0 : 1 ≤ j) (h : (L.getD (j - 1) (0, 0)).1 = x) : sg_ L (j - 1) s = iz_ x s L := by
  have hji : j - 1 < L.length := by have := hj.1; omega
  show L.set (j - 1) ((L.getD (j - 1) (0, 0)).1, s) = _
  rw [List.set_eq_take_append_cons_drop, if_pos hji, h]
  have hlow : ∀ q ∈ L.take (j - 1), q.1 < x := by
    have h2 := hs
    rw [spl_ hji] at h2
    intro q hq
    have := (so_app.mp h2).2.2 q hq _ List.mem_cons_self
    rw [h] at this
    exact this
  conv => rhs; rw [spl_ hji]
  rw [iz_left hlow]
  simp only [iz_]
  rw [if_neg (by omega), if_pos h.symm]
/-- a leaf gets other entries -/
theorem leaf_In {a' b : Nat} {L : List (Nat × Nat)} (hI : In_ w [b] 0 R a G) (hb1 : gw_ G b = 1) (hb0 : gl_ G b = 0) (hs : so_ L) (ha : a' + (L.length - 2) ≤ a + ((ge_ G b).length - 2)) : In_ w [b] 0 R a' (se_ G b L) ∧ Cp_ 0 R G (se_ G b L) b := by
  obtain ⟨hI, hsl⟩ := hI
  obtain ⟨b1, b2, b3⟩ := hI.1 b (by omega)
  refine ⟨⟨⟨hI.1, hI.2.1, fun y hy => ?_, fun y hy hyl => ?_⟩, ?_⟩, hb1, hb0, fun y y1 y2 y3 => ⟨se_ne _ _ y2, rfl, y1, fun h => ?_⟩, fun _ _ _ _ => rfl, fun y h _ => ⟨h, rfl⟩⟩
  · have h1 := hI.2.2.1 y hy
    have h2 : eg_ (se_ G b L) y = eg_ G y := by
      refine sm_congr (fun p _ => ?_)
      show (if gw_ G p = 0 ∨ gl_ G p = 0 then 0 else cn_ y (ge_ (se_ G b L) p)) = if gw_ G p = 0 ∨ gl_ G p = 0 then 0 else cn_ y (ge_ G p)
      by_cases hp : p = b
      · subst hp; simp [hb0]
      · rw [se_ne _ _ hp]
    rw [h2]; exact h1
  · have hyl' : gl_ G y ≤ 0 := hyl
    have hy' : 1 ≤ gw_ G y := hy
    have h0 : gl_ (se_ G b L) y = 0 := by show gl_ G y = 0; omega
    have hv := hI.2.2.2 y hy' hyl'
    refine ⟨fun h => ?_, ?_, fun h => absurd h0 h⟩
    · rw [se_ne _ _ (by simpa using h)]; exact hv.1 h
    · rw [h0]
      show so_ (ge_ (se_ G b L) y)
      by_cases hyb : y = b
      · subst hyb; rw [se_at]; exact hs
      · rw [se_ne _ _ hyb]
        have := hv.2.1
        rw [show gl_ G y = 0 by omega] at this
        exact this
  · have h2 := sm_up (n := 1201) (k := b) (f := fun y => if gw_ G y = 0 ∨ 0 < gl_ G y then 0 else sl_ G y) (g := fun y => if gw_ (se_ G b L) y = 0 ∨ 0 < gl_ (se_ G b L) y then 0 else sl_ (se_ G b L) y) (by omega) (fun y _ hy => by
      show (if gw_ G y = 0 ∨ 0 < gl_ G y then 0 else sl_ (se_ G b L) y) = if gw_ G y = 0 ∨ 0 < gl_ G y then 0 else sl_ G y
      split
      · rfl
      · next hu =>
        show (gw_ G y - 1) * max ((et_ (ge_ (se_ G b L)) (gl_ G y) y).length - 1) 1 + ((ge_ (se_ G b L) y).length - 2) = (gw_ G y - 1) * max ((et_ (ge_ G) (gl_ G y) y).length - 1) 1 + ((ge_ G y).length - 2)
        rw [show gl_ G y = 0 by omega]
        show (gw_ G y - 1) * max ((ge_ (se_ G b L) y).length - 1) 1 + _ = (gw_ G y - 1) * max ((ge_ G y).length - 1) 1 + _
        rw [se_ne _ _ hy])
    have v1 : (if gw_ G b = 0 ∨ 0 < gl_ G b then 0 else sl_ G b) = (ge_ G b).length - 2 := by
      rw [if_neg (by omega)]; simp [sl_, hb1]
    have v2 : (if gw_ (se_ G b L) b = 0 ∨ 0 < gl_ (se_ G b L) b then 0 else sl_ (se_ G b L) b) = L.length - 2 := by
      show (if gw_ G b = 0 ∨ 0 < gl_ G b then 0 else sl_ (se_ G b L) b) = _
      rw [if_neg (by omega)]
      show (gw_ G b - 1) * _ + ((ge_ (se_ G b L) b).length - 2) = _
      rw [hb1, se_at]; simp
    rw [v1, v2] at h2
    have e1 : SL_ 0 G = sm_ 1201 (fun y => if gw_ G y = 0 ∨ 0 < gl_ G y then 0 else sl_ G y) := rfl
    have e2 : SL_ 0 (se_ G b L) = sm_ 1201 (fun y => if gw_ (se_ G b L) y = 0 ∨ 0 < gl_ (se_ G b L) y then 0 else sl_ (se_ G b L) y) := rfl
    rw [← e1, ← e2] at h2
    show a' + SL_ 0 (se_ G b L) ≤ (gf_ G).length
    omega
  · rw [show gl_ G y = 0 by omega]
    exact se_ne _ _ y2
theorem In_.nob {b : Nat} (hI : In_ w [b] n R a G) (hb : n < gl_ G b) : In_ w [] n R a G := by
  obtain ⟨⟨h1, h2, h3, h4⟩, h5⟩ := hI
  refine ⟨⟨h1, h2, h3, fun y hy hl => ?_⟩, h5⟩
  have hv := h4 y hy hl
  have hyb : y ∉ [b] := by
    intro q
    rw [List.mem_singleton] at q
    rw [q] at hl; omega
  refine ⟨fun _ => hv.1 hyb, hv.2.1, fun h0 e he => ?_⟩
  obtain ⟨q1, q2, q3, q4⟩ := hv.2.2 h0 e he
  refine ⟨q1, q2, fun _ => q3 ?_, q4⟩
  intro q
  rw [List.mem_singleton] at q
  rw [q] at q2; omega
theorem In_.fit {l b c : Nat} (hI : In_ w [b, c] l R a G) (h1 : 1 ≤ (ge_ G c).length) (h2 : (ge_ G c).length + 1 ≤ w) (h3 : w / 2 ≤ (ge_ G c).length) : In_ w [b] l R a G := by
  obtain ⟨⟨g1, g2, g3, g4⟩, g5⟩ := hI
  refine ⟨⟨g1, g2, g3, fun y hy hl => ?_⟩, g5⟩
  have hv := g4 y hy hl
  refine ⟨fun h => ?_, hv.2.1, fun h0 e he => ?_⟩
  · by_cases hyc : y = c
    · subst hyc; exact ⟨h1, h2⟩
    · exact hv.1 (by simp at h ⊢; exact ⟨h, hyc⟩)
  · obtain ⟨q1, q2, q3, q4⟩ := hv.2.2 h0 e he
    refine ⟨q1, q2, fun h => ?_, q4⟩
    by_cases hec : e.2 = c
    · rw [hec]; exact h3
    · exact q3 (by simp at h ⊢; exact ⟨h, hec⟩)
theorem fk_sg {L : List (Nat × Nat)} {x j i c : Nat} (hi : i < L.length) (hj : fk_ L x j) : fk_ (sg_ L i c) x j := by
  have hk : ∀ t, ((sg_ L i c).getD t (0, 0)).1 = (L.getD t (0, 0)).1 := fun t => by
    rw [getD_set hi]
    by_cases e : t = i
    · subst e; simp
    · simp [e]
  obtain ⟨h1, h2, h3⟩ := hj
  refine ⟨by rw [List.length_set]; exact h1, fun t ht => by rw [hk]; exact h2 t ht, fun ht => by rw [hk]; rw [List.length_set] at ht; exact h3 ht⟩
theorem p_putInLeaf {b x s : Nat} {post : St_ → Prop} (hw : 5 ≤ w ∧ w ≤ 32) (hR : Rp_ w st G) (hb : 1 ≤ b ∧ b ≤ 1200) (hx : x < 4096) (hs : s ≤ 1000000000) (hso : so_ (ge_ G b)) (hl : (ge_ G b).length + 1 ≤ w)
    (k : ∀ st', Rp_ w st' (se_ G b (iz_ x s (ge_ G b))) → Fr_ st st' → post st') : wp_T_putInLeaf w (nI b) (nI x) (nI s) st post := by
  unfold wp_T_putInLeaf
  refine p_slotOf hw hR hb hx (fun j hj => ?_)
  have hins : (j = 0 ∨ ((ge_ G b).getD (j - 1) (0, 0)).1 ≠ x) → wp_B_insert w (nI b) (nI j - 1 + 1) (nI x) (nI s) st (fun st105 => post st105) := by
    intro h
    rw [i_sac]
    refine p_insert hw hR hb hj.1 (by omega) hx hs (fun s1 hR1 hF1 => ?_)
    rw [lf_new hso hj h] at hR1
    exact k s1 hR1 hF1
  by_cases hj0 : j = 0
  · subst hj0
    exact p_keyM hb i_m1 (rb_t (fun e => nI_m2 (by omega) e.symm) (hins (Or.inl rfl)))
  · have hf := hins
    rw [nI_p (by omega)] at hf ⊢
    have hji : j - 1 < (ge_ G b).length := by have := hj.1; omega
    have hbd := hR.bd hji
    refine p_key hw hR hb hji ?_
    by_cases he : ((ge_ G b).getD (j - 1) (0, 0)).1 = x
    · refine rb_f (by rw [he]) (p_setGoal hw hR hb hji hs (fun s1 hR1 hF1 => ?_))
      rw [lf_old hso hj (by omega) he] at hR1
      exact k s1 hR1 hF1
    · exact rb_t (fun e => he ((nI_eq (by omega) (by omega)).mp e)) (hf (Or.inr he))
end PT
end
section
-- PURE: Trees.putBelow
section PPB
variable {w : Nat}
theorem et_mid {E : Nat → List (Nat × Nat)} {n b i : Nat} (hi : i < (E b).length) : et_ E (n + 1) b = fm_ E n ((E b).take i) ++ (et_ E n ((E b).getD i (0, 0)).2 ++ fm_ E n ((E b).drop (i + 1))) := by
  rw [et_succ]
  conv => lhs; rw [spl_ hi]
  rw [fm_app, fm_cons]
theorem p_putBelow {x s : Nat} (hw : 5 ≤ w ∧ w ≤ 32) (hx : x < 4096) (hs : s ≤ 1000000000) {R : Nat → Nat} (hr : ∀ y, R y ≤ 1000) :
    ∀ (n d b a : Nat) (G : Sg_) (st : St_) (post : St_ → Prop), n < d → Rp_ w st G → In_ w [b] n R a G → gw_ G b = 1 → gl_ G b = n → (ge_ G b).length + 1 ≤ w → (n ≠ 0 → 1 ≤ (ge_ G b).length) → (iz_ x s (et_ (ge_ G) n b)).length ≤ a + (et_ (ge_ G) n b).length →
    (∀ st' G' a', Rp_ w st' G' → Fr_ st st' → In_ w [b] n R a' G' → a' + (iz_ x s (et_ (ge_ G) n b)).length = a + (et_ (ge_ G) n b).length → Cp_ n R G G' b → et_ (ge_ G') n b = iz_ x s (et_ (ge_ G) n b) → (ge_ G b).length ≤ (ge_ G' b).length → 1 ≤ (ge_ G' b).length → post st') →
    wp_T_putBelow w d (nI b) (nI n) (nI x) (nI s) st post := by
  intro n
  induction n with
  | zero =>
    intro d b a G st post hd hR hI hb1 hb0 hbl _ hroom k
    obtain ⟨d, rfl⟩ : ∃ q, d = q + 1 := ⟨d - 1, by omega⟩
    obtain ⟨b1, b2, b3⟩ := hI.1.1 b (by omega)
    have hso : so_ (ge_ G b) := by
      have := (hI.1.2.2.2 b (by omega) (by omega)).2.1
      rw [hb0] at this
      exact this
    show (_ → _) ∧ (_ → _)
    refine br_t (by decide) (br_f (by decide) ?_)
    refine p_putInLeaf hw hR ⟨b1, b2⟩ hx hs hso hbl (fun s1 hR1 hF1 => ?_)
    have hroom' : (iz_ x s (ge_ G b)).length ≤ a + (ge_ G b).length := hroom
    have hge : (ge_ G b).length ≤ (iz_ x s (ge_ G b)).length ∧ 1 ≤ (iz_ x s (ge_ G b)).length := by
      by_cases hp : ∃ t, (x, t) ∈ ge_ G b
      · obtain ⟨t, ht⟩ := hp
        rw [iz_len1 hso ht]
        exact ⟨Nat.le_refl _, by have := List.length_pos_of_mem ht; omega⟩
      · rw [iz_len0 (fun t ht => hp ⟨t, ht⟩)]
        omega
    obtain ⟨q1, q2⟩ := leaf_In (a' := a + (ge_ G b).length - (iz_ x s (ge_ G b)).length) (L := iz_ x s (ge_ G b)) hI hb1 hb0 (iz_so hso) (by omega)
    refine k s1 (se_ G b (iz_ x s (ge_ G b))) (a + (ge_ G b).length - (iz_ x s (ge_ G b)).length) hR1 hF1 q1 ?_ q2 ?_ ?_ ?_
    · show a + (ge_ G b).length - (iz_ x s (ge_ G b)).length + (iz_ x s (ge_ G b)).length = a + (ge_ G b).length
      omega
    · exact se_at _ _ _
    · rw [se_at]; exact hge.1
    · rw [se_at]; exact hge.2
  | succ n ih =>
    intro d b a G st post hd hR hI hb1 hbn hbl hne hroom k
    obtain ⟨d, rfl⟩ : ∃ q, d = q + 1 := ⟨d - 1, by omega⟩
    obtain ⟨b1, b2, b3⟩ := hI.1.1 b (by omega)
    have hne := hne (by omega)
    show (_ → _) ∧ (_ → _)
    refine br_t (nI_le (b := 16) (by omega) (by omega)) (br_t (nI_lt (a := 0) (by omega) (by omega)) ?_)
    refine p_slotToward hw hR ⟨b1, b2⟩ hx (fun j hj => ?_)
    obtain ⟨hi, -, -⟩ := loc_ hw.1 hI.1 (by omega) (by omega) hbn hne hj
    have hch0 := hI.1.child (b := b) (by omega) (by omega) (by omega) (gd_mem hi)
    have hb0 : ((ge_ G b).getD (j - 1) (0, 0)).2 ∉ [b] := by
      intro q
      rw [List.mem_singleton] at q
      rw [q] at hch0; omega
    refine own_ hw hR hI hr (by omega) (by omega) (by omega) hi (fun _ => hb0) (fun _ h0 e he => ?_) (fun s1 G1 c hR1 hF1 hI1 hO => ?_)
    · have hq := hI.1.child hch0.1 (by omega) h0 he
      intro q
      rw [List.mem_singleton] at q
      rw [q] at hq; omega
    have hCo := Cp_ow (R := R) hb1 hbn hO
    obtain ⟨o1, o2, o3, o4, o5, o6, o7, o8, o9, o10, o11, o12, o13⟩ := hO
    have hcn : gl_ G1 c = n := by omega
    have hbn1 : gl_ G1 b = n + 1 := by rw [o5]; exact hbn
    have hbw1 : gw_ G1 b = 1 := by rw [o6]; exact hb1
    have hl1 : (ge_ G1 b).length = (ge_ G b).length := by rw [o4, List.length_set]
    have hi1 : j - 1 < (ge_ G1 b).length := by omega
    have hc : ((ge_ G1 b).getD (j - 1) (0, 0)).2 = c := by
      rw [o4, getD_set hi]; simp
    have hj1 : fk_ (ge_ G1 b) x j := by rw [o4]; exact fk_sg hi hj
    obtain ⟨-, hA, hB⟩ := loc_ hw.1 hI1.1 (by omega) (by omega) hbn1 (by omega) hj1
    have hm1 := et_mid (E := ge_ G1) (n := n) hi1
    rw [hc] at hm1
    have hetb : et_ (ge_ G1) (n + 1) b = et_ (ge_ G) (n + 1) b := by
      have := o11 b (by omega) (by omega)
      rw [hbn] at this
      exact this
    have hiz : iz_ x s (et_ (ge_ G) (n + 1) b) = fm_ (ge_ G1) n ((ge_ G1 b).take (j - 1)) ++ (iz_ x s (et_ (ge_ G1) n c) ++ fm_ (ge_ G1) n ((ge_ G1 b).drop (j - 1 + 1))) := by
      rw [← hetb, hm1, iz_left hA, iz_right hB]
    have hlen1 : (iz_ x s (et_ (ge_ G) (n + 1) b)).length + (et_ (ge_ G1) n c).length = (et_ (ge_ G) (n + 1) b).length + (iz_ x s (et_ (ge_ G1) n c)).length := by
      rw [hiz, ← hetb, hm1]
      simp only [List.length_append]
      omega
    have hcX : c ∉ [b] := by
      intro q
      rw [List.mem_singleton] at q
      rw [q] at hcn; omega
    have hcv := (hI1.1.2.2.2 c (by omega) (by omega)).1 hcX
    have hlow := (hI1.low.nob (by omega)).mono (Y := [c]) (fun y h => by simp at h)
    have hw2c : w / 2 ≤ (ge_ G1 c).length := by
      have := (hI1.1.child (b := b) (by omega) (by omega) (by omega) (gd_mem hi1)).2.2.1
      rw [hc] at this
      exact this hcX
    rw [show nI (n + 1) - 1 = nI n from nI_pred n]
    refine ih d c (a + TL_ (n + 1) G1) G1 s1 _ (by omega) hR1 hlow o1 hcn hcv.2 (fun _ => hcv.1) (by omega) (fun s2 G2 a2 hR2 hF2 hI2 ha2 hC2 het2 hlc hl1c => ?_)
    obtain ⟨c1, c2, c3⟩ := hI2.1.1 c (by have := hC2.1; omega)
    have hkb := hR2.bd (b := c) (i := 0) (by omega)
    refine p_key (i := 0) hw hR2 ⟨c1, c2⟩ (by omega) ?_
    have hcbne : c ≠ b := fun q => hcX (by rw [q]; exact List.mem_singleton.mpr rfl)
    have hra := raise_ (a2 := a + (et_ (ge_ G1) n c).length - (iz_ x s (et_ (ge_ G1) n c)).length) (k0 := ((ge_ G2 c).getD 0 (0, 0)).1) hw.1 hI1 hbw1 hbn1 hi1 hc o1 hC2 (hI2.less (by omega)) (gd_hd hl1c) (by
      rw [het2, ← hiz]
      refine iz_so ?_
      have := (hI.1.2.2.2 b (by omega) (by omega)).2.1
      rw [hbn] at this
      exact this)
    obtain ⟨r1, r2, r3, r4, r5, r6⟩ := hra
    have hi2 : j - 1 < (ge_ G2 b).length := by rw [r4]; exact hi1
    refine p_setKey hw hR2 ⟨b1, b2⟩ hi2 hkb.1 (fun s3 hR3 hF3 => ?_)
    have hcs : ge_ (se_ G2 b (sk_ (ge_ G2 b) (j - 1) ((ge_ G2 c).getD 0 (0, 0)).1)) c = ge_ G2 c := se_ne _ _ hcbne
    have hbs : (ge_ (se_ G2 b (sk_ (ge_ G2 b) (j - 1) ((ge_ G2 c).getD 0 (0, 0)).1)) b).length = (ge_ G b).length := by
      rw [se_at, List.length_set, r4, hl1]
    have hclw := (hR2.1 c c1 c2).2.2.2.1
    refine p_size hR3 ⟨c1, c2⟩ ?_
    rw [hcs]
    have het3 : et_ (ge_ (se_ G2 b (sk_ (ge_ G2 b) (j - 1) ((ge_ G2 c).getD 0 (0, 0)).1))) (n + 1) b = iz_ x s (et_ (ge_ G) (n + 1) b) := by
      rw [r3, het2, ← hiz]
    refine pk_le (ge_ G2 c).length (w - 1) (fun hle => ?_) (fun hgt => ?_) rfl rfl (by omega) (by omega)
    · refine k s3 _ _ hR3 ((hF1.tr hF2).tr hF3) (r1.fit (by rw [hcs]; omega) (by rw [hcs]; omega) (by rw [hcs]; omega)) (by omega) (hCo.tr r2) het3 (by rw [hbs]; exact Nat.le_refl _) (by rw [hbs]; omega)
    · have hcw3 : gw_ (se_ G2 b (sk_ (ge_ G2 b) (j - 1) ((ge_ G2 c).getD 0 (0, 0)).1)) c = 1 := hC2.1
      have hc3 : ((ge_ (se_ G2 b (sk_ (ge_ G2 b) (j - 1) ((ge_ G2 c).getD 0 (0, 0)).1)) b).getD (j - 1) (0, 0)).2 = c := by
        rw [se_at, getD_set hi2]
        simp only [if_true]
        rw [r4]; exact hc
      refine p_split hw hR3 r1 r2.1 r2.2.1 (by rw [hbs]; omega) hc3 hcw3 (by rw [hcs]; omega) (by rw [hbs]; exact hbl) (fun s4 G4 hR4 hF4 hI4 hC4 het4 hlen4 => ?_)
      refine k s4 _ _ hR4 (((hF1.tr hF2).tr hF3).tr hF4) hI4 (by omega) ((hCo.tr r2).tr hC4) (het4.trans het3) (by rw [hlen4, hbs]; omega) (by rw [hlen4]; omega)
end PPB
end
section
-- PURE: two neighbours change entries, or become one
theorem spl2_ {L : List (Nat × Nat)} {i : Nat} (hi : i + 1 < L.length) : L = L.take i ++ L.getD i (0, 0) :: L.getD (i + 1) (0, 0) :: L.drop (i + 2) := by
  have h1 : L.drop (i + 1) = L.getD (i + 1) (0, 0) :: L.drop (i + 2) := by
    rw [List.drop_eq_getElem_cons hi, List.getD_eq_getElem?_getD, List.getElem?_eq_getElem hi]
    rfl
  rw [← h1]
  exact spl_ (by omega)
section FL
variable {w a n : Nat} {R : Nat → Nat} {G : Sg_}
abbrev rd_ (G : Sg_) (b p q : Nat) (Lp Lq L : List (Nat × Nat)) : Sg_ := (G.1, G.2.1, va_up (va_up (va_up G.2.2.1 p Lp) q Lq) b L, G.2.2.2)
theorem redist_pure {b i p q kq a' : Nat} {Lp Lq : List (Nat × Nat)} (hw : 5 ≤ w) (hI : In_ w [b, p, q] (n + 1) R a G) (hb1 : gw_ G b = 1) (hbn : gl_ G b = n + 1) (hi : i + 1 < (ge_ G b).length) (hp : ((ge_ G b).getD i (0, 0)).2 = p) (hq : ((ge_ G b).getD (i + 1) (0, 0)).2 = q) (hp1 : gw_ G p = 1) (hq1 : gw_ G q = 1) (hpq : p ≠ q)
    (hL : Lp ++ Lq = ge_ G p ++ ge_ G q) (hp2 : w / 2 ≤ Lp.length) (hp3 : Lp.length + 1 ≤ w) (hq2 : w / 2 ≤ Lq.length) (hq3 : Lq.length + 1 ≤ w) (hkq : Lq.head?.map Prod.fst = some kq)
    (ha : a' + (Lp.length - 2) + (Lq.length - 2) ≤ a + ((ge_ G p).length - 2) + ((ge_ G q).length - 2)) :
    In_ w [b] (n + 1) R a' (rd_ G b p q Lp Lq (sk_ (ge_ G b) (i + 1) kq)) ∧ Cp_ (n + 1) R G (rd_ G b p q Lp Lq (sk_ (ge_ G b) (i + 1) kq)) b ∧
    et_ (ge_ (rd_ G b p q Lp Lq (sk_ (ge_ G b) (i + 1) kq))) (n + 1) b = et_ (ge_ G) (n + 1) b := by
  obtain ⟨hI, hs⟩ := hI
  have hpm : ((ge_ G b).getD i (0, 0)) ∈ ge_ G b := gd_mem (by omega)
  have hqm : ((ge_ G b).getD (i + 1) (0, 0)) ∈ ge_ G b := gd_mem hi
  have hch := hI.child (b := b) (by omega) (by omega) (by omega) hpm
  rw [hp] at hch
  obtain ⟨g1, g2, g3, g4⟩ := hch
  have hch2 := hI.child (b := b) (by omega) (by omega) (by omega) hqm
  rw [hq] at hch2
  obtain ⟨k1, k2, k3, k4⟩ := hch2
  have hpn : gl_ G p = n := by omega
  have hqn : gl_ G q = n := by omega
  have hpb : p ≠ b := fun e => by rw [e] at g2; omega
  have hqb : q ≠ b := fun e => by rw [e] at k2; omega
  obtain ⟨u1, u2, u3⟩ := uniq_ hI (p := b) (c := p) (by omega) (by omega) hp1 (cn_mem hpm hp)
  obtain ⟨v1, v2, v3⟩ := uniq_ hI (p := b) (c := q) (by omega) (by omega) hq1 (cn_mem hqm hq)
  obtain ⟨b1, b2, b3⟩ := hI.1 b (by omega)
  obtain ⟨p1, p2, p3⟩ := hI.1 p (by omega)
  obtain ⟨q1, q2, q3⟩ := hI.1 q (by omega)
  have hspl := spl2_ hi
  have hcp : cn_ p (ge_ G b) = cn_ p ((ge_ G b).take i) + 1 + cn_ p ((ge_ G b).drop (i + 2)) := by
    conv => lhs; rw [hspl]
    rw [cn_app]
    simp only [cn_, hp, hq, if_true, Ne.symm hpq, if_false]
    omega
  have hcq : cn_ q (ge_ G b) = cn_ q ((ge_ G b).take i) + 1 + cn_ q ((ge_ G b).drop (i + 2)) := by
    conv => lhs; rw [hspl]
    rw [cn_app]
    simp only [cn_, hp, hq, if_true, hpq, if_false]
    omega
  have hA : ∀ e ∈ (ge_ G b).take i, e.2 ≠ p ∧ e.2 ≠ q := fun e he => ⟨fun z => by have := cn_mem he z; omega, fun z => by have := cn_mem he z; omega⟩
  have hB : ∀ e ∈ (ge_ G b).drop (i + 2), e.2 ≠ p ∧ e.2 ≠ q := fun e he => ⟨fun z => by have := cn_mem he z; omega, fun z => by have := cn_mem he z; omega⟩
  generalize hG' : rd_ G b p q Lp Lq (sk_ (ge_ G b) (i + 1) kq) = G'
  have hgw : ∀ y, gw_ G' y = gw_ G y := fun y => by rw [← hG']
  have hgl : ∀ y, gl_ G' y = gl_ G y := fun y => by rw [← hG']
  have heb : ge_ G' b = sk_ (ge_ G b) (i + 1) kq := by rw [← hG']; simp [ge_, rd_, va_up]
  have hep : ge_ G' p = Lp := by rw [← hG']; simp [ge_, rd_, va_up, hpb, hpq]
  have heq : ge_ G' q = Lq := by rw [← hG']; simp [ge_, rd_, va_up, hqb]
  have hey : ∀ y, y ≠ b → y ≠ p → y ≠ q → ge_ G' y = ge_ G y := fun y y1 y2 y3 => by rw [← hG']; simp [ge_, rd_, va_up, y1, y2, y3]
  have hgf : gf_ G' = gf_ G := by rw [← hG']
  have hset : sk_ (ge_ G b) (i + 1) kq = (ge_ G b).take i ++ (ge_ G b).getD i (0, 0) :: (kq, q) :: (ge_ G b).drop (i + 2) := by
    show (ge_ G b).set (i + 1) (kq, ((ge_ G b).getD (i + 1) (0, 0)).2) = _
    rw [hq, List.set_eq_take_append_cons_drop, if_pos hi, tk_1 (show i < (ge_ G b).length by omega), List.append_assoc]
    rfl
  have hoth : ∀ y, 1 ≤ gw_ G y → gl_ G y = n + 1 → y ≠ b → ∀ e ∈ ge_ G y, e.2 ≠ p ∧ e.2 ≠ q := fun y y1 y2 y3 e he => by
    have h1 := u3 y y1 (by omega) y3
    have h2 := v3 y y1 (by omega) y3
    exact ⟨fun z => by have := cn_mem he z; omega, fun z => by have := cn_mem he z; omega⟩
  have hlow : ∀ y, 1 ≤ gw_ G y → gl_ G y ≤ n → y ≠ p → y ≠ q → et_ (ge_ G') (gl_ G y) y = et_ (ge_ G) (gl_ G y) y := fun y y1 y2 y3 y4 => by
    refine et_same (fun m y => 1 ≤ gw_ G y ∧ gl_ G y = m ∧ m ≤ n ∧ y ≠ p ∧ y ≠ q) (fun m y h => hey y (fun z => by rw [z] at h; omega) h.2.2.2.1 h.2.2.2.2) (fun m y h e he => ?_) _ y ⟨y1, rfl, y2, y3, y4⟩
    obtain ⟨t1, t2, -, -⟩ := hI.child h.1 (by omega) (by omega) he
    exact ⟨t1, by omega, by omega, fun z => by rw [z] at t2; omega, fun z => by rw [z] at t2; omega⟩
  have hkid : ∀ y, 1 ≤ gw_ G y → gl_ G y = n + 1 → ∀ e ∈ ge_ G y, e.2 ≠ p ∧ e.2 ≠ q → et_ (ge_ G') n e.2 = et_ (ge_ G) n e.2 := fun y y1 y2 e he hne => by
    obtain ⟨t1, t2, -, -⟩ := hI.child y1 (by omega) (by omega) he
    have := hlow e.2 t1 (by omega) hne.1 hne.2
    rw [show gl_ G e.2 = n by omega] at this
    exact this
  -- children of p and q
  have hmem : ∀ e, e ∈ Lp ++ Lq → e ∈ ge_ G p ∨ e ∈ ge_ G q := fun e he => by rw [hL] at he; exact List.mem_append.mp he
  have hsub : ∀ e, e ∈ Lp ++ Lq → n ≠ 0 → 1 ≤ gw_ G e.2 ∧ gl_ G e.2 + 1 = n ∧ w / 2 ≤ (ge_ G e.2).length ∧ (ge_ G e.2).head?.map Prod.fst = some e.1 ∧ e.2 ≠ b ∧ e.2 ≠ p ∧ e.2 ≠ q := fun e he h0 => by
    have go : ∀ z, 1 ≤ gw_ G z → gl_ G z = n → e ∈ ge_ G z → 1 ≤ gw_ G e.2 ∧ gl_ G e.2 + 1 = n ∧ w / 2 ≤ (ge_ G e.2).length ∧ (ge_ G e.2).head?.map Prod.fst = some e.1 ∧ e.2 ≠ b ∧ e.2 ≠ p ∧ e.2 ≠ q := fun z z1 z2 z3 => by
      obtain ⟨t1, t2, t3, t4⟩ := hI.child z1 (by omega) (by omega) z3
      have n1 : e.2 ≠ b := fun z => by rw [z] at t2; omega
      have n2 : e.2 ≠ p := fun z => by rw [z] at t2; omega
      have n3 : e.2 ≠ q := fun z => by rw [z] at t2; omega
      exact ⟨t1, by omega, t3 (by simp [n1, n2, n3]), t4, n1, n2, n3⟩
    rcases hmem e he with h | h
    · exact go p (by omega) hpn h
    · exact go q (by omega) hqn h
  have hpart : ∀ L : List (Nat × Nat), (∀ e ∈ L, e ∈ Lp ++ Lq) → n ≠ 0 → fm_ (ge_ G') (n - 1) L = fm_ (ge_ G) (n - 1) L := fun L hL2 h0 => by
    refine fm_congr (fun e he => ?_)
    obtain ⟨t1, t2, -, -, n1, n2, n3⟩ := hsub e (hL2 e he) h0
    have := hlow e.2 t1 (by omega) n2 n3
    rw [show gl_ G e.2 = n - 1 by omega] at this
    exact this
  have hpq2 : et_ (ge_ G') n p ++ et_ (ge_ G') n q = et_ (ge_ G) n p ++ et_ (ge_ G) n q := by
    cases hn : n with
    | zero =>
      show ge_ G' p ++ ge_ G' q = ge_ G p ++ ge_ G q
      rw [hep, heq, hL]
    | succ m =>
      have h0 : n ≠ 0 := by omega
      have h1 := hpart Lp (fun e he => List.mem_append_left _ he) h0
      have h2 := hpart Lq (fun e he => List.mem_append_right _ he) h0
      rw [show n - 1 = m by omega] at h1 h2
      rw [et_succ, et_succ, et_succ, et_succ, hep, heq, h1, h2, ← fm_app, ← fm_app, hL]
  have hety : ∀ y, 1 ≤ gw_ G y → gl_ G y = n + 1 → y ≠ b → et_ (ge_ G') (n + 1) y = et_ (ge_ G) (n + 1) y := fun y y1 y2 y3 => by
    rw [et_succ, et_succ, hey y y3 (fun z => by rw [z] at y2; omega) (fun z => by rw [z] at y2; omega)]
    exact fm_congr (fun e he => hkid y y1 y2 e he (hoth y y1 y2 y3 e he))
  have hetb : et_ (ge_ G') (n + 1) b = et_ (ge_ G) (n + 1) b := by
    rw [et_succ, et_succ, heb, hset, fm_app, fm_cons, fm_cons, hp]
    conv => rhs; rw [hspl, fm_app, fm_cons, fm_cons, hp, hq]
    rw [fm_congr (fun e he => hkid b (by omega) hbn e (List.mem_of_mem_take he) (hA e he)), fm_congr (fun e he => hkid b (by omega) hbn e (List.mem_of_mem_drop he) (hB e he)), ← List.append_assoc (et_ (ge_ G') n p), hpq2, List.append_assoc]
  have hCp : Cp_ (n + 1) R G G' b := by
    refine ⟨by rw [hgw]; exact hb1, by rw [hgl]; exact hbn, fun y y1 y2 y3 => ?_, fun y y1 y2 y3 => hgw y, fun y y1 y2 => ?_⟩
    · have hyp : y ≠ p := fun z => by
        rw [z] at y3
        rcases y3 with h | h <;> omega
      have hyq : y ≠ q := fun z => by
        rw [z] at y3
        rcases y3 with h | h <;> omega
      refine ⟨hey y y2 hyp hyq, hgl y, by rw [hgw]; exact y1, fun hy => ?_⟩
      by_cases hyn : gl_ G y = n + 1
      · rw [hyn]; exact hety y y1 hyn y2
      · exact hlow y y1 (by omega) hyp hyq
    · rw [hgw] at y1
      exact ⟨y1, (hgl y).symm⟩
  have hso : so_ (et_ (ge_ G') n p) ∧ so_ (et_ (ge_ G') n q) := by
    have h := (hI.2.2.2 b (by omega) (by omega)).2.1
    rw [hbn, ← hetb, et_succ, heb, hset, fm_app, fm_cons, fm_cons, hp] at h
    have h2 := (so_app.mp h).2.1
    exact ⟨(so_app.mp h2).1, (so_app.mp (so_app.mp h2).2.1).1⟩
  have hhp : Lp.head?.map Prod.fst = (ge_ G p).head?.map Prod.fst := by
    have h1 := hd_len g4
    cases hLp : Lp with
    | nil => rw [hLp] at hp2; simp at hp2; omega
    | cons d D =>
      cases hgp : ge_ G p with
      | nil => rw [hgp] at h1; simp at h1
      | cons d2 D2 =>
        rw [hLp, hgp] at hL
        simp only [List.cons_append, List.cons.injEq] at hL
        rw [hL.1]; rfl
  refine ⟨⟨⟨fun y hy => ?_, ⟨by rw [hgf]; exact hI.2.1.1, fun y hy => ?_, fun y y1 y2 y3 => ?_⟩, fun y hy => ?_, fun y hy hyl => ?_⟩, ?_⟩, hCp, hetb⟩
  · rw [hgl]; rw [hgw] at hy; exact hI.1 y hy
  · rw [hgf] at hy; rw [hgw]; exact hI.2.1.2.1 y hy
  · rw [hgw] at y3; rw [hgf]; exact hI.2.1.2.2 y y1 y2 y3
  · have h1 := hI.2.2.1 y hy
    have h2 := sm_up3 (n := 1201) (i := b) (j := p) (k := q) (f := fun r => if gw_ G r = 0 ∨ gl_ G r = 0 then 0 else cn_ y (ge_ G r)) (g := fun r => if gw_ G' r = 0 ∨ gl_ G' r = 0 then 0 else cn_ y (ge_ G' r)) (by omega) (by omega) (by omega) (Ne.symm hpb) (Ne.symm hqb) hpq (fun r _ r1 r2 r3 => by
      rw [hgw, hgl, hey r r1 r2 r3])
    have e1 : eg_ G y = sm_ 1201 (fun r => if gw_ G r = 0 ∨ gl_ G r = 0 then 0 else cn_ y (ge_ G r)) := rfl
    have e2 : eg_ G' y = sm_ 1201 (fun r => if gw_ G' r = 0 ∨ gl_ G' r = 0 then 0 else cn_ y (ge_ G' r)) := rfl
    have c1 : (if gw_ G' b = 0 ∨ gl_ G' b = 0 then 0 else cn_ y (ge_ G' b)) = (if gw_ G b = 0 ∨ gl_ G b = 0 then 0 else cn_ y (ge_ G b)) := by
      rw [hgw, hgl, if_neg (by omega), if_neg (by omega), heb]
      have h9 : cn_ y (sk_ (ge_ G b) (i + 1) kq) + (if ((ge_ G b).getD (i + 1) (0, 0)).2 = y then 1 else 0) = cn_ y (ge_ G b) + (if ((ge_ G b).getD (i + 1) (0, 0)).2 = y then 1 else 0) := cn_set y (ge_ G b) (i + 1) (kq, ((ge_ G b).getD (i + 1) (0, 0)).2) hi
      omega
    have c2 : (if gw_ G' p = 0 ∨ gl_ G' p = 0 then 0 else cn_ y (ge_ G' p)) + (if gw_ G' q = 0 ∨ gl_ G' q = 0 then 0 else cn_ y (ge_ G' q)) = (if gw_ G p = 0 ∨ gl_ G p = 0 then 0 else cn_ y (ge_ G p)) + (if gw_ G q = 0 ∨ gl_ G q = 0 then 0 else cn_ y (ge_ G q)) := by
      rw [hgw, hgl, hgw, hgl, hpn, hqn, hp1, hq1, hep, heq]
      by_cases h0 : n = 0
      · simp [h0]
      · rw [if_neg (by omega), if_neg (by omega), if_neg (by omega), if_neg (by omega), ← cn_app, ← cn_app, hL]
    rw [← e1, ← e2] at h2
    rw [hgw]
    omega
  · rw [hgl] at hyl
    rw [hgw] at hy
    by_cases hyp : y = p
    · subst hyp
      refine ⟨fun _ => by rw [hep]; omega, by rw [hgl, hpn]; exact hso.1, fun h0 e he => ?_⟩
      rw [hgl, hpn] at h0
      rw [hep] at he
      obtain ⟨t1, t2, t3, t4, n1, n2, n3⟩ := hsub e (List.mem_append_left _ he) h0
      rw [hgw, hgl, hgl, hey _ n1 n2 n3]
      exact ⟨t1, by omega, fun _ => t3, t4⟩
    · by_cases hyq : y = q
      · subst hyq
        refine ⟨fun _ => by rw [heq]; omega, by rw [hgl, hqn]; exact hso.2, fun h0 e he => ?_⟩
        rw [hgl, hqn] at h0
        rw [heq] at he
        obtain ⟨t1, t2, t3, t4, n1, n2, n3⟩ := hsub e (List.mem_append_right _ he) h0
        rw [hgw, hgl, hgl, hey _ n1 n2 n3]
        exact ⟨t1, by omega, fun _ => t3, t4⟩
      · by_cases hyb : y = b
        · subst hyb
          refine ⟨fun h => absurd (by simp) h, ?_, fun h0 e he => ?_⟩
          · rw [hgl, hbn, hetb]
            have := (hI.2.2.2 y (by omega) (by omega)).2.1
            rw [hbn] at this
            exact this
          · rw [heb, hset] at he
            have hold : ∀ e ∈ ge_ G y, e.2 ≠ p ∧ e.2 ≠ q → 1 ≤ gw_ G' e.2 ∧ gl_ G' e.2 + 1 = gl_ G' y ∧ (e.2 ∉ [y] → w / 2 ≤ (ge_ G' e.2).length) ∧ (ge_ G' e.2).head?.map Prod.fst = some e.1 := fun e he hne => by
              obtain ⟨t1, t2, t3, t4⟩ := hI.child (b := y) (by omega) (by omega) (by omega) he
              have n1 : e.2 ≠ y := fun z => by rw [z] at t2; omega
              rw [hgw, hgl, hgl, hey _ n1 hne.1 hne.2]
              exact ⟨t1, t2, fun _ => t3 (by simp [n1, hne.1, hne.2]), t4⟩
            rcases List.mem_append.mp he with h | h
            · exact hold e (List.mem_of_mem_take h) (hA e h)
            · rcases List.mem_cons.mp h with h | h
              · have h1 : e.2 = p := by rw [h]; exact hp
                have h2 : e.1 = ((ge_ G y).getD i (0, 0)).1 := by rw [h]
                rw [h1, hgw, hgl, hgl, hep, h2, ← g4, hhp]
                exact ⟨by omega, by omega, fun _ => hp2, rfl⟩
              · rcases List.mem_cons.mp h with h | h
                · subst h
                  show 1 ≤ gw_ G' q ∧ gl_ G' q + 1 = gl_ G' y ∧ (q ∉ [y] → w / 2 ≤ (ge_ G' q).length) ∧ (ge_ G' q).head?.map Prod.fst = some kq
                  rw [hgw, hgl, hgl, heq]
                  exact ⟨by omega, by omega, fun _ => hq2, hkq⟩
                · exact hold e (List.mem_of_mem_drop h) (hB e h)
        · have hv := hI.2.2.2 y hy hyl
          have hall : ∀ e ∈ ge_ G y, gl_ G y ≠ 0 → (e.2 ≠ p ∧ e.2 ≠ q) ∧ e.2 ≠ b := fun e he h0 => by
            obtain ⟨t1, t2, -, -⟩ := hI.child hy hyl h0 he
            refine ⟨?_, fun z => by rw [z] at t2; omega⟩
            by_cases hyn : gl_ G y = n + 1
            · exact hoth y hy hyn hyb e he
            · exact ⟨fun z => by rw [z] at t2; omega, fun z => by rw [z] at t2; omega⟩
          refine ⟨fun _ => ?_, ?_, fun h0 e he => ?_⟩
          · rw [hey y hyb hyp hyq]; exact hv.1 (by simp [hyb, hyp, hyq])
          · rw [hgl]
            by_cases hyn : gl_ G y = n + 1
            · rw [hyn, hety y hy hyn hyb]
              have := hv.2.1
              rw [hyn] at this
              exact this
            · rw [hlow y hy (by omega) hyp hyq]; exact hv.2.1
          · rw [hgl] at h0
            rw [hey y hyb hyp hyq] at he
            obtain ⟨t1, t2, t3, t4⟩ := hv.2.2 h0 e he
            obtain ⟨⟨n1, n2⟩, n3⟩ := hall e he h0
            rw [hgw, hgl, hgl, hey _ n3 n1 n2]
            exact ⟨t1, t2, fun _ => t3 (by simp [n1, n2, n3]), t4⟩
  · rw [hgf]
    have hkp : ∀ y, 1 ≤ gw_ G y → gl_ G y ≤ n + 1 → y ≠ b → y ≠ p → y ≠ q → sl_ G' y = sl_ G y := fun y y1 y2 y3 y4 y5 => by
      show (gw_ G' y - 1) * max ((et_ (ge_ G') (gl_ G' y) y).length - 1) 1 + ((ge_ G' y).length - 2) = (gw_ G y - 1) * max ((et_ (ge_ G) (gl_ G y) y).length - 1) 1 + ((ge_ G y).length - 2)
      rw [hgw, hgl, hey y y3 y4 y5]
      by_cases hyn : gl_ G y = n + 1
      · rw [hyn, hety y y1 hyn y3]
      · rw [hlow y y1 (by omega) y4 y5]
    have h2 := sm_up3 (n := 1201) (i := b) (j := p) (k := q) (f := fun y => if gw_ G y = 0 ∨ n + 1 < gl_ G y then 0 else sl_ G y) (g := fun y => if gw_ G' y = 0 ∨ n + 1 < gl_ G' y then 0 else sl_ G' y) (by omega) (by omega) (by omega) (Ne.symm hpb) (Ne.symm hqb) hpq (fun r _ r1 r2 r3 => by
      rw [hgw, hgl]
      by_cases hu : gw_ G r = 0 ∨ n + 1 < gl_ G r
      · simp only [hu, if_true]
      · simp only [hu, if_false]; exact hkp r (by omega) (by omega) r1 r2 r3)
    have e1 : SL_ (n + 1) G = sm_ 1201 (fun y => if gw_ G y = 0 ∨ n + 1 < gl_ G y then 0 else sl_ G y) := rfl
    have e2 : SL_ (n + 1) G' = sm_ 1201 (fun y => if gw_ G' y = 0 ∨ n + 1 < gl_ G' y then 0 else sl_ G' y) := rfl
    have s1 : (if gw_ G b = 0 ∨ n + 1 < gl_ G b then 0 else sl_ G b) = (ge_ G b).length - 2 := by
      rw [if_neg (by omega)]; simp [sl_, hb1]
    have s2 : (if gw_ G' b = 0 ∨ n + 1 < gl_ G' b then 0 else sl_ G' b) = (ge_ G b).length - 2 := by
      rw [hgw, hgl, if_neg (by omega)]
      simp only [sl_]
      rw [hgw, hb1, heb, List.length_set]; simp
    have s3 : (if gw_ G p = 0 ∨ n + 1 < gl_ G p then 0 else sl_ G p) = (ge_ G p).length - 2 := by
      rw [if_neg (by omega)]; simp [sl_, hp1]
    have s4 : (if gw_ G' p = 0 ∨ n + 1 < gl_ G' p then 0 else sl_ G' p) = Lp.length - 2 := by
      rw [hgw, hgl, if_neg (by omega)]
      simp only [sl_]
      rw [hgw, hp1, hep]; simp
    have s5 : (if gw_ G q = 0 ∨ n + 1 < gl_ G q then 0 else sl_ G q) = (ge_ G q).length - 2 := by
      rw [if_neg (by omega)]; simp [sl_, hq1]
    have s6 : (if gw_ G' q = 0 ∨ n + 1 < gl_ G' q then 0 else sl_ G' q) = Lq.length - 2 := by
      rw [hgw, hgl, if_neg (by omega)]
      simp only [sl_]
      rw [hgw, hq1, heq]; simp
    rw [s1, s2, s3, s4, s5, s6, ← e1, ← e2] at h2
    omega
end FL
end
section
-- PURE: two neighbours become one
section MG
variable {w a n : Nat} {R : Nat → Nat} {G : Sg_}
abbrev mg_ (G : Sg_) (b p q : Nat) (Lp L : List (Nat × Nat)) : Sg_ := (va_up G.1 q 0, va_up G.2.1 q 0, va_up (va_up (va_up G.2.2.1 p Lp) q []) b L, G.2.2.2 ++ [q])
theorem el2_ {L : List (Nat × Nat)} {i : Nat} (hi : i + 1 < L.length) : el_ L (i + 1) = L.take i ++ L.getD i (0, 0) :: L.drop (i + 2) := by
  show L.take (i + 1) ++ L.drop (i + 1 + 1) = _
  rw [tk_1 (show i < L.length by omega), List.append_assoc]
  rfl
theorem merge_pure {b i p q a' : Nat} (hw : 5 ≤ w) (hI : In_ w [b, p, q] (n + 1) R a G) (hb1 : gw_ G b = 1) (hbn : gl_ G b = n + 1) (hi : i + 1 < (ge_ G b).length) (hp : ((ge_ G b).getD i (0, 0)).2 = p) (hq : ((ge_ G b).getD (i + 1) (0, 0)).2 = q) (hp1 : gw_ G p = 1) (hq1 : gw_ G q = 1) (hpq : p ≠ q)
    (hp2 : w / 2 ≤ (ge_ G p).length + (ge_ G q).length) (hp3 : (ge_ G p).length + (ge_ G q).length + 1 ≤ w)
    (ha : a' + ((ge_ G p).length + (ge_ G q).length - 2) + ((ge_ G b).length - 1 - 2) ≤ a + ((ge_ G p).length - 2) + ((ge_ G q).length - 2) + ((ge_ G b).length - 2) + 1) :
    In_ w [b] (n + 1) R a' (mg_ G b p q (ge_ G p ++ ge_ G q) (el_ (ge_ G b) (i + 1))) ∧ Cp_ (n + 1) R G (mg_ G b p q (ge_ G p ++ ge_ G q) (el_ (ge_ G b) (i + 1))) b ∧
    et_ (ge_ (mg_ G b p q (ge_ G p ++ ge_ G q) (el_ (ge_ G b) (i + 1)))) (n + 1) b = et_ (ge_ G) (n + 1) b := by
  obtain ⟨hI, hs⟩ := hI
  have hpm : ((ge_ G b).getD i (0, 0)) ∈ ge_ G b := gd_mem (by omega)
  have hqm : ((ge_ G b).getD (i + 1) (0, 0)) ∈ ge_ G b := gd_mem hi
  have hch := hI.child (b := b) (by omega) (by omega) (by omega) hpm
  rw [hp] at hch
  obtain ⟨g1, g2, g3, g4⟩ := hch
  have hch2 := hI.child (b := b) (by omega) (by omega) (by omega) hqm
  rw [hq] at hch2
  obtain ⟨k1, k2, k3, k4⟩ := hch2
  have hpn : gl_ G p = n := by omega
  have hqn : gl_ G q = n := by omega
  have hpb : p ≠ b := fun e => by rw [e] at g2; omega
  have hqb : q ≠ b := fun e => by rw [e] at k2; omega
  obtain ⟨u1, u2, u3⟩ := uniq_ hI (p := b) (c := p) (by omega) (by omega) hp1 (cn_mem hpm hp)
  obtain ⟨v1, v2, v3⟩ := uniq_ hI (p := b) (c := q) (by omega) (by omega) hq1 (cn_mem hqm hq)
  obtain ⟨b1, b2, b3⟩ := hI.1 b (by omega)
  obtain ⟨p1, p2, p3⟩ := hI.1 p (by omega)
  obtain ⟨q1, q2, q3⟩ := hI.1 q (by omega)
  have hspl := spl2_ hi
  have hcp : cn_ p (ge_ G b) = cn_ p ((ge_ G b).take i) + 1 + cn_ p ((ge_ G b).drop (i + 2)) := by
    conv => lhs; rw [hspl]
    rw [cn_app]
    simp only [cn_, hp, hq, if_true, Ne.symm hpq, if_false]
    omega
  have hcq : cn_ q (ge_ G b) = cn_ q ((ge_ G b).take i) + 1 + cn_ q ((ge_ G b).drop (i + 2)) := by
    conv => lhs; rw [hspl]
    rw [cn_app]
    simp only [cn_, hp, hq, if_true, hpq, if_false]
    omega
  have hA : ∀ e ∈ (ge_ G b).take i, e.2 ≠ p ∧ e.2 ≠ q := fun e he => ⟨fun z => by have := cn_mem he z; omega, fun z => by have := cn_mem he z; omega⟩
  have hB : ∀ e ∈ (ge_ G b).drop (i + 2), e.2 ≠ p ∧ e.2 ≠ q := fun e he => ⟨fun z => by have := cn_mem he z; omega, fun z => by have := cn_mem he z; omega⟩
  generalize hG' : mg_ G b p q (ge_ G p ++ ge_ G q) (el_ (ge_ G b) (i + 1)) = G'
  have hgw : ∀ y, gw_ G' y = if y = q then 0 else gw_ G y := fun y => by rw [← hG']; rfl
  have hgl : ∀ y, gl_ G' y = if y = q then 0 else gl_ G y := fun y => by rw [← hG']; rfl
  have heb : ge_ G' b = el_ (ge_ G b) (i + 1) := by rw [← hG']; simp [ge_, mg_, va_up]
  have hep : ge_ G' p = ge_ G p ++ ge_ G q := by rw [← hG']; simp [ge_, mg_, va_up, hpb, hpq]
  have heq : ge_ G' q = [] := by rw [← hG']; simp [ge_, mg_, va_up, hqb]
  have hey : ∀ y, y ≠ b → y ≠ p → y ≠ q → ge_ G' y = ge_ G y := fun y y1 y2 y3 => by rw [← hG']; simp [ge_, mg_, va_up, y1, y2, y3]
  have hgf : gf_ G' = gf_ G ++ [q] := by rw [← hG']
  have hset := el2_ hi
  have hoth : ∀ y, 1 ≤ gw_ G y → gl_ G y = n + 1 → y ≠ b → ∀ e ∈ ge_ G y, e.2 ≠ p ∧ e.2 ≠ q := fun y y1 y2 y3 e he => by
    have h1 := u3 y y1 (by omega) y3
    have h2 := v3 y y1 (by omega) y3
    exact ⟨fun z => by have := cn_mem he z; omega, fun z => by have := cn_mem he z; omega⟩
  have hlow : ∀ y, 1 ≤ gw_ G y → gl_ G y ≤ n → y ≠ p → y ≠ q → et_ (ge_ G') (gl_ G y) y = et_ (ge_ G) (gl_ G y) y := fun y y1 y2 y3 y4 => by
    refine et_same (fun m y => 1 ≤ gw_ G y ∧ gl_ G y = m ∧ m ≤ n ∧ y ≠ p ∧ y ≠ q) (fun m y h => hey y (fun z => by rw [z] at h; omega) h.2.2.2.1 h.2.2.2.2) (fun m y h e he => ?_) _ y ⟨y1, rfl, y2, y3, y4⟩
    obtain ⟨t1, t2, -, -⟩ := hI.child h.1 (by omega) (by omega) he
    exact ⟨t1, by omega, by omega, fun z => by rw [z] at t2; omega, fun z => by rw [z] at t2; omega⟩
  have hkid : ∀ y, 1 ≤ gw_ G y → gl_ G y = n + 1 → ∀ e ∈ ge_ G y, e.2 ≠ p ∧ e.2 ≠ q → et_ (ge_ G') n e.2 = et_ (ge_ G) n e.2 := fun y y1 y2 e he hne => by
    obtain ⟨t1, t2, -, -⟩ := hI.child y1 (by omega) (by omega) he
    have := hlow e.2 t1 (by omega) hne.1 hne.2
    rw [show gl_ G e.2 = n by omega] at this
    exact this
  -- children of p and q
  have hsub : ∀ e, e ∈ ge_ G p ++ ge_ G q → n ≠ 0 → 1 ≤ gw_ G e.2 ∧ gl_ G e.2 + 1 = n ∧ w / 2 ≤ (ge_ G e.2).length ∧ (ge_ G e.2).head?.map Prod.fst = some e.1 ∧ e.2 ≠ b ∧ e.2 ≠ p ∧ e.2 ≠ q := fun e he h0 => by
    have go : ∀ z, 1 ≤ gw_ G z → gl_ G z = n → e ∈ ge_ G z → 1 ≤ gw_ G e.2 ∧ gl_ G e.2 + 1 = n ∧ w / 2 ≤ (ge_ G e.2).length ∧ (ge_ G e.2).head?.map Prod.fst = some e.1 ∧ e.2 ≠ b ∧ e.2 ≠ p ∧ e.2 ≠ q := fun z z1 z2 z3 => by
      obtain ⟨t1, t2, t3, t4⟩ := hI.child z1 (by omega) (by omega) z3
      have n1 : e.2 ≠ b := fun z => by rw [z] at t2; omega
      have n2 : e.2 ≠ p := fun z => by rw [z] at t2; omega
      have n3 : e.2 ≠ q := fun z => by rw [z] at t2; omega
      exact ⟨t1, by omega, t3 (by simp [n1, n2, n3]), t4, n1, n2, n3⟩
    rcases List.mem_append.mp he with h | h
    · exact go p (by omega) hpn h
    · exact go q (by omega) hqn h
  have hpq2 : et_ (ge_ G') n p = et_ (ge_ G) n p ++ et_ (ge_ G) n q := by
    cases hn : n with
    | zero => exact hep
    | succ m =>
      have h0 : n ≠ 0 := by omega
      rw [et_succ, et_succ, et_succ, hep, ← fm_app]
      refine fm_congr (fun e he => ?_)
      obtain ⟨t1, t2, -, -, n1, n2, n3⟩ := hsub e he h0
      have := hlow e.2 t1 (by omega) n2 n3
      rw [show gl_ G e.2 = m by omega] at this
      exact this
  have hety : ∀ y, 1 ≤ gw_ G y → gl_ G y = n + 1 → y ≠ b → et_ (ge_ G') (n + 1) y = et_ (ge_ G) (n + 1) y := fun y y1 y2 y3 => by
    rw [et_succ, et_succ, hey y y3 (fun z => by rw [z] at y2; omega) (fun z => by rw [z] at y2; omega)]
    exact fm_congr (fun e he => hkid y y1 y2 e he (hoth y y1 y2 y3 e he))
  have hetb : et_ (ge_ G') (n + 1) b = et_ (ge_ G) (n + 1) b := by
    rw [et_succ, et_succ, heb, hset, fm_app, fm_cons, hp]
    conv => rhs; rw [hspl, fm_app, fm_cons, fm_cons, hp, hq]
    rw [fm_congr (fun e he => hkid b (by omega) hbn e (List.mem_of_mem_take he) (hA e he)), fm_congr (fun e he => hkid b (by omega) hbn e (List.mem_of_mem_drop he) (hB e he)), hpq2, List.append_assoc]
  have hCp : Cp_ (n + 1) R G G' b := by
    refine ⟨by rw [hgw, if_neg (Ne.symm hqb)]; exact hb1, by rw [hgl, if_neg (Ne.symm hqb)]; exact hbn, fun y y1 y2 y3 => ?_, fun y y1 y2 y3 => by rw [hgw, if_neg (fun z => by rw [z] at y2; omega)], fun y y1 y2 => ?_⟩
    · have hyp : y ≠ p := fun z => by
        rw [z] at y3
        rcases y3 with h | h <;> omega
      have hyq : y ≠ q := fun z => by
        rw [z] at y3
        rcases y3 with h | h <;> omega
      refine ⟨hey y y2 hyp hyq, by rw [hgl, if_neg hyq], by rw [hgw, if_neg hyq]; exact y1, fun hy => ?_⟩
      by_cases hyn : gl_ G y = n + 1
      · rw [hyn]; exact hety y y1 hyn y2
      · exact hlow y y1 (by omega) hyp hyq
    · rw [hgw] at y1
      by_cases hyq : y = q
      · rw [if_pos hyq] at y1; omega
      · rw [if_neg hyq] at y1
        exact ⟨y1, by rw [hgl, if_neg hyq]⟩
  have hso : so_ (et_ (ge_ G') n p) := by
    have h := (hI.2.2.2 b (by omega) (by omega)).2.1
    rw [hbn, ← hetb, et_succ, heb, hset, fm_app, fm_cons, hp] at h
    exact (so_app.mp (so_app.mp h).2.1).1
  have hhp : (ge_ G p ++ ge_ G q).head?.map Prod.fst = (ge_ G p).head?.map Prod.fst := by
    have h1 := hd_len g4
    cases hgp : ge_ G p with
    | nil => rw [hgp] at h1; simp at h1
    | cons d2 D2 => rfl
  have hqf : q ∉ gf_ G := fun h => by have := (hI.2.1.2.1 q h).2.2; omega
  refine ⟨⟨⟨fun y hy => ?_, ⟨?_, fun y hy => ?_, fun y y1 y2 y3 => ?_⟩, fun y hy => ?_, fun y hy hyl => ?_⟩, ?_⟩, hCp, hetb⟩
  · rw [hgw] at hy
    by_cases hyq : y = q
    · rw [if_pos hyq] at hy; omega
    · rw [if_neg hyq] at hy
      rw [hgl, if_neg hyq]; exact hI.1 y hy
  · rw [hgf, List.nodup_append]
    refine ⟨hI.2.1.1, by simp, fun x hx y hy e => ?_⟩
    rw [List.mem_singleton] at hy
    rw [e, hy] at hx
    exact hqf hx
  · rw [hgf] at hy
    rw [hgw]
    rcases List.mem_append.mp hy with h | h
    · obtain ⟨t1, t2, t3⟩ := hI.2.1.2.1 y h
      refine ⟨t1, t2, ?_⟩
      split
      · rfl
      · exact t3
    · rw [List.mem_singleton] at h
      rw [if_pos h, h]; exact ⟨q1, q2, rfl⟩
  · rw [hgw] at y3
    rw [hgf]
    by_cases hyq : y = q
    · exact Or.inl (List.mem_append_right _ (by rw [hyq]; exact List.mem_singleton.mpr rfl))
    · rw [if_neg hyq] at y3
      rcases hI.2.1.2.2 y y1 y2 y3 with h | h
      · exact Or.inl (List.mem_append_left _ h)
      · exact Or.inr h
  · have h1 := hI.2.2.1 y hy
    have h2 := sm_up3 (n := 1201) (i := b) (j := p) (k := q) (f := fun r => if gw_ G r = 0 ∨ gl_ G r = 0 then 0 else cn_ y (ge_ G r)) (g := fun r => if gw_ G' r = 0 ∨ gl_ G' r = 0 then 0 else cn_ y (ge_ G' r)) (by omega) (by omega) (by omega) (Ne.symm hpb) (Ne.symm hqb) hpq (fun r _ r1 r2 r3 => by
      rw [hgw, hgl, if_neg r3, if_neg r3, hey r r1 r2 r3])
    have e1 : eg_ G y = sm_ 1201 (fun r => if gw_ G r = 0 ∨ gl_ G r = 0 then 0 else cn_ y (ge_ G r)) := rfl
    have e2 : eg_ G' y = sm_ 1201 (fun r => if gw_ G' r = 0 ∨ gl_ G' r = 0 then 0 else cn_ y (ge_ G' r)) := rfl
    have c1 : (if gw_ G' b = 0 ∨ gl_ G' b = 0 then 0 else cn_ y (ge_ G' b)) + (if y = q then 1 else 0) = (if gw_ G b = 0 ∨ gl_ G b = 0 then 0 else cn_ y (ge_ G b)) := by
      have hub : ¬ (gw_ G b = 0 ∨ gl_ G b = 0) := by omega
      rw [hgw, hgl, if_neg (Ne.symm hqb), if_neg (Ne.symm hqb), if_neg hub, if_neg hub, heb, hset]
      conv => rhs; rw [hspl]
      rw [cn_app, cn_app]
      simp only [cn_, hq]
      rw [show (if q = y then 1 else 0) = (if y = q then 1 else 0) by simp only [eq_comm]]
      omega
    have c2 : (if gw_ G' p = 0 ∨ gl_ G' p = 0 then 0 else cn_ y (ge_ G' p)) = (if gw_ G p = 0 ∨ gl_ G p = 0 then 0 else cn_ y (ge_ G p)) + (if gw_ G q = 0 ∨ gl_ G q = 0 then 0 else cn_ y (ge_ G q)) := by
      rw [hgw, hgl, if_neg hpq, if_neg hpq, hpn, hqn, hp1, hq1, hep]
      by_cases h0 : n = 0
      · simp [h0]
      · rw [if_neg (by omega), if_neg (by omega), if_neg (by omega), ← cn_app]
    have c3 : (if gw_ G' q = 0 ∨ gl_ G' q = 0 then 0 else cn_ y (ge_ G' q)) = 0 := by
      rw [hgw, if_pos rfl]; simp
    rw [← e1, ← e2] at h2
    rw [hgw]
    by_cases hyq : y = q
    · rw [if_pos hyq] at c1 ⊢
      rw [hyq] at h1 h2 c1 c2 c3 ⊢
      omega
    · rw [if_neg hyq] at c1 ⊢
      omega
  · rw [hgl] at hyl
    rw [hgw] at hy
    have hyq : y ≠ q := fun z => by rw [if_pos z] at hy; omega
    rw [if_neg hyq] at hyl hy
    have hly : gl_ G' y = gl_ G y := by rw [hgl, if_neg hyq]
    by_cases hyp : y = p
    · subst hyp
      have h1 := hd_len g4
      refine ⟨fun _ => by rw [hep, List.length_append]; omega, by rw [hly, hpn]; exact hso, fun h0 e he => ?_⟩
      rw [hly, hpn] at h0
      rw [hep] at he
      obtain ⟨t1, t2, t3, t4, n1, n2, n3⟩ := hsub e he h0
      rw [hgw, hly, hgl, if_neg n3, if_neg n3, hey _ n1 n2 n3]
      exact ⟨t1, by omega, fun _ => t3, t4⟩
    · by_cases hyb : y = b
      · subst hyb
        refine ⟨fun h => absurd (by simp) h, ?_, fun h0 e he => ?_⟩
        · rw [hly, hbn, hetb]
          have := (hI.2.2.2 y (by omega) (by omega)).2.1
          rw [hbn] at this
          exact this
        · rw [heb, hset] at he
          have hold : ∀ e ∈ ge_ G y, e.2 ≠ p ∧ e.2 ≠ q → 1 ≤ gw_ G' e.2 ∧ gl_ G' e.2 + 1 = gl_ G' y ∧ (e.2 ∉ [y] → w / 2 ≤ (ge_ G' e.2).length) ∧ (ge_ G' e.2).head?.map Prod.fst = some e.1 := fun e he hne => by
            obtain ⟨t1, t2, t3, t4⟩ := hI.child (b := y) (by omega) (by omega) (by omega) he
            have n1 : e.2 ≠ y := fun z => by rw [z] at t2; omega
            rw [hgw, hly, hgl, if_neg hne.2, if_neg hne.2, hey _ n1 hne.1 hne.2]
            exact ⟨t1, t2, fun _ => t3 (by simp [n1, hne.1, hne.2]), t4⟩
          rcases List.mem_append.mp he with h | h
          · exact hold e (List.mem_of_mem_take h) (hA e h)
          · rcases List.mem_cons.mp h with h | h
            · have h1 : e.2 = p := by rw [h]; exact hp
              have h2 : e.1 = ((ge_ G y).getD i (0, 0)).1 := by rw [h]
              rw [h1, hgw, hly, hgl, if_neg hpq, if_neg hpq, hep, h2, ← g4, hhp, List.length_append]
              exact ⟨by omega, by omega, fun _ => hp2, rfl⟩
            · exact hold e (List.mem_of_mem_drop h) (hB e h)
      · have hv := hI.2.2.2 y hy hyl
        have hall : ∀ e ∈ ge_ G y, gl_ G y ≠ 0 → (e.2 ≠ p ∧ e.2 ≠ q) ∧ e.2 ≠ b := fun e he h0 => by
          obtain ⟨t1, t2, -, -⟩ := hI.child hy hyl h0 he
          refine ⟨?_, fun z => by rw [z] at t2; omega⟩
          by_cases hyn : gl_ G y = n + 1
          · exact hoth y hy hyn hyb e he
          · exact ⟨fun z => by rw [z] at t2; omega, fun z => by rw [z] at t2; omega⟩
        refine ⟨fun _ => ?_, ?_, fun h0 e he => ?_⟩
        · rw [hey y hyb hyp hyq]; exact hv.1 (by simp [hyb, hyp, hyq])
        · rw [hly]
          by_cases hyn : gl_ G y = n + 1
          · rw [hyn, hety y hy hyn hyb]
            have := hv.2.1
            rw [hyn] at this
            exact this
          · rw [hlow y hy (by omega) hyp hyq]; exact hv.2.1
        · rw [hly] at h0
          rw [hey y hyb hyp hyq] at he
          obtain ⟨t1, t2, t3, t4⟩ := hv.2.2 h0 e he
          obtain ⟨⟨n1, n2⟩, n3⟩ := hall e he h0
          rw [hgw, hly, hgl, if_neg n2, if_neg n2, hey _ n3 n1 n2]
          exact ⟨t1, t2, fun _ => t3 (by simp [n1, n2, n3]), t4⟩
  · rw [hgf, List.length_append, List.length_singleton]
    have hkp : ∀ y, 1 ≤ gw_ G y → gl_ G y ≤ n + 1 → y ≠ b → y ≠ p → y ≠ q → sl_ G' y = sl_ G y := fun y y1 y2 y3 y4 y5 => by
      show (gw_ G' y - 1) * max ((et_ (ge_ G') (gl_ G' y) y).length - 1) 1 + ((ge_ G' y).length - 2) = (gw_ G y - 1) * max ((et_ (ge_ G) (gl_ G y) y).length - 1) 1 + ((ge_ G y).length - 2)
      rw [hgw, hgl, if_neg y5, if_neg y5, hey y y3 y4 y5]
      by_cases hyn : gl_ G y = n + 1
      · rw [hyn, hety y y1 hyn y3]
      · rw [hlow y y1 (by omega) y4 y5]
    have h2 := sm_up3 (n := 1201) (i := b) (j := p) (k := q) (f := fun y => if gw_ G y = 0 ∨ n + 1 < gl_ G y then 0 else sl_ G y) (g := fun y => if gw_ G' y = 0 ∨ n + 1 < gl_ G' y then 0 else sl_ G' y) (by omega) (by omega) (by omega) (Ne.symm hpb) (Ne.symm hqb) hpq (fun r _ r1 r2 r3 => by
      rw [hgw, hgl, if_neg r3, if_neg r3]
      by_cases hu : gw_ G r = 0 ∨ n + 1 < gl_ G r
      · simp only [hu, if_true]
      · simp only [hu, if_false]; exact hkp r (by omega) (by omega) r1 r2 r3)
    have e1 : SL_ (n + 1) G = sm_ 1201 (fun y => if gw_ G y = 0 ∨ n + 1 < gl_ G y then 0 else sl_ G y) := rfl
    have e2 : SL_ (n + 1) G' = sm_ 1201 (fun y => if gw_ G' y = 0 ∨ n + 1 < gl_ G' y then 0 else sl_ G' y) := rfl
    have hel := el_len hi
    have s1 : (if gw_ G b = 0 ∨ n + 1 < gl_ G b then 0 else sl_ G b) = (ge_ G b).length - 2 := by
      rw [if_neg (by omega)]; simp [sl_, hb1]
    have s2 : (if gw_ G' b = 0 ∨ n + 1 < gl_ G' b then 0 else sl_ G' b) = (ge_ G b).length - 1 - 2 := by
      rw [hgw, hgl, if_neg (Ne.symm hqb), if_neg (Ne.symm hqb), if_neg (by omega)]
      simp only [sl_]
      rw [hgw, if_neg (Ne.symm hqb), hb1, heb, show (el_ (ge_ G b) (i + 1)).length = (ge_ G b).length - 1 by omega]; simp
    have s3 : (if gw_ G p = 0 ∨ n + 1 < gl_ G p then 0 else sl_ G p) = (ge_ G p).length - 2 := by
      rw [if_neg (by omega)]; simp [sl_, hp1]
    have s4 : (if gw_ G' p = 0 ∨ n + 1 < gl_ G' p then 0 else sl_ G' p) = (ge_ G p).length + (ge_ G q).length - 2 := by
      rw [hgw, hgl, if_neg hpq, if_neg hpq, if_neg (by omega)]
      simp only [sl_]
      rw [hgw, if_neg hpq, hp1, hep, List.length_append]; simp
    have s5 : (if gw_ G q = 0 ∨ n + 1 < gl_ G q then 0 else sl_ G q) = (ge_ G q).length - 2 := by
      rw [if_neg (by omega)]; simp [sl_, hq1]
    have s6 : (if gw_ G' q = 0 ∨ n + 1 < gl_ G' q then 0 else sl_ G' q) = 0 := by
      rw [hgw, if_pos rfl]; simp
    rw [s1, s2, s3, s4, s5, s6, ← e1, ← e2] at h2
    omega
end MG
end
section
-- PURE: Trees.moveEntry, Trees.fill
section FW
variable {w a n : Nat} {R : Nat → Nat} {G : Sg_} {st : St_}
theorem sm_c1 (n : Nat) : sm_ n (fun _ => 1) = n := by
  induction n with
  | zero => rfl
  | succ n ih => show sm_ n (fun _ => 1) + 1 = n + 1; rw [ih]
theorem gf_lt {X : List Nat} {l : Nat} (hI : Ic_ w X l R [] G) {b : Nat} (hb : 1 ≤ gw_ G b) : (gf_ G).length < 1200 := by
  obtain ⟨b1, b2, b3⟩ := hI.1 b hb
  have h1 := nd_len (fun y => gw_ G y = 0) 1200 (gf_ G) hI.2.1.1 (fun y => ⟨fun h => hI.2.1.2.1 y h, fun h => by
    rcases hI.2.1.2.2 y h.1 h.2.1 h.2.2 with q | q
    · exact q
    · simp at q⟩)
  have h2 := sm_up (n := 1200) (k := b - 1) (f := fun _ => 1) (g := va_up (fun _ => 1) (b - 1) 0) (by omega) (fun i _ hi => by simp [va_up, hi])
  have h3 : sm_ 1200 (fun i => if gw_ G (i + 1) = 0 then 1 else 0) ≤ sm_ 1200 (va_up (fun _ => 1) (b - 1) 0) := sm_le (fun i _ => by
    by_cases e : i = b - 1
    · subst e
      rw [show b - 1 + 1 = b by omega, if_neg (by omega)]
      omega
    · simp only [va_up, e, if_false]
      split <;> omega)
  rw [sm_c1] at h2
  have h4 : va_up (fun _ => 1) (b - 1) 0 (b - 1) = 0 := by simp [va_up]
  rw [h4] at h2
  rw [h1]
  omega
theorem p_moveEntry {f s t i : Nat} {post : St_ → Prop} (hw : 5 ≤ w ∧ w ≤ 32) (hR : Rp_ w st G) (hf : 1 ≤ f ∧ f ≤ 1200) (ht : 1 ≤ t ∧ t ≤ 1200) (hne : f ≠ t) (hs : s < (ge_ G f).length) (hi : i ≤ (ge_ G t).length) (hl : (ge_ G t).length < w)
    (k : ∀ st', Rp_ w st' (se_ (se_ G t (il_ (ge_ G t) i ((ge_ G f).getD s (0, 0)))) f (el_ (ge_ G f) s)) → Fr_ st st' → post st') : wp_T_moveEntry w (nI f) (nI s) (nI t) (nI i) st post := by
  unfold wp_T_moveEntry
  have hbd := hR.bd hs
  refine p_key hw hR hf hs (p_goal hw hR hf hs (p_insert hw hR ht hi hl hbd.1 hbd.2 (fun s1 hR1 hF1 => ?_)))
  have e : ge_ (se_ G t (il_ (ge_ G t) i ((ge_ G f).getD s (0, 0)))) f = ge_ G f := se_ne _ _ hne
  refine p_remove hw hR1 hf (by rw [e]; exact hs) (fun s2 hR2 hF2 => ?_)
  rw [e] at hR2
  exact k s2 hR2 (hF1.tr hF2)
theorem cn2_ {L : List (Nat × Nat)} {i p : Nat} (hi : i + 1 < L.length) (h1 : (L.getD i (0, 0)).2 = p) (h2 : (L.getD (i + 1) (0, 0)).2 = p) : 2 ≤ cn_ p L := by
  rw [spl2_ hi, cn_app]
  simp only [cn_, h1, h2, if_true]
  omega
theorem sg_ne {L : List (Nat × Nat)} {i j c : Nat} (hi : i < L.length) (h : j ≠ i) : (sg_ L i c).getD j (0, 0) = L.getD j (0, 0) := by
  rw [getD_set hi, if_neg h]
theorem sg_at {L : List (Nat × Nat)} {i c : Nat} (hi : i < L.length) : ((sg_ L i c).getD i (0, 0)).2 = c := by
  rw [getD_set hi, if_pos rfl]
theorem p_fill {b i c : Nat} {post : St_ → Prop} (hw : 5 ≤ w ∧ w ≤ 32) (hR : Rp_ w st G) (hI : In_ w [b, c] (n + 1) R a G) (hr : ∀ y, R y ≤ 1000) (hb1 : gw_ G b = 1) (hbn : gl_ G b = n + 1) (hi : i + 1 < (ge_ G b).length)
    (hc : ((ge_ G b).getD i (0, 0)).2 = c ∨ ((ge_ G b).getD (i + 1) (0, 0)).2 = c) (hc1 : gw_ G c = 1) (hcl : (ge_ G c).length + 1 = w / 2) (ha1 : 1 ≤ a + (if (ge_ G c).length ≤ 1 then 1 else 0))
    (k : ∀ st' G' a', Rp_ w st' G' → Fr_ st st' → In_ w [b] (n + 1) R a' G' → a' + (if (ge_ G' b).length ≤ 1 then 1 else 0) = a + (if (ge_ G c).length ≤ 1 then 1 else 0) → Cp_ (n + 1) R G G' b → et_ (ge_ G') (n + 1) b = et_ (ge_ G) (n + 1) b → (ge_ G b).length ≤ (ge_ G' b).length + 1 → 1 ≤ (ge_ G' b).length → (ge_ G' b).length ≤ (ge_ G b).length → post st') :
    wp_T_fill w (nI b) (nI i) st post := by
  unfold wp_T_fill
  obtain ⟨b1, b2, b3⟩ := hI.1.1 b (by omega)
  have hi0 : i < (ge_ G b).length := by omega
  have hblw := (hR.1 b b1 b2).2.2.2.1
  -- neighbours
  have hcl1 : 1 ≤ gw_ G c ∧ gl_ G c + 1 = gl_ G b ∧ 1 ≤ (ge_ G c).length := by
    rcases hc with h | h
    · have := hI.1.child (b := b) (by omega) (by omega) (by omega) (gd_mem hi0)
      rw [h] at this
      exact ⟨this.1, this.2.1, hd_len this.2.2.2⟩
    · have := hI.1.child (b := b) (by omega) (by omega) (by omega) (gd_mem hi)
      rw [h] at this
      exact ⟨this.1, this.2.1, hd_len this.2.2.2⟩
  obtain ⟨cw0, cn0, cl0⟩ := hcl1
  have hcb : c ≠ b := fun e => by rw [e] at cn0; omega
  -- any child with two ways is no exception
  have hX : ∀ (H : Sg_), Ic_ w [b, c] (n + 1) R [] H → gw_ H b = 1 → gl_ H b = n + 1 → gw_ H c = 1 → gl_ H c = n → ∀ z, 1 ≤ gw_ H z → gl_ H z = n → 2 ≤ gw_ H z → z ∉ [b, c] ∧ (gl_ H z ≠ 0 → ∀ e ∈ ge_ H z, e.2 ∉ [b, c]) := by
    intro H hH hb hbl hcw hcl z z1 z2 z3
    refine ⟨?_, fun h0 e he => ?_⟩
    · simp only [List.mem_cons, List.not_mem_nil, or_false, not_or]
      exact ⟨fun e => by rw [e] at z3; omega, fun e => by rw [e] at z3; omega⟩
    · obtain ⟨t1, t2, -, -⟩ := hH.child z1 (by omega) h0 he
      simp only [List.mem_cons, List.not_mem_nil, or_false, not_or]
      exact ⟨fun e => by rw [e] at t2; omega, fun e => by rw [e] at t2; omega⟩
  have hk1 := hI.1.child (b := b) (by omega) (by omega) (by omega) (gd_mem hi0)
  have hk2 := hI.1.child (b := b) (by omega) (by omega) (by omega) (gd_mem hi)
  generalize hz1 : ((ge_ G b).getD i (0, 0)).2 = z1 at hc hk1
  generalize hz2 : ((ge_ G b).getD (i + 1) (0, 0)).2 = z2 at hc hk2
  have hz1b : z1 ≠ b := fun e => by rw [e] at hk1; omega
  have hz2b : z2 ≠ b := fun e => by rw [e] at hk2; omega
  refine own_ hw hR hI hr (by omega) (by omega) (by omega) hi0 (fun h => by rw [hz1] at h ⊢; exact (hX G hI.1 hb1 hbn hc1 (by omega) z1 hk1.1 (by omega) h).1) (fun h => by rw [hz1] at h ⊢; exact (hX G hI.1 hb1 hbn hc1 (by omega) z1 hk1.1 (by omega) h).2) (fun s1 G1 p hR1 hF1 hI1 hO1 => ?_)
  have hCo1 := Cp_ow (R := R) hb1 hbn hO1
  obtain ⟨o1, o2, o3, o4, o5, o6, o7, o8, o9, o10, o11, o12, o13⟩ := hO1
  rw [hz1] at o3 o9 o12 o13
  have hb1' : gw_ G1 b = 1 := by rw [o6]; exact hb1
  have hbn' : gl_ G1 b = n + 1 := by rw [o5]; exact hbn
  have hpn : gl_ G1 p = n := by omega
  have hl1 : (ge_ G1 b).length = (ge_ G b).length := by rw [o4, List.length_set]
  have hi1 : i + 1 < (ge_ G1 b).length := by omega
  have hip : ((ge_ G1 b).getD i (0, 0)).2 = p := by rw [o4]; exact sg_at hi0
  have hi2' : ((ge_ G1 b).getD (i + 1) (0, 0)).2 = z2 := by rw [o4, sg_ne hi0 (by omega)]; exact hz2
  -- c in the first step
  have hcz : z1 = c → p = c := fun e => by
    rcases o13 with h | h
    · rw [h, e]
    · rw [e] at h; omega
  have hc1' : gw_ G1 c = 1 ∧ ge_ G1 c = ge_ G c ∧ gl_ G1 c = n := by
    by_cases e : z1 = c
    · have := hcz e
      subst this
      exact ⟨o1, by rw [o3, e], hpn⟩
    · refine ⟨by rw [o9 c (by omega) (by omega) (fun h => e h.symm)]; exact hc1, (o7 c (by omega) hcb).1, by rw [(o7 c (by omega) hcb).2.1]; omega⟩
  obtain ⟨cw1, ce1, cn1⟩ := hc1'
  have hk2' := hI1.1.child (b := b) (by omega) (by omega) (by omega) (gd_mem hi1)
  rw [hi2'] at hk2'
  have hz2g : ge_ G1 z2 = ge_ G z2 := (o7 z2 hk2.1 hz2b).1
  have hpz : p ≠ z2 := fun e => by
    have h1 := uniq_ hI1.1 (p := b) (c := p) (by omega) (by omega) o1 (cn_mem (gd_mem (by omega)) hip)
    have h2 := cn2_ hi1 hip (by rw [hi2', e])
    omega
  rw [nI_1]
  refine own_ hw hR1 hI1 hr (by omega) (by omega) (by omega) hi1 (fun h => by rw [hi2'] at h ⊢; exact (hX G1 hI1.1 hb1' hbn' cw1 cn1 z2 hk2'.1 (by omega) h).1) (fun h => by rw [hi2'] at h ⊢; exact (hX G1 hI1.1 hb1' hbn' cw1 cn1 z2 hk2'.1 (by omega) h).2) (fun s2 G2 q hR2 hF2 hI2 hO2 => ?_)
  have hCo2 := Cp_ow (R := R) hb1' hbn' hO2
  obtain ⟨r1, r2, r3, r4, r5, r6, r7, r8, r9, r10, r11, r12, r13⟩ := hO2
  rw [hi2'] at r3 r9 r12 r13
  have hb12 : gw_ G2 b = 1 := by rw [r6]; exact hb1'
  have hbn2 : gl_ G2 b = n + 1 := by rw [r5]; exact hbn'
  have hpb : p ≠ b := fun e => by rw [e] at hpn; omega
  have hqn : gl_ G2 q = n := by omega
  have hl2 : (ge_ G2 b).length = (ge_ G b).length := by rw [r4, List.length_set, hl1]
  have hi22 : i + 1 < (ge_ G2 b).length := by omega
  have hp2 : ((ge_ G2 b).getD i (0, 0)).2 = p := by rw [r4, sg_ne hi1 (by omega)]; exact hip
  have hq2 : ((ge_ G2 b).getD (i + 1) (0, 0)).2 = q := by rw [r4]; exact sg_at hi1
  have hpw2 : gw_ G2 p = 1 := by rw [r9 p (by omega) (by omega) hpz]; exact o1
  have hpe2 : ge_ G2 p = ge_ G z1 := by rw [(r7 p (by omega) hpb).1]; exact o3
  have hqe2 : ge_ G2 q = ge_ G z2 := by rw [r3]; exact hz2g
  have hpq : p ≠ q := fun e => by
    have h1 := uniq_ hI2.1 (p := b) (c := p) (by omega) (by omega) hpw2 (cn_mem (gd_mem (by omega)) hp2)
    have h2 := cn2_ hi22 hp2 (by rw [hq2, e])
    omega
  have hcq : z2 = c → q = c := fun e => by
    rcases r13 with h | h
    · rw [h, e]
    · rw [e] at h; omega
  obtain ⟨p1, p2, p3⟩ := hI2.1.1 p (by omega)
  obtain ⟨q1, q2, q3⟩ := hI2.1.1 q (by omega)
  -- lengths
  have hlen : ((ge_ G2 p).length = (ge_ G c).length ∧ w / 2 ≤ (ge_ G2 q).length ∧ (ge_ G2 q).length + 1 ≤ w) ∨ ((ge_ G2 q).length = (ge_ G c).length ∧ w / 2 ≤ (ge_ G2 p).length ∧ (ge_ G2 p).length + 1 ≤ w) := by
    have hother : ∀ z, z ≠ c → z ≠ b → 1 ≤ gw_ G z → gl_ G z = n → (z ∉ [b, c] → w / 2 ≤ (ge_ G z).length) → w / 2 ≤ (ge_ G z).length ∧ (ge_ G z).length + 1 ≤ w := fun z h1 h2 h3 h4 h5 => by
      have hn : z ∉ [b, c] := by simp [h1, h2]
      exact ⟨h5 hn, ((hI.1.2.2.2 z h3 (by omega)).1 hn).2⟩
    have hzz : z1 ≠ z2 := fun e => by
      rcases hc with h | h
      · have h1 := uniq_ hI.1 (p := b) (c := c) (by omega) (by omega) hc1 (cn_mem (gd_mem hi0) (by rw [hz1]; exact h))
        have h2 := cn2_ (p := c) hi (by rw [hz1]; exact h) (by rw [hz2, ← e]; exact h)
        omega
      · have h1 := uniq_ hI.1 (p := b) (c := c) (by omega) (by omega) hc1 (cn_mem (gd_mem hi) (by rw [hz2]; exact h))
        have h2 := cn2_ (p := c) hi (by rw [hz1, e]; exact h) (by rw [hz2]; exact h)
        omega
    rcases hc with h | h
    · left
      rw [hpe2, hqe2, h]
      obtain ⟨x1, x2⟩ := hother z2 (fun e => hzz (by rw [h, e])) hz2b hk2.1 (by omega) hk2.2.2.1
      exact ⟨rfl, x1, x2⟩
    · right
      rw [hpe2, hqe2, h]
      obtain ⟨x1, x2⟩ := hother z1 (fun e => hzz (by rw [h, e])) hz1b hk1.1 (by omega) hk1.2.2.1
      exact ⟨rfl, x1, x2⟩
  have hI3 : In_ w [b, p, q] (n + 1) R a G2 := hI2.mono (fun y hy => by
    simp only [List.mem_cons, List.not_mem_nil, or_false] at hy ⊢
    rcases hy with h | h
    · exact Or.inl h
    · rcases hc with e | e
      · exact Or.inr (Or.inl (by rw [h, hcz e]))
      · exact Or.inr (Or.inr (by rw [h, hcq e])))
  have hCo := hCo1.tr hCo2
  have hetb : et_ (ge_ G2) (n + 1) b = et_ (ge_ G) (n + 1) b := by
    have h1 := r11 b (by omega) (by omega)
    have h2 := o11 b (by omega) (by omega)
    rw [hbn'] at h1
    rw [hbn] at h2
    rw [h1, h2]
  have hplw := (hR2.1 p p1 p2).2.2.2.1
  have hqlw := (hR2.1 q q1 q2).2.2.2.1
  refine p_size hR2 ⟨p1, p2⟩ (p_size hR2 ⟨q1, q2⟩ ?_)
  rw [nI_add]
  refine pk_lt (w - 1) ((ge_ G2 p).length + (ge_ G2 q).length) (fun hgt => ?_) (fun hle => ?_) rfl rfl (by omega) (by omega)
  · refine p_size hR2 ⟨p1, p2⟩ (p_size hR2 ⟨q1, q2⟩ ?_)
    refine pk_le (ge_ G2 q).length (ge_ G2 p).length (fun hqp => ?_) (fun hqp => ?_) rfl rfl (by omega) (by omega)
    · -- the last of p goes to the front of q
      refine p_size hR2 ⟨p1, p2⟩ ?_
      rw [nI_p (show 1 ≤ (ge_ G2 p).length by omega)]
      refine p_moveEntry (i := 0) hw hR2 ⟨p1, p2⟩ ⟨q1, q2⟩ hpq (by omega) (by omega) (by omega) (fun s3 hR3 hF3 => ?_)
      have hel := el_len (l := ge_ G2 p) (i := (ge_ G2 p).length - 1) (by omega)
      have hilq : (il_ (ge_ G2 q) 0 ((ge_ G2 p).getD ((ge_ G2 p).length - 1) (0, 0))) = (ge_ G2 p).getD ((ge_ G2 p).length - 1) (0, 0) :: ge_ G2 q := by
        show (ge_ G2 q).take 0 ++ _ :: (ge_ G2 q).drop 0 = _
        rfl
      rw [hilq] at hR3
      have hq3e : ge_ (se_ (se_ G2 q ((ge_ G2 p).getD ((ge_ G2 p).length - 1) (0, 0) :: ge_ G2 q)) p (el_ (ge_ G2 p) ((ge_ G2 p).length - 1))) q = (ge_ G2 p).getD ((ge_ G2 p).length - 1) (0, 0) :: ge_ G2 q := by
        rw [se_ne _ _ (Ne.symm hpq), se_at]
      have hb3e : ge_ (se_ (se_ G2 q ((ge_ G2 p).getD ((ge_ G2 p).length - 1) (0, 0) :: ge_ G2 q)) p (el_ (ge_ G2 p) ((ge_ G2 p).length - 1))) b = ge_ G2 b := by
        rw [se_ne _ _ (Ne.symm hpb), se_ne _ _ (fun e => by rw [← e] at hqn; omega)]
      have h0 : 0 < (ge_ (se_ (se_ G2 q ((ge_ G2 p).getD ((ge_ G2 p).length - 1) (0, 0) :: ge_ G2 q)) p (el_ (ge_ G2 p) ((ge_ G2 p).length - 1))) q).length := by rw [hq3e]; simp
      have hbd := hR3.bd h0
      refine p_key (i := 0) hw hR3 ⟨q1, q2⟩ h0 ?_
      rw [hq3e] at hbd ⊢
      refine p_setKey hw hR3 ⟨b1, b2⟩ (by rw [hb3e]; exact hi22) hbd.1 (fun s4 hR4 hF4 => ?_)
      rw [hb3e] at hR4
      obtain ⟨m1, m2, m3⟩ := redist_pure (a' := a + (if (ge_ G c).length ≤ 1 then 1 else 0)) (kq := (((ge_ G2 p).getD ((ge_ G2 p).length - 1) (0, 0) :: ge_ G2 q).getD 0 (0, 0)).1) (Lp := el_ (ge_ G2 p) ((ge_ G2 p).length - 1)) (Lq := (ge_ G2 p).getD ((ge_ G2 p).length - 1) (0, 0) :: ge_ G2 q) hw.1 hI3 hb12 hbn2 hi22 hp2 hq2 hpw2 r1 hpq (by
          conv => rhs; rw [spl_ (show (ge_ G2 p).length - 1 < (ge_ G2 p).length by omega)]
          show (ge_ G2 p).take _ ++ (ge_ G2 p).drop _ ++ _ = _
          rw [show (ge_ G2 p).length - 1 + 1 = (ge_ G2 p).length by omega, List.drop_length]
          simp) (by omega) (by omega) (by simp; omega) (by simp; omega) (by simp) (by
          rw [List.length_cons]
          split <;> omega)
      have hR5 : Rp_ w s4 (rd_ G2 b p q (el_ (ge_ G2 p) ((ge_ G2 p).length - 1)) ((ge_ G2 p).getD ((ge_ G2 p).length - 1) (0, 0) :: ge_ G2 q) (sk_ (ge_ G2 b) (i + 1) (((ge_ G2 p).getD ((ge_ G2 p).length - 1) (0, 0) :: ge_ G2 q).getD 0 (0, 0)).1)) := by
        refine hR4.eq (Sg_ext (fun _ => rfl) (fun _ => rfl) (fun x => ?_) rfl)
        by_cases x1 : x = b
        · subst x1; simp [va_up]
        · by_cases x2 : x = p
          · subst x2; simp [va_up, x1, hpq]
          · by_cases x3 : x = q
            · subst x3; simp [va_up, x1, x2]
            · simp [va_up, x1, x2, x3]
      have hbl : (ge_ (rd_ G2 b p q (el_ (ge_ G2 p) ((ge_ G2 p).length - 1)) ((ge_ G2 p).getD ((ge_ G2 p).length - 1) (0, 0) :: ge_ G2 q) (sk_ (ge_ G2 b) (i + 1) (((ge_ G2 p).getD ((ge_ G2 p).length - 1) (0, 0) :: ge_ G2 q).getD 0 (0, 0)).1)) b).length = (ge_ G b).length := by
        have : ge_ (rd_ G2 b p q (el_ (ge_ G2 p) ((ge_ G2 p).length - 1)) ((ge_ G2 p).getD ((ge_ G2 p).length - 1) (0, 0) :: ge_ G2 q) (sk_ (ge_ G2 b) (i + 1) (((ge_ G2 p).getD ((ge_ G2 p).length - 1) (0, 0) :: ge_ G2 q).getD 0 (0, 0)).1)) b = sk_ (ge_ G2 b) (i + 1) (((ge_ G2 p).getD ((ge_ G2 p).length - 1) (0, 0) :: ge_ G2 q).getD 0 (0, 0)).1 := by simp [ge_, rd_, va_up]
        rw [this, List.length_set, hl2]
      refine k s4 _ _ hR5 (((hF1.tr hF2).tr hF3).tr hF4) m1 ?_ (hCo.tr m2) (m3.trans hetb) (by rw [hbl]; omega) (by rw [hbl]; omega) (by rw [hbl]; omega)
      rw [hbl, if_neg (show ¬ (ge_ G b).length ≤ 1 by omega)]
      rfl
    · -- the first of q goes behind p
      refine p_size hR2 ⟨p1, p2⟩ ?_
      refine p_moveEntry (s := 0) hw hR2 ⟨q1, q2⟩ ⟨p1, p2⟩ (Ne.symm hpq) (by omega) (Nat.le_refl _) (by omega) (fun s3 hR3 hF3 => ?_)
      rw [il_end] at hR3
      have hel := el_len (l := ge_ G2 q) (i := 0) (by omega)
      have hq3e : ge_ (se_ (se_ G2 p (ge_ G2 p ++ [(ge_ G2 q).getD 0 (0, 0)])) q (el_ (ge_ G2 q) 0)) q = el_ (ge_ G2 q) 0 := se_at _ _ _
      have hb3e : ge_ (se_ (se_ G2 p (ge_ G2 p ++ [(ge_ G2 q).getD 0 (0, 0)])) q (el_ (ge_ G2 q) 0)) b = ge_ G2 b := by
        rw [se_ne _ _ (fun e => by rw [← e] at hqn; omega), se_ne _ _ (Ne.symm hpb)]
      have h0 : 0 < (ge_ (se_ (se_ G2 p (ge_ G2 p ++ [(ge_ G2 q).getD 0 (0, 0)])) q (el_ (ge_ G2 q) 0)) q).length := by rw [hq3e]; omega
      have hbd := hR3.bd h0
      refine p_key (i := 0) hw hR3 ⟨q1, q2⟩ h0 ?_
      rw [hq3e] at hbd ⊢
      refine p_setKey hw hR3 ⟨b1, b2⟩ (by rw [hb3e]; exact hi22) hbd.1 (fun s4 hR4 hF4 => ?_)
      rw [hb3e] at hR4
      obtain ⟨m1, m2, m3⟩ := redist_pure (a' := a + (if (ge_ G c).length ≤ 1 then 1 else 0)) (kq := ((el_ (ge_ G2 q) 0).getD 0 (0, 0)).1) (Lp := ge_ G2 p ++ [(ge_ G2 q).getD 0 (0, 0)]) (Lq := el_ (ge_ G2 q) 0) hw.1 hI3 hb12 hbn2 hi22 hp2 hq2 hpw2 r1 hpq (by
          conv => rhs; rw [spl_ (L := ge_ G2 q) (i := 0) (by omega)]
          show (ge_ G2 p ++ [(ge_ G2 q).getD 0 (0, 0)]) ++ ((ge_ G2 q).take 0 ++ (ge_ G2 q).drop (0 + 1)) = _
          simp) (by simp; omega) (by simp; omega) (by omega) (by omega) (gd_hd (by omega)) (by
          rw [List.length_append, List.length_singleton]
          split <;> omega)
      have hR5 : Rp_ w s4 (rd_ G2 b p q (ge_ G2 p ++ [(ge_ G2 q).getD 0 (0, 0)]) (el_ (ge_ G2 q) 0) (sk_ (ge_ G2 b) (i + 1) ((el_ (ge_ G2 q) 0).getD 0 (0, 0)).1)) := by
        refine hR4.eq (Sg_ext (fun _ => rfl) (fun _ => rfl) (fun x => ?_) rfl)
        by_cases x1 : x = b
        · subst x1; simp [va_up]
        · by_cases x2 : x = p
          · subst x2; simp [va_up, x1, hpq]
          · by_cases x3 : x = q
            · subst x3; simp [va_up, x1, x2]
            · simp [va_up, x1, x2, x3]
      have hbl : (ge_ (rd_ G2 b p q (ge_ G2 p ++ [(ge_ G2 q).getD 0 (0, 0)]) (el_ (ge_ G2 q) 0) (sk_ (ge_ G2 b) (i + 1) ((el_ (ge_ G2 q) 0).getD 0 (0, 0)).1)) b).length = (ge_ G b).length := by
        have : ge_ (rd_ G2 b p q (ge_ G2 p ++ [(ge_ G2 q).getD 0 (0, 0)]) (el_ (ge_ G2 q) 0) (sk_ (ge_ G2 b) (i + 1) ((el_ (ge_ G2 q) 0).getD 0 (0, 0)).1)) b = sk_ (ge_ G2 b) (i + 1) ((el_ (ge_ G2 q) 0).getD 0 (0, 0)).1 := by simp [ge_, rd_, va_up]
        rw [this, List.length_set, hl2]
      refine k s4 _ _ hR5 (((hF1.tr hF2).tr hF3).tr hF4) m1 ?_ (hCo.tr m2) (m3.trans hetb) (by rw [hbl]; omega) (by rw [hbl]; omega) (by rw [hbl]; omega)
      rw [hbl, if_neg (show ¬ (ge_ G b).length ≤ 1 by omega)]
      rfl
  · -- one block is enough
    refine p_moveTail (s := 0) hw hR2 ⟨q1, q2⟩ ⟨p1, p2⟩ (Ne.symm hpq) (by omega) (by omega) (fun s3 hR3 hF3 => ?_)
    rw [List.drop_zero, List.take_zero] at hR3
    have hgl : (gf_ G2).length < 1200 := gf_lt hI2.1 (b := b) (by omega)
    refine p_give hR3 (by show (gf_ G2).length < 1200; exact hgl) ⟨q1, q2⟩ (fun s4 hR4 hF4 => ?_)
    have hb4e : ge_ (gv_ (se_ (se_ G2 p (ge_ G2 p ++ ge_ G2 q)) q []) q) b = ge_ G2 b := by
      have hbq : b ≠ q := fun e => by rw [← e] at hqn; omega
      simp [ge_, gv_, se_, va_up, hbq, Ne.symm hpb]
    refine p_remove hw hR4 ⟨b1, b2⟩ (by rw [hb4e]; exact hi22) (fun s5 hR5 hF5 => ?_)
    rw [hb4e] at hR5
    have hel := el_len hi22
    obtain ⟨m1, m2, m3⟩ := merge_pure (a' := a + (if (ge_ G c).length ≤ 1 then 1 else 0) - (if (ge_ G b).length ≤ 2 then 1 else 0)) hw.1 hI3 hb12 hbn2 hi22 hp2 hq2 hpw2 r1 hpq (by omega) (by omega) (by
      rw [hl2]
      split <;> split <;> rename_i hx1 hx2 <;> (try rw [if_pos hx1] at ha1) <;> (try rw [if_neg hx1] at ha1) <;> omega)
    have hR6 : Rp_ w s5 (mg_ G2 b p q (ge_ G2 p ++ ge_ G2 q) (el_ (ge_ G2 b) (i + 1))) := by
      refine hR5.eq (Sg_ext (fun _ => rfl) (fun _ => rfl) (fun x => ?_) rfl)
      by_cases x1 : x = b
      · subst x1; simp [va_up]
      · by_cases x3 : x = q
        · subst x3; simp [va_up, x1]
        · by_cases x2 : x = p
          · subst x2; simp [va_up, x1, x3]
          · simp [va_up, x1, x2, x3]
    have hbl : (ge_ (mg_ G2 b p q (ge_ G2 p ++ ge_ G2 q) (el_ (ge_ G2 b) (i + 1))) b).length = (ge_ G b).length - 1 := by
      have : ge_ (mg_ G2 b p q (ge_ G2 p ++ ge_ G2 q) (el_ (ge_ G2 b) (i + 1))) b = el_ (ge_ G2 b) (i + 1) := by simp [ge_, mg_, va_up]
      rw [this]; omega
    refine k s5 _ _ hR6 ((((hF1.tr hF2).tr hF3).tr hF4).tr hF5) m1 ?_ (hCo.tr m2) (m3.trans hetb) (by rw [hbl]; omega) (by rw [hbl]; omega) (by rw [hbl]; omega)
    rw [hbl]
    by_cases h2 : (ge_ G b).length ≤ 2
    · rw [if_pos h2, if_pos (show (ge_ G b).length - 1 ≤ 1 by omega)]; omega
    · rw [if_neg h2, if_neg (show ¬ (ge_ G b).length - 1 ≤ 1 by omega)]; omega
end FW
end
section
-- PURE: Trees.removeBelow
section PRB
variable {w : Nat}
theorem lf_del {L : List (Nat × Nat)} {x j : Nat} (hs : so_ L) (hj : fk_ L x j) (h : ∃ t, (x, t) ∈ L) : 1 ≤ j ∧ el_ L (j - 1) = dz_ x L := by
  obtain ⟨t, ht⟩ := h
  have hj0 : ¬ (j = 0 ∨ (L.getD (j - 1) (0, 0)).1 ≠ x) := fun q => fk_no hs hj q t ht
  have h1 : 1 ≤ j := by
    rcases Nat.eq_zero_or_pos j with q | q
    · exact absurd (Or.inl q) hj0
    · exact q
  have hk : (L.getD (j - 1) (0, 0)).1 = x := by
    by_cases q : (L.getD (j - 1) (0, 0)).1 = x
    · exact q
    · exact absurd (Or.inr q) hj0
  have hji : j - 1 < L.length := by have := hj.1; omega
  refine ⟨h1, ?_⟩
  have h2 := hs
  rw [spl_ hji] at h2
  obtain ⟨s1, s2, s3⟩ := so_app.mp h2
  obtain ⟨s4, s5⟩ := so_cons.mp s2
  conv => rhs; rw [spl_ hji]
  have e2 : dz_ x (L.getD (j - 1) (0, 0) :: L.drop (j - 1 + 1)) = dz_ x (L.drop (j - 1 + 1)) := by
    simp only [dz_]
    rw [List.filter_cons_of_neg (by rw [hk]; simp)]
  rw [dz_app, e2, dz_no (fun u hu => by
    have := s3 _ hu _ List.mem_cons_self
    rw [hk] at this
    simp at this), dz_no (fun u hu => by
    have := s4 _ hu
    rw [hk] at this
    simp at this)]
theorem p_removeBelow {x : Nat} (hw : 5 ≤ w ∧ w ≤ 32) (hx : x < 4096) {R : Nat → Nat} (hr : ∀ y, R y ≤ 1000) :
    ∀ (n d b a : Nat) (G : Sg_) (st : St_) (post : St_ → Prop), n < d → Rp_ w st G → In_ w [b] n R a G → gw_ G b = 1 → gl_ G b = n → (n ≠ 0 → 2 ≤ (ge_ G b).length) → (∃ t, (x, t) ∈ et_ (ge_ G) n b) →
    (∀ st' G' a', Rp_ w st' G' → Fr_ st st' → In_ w [b] n R a' G' → a' + (if (ge_ G' b).length ≤ 1 then 1 else 0) = a + 1 → Cp_ n R G G' b → et_ (ge_ G') n b = dz_ x (et_ (ge_ G) n b) → (ge_ G b).length ≤ (ge_ G' b).length + 1 → (n ≠ 0 → 1 ≤ (ge_ G' b).length) → (ge_ G' b).length ≤ (ge_ G b).length → post st') →
    wp_T_removeBelow w d (nI b) (nI n) (nI x) st post := by
  intro n
  induction n with
  | zero =>
    intro d b a G st post hd hR hI hb1 hb0 _ hex k
    obtain ⟨d, rfl⟩ : ∃ q, d = q + 1 := ⟨d - 1, by omega⟩
    obtain ⟨b1, b2, b3⟩ := hI.1.1 b (by omega)
    have hso : so_ (ge_ G b) := by
      have := (hI.1.2.2.2 b (by omega) (by omega)).2.1
      rw [hb0] at this
      exact this
    show (_ → _) ∧ (_ → _)
    refine br_t (by decide) (br_f (by decide) ?_)
    refine p_slotOf hw hR ⟨b1, b2⟩ hx (fun j hj => ?_)
    obtain ⟨j1, hdz⟩ := lf_del hso hj hex
    have hji : j - 1 < (ge_ G b).length := by have := hj.1; omega
    have hel := el_len hji
    rw [nI_p j1]
    refine p_remove hw hR ⟨b1, b2⟩ hji (fun s1 hR1 hF1 => ?_)
    rw [hdz] at hR1 hel
    obtain ⟨q1, q2⟩ := leaf_In (a' := a + 1 - (if (dz_ x (ge_ G b)).length ≤ 1 then 1 else 0)) (L := dz_ x (ge_ G b)) hI hb1 hb0 (dz_so hso) (by split <;> omega)
    refine k s1 (se_ G b (dz_ x (ge_ G b))) _ hR1 hF1 q1 ?_ q2 ?_ ?_ ?_ ?_
    · rw [se_at]
      split <;> omega
    · exact se_at _ _ _
    · rw [se_at]; omega
    · intro h; exact absurd rfl h
    · rw [se_at]; omega
  | succ n ih =>
    intro d b a G st post hd hR hI hb1 hbn hne hex k
    obtain ⟨d, rfl⟩ : ∃ q, d = q + 1 := ⟨d - 1, by omega⟩
    obtain ⟨b1, b2, b3⟩ := hI.1.1 b (by omega)
    have hne := hne (by omega)
    show (_ → _) ∧ (_ → _)
    refine br_t (nI_le (b := 16) (by omega) (by omega)) (br_t (nI_lt (a := 0) (by omega) (by omega)) ?_)
    refine p_slotToward hw hR ⟨b1, b2⟩ hx (fun j hj => ?_)
    obtain ⟨hi, -, -⟩ := loc_ hw.1 hI.1 (by omega) (by omega) hbn (by omega) hj
    have hch0 := hI.1.child (b := b) (by omega) (by omega) (by omega) (gd_mem hi)
    have hb0 : ((ge_ G b).getD (j - 1) (0, 0)).2 ∉ [b] := by
      intro q
      rw [List.mem_singleton] at q
      rw [q] at hch0; omega
    refine own_ hw hR hI hr (by omega) (by omega) (by omega) hi (fun _ => hb0) (fun _ h0 e he => ?_) (fun s1 G1 c hR1 hF1 hI1 hO => ?_)
    · have hq := hI.1.child hch0.1 (by omega) h0 he
      intro q
      rw [List.mem_singleton] at q
      rw [q] at hq; omega
    have hCo := Cp_ow (R := R) hb1 hbn hO
    obtain ⟨o1, o2, o3, o4, o5, o6, o7, o8, o9, o10, o11, o12, o13⟩ := hO
    have hcn : gl_ G1 c = n := by omega
    have hbn1 : gl_ G1 b = n + 1 := by rw [o5]; exact hbn
    have hbw1 : gw_ G1 b = 1 := by rw [o6]; exact hb1
    have hl1 : (ge_ G1 b).length = (ge_ G b).length := by rw [o4, List.length_set]
    have hi1 : j - 1 < (ge_ G1 b).length := by omega
    have hc : ((ge_ G1 b).getD (j - 1) (0, 0)).2 = c := by
      rw [o4, getD_set hi]; simp
    have hj1 : fk_ (ge_ G1 b) x j := by rw [o4]; exact fk_sg hi hj
    obtain ⟨-, hA, hB⟩ := loc_ hw.1 hI1.1 (by omega) (by omega) hbn1 (by omega) hj1
    have hm1 := et_mid (E := ge_ G1) (n := n) hi1
    rw [hc] at hm1
    have hetb : et_ (ge_ G1) (n + 1) b = et_ (ge_ G) (n + 1) b := by
      have := o11 b (by omega) (by omega)
      rw [hbn] at this
      exact this
    have hnA : ∀ u, (x, u) ∉ fm_ (ge_ G1) n ((ge_ G1 b).take (j - 1)) := fun u hu => by have := hA _ hu; simp at this
    have hnB : ∀ u, (x, u) ∉ fm_ (ge_ G1) n ((ge_ G1 b).drop (j - 1 + 1)) := fun u hu => by have := hB _ hu; simp at this
    have hdz : dz_ x (et_ (ge_ G) (n + 1) b) = fm_ (ge_ G1) n ((ge_ G1 b).take (j - 1)) ++ (dz_ x (et_ (ge_ G1) n c) ++ fm_ (ge_ G1) n ((ge_ G1 b).drop (j - 1 + 1))) := by
      rw [← hetb, hm1, dz_app, dz_app, dz_no hnA, dz_no hnB]
    have hexc : ∃ t, (x, t) ∈ et_ (ge_ G1) n c := by
      obtain ⟨t, ht⟩ := hex
      rw [← hetb, hm1] at ht
      rcases List.mem_append.mp ht with h | h
      · exact absurd h (hnA t)
      · rcases List.mem_append.mp h with h | h
        · exact ⟨t, h⟩
        · exact absurd h (hnB t)
    have hcX : c ∉ [b] := by
      intro q
      rw [List.mem_singleton] at q
      rw [q] at hcn; omega
    have hcv := (hI1.1.2.2.2 c (by omega) (by omega)).1 hcX
    have hlow := (hI1.low.nob (by omega)).mono (Y := [c]) (fun y h => by simp at h)
    have hw2c : w / 2 ≤ (ge_ G1 c).length := by
      have := (hI1.1.child (b := b) (by omega) (by omega) (by omega) (gd_mem hi1)).2.2.1
      rw [hc] at this
      exact this hcX
    rw [show nI (n + 1) - 1 = nI n from nI_pred n]
    refine ih d c (a + TL_ (n + 1) G1) G1 s1 _ (by omega) hR1 hlow o1 hcn (fun _ => by omega) hexc (fun s2 G2 a2 hR2 hF2 hI2 ha2 hC2 het2 hlc _ hlu => ?_)
    have hl1c : 1 ≤ (ge_ G2 c).length := by omega
    obtain ⟨c1, c2, c3⟩ := hI2.1.1 c (by have := hC2.1; omega)
    have hkb := hR2.bd (b := c) (i := 0) (by omega)
    refine p_key (i := 0) hw hR2 ⟨c1, c2⟩ (by omega) ?_
    have hcbne : c ≠ b := fun q => hcX (by rw [q]; exact List.mem_singleton.mpr rfl)
    have hra := raise_ (a2 := a + 1 - (if (ge_ G2 c).length ≤ 1 then 1 else 0)) (k0 := ((ge_ G2 c).getD 0 (0, 0)).1) hw.1 hI1 hbw1 hbn1 hi1 hc o1 hC2 (hI2.less (by split at ha2 <;> split <;> omega)) (gd_hd hl1c) (by
      rw [het2, ← hdz]
      refine dz_so ?_
      have := (hI.1.2.2.2 b (by omega) (by omega)).2.1
      rw [hbn] at this
      exact this)
    obtain ⟨r1, r2, r3, r4, r5, r6⟩ := hra
    have hi2 : j - 1 < (ge_ G2 b).length := by rw [r4]; exact hi1
    refine p_setKey hw hR2 ⟨b1, b2⟩ hi2 hkb.1 (fun s3 hR3 hF3 => ?_)
    have hcs : ge_ (se_ G2 b (sk_ (ge_ G2 b) (j - 1) ((ge_ G2 c).getD 0 (0, 0)).1)) c = ge_ G2 c := se_ne _ _ hcbne
    have hbs : (ge_ (se_ G2 b (sk_ (ge_ G2 b) (j - 1) ((ge_ G2 c).getD 0 (0, 0)).1)) b).length = (ge_ G b).length := by
      rw [se_at, List.length_set, r4, hl1]
    have hclw := (hR2.1 c c1 c2).2.2.2.1
    refine p_size hR3 ⟨c1, c2⟩ ?_
    rw [hcs]
    have het3 : et_ (ge_ (se_ G2 b (sk_ (ge_ G2 b) (j - 1) ((ge_ G2 c).getD 0 (0, 0)).1))) (n + 1) b = dz_ x (et_ (ge_ G) (n + 1) b) := by
      rw [r3, het2, ← hdz]
    refine pk_le (w / 2) (ge_ G2 c).length (fun hle => ?_) (fun hgt => ?_) rfl rfl (by omega) (by omega)
    · refine k s3 _ _ hR3 ((hF1.tr hF2).tr hF3) (r1.fit (by rw [hcs]; omega) (by rw [hcs]; omega) (by rw [hcs]; omega)) ?_ (hCo.tr r2) het3 (by rw [hbs]; omega) (fun _ => by rw [hbs]; omega) (by rw [hbs]; exact Nat.le_refl _)
      rw [hbs, if_neg (show ¬ (ge_ G b).length ≤ 1 by omega), if_neg (show ¬ (ge_ G2 c).length ≤ 1 by omega)]
      omega
    · have hcw3 : gw_ (se_ G2 b (sk_ (ge_ G2 b) (j - 1) ((ge_ G2 c).getD 0 (0, 0)).1)) c = 1 := hC2.1
      have hc3 : ((ge_ (se_ G2 b (sk_ (ge_ G2 b) (j - 1) ((ge_ G2 c).getD 0 (0, 0)).1)) b).getD (j - 1) (0, 0)).2 = c := by
        rw [se_at, getD_set hi2]
        simp only [if_true]
        rw [r4]; exact hc
      have hblw := (hR2.1 b b1 b2).2.2.2.1
      rw [st_ofj (j - 1) (by omega)]
      refine p_fill hw hR3 r1 hr r2.1 r2.2.1 (by rw [hbs]; omega) ?_ hcw3 (by rw [hcs]; omega) ?_ (fun s4 G4 a4 hR4 hF4 hI4 ha4 hC4 het4 hlo4 hl14 hhi4 => ?_)
      · by_cases h0 : j - 1 = 0
        · left
          rw [h0] at hc3 ⊢
          exact hc3
        · right
          rw [show j - 1 - 1 + 1 = j - 1 by omega]
          exact hc3
      · rw [hcs]; split <;> omega
      · rw [hbs] at hlo4 hhi4
        refine k s4 _ a4 hR4 (((hF1.tr hF2).tr hF3).tr hF4) hI4 ?_ ((hCo.tr r2).tr hC4) (het4.trans het3) hlo4 (fun _ => hl14) hhi4
        rw [hcs] at ha4
        rw [ha4]
        split <;> omega
end PRB
end
section
-- PURE: there are blocks enough; what holds up to a level holds above it, too
theorem sm_pos {n : Nat} {f : Nat → Nat} (h : 1 ≤ sm_ n f) : ∃ i, i < n ∧ 1 ≤ f i := by
  induction n with
  | zero => simp [sm_] at h
  | succ n ih =>
    have h' : 1 ≤ sm_ n f + f n := h
    by_cases h1 : 1 ≤ f n
    · exact ⟨n, by omega, h1⟩
    · obtain ⟨i, h2, h3⟩ := ih (by omega)
      exact ⟨i, by omega, h3⟩
theorem sm_shift (n : Nat) (f : Nat → Nat) : sm_ (n + 1) f = f 0 + sm_ n (fun i => f (i + 1)) := by
  induction n with
  | zero => simp [sm_]
  | succ n ih =>
    show sm_ (n + 1) f + f (n + 1) = f 0 + (sm_ n (fun i => f (i + 1)) + f (n + 1))
    rw [ih]; omega
section CP
variable {w : Nat} {R : Nat → Nat} {G : Sg_}
theorem eg_kid (hI : Ic_ w [] 16 R [] G) {y : Nat} (h : 1 ≤ eg_ G y) : 1 ≤ gw_ G y ∧ w / 2 ≤ (ge_ G y).length := by
  obtain ⟨p, -, hp⟩ := sm_pos h
  by_cases hu : gw_ G p = 0 ∨ gl_ G p = 0
  · simp [hu] at hp
  · simp only [hu, if_false] at hp
    obtain ⟨e, he, hy⟩ := cn_pos hp
    obtain ⟨g1, g2, g3, g4⟩ := hI.child (b := p) (by omega) ((hI.1 p (by omega)).2.2) (by omega) he
    rw [hy] at g1 g3
    exact ⟨g1, g3 (by simp)⟩
theorem fr_cnt (hI : Ic_ w [] 16 R [] G) : (gf_ G).length + sm_ 1201 (fun y => if gw_ G y = 0 then 0 else 1) = 1200 := by
  have h1 := nd_len (fun y => gw_ G y = 0) 1200 (gf_ G) hI.2.1.1 (fun y => ⟨fun h => hI.2.1.2.1 y h, fun h => by
    rcases hI.2.1.2.2 y h.1 h.2.1 h.2.2 with q | q
    · exact q
    · simp at q⟩)
  have h0 : gw_ G 0 = 0 := by
    rcases Nat.eq_zero_or_pos (gw_ G 0) with h | h
    · exact h
    · have := (hI.1 0 h).1; omega
  rw [sm_shift 1200 (fun y => if gw_ G y = 0 then 0 else 1), h1]
  simp only [h0, if_true]
  have h2 : sm_ 1200 (fun i => (if gw_ G (i + 1) = 0 then 1 else 0) + (if gw_ G (i + 1) = 0 then 0 else 1)) = 1200 := (sm_congr (g := fun _ => 1) (fun i _ => by split <;> rfl)).trans (sm_c1 1200)
  rw [sm_add] at h2
  omega
theorem cap_sum (hw : 5 ≤ w) (hI : Ic_ w [] 16 R [] G) (hrt : ∀ b, 1 ≤ b → 1 ≤ R b → gl_ G b = 0 ∨ 2 ≤ (ge_ G b).length) :
    sm_ 1201 (fun y => if gw_ G y = 0 then 0 else 1) + SL_ 16 G + sm_ 1201 (fun y => if y = 0 ∨ (ge_ G y).length < 2 then 0 else R y) ≤ sm_ 1201 (fun y => if y = 0 then 0 else R y * kp_ G y) := by
  have hsw : sm_ 1201 (fun y => eg_ G y * (kp_ G y - 1)) = sm_ 1201 (fun p => if gw_ G p = 0 ∨ gl_ G p = 0 then 0 else su_ (fun y => kp_ G y - 1) (ge_ G p)) := by
    have h1 : sm_ 1201 (fun y => eg_ G y * (kp_ G y - 1)) = sm_ 1201 (fun y => sm_ 1201 (fun p => (if gw_ G p = 0 ∨ gl_ G p = 0 then 0 else cn_ y (ge_ G p)) * (kp_ G y - 1))) := sm_congr (fun y _ => (sm_mul 1201 (kp_ G y - 1) _).symm)
    rw [h1, sm_swap]
    refine sm_congr (fun p _ => ?_)
    by_cases hu : gw_ G p = 0 ∨ gl_ G p = 0
    · simp only [hu, if_true]
      exact sm_0 (fun _ _ => by simp)
    · simp only [hu, if_false]
      refine sm_cn (fun y => kp_ G y - 1) (fun e he => ?_)
      have := hI.child (b := p) (by omega) ((hI.1 p (by omega)).2.2) (by omega) he
      have := (hI.1 e.2 this.1).2.1
      omega
  have hle : sm_ 1201 (fun y => ((((if gw_ G y = 0 then 0 else 1) + (if gw_ G y = 0 ∨ 16 < gl_ G y then 0 else sl_ G y)) + (if y = 0 ∨ (ge_ G y).length < 2 then 0 else R y)) + (if gw_ G y = 0 ∨ gl_ G y = 0 then 0 else su_ (fun y => kp_ G y - 1) (ge_ G y)))) ≤ sm_ 1201 (fun y => (if y = 0 then 0 else R y * kp_ G y) + eg_ G y * (kp_ G y - 1)) := by
    refine sm_le (fun y _ => ?_)
    by_cases hy0 : y = 0
    · subst hy0
      have h0 : gw_ G 0 = 0 := by
        rcases Nat.eq_zero_or_pos (gw_ G 0) with h | h
        · exact h
        · have := (hI.1 0 h).1; omega
      simp [h0]
    · have hc := hI.2.2.1 y (by omega)
      by_cases hu : gw_ G y = 0
      · have : R y = 0 := by omega
        simp [hu, this]
      · have hyu := hI.1 y (by omega)
        have hv := hI.2.2.2 y (by omega) hyu.2.2
        have hl1 := (hv.1 (by simp)).1
        have hkl := kp_len hw hI (gl_ G y) y (by omega) rfl hyu.2.2
        have hkl' : (ge_ G y).length ≤ kp_ G y := hkl
        simp only [hu, hy0, false_or, if_false, show ¬ 16 < gl_ G y by omega]
        have hexp : R y * kp_ G y + eg_ G y * (kp_ G y - 1) = gw_ G y * (kp_ G y - 1) + R y := by
          obtain ⟨v, hv2⟩ : ∃ v, kp_ G y = v + 1 := ⟨kp_ G y - 1, by omega⟩
          rw [hv2, hc, Nat.add_sub_cancel, Nat.add_mul, Nat.mul_add]
          omega
        have hw1 : gw_ G y * (kp_ G y - 1) = (gw_ G y - 1) * (kp_ G y - 1) + (kp_ G y - 1) := by
          obtain ⟨v, hv2⟩ : ∃ v, gw_ G y = v + 1 := ⟨gw_ G y - 1, by omega⟩
          rw [hv2, Nat.add_mul]; simp
        by_cases hlt : (ge_ G y).length < 2
        · have heg : eg_ G y = 0 := by
            rcases Nat.eq_zero_or_pos (eg_ G y) with h | h
            · exact h
            · have := (eg_kid hI h).2; omega
          have hgl : gl_ G y = 0 := by
            rcases hrt y (by omega) (by omega) with h | h
            · exact h
            · omega
          have hk1 : kp_ G y = 1 := by
            show (et_ (ge_ G) (gl_ G y) y).length = 1
            rw [hgl]
            show (ge_ G y).length = 1
            omega
          have hsl : sl_ G y = gw_ G y - 1 := by
            show (gw_ G y - 1) * max (kp_ G y - 1) 1 + ((ge_ G y).length - 2) = _
            rw [hk1, show (ge_ G y).length - 2 = 0 by omega]; simp
          rw [hsl, hk1, heg, hgl]
          simp only [hlt, if_true]
          simp
          omega
        · simp only [hlt, if_false]
          have hsl : sl_ G y = (gw_ G y - 1) * (kp_ G y - 1) + ((ge_ G y).length - 2) := by
            show (gw_ G y - 1) * max (kp_ G y - 1) 1 + ((ge_ G y).length - 2) = _
            rw [show max (kp_ G y - 1) 1 = kp_ G y - 1 by omega]
          rw [hexp, hw1, hsl]
          by_cases hgl : gl_ G y = 0
          · have hk1 : kp_ G y = (ge_ G y).length := by
              show (et_ (ge_ G) (gl_ G y) y).length = _
              rw [hgl]; rfl
            simp only [hgl, if_true]
            omega
          · simp only [hgl, if_false]
            obtain ⟨n, hn⟩ : ∃ n, gl_ G y = n + 1 := ⟨gl_ G y - 1, by omega⟩
            have h3 : su_ (fun y => kp_ G y - 1) (ge_ G y) + (ge_ G y).length = kp_ G y := by
              show _ = (et_ (ge_ G) (gl_ G y) y).length
              rw [hn, et_succ, fm_su, ← su_1, ← su_add]
              refine su_congr (fun e he => ?_)
              obtain ⟨g1, g2, -, -⟩ := hI.child (by omega) hyu.2.2 hgl he
              have h5 := kp_one hw hI (by omega) hyu.2.2 hn he
              show (et_ (ge_ G) (gl_ G e.2) e.2).length - 1 + 1 = _
              rw [show gl_ G e.2 = n by omega]
              omega
            omega
  rw [sm_add, sm_add, sm_add, sm_add, hsw] at hle
  have e1 : SL_ 16 G = sm_ 1201 (fun y => if gw_ G y = 0 ∨ 16 < gl_ G y then 0 else sl_ G y) := rfl
  rw [← e1] at hle
  omega
theorem cap_ {T a : Nat} (hw : 5 ≤ w) (hI : Ic_ w [] 16 R [] G) (hrt : ∀ b, 1 ≤ b → 1 ≤ R b → gl_ G b = 0 ∨ 2 ≤ (ge_ G b).length) (hT : sm_ 1201 (fun y => if y = 0 then 0 else R y * kp_ G y) ≤ T) (ha : a + T ≤ 1200) : In_ w [] 16 R a G := by
  refine ⟨hI, ?_⟩
  have h1 := cap_sum hw hI hrt
  have h2 := fr_cnt hI
  omega
theorem cap_1 {T a r : Nat} (hw : 5 ≤ w) (hI : Ic_ w [] 16 R [] G) (hrt : ∀ b, 1 ≤ b → 1 ≤ R b → gl_ G b = 0 ∨ 2 ≤ (ge_ G b).length) (hT : sm_ 1201 (fun y => if y = 0 then 0 else R y * kp_ G y) ≤ T) (ha : a + T ≤ 1200) (hr : 1 ≤ R r) (hr1 : 1 ≤ r) (hr2 : 2 ≤ (ge_ G r).length) : In_ w [] 16 R (a + 1) G := by
  refine ⟨hI, ?_⟩
  have h1 := cap_sum hw hI hrt
  have h2 := fr_cnt hI
  have hc := hI.2.2.1 r hr1
  have hru := hI.1 r (by omega)
  have h3 := sm_one (n := 1201) (k := r) (fun y => if y = 0 ∨ (ge_ G y).length < 2 then 0 else R y) (by omega)
  simp only [show ¬ (r = 0 ∨ (ge_ G r).length < 2) by omega, if_false] at h3
  omega
end CP
def TH_ (n : Nat) (G : Sg_) : Nat := sm_ 1201 (fun y => if gw_ G y = 0 ∨ gl_ G y ≤ n then 0 else sl_ G y)
section UP
variable {w n a : Nat} {R : Nat → Nat}
theorem SL_TH {X : List Nat} {l : Nat} {Z : List Nat} {G : Sg_} (hI : Ic_ w X l R Z G) (hn : n ≤ 16) : SL_ 16 G = SL_ n G + TH_ n G := by
  simp only [SL_, TH_]
  rw [← sm_add]
  refine sm_congr (fun y _ => ?_)
  by_cases h0 : gw_ G y = 0
  · simp [h0]
  · have := (hI.1 y (by omega)).2.2
    by_cases h1 : gl_ G y ≤ n
    · simp only [h0, h1, false_or, show ¬ 16 < gl_ G y by omega, show ¬ n < gl_ G y by omega, if_false, if_true, Nat.add_zero]
    · simp only [h0, h1, false_or, show ¬ 16 < gl_ G y by omega, show n < gl_ G y by omega, if_false, if_true, Nat.zero_add]
theorem In_.down {X : List Nat} {G : Sg_} (hn : n ≤ 16) (hI : In_ w X 16 R a G) : In_ w X n R (a + TH_ n G) G := by
  obtain ⟨⟨h1, h2, h3, h4⟩, h5⟩ := hI
  have h6 := SL_TH (n := n) ⟨h1, h2, h3, h4⟩ hn
  exact ⟨⟨h1, h2, h3, fun b hb hl => h4 b hb (by omega)⟩, by omega⟩
theorem up_et {G1 G2 : Sg_} {t : Nat} {X : List Nat} (h1 : Ic_ w X 16 R [] G1) (ht : gw_ G1 t = 1) (hRt : R t = 1) (hC : Cp_ n R G1 G2 t) : ∀ (m y : Nat), 1 ≤ gw_ G1 y → y ≠ t → gl_ G1 y = m → (n ≤ m ∨ 1 ≤ R y) → et_ (ge_ G2) m y = et_ (ge_ G1) m y := by
  obtain ⟨cw, cl, F1, F2, F3⟩ := hC
  have ht1 := h1.1 t (by omega)
  have hc := h1.2.2.1 t ht1.1
  have hno : ∀ y, 1 ≤ gw_ G1 y → gl_ G1 y ≠ 0 → ∀ e ∈ ge_ G1 y, e.2 ≠ t := fun y y1 y2 e he q => by
    have h2 := cn_mem he q
    have h3 := sm_one (n := 1201) (k := y) (fun p => if gw_ G1 p = 0 ∨ gl_ G1 p = 0 then 0 else cn_ t (ge_ G1 p)) (by have := (h1.1 y y1).2.1; omega)
    simp only [show ¬ (gw_ G1 y = 0 ∨ gl_ G1 y = 0) by omega, if_false] at h3
    have h4 : eg_ G1 t = sm_ 1201 (fun p => if gw_ G1 p = 0 ∨ gl_ G1 p = 0 then 0 else cn_ t (ge_ G1 p)) := rfl
    omega
  intro m
  induction m with
  | zero =>
    intro y y1 y2 y3 y4
    exact (F1 y y1 y2 (by omega)).1
  | succ m ih =>
    intro y y1 y2 y3 y4
    obtain ⟨r1, r2, r3, r4⟩ := F1 y y1 y2 (by omega)
    by_cases hm : m + 1 ≤ n
    · have := r4 (by omega)
      rw [y3] at this
      exact this
    · rw [et_succ, et_succ, r1]
      refine fm_congr (fun e he => ?_)
      obtain ⟨g1, g2, -, -⟩ := h1.child y1 ((h1.1 y y1).2.2) (by omega) he
      exact ih e.2 g1 (hno y y1 (by omega) e he) (by omega) (Or.inl (by omega))
theorem up_Ic {G1 G2 : Sg_} {t : Nat} {X : List Nat} (hX : ∀ z ∈ X, z = t ∨ gl_ G1 z < n) (h1 : Ic_ w X 16 R [] G1) (ht : gw_ G1 t = 1) (hRt : R t = 1) (hC : Cp_ n R G1 G2 t) (h2 : Ic_ w [t] n R [] G2) : Ic_ w [t] 16 R [] G2 := by
  have het := up_et h1 ht hRt hC
  obtain ⟨cw, cl, F1, F2, F3⟩ := hC
  have ht1 := h1.1 t (by omega)
  have hc := h1.2.2.1 t ht1.1
  have hno : ∀ y, 1 ≤ gw_ G1 y → gl_ G1 y ≠ 0 → ∀ e ∈ ge_ G1 y, e.2 ≠ t := fun y y1 y2 e he q => by
    have h2 := cn_mem he q
    have h3 := sm_one (n := 1201) (k := y) (fun p => if gw_ G1 p = 0 ∨ gl_ G1 p = 0 then 0 else cn_ t (ge_ G1 p)) (by have := (h1.1 y y1).2.1; omega)
    simp only [show ¬ (gw_ G1 y = 0 ∨ gl_ G1 y = 0) by omega, if_false] at h3
    have h4 : eg_ G1 t = sm_ 1201 (fun p => if gw_ G1 p = 0 ∨ gl_ G1 p = 0 then 0 else cn_ t (ge_ G1 p)) := rfl
    omega
  refine ⟨h2.1, h2.2.1, h2.2.2.1, fun y hy _ => ?_⟩
  by_cases hyn : gl_ G2 y ≤ n
  · exact h2.2.2.2 y hy hyn
  · obtain ⟨f1, f2⟩ := F3 y hy (by omega)
    have hyt : y ≠ t := fun q => by rw [q] at hyn; omega
    obtain ⟨r1, r2, r3, -⟩ := F1 y f1 hyt (Or.inl (by omega))
    have hv := h1.2.2.2 y f1 ((h1.1 y f1).2.2)
    refine ⟨fun hx => by
      rw [r1]
      refine hv.1 (fun q => ?_)
      rcases hX y q with h | h
      · exact hyt h
      · omega, ?_, fun h0 e he => ?_⟩
    · rw [r2, het _ y f1 hyt rfl (Or.inl (by omega))]; exact hv.2.1
    · rw [r1] at he
      obtain ⟨s1, s2, s3, s4⟩ := hv.2.2 (by omega) e he
      have hne := hno y f1 (by omega) e he
      obtain ⟨q1, q2, q3, -⟩ := F1 e.2 s1 hne (Or.inl (by omega))
      rw [q1, q2, r2]
      refine ⟨q3, s2, fun _ => s3 (fun q => ?_), s4⟩
      rcases hX e.2 q with h | h
      · exact hne h
      · omega
theorem up_In {G1 G2 : Sg_} {t : Nat} {X : List Nat} (hX : ∀ z ∈ X, z = t ∨ gl_ G1 z < n) (hn : n ≤ 16) (h1 : Ic_ w X 16 R [] G1) (ht : gw_ G1 t = 1) (hRt : R t = 1) (htn : gl_ G1 t = n) (hC : Cp_ n R G1 G2 t) (h2 : In_ w [t] n R (a + TH_ n G1) G2) : In_ w [t] 16 R a G2 := by
  have hI := up_Ic hX h1 ht hRt hC h2.1
  refine ⟨hI, ?_⟩
  have h3 := SL_TH (n := n) hI hn
  have het := up_et h1 ht hRt hC
  obtain ⟨cw, cl, F1, F2, F3⟩ := hC
  have h4 : TH_ n G2 = TH_ n G1 := by
    refine sm_congr (fun y _ => ?_)
    by_cases hu : gw_ G1 y = 0 ∨ gl_ G1 y ≤ n
    · have hu2 : gw_ G2 y = 0 ∨ gl_ G2 y ≤ n := by
        by_cases h : gw_ G2 y = 0
        · exact Or.inl h
        · refine Or.inr ?_
          rcases Nat.lt_or_ge n (gl_ G2 y) with q | q
          · obtain ⟨f1, f2⟩ := F3 y (by omega) (by omega)
            omega
          · exact q
      simp only [hu, hu2, if_true]
    · have hyt : y ≠ t := fun q => by rw [q] at hu; omega
      obtain ⟨r1, r2, r3, -⟩ := F1 y (by omega) hyt (Or.inl (by omega))
      have hw2 := F2 y hyt (by omega) (by omega)
      have hu2 : ¬ (gw_ G2 y = 0 ∨ gl_ G2 y ≤ n) := by omega
      simp only [hu, hu2, if_false]
      show (gw_ G2 y - 1) * max ((et_ (ge_ G2) (gl_ G2 y) y).length - 1) 1 + ((ge_ G2 y).length - 2) = (gw_ G1 y - 1) * max ((et_ (ge_ G1) (gl_ G1 y) y).length - 1) 1 + ((ge_ G1 y).length - 2)
      rw [hw2, r1, r2, het _ y (by omega) hyt rfl (Or.inl (by omega))]
  have h5 := h2.2
  omega
end UP
end
section
-- PURE: Trees.with
abbrev rt_ (R : Nat → Nat) (r : Nat) : Nat → Nat := fun y => R y + (if y = r then 1 else 0)
/-- what a root holds -/
def tr_ (G : Sg_) (r : Nat) : List (Nat × Nat) := if r = 0 then [] else et_ (ge_ G) (gl_ G r) r
theorem tr_1 {G : Sg_} {r : Nat} (h : 1 ≤ r) : tr_ G r = et_ (ge_ G) (gl_ G r) r := if_neg (by omega)
section WI
variable {w a : Nat} {Rm : Nat → Nat} {G : Sg_} {st : St_}
theorem p_ownroot {b : Nat} {post : Int32 → St_ → Prop} (hw : 5 ≤ w ∧ w ≤ 32) (hR : Rp_ w st G) (hI : In_ w [] 16 (rt_ Rm b) a G) (hr : ∀ y, Rm y ≤ 900) (hb : 1 ≤ b) (h2 : gl_ G b = 0 ∨ 2 ≤ (ge_ G b).length)
    (k : ∀ st' G1 t, Rp_ w st' G1 → Fr_ st st' → In_ w [] 16 (rt_ Rm t) a G1 → gw_ G1 t = 1 → gl_ G1 t = gl_ G b → ge_ G1 t = ge_ G b → et_ (ge_ G1) (gl_ G b) t = et_ (ge_ G) (gl_ G b) b → (∀ y, 1 ≤ gw_ G y → y ≠ t → ge_ G1 y = ge_ G y ∧ gl_ G1 y = gl_ G y ∧ 1 ≤ gw_ G1 y ∧ et_ (ge_ G1) (gl_ G y) y = et_ (ge_ G) (gl_ G y) y) → post (nI t) st') : wp_B_owned w (nI b) st post := by
  have hc := hI.1.2.2.1 b hb
  have hrb : rt_ Rm b b = Rm b + 1 := by simp [rt_]
  have hu : 1 ≤ gw_ G b := by omega
  obtain ⟨b1, b2, b3⟩ := hI.1.1 b hu
  by_cases h1 : gw_ G b ≤ 1
  · exact p_owned1 hR ⟨b1, b2⟩ h1 (k st G b hR Fr_.rf hI (by omega) rfl rfl rfl (fun y hy _ => ⟨rfl, rfl, hy, rfl⟩))
  · have hb2 : 2 ≤ gw_ G b := by omega
    have hsl := SL_one (l := 16) hu b2 b3
    have hsl2 : 1 ≤ sl_ G b := by
      have : 1 ≤ (gw_ G b - 1) * mu_ G b := Nat.mul_pos (by omega) (by show 1 ≤ max _ 1; omega)
      simp only [sl_]; omega
    obtain ⟨f, c, hf⟩ : ∃ f c, gf_ G = f ++ [c] := by
      have hne : gf_ G ≠ [] := fun e => by have := hI.2; rw [e] at this; simp at this; omega
      exact ⟨(gf_ G).dropLast, (gf_ G).getLast hne, (List.dropLast_concat_getLast hne).symm⟩
    obtain ⟨c1, c2, c3, -, -⟩ := fr_last hI.1 hf
    have hbc : b ≠ c := fun e => by rw [e] at hb2; omega
    refine p_owned2 hw hR ⟨b1, b2⟩ hb2 (gw_bd hw hR hI.1 (fun y => by have := hr y; simp only [rt_]; split <;> omega) b hu) b3 hf ⟨c1, c2⟩ hbc (fun h0 e he => by
      obtain ⟨q1, -, -, -⟩ := hI.1.child hu b3 h0 he
      have := hI.1.1 e.2 q1; exact ⟨this.1, this.2.1⟩) (fun s1 hR1 hF1 => ?_)
    refine k s1 _ c hR1 hF1 (In_root hw.1 hI hb2 b3 hf (by simp) h2 (fun _ _ _ => by simp) (fun y hy => ?_)) (cp_w hI.1 hb2 b3 hf).1 cp_lc.1 cp_lc.2 (cp_etc hI.1 hu b3 hf) (fun y hy hyc => ?_)
    · simp only [rt_]
      by_cases e1 : y = b
      · by_cases e2 : y = c
        · omega
        · simp [e1, hbc]
      · by_cases e2 : y = c
        · simp [e1, e2, Ne.symm hbc]
        · simp [e1, e2]
    · exact ⟨(cp_l hyc).2, (cp_l hyc).1, (cp_used hI.1 hb2 b3 hf y).mpr (Or.inl hy), cp_et hI.1 hf hy ((hI.1.1 y hy).2.2)⟩
/-- a new root leaf -/
abbrev nl_ (G : Sg_) (r n : Nat) (f : List Nat) (L : List (Nat × Nat)) : Sg_ := (va_up G.1 r 1, va_up G.2.1 r n, va_up G.2.2.1 r L, f)
theorem nl_leaf {r x s : Nat} {f : List Nat} (hw : 5 ≤ w) (hI : Ic_ w [] 16 (rt_ Rm 0) [] G) (hf : gf_ G = f ++ [r]) : Ic_ w [] 16 (rt_ Rm r) [] (nl_ G r 0 f [(x, s)]) ∧
    (∀ y, 1 ≤ gw_ G y → ge_ (nl_ G r 0 f [(x, s)]) y = ge_ G y ∧ gl_ (nl_ G r 0 f [(x, s)]) y = gl_ G y ∧ et_ (ge_ (nl_ G r 0 f [(x, s)])) (gl_ G y) y = et_ (ge_ G) (gl_ G y) y) := by
  obtain ⟨r1, r2, r3, r4, r5⟩ := fr_last hI hf
  generalize hG' : nl_ G r 0 f [(x, s)] = G'
  have hgw : ∀ y, gw_ G' y = if y = r then 1 else gw_ G y := fun y => by rw [← hG']; rfl
  have hgl : ∀ y, gl_ G' y = if y = r then 0 else gl_ G y := fun y => by rw [← hG']; rfl
  have her : ge_ G' r = [(x, s)] := by rw [← hG']; simp [ge_, nl_, va_up]
  have hey : ∀ y, y ≠ r → ge_ G' y = ge_ G y := fun y y1 => by rw [← hG']; simp [ge_, nl_, va_up, y1]
  have hgf : gf_ G' = f := by rw [← hG']
  have hur : ∀ y, 1 ≤ gw_ G y → y ≠ r := fun y hy e => by rw [e] at hy; omega
  have het : ∀ y, 1 ≤ gw_ G y → et_ (ge_ G') (gl_ G y) y = et_ (ge_ G) (gl_ G y) y := fun y y1 => by
    refine et_same (fun m y => 1 ≤ gw_ G y ∧ gl_ G y = m) (fun m y h => hey y (hur y h.1)) (fun m y h e he => ?_) _ y ⟨y1, rfl⟩
    obtain ⟨q1, q2, -, -⟩ := hI.child h.1 ((hI.1 y h.1).2.2) (by omega) he
    exact ⟨q1, by omega⟩
  refine ⟨⟨fun y hy => ?_, ⟨by rw [hgf]; exact r5, fun y hy => ?_, fun y y1 y2 y3 => ?_⟩, fun y hy => ?_, fun y hy hyl => ?_⟩, fun y hy => ⟨hey y (hur y hy), by rw [hgl, if_neg (hur y hy)], het y hy⟩⟩
  · rw [hgl]
    rw [hgw] at hy
    by_cases hyr : y = r
    · rw [if_pos hyr, hyr]; exact ⟨r1, r2, by omega⟩
    · rw [if_neg hyr] at hy ⊢; exact hI.1 y hy
  · rw [hgf] at hy
    obtain ⟨q1, q2, q3⟩ := hI.2.1.2.1 y (by rw [hf]; exact List.mem_append_left _ hy)
    refine ⟨q1, q2, ?_⟩
    rw [hgw, if_neg (show y ≠ r from fun q => r4 (q ▸ hy))]; exact q3
  · rw [hgw] at y3
    by_cases hyr : y = r
    · rw [if_pos hyr] at y3; omega
    · rw [if_neg hyr] at y3
      rcases hI.2.1.2.2 y y1 y2 y3 with h | h
      · rw [hf] at h
        rcases List.mem_append.mp h with h | h
        · rw [hgf]; exact Or.inl h
        · exact absurd (by simpa using h) hyr
      · exact Or.inr h
  · have h1 := hI.2.2.1 y hy
    have h2 : eg_ G' y = eg_ G y := by
      refine sm_congr (fun p _ => ?_)
      rw [hgw, hgl]
      by_cases hp : p = r
      · rw [if_pos hp, if_pos hp]
        subst hp
        simp [r3]
      · rw [if_neg hp, if_neg hp, hey p hp]
    simp only [rt_] at h1 ⊢
    rw [h2, hgw]
    by_cases hyr : y = r
    · rw [if_pos hyr, if_pos hyr]
      rw [hyr] at h1 ⊢
      omega
    · rw [if_neg hyr, if_neg hyr]
      rw [if_neg (show ¬ y = 0 by omega)] at h1
      exact h1
  · rw [hgw] at hy
    by_cases hyr : y = r
    · subst hyr
      refine ⟨fun _ => by rw [her]; simp; omega, ?_, fun h0 => ?_⟩
      · rw [hgl, if_pos rfl]
        show so_ (ge_ G' y)
        rw [her]; simp [so_]
      · rw [hgl, if_pos rfl] at h0; exact absurd rfl h0
    · rw [if_neg hyr] at hy
      have hv := hI.2.2.2 y hy ((hI.1 y hy).2.2)
      have hly : gl_ G' y = gl_ G y := by rw [hgl, if_neg hyr]
      refine ⟨fun _ => by rw [hey y hyr]; exact hv.1 (by simp), by rw [hly, het y hy]; exact hv.2.1, fun h0 e he => ?_⟩
      rw [hly] at h0
      rw [hey y hyr] at he
      obtain ⟨q1, q2, q3, q4⟩ := hv.2.2 h0 e he
      rw [hgw, hly, hgl, if_neg (hur _ q1), if_neg (hur _ q1), hey _ (hur _ q1)]
      exact ⟨q1, q2, fun _ => q3 (by simp), q4⟩
/-- a root above the root -/
theorem nl_root {g t n k0 : Nat} {f : List Nat} (hI : In_ w [t] 16 (rt_ Rm t) (a + 1) G) (htw : gw_ G t = 1) (htn : gl_ G t = n) (hn : n + 1 ≤ 16) (hf : gf_ G = f ++ [g]) (hk : (ge_ G t).head?.map Prod.fst = some k0) :
    In_ w [g, t] 16 (rt_ Rm g) a (nl_ G g (n + 1) f [(k0, t)]) ∧ (∀ y, 1 ≤ gw_ G y → y ≠ g ∧ gw_ (nl_ G g (n + 1) f [(k0, t)]) y = gw_ G y ∧ ge_ (nl_ G g (n + 1) f [(k0, t)]) y = ge_ G y ∧ gl_ (nl_ G g (n + 1) f [(k0, t)]) y = gl_ G y ∧ et_ (ge_ (nl_ G g (n + 1) f [(k0, t)])) (gl_ G y) y = et_ (ge_ G) (gl_ G y) y) ∧
    et_ (ge_ (nl_ G g (n + 1) f [(k0, t)])) (n + 1) g = et_ (ge_ G) n t := by
  obtain ⟨hI, hs⟩ := hI
  obtain ⟨r1, r2, r3, r4, r5⟩ := fr_last hI hf
  obtain ⟨t1, t2, t3⟩ := hI.1 t (by omega)
  generalize hG' : nl_ G g (n + 1) f [(k0, t)] = G'
  have hgw : ∀ y, gw_ G' y = if y = g then 1 else gw_ G y := fun y => by rw [← hG']; rfl
  have hgl : ∀ y, gl_ G' y = if y = g then n + 1 else gl_ G y := fun y => by rw [← hG']; rfl
  have her : ge_ G' g = [(k0, t)] := by rw [← hG']; simp [ge_, nl_, va_up]
  have hey : ∀ y, y ≠ g → ge_ G' y = ge_ G y := fun y y1 => by rw [← hG']; simp [ge_, nl_, va_up, y1]
  have hgf : gf_ G' = f := by rw [← hG']
  have hur : ∀ y, 1 ≤ gw_ G y → y ≠ g := fun y hy e => by rw [e] at hy; omega
  have het : ∀ y, 1 ≤ gw_ G y → et_ (ge_ G') (gl_ G y) y = et_ (ge_ G) (gl_ G y) y := fun y y1 => by
    refine et_same (fun m y => 1 ≤ gw_ G y ∧ gl_ G y = m) (fun m y h => hey y (hur y h.1)) (fun m y h e he => ?_) _ y ⟨y1, rfl⟩
    obtain ⟨q1, q2, -, -⟩ := hI.child h.1 ((hI.1 y h.1).2.2) (by omega) he
    exact ⟨q1, by omega⟩
  have htg : t ≠ g := hur t (by omega)
  have hetg : et_ (ge_ G') (n + 1) g = et_ (ge_ G) n t := by
    rw [et_succ, her, fm_cons, fm_nil, List.append_nil]
    have := het t (by omega)
    rw [htn] at this
    exact this
  have hct := hI.2.2.1 t t1
  have hrt : rt_ Rm t t = Rm t + 1 := by simp [rt_]
  refine ⟨⟨⟨fun y hy => ?_, ⟨by rw [hgf]; exact r5, fun y hy => ?_, fun y y1 y2 y3 => ?_⟩, fun y hy => ?_, fun y hy hyl => ?_⟩, ?_⟩, fun y hy => ⟨hur y hy, by rw [hgw, if_neg (hur y hy)], hey y (hur y hy), by rw [hgl, if_neg (hur y hy)], het y hy⟩, hetg⟩
  · rw [hgl]
    rw [hgw] at hy
    by_cases hyr : y = g
    · rw [if_pos hyr, hyr]; exact ⟨r1, r2, by omega⟩
    · rw [if_neg hyr] at hy ⊢; exact hI.1 y hy
  · rw [hgf] at hy
    obtain ⟨q1, q2, q3⟩ := hI.2.1.2.1 y (by rw [hf]; exact List.mem_append_left _ hy)
    refine ⟨q1, q2, ?_⟩
    rw [hgw, if_neg (show y ≠ g from fun q => r4 (q ▸ hy))]; exact q3
  · rw [hgw] at y3
    by_cases hyr : y = g
    · rw [if_pos hyr] at y3; omega
    · rw [if_neg hyr] at y3
      rcases hI.2.1.2.2 y y1 y2 y3 with h | h
      · rw [hf] at h
        rcases List.mem_append.mp h with h | h
        · rw [hgf]; exact Or.inl h
        · exact absurd (by simpa using h) hyr
      · exact Or.inr h
  · have h1 := hI.2.2.1 y hy
    have h2 := sm_up (n := 1201) (k := g) (f := fun p => if gw_ G p = 0 ∨ gl_ G p = 0 then 0 else cn_ y (ge_ G p)) (g := fun p => if gw_ G' p = 0 ∨ gl_ G' p = 0 then 0 else cn_ y (ge_ G' p)) (by omega) (fun p _ hp => by
      rw [hgw, hgl, if_neg hp, if_neg hp, hey p hp])
    have e1 : eg_ G y = sm_ 1201 (fun p => if gw_ G p = 0 ∨ gl_ G p = 0 then 0 else cn_ y (ge_ G p)) := rfl
    have e2 : eg_ G' y = sm_ 1201 (fun p => if gw_ G' p = 0 ∨ gl_ G' p = 0 then 0 else cn_ y (ge_ G' p)) := rfl
    have v1 : (if gw_ G g = 0 ∨ gl_ G g = 0 then 0 else cn_ y (ge_ G g)) = 0 := if_pos (Or.inl r3)
    have v2 : (if gw_ G' g = 0 ∨ gl_ G' g = 0 then 0 else cn_ y (ge_ G' g)) = (if y = t then 1 else 0) := by
      rw [hgw, hgl, if_pos rfl, if_pos rfl, if_neg (by omega), her]
      simp only [cn_]
      rw [show (if t = y then 1 else 0) = (if y = t then 1 else 0) by simp only [eq_comm]]
      omega
    rw [v1, v2, ← e1, ← e2] at h2
    simp only [rt_] at h1 ⊢
    rw [hgw]
    by_cases hyr : y = g
    · rw [if_pos hyr, if_pos hyr]
      rw [hyr] at h1 h2 ⊢
      rw [if_neg (Ne.symm htg)] at h1 h2
      omega
    · rw [if_neg hyr, if_neg hyr]
      by_cases hyt : y = t
      · rw [if_pos hyt] at h1 h2; omega
      · rw [if_neg hyt] at h1 h2; omega
  · rw [hgw] at hy
    by_cases hyr : y = g
    · subst hyr
      refine ⟨fun h => absurd (by simp) h, ?_, fun h0 e he => ?_⟩
      · rw [hgl, if_pos rfl, hetg]
        have := (hI.2.2.2 t (by omega) t3).2.1
        rw [htn] at this
        exact this
      · rw [her, List.mem_singleton] at he
        subst he
        show 1 ≤ gw_ G' t ∧ gl_ G' t + 1 = gl_ G' y ∧ (t ∉ [y, t] → w / 2 ≤ (ge_ G' t).length) ∧ (ge_ G' t).head?.map Prod.fst = some k0
        rw [hgw, hgl, hgl, if_neg htg, if_neg htg, if_pos rfl, hey t htg]
        exact ⟨by omega, by omega, fun h => absurd (by simp) h, hk⟩
    · rw [if_neg hyr] at hy
      have hv := hI.2.2.2 y hy ((hI.1 y hy).2.2)
      have hly : gl_ G' y = gl_ G y := by rw [hgl, if_neg hyr]
      refine ⟨fun h => by rw [hey y hyr]; exact hv.1 (by simp at h ⊢; exact h.2), by rw [hly, het y hy]; exact hv.2.1, fun h0 e he => ?_⟩
      rw [hly] at h0
      rw [hey y hyr] at he
      obtain ⟨q1, q2, q3, q4⟩ := hv.2.2 h0 e he
      rw [hgw, hly, hgl, if_neg (hur _ q1), if_neg (hur _ q1), hey _ (hur _ q1)]
      exact ⟨q1, q2, fun h => q3 (by simp at h ⊢; exact h.2), q4⟩
  · rw [hgf]
    have hfl : (gf_ G).length = f.length + 1 := by rw [hf]; simp
    have h2 := sm_up (n := 1201) (k := g) (f := fun y => if gw_ G y = 0 ∨ 16 < gl_ G y then 0 else sl_ G y) (g := fun y => if gw_ G' y = 0 ∨ 16 < gl_ G' y then 0 else sl_ G' y) (by omega) (fun y _ hy => by
      rw [hgw, hgl, if_neg hy, if_neg hy]
      by_cases hu : gw_ G y = 0 ∨ 16 < gl_ G y
      · simp only [hu, if_true]
      · simp only [hu, if_false]
        show (gw_ G' y - 1) * max ((et_ (ge_ G') (gl_ G' y) y).length - 1) 1 + ((ge_ G' y).length - 2) = (gw_ G y - 1) * max ((et_ (ge_ G) (gl_ G y) y).length - 1) 1 + ((ge_ G y).length - 2)
        rw [hgw, hgl, if_neg hy, if_neg hy, hey y hy, het y (by omega)])
    have e1 : SL_ 16 G = sm_ 1201 (fun y => if gw_ G y = 0 ∨ 16 < gl_ G y then 0 else sl_ G y) := rfl
    have e2 : SL_ 16 G' = sm_ 1201 (fun y => if gw_ G' y = 0 ∨ 16 < gl_ G' y then 0 else sl_ G' y) := rfl
    have v1 : (if gw_ G g = 0 ∨ 16 < gl_ G g then 0 else sl_ G g) = 0 := if_pos (Or.inl r3)
    have v2 : (if gw_ G' g = 0 ∨ 16 < gl_ G' g then 0 else sl_ G' g) = 0 := by
      rw [hgw, hgl, if_pos rfl, if_pos rfl, if_neg (by omega)]
      simp only [sl_]
      rw [hgw, if_pos rfl, her]; simp
    rw [v1, v2, ← e1, ← e2] at h2
    omega
theorem Ic_.nox {t : Nat} (hI : Ic_ w [t] 16 (rt_ Rm t) [] G) (htw : gw_ G t = 1) (h1 : 1 ≤ (ge_ G t).length) (h2 : (ge_ G t).length + 1 ≤ w) : Ic_ w [] 16 (rt_ Rm t) [] G := by
  have ht1 := hI.1 t (by omega)
  have hc := hI.2.2.1 t ht1.1
  have hrt : rt_ Rm t t = Rm t + 1 := by simp [rt_]
  refine ⟨hI.1, hI.2.1, hI.2.2.1, fun y hy hl => ?_⟩
  have hv := hI.2.2.2 y hy hl
  refine ⟨fun _ => ?_, hv.2.1, fun h0 e he => ?_⟩
  · by_cases hyt : y = t
    · subst hyt; exact ⟨h1, h2⟩
    · exact hv.1 (by simpa using hyt)
  · obtain ⟨q1, q2, q3, q4⟩ := hv.2.2 h0 e he
    refine ⟨q1, q2, fun _ => q3 ?_, q4⟩
    intro q
    rw [List.mem_singleton] at q
    have h3 := cn_mem he q
    have h4 := sm_one (n := 1201) (k := y) (fun p => if gw_ G p = 0 ∨ gl_ G p = 0 then 0 else cn_ t (ge_ G p)) (by have := (hI.1 y hy).2.1; omega)
    simp only [show ¬ (gw_ G y = 0 ∨ gl_ G y = 0) by omega, if_false] at h4
    have h5 : eg_ G t = sm_ 1201 (fun p => if gw_ G p = 0 ∨ gl_ G p = 0 then 0 else cn_ t (ge_ G p)) := rfl
    omega
end WI
end
section
-- PURE: Trees.grown, Trees.with
section WW
variable {w a : Nat} {Rm : Nat → Nat} {G : Sg_} {st : St_}
theorem p_grown {t n : Nat} {post : Int32 → St_ → Prop} (hw : 5 ≤ w ∧ w ≤ 32) (hR : Rp_ w st G) (hI : In_ w [t] 16 (rt_ Rm t) (a + 1) G) (htw : gw_ G t = 1) (htn : gl_ G t = n) (hn : n + 1 ≤ 16) (hl : (ge_ G t).length = w)
    (k : ∀ st' G' g, Rp_ w st' G' → Fr_ st st' → Ic_ w [] 16 (rt_ Rm g) [] G' → 1 ≤ g → gl_ G' g = n + 1 → et_ (ge_ G') (n + 1) g = et_ (ge_ G) n t → 2 ≤ (ge_ G' g).length → (∀ y, 1 ≤ gw_ G y → 1 ≤ Rm y → y ≠ t → ge_ G' y = ge_ G y ∧ gl_ G' y = gl_ G y ∧ et_ (ge_ G') (gl_ G y) y = et_ (ge_ G) (gl_ G y) y) → post (nI g) st') : wp_T_grown w (nI t) st post := by
  unfold wp_T_grown
  obtain ⟨t1, t2, t3⟩ := hI.1.1 t (by omega)
  obtain ⟨f, g, hf⟩ : ∃ f c, gf_ G = f ++ [c] := by
    have hne : gf_ G ≠ [] := fun e => by have := hI.2; rw [e] at this; simp at this
    exact ⟨(gf_ G).dropLast, (gf_ G).getLast hne, (List.dropLast_concat_getLast hne).symm⟩
  obtain ⟨g1, g2, g3, g4, g5⟩ := fr_last hI.1 hf
  have htg : t ≠ g := fun e => by rw [e] at htw; omega
  refine p_level hR ⟨t1, t2⟩ ?_
  rw [htn, nI_1]
  refine p_take hR hf ⟨g1, g2⟩ (fun s1 hR1 hF1 => ?_)
  have u1 : ge_ (tk_ G g (n + 1) f) t = ge_ G t := by simp [ge_, tk_, va_up, htg]
  have u2 : ge_ (tk_ G g (n + 1) f) g = [] := by simp [ge_, tk_, va_up]
  have hi0 : 0 < (ge_ (tk_ G g (n + 1) f) t).length := by rw [u1]; omega
  have hbd := hR1.bd hi0
  refine p_key (i := 0) hw hR1 ⟨t1, t2⟩ hi0 ?_
  rw [u1] at hbd ⊢
  refine p_insert (i := 0) hw hR1 ⟨g1, g2⟩ (by omega) (by rw [u2]; simp; omega) hbd.1 (by omega) (fun s2 hR2 hF2 => ?_)
  rw [u2] at hR2
  have hR3 : Rp_ w s2 (nl_ G g (n + 1) f [(((ge_ G t).getD 0 (0, 0)).1, t)]) := by
    refine hR2.eq (Sg_ext (fun _ => rfl) (fun _ => rfl) (fun x => ?_) rfl)
    by_cases hx : x = g
    · subst hx; simp [va_up, il_]
    · simp [va_up, hx]
  obtain ⟨m1, m2, m3⟩ := nl_root hI htw htn hn hf (gd_hd (by omega))
  generalize hG3 : nl_ G g (n + 1) f [(((ge_ G t).getD 0 (0, 0)).1, t)] = G3 at *
  have hgw3 : gw_ G3 g = 1 := by rw [← hG3]; simp [gw_, nl_, va_up]
  have hgl3 : gl_ G3 g = n + 1 := by rw [← hG3]; simp [gl_, nl_, va_up]
  have hge3 : ge_ G3 g = [(((ge_ G t).getD 0 (0, 0)).1, t)] := by rw [← hG3]; simp [ge_, nl_, va_up]
  obtain ⟨-, q1, q2, q3, q4⟩ := m2 t (by omega)
  have hdn := m1.down (n := n + 1) hn
  refine p_split (i := 0) (c := t) hw hR3 hdn hgw3 hgl3 (by rw [hge3]; simp) (by rw [hge3]; rfl) (by rw [q1]; exact htw) (by rw [q2]; exact hl) (by rw [hge3]; simp; omega) (fun s4 G4 hR4 hF4 hI4 hC4 het4 hlen4 => ?_)
  have hRg : rt_ Rm g g = 1 := by
    have hc := hI.1.2.2.1 g g1
    have : rt_ Rm t g = Rm g := by simp [rt_, Ne.symm htg]
    simp only [rt_, if_true]
    omega
  have hX : ∀ z ∈ [g, t], z = g ∨ gl_ G3 z < n + 1 := fun z hz => by
    simp only [List.mem_cons, List.not_mem_nil, or_false] at hz
    rcases hz with h | h
    · exact Or.inl h
    · right; rw [h, q3]; omega
  have hI5 := up_Ic hX m1.1 hgw3 hRg hC4 hI4.1
  have hl4 : (ge_ G4 g).length = 2 := by rw [hlen4, hge3]; rfl
  have hI6 := hI5.nox hC4.1 (by omega) (by omega)
  refine k s4 G4 g hR4 ((hF1.tr hF2).tr hF4) hI6 g1 hC4.2.1 (het4.trans m3) (by omega) (fun y hy hRy hyt => ?_)
  obtain ⟨x1, x2, x3, x4, x5⟩ := m2 y hy
  have hRy' : 1 ≤ rt_ Rm g y := by simp only [rt_]; omega
  obtain ⟨z1, z2, z3, -⟩ := hC4.2.2.1 y (by rw [x2]; exact hy) x1 (Or.inr hRy')
  refine ⟨z1.trans x3, z2.trans x4, ?_⟩
  have := up_et m1.1 hgw3 hRg hC4 (gl_ G y) y (by rw [x2]; exact hy) x1 x4 (Or.inr hRy')
  rw [this, x5]
theorem p_with {root x s T : Nat} {post : Int32 → St_ → Prop} (hw : 5 ≤ w ∧ w ≤ 32) (hR : Rp_ w st G) (hI : Ic_ w [] 16 (rt_ Rm root) [] G) (hr : ∀ y, Rm y ≤ 900) (hrt : ∀ b, 1 ≤ b → 1 ≤ rt_ Rm root b → gl_ G b = 0 ∨ 2 ≤ (ge_ G b).length)
    (hT : sm_ 1201 (fun y => if y = 0 then 0 else rt_ Rm root y * kp_ G y) ≤ T) (haT : a + T ≤ 1200) (hx : x < 4096) (hs : s ≤ 1000000000) (hroot : root ≤ 1200) (hroom : (iz_ x s (tr_ G root)).length ≤ a + (tr_ G root).length)
    (k : ∀ st' G' r, Rp_ w st' G' → Fr_ st st' → Ic_ w [] 16 (rt_ Rm r) [] G' → 1 ≤ r → tr_ G' r = iz_ x s (tr_ G root) → (gl_ G' r = 0 ∨ 2 ≤ (ge_ G' r).length) → (∀ y, 1 ≤ y → 1 ≤ Rm y → ge_ G' y = ge_ G y ∧ gl_ G' y = gl_ G y ∧ et_ (ge_ G') (gl_ G y) y = et_ (ge_ G) (gl_ G y) y) → post (nI r) st') : wp_T_with w (nI root) (nI x) (nI s) st post := by
  unfold wp_T_with
  have hused : ∀ y, 1 ≤ y → 1 ≤ Rm y → 1 ≤ gw_ G y := fun y y1 y2 => by
    have := hI.2.2.1 y y1
    have h2 : Rm y ≤ rt_ Rm root y := by simp only [rt_]; omega
    omega
  by_cases h0 : root = 0
  · subst h0
    have htr : tr_ G 0 = [] := rfl
    rw [htr] at hroom
    have hroom' : 1 ≤ a := by simpa [iz_] using hroom
    have hcap := cap_ hw.1 hI hrt hT haT
    obtain ⟨f, r, hf⟩ : ∃ f c, gf_ G = f ++ [c] := by
      have hne : gf_ G ≠ [] := fun e => by have := hcap.2; rw [e] at this; simp at this; omega
      exact ⟨(gf_ G).dropLast, (gf_ G).getLast hne, (List.dropLast_concat_getLast hne).symm⟩
    obtain ⟨r1, r2, r3, r4, r5⟩ := fr_last hI hf
    refine rb_f rfl (p_take (l := 0) hR hf ⟨r1, r2⟩ (fun s1 hR1 hF1 => ?_))
    have u1 : ge_ (tk_ G r 0 f) r = [] := by simp [ge_, tk_, va_up]
    have u2 : gl_ (tk_ G r 0 f) r = 0 := by simp [gl_, tk_, va_up]
    refine p_level hR1 ⟨r1, r2⟩ ?_
    rw [u2]
    show (_ → _) ∧ (_ → _)
    refine br_t (by decide) (br_f (by decide) ?_)
    refine p_putInLeaf hw hR1 ⟨r1, r2⟩ hx hs (by rw [u1]; exact so_nil) (by rw [u1]; simp; omega) (fun s2 hR2 hF2 => ?_)
    rw [u1] at hR2
    have hR3 : Rp_ w s2 (nl_ G r 0 f [(x, s)]) := by
      refine hR2.eq (Sg_ext (fun _ => rfl) (fun _ => rfl) (fun z => ?_) rfl)
      by_cases hz : z = r
      · subst hz; simp [va_up, iz_]
      · simp [va_up, hz]
    obtain ⟨m1, m2⟩ := nl_leaf (x := x) (s := s) hw.1 hI hf
    have v1 : ge_ (nl_ G r 0 f [(x, s)]) r = [(x, s)] := by simp [ge_, nl_, va_up]
    have v2 : gl_ (nl_ G r 0 f [(x, s)]) r = 0 := by simp [gl_, nl_, va_up]
    refine p_size hR3 ⟨r1, r2⟩ ?_
    rw [v1]
    refine br_t (nI_le (a := 1) (b := w - 1) (by omega) (by omega)) ?_
    refine k s2 _ r hR3 (hF1.tr hF2) m1 r1 ?_ (Or.inl v2) (fun y y1 y2 => m2 y (hused y y1 y2))
    rw [tr_1 r1, v2, htr]
    exact v1
  · have hroot1 : 1 ≤ root := by omega
    refine rb_t (nI_ne0 (by omega) (by omega)) ?_
    have hc := hI.2.2.1 root hroot1
    have hrr : rt_ Rm root root = Rm root + 1 := by simp [rt_]
    have hu : 1 ≤ gw_ G root := by omega
    obtain ⟨b1, b2, b3⟩ := hI.1 root hu
    have hroot2 := hrt root hroot1 (by omega)
    have hvr := hI.2.2.2 root hu b3
    have hl1 := (hvr.1 (by simp)).1
    have hcap : In_ w [] 16 (rt_ Rm root) (a + (if 2 ≤ (ge_ G root).length then 1 else 0)) G := by
      by_cases h2 : 2 ≤ (ge_ G root).length
      · rw [if_pos h2]; exact cap_1 hw.1 hI hrt hT haT (by omega) hroot1 h2
      · rw [if_neg h2]; exact cap_ hw.1 hI hrt hT haT
    refine p_ownroot hw hR hcap hr hroot1 hroot2 (fun s1 G1 t hR1 hF1 hI1 htw htl hte htt hfr => ?_)
    obtain ⟨t1, t2, t3⟩ := hI1.1.1 t (by omega)
    have hct := hI1.1.2.2.1 t t1
    have hRt : rt_ Rm t t = 1 := by
      have : rt_ Rm t t = Rm t + 1 := by simp [rt_]
      omega
    have hRm : Rm t = 0 := by
      have : rt_ Rm t t = Rm t + 1 := by simp [rt_]
      omega
    refine p_level hR1 ⟨t1, t2⟩ ?_
    rw [tr_1 hroot1] at hroom
    have hvt := (hI1.1.2.2.2 t (by omega) t3).1 (by simp)
    generalize hn : gl_ G root = n at *
    have hn16 : n ≤ 16 := by omega
    rw [htl]
    refine p_putBelow hw hx hs (R := rt_ Rm t) (fun y => by have := hr y; simp only [rt_]; split <;> omega) n 20 t _ G1 s1 _ (by omega) hR1 ((hI1.down hn16).mono (Y := [t]) (fun y h => by simp at h)) htw htl (by omega) (fun _ => by omega) (by rw [htt]; omega) (fun s2 G2 a2 hR2 hF2 hI2 ha2 hC2 het2 hlo2 hl12 => ?_)
    rw [htt] at ha2 het2
    have hI2' := up_In (a := a + (if 2 ≤ (ge_ G root).length then 1 else 0) + (et_ (ge_ G) n root).length - (iz_ x s (et_ (ge_ G) n root)).length) (X := []) (fun z hz => by simp at hz) hn16 hI1.1 htw hRt htl hC2 (hI2.less (by omega))
    have hlw := (hR2.1 t t1 t2).2.2.2.1
    have hframe : ∀ y, 1 ≤ y → 1 ≤ Rm y → y ≠ t ∧ 1 ≤ gw_ G2 y ∧ ge_ G2 y = ge_ G y ∧ gl_ G2 y = gl_ G y ∧ et_ (ge_ G2) (gl_ G y) y = et_ (ge_ G) (gl_ G y) y := fun y y1 y2 => by
      have hyt : y ≠ t := fun q => by rw [q] at y2; omega
      obtain ⟨x1, x2, x3, x4⟩ := hfr y (hused y y1 y2) hyt
      have hRy' : 1 ≤ rt_ Rm t y := by simp only [rt_]; omega
      obtain ⟨z1, z2, z3, -⟩ := hC2.2.2.1 y x3 hyt (Or.inr hRy')
      have := up_et hI1.1 htw hRt hC2 (gl_ G y) y x3 hyt x2 (Or.inr hRy')
      exact ⟨hyt, z3, z1.trans x1, z2.trans x2, by rw [this, x4]⟩
    refine p_size hR2 ⟨t1, t2⟩ ?_
    rw [hte] at hlo2
    refine pk_le (ge_ G2 t).length (w - 1) (fun hle => ?_) (fun hgt => ?_) rfl rfl (by omega) (by omega)
    · refine k s2 G2 t hR2 (hF1.tr hF2) (hI2'.1.nox hC2.1 hl12 (by omega)) t1 ?_ ?_ (fun y y1 y2 => (hframe y y1 y2).2.2)
      · rw [tr_1 t1, hC2.2.1, tr_1 hroot1, hn]; exact het2
      · rw [hC2.2.1]
        rcases hroot2 with h | h
        · exact Or.inl h
        · exact Or.inr (by omega)
    · have hlen2 : 2 ≤ (ge_ G root).length := by
        rcases hroot2 with h | h
        · rcases Nat.lt_or_ge (ge_ G root).length 2 with q | q
          · exfalso
            have h5 : (ge_ G2 t).length = (iz_ x s (ge_ G root)).length := by
              have := congrArg List.length het2
              rw [h] at this
              exact this
            have h6 : (iz_ x s (ge_ G root)).length ≤ (ge_ G root).length + 1 := by
              have hso : so_ (ge_ G root) := by
                have := hvr.2.1
                rw [hn, h] at this
                exact this
              by_cases hp : ∃ u, (x, u) ∈ ge_ G root
              · obtain ⟨u, hu⟩ := hp
                rw [iz_len1 hso hu]; omega
              · rw [iz_len0 (fun u hu => hp ⟨u, hu⟩)]; omega
            omega
          · exact q
        · exact h
      have hn9 : n + 1 ≤ 16 := by
        have h7 := kp_pow hw.1 hI n root hu hn hn16 hlen2
        have h8 := sm_one (n := 1201) (k := root) (fun y => if y = 0 then 0 else rt_ Rm root y * kp_ G y) (by omega)
        simp only [h0, if_false] at h8
        have h9 : kp_ G root ≤ rt_ Rm root root * kp_ G root := by
          have := Nat.mul_le_mul_right (kp_ G root) (show 1 ≤ rt_ Rm root root by omega)
          omega
        have h10 : kp_ G root = (et_ (ge_ G) n root).length := by
          show (et_ (ge_ G) (gl_ G root) root).length = _
          rw [hn]
        rcases Nat.lt_or_ge n 16 with q | q
        · omega
        · have : n = 16 := by omega
          subst this
          have : (2 : Nat) ^ (16 + 1) = 131072 := by decide
          omega
      rw [if_pos hlen2] at hI2'
      refine p_grown (a := a + (et_ (ge_ G) n root).length - (iz_ x s (et_ (ge_ G) n root)).length) hw hR2 (hI2'.less (by omega)) hC2.1 hC2.2.1 hn9 (by omega) (fun s3 G3 g hR3 hF3 hI3 g1 hgl het3 hl3 hfr3 => ?_)
      refine k s3 G3 g hR3 ((hF1.tr hF2).tr hF3) hI3 g1 ?_ (Or.inr hl3) (fun y y1 y2 => ?_)
      · rw [tr_1 g1, hgl, het3, tr_1 hroot1, hn]; exact het2
      · obtain ⟨x1, x2, x3, x4, x5⟩ := hframe y y1 y2
        obtain ⟨z1, z2, z3⟩ := hfr3 y x2 y2 x1
        refine ⟨z1.trans x3, z2.trans x4, ?_⟩
        rw [x4] at z3
        rw [z3, x5]
end WW
end
section
-- PURE: Trees.shrunk, Trees.without
section WO
variable {w a : Nat} {Rm : Nat → Nat} {G : Sg_} {st : St_}
/-- the root goes; what it led to, if anything, is the root now -/
theorem gv_root {t o : Nat} (hI : Ic_ w [t] 16 (rt_ Rm t) [] G) (htw : gw_ G t = 1) (ho : (gl_ G t = 0 ∧ o = 0) ∨ (gl_ G t ≠ 0 ∧ ∃ k, ge_ G t = [(k, o)])) :
    Ic_ w [] 16 (rt_ Rm o) [] (gv_ G t) ∧ (∀ y, 1 ≤ gw_ G y → y ≠ t → ge_ (gv_ G t) y = ge_ G y ∧ gl_ (gv_ G t) y = gl_ G y ∧ 1 ≤ gw_ (gv_ G t) y ∧ et_ (ge_ (gv_ G t)) (gl_ G y) y = et_ (ge_ G) (gl_ G y) y) := by
  obtain ⟨t1, t2, t3⟩ := hI.1 t (by omega)
  have hc := hI.2.2.1 t t1
  have hrt : rt_ Rm t t = Rm t + 1 := by simp [rt_]
  have hot : o ≠ t := fun e => by
    rcases ho with ⟨h1, h2⟩ | ⟨h1, k, h2⟩
    · omega
    · have := hI.child (b := t) (by omega) t3 h1 (e := (k, o)) (by rw [h2]; simp)
      have h3 := this.2.1
      simp only at h3
      rw [e] at h3; omega
  have hno : ∀ y, 1 ≤ gw_ G y → gl_ G y ≠ 0 → ∀ e ∈ ge_ G y, e.2 ≠ t := fun y y1 y2 e he q => by
    have h2 := cn_mem he q
    have h3 := sm_one (n := 1201) (k := y) (fun p => if gw_ G p = 0 ∨ gl_ G p = 0 then 0 else cn_ t (ge_ G p)) (by have := (hI.1 y y1).2.1; omega)
    simp only [show ¬ (gw_ G y = 0 ∨ gl_ G y = 0) by omega, if_false] at h3
    have h4 : eg_ G t = sm_ 1201 (fun p => if gw_ G p = 0 ∨ gl_ G p = 0 then 0 else cn_ t (ge_ G p)) := rfl
    omega
  generalize hG' : gv_ G t = G'
  have hgw : ∀ y, gw_ G' y = if y = t then 0 else gw_ G y := fun y => by rw [← hG']; rfl
  have hgl : ∀ y, gl_ G' y = if y = t then 0 else gl_ G y := fun y => by rw [← hG']; rfl
  have hey : ∀ y, y ≠ t → ge_ G' y = ge_ G y := fun y y1 => by rw [← hG']; simp [ge_, gv_, va_up, y1]
  have hgf : gf_ G' = gf_ G ++ [t] := by rw [← hG']
  have het : ∀ y, 1 ≤ gw_ G y → y ≠ t → et_ (ge_ G') (gl_ G y) y = et_ (ge_ G) (gl_ G y) y := fun y y1 y2 => by
    refine et_same (fun m y => 1 ≤ gw_ G y ∧ gl_ G y = m ∧ y ≠ t) (fun m y h => hey y h.2.2) (fun m y h e he => ?_) _ y ⟨y1, rfl, y2⟩
    obtain ⟨q1, q2, -, -⟩ := hI.child h.1 ((hI.1 y h.1).2.2) (by omega) he
    exact ⟨q1, by omega, hno y h.1 (by omega) e he⟩
  have htf : t ∉ gf_ G := fun h => by have := (hI.2.1.2.1 t h).2.2; omega
  refine ⟨⟨fun y hy => ?_, ⟨?_, fun y hy => ?_, fun y y1 y2 y3 => ?_⟩, fun y hy => ?_, fun y hy hyl => ?_⟩, fun y hy hyt => ⟨hey y hyt, by rw [hgl, if_neg hyt], by rw [hgw, if_neg hyt]; exact hy, het y hy hyt⟩⟩
  · rw [hgw] at hy
    by_cases hyt : y = t
    · rw [if_pos hyt] at hy; omega
    · rw [if_neg hyt] at hy
      rw [hgl, if_neg hyt]; exact hI.1 y hy
  · rw [hgf, List.nodup_append]
    refine ⟨hI.2.1.1, by simp, fun x hx y hy e => ?_⟩
    rw [List.mem_singleton] at hy
    rw [e, hy] at hx
    exact htf hx
  · rw [hgf] at hy
    rw [hgw]
    rcases List.mem_append.mp hy with h | h
    · obtain ⟨q1, q2, q3⟩ := hI.2.1.2.1 y h
      refine ⟨q1, q2, ?_⟩
      split
      · rfl
      · exact q3
    · rw [List.mem_singleton] at h
      rw [if_pos h, h]; exact ⟨t1, t2, rfl⟩
  · rw [hgw] at y3
    rw [hgf]
    by_cases hyt : y = t
    · exact Or.inl (List.mem_append_right _ (by rw [hyt]; exact List.mem_singleton.mpr rfl))
    · rw [if_neg hyt] at y3
      rcases hI.2.1.2.2 y y1 y2 y3 with h | h
      · exact Or.inl (List.mem_append_left _ h)
      · exact Or.inr h
  · have h1 := hI.2.2.1 y hy
    have h2 := sm_up (n := 1201) (k := t) (f := fun p => if gw_ G p = 0 ∨ gl_ G p = 0 then 0 else cn_ y (ge_ G p)) (g := fun p => if gw_ G' p = 0 ∨ gl_ G' p = 0 then 0 else cn_ y (ge_ G' p)) (by omega) (fun p _ hp => by
      rw [hgw, hgl, if_neg hp, if_neg hp, hey p hp])
    have e1 : eg_ G y = sm_ 1201 (fun p => if gw_ G p = 0 ∨ gl_ G p = 0 then 0 else cn_ y (ge_ G p)) := rfl
    have e2 : eg_ G' y = sm_ 1201 (fun p => if gw_ G' p = 0 ∨ gl_ G' p = 0 then 0 else cn_ y (ge_ G' p)) := rfl
    have v1 : (if gw_ G t = 0 ∨ gl_ G t = 0 then 0 else cn_ y (ge_ G t)) = (if y = o then 1 else 0) := by
      rcases ho with ⟨g1, g2⟩ | ⟨g1, k, g2⟩
      · rw [if_pos (Or.inr g1), g2, if_neg (by omega)]
      · rw [if_neg (by omega), g2]
        simp only [cn_]
        rw [show (if o = y then 1 else 0) = (if y = o then 1 else 0) by simp only [eq_comm]]
        omega
    have v2 : (if gw_ G' t = 0 ∨ gl_ G' t = 0 then 0 else cn_ y (ge_ G' t)) = 0 := by
      rw [hgw, if_pos rfl]; simp
    rw [v1, v2, ← e1, ← e2] at h2
    simp only [rt_] at h1 ⊢
    rw [hgw]
    by_cases hyt : y = t
    · rw [if_pos hyt]
      rw [hyt] at h2 ⊢
      rw [if_neg (Ne.symm hot)] at h2 ⊢
      omega
    · rw [if_neg hyt]
      rw [if_neg hyt] at h1
      omega
  · rw [hgw] at hy
    have hyt : y ≠ t := fun q => by rw [if_pos q] at hy; omega
    rw [if_neg hyt] at hy
    have hv := hI.2.2.2 y hy ((hI.1 y hy).2.2)
    have hly : gl_ G' y = gl_ G y := by rw [hgl, if_neg hyt]
    refine ⟨fun _ => by rw [hey y hyt]; exact hv.1 (by simpa using hyt), by rw [hly, het y hy hyt]; exact hv.2.1, fun h0 e he => ?_⟩
    rw [hly] at h0
    rw [hey y hyt] at he
    obtain ⟨q1, q2, q3, q4⟩ := hv.2.2 h0 e he
    have hne := hno y hy h0 e he
    rw [hgw, hly, hgl, if_neg hne, if_neg hne, hey _ hne]
    exact ⟨q1, q2, fun _ => q3 (by simpa using hne), q4⟩
theorem p_without {root x T : Nat} {post : Int32 → St_ → Prop} (hw : 5 ≤ w ∧ w ≤ 32) (hR : Rp_ w st G) (hI : Ic_ w [] 16 (rt_ Rm root) [] G) (hr : ∀ y, Rm y ≤ 900) (hrt : ∀ b, 1 ≤ b → 1 ≤ rt_ Rm root b → gl_ G b = 0 ∨ 2 ≤ (ge_ G b).length)
    (hT : sm_ 1201 (fun y => if y = 0 then 0 else rt_ Rm root y * kp_ G y) ≤ T) (haT : T ≤ 1200) (hx : x < 4096) (hroot : 1 ≤ root) (hex : ∃ t, (x, t) ∈ tr_ G root)
    (k : ∀ st' G' r, Rp_ w st' G' → Fr_ st st' → Ic_ w [] 16 (rt_ Rm r) [] G' → r ≤ 1200 → tr_ G' r = dz_ x (tr_ G root) → (1 ≤ r → gl_ G' r = 0 ∨ 2 ≤ (ge_ G' r).length) → (∀ y, 1 ≤ y → 1 ≤ Rm y → ge_ G' y = ge_ G y ∧ gl_ G' y = gl_ G y ∧ et_ (ge_ G') (gl_ G y) y = et_ (ge_ G) (gl_ G y) y) → post (nI r) st') : wp_T_without w (nI root) (nI x) st post := by
  unfold wp_T_without
  have hused : ∀ y, 1 ≤ y → 1 ≤ Rm y → 1 ≤ gw_ G y := fun y y1 y2 => by
    have := hI.2.2.1 y y1
    have h2 : Rm y ≤ rt_ Rm root y := by simp only [rt_]; omega
    omega
  have hc := hI.2.2.1 root hroot
  have hrr : rt_ Rm root root = Rm root + 1 := by simp [rt_]
  have hu : 1 ≤ gw_ G root := by omega
  obtain ⟨b1, b2, b3⟩ := hI.1 root hu
  have hroot2 := hrt root hroot (by omega)
  have hcap := cap_ (a := 0) hw.1 hI hrt hT (by omega)
  refine p_ownroot hw hR hcap hr hroot hroot2 (fun s1 G1 t hR1 hF1 hI1 htw htl hte htt hfr => ?_)
  obtain ⟨t1, t2, t3⟩ := hI1.1.1 t (by omega)
  have hct := hI1.1.2.2.1 t t1
  have hRt : rt_ Rm t t = 1 := by
    have : rt_ Rm t t = Rm t + 1 := by simp [rt_]
    omega
  have hRm : Rm t = 0 := by
    have : rt_ Rm t t = Rm t + 1 := by simp [rt_]
    omega
  refine p_level hR1 ⟨t1, t2⟩ ?_
  have hvt := (hI1.1.2.2.2 t (by omega) t3).1 (by simp)
  rw [tr_1 hroot] at hex
  generalize hn : gl_ G root = n at *
  have hn16 : n ≤ 16 := by omega
  rw [htl]
  refine p_removeBelow hw hx (R := rt_ Rm t) (fun y => by have := hr y; simp only [rt_]; split <;> omega) n 20 t _ G1 s1 _ (by omega) hR1 ((hI1.down hn16).mono (Y := [t]) (fun y h => by simp at h)) htw htl (fun h0 => by rw [hte]; rcases hroot2 with h | h <;> omega) (by rw [htt]; exact hex) (fun s2 G2 a2 hR2 hF2 hI2 ha2 hC2 het2 hlo2 hl12 hhi2 => ?_)
  rw [htt] at het2
  have hI2' := up_Ic (X := []) (fun z hz => by simp at hz) hI1.1 htw hRt hC2 hI2.1
  have hframe : ∀ y, 1 ≤ y → 1 ≤ Rm y → y ≠ t ∧ 1 ≤ gw_ G2 y ∧ ge_ G2 y = ge_ G y ∧ gl_ G2 y = gl_ G y ∧ et_ (ge_ G2) (gl_ G y) y = et_ (ge_ G) (gl_ G y) y := fun y y1 y2 => by
    have hyt : y ≠ t := fun q => by rw [q] at y2; omega
    obtain ⟨x1, x2, x3, x4⟩ := hfr y (hused y y1 y2) hyt
    have hRy' : 1 ≤ rt_ Rm t y := by simp only [rt_]; omega
    obtain ⟨z1, z2, z3, -⟩ := hC2.2.2.1 y x3 hyt (Or.inr hRy')
    have := up_et hI1.1 htw hRt hC2 (gl_ G y) y x3 hyt x2 (Or.inr hRy')
    exact ⟨hyt, z3, z1.trans x1, z2.trans x2, by rw [this, x4]⟩
  have htn2 : gl_ G2 t = n := hC2.2.1
  have hlw := (hR2.1 t t1 t2).2.2.2.1
  have htr : tr_ G2 t = dz_ x (tr_ G root) := by
    rw [tr_1 t1, htn2, tr_1 hroot, hn]; exact het2
  unfold wp_T_shrunk
  refine p_size hR2 ⟨t1, t2⟩ ?_
  have hgl : (gf_ G2).length < 1200 := gf_lt hI2' (b := t) (by have := hC2.1; omega)
  by_cases h0 : (ge_ G2 t).length = 0
  · have hn0 : n = 0 := by
      rcases Nat.eq_zero_or_pos n with h | h
      · exact h
      · have := hl12 (by omega); omega
    refine rb_f (by rw [h0]; rfl) ?_
    refine p_give hR2 hgl ⟨t1, t2⟩ (fun s3 hR3 hF3 => ?_)
    obtain ⟨m1, m2⟩ := gv_root (o := 0) hI2' hC2.1 (Or.inl ⟨by omega, rfl⟩)
    refine k s3 _ 0 hR3 ((hF1.tr hF2).tr hF3) m1 (by omega) ?_ (fun h => by omega) (fun y y1 y2 => ?_)
    · rw [← htr]
      show [] = tr_ G2 t
      rw [tr_1 t1, htn2, hn0]
      exact (List.eq_nil_of_length_eq_zero h0).symm
    · obtain ⟨x1, x2, x3, x4, x5⟩ := hframe y y1 y2
      obtain ⟨z1, z2, z3, z4⟩ := m2 y x2 x1
      refine ⟨z1.trans x3, z2.trans x4, ?_⟩
      rw [x4] at z4
      rw [z4, x5]
  · refine rb_t (nI_ne0 (by omega) (by omega)) ?_
    have hstay : (gl_ G2 t = 0 ∨ 2 ≤ (ge_ G2 t).length) → post (nI t) s2 := fun h => by
      refine k s2 G2 t hR2 (hF1.tr hF2) (hI2'.nox hC2.1 (by omega) (by omega)) t2 htr (fun _ => h) (fun y y1 y2 => (hframe y y1 y2).2.2)
    refine p_level hR2 ⟨t1, t2⟩ ?_
    rw [htn2]
    refine pk_le n 0 (fun h1 => hstay (Or.inl (by omega))) (fun h1 => ?_) rfl rfl (by omega) (by omega)
    refine p_size hR2 ⟨t1, t2⟩ ?_
    by_cases h2 : (ge_ G2 t).length = 1
    · refine rb_f (by rw [h2]; rfl) ?_
      refine p_goal (i := 0) hw hR2 ⟨t1, t2⟩ (by omega) ?_
      refine p_give hR2 hgl ⟨t1, t2⟩ (fun s3 hR3 hF3 => ?_)
      have hone : ge_ G2 t = [(((ge_ G2 t).getD 0 (0, 0)).1, ((ge_ G2 t).getD 0 (0, 0)).2)] := by
        cases hL : ge_ G2 t with
        | nil => rw [hL] at h2; simp at h2
        | cons e L =>
          cases L with
          | nil => rfl
          | cons e2 L2 => rw [hL] at h2; simp at h2
      generalize ho : ((ge_ G2 t).getD 0 (0, 0)).2 = o at *
      obtain ⟨m1, m2⟩ := gv_root (o := o) hI2' hC2.1 (Or.inr ⟨by omega, _, hone⟩)
      have hok := hI2'.child (b := t) (by have := hC2.1; omega) (by omega) (by omega) (e := (((ge_ G2 t).getD 0 (0, 0)).1, o)) (by rw [hone]; simp)
      obtain ⟨o1, o2, o3, o4⟩ := hok
      have hou := hI2'.1 o o1
      have hot : o ≠ t := fun e => by simp only at o2; rw [e] at o2; omega
      obtain ⟨z1, z2, z3, z4⟩ := m2 o o1 hot
      refine k s3 _ o hR3 ((hF1.tr hF2).tr hF3) m1 hou.2.1 ?_ (fun _ => Or.inr ?_) (fun y y1 y2 => ?_)
      · rw [← htr, tr_1 hou.1, tr_1 t1, htn2, z2, z4]
        obtain ⟨m, hm⟩ : ∃ m, n = m + 1 := ⟨n - 1, by omega⟩
        rw [hm, et_succ, hone, fm_cons, fm_nil, List.append_nil]
        simp only at o2
        rw [show gl_ G2 o = m by omega]
      · rw [z1]
        have := o3 (by simpa using hot)
        simp only at this
        omega
      · obtain ⟨x1, x2, x3, x4, x5⟩ := hframe y y1 y2
        obtain ⟨y1', y2', y3', y4'⟩ := m2 y x2 x1
        refine ⟨y1'.trans x3, y2'.trans x4, ?_⟩
        rw [x4] at y4'
        rw [y4', x5]
    · exact rb_t (fun e => h2 ((nI_eq (b := 1) (by omega) (by omega)).mp e)) (hstay (Or.inr (by omega)))
end WO
end
section
-- PURE: Trees.release
def Rl_ (G G' : Sg_) : Prop :=
  (∀ y, 1 ≤ gw_ G' y → 1 ≤ gw_ G y ∧ ge_ G' y = ge_ G y ∧ gl_ G' y = gl_ G y) ∧ (∀ y, gw_ G y = 0 → gw_ G' y = 0 ∧ ge_ G' y = ge_ G y ∧ gl_ G' y = gl_ G y) ∧
  (∀ y, gw_ G' y ≤ gw_ G y) ∧ (∀ y ∈ gf_ G', y ∈ gf_ G ∨ 1 ≤ gw_ G y)
theorem Rl_.rf {G : Sg_} : Rl_ G G := ⟨fun _ h => ⟨h, rfl, rfl⟩, fun _ h => ⟨h, rfl, rfl⟩, fun _ => Nat.le_refl _, fun _ h => Or.inl h⟩
theorem Rl_.tr {A B C : Sg_} (h1 : Rl_ A B) (h2 : Rl_ B C) : Rl_ A C := by
  obtain ⟨a1, a2, a3, a4⟩ := h1
  obtain ⟨b1, b2, b3, b4⟩ := h2
  refine ⟨fun y hy => ?_, fun y hy => ?_, fun y => Nat.le_trans (b3 y) (a3 y), fun y hy => ?_⟩
  · obtain ⟨x1, x2, x3⟩ := b1 y hy
    obtain ⟨y1, y2, y3⟩ := a1 y x1
    exact ⟨y1, x2.trans y2, x3.trans y3⟩
  · obtain ⟨x1, x2, x3⟩ := a2 y hy
    obtain ⟨y1, y2, y3⟩ := b2 y x1
    exact ⟨y1, y2.trans x2, y3.trans x3⟩
  · rcases b4 y hy with h | h
    · exact a4 y h
    · have := a3 y; exact Or.inr (by omega)
theorem nd_lt {l : List Nat} (hn : l.Nodup) (hr : ∀ y ∈ l, 1 ≤ y ∧ y ≤ 1200) {b : Nat} (hb : 1 ≤ b ∧ b ≤ 1200) (hbl : b ∉ l) : l.length < 1200 := by
  have h1 := nd_len (fun y => y ∈ l) 1200 l hn (fun y => ⟨fun h => ⟨(hr y h).1, (hr y h).2, h⟩, fun h => h.2.2⟩)
  have h2 := sm_up (n := 1200) (k := b - 1) (f := fun _ => 1) (g := va_up (fun _ => 1) (b - 1) 0) (by omega) (fun i _ hi => by simp [va_up, hi])
  have h3 : sm_ 1200 (fun i => if i + 1 ∈ l then 1 else 0) ≤ sm_ 1200 (va_up (fun _ => 1) (b - 1) 0) := sm_le (fun i _ => by
    by_cases e : i = b - 1
    · subst e
      rw [show b - 1 + 1 = b by omega, if_neg hbl]
      omega
    · simp only [va_up, e, if_false]
      split <;> omega)
  rw [sm_c1] at h2
  have h4 : va_up (fun _ => 1) (b - 1) 0 (b - 1) = 0 := by simp [va_up]
  rw [h4] at h2
  rw [h1]
  omega
section RE
variable {w : Nat}
/-- one way of several goes -/
theorem lose_1 {R' : Nat → Nat} {Z : List Nat} {G : Sg_} {b : Nat} (hI : Ic_ w [] 16 (rt_ R' b) Z G) (hb : 2 ≤ gw_ G b) : Ic_ w [] 16 R' Z (sw_ G b (gw_ G b - 1)) := by
  generalize hG' : sw_ G b (gw_ G b - 1) = G'
  have hgw : ∀ y, gw_ G' y = if y = b then gw_ G b - 1 else gw_ G y := fun y => by rw [← hG']; rfl
  have hgl : ∀ y, gl_ G' y = gl_ G y := fun y => by rw [← hG']
  have hge : ge_ G' = ge_ G := by rw [← hG']
  have hgf : gf_ G' = gf_ G := by rw [← hG']
  have hz : ∀ y, gw_ G' y = 0 ↔ gw_ G y = 0 := fun y => by
    rw [hgw]
    by_cases e : y = b
    · rw [if_pos e, e]; omega
    · rw [if_neg e]
  refine ⟨fun y hy => ?_, ⟨by rw [hgf]; exact hI.2.1.1, fun y hy => ?_, fun y y1 y2 y3 => ?_⟩, fun y hy => ?_, fun y hy hyl => ?_⟩
  · rw [hgl]
    exact hI.1 y (by have := (hz y); omega)
  · rw [hgf] at hy
    obtain ⟨q1, q2, q3⟩ := hI.2.1.2.1 y hy
    exact ⟨q1, q2, (hz y).mpr q3⟩
  · rw [hgf]; exact hI.2.1.2.2 y y1 y2 ((hz y).mp y3)
  · have h1 := hI.2.2.1 y hy
    have h2 : eg_ G' y = eg_ G y := sm_congr (fun p _ => by simp only [hz p, hgl, hge])
    rw [h2, hgw]
    simp only [rt_] at h1
    by_cases e : y = b
    · rw [if_pos e] at h1 ⊢
      rw [← e]; omega
    · rw [if_neg e] at h1 ⊢; exact h1
  · have hy' : 1 ≤ gw_ G y := by have := (hz y); omega
    rw [hgl] at hyl
    have hv := hI.2.2.2 y hy' hyl
    refine ⟨fun h => by rw [hge]; exact hv.1 h, by rw [hge, hgl]; exact hv.2.1, fun h0 e he => ?_⟩
    rw [hgl] at h0
    rw [hge] at he ⊢
    obtain ⟨q1, q2, q3, q4⟩ := hv.2.2 h0 e he
    rw [hgl, hgl]
    refine ⟨?_, q2, q3, q4⟩
    have := (hz e.2); omega
/-- the last way goes: what the block led to has its ways from outside now -/
theorem lose_0 {R' : Nat → Nat} {Z : List Nat} {G : Sg_} {b : Nat} (hI : Ic_ w [] 16 (rt_ R' b) Z G) (hb1 : 1 ≤ b) (hb : gw_ G b = 1) : Ic_ w [] 16 (fun y => R' y + (if gl_ G b = 0 then 0 else cn_ y (ge_ G b))) (b :: Z) (sw_ G b 0) := by
  have hc := hI.2.2.1 b hb1
  have hrt : rt_ R' b b = R' b + 1 := by simp [rt_]
  have hbr := hI.1 b (by omega)
  have hno : ∀ y, 1 ≤ gw_ G y → gl_ G y ≠ 0 → ∀ e ∈ ge_ G y, e.2 ≠ b := fun y y1 y2 e he q => by
    have h2 := cn_mem he q
    have h3 := sm_one (n := 1201) (k := y) (fun p => if gw_ G p = 0 ∨ gl_ G p = 0 then 0 else cn_ b (ge_ G p)) (by have := (hI.1 y y1).2.1; omega)
    simp only [show ¬ (gw_ G y = 0 ∨ gl_ G y = 0) by omega, if_false] at h3
    have h4 : eg_ G b = sm_ 1201 (fun p => if gw_ G p = 0 ∨ gl_ G p = 0 then 0 else cn_ b (ge_ G p)) := rfl
    omega
  generalize hG' : sw_ G b 0 = G'
  have hgw : ∀ y, gw_ G' y = if y = b then 0 else gw_ G y := fun y => by rw [← hG']; rfl
  have hgl : ∀ y, gl_ G' y = gl_ G y := fun y => by rw [← hG']
  have hge : ge_ G' = ge_ G := by rw [← hG']
  have hgf : gf_ G' = gf_ G := by rw [← hG']
  refine ⟨fun y hy => ?_, ⟨by rw [hgf]; exact hI.2.1.1, fun y hy => ?_, fun y y1 y2 y3 => ?_⟩, fun y hy => ?_, fun y hy hyl => ?_⟩
  · rw [hgl]
    rw [hgw] at hy
    exact hI.1 y (by split at hy <;> omega)
  · rw [hgf] at hy
    obtain ⟨q1, q2, q3⟩ := hI.2.1.2.1 y hy
    refine ⟨q1, q2, ?_⟩
    rw [hgw]; split
    · rfl
    · exact q3
  · rw [hgf]
    rw [hgw] at y3
    by_cases e : y = b
    · exact Or.inr (by rw [e]; exact List.mem_cons_self)
    · rw [if_neg e] at y3
      rcases hI.2.1.2.2 y y1 y2 y3 with h | h
      · exact Or.inl h
      · exact Or.inr (List.mem_cons_of_mem _ h)
  · have h1 := hI.2.2.1 y hy
    have h2 := sm_up (n := 1201) (k := b) (f := fun p => if gw_ G p = 0 ∨ gl_ G p = 0 then 0 else cn_ y (ge_ G p)) (g := fun p => if gw_ G' p = 0 ∨ gl_ G' p = 0 then 0 else cn_ y (ge_ G' p)) (by omega) (fun p _ hp => by
      rw [hgw, hgl, if_neg hp, hge])
    have e1 : eg_ G y = sm_ 1201 (fun p => if gw_ G p = 0 ∨ gl_ G p = 0 then 0 else cn_ y (ge_ G p)) := rfl
    have e2 : eg_ G' y = sm_ 1201 (fun p => if gw_ G' p = 0 ∨ gl_ G' p = 0 then 0 else cn_ y (ge_ G' p)) := rfl
    have v1 : (if gw_ G b = 0 ∨ gl_ G b = 0 then 0 else cn_ y (ge_ G b)) = (if gl_ G b = 0 then 0 else cn_ y (ge_ G b)) := by
      simp only [show ¬ gw_ G b = 0 by omega, false_or]
    have v2 : (if gw_ G' b = 0 ∨ gl_ G' b = 0 then 0 else cn_ y (ge_ G' b)) = 0 := by
      rw [hgw, if_pos rfl]; simp
    rw [v1, v2, ← e1, ← e2] at h2
    rw [hgw]
    show _ = R' y + (if gl_ G b = 0 then 0 else cn_ y (ge_ G b)) + eg_ G' y
    simp only [rt_] at h1
    by_cases e : y = b
    · rw [if_pos e] at h1 ⊢
      rw [e] at h1 h2 ⊢
      omega
    · rw [if_neg e] at h1 ⊢; omega
  · rw [hgw] at hy
    have hyb : y ≠ b := fun q => by rw [if_pos q] at hy; omega
    rw [if_neg hyb] at hy
    rw [hgl] at hyl
    have hv := hI.2.2.2 y hy hyl
    refine ⟨fun h => by rw [hge]; exact hv.1 h, by rw [hge, hgl]; exact hv.2.1, fun h0 e he => ?_⟩
    rw [hgl] at h0
    rw [hge] at he ⊢
    obtain ⟨q1, q2, q3, q4⟩ := hv.2.2 h0 e he
    rw [hgl, hgl, hgw, if_neg (hno y hy h0 e he)]
    exact ⟨q1, q2, q3, q4⟩
theorem give_0 {R' : Nat → Nat} {Z : List Nat} {G : Sg_} {b : Nat} (hI : Ic_ w [] 16 R' (b :: Z) G) (hb1 : 1 ≤ b ∧ b ≤ 1200) (hb : gw_ G b = 0) (hbf : b ∉ gf_ G) : Ic_ w [] 16 R' Z (gv_ G b) := by
  generalize hG' : gv_ G b = G'
  have hgw : ∀ y, gw_ G' y = gw_ G y := fun y => by
    rw [← hG']
    show va_up G.1 b 0 y = G.1 y
    by_cases e : y = b
    · simp only [va_up, e, if_true]; exact hb.symm
    · simp [va_up, e]
  have hgl : ∀ y, y ≠ b → gl_ G' y = gl_ G y := fun y h => by rw [← hG']; simp [gl_, gv_, va_up, h]
  have hge : ∀ y, y ≠ b → ge_ G' y = ge_ G y := fun y h => by rw [← hG']; simp [ge_, gv_, va_up, h]
  have hgf : gf_ G' = gf_ G ++ [b] := by rw [← hG']
  have hub : ∀ y, 1 ≤ gw_ G y → y ≠ b := fun y hy e => by rw [e] at hy; omega
  have het : ∀ y, 1 ≤ gw_ G y → et_ (ge_ G') (gl_ G y) y = et_ (ge_ G) (gl_ G y) y := fun y y1 => by
    refine et_same (fun m y => 1 ≤ gw_ G y ∧ gl_ G y = m) (fun m y h => hge y (hub y h.1)) (fun m y h e he => ?_) _ y ⟨y1, rfl⟩
    obtain ⟨q1, q2, -, -⟩ := hI.child h.1 ((hI.1 y h.1).2.2) (by omega) he
    exact ⟨q1, by omega⟩
  refine ⟨fun y hy => ?_, ⟨?_, fun y hy => ?_, fun y y1 y2 y3 => ?_⟩, fun y hy => ?_, fun y hy hyl => ?_⟩
  · rw [hgw] at hy; rw [hgl y (hub y hy)]; exact hI.1 y hy
  · rw [hgf, List.nodup_append]
    refine ⟨hI.2.1.1, by simp, fun x hx y hy e => ?_⟩
    rw [List.mem_singleton] at hy
    rw [e, hy] at hx
    exact hbf hx
  · rw [hgf] at hy
    rw [hgw]
    rcases List.mem_append.mp hy with h | h
    · exact hI.2.1.2.1 y h
    · rw [List.mem_singleton] at h
      rw [h]; exact ⟨hb1.1, hb1.2, hb⟩
  · rw [hgw] at y3
    rw [hgf]
    rcases hI.2.1.2.2 y y1 y2 y3 with h | h
    · exact Or.inl (List.mem_append_left _ h)
    · rcases List.mem_cons.mp h with h | h
      · exact Or.inl (List.mem_append_right _ (by rw [h]; exact List.mem_singleton.mpr rfl))
      · exact Or.inr h
  · rw [hgw]
    have h1 := hI.2.2.1 y hy
    have h2 : eg_ G' y = eg_ G y := sm_congr (fun p _ => by
      rw [hgw]
      by_cases e : p = b
      · rw [e]; simp [hb]
      · rw [hgl p e, hge p e])
    rw [h2]; exact h1
  · rw [hgw] at hy
    have hyb := hub y hy
    rw [hgl y hyb] at hyl
    have hv := hI.2.2.2 y hy hyl
    refine ⟨fun h => by rw [hge y hyb]; exact hv.1 h, by rw [hgl y hyb, het y hy]; exact hv.2.1, fun h0 e he => ?_⟩
    rw [hgl y hyb] at h0
    rw [hge y hyb] at he
    obtain ⟨q1, q2, q3, q4⟩ := hv.2.2 h0 e he
    have hne := hub e.2 q1
    rw [hgw, hgl y hyb, hgl _ hne, hge _ hne]
    exact ⟨q1, q2, q3, q4⟩
theorem Rl_sw {G : Sg_} {b n : Nat} (h0 : 1 ≤ gw_ G b) (h : n ≤ gw_ G b) : Rl_ G (sw_ G b n) := by
  have hgw : ∀ y, gw_ (sw_ G b n) y = if y = b then n else gw_ G y := fun _ => rfl
  refine ⟨fun y hy => ⟨?_, rfl, rfl⟩, fun y hy => ⟨?_, rfl, rfl⟩, fun y => ?_, fun y hy => Or.inl hy⟩
  · rw [hgw] at hy
    by_cases e : y = b
    · rw [e]; exact h0
    · rw [if_neg e] at hy; exact hy
  · rw [hgw, if_neg (fun e => by rw [e] at hy; omega)]; exact hy
  · rw [hgw]
    by_cases e : y = b
    · rw [if_pos e, e]; exact h
    · rw [if_neg e]; exact Nat.le_refl _
theorem p_releaseBelow (hw : 5 ≤ w ∧ w ≤ 32) :
    ∀ (l d b : Nat) (R' : Nat → Nat) (Z : List Nat) (G : Sg_) (st : St_) (post : St_ → Prop), l < d → Rp_ w st G → Ic_ w [] 16 (rt_ R' b) Z G → (∀ y, gw_ G y < 2 ^ 31) → (∀ z ∈ Z, z ∉ gf_ G ∧ gw_ G z = 0) → 1 ≤ b → gl_ G b = l →
    (∀ st' G', Rp_ w st' G' → Fr_ st st' → Ic_ w [] 16 R' Z G' → Rl_ G G' → post st') → wp_T_releaseBelow w d (nI b) (nI l) st post := by
  intro l
  induction l with
  | zero =>
    intro d b R' Z G st post hd hR hI hwb hZ hb hbl k
    obtain ⟨d, rfl⟩ : ∃ q, d = q + 1 := ⟨d - 1, by omega⟩
    have hc := hI.2.2.1 b hb
    have hrt : rt_ R' b b = R' b + 1 := by simp [rt_]
    have hu : 1 ≤ gw_ G b := by omega
    obtain ⟨b1, b2, b3⟩ := hI.1 b hu
    show (_ → _) ∧ (_ → _)
    refine br_f (by decide) (br_f (by decide) ?_)
    refine p_lose hR ⟨b1, b2⟩ hu (hwb b) (fun s1 hR1 hF1 => ?_)
    by_cases h1 : gw_ G b = 1
    · rw [if_pos h1]
      refine rb_t (by decide) (br_t (by decide) ?_)
      rw [h1] at hR1
      have hI1 := lose_0 hI hb h1
      simp only [hbl, if_true, Nat.add_zero] at hI1
      have hbf : b ∉ gf_ G := fun h => by have := (hI.2.1.2.1 b h).2.2; omega
      have hgw0 : gw_ (sw_ G b 0) b = 0 := by simp [gw_, sw_, va_up]
      refine p_give hR1 (nd_lt (l := gf_ G) hI.2.1.1 (fun y hy => ⟨(hI.2.1.2.1 y hy).1, (hI.2.1.2.1 y hy).2.1⟩) ⟨b1, b2⟩ hbf) ⟨b1, b2⟩ (fun s2 hR2 hF2 => ?_)
      have hI2 := give_0 hI1 ⟨b1, b2⟩ hgw0 hbf
      refine k s2 _ hR2 (hF1.tr hF2) hI2 ?_
      have hgw : ∀ y, gw_ (gv_ (sw_ G b 0) b) y = if y = b then 0 else gw_ G y := fun y => by
        show va_up (va_up G.1 b 0) b 0 y = _
        by_cases e : y = b
        · simp [va_up, e]
        · simp [va_up, e]
      refine ⟨fun y hy => ?_, fun y hy => ?_, fun y => ?_, fun y hy => ?_⟩
      · rw [hgw] at hy
        have e : y ≠ b := fun q => by rw [if_pos q] at hy; omega
        rw [if_neg e] at hy
        exact ⟨hy, by simp [ge_, gv_, sw_, va_up, e], by simp [gl_, gv_, sw_, va_up, e]⟩
      · have e : y ≠ b := fun q => by rw [q] at hy; omega
        exact ⟨by rw [hgw, if_neg e]; exact hy, by simp [ge_, gv_, sw_, va_up, e], by simp [gl_, gv_, sw_, va_up, e]⟩
      · rw [hgw]; split <;> omega
      · have hy' : y ∈ gf_ G ++ [b] := hy
        rcases List.mem_append.mp hy' with h | h
        · exact Or.inl h
        · rw [List.mem_singleton] at h
          exact Or.inr (by rw [h]; exact hu)
    · rw [if_neg h1]
      exact rb_f rfl (k s1 _ hR1 hF1 (lose_1 hI (by omega)) (Rl_sw hu (by omega)))
  | succ l ih =>
    intro d b R' Z G st post hd hR hI hwb hZ hb hbl k
    obtain ⟨d, rfl⟩ : ∃ q, d = q + 1 := ⟨d - 1, by omega⟩
    have hc := hI.2.2.1 b hb
    have hrt : rt_ R' b b = R' b + 1 := by simp [rt_]
    have hu : 1 ≤ gw_ G b := by omega
    obtain ⟨b1, b2, b3⟩ := hI.1 b hu
    have hlw := (hR.1 b b1 b2).2.2.2.1
    show (_ → _) ∧ (_ → _)
    refine br_f (nI_pos (by omega)) (br_f (nI_nlt (a := 16) (by omega) (by omega)) ?_)
    refine p_lose hR ⟨b1, b2⟩ hu (hwb b) (fun s1 hR1 hF1 => ?_)
    by_cases h1 : gw_ G b = 1
    · rw [if_pos h1]
      refine rb_t (by decide) (br_f (nI_nle (by omega) (by omega)) ?_)
      rw [h1] at hR1
      have hI1 := lose_0 hI hb h1
      simp only [show ¬ gl_ G b = 0 by omega, if_false] at hI1
      have hbf : b ∉ gf_ G := fun h => by have := (hI.2.1.2.1 b h).2.2; omega
      have hkids : ∀ e ∈ ge_ G b, gl_ G e.2 = l := fun e he => by
        have := (hI.child hu b3 (by omega) he).2.1; omega
      -- the loop over the children
      have hloop : ∀ (m i : Nat) (s2 : St_) (G2 : Sg_), i ≤ (ge_ G b).length → (ge_ G b).length < m + i → Rp_ w s2 G2 → Fr_ st s2 → Ic_ w [] 16 (fun y => R' y + cn_ y ((ge_ G b).drop i)) (b :: Z) G2 → Rl_ (sw_ G b 0) G2 → wp_T_releaseBelow_28 w (wp_T_releaseBelow w d) post m (nI b) (nI (l + 1)) (nI i) s2 := by
        intro m
        induction m with
        | zero => intro i s2 G2 h2 h3; omega
        | succ m ihm =>
          intro i s2 G2 hi hm hR2 hF2 hI2 hRl
          have hgw0 : gw_ (sw_ G b 0) b = 0 := by simp [gw_, sw_, va_up]
          obtain ⟨z1, z2, z3⟩ := hRl.2.1 b hgw0
          have hgeb : ge_ G2 b = ge_ G b := z2
          have hbf2 : b ∉ gf_ G2 := fun h => by
            rcases hRl.2.2.2 b h with q | q
            · exact hbf q
            · omega
          refine p_size hR2 ⟨b1, b2⟩ ?_
          rw [hgeb]
          refine pk_le (ge_ G b).length i (fun hle => ?_) (fun hlt => ?_) rfl rfl (by omega) (by omega)
          · have hie : i = (ge_ G b).length := by omega
            rw [hie, List.drop_length] at hI2
            simp only [cn_, Nat.add_zero] at hI2
            refine p_give hR2 (nd_lt (l := gf_ G2) hI2.2.1.1 (fun y hy => ⟨(hI2.2.1.2.1 y hy).1, (hI2.2.1.2.1 y hy).2.1⟩) ⟨b1, b2⟩ hbf2) ⟨b1, b2⟩ (fun s3 hR3 hF3 => ?_)
            have hI3 := give_0 hI2 ⟨b1, b2⟩ z1 hbf2
            refine k s3 _ hR3 (hF2.tr hF3) hI3 ?_
            have hRl2 := (Rl_sw (n := 0) hu (by omega)).tr hRl
            have hgw : ∀ y, gw_ (gv_ G2 b) y = gw_ G2 y := fun y => by
              show va_up G2.1 b 0 y = G2.1 y
              by_cases e : y = b
              · simp only [va_up, e, if_true]; exact z1.symm
              · simp [va_up, e]
            refine ⟨fun y hy => ?_, fun y hy => ?_, fun y => by rw [hgw]; exact hRl2.2.2.1 y, fun y hy => ?_⟩
            · rw [hgw] at hy
              have e : y ≠ b := fun q => by rw [q] at hy; omega
              obtain ⟨x1, x2, x3⟩ := hRl2.1 y hy
              refine ⟨x1, ?_, ?_⟩
              · rw [← x2]; simp [ge_, gv_, va_up, e]
              · rw [← x3]; simp [gl_, gv_, va_up, e]
            · have e : y ≠ b := fun q => by rw [q] at hy; omega
              obtain ⟨x1, x2, x3⟩ := hRl2.2.1 y hy
              refine ⟨by rw [hgw]; exact x1, ?_, ?_⟩
              · rw [← x2]; simp [ge_, gv_, va_up, e]
              · rw [← x3]; simp [gl_, gv_, va_up, e]
            · have hy' : y ∈ gf_ G2 ++ [b] := hy
              rcases List.mem_append.mp hy' with h | h
              · exact hRl2.2.2.2 y h
              · rw [List.mem_singleton] at h
                exact Or.inr (by rw [h]; exact hu)
          · have hi2 : i < (ge_ G2 b).length := by rw [hgeb]; exact hlt
            refine p_goal hw hR2 ⟨b1, b2⟩ hi2 ?_
            rw [hgeb, show nI (l + 1) - 1 = nI l from nI_pred l]
            have hdrop : (ge_ G b).drop i = (ge_ G b).getD i (0, 0) :: (ge_ G b).drop (i + 1) := by
              rw [List.drop_eq_getElem_cons hlt, List.getD_eq_getElem?_getD, List.getElem?_eq_getElem hlt]
              rfl
            have hI2' : Ic_ w [] 16 (rt_ (fun y => R' y + cn_ y ((ge_ G b).drop (i + 1))) ((ge_ G b).getD i (0, 0)).2) (b :: Z) G2 := by
              have : (fun y => R' y + cn_ y ((ge_ G b).drop i)) = rt_ (fun y => R' y + cn_ y ((ge_ G b).drop (i + 1))) ((ge_ G b).getD i (0, 0)).2 := by
                funext y
                rw [hdrop]
                simp only [cn_, rt_]
                rw [show (if ((ge_ G b).getD i (0, 0)).2 = y then 1 else 0) = (if y = ((ge_ G b).getD i (0, 0)).2 then 1 else 0) by simp only [eq_comm]]
                omega
              rw [← this]; exact hI2
            have hcu : 1 ≤ gw_ G ((ge_ G b).getD i (0, 0)).2 := (hI.child hu b3 (by omega) (gd_mem hlt)).1
            have hc1 := (hI.1 _ hcu).1
            have hcu2 : 1 ≤ gw_ G2 ((ge_ G b).getD i (0, 0)).2 := by
              have := hI2'.2.2.1 _ hc1
              simp only [rt_, if_true] at this
              omega
            refine ih d _ _ (b :: Z) G2 s2 _ (by omega) hR2 hI2' (fun y => Nat.lt_of_le_of_lt (Nat.le_trans (hRl.2.2.1 y) ((Rl_sw (n := 0) hu (by omega)).2.2.1 y)) (hwb y)) (fun z hz => ?_) hc1 ?_ (fun s3 G3 hR3 hF3 hI3 hRl3 => ?_)
            · rcases List.mem_cons.mp hz with h | h
              · rw [h]; exact ⟨hbf2, z1⟩
              · obtain ⟨q1, q2⟩ := hZ z h
                have hzb : z ≠ b := fun q => by rw [q] at q2; omega
                have hsz : gw_ (sw_ G b 0) z = 0 := by
                  show va_up G.1 b 0 z = 0
                  simp only [va_up, hzb, if_false]; exact q2
                refine ⟨fun hf => ?_, (hRl.2.1 z hsz).1⟩
                rcases hRl.2.2.2 z hf with q | q
                · exact q1 q
                · omega
            · rw [((Rl_sw (n := 0) hu (by omega)).tr hRl).1 _ hcu2 |>.2.2]
              exact hkids _ (gd_mem hlt)
            · intro y hy
              rw [hy, nI_1]
              exact ihm (i + 1) s3 G3 (by omega) (by omega) hR3 (hF2.tr hF3) hI3 (hRl.tr hRl3)
      exact ⟨(ge_ G b).length + 1, hloop _ 0 s1 _ (Nat.zero_le _) (by omega) hR1 hF1 (by rw [List.drop_zero]; exact hI1) Rl_.rf⟩
    · rw [if_neg h1]
      exact rb_f rfl (k s1 _ hR1 hF1 (lose_1 hI (by omega)) (Rl_sw hu (by omega)))
theorem p_release {b : Nat} {R' : Nat → Nat} {G : Sg_} {st : St_} {post : St_ → Prop} (hw : 5 ≤ w ∧ w ≤ 32) (hR : Rp_ w st G) (hI : Ic_ w [] 16 (rt_ R' b) [] G) (hr : ∀ y, R' y ≤ 900) (hb : 1 ≤ b)
    (k : ∀ st' G', Rp_ w st' G' → Fr_ st st' → Ic_ w [] 16 R' [] G' → (∀ y, 1 ≤ y → 1 ≤ R' y → ge_ G' y = ge_ G y ∧ gl_ G' y = gl_ G y ∧ et_ (ge_ G') (gl_ G y) y = et_ (ge_ G) (gl_ G y) y) → post st') : wp_T_release w (nI b) st post := by
  unfold wp_T_release
  have hc := hI.2.2.1 b hb
  have hrt : rt_ R' b b = R' b + 1 := by simp [rt_]
  have hu : 1 ≤ gw_ G b := by omega
  obtain ⟨b1, b2, b3⟩ := hI.1 b hu
  refine p_level hR ⟨b1, b2⟩ ?_
  refine p_releaseBelow hw (gl_ G b) 20 b R' [] G st _ (by omega) hR hI (fun y => ?_) (fun z hz => by simp at hz) hb rfl (fun s1 G1 hR1 hF1 hI1 hRl => ?_)
  · rcases Nat.eq_zero_or_pos (gw_ G y) with h | h
    · omega
    · have := gw_bd hw hR hI (fun y => by have := hr y; simp only [rt_]; split <;> omega) y h; omega
  · refine k s1 G1 hR1 hF1 hI1 (fun y y1 y2 => ?_)
    have hu1 : 1 ≤ gw_ G1 y := by have := hI1.2.2.1 y y1; omega
    obtain ⟨x1, x2, x3⟩ := hRl.1 y hu1
    refine ⟨x2, x3, ?_⟩
    have := et_same (E := ge_ G) (E' := ge_ G1) (fun m y => 1 ≤ gw_ G1 y ∧ gl_ G1 y = m) (fun m y h => (hRl.1 y h.1).2.1) (fun m y h e he => by
      rw [← (hRl.1 y h.1).2.1] at he
      obtain ⟨q1, q2, -, -⟩ := hI1.child h.1 ((hI1.1 y h.1).2.2) (by omega) he
      exact ⟨q1, by omega⟩) (gl_ G y) y ⟨hu1, x3⟩
    exact this
theorem p_release0 {st : St_} {post : St_ → Prop} (k : post st) : wp_T_release w 0 st post := by
  unfold wp_T_release
  refine p_level0 ?_
  show (_ → _) ∧ (_ → _)
  refine br_f (by decide) (br_f (by decide) ?_)
  unfold wp_B_lose
  exact p_isBlock0 (br_t rfl (rb_f rfl k))
end RE
end
section
-- PURE: all maps: the roots, how many keys they have
theorem vu_ne {α : Type} {f : Nat → α} {k j : Nat} {v : α} (h : j ≠ k) : va_up f k v j = f j := by simp [va_up, h]
def RR_ (rn rk : Nat → Nat) : Nat → Nat := fun y => sm_ 8 (fun i => if rn i = y then 1 else 0) + sm_ 8 (fun i => if rk i = y then 1 else 0)
def RM_ (rn rk : Nat → Nat) (m : Nat) : Nat → Nat := fun y => sm_ 8 (fun i => if i = m then 0 else if rn i = y then 1 else 0) + sm_ 8 (fun i => if rk i = y then 1 else 0)
theorem RR_comm (rn rk : Nat → Nat) : RR_ rn rk = RR_ rk rn := by funext y; simp only [RR_]; omega
theorem RR_rt {rn rk : Nat → Nat} {m : Nat} (hm : m < 8) : RR_ rn rk = rt_ (RM_ rn rk m) (rn m) := by
  funext y
  have h := sm_up (n := 8) (k := m) (f := fun i => if i = m then 0 else if rn i = y then 1 else 0) (g := fun i => if rn i = y then 1 else 0) hm (fun i _ hi => by simp [hi])
  simp only [if_true] at h
  simp only [RR_, RM_, rt_]
  rw [show (if y = rn m then 1 else 0) = (if rn m = y then 1 else 0) by simp only [eq_comm]]
  omega
theorem RM_up {rn rk : Nat → Nat} {m r : Nat} : RM_ (va_up rn m r) rk m = RM_ rn rk m := by
  funext y
  simp only [RM_]
  congr 1
  refine sm_congr (fun i _ => ?_)
  by_cases e : i = m
  · simp [e]
  · simp [e, va_up]
theorem RR_up {rn rk : Nat → Nat} {m r : Nat} (hm : m < 8) : RR_ (va_up rn m r) rk = rt_ (RM_ rn rk m) r := by
  rw [RR_rt hm, RM_up, va_up_self]
theorem sm_le8 {n : Nat} {f : Nat → Nat} (h : ∀ i, i < n → f i ≤ 1) : sm_ n f ≤ n := by
  have := sum_le_mul n 1 f h; omega
theorem RM_le (rn rk : Nat → Nat) (m y : Nat) : RM_ rn rk m y ≤ 900 := by
  have h1 : sm_ 8 (fun i => if i = m then 0 else if rn i = y then 1 else 0) ≤ 8 := sm_le8 (fun i _ => by split <;> (try split) <;> omega)
  have h2 : sm_ 8 (fun i => if rk i = y then 1 else 0) ≤ 8 := sm_le8 (fun i _ => by split <;> omega)
  simp only [RM_]; omega
theorem RR_pos {rn rk : Nat → Nat} {y : Nat} (h : 1 ≤ RR_ rn rk y) : ∃ i, i < 8 ∧ (rn i = y ∨ rk i = y) := by
  simp only [RR_] at h
  by_cases h1 : 1 ≤ sm_ 8 (fun i => if rn i = y then 1 else 0)
  · obtain ⟨i, hi, h2⟩ := sm_pos h1
    refine ⟨i, hi, Or.inl ?_⟩
    by_cases e : rn i = y
    · exact e
    · simp [e] at h2
  · obtain ⟨i, hi, h2⟩ := sm_pos (show 1 ≤ sm_ 8 (fun i => if rk i = y then 1 else 0) by omega)
    refine ⟨i, hi, Or.inr ?_⟩
    by_cases e : rk i = y
    · exact e
    · simp [e] at h2
theorem RM_n {rn rk : Nat → Nat} {m j : Nat} (hj : j < 8) (hne : j ≠ m) : 1 ≤ RM_ rn rk m (rn j) := by
  have := sm_one (n := 8) (k := j) (fun i => if i = m then 0 else if rn i = rn j then 1 else 0) hj
  simp only [hne, if_false, if_true] at this
  simp only [RM_]; omega
theorem RM_k {rn rk : Nat → Nat} {m j : Nat} (hj : j < 8) : 1 ≤ RM_ rn rk m (rk j) := by
  have := sm_one (n := 8) (k := j) (fun i => if rk i = rk j then 1 else 0) hj
  simp only [if_true] at this
  simp only [RM_]; omega
def ok_ (G : Sg_) (b : Nat) : Prop := 1 ≤ b → gl_ G b = 0 ∨ 2 ≤ (ge_ G b).length
abbrev ln_ (G : Sg_) (r : Nat → Nat) : Nat → Nat := fun i => (tr_ G (r i)).length
/-- the arrays hold eight maps now and eight that were kept -/
def T0_ (w : Nat) (st : St_) (G : Sg_) (rn rk : Nat → Nat) : Prop :=
  Rp_ w st G ∧ Ic_ w [] 16 (RR_ rn rk) [] G ∧
  (∀ i, i < 8 → rn i ≤ 1200 ∧ st 10 i = nI (rn i) ∧ st 11 i = nI (ln_ G rn i) ∧ ok_ G (rn i)) ∧
  (∀ i, i < 8 → rk i ≤ 1200 ∧ st 12 i = nI (rk i) ∧ st 13 i = nI (ln_ G rk i) ∧ ok_ G (rk i)) ∧
  st 19 0 = nI (sm_ 8 (ln_ G rn)) ∧ st 20 0 = nI (sm_ 8 (ln_ G rk))
def T1_ (w : Nat) (st : St_) (G : Sg_) (rn rk : Nat → Nat) : Prop := T0_ w st G rn rk ∧ sm_ 8 (ln_ G rn) ≤ 600 ∧ sm_ 8 (ln_ G rk) ≤ 600
section TP
variable {w : Nat} {st : St_} {G : Sg_} {rn rk : Nat → Nat}
theorem sum_roots {r : Nat → Nat} (hr : ∀ i, i < 8 → r i ≤ 1200) : sm_ 1201 (fun y => if y = 0 then 0 else sm_ 8 (fun i => if r i = y then 1 else 0) * kp_ G y) = sm_ 8 (ln_ G r) := by
  have h1 : sm_ 1201 (fun y => if y = 0 then 0 else sm_ 8 (fun i => if r i = y then 1 else 0) * kp_ G y) = sm_ 1201 (fun y => sm_ 8 (fun i => (if r i = y then (tr_ G y).length else 0))) := by
    refine sm_congr (fun y _ => ?_)
    by_cases e : y = 0
    · subst e
      rw [if_pos rfl]
      refine (sm_0 (fun i _ => ?_)).symm
      split <;> rfl
    · rw [if_neg e, ← sm_mul]
      refine sm_congr (fun i _ => ?_)
      rw [tr_1 (by omega)]
      split <;> simp
  rw [h1, sm_swap]
  refine sm_congr (fun i hi => ?_)
  have h2 := sm_up (n := 1201) (k := r i) (f := fun _ => 0) (g := fun y => if r i = y then (tr_ G y).length else 0) (by have := hr i hi; omega) (fun y _ hy => by simp [Ne.symm hy])
  rw [sm_0 (f := fun _ => 0) (fun _ _ => rfl)] at h2
  simp only [if_true] at h2
  show _ = (tr_ G (r i)).length
  omega
theorem T0_.sum (h : T0_ w st G rn rk) : sm_ 1201 (fun y => if y = 0 then 0 else RR_ rn rk y * kp_ G y) = sm_ 8 (ln_ G rn) + sm_ 8 (ln_ G rk) := by
  rw [← sum_roots (fun i hi => (h.2.2.1 i hi).1), ← sum_roots (fun i hi => (h.2.2.2.1 i hi).1), ← sm_add]
  refine sm_congr (fun y _ => ?_)
  by_cases e : y = 0
  · simp [e]
  · simp only [e, if_false, RR_, Nat.add_mul]
theorem T0_.roots (h : T0_ w st G rn rk) : ∀ b, 1 ≤ b → 1 ≤ RR_ rn rk b → gl_ G b = 0 ∨ 2 ≤ (ge_ G b).length := fun b hb hr => by
  obtain ⟨i, hi, h1 | h1⟩ := RR_pos hr
  · have := (h.2.2.1 i hi).2.2.2; rw [h1] at this; exact this hb
  · have := (h.2.2.2.1 i hi).2.2.2; rw [h1] at this; exact this hb
theorem Rp_.cong {st' : St_} (hR : Rp_ w st G) (h : ∀ k, k < 6 ∨ k = 18 → st' k = st k) : Rp_ w st' G := by
  obtain ⟨h1, h2, h3, h4, h5, hz0⟩ := hR
  refine ⟨fun b b1 b2 => ?_, h2, by rw [h 18 (by omega)]; exact h3, h4, fun i hi => by rw [h 5 (by omega)]; exact h5 i hi, by rw [h 2 (by omega)]; exact hz0⟩
  rw [h 0 (by omega), h 1 (by omega), h 2 (by omega), h 3 (by omega), h 4 (by omega)]
  exact h1 b b1 b2
theorem Ic_.congR {R R' : Nat → Nat} {X : List Nat} {l : Nat} {Z : List Nat} (hI : Ic_ w X l R Z G) (h : ∀ y, 1 ≤ y → R' y = R y) : Ic_ w X l R' Z G :=
  ⟨hI.1, hI.2.1, fun b hb => by rw [h b hb]; exact hI.2.2.1 b hb, hI.2.2.2⟩
theorem T0_.swap (h : T0_ w st G rn rk) : Ic_ w [] 16 (RR_ rk rn) [] G := by rw [RR_comm]; exact h.2.1
/-- one map's root has changed -/
theorem T0_set {st1 st2 : St_} {G' : Sg_} {m r : Nat} (h : T0_ w st G rn rk) (hm : m < 8) (hR : Rp_ w st1 G') (hF : Fr_ st st1) (hI : Ic_ w [] 16 (rt_ (RM_ rn rk m) r) [] G') (hr : r ≤ 1200) (hok : ok_ G' r)
    (hfr : ∀ y, 1 ≤ y → 1 ≤ RM_ rn rk m y → ge_ G' y = ge_ G y ∧ gl_ G' y = gl_ G y ∧ et_ (ge_ G') (gl_ G y) y = et_ (ge_ G) (gl_ G y) y)
    (e10 : st2 10 m = nI r) (e10' : ∀ i, i ≠ m → st2 10 i = st 10 i) (e11 : st2 11 m = nI (tr_ G' r).length) (e11' : ∀ i, i ≠ m → st2 11 i = st 11 i) (e19 : ∀ s : Nat, s + (tr_ G (rn m)).length = sm_ 8 (ln_ G rn) + (tr_ G' r).length → st2 19 0 = nI s) (eo : ∀ k, k ≠ 10 → k ≠ 11 → k ≠ 19 → st2 k = st1 k) :
    T0_ w st2 G' (va_up rn m r) rk ∧ (∀ j, j < 8 → j ≠ m → tr_ G' (rn j) = tr_ G (rn j)) ∧ (∀ j, j < 8 → tr_ G' (rk j) = tr_ G (rk j)) ∧ sm_ 8 (ln_ G' (va_up rn m r)) + (tr_ G (rn m)).length = sm_ 8 (ln_ G rn) + (tr_ G' r).length := by
  obtain ⟨h1, h2, h3, h4, h5, h6⟩ := h
  have hn : ∀ j, j < 8 → j ≠ m → tr_ G' (rn j) = tr_ G (rn j) ∧ (ok_ G (rn j) → ok_ G' (rn j)) := fun j hj hne => by
    by_cases e : rn j = 0
    · rw [e]; exact ⟨rfl, fun _ q => by omega⟩
    · obtain ⟨q1, q2, q3⟩ := hfr (rn j) (by omega) (RM_n hj hne)
      rw [tr_1 (by omega), tr_1 (by omega), q2]
      refine ⟨q3, fun q _ => ?_⟩
      rw [q1, q2]; exact q (by omega)
  have hk : ∀ j, j < 8 → tr_ G' (rk j) = tr_ G (rk j) ∧ (ok_ G (rk j) → ok_ G' (rk j)) := fun j hj => by
    by_cases e : rk j = 0
    · rw [e]; exact ⟨rfl, fun _ q => by omega⟩
    · obtain ⟨q1, q2, q3⟩ := hfr (rk j) (by omega) (RM_k hj)
      rw [tr_1 (by omega), tr_1 (by omega), q2]
      refine ⟨q3, fun q _ => ?_⟩
      rw [q1, q2]; exact q (by omega)
  have hsum : sm_ 8 (ln_ G' (va_up rn m r)) + (tr_ G (rn m)).length = sm_ 8 (ln_ G rn) + (tr_ G' r).length := by
    have := sm_up (n := 8) (k := m) (f := ln_ G rn) (g := ln_ G' (va_up rn m r)) hm (fun i hi hne => by
      show (tr_ G' (va_up rn m r i)).length = (tr_ G (rn i)).length
      rw [vu_ne hne, (hn i hi hne).1])
    have e : ln_ G' (va_up rn m r) m = (tr_ G' r).length := by
      show (tr_ G' (va_up rn m r m)).length = _
      rw [va_up_self]
    rw [e] at this
    exact this
  have hsumk : sm_ 8 (ln_ G' rk) = sm_ 8 (ln_ G rk) := sm_congr (fun i hi => by
    show (tr_ G' (rk i)).length = (tr_ G (rk i)).length
    rw [(hk i hi).1])
  have hA : ∀ i, i < 8 → va_up rn m r i ≤ 1200 ∧ st2 10 i = nI (va_up rn m r i) ∧ st2 11 i = nI (ln_ G' (va_up rn m r) i) ∧ ok_ G' (va_up rn m r i) := fun i hi => by
    by_cases e : i = m
    · subst e
      show va_up rn i r i ≤ 1200 ∧ st2 10 i = nI (va_up rn i r i) ∧ st2 11 i = nI (tr_ G' (va_up rn i r i)).length ∧ _
      rw [va_up_self]
      exact ⟨hr, e10, e11, hok⟩
    · obtain ⟨q1, q2, q3, q4⟩ := h3 i hi
      show va_up rn m r i ≤ 1200 ∧ st2 10 i = nI (va_up rn m r i) ∧ st2 11 i = nI (tr_ G' (va_up rn m r i)).length ∧ _
      rw [vu_ne e, e10' i e, e11' i e, (hn i hi e).1]
      exact ⟨q1, q2, q3, (hn i hi e).2 q4⟩
  have hB : ∀ i, i < 8 → rk i ≤ 1200 ∧ st2 12 i = nI (rk i) ∧ st2 13 i = nI (ln_ G' rk i) ∧ ok_ G' (rk i) := fun i hi => by
    obtain ⟨q1, q2, q3, q4⟩ := h4 i hi
    show _ ∧ _ ∧ st2 13 i = nI (tr_ G' (rk i)).length ∧ _
    rw [eo 12 (by decide) (by decide) (by decide), eo 13 (by decide) (by decide) (by decide), hF 12 (by decide) (by decide), hF 13 (by decide) (by decide), (hk i hi).1]
    exact ⟨q1, q2, q3, (hk i hi).2 q4⟩
  refine ⟨⟨hR.cong (fun k hk => eo k (by omega) (by omega) (by omega)), by rw [RR_up hm]; exact hI, hA, hB, e19 _ hsum, by rw [eo 20 (by decide) (by decide) (by decide), hF 20 (by decide) (by decide), hsumk]; exact h6⟩, fun j hj hne => (hn j hj hne).1, fun j hj => (hk j hj).1, hsum⟩
/-- one map's root has changed -/
theorem T0_setk {st1 st2 : St_} {G' : Sg_} {m r : Nat} (h : T0_ w st G rn rk) (hm : m < 8) (hR : Rp_ w st1 G') (hF : Fr_ st st1) (hI : Ic_ w [] 16 (rt_ (RM_ rk rn m) r) [] G') (hr : r ≤ 1200) (hok : ok_ G' r)
    (hfr : ∀ y, 1 ≤ y → 1 ≤ RM_ rk rn m y → ge_ G' y = ge_ G y ∧ gl_ G' y = gl_ G y ∧ et_ (ge_ G') (gl_ G y) y = et_ (ge_ G) (gl_ G y) y)
    (e10 : st2 12 m = nI r) (e10' : ∀ i, i ≠ m → st2 12 i = st 12 i) (e11 : st2 13 m = nI (tr_ G' r).length) (e11' : ∀ i, i ≠ m → st2 13 i = st 13 i) (e19 : ∀ s : Nat, s + (tr_ G (rk m)).length = sm_ 8 (ln_ G rk) + (tr_ G' r).length → st2 20 0 = nI s) (eo : ∀ k, k ≠ 12 → k ≠ 13 → k ≠ 20 → st2 k = st1 k) :
    T0_ w st2 G' rn (va_up rk m r) ∧ (∀ j, j < 8 → j ≠ m → tr_ G' (rk j) = tr_ G (rk j)) ∧ (∀ j, j < 8 → tr_ G' (rn j) = tr_ G (rn j)) ∧ sm_ 8 (ln_ G' (va_up rk m r)) + (tr_ G (rk m)).length = sm_ 8 (ln_ G rk) + (tr_ G' r).length := by
  obtain ⟨h1, h2, h3, h4, h5, h6⟩ := h
  have hn : ∀ j, j < 8 → j ≠ m → tr_ G' (rk j) = tr_ G (rk j) ∧ (ok_ G (rk j) → ok_ G' (rk j)) := fun j hj hne => by
    by_cases e : rk j = 0
    · rw [e]; exact ⟨rfl, fun _ q => by omega⟩
    · obtain ⟨q1, q2, q3⟩ := hfr (rk j) (by omega) (RM_n hj hne)
      rw [tr_1 (by omega), tr_1 (by omega), q2]
      refine ⟨q3, fun q _ => ?_⟩
      rw [q1, q2]; exact q (by omega)
  have hk : ∀ j, j < 8 → tr_ G' (rn j) = tr_ G (rn j) ∧ (ok_ G (rn j) → ok_ G' (rn j)) := fun j hj => by
    by_cases e : rn j = 0
    · rw [e]; exact ⟨rfl, fun _ q => by omega⟩
    · obtain ⟨q1, q2, q3⟩ := hfr (rn j) (by omega) (RM_k hj)
      rw [tr_1 (by omega), tr_1 (by omega), q2]
      refine ⟨q3, fun q _ => ?_⟩
      rw [q1, q2]; exact q (by omega)
  have hsum : sm_ 8 (ln_ G' (va_up rk m r)) + (tr_ G (rk m)).length = sm_ 8 (ln_ G rk) + (tr_ G' r).length := by
    have := sm_up (n := 8) (k := m) (f := ln_ G rk) (g := ln_ G' (va_up rk m r)) hm (fun i hi hne => by
      show (tr_ G' (va_up rk m r i)).length = (tr_ G (rk i)).length
      rw [vu_ne hne, (hn i hi hne).1])
    have e : ln_ G' (va_up rk m r) m = (tr_ G' r).length := by
      show (tr_ G' (va_up rk m r m)).length = _
      rw [va_up_self]
    rw [e] at this
    exact this
  have hsumk : sm_ 8 (ln_ G' rn) = sm_ 8 (ln_ G rn) := sm_congr (fun i hi => by
    show (tr_ G' (rn i)).length = (tr_ G (rn i)).length
    rw [(hk i hi).1])
  have hA : ∀ i, i < 8 → va_up rk m r i ≤ 1200 ∧ st2 12 i = nI (va_up rk m r i) ∧ st2 13 i = nI (ln_ G' (va_up rk m r) i) ∧ ok_ G' (va_up rk m r i) := fun i hi => by
    by_cases e : i = m
    · subst e
      show va_up rk i r i ≤ 1200 ∧ st2 12 i = nI (va_up rk i r i) ∧ st2 13 i = nI (tr_ G' (va_up rk i r i)).length ∧ _
      rw [va_up_self]
      exact ⟨hr, e10, e11, hok⟩
    · obtain ⟨q1, q2, q3, q4⟩ := h4 i hi
      show va_up rk m r i ≤ 1200 ∧ st2 12 i = nI (va_up rk m r i) ∧ st2 13 i = nI (tr_ G' (va_up rk m r i)).length ∧ _
      rw [vu_ne e, e10' i e, e11' i e, (hn i hi e).1]
      exact ⟨q1, q2, q3, (hn i hi e).2 q4⟩
  have hB : ∀ i, i < 8 → rn i ≤ 1200 ∧ st2 10 i = nI (rn i) ∧ st2 11 i = nI (ln_ G' rn i) ∧ ok_ G' (rn i) := fun i hi => by
    obtain ⟨q1, q2, q3, q4⟩ := h3 i hi
    show _ ∧ _ ∧ st2 11 i = nI (tr_ G' (rn i)).length ∧ _
    rw [eo 10 (by decide) (by decide) (by decide), eo 11 (by decide) (by decide) (by decide), hF 10 (by decide) (by decide), hF 11 (by decide) (by decide), (hk i hi).1]
    exact ⟨q1, q2, q3, (hk i hi).2 q4⟩
  refine ⟨⟨hR.cong (fun k hk => eo k (by omega) (by omega) (by omega)), by rw [RR_comm, RR_up hm]; exact hI, hB, hA, by rw [eo 19 (by decide) (by decide) (by decide), hF 19 (by decide) (by decide), hsumk]; exact h5, e19 _ hsum⟩, fun j hj hne => (hn j hj hne).1, fun j hj => (hk j hj).1, hsum⟩
end TP
end
section
-- PURE: the class's methods over eight lists now (N) and eight kept (K)
theorem i_le_lt {n : Nat} {x : Int32} (h : n + 1 < 2 ^ 31) : nI (n + 1) ≤ x ↔ nI n < x := by
  rw [Int32.le_iff_toInt_le, Int32.lt_iff_toInt_lt, nI_toInt h, nI_toInt (by omega)]
  omega
theorem i_nlt0 {m : Nat} (h : m < 2 ^ 31) : ¬ nI m < 0 := nI_pos h
def TA_ (w : Nat) (st : St_) (N K : Nat → List (Nat × Nat)) : Prop := ∃ G rn rk, T1_ w st G rn rk ∧ (∀ i, i < 8 → N i = tr_ G (rn i)) ∧ (∀ i, i < 8 → K i = tr_ G (rk i))
def Fm_ (st st' : St_) : Prop := ∀ k, 14 ≤ k → k ≤ 17 → st' k = st k
abbrev nl8_ (N : Nat → List (Nat × Nat)) : Nat := sm_ 8 (fun i => (N i).length)
theorem i_asb (a b c : Int32) : a + (b - c) = a + b - c := by
  apply Int32.toBitVec_inj.mp
  simp [BitVec.sub_eq_add_neg, BitVec.add_assoc]
theorem i_ng1 {r : Nat} : -nI r - 1 = -nI (r + 1) := by
  rw [← nI_1, Int32.neg_add]
/-- what changeCount does: a map's count and the total -/
def cc_ (a b : Nat) (s : St_) (m : Nat) (d : Int32) : St_ := ws_1 (ws_1 s a m (s a m + d)) b 0 (s b 0 + d)
section CC
variable {a b m i k w : Nat} {s t : St_} {d : Int32}
theorem cc_a (h : a ≠ b) : cc_ a b s m d a m = s a m + d := by unfold cc_; rw [ws_1_arr h, ws_1_at]
theorem cc_an (h : a ≠ b) (hi : i ≠ m) : cc_ a b s m d a i = s a i := by unfold cc_; rw [ws_1_arr h, ws_1_ne hi]
theorem cc_b : cc_ a b s m d b 0 = s b 0 + d := by unfold cc_; rw [ws_1_at]
theorem cc_bn (h : b ≠ a) (hi : i ≠ 0) : cc_ a b s m d b i = s b i := by unfold cc_; rw [ws_1_ne hi, ws_1_arr h]
theorem cc_o (h1 : k ≠ a) (h2 : k ≠ b) : cc_ a b s m d k = s k := by unfold cc_; rw [ws_1_arr h2, ws_1_arr h1]
theorem cc_0 : cc_ 11 19 s m 0 = s := by
  funext k i
  by_cases h1 : k = 19
  · subst h1
    by_cases h2 : i = 0
    · subst h2; rw [cc_b, Int32.add_zero]
    · rw [cc_bn (by decide) h2]
  · by_cases h2 : k = 11
    · subst h2
      by_cases h3 : i = m
      · subst h3; rw [cc_a (by decide), Int32.add_zero]
      · rw [cc_an (by decide) h3]
    · rw [cc_o h2 h1]
theorem cc_fr (h : Fr_ s t) : Fr_ (cc_ 11 19 s m d) (cc_ 11 19 t m d) := fun k k1 k2 => by
  have h11 := h 11 (by decide) (by decide)
  have h19 := h 19 (by decide) (by decide)
  funext i
  by_cases h1 : k = 19
  · subst h1
    by_cases h2 : i = 0
    · subst h2; rw [cc_b, cc_b, h19]
    · rw [cc_bn (by decide) h2, cc_bn (by decide) h2, h19]
  · by_cases h2 : k = 11
    · subst h2
      by_cases h3 : i = m
      · subst h3; rw [cc_a (by decide), cc_a (by decide), h11]
      · rw [cc_an (by decide) h3, cc_an (by decide) h3, h11]
    · rw [cc_o h2 h1, cc_o h2 h1, h k k1 k2]
theorem cc_fm (h : Fm_ s t) : Fm_ s (cc_ 11 19 t m d) := fun k k1 k2 => by
  rw [cc_o (by omega) (by omega)]; exact h k k1 k2
theorem p_cc22 {post : St_ → Prop} (hm : m < 8) (k : post (cc_ 11 19 s m d)) : wp_S_changeCount_22 w (nI m) d s post := by
  unfold wp_S_changeCount_22
  refine ⟨vp_in_nI hm (by omega), vp_in_nI hm (by omega), fun s1 e1 s2 e2 => ?_⟩
  rw [nI_clamp (n := m) (by omega)] at e1
  have e : s2 = cc_ 11 19 s m d := by rw [e2, e1, ws_1_arr (by decide)]; rfl
  rw [e]; exact k
theorem p_cc23 {post : St_ → Prop} (hm : m < 8) (k : post (cc_ 13 20 s m d)) : wp_S_changeCount_23 w (nI m) d s post := by
  unfold wp_S_changeCount_23
  refine ⟨vp_in_nI hm (by omega), vp_in_nI hm (by omega), fun s1 e1 s2 e2 => ?_⟩
  rw [nI_clamp (n := m) (by omega)] at e1
  have e : s2 = cc_ 13 20 s m d := by rw [e2, e1, ws_1_arr (by decide)]; rfl
  rw [e]; exact k
end CC
section CL
variable {w : Nat} {st : St_} {G : Sg_} {rn rk : Nat → Nat} {N K : Nat → List (Nat × Nat)}
theorem p_S_isMap1 {m : Nat} {post : Int32 → St_ → Prop} (h : m < 8) (k : post 1 st) : wp_S_isMap w (nI m) st post := by
  unfold wp_S_isMap
  exact br_f (nI_pos (by omega)) (br_f (nI_ge (b := 8) h (by omega)) k)
theorem p_S_isMap0 {x : Int32} {post : Int32 → St_ → Prop} (h : x < 0 ∨ nI 8 ≤ x) (k : post 0 st) : wp_S_isMap w x st post := by
  unfold wp_S_isMap
  refine br_c (fun _ => k) (fun c => br_t ?_ k)
  rcases h with h | h
  · exact absurd h c
  · exact h
theorem p_S_isKey1 {m : Nat} {post : Int32 → St_ → Prop} (h : m < 4096) (k : post 1 st) : wp_S_isKey w (nI m) st post := by
  unfold wp_S_isKey
  exact br_f (nI_pos (by omega)) (br_f (nI_nlt (a := 4095) (by omega) (by omega)) k)
theorem p_S_isKey0 {x : Int32} {post : Int32 → St_ → Prop} (h : x < 0 ∨ nI 4096 ≤ x) (k : post 0 st) : wp_S_isKey w x st post := by
  unfold wp_S_isKey
  refine br_c (fun _ => k) (fun c => br_t ?_ k)
  rcases h with h | h
  · exact absurd h c
  · exact (i_le_lt (n := 4095) (by omega)).mp h
theorem p_S_isStamp1 {m : Nat} {post : Int32 → St_ → Prop} (h : m ≤ 1000000000) (k : post 1 st) : wp_S_isStamp w (nI m) st post := by
  unfold wp_S_isStamp
  exact br_f (nI_pos (by omega)) (br_f (nI_nlt (a := 1000000000) h (by omega)) k)
theorem p_S_isStamp0 {x : Int32} {post : Int32 → St_ → Prop} (h : x < 0 ∨ nI 1000000001 ≤ x) (k : post 0 st) : wp_S_isStamp w x st post := by
  unfold wp_S_isStamp
  refine br_c (fun _ => k) (fun c => br_t ?_ k)
  rcases h with h | h
  · exact absurd h c
  · exact (i_le_lt (n := 1000000000) (by omega)).mp h
theorem T0_.used (h : T0_ w st G rn rk) {m : Nat} (hm : m < 8) (h1 : 1 ≤ rn m) : 1 ≤ gw_ G (rn m) := by
  have h2 := h.2.1.2.2.1 (rn m) h1
  have h3 : RR_ rn rk (rn m) = rt_ (RM_ rn rk m) (rn m) (rn m) := by rw [RR_rt hm]
  simp only [rt_, if_true] at h3
  omega
theorem p_stR {m x : Nat} {post : Int32 → St_ → Prop} (hw : 5 ≤ w ∧ w ≤ 32) (h : T0_ w st G rn rk) (hm : m < 8) (hx : x < 4096) (k1 : ∀ s, (x, s) ∈ tr_ G (rn m) → post (nI s) st) (k2 : (∀ s, (x, s) ∉ tr_ G (rn m)) → post (-2) st) : wp_T_stampOf w (nI (rn m)) (nI x) st post := by
  by_cases h0 : rn m = 0
  · rw [h0] at k2 ⊢
    exact p_stampOf0 hw h.1 hx (k2 (fun s hs => by simp [tr_] at hs))
  · rw [tr_1 (by omega)] at k1 k2
    exact p_stampOf hw h.1 h.2.1 (h.used hm (by omega)) hx k1 k2
theorem p_kfR {m x : Nat} {post : Int32 → St_ → Prop} (hw : 5 ≤ w ∧ w ≤ 32) (h : T0_ w st G rn rk) (hm : m < 8) (hx : x < 4096) (k : ∀ r, LK_ (tr_ G (rn m)) x r → post r st) : wp_T_keyFrom w (nI (rn m)) (nI x) st post := by
  by_cases h0 : rn m = 0
  · rw [h0] at k ⊢
    exact p_keyFrom0 hw h.1 hx (k _ (Or.inr ⟨rfl, fun p hp => by simp [tr_] at hp⟩))
  · rw [tr_1 (by omega)] at k
    exact p_keyFrom hw h.1 h.2.1 (h.used hm (by omega)) hx k
theorem T0_.so (h : T0_ w st G rn rk) {m : Nat} (hm : m < 8) : so_ (tr_ G (rn m)) := by
  by_cases h0 : rn m = 0
  · rw [h0]; exact so_nil
  · rw [tr_1 (by omega)]
    have hu := h.used hm (by omega)
    exact (h.2.1.2.2.2 _ hu ((h.2.1.1 _ hu).2.2)).2.1
theorem T0_.ic (h : T0_ w st G rn rk) {m : Nat} (hm : m < 8) : Ic_ w [] 16 (rt_ (RM_ rn rk m) (rn m)) [] G := by rw [← RR_rt hm]; exact h.2.1
theorem p_S_write {m x s : Nat} {post : Int32 → St_ → Prop} (hw : 5 ≤ w ∧ w ≤ 32) (h : TA_ w st N K) (hm : m < 8) (hx : x < 4096) (hs : s ≤ 1000000000)
    (kF : (∀ t, (x, t) ∉ N m) → 600 ≤ nl8_ N → post (-3) st) (kO : ∀ st', TA_ w st' (va_up N m (iz_ x s (N m))) K → Fm_ st st' → ((∃ t, (x, t) ∈ N m) ∨ nl8_ N < 600) → post (nI (iz_ x s (N m)).length) st') : wp_S_write w (nI m) (nI x) (nI s) st post := by
  unfold wp_S_write
  obtain ⟨G, rn, rk, ⟨h, h600, hk600⟩, hN, hK⟩ := h
  have hNm := hN m hm
  have hnl : nl8_ N = sm_ 8 (ln_ G rn) := sm_congr (fun i hi => by rw [hN i hi])
  have hsum := h.sum
  obtain ⟨q1, q2, q3, q4⟩ := h.2.2.1 m hm
  have hso := h.so hm
  refine p_S_isMap1 hm (br_f (by decide) (p_S_isKey1 hx (br_f (by decide) (p_S_isStamp1 hs (rb_t (by decide) ⟨vp_in_nI hm (by omega), ?_⟩)))))
  rw [nI_clamp (n := m) (by omega), q2]
  -- the result, whatever the counts
  have hset : ∀ (st1 st2 : St_) (G' : Sg_) (r : Nat), Rp_ w st1 G' → Fr_ st st1 → Ic_ w [] 16 (rt_ (RM_ rn rk m) r) [] G' → 1 ≤ r → tr_ G' r = iz_ x s (tr_ G (rn m)) → (gl_ G' r = 0 ∨ 2 ≤ (ge_ G' r).length) → (∀ y, 1 ≤ y → 1 ≤ RM_ rn rk m y → ge_ G' y = ge_ G y ∧ gl_ G' y = gl_ G y ∧ et_ (ge_ G') (gl_ G y) y = et_ (ge_ G) (gl_ G y) y) →
      st2 10 m = nI r → (∀ i, i ≠ m → st2 10 i = st 10 i) → st2 11 m = nI (tr_ G' r).length → (∀ i, i ≠ m → st2 11 i = st 11 i) → (∀ s : Nat, s + (tr_ G (rn m)).length = sm_ 8 (ln_ G rn) + (tr_ G' r).length → st2 19 0 = nI s) → (∀ k, k ≠ 10 → k ≠ 11 → k ≠ 19 → st2 k = st1 k) → (tr_ G' r).length + sm_ 8 (ln_ G rn) ≤ 600 + (tr_ G (rn m)).length → TA_ w st2 (va_up N m (iz_ x s (N m))) K ∧ Fm_ st st2 := by
    intro st1 st2 G' r hR1 hF1 hI1 hr1 htr hok hfr e10 e10' e11 e11' e19 eo hle
    have hu := hI1.2.2.1 r hr1
    simp only [rt_, if_true] at hu
    obtain ⟨t1, t2, t3, t4⟩ := T0_set h hm hR1 hF1 hI1 ((hI1.1 r (by omega)).2.1) (fun _ => hok) hfr e10 e10' e11 e11' e19 eo
    refine ⟨⟨G', va_up rn m r, rk, ⟨t1, by omega, ?_⟩, fun i hi => ?_, fun i hi => by rw [t3 i hi]; exact hK i hi⟩, fun k k1 k2 => ?_⟩
    · rw [show sm_ 8 (ln_ G' rk) = sm_ 8 (ln_ G rk) from sm_congr (fun i hi => by show (tr_ G' (rk i)).length = (tr_ G (rk i)).length; rw [t3 i hi])]
      exact hk600
    · by_cases e : i = m
      · subst e; rw [va_up_self, va_up_self, htr, hNm]
      · rw [vu_ne e, vu_ne e, t2 i hi e]; exact hN i hi
    · rw [eo k (by omega) (by omega) (by omega)]; exact hF1 k (by omega) (by omega)
  refine p_stR hw h hm hx (fun t ht => ?_) (fun hno => ?_)
  · -- the key is there
    refine rb_t (nI_m2 (by
      have : t ≤ 1000000000 := by
        by_cases h0 : rn m = 0
        · rw [h0] at ht; simp [tr_] at ht
        · rw [tr_1 (by omega)] at ht
          have hu := h.used hm (by omega)
          have : ∀ n y, 1 ≤ gw_ G y → gl_ G y = n → ∀ q ∈ et_ (ge_ G) n y, q.2 ≤ 1000000000 := by
            intro n
            induction n with
            | zero => intro y _ _ q hq; exact (h.1.2.1 y q hq).2
            | succ n ih =>
              intro y y1 y2 q hq
              rw [et_succ] at hq
              obtain ⟨e, he, hqe⟩ := List.mem_flatMap.mp hq
              obtain ⟨g1, g2, -, -⟩ := h.2.1.child y1 ((h.2.1.1 y y1).2.2) (by omega) he
              exact ih e.2 g1 (by omega) q hqe
          exact this _ _ hu rfl _ ht
      omega)) ⟨vp_in_nI hm (by omega), ?_⟩
    rw [q2]
    have hl := iz_len1 (s := s) hso ht
    refine p_with (a := 0) (T := 1200) hw h.1 (h.ic hm) (RM_le _ _ _) (by rw [← RR_rt hm]; exact h.roots) (by rw [← RR_rt hm, hsum]; omega) (by omega) hx hs q1 (by omega) (fun st1 G' r hR1 hF1 hI1 hr1 htr hok hfr => ⟨vp_in_nI hm (by omega), fun st2 e2 => ⟨vp_in_nI hm (by omega), ?_⟩⟩)
    have f11 : st1 11 = st 11 := hF1 11 (by decide) (by decide)
    have f10 : st1 10 = st 10 := hF1 10 (by decide) (by decide)
    have f19 : st1 19 = st 19 := hF1 19 (by decide) (by decide)
    have g11 : st2 11 = st 11 := by rw [e2, ws_1_arr (by decide), f11]
    obtain ⟨t1, t2⟩ := hset st1 st2 G' r hR1 hF1 hI1 hr1 htr hok hfr (by rw [e2, ws_1_at]) (fun i hi => by rw [e2, ws_1_ne hi, f10]) (by rw [g11, q3, htr, hl]) (fun i _ => by rw [g11]) (fun u hu => by
        rw [htr, hl] at hu
        rw [e2, ws_1_arr (by decide), f19, h.2.2.2.2.1]; congr 1; omega) (fun k k1 k2 k3 => by rw [e2, ws_1_arr k1]) (by rw [htr, hl]; omega)
    have hk := kO st2 t1 t2 (Or.inl ⟨t, by rw [hNm]; exact ht⟩)
    rw [g11, q3]
    rw [hNm, hl] at hk
    exact hk
  · -- it is new
    refine rb_f rfl ?_
    rw [h.2.2.2.2.1]
    refine pk_lt (sm_ 8 (ln_ G rn)) 600 (fun hlt => ?_) (fun hge => ?_) rfl rfl (by omega) (by omega)
    · refine ⟨vp_in_nI hm (by omega), ?_⟩
      rw [q2]
      have hl := iz_len0 (s := s) hno
      refine p_with (a := 1) (T := 1199) hw h.1 (h.ic hm) (RM_le _ _ _) (by rw [← RR_rt hm]; exact h.roots) (by rw [← RR_rt hm, hsum]; omega) (by omega) hx hs q1 (by omega) (fun st1 G' r hR1 hF1 hI1 hr1 htr hok hfr => ⟨vp_in_nI hm (by omega), fun st2 e2 => p_cc22 hm ⟨vp_in_nI hm (by omega), ?_⟩⟩)
      have f11 : st1 11 = st 11 := hF1 11 (by decide) (by decide)
      have f10 : st1 10 = st 10 := hF1 10 (by decide) (by decide)
      have f19 : st1 19 = st 19 := hF1 19 (by decide) (by decide)
      have g11 : st2 11 = st 11 := by rw [e2, ws_1_arr (by decide), f11]
      have g19 : st2 19 = st 19 := by rw [e2, ws_1_arr (by decide), f19]
      obtain ⟨st4, e4⟩ : ∃ z : St_, z = cc_ 11 19 st2 m 1 := ⟨_, rfl⟩
      rw [← e4]
      have h11 : st4 11 m = nI ((tr_ G (rn m)).length + 1) := by rw [e4, cc_a (by decide), g11, q3, nI_1]
      have h19 : st4 19 0 = nI (sm_ 8 (ln_ G rn) + 1) := by rw [e4, cc_b, g19, h.2.2.2.2.1, nI_1]
      obtain ⟨t1, t2⟩ := hset st1 st4 G' r hR1 hF1 hI1 hr1 htr hok hfr (by rw [e4, cc_o (by decide) (by decide), e2, ws_1_at]) (fun i hi => by rw [e4, cc_o (by decide) (by decide), e2, ws_1_ne hi, f10]) (by rw [h11, htr, hl]) (fun i hi => by rw [e4, cc_an (by decide) hi, g11]) (fun u hu => by
          rw [htr, hl] at hu
          rw [h19]; congr 1; omega) (fun k k1 k2 k3 => by rw [e4, cc_o k2 k3, e2, ws_1_arr k1]) (by rw [htr, hl]; omega)
      have hk := kO st4 t1 t2 (Or.inr (by rw [hnl]; exact hlt))
      rw [h11]
      rw [hNm, hl] at hk
      exact hk
    · exact kF (fun t => by rw [hNm]; exact hno t) (by rw [hnl]; exact hge)
theorem TA_.so (h : TA_ w st N K) {m : Nat} (hm : m < 8) : so_ (N m) := by
  obtain ⟨G, rn, rk, ⟨h, -, -⟩, hN, -⟩ := h
  rw [hN m hm]; exact h.so hm
theorem TA_.bd (h : TA_ w st N K) {m : Nat} (hm : m < 8) : ∀ q ∈ N m, q.1 < 4096 ∧ q.2 ≤ 1000000000 := by
  obtain ⟨G, rn, rk, ⟨h, -, -⟩, hN, -⟩ := h
  rw [hN m hm]
  intro q hq
  by_cases h0 : rn m = 0
  · rw [h0] at hq; simp [tr_] at hq
  · rw [tr_1 (by omega)] at hq
    have hu := h.used hm (by omega)
    have : ∀ n y, 1 ≤ gw_ G y → gl_ G y = n → ∀ q ∈ et_ (ge_ G) n y, q.1 < 4096 ∧ q.2 ≤ 1000000000 := by
      intro n
      induction n with
      | zero => intro y _ _ q hq; exact h.1.2.1 y q hq
      | succ n ih =>
        intro y y1 y2 q hq
        rw [et_succ] at hq
        obtain ⟨e, he, hqe⟩ := List.mem_flatMap.mp hq
        obtain ⟨g1, g2, -, -⟩ := h.2.1.child y1 ((h.2.1.1 y y1).2.2) (by omega) he
        exact ih e.2 g1 (by omega) q hqe
    exact this _ _ hu rfl _ hq
theorem TA_.sum (h : TA_ w st N K) : nl8_ N ≤ 600 ∧ nl8_ K ≤ 600 := by
  obtain ⟨G, rn, rk, ⟨h, h1, h2⟩, hN, hK⟩ := h
  have e1 : nl8_ N = sm_ 8 (ln_ G rn) := sm_congr (fun i hi => by rw [hN i hi])
  have e2 : nl8_ K = sm_ 8 (ln_ G rk) := sm_congr (fun i hi => by rw [hK i hi])
  omega
theorem p_S_read {m x : Nat} {post : Int32 → St_ → Prop} (hw : 5 ≤ w ∧ w ≤ 32) (h : TA_ w st N K) (hm : m < 8) (hx : x < 4096) (k1 : ∀ s, (x, s) ∈ N m → post (nI s) st) (k2 : (∀ s, (x, s) ∉ N m) → post (-2) st) : wp_S_read w (nI m) (nI x) st post := by
  unfold wp_S_read
  obtain ⟨G, rn, rk, ⟨h, h600, hk600⟩, hN, hK⟩ := h
  obtain ⟨q1, q2, q3, q4⟩ := h.2.2.1 m hm
  refine p_S_isMap1 hm (br_f (by decide) (p_S_isKey1 hx (rb_t (by decide) ⟨vp_in_nI hm (by omega), ?_⟩)))
  rw [nI_clamp (n := m) (by omega), q2]
  exact p_stR hw h hm hx (fun s hs => k1 s (by rw [hN m hm]; exact hs)) (fun hs => k2 (fun s => by rw [hN m hm]; exact hs s))
theorem p_S_next {m x : Nat} {post : Int32 → St_ → Prop} (hw : 5 ≤ w ∧ w ≤ 32) (h : TA_ w st N K) (hm : m < 8) (hx : x < 4096) (k : ∀ r, LK_ (N m) x r → post r st) : wp_S_next w (nI m) (nI x) st post := by
  unfold wp_S_next
  obtain ⟨G, rn, rk, ⟨h, h600, hk600⟩, hN, hK⟩ := h
  obtain ⟨q1, q2, q3, q4⟩ := h.2.2.1 m hm
  refine p_S_isMap1 hm (br_f (by decide) (p_S_isKey1 hx (rb_t (by decide) ⟨vp_in_nI hm (by omega), ?_⟩)))
  rw [nI_clamp (n := m) (by omega), q2]
  exact p_kfR hw h hm hx (fun r hr => k r (by rw [hN m hm]; exact hr))
theorem p_rem {m x : Nat} {d : Int32} {P : St_ → Prop} (hw : 5 ≤ w ∧ w ≤ 32) (h : TA_ w (cc_ 11 19 st m d) N K) (hm : m < 8) (hx : x < 4096) (hex : ∃ t, (x, t) ∈ N m) (k : ∀ st', TA_ w (cc_ 11 19 st' m (d - 1)) (va_up N m (dz_ x (N m))) K → Fm_ st st' → P st') :
    wp_T_without w (st 10 m) (nI x) st (fun (r : Int32) (st1 : St_) => vp_in (nI m) 8 ∧ (∀ st2 : St_, st2 = ws_1 st1 10 m r → P st2)) := by
  obtain ⟨G, rn, rk, ⟨h, h600, hk600⟩, hN, hK⟩ := h
  have hNm := hN m hm
  have hsum := h.sum
  obtain ⟨q1, q2, q3, q4⟩ := h.2.2.1 m hm
  rw [cc_o (by decide) (by decide)] at q2
  rw [cc_a (by decide)] at q3
  have q19 := h.2.2.2.2.1
  rw [cc_b] at q19
  have hso := h.so hm
  obtain ⟨t, ht⟩ := hex
  rw [hNm] at ht
  have hl := dz_len1 hso ht
  have hr1 : 1 ≤ rn m := by
    rcases Nat.eq_zero_or_pos (rn m) with h0 | h0
    · rw [h0] at ht; simp [tr_] at ht
    · exact h0
  have hR0 : Rp_ w st G := h.1.cong (fun k hk => (cc_o (by omega) (by omega)).symm)
  rw [q2]
  refine p_without (T := 1200) hw hR0 (h.ic hm) (RM_le _ _ _) (by rw [← RR_rt hm]; exact h.roots) (by rw [← RR_rt hm, hsum]; omega) (by omega) hx hr1 ⟨t, ht⟩ (fun st1 G' r hR1 hF1 hI1 hr2 htr hok hfr => ⟨vp_in_nI hm (by omega), fun st2 e2 => ?_⟩)
  have f11 : st1 11 = st 11 := hF1 11 (by decide) (by decide)
  have f10 : st1 10 = st 10 := hF1 10 (by decide) (by decide)
  have f19 : st1 19 = st 19 := hF1 19 (by decide) (by decide)
  have g11 : st2 11 = st 11 := by rw [e2, ws_1_arr (by decide), f11]
  have g19 : st2 19 = st 19 := by rw [e2, ws_1_arr (by decide), f19]
  have hln : ln_ G rn m = (tr_ G (rn m)).length := rfl
  have hge := sm_one (n := 8) (k := m) (ln_ G rn) hm
  have c11 : cc_ 11 19 st2 m (d - 1) 11 m = nI (ln_ G rn m - 1) := by rw [cc_a (by decide), g11, i_asb, q3, nI_p (by omega)]
  have c19 : cc_ 11 19 st2 m (d - 1) 19 0 = nI (sm_ 8 (ln_ G rn) - 1) := by rw [cc_b, g19, i_asb, q19, nI_p (by omega)]
  obtain ⟨t1, t2, t3, t4⟩ := T0_set (st1 := cc_ 11 19 st1 m d) (st2 := cc_ 11 19 st2 m (d - 1)) h hm (hR1.cong (fun k hk => cc_o (by omega) (by omega))) (cc_fr hF1) hI1 hr2 hok hfr (by rw [cc_o (by decide) (by decide), e2, ws_1_at]) (fun i hi => by rw [cc_o (by decide) (by decide), cc_o (by decide) (by decide), e2, ws_1_ne hi, f10]) (by rw [c11, htr]; congr 1; omega) (fun i hi => by rw [cc_an (by decide) hi, cc_an (by decide) hi, g11]) (fun u hu => by
      rw [htr] at hu
      rw [c19]; congr 1; omega) (fun k k1 k2 k3 => by rw [cc_o k2 k3, cc_o k2 k3, e2, ws_1_arr k1])
  refine k st2 ⟨G', va_up rn m r, rk, ⟨t1, by rw [htr] at t4; omega, ?_⟩, fun i hi => ?_, fun i hi => by rw [t3 i hi]; exact hK i hi⟩ (fun k k1 k2 => ?_)
  · rw [show sm_ 8 (ln_ G' rk) = sm_ 8 (ln_ G rk) from sm_congr (fun i hi => by show (tr_ G' (rk i)).length = (tr_ G (rk i)).length; rw [t3 i hi])]
    exact hk600
  · by_cases e : i = m
    · subst e; rw [va_up_self, va_up_self, htr, hNm]
    · rw [vu_ne e, vu_ne e, t2 i hi e]; exact hN i hi
  · rw [e2, ws_1_arr (by omega)]; exact hF1 k (by omega) (by omega)
theorem p_S_erase {m x : Nat} {post : Int32 → St_ → Prop} (hw : 5 ≤ w ∧ w ≤ 32) (h : TA_ w st N K) (hm : m < 8) (hx : x < 4096) (k1 : ∀ s, (x, s) ∈ N m → ∀ st', TA_ w st' (va_up N m (dz_ x (N m))) K → Fm_ st st' → post (nI s) st') (k2 : (∀ s, (x, s) ∉ N m) → post (-2) st) : wp_S_erase w (nI m) (nI x) st post := by
  unfold wp_S_erase
  have hTA := h
  obtain ⟨G, rn, rk, ⟨h, h600, hk600⟩, hN, hK⟩ := h
  obtain ⟨q1, q2, q3, q4⟩ := h.2.2.1 m hm
  refine p_S_isMap1 hm (br_f (by decide) (p_S_isKey1 hx (rb_t (by decide) ⟨vp_in_nI hm (by omega), ?_⟩)))
  rw [nI_clamp (n := m) (by omega), q2]
  refine p_stR hw h hm hx (fun s hs => ?_) (fun hs => br_t rfl (k2 (fun s => by rw [hN m hm]; exact hs s)))
  have hs' : (x, s) ∈ N m := by rw [hN m hm]; exact hs
  have := (hTA.bd hm _ hs').2
  exact br_f (nI_m2 (by simp only at this; omega)) ⟨vp_in_nI hm (by omega), p_rem (d := 0) hw (by rw [cc_0]; exact hTA) hm hx ⟨s, hs'⟩ (fun st1 t1 t2 => p_cc22 hm (by
    rw [show (0 : Int32) - 1 = -1 by decide] at t1
    exact k1 s hs' _ t1 (cc_fm t2)))⟩
end CL
end
section
-- PURE: a map is led to another tree
theorem nI_asb {a b c : Nat} (h : c ≤ a + b) : nI a + (nI b - nI c) = nI (a + b - c) := by
  rw [i_asb, nI_add, pk_sub h]
section LD
variable {w : Nat}
theorem share_1 {R : Nat → Nat} {Z : List Nat} {G : Sg_} {b : Nat} (hI : Ic_ w [] 16 R Z G) (hb : 1 ≤ gw_ G b) : Ic_ w [] 16 (rt_ R b) Z (sw_ G b (gw_ G b + 1)) := by
  generalize hG' : sw_ G b (gw_ G b + 1) = G'
  have hgw : ∀ y, gw_ G' y = if y = b then gw_ G b + 1 else gw_ G y := fun y => by rw [← hG']; rfl
  have hgl : ∀ y, gl_ G' y = gl_ G y := fun y => by rw [← hG']
  have hge : ge_ G' = ge_ G := by rw [← hG']
  have hgf : gf_ G' = gf_ G := by rw [← hG']
  have hz : ∀ y, gw_ G' y = 0 ↔ gw_ G y = 0 := fun y => by
    rw [hgw]
    by_cases e : y = b
    · rw [if_pos e, e]; omega
    · rw [if_neg e]
  refine ⟨fun y hy => ?_, ⟨by rw [hgf]; exact hI.2.1.1, fun y hy => ?_, fun y y1 y2 y3 => ?_⟩, fun y hy => ?_, fun y hy hyl => ?_⟩
  · rw [hgl]
    exact hI.1 y (by have := (hz y); omega)
  · rw [hgf] at hy
    obtain ⟨q1, q2, q3⟩ := hI.2.1.2.1 y hy
    exact ⟨q1, q2, (hz y).mpr q3⟩
  · rw [hgf]; exact hI.2.1.2.2 y y1 y2 ((hz y).mp y3)
  · have h1 := hI.2.2.1 y hy
    have h2 : eg_ G' y = eg_ G y := sm_congr (fun p _ => by simp only [hz p, hgl, hge])
    rw [h2, hgw]
    simp only [rt_]
    by_cases e : y = b
    · rw [if_pos e, if_pos e]
      rw [← e]; omega
    · rw [if_neg e, if_neg e]; exact h1
  · have hy' : 1 ≤ gw_ G y := by have := (hz y); omega
    rw [hgl] at hyl
    have hv := hI.2.2.2 y hy' hyl
    refine ⟨fun h => by rw [hge]; exact hv.1 h, by rw [hge, hgl]; exact hv.2.1, fun h0 e he => ?_⟩
    rw [hgl] at h0
    rw [hge] at he ⊢
    obtain ⟨q1, q2, q3, q4⟩ := hv.2.2 h0 e he
    rw [hgl, hgl]
    refine ⟨?_, q2, q3, q4⟩
    have := (hz e.2); omega
theorem p_shareR {R : Nat → Nat} {G : Sg_} {r : Nat} {st : St_} {post : St_ → Prop} (hR : Rp_ w st G) (hI : Ic_ w [] 16 R [] G) (hr : r = 0 ∨ 1 ≤ gw_ G r)
    (k : ∀ st' G', Rp_ w st' G' → Fr_ st st' → Ic_ w [] 16 (rt_ R r) [] G' → ge_ G' = ge_ G → gl_ G' = gl_ G → post st') : wp_B_share w (nI r) st post := by
  by_cases h0 : r = 0
  · subst h0
    exact p_share0 (k st G hR Fr_.rf (hI.congR (fun y hy => by simp only [rt_]; rw [if_neg (by omega)]; rfl)) rfl rfl)
  · have hu : 1 ≤ gw_ G r := by rcases hr with h | h; exact absurd h h0; exact h
    obtain ⟨b1, b2, b3⟩ := hI.1 r hu
    exact p_share hR ⟨b1, b2⟩ (fun s1 hR1 hF1 => k s1 _ hR1 hF1 (share_1 hI hu) rfl rfl)
theorem p_releaseR {R' : Nat → Nat} {G : Sg_} {b : Nat} {st : St_} {post : St_ → Prop} (hw : 5 ≤ w ∧ w ≤ 32) (hR : Rp_ w st G) (hI : Ic_ w [] 16 (rt_ R' b) [] G) (hr : ∀ y, R' y ≤ 900)
    (k : ∀ st' G', Rp_ w st' G' → Fr_ st st' → Ic_ w [] 16 R' [] G' → (∀ y, 1 ≤ y → 1 ≤ R' y → ge_ G' y = ge_ G y ∧ gl_ G' y = gl_ G y ∧ et_ (ge_ G') (gl_ G y) y = et_ (ge_ G) (gl_ G y) y) → post st') : wp_T_release w (nI b) st post := by
  by_cases h0 : b = 0
  · subst h0
    exact p_release0 (k st G hR Fr_.rf (hI.congR (fun y hy => by simp only [rt_]; rw [if_neg (by omega)]; rfl)) (fun y _ _ => ⟨rfl, rfl, rfl⟩))
  · exact p_release hw hR hI hr (by omega) k
theorem RM_le16 (rn rk : Nat → Nat) (m y : Nat) : RM_ rn rk m y ≤ 16 := by
  have h1 : sm_ 8 (fun i => if i = m then 0 else if rn i = y then 1 else 0) ≤ 8 := sm_le8 (fun i _ => by split <;> (try split) <;> omega)
  have h2 : sm_ 8 (fun i => if rk i = y then 1 else 0) ≤ 8 := sm_le8 (fun i _ => by split <;> omega)
  simp only [RM_]; omega
end LD
/-- as TA_, with no word of how many keys there are -/
def TB_ (w : Nat) (st : St_) (N K : Nat → List (Nat × Nat)) : Prop := ∃ G rn rk, T0_ w st G rn rk ∧ (∀ i, i < 8 → N i = tr_ G (rn i)) ∧ (∀ i, i < 8 → K i = tr_ G (rk i))
section LE
variable {w : Nat} {st : St_} {G : Sg_} {rn rk : Nat → Nat} {N K : Nat → List (Nat × Nat)}
theorem TA_.b (h : TA_ w st N K) : TB_ w st N K := by
  obtain ⟨G, rn, rk, ⟨h, -, -⟩, hN, hK⟩ := h
  exact ⟨G, rn, rk, h, hN, hK⟩
theorem TB_.a (h : TB_ w st N K) (h1 : nl8_ N ≤ 600) (h2 : nl8_ K ≤ 600) : TA_ w st N K := by
  obtain ⟨G, rn, rk, h, hN, hK⟩ := h
  have e1 : nl8_ N = sm_ 8 (ln_ G rn) := sm_congr (fun i hi => by rw [hN i hi])
  have e2 : nl8_ K = sm_ 8 (ln_ G rk) := sm_congr (fun i hi => by rw [hK i hi])
  exact ⟨G, rn, rk, ⟨h, by omega, by omega⟩, hN, hK⟩
theorem TB_.cong {N' K' : Nat → List (Nat × Nat)} (h : TB_ w st N K) (h1 : ∀ i, i < 8 → N' i = N i) (h2 : ∀ i, i < 8 → K' i = K i) : TB_ w st N' K' := by
  obtain ⟨G, rn, rk, h, hN, hK⟩ := h
  exact ⟨G, rn, rk, h, fun i hi => by rw [h1 i hi]; exact hN i hi, fun i hi => by rw [h2 i hi]; exact hK i hi⟩
theorem TB_.cnt (h : TB_ w st N K) : (∀ i, i < 8 → st 11 i = nI (N i).length) ∧ (∀ i, i < 8 → st 13 i = nI (K i).length) ∧ st 19 0 = nI (nl8_ N) ∧ st 20 0 = nI (nl8_ K) := by
  obtain ⟨G, rn, rk, h, hN, hK⟩ := h
  refine ⟨fun i hi => by rw [hN i hi]; exact (h.2.2.1 i hi).2.2.1, fun i hi => by rw [hK i hi]; exact (h.2.2.2.1 i hi).2.2.1, ?_, ?_⟩
  · rw [show nl8_ N = sm_ 8 (ln_ G rn) from sm_congr (fun i hi => by rw [hN i hi])]; exact h.2.2.2.2.1
  · rw [show nl8_ K = sm_ 8 (ln_ G rk) from sm_congr (fun i hi => by rw [hK i hi])]; exact h.2.2.2.2.2
theorem T0_.usedk (h : T0_ w st G rn rk) {m : Nat} (hm : m < 8) (h1 : 1 ≤ rk m) : 1 ≤ gw_ G (rk m) := by
  have h2 := h.2.1.2.2.1 (rk m) h1
  have h3 : RR_ rn rk (rk m) = rt_ (RM_ rk rn m) (rk m) (rk m) := by rw [RR_comm, RR_rt hm]
  simp only [rt_, if_true] at h3
  omega
theorem p_lead22 {m r : Nat} {post : St_ → Prop} (hw : 5 ≤ w ∧ w ≤ 32) (h : T0_ w st G rn rk) (hm : m < 8) (hr : r = 0 ∨ 1 ≤ gw_ G r) (hr2 : r ≤ 1200) (hok : ok_ G r)
    (k : ∀ st', (∃ G' rn' rk', T0_ w st' G' rn' rk' ∧ (∀ j, j < 8 → tr_ G' (rn' j) = if j = m then tr_ G r else tr_ G (rn j)) ∧ (∀ j, j < 8 → tr_ G' (rk' j) = tr_ G (rk j))) → Fm_ st st' → post st') : wp_S_lead_22 w (nI m) (nI r) (nI (tr_ G r).length) st post := by
  unfold wp_S_lead_22
  obtain ⟨q1, q2, q3, q4⟩ := h.2.2.1 m hm
  have hI := h.2.1
  rw [RR_rt hm] at hI
  refine p_shareR h.1 hI hr (fun s1 G1 hR1 hF1 hI1 e1 e2 => ⟨vp_in_nI hm (by omega), ?_⟩)
  have f10 : s1 10 = st 10 := hF1 10 (by decide) (by decide)
  rw [nI_clamp (n := m) (by omega), f10, q2]
  have hI1' : Ic_ w [] 16 (rt_ (rt_ (RM_ rn rk m) r) (rn m)) [] G1 := hI1.congR (fun y _ => by simp only [rt_]; omega)
  refine p_releaseR hw hR1 hI1' (fun y => by have := RM_le16 rn rk m y; simp only [rt_]; split <;> omega) (fun s2 G2 hR2 hF2 hI2 hfr => ⟨vp_in_nI hm (by omega), fun s3 e3 => ⟨vp_in_nI hm (by omega), p_cc22 hm ?_⟩⟩)
  have hfr' : ∀ y, 1 ≤ y → 1 ≤ rt_ (RM_ rn rk m) r y → ge_ G2 y = ge_ G y ∧ gl_ G2 y = gl_ G y ∧ et_ (ge_ G2) (gl_ G y) y = et_ (ge_ G) (gl_ G y) y := fun y y1 y2 => by
    have := hfr y y1 y2
    rw [e1, e2] at this
    exact this
  have hF := hF1.tr hF2
  have htr : tr_ G2 r = tr_ G r ∧ ok_ G2 r := by
    by_cases h0 : r = 0
    · rw [h0]; exact ⟨rfl, fun q => by omega⟩
    · obtain ⟨x1, x2, x3⟩ := hfr' r (by omega) (by simp only [rt_, if_true]; omega)
      rw [tr_1 (by omega), tr_1 (by omega), x2]
      exact ⟨x3, fun q => by rw [x1, x2]; exact hok q⟩
  have hsum := sm_one (n := 8) (k := m) (ln_ G rn) hm
  have hln : ln_ G rn m = (tr_ G (rn m)).length := rfl
  have g11 : s3 11 = st 11 := by rw [e3, ws_1_arr (by decide)]; exact hF 11 (by decide) (by decide)
  have g19 : s3 19 = st 19 := by rw [e3, ws_1_arr (by decide)]; exact hF 19 (by decide) (by decide)
  obtain ⟨s5, e5⟩ : ∃ z : St_, z = cc_ 11 19 s3 m (nI (tr_ G r).length - s3 11 m) := ⟨_, rfl⟩
  rw [← e5]
  have c11 : s5 11 m = nI (tr_ G r).length := by
    rw [e5, cc_a (by decide), g11, q3, nI_asb (by omega)]; congr 1; omega
  have c19 : s5 19 0 = nI (sm_ 8 (ln_ G rn) + (tr_ G r).length - ln_ G rn m) := by
    rw [e5, cc_b, g11, q3, g19, h.2.2.2.2.1, nI_asb (by omega)]
  obtain ⟨t1, t2, t3, t4⟩ := T0_set h hm hR2 hF hI2 hr2 htr.2 (fun y y1 y2 => hfr' y y1 (by simp only [rt_]; omega)) (st2 := s5)
    (by rw [e5, cc_o (by decide) (by decide), e3, ws_1_at]) (fun i hi => by rw [e5, cc_o (by decide) (by decide), e3, ws_1_ne hi]; rw [hF 10 (by decide) (by decide)])
    (by rw [c11, htr.1]) (fun i hi => by rw [e5, cc_an (by decide) hi, g11])
    (fun u hu => by
      rw [htr.1] at hu
      rw [c19]; congr 1; omega)
    (fun q k1 k2 k3 => by rw [e5, cc_o k2 k3, e3, ws_1_arr k1])
  refine k s5 ⟨G2, va_up rn m r, rk, t1, fun j hj => ?_, t3⟩ (fun q k1 k2 => by rw [e5, cc_o (by omega) (by omega), e3, ws_1_arr (by omega)]; exact hF q (by omega) (by omega))
  by_cases e : j = m
  · subst e; rw [va_up_self, if_pos rfl]; exact htr.1
  · rw [vu_ne e, if_neg e]; exact t2 j hj e
theorem p_lead23 {m r : Nat} {post : St_ → Prop} (hw : 5 ≤ w ∧ w ≤ 32) (h : T0_ w st G rn rk) (hm : m < 8) (hr : r = 0 ∨ 1 ≤ gw_ G r) (hr2 : r ≤ 1200) (hok : ok_ G r)
    (k : ∀ st', (∃ G' rn' rk', T0_ w st' G' rn' rk' ∧ (∀ j, j < 8 → tr_ G' (rk' j) = if j = m then tr_ G r else tr_ G (rk j)) ∧ (∀ j, j < 8 → tr_ G' (rn' j) = tr_ G (rn j))) → Fm_ st st' → post st') : wp_S_lead_23 w (nI m) (nI r) (nI (tr_ G r).length) st post := by
  unfold wp_S_lead_23
  obtain ⟨q1, q2, q3, q4⟩ := h.2.2.2.1 m hm
  have hI := h.2.1
  rw [RR_comm, RR_rt hm] at hI
  refine p_shareR h.1 hI hr (fun s1 G1 hR1 hF1 hI1 e1 e2 => ⟨vp_in_nI hm (by omega), ?_⟩)
  have f10 : s1 12 = st 12 := hF1 12 (by decide) (by decide)
  rw [nI_clamp (n := m) (by omega), f10, q2]
  have hI1' : Ic_ w [] 16 (rt_ (rt_ (RM_ rk rn m) r) (rk m)) [] G1 := hI1.congR (fun y _ => by simp only [rt_]; omega)
  refine p_releaseR hw hR1 hI1' (fun y => by have := RM_le16 rk rn m y; simp only [rt_]; split <;> omega) (fun s2 G2 hR2 hF2 hI2 hfr => ⟨vp_in_nI hm (by omega), fun s3 e3 => ⟨vp_in_nI hm (by omega), p_cc23 hm ?_⟩⟩)
  have hfr' : ∀ y, 1 ≤ y → 1 ≤ rt_ (RM_ rk rn m) r y → ge_ G2 y = ge_ G y ∧ gl_ G2 y = gl_ G y ∧ et_ (ge_ G2) (gl_ G y) y = et_ (ge_ G) (gl_ G y) y := fun y y1 y2 => by
    have := hfr y y1 y2
    rw [e1, e2] at this
    exact this
  have hF := hF1.tr hF2
  have htr : tr_ G2 r = tr_ G r ∧ ok_ G2 r := by
    by_cases h0 : r = 0
    · rw [h0]; exact ⟨rfl, fun q => by omega⟩
    · obtain ⟨x1, x2, x3⟩ := hfr' r (by omega) (by simp only [rt_, if_true]; omega)
      rw [tr_1 (by omega), tr_1 (by omega), x2]
      exact ⟨x3, fun q => by rw [x1, x2]; exact hok q⟩
  have hsum := sm_one (n := 8) (k := m) (ln_ G rk) hm
  have hln : ln_ G rk m = (tr_ G (rk m)).length := rfl
  have g11 : s3 13 = st 13 := by rw [e3, ws_1_arr (by decide)]; exact hF 13 (by decide) (by decide)
  have g19 : s3 20 = st 20 := by rw [e3, ws_1_arr (by decide)]; exact hF 20 (by decide) (by decide)
  obtain ⟨s5, e5⟩ : ∃ z : St_, z = cc_ 13 20 s3 m (nI (tr_ G r).length - s3 13 m) := ⟨_, rfl⟩
  rw [← e5]
  have c11 : s5 13 m = nI (tr_ G r).length := by
    rw [e5, cc_a (by decide), g11, q3, nI_asb (by omega)]; congr 1; omega
  have c19 : s5 20 0 = nI (sm_ 8 (ln_ G rk) + (tr_ G r).length - ln_ G rk m) := by
    rw [e5, cc_b, g11, q3, g19, h.2.2.2.2.2, nI_asb (by omega)]
  obtain ⟨t1, t2, t3, t4⟩ := T0_setk h hm hR2 hF hI2 hr2 htr.2 (fun y y1 y2 => hfr' y y1 (by simp only [rt_]; omega)) (st2 := s5)
    (by rw [e5, cc_o (by decide) (by decide), e3, ws_1_at]) (fun i hi => by rw [e5, cc_o (by decide) (by decide), e3, ws_1_ne hi]; rw [hF 12 (by decide) (by decide)])
    (by rw [c11, htr.1]) (fun i hi => by rw [e5, cc_an (by decide) hi, g11])
    (fun u hu => by
      rw [htr.1] at hu
      rw [c19]; congr 1; omega)
    (fun q k1 k2 k3 => by rw [e5, cc_o k2 k3, e3, ws_1_arr k1])
  refine k s5 ⟨G2, rn, va_up rk m r, t1, fun j hj => ?_, t3⟩ (fun q k1 k2 => by rw [e5, cc_o (by omega) (by omega), e3, ws_1_arr (by omega)]; exact hF q (by omega) (by omega))
  by_cases e : j = m
  · subst e; rw [va_up_self, if_pos rfl]; exact htr.1
  · rw [vu_ne e, if_neg e]; exact t2 j hj e
theorem p_lead0 {m : Nat} {post : St_ → Prop} (hw : 5 ≤ w ∧ w ≤ 32) (h : TB_ w st N K) (hm : m < 8) (k : ∀ st', TB_ w st' (va_up N m []) K → Fm_ st st' → post st') : wp_S_lead_22 w (nI m) 0 0 st post := by
  obtain ⟨G, rn, rk, h, hN, hK⟩ := h
  refine p_lead22 (r := 0) hw h hm (Or.inl rfl) (by omega) (fun q => by omega) (fun s1 hs hF => ?_)
  obtain ⟨G', rn', rk', t1, t2, t3⟩ := hs
  refine k s1 ⟨G', rn', rk', t1, fun i hi => ?_, fun i hi => by rw [t3 i hi]; exact hK i hi⟩ hF
  rw [t2 i hi]
  by_cases e : i = m
  · subst e; rw [va_up_self, if_pos rfl]; rfl
  · rw [vu_ne e, if_neg e]; exact hN i hi
theorem p_leadN {m j : Nat} {post : St_ → Prop} (hw : 5 ≤ w ∧ w ≤ 32) (h : TB_ w st N K) (hm : m < 8) (hj : j < 8) (k : ∀ st', TB_ w st' (va_up N m (N j)) K → Fm_ st st' → post st') : wp_S_lead_22 w (nI m) (st 10 j) (st 11 j) st post := by
  obtain ⟨G, rn, rk, h, hN, hK⟩ := h
  obtain ⟨q1, q2, q3, q4⟩ := h.2.2.1 j hj
  rw [q2, q3]
  refine p_lead22 (r := rn j) hw h hm (by rcases Nat.eq_zero_or_pos (rn j) with e | e; exact Or.inl e; exact Or.inr (h.used hj e)) q1 q4 (fun s1 hs hF => ?_)
  obtain ⟨G', rn', rk', t1, t2, t3⟩ := hs
  refine k s1 ⟨G', rn', rk', t1, fun i hi => ?_, fun i hi => by rw [t3 i hi]; exact hK i hi⟩ hF
  rw [t2 i hi]
  by_cases e : i = m
  · subst e; rw [va_up_self, if_pos rfl]; exact hN j hj
  · rw [vu_ne e, if_neg e]; exact hN i hi
theorem p_leadK {m j : Nat} {post : St_ → Prop} (hw : 5 ≤ w ∧ w ≤ 32) (h : TB_ w st N K) (hm : m < 8) (hj : j < 8) (k : ∀ st', TB_ w st' (va_up N m (K j)) K → Fm_ st st' → post st') : wp_S_lead_22 w (nI m) (st 12 j) (st 13 j) st post := by
  obtain ⟨G, rn, rk, h, hN, hK⟩ := h
  obtain ⟨q1, q2, q3, q4⟩ := h.2.2.2.1 j hj
  rw [q2, q3]
  refine p_lead22 (r := rk j) hw h hm (by rcases Nat.eq_zero_or_pos (rk j) with e | e; exact Or.inl e; exact Or.inr (h.usedk hj e)) q1 q4 (fun s1 hs hF => ?_)
  obtain ⟨G', rn', rk', t1, t2, t3⟩ := hs
  refine k s1 ⟨G', rn', rk', t1, fun i hi => ?_, fun i hi => by rw [t3 i hi]; exact hK i hi⟩ hF
  rw [t2 i hi]
  by_cases e : i = m
  · subst e; rw [va_up_self, if_pos rfl]; exact hK j hj
  · rw [vu_ne e, if_neg e]; exact hN i hi
theorem p_leadkN {m j : Nat} {post : St_ → Prop} (hw : 5 ≤ w ∧ w ≤ 32) (h : TB_ w st N K) (hm : m < 8) (hj : j < 8) (k : ∀ st', TB_ w st' N (va_up K m (N j)) → Fm_ st st' → post st') : wp_S_lead_23 w (nI m) (st 10 j) (st 11 j) st post := by
  obtain ⟨G, rn, rk, h, hN, hK⟩ := h
  obtain ⟨q1, q2, q3, q4⟩ := h.2.2.1 j hj
  rw [q2, q3]
  refine p_lead23 (r := rn j) hw h hm (by rcases Nat.eq_zero_or_pos (rn j) with e | e; exact Or.inl e; exact Or.inr (h.used hj e)) q1 q4 (fun s1 hs hF => ?_)
  obtain ⟨G', rn', rk', t1, t2, t3⟩ := hs
  refine k s1 ⟨G', rn', rk', t1, fun i hi => by rw [t3 i hi]; exact hN i hi, fun i hi => ?_⟩ hF
  rw [t2 i hi]
  by_cases e : i = m
  · subst e; rw [va_up_self, if_pos rfl]; exact hN j hj
  · rw [vu_ne e, if_neg e]; exact hK i hi
theorem Fm_.rf {st : St_} : Fm_ st st := fun _ _ _ => rfl
theorem Fm_.tr {a b c : St_} (h1 : Fm_ a b) (h2 : Fm_ b c) : Fm_ a c := fun k h3 h4 => (h2 k h3 h4).trans (h1 k h3 h4)
theorem p_back_loop {post : St_ → Prop} (hw : 5 ≤ w ∧ w ≤ 32) (st0 : St_) (k : ∀ st', TB_ w st' K K → Fm_ st0 st' → post st') :
    ∀ (n i : Nat) (s : St_) (N' : Nat → List (Nat × Nat)), i ≤ 8 → 8 < n + i → TB_ w s N' K → (∀ j, j < i → N' j = K j) → Fm_ st0 s → wp_S_leadAll_22_23_2 w post n (nI i) s := by
  intro n
  induction n with
  | zero => intro i s N' h1 h2; omega
  | succ n ih =>
    intro i s N' h1 h2 hT hj hF
    refine pk_le 8 i (fun hle => ?_) (fun hlt => ?_) rfl rfl (by omega) (by omega)
    · exact k s (hT.cong (fun j h => (hj j (by omega)).symm) (fun _ _ => rfl)) hF
    · refine ⟨vp_in_nI hlt (by omega), vp_in_nI hlt (by omega), ?_⟩
      rw [nI_clamp (n := i) (by omega)]
      refine p_leadK hw hT hlt hlt (fun s1 hT1 hF1 y hy => ?_)
      rw [hy, nI_1]
      refine ih (i + 1) s1 _ (by omega) (by omega) hT1 (fun j h => ?_) (hF.tr hF1)
      by_cases e : j = i
      · subst e; rw [va_up_self]
      · rw [vu_ne e]; exact hj j (by omega)
theorem p_keep_loop {post : St_ → Prop} (hw : 5 ≤ w ∧ w ≤ 32) (st0 : St_) (k : ∀ st', TB_ w st' N N → Fm_ st0 st' → post st') :
    ∀ (n i : Nat) (s : St_) (K' : Nat → List (Nat × Nat)), i ≤ 8 → 8 < n + i → TB_ w s N K' → (∀ j, j < i → K' j = N j) → Fm_ st0 s → wp_S_leadAll_23_22_2 w post n (nI i) s := by
  intro n
  induction n with
  | zero => intro i s N' h1 h2; omega
  | succ n ih =>
    intro i s K' h1 h2 hT hj hF
    refine pk_le 8 i (fun hle => ?_) (fun hlt => ?_) rfl rfl (by omega) (by omega)
    · exact k s (hT.cong (fun _ _ => rfl) (fun j h => (hj j (by omega)).symm)) hF
    · refine ⟨vp_in_nI hlt (by omega), vp_in_nI hlt (by omega), ?_⟩
      rw [nI_clamp (n := i) (by omega)]
      refine p_leadkN hw hT hlt hlt (fun s1 hT1 hF1 y hy => ?_)
      rw [hy, nI_1]
      refine ih (i + 1) s1 _ (by omega) (by omega) hT1 (fun j h => ?_) (hF.tr hF1)
      by_cases e : j = i
      · subst e; rw [va_up_self]
      · rw [vu_ne e]; exact hj j (by omega)
theorem p_S_keep {post : Int32 → St_ → Prop} (hw : 5 ≤ w ∧ w ≤ 32) (h : TA_ w st N K) (k : ∀ st', TA_ w st' N N → Fm_ st st' → post (nI (nl8_ N)) st') : wp_S_keep w st post := by
  unfold wp_S_keep
  refine ⟨9, p_keep_loop (N := N) hw st (fun s1 hT hF => ?_) 9 0 st K (by omega) (by omega) h.b (fun j hj => by omega) Fm_.rf⟩
  rw [hT.cnt.2.2.1]
  exact k s1 (hT.a h.sum.1 h.sum.1) hF
theorem p_S_back {post : Int32 → St_ → Prop} (hw : 5 ≤ w ∧ w ≤ 32) (h : TA_ w st N K) (k : ∀ st', TA_ w st' K K → Fm_ st st' → post (nI (nl8_ K)) st') : wp_S_back w st post := by
  unfold wp_S_back
  refine ⟨9, p_back_loop (K := K) hw st (fun s1 hT hF => ?_) 9 0 st N (by omega) (by omega) h.b (fun j hj => by omega) Fm_.rf⟩
  rw [hT.cnt.2.2.1]
  exact k s1 (hT.a h.sum.2 h.sum.2) hF
theorem p_S_drop {m : Nat} {post : Int32 → St_ → Prop} (hw : 5 ≤ w ∧ w ≤ 32) (h : TA_ w st N K) (hm : m < 8) (k : ∀ st', TA_ w st' (va_up N m []) K → Fm_ st st' → post (nI (N m).length) st') : wp_S_drop w (nI m) st post := by
  unfold wp_S_drop
  refine p_S_isMap1 hm (rb_t (by decide) ⟨vp_in_nI hm (by omega), fun y hy => ?_⟩)
  rw [nI_clamp (n := m) (by omega), h.b.cnt.1 m hm] at hy
  rw [hy]
  refine p_lead0 hw h.b hm (fun s1 hT hF => k s1 (hT.a ?_ h.sum.2) hF)
  have h1 : nl8_ (va_up N m []) ≤ nl8_ N := sm_le (n := 8) (f := fun i => (va_up N m [] i).length) (g := fun i => (N i).length) (fun i _ => by
    by_cases e : i = m
    · subst e; rw [va_up_self]; simp
    · rw [vu_ne e]; exact Nat.le_refl _)
  exact Nat.le_trans h1 h.sum.1
theorem nl8_up {m : Nat} {L : List (Nat × Nat)} (hm : m < 8) : nl8_ (va_up N m L) + (N m).length = nl8_ N + L.length := by
  have h := sm_up (n := 8) (k := m) (f := fun i => (N i).length) (g := fun i => (va_up N m L i).length) hm (fun i _ hi => by rw [vu_ne hi])
  simp only [va_up_self] at h
  exact h
theorem p_S_clone {m j : Nat} {post : Int32 → St_ → Prop} (hw : 5 ≤ w ∧ w ≤ 32) (h : TA_ w st N K) (hm : m < 8) (hj : j < 8) (hne : m ≠ j)
    (kF : 600 < nl8_ N - (N m).length + (N j).length → post (-3) st) (kO : nl8_ N - (N m).length + (N j).length ≤ 600 → ∀ st', TA_ w st' (va_up N m (N j)) K → Fm_ st st' → post (nI (N j).length) st') : wp_S_clone w (nI m) (nI j) st post := by
  unfold wp_S_clone
  have hc := h.b.cnt
  have hle : (N m).length ≤ nl8_ N := sm_one (n := 8) (k := m) (fun i => (N i).length) hm
  have hle2 : (N j).length ≤ nl8_ N := sm_one (n := 8) (k := j) (fun i => (N i).length) hj
  have hs := h.sum
  refine p_S_isMap1 hm (br_f (by decide) (p_S_isMap1 hj (br_f (by decide) (rb_t (fun e => hne ((nI_eq (by omega) (by omega)).mp e)) ⟨vp_in_nI hm (by omega), vp_in_nI hj (by omega), ?_⟩))))
  rw [nI_clamp (n := m) (by omega), nI_clamp (n := j) (by omega), hc.2.2.1, hc.1 m hm]
  refine pk_le (nl8_ N - (N m).length + (N j).length) 600 (fun hle => ⟨vp_in_nI hj (by omega), vp_in_nI hj (by omega), ?_⟩) (fun hlt => kF hlt) (by rw [hc.1 j hj, pk_sub (by exact hle), nI_add]) rfl (by omega) (by omega)
  refine p_leadN hw h.b hm hj (fun s1 hT hF => ⟨vp_in_nI hm (by omega), ?_⟩)
  have hu := nl8_up (N := N) (L := N j) hm
  have hk := kO hle s1 (hT.a (by omega) hs.2) hF
  rw [hT.cnt.1 m hm, va_up_self]
  exact hk
theorem p_S_keys {m : Nat} {post : Int32 → St_ → Prop} (h : TA_ w st N K) (hm : m < 8) (k : post (nI (N m).length) st) : wp_S_keys w (nI m) st post := by
  unfold wp_S_keys
  refine rb_t (fun e => nI_pos (n := m) (by omega) (by rw [e]; decide)) (p_S_isMap1 hm (br_f (by decide) ⟨vp_in_nI hm (by omega), ?_⟩))
  rw [nI_clamp (n := m) (by omega), h.b.cnt.1 m hm]
  exact k
theorem p_S_keysA {post : Int32 → St_ → Prop} (h : TA_ w st N K) (k : post (nI (nl8_ N)) st) : wp_S_keys w (-1) st post := by
  unfold wp_S_keys
  refine rb_f rfl ?_
  rw [h.b.cnt.2.2.1]
  exact k
end LE
end
section
-- PURE: cut and spread
/-- take the keys from a to b out -/
def cz_ (a b : Nat) (l : List (Nat × Nat)) : List (Nat × Nat) := l.filter (fun e => !(decide (a ≤ e.1) && decide (e.1 ≤ b)))
theorem cz_mem (a b x t : Nat) (l : List (Nat × Nat)) : (x, t) ∈ cz_ a b l ↔ ¬ (a ≤ x ∧ x ≤ b) ∧ (x, t) ∈ l := by
  simp only [cz_, List.mem_filter]
  constructor
  · rintro ⟨h1, h2⟩
    refine ⟨fun h => ?_, h1⟩
    simp [h.1, h.2] at h2
  · rintro ⟨h1, h2⟩
    refine ⟨h2, ?_⟩
    by_cases e : a ≤ x
    · have : ¬ x ≤ b := fun q => h1 ⟨e, q⟩
      simp [this]
    · simp [e]
theorem cz_so {a b : Nat} {l : List (Nat × Nat)} (hs : so_ l) : so_ (cz_ a b l) := List.Pairwise.filter _ hs
theorem cz_dz {a b k : Nat} (h1 : a ≤ k) (h2 : k ≤ b) (l : List (Nat × Nat)) : cz_ a b (dz_ k l) = cz_ a b l := by
  induction l with
  | nil => rfl
  | cons e l ih =>
    by_cases he : e.1 = k
    · have e1 : dz_ k (e :: l) = dz_ k l := by simp [dz_, he]
      have e2 : cz_ a b (e :: l) = cz_ a b l := by
        simp only [cz_]
        rw [List.filter_cons_of_neg (by simp [he, h1, h2])]
      rw [e1, e2, ih]
    · have e1 : dz_ k (e :: l) = e :: dz_ k l := by
        simp only [dz_]
        rw [List.filter_cons_of_pos (by simp [he])]
      rw [e1]
      simp only [cz_, List.filter_cons] at ih ⊢
      rw [ih]
theorem cz_no {a b : Nat} {l : List (Nat × Nat)} (h : ∀ p ∈ l, a ≤ p.1 → b < p.1) : cz_ a b l = l := by
  simp only [cz_]
  rw [List.filter_eq_self]
  intro e he
  by_cases q : a ≤ e.1
  · have := h e he q
    have : ¬ e.1 ≤ b := by omega
    simp [this]
  · simp [q]
section CU
variable {w : Nat} {st : St_} {N K : Nat → List (Nat × Nat)}
theorem p_kfA {m x : Nat} {post : Int32 → St_ → Prop} (hw : 5 ≤ w ∧ w ≤ 32) (h : TA_ w st N K) (hm : m < 8) (hx : x < 4096) (k : ∀ r, LK_ (N m) x r → post r st) : wp_T_keyFrom w (st 10 m) (nI x) st post := by
  obtain ⟨G, rn, rk, ⟨h, h600, hk600⟩, hN, hK⟩ := h
  obtain ⟨q1, q2, q3, q4⟩ := h.2.2.1 m hm
  rw [q2]
  exact p_kfR hw h hm hx (fun r hr => k r (by rw [hN m hm]; exact hr))
theorem p_kfC {m x : Nat} {d : Int32} {post : Int32 → St_ → Prop} (hw : 5 ≤ w ∧ w ≤ 32) (h : TA_ w (cc_ 11 19 st m d) N K) (hm : m < 8) (hx : x < 4096) (k : ∀ r, LK_ (N m) x r → post r st) : wp_T_keyFrom w (st 10 m) (nI x) st post := by
  obtain ⟨G, rn, rk, ⟨h, h600, hk600⟩, hN, hK⟩ := h
  obtain ⟨q1, q2, q3, q4⟩ := h.2.2.1 m hm
  rw [cc_o (by decide) (by decide)] at q2
  have hR0 : Rp_ w st G := h.1.cong (fun k hk => (cc_o (by omega) (by omega)).symm)
  rw [q2]
  rw [hN m hm] at k
  by_cases h0 : rn m = 0
  · rw [h0] at k ⊢
    exact p_keyFrom0 hw hR0 hx (k _ (Or.inr ⟨rfl, fun p hp => by simp [tr_] at hp⟩))
  · rw [tr_1 (by omega)] at k
    exact p_keyFrom hw hR0 h.2.1 (h.used hm (by omega)) hx k
theorem p_cut_loop {m a b : Nat} {post : Int32 → St_ → Prop} (hw : 5 ≤ w ∧ w ≤ 32) (hm : m < 8) (ha : a < 4096) (hb : b < 4096) (st0 : St_)
    (k : ∀ st', TA_ w st' (va_up N m (cz_ a b (N m))) K → Fm_ st0 st' → post (nI ((N m).length - (cz_ a b (N m)).length)) st') :
    ∀ (n r : Nat) (y : Int32) (s : St_) (L : List (Nat × Nat)), L.length < n → TA_ w (cc_ 11 19 s m (-nI r)) (va_up N m L) K → Fm_ st0 s → L.length + r = (N m).length → cz_ a b L = cz_ a b (N m) → LK_ L a y → (N m).length ≤ 600 → wp_S_cut_50 w post n (nI m) (nI a) (nI b) (nI r) y s := by
  intro n
  induction n with
  | zero => intro r y s L h1; omega
  | succ n ih =>
    intro r y s L h1 hT hF hlen hcz hLK h600
    have hend : cz_ a b L = L → wp_S_changeCount_22 w (nI m) (-nI r) s (fun (st9 : St_) => post (nI r) st9) := fun e => p_cc22 hm (by
      rw [e] at hcz
      have := k _ (by rw [← hcz]; exact hT) (cc_fm hF)
      rw [← hcz, show (N m).length - L.length = r by omega] at this
      exact this)
    refine pk_le 600 r (fun hle => ?_) (fun hlt => ?_) rfl rfl (by omega) (by omega)
    · have : L = [] := List.eq_nil_of_length_eq_zero (by omega)
      exact hend (by rw [this]; rfl)
    · rcases hLK with ⟨q, hq, hq1, hq2, hq3⟩ | ⟨e, hq⟩
      · have hqb := (hT.bd hm q (by rw [va_up_self]; exact hq)).1
        rw [hq2]
        refine br_f (nI_m2 (by omega)) (pk_lt b q.1 (fun hlt2 => ?_) (fun hge => ?_) rfl rfl (by omega) (by omega))
        · exact hend (cz_no (fun p hp h => Nat.lt_of_lt_of_le hlt2 (hq3 p hp h)))
        · refine ⟨vp_in_nI hm (by omega), ?_⟩
          rw [nI_clamp (n := m) (by omega)]
          refine p_rem hw hT hm hqb ⟨q.2, by rw [va_up_self]; exact hq⟩ (fun s1 hT1 hF1 x hx => ⟨vp_in_nI hm (by omega), ?_⟩)
          rw [hx, nI_1]
          rw [va_up_self, bx_uu, i_ng1] at hT1
          refine p_kfC hw hT1 hm hqb (fun y1 hy1 => ?_)
          rw [va_up_self] at hy1
          have hso : so_ L := by have := hT.so hm; rw [va_up_self] at this; exact this
          have hl := dz_len1 hso (k := q.1) (t := q.2) hq
          refine ih (r + 1) y1 s1 (dz_ q.1 L) (by omega) hT1 (hF.tr hF1) (by omega) (by rw [cz_dz hq1 hge]; exact hcz) ?_ h600
          have hge : ∀ p ∈ dz_ q.1 L, a ≤ p.1 → q.1 ≤ p.1 := fun p hp h => hq3 p ((dz_mem q.1 p.1 p.2 L).mp hp).2 h
          rcases hy1 with ⟨e, he, he1, he2, he3⟩ | ⟨e, he⟩
          · exact Or.inl ⟨e, he, by omega, he2, fun p hp h => he3 p hp (hge p hp h)⟩
          · refine Or.inr ⟨e, fun p hp => ?_⟩
            rcases Nat.lt_or_ge p.1 a with h | h
            · exact h
            · have := he p hp; have := hge p hp h; omega
      · rw [e]
        exact br_t rfl (hend (cz_no (fun p hp h => by have := hq p hp; omega)))
theorem va_up_id {m : Nat} : va_up N m (N m) = N := by
  funext i
  by_cases e : i = m
  · subst e; rw [va_up_self]
  · rw [vu_ne e]
theorem p_S_cut {m a b : Nat} {post : Int32 → St_ → Prop} (hw : 5 ≤ w ∧ w ≤ 32) (h : TA_ w st N K) (hm : m < 8) (ha : a < 4096) (hb : b < 4096) (hab : a ≤ b)
    (k : ∀ st', TA_ w st' (va_up N m (cz_ a b (N m))) K → Fm_ st st' → post (nI ((N m).length - (cz_ a b (N m)).length)) st') : wp_S_cut w (nI m) (nI a) (nI b) st post := by
  unfold wp_S_cut
  refine p_S_isMap1 hm (br_f (by decide) (p_S_isKey1 ha (br_f (by decide) (p_S_isKey1 hb (br_f (by decide) (br_t (nI_le hab (by omega)) ⟨vp_in_nI hm (by omega), ?_⟩))))))
  rw [nI_clamp (n := m) (by omega)]
  have hle : (N m).length ≤ nl8_ N := sm_one (n := 8) (k := m) (fun i => (N i).length) hm
  have := h.sum
  refine p_kfA hw h hm ha (fun y hy => ⟨(N m).length + 1, ?_⟩)
  exact p_cut_loop (N := N) (K := K) hw hm ha hb st k ((N m).length + 1) 0 y st (N m) (by omega) (by rw [va_up_id, show -nI 0 = (0 : Int32) by decide, cc_0]; exact h) Fm_.rf (by omega) rfl hy (by omega)
/-- the map is full for this key -/
def fu_ (N : Nat → List (Nat × Nat)) (m x : Nat) : Bool := !((N m).any (fun e => e.1 == x)) && decide (600 ≤ nl8_ N)
theorem fu_t {m x : Nat} (h1 : ∀ t, (x, t) ∉ N m) (h2 : 600 ≤ nl8_ N) : fu_ N m x = true := by
  have : (N m).any (fun e => e.1 == x) = false := by
    rw [List.any_eq_false]
    intro e he q
    have : e.1 = x := by simpa using q
    exact h1 e.2 (by rw [← this]; exact he)
  simp only [fu_, this, h2, decide_true, Bool.not_false, Bool.and_self]
theorem fu_f {m x : Nat} (h : (∃ t, (x, t) ∈ N m) ∨ nl8_ N < 600) : fu_ N m x = false := by
  rcases h with ⟨t, h⟩ | h
  · have : (N m).any (fun e => e.1 == x) = true := List.any_eq_true.mpr ⟨(x, t), h, by simp⟩
    simp only [fu_, this, Bool.not_true, Bool.false_and]
  · simp only [fu_, show ¬ 600 ≤ nl8_ N by omega, decide_false, Bool.and_false]
/-- what spread comes to: how many were written, the maps then -/
def spr_ (m x d c s : Nat) : Nat → Nat → (Nat → List (Nat × Nat)) → Nat × (Nat → List (Nat × Nat))
  | 0, i, N => (i, N)
  | f + 1, i, N => if i < c ∧ x + i * d < 4096 ∧ s + i ≤ 1000000000 ∧ fu_ N m (x + i * d) = false then spr_ m x d c s f (i + 1) (va_up N m (iz_ (x + i * d) (s + i) (N m))) else (i, N)
theorem p_S_writeB {m x s : Nat} {post : Int32 → St_ → Prop} (hm : m < 8) (hx : x < 2 ^ 31) (hs : s < 2 ^ 31) (h : ¬ (x < 4096 ∧ s ≤ 1000000000)) (k : post (-1) st) : wp_S_write w (nI m) (nI x) (nI s) st post := by
  unfold wp_S_write
  refine p_S_isMap1 hm (br_f (by decide) ?_)
  by_cases hx2 : x < 4096
  · refine p_S_isKey1 hx2 (br_f (by decide) (p_S_isStamp0 (Or.inr (nI_le (by omega) (by omega))) (rb_f rfl k)))
  · exact p_S_isKey0 (Or.inr (nI_le (by omega) (by omega))) (br_t rfl k)
theorem p_spread_loop {m x d c s : Nat} {post : Int32 → St_ → Prop} (hw : 5 ≤ w ∧ w ≤ 32) (hm : m < 8) (hx : x < 4096) (hd : d ≤ 4095) (hc : c ≤ 600) (hs : s ≤ 1000000000) (st0 : St_) :
    ∀ (n i : Nat) (s1 : St_) (N : Nat → List (Nat × Nat)), c < n + i → i ≤ c → TA_ w s1 N K → Fm_ st0 s1 → (∀ st', TA_ w st' (spr_ m x d c s n i N).2 K → Fm_ st0 st' → post (nI (spr_ m x d c s n i N).1) st') → wp_S_spread_54 w post n (nI m) (nI x) (nI d) (nI c) (nI s) (nI i) s1 := by
  intro n
  induction n with
  | zero => intro i s1 N h1 h2; omega
  | succ n ih =>
    intro i s1 N h1 hic hT hF k
    have hid : i * d ≤ 600 * 4095 := Nat.mul_le_mul (by omega) hd
    simp only [spr_] at k
    refine pk_le c i (fun hle => ?_) (fun hlt => ?_) rfl rfl (by omega) (by omega)
    · rw [if_neg (by omega)] at k
      exact k s1 hT hF
    · rw [pk_mul, nI_add, nI_add]
      by_cases hg : x + i * d < 4096 ∧ s + i ≤ 1000000000
      · refine p_S_write hw hT hm hg.1 hg.2 (fun f1 f2 => ?_) (fun s2 hT2 hF2 hor => ?_)
        · rw [if_neg (by rw [fu_t f1 f2]; simp)] at k
          exact br_t (by decide) (k s1 hT hF)
        · rw [if_pos ⟨hlt, hg.1, hg.2, fu_f hor⟩] at k
          have hl : (iz_ (x + i * d) (s + i) (N m)).length ≤ 600 := by
            have h1 := sm_one (n := 8) (k := m) (fun j => (va_up N m (iz_ (x + i * d) (s + i) (N m)) j).length) hm
            have h2 := hT2.sum.1
            simp only [va_up_self] at h1
            exact Nat.le_trans h1 h2
          refine br_f (nI_pos (by omega)) (fun y hy => ?_)
          rw [hy, nI_1]
          exact ih (i + 1) s2 _ (by omega) (by omega) hT2 (hF.tr hF2) k
      · rw [if_neg (fun q => hg ⟨q.2.1, q.2.2.1⟩)] at k
        exact p_S_writeB hm (by omega) (by omega) hg (br_t (by decide) (k s1 hT hF))
theorem p_S_spread {m x d c s : Nat} {post : Int32 → St_ → Prop} (hw : 5 ≤ w ∧ w ≤ 32) (h : TA_ w st N K) (hm : m < 8) (hx : x < 4096) (hd1 : 1 ≤ d) (hd : d ≤ 4095) (hc : c ≤ 600) (hs : s ≤ 1000000000)
    (k : ∀ st', TA_ w st' (spr_ m x d c s 601 0 N).2 K → Fm_ st st' → post (nI (spr_ m x d c s 601 0 N).1) st') : wp_S_spread w (nI m) (nI x) (nI d) (nI c) (nI s) st post := by
  unfold wp_S_spread
  refine p_S_isMap1 hm (br_f (by decide) (p_S_isKey1 hx (br_f (by decide) (p_S_isStamp1 hs (rb_t (by decide) (br_f (nI_nlt (b := 1) hd1 (by omega)) (br_f (nI_nlt (a := 4095) hd (by omega)) (br_f (nI_pos (by omega)) (br_t (nI_le (b := 600) hc (by omega)) ⟨601, ?_⟩)))))))))
  exact p_spread_loop hw hm hx hd hc hs st 601 0 st N (by omega) (by omega) h Fm_.rf k
end CU
end
section
-- PURE: the reference over the same eight lists now and eight kept
def mv_ (st : St_) (a : Nat) (N : Nat → List (Nat × Nat)) : Prop := ∀ m, m < 8 → ∀ k, k < 4096 → (∀ s, (k, s) ∈ N m → st a (4096 * m + k) = nI (s + 1)) ∧ ((∀ s, (k, s) ∉ N m) → st a (4096 * m + k) = 0)
def mc_ (st : St_) (a : Nat) (N : Nat → List (Nat × Nat)) : Prop := ∀ m, m < 8 → st a m = nI (N m).length
def Nd_ (N : Nat → List (Nat × Nat)) : Prop := (∀ m, m < 8 → so_ (N m) ∧ ∀ q ∈ N m, q.1 < 4096 ∧ q.2 ≤ 1000000000) ∧ nl8_ N ≤ 600
def MA_ (st : St_) (N K : Nat → List (Nat × Nat)) : Prop := mv_ st 14 N ∧ mv_ st 15 K ∧ mc_ st 16 N ∧ mc_ st 17 K ∧ Nd_ N ∧ Nd_ K
def Fo_ (st st' : St_) : Prop := ∀ k, k < 14 ∨ 17 < k → st' k = st k
theorem Fo_.rf {st : St_} : Fo_ st st := fun _ _ => rfl
theorem Fo_.tr {a b c : St_} (h1 : Fo_ a b) (h2 : Fo_ b c) : Fo_ a c := fun k h3 => (h2 k h3).trans (h1 k h3)
theorem mx_e (m x : Nat) : (4096 : Int32) * nI m + nI x = nI (4096 * m + x) := by
  rw [show (4096 : Int32) = nI 4096 from rfl, pk_mul, nI_add]
theorem mx_inj {m x n y : Nat} (hx : x < 4096) (hy : y < 4096) (h : 4096 * m + x = 4096 * n + y) : m = n ∧ x = y := by omega
theorem LK_fun {L : List (Nat × Nat)} {k : Nat} {r r' : Int32} (h : LK_ L k r) (h' : LK_ L k r') : r = r' := by
  rcases h with ⟨q, h1, h2, h3, h4⟩ | ⟨h1, h2⟩ <;> rcases h' with ⟨q', g1, g2, g3, g4⟩ | ⟨g1, g2⟩
  · have a1 := h4 q' g1 g2
    have a2 := g4 q h1 h2
    rw [h3, g3, show q.1 = q'.1 by omega]
  · have := g2 q h1; omega
  · have := h2 q' g1; omega
  · rw [h1, g1]
section RF
variable {w : Nat} {st : St_} {N K : Nat → List (Nat × Nat)}
theorem TA_.nd (h : TA_ w st N K) : Nd_ N := ⟨fun m hm => ⟨h.so hm, h.bd hm⟩, h.sum.1⟩
theorem TA_.fo {st' : St_} (h : TA_ w st N K) (hF : Fo_ st st') : TA_ w st' N K := by
  obtain ⟨G, rn, rk, ⟨⟨h1, h2, h3, h4, h5, h6⟩, h7, h8⟩, hN, hK⟩ := h
  refine ⟨G, rn, rk, ⟨⟨h1.cong (fun k hk => hF k (by omega)), h2, ?_, ?_, ?_, ?_⟩, h7, h8⟩, hN, hK⟩
  · intro i hi
    rw [hF 10 (by omega), hF 11 (by omega)]; exact h3 i hi
  · intro i hi
    rw [hF 12 (by omega), hF 13 (by omega)]; exact h4 i hi
  · rw [hF 19 (by omega)]; exact h5
  · rw [hF 20 (by omega)]; exact h6
theorem MA_.fm {st' : St_} (h : MA_ st N K) (hF : Fm_ st st') : MA_ st' N K := by
  obtain ⟨h1, h2, h3, h4, h5, h6⟩ := h
  refine ⟨fun m hm k hk => ?_, fun m hm k hk => ?_, fun m hm => ?_, fun m hm => ?_, h5, h6⟩
  · rw [hF 14 (by omega) (by omega)]; exact h1 m hm k hk
  · rw [hF 15 (by omega) (by omega)]; exact h2 m hm k hk
  · rw [hF 16 (by omega) (by omega)]; exact h3 m hm
  · rw [hF 17 (by omega) (by omega)]; exact h4 m hm
theorem Nd_.len (h : Nd_ N) {m : Nat} (hm : m < 8) : (N m).length ≤ 600 := by
  have h1 : (N m).length ≤ nl8_ N := sm_one (n := 8) (k := m) (fun i => (N i).length) hm
  have := h.2; omega
theorem p_R_isMap1 {m : Nat} {post : Int32 → St_ → Prop} (h : m < 8) (k : post 1 st) : wp_R_isMap w (nI m) st post := by
  unfold wp_R_isMap
  exact br_f (nI_pos (by omega)) (br_f (nI_ge (b := 8) h (by omega)) k)
theorem p_R_isMap0 {x : Int32} {post : Int32 → St_ → Prop} (h : x < 0 ∨ nI 8 ≤ x) (k : post 0 st) : wp_R_isMap w x st post := by
  unfold wp_R_isMap
  refine br_c (fun _ => k) (fun c => br_t ?_ k)
  rcases h with h | h
  · exact absurd h c
  · exact h
theorem p_R_isKey1 {m : Nat} {post : Int32 → St_ → Prop} (h : m < 4096) (k : post 1 st) : wp_R_isKey w (nI m) st post := by
  unfold wp_R_isKey
  exact br_f (nI_pos (by omega)) (br_f (nI_ge (b := 4096) h (by omega)) k)
theorem p_R_isKey0 {x : Int32} {post : Int32 → St_ → Prop} (h : x < 0 ∨ nI 4096 ≤ x) (k : post 0 st) : wp_R_isKey w x st post := by
  unfold wp_R_isKey
  refine br_c (fun _ => k) (fun c => br_t ?_ k)
  rcases h with h | h
  · exact absurd h c
  · exact h
theorem p_R_isStamp1 {m : Nat} {post : Int32 → St_ → Prop} (h : m ≤ 1000000000) (k : post 1 st) : wp_R_isStamp w (nI m) st post := by
  unfold wp_R_isStamp
  exact br_f (nI_pos (by omega)) (br_f (nI_nlt (a := 1000000000) h (by omega)) k)
theorem p_R_isStamp0 {x : Int32} {post : Int32 → St_ → Prop} (h : x < 0 ∨ nI 1000000001 ≤ x) (k : post 0 st) : wp_R_isStamp w x st post := by
  unfold wp_R_isStamp
  refine br_c (fun _ => k) (fun c => br_t ?_ k)
  rcases h with h | h
  · exact absurd h c
  · exact (i_le_lt (n := 1000000000) (by omega)).mp h
theorem p_R_all_loop {post : Int32 → St_ → Prop} (h : mc_ st 16 N) (k : post (nI (nl8_ N)) st) :
    ∀ (n i : Nat), i ≤ 8 → 8 < n + i → wp_R_all_4 w post n (nI (sm_ i (fun j => (N j).length))) (nI i) st := by
  intro n
  induction n with
  | zero => intro i h1 h2; omega
  | succ n ih =>
    intro i h1 h2
    refine pk_le 8 i (fun hle => ?_) (fun hlt => ?_) rfl rfl (by omega) (by omega)
    · rw [show i = 8 by omega]; exact k
    · refine ⟨vp_in_nI hlt (by omega), fun y hy z hz => ?_⟩
      rw [nI_clamp (n := i) (by omega), h i hlt, nI_add] at hy
      rw [hy, hz, nI_1]
      exact ih (i + 1) (by omega) (by omega)
theorem p_R_all {post : Int32 → St_ → Prop} (h : mc_ st 16 N) (k : post (nI (nl8_ N)) st) : wp_R_all w st post :=
  ⟨9, p_R_all_loop (N := N) h k 9 0 (by omega) (by omega)⟩
/-- one cell of the reference is set -/
theorem mv_set {a m x : Nat} {v : Int32} {L : List (Nat × Nat)} {st' : St_} (h : mv_ st a N) (hm : m < 8) (hx : x < 4096) (e : st' a = fun j => if j = 4096 * m + x then v else st a j)
    (h1 : ∀ k s, k ≠ x → ((k, s) ∈ L ↔ (k, s) ∈ N m)) (h2 : ∀ s, (x, s) ∈ L → v = nI (s + 1)) (h3 : (∀ s, (x, s) ∉ L) → v = 0) : mv_ st' a (va_up N m L) := by
  intro i hi k hk
  rw [e]
  by_cases ei : i = m
  · subst ei
    rw [va_up_self]
    by_cases ek : k = x
    · subst ek
      simp only [if_true]
      exact ⟨h2, h3⟩
    · simp only [show ¬ 4096 * i + k = 4096 * i + x by omega, if_false]
      obtain ⟨q1, q2⟩ := h i hi k hk
      exact ⟨fun s hs => q1 s ((h1 k s ek).mp hs), fun hs => q2 (fun s q => hs s ((h1 k s ek).mpr q))⟩
  · rw [vu_ne ei]
    simp only [show ¬ 4096 * i + k = 4096 * m + x from fun q => ei (mx_inj hk hx q).1, if_false]
    exact h i hi k hk
theorem mc_set {a m : Nat} {L : List (Nat × Nat)} {st' : St_} (h : mc_ st a N) (e1 : st' a m = nI L.length) (e2 : ∀ i, i ≠ m → st' a i = st a i) : mc_ st' a (va_up N m L) := by
  intro i hi
  by_cases e : i = m
  · subst e; rw [va_up_self]; exact e1
  · rw [vu_ne e, e2 i e]; exact h i hi
theorem mv_c {a : Nat} {st' : St_} (h : mv_ st a N) (e : st' a = st a) : mv_ st' a N := by
  intro i hi k hk; rw [e]; exact h i hi k hk
theorem mc_c {a : Nat} {st' : St_} (h : mc_ st a N) (e : st' a = st a) : mc_ st' a N := by
  intro i hi; rw [e]; exact h i hi
theorem Nd_.put {m x s : Nat} (h : Nd_ N) (hm : m < 8) (hx : x < 4096) (hs : s ≤ 1000000000) (hor : (∃ t, (x, t) ∈ N m) ∨ nl8_ N < 600) : Nd_ (va_up N m (iz_ x s (N m))) := by
  refine ⟨fun i hi => ?_, ?_⟩
  · by_cases e : i = m
    · subst e
      rw [va_up_self]
      refine ⟨iz_so (h.1 i hi).1, fun q hq => ?_⟩
      obtain ⟨q1, q2⟩ := q
      rcases (iz_mem (h.1 i hi).1 q1 q2).mp hq with ⟨e1, e2⟩ | ⟨_, h2⟩
      · exact ⟨by rw [e1]; exact hx, by rw [e2]; exact hs⟩
      · exact (h.1 i hi).2 _ h2
    · rw [vu_ne e]; exact h.1 i hi
  · have hu := nl8_up (N := N) (L := iz_ x s (N m)) hm
    have h6 := h.2
    by_cases hex : ∃ t, (x, t) ∈ N m
    · obtain ⟨t, ht⟩ := hex
      rw [iz_len1 (h.1 m hm).1 ht] at hu; omega
    · rw [iz_len0 (fun t ht => hex ⟨t, ht⟩)] at hu
      rcases hor with h1 | h1
      · exact absurd h1 hex
      · omega
theorem Nd_.sub {m : Nat} {L : List (Nat × Nat)} (h : Nd_ N) (hm : m < 8) (hs : so_ L) (hl : L.length ≤ (N m).length) (hq : ∀ q ∈ L, q ∈ N m) : Nd_ (va_up N m L) := by
  refine ⟨fun i hi => ?_, ?_⟩
  · by_cases e : i = m
    · subst e; rw [va_up_self]; exact ⟨hs, fun q h1 => (h.1 i hi).2 q (hq q h1)⟩
    · rw [vu_ne e]; exact h.1 i hi
  · have hu := nl8_up (N := N) (L := L) hm
    have h6 := h.2
    omega
theorem ws_1_fun {a i : Nat} {v : Int32} : ws_1 st a i v a = fun j => if j = i then v else st a j := by
  funext j
  by_cases e : j = i
  · subst e; rw [ws_1_at]; simp
  · rw [ws_1_ne e]; simp [e]
theorem p_R_write {m x s : Nat} {post : Int32 → St_ → Prop} (h : MA_ st N K) (hm : m < 8) (hx : x < 4096) (hs : s ≤ 1000000000)
    (kF : (∀ t, (x, t) ∉ N m) → 600 ≤ nl8_ N → post (-3) st) (kO : ∀ st', MA_ st' (va_up N m (iz_ x s (N m))) K → Fo_ st st' → ((∃ t, (x, t) ∈ N m) ∨ nl8_ N < 600) → post (nI (iz_ x s (N m)).length) st') : wp_R_write w (nI m) (nI x) (nI s) st post := by
  unfold wp_R_write
  obtain ⟨h1, h2, h3, h4, h5, h6⟩ := h
  obtain ⟨v1, v2⟩ := h1 m hm x hx
  have hso := (h5.1 m hm).1
  refine p_R_isMap1 hm (br_f (by decide) (p_R_isKey1 hx (br_f (by decide) (p_R_isStamp1 hs (rb_t (by decide) (fun y hy => ?_))))))
  rw [mx_e] at hy
  rw [hy]
  refine ⟨vp_in_nI (by omega) (by omega), ?_⟩
  rw [nI_clamp (n := 4096 * m + x) (by omega), nI_clamp (n := m) (by omega), nI_1]
  by_cases hex : ∃ t, (x, t) ∈ N m
  · obtain ⟨t, ht⟩ := hex
    have hl := iz_len1 (s := s) hso ht
    have htb := ((h5.1 m hm).2 _ ht).2
    refine rb_t (by rw [v1 t ht]; exact nI_ne0 (by omega) (by simp only at htb; omega)) ⟨vp_in_nI (by omega) (by omega), fun s1 e1 => ⟨vp_in_nI hm (by omega), ?_⟩⟩
    have e16 : s1 16 = st 16 := by rw [e1, ws_1_arr (by decide)]
    have hM : MA_ s1 (va_up N m (iz_ x s (N m))) K := ⟨mv_set h1 hm hx (v := nI (s + 1)) (by rw [e1, ws_1_fun]) (fun k u hk => by rw [iz_mem hso]; simp [hk]) (fun u hu => by
        rcases (iz_mem hso x u).mp hu with ⟨_, e⟩ | ⟨e, _⟩
        · rw [e]
        · exact absurd rfl e) (fun hn => absurd ((iz_mem hso x s).mpr (Or.inl ⟨rfl, rfl⟩)) (hn s)), mv_c h2 (by rw [e1, ws_1_arr (by decide)]), mc_set h3 (by rw [e16, h3 m hm, hl]) (fun i _ => by rw [e16]), mc_c h4 (by rw [e1, ws_1_arr (by decide)]), h5.put hm hx hs (Or.inl ⟨t, ht⟩), h6⟩
    have hk := kO s1 hM (fun k hk => by rw [e1, ws_1_arr (by omega)]) (Or.inl ⟨t, ht⟩)
    rw [e16, h3 m hm]
    rw [hl] at hk
    exact hk
  · have hno : ∀ t, (x, t) ∉ N m := fun t ht => hex ⟨t, ht⟩
    have hl := iz_len0 (s := s) hno
    refine rb_f (v2 hno) (p_R_all h3 ?_)
    by_cases h600 : nl8_ N = 600
    · rw [h600]
      exact rb_f rfl (kF hno (by omega))
    · have hlt : nl8_ N < 600 := by have := h5.2; omega
      refine rb_t (fun e => h600 ((nI_eq (b := 600) (by omega) (by omega)).mp e)) ⟨vp_in_nI hm (by omega), vp_in_nI hm (by omega), fun s1 e1 => ⟨vp_in_nI (by omega) (by omega), fun s2 e2 => ⟨vp_in_nI hm (by omega), ?_⟩⟩⟩
      rw [h3 m hm, nI_1] at e1
      have e16 : s2 16 m = nI ((N m).length + 1) := by rw [e2, ws_1_arr (by decide), e1, ws_1_at]
      have hM : MA_ s2 (va_up N m (iz_ x s (N m))) K := ⟨mv_set h1 hm hx (v := nI (s + 1)) (by rw [e2, ws_1_fun, e1, ws_1_arr (by decide)]) (fun k u hk => by rw [iz_mem hso]; simp [hk]) (fun u hu => by
          rcases (iz_mem hso x u).mp hu with ⟨_, e⟩ | ⟨e, _⟩
          · rw [e]
          · exact absurd rfl e) (fun hn => absurd ((iz_mem hso x s).mpr (Or.inl ⟨rfl, rfl⟩)) (hn s)), mv_c h2 (by rw [e2, ws_1_arr (by decide), e1, ws_1_arr (by decide)]), mc_set h3 (by rw [e16, hl]) (fun i hi => by rw [e2, ws_1_arr (by decide), e1, ws_1_ne hi]), mc_c h4 (by rw [e2, ws_1_arr (by decide), e1, ws_1_arr (by decide)]), h5.put hm hx hs (Or.inr hlt), h6⟩
      have hk := kO s2 hM (fun k hk => by rw [e2, ws_1_arr (by omega), e1, ws_1_arr (by omega)]) (Or.inr hlt)
      rw [e16]
      rw [hl] at hk
      exact hk
theorem p_R_writeB {m x s : Nat} {post : Int32 → St_ → Prop} (hm : m < 8) (hx : x < 2 ^ 31) (hs : s < 2 ^ 31) (h : ¬ (x < 4096 ∧ s ≤ 1000000000)) (k : post (-1) st) : wp_R_write w (nI m) (nI x) (nI s) st post := by
  unfold wp_R_write
  refine p_R_isMap1 hm (br_f (by decide) ?_)
  by_cases hx2 : x < 4096
  · refine p_R_isKey1 hx2 (br_f (by decide) (p_R_isStamp0 (Or.inr (nI_le (by omega) (by omega))) (rb_f rfl k)))
  · exact p_R_isKey0 (Or.inr (nI_le (by omega) (by omega))) (br_t rfl k)
theorem p_R_spread_loop {m x d c s : Nat} {post : Int32 → St_ → Prop} (hm : m < 8) (hx : x < 4096) (hd : d ≤ 4095) (hc : c ≤ 600) (hs : s ≤ 1000000000) (st0 : St_) :
    ∀ (n i : Nat) (s1 : St_) (N : Nat → List (Nat × Nat)), c < n + i → i ≤ c → MA_ s1 N K → Fo_ st0 s1 → (∀ st', MA_ st' (spr_ m x d c s n i N).2 K → Fo_ st0 st' → post (nI (spr_ m x d c s n i N).1) st') → wp_R_spread_52 w post n (nI m) (nI x) (nI d) (nI c) (nI s) (nI i) s1 := by
  intro n
  induction n with
  | zero => intro i s1 N h1 h2; omega
  | succ n ih =>
    intro i s1 N h1 hic hT hF k
    have hid : i * d ≤ 600 * 4095 := Nat.mul_le_mul (by omega) hd
    simp only [spr_] at k
    refine pk_le c i (fun hle => ?_) (fun hlt => ?_) rfl rfl (by omega) (by omega)
    · rw [if_neg (by omega)] at k
      exact k s1 hT hF
    · rw [pk_mul, nI_add, nI_add]
      by_cases hg : x + i * d < 4096 ∧ s + i ≤ 1000000000
      · refine p_R_write hT hm hg.1 hg.2 (fun f1 f2 => ?_) (fun s2 hT2 hF2 hor => ?_)
        · rw [if_neg (by rw [fu_t f1 f2]; simp)] at k
          exact br_t (by decide) (k s1 hT hF)
        · rw [if_pos ⟨hlt, hg.1, hg.2, fu_f hor⟩] at k
          have hl : (iz_ (x + i * d) (s + i) (N m)).length ≤ 600 := by
            have := hT2.2.2.2.2.1.len hm
            rw [va_up_self] at this
            exact this
          refine br_f (nI_pos (by omega)) (fun y hy => ?_)
          rw [hy, nI_1]
          exact ih (i + 1) s2 _ (by omega) (by omega) hT2 (hF.tr hF2) k
      · rw [if_neg (fun q => hg ⟨q.2.1, q.2.2.1⟩)] at k
        exact p_R_writeB hm (by omega) (by omega) hg (br_t (by decide) (k s1 hT hF))
theorem p_R_spread {m x d c s : Nat} {post : Int32 → St_ → Prop} (h : MA_ st N K) (hm : m < 8) (hx : x < 4096) (hd1 : 1 ≤ d) (hd : d ≤ 4095) (hc : c ≤ 600) (hs : s ≤ 1000000000)
    (k : ∀ st', MA_ st' (spr_ m x d c s 601 0 N).2 K → Fo_ st st' → post (nI (spr_ m x d c s 601 0 N).1) st') : wp_R_spread w (nI m) (nI x) (nI d) (nI c) (nI s) st post := by
  unfold wp_R_spread
  refine p_R_isMap1 hm (br_f (by decide) (p_R_isKey1 hx (br_f (by decide) (br_f (nI_nlt (b := 1) hd1 (by omega)) (br_f (nI_nlt (a := 4095) hd (by omega)) (br_f (nI_pos (by omega)) (br_f (nI_nlt (a := 600) hc (by omega)) (p_R_isStamp1 hs (rb_t (by decide) ⟨601, ?_⟩)))))))))
  exact p_R_spread_loop hm hx hd hc hs st 601 0 st N (by omega) (by omega) h Fo_.rf k
theorem p_R_read {m x : Nat} {post : Int32 → St_ → Prop} (h : MA_ st N K) (hm : m < 8) (hx : x < 4096) (k1 : ∀ s, (x, s) ∈ N m → post (nI s) st) (k2 : (∀ s, (x, s) ∉ N m) → post (-2) st) : wp_R_read w (nI m) (nI x) st post := by
  unfold wp_R_read
  obtain ⟨h1, h2, h3, h4, h5, h6⟩ := h
  obtain ⟨v1, v2⟩ := h1 m hm x hx
  refine p_R_isMap1 hm (br_f (by decide) (p_R_isKey1 hx (rb_t (by decide) ?_)))
  rw [mx_e]
  refine ⟨vp_in_nI (by omega) (by omega), fun y hy => ?_⟩
  rw [nI_clamp (n := 4096 * m + x) (by omega)] at hy
  rw [hy]
  by_cases hex : ∃ t, (x, t) ∈ N m
  · obtain ⟨t, ht⟩ := hex
    have htb := ((h5.1 m hm).2 _ ht).2
    rw [v1 t ht, nI_pred]
    exact rb_t (nI_ne0 (by omega) (by simp only at htb; omega)) (k1 t ht)
  · have hno : ∀ t, (x, t) ∉ N m := fun t ht => hex ⟨t, ht⟩
    rw [v2 hno]
    exact rb_f rfl (k2 hno)
theorem p_R_erase {m x : Nat} {post : Int32 → St_ → Prop} (h : MA_ st N K) (hm : m < 8) (hx : x < 4096) (k1 : ∀ s, (x, s) ∈ N m → ∀ st', MA_ st' (va_up N m (dz_ x (N m))) K → Fo_ st st' → post (nI s) st') (k2 : (∀ s, (x, s) ∉ N m) → post (-2) st) : wp_R_erase w (nI m) (nI x) st post := by
  unfold wp_R_erase
  refine p_R_read h hm hx (fun s hs => ?_) (fun hn => br_t (by decide) (k2 hn))
  obtain ⟨h1, h2, h3, h4, h5, h6⟩ := h
  have hso := (h5.1 m hm).1
  have hsb := ((h5.1 m hm).2 _ hs).2
  have hl := dz_len1 hso hs
  refine br_f (nI_pos (by simp only at hsb; omega)) ?_
  rw [mx_e]
  refine ⟨vp_in_nI (by omega) (by omega), fun s1 e1 => ⟨vp_in_nI hm (by omega), vp_in_nI hm (by omega), fun s2 e2 => ?_⟩⟩
  rw [nI_clamp (n := 4096 * m + x) (by omega)] at e1
  rw [nI_clamp (n := m) (by omega), e1, ws_1_arr (by decide), h3 m hm, nI_p (by omega)] at e2
  refine k1 s hs s2 ⟨mv_set h1 hm hx (v := 0) (by rw [e2, ws_1_arr (by decide), ws_1_fun]) (fun k u hk => by rw [dz_mem]; simp [hk]) (fun u hu => absurd rfl ((dz_mem x x u _).mp hu).1) (fun _ => rfl), mv_c h2 (by rw [e2, ws_1_arr (by decide), ws_1_arr (by decide)]), mc_set h3 (by rw [e2, ws_1_at]; congr 1; omega) (fun i hi => by rw [e2, ws_1_ne hi, ws_1_arr (by decide)]), mc_c h4 (by rw [e2, ws_1_arr (by decide), ws_1_arr (by decide)]), h5.sub hm (dz_so hso) (by omega) (fun q hq => ((dz_mem x q.1 q.2 _).mp hq).2), h6⟩ (fun k hk => by rw [e2, ws_1_arr (by omega), ws_1_arr (by omega)])
theorem p_R_cut_loop {m a b : Nat} {post : Int32 → St_ → Prop} (hm : m < 8) (hb : b < 4096) (st0 : St_)
    (k : ∀ st', MA_ st' (va_up N m (cz_ a b (N m))) K → Fo_ st0 st' → post (nI ((N m).length - (cz_ a b (N m)).length)) st') :
    ∀ (n i r : Nat) (s : St_) (L : List (Nat × Nat)), a ≤ i → i ≤ b + 1 → b + 1 < n + i → MA_ s (va_up N m L) K → Fo_ st0 s → L.length + r = (N m).length → cz_ a b L = cz_ a b (N m) → (∀ p ∈ L, a ≤ p.1 → i ≤ p.1) → wp_R_cut_34 w post n (nI m) (nI a) (nI b) (nI r) (nI i) s := by
  intro n
  induction n with
  | zero => intro i r s L h1 h2 h3; omega
  | succ n ih =>
    intro i r s L hai h1 h2 hT hF hlen hcz hge
    refine pk_lt b i (fun hlt => ?_) (fun hle => ?_) rfl rfl (by omega) (by omega)
    · have e : cz_ a b L = L := cz_no (fun p hp h => by have := hge p hp h; omega)
      rw [e] at hcz
      have := k s (by rw [← hcz]; exact hT) hF
      rw [← hcz, show (N m).length - L.length = r by omega] at this
      exact this
    · refine p_R_erase hT hm (by omega) (fun t ht s1 hT1 hF1 => ?_) (fun hn => ?_)
      · have htb := (((hT.2.2.2.2.1).1 m hm).2 _ ht).2
        have hso := ((hT.2.2.2.2.1).1 m hm).1
        rw [va_up_self] at ht hso hT1
        rw [bx_uu] at hT1
        have hl := dz_len1 hso ht
        refine br_f (nI_pos (by simp only at htb; omega)) (fun y hy z hz => ?_)
        rw [hy, hz, nI_1, nI_1]
        refine ih (i + 1) (r + 1) s1 (dz_ i L) (by omega) (by omega) (by omega) hT1 (hF.tr hF1) (by omega) (by rw [cz_dz hai hle]; exact hcz) (fun p hp h => ?_)
        obtain ⟨p1, p2⟩ := (dz_mem i p.1 p.2 L).mp hp
        have := hge p p2 h
        omega
      · refine br_t (by decide) (fun y hy z hz => ?_)
        rw [hy, hz, nI_1, show nI r + 0 = nI r from nI_add r 0]
        rw [va_up_self] at hn
        refine ih (i + 1) r s L (by omega) (by omega) (by omega) hT hF hlen hcz (fun p hp h => ?_)
        have := hge p hp h
        have : p.1 ≠ i := fun e => hn p.2 (by rw [← e]; exact hp)
        omega
theorem p_R_cut {m a b : Nat} {post : Int32 → St_ → Prop} (h : MA_ st N K) (hm : m < 8) (ha : a < 4096) (hb : b < 4096) (hab : a ≤ b)
    (k : ∀ st', MA_ st' (va_up N m (cz_ a b (N m))) K → Fo_ st st' → post (nI ((N m).length - (cz_ a b (N m)).length)) st') : wp_R_cut w (nI m) (nI a) (nI b) st post := by
  unfold wp_R_cut
  refine p_R_isMap1 hm (br_f (by decide) (p_R_isKey1 ha (br_f (by decide) (p_R_isKey1 hb (br_f (by decide) (br_t (nI_le hab (by omega)) ⟨b + 2, ?_⟩))))))
  exact p_R_cut_loop (N := N) (K := K) hm hb st k (b + 2) a 0 st (N m) (by omega) (by omega) (by omega) (by rw [va_up_id]; exact h) Fo_.rf (by omega) rfl (fun p _ h => h)
theorem p_R_next_loop {m x : Nat} {post : Int32 → St_ → Prop} (h : MA_ st N K) (hm : m < 8) (k : ∀ r, LK_ (N m) x r → post r st) (y : Int32) :
    ∀ (n i : Nat), x ≤ i → i ≤ 4096 → 4096 < n + i → (∀ p ∈ N m, x ≤ p.1 → i ≤ p.1) → wp_R_next_18 w post n (nI m) y (nI i) st := by
  intro n
  induction n with
  | zero => intro i h1 h2 h3; omega
  | succ n ih =>
    intro i hxi h1 h2 hge
    refine pk_le 4096 i (fun hle => ?_) (fun hlt => ?_) rfl rfl (by omega) (by omega)
    · refine br_t (nI_le (a := 4096) hle (by omega)) (k _ (Or.inr ⟨rfl, fun p hp => ?_⟩))
      have := ((h.2.2.2.2.1.1 m hm).2 p hp).1
      rcases Nat.lt_or_ge p.1 x with q | q
      · exact q
      · have := hge p hp q; omega
    · rw [mx_e]
      refine ⟨vp_in_nI (by omega) (by omega), ?_⟩
      rw [nI_clamp (n := 4096 * m + i) (by omega)]
      obtain ⟨v1, v2⟩ := h.1 m hm i hlt
      by_cases hex : ∃ t, (i, t) ∈ N m
      · obtain ⟨t, ht⟩ := hex
        have htb := ((h.2.2.2.2.1.1 m hm).2 _ ht).2
        refine rb_t (by rw [v1 t ht]; exact nI_ne0 (by omega) (by simp only at htb; omega)) (br_f (nI_ge (b := 4096) hlt (by omega)) (k _ (Or.inl ⟨(i, t), ht, hxi, rfl, fun p hp q => hge p hp q⟩)))
      · have hno : ∀ t, (i, t) ∉ N m := fun t ht => hex ⟨t, ht⟩
        refine rb_f (v2 hno) (fun z hz => ?_)
        rw [hz, nI_1]
        refine ih (i + 1) (by omega) (by omega) (by omega) (fun p hp q => ?_)
        have := hge p hp q
        have : p.1 ≠ i := fun e => hno p.2 (by rw [← e]; exact hp)
        omega
theorem p_R_next {m x : Nat} {post : Int32 → St_ → Prop} (h : MA_ st N K) (hm : m < 8) (hx : x < 4096) (k : ∀ r, LK_ (N m) x r → post r st) : wp_R_next w (nI m) (nI x) st post := by
  unfold wp_R_next
  refine p_R_isMap1 hm (br_f (by decide) (p_R_isKey1 hx (rb_t (by decide) ⟨4097, ?_⟩)))
  exact p_R_next_loop h hm k _ 4097 x (by omega) (by omega) (by omega) (fun p _ h => h)
theorem p_R_drop {m : Nat} {post : Int32 → St_ → Prop} (h : MA_ st N K) (hm : m < 8) (k : ∀ st', MA_ st' (va_up N m []) K → Fo_ st st' → post (nI (N m).length) st') : wp_R_drop w (nI m) st post := by
  unfold wp_R_drop
  refine p_R_isMap1 hm (rb_t (by decide) ⟨vp_in_nI hm (by omega), fun y hy => ?_⟩)
  rw [nI_clamp (n := m) (by omega), h.2.2.1 m hm] at hy
  rw [hy]
  have e : cz_ 0 4095 (N m) = [] := by
    simp only [cz_]
    rw [List.filter_eq_nil_iff]
    intro q hq
    have := ((h.2.2.2.2.1.1 m hm).2 q hq).1
    simp
    omega
  exact p_R_cut (a := 0) (b := 4095) h hm (by omega) (by omega) (by omega) (fun s1 hM hF => by rw [e] at hM; exact k s1 hM hF)
theorem p_R_keys {m : Nat} {post : Int32 → St_ → Prop} (h : MA_ st N K) (hm : m < 8) (k : post (nI (N m).length) st) : wp_R_keys w (nI m) st post := by
  unfold wp_R_keys
  refine rb_t (fun e => nI_pos (n := m) (by omega) (by rw [e]; decide)) (p_R_isMap1 hm (br_f (by decide) ⟨vp_in_nI hm (by omega), ?_⟩))
  rw [nI_clamp (n := m) (by omega), h.2.2.1 m hm]
  exact k
theorem p_R_keysA {post : Int32 → St_ → Prop} (h : MA_ st N K) (k : post (nI (nl8_ N)) st) : wp_R_keys w (-1) st post := by
  unfold wp_R_keys
  exact rb_f rfl (p_R_all h.2.2.1 k)
end RF
end
section
-- PURE: the reference's clone, keep and back
section RG
variable {w : Nat} {st : St_} {N K : Nat → List (Nat × Nat)}
theorem p_R_clone_loop {m f : Nat} {post : Int32 → St_ → Prop} (h : MA_ st N K) (hm : m < 8) (hf : f < 8) (hne : m ≠ f) (hN : Nd_ (va_up N m (N f))) (k : ∀ st', MA_ st' (va_up N m (N f)) K → Fo_ st st' → post (nI (N f).length) st') :
    ∀ (n i : Nat) (s : St_), i ≤ 4096 → 4096 < n + i → (∀ q, q ≠ 14 → s q = st q) → (∀ j, j < 4096 → s 14 (4096 * m + j) = if j < i then st 14 (4096 * f + j) else st 14 (4096 * m + j)) → (∀ c j, c ≠ m → j < 4096 → s 14 (4096 * c + j) = st 14 (4096 * c + j)) → wp_R_clone_50 w post n (nI m) (nI f) (nI i) s := by
  intro n
  induction n with
  | zero => intro i s h1 h2; omega
  | succ n ih =>
    intro i s h1 h2 ho hm1 hc1
    refine pk_le 4096 i (fun hle => ?_) (fun hlt => ?_) rfl rfl (by omega) (by omega)
    · refine ⟨vp_in_nI hf (by omega), vp_in_nI hm (by omega), fun s1 e1 => ⟨vp_in_nI hm (by omega), ?_⟩⟩
      rw [nI_clamp (n := m) (by omega), nI_clamp (n := f) (by omega), ho 16 (by decide), h.2.2.1 f hf] at e1
      have e16 : s1 16 m = nI (N f).length := by rw [e1, ws_1_at]
      rw [nI_clamp (n := m) (by omega), e16]
      have e14 : s1 14 = s 14 := by rw [e1, ws_1_arr (by decide)]
      refine k s1 ⟨fun c hc j hj => ?_, mv_c h.2.1 (by rw [e1, ws_1_arr (by decide), ho 15 (by decide)]), mc_set h.2.2.1 e16 (fun i hi => by rw [e1, ws_1_ne hi, ho 16 (by decide)]), mc_c h.2.2.2.1 (by rw [e1, ws_1_arr (by decide), ho 17 (by decide)]), hN, h.2.2.2.2.2⟩ (fun q hq => by rw [e1, ws_1_arr (by omega), ho q (by omega)])
      rw [e14]
      by_cases e : c = m
      · subst e
        rw [va_up_self, hm1 j hj, if_pos (by omega)]
        exact h.1 f hf j hj
      · rw [vu_ne e, hc1 c j e hj]
        exact h.1 c hc j hj
    · rw [mx_e, mx_e]
      refine ⟨vp_in_nI (by omega) (by omega), vp_in_nI (by omega) (by omega), fun s1 e1 y hy => ?_⟩
      rw [nI_clamp (n := 4096 * m + i) (by omega), nI_clamp (n := 4096 * f + i) (by omega), hc1 f i (Ne.symm hne) hlt] at e1
      rw [hy, nI_1]
      refine ih (i + 1) s1 (by omega) (by omega) (fun q hq => by rw [e1, ws_1_arr hq]; exact ho q hq) (fun j hj => ?_) (fun c j hc hj => ?_)
      · by_cases e : j = i
        · subst e
          rw [e1, ws_1_at, if_pos (by omega)]
        · rw [e1, ws_1_ne (by omega), hm1 j hj]
          by_cases q : j < i
          · rw [if_pos q, if_pos (by omega)]
          · rw [if_neg q, if_neg (by omega)]
      · rw [e1, ws_1_ne (fun q => hc (mx_inj hj hlt q).1)]
        exact hc1 c j hc hj
theorem p_R_clone {m f : Nat} {post : Int32 → St_ → Prop} (h : MA_ st N K) (hm : m < 8) (hf : f < 8) (hne : m ≠ f)
    (kF : 600 < nl8_ N - (N m).length + (N f).length → post (-3) st) (kO : nl8_ N - (N m).length + (N f).length ≤ 600 → ∀ st', MA_ st' (va_up N m (N f)) K → Fo_ st st' → post (nI (N f).length) st') : wp_R_clone w (nI m) (nI f) st post := by
  unfold wp_R_clone
  have hle : (N m).length ≤ nl8_ N := sm_one (n := 8) (k := m) (fun i => (N i).length) hm
  have hle2 : (N f).length ≤ nl8_ N := sm_one (n := 8) (k := f) (fun i => (N i).length) hf
  have hs := h.2.2.2.2.1.2
  refine p_R_isMap1 hm (br_f (by decide) (p_R_isMap1 hf (br_f (by decide) (rb_t (fun e => hne ((nI_eq (by omega) (by omega)).mp e)) (p_R_all h.2.2.1 ⟨vp_in_nI hm (by omega), vp_in_nI hf (by omega), ?_⟩)))))
  rw [nI_clamp (n := m) (by omega), nI_clamp (n := f) (by omega), h.2.2.1 m hm]
  refine pk_le (nl8_ N - (N m).length + (N f).length) 600 (fun hle => ⟨4097, ?_⟩) (fun hlt => kF hlt) (by rw [h.2.2.1 f hf, pk_sub (by exact hle), nI_add]) rfl (by omega) (by omega)
  have hu := nl8_up (N := N) (L := N f) hm
  have hN : Nd_ (va_up N m (N f)) := ⟨fun i hi => by
    by_cases e : i = m
    · subst e; rw [va_up_self]; exact h.2.2.2.2.1.1 f hf
    · rw [vu_ne e]; exact h.2.2.2.2.1.1 i hi, by omega⟩
  exact p_R_clone_loop (N := N) h hm hf hne hN (kO hle) 4097 0 st (by omega) (by omega) (fun _ _ => rfl) (fun j _ => by rw [if_neg (by omega)]) (fun _ _ _ _ => rfl)
theorem p_R_keep_loop2 {post : Int32 → St_ → Prop} (h : MA_ st N K) (k : ∀ st', MA_ st' N N → Fo_ st st' → post (nI (nl8_ N)) st') :
    ∀ (n i : Nat) (s : St_), i ≤ 8 → 8 < n + i → (∀ q, q ≠ 15 → q ≠ 17 → s q = st q) → (∀ j, j < 32768 → s 15 j = st 14 j) → (∀ j, j < i → s 17 j = st 16 j) → wp_R_keep_28 w post n (nI i) s := by
  intro n
  induction n with
  | zero => intro i s h1 h2; omega
  | succ n ih =>
    intro i s h1 h2 ho hv hc
    refine pk_le 8 i (fun hle => ?_) (fun hlt => ?_) rfl rfl (by omega) (by omega)
    · have hfv : mv_ s 14 N := mv_c h.1 (ho 14 (by decide) (by decide))
      have htv : mv_ s 15 N := fun c hc j hj => by rw [hv (4096 * c + j) (by omega)]; exact h.1 c hc j hj
      have hfc : mc_ s 16 N := mc_c h.2.2.1 (ho 16 (by decide) (by decide))
      have htc : mc_ s 17 N := fun c hc2 => by rw [hc c (by omega)]; exact h.2.2.1 c hc2
      have hM : MA_ s N N := ⟨hfv, htv, hfc, htc, h.2.2.2.2.1, h.2.2.2.2.1⟩
      exact p_R_all hM.2.2.1 (k s hM (fun q hq => ho q (by omega) (by omega)))
    · refine ⟨vp_in_nI hlt (by omega), vp_in_nI hlt (by omega), fun s1 e1 y hy => ?_⟩
      rw [nI_clamp (n := i) (by omega), ho 16 (by decide) (by decide)] at e1
      rw [hy, nI_1]
      refine ih (i + 1) s1 (by omega) (by omega) (fun q q1 q2 => by rw [e1, ws_1_arr q2]; exact ho q q1 q2) (fun j hj => by rw [e1, ws_1_arr (by decide)]; exact hv j hj) (fun j hj => ?_)
      by_cases e : j = i
      · subst e; rw [e1, ws_1_at]
      · rw [e1, ws_1_ne e]; exact hc j (by omega)
theorem p_R_keep_loop1 {post : Int32 → St_ → Prop} (h : MA_ st N K) (k : ∀ st', MA_ st' N N → Fo_ st st' → post (nI (nl8_ N)) st') :
    ∀ (n i : Nat) (s : St_), i ≤ 32768 → 32768 < n + i → (∀ q, q ≠ 15 → s q = st q) → (∀ j, j < i → s 15 j = st 14 j) → wp_R_keep_2 w post n (nI i) s := by
  intro n
  induction n with
  | zero => intro i s h1 h2; omega
  | succ n ih =>
    intro i s h1 h2 ho hv
    refine pk_le 32768 i (fun hle => ?_) (fun hlt => ?_) rfl rfl (by omega) (by omega)
    · exact ⟨9, p_R_keep_loop2 h k 9 0 s (by omega) (by omega) (fun q q1 _ => ho q q1) (fun j hj => hv j (by omega)) (fun j hj => by omega)⟩
    · refine ⟨vp_in_nI hlt (by omega), vp_in_nI hlt (by omega), fun s1 e1 y hy => ?_⟩
      rw [nI_clamp (n := i) (by omega), ho 14 (by decide)] at e1
      rw [hy, nI_1]
      refine ih (i + 1) s1 (by omega) (by omega) (fun q q1 => by rw [e1, ws_1_arr q1]; exact ho q q1) (fun j hj => ?_)
      by_cases e : j = i
      · subst e; rw [e1, ws_1_at]
      · rw [e1, ws_1_ne e]; exact hv j (by omega)
theorem p_R_keep {post : Int32 → St_ → Prop} (h : MA_ st N K) (k : ∀ st', MA_ st' N N → Fo_ st st' → post (nI (nl8_ N)) st') : wp_R_keep w st post :=
  ⟨32769, p_R_keep_loop1 h k 32769 0 st (by omega) (by omega) (fun _ _ => rfl) (fun j hj => by omega)⟩
theorem p_R_back_loop2 {post : Int32 → St_ → Prop} (h : MA_ st N K) (k : ∀ st', MA_ st' K K → Fo_ st st' → post (nI (nl8_ K)) st') :
    ∀ (n i : Nat) (s : St_), i ≤ 8 → 8 < n + i → (∀ q, q ≠ 14 → q ≠ 16 → s q = st q) → (∀ j, j < 32768 → s 14 j = st 15 j) → (∀ j, j < i → s 16 j = st 17 j) → wp_R_back_28 w post n (nI i) s := by
  intro n
  induction n with
  | zero => intro i s h1 h2; omega
  | succ n ih =>
    intro i s h1 h2 ho hv hc
    refine pk_le 8 i (fun hle => ?_) (fun hlt => ?_) rfl rfl (by omega) (by omega)
    · have hfv : mv_ s 15 K := mv_c h.2.1 (ho 15 (by decide) (by decide))
      have htv : mv_ s 14 K := fun c hc j hj => by rw [hv (4096 * c + j) (by omega)]; exact h.2.1 c hc j hj
      have hfc : mc_ s 17 K := mc_c h.2.2.2.1 (ho 17 (by decide) (by decide))
      have htc : mc_ s 16 K := fun c hc2 => by rw [hc c (by omega)]; exact h.2.2.2.1 c hc2
      have hM : MA_ s K K := ⟨htv, hfv, htc, hfc, h.2.2.2.2.2, h.2.2.2.2.2⟩
      exact p_R_all hM.2.2.1 (k s hM (fun q hq => ho q (by omega) (by omega)))
    · refine ⟨vp_in_nI hlt (by omega), vp_in_nI hlt (by omega), fun s1 e1 y hy => ?_⟩
      rw [nI_clamp (n := i) (by omega), ho 17 (by decide) (by decide)] at e1
      rw [hy, nI_1]
      refine ih (i + 1) s1 (by omega) (by omega) (fun q q1 q2 => by rw [e1, ws_1_arr q2]; exact ho q q1 q2) (fun j hj => by rw [e1, ws_1_arr (by decide)]; exact hv j hj) (fun j hj => ?_)
      by_cases e : j = i
      · subst e; rw [e1, ws_1_at]
      · rw [e1, ws_1_ne e]; exact hc j (by omega)
theorem p_R_back_loop1 {post : Int32 → St_ → Prop} (h : MA_ st N K) (k : ∀ st', MA_ st' K K → Fo_ st st' → post (nI (nl8_ K)) st') :
    ∀ (n i : Nat) (s : St_), i ≤ 32768 → 32768 < n + i → (∀ q, q ≠ 14 → s q = st q) → (∀ j, j < i → s 14 j = st 15 j) → wp_R_back_2 w post n (nI i) s := by
  intro n
  induction n with
  | zero => intro i s h1 h2; omega
  | succ n ih =>
    intro i s h1 h2 ho hv
    refine pk_le 32768 i (fun hle => ?_) (fun hlt => ?_) rfl rfl (by omega) (by omega)
    · exact ⟨9, p_R_back_loop2 h k 9 0 s (by omega) (by omega) (fun q q1 _ => ho q q1) (fun j hj => hv j (by omega)) (fun j hj => by omega)⟩
    · refine ⟨vp_in_nI hlt (by omega), vp_in_nI hlt (by omega), fun s1 e1 y hy => ?_⟩
      rw [nI_clamp (n := i) (by omega), ho 15 (by decide)] at e1
      rw [hy, nI_1]
      refine ih (i + 1) s1 (by omega) (by omega) (fun q q1 => by rw [e1, ws_1_arr q1]; exact ho q q1) (fun j hj => ?_)
      by_cases e : j = i
      · subst e; rw [e1, ws_1_at]
      · rw [e1, ws_1_ne e]; exact hv j (by omega)
theorem p_R_back {post : Int32 → St_ → Prop} (h : MA_ st N K) (k : ∀ st', MA_ st' K K → Fo_ st st' → post (nI (nl8_ K)) st') : wp_R_back w st post :=
  ⟨32769, p_R_back_loop1 h k 32769 0 st (by omega) (by omega) (fun _ _ => rfl) (fun j hj => by omega)⟩
end RG
end
section
-- PURE: check goes every way and finds no fault
def lz_ (L : List (Nat × Nat)) : Int32 := match L.getLast? with
  | none => -2
  | some q => nI q.1
theorem lz_app {A B : List (Nat × Nat)} (h : B ≠ []) : lz_ (A ++ B) = lz_ B := by
  have e : B.getLast? = some (B.getLast h) := List.getLast?_eq_some_getLast h
  simp only [lz_, List.getLast?_append, e, Option.some_or]
theorem lz_lt {A : List (Nat × Nat)} {k : Nat} (hk : k < 4096) (h : ∀ q ∈ A, q.1 < k) : lz_ A < nI k := by
  cases e : A.getLast? with
  | none =>
    simp only [lz_, e]
    rw [Int32.lt_iff_toInt_lt, nI_toInt (by omega)]
    have : (-2 : Int32).toInt = -2 := by decide
    omega
  | some q =>
    simp only [lz_, e]
    exact nI_lt (h q (List.mem_of_getLast? e)) (by omega)
theorem lz_end {L : List (Nat × Nat)} (h : 1 ≤ L.length) : lz_ L = nI (L.getD (L.length - 1) (0, 0)).1 := by
  have e : L.getLast? = some (L.getD (L.length - 1) (0, 0)) := by
    rw [List.getLast?_eq_getElem?, List.getD_eq_getElem?_getD, List.getElem?_eq_getElem (by omega)]
    rfl
  simp only [lz_, e]
/-- what nodes lead to x that were not looked into yet -/
def un_ (G : Sg_) (f : Nat → Nat) (x : Nat) : Nat := sm_ 1201 (fun p => if gw_ G p = 0 ∨ gl_ G p = 0 ∨ f p ≠ 0 then 0 else cn_ x (ge_ G p))
theorem un_cong {G : Sg_} {f f' : Nat → Nat} (h : ∀ p, f' p = 0 ↔ f p = 0) (x : Nat) : un_ G f' x = un_ G f x := sm_congr (fun p _ => by simp only [Ne, h p])
theorem un_hit {G : Sg_} {f : Nat → Nat} {b x v : Nat} (hb : b ≤ 1200) (hu : 1 ≤ gw_ G b) (h0 : f b = 0) (hl : gl_ G b ≠ 0) : un_ G (va_up f b (v + 1)) x + cn_ x (ge_ G b) = un_ G f x := by
  have h : un_ G (va_up f b (v + 1)) x + (if gw_ G b = 0 ∨ gl_ G b = 0 ∨ f b ≠ 0 then 0 else cn_ x (ge_ G b)) = un_ G f x + (if gw_ G b = 0 ∨ gl_ G b = 0 ∨ va_up f b (v + 1) b ≠ 0 then 0 else cn_ x (ge_ G b)) := by
    unfold un_
    exact sm_up (n := 1201) (k := b) (f := fun p => if gw_ G p = 0 ∨ gl_ G p = 0 ∨ f p ≠ 0 then 0 else cn_ x (ge_ G p)) (g := fun p => if gw_ G p = 0 ∨ gl_ G p = 0 ∨ va_up f b (v + 1) p ≠ 0 then 0 else cn_ x (ge_ G p)) (by omega) (fun i _ hi => by rw [vu_ne hi])
  rw [if_neg (by omega), if_pos (by rw [va_up_self]; omega)] at h
  omega
theorem un_leaf {G : Sg_} {f : Nat → Nat} {b v : Nat} (hl : gl_ G b = 0) (x : Nat) : un_ G (va_up f b v) x = un_ G f x := sm_congr (fun p _ => by
  by_cases e : p = b
  · subst e; simp [hl]
  · rw [vu_ne e])
def Dv_ (G : Sg_) (s : St_) (f : Nat → Nat) (l : Nat) : Prop := (∀ p, 1 ≤ p → p ≤ 1200 → s 6 p = nI (f p)) ∧ (∀ p, 1 ≤ gw_ G p → gl_ G p < l → f p ≠ 0 → s 7 p = nI (kp_ G p) ∧ s 8 p = lz_ (et_ (ge_ G) (gl_ G p) p))
def Fi_ (st st' : St_) : Prop := ∀ k, k < 6 ∨ 8 < k → st' k = st k
theorem Fi_.rf {st : St_} : Fi_ st st := fun _ _ => rfl
theorem Fi_.tr {a b c : St_} (h1 : Fi_ a b) (h2 : Fi_ b c) : Fi_ a c := fun k h3 => (h2 k h3).trans (h1 k h3)
theorem Fi_.w {st s s' : St_} {a i : Nat} {v : Int32} (h : Fi_ st s) (e : s' = ws_1 s a i v) (ha : 6 ≤ a ∧ a ≤ 8) : Fi_ st s' := fun k hk => by rw [e, ws_1_arr (by omega)]; exact h k hk
section CK
variable {w : Nat} {G : Sg_} {R : Nat → Nat}
theorem Fi_.rp {st s : St_} (h : Fi_ st s) (hR : Rp_ w st G) : Rp_ w s G := hR.cong (fun k hk => h k (by omega))
theorem ge_so (hw : 5 ≤ w) (hI : Ic_ w [] 16 R [] G) {b : Nat} (hb : 1 ≤ gw_ G b) : so_ (ge_ G b) := by
  have hl := (hI.1 b hb).2.2
  have hv := hI.2.2.2 b hb hl
  cases hn : gl_ G b with
  | zero => have := hv.2.1; rw [hn] at this; exact this
  | succ n =>
    have hs := hv.2.1
    rw [hn, et_succ] at hs
    have hk : ∀ e ∈ ge_ G b, (et_ (ge_ G) n e.2).head?.map Prod.fst = some e.1 := fun e he => by
      obtain ⟨g1, g2, g3, g4⟩ := hI.child hb hl (by omega) he
      rw [et_hd hw hI n e.2 g1 (by omega) (by omega)]
      exact g4
    have : ∀ L : List (Nat × Nat), (∀ e ∈ L, (et_ (ge_ G) n e.2).head?.map Prod.fst = some e.1) → so_ (fm_ (ge_ G) n L) → so_ L := by
      intro L
      induction L with
      | nil => intro _ _; exact so_nil
      | cons e L ih =>
        intro h1 h2
        rw [fm_cons] at h2
        obtain ⟨s1, s2, s3⟩ := so_app.mp h2
        refine so_cons.mpr ⟨fun y hy => ?_, ih (fun d hd => h1 d (List.mem_cons_of_mem _ hd)) s2⟩
        obtain ⟨q, hq, hq1⟩ := hd_mem (h1 e List.mem_cons_self)
        obtain ⟨r, hr, hr1⟩ := hd_mem (h1 y (List.mem_cons_of_mem _ hy))
        have := s3 q hq r (List.mem_flatMap.mpr ⟨y, hy, hr⟩)
        omega
    exact this _ hk hs
theorem p_hasOrder {s : St_} {b : Nat} {post : Int32 → St_ → Prop} (hw : 5 ≤ w ∧ w ≤ 32) (hR : Rp_ w s G) (hb : 1 ≤ b ∧ b ≤ 1200) (hso : so_ (ge_ G b)) (h1 : 1 ≤ (ge_ G b).length) (h2 : (ge_ G b).length + 1 ≤ w) (k : post 1 s) : wp_I_hasOrder w (nI b) s post := by
  unfold wp_I_hasOrder
  have hloop : ∀ (n i : Nat), 1 ≤ i → i ≤ (ge_ G b).length → (ge_ G b).length < n + i → wp_I_hasOrder_26 w post n (nI b) (nI (ge_ G b).length) (nI i) s := by
    intro n
    induction n with
    | zero => intro i _ _ _; omega
    | succ n ih =>
      intro i i1 i2 i3
      refine pk_le (ge_ G b).length i (fun hle => ?_) (fun hlt => ?_) rfl rfl (by omega) (by omega)
      · refine p_key (i := 0) hw hR hb (by omega) (p_S_isKey1 (hR.bd (by omega)).1 (br_f (by decide) ?_))
        rw [nI_p h1]
        exact p_key hw hR hb (by omega) (p_S_isKey1 (hR.bd (by omega)).1 (br_f (by decide) k))
      · rw [nI_p i1]
        refine p_key hw hR hb (by omega) (p_key hw hR hb hlt (br_t (nI_lt (so_ix hso (by omega) hlt) ?_) (fun y hy => ?_)))
        · have := (hR.bd hlt).1; omega
        · rw [hy, nI_1]
          exact ih (i + 1) (by omega) (by omega) (by omega)
  refine p_size hR hb (br_f (nI_nlt (b := 1) h1 (by omega)) (br_t (nI_le (by omega) (by omega)) ⟨(ge_ G b).length, ?_⟩))
  exact hloop _ 1 (by omega) h1 (by omega)
theorem p_faultOfLeaf {s : St_} {b : Nat} {post : Int32 → St_ → Prop} (hw : 5 ≤ w ∧ w ≤ 32) (hR : Rp_ w s G) (hb : 1 ≤ b ∧ b ≤ 1200) (h1 : 1 ≤ (ge_ G b).length)
    (k : ∀ s1 s2, s1 = ws_1 s 7 b (nI (ge_ G b).length) → s2 = ws_1 s1 8 b (lz_ (ge_ G b)) → post 0 s2) : wp_I_faultOfLeaf w (nI b) s post := by
  unfold wp_I_faultOfLeaf
  have h2 := (hR.1 b hb.1 hb.2).2.2.2.1
  have hloop : ∀ (n i : Nat), i ≤ (ge_ G b).length → (ge_ G b).length < n + i → wp_I_faultOfLeaf_11 w post n (nI b) (nI (ge_ G b).length) (nI i) s := by
    intro n
    induction n with
    | zero => intro i _ _; omega
    | succ n ih =>
      intro i i2 i3
      refine pk_le (ge_ G b).length i (fun hle => ?_) (fun hlt => ?_) rfl rfl (by omega) (by omega)
      · refine ⟨vp_in_nI (by omega) (by omega), fun s1 e1 => ?_⟩
        rw [nI_clamp (n := b) (by omega)] at e1
        rw [nI_p h1]
        have hR1 : Rp_ w s1 G := hR.cong (fun q hq => by rw [e1, ws_1_arr (by omega)])
        refine p_key hw hR1 hb (by omega) ⟨vp_in_nI (by omega) (by omega), fun s2 e2 => ?_⟩
        rw [nI_clamp (n := b) (by omega), ← lz_end h1] at e2
        exact k s1 s2 e1 e2
      · refine p_goal hw hR hb hlt (p_S_isStamp1 (hR.bd hlt).2 (rb_t (by decide) (fun y hy => ?_)))
        rw [hy, nI_1]
        exact ih (i + 1) (by omega) (by omega)
  exact p_size hR hb ⟨(ge_ G b).length + 1, hloop _ 0 (by omega) (by omega)⟩
theorem p_faultBelow {st0 : St_} (hw : 5 ≤ w ∧ w ≤ 32) (hR0 : Rp_ w st0 G) (hI : Ic_ w [] 16 R [] G) :
    ∀ (n d b : Nat) (f : Nat → Nat) (s : St_) (post : Int32 → St_ → Prop), n < d → gl_ G b = n → 1 ≤ gw_ G b → Dv_ G s f (n + 1) → Fi_ st0 s → (∀ x, 1 ≤ x → f x + un_ G f x + (if x = b then 1 else 0) < 2 ^ 31) →
    (∀ s' f', Dv_ G s' f' (n + 1) → Fi_ st0 s' → f' b ≠ 0 → (∀ x, 1 ≤ x → f' x + un_ G f' x = f x + un_ G f x + (if x = b then 1 else 0)) → (∀ p, n < gl_ G p → f' p = f p ∧ s' 7 p = s 7 p ∧ s' 8 p = s 8 p) → post 0 s') → wp_I_faultBelow w d (nI b) (nI n) s post := by
  intro n
  induction n with
  | zero =>
    intro d b f s post hd hgl hu hD hF hB k
    obtain ⟨d, rfl⟩ : ∃ q, d = q + 1 := ⟨d - 1, by omega⟩
    obtain ⟨b1, b2, b3⟩ := hI.1 b hu
    have hv := hI.2.2.2 b hu b3
    have hfb := hB b b1
    rw [if_pos rfl] at hfb
    show (_ → _) ∧ (_ → _)
    refine br_f (by decide) (br_f (by decide) (p_isBlock ⟨b1, b2⟩ (rb_t (by decide) ⟨vp_in_nI (by omega) (by omega), vp_in_nI (by omega) (by omega), fun s1 e1 => ⟨vp_in_nI (by omega) (by omega), ?_⟩⟩)))
    rw [nI_clamp (n := b) (by omega), hD.1 b b1 b2, nI_1] at e1
    have hF1 : Fi_ st0 s1 := hF.w e1 (by omega)
    have e6 : s1 6 b = nI (f b + 1) := by rw [e1, ws_1_at]
    have hD1 : ∀ p, 1 ≤ p → p ≤ 1200 → s1 6 p = nI (va_up f b (f b + 1) p) := fun p p1 p2 => by
      by_cases e : p = b
      · subst e; rw [va_up_self, e6]
      · rw [vu_ne e, e1, ws_1_ne e]; exact hD.1 p p1 p2
    have hPhi : ∀ x, 1 ≤ x → va_up f b (f b + 1) x + un_ G (va_up f b (f b + 1)) x = f x + un_ G f x + (if x = b then 1 else 0) := fun x _ => by
      rw [un_leaf hgl]
      by_cases e : x = b
      · subst e; rw [va_up_self, if_pos rfl]; omega
      · rw [vu_ne e, if_neg e]; rfl
    rw [nI_clamp (n := b) (by omega), e6]
    by_cases h0 : f b = 0
    · rw [h0]
      refine br_t (by decide) (p_hasOrder hw (hF1.rp hR0) ⟨b1, b2⟩ (ge_so hw.1 hI hu) (hv.1 (by simp)).1 (hv.1 (by simp)).2 (rb_t (by decide) (rb_f rfl (p_faultOfLeaf hw (hF1.rp hR0) ⟨b1, b2⟩ (hv.1 (by simp)).1 (fun s2 s3 e2 e3 => ?_)))))
      refine k s3 (va_up f b (f b + 1)) ⟨fun p p1 p2 => by rw [e3, ws_1_arr (by decide), e2, ws_1_arr (by decide)]; exact hD1 p p1 p2, fun p hp hpl hpf => ?_⟩ ((hF1.w e2 (by omega)).w e3 (by omega)) (by rw [va_up_self]; omega) hPhi (fun p hp => ?_)
      · by_cases e : p = b
        · subst e
          rw [e3, ws_1_at, ws_1_arr (by decide), e2, ws_1_at]
          show _ = nI (et_ (ge_ G) (gl_ G p) p).length ∧ _
          rw [hgl]
          exact ⟨rfl, rfl⟩
        · rw [vu_ne e] at hpf
          rw [e3, ws_1_ne e, ws_1_arr (by decide), e2, ws_1_ne e, ws_1_arr (by decide), e1, ws_1_arr (by decide), ws_1_arr (by decide)]
          exact hD.2 p hp hpl hpf
      · have e : p ≠ b := fun q => by rw [q] at hp; omega
        rw [vu_ne e, e3, ws_1_ne e, ws_1_arr (by decide), e2, ws_1_ne e, ws_1_arr (by decide), e1, ws_1_arr (by decide), ws_1_arr (by decide)]
        exact ⟨rfl, rfl, rfl⟩
    · refine br_f (fun c => ?_) ?_
      · have := (nI_leI (a := f b + 1) (b := 1) (by omega) (by omega)).mp c; omega
      · refine k s1 (va_up f b (f b + 1)) ⟨hD1, fun p hp hpl hpf => ?_⟩ hF1 (by rw [va_up_self]; omega) hPhi (fun p hp => ?_)
        · rw [e1, ws_1_arr (by decide), ws_1_arr (by decide)]
          refine hD.2 p hp hpl ?_
          by_cases e : p = b
          · rw [e]; exact h0
          · rw [vu_ne e] at hpf; exact hpf
        · have e : p ≠ b := fun q => by rw [q] at hp; omega
          rw [vu_ne e, e1, ws_1_arr (by decide), ws_1_arr (by decide)]
          exact ⟨rfl, rfl, rfl⟩
  | succ n ih =>
    intro d b f s post hd hgl hu hD hF hB k
    obtain ⟨d, rfl⟩ : ∃ q, d = q + 1 := ⟨d - 1, by omega⟩
    obtain ⟨b1, b2, b3⟩ := hI.1 b hu
    have hv := hI.2.2.2 b hu b3
    have hfb := hB b b1
    rw [if_pos rfl] at hfb
    have hlw := (hR0.1 b b1 b2).2.2.2.1
    show (_ → _) ∧ (_ → _)
    refine br_f (nI_pos (by omega)) (br_f (nI_nlt (a := 16) (by omega) (by omega)) (p_isBlock ⟨b1, b2⟩ (rb_t (by decide) ⟨vp_in_nI (by omega) (by omega), vp_in_nI (by omega) (by omega), fun s1 e1 => ⟨vp_in_nI (by omega) (by omega), ?_⟩⟩)))
    rw [nI_clamp (n := b) (by omega), hD.1 b b1 b2, nI_1] at e1
    have hF1 : Fi_ st0 s1 := hF.w e1 (by omega)
    have e6 : s1 6 b = nI (f b + 1) := by rw [e1, ws_1_at]
    have hD1 : ∀ p, 1 ≤ p → p ≤ 1200 → s1 6 p = nI (va_up f b (f b + 1) p) := fun p p1 p2 => by
      by_cases e : p = b
      · subst e; rw [va_up_self, e6]
      · rw [vu_ne e, e1, ws_1_ne e]; exact hD.1 p p1 p2
    rw [nI_clamp (n := b) (by omega), e6]
    by_cases h0 : f b = 0
    · have hUn : ∀ x, va_up f b (f b + 1) x + un_ G (va_up f b (f b + 1)) x + cn_ x (ge_ G b) = f x + un_ G f x + (if x = b then 1 else 0) := fun x => by
        have := un_hit (x := x) (v := f b) b2 hu h0 (by omega)
        by_cases e : x = b
        · subst e; rw [va_up_self, if_pos rfl]; omega
        · rw [vu_ne e, if_neg e]; omega
      have hloop : ∀ (m i : Nat) (s2 : St_) (f2 : Nat → Nat), i ≤ (ge_ G b).length → (ge_ G b).length < m + i → Dv_ G s2 f2 (n + 1) → Fi_ st0 s2 → (∀ x, 1 ≤ x → f2 x + un_ G f2 x = va_up f b (f b + 1) x + un_ G (va_up f b (f b + 1)) x + cn_ x ((ge_ G b).take i)) →
          (∀ p, n < gl_ G p → f2 p = va_up f b (f b + 1) p ∧ s2 7 p = s1 7 p ∧ s2 8 p = s1 8 p) → wp_I_faultOfNode_19 w (wp_I_faultBelow w d) post m (nI b) (nI (n + 1)) (nI (ge_ G b).length) (nI (fm_ (ge_ G) n ((ge_ G b).take i)).length) (lz_ (fm_ (ge_ G) n ((ge_ G b).take i))) (nI i) s2 := by
        intro m
        induction m with
        | zero => intro i s2 f2 h1 h2; omega
        | succ m ihm =>
          intro i s2 f2 hi hm hD2 hF2 hP2 hfr
          have hR2 := hF2.rp hR0
          refine pk_le (ge_ G b).length i (fun hle => ?_) (fun hlt => ?_) rfl rfl (by omega) (by omega)
          · refine ⟨vp_in_nI (by omega) (by omega), fun s3 e3 => ⟨vp_in_nI (by omega) (by omega), fun s4 e4 => ?_⟩⟩
            rw [nI_clamp (n := b) (by omega), List.take_of_length_le hle] at e3 e4
            rw [List.take_of_length_le hle] at hP2
            refine k s4 f2 ⟨fun p p1 p2 => by rw [e4, ws_1_arr (by decide), e3, ws_1_arr (by decide)]; exact hD2.1 p p1 p2, fun p hp hpl hpf => ?_⟩ ((hF2.w e3 (by omega)).w e4 (by omega)) (by rw [(hfr b (by omega)).1, va_up_self]; omega) (fun x hx => by rw [hP2 x hx]; exact hUn x) (fun p hp => ?_)
            · by_cases e : p = b
              · subst e
                rw [e4, ws_1_at, ws_1_arr (by decide), e3, ws_1_at]
                show _ = nI (et_ (ge_ G) (gl_ G p) p).length ∧ _
                rw [hgl]
                exact ⟨rfl, rfl⟩
              · rw [e4, ws_1_ne e, ws_1_arr (by decide), e3, ws_1_ne e, ws_1_arr (by decide)]
                by_cases hpn : gl_ G p < n + 1
                · exact hD2.2 p hp hpn hpf
                · obtain ⟨x1, x2, x3⟩ := hfr p (by omega)
                  rw [x1, vu_ne e] at hpf
                  rw [x2, x3, e1, ws_1_arr (by decide), ws_1_arr (by decide)]
                  exact hD.2 p hp hpl hpf
            · have e : p ≠ b := fun q => by rw [q] at hp; omega
              obtain ⟨x1, x2, x3⟩ := hfr p (by omega)
              rw [e4, ws_1_ne e, ws_1_arr (by decide), e3, ws_1_ne e, ws_1_arr (by decide), x1, x2, x3, vu_ne e, e1, ws_1_arr (by decide), ws_1_arr (by decide)]
              exact ⟨rfl, rfl, rfl⟩
          · have hcm := gd_mem hlt
            obtain ⟨g1, g2, g3, g4⟩ := hI.child hu b3 (by omega) hcm
            obtain ⟨c1, c2, c3⟩ := hI.1 _ g1
            have hcl := hd_len g4
            have hcw := (hR0.1 _ c1 c2).2.2.2.1
            have htk : fm_ (ge_ G) n ((ge_ G b).take (i + 1)) = fm_ (ge_ G) n ((ge_ G b).take i) ++ et_ (ge_ G) n ((ge_ G b).getD i (0, 0)).2 := by
              rw [tk_1 hlt, fm_app, fm_cons, fm_nil, List.append_nil]
            have hcn : ∀ x, cn_ x ((ge_ G b).take (i + 1)) = cn_ x ((ge_ G b).take i) + (if x = ((ge_ G b).getD i (0, 0)).2 then 1 else 0) := fun x => by
              rw [tk_1 hlt, cn_app]
              simp only [cn_, Nat.add_zero, eq_comm]
            refine p_goal hw hR2 ⟨b1, b2⟩ hlt (p_isBlock ⟨c1, c2⟩ (br_f (by decide) (p_level hR2 ⟨c1, c2⟩ (br_t (by rw [nI_pred]; congr 1; omega) (p_size hR2 ⟨c1, c2⟩ (br_t (nI_le (g3 (by simp)) (by omega)) ?_))))))
            rw [nI_pred]
            refine ih d _ f2 s2 _ (by omega) (by omega) g1 hD2 hF2 (fun x hx => ?_) (fun s3 f3 hD3 hF3 hfc hP3 hfr3 => ?_)
            · have h1 := hP2 x hx
              have h2 := hcn x
              have h3 := hUn x
              have h4 := hB x hx
              have h5 : cn_ x (ge_ G b) = cn_ x ((ge_ G b).take (i + 1)) + cn_ x ((ge_ G b).drop (i + 1)) := by rw [← cn_app, List.take_append_drop]
              omega
            · have hR3 := hF3.rp hR0
              have hk0 : ((ge_ G ((ge_ G b).getD i (0, 0)).2).getD 0 (0, 0)).1 = ((ge_ G b).getD i (0, 0)).1 := by
                cases hq : ge_ G ((ge_ G b).getD i (0, 0)).2 with
                | nil => rw [hq] at g4; simp at g4
                | cons e L => rw [hq] at g4; simpa using g4
              have hfin := hD3.2 _ g1 (by omega) hfc
              have hne : et_ (ge_ G) n ((ge_ G b).getD i (0, 0)).2 ≠ [] := fun q => by
                have := kp_one hw.1 hI hu (by omega) hgl hcm
                rw [q] at this; simp at this
              refine br_t rfl (p_key hw hR3 ⟨b1, b2⟩ hlt (p_key (i := 0) hw hR3 ⟨c1, c2⟩ (by omega) (rb_f (by rw [hk0]) (br_t ?_ ⟨vp_in_nI (by omega) (by omega), fun y1 hy1 => ⟨vp_in_nI (by omega) (by omega), fun y2 hy2 y3 hy3 => ?_⟩⟩))))
              · refine lz_lt (hR0.bd hlt).1 (fun q hq => ?_)
                have hso := hv.2.1
                rw [hgl, et_succ, spl_ hlt, fm_app, fm_cons] at hso
                obtain ⟨-, -, hs3⟩ := so_app.mp hso
                have hh := et_hd hw.1 hI n ((ge_ G b).getD i (0, 0)).2 g1 (by omega) (by omega)
                rw [g4] at hh
                obtain ⟨r, hr, hr1⟩ := hd_mem hh
                have := hs3 q hq r (List.mem_append_left _ hr)
                omega
              · rw [nI_clamp (n := ((ge_ G b).getD i (0, 0)).2) (by omega)] at hy1 hy2
                rw [hfin.2] at hy1
                rw [hfin.1, nI_add] at hy2
                rw [hy1, hy2, hy3, nI_1]
                have hgc : gl_ G ((ge_ G b).getD i (0, 0)).2 = n := by omega
                have hih := ihm (i + 1) s3 f3 (by omega) (by omega) hD3 hF3 (fun x hx => by rw [hP3 x hx, hP2 x hx, hcn x]; omega) (fun p hp => by
                  obtain ⟨x1, x2, x3⟩ := hfr3 p hp
                  obtain ⟨y1, y2, y3⟩ := hfr p hp
                  exact ⟨x1.trans y1, x2.trans y2, x3.trans y3⟩)
                rw [htk, lz_app hne, List.length_append] at hih
                show wp_I_faultOfNode_19 w (wp_I_faultBelow w d) post m (nI b) (nI (n + 1)) (nI (ge_ G b).length) (nI ((fm_ (ge_ G) n ((ge_ G b).take i)).length + (et_ (ge_ G) (gl_ G ((ge_ G b).getD i (0, 0)).2) ((ge_ G b).getD i (0, 0)).2).length)) _ _ s3
                rw [hgc]
                exact hih
      rw [h0]
      refine br_t (by decide) (p_hasOrder hw (hF1.rp hR0) ⟨b1, b2⟩ (ge_so hw.1 hI hu) (hv.1 (by simp)).1 (hv.1 (by simp)).2 (rb_t (by decide) (rb_t (nI_ne0 (by omega) (by omega)) ?_)))
      unfold wp_I_faultOfNode
      refine p_size (hF1.rp hR0) ⟨b1, b2⟩ ⟨(ge_ G b).length + 1, hloop _ 0 s1 (va_up f b (f b + 1)) (by omega) (by omega) ⟨hD1, fun p hp hpl hpf => ?_⟩ hF1 (fun x _ => by simp [cn_]) (fun p _ => ⟨rfl, rfl, rfl⟩)⟩
      have e : p ≠ b := fun q => by rw [q] at hpl; omega
      rw [vu_ne e] at hpf
      rw [e1, ws_1_arr (by decide), ws_1_arr (by decide)]
      exact hD.2 p hp (by omega) hpf
    · refine br_f (fun c => ?_) ?_
      · have := (nI_leI (a := f b + 1) (b := 1) (by omega) (by omega)).mp c; omega
      · refine k s1 (va_up f b (f b + 1)) ⟨hD1, fun p hp hpl hpf => ?_⟩ hF1 (by rw [va_up_self]; omega) (fun x _ => ?_) (fun p hp => ?_)
        · rw [e1, ws_1_arr (by decide), ws_1_arr (by decide)]
          refine hD.2 p hp hpl ?_
          by_cases e : p = b
          · rw [e]; exact h0
          · rw [vu_ne e] at hpf; exact hpf
        · rw [un_cong (f := f) (fun p => by
            by_cases e : p = b
            · subst e; rw [va_up_self]; omega
            · rw [vu_ne e]) x]
          by_cases e : x = b
          · subst e; rw [va_up_self, if_pos rfl]; omega
          · rw [vu_ne e, if_neg e]; rfl
        · have e : p ≠ b := fun q => by rw [q] at hp; omega
          rw [vu_ne e, e1, ws_1_arr (by decide), ws_1_arr (by decide)]
          exact ⟨rfl, rfl, rfl⟩
end CK
end
section
-- PURE: check answers 0
theorem sm_pre {i n : Nat} (f : Nat → Nat) (h : i ≤ n) : sm_ i f ≤ sm_ n f := by
  induction n with
  | zero => rw [show i = 0 by omega]; exact Nat.le_refl _
  | succ n ih =>
    by_cases e : i = n + 1
    · rw [e]; exact Nat.le_refl _
    · have h1 := ih (by omega)
      show sm_ i f ≤ sm_ n f + f n
      omega
section CQ
variable {w : Nat} {G : Sg_} {R : Nat → Nat} {rn rk : Nat → Nat} {st0 : St_}
theorem p_faultOfTree {r : Nat} {y : Int32} {f : Nat → Nat} {s : St_} {post : Int32 → St_ → Prop} (hw : 5 ≤ w ∧ w ≤ 32) (hR0 : Rp_ w st0 G) (hI : Ic_ w [] 16 R [] G) (hr : r = 0 ∨ 1 ≤ gw_ G r) (hok : ok_ G r) (hD : Dv_ G s f 17) (hF : Fi_ st0 s) (hB : ∀ x, 1 ≤ x → f x + un_ G f x + (if x = r then 1 else 0) < 2 ^ 31)
    (k : ∀ s' f', Dv_ G s' f' 17 → Fi_ st0 s' → (∀ x, 1 ≤ x → f' x + un_ G f' x = f x + un_ G f x + (if x = r then 1 else 0)) → post 0 s') : wp_I_faultOfTree w (nI r) (nI (tr_ G r).length) y s post := by
  unfold wp_I_faultOfTree
  by_cases h0 : r = 0
  · subst h0
    refine rb_f rfl (rb_f rfl (k s f hD hF (fun x hx => by rw [if_neg (by omega)]; rfl)))
  · have hu : 1 ≤ gw_ G r := by rcases hr with h | h; exact absurd h h0; exact h
    obtain ⟨b1, b2, b3⟩ := hI.1 r hu
    have hv := hI.2.2.2 r hu b3
    have hR := hF.rp hR0
    have hlw := (hR0.1 r b1 b2).2.2.2.1
    have hgo : wp_I_faultBelow w 20 (nI r) (nI (gl_ G r)) s (fun (r108 : Int32) (st107 : St_) => ((r108 = 0 → vp_in (nI r) 1201 ∧ (((¬ (st107 7 (nI r).toNatClampNeg) = (nI (tr_ G r).length) → post y st107) ∧ ((st107 7 (nI r).toNatClampNeg) = (nI (tr_ G r).length) → post 0 st107)))) ∧ (¬ r108 = 0 → post r108 st107))) := by
      refine p_faultBelow hw hR0 hI (gl_ G r) 20 r f s _ (by omega) rfl hu ⟨hD.1, fun p hp hpl hpf => hD.2 p hp (by omega) hpf⟩ hF hB (fun s1 f1 hD1 hF1 hfr hP hfrm => br_t rfl ⟨vp_in_nI (by omega) (by omega), ?_⟩)
      have hD17 : Dv_ G s1 f1 17 := ⟨hD1.1, fun p hp hpl hpf => by
        by_cases e : gl_ G p < gl_ G r + 1
        · exact hD1.2 p hp e hpf
        · obtain ⟨x1, x2, x3⟩ := hfrm p (by omega)
          rw [x2, x3]; rw [x1] at hpf
          exact hD.2 p hp hpl hpf⟩
      rw [nI_clamp (n := r) (by omega)]
      refine rb_f ?_ (k s1 f1 hD17 hF1 hP)
      rw [(hD1.2 r hu (by omega) hfr).1, tr_1 b1]
    refine rb_t (nI_ne0 (by omega) (by omega)) (p_isBlock ⟨b1, b2⟩ (rb_t (by decide) (p_level hR ⟨b1, b2⟩ (p_size hR ⟨b1, b2⟩ ?_))))
    by_cases hl : gl_ G r = 0
    · refine rb_f (by rw [hl]; rfl) (br_t (nI_le (a := 1) (hv.1 (by simp)).1 (by omega)) hgo)
    · refine rb_t (nI_ne0 (by omega) (by omega)) (br_t (nI_le (a := 2) (by rcases hok b1 with h | h; exact absurd h hl; exact h) (by omega)) hgo)
theorem p_faultOfMaps22 {Bs : Nat → Nat} {y : Int32} {f : Nat → Nat} {s : St_} {post : Int32 → St_ → Prop} (hw : 5 ≤ w ∧ w ≤ 32) (h : T0_ w st0 G rn rk) (h600 : sm_ 8 (ln_ G rn) ≤ 600) (hBs : ∀ x, 1 ≤ x → Bs x + sm_ 8 (fun j => if rn j = x then 1 else 0) < 2 ^ 31) (hD : Dv_ G s f 17) (hF : Fi_ st0 s) (hP : ∀ x, 1 ≤ x → f x + un_ G f x = Bs x)
    (k : ∀ s' f', Dv_ G s' f' 17 → Fi_ st0 s' → (∀ x, 1 ≤ x → f' x + un_ G f' x = Bs x + sm_ 8 (fun j => if rn j = x then 1 else 0)) → post 0 s') : wp_I_faultOfMaps_22 w y s post := by
  have hloop : ∀ (n i : Nat) (s : St_) (f : Nat → Nat), i ≤ 8 → 8 < n + i → Dv_ G s f 17 → Fi_ st0 s → (∀ x, 1 ≤ x → f x + un_ G f x = Bs x + sm_ i (fun j => if rn j = x then 1 else 0)) → wp_I_faultOfMaps_22_5 w post n y (nI (sm_ i (ln_ G rn))) (nI i) s := by
    intro n
    induction n with
    | zero => intro i s f h1 h2; omega
    | succ n ih =>
      intro i s f hi hn hD hF hP
      refine pk_le 8 i (fun hle => ?_) (fun hlt => ?_) rfl rfl (by omega) (by omega)
      · have e : i = 8 := by omega
        subst e
        rw [hF 19 (by omega), h.2.2.2.2.1]
        exact rb_f rfl (br_f (nI_nlt (a := 600) h600 (by omega)) (k s f hD hF hP))
      · obtain ⟨q1, q2, q3, q4⟩ := h.2.2.1 i hlt
        refine ⟨vp_in_nI hlt (by omega), vp_in_nI hlt (by omega), ?_⟩
        rw [nI_clamp (n := i) (by omega), hF 10 (by omega), hF 11 (by omega), q2, q3]
        have hst : ∀ x, sm_ (i + 1) (fun j => if rn j = x then 1 else 0) = sm_ i (fun j => if rn j = x then 1 else 0) + (if x = rn i then 1 else 0) := fun x => by
          show _ + (if rn i = x then 1 else 0) = _
          simp only [eq_comm]
        refine p_faultOfTree (r := rn i) hw h.1 h.2.1 (by rcases Nat.eq_zero_or_pos (rn i) with e | e; exact Or.inl e; exact Or.inr (h.used hlt e)) q4 hD hF (fun x hx => ?_) (fun s1 f1 hD1 hF1 hP1 => br_t rfl ⟨vp_in_nI hlt (by omega), fun z hz u hu => ?_⟩)
        · have h1 := sm_pre (fun j => if rn j = x then 1 else 0) (show i + 1 ≤ 8 by omega)
          have h2 := hst x
          have h3 := hBs x hx
          have h4 := hP x hx
          omega
        · rw [hF1 11 (by omega), q3, nI_add] at hz
          rw [hz, hu, nI_1]
          exact ih (i + 1) s1 f1 (by omega) (by omega) hD1 hF1 (fun x hx => by rw [hP1 x hx, hP x hx, hst x]; omega)
  exact ⟨9, hloop 9 0 s f (by omega) (by omega) hD hF (fun x hx => by rw [hP x hx]; rfl)⟩
theorem p_faultOfMaps23 {Bs : Nat → Nat} {y : Int32} {f : Nat → Nat} {s : St_} {post : Int32 → St_ → Prop} (hw : 5 ≤ w ∧ w ≤ 32) (h : T0_ w st0 G rn rk) (h600 : sm_ 8 (ln_ G rk) ≤ 600) (hBs : ∀ x, 1 ≤ x → Bs x + sm_ 8 (fun j => if rk j = x then 1 else 0) < 2 ^ 31) (hD : Dv_ G s f 17) (hF : Fi_ st0 s) (hP : ∀ x, 1 ≤ x → f x + un_ G f x = Bs x)
    (k : ∀ s' f', Dv_ G s' f' 17 → Fi_ st0 s' → (∀ x, 1 ≤ x → f' x + un_ G f' x = Bs x + sm_ 8 (fun j => if rk j = x then 1 else 0)) → post 0 s') : wp_I_faultOfMaps_23 w y s post := by
  have hloop : ∀ (n i : Nat) (s : St_) (f : Nat → Nat), i ≤ 8 → 8 < n + i → Dv_ G s f 17 → Fi_ st0 s → (∀ x, 1 ≤ x → f x + un_ G f x = Bs x + sm_ i (fun j => if rk j = x then 1 else 0)) → wp_I_faultOfMaps_23_5 w post n y (nI (sm_ i (ln_ G rk))) (nI i) s := by
    intro n
    induction n with
    | zero => intro i s f h1 h2; omega
    | succ n ih =>
      intro i s f hi hn hD hF hP
      refine pk_le 8 i (fun hle => ?_) (fun hlt => ?_) rfl rfl (by omega) (by omega)
      · have e : i = 8 := by omega
        subst e
        rw [hF 20 (by omega), h.2.2.2.2.2]
        exact rb_f rfl (br_f (nI_nlt (a := 600) h600 (by omega)) (k s f hD hF hP))
      · obtain ⟨q1, q2, q3, q4⟩ := h.2.2.2.1 i hlt
        refine ⟨vp_in_nI hlt (by omega), vp_in_nI hlt (by omega), ?_⟩
        rw [nI_clamp (n := i) (by omega), hF 12 (by omega), hF 13 (by omega), q2, q3]
        have hst : ∀ x, sm_ (i + 1) (fun j => if rk j = x then 1 else 0) = sm_ i (fun j => if rk j = x then 1 else 0) + (if x = rk i then 1 else 0) := fun x => by
          show _ + (if rk i = x then 1 else 0) = _
          simp only [eq_comm]
        refine p_faultOfTree (r := rk i) hw h.1 h.2.1 (by rcases Nat.eq_zero_or_pos (rk i) with e | e; exact Or.inl e; exact Or.inr (h.usedk hlt e)) q4 hD hF (fun x hx => ?_) (fun s1 f1 hD1 hF1 hP1 => br_t rfl ⟨vp_in_nI hlt (by omega), fun z hz u hu => ?_⟩)
        · have h1 := sm_pre (fun j => if rk j = x then 1 else 0) (show i + 1 ≤ 8 by omega)
          have h2 := hst x
          have h3 := hBs x hx
          have h4 := hP x hx
          omega
        · rw [hF1 13 (by omega), q3, nI_add] at hz
          rw [hz, hu, nI_1]
          exact ih (i + 1) s1 f1 (by omega) (by omega) hD1 hF1 (fun x hx => by rw [hP1 x hx, hP x hx, hst x]; omega)
  exact ⟨9, hloop 9 0 s f (by omega) (by omega) hD hF (fun x hx => by rw [hP x hx]; rfl)⟩
theorem p_faultOfFree {s : St_} {post : Int32 → St_ → Prop} (hR : Rp_ w s G) (hI : Ic_ w [] 16 R [] G) (hL : ∀ p, p ≤ 1200 → s 9 p = 0)
    (k : ∀ s', (∀ q, q ≠ 9 → s' q = s q) → (∀ p, 1 ≤ p → p ≤ 1200 → s' 9 p = if p ∈ gf_ G then 1 else 0) → post 0 s') : wp_I_faultOfFree w s post := by
  unfold wp_I_faultOfFree wp_B_freeCount
  have h18 := hR.2.2.1
  have hlen := hR.2.2.2.1
  have hloop : ∀ (n i : Nat) (s1 : St_), i ≤ (gf_ G).length → (gf_ G).length < n + i → (∀ q, q ≠ 9 → s1 q = s q) → (∀ p, 1 ≤ p → p ≤ 1200 → s1 9 p = if p ∈ (gf_ G).take i then 1 else 0) → wp_I_faultOfFree_25 w post n (nI (gf_ G).length) (nI i) s1 := by
    intro n
    induction n with
    | zero => intro i s1 h1 h2; omega
    | succ n ih =>
      intro i s1 hi hn ho h9
      refine pk_le (gf_ G).length i (fun hle => ?_) (fun hlt => ?_) rfl rfl (by omega) (by omega)
      · rw [List.take_of_length_le hle] at h9
        exact k s1 ho h9
      · have hgd : (gf_ G)[i]? = some ((gf_ G).getD i 0) := by
          rw [List.getD_eq_getElem?_getD, List.getElem?_eq_getElem hlt]; rfl
        have hmem : (gf_ G).getD i 0 ∈ gf_ G := List.mem_of_getElem? hgd
        obtain ⟨c1, c2, c3⟩ := hI.2.1.2.1 _ hmem
        have htk : (gf_ G).take (i + 1) = (gf_ G).take i ++ [(gf_ G).getD i 0] := by
          rw [List.take_succ, hgd]; rfl
        have hnd := hI.2.1.1
        have hni : (gf_ G).getD i 0 ∉ (gf_ G).take i := fun hq => by
          have h1 : ((gf_ G).take (i + 1)).Nodup := (List.take_sublist (i + 1) (gf_ G)).nodup hnd
          rw [htk, List.nodup_append] at h1
          exact h1.2.2 _ hq _ (List.mem_singleton.mpr rfl) rfl
        unfold wp_B_freeBlock
        rw [ho 18 (by decide), h18]
        refine br_f (nI_pos (by omega)) (br_f (nI_ge hlt (by omega)) (br_f (nI_ge (b := 1200) (by omega) (by omega)) ⟨vp_in_nI (by omega) (by omega), ?_⟩))
        rw [nI_clamp (n := i) (by omega), ho 5 (by decide), hR.2.2.2.2.1 i hlt]
        refine p_isBlock ⟨c1, c2⟩ (br_f (by decide) ⟨vp_in_nI (by omega) (by omega), ?_⟩)
        rw [nI_clamp (n := (gf_ G).getD i 0) (by omega), h9 _ c1 c2, if_neg hni]
        refine br_t rfl ⟨vp_in_nI (by omega) (by omega), fun s2 e2 y hy => ?_⟩
        rw [hy, nI_1]
        rw [show vp_nar .boolean 1 = 1 from rfl] at e2
        refine ih (i + 1) s2 (by omega) (by omega) (fun q hq => by rw [e2, ws_1_arr hq]; exact ho q hq) (fun p p1 p2 => ?_)
        rw [htk]
        by_cases e : p = (gf_ G).getD i 0
        · rw [e, e2, ws_1_at, if_pos (List.mem_append_right _ (List.mem_singleton.mpr rfl))]
        · rw [e2, ws_1_ne e, h9 p p1 p2]
          simp only [List.mem_append, List.mem_singleton, e, or_false]
  rw [h18]
  exact br_f (nI_pos (by omega)) (br_t (nI_le (b := 1200) hlen (by omega)) ⟨(gf_ G).length + 1, hloop _ 0 s (by omega) (by omega) (fun _ _ => rfl) (fun p p1 p2 => by simp [hL p p2])⟩)
theorem p_faultOfWays {s : St_} {f : Nat → Nat} {post : Int32 → St_ → Prop} (hw : 5 ≤ w ∧ w ≤ 32) (hR : Rp_ w s G) (hI : Ic_ w [] 16 R [] G) (hr : ∀ y, R y ≤ 900) (h6 : ∀ p, 1 ≤ p → p ≤ 1200 → s 6 p = nI (gw_ G p)) (h9 : ∀ p, 1 ≤ p → p ≤ 1200 → s 9 p = if p ∈ gf_ G then 1 else 0) (k : post 0 s) : wp_I_faultOfWays w s post := by
  have hloop : ∀ (n i : Nat), 1 ≤ i → i ≤ 1201 → 1201 < n + i → wp_I_faultOfWays_2 w post n (nI i) s := by
    intro n
    induction n with
    | zero => intro i h1 h2 h3; omega
    | succ n ih =>
      intro i i1 i2 i3
      refine pk_lt 1200 i (fun hlt => k) (fun hle => ⟨vp_in_nI (by omega) (by omega), ?_⟩) rfl rfl (by omega) (by omega)
      rw [nI_clamp (n := i) (by omega), h6 i i1 hle]
      by_cases hg : gw_ G i = 0
      · have hmem : i ∈ gf_ G := by
          rcases hI.2.1.2.2 i i1 hle hg with h | h
          · exact h
          · simp at h
        refine rb_f (by rw [hg]; rfl) (p_ways hR ⟨i1, hle⟩ ⟨vp_in_nI (by omega) (by omega), rb_f (h6 i i1 hle).symm ⟨vp_in_nI (by omega) (by omega), ?_⟩⟩)
        rw [h9 i i1 hle, if_pos hmem]
        refine br_t rfl (fun y hy => ?_)
        rw [hy, nI_1]
        exact ih (i + 1) (by omega) (by omega) (by omega)
      · have hmem : i ∉ gf_ G := fun q => hg (hI.2.1.2.1 i q).2.2
        have hbd := gw_bd hw hR hI (fun y => by have := hr y; omega) i (by omega)
        refine rb_t (nI_ne0 (by omega) (by omega)) (p_ways hR ⟨i1, hle⟩ ⟨vp_in_nI (by omega) (by omega), rb_f (h6 i i1 hle).symm ⟨vp_in_nI (by omega) (by omega), ?_⟩⟩)
        rw [h9 i i1 hle, if_neg hmem]
        refine br_t rfl (fun y hy => ?_)
        rw [hy, nI_1]
        exact ih (i + 1) (by omega) (by omega) (by omega)
  exact ⟨1201, hloop 1201 1 (by omega) (by omega) (by omega)⟩
theorem un_0 (G : Sg_) (x : Nat) : un_ G (fun _ => 0) x = eg_ G x := by
  unfold un_ eg_
  refine sm_congr (fun p _ => ?_)
  simp
theorem un_none {f : Nat → Nat} (h : ∀ p, 1 ≤ gw_ G p → f p ≠ 0) (x : Nat) : un_ G f x = 0 := by
  unfold un_
  refine sm_0 (fun p _ => ?_)
  by_cases e : gw_ G p = 0
  · simp [e]
  · have := h p (by omega)
    simp [this]
theorem all_vis (hI : Ic_ w [] 16 R [] G) {f : Nat → Nat} (h : ∀ x, 1 ≤ x → f x + un_ G f x = gw_ G x) : ∀ x, 1 ≤ x → f x = gw_ G x := by
  have hv : ∀ n p, 1 ≤ gw_ G p → 16 ≤ gl_ G p + n → f p ≠ 0 := by
    intro n
    induction n with
    | zero =>
      intro p hp hl h0
      obtain ⟨p1, p2, p3⟩ := hI.1 p hp
      have h1 := h p p1
      have h2 : 1 ≤ un_ G f p := by omega
      unfold un_ at h2
      obtain ⟨q, hq, hq1⟩ := sm_pos h2
      by_cases c : gw_ G q = 0 ∨ gl_ G q = 0 ∨ f q ≠ 0
      · rw [if_pos c] at hq1; omega
      · rw [if_neg c] at hq1
        obtain ⟨e, he, he2⟩ := cn_pos hq1
        obtain ⟨z1, z2, z3⟩ := hI.1 q (by omega)
        have := (hI.child (b := q) (by omega) z3 (by omega) he).2.1
        rw [he2] at this
        omega
    | succ n ih =>
      intro p hp hl h0
      obtain ⟨p1, p2, p3⟩ := hI.1 p hp
      have h1 := h p p1
      have h2 : 1 ≤ un_ G f p := by omega
      unfold un_ at h2
      obtain ⟨q, hq, hq1⟩ := sm_pos h2
      by_cases c : gw_ G q = 0 ∨ gl_ G q = 0 ∨ f q ≠ 0
      · rw [if_pos c] at hq1; omega
      · rw [if_neg c] at hq1
        obtain ⟨e, he, he2⟩ := cn_pos hq1
        obtain ⟨z1, z2, z3⟩ := hI.1 q (by omega)
        have := (hI.child (b := q) (by omega) z3 (by omega) he).2.1
        rw [he2] at this
        exact c (Or.inr (Or.inr (ih q (by omega) (by omega))))
  intro x hx
  have h1 := h x hx
  rw [un_none (fun p hp => hv 16 p hp (by omega))] at h1
  omega
theorem RR_le (rn rk : Nat → Nat) (y : Nat) : RR_ rn rk y ≤ 16 := by
  have h1 : sm_ 8 (fun i => if rn i = y then 1 else 0) ≤ 8 := sm_le8 (fun i _ => by split <;> omega)
  have h2 : sm_ 8 (fun i => if rk i = y then 1 else 0) ≤ 8 := sm_le8 (fun i _ => by split <;> omega)
  simp only [RR_]; omega
def Fj_ (st st' : St_) : Prop := ∀ k, k < 6 ∨ 9 < k → st' k = st k
theorem T0_.fj {st st' : St_} (h : T0_ w st G rn rk) (hF : Fj_ st st') : T0_ w st' G rn rk := by
  obtain ⟨h1, h2, h3, h4, h5, h6⟩ := h
  refine ⟨h1.cong (fun k hk => hF k (by omega)), h2, ?_, ?_, ?_, ?_⟩
  · intro i hi
    rw [hF 10 (by omega), hF 11 (by omega)]; exact h3 i hi
  · intro i hi
    rw [hF 12 (by omega), hF 13 (by omega)]; exact h4 i hi
  · rw [hF 19 (by omega)]; exact h5
  · rw [hF 20 (by omega)]; exact h6
theorem p_firstFault {post : Int32 → St_ → Prop} (hw : 5 ≤ w ∧ w ≤ 32) (h : T1_ w st0 G rn rk) (k : ∀ s', Fj_ st0 s' → post 0 s') : wp_I_firstFault_22_23 w st0 post := by
  obtain ⟨h, h600, hk600⟩ := h
  have hI := h.2.1
  have hgw : ∀ x, 1 ≤ x → gw_ G x = RR_ rn rk x + eg_ G x := hI.2.2.1
  have hbd : ∀ x, gw_ G x < 2 ^ 31 := fun x => by
    rcases Nat.eq_zero_or_pos (gw_ G x) with e | e
    · omega
    · have := gw_bd hw h.1 hI (fun y => by have := RR_le rn rk y; omega) x e; omega
  have hloop : ∀ (n i : Nat) (s : St_), i ≤ 1201 → 1201 < n + i → Fj_ st0 s → (∀ j, j < i → s 6 j = 0 ∧ s 9 j = 0) → wp_I_firstFault_22_23_2 w post n (nI i) s := by
    intro n
    induction n with
    | zero => intro i s h1 h2; omega
    | succ n ih =>
      intro i s hi hn hF h69
      refine pk_lt 1200 i (fun hlt => ?_) (fun hle => ?_) rfl rfl (by omega) (by omega)
      · have hRR : ∀ x, RR_ rn rk x = sm_ 8 (fun j => if rn j = x then 1 else 0) + sm_ 8 (fun j => if rk j = x then 1 else 0) := fun _ => rfl
        have hs := h.fj hF
        refine p_faultOfMaps22 (st0 := s) (Bs := eg_ G) (f := fun _ => 0) hw hs h600 (fun x hx => ?_) ⟨fun p p1 p2 => (h69 p (by omega)).1, fun p _ _ hpf => absurd rfl hpf⟩ Fi_.rf (fun x _ => by rw [un_0]; omega) (fun s1 f1 hD1 hF1 hP1 => rb_f rfl ?_)
        · have h1 := hgw x hx
          have h2 := hRR x
          have h3 := hbd x
          omega
        · refine p_faultOfMaps23 (st0 := s) (Bs := fun x => eg_ G x + sm_ 8 (fun j => if rn j = x then 1 else 0)) (f := f1) hw hs hk600 (fun x hx => ?_) hD1 hF1 hP1 (fun s2 f2 hD2 hF2 hP2 => rb_f rfl ?_)
          · have h1 := hgw x hx
            have h2 := hRR x
            have h3 := hbd x
            omega
          · have hvis := all_vis hI (f := f2) (fun x hx => by
              have h1 := hgw x hx
              have h2 := hRR x
              have h4 := hP2 x hx
              omega)
            refine p_faultOfFree (hF2.rp hs.1) hI (fun p hp => by rw [hF2 9 (by omega)]; exact (h69 p (by omega)).2) (fun s3 ho h9 => br_t rfl ?_)
            refine p_faultOfWays (f := f2) hw (hs.1.cong (fun q hq => by rw [ho q (by omega), hF2 q (by omega)])) hI (fun y => by have := RR_le rn rk y; omega) (fun p p1 p2 => by rw [ho 6 (by omega), hD2.1 p p1 p2, hvis p p1]) h9 (k s3 (fun q hq => by rw [ho q (by omega), hF2 q (by omega)]; exact hF q hq))
      · refine ⟨vp_in_nI (by omega) (by omega), fun s1 e1 => ⟨vp_in_nI (by omega) (by omega), fun s2 e2 y hy => ?_⟩⟩
        rw [nI_clamp (n := i) (by omega)] at e1 e2
        rw [show vp_nar .boolean 0 = 0 from rfl] at e2
        rw [hy, nI_1]
        refine ih (i + 1) s2 (by omega) (by omega) (fun q hq => by rw [e2, ws_1_arr (by omega), e1, ws_1_arr (by omega)]; exact hF q hq) (fun j hj => ?_)
        by_cases e : j = i
        · subst e
          rw [e2, ws_1_at, ws_1_arr (by decide), e1, ws_1_at]
          exact ⟨rfl, rfl⟩
        · rw [e2, ws_1_ne e, ws_1_arr (by decide), e1, ws_1_ne e, ws_1_arr (by decide)]
          exact h69 j (by omega)
  exact ⟨1202, hloop 1202 0 st0 (by omega) (by omega) (fun _ _ => rfl) (fun j hj => by omega)⟩
theorem p_S_check {N K : Nat → List (Nat × Nat)} {post : Int32 → St_ → Prop} (hw : 5 ≤ w ∧ w ≤ 32) (h : TA_ w st0 N K) (k : ∀ st', TA_ w st' N K → Fm_ st0 st' → post 0 st') : wp_S_check w st0 post := by
  unfold wp_S_check
  obtain ⟨G, rn, rk, h, hN, hK⟩ := h
  refine p_firstFault hw h (fun s1 hF => k s1 ⟨G, rn, rk, ⟨h.1.fj hF, h.2⟩, hN, hK⟩ (fun q q1 q2 => hF q (by omega)))
end CQ
end
section
-- PURE: each call answers as the reference does, and keeps what holds
def IV_ (w : Nat) (st : St_) : Prop := ∃ N K, TA_ w st N K ∧ MA_ st N K
abbrev same_ (w : Nat) (r : Int32) : Int32 → St_ → Prop := fun r2 st2 => r = r2 ∧ IV_ w st2
section CA
variable {w : Nat} {st : St_}
theorem iv_ {st1 st2 : St_} {N K N' K' : Nat → List (Nat × Nat)} (hT : TA_ w st1 N K) (hM : MA_ st2 N' K') (hF : Fo_ st1 st2) (e1 : N' = N) (e2 : K' = K) : IV_ w st2 := by
  subst e1 e2
  exact ⟨N', K', hT.fo hF, hM⟩
theorem c_write (hw : 5 ≤ w ∧ w ≤ 32) (h : IV_ w st) (a b c : Int32) : wp_S_write w a b c st (fun r st1 => wp_R_write w a b c st1 (same_ w r)) := by
  have hb : ∀ P : Prop, (a < 0 ∨ nI 8 ≤ a → P) → (∀ m, m < 8 → a = nI m → P) → P := fun P h1 h2 => by
    rcases pk_ix a (n := 8) (by omega) with q | q | ⟨m, hm, q⟩
    · exact h1 (Or.inl q)
    · exact h1 (Or.inr q)
    · exact h2 m hm q
  refine hb _ (fun q => ?_) (fun m hm ha => ?_)
  · unfold wp_S_write
    refine p_S_isMap0 q (br_t rfl ?_)
    unfold wp_R_write
    exact p_R_isMap0 q (br_t rfl ⟨rfl, h⟩)
  subst ha
  have hk : b < 0 ∨ nI 4096 ≤ b ∨ ∃ x, x < 4096 ∧ b = nI x := pk_ix b (by omega)
  rcases (or_assoc.mpr hk) with q | ⟨x, hx, hb⟩
  · unfold wp_S_write
    refine p_S_isMap1 hm (br_f (by decide) (p_S_isKey0 q (br_t rfl ?_)))
    unfold wp_R_write
    exact p_R_isMap1 hm (br_f (by decide) (p_R_isKey0 q (br_t rfl ⟨rfl, h⟩)))
  subst hb
  rcases (or_assoc.mpr (pk_ix c (n := 1000000001) (by omega))) with q | ⟨s, hs, hc⟩
  · unfold wp_S_write
    refine p_S_isMap1 hm (br_f (by decide) (p_S_isKey1 hx (br_f (by decide) (p_S_isStamp0 q (rb_f rfl ?_)))))
    unfold wp_R_write
    exact p_R_isMap1 hm (br_f (by decide) (p_R_isKey1 hx (br_f (by decide) (p_R_isStamp0 q (rb_f rfl ⟨rfl, h⟩)))))
  subst hc
  obtain ⟨N, K, hT, hM⟩ := h
  refine p_S_write hw hT hm hx (by omega) (fun f1 f2 => ?_) (fun s1 hT1 hF1 hor => ?_)
  · refine p_R_write hM hm hx (by omega) (fun _ _ => ⟨rfl, N, K, hT, hM⟩) (fun s2 hM2 hF2 hor => ?_)
    rcases hor with ⟨t, ht⟩ | hlt
    · exact absurd ht (f1 t)
    · omega
  · refine p_R_write (hM.fm hF1) hm hx (by omega) (fun f1 f2 => ?_) (fun s2 hM2 hF2 _ => ⟨rfl, iv_ hT1 hM2 hF2 rfl rfl⟩)
    rcases hor with ⟨t, ht⟩ | hlt
    · exact absurd ht (f1 t)
    · omega
theorem c_spread (hw : 5 ≤ w ∧ w ≤ 32) (h : IV_ w st) (a b c d e : Int32) : wp_S_spread w a b c d e st (fun r st1 => wp_R_spread w a b c d e st1 (same_ w r)) := by
  rcases (or_assoc.mpr (pk_ix a (n := 8) (by omega))) with q | ⟨m, hm, ha⟩
  · unfold wp_S_spread
    refine p_S_isMap0 q (br_t rfl ?_)
    unfold wp_R_spread
    exact p_R_isMap0 q (br_t rfl ⟨rfl, h⟩)
  subst ha
  rcases (or_assoc.mpr (pk_ix b (n := 4096) (by omega))) with q | ⟨x, hx, hb⟩
  · unfold wp_S_spread
    refine p_S_isMap1 hm (br_f (by decide) (p_S_isKey0 q (br_t rfl ?_)))
    unfold wp_R_spread
    exact p_R_isMap1 hm (br_f (by decide) (p_R_isKey0 q (br_t rfl ⟨rfl, h⟩)))
  subst hb
  rcases (or_assoc.mpr (pk_ix e (n := 1000000001) (by omega))) with q | ⟨s, hs, he⟩
  · unfold wp_S_spread
    refine p_S_isMap1 hm (br_f (by decide) (p_S_isKey1 hx (br_f (by decide) (p_S_isStamp0 q (rb_f rfl ?_)))))
    unfold wp_R_spread
    refine p_R_isMap1 hm (br_f (by decide) (p_R_isKey1 hx (br_f (by decide) (br_c (fun _ => ⟨rfl, h⟩) (fun _ => br_c (fun _ => ⟨rfl, h⟩) (fun _ => br_c (fun _ => ⟨rfl, h⟩) (fun _ => br_c (fun _ => ⟨rfl, h⟩) (fun _ => p_R_isStamp0 q (rb_f rfl ⟨rfl, h⟩)))))))))
  subst he
  have hbad : (c < 1 ∨ 4095 < c ∨ d < 0 ∨ ¬ d ≤ 600) → wp_S_spread w (nI m) (nI x) c d (nI s) st (fun r st1 => wp_R_spread w (nI m) (nI x) c d (nI s) st1 (same_ w r)) := fun q => by
    have hR : wp_R_spread w (nI m) (nI x) c d (nI s) st (same_ w (-1)) := by
      unfold wp_R_spread
      refine p_R_isMap1 hm (br_f (by decide) (p_R_isKey1 hx (br_f (by decide) (br_c (fun _ => ⟨rfl, h⟩) (fun q1 => br_c (fun _ => ⟨rfl, h⟩) (fun q2 => br_c (fun _ => ⟨rfl, h⟩) (fun q3 => br_c (fun _ => ⟨rfl, h⟩) (fun q4 => ?_))))))))
      exfalso
      rcases q with q | q | q | q
      · exact q1 q
      · exact q2 q
      · exact q3 q
      · exact q (Int32.not_lt.mp q4)
    unfold wp_S_spread
    refine p_S_isMap1 hm (br_f (by decide) (p_S_isKey1 hx (br_f (by decide) (p_S_isStamp1 (by omega) (rb_t (by decide) (br_c (fun _ => hR) (fun q1 => br_c (fun _ => hR) (fun q2 => br_c (fun _ => hR) (fun q3 => br_f (fun q4 => ?_) hR)))))))))
    rcases q with q | q | q | q
    · exact q1 q
    · exact q2 q
    · exact q3 q
    · exact q q4
  rcases (or_assoc.mpr (pk_ix c (n := 4096) (by omega))) with q | ⟨t, ht, hc⟩
  · refine hbad ?_
    rcases q with q | q
    · exact Or.inl (Int32.lt_trans q (by decide))
    · exact Or.inr (Or.inl ((i_le_lt (n := 4095) (by omega)).mp q))
  subst hc
  by_cases ht0 : t = 0
  · subst ht0
    exact hbad (Or.inl (by decide))
  rcases (or_assoc.mpr (pk_ix d (n := 601) (by omega))) with q | ⟨u, hu, hd⟩
  · refine hbad ?_
    rcases q with q | q
    · exact Or.inr (Or.inr (Or.inl q))
    · exact Or.inr (Or.inr (Or.inr (Int32.not_le.mpr ((i_le_lt (n := 600) (by omega)).mp q))))
  subst hd
  obtain ⟨N, K, hT, hM⟩ := h
  refine p_S_spread hw hT hm hx (by omega) (by omega) (by omega) (by omega) (fun s1 hT1 hF1 => ?_)
  exact p_R_spread (hM.fm hF1) hm hx (by omega) (by omega) (by omega) (by omega) (fun s2 hM2 hF2 => ⟨rfl, iv_ hT1 hM2 hF2 rfl rfl⟩)
theorem c_read (hw : 5 ≤ w ∧ w ≤ 32) (h : IV_ w st) (a b : Int32) : wp_S_read w a b st (fun r st1 => wp_R_read w a b st1 (same_ w r)) := by
  rcases (or_assoc.mpr (pk_ix a (n := 8) (by omega))) with q | ⟨m, hm, ha⟩
  · unfold wp_S_read
    refine p_S_isMap0 q (br_t rfl ?_)
    unfold wp_R_read
    exact p_R_isMap0 q (br_t rfl ⟨rfl, h⟩)
  subst ha
  rcases (or_assoc.mpr (pk_ix b (n := 4096) (by omega))) with q | ⟨x, hx, hb⟩
  · unfold wp_S_read
    refine p_S_isMap1 hm (br_f (by decide) (p_S_isKey0 q (rb_f rfl ?_)))
    unfold wp_R_read
    exact p_R_isMap1 hm (br_f (by decide) (p_R_isKey0 q (rb_f rfl ⟨rfl, h⟩)))
  subst hb
  obtain ⟨N, K, hT, hM⟩ := h
  refine p_S_read hw hT hm hx (fun s hs => ?_) (fun hn => ?_)
  · exact p_R_read hM hm hx (fun t ht => ⟨by rw [so_fun (hT.so hm) hs ht], N, K, hT, hM⟩) (fun hn => absurd hs (hn s))
  · exact p_R_read hM hm hx (fun t ht => absurd ht (hn t)) (fun _ => ⟨rfl, N, K, hT, hM⟩)
theorem c_erase (hw : 5 ≤ w ∧ w ≤ 32) (h : IV_ w st) (a b : Int32) : wp_S_erase w a b st (fun r st1 => wp_R_erase w a b st1 (same_ w r)) := by
  rcases (or_assoc.mpr (pk_ix a (n := 8) (by omega))) with q | ⟨m, hm, ha⟩
  · unfold wp_S_erase
    refine p_S_isMap0 q (br_t rfl ?_)
    unfold wp_R_erase wp_R_read
    exact p_R_isMap0 q (br_t rfl (br_t (by decide) ⟨rfl, h⟩))
  subst ha
  rcases (or_assoc.mpr (pk_ix b (n := 4096) (by omega))) with q | ⟨x, hx, hb⟩
  · unfold wp_S_erase
    refine p_S_isMap1 hm (br_f (by decide) (p_S_isKey0 q (rb_f rfl ?_)))
    unfold wp_R_erase wp_R_read
    exact p_R_isMap1 hm (br_f (by decide) (p_R_isKey0 q (rb_f rfl (br_t (by decide) ⟨rfl, h⟩))))
  subst hb
  obtain ⟨N, K, hT, hM⟩ := h
  refine p_S_erase hw hT hm hx (fun s hs s1 hT1 hF1 => ?_) (fun hn => ?_)
  · exact p_R_erase (hM.fm hF1) hm hx (fun t ht s2 hM2 hF2 => ⟨by rw [so_fun (hT.so hm) hs ht], iv_ hT1 hM2 hF2 rfl rfl⟩) (fun hn => absurd hs (hn s))
  · exact p_R_erase hM hm hx (fun t ht => absurd ht (hn t)) (fun _ => ⟨rfl, N, K, hT, hM⟩)
theorem c_cut (hw : 5 ≤ w ∧ w ≤ 32) (h : IV_ w st) (a b c : Int32) : wp_S_cut w a b c st (fun r st1 => wp_R_cut w a b c st1 (same_ w r)) := by
  rcases (or_assoc.mpr (pk_ix a (n := 8) (by omega))) with q | ⟨m, hm, ha⟩
  · unfold wp_S_cut
    refine p_S_isMap0 q (br_t rfl ?_)
    unfold wp_R_cut
    exact p_R_isMap0 q (br_t rfl ⟨rfl, h⟩)
  subst ha
  rcases (or_assoc.mpr (pk_ix b (n := 4096) (by omega))) with q | ⟨x, hx, hb⟩
  · unfold wp_S_cut
    refine p_S_isMap1 hm (br_f (by decide) (p_S_isKey0 q (br_t rfl ?_)))
    unfold wp_R_cut
    exact p_R_isMap1 hm (br_f (by decide) (p_R_isKey0 q (br_t rfl ⟨rfl, h⟩)))
  subst hb
  rcases (or_assoc.mpr (pk_ix c (n := 4096) (by omega))) with q | ⟨z, hz, hc⟩
  · unfold wp_S_cut
    refine p_S_isMap1 hm (br_f (by decide) (p_S_isKey1 hx (br_f (by decide) (p_S_isKey0 q (br_t rfl ?_)))))
    unfold wp_R_cut
    exact p_R_isMap1 hm (br_f (by decide) (p_R_isKey1 hx (br_f (by decide) (p_R_isKey0 q (br_t rfl ⟨rfl, h⟩)))))
  subst hc
  by_cases hxz : x ≤ z
  · obtain ⟨N, K, hT, hM⟩ := h
    refine p_S_cut hw hT hm hx hz hxz (fun s1 hT1 hF1 => ?_)
    exact p_R_cut (hM.fm hF1) hm hx hz hxz (fun s2 hM2 hF2 => ⟨rfl, iv_ hT1 hM2 hF2 rfl rfl⟩)
  · unfold wp_S_cut
    refine p_S_isMap1 hm (br_f (by decide) (p_S_isKey1 hx (br_f (by decide) (p_S_isKey1 hz (br_f (by decide) (br_f (nI_ge (by omega) (by omega)) ?_))))))
    unfold wp_R_cut
    exact p_R_isMap1 hm (br_f (by decide) (p_R_isKey1 hx (br_f (by decide) (p_R_isKey1 hz (br_f (by decide) (br_f (nI_ge (by omega) (by omega)) ⟨rfl, h⟩))))))
theorem c_next (hw : 5 ≤ w ∧ w ≤ 32) (h : IV_ w st) (a b : Int32) : wp_S_next w a b st (fun r st1 => wp_R_next w a b st1 (same_ w r)) := by
  rcases (or_assoc.mpr (pk_ix a (n := 8) (by omega))) with q | ⟨m, hm, ha⟩
  · unfold wp_S_next
    refine p_S_isMap0 q (br_t rfl ?_)
    unfold wp_R_next
    exact p_R_isMap0 q (br_t rfl ⟨rfl, h⟩)
  subst ha
  rcases (or_assoc.mpr (pk_ix b (n := 4096) (by omega))) with q | ⟨x, hx, hb⟩
  · unfold wp_S_next
    refine p_S_isMap1 hm (br_f (by decide) (p_S_isKey0 q (rb_f rfl ?_)))
    unfold wp_R_next
    exact p_R_isMap1 hm (br_f (by decide) (p_R_isKey0 q (rb_f rfl ⟨rfl, h⟩)))
  subst hb
  obtain ⟨N, K, hT, hM⟩ := h
  exact p_S_next hw hT hm hx (fun r hr => p_R_next hM hm hx (fun r2 hr2 => ⟨LK_fun hr hr2, N, K, hT, hM⟩))
theorem c_clone (hw : 5 ≤ w ∧ w ≤ 32) (h : IV_ w st) (a b : Int32) : wp_S_clone w a b st (fun r st1 => wp_R_clone w a b st1 (same_ w r)) := by
  rcases (or_assoc.mpr (pk_ix a (n := 8) (by omega))) with q | ⟨m, hm, ha⟩
  · unfold wp_S_clone
    refine p_S_isMap0 q (br_t rfl ?_)
    unfold wp_R_clone
    exact p_R_isMap0 q (br_t rfl ⟨rfl, h⟩)
  subst ha
  rcases (or_assoc.mpr (pk_ix b (n := 8) (by omega))) with q | ⟨f, hf, hb⟩
  · unfold wp_S_clone
    refine p_S_isMap1 hm (br_f (by decide) (p_S_isMap0 q (br_t rfl ?_)))
    unfold wp_R_clone
    exact p_R_isMap1 hm (br_f (by decide) (p_R_isMap0 q (br_t rfl ⟨rfl, h⟩)))
  subst hb
  by_cases hne : m = f
  · subst hne
    unfold wp_S_clone
    refine p_S_isMap1 hm (br_f (by decide) (p_S_isMap1 hm (br_f (by decide) (rb_f rfl ?_))))
    unfold wp_R_clone
    exact p_R_isMap1 hm (br_f (by decide) (p_R_isMap1 hm (br_f (by decide) (rb_f rfl ⟨rfl, h⟩))))
  · obtain ⟨N, K, hT, hM⟩ := h
    refine p_S_clone hw hT hm hf hne (fun hF => ?_) (fun hO s1 hT1 hF1 => ?_)
    · exact p_R_clone hM hm hf hne (fun _ => ⟨rfl, N, K, hT, hM⟩) (fun hO => by omega)
    · exact p_R_clone (hM.fm hF1) hm hf hne (fun hF => by omega) (fun _ s2 hM2 hF2 => ⟨rfl, iv_ hT1 hM2 hF2 rfl rfl⟩)
theorem c_drop (hw : 5 ≤ w ∧ w ≤ 32) (h : IV_ w st) (a : Int32) : wp_S_drop w a st (fun r st1 => wp_R_drop w a st1 (same_ w r)) := by
  rcases (or_assoc.mpr (pk_ix a (n := 8) (by omega))) with q | ⟨m, hm, ha⟩
  · unfold wp_S_drop
    refine p_S_isMap0 q (rb_f rfl ?_)
    unfold wp_R_drop
    exact p_R_isMap0 q (rb_f rfl ⟨rfl, h⟩)
  subst ha
  obtain ⟨N, K, hT, hM⟩ := h
  exact p_S_drop hw hT hm (fun s1 hT1 hF1 => p_R_drop (hM.fm hF1) hm (fun s2 hM2 hF2 => ⟨rfl, iv_ hT1 hM2 hF2 rfl rfl⟩))
theorem c_keep (hw : 5 ≤ w ∧ w ≤ 32) (h : IV_ w st) : wp_S_keep w st (fun r st1 => wp_R_keep w st1 (same_ w r)) := by
  obtain ⟨N, K, hT, hM⟩ := h
  exact p_S_keep hw hT (fun s1 hT1 hF1 => p_R_keep (hM.fm hF1) (fun s2 hM2 hF2 => ⟨rfl, iv_ hT1 hM2 hF2 rfl rfl⟩))
theorem c_back (hw : 5 ≤ w ∧ w ≤ 32) (h : IV_ w st) : wp_S_back w st (fun r st1 => wp_R_back w st1 (same_ w r)) := by
  obtain ⟨N, K, hT, hM⟩ := h
  exact p_S_back hw hT (fun s1 hT1 hF1 => p_R_back (hM.fm hF1) (fun s2 hM2 hF2 => ⟨rfl, iv_ hT1 hM2 hF2 rfl rfl⟩))
theorem c_keys (h : IV_ w st) (a : Int32) : wp_S_keys w a st (fun r st1 => wp_R_keys w a st1 (same_ w r)) := by
  by_cases e : a = -1
  · subst e
    obtain ⟨N, K, hT, hM⟩ := h
    exact p_S_keysA hT (p_R_keysA hM ⟨rfl, N, K, hT, hM⟩)
  rcases (or_assoc.mpr (pk_ix a (n := 8) (by omega))) with q | ⟨m, hm, ha⟩
  · unfold wp_S_keys
    refine rb_t e (p_S_isMap0 q (br_t rfl ?_))
    unfold wp_R_keys
    exact rb_t e (p_R_isMap0 q (br_t rfl ⟨rfl, h⟩))
  subst ha
  obtain ⟨N, K, hT, hM⟩ := h
  exact p_S_keys hT hm (p_R_keys hM hm ⟨rfl, N, K, hT, hM⟩)
theorem c_check (hw : 5 ≤ w ∧ w ≤ 32) (h : IV_ w st) : wp_S_check w st (fun r st1 => wp_R_check w st1 (same_ w r)) := by
  obtain ⟨N, K, hT, hM⟩ := h
  exact p_S_check hw hT (fun s1 hT1 hF1 => ⟨rfl, N, K, hT1, hM.fm hF1⟩)
end CA
end
section
-- PURE: what holds at the start
def gq_ (n : Nat) : List Nat := (List.range n).map (fun i => n - i)
theorem gq_get {n i : Nat} (hi : i < n) : (gq_ n).getD i 0 = n - i := by
  unfold gq_
  rw [List.getD_eq_getElem?_getD, List.getElem?_map, List.getElem?_range hi]
  rfl
theorem gq_len (n : Nat) : (gq_ n).length = n := by
  unfold gq_
  rw [List.length_map, List.length_range]
theorem gq_mem {n b : Nat} : b ∈ gq_ n ↔ 1 ≤ b ∧ b ≤ n := by
  unfold gq_
  rw [List.mem_map]
  constructor
  · rintro ⟨i, hi, e⟩
    rw [List.mem_range] at hi
    omega
  · rintro ⟨h1, h2⟩
    exact ⟨n - b, List.mem_range.mpr (by omega), by omega⟩
theorem gq_nd (n : Nat) : (gq_ n).Nodup := by
  unfold gq_ List.Nodup
  rw [List.pairwise_map]
  exact List.Pairwise.imp_of_mem (fun ha hb h => by
    rw [List.mem_range] at ha hb
    omega) List.pairwise_lt_range
def Gz_ (f : List Nat) : Sg_ := (fun _ => 0, fun _ => 0, fun _ => [], f)
theorem gz_gf (f : List Nat) : gf_ (Gz_ f) = f := rfl
theorem gz_ic {w : Nat} {f : List Nat} (gz_nd : f.Nodup) (gz_mem : ∀ {b}, b ∈ f ↔ 1 ≤ b ∧ b ≤ 1200) : Ic_ w [] 16 (RR_ (fun _ => 0) (fun _ => 0)) [] (Gz_ f) := by
  have hz : ∀ y, gw_ (Gz_ f) y = 0 := fun _ => rfl
  refine ⟨fun b hb => by rw [hz] at hb; omega, ⟨gz_nd, fun b hb => ⟨(gz_mem.mp hb).1, (gz_mem.mp hb).2, hz b⟩, fun b b1 b2 _ => Or.inl (gz_mem.mpr ⟨b1, b2⟩)⟩, fun b hb => ?_, fun b hb => by rw [hz] at hb; omega⟩
  have h1 : eg_ (Gz_ f) b = 0 := sm_0 (fun p _ => by rw [hz]; simp)
  have h2 : RR_ (fun _ => 0) (fun _ => 0) b = 0 := by
    have : sm_ 8 (fun _ => if 0 = b then 1 else 0) = 0 := sm_0 (fun i _ => by rw [if_neg (by omega)])
    simp only [RR_, this]
  rw [hz, h1, h2]
theorem IV_init0 {w : Nat} {st : St_} {f : List Nat} (gz_nd : f.Nodup) (gz_mem : ∀ {b}, b ∈ f ↔ 1 ≤ b ∧ b ≤ 1200) (gz_len : f.length = 1200) (gz_get : ∀ {i}, i < 1200 → f.getD i 0 = 1200 - i) (h5 : ∀ i, i < 1200 → st 5 i = nI (1200 - i)) (h18 : st 18 0 = nI 1200) (hz : ∀ k, k ≤ 20 → k ≠ 5 → k ≠ 18 → ∀ i, st k i = 0) : IV_ w st := by
  have hln : sm_ 8 (ln_ (Gz_ f) (fun _ => 0)) = 0 := sm_0 (fun i _ => rfl)
  have hR : Rp_ w st (Gz_ f) := by
    refine ⟨fun b b1 b2 => ⟨hz 0 (by omega) (by omega) (by omega) b, hz 1 (by omega) (by omega) (by omega) b, hz 2 (by omega) (by omega) (by omega) b, Nat.zero_le _, fun i hi => absurd hi (Nat.not_lt_zero i)⟩, fun b e he => absurd he (List.not_mem_nil), by rw [gz_gf, gz_len]; exact h18, by rw [gz_gf, gz_len]; exact Nat.le_refl _, fun i hi => ?_, hz 2 (by omega) (by omega) (by omega) 0⟩
    rw [gz_gf, gz_len] at hi
    rw [gz_gf, gz_get hi]; exact h5 i hi
  have hT : T0_ w st (Gz_ f) (fun _ => 0) (fun _ => 0) := ⟨hR, gz_ic gz_nd gz_mem, fun i _ => ⟨Nat.zero_le _, hz 10 (by omega) (by omega) (by omega) i, hz 11 (by omega) (by omega) (by omega) i, fun q => absurd q (Nat.not_succ_le_zero 0)⟩, fun i _ => ⟨Nat.zero_le _, hz 12 (by omega) (by omega) (by omega) i, hz 13 (by omega) (by omega) (by omega) i, fun q => absurd q (Nat.not_succ_le_zero 0)⟩, by rw [hln]; exact hz 19 (by omega) (by omega) (by omega) 0, by rw [hln]; exact hz 20 (by omega) (by omega) (by omega) 0⟩
  have hnl : nl8_ (fun _ => []) = 0 := sm_0 (fun i _ => rfl)
  have hNd : Nd_ (fun _ => []) := ⟨fun m _ => ⟨so_nil, fun q hq => absurd hq List.not_mem_nil⟩, by rw [hnl]; omega⟩
  refine ⟨fun _ => [], fun _ => [], ⟨Gz_ f, fun _ => 0, fun _ => 0, ⟨hT, by rw [hln]; omega, by rw [hln]; omega⟩, fun i _ => rfl, fun i _ => rfl⟩, fun m _ k _ => ⟨fun s hs => absurd hs List.not_mem_nil, fun _ => hz 14 (by omega) (by omega) (by omega) _⟩, fun m _ k _ => ⟨fun s hs => absurd hs List.not_mem_nil, fun _ => hz 15 (by omega) (by omega) (by omega) _⟩, fun m _ => hz 16 (by omega) (by omega) (by omega) m, fun m _ => hz 17 (by omega) (by omega) (by omega) m, hNd, hNd⟩
theorem IV_init {w : Nat} {st : St_} (h5 : ∀ i, i < 1200 → st 5 i = nI (1200 - i)) (h18 : st 18 0 = nI 1200) (hz : ∀ k, k ≤ 20 → k ≠ 5 → k ≠ 18 → ∀ i, st k i = 0) : IV_ w st := IV_init0 (gq_nd 1200) gq_mem (gq_len 1200) gq_get h5 h18 hz
end
