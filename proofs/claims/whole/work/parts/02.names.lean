def Rn_S : String := "SharedTrees"
def Rn_B : String := "SharedTrees$Blocks"
def Rn_T : String := "SharedTrees$Trees"
def Rn_I : String := "SharedTrees$Inspection"
def Rn_P : String := "SharedTrees$Maps"
def Rn_R : String := "SharedTreesModel"
def Rn_L : String := "SharedTreesLaw"
def Fn_S : u_T := fun k => match k with
  | 0 => ("SharedTrees", "blocks", "LSharedTrees$Blocks;", true)
  | 1 => ("SharedTrees", "trees", "LSharedTrees$Trees;", true)
  | 2 => ("SharedTrees", "inspection", "LSharedTrees$Inspection;", true)
  | 3 => ("SharedTrees", "now", "LSharedTrees$Maps;", true)
  | _ => ("SharedTrees", "kept", "LSharedTrees$Maps;", true)
def Tn_S : Nat → FieldType := fun k => match k with
  | 0 => .object "SharedTrees$Blocks"
  | 1 => .object "SharedTrees$Trees"
  | 2 => .object "SharedTrees$Inspection"
  | 3 => .object "SharedTrees$Maps"
  | _ => .object "SharedTrees$Maps"
theorem nn_S : ∀ a, a < 5 → ∀ b, b < 5 → a ≠ b → (Fn_S a).2.1 ≠ (Fn_S b).2.1 := by decide +kernel
theorem to_S : ∀ k, k < 5 → parseFieldDescriptor (Fn_S k).2.2.1 = some (Tn_S k) := by decide +kernel
def Fn_B : u_T := fun k => match k with
  | 0 => ("SharedTrees$Blocks", "width", "I", true)
  | 1 => ("SharedTrees$Blocks", "ways", "[I", true)
  | 2 => ("SharedTrees$Blocks", "levels", "[I", true)
  | 3 => ("SharedTrees$Blocks", "sizes", "[I", true)
  | 4 => ("SharedTrees$Blocks", "entryKeys", "[I", true)
  | 5 => ("SharedTrees$Blocks", "entryGoals", "[I", true)
  | 6 => ("SharedTrees$Blocks", "free", "[I", true)
  | _ => ("SharedTrees$Blocks", "freeCount", "I", false)
def Tn_B : Nat → FieldType := fun k => match k with
  | 0 => .int
  | 1 => .array .int
  | 2 => .array .int
  | 3 => .array .int
  | 4 => .array .int
  | 5 => .array .int
  | 6 => .array .int
  | _ => .int
theorem nn_B : ∀ a, a < 8 → ∀ b, b < 8 → a ≠ b → (Fn_B a).2.1 ≠ (Fn_B b).2.1 := by decide +kernel
theorem to_B : ∀ k, k < 8 → parseFieldDescriptor (Fn_B k).2.2.1 = some (Tn_B k) := by decide +kernel
def Fn_T : u_T := fun k => match k with
  | 0 => ("SharedTrees$Trees", "blocks", "LSharedTrees$Blocks;", true)
  | 1 => ("SharedTrees$Trees", "most", "I", true)
  | _ => ("SharedTrees$Trees", "least", "I", true)
def Tn_T : Nat → FieldType := fun k => match k with
  | 0 => .object "SharedTrees$Blocks"
  | 1 => .int
  | _ => .int
theorem nn_T : ∀ a, a < 3 → ∀ b, b < 3 → a ≠ b → (Fn_T a).2.1 ≠ (Fn_T b).2.1 := by decide +kernel
theorem to_T : ∀ k, k < 3 → parseFieldDescriptor (Fn_T k).2.2.1 = some (Tn_T k) := by decide +kernel
def Fn_I : u_T := fun k => match k with
  | 0 => ("SharedTrees$Inspection", "blocks", "LSharedTrees$Blocks;", true)
  | 1 => ("SharedTrees$Inspection", "most", "I", true)
  | 2 => ("SharedTrees$Inspection", "least", "I", true)
  | 3 => ("SharedTrees$Inspection", "found", "[I", true)
  | 4 => ("SharedTrees$Inspection", "keysBelow", "[I", true)
  | 5 => ("SharedTrees$Inspection", "lastKeys", "[I", true)
  | _ => ("SharedTrees$Inspection", "listed", "[Z", true)
def Tn_I : Nat → FieldType := fun k => match k with
  | 0 => .object "SharedTrees$Blocks"
  | 1 => .int
  | 2 => .int
  | 3 => .array .int
  | 4 => .array .int
  | 5 => .array .int
  | _ => .array .boolean
theorem nn_I : ∀ a, a < 7 → ∀ b, b < 7 → a ≠ b → (Fn_I a).2.1 ≠ (Fn_I b).2.1 := by decide +kernel
theorem to_I : ∀ k, k < 7 → parseFieldDescriptor (Fn_I k).2.2.1 = some (Tn_I k) := by decide +kernel
def Fn_P : u_T := fun k => match k with
  | 0 => ("SharedTrees$Maps", "roots", "[I", true)
  | 1 => ("SharedTrees$Maps", "counts", "[I", true)
  | _ => ("SharedTrees$Maps", "total", "I", false)
def Tn_P : Nat → FieldType := fun k => match k with
  | 0 => .array .int
  | 1 => .array .int
  | _ => .int
theorem nn_P : ∀ a, a < 3 → ∀ b, b < 3 → a ≠ b → (Fn_P a).2.1 ≠ (Fn_P b).2.1 := by decide +kernel
theorem to_P : ∀ k, k < 3 → parseFieldDescriptor (Fn_P k).2.2.1 = some (Tn_P k) := by decide +kernel
def Fn_R : u_T := fun k => match k with
  | 0 => ("SharedTreesModel", "stamps", "[I", true)
  | 1 => ("SharedTreesModel", "kept", "[I", true)
  | 2 => ("SharedTreesModel", "counts", "[I", true)
  | _ => ("SharedTreesModel", "keptCounts", "[I", true)
def Tn_R : Nat → FieldType := fun k => match k with
  | 0 => .array .int
  | 1 => .array .int
  | 2 => .array .int
  | _ => .array .int
theorem nn_R : ∀ a, a < 4 → ∀ b, b < 4 → a ≠ b → (Fn_R a).2.1 ≠ (Fn_R b).2.1 := by decide +kernel
theorem to_R : ∀ k, k < 4 → parseFieldDescriptor (Fn_R k).2.2.1 = some (Tn_R k) := by decide +kernel
abbrev sC_ : List vw_C := [(Rn_S, Fn_S, 5), (Rn_B, Fn_B, 8), (Rn_T, Fn_T, 3), (Rn_I, Fn_I, 7), (Rn_P, Fn_P, 3), (Rn_R, Fn_R, 4)]
def nh_ : String := "SharedTrees"
abbrev bc_S_init : ByteArray := prog_1_method_1_code
def yn_S_init : MethodName := ⟨Rn_S, "<init>", "(I)V"⟩
abbrev bc_S_write : ByteArray := prog_1_method_2_code
def yn_S_write : MethodName := ⟨Rn_S, "write", "(III)I"⟩
abbrev bc_S_spread : ByteArray := prog_1_method_3_code
def yn_S_spread : MethodName := ⟨Rn_S, "spread", "(IIIII)I"⟩
abbrev bc_S_read : ByteArray := prog_1_method_4_code
def yn_S_read : MethodName := ⟨Rn_S, "read", "(II)I"⟩
abbrev bc_S_erase : ByteArray := prog_1_method_5_code
def yn_S_erase : MethodName := ⟨Rn_S, "erase", "(II)I"⟩
abbrev bc_S_cut : ByteArray := prog_1_method_6_code
def yn_S_cut : MethodName := ⟨Rn_S, "cut", "(III)I"⟩
abbrev bc_S_next : ByteArray := prog_1_method_7_code
def yn_S_next : MethodName := ⟨Rn_S, "next", "(II)I"⟩
abbrev bc_S_clone : ByteArray := prog_1_method_8_code
def yn_S_clone : MethodName := ⟨Rn_S, "clone", "(II)I"⟩
abbrev bc_S_drop : ByteArray := prog_1_method_9_code
def yn_S_drop : MethodName := ⟨Rn_S, "drop", "(I)I"⟩
abbrev bc_S_keep : ByteArray := prog_1_method_10_code
def yn_S_keep : MethodName := ⟨Rn_S, "keep", "()I"⟩
abbrev bc_S_back : ByteArray := prog_1_method_11_code
def yn_S_back : MethodName := ⟨Rn_S, "back", "()I"⟩
abbrev bc_S_keys : ByteArray := prog_1_method_12_code
def yn_S_keys : MethodName := ⟨Rn_S, "keys", "(I)I"⟩
abbrev bc_S_check : ByteArray := prog_1_method_13_code
def yn_S_check : MethodName := ⟨Rn_S, "check", "()I"⟩
abbrev bc_S_isMap : ByteArray := prog_1_method_14_code
def yn_S_isMap : MethodName := ⟨Rn_S, "isMap", "(I)Z"⟩
abbrev bc_S_isKey : ByteArray := prog_1_method_15_code
def yn_S_isKey : MethodName := ⟨Rn_S, "isKey", "(I)Z"⟩
abbrev bc_S_isStamp : ByteArray := prog_1_method_16_code
def yn_S_isStamp : MethodName := ⟨Rn_S, "isStamp", "(I)Z"⟩
abbrev bc_S_leastEntries : ByteArray := prog_1_method_17_code
def yn_S_leastEntries : MethodName := ⟨Rn_S, "leastEntries", "(I)I"⟩
abbrev bc_S_changeCount : ByteArray := prog_1_method_18_code
def yn_S_changeCount : MethodName := ⟨Rn_S, "changeCount", "(LSharedTrees$Maps;II)V"⟩
abbrev bc_S_leadAll : ByteArray := prog_1_method_19_code
def yn_S_leadAll : MethodName := ⟨Rn_S, "leadAll", "(LSharedTrees$Maps;LSharedTrees$Maps;)V"⟩
abbrev bc_S_lead : ByteArray := prog_1_method_20_code
def yn_S_lead : MethodName := ⟨Rn_S, "lead", "(LSharedTrees$Maps;III)V"⟩
abbrev bc_B_init : ByteArray := prog_2_method_1_code
def yn_B_init : MethodName := ⟨Rn_B, "<init>", "(I)V"⟩
abbrev bc_B_isBlock : ByteArray := prog_2_method_2_code
def yn_B_isBlock : MethodName := ⟨Rn_B, "isBlock", "(I)Z"⟩
abbrev bc_B_ways : ByteArray := prog_2_method_3_code
def yn_B_ways : MethodName := ⟨Rn_B, "ways", "(I)I"⟩
abbrev bc_B_level : ByteArray := prog_2_method_4_code
def yn_B_level : MethodName := ⟨Rn_B, "level", "(I)I"⟩
abbrev bc_B_size : ByteArray := prog_2_method_5_code
def yn_B_size : MethodName := ⟨Rn_B, "size", "(I)I"⟩
abbrev bc_B_key : ByteArray := prog_2_method_6_code
def yn_B_key : MethodName := ⟨Rn_B, "key", "(II)I"⟩
abbrev bc_B_goal : ByteArray := prog_2_method_7_code
def yn_B_goal : MethodName := ⟨Rn_B, "goal", "(II)I"⟩
abbrev bc_B_setKey : ByteArray := prog_2_method_8_code
def yn_B_setKey : MethodName := ⟨Rn_B, "setKey", "(III)V"⟩
abbrev bc_B_setGoal : ByteArray := prog_2_method_9_code
def yn_B_setGoal : MethodName := ⟨Rn_B, "setGoal", "(III)V"⟩
abbrev bc_B_freeCount : ByteArray := prog_2_method_10_code
def yn_B_freeCount : MethodName := ⟨Rn_B, "freeCount", "()I"⟩
abbrev bc_B_freeBlock : ByteArray := prog_2_method_11_code
def yn_B_freeBlock : MethodName := ⟨Rn_B, "freeBlock", "(I)I"⟩
abbrev bc_B_isEntry : ByteArray := prog_2_method_12_code
def yn_B_isEntry : MethodName := ⟨Rn_B, "isEntry", "(II)Z"⟩
abbrev bc_B_slotOf : ByteArray := prog_2_method_13_code
def yn_B_slotOf : MethodName := ⟨Rn_B, "slotOf", "(II)I"⟩
abbrev bc_B_take : ByteArray := prog_2_method_14_code
def yn_B_take : MethodName := ⟨Rn_B, "take", "(I)I"⟩
abbrev bc_B_give : ByteArray := prog_2_method_15_code
def yn_B_give : MethodName := ⟨Rn_B, "give", "(I)V"⟩
abbrev bc_B_share : ByteArray := prog_2_method_16_code
def yn_B_share : MethodName := ⟨Rn_B, "share", "(I)V"⟩
abbrev bc_B_lose : ByteArray := prog_2_method_17_code
def yn_B_lose : MethodName := ⟨Rn_B, "lose", "(I)Z"⟩
abbrev bc_B_owned : ByteArray := prog_2_method_18_code
def yn_B_owned : MethodName := ⟨Rn_B, "owned", "(I)I"⟩
abbrev bc_B_copyEntries : ByteArray := prog_2_method_19_code
def yn_B_copyEntries : MethodName := ⟨Rn_B, "copyEntries", "(II)V"⟩
abbrev bc_B_insert : ByteArray := prog_2_method_20_code
def yn_B_insert : MethodName := ⟨Rn_B, "insert", "(IIII)V"⟩
abbrev bc_B_remove : ByteArray := prog_2_method_21_code
def yn_B_remove : MethodName := ⟨Rn_B, "remove", "(II)V"⟩
abbrev bc_B_moveTail : ByteArray := prog_2_method_22_code
def yn_B_moveTail : MethodName := ⟨Rn_B, "moveTail", "(III)V"⟩
abbrev bc_T_init : ByteArray := prog_5_method_1_code
def yn_T_init : MethodName := ⟨Rn_T, "<init>", "(LSharedTrees$Blocks;I)V"⟩
abbrev bc_T_stampOf : ByteArray := prog_5_method_2_code
def yn_T_stampOf : MethodName := ⟨Rn_T, "stampOf", "(II)I"⟩
abbrev bc_T_keyFrom : ByteArray := prog_5_method_3_code
def yn_T_keyFrom : MethodName := ⟨Rn_T, "keyFrom", "(II)I"⟩
abbrev bc_T_keyOr : ByteArray := prog_5_method_4_code
def yn_T_keyOr : MethodName := ⟨Rn_T, "keyOr", "(III)I"⟩
abbrev bc_T_slotToward : ByteArray := prog_5_method_5_code
def yn_T_slotToward : MethodName := ⟨Rn_T, "slotToward", "(II)I"⟩
abbrev bc_T_with : ByteArray := prog_5_method_6_code
def yn_T_with : MethodName := ⟨Rn_T, "with", "(III)I"⟩
abbrev bc_T_putBelow : ByteArray := prog_5_method_7_code
def yn_T_putBelow : MethodName := ⟨Rn_T, "putBelow", "(IIII)V"⟩
abbrev bc_T_putInLeaf : ByteArray := prog_5_method_8_code
def yn_T_putInLeaf : MethodName := ⟨Rn_T, "putInLeaf", "(III)V"⟩
abbrev bc_T_ownedChild : ByteArray := prog_5_method_9_code
def yn_T_ownedChild : MethodName := ⟨Rn_T, "ownedChild", "(II)I"⟩
abbrev bc_T_split : ByteArray := prog_5_method_10_code
def yn_T_split : MethodName := ⟨Rn_T, "split", "(II)V"⟩
abbrev bc_T_grown : ByteArray := prog_5_method_11_code
def yn_T_grown : MethodName := ⟨Rn_T, "grown", "(I)I"⟩
abbrev bc_T_without : ByteArray := prog_5_method_12_code
def yn_T_without : MethodName := ⟨Rn_T, "without", "(II)I"⟩
abbrev bc_T_removeBelow : ByteArray := prog_5_method_13_code
def yn_T_removeBelow : MethodName := ⟨Rn_T, "removeBelow", "(III)V"⟩
abbrev bc_T_fill : ByteArray := prog_5_method_14_code
def yn_T_fill : MethodName := ⟨Rn_T, "fill", "(II)V"⟩
abbrev bc_T_moveEntry : ByteArray := prog_5_method_15_code
def yn_T_moveEntry : MethodName := ⟨Rn_T, "moveEntry", "(IIII)V"⟩
abbrev bc_T_shrunk : ByteArray := prog_5_method_16_code
def yn_T_shrunk : MethodName := ⟨Rn_T, "shrunk", "(I)I"⟩
abbrev bc_T_release : ByteArray := prog_5_method_17_code
def yn_T_release : MethodName := ⟨Rn_T, "release", "(I)V"⟩
abbrev bc_T_releaseBelow : ByteArray := prog_5_method_18_code
def yn_T_releaseBelow : MethodName := ⟨Rn_T, "releaseBelow", "(II)V"⟩
abbrev bc_I_init : ByteArray := prog_3_method_1_code
def yn_I_init : MethodName := ⟨Rn_I, "<init>", "(LSharedTrees$Blocks;I)V"⟩
abbrev bc_I_firstFault : ByteArray := prog_3_method_2_code
def yn_I_firstFault : MethodName := ⟨Rn_I, "firstFault", "(LSharedTrees$Maps;LSharedTrees$Maps;)I"⟩
abbrev bc_I_faultOfMaps : ByteArray := prog_3_method_3_code
def yn_I_faultOfMaps : MethodName := ⟨Rn_I, "faultOfMaps", "(LSharedTrees$Maps;I)I"⟩
abbrev bc_I_faultOfTree : ByteArray := prog_3_method_4_code
def yn_I_faultOfTree : MethodName := ⟨Rn_I, "faultOfTree", "(III)I"⟩
abbrev bc_I_faultBelow : ByteArray := prog_3_method_5_code
def yn_I_faultBelow : MethodName := ⟨Rn_I, "faultBelow", "(II)I"⟩
abbrev bc_I_hasOrder : ByteArray := prog_3_method_6_code
def yn_I_hasOrder : MethodName := ⟨Rn_I, "hasOrder", "(I)Z"⟩
abbrev bc_I_faultOfLeaf : ByteArray := prog_3_method_7_code
def yn_I_faultOfLeaf : MethodName := ⟨Rn_I, "faultOfLeaf", "(I)I"⟩
abbrev bc_I_faultOfNode : ByteArray := prog_3_method_8_code
def yn_I_faultOfNode : MethodName := ⟨Rn_I, "faultOfNode", "(II)I"⟩
abbrev bc_I_faultOfFree : ByteArray := prog_3_method_9_code
def yn_I_faultOfFree : MethodName := ⟨Rn_I, "faultOfFree", "()I"⟩
abbrev bc_I_faultOfWays : ByteArray := prog_3_method_10_code
def yn_I_faultOfWays : MethodName := ⟨Rn_I, "faultOfWays", "()I"⟩
abbrev bc_P_init : ByteArray := prog_4_method_1_code
def yn_P_init : MethodName := ⟨Rn_P, "<init>", "()V"⟩
abbrev bc_R_init : ByteArray := prog_7_method_1_code
def yn_R_init : MethodName := ⟨Rn_R, "<init>", "(I)V"⟩
abbrev bc_R_isMap : ByteArray := prog_7_method_3_code
def yn_R_isMap : MethodName := ⟨Rn_R, "isMap", "(I)Z"⟩
abbrev bc_R_isKey : ByteArray := prog_7_method_4_code
def yn_R_isKey : MethodName := ⟨Rn_R, "isKey", "(I)Z"⟩
abbrev bc_R_isStamp : ByteArray := prog_7_method_5_code
def yn_R_isStamp : MethodName := ⟨Rn_R, "isStamp", "(I)Z"⟩
abbrev bc_R_all : ByteArray := prog_7_method_6_code
def yn_R_all : MethodName := ⟨Rn_R, "all", "()I"⟩
abbrev bc_R_write : ByteArray := prog_7_method_7_code
def yn_R_write : MethodName := ⟨Rn_R, "write", "(III)I"⟩
abbrev bc_R_spread : ByteArray := prog_7_method_8_code
def yn_R_spread : MethodName := ⟨Rn_R, "spread", "(IIIII)I"⟩
abbrev bc_R_read : ByteArray := prog_7_method_9_code
def yn_R_read : MethodName := ⟨Rn_R, "read", "(II)I"⟩
abbrev bc_R_erase : ByteArray := prog_7_method_10_code
def yn_R_erase : MethodName := ⟨Rn_R, "erase", "(II)I"⟩
abbrev bc_R_cut : ByteArray := prog_7_method_11_code
def yn_R_cut : MethodName := ⟨Rn_R, "cut", "(III)I"⟩
abbrev bc_R_next : ByteArray := prog_7_method_12_code
def yn_R_next : MethodName := ⟨Rn_R, "next", "(II)I"⟩
abbrev bc_R_clone : ByteArray := prog_7_method_13_code
def yn_R_clone : MethodName := ⟨Rn_R, "clone", "(II)I"⟩
abbrev bc_R_drop : ByteArray := prog_7_method_14_code
def yn_R_drop : MethodName := ⟨Rn_R, "drop", "(I)I"⟩
abbrev bc_R_keep : ByteArray := prog_7_method_15_code
def yn_R_keep : MethodName := ⟨Rn_R, "keep", "()I"⟩
abbrev bc_R_back : ByteArray := prog_7_method_16_code
def yn_R_back : MethodName := ⟨Rn_R, "back", "()I"⟩
abbrev bc_R_keys : ByteArray := prog_7_method_17_code
def yn_R_keys : MethodName := ⟨Rn_R, "keys", "(I)I"⟩
abbrev bc_R_check : ByteArray := prog_7_method_18_code
def yn_R_check : MethodName := ⟨Rn_R, "check", "()I"⟩
abbrev bc_L_cell : ByteArray := method_2_code
def yn_L_cell : MethodName := ⟨Rn_L, "cell", "([II)I"⟩
abbrev bc_L_law : ByteArray := code
def yn_L_law : MethodName := ⟨Rn_L, "law", "([I)Z"⟩
abbrev St_ : Type := Nat → Nat → Int32
def ws_1 (st : St_) (k i : Nat) (x : Int32) : St_ := va_up st k (upd (st k) i x)
def ws_c (st : St_) (k j sp dp n : Nat) : St_ := va_up st j (va_cpy (st k) (st j) sp dp n)
def wl_ (w k : Nat) : Nat := match k with
  | 0 => 1201
  | 1 => 1201
  | 2 => 1201
  | 3 => 1201 * w
  | 4 => 1201 * w
  | 5 => 1200
  | 6 => 1201
  | 7 => 1201
  | 8 => 1201
  | 9 => 1201
  | 10 => 8
  | 11 => 8
  | 12 => 8
  | 13 => 8
  | 14 => 32768
  | 15 => 32768
  | 16 => 8
  | _ => 8
def wd_ (ad : Nat → Nat) (cA : Nat → ClassId) (w : Nat) (st : St_) : va_W := [(ad 0, .inl (cA 0, 1201, .inl (st 0))),
  (ad 1, .inl (cA 1, 1201, .inl (st 1))),
  (ad 2, .inl (cA 2, 1201, .inl (st 2))),
  (ad 3, .inl (cA 3, (1201 * w), .inl (st 3))),
  (ad 4, .inl (cA 4, (1201 * w), .inl (st 4))),
  (ad 5, .inl (cA 5, 1200, .inl (st 5))),
  (ad 6, .inl (cA 6, 1201, .inl (st 6))),
  (ad 7, .inl (cA 7, 1201, .inl (st 7))),
  (ad 8, .inl (cA 8, 1201, .inl (st 8))),
  (ad 9, .inl (cA 9, 1201, .inl (st 9))),
  (ad 10, .inl (cA 10, 8, .inl (st 10))),
  (ad 11, .inl (cA 11, 8, .inl (st 11))),
  (ad 12, .inl (cA 12, 8, .inl (st 12))),
  (ad 13, .inl (cA 13, 8, .inl (st 13))),
  (ad 14, .inl (cA 14, 32768, .inl (st 14))),
  (ad 15, .inl (cA 15, 32768, .inl (st 15))),
  (ad 16, .inl (cA 16, 8, .inl (st 16))),
  (ad 17, .inl (cA 17, 8, .inl (st 17))),
  (ad 18, .inr (0, [.ref (ad 19), .ref (ad 20), .ref (ad 21), .ref (ad 22), .ref (ad 23)])),
  (ad 19, .inr (1, [.int (nI w), .ref (ad 0), .ref (ad 1), .ref (ad 2), .ref (ad 3), .ref (ad 4), .ref (ad 5), .int (st 18 0)])),
  (ad 20, .inr (2, [.ref (ad 19), .int (nI (w - 1)), .int (nI (w / 2))])),
  (ad 21, .inr (3, [.ref (ad 19), .int (nI (w - 1)), .int (nI (w / 2)), .ref (ad 6), .ref (ad 7), .ref (ad 8), .ref (ad 9)])),
  (ad 22, .inr (4, [.ref (ad 10), .ref (ad 11), .int (st 19 0)])),
  (ad 23, .inr (4, [.ref (ad 12), .ref (ad 13), .int (st 20 0)])),
  (ad 24, .inr (5, [.ref (ad 14), .ref (ad 15), .ref (ad 16), .ref (ad 17)]))]
def ty_ (cA : Nat → ClassId) : List (ClassId × FieldType) := [(cA 0, .int), (cA 1, .int), (cA 2, .int), (cA 3, .int), (cA 4, .int), (cA 5, .int), (cA 6, .int), (cA 7, .int), (cA 8, .int), (cA 9, .boolean), (cA 10, .int), (cA 11, .int), (cA 12, .int), (cA 13, .int), (cA 14, .int), (cA 15, .int), (cA 16, .int), (cA 17, .int)]
