def Wk_ : List Cond := [.code yn_S_isMap bc_S_isMap 1 (some .boolean),
  .methodLink Rn_S 53 yn_S_isMap,
  .static yn_S_isMap,
  .initialized Rn_S,
  .code yn_S_isKey bc_S_isKey 1 (some .boolean),
  .methodLink Rn_S 57 yn_S_isKey,
  .static yn_S_isKey,
  .constant Rn_S 106 1000000000,
  .code yn_S_isStamp bc_S_isStamp 1 (some .boolean),
  .methodLink Rn_S 60 yn_S_isStamp,
  .static yn_S_isStamp,
  .fieldLink Rn_S 32 "SharedTrees" "trees" "LSharedTrees$Trees;",
  .fieldLink Rn_S 46 "SharedTrees" "now" "LSharedTrees$Maps;",
  .fieldLink Rn_T 9 "SharedTrees$Trees" "blocks" "LSharedTrees$Blocks;",
  .code yn_B_isBlock bc_B_isBlock 2 (some .boolean),
  .methodLink Rn_B 37 yn_B_isBlock,
  .instanceMethod yn_B_isBlock,
  .selects Rn_B yn_B_isBlock yn_B_isBlock,
  .initialized Rn_B,
  .fieldLink Rn_B 15 "SharedTrees$Blocks" "levels" "[I",
  .code yn_B_level bc_B_level 2 (some .int),
  .methodLink Rn_T 26 yn_B_level,
  .instanceMethod yn_B_level,
  .selects Rn_B yn_B_level yn_B_level,
  .fieldLink Rn_B 28 "SharedTrees$Blocks" "width" "I",
  .fieldLink Rn_B 18 "SharedTrees$Blocks" "sizes" "[I",
  .code yn_B_size bc_B_size 2 (some .int),
  .methodLink Rn_B 45 yn_B_size,
  .instanceMethod yn_B_size,
  .selects Rn_B yn_B_size yn_B_size,
  .methodLink Rn_B 49 Lib.Math.min.name,
  .static Lib.Math.min.name,
  .initialized "java/lang/Math",
  .code Lib.Math.min.name Lib.Math.min.code 2 (some .int),
  .fieldLink Rn_B 31 "SharedTrees$Blocks" "entryKeys" "[I",
  .code yn_B_slotOf bc_B_slotOf 6 (some .int),
  .methodLink Rn_T 38 yn_B_slotOf,
  .instanceMethod yn_B_slotOf,
  .selects Rn_B yn_B_slotOf yn_B_slotOf,
  .code yn_B_isEntry bc_B_isEntry 3 (some .boolean),
  .methodLink Rn_B 41 yn_B_isEntry,
  .instanceMethod yn_B_isEntry,
  .selects Rn_B yn_B_isEntry yn_B_isEntry,
  .code yn_B_key bc_B_key 3 (some .int),
  .methodLink Rn_T 41 yn_B_key,
  .instanceMethod yn_B_key,
  .selects Rn_B yn_B_key yn_B_key,
  .fieldLink Rn_B 34 "SharedTrees$Blocks" "entryGoals" "[I",
  .code yn_B_goal bc_B_goal 3 (some .int),
  .methodLink Rn_T 35 yn_B_goal,
  .instanceMethod yn_B_goal,
  .selects Rn_B yn_B_goal yn_B_goal,
  .methodLink Rn_T 51 Lib.Math.max.name,
  .static Lib.Math.max.name,
  .code Lib.Math.max.name Lib.Math.max.code 2 (some .int),
  .code yn_T_slotToward bc_T_slotToward 3 (some .int),
  .methodLink Rn_T 31 yn_T_slotToward,
  .instanceMethod yn_T_slotToward,
  .selects Rn_T yn_T_slotToward yn_T_slotToward,
  .initialized Rn_T,
  .code yn_T_stampOf bc_T_stampOf 5 (some .int),
  .methodLink Rn_S 67 yn_T_stampOf,
  .instanceMethod yn_T_stampOf,
  .selects Rn_T yn_T_stampOf yn_T_stampOf,
  .fieldLink Rn_B 9 "SharedTrees$Blocks" "ways" "[I",
  .code yn_B_ways bc_B_ways 2 (some .int),
  .methodLink Rn_B 55 yn_B_ways,
  .instanceMethod yn_B_ways,
  .selects Rn_B yn_B_ways yn_B_ways,
  .methodLink Rn_B 57 yn_B_level,
  .fieldLink Rn_B 24 "SharedTrees$Blocks" "freeCount" "I",
  .fieldLink Rn_B 21 "SharedTrees$Blocks" "free" "[I",
  .code yn_B_take bc_B_take 3 (some .int),
  .methodLink Rn_B 60 yn_B_take,
  .instanceMethod yn_B_take,
  .selects Rn_B yn_B_take yn_B_take,
  .methodLink Rn_B 77 arraycopyName,
  .native arraycopyName,
  .static arraycopyName,
  .initialized "java/lang/System",
  .code yn_B_copyEntries bc_B_copyEntries 3 none,
  .methodLink Rn_B 63 yn_B_copyEntries,
  .instanceMethod yn_B_copyEntries,
  .selects Rn_B yn_B_copyEntries yn_B_copyEntries,
  .code yn_B_lose bc_B_lose 2 (some .boolean),
  .methodLink Rn_B 74 yn_B_lose,
  .instanceMethod yn_B_lose,
  .selects Rn_B yn_B_lose yn_B_lose,
  .methodLink Rn_B 67 yn_B_goal,
  .code yn_B_share bc_B_share 2 none,
  .methodLink Rn_B 70 yn_B_share,
  .instanceMethod yn_B_share,
  .selects Rn_B yn_B_share yn_B_share,
  .code yn_B_owned bc_B_owned 4 (some .int),
  .methodLink Rn_T 59 yn_B_owned,
  .instanceMethod yn_B_owned,
  .selects Rn_B yn_B_owned yn_B_owned,
  .code yn_B_setGoal bc_B_setGoal 4 none,
  .methodLink Rn_T 83 yn_B_setGoal,
  .instanceMethod yn_B_setGoal,
  .selects Rn_B yn_B_setGoal yn_B_setGoal,
  .code yn_T_ownedChild bc_T_ownedChild 4 (some .int),
  .methodLink Rn_T 73 yn_T_ownedChild,
  .instanceMethod yn_T_ownedChild,
  .selects Rn_T yn_T_ownedChild yn_T_ownedChild,
  .code yn_T_putBelow bc_T_putBelow 7 none,
  .methodLink Rn_T 62 yn_T_putBelow,
  .instanceMethod yn_T_putBelow,
  .selects Rn_T yn_T_putBelow yn_T_putBelow,
  .code yn_B_setKey bc_B_setKey 4 none,
  .methodLink Rn_T 76 yn_B_setKey,
  .instanceMethod yn_B_setKey,
  .selects Rn_B yn_B_setKey yn_B_setKey,
  .methodLink Rn_T 48 yn_B_size,
  .fieldLink Rn_T 15 "SharedTrees$Trees" "most" "I",
  .methodLink Rn_T 56 yn_B_take,
  .fieldLink Rn_T 23 "SharedTrees$Trees" "least" "I",
  .methodLink Rn_B 83 yn_B_key,
  .code yn_B_insert bc_B_insert 7 none,
  .methodLink Rn_B 86 yn_B_insert,
  .instanceMethod yn_B_insert,
  .selects Rn_B yn_B_insert yn_B_insert,
  .code yn_B_moveTail bc_B_moveTail 5 none,
  .methodLink Rn_T 89 yn_B_moveTail,
  .instanceMethod yn_B_moveTail,
  .selects Rn_B yn_B_moveTail yn_B_moveTail,
  .methodLink Rn_T 86 yn_B_insert,
  .code yn_T_split bc_T_split 5 none,
  .methodLink Rn_T 79 yn_T_split,
  .instanceMethod yn_T_split,
  .selects Rn_T yn_T_split yn_T_split,
  .code yn_T_putInLeaf bc_T_putInLeaf 5 none,
  .methodLink Rn_T 69 yn_T_putInLeaf,
  .instanceMethod yn_T_putInLeaf,
  .selects Rn_T yn_T_putInLeaf yn_T_putInLeaf,
  .code yn_T_grown bc_T_grown 3 (some .int),
  .methodLink Rn_T 66 yn_T_grown,
  .instanceMethod yn_T_grown,
  .selects Rn_T yn_T_grown yn_T_grown,
  .code yn_T_with bc_T_with 5 (some .int),
  .methodLink Rn_S 74 yn_T_with,
  .instanceMethod yn_T_with,
  .selects Rn_T yn_T_with yn_T_with,
  .code yn_S_changeCount bc_S_changeCount 3 none,
  .methodLink Rn_S 78 yn_S_changeCount,
  .static yn_S_changeCount,
  .code yn_S_write bc_S_write 5 (some .int),
  .code yn_R_isMap bc_R_isMap 1 (some .boolean),
  .methodLink Rn_R 24 yn_R_isMap,
  .static yn_R_isMap,
  .initialized Rn_R,
  .code yn_R_isKey bc_R_isKey 1 (some .boolean),
  .methodLink Rn_R 28 yn_R_isKey,
  .static yn_R_isKey,
  .constant Rn_R 23 1000000000,
  .code yn_R_isStamp bc_R_isStamp 1 (some .boolean),
  .methodLink Rn_R 31 yn_R_isStamp,
  .static yn_R_isStamp,
  .fieldLink Rn_R 8 "SharedTreesModel" "stamps" "[I",
  .fieldLink Rn_R 17 "SharedTreesModel" "counts" "[I",
  .code yn_R_all bc_R_all 3 (some .int),
  .methodLink Rn_R 34 yn_R_all,
  .instanceMethod yn_R_all,
  .selects Rn_R yn_R_all yn_R_all,
  .code yn_R_write bc_R_write 5 (some .int),
  .methodLink Rn_S 85 yn_S_write,
  .instanceMethod yn_S_write,
  .selects Rn_S yn_S_write yn_S_write,
  .code yn_S_spread bc_S_spread 7 (some .int),
  .methodLink Rn_R 38 yn_R_write,
  .instanceMethod yn_R_write,
  .selects Rn_R yn_R_write yn_R_write,
  .code yn_R_spread bc_R_spread 7 (some .int),
  .code yn_S_read bc_S_read 3 (some .int),
  .code yn_R_read bc_R_read 4 (some .int),
  .code yn_T_removeBelow bc_T_removeBelow 6 none,
  .methodLink Rn_T 92 yn_T_removeBelow,
  .instanceMethod yn_T_removeBelow,
  .selects Rn_T yn_T_removeBelow yn_T_removeBelow,
  .code yn_B_remove bc_B_remove 5 none,
  .methodLink Rn_T 98 yn_B_remove,
  .instanceMethod yn_B_remove,
  .selects Rn_B yn_B_remove yn_B_remove,
  .code yn_T_moveEntry bc_T_moveEntry 5 none,
  .methodLink Rn_T 108 yn_T_moveEntry,
  .instanceMethod yn_T_moveEntry,
  .selects Rn_T yn_T_moveEntry yn_T_moveEntry,
  .code yn_B_give bc_B_give 2 none,
  .methodLink Rn_T 104 yn_B_give,
  .instanceMethod yn_B_give,
  .selects Rn_B yn_B_give yn_B_give,
  .code yn_T_fill bc_T_fill 5 none,
  .methodLink Rn_T 101 yn_T_fill,
  .instanceMethod yn_T_fill,
  .selects Rn_T yn_T_fill yn_T_fill,
  .code yn_T_shrunk bc_T_shrunk 3 (some .int),
  .methodLink Rn_T 95 yn_T_shrunk,
  .instanceMethod yn_T_shrunk,
  .selects Rn_T yn_T_shrunk yn_T_shrunk,
  .code yn_T_without bc_T_without 4 (some .int),
  .methodLink Rn_S 88 yn_T_without,
  .instanceMethod yn_T_without,
  .selects Rn_T yn_T_without yn_T_without,
  .code yn_S_erase bc_S_erase 4 (some .int),
  .methodLink Rn_R 42 yn_R_read,
  .instanceMethod yn_R_read,
  .selects Rn_R yn_R_read yn_R_read,
  .code yn_R_erase bc_R_erase 4 (some .int),
  .code yn_T_keyOr bc_T_keyOr 4 (some .int),
  .methodLink Rn_T 44 yn_T_keyOr,
  .instanceMethod yn_T_keyOr,
  .selects Rn_T yn_T_keyOr yn_T_keyOr,
  .code yn_T_keyFrom bc_T_keyFrom 7 (some .int),
  .methodLink Rn_S 91 yn_T_keyFrom,
  .instanceMethod yn_T_keyFrom,
  .selects Rn_T yn_T_keyFrom yn_T_keyFrom,
  .code yn_S_cut bc_S_cut 6 (some .int),
  .methodLink Rn_R 46 yn_R_erase,
  .instanceMethod yn_R_erase,
  .selects Rn_R yn_R_erase yn_R_erase,
  .code yn_R_cut bc_R_cut 6 (some .int),
  .code yn_S_next bc_S_next 3 (some .int),
  .code yn_R_next bc_R_next 4 (some .int),
  .fieldLink Rn_S 23 "SharedTrees" "blocks" "LSharedTrees$Blocks;",
  .methodLink Rn_S 107 yn_B_share,
  .methodLink Rn_T 114 yn_B_lose,
  .code yn_T_releaseBelow bc_T_releaseBelow 4 none,
  .methodLink Rn_T 111 yn_T_releaseBelow,
  .instanceMethod yn_T_releaseBelow,
  .selects Rn_T yn_T_releaseBelow yn_T_releaseBelow,
  .code yn_T_release bc_T_release 2 none,
  .methodLink Rn_S 110 yn_T_release,
  .instanceMethod yn_T_release,
  .selects Rn_T yn_T_release yn_T_release,
  .code yn_S_lead bc_S_lead 5 none,
  .methodLink Rn_S 94 yn_S_lead,
  .instanceMethod yn_S_lead,
  .selects Rn_S yn_S_lead yn_S_lead,
  .code yn_S_clone bc_S_clone 3 (some .int),
  .code yn_R_clone bc_R_clone 4 (some .int),
  .code yn_S_drop bc_S_drop 3 (some .int),
  .methodLink Rn_R 49 yn_R_cut,
  .instanceMethod yn_R_cut,
  .selects Rn_R yn_R_cut yn_R_cut,
  .code yn_R_drop bc_R_drop 3 (some .int),
  .fieldLink Rn_S 50 "SharedTrees" "kept" "LSharedTrees$Maps;",
  .code yn_S_leadAll bc_S_leadAll 4 none,
  .methodLink Rn_S 98 yn_S_leadAll,
  .instanceMethod yn_S_leadAll,
  .selects Rn_S yn_S_leadAll yn_S_leadAll,
  .code yn_S_keep bc_S_keep 1 (some .int),
  .constant Rn_R 7 32768,
  .fieldLink Rn_R 20 "SharedTreesModel" "keptCounts" "[I",
  .fieldLink Rn_R 14 "SharedTreesModel" "kept" "[I",
  .code yn_R_keep bc_R_keep 2 (some .int),
  .code yn_S_back bc_S_back 1 (some .int),
  .code yn_R_back bc_R_back 2 (some .int),
  .code yn_S_keys bc_S_keys 2 (some .int),
  .code yn_R_keys bc_R_keys 2 (some .int),
  .fieldLink Rn_S 39 "SharedTrees" "inspection" "LSharedTrees$Inspection;",
  .fieldLink Rn_I 25 "SharedTrees$Inspection" "blocks" "LSharedTrees$Blocks;",
  .methodLink Rn_I 66 yn_B_isBlock,
  .methodLink Rn_I 72 yn_B_level,
  .methodLink Rn_I 75 yn_B_size,
  .fieldLink Rn_I 9 "SharedTrees$Inspection" "found" "[I",
  .fieldLink Rn_I 29 "SharedTrees$Inspection" "most" "I",
  .methodLink Rn_I 91 yn_B_key,
  .code yn_I_hasOrder bc_I_hasOrder 4 (some .boolean),
  .methodLink Rn_I 82 yn_I_hasOrder,
  .instanceMethod yn_I_hasOrder,
  .selects Rn_I yn_I_hasOrder yn_I_hasOrder,
  .initialized Rn_I,
  .fieldLink Rn_I 15 "SharedTrees$Inspection" "keysBelow" "[I",
  .fieldLink Rn_I 18 "SharedTrees$Inspection" "lastKeys" "[I",
  .methodLink Rn_I 97 yn_B_goal,
  .fieldLink Rn_I 37 "SharedTrees$Inspection" "least" "I",
  .code yn_I_faultBelow bc_I_faultBelow 3 (some .int),
  .methodLink Rn_I 78 yn_I_faultBelow,
  .instanceMethod yn_I_faultBelow,
  .selects Rn_I yn_I_faultBelow yn_I_faultBelow,
  .code yn_I_faultOfNode bc_I_faultOfNode 10 (some .int),
  .methodLink Rn_I 88 yn_I_faultOfNode,
  .instanceMethod yn_I_faultOfNode,
  .selects Rn_I yn_I_faultOfNode yn_I_faultOfNode,
  .code yn_I_faultOfLeaf bc_I_faultOfLeaf 4 (some .int),
  .methodLink Rn_I 85 yn_I_faultOfLeaf,
  .instanceMethod yn_I_faultOfLeaf,
  .selects Rn_I yn_I_faultOfLeaf yn_I_faultOfLeaf,
  .code yn_I_faultOfTree bc_I_faultOfTree 6 (some .int),
  .methodLink Rn_I 59 yn_I_faultOfTree,
  .instanceMethod yn_I_faultOfTree,
  .selects Rn_I yn_I_faultOfTree yn_I_faultOfTree,
  .code yn_I_faultOfMaps bc_I_faultOfMaps 6 (some .int),
  .methodLink Rn_I 40 yn_I_faultOfMaps,
  .instanceMethod yn_I_faultOfMaps,
  .selects Rn_I yn_I_faultOfMaps yn_I_faultOfMaps,
  .methodLink Rn_I 109 yn_B_ways,
  .fieldLink Rn_I 21 "SharedTrees$Inspection" "listed" "[Z",
  .code yn_I_faultOfWays bc_I_faultOfWays 3 (some .int),
  .methodLink Rn_I 48 yn_I_faultOfWays,
  .instanceMethod yn_I_faultOfWays,
  .selects Rn_I yn_I_faultOfWays yn_I_faultOfWays,
  .code yn_B_freeCount bc_B_freeCount 1 (some .int),
  .methodLink Rn_I 103 yn_B_freeCount,
  .instanceMethod yn_B_freeCount,
  .selects Rn_B yn_B_freeCount yn_B_freeCount,
  .code yn_B_freeBlock bc_B_freeBlock 2 (some .int),
  .methodLink Rn_I 106 yn_B_freeBlock,
  .instanceMethod yn_B_freeBlock,
  .selects Rn_B yn_B_freeBlock yn_B_freeBlock,
  .code yn_I_faultOfFree bc_I_faultOfFree 4 (some .int),
  .methodLink Rn_I 44 yn_I_faultOfFree,
  .instanceMethod yn_I_faultOfFree,
  .selects Rn_I yn_I_faultOfFree yn_I_faultOfFree,
  .code yn_I_firstFault bc_I_firstFault 4 (some .int),
  .methodLink Rn_S 102 yn_I_firstFault,
  .instanceMethod yn_I_firstFault,
  .selects Rn_I yn_I_firstFault yn_I_firstFault,
  .code yn_S_check bc_S_check 1 (some .int),
  .code yn_R_check bc_R_check 1 (some .int),
  .laysFinal Rn_S "SharedTrees" "blocks" "LSharedTrees$Blocks;",
  .laysFinal Rn_S "SharedTrees" "trees" "LSharedTrees$Trees;",
  .laysFinal Rn_S "SharedTrees" "inspection" "LSharedTrees$Inspection;",
  .laysFinal Rn_S "SharedTrees" "now" "LSharedTrees$Maps;",
  .laysFinal Rn_S "SharedTrees" "kept" "LSharedTrees$Maps;",
  .laysFinal Rn_B "SharedTrees$Blocks" "width" "I",
  .laysFinal Rn_B "SharedTrees$Blocks" "ways" "[I",
  .laysFinal Rn_B "SharedTrees$Blocks" "levels" "[I",
  .laysFinal Rn_B "SharedTrees$Blocks" "sizes" "[I",
  .laysFinal Rn_B "SharedTrees$Blocks" "entryKeys" "[I",
  .laysFinal Rn_B "SharedTrees$Blocks" "entryGoals" "[I",
  .laysFinal Rn_B "SharedTrees$Blocks" "free" "[I",
  .lays Rn_B "SharedTrees$Blocks" "freeCount" "I",
  .laysFinal Rn_T "SharedTrees$Trees" "blocks" "LSharedTrees$Blocks;",
  .laysFinal Rn_T "SharedTrees$Trees" "most" "I",
  .laysFinal Rn_T "SharedTrees$Trees" "least" "I",
  .laysFinal Rn_I "SharedTrees$Inspection" "blocks" "LSharedTrees$Blocks;",
  .laysFinal Rn_I "SharedTrees$Inspection" "most" "I",
  .laysFinal Rn_I "SharedTrees$Inspection" "least" "I",
  .laysFinal Rn_I "SharedTrees$Inspection" "found" "[I",
  .laysFinal Rn_I "SharedTrees$Inspection" "keysBelow" "[I",
  .laysFinal Rn_I "SharedTrees$Inspection" "lastKeys" "[I",
  .laysFinal Rn_I "SharedTrees$Inspection" "listed" "[Z",
  .laysFinal Rn_P "SharedTrees$Maps" "roots" "[I",
  .laysFinal Rn_P "SharedTrees$Maps" "counts" "[I",
  .lays Rn_P "SharedTrees$Maps" "total" "I",
  .laysFinal Rn_R "SharedTreesModel" "stamps" "[I",
  .laysFinal Rn_R "SharedTreesModel" "kept" "[I",
  .laysFinal Rn_R "SharedTreesModel" "counts" "[I",
  .laysFinal Rn_R "SharedTreesModel" "keptCounts" "[I"]
theorem wk_g : Wk_.all (fun w => w.onTables && w.keeps) = true := by decide +kernel
theorem wk_good : ∀ w ∈ Wk_, (w.onTables && w.keeps) = true ∨ ∃ ty, w = .arrayClass ty := fun w hw => Or.inl (List.all_eq_true.mp wk_g w hw)
theorem mw_0 : (Cond.code yn_S_isMap bc_S_isMap 1 (some .boolean) : Cond) ∈ Wk_ := List.mem_of_getElem? (i := 0) rfl
theorem mw_1 : (Cond.methodLink Rn_S 53 yn_S_isMap : Cond) ∈ Wk_ := List.mem_of_getElem? (i := 1) rfl
theorem mw_2 : (Cond.static yn_S_isMap : Cond) ∈ Wk_ := List.mem_of_getElem? (i := 2) rfl
theorem mw_3 : (Cond.initialized Rn_S : Cond) ∈ Wk_ := List.mem_of_getElem? (i := 3) rfl
theorem mw_4 : (Cond.code yn_S_isKey bc_S_isKey 1 (some .boolean) : Cond) ∈ Wk_ := List.mem_of_getElem? (i := 4) rfl
theorem mw_5 : (Cond.methodLink Rn_S 57 yn_S_isKey : Cond) ∈ Wk_ := List.mem_of_getElem? (i := 5) rfl
theorem mw_6 : (Cond.static yn_S_isKey : Cond) ∈ Wk_ := List.mem_of_getElem? (i := 6) rfl
theorem mw_7 : (Cond.constant Rn_S 106 1000000000 : Cond) ∈ Wk_ := List.mem_of_getElem? (i := 7) rfl
theorem mw_8 : (Cond.code yn_S_isStamp bc_S_isStamp 1 (some .boolean) : Cond) ∈ Wk_ := List.mem_of_getElem? (i := 8) rfl
theorem mw_9 : (Cond.methodLink Rn_S 60 yn_S_isStamp : Cond) ∈ Wk_ := List.mem_of_getElem? (i := 9) rfl
theorem mw_10 : (Cond.static yn_S_isStamp : Cond) ∈ Wk_ := List.mem_of_getElem? (i := 10) rfl
theorem mw_11 : (Cond.fieldLink Rn_S 32 "SharedTrees" "trees" "LSharedTrees$Trees;" : Cond) ∈ Wk_ := List.mem_of_getElem? (i := 11) rfl
theorem mw_12 : (Cond.fieldLink Rn_S 46 "SharedTrees" "now" "LSharedTrees$Maps;" : Cond) ∈ Wk_ := List.mem_of_getElem? (i := 12) rfl
theorem mw_13 : (Cond.fieldLink Rn_T 9 "SharedTrees$Trees" "blocks" "LSharedTrees$Blocks;" : Cond) ∈ Wk_ := List.mem_of_getElem? (i := 13) rfl
theorem mw_14 : (Cond.code yn_B_isBlock bc_B_isBlock 2 (some .boolean) : Cond) ∈ Wk_ := List.mem_of_getElem? (i := 14) rfl
theorem mw_15 : (Cond.methodLink Rn_B 37 yn_B_isBlock : Cond) ∈ Wk_ := List.mem_of_getElem? (i := 15) rfl
theorem mw_16 : (Cond.instanceMethod yn_B_isBlock : Cond) ∈ Wk_ := List.mem_of_getElem? (i := 16) rfl
theorem mw_17 : (Cond.selects Rn_B yn_B_isBlock yn_B_isBlock : Cond) ∈ Wk_ := List.mem_of_getElem? (i := 17) rfl
theorem mw_18 : (Cond.initialized Rn_B : Cond) ∈ Wk_ := List.mem_of_getElem? (i := 18) rfl
theorem mw_19 : (Cond.fieldLink Rn_B 15 "SharedTrees$Blocks" "levels" "[I" : Cond) ∈ Wk_ := List.mem_of_getElem? (i := 19) rfl
theorem mw_20 : (Cond.code yn_B_level bc_B_level 2 (some .int) : Cond) ∈ Wk_ := List.mem_of_getElem? (i := 20) rfl
theorem mw_21 : (Cond.methodLink Rn_T 26 yn_B_level : Cond) ∈ Wk_ := List.mem_of_getElem? (i := 21) rfl
theorem mw_22 : (Cond.instanceMethod yn_B_level : Cond) ∈ Wk_ := List.mem_of_getElem? (i := 22) rfl
theorem mw_23 : (Cond.selects Rn_B yn_B_level yn_B_level : Cond) ∈ Wk_ := List.mem_of_getElem? (i := 23) rfl
theorem mw_24 : (Cond.fieldLink Rn_B 28 "SharedTrees$Blocks" "width" "I" : Cond) ∈ Wk_ := List.mem_of_getElem? (i := 24) rfl
theorem mw_25 : (Cond.fieldLink Rn_B 18 "SharedTrees$Blocks" "sizes" "[I" : Cond) ∈ Wk_ := List.mem_of_getElem? (i := 25) rfl
theorem mw_26 : (Cond.code yn_B_size bc_B_size 2 (some .int) : Cond) ∈ Wk_ := List.mem_of_getElem? (i := 26) rfl
theorem mw_27 : (Cond.methodLink Rn_B 45 yn_B_size : Cond) ∈ Wk_ := List.mem_of_getElem? (i := 27) rfl
theorem mw_28 : (Cond.instanceMethod yn_B_size : Cond) ∈ Wk_ := List.mem_of_getElem? (i := 28) rfl
theorem mw_29 : (Cond.selects Rn_B yn_B_size yn_B_size : Cond) ∈ Wk_ := List.mem_of_getElem? (i := 29) rfl
theorem mw_30 : (Cond.methodLink Rn_B 49 Lib.Math.min.name : Cond) ∈ Wk_ := List.mem_of_getElem? (i := 30) rfl
theorem mw_31 : (Cond.static Lib.Math.min.name : Cond) ∈ Wk_ := List.mem_of_getElem? (i := 31) rfl
theorem mw_32 : (Cond.initialized "java/lang/Math" : Cond) ∈ Wk_ := List.mem_of_getElem? (i := 32) rfl
theorem mw_33 : (Cond.code Lib.Math.min.name Lib.Math.min.code 2 (some .int) : Cond) ∈ Wk_ := List.mem_of_getElem? (i := 33) rfl
theorem mw_34 : (Cond.fieldLink Rn_B 31 "SharedTrees$Blocks" "entryKeys" "[I" : Cond) ∈ Wk_ := List.mem_of_getElem? (i := 34) rfl
theorem mw_35 : (Cond.code yn_B_slotOf bc_B_slotOf 6 (some .int) : Cond) ∈ Wk_ := List.mem_of_getElem? (i := 35) rfl
theorem mw_36 : (Cond.methodLink Rn_T 38 yn_B_slotOf : Cond) ∈ Wk_ := List.mem_of_getElem? (i := 36) rfl
theorem mw_37 : (Cond.instanceMethod yn_B_slotOf : Cond) ∈ Wk_ := List.mem_of_getElem? (i := 37) rfl
theorem mw_38 : (Cond.selects Rn_B yn_B_slotOf yn_B_slotOf : Cond) ∈ Wk_ := List.mem_of_getElem? (i := 38) rfl
theorem mw_39 : (Cond.code yn_B_isEntry bc_B_isEntry 3 (some .boolean) : Cond) ∈ Wk_ := List.mem_of_getElem? (i := 39) rfl
theorem mw_40 : (Cond.methodLink Rn_B 41 yn_B_isEntry : Cond) ∈ Wk_ := List.mem_of_getElem? (i := 40) rfl
theorem mw_41 : (Cond.instanceMethod yn_B_isEntry : Cond) ∈ Wk_ := List.mem_of_getElem? (i := 41) rfl
theorem mw_42 : (Cond.selects Rn_B yn_B_isEntry yn_B_isEntry : Cond) ∈ Wk_ := List.mem_of_getElem? (i := 42) rfl
theorem mw_43 : (Cond.code yn_B_key bc_B_key 3 (some .int) : Cond) ∈ Wk_ := List.mem_of_getElem? (i := 43) rfl
theorem mw_44 : (Cond.methodLink Rn_T 41 yn_B_key : Cond) ∈ Wk_ := List.mem_of_getElem? (i := 44) rfl
theorem mw_45 : (Cond.instanceMethod yn_B_key : Cond) ∈ Wk_ := List.mem_of_getElem? (i := 45) rfl
theorem mw_46 : (Cond.selects Rn_B yn_B_key yn_B_key : Cond) ∈ Wk_ := List.mem_of_getElem? (i := 46) rfl
theorem mw_47 : (Cond.fieldLink Rn_B 34 "SharedTrees$Blocks" "entryGoals" "[I" : Cond) ∈ Wk_ := List.mem_of_getElem? (i := 47) rfl
theorem mw_48 : (Cond.code yn_B_goal bc_B_goal 3 (some .int) : Cond) ∈ Wk_ := List.mem_of_getElem? (i := 48) rfl
theorem mw_49 : (Cond.methodLink Rn_T 35 yn_B_goal : Cond) ∈ Wk_ := List.mem_of_getElem? (i := 49) rfl
theorem mw_50 : (Cond.instanceMethod yn_B_goal : Cond) ∈ Wk_ := List.mem_of_getElem? (i := 50) rfl
theorem mw_51 : (Cond.selects Rn_B yn_B_goal yn_B_goal : Cond) ∈ Wk_ := List.mem_of_getElem? (i := 51) rfl
theorem mw_52 : (Cond.methodLink Rn_T 51 Lib.Math.max.name : Cond) ∈ Wk_ := List.mem_of_getElem? (i := 52) rfl
theorem mw_53 : (Cond.static Lib.Math.max.name : Cond) ∈ Wk_ := List.mem_of_getElem? (i := 53) rfl
theorem mw_54 : (Cond.code Lib.Math.max.name Lib.Math.max.code 2 (some .int) : Cond) ∈ Wk_ := List.mem_of_getElem? (i := 54) rfl
theorem mw_55 : (Cond.code yn_T_slotToward bc_T_slotToward 3 (some .int) : Cond) ∈ Wk_ := List.mem_of_getElem? (i := 55) rfl
theorem mw_56 : (Cond.methodLink Rn_T 31 yn_T_slotToward : Cond) ∈ Wk_ := List.mem_of_getElem? (i := 56) rfl
theorem mw_57 : (Cond.instanceMethod yn_T_slotToward : Cond) ∈ Wk_ := List.mem_of_getElem? (i := 57) rfl
theorem mw_58 : (Cond.selects Rn_T yn_T_slotToward yn_T_slotToward : Cond) ∈ Wk_ := List.mem_of_getElem? (i := 58) rfl
theorem mw_59 : (Cond.initialized Rn_T : Cond) ∈ Wk_ := List.mem_of_getElem? (i := 59) rfl
theorem mw_60 : (Cond.code yn_T_stampOf bc_T_stampOf 5 (some .int) : Cond) ∈ Wk_ := List.mem_of_getElem? (i := 60) rfl
theorem mw_61 : (Cond.methodLink Rn_S 67 yn_T_stampOf : Cond) ∈ Wk_ := List.mem_of_getElem? (i := 61) rfl
theorem mw_62 : (Cond.instanceMethod yn_T_stampOf : Cond) ∈ Wk_ := List.mem_of_getElem? (i := 62) rfl
theorem mw_63 : (Cond.selects Rn_T yn_T_stampOf yn_T_stampOf : Cond) ∈ Wk_ := List.mem_of_getElem? (i := 63) rfl
theorem mw_64 : (Cond.fieldLink Rn_B 9 "SharedTrees$Blocks" "ways" "[I" : Cond) ∈ Wk_ := List.mem_of_getElem? (i := 64) rfl
theorem mw_65 : (Cond.code yn_B_ways bc_B_ways 2 (some .int) : Cond) ∈ Wk_ := List.mem_of_getElem? (i := 65) rfl
theorem mw_66 : (Cond.methodLink Rn_B 55 yn_B_ways : Cond) ∈ Wk_ := List.mem_of_getElem? (i := 66) rfl
theorem mw_67 : (Cond.instanceMethod yn_B_ways : Cond) ∈ Wk_ := List.mem_of_getElem? (i := 67) rfl
theorem mw_68 : (Cond.selects Rn_B yn_B_ways yn_B_ways : Cond) ∈ Wk_ := List.mem_of_getElem? (i := 68) rfl
theorem mw_69 : (Cond.methodLink Rn_B 57 yn_B_level : Cond) ∈ Wk_ := List.mem_of_getElem? (i := 69) rfl
theorem mw_70 : (Cond.fieldLink Rn_B 24 "SharedTrees$Blocks" "freeCount" "I" : Cond) ∈ Wk_ := List.mem_of_getElem? (i := 70) rfl
theorem mw_71 : (Cond.fieldLink Rn_B 21 "SharedTrees$Blocks" "free" "[I" : Cond) ∈ Wk_ := List.mem_of_getElem? (i := 71) rfl
theorem mw_72 : (Cond.code yn_B_take bc_B_take 3 (some .int) : Cond) ∈ Wk_ := List.mem_of_getElem? (i := 72) rfl
theorem mw_73 : (Cond.methodLink Rn_B 60 yn_B_take : Cond) ∈ Wk_ := List.mem_of_getElem? (i := 73) rfl
theorem mw_74 : (Cond.instanceMethod yn_B_take : Cond) ∈ Wk_ := List.mem_of_getElem? (i := 74) rfl
theorem mw_75 : (Cond.selects Rn_B yn_B_take yn_B_take : Cond) ∈ Wk_ := List.mem_of_getElem? (i := 75) rfl
theorem mw_76 : (Cond.methodLink Rn_B 77 arraycopyName : Cond) ∈ Wk_ := List.mem_of_getElem? (i := 76) rfl
theorem mw_77 : (Cond.native arraycopyName : Cond) ∈ Wk_ := List.mem_of_getElem? (i := 77) rfl
theorem mw_78 : (Cond.static arraycopyName : Cond) ∈ Wk_ := List.mem_of_getElem? (i := 78) rfl
theorem mw_79 : (Cond.initialized "java/lang/System" : Cond) ∈ Wk_ := List.mem_of_getElem? (i := 79) rfl
theorem mw_80 : (Cond.code yn_B_copyEntries bc_B_copyEntries 3 none : Cond) ∈ Wk_ := List.mem_of_getElem? (i := 80) rfl
theorem mw_81 : (Cond.methodLink Rn_B 63 yn_B_copyEntries : Cond) ∈ Wk_ := List.mem_of_getElem? (i := 81) rfl
theorem mw_82 : (Cond.instanceMethod yn_B_copyEntries : Cond) ∈ Wk_ := List.mem_of_getElem? (i := 82) rfl
theorem mw_83 : (Cond.selects Rn_B yn_B_copyEntries yn_B_copyEntries : Cond) ∈ Wk_ := List.mem_of_getElem? (i := 83) rfl
theorem mw_84 : (Cond.code yn_B_lose bc_B_lose 2 (some .boolean) : Cond) ∈ Wk_ := List.mem_of_getElem? (i := 84) rfl
theorem mw_85 : (Cond.methodLink Rn_B 74 yn_B_lose : Cond) ∈ Wk_ := List.mem_of_getElem? (i := 85) rfl
theorem mw_86 : (Cond.instanceMethod yn_B_lose : Cond) ∈ Wk_ := List.mem_of_getElem? (i := 86) rfl
theorem mw_87 : (Cond.selects Rn_B yn_B_lose yn_B_lose : Cond) ∈ Wk_ := List.mem_of_getElem? (i := 87) rfl
theorem mw_88 : (Cond.methodLink Rn_B 67 yn_B_goal : Cond) ∈ Wk_ := List.mem_of_getElem? (i := 88) rfl
theorem mw_89 : (Cond.code yn_B_share bc_B_share 2 none : Cond) ∈ Wk_ := List.mem_of_getElem? (i := 89) rfl
theorem mw_90 : (Cond.methodLink Rn_B 70 yn_B_share : Cond) ∈ Wk_ := List.mem_of_getElem? (i := 90) rfl
theorem mw_91 : (Cond.instanceMethod yn_B_share : Cond) ∈ Wk_ := List.mem_of_getElem? (i := 91) rfl
theorem mw_92 : (Cond.selects Rn_B yn_B_share yn_B_share : Cond) ∈ Wk_ := List.mem_of_getElem? (i := 92) rfl
theorem mw_93 : (Cond.code yn_B_owned bc_B_owned 4 (some .int) : Cond) ∈ Wk_ := List.mem_of_getElem? (i := 93) rfl
theorem mw_94 : (Cond.methodLink Rn_T 59 yn_B_owned : Cond) ∈ Wk_ := List.mem_of_getElem? (i := 94) rfl
theorem mw_95 : (Cond.instanceMethod yn_B_owned : Cond) ∈ Wk_ := List.mem_of_getElem? (i := 95) rfl
theorem mw_96 : (Cond.selects Rn_B yn_B_owned yn_B_owned : Cond) ∈ Wk_ := List.mem_of_getElem? (i := 96) rfl
theorem mw_97 : (Cond.code yn_B_setGoal bc_B_setGoal 4 none : Cond) ∈ Wk_ := List.mem_of_getElem? (i := 97) rfl
theorem mw_98 : (Cond.methodLink Rn_T 83 yn_B_setGoal : Cond) ∈ Wk_ := List.mem_of_getElem? (i := 98) rfl
theorem mw_99 : (Cond.instanceMethod yn_B_setGoal : Cond) ∈ Wk_ := List.mem_of_getElem? (i := 99) rfl
theorem mw_100 : (Cond.selects Rn_B yn_B_setGoal yn_B_setGoal : Cond) ∈ Wk_ := List.mem_of_getElem? (i := 100) rfl
theorem mw_101 : (Cond.code yn_T_ownedChild bc_T_ownedChild 4 (some .int) : Cond) ∈ Wk_ := List.mem_of_getElem? (i := 101) rfl
theorem mw_102 : (Cond.methodLink Rn_T 73 yn_T_ownedChild : Cond) ∈ Wk_ := List.mem_of_getElem? (i := 102) rfl
theorem mw_103 : (Cond.instanceMethod yn_T_ownedChild : Cond) ∈ Wk_ := List.mem_of_getElem? (i := 103) rfl
theorem mw_104 : (Cond.selects Rn_T yn_T_ownedChild yn_T_ownedChild : Cond) ∈ Wk_ := List.mem_of_getElem? (i := 104) rfl
theorem mw_105 : (Cond.code yn_T_putBelow bc_T_putBelow 7 none : Cond) ∈ Wk_ := List.mem_of_getElem? (i := 105) rfl
theorem mw_106 : (Cond.methodLink Rn_T 62 yn_T_putBelow : Cond) ∈ Wk_ := List.mem_of_getElem? (i := 106) rfl
theorem mw_107 : (Cond.instanceMethod yn_T_putBelow : Cond) ∈ Wk_ := List.mem_of_getElem? (i := 107) rfl
theorem mw_108 : (Cond.selects Rn_T yn_T_putBelow yn_T_putBelow : Cond) ∈ Wk_ := List.mem_of_getElem? (i := 108) rfl
theorem mw_109 : (Cond.code yn_B_setKey bc_B_setKey 4 none : Cond) ∈ Wk_ := List.mem_of_getElem? (i := 109) rfl
theorem mw_110 : (Cond.methodLink Rn_T 76 yn_B_setKey : Cond) ∈ Wk_ := List.mem_of_getElem? (i := 110) rfl
theorem mw_111 : (Cond.instanceMethod yn_B_setKey : Cond) ∈ Wk_ := List.mem_of_getElem? (i := 111) rfl
theorem mw_112 : (Cond.selects Rn_B yn_B_setKey yn_B_setKey : Cond) ∈ Wk_ := List.mem_of_getElem? (i := 112) rfl
theorem mw_113 : (Cond.methodLink Rn_T 48 yn_B_size : Cond) ∈ Wk_ := List.mem_of_getElem? (i := 113) rfl
theorem mw_114 : (Cond.fieldLink Rn_T 15 "SharedTrees$Trees" "most" "I" : Cond) ∈ Wk_ := List.mem_of_getElem? (i := 114) rfl
theorem mw_115 : (Cond.methodLink Rn_T 56 yn_B_take : Cond) ∈ Wk_ := List.mem_of_getElem? (i := 115) rfl
theorem mw_116 : (Cond.fieldLink Rn_T 23 "SharedTrees$Trees" "least" "I" : Cond) ∈ Wk_ := List.mem_of_getElem? (i := 116) rfl
theorem mw_117 : (Cond.methodLink Rn_B 83 yn_B_key : Cond) ∈ Wk_ := List.mem_of_getElem? (i := 117) rfl
theorem mw_118 : (Cond.code yn_B_insert bc_B_insert 7 none : Cond) ∈ Wk_ := List.mem_of_getElem? (i := 118) rfl
theorem mw_119 : (Cond.methodLink Rn_B 86 yn_B_insert : Cond) ∈ Wk_ := List.mem_of_getElem? (i := 119) rfl
theorem mw_120 : (Cond.instanceMethod yn_B_insert : Cond) ∈ Wk_ := List.mem_of_getElem? (i := 120) rfl
theorem mw_121 : (Cond.selects Rn_B yn_B_insert yn_B_insert : Cond) ∈ Wk_ := List.mem_of_getElem? (i := 121) rfl
theorem mw_122 : (Cond.code yn_B_moveTail bc_B_moveTail 5 none : Cond) ∈ Wk_ := List.mem_of_getElem? (i := 122) rfl
theorem mw_123 : (Cond.methodLink Rn_T 89 yn_B_moveTail : Cond) ∈ Wk_ := List.mem_of_getElem? (i := 123) rfl
theorem mw_124 : (Cond.instanceMethod yn_B_moveTail : Cond) ∈ Wk_ := List.mem_of_getElem? (i := 124) rfl
theorem mw_125 : (Cond.selects Rn_B yn_B_moveTail yn_B_moveTail : Cond) ∈ Wk_ := List.mem_of_getElem? (i := 125) rfl
theorem mw_126 : (Cond.methodLink Rn_T 86 yn_B_insert : Cond) ∈ Wk_ := List.mem_of_getElem? (i := 126) rfl
theorem mw_127 : (Cond.code yn_T_split bc_T_split 5 none : Cond) ∈ Wk_ := List.mem_of_getElem? (i := 127) rfl
theorem mw_128 : (Cond.methodLink Rn_T 79 yn_T_split : Cond) ∈ Wk_ := List.mem_of_getElem? (i := 128) rfl
theorem mw_129 : (Cond.instanceMethod yn_T_split : Cond) ∈ Wk_ := List.mem_of_getElem? (i := 129) rfl
theorem mw_130 : (Cond.selects Rn_T yn_T_split yn_T_split : Cond) ∈ Wk_ := List.mem_of_getElem? (i := 130) rfl
theorem mw_131 : (Cond.code yn_T_putInLeaf bc_T_putInLeaf 5 none : Cond) ∈ Wk_ := List.mem_of_getElem? (i := 131) rfl
theorem mw_132 : (Cond.methodLink Rn_T 69 yn_T_putInLeaf : Cond) ∈ Wk_ := List.mem_of_getElem? (i := 132) rfl
theorem mw_133 : (Cond.instanceMethod yn_T_putInLeaf : Cond) ∈ Wk_ := List.mem_of_getElem? (i := 133) rfl
theorem mw_134 : (Cond.selects Rn_T yn_T_putInLeaf yn_T_putInLeaf : Cond) ∈ Wk_ := List.mem_of_getElem? (i := 134) rfl
theorem mw_135 : (Cond.code yn_T_grown bc_T_grown 3 (some .int) : Cond) ∈ Wk_ := List.mem_of_getElem? (i := 135) rfl
theorem mw_136 : (Cond.methodLink Rn_T 66 yn_T_grown : Cond) ∈ Wk_ := List.mem_of_getElem? (i := 136) rfl
theorem mw_137 : (Cond.instanceMethod yn_T_grown : Cond) ∈ Wk_ := List.mem_of_getElem? (i := 137) rfl
theorem mw_138 : (Cond.selects Rn_T yn_T_grown yn_T_grown : Cond) ∈ Wk_ := List.mem_of_getElem? (i := 138) rfl
theorem mw_139 : (Cond.code yn_T_with bc_T_with 5 (some .int) : Cond) ∈ Wk_ := List.mem_of_getElem? (i := 139) rfl
theorem mw_140 : (Cond.methodLink Rn_S 74 yn_T_with : Cond) ∈ Wk_ := List.mem_of_getElem? (i := 140) rfl
theorem mw_141 : (Cond.instanceMethod yn_T_with : Cond) ∈ Wk_ := List.mem_of_getElem? (i := 141) rfl
theorem mw_142 : (Cond.selects Rn_T yn_T_with yn_T_with : Cond) ∈ Wk_ := List.mem_of_getElem? (i := 142) rfl
theorem mw_143 : (Cond.code yn_S_changeCount bc_S_changeCount 3 none : Cond) ∈ Wk_ := List.mem_of_getElem? (i := 143) rfl
theorem mw_144 : (Cond.methodLink Rn_S 78 yn_S_changeCount : Cond) ∈ Wk_ := List.mem_of_getElem? (i := 144) rfl
theorem mw_145 : (Cond.static yn_S_changeCount : Cond) ∈ Wk_ := List.mem_of_getElem? (i := 145) rfl
theorem mw_146 : (Cond.code yn_S_write bc_S_write 5 (some .int) : Cond) ∈ Wk_ := List.mem_of_getElem? (i := 146) rfl
theorem mw_147 : (Cond.code yn_R_isMap bc_R_isMap 1 (some .boolean) : Cond) ∈ Wk_ := List.mem_of_getElem? (i := 147) rfl
theorem mw_148 : (Cond.methodLink Rn_R 24 yn_R_isMap : Cond) ∈ Wk_ := List.mem_of_getElem? (i := 148) rfl
theorem mw_149 : (Cond.static yn_R_isMap : Cond) ∈ Wk_ := List.mem_of_getElem? (i := 149) rfl
theorem mw_150 : (Cond.initialized Rn_R : Cond) ∈ Wk_ := List.mem_of_getElem? (i := 150) rfl
theorem mw_151 : (Cond.code yn_R_isKey bc_R_isKey 1 (some .boolean) : Cond) ∈ Wk_ := List.mem_of_getElem? (i := 151) rfl
theorem mw_152 : (Cond.methodLink Rn_R 28 yn_R_isKey : Cond) ∈ Wk_ := List.mem_of_getElem? (i := 152) rfl
theorem mw_153 : (Cond.static yn_R_isKey : Cond) ∈ Wk_ := List.mem_of_getElem? (i := 153) rfl
theorem mw_154 : (Cond.constant Rn_R 23 1000000000 : Cond) ∈ Wk_ := List.mem_of_getElem? (i := 154) rfl
theorem mw_155 : (Cond.code yn_R_isStamp bc_R_isStamp 1 (some .boolean) : Cond) ∈ Wk_ := List.mem_of_getElem? (i := 155) rfl
theorem mw_156 : (Cond.methodLink Rn_R 31 yn_R_isStamp : Cond) ∈ Wk_ := List.mem_of_getElem? (i := 156) rfl
theorem mw_157 : (Cond.static yn_R_isStamp : Cond) ∈ Wk_ := List.mem_of_getElem? (i := 157) rfl
theorem mw_158 : (Cond.fieldLink Rn_R 8 "SharedTreesModel" "stamps" "[I" : Cond) ∈ Wk_ := List.mem_of_getElem? (i := 158) rfl
theorem mw_159 : (Cond.fieldLink Rn_R 17 "SharedTreesModel" "counts" "[I" : Cond) ∈ Wk_ := List.mem_of_getElem? (i := 159) rfl
theorem mw_160 : (Cond.code yn_R_all bc_R_all 3 (some .int) : Cond) ∈ Wk_ := List.mem_of_getElem? (i := 160) rfl
theorem mw_161 : (Cond.methodLink Rn_R 34 yn_R_all : Cond) ∈ Wk_ := List.mem_of_getElem? (i := 161) rfl
theorem mw_162 : (Cond.instanceMethod yn_R_all : Cond) ∈ Wk_ := List.mem_of_getElem? (i := 162) rfl
theorem mw_163 : (Cond.selects Rn_R yn_R_all yn_R_all : Cond) ∈ Wk_ := List.mem_of_getElem? (i := 163) rfl
theorem mw_164 : (Cond.code yn_R_write bc_R_write 5 (some .int) : Cond) ∈ Wk_ := List.mem_of_getElem? (i := 164) rfl
theorem mw_165 : (Cond.methodLink Rn_S 85 yn_S_write : Cond) ∈ Wk_ := List.mem_of_getElem? (i := 165) rfl
theorem mw_166 : (Cond.instanceMethod yn_S_write : Cond) ∈ Wk_ := List.mem_of_getElem? (i := 166) rfl
theorem mw_167 : (Cond.selects Rn_S yn_S_write yn_S_write : Cond) ∈ Wk_ := List.mem_of_getElem? (i := 167) rfl
theorem mw_168 : (Cond.code yn_S_spread bc_S_spread 7 (some .int) : Cond) ∈ Wk_ := List.mem_of_getElem? (i := 168) rfl
theorem mw_169 : (Cond.methodLink Rn_R 38 yn_R_write : Cond) ∈ Wk_ := List.mem_of_getElem? (i := 169) rfl
theorem mw_170 : (Cond.instanceMethod yn_R_write : Cond) ∈ Wk_ := List.mem_of_getElem? (i := 170) rfl
theorem mw_171 : (Cond.selects Rn_R yn_R_write yn_R_write : Cond) ∈ Wk_ := List.mem_of_getElem? (i := 171) rfl
theorem mw_172 : (Cond.code yn_R_spread bc_R_spread 7 (some .int) : Cond) ∈ Wk_ := List.mem_of_getElem? (i := 172) rfl
theorem mw_173 : (Cond.code yn_S_read bc_S_read 3 (some .int) : Cond) ∈ Wk_ := List.mem_of_getElem? (i := 173) rfl
theorem mw_174 : (Cond.code yn_R_read bc_R_read 4 (some .int) : Cond) ∈ Wk_ := List.mem_of_getElem? (i := 174) rfl
theorem mw_175 : (Cond.code yn_T_removeBelow bc_T_removeBelow 6 none : Cond) ∈ Wk_ := List.mem_of_getElem? (i := 175) rfl
theorem mw_176 : (Cond.methodLink Rn_T 92 yn_T_removeBelow : Cond) ∈ Wk_ := List.mem_of_getElem? (i := 176) rfl
theorem mw_177 : (Cond.instanceMethod yn_T_removeBelow : Cond) ∈ Wk_ := List.mem_of_getElem? (i := 177) rfl
theorem mw_178 : (Cond.selects Rn_T yn_T_removeBelow yn_T_removeBelow : Cond) ∈ Wk_ := List.mem_of_getElem? (i := 178) rfl
theorem mw_179 : (Cond.code yn_B_remove bc_B_remove 5 none : Cond) ∈ Wk_ := List.mem_of_getElem? (i := 179) rfl
theorem mw_180 : (Cond.methodLink Rn_T 98 yn_B_remove : Cond) ∈ Wk_ := List.mem_of_getElem? (i := 180) rfl
theorem mw_181 : (Cond.instanceMethod yn_B_remove : Cond) ∈ Wk_ := List.mem_of_getElem? (i := 181) rfl
theorem mw_182 : (Cond.selects Rn_B yn_B_remove yn_B_remove : Cond) ∈ Wk_ := List.mem_of_getElem? (i := 182) rfl
theorem mw_183 : (Cond.code yn_T_moveEntry bc_T_moveEntry 5 none : Cond) ∈ Wk_ := List.mem_of_getElem? (i := 183) rfl
theorem mw_184 : (Cond.methodLink Rn_T 108 yn_T_moveEntry : Cond) ∈ Wk_ := List.mem_of_getElem? (i := 184) rfl
theorem mw_185 : (Cond.instanceMethod yn_T_moveEntry : Cond) ∈ Wk_ := List.mem_of_getElem? (i := 185) rfl
theorem mw_186 : (Cond.selects Rn_T yn_T_moveEntry yn_T_moveEntry : Cond) ∈ Wk_ := List.mem_of_getElem? (i := 186) rfl
theorem mw_187 : (Cond.code yn_B_give bc_B_give 2 none : Cond) ∈ Wk_ := List.mem_of_getElem? (i := 187) rfl
theorem mw_188 : (Cond.methodLink Rn_T 104 yn_B_give : Cond) ∈ Wk_ := List.mem_of_getElem? (i := 188) rfl
theorem mw_189 : (Cond.instanceMethod yn_B_give : Cond) ∈ Wk_ := List.mem_of_getElem? (i := 189) rfl
theorem mw_190 : (Cond.selects Rn_B yn_B_give yn_B_give : Cond) ∈ Wk_ := List.mem_of_getElem? (i := 190) rfl
theorem mw_191 : (Cond.code yn_T_fill bc_T_fill 5 none : Cond) ∈ Wk_ := List.mem_of_getElem? (i := 191) rfl
theorem mw_192 : (Cond.methodLink Rn_T 101 yn_T_fill : Cond) ∈ Wk_ := List.mem_of_getElem? (i := 192) rfl
theorem mw_193 : (Cond.instanceMethod yn_T_fill : Cond) ∈ Wk_ := List.mem_of_getElem? (i := 193) rfl
theorem mw_194 : (Cond.selects Rn_T yn_T_fill yn_T_fill : Cond) ∈ Wk_ := List.mem_of_getElem? (i := 194) rfl
theorem mw_195 : (Cond.code yn_T_shrunk bc_T_shrunk 3 (some .int) : Cond) ∈ Wk_ := List.mem_of_getElem? (i := 195) rfl
theorem mw_196 : (Cond.methodLink Rn_T 95 yn_T_shrunk : Cond) ∈ Wk_ := List.mem_of_getElem? (i := 196) rfl
theorem mw_197 : (Cond.instanceMethod yn_T_shrunk : Cond) ∈ Wk_ := List.mem_of_getElem? (i := 197) rfl
theorem mw_198 : (Cond.selects Rn_T yn_T_shrunk yn_T_shrunk : Cond) ∈ Wk_ := List.mem_of_getElem? (i := 198) rfl
theorem mw_199 : (Cond.code yn_T_without bc_T_without 4 (some .int) : Cond) ∈ Wk_ := List.mem_of_getElem? (i := 199) rfl
theorem mw_200 : (Cond.methodLink Rn_S 88 yn_T_without : Cond) ∈ Wk_ := List.mem_of_getElem? (i := 200) rfl
theorem mw_201 : (Cond.instanceMethod yn_T_without : Cond) ∈ Wk_ := List.mem_of_getElem? (i := 201) rfl
theorem mw_202 : (Cond.selects Rn_T yn_T_without yn_T_without : Cond) ∈ Wk_ := List.mem_of_getElem? (i := 202) rfl
theorem mw_203 : (Cond.code yn_S_erase bc_S_erase 4 (some .int) : Cond) ∈ Wk_ := List.mem_of_getElem? (i := 203) rfl
theorem mw_204 : (Cond.methodLink Rn_R 42 yn_R_read : Cond) ∈ Wk_ := List.mem_of_getElem? (i := 204) rfl
theorem mw_205 : (Cond.instanceMethod yn_R_read : Cond) ∈ Wk_ := List.mem_of_getElem? (i := 205) rfl
theorem mw_206 : (Cond.selects Rn_R yn_R_read yn_R_read : Cond) ∈ Wk_ := List.mem_of_getElem? (i := 206) rfl
theorem mw_207 : (Cond.code yn_R_erase bc_R_erase 4 (some .int) : Cond) ∈ Wk_ := List.mem_of_getElem? (i := 207) rfl
theorem mw_208 : (Cond.code yn_T_keyOr bc_T_keyOr 4 (some .int) : Cond) ∈ Wk_ := List.mem_of_getElem? (i := 208) rfl
theorem mw_209 : (Cond.methodLink Rn_T 44 yn_T_keyOr : Cond) ∈ Wk_ := List.mem_of_getElem? (i := 209) rfl
theorem mw_210 : (Cond.instanceMethod yn_T_keyOr : Cond) ∈ Wk_ := List.mem_of_getElem? (i := 210) rfl
theorem mw_211 : (Cond.selects Rn_T yn_T_keyOr yn_T_keyOr : Cond) ∈ Wk_ := List.mem_of_getElem? (i := 211) rfl
theorem mw_212 : (Cond.code yn_T_keyFrom bc_T_keyFrom 7 (some .int) : Cond) ∈ Wk_ := List.mem_of_getElem? (i := 212) rfl
theorem mw_213 : (Cond.methodLink Rn_S 91 yn_T_keyFrom : Cond) ∈ Wk_ := List.mem_of_getElem? (i := 213) rfl
theorem mw_214 : (Cond.instanceMethod yn_T_keyFrom : Cond) ∈ Wk_ := List.mem_of_getElem? (i := 214) rfl
theorem mw_215 : (Cond.selects Rn_T yn_T_keyFrom yn_T_keyFrom : Cond) ∈ Wk_ := List.mem_of_getElem? (i := 215) rfl
theorem mw_216 : (Cond.code yn_S_cut bc_S_cut 6 (some .int) : Cond) ∈ Wk_ := List.mem_of_getElem? (i := 216) rfl
theorem mw_217 : (Cond.methodLink Rn_R 46 yn_R_erase : Cond) ∈ Wk_ := List.mem_of_getElem? (i := 217) rfl
theorem mw_218 : (Cond.instanceMethod yn_R_erase : Cond) ∈ Wk_ := List.mem_of_getElem? (i := 218) rfl
theorem mw_219 : (Cond.selects Rn_R yn_R_erase yn_R_erase : Cond) ∈ Wk_ := List.mem_of_getElem? (i := 219) rfl
theorem mw_220 : (Cond.code yn_R_cut bc_R_cut 6 (some .int) : Cond) ∈ Wk_ := List.mem_of_getElem? (i := 220) rfl
theorem mw_221 : (Cond.code yn_S_next bc_S_next 3 (some .int) : Cond) ∈ Wk_ := List.mem_of_getElem? (i := 221) rfl
theorem mw_222 : (Cond.code yn_R_next bc_R_next 4 (some .int) : Cond) ∈ Wk_ := List.mem_of_getElem? (i := 222) rfl
theorem mw_223 : (Cond.fieldLink Rn_S 23 "SharedTrees" "blocks" "LSharedTrees$Blocks;" : Cond) ∈ Wk_ := List.mem_of_getElem? (i := 223) rfl
theorem mw_224 : (Cond.methodLink Rn_S 107 yn_B_share : Cond) ∈ Wk_ := List.mem_of_getElem? (i := 224) rfl
theorem mw_225 : (Cond.methodLink Rn_T 114 yn_B_lose : Cond) ∈ Wk_ := List.mem_of_getElem? (i := 225) rfl
theorem mw_226 : (Cond.code yn_T_releaseBelow bc_T_releaseBelow 4 none : Cond) ∈ Wk_ := List.mem_of_getElem? (i := 226) rfl
theorem mw_227 : (Cond.methodLink Rn_T 111 yn_T_releaseBelow : Cond) ∈ Wk_ := List.mem_of_getElem? (i := 227) rfl
theorem mw_228 : (Cond.instanceMethod yn_T_releaseBelow : Cond) ∈ Wk_ := List.mem_of_getElem? (i := 228) rfl
theorem mw_229 : (Cond.selects Rn_T yn_T_releaseBelow yn_T_releaseBelow : Cond) ∈ Wk_ := List.mem_of_getElem? (i := 229) rfl
theorem mw_230 : (Cond.code yn_T_release bc_T_release 2 none : Cond) ∈ Wk_ := List.mem_of_getElem? (i := 230) rfl
theorem mw_231 : (Cond.methodLink Rn_S 110 yn_T_release : Cond) ∈ Wk_ := List.mem_of_getElem? (i := 231) rfl
theorem mw_232 : (Cond.instanceMethod yn_T_release : Cond) ∈ Wk_ := List.mem_of_getElem? (i := 232) rfl
theorem mw_233 : (Cond.selects Rn_T yn_T_release yn_T_release : Cond) ∈ Wk_ := List.mem_of_getElem? (i := 233) rfl
theorem mw_234 : (Cond.code yn_S_lead bc_S_lead 5 none : Cond) ∈ Wk_ := List.mem_of_getElem? (i := 234) rfl
theorem mw_235 : (Cond.methodLink Rn_S 94 yn_S_lead : Cond) ∈ Wk_ := List.mem_of_getElem? (i := 235) rfl
theorem mw_236 : (Cond.instanceMethod yn_S_lead : Cond) ∈ Wk_ := List.mem_of_getElem? (i := 236) rfl
theorem mw_237 : (Cond.selects Rn_S yn_S_lead yn_S_lead : Cond) ∈ Wk_ := List.mem_of_getElem? (i := 237) rfl
theorem mw_238 : (Cond.code yn_S_clone bc_S_clone 3 (some .int) : Cond) ∈ Wk_ := List.mem_of_getElem? (i := 238) rfl
theorem mw_239 : (Cond.code yn_R_clone bc_R_clone 4 (some .int) : Cond) ∈ Wk_ := List.mem_of_getElem? (i := 239) rfl
theorem mw_240 : (Cond.code yn_S_drop bc_S_drop 3 (some .int) : Cond) ∈ Wk_ := List.mem_of_getElem? (i := 240) rfl
theorem mw_241 : (Cond.methodLink Rn_R 49 yn_R_cut : Cond) ∈ Wk_ := List.mem_of_getElem? (i := 241) rfl
theorem mw_242 : (Cond.instanceMethod yn_R_cut : Cond) ∈ Wk_ := List.mem_of_getElem? (i := 242) rfl
theorem mw_243 : (Cond.selects Rn_R yn_R_cut yn_R_cut : Cond) ∈ Wk_ := List.mem_of_getElem? (i := 243) rfl
theorem mw_244 : (Cond.code yn_R_drop bc_R_drop 3 (some .int) : Cond) ∈ Wk_ := List.mem_of_getElem? (i := 244) rfl
theorem mw_245 : (Cond.fieldLink Rn_S 50 "SharedTrees" "kept" "LSharedTrees$Maps;" : Cond) ∈ Wk_ := List.mem_of_getElem? (i := 245) rfl
theorem mw_246 : (Cond.code yn_S_leadAll bc_S_leadAll 4 none : Cond) ∈ Wk_ := List.mem_of_getElem? (i := 246) rfl
theorem mw_247 : (Cond.methodLink Rn_S 98 yn_S_leadAll : Cond) ∈ Wk_ := List.mem_of_getElem? (i := 247) rfl
theorem mw_248 : (Cond.instanceMethod yn_S_leadAll : Cond) ∈ Wk_ := List.mem_of_getElem? (i := 248) rfl
theorem mw_249 : (Cond.selects Rn_S yn_S_leadAll yn_S_leadAll : Cond) ∈ Wk_ := List.mem_of_getElem? (i := 249) rfl
theorem mw_250 : (Cond.code yn_S_keep bc_S_keep 1 (some .int) : Cond) ∈ Wk_ := List.mem_of_getElem? (i := 250) rfl
theorem mw_251 : (Cond.constant Rn_R 7 32768 : Cond) ∈ Wk_ := List.mem_of_getElem? (i := 251) rfl
theorem mw_252 : (Cond.fieldLink Rn_R 20 "SharedTreesModel" "keptCounts" "[I" : Cond) ∈ Wk_ := List.mem_of_getElem? (i := 252) rfl
theorem mw_253 : (Cond.fieldLink Rn_R 14 "SharedTreesModel" "kept" "[I" : Cond) ∈ Wk_ := List.mem_of_getElem? (i := 253) rfl
theorem mw_254 : (Cond.code yn_R_keep bc_R_keep 2 (some .int) : Cond) ∈ Wk_ := List.mem_of_getElem? (i := 254) rfl
theorem mw_255 : (Cond.code yn_S_back bc_S_back 1 (some .int) : Cond) ∈ Wk_ := List.mem_of_getElem? (i := 255) rfl
theorem mw_256 : (Cond.code yn_R_back bc_R_back 2 (some .int) : Cond) ∈ Wk_ := List.mem_of_getElem? (i := 256) rfl
theorem mw_257 : (Cond.code yn_S_keys bc_S_keys 2 (some .int) : Cond) ∈ Wk_ := List.mem_of_getElem? (i := 257) rfl
theorem mw_258 : (Cond.code yn_R_keys bc_R_keys 2 (some .int) : Cond) ∈ Wk_ := List.mem_of_getElem? (i := 258) rfl
theorem mw_259 : (Cond.fieldLink Rn_S 39 "SharedTrees" "inspection" "LSharedTrees$Inspection;" : Cond) ∈ Wk_ := List.mem_of_getElem? (i := 259) rfl
theorem mw_260 : (Cond.fieldLink Rn_I 25 "SharedTrees$Inspection" "blocks" "LSharedTrees$Blocks;" : Cond) ∈ Wk_ := List.mem_of_getElem? (i := 260) rfl
theorem mw_261 : (Cond.methodLink Rn_I 66 yn_B_isBlock : Cond) ∈ Wk_ := List.mem_of_getElem? (i := 261) rfl
theorem mw_262 : (Cond.methodLink Rn_I 72 yn_B_level : Cond) ∈ Wk_ := List.mem_of_getElem? (i := 262) rfl
theorem mw_263 : (Cond.methodLink Rn_I 75 yn_B_size : Cond) ∈ Wk_ := List.mem_of_getElem? (i := 263) rfl
theorem mw_264 : (Cond.fieldLink Rn_I 9 "SharedTrees$Inspection" "found" "[I" : Cond) ∈ Wk_ := List.mem_of_getElem? (i := 264) rfl
theorem mw_265 : (Cond.fieldLink Rn_I 29 "SharedTrees$Inspection" "most" "I" : Cond) ∈ Wk_ := List.mem_of_getElem? (i := 265) rfl
theorem mw_266 : (Cond.methodLink Rn_I 91 yn_B_key : Cond) ∈ Wk_ := List.mem_of_getElem? (i := 266) rfl
theorem mw_267 : (Cond.code yn_I_hasOrder bc_I_hasOrder 4 (some .boolean) : Cond) ∈ Wk_ := List.mem_of_getElem? (i := 267) rfl
theorem mw_268 : (Cond.methodLink Rn_I 82 yn_I_hasOrder : Cond) ∈ Wk_ := List.mem_of_getElem? (i := 268) rfl
theorem mw_269 : (Cond.instanceMethod yn_I_hasOrder : Cond) ∈ Wk_ := List.mem_of_getElem? (i := 269) rfl
theorem mw_270 : (Cond.selects Rn_I yn_I_hasOrder yn_I_hasOrder : Cond) ∈ Wk_ := List.mem_of_getElem? (i := 270) rfl
theorem mw_271 : (Cond.initialized Rn_I : Cond) ∈ Wk_ := List.mem_of_getElem? (i := 271) rfl
theorem mw_272 : (Cond.fieldLink Rn_I 15 "SharedTrees$Inspection" "keysBelow" "[I" : Cond) ∈ Wk_ := List.mem_of_getElem? (i := 272) rfl
theorem mw_273 : (Cond.fieldLink Rn_I 18 "SharedTrees$Inspection" "lastKeys" "[I" : Cond) ∈ Wk_ := List.mem_of_getElem? (i := 273) rfl
theorem mw_274 : (Cond.methodLink Rn_I 97 yn_B_goal : Cond) ∈ Wk_ := List.mem_of_getElem? (i := 274) rfl
theorem mw_275 : (Cond.fieldLink Rn_I 37 "SharedTrees$Inspection" "least" "I" : Cond) ∈ Wk_ := List.mem_of_getElem? (i := 275) rfl
theorem mw_276 : (Cond.code yn_I_faultBelow bc_I_faultBelow 3 (some .int) : Cond) ∈ Wk_ := List.mem_of_getElem? (i := 276) rfl
theorem mw_277 : (Cond.methodLink Rn_I 78 yn_I_faultBelow : Cond) ∈ Wk_ := List.mem_of_getElem? (i := 277) rfl
theorem mw_278 : (Cond.instanceMethod yn_I_faultBelow : Cond) ∈ Wk_ := List.mem_of_getElem? (i := 278) rfl
theorem mw_279 : (Cond.selects Rn_I yn_I_faultBelow yn_I_faultBelow : Cond) ∈ Wk_ := List.mem_of_getElem? (i := 279) rfl
theorem mw_280 : (Cond.code yn_I_faultOfNode bc_I_faultOfNode 10 (some .int) : Cond) ∈ Wk_ := List.mem_of_getElem? (i := 280) rfl
theorem mw_281 : (Cond.methodLink Rn_I 88 yn_I_faultOfNode : Cond) ∈ Wk_ := List.mem_of_getElem? (i := 281) rfl
theorem mw_282 : (Cond.instanceMethod yn_I_faultOfNode : Cond) ∈ Wk_ := List.mem_of_getElem? (i := 282) rfl
theorem mw_283 : (Cond.selects Rn_I yn_I_faultOfNode yn_I_faultOfNode : Cond) ∈ Wk_ := List.mem_of_getElem? (i := 283) rfl
theorem mw_284 : (Cond.code yn_I_faultOfLeaf bc_I_faultOfLeaf 4 (some .int) : Cond) ∈ Wk_ := List.mem_of_getElem? (i := 284) rfl
theorem mw_285 : (Cond.methodLink Rn_I 85 yn_I_faultOfLeaf : Cond) ∈ Wk_ := List.mem_of_getElem? (i := 285) rfl
theorem mw_286 : (Cond.instanceMethod yn_I_faultOfLeaf : Cond) ∈ Wk_ := List.mem_of_getElem? (i := 286) rfl
theorem mw_287 : (Cond.selects Rn_I yn_I_faultOfLeaf yn_I_faultOfLeaf : Cond) ∈ Wk_ := List.mem_of_getElem? (i := 287) rfl
theorem mw_288 : (Cond.code yn_I_faultOfTree bc_I_faultOfTree 6 (some .int) : Cond) ∈ Wk_ := List.mem_of_getElem? (i := 288) rfl
theorem mw_289 : (Cond.methodLink Rn_I 59 yn_I_faultOfTree : Cond) ∈ Wk_ := List.mem_of_getElem? (i := 289) rfl
theorem mw_290 : (Cond.instanceMethod yn_I_faultOfTree : Cond) ∈ Wk_ := List.mem_of_getElem? (i := 290) rfl
theorem mw_291 : (Cond.selects Rn_I yn_I_faultOfTree yn_I_faultOfTree : Cond) ∈ Wk_ := List.mem_of_getElem? (i := 291) rfl
theorem mw_292 : (Cond.code yn_I_faultOfMaps bc_I_faultOfMaps 6 (some .int) : Cond) ∈ Wk_ := List.mem_of_getElem? (i := 292) rfl
theorem mw_293 : (Cond.methodLink Rn_I 40 yn_I_faultOfMaps : Cond) ∈ Wk_ := List.mem_of_getElem? (i := 293) rfl
theorem mw_294 : (Cond.instanceMethod yn_I_faultOfMaps : Cond) ∈ Wk_ := List.mem_of_getElem? (i := 294) rfl
theorem mw_295 : (Cond.selects Rn_I yn_I_faultOfMaps yn_I_faultOfMaps : Cond) ∈ Wk_ := List.mem_of_getElem? (i := 295) rfl
theorem mw_296 : (Cond.methodLink Rn_I 109 yn_B_ways : Cond) ∈ Wk_ := List.mem_of_getElem? (i := 296) rfl
theorem mw_297 : (Cond.fieldLink Rn_I 21 "SharedTrees$Inspection" "listed" "[Z" : Cond) ∈ Wk_ := List.mem_of_getElem? (i := 297) rfl
theorem mw_298 : (Cond.code yn_I_faultOfWays bc_I_faultOfWays 3 (some .int) : Cond) ∈ Wk_ := List.mem_of_getElem? (i := 298) rfl
theorem mw_299 : (Cond.methodLink Rn_I 48 yn_I_faultOfWays : Cond) ∈ Wk_ := List.mem_of_getElem? (i := 299) rfl
theorem mw_300 : (Cond.instanceMethod yn_I_faultOfWays : Cond) ∈ Wk_ := List.mem_of_getElem? (i := 300) rfl
theorem mw_301 : (Cond.selects Rn_I yn_I_faultOfWays yn_I_faultOfWays : Cond) ∈ Wk_ := List.mem_of_getElem? (i := 301) rfl
theorem mw_302 : (Cond.code yn_B_freeCount bc_B_freeCount 1 (some .int) : Cond) ∈ Wk_ := List.mem_of_getElem? (i := 302) rfl
theorem mw_303 : (Cond.methodLink Rn_I 103 yn_B_freeCount : Cond) ∈ Wk_ := List.mem_of_getElem? (i := 303) rfl
theorem mw_304 : (Cond.instanceMethod yn_B_freeCount : Cond) ∈ Wk_ := List.mem_of_getElem? (i := 304) rfl
theorem mw_305 : (Cond.selects Rn_B yn_B_freeCount yn_B_freeCount : Cond) ∈ Wk_ := List.mem_of_getElem? (i := 305) rfl
theorem mw_306 : (Cond.code yn_B_freeBlock bc_B_freeBlock 2 (some .int) : Cond) ∈ Wk_ := List.mem_of_getElem? (i := 306) rfl
theorem mw_307 : (Cond.methodLink Rn_I 106 yn_B_freeBlock : Cond) ∈ Wk_ := List.mem_of_getElem? (i := 307) rfl
theorem mw_308 : (Cond.instanceMethod yn_B_freeBlock : Cond) ∈ Wk_ := List.mem_of_getElem? (i := 308) rfl
theorem mw_309 : (Cond.selects Rn_B yn_B_freeBlock yn_B_freeBlock : Cond) ∈ Wk_ := List.mem_of_getElem? (i := 309) rfl
theorem mw_310 : (Cond.code yn_I_faultOfFree bc_I_faultOfFree 4 (some .int) : Cond) ∈ Wk_ := List.mem_of_getElem? (i := 310) rfl
theorem mw_311 : (Cond.methodLink Rn_I 44 yn_I_faultOfFree : Cond) ∈ Wk_ := List.mem_of_getElem? (i := 311) rfl
theorem mw_312 : (Cond.instanceMethod yn_I_faultOfFree : Cond) ∈ Wk_ := List.mem_of_getElem? (i := 312) rfl
theorem mw_313 : (Cond.selects Rn_I yn_I_faultOfFree yn_I_faultOfFree : Cond) ∈ Wk_ := List.mem_of_getElem? (i := 313) rfl
theorem mw_314 : (Cond.code yn_I_firstFault bc_I_firstFault 4 (some .int) : Cond) ∈ Wk_ := List.mem_of_getElem? (i := 314) rfl
theorem mw_315 : (Cond.methodLink Rn_S 102 yn_I_firstFault : Cond) ∈ Wk_ := List.mem_of_getElem? (i := 315) rfl
theorem mw_316 : (Cond.instanceMethod yn_I_firstFault : Cond) ∈ Wk_ := List.mem_of_getElem? (i := 316) rfl
theorem mw_317 : (Cond.selects Rn_I yn_I_firstFault yn_I_firstFault : Cond) ∈ Wk_ := List.mem_of_getElem? (i := 317) rfl
theorem mw_318 : (Cond.code yn_S_check bc_S_check 1 (some .int) : Cond) ∈ Wk_ := List.mem_of_getElem? (i := 318) rfl
theorem mw_319 : (Cond.code yn_R_check bc_R_check 1 (some .int) : Cond) ∈ Wk_ := List.mem_of_getElem? (i := 319) rfl
theorem mw_320 : (Cond.laysFinal Rn_S "SharedTrees" "blocks" "LSharedTrees$Blocks;" : Cond) ∈ Wk_ := List.mem_of_getElem? (i := 320) rfl
theorem mw_321 : (Cond.laysFinal Rn_S "SharedTrees" "trees" "LSharedTrees$Trees;" : Cond) ∈ Wk_ := List.mem_of_getElem? (i := 321) rfl
theorem mw_322 : (Cond.laysFinal Rn_S "SharedTrees" "inspection" "LSharedTrees$Inspection;" : Cond) ∈ Wk_ := List.mem_of_getElem? (i := 322) rfl
theorem mw_323 : (Cond.laysFinal Rn_S "SharedTrees" "now" "LSharedTrees$Maps;" : Cond) ∈ Wk_ := List.mem_of_getElem? (i := 323) rfl
theorem mw_324 : (Cond.laysFinal Rn_S "SharedTrees" "kept" "LSharedTrees$Maps;" : Cond) ∈ Wk_ := List.mem_of_getElem? (i := 324) rfl
theorem mw_325 : (Cond.laysFinal Rn_B "SharedTrees$Blocks" "width" "I" : Cond) ∈ Wk_ := List.mem_of_getElem? (i := 325) rfl
theorem mw_326 : (Cond.laysFinal Rn_B "SharedTrees$Blocks" "ways" "[I" : Cond) ∈ Wk_ := List.mem_of_getElem? (i := 326) rfl
theorem mw_327 : (Cond.laysFinal Rn_B "SharedTrees$Blocks" "levels" "[I" : Cond) ∈ Wk_ := List.mem_of_getElem? (i := 327) rfl
theorem mw_328 : (Cond.laysFinal Rn_B "SharedTrees$Blocks" "sizes" "[I" : Cond) ∈ Wk_ := List.mem_of_getElem? (i := 328) rfl
theorem mw_329 : (Cond.laysFinal Rn_B "SharedTrees$Blocks" "entryKeys" "[I" : Cond) ∈ Wk_ := List.mem_of_getElem? (i := 329) rfl
theorem mw_330 : (Cond.laysFinal Rn_B "SharedTrees$Blocks" "entryGoals" "[I" : Cond) ∈ Wk_ := List.mem_of_getElem? (i := 330) rfl
theorem mw_331 : (Cond.laysFinal Rn_B "SharedTrees$Blocks" "free" "[I" : Cond) ∈ Wk_ := List.mem_of_getElem? (i := 331) rfl
theorem mw_332 : (Cond.lays Rn_B "SharedTrees$Blocks" "freeCount" "I" : Cond) ∈ Wk_ := List.mem_of_getElem? (i := 332) rfl
theorem mw_333 : (Cond.laysFinal Rn_T "SharedTrees$Trees" "blocks" "LSharedTrees$Blocks;" : Cond) ∈ Wk_ := List.mem_of_getElem? (i := 333) rfl
theorem mw_334 : (Cond.laysFinal Rn_T "SharedTrees$Trees" "most" "I" : Cond) ∈ Wk_ := List.mem_of_getElem? (i := 334) rfl
theorem mw_335 : (Cond.laysFinal Rn_T "SharedTrees$Trees" "least" "I" : Cond) ∈ Wk_ := List.mem_of_getElem? (i := 335) rfl
theorem mw_336 : (Cond.laysFinal Rn_I "SharedTrees$Inspection" "blocks" "LSharedTrees$Blocks;" : Cond) ∈ Wk_ := List.mem_of_getElem? (i := 336) rfl
theorem mw_337 : (Cond.laysFinal Rn_I "SharedTrees$Inspection" "most" "I" : Cond) ∈ Wk_ := List.mem_of_getElem? (i := 337) rfl
theorem mw_338 : (Cond.laysFinal Rn_I "SharedTrees$Inspection" "least" "I" : Cond) ∈ Wk_ := List.mem_of_getElem? (i := 338) rfl
theorem mw_339 : (Cond.laysFinal Rn_I "SharedTrees$Inspection" "found" "[I" : Cond) ∈ Wk_ := List.mem_of_getElem? (i := 339) rfl
theorem mw_340 : (Cond.laysFinal Rn_I "SharedTrees$Inspection" "keysBelow" "[I" : Cond) ∈ Wk_ := List.mem_of_getElem? (i := 340) rfl
theorem mw_341 : (Cond.laysFinal Rn_I "SharedTrees$Inspection" "lastKeys" "[I" : Cond) ∈ Wk_ := List.mem_of_getElem? (i := 341) rfl
theorem mw_342 : (Cond.laysFinal Rn_I "SharedTrees$Inspection" "listed" "[Z" : Cond) ∈ Wk_ := List.mem_of_getElem? (i := 342) rfl
theorem mw_343 : (Cond.laysFinal Rn_P "SharedTrees$Maps" "roots" "[I" : Cond) ∈ Wk_ := List.mem_of_getElem? (i := 343) rfl
theorem mw_344 : (Cond.laysFinal Rn_P "SharedTrees$Maps" "counts" "[I" : Cond) ∈ Wk_ := List.mem_of_getElem? (i := 344) rfl
theorem mw_345 : (Cond.lays Rn_P "SharedTrees$Maps" "total" "I" : Cond) ∈ Wk_ := List.mem_of_getElem? (i := 345) rfl
theorem mw_346 : (Cond.laysFinal Rn_R "SharedTreesModel" "stamps" "[I" : Cond) ∈ Wk_ := List.mem_of_getElem? (i := 346) rfl
theorem mw_347 : (Cond.laysFinal Rn_R "SharedTreesModel" "kept" "[I" : Cond) ∈ Wk_ := List.mem_of_getElem? (i := 347) rfl
theorem mw_348 : (Cond.laysFinal Rn_R "SharedTreesModel" "counts" "[I" : Cond) ∈ Wk_ := List.mem_of_getElem? (i := 348) rfl
theorem mw_349 : (Cond.laysFinal Rn_R "SharedTreesModel" "keptCounts" "[I" : Cond) ∈ Wk_ := List.mem_of_getElem? (i := 349) rfl
theorem in_S : ∀ w ∈ u_ws Rn_S Fn_S 5, w ∈ Wk_ := by decide +kernel
theorem in_B : ∀ w ∈ u_ws Rn_B Fn_B 8, w ∈ Wk_ := by decide +kernel
theorem in_T : ∀ w ∈ u_ws Rn_T Fn_T 3, w ∈ Wk_ := by decide +kernel
theorem in_I : ∀ w ∈ u_ws Rn_I Fn_I 7, w ∈ Wk_ := by decide +kernel
theorem in_P : ∀ w ∈ u_ws Rn_P Fn_P 3, w ∈ Wk_ := by decide +kernel
theorem in_R : ∀ w ∈ u_ws Rn_R Fn_R 4, w ∈ Wk_ := by decide +kernel
def nfl_ : List (String × Nat × String × String × String) := [(Rn_S, 63, "SharedTrees$Maps", "roots", "[I"), (Rn_S, 82, "SharedTrees$Maps", "counts", "[I"), (Rn_S, 70, "SharedTrees$Maps", "total", "I"), (Rn_I, 63, "SharedTrees$Maps", "total", "I"), (Rn_I, 51, "SharedTrees$Maps", "roots", "[I"), (Rn_I, 56, "SharedTrees$Maps", "counts", "[I")]
def nml_ : List (String × Nat × MethodName) := [(Rn_I, 94, yn_S_isKey), (Rn_I, 100, yn_S_isStamp)]
theorem nf_0 : (Rn_S, 63, "SharedTrees$Maps", "roots", "[I") ∈ nfl_ := List.mem_of_getElem? (i := 0) rfl
theorem nf_1 : (Rn_S, 82, "SharedTrees$Maps", "counts", "[I") ∈ nfl_ := List.mem_of_getElem? (i := 1) rfl
theorem nf_2 : (Rn_S, 70, "SharedTrees$Maps", "total", "I") ∈ nfl_ := List.mem_of_getElem? (i := 2) rfl
theorem nf_3 : (Rn_I, 63, "SharedTrees$Maps", "total", "I") ∈ nfl_ := List.mem_of_getElem? (i := 3) rfl
theorem nf_4 : (Rn_I, 51, "SharedTrees$Maps", "roots", "[I") ∈ nfl_ := List.mem_of_getElem? (i := 4) rfl
theorem nf_5 : (Rn_I, 56, "SharedTrees$Maps", "counts", "[I") ∈ nfl_ := List.mem_of_getElem? (i := 5) rfl
theorem nm_0 : (Rn_I, 94, yn_S_isKey) ∈ nml_ := List.mem_of_getElem? (i := 0) rfl
theorem nm_1 : (Rn_I, 100, yn_S_isStamp) ∈ nml_ := List.mem_of_getElem? (i := 1) rfl
