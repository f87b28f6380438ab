-- the words that the constructors need; decode rows of the constructors and of the law
def Wj_ : List Cond := [.code Lib.objectInit object_method_1_code 1 none,
  .instanceMethod Lib.objectInit,
  .methodLink Rn_S 3 Lib.objectInit,
  .methodLink Rn_B 3 Lib.objectInit,
  .methodLink Rn_T 3 Lib.objectInit,
  .methodLink Rn_I 3 Lib.objectInit,
  .methodLink Rn_P 3 Lib.objectInit,
  .methodLink Rn_R 1 Lib.objectInit,
  .classLink Rn_S 18 Rn_B,
  .classLink Rn_S 27 Rn_T,
  .classLink Rn_S 36 Rn_I,
  .classLink Rn_S 43 Rn_P,
  .instantiable Rn_B 8,
  .instantiable Rn_T 3,
  .instantiable Rn_I 7,
  .instantiable Rn_P 3,
  .initialized Rn_S,
  .initialized Rn_B,
  .initialized Rn_T,
  .initialized Rn_I,
  .initialized Rn_P,
  .initialized Rn_R,
  .initialized "java/lang/Math",
  .fieldLink Rn_S 23 "SharedTrees" "blocks" "LSharedTrees$Blocks;",
  .fieldLink Rn_S 32 "SharedTrees" "trees" "LSharedTrees$Trees;",
  .fieldLink Rn_S 39 "SharedTrees" "inspection" "LSharedTrees$Inspection;",
  .fieldLink Rn_S 46 "SharedTrees" "now" "LSharedTrees$Maps;",
  .fieldLink Rn_S 50 "SharedTrees" "kept" "LSharedTrees$Maps;",
  .fieldLink Rn_B 9 "SharedTrees$Blocks" "ways" "[I",
  .fieldLink Rn_B 15 "SharedTrees$Blocks" "levels" "[I",
  .fieldLink Rn_B 18 "SharedTrees$Blocks" "sizes" "[I",
  .fieldLink Rn_B 21 "SharedTrees$Blocks" "free" "[I",
  .fieldLink Rn_B 24 "SharedTrees$Blocks" "freeCount" "I",
  .fieldLink Rn_B 28 "SharedTrees$Blocks" "width" "I",
  .fieldLink Rn_B 31 "SharedTrees$Blocks" "entryKeys" "[I",
  .fieldLink Rn_B 34 "SharedTrees$Blocks" "entryGoals" "[I",
  .fieldLink Rn_T 9 "SharedTrees$Trees" "blocks" "LSharedTrees$Blocks;",
  .fieldLink Rn_T 15 "SharedTrees$Trees" "most" "I",
  .fieldLink Rn_T 23 "SharedTrees$Trees" "least" "I",
  .fieldLink Rn_I 9 "SharedTrees$Inspection" "found" "[I",
  .fieldLink Rn_I 15 "SharedTrees$Inspection" "keysBelow" "[I",
  .fieldLink Rn_I 18 "SharedTrees$Inspection" "lastKeys" "[I",
  .fieldLink Rn_I 21 "SharedTrees$Inspection" "listed" "[Z",
  .fieldLink Rn_I 25 "SharedTrees$Inspection" "blocks" "LSharedTrees$Blocks;",
  .fieldLink Rn_I 29 "SharedTrees$Inspection" "most" "I",
  .fieldLink Rn_I 37 "SharedTrees$Inspection" "least" "I",
  .fieldLink Rn_P 9 "SharedTrees$Maps" "roots" "[I",
  .fieldLink Rn_P 15 "SharedTrees$Maps" "counts" "[I",
  .fieldLink Rn_R 8 "SharedTreesModel" "stamps" "[I",
  .fieldLink Rn_R 14 "SharedTreesModel" "kept" "[I",
  .fieldLink Rn_R 17 "SharedTreesModel" "counts" "[I",
  .fieldLink Rn_R 20 "SharedTreesModel" "keptCounts" "[I",
  .methodLink Rn_S 20 yn_B_init,
  .methodLink Rn_S 29 yn_T_init,
  .methodLink Rn_S 38 yn_I_init,
  .instanceMethod yn_B_init,
  .code yn_B_init bc_B_init 3 none,
  .instanceMethod yn_T_init,
  .code yn_T_init bc_T_init 3 none,
  .instanceMethod yn_I_init,
  .code yn_I_init bc_I_init 3 none,
  .instanceMethod yn_P_init,
  .code yn_P_init bc_P_init 1 none,
  .methodLink Rn_S 9 Lib.Math.min.name,
  .static Lib.Math.min.name,
  .code Lib.Math.min.name Lib.Math.min.code 2 (some .int),
  .methodLink Rn_S 15 Lib.Math.max.name,
  .static Lib.Math.max.name,
  .code Lib.Math.max.name Lib.Math.max.code 2 (some .int),
  .static yn_S_leastEntries,
  .code yn_S_leastEntries bc_S_leastEntries 1 (some .int),
  .constant Rn_R 7 32768,
  .laysFinal Rn_S "SharedTrees" "blocks" "LSharedTrees$Blocks;",
  .laysFinal Rn_S "SharedTrees" "trees" "LSharedTrees$Trees;",
  .laysFinal Rn_S "SharedTrees" "inspection" "LSharedTrees$Inspection;",
  .laysFinal Rn_S "SharedTrees" "now" "LSharedTrees$Maps;",
  .laysFinal Rn_S "SharedTrees" "kept" "LSharedTrees$Maps;",
  .laysFinal Rn_B "SharedTrees$Blocks" "width" "I",
  .laysFinal Rn_B "SharedTrees$Blocks" "ways" "[I",
  .laysFinal Rn_B "SharedTrees$Blocks" "levels" "[I",
  .laysFinal Rn_B "SharedTrees$Blocks" "sizes" "[I",
  .laysFinal Rn_B "SharedTrees$Blocks" "entryKeys" "[I",
  .laysFinal Rn_B "SharedTrees$Blocks" "entryGoals" "[I",
  .laysFinal Rn_B "SharedTrees$Blocks" "free" "[I",
  .lays Rn_B "SharedTrees$Blocks" "freeCount" "I",
  .laysFinal Rn_T "SharedTrees$Trees" "blocks" "LSharedTrees$Blocks;",
  .laysFinal Rn_T "SharedTrees$Trees" "most" "I",
  .laysFinal Rn_T "SharedTrees$Trees" "least" "I",
  .laysFinal Rn_I "SharedTrees$Inspection" "blocks" "LSharedTrees$Blocks;",
  .laysFinal Rn_I "SharedTrees$Inspection" "most" "I",
  .laysFinal Rn_I "SharedTrees$Inspection" "least" "I",
  .laysFinal Rn_I "SharedTrees$Inspection" "found" "[I",
  .laysFinal Rn_I "SharedTrees$Inspection" "keysBelow" "[I",
  .laysFinal Rn_I "SharedTrees$Inspection" "lastKeys" "[I",
  .laysFinal Rn_I "SharedTrees$Inspection" "listed" "[Z",
  .laysFinal Rn_P "SharedTrees$Maps" "roots" "[I",
  .laysFinal Rn_P "SharedTrees$Maps" "counts" "[I",
  .lays Rn_P "SharedTrees$Maps" "total" "I",
  .laysFinal Rn_R "SharedTreesModel" "stamps" "[I",
  .laysFinal Rn_R "SharedTreesModel" "kept" "[I",
  .laysFinal Rn_R "SharedTreesModel" "counts" "[I",
  .laysFinal Rn_R "SharedTreesModel" "keptCounts" "[I"]
def Wi_ : List Cond := Wj_ ++ [.arrayClass .int, .arrayClass .boolean]
theorem mi_0 : (Cond.code Lib.objectInit object_method_1_code 1 none : Cond) ∈ Wi_ := List.mem_of_getElem? (i := 0) rfl
theorem mi_1 : (Cond.instanceMethod Lib.objectInit : Cond) ∈ Wi_ := List.mem_of_getElem? (i := 1) rfl
theorem mi_2 : (Cond.methodLink Rn_S 3 Lib.objectInit : Cond) ∈ Wi_ := List.mem_of_getElem? (i := 2) rfl
theorem mi_3 : (Cond.methodLink Rn_B 3 Lib.objectInit : Cond) ∈ Wi_ := List.mem_of_getElem? (i := 3) rfl
theorem mi_4 : (Cond.methodLink Rn_T 3 Lib.objectInit : Cond) ∈ Wi_ := List.mem_of_getElem? (i := 4) rfl
theorem mi_5 : (Cond.methodLink Rn_I 3 Lib.objectInit : Cond) ∈ Wi_ := List.mem_of_getElem? (i := 5) rfl
theorem mi_6 : (Cond.methodLink Rn_P 3 Lib.objectInit : Cond) ∈ Wi_ := List.mem_of_getElem? (i := 6) rfl
theorem mi_7 : (Cond.methodLink Rn_R 1 Lib.objectInit : Cond) ∈ Wi_ := List.mem_of_getElem? (i := 7) rfl
theorem mi_8 : (Cond.classLink Rn_S 18 Rn_B : Cond) ∈ Wi_ := List.mem_of_getElem? (i := 8) rfl
theorem mi_9 : (Cond.classLink Rn_S 27 Rn_T : Cond) ∈ Wi_ := List.mem_of_getElem? (i := 9) rfl
theorem mi_10 : (Cond.classLink Rn_S 36 Rn_I : Cond) ∈ Wi_ := List.mem_of_getElem? (i := 10) rfl
theorem mi_11 : (Cond.classLink Rn_S 43 Rn_P : Cond) ∈ Wi_ := List.mem_of_getElem? (i := 11) rfl
theorem mi_12 : (Cond.instantiable Rn_B 8 : Cond) ∈ Wi_ := List.mem_of_getElem? (i := 12) rfl
theorem mi_13 : (Cond.instantiable Rn_T 3 : Cond) ∈ Wi_ := List.mem_of_getElem? (i := 13) rfl
theorem mi_14 : (Cond.instantiable Rn_I 7 : Cond) ∈ Wi_ := List.mem_of_getElem? (i := 14) rfl
theorem mi_15 : (Cond.instantiable Rn_P 3 : Cond) ∈ Wi_ := List.mem_of_getElem? (i := 15) rfl
theorem mi_16 : (Cond.initialized Rn_S : Cond) ∈ Wi_ := List.mem_of_getElem? (i := 16) rfl
theorem mi_17 : (Cond.initialized Rn_B : Cond) ∈ Wi_ := List.mem_of_getElem? (i := 17) rfl
theorem mi_18 : (Cond.initialized Rn_T : Cond) ∈ Wi_ := List.mem_of_getElem? (i := 18) rfl
theorem mi_19 : (Cond.initialized Rn_I : Cond) ∈ Wi_ := List.mem_of_getElem? (i := 19) rfl
theorem mi_20 : (Cond.initialized Rn_P : Cond) ∈ Wi_ := List.mem_of_getElem? (i := 20) rfl
theorem mi_21 : (Cond.initialized Rn_R : Cond) ∈ Wi_ := List.mem_of_getElem? (i := 21) rfl
theorem mi_22 : (Cond.initialized "java/lang/Math" : Cond) ∈ Wi_ := List.mem_of_getElem? (i := 22) rfl
theorem mi_23 : (Cond.fieldLink Rn_S 23 "SharedTrees" "blocks" "LSharedTrees$Blocks;" : Cond) ∈ Wi_ := List.mem_of_getElem? (i := 23) rfl
theorem mi_24 : (Cond.fieldLink Rn_S 32 "SharedTrees" "trees" "LSharedTrees$Trees;" : Cond) ∈ Wi_ := List.mem_of_getElem? (i := 24) rfl
theorem mi_25 : (Cond.fieldLink Rn_S 39 "SharedTrees" "inspection" "LSharedTrees$Inspection;" : Cond) ∈ Wi_ := List.mem_of_getElem? (i := 25) rfl
theorem mi_26 : (Cond.fieldLink Rn_S 46 "SharedTrees" "now" "LSharedTrees$Maps;" : Cond) ∈ Wi_ := List.mem_of_getElem? (i := 26) rfl
theorem mi_27 : (Cond.fieldLink Rn_S 50 "SharedTrees" "kept" "LSharedTrees$Maps;" : Cond) ∈ Wi_ := List.mem_of_getElem? (i := 27) rfl
theorem mi_28 : (Cond.fieldLink Rn_B 9 "SharedTrees$Blocks" "ways" "[I" : Cond) ∈ Wi_ := List.mem_of_getElem? (i := 28) rfl
theorem mi_29 : (Cond.fieldLink Rn_B 15 "SharedTrees$Blocks" "levels" "[I" : Cond) ∈ Wi_ := List.mem_of_getElem? (i := 29) rfl
theorem mi_30 : (Cond.fieldLink Rn_B 18 "SharedTrees$Blocks" "sizes" "[I" : Cond) ∈ Wi_ := List.mem_of_getElem? (i := 30) rfl
theorem mi_31 : (Cond.fieldLink Rn_B 21 "SharedTrees$Blocks" "free" "[I" : Cond) ∈ Wi_ := List.mem_of_getElem? (i := 31) rfl
theorem mi_32 : (Cond.fieldLink Rn_B 24 "SharedTrees$Blocks" "freeCount" "I" : Cond) ∈ Wi_ := List.mem_of_getElem? (i := 32) rfl
theorem mi_33 : (Cond.fieldLink Rn_B 28 "SharedTrees$Blocks" "width" "I" : Cond) ∈ Wi_ := List.mem_of_getElem? (i := 33) rfl
theorem mi_34 : (Cond.fieldLink Rn_B 31 "SharedTrees$Blocks" "entryKeys" "[I" : Cond) ∈ Wi_ := List.mem_of_getElem? (i := 34) rfl
theorem mi_35 : (Cond.fieldLink Rn_B 34 "SharedTrees$Blocks" "entryGoals" "[I" : Cond) ∈ Wi_ := List.mem_of_getElem? (i := 35) rfl
theorem mi_36 : (Cond.fieldLink Rn_T 9 "SharedTrees$Trees" "blocks" "LSharedTrees$Blocks;" : Cond) ∈ Wi_ := List.mem_of_getElem? (i := 36) rfl
theorem mi_37 : (Cond.fieldLink Rn_T 15 "SharedTrees$Trees" "most" "I" : Cond) ∈ Wi_ := List.mem_of_getElem? (i := 37) rfl
theorem mi_38 : (Cond.fieldLink Rn_T 23 "SharedTrees$Trees" "least" "I" : Cond) ∈ Wi_ := List.mem_of_getElem? (i := 38) rfl
theorem mi_39 : (Cond.fieldLink Rn_I 9 "SharedTrees$Inspection" "found" "[I" : Cond) ∈ Wi_ := List.mem_of_getElem? (i := 39) rfl
theorem mi_40 : (Cond.fieldLink Rn_I 15 "SharedTrees$Inspection" "keysBelow" "[I" : Cond) ∈ Wi_ := List.mem_of_getElem? (i := 40) rfl
theorem mi_41 : (Cond.fieldLink Rn_I 18 "SharedTrees$Inspection" "lastKeys" "[I" : Cond) ∈ Wi_ := List.mem_of_getElem? (i := 41) rfl
theorem mi_42 : (Cond.fieldLink Rn_I 21 "SharedTrees$Inspection" "listed" "[Z" : Cond) ∈ Wi_ := List.mem_of_getElem? (i := 42) rfl
theorem mi_43 : (Cond.fieldLink Rn_I 25 "SharedTrees$Inspection" "blocks" "LSharedTrees$Blocks;" : Cond) ∈ Wi_ := List.mem_of_getElem? (i := 43) rfl
theorem mi_44 : (Cond.fieldLink Rn_I 29 "SharedTrees$Inspection" "most" "I" : Cond) ∈ Wi_ := List.mem_of_getElem? (i := 44) rfl
theorem mi_45 : (Cond.fieldLink Rn_I 37 "SharedTrees$Inspection" "least" "I" : Cond) ∈ Wi_ := List.mem_of_getElem? (i := 45) rfl
theorem mi_46 : (Cond.fieldLink Rn_P 9 "SharedTrees$Maps" "roots" "[I" : Cond) ∈ Wi_ := List.mem_of_getElem? (i := 46) rfl
theorem mi_47 : (Cond.fieldLink Rn_P 15 "SharedTrees$Maps" "counts" "[I" : Cond) ∈ Wi_ := List.mem_of_getElem? (i := 47) rfl
theorem mi_48 : (Cond.fieldLink Rn_R 8 "SharedTreesModel" "stamps" "[I" : Cond) ∈ Wi_ := List.mem_of_getElem? (i := 48) rfl
theorem mi_49 : (Cond.fieldLink Rn_R 14 "SharedTreesModel" "kept" "[I" : Cond) ∈ Wi_ := List.mem_of_getElem? (i := 49) rfl
theorem mi_50 : (Cond.fieldLink Rn_R 17 "SharedTreesModel" "counts" "[I" : Cond) ∈ Wi_ := List.mem_of_getElem? (i := 50) rfl
theorem mi_51 : (Cond.fieldLink Rn_R 20 "SharedTreesModel" "keptCounts" "[I" : Cond) ∈ Wi_ := List.mem_of_getElem? (i := 51) rfl
theorem mi_52 : (Cond.methodLink Rn_S 20 yn_B_init : Cond) ∈ Wi_ := List.mem_of_getElem? (i := 52) rfl
theorem mi_53 : (Cond.methodLink Rn_S 29 yn_T_init : Cond) ∈ Wi_ := List.mem_of_getElem? (i := 53) rfl
theorem mi_54 : (Cond.methodLink Rn_S 38 yn_I_init : Cond) ∈ Wi_ := List.mem_of_getElem? (i := 54) rfl
theorem mi_55 : (Cond.instanceMethod yn_B_init : Cond) ∈ Wi_ := List.mem_of_getElem? (i := 55) rfl
theorem mi_56 : (Cond.code yn_B_init bc_B_init 3 none : Cond) ∈ Wi_ := List.mem_of_getElem? (i := 56) rfl
theorem mi_57 : (Cond.instanceMethod yn_T_init : Cond) ∈ Wi_ := List.mem_of_getElem? (i := 57) rfl
theorem mi_58 : (Cond.code yn_T_init bc_T_init 3 none : Cond) ∈ Wi_ := List.mem_of_getElem? (i := 58) rfl
theorem mi_59 : (Cond.instanceMethod yn_I_init : Cond) ∈ Wi_ := List.mem_of_getElem? (i := 59) rfl
theorem mi_60 : (Cond.code yn_I_init bc_I_init 3 none : Cond) ∈ Wi_ := List.mem_of_getElem? (i := 60) rfl
theorem mi_61 : (Cond.instanceMethod yn_P_init : Cond) ∈ Wi_ := List.mem_of_getElem? (i := 61) rfl
theorem mi_62 : (Cond.code yn_P_init bc_P_init 1 none : Cond) ∈ Wi_ := List.mem_of_getElem? (i := 62) rfl
theorem mi_63 : (Cond.methodLink Rn_S 9 Lib.Math.min.name : Cond) ∈ Wi_ := List.mem_of_getElem? (i := 63) rfl
theorem mi_64 : (Cond.static Lib.Math.min.name : Cond) ∈ Wi_ := List.mem_of_getElem? (i := 64) rfl
theorem mi_65 : (Cond.code Lib.Math.min.name Lib.Math.min.code 2 (some .int) : Cond) ∈ Wi_ := List.mem_of_getElem? (i := 65) rfl
theorem mi_66 : (Cond.methodLink Rn_S 15 Lib.Math.max.name : Cond) ∈ Wi_ := List.mem_of_getElem? (i := 66) rfl
theorem mi_67 : (Cond.static Lib.Math.max.name : Cond) ∈ Wi_ := List.mem_of_getElem? (i := 67) rfl
theorem mi_68 : (Cond.code Lib.Math.max.name Lib.Math.max.code 2 (some .int) : Cond) ∈ Wi_ := List.mem_of_getElem? (i := 68) rfl
theorem mi_69 : (Cond.static yn_S_leastEntries : Cond) ∈ Wi_ := List.mem_of_getElem? (i := 69) rfl
theorem mi_70 : (Cond.code yn_S_leastEntries bc_S_leastEntries 1 (some .int) : Cond) ∈ Wi_ := List.mem_of_getElem? (i := 70) rfl
theorem mi_71 : (Cond.constant Rn_R 7 32768 : Cond) ∈ Wi_ := List.mem_of_getElem? (i := 71) rfl
theorem mi_72 : (Cond.laysFinal Rn_S "SharedTrees" "blocks" "LSharedTrees$Blocks;" : Cond) ∈ Wi_ := List.mem_of_getElem? (i := 72) rfl
theorem mi_73 : (Cond.laysFinal Rn_S "SharedTrees" "trees" "LSharedTrees$Trees;" : Cond) ∈ Wi_ := List.mem_of_getElem? (i := 73) rfl
theorem mi_74 : (Cond.laysFinal Rn_S "SharedTrees" "inspection" "LSharedTrees$Inspection;" : Cond) ∈ Wi_ := List.mem_of_getElem? (i := 74) rfl
theorem mi_75 : (Cond.laysFinal Rn_S "SharedTrees" "now" "LSharedTrees$Maps;" : Cond) ∈ Wi_ := List.mem_of_getElem? (i := 75) rfl
theorem mi_76 : (Cond.laysFinal Rn_S "SharedTrees" "kept" "LSharedTrees$Maps;" : Cond) ∈ Wi_ := List.mem_of_getElem? (i := 76) rfl
theorem mi_77 : (Cond.laysFinal Rn_B "SharedTrees$Blocks" "width" "I" : Cond) ∈ Wi_ := List.mem_of_getElem? (i := 77) rfl
theorem mi_78 : (Cond.laysFinal Rn_B "SharedTrees$Blocks" "ways" "[I" : Cond) ∈ Wi_ := List.mem_of_getElem? (i := 78) rfl
theorem mi_79 : (Cond.laysFinal Rn_B "SharedTrees$Blocks" "levels" "[I" : Cond) ∈ Wi_ := List.mem_of_getElem? (i := 79) rfl
theorem mi_80 : (Cond.laysFinal Rn_B "SharedTrees$Blocks" "sizes" "[I" : Cond) ∈ Wi_ := List.mem_of_getElem? (i := 80) rfl
theorem mi_81 : (Cond.laysFinal Rn_B "SharedTrees$Blocks" "entryKeys" "[I" : Cond) ∈ Wi_ := List.mem_of_getElem? (i := 81) rfl
theorem mi_82 : (Cond.laysFinal Rn_B "SharedTrees$Blocks" "entryGoals" "[I" : Cond) ∈ Wi_ := List.mem_of_getElem? (i := 82) rfl
theorem mi_83 : (Cond.laysFinal Rn_B "SharedTrees$Blocks" "free" "[I" : Cond) ∈ Wi_ := List.mem_of_getElem? (i := 83) rfl
theorem mi_84 : (Cond.lays Rn_B "SharedTrees$Blocks" "freeCount" "I" : Cond) ∈ Wi_ := List.mem_of_getElem? (i := 84) rfl
theorem mi_85 : (Cond.laysFinal Rn_T "SharedTrees$Trees" "blocks" "LSharedTrees$Blocks;" : Cond) ∈ Wi_ := List.mem_of_getElem? (i := 85) rfl
theorem mi_86 : (Cond.laysFinal Rn_T "SharedTrees$Trees" "most" "I" : Cond) ∈ Wi_ := List.mem_of_getElem? (i := 86) rfl
theorem mi_87 : (Cond.laysFinal Rn_T "SharedTrees$Trees" "least" "I" : Cond) ∈ Wi_ := List.mem_of_getElem? (i := 87) rfl
theorem mi_88 : (Cond.laysFinal Rn_I "SharedTrees$Inspection" "blocks" "LSharedTrees$Blocks;" : Cond) ∈ Wi_ := List.mem_of_getElem? (i := 88) rfl
theorem mi_89 : (Cond.laysFinal Rn_I "SharedTrees$Inspection" "most" "I" : Cond) ∈ Wi_ := List.mem_of_getElem? (i := 89) rfl
theorem mi_90 : (Cond.laysFinal Rn_I "SharedTrees$Inspection" "least" "I" : Cond) ∈ Wi_ := List.mem_of_getElem? (i := 90) rfl
theorem mi_91 : (Cond.laysFinal Rn_I "SharedTrees$Inspection" "found" "[I" : Cond) ∈ Wi_ := List.mem_of_getElem? (i := 91) rfl
theorem mi_92 : (Cond.laysFinal Rn_I "SharedTrees$Inspection" "keysBelow" "[I" : Cond) ∈ Wi_ := List.mem_of_getElem? (i := 92) rfl
theorem mi_93 : (Cond.laysFinal Rn_I "SharedTrees$Inspection" "lastKeys" "[I" : Cond) ∈ Wi_ := List.mem_of_getElem? (i := 93) rfl
theorem mi_94 : (Cond.laysFinal Rn_I "SharedTrees$Inspection" "listed" "[Z" : Cond) ∈ Wi_ := List.mem_of_getElem? (i := 94) rfl
theorem mi_95 : (Cond.laysFinal Rn_P "SharedTrees$Maps" "roots" "[I" : Cond) ∈ Wi_ := List.mem_of_getElem? (i := 95) rfl
theorem mi_96 : (Cond.laysFinal Rn_P "SharedTrees$Maps" "counts" "[I" : Cond) ∈ Wi_ := List.mem_of_getElem? (i := 96) rfl
theorem mi_97 : (Cond.lays Rn_P "SharedTrees$Maps" "total" "I" : Cond) ∈ Wi_ := List.mem_of_getElem? (i := 97) rfl
theorem mi_98 : (Cond.laysFinal Rn_R "SharedTreesModel" "stamps" "[I" : Cond) ∈ Wi_ := List.mem_of_getElem? (i := 98) rfl
theorem mi_99 : (Cond.laysFinal Rn_R "SharedTreesModel" "kept" "[I" : Cond) ∈ Wi_ := List.mem_of_getElem? (i := 99) rfl
theorem mi_100 : (Cond.laysFinal Rn_R "SharedTreesModel" "counts" "[I" : Cond) ∈ Wi_ := List.mem_of_getElem? (i := 100) rfl
theorem mi_101 : (Cond.laysFinal Rn_R "SharedTreesModel" "keptCounts" "[I" : Cond) ∈ Wi_ := List.mem_of_getElem? (i := 101) rfl
theorem mi_102 : (Cond.arrayClass .int : Cond) ∈ Wi_ := List.mem_of_getElem? (i := 102) rfl
theorem mi_103 : (Cond.arrayClass .boolean : Cond) ∈ Wi_ := List.mem_of_getElem? (i := 103) rfl
theorem wj_g : Wj_.all (fun w => w.onTables && w.keeps) = true := by decide +kernel
theorem wi_good : ∀ w ∈ Wi_, (w.onTables && w.keeps) = true ∨ ∃ ty, w = .arrayClass ty := fun w hw => by
  rcases List.mem_append.mp hw with h | h
  · exact Or.inl (List.all_eq_true.mp wj_g w h)
  · simp only [List.mem_cons, List.not_mem_nil, or_false] at h
    rcases h with h | h
    · exact Or.inr ⟨_, h⟩
    · exact Or.inr ⟨_, h⟩
theorem wi_in {v : Cond} (hv : v ∈ Wi_) : GoodIn Wi_ (v :: Wi_) := fun q hq => by
  rcases List.mem_cons.mp hq with rfl | h
  · exact ⟨hv, wi_good _ hv⟩
  · exact ⟨h, wi_good _ h⟩
theorem ii_S : ∀ w ∈ u_ws Rn_S Fn_S 5, w ∈ Wi_ := by decide +kernel
theorem ii_B : ∀ w ∈ u_ws Rn_B Fn_B 8, w ∈ Wi_ := by decide +kernel
theorem ii_T : ∀ w ∈ u_ws Rn_T Fn_T 3, w ∈ Wi_ := by decide +kernel
theorem ii_I : ∀ w ∈ u_ws Rn_I Fn_I 7, w ∈ Wi_ := by decide +kernel
theorem ii_P : ∀ w ∈ u_ws Rn_P Fn_P 3, w ∈ Wi_ := by decide +kernel
theorem ii_R : ∀ w ∈ u_ws Rn_R Fn_R 4, w ∈ Wi_ := by decide +kernel
def nil_ : List (String × Nat × MethodName) := [(Rn_S, 45, yn_P_init), (Rn_T, 19, yn_S_leastEntries), (Rn_I, 33, yn_S_leastEntries)]
def NI_ (U : State) : Prop := ∀ q ∈ nil_, va_Nw (.methodLinkNest q.1 q.2.1 q.2.2 nh_) U
theorem ni_0 : (Rn_S, 45, yn_P_init) ∈ nil_ := List.mem_of_getElem? (i := 0) rfl
theorem ni_1 : (Rn_T, 19, yn_S_leastEntries) ∈ nil_ := List.mem_of_getElem? (i := 1) rfl
theorem ni_2 : (Rn_I, 33, yn_S_leastEntries) ∈ nil_ := List.mem_of_getElem? (i := 2) rfl
theorem NI_moved {s U : State} (hW : s.WarmedH U.vm) (h : NI_ s) : NI_ U := fun q hq => va_Nw.warmM hW (h q hq)
theorem NI_same {s U : State} (e : s.vm = U.vm) (h : NI_ s) : NI_ U := fun q hq => va_Nw.same rfl e (h q hq)
theorem mem_pl {big ws : List Cond} (is : List Nat) (h : is.filterMap (fun i => big[i]?) = ws) : ∀ w ∈ ws, w ∈ big := fun w hw => by
  subst h
  obtain ⟨i, _, hi⟩ := List.mem_filterMap.mp hw
  exact List.mem_of_getElem? hi
set_option maxRecDepth 100000 in
theorem wk_tbl : ∀ w ∈ Wk_, w ∈ lw_tbl := mem_pl [172, 170, 171, 26, 175, 173, 174, 179, 178, 176, 177, 151, 153, 89, 191, 188, 189, 190, 28, 56, 187, 184, 185, 186, 54, 57, 203, 200, 201, 202, 204, 43, 27, 44, 58, 199, 196, 197, 198, 213, 210, 212, 1, 217, 214, 215, 216, 59, 209, 206, 207, 208, 205, 46, 47, 195, 192, 194, 0, 29, 183, 180, 181, 182, 55, 233, 230, 231, 232, 234, 61, 60, 225, 235, 223, 224, 240, 242, 241, 33, 239, 236, 238, 2, 251, 248, 249, 250, 243, 247, 244, 245, 246, 229, 226, 227, 228, 263, 260, 261, 262, 271, 268, 270, 5, 255, 252, 254, 3, 275, 272, 273, 274, 276, 90, 222, 91, 285, 267, 286, 265, 266, 284, 281, 282, 283, 264, 280, 277, 279, 6, 259, 256, 258, 4, 290, 287, 289, 7, 221, 218, 219, 220, 293, 291, 292, 169, 474, 472, 473, 32, 477, 475, 476, 481, 480, 478, 479, 455, 457, 485, 482, 484, 24, 471, 298, 167, 168, 297, 490, 469, 470, 489, 302, 494, 314, 311, 313, 8, 318, 315, 316, 317, 330, 327, 329, 10, 326, 323, 324, 325, 322, 319, 321, 9, 334, 331, 333, 11, 310, 307, 308, 309, 306, 499, 492, 493, 498, 346, 343, 345, 12, 342, 339, 340, 341, 338, 504, 496, 497, 503, 350, 508, 150, 359, 368, 367, 364, 366, 14, 363, 360, 361, 362, 358, 355, 357, 13, 354, 512, 372, 517, 501, 502, 516, 154, 380, 377, 379, 15, 376, 454, 458, 456, 521, 384, 525, 388, 529, 152, 106, 405, 406, 407, 109, 107, 416, 415, 412, 414, 19, 30, 110, 111, 422, 108, 411, 408, 410, 18, 427, 424, 426, 21, 421, 418, 420, 20, 404, 401, 403, 17, 400, 397, 399, 16, 444, 112, 443, 440, 442, 23, 435, 432, 433, 434, 439, 436, 437, 438, 431, 428, 430, 22, 396, 393, 394, 395, 392, 533, 155, 157, 159, 161, 163, 62, 64, 66, 68, 70, 72, 74, 76, 92, 94, 96, 113, 115, 117, 119, 121, 123, 125, 143, 145, 147, 459, 461, 463, 465] rfl
set_option maxRecDepth 100000 in
theorem wi_tbl : ∀ w ∈ Wi_, w ∈ lw_tbl := mem_pl [41, 40, 39, 53, 85, 104, 134, 453, 48, 80, 99, 129, 49, 81, 100, 130, 26, 28, 29, 30, 31, 32, 27, 150, 151, 152, 153, 154, 55, 56, 57, 60, 61, 54, 58, 59, 89, 90, 91, 109, 110, 111, 112, 106, 107, 108, 135, 138, 455, 456, 457, 458, 50, 82, 101, 51, 52, 83, 84, 102, 103, 132, 133, 42, 43, 44, 45, 46, 47, 87, 88, 454, 155, 157, 159, 161, 163, 62, 64, 66, 68, 70, 72, 74, 76, 92, 94, 96, 113, 115, 117, 119, 121, 123, 125, 143, 145, 147, 459, 461, 463, 465, 79, 128] rfl
