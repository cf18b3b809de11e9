def lw_all : List Cond := lw_tbl.filter goodWord
theorem q_0 : (Cond.selects RX2 yX2_stateAt yX2_stateAt) ∈ lw_all := List.mem_filter.mpr ⟨List.mem_of_getElem? (i := 0) rfl, rfl⟩
theorem q_1 : (Cond.selects RX4 yX4_toldByFirstSide yX4_toldByFirstSide) ∈ lw_all := List.mem_filter.mpr ⟨List.mem_of_getElem? (i := 1) rfl, rfl⟩
theorem q_2 : (Cond.selects RX4 yX4_toldBySecondSide yX4_toldBySecondSide) ∈ lw_all := List.mem_filter.mpr ⟨List.mem_of_getElem? (i := 2) rfl, rfl⟩
theorem q_3 : (Cond.selects RX1 yX1_makePairAgree yX1_makePairAgree) ∈ lw_all := List.mem_filter.mpr ⟨List.mem_of_getElem? (i := 3) rfl, rfl⟩
theorem q_4 : (Cond.selects RX5 yX5_repairError yX5_repairError) ∈ lw_all := List.mem_filter.mpr ⟨List.mem_of_getElem? (i := 4) rfl, rfl⟩
theorem q_5 : (Cond.selects RX0 yX0_measureDistances yX0_measureDistances) ∈ lw_all := List.mem_filter.mpr ⟨List.mem_of_getElem? (i := 5) rfl, rfl⟩
theorem q_6 : (Cond.selects RX0 yX0_comeNearerByAll yX0_comeNearerByAll) ∈ lw_all := List.mem_filter.mpr ⟨List.mem_of_getElem? (i := 6) rfl, rfl⟩
theorem q_7 : (Cond.selects RX0 yX0_comeNearer yX0_comeNearer) ∈ lw_all := List.mem_filter.mpr ⟨List.mem_of_getElem? (i := 7) rfl, rfl⟩
theorem q_8 : (Cond.selects RX0 yX0_leaveThrough yX0_leaveThrough) ∈ lw_all := List.mem_filter.mpr ⟨List.mem_of_getElem? (i := 8) rfl, rfl⟩
theorem q_9 : (Cond.selects RX4 yX4_readyToLeave yX4_readyToLeave) ∈ lw_all := List.mem_filter.mpr ⟨List.mem_of_getElem? (i := 9) rfl, rfl⟩
theorem q_10 : (Cond.selects RX4 yX4_roomLeft yX4_roomLeft) ∈ lw_all := List.mem_filter.mpr ⟨List.mem_of_getElem? (i := 10) rfl, rfl⟩
theorem q_11 : (Cond.selects RX4 yX4_moveTo yX4_moveTo) ∈ lw_all := List.mem_filter.mpr ⟨List.mem_of_getElem? (i := 11) rfl, rfl⟩
theorem q_12 : (Cond.selects RX5 yX5_passError yX5_passError) ∈ lw_all := List.mem_filter.mpr ⟨List.mem_of_getElem? (i := 12) rfl, rfl⟩
set_option maxRecDepth 100000 in
theorem q_13 : (Cond.initialized RL) ∈ lw_all := List.mem_filter.mpr ⟨List.mem_of_getElem? (i := 13) rfl, rfl⟩
set_option maxRecDepth 100000 in
theorem q_14 : (Cond.initialized RX5) ∈ lw_all := List.mem_filter.mpr ⟨List.mem_of_getElem? (i := 14) rfl, rfl⟩
set_option maxRecDepth 100000 in
theorem q_15 : (Cond.initialized RX4) ∈ lw_all := List.mem_filter.mpr ⟨List.mem_of_getElem? (i := 15) rfl, rfl⟩
set_option maxRecDepth 100000 in
theorem q_16 : (Cond.initialized RX1) ∈ lw_all := List.mem_filter.mpr ⟨List.mem_of_getElem? (i := 16) rfl, rfl⟩
set_option maxRecDepth 100000 in
theorem q_17 : (Cond.initialized RX2) ∈ lw_all := List.mem_filter.mpr ⟨List.mem_of_getElem? (i := 17) rfl, rfl⟩
set_option maxRecDepth 100000 in
theorem q_18 : (Cond.initialized RX0) ∈ lw_all := List.mem_filter.mpr ⟨List.mem_of_getElem? (i := 18) rfl, rfl⟩
set_option maxRecDepth 100000 in
theorem q_19 : (Cond.initialized RX3) ∈ lw_all := List.mem_filter.mpr ⟨List.mem_of_getElem? (i := 19) rfl, rfl⟩
set_option maxRecDepth 100000 in
theorem q_20 : (Cond.initialized "java/lang/Math") ∈ lw_all := List.mem_filter.mpr ⟨List.mem_of_getElem? (i := 20) rfl, rfl⟩
set_option maxRecDepth 100000 in
theorem q_21 : (Cond.classLink RL (10 : Nat) "HallStiles") ∈ lw_all := List.mem_filter.mpr ⟨List.mem_of_getElem? (i := 21) rfl, rfl⟩
set_option maxRecDepth 100000 in
theorem q_22 : (Cond.instantiable RX5 (7 : Nat)) ∈ lw_all := List.mem_filter.mpr ⟨List.mem_of_getElem? (i := 22) rfl, rfl⟩
set_option maxRecDepth 100000 in
theorem q_23 : (Cond.methodLink RL (86 : Nat) yX5_init) ∈ lw_all := List.mem_filter.mpr ⟨List.mem_of_getElem? (i := 23) rfl, rfl⟩
set_option maxRecDepth 100000 in
theorem q_24 : (Cond.instanceMethod yX5_init) ∈ lw_all := List.mem_filter.mpr ⟨List.mem_of_getElem? (i := 24) rfl, rfl⟩
set_option maxRecDepth 100000 in
theorem q_25 : (Cond.code yX5_init prog_1_method_1_code (1 : Nat) (Option.none : Option FieldType)) ∈ lw_all := List.mem_filter.mpr ⟨List.mem_of_getElem? (i := 25) rfl, rfl⟩
set_option maxRecDepth 100000 in
theorem q_26 : (Cond.methodLink RX5 (1 : Nat) (⟨"java/lang/Object", "<init>", "()V"⟩ : MethodName)) ∈ lw_all := List.mem_filter.mpr ⟨List.mem_of_getElem? (i := 26) rfl, rfl⟩
set_option maxRecDepth 100000 in
theorem q_27 : (Cond.instanceMethod (⟨"java/lang/Object", "<init>", "()V"⟩ : MethodName)) ∈ lw_all := List.mem_filter.mpr ⟨List.mem_of_getElem? (i := 27) rfl, rfl⟩
set_option maxRecDepth 100000 in
theorem q_28 : (Cond.code (⟨"java/lang/Object", "<init>", "()V"⟩ : MethodName) object_method_1_code (1 : Nat) (Option.none : Option FieldType)) ∈ lw_all := List.mem_filter.mpr ⟨List.mem_of_getElem? (i := 28) rfl, rfl⟩
set_option maxRecDepth 100000 in
theorem q_29 : (Cond.classLink RX5 (7 : Nat) "HallStiles$State") ∈ lw_all := List.mem_filter.mpr ⟨List.mem_of_getElem? (i := 29) rfl, rfl⟩
set_option maxRecDepth 100000 in
theorem q_30 : (Cond.instantiable RX4 (11 : Nat)) ∈ lw_all := List.mem_filter.mpr ⟨List.mem_of_getElem? (i := 30) rfl, rfl⟩
set_option maxRecDepth 100000 in
theorem q_31 : (Cond.methodLink RX5 (9 : Nat) yX4_init) ∈ lw_all := List.mem_filter.mpr ⟨List.mem_of_getElem? (i := 31) rfl, rfl⟩
set_option maxRecDepth 100000 in
theorem q_32 : (Cond.instanceMethod yX4_init) ∈ lw_all := List.mem_filter.mpr ⟨List.mem_of_getElem? (i := 32) rfl, rfl⟩
set_option maxRecDepth 100000 in
theorem q_33 : (Cond.code yX4_init prog_6_method_1_code (2 : Nat) (Option.none : Option FieldType)) ∈ lw_all := List.mem_filter.mpr ⟨List.mem_of_getElem? (i := 33) rfl, rfl⟩
set_option maxRecDepth 100000 in
theorem q_34 : (Cond.methodLink RX4 (3 : Nat) (⟨"java/lang/Object", "<init>", "()V"⟩ : MethodName)) ∈ lw_all := List.mem_filter.mpr ⟨List.mem_of_getElem? (i := 34) rfl, rfl⟩
set_option maxRecDepth 100000 in
theorem q_35 : (Cond.classLink RX4 (30 : Nat) "HallStiles$Counters") ∈ lw_all := List.mem_filter.mpr ⟨List.mem_of_getElem? (i := 35) rfl, rfl⟩
set_option maxRecDepth 100000 in
theorem q_36 : (Cond.instantiable RX1 (4 : Nat)) ∈ lw_all := List.mem_filter.mpr ⟨List.mem_of_getElem? (i := 36) rfl, rfl⟩
set_option maxRecDepth 100000 in
theorem q_38 : (Cond.instanceMethod yX1_init) ∈ lw_all := List.mem_filter.mpr ⟨List.mem_of_getElem? (i := 38) rfl, rfl⟩
set_option maxRecDepth 100000 in
theorem q_39 : (Cond.code yX1_init prog_3_method_1_code (1 : Nat) (Option.none : Option FieldType)) ∈ lw_all := List.mem_filter.mpr ⟨List.mem_of_getElem? (i := 39) rfl, rfl⟩
set_option maxRecDepth 100000 in
theorem q_40 : (Cond.methodLink RX1 (3 : Nat) (⟨"java/lang/Object", "<init>", "()V"⟩ : MethodName)) ∈ lw_all := List.mem_filter.mpr ⟨List.mem_of_getElem? (i := 40) rfl, rfl⟩
set_option maxRecDepth 100000 in
theorem q_41 : (Cond.fieldLink RX1 (9 : Nat) "HallStiles$Counters" "counts" "[I") ∈ lw_all := List.mem_filter.mpr ⟨List.mem_of_getElem? (i := 41) rfl, rfl⟩
set_option maxRecDepth 100000 in
theorem q_43 : (Cond.fieldLink RX1 (15 : Nat) "HallStiles$Counters" "slips" "[I") ∈ lw_all := List.mem_filter.mpr ⟨List.mem_of_getElem? (i := 43) rfl, rfl⟩
set_option maxRecDepth 100000 in
theorem q_45 : (Cond.fieldLink RX1 (18 : Nat) "HallStiles$Counters" "seen" "[I") ∈ lw_all := List.mem_filter.mpr ⟨List.mem_of_getElem? (i := 45) rfl, rfl⟩
set_option maxRecDepth 100000 in
theorem q_46 : (Cond.fieldLink RX1 (21 : Nat) "HallStiles$Counters" "missed" "[I") ∈ lw_all := List.mem_filter.mpr ⟨List.mem_of_getElem? (i := 46) rfl, rfl⟩
set_option maxRecDepth 100000 in
theorem q_48 : (Cond.laysFinal RX1 "HallStiles$Counters" "counts" "[I") ∈ lw_all := List.mem_filter.mpr ⟨List.mem_of_getElem? (i := 48) rfl, rfl⟩
set_option maxRecDepth 100000 in
theorem q_50 : (Cond.laysFinal RX1 "HallStiles$Counters" "slips" "[I") ∈ lw_all := List.mem_filter.mpr ⟨List.mem_of_getElem? (i := 50) rfl, rfl⟩
set_option maxRecDepth 100000 in
theorem q_52 : (Cond.laysFinal RX1 "HallStiles$Counters" "seen" "[I") ∈ lw_all := List.mem_filter.mpr ⟨List.mem_of_getElem? (i := 52) rfl, rfl⟩
set_option maxRecDepth 100000 in
theorem q_54 : (Cond.laysFinal RX1 "HallStiles$Counters" "missed" "[I") ∈ lw_all := List.mem_filter.mpr ⟨List.mem_of_getElem? (i := 54) rfl, rfl⟩
set_option maxRecDepth 100000 in
theorem q_57 : (Cond.arrayClass FieldType.int) ∈ lw_all := List.mem_filter.mpr ⟨List.mem_of_getElem? (i := 57) rfl, rfl⟩
set_option maxRecDepth 100000 in
theorem q_58 : (Cond.fieldLink RX4 (9 : Nat) "HallStiles$State" "rooms" "[I") ∈ lw_all := List.mem_filter.mpr ⟨List.mem_of_getElem? (i := 58) rfl, rfl⟩
set_option maxRecDepth 100000 in
theorem q_60 : (Cond.fieldLink RX4 (15 : Nat) "HallStiles$State" "people" "[I") ∈ lw_all := List.mem_filter.mpr ⟨List.mem_of_getElem? (i := 60) rfl, rfl⟩
set_option maxRecDepth 100000 in
theorem q_62 : (Cond.fieldLink RX4 (18 : Nat) "HallStiles$State" "firsts" "[I") ∈ lw_all := List.mem_filter.mpr ⟨List.mem_of_getElem? (i := 62) rfl, rfl⟩
set_option maxRecDepth 100000 in
theorem q_64 : (Cond.fieldLink RX4 (21 : Nat) "HallStiles$State" "seconds" "[I") ∈ lw_all := List.mem_filter.mpr ⟨List.mem_of_getElem? (i := 64) rfl, rfl⟩
set_option maxRecDepth 100000 in
theorem q_66 : (Cond.fieldLink RX4 (24 : Nat) "HallStiles$State" "ways" "[I") ∈ lw_all := List.mem_filter.mpr ⟨List.mem_of_getElem? (i := 66) rfl, rfl⟩
set_option maxRecDepth 100000 in
theorem q_68 : (Cond.fieldLink RX4 (27 : Nat) "HallStiles$State" "repairs" "[I") ∈ lw_all := List.mem_filter.mpr ⟨List.mem_of_getElem? (i := 68) rfl, rfl⟩
set_option maxRecDepth 100000 in
theorem q_70 : (Cond.fieldLink RX4 (33 : Nat) "HallStiles$State" "counters" "LHallStiles$Counters;") ∈ lw_all := List.mem_filter.mpr ⟨List.mem_of_getElem? (i := 70) rfl, rfl⟩
set_option maxRecDepth 100000 in
theorem q_72 : (Cond.fieldLink RX4 (37 : Nat) "HallStiles$State" "stiles" "I") ∈ lw_all := List.mem_filter.mpr ⟨List.mem_of_getElem? (i := 72) rfl, rfl⟩
set_option maxRecDepth 100000 in
theorem q_75 : (Cond.fieldLink RX4 (41 : Nat) "HallStiles$State" "rate" "I") ∈ lw_all := List.mem_filter.mpr ⟨List.mem_of_getElem? (i := 75) rfl, rfl⟩
set_option maxRecDepth 100000 in
theorem q_78 : (Cond.fieldLink RX4 (44 : Nat) "HallStiles$State" "repairHours" "I") ∈ lw_all := List.mem_filter.mpr ⟨List.mem_of_getElem? (i := 78) rfl, rfl⟩
set_option maxRecDepth 100000 in
theorem q_80 : (Cond.fieldLink RX4 (47 : Nat) "HallStiles$State" "clock" "I") ∈ lw_all := List.mem_filter.mpr ⟨List.mem_of_getElem? (i := 80) rfl, rfl⟩
set_option maxRecDepth 100000 in
theorem q_82 : (Cond.laysFinal RX4 "HallStiles$State" "rooms" "[I") ∈ lw_all := List.mem_filter.mpr ⟨List.mem_of_getElem? (i := 82) rfl, rfl⟩
set_option maxRecDepth 100000 in
theorem q_84 : (Cond.laysFinal RX4 "HallStiles$State" "people" "[I") ∈ lw_all := List.mem_filter.mpr ⟨List.mem_of_getElem? (i := 84) rfl, rfl⟩
set_option maxRecDepth 100000 in
theorem q_86 : (Cond.laysFinal RX4 "HallStiles$State" "firsts" "[I") ∈ lw_all := List.mem_filter.mpr ⟨List.mem_of_getElem? (i := 86) rfl, rfl⟩
set_option maxRecDepth 100000 in
theorem q_88 : (Cond.laysFinal RX4 "HallStiles$State" "seconds" "[I") ∈ lw_all := List.mem_filter.mpr ⟨List.mem_of_getElem? (i := 88) rfl, rfl⟩
set_option maxRecDepth 100000 in
theorem q_90 : (Cond.laysFinal RX4 "HallStiles$State" "ways" "[I") ∈ lw_all := List.mem_filter.mpr ⟨List.mem_of_getElem? (i := 90) rfl, rfl⟩
set_option maxRecDepth 100000 in
theorem q_92 : (Cond.laysFinal RX4 "HallStiles$State" "repairs" "[I") ∈ lw_all := List.mem_filter.mpr ⟨List.mem_of_getElem? (i := 92) rfl, rfl⟩
set_option maxRecDepth 100000 in
theorem q_94 : (Cond.laysFinal RX4 "HallStiles$State" "counters" "LHallStiles$Counters;") ∈ lw_all := List.mem_filter.mpr ⟨List.mem_of_getElem? (i := 94) rfl, rfl⟩
set_option maxRecDepth 100000 in
theorem q_96 : (Cond.lays RX4 "HallStiles$State" "stiles" "I") ∈ lw_all := List.mem_filter.mpr ⟨List.mem_of_getElem? (i := 96) rfl, rfl⟩
set_option maxRecDepth 100000 in
theorem q_98 : (Cond.lays RX4 "HallStiles$State" "rate" "I") ∈ lw_all := List.mem_filter.mpr ⟨List.mem_of_getElem? (i := 98) rfl, rfl⟩
set_option maxRecDepth 100000 in
theorem q_100 : (Cond.lays RX4 "HallStiles$State" "repairHours" "I") ∈ lw_all := List.mem_filter.mpr ⟨List.mem_of_getElem? (i := 100) rfl, rfl⟩
set_option maxRecDepth 100000 in
theorem q_102 : (Cond.lays RX4 "HallStiles$State" "clock" "I") ∈ lw_all := List.mem_filter.mpr ⟨List.mem_of_getElem? (i := 102) rfl, rfl⟩
set_option maxRecDepth 100000 in
theorem q_105 : (Cond.classLink RX5 (22 : Nat) "HallStiles$History") ∈ lw_all := List.mem_filter.mpr ⟨List.mem_of_getElem? (i := 105) rfl, rfl⟩
set_option maxRecDepth 100000 in
theorem q_106 : (Cond.instantiable RX2 (3 : Nat)) ∈ lw_all := List.mem_filter.mpr ⟨List.mem_of_getElem? (i := 106) rfl, rfl⟩
set_option maxRecDepth 100000 in
theorem q_107 : (Cond.methodLink RX5 (24 : Nat) yX2_init) ∈ lw_all := List.mem_filter.mpr ⟨List.mem_of_getElem? (i := 107) rfl, rfl⟩
set_option maxRecDepth 100000 in
theorem q_108 : (Cond.instanceMethod yX2_init) ∈ lw_all := List.mem_filter.mpr ⟨List.mem_of_getElem? (i := 108) rfl, rfl⟩
set_option maxRecDepth 100000 in
theorem q_109 : (Cond.code yX2_init prog_4_method_1_code (2 : Nat) (Option.none : Option FieldType)) ∈ lw_all := List.mem_filter.mpr ⟨List.mem_of_getElem? (i := 109) rfl, rfl⟩
set_option maxRecDepth 100000 in
theorem q_110 : (Cond.methodLink RX2 (3 : Nat) (⟨"java/lang/Object", "<init>", "()V"⟩ : MethodName)) ∈ lw_all := List.mem_filter.mpr ⟨List.mem_of_getElem? (i := 110) rfl, rfl⟩
set_option maxRecDepth 100000 in
theorem q_111 : (Cond.classLink RX2 (9 : Nat) "HallStiles$State") ∈ lw_all := List.mem_filter.mpr ⟨List.mem_of_getElem? (i := 111) rfl, rfl⟩
theorem ao_tbl : (Cond.arrayOver (FieldType.object "HallStiles$State")) ∈ lw_tbl := List.mem_of_getElem? (i := 112) rfl
set_option maxRecDepth 100000 in
theorem q_113 : (Cond.methodLink RX2 (24 : Nat) yX4_init) ∈ lw_all := List.mem_filter.mpr ⟨List.mem_of_getElem? (i := 113) rfl, rfl⟩
set_option maxRecDepth 100000 in
theorem q_114 : (Cond.fieldLink RX2 (11 : Nat) "HallStiles$History" "ring" "[LHallStiles$State;") ∈ lw_all := List.mem_filter.mpr ⟨List.mem_of_getElem? (i := 114) rfl, rfl⟩
set_option maxRecDepth 100000 in
theorem q_115 : (Cond.fieldLink RX2 (17 : Nat) "HallStiles$History" "oldest" "I") ∈ lw_all := List.mem_filter.mpr ⟨List.mem_of_getElem? (i := 115) rfl, rfl⟩
set_option maxRecDepth 100000 in
theorem q_116 : (Cond.fieldLink RX2 (21 : Nat) "HallStiles$History" "size" "I") ∈ lw_all := List.mem_filter.mpr ⟨List.mem_of_getElem? (i := 116) rfl, rfl⟩
set_option maxRecDepth 100000 in
theorem q_118 : (Cond.laysFinal RX2 "HallStiles$History" "ring" "[LHallStiles$State;") ∈ lw_all := List.mem_filter.mpr ⟨List.mem_of_getElem? (i := 118) rfl, rfl⟩
set_option maxRecDepth 100000 in
theorem q_120 : (Cond.lays RX2 "HallStiles$History" "oldest" "I") ∈ lw_all := List.mem_filter.mpr ⟨List.mem_of_getElem? (i := 120) rfl, rfl⟩
set_option maxRecDepth 100000 in
theorem q_122 : (Cond.lays RX2 "HallStiles$History" "size" "I") ∈ lw_all := List.mem_filter.mpr ⟨List.mem_of_getElem? (i := 122) rfl, rfl⟩
set_option maxRecDepth 100000 in
theorem q_125 : (Cond.classLink RX5 (29 : Nat) "HallStiles$Closing") ∈ lw_all := List.mem_filter.mpr ⟨List.mem_of_getElem? (i := 125) rfl, rfl⟩
set_option maxRecDepth 100000 in
theorem q_126 : (Cond.instantiable RX0 (1 : Nat)) ∈ lw_all := List.mem_filter.mpr ⟨List.mem_of_getElem? (i := 126) rfl, rfl⟩
set_option maxRecDepth 100000 in
theorem q_128 : (Cond.instanceMethod yX0_init) ∈ lw_all := List.mem_filter.mpr ⟨List.mem_of_getElem? (i := 128) rfl, rfl⟩
set_option maxRecDepth 100000 in
theorem q_129 : (Cond.code yX0_init prog_2_method_1_code (1 : Nat) (Option.none : Option FieldType)) ∈ lw_all := List.mem_filter.mpr ⟨List.mem_of_getElem? (i := 129) rfl, rfl⟩
set_option maxRecDepth 100000 in
theorem q_130 : (Cond.methodLink RX0 (3 : Nat) (⟨"java/lang/Object", "<init>", "()V"⟩ : MethodName)) ∈ lw_all := List.mem_filter.mpr ⟨List.mem_of_getElem? (i := 130) rfl, rfl⟩
set_option maxRecDepth 100000 in
theorem q_131 : (Cond.fieldLink RX0 (9 : Nat) "HallStiles$Closing" "distances" "[I") ∈ lw_all := List.mem_filter.mpr ⟨List.mem_of_getElem? (i := 131) rfl, rfl⟩
set_option maxRecDepth 100000 in
theorem q_132 : (Cond.laysFinal RX0 "HallStiles$Closing" "distances" "[I") ∈ lw_all := List.mem_filter.mpr ⟨List.mem_of_getElem? (i := 132) rfl, rfl⟩
set_option maxRecDepth 100000 in
theorem q_135 : (Cond.classLink RX5 (36 : Nat) "HallStiles$Script") ∈ lw_all := List.mem_filter.mpr ⟨List.mem_of_getElem? (i := 135) rfl, rfl⟩
set_option maxRecDepth 100000 in
theorem q_136 : (Cond.instantiable RX3 (6 : Nat)) ∈ lw_all := List.mem_filter.mpr ⟨List.mem_of_getElem? (i := 136) rfl, rfl⟩
set_option maxRecDepth 100000 in
theorem q_138 : (Cond.instanceMethod yX3_init) ∈ lw_all := List.mem_filter.mpr ⟨List.mem_of_getElem? (i := 138) rfl, rfl⟩
set_option maxRecDepth 100000 in
theorem q_139 : (Cond.code yX3_init prog_5_method_1_code (1 : Nat) (Option.none : Option FieldType)) ∈ lw_all := List.mem_filter.mpr ⟨List.mem_of_getElem? (i := 139) rfl, rfl⟩
set_option maxRecDepth 100000 in
theorem q_140 : (Cond.methodLink RX3 (3 : Nat) (⟨"java/lang/Object", "<init>", "()V"⟩ : MethodName)) ∈ lw_all := List.mem_filter.mpr ⟨List.mem_of_getElem? (i := 140) rfl, rfl⟩
set_option maxRecDepth 100000 in
theorem q_141 : (Cond.fieldLink RX3 (9 : Nat) "HallStiles$Script" "characters" "[I") ∈ lw_all := List.mem_filter.mpr ⟨List.mem_of_getElem? (i := 141) rfl, rfl⟩
set_option maxRecDepth 100000 in
theorem q_142 : (Cond.fieldLink RX3 (15 : Nat) "HallStiles$Script" "length" "I") ∈ lw_all := List.mem_filter.mpr ⟨List.mem_of_getElem? (i := 142) rfl, rfl⟩
set_option maxRecDepth 100000 in
theorem q_144 : (Cond.fieldLink RX3 (19 : Nat) "HallStiles$Script" "place" "I") ∈ lw_all := List.mem_filter.mpr ⟨List.mem_of_getElem? (i := 144) rfl, rfl⟩
set_option maxRecDepth 100000 in
theorem q_145 : (Cond.fieldLink RX3 (22 : Nat) "HallStiles$Script" "orderStile" "I") ∈ lw_all := List.mem_filter.mpr ⟨List.mem_of_getElem? (i := 145) rfl, rfl⟩
set_option maxRecDepth 100000 in
theorem q_146 : (Cond.fieldLink RX3 (25 : Nat) "HallStiles$Script" "orderKind" "I") ∈ lw_all := List.mem_filter.mpr ⟨List.mem_of_getElem? (i := 146) rfl, rfl⟩
set_option maxRecDepth 100000 in
theorem q_147 : (Cond.fieldLink RX3 (28 : Nat) "HallStiles$Script" "orderNumber" "I") ∈ lw_all := List.mem_filter.mpr ⟨List.mem_of_getElem? (i := 147) rfl, rfl⟩
set_option maxRecDepth 100000 in
theorem q_148 : (Cond.laysFinal RX3 "HallStiles$Script" "characters" "[I") ∈ lw_all := List.mem_filter.mpr ⟨List.mem_of_getElem? (i := 148) rfl, rfl⟩
set_option maxRecDepth 100000 in
theorem q_150 : (Cond.lays RX3 "HallStiles$Script" "length" "I") ∈ lw_all := List.mem_filter.mpr ⟨List.mem_of_getElem? (i := 150) rfl, rfl⟩
set_option maxRecDepth 100000 in
theorem q_152 : (Cond.lays RX3 "HallStiles$Script" "place" "I") ∈ lw_all := List.mem_filter.mpr ⟨List.mem_of_getElem? (i := 152) rfl, rfl⟩
set_option maxRecDepth 100000 in
theorem q_154 : (Cond.lays RX3 "HallStiles$Script" "orderStile" "I") ∈ lw_all := List.mem_filter.mpr ⟨List.mem_of_getElem? (i := 154) rfl, rfl⟩
set_option maxRecDepth 100000 in
theorem q_156 : (Cond.lays RX3 "HallStiles$Script" "orderKind" "I") ∈ lw_all := List.mem_filter.mpr ⟨List.mem_of_getElem? (i := 156) rfl, rfl⟩
set_option maxRecDepth 100000 in
theorem q_158 : (Cond.lays RX3 "HallStiles$Script" "orderNumber" "I") ∈ lw_all := List.mem_filter.mpr ⟨List.mem_of_getElem? (i := 158) rfl, rfl⟩
set_option maxRecDepth 100000 in
theorem q_161 : (Cond.fieldLink RX5 (10 : Nat) "HallStiles" "now" "LHallStiles$State;") ∈ lw_all := List.mem_filter.mpr ⟨List.mem_of_getElem? (i := 161) rfl, rfl⟩
set_option maxRecDepth 100000 in
theorem q_162 : (Cond.fieldLink RX5 (16 : Nat) "HallStiles" "snapshot" "LHallStiles$State;") ∈ lw_all := List.mem_filter.mpr ⟨List.mem_of_getElem? (i := 162) rfl, rfl⟩
set_option maxRecDepth 100000 in
theorem q_163 : (Cond.fieldLink RX5 (19 : Nat) "HallStiles" "trial" "LHallStiles$State;") ∈ lw_all := List.mem_filter.mpr ⟨List.mem_of_getElem? (i := 163) rfl, rfl⟩
set_option maxRecDepth 100000 in
theorem q_164 : (Cond.fieldLink RX5 (25 : Nat) "HallStiles" "history" "LHallStiles$History;") ∈ lw_all := List.mem_filter.mpr ⟨List.mem_of_getElem? (i := 164) rfl, rfl⟩
set_option maxRecDepth 100000 in
theorem q_165 : (Cond.fieldLink RX5 (32 : Nat) "HallStiles" "closing" "LHallStiles$Closing;") ∈ lw_all := List.mem_filter.mpr ⟨List.mem_of_getElem? (i := 165) rfl, rfl⟩
set_option maxRecDepth 100000 in
theorem q_166 : (Cond.fieldLink RX5 (39 : Nat) "HallStiles" "script" "LHallStiles$Script;") ∈ lw_all := List.mem_filter.mpr ⟨List.mem_of_getElem? (i := 166) rfl, rfl⟩
set_option maxRecDepth 100000 in
theorem q_167 : (Cond.fieldLink RX5 (43 : Nat) "HallStiles" "hasSnapshot" "Z") ∈ lw_all := List.mem_filter.mpr ⟨List.mem_of_getElem? (i := 167) rfl, rfl⟩
set_option maxRecDepth 100000 in
theorem q_168 : (Cond.laysFinal RX5 "HallStiles" "now" "LHallStiles$State;") ∈ lw_all := List.mem_filter.mpr ⟨List.mem_of_getElem? (i := 168) rfl, rfl⟩
set_option maxRecDepth 100000 in
theorem q_170 : (Cond.laysFinal RX5 "HallStiles" "snapshot" "LHallStiles$State;") ∈ lw_all := List.mem_filter.mpr ⟨List.mem_of_getElem? (i := 170) rfl, rfl⟩
set_option maxRecDepth 100000 in
theorem q_172 : (Cond.laysFinal RX5 "HallStiles" "trial" "LHallStiles$State;") ∈ lw_all := List.mem_filter.mpr ⟨List.mem_of_getElem? (i := 172) rfl, rfl⟩
set_option maxRecDepth 100000 in
theorem q_174 : (Cond.laysFinal RX5 "HallStiles" "history" "LHallStiles$History;") ∈ lw_all := List.mem_filter.mpr ⟨List.mem_of_getElem? (i := 174) rfl, rfl⟩
set_option maxRecDepth 100000 in
theorem q_176 : (Cond.laysFinal RX5 "HallStiles" "closing" "LHallStiles$Closing;") ∈ lw_all := List.mem_filter.mpr ⟨List.mem_of_getElem? (i := 176) rfl, rfl⟩
set_option maxRecDepth 100000 in
theorem q_178 : (Cond.laysFinal RX5 "HallStiles" "script" "LHallStiles$Script;") ∈ lw_all := List.mem_filter.mpr ⟨List.mem_of_getElem? (i := 178) rfl, rfl⟩
set_option maxRecDepth 100000 in
theorem q_180 : (Cond.lays RX5 "HallStiles" "hasSnapshot" "Z") ∈ lw_all := List.mem_filter.mpr ⟨List.mem_of_getElem? (i := 180) rfl, rfl⟩
set_option maxRecDepth 100000 in
theorem q_183 : (Cond.methodLink RL (87 : Nat) yX5_undo) ∈ lw_all := List.mem_filter.mpr ⟨List.mem_of_getElem? (i := 183) rfl, rfl⟩
set_option maxRecDepth 100000 in
theorem q_184 : (Cond.instanceMethod yX5_undo) ∈ lw_all := List.mem_filter.mpr ⟨List.mem_of_getElem? (i := 184) rfl, rfl⟩
set_option maxRecDepth 100000 in
theorem q_185 : (Cond.selects RX5 yX5_undo yX5_undo) ∈ lw_all := List.mem_filter.mpr ⟨List.mem_of_getElem? (i := 185) rfl, rfl⟩
set_option maxRecDepth 100000 in
theorem q_186 : (Cond.code yX5_undo prog_1_method_16_code (1 : Nat) (Option.some FieldType.int)) ∈ lw_all := List.mem_filter.mpr ⟨List.mem_of_getElem? (i := 186) rfl, rfl⟩
set_option maxRecDepth 100000 in
theorem q_187 : (Cond.constant RX5 (170 : Nat) (-100005 : Int32)) ∈ lw_all := List.mem_filter.mpr ⟨List.mem_of_getElem? (i := 187) rfl, rfl⟩
set_option maxRecDepth 100000 in
theorem q_188 : (Cond.methodLink RX5 (184 : Nat) yX2_takeLatest) ∈ lw_all := List.mem_filter.mpr ⟨List.mem_of_getElem? (i := 188) rfl, rfl⟩
set_option maxRecDepth 100000 in
theorem q_189 : (Cond.instanceMethod yX2_takeLatest) ∈ lw_all := List.mem_filter.mpr ⟨List.mem_of_getElem? (i := 189) rfl, rfl⟩
set_option maxRecDepth 100000 in
theorem q_190 : (Cond.selects RX2 yX2_takeLatest yX2_takeLatest) ∈ lw_all := List.mem_filter.mpr ⟨List.mem_of_getElem? (i := 190) rfl, rfl⟩
set_option maxRecDepth 100000 in
theorem q_191 : (Cond.code yX2_takeLatest prog_4_method_3_code (3 : Nat) (Option.none : Option FieldType)) ∈ lw_all := List.mem_filter.mpr ⟨List.mem_of_getElem? (i := 191) rfl, rfl⟩
set_option maxRecDepth 100000 in
theorem q_192 : (Cond.methodLink RX2 (25 : Nat) yX2_stateAt) ∈ lw_all := List.mem_filter.mpr ⟨List.mem_of_getElem? (i := 192) rfl, rfl⟩
set_option maxRecDepth 100000 in
theorem q_194 : (Cond.instanceMethod yX2_stateAt) ∈ lw_all := List.mem_filter.mpr ⟨List.mem_of_getElem? (i := 194) rfl, rfl⟩
set_option maxRecDepth 100000 in
theorem q_195 : (Cond.code yX2_stateAt prog_4_method_4_code (2 : Nat) (Option.some (FieldType.object "HallStiles$State"))) ∈ lw_all := List.mem_filter.mpr ⟨List.mem_of_getElem? (i := 195) rfl, rfl⟩
set_option maxRecDepth 100000 in
theorem q_196 : (Cond.methodLink RX2 (29 : Nat) yX4_copyFrom) ∈ lw_all := List.mem_filter.mpr ⟨List.mem_of_getElem? (i := 196) rfl, rfl⟩
set_option maxRecDepth 100000 in
theorem q_197 : (Cond.instanceMethod yX4_copyFrom) ∈ lw_all := List.mem_filter.mpr ⟨List.mem_of_getElem? (i := 197) rfl, rfl⟩
set_option maxRecDepth 100000 in
theorem q_198 : (Cond.selects RX4 yX4_copyFrom yX4_copyFrom) ∈ lw_all := List.mem_filter.mpr ⟨List.mem_of_getElem? (i := 198) rfl, rfl⟩
set_option maxRecDepth 100000 in
theorem q_199 : (Cond.code yX4_copyFrom prog_6_method_2_code (2 : Nat) (Option.none : Option FieldType)) ∈ lw_all := List.mem_filter.mpr ⟨List.mem_of_getElem? (i := 199) rfl, rfl⟩
set_option maxRecDepth 100000 in
theorem q_201 : (Cond.static yX5_copyRow) ∈ lw_all := List.mem_filter.mpr ⟨List.mem_of_getElem? (i := 201) rfl, rfl⟩
set_option maxRecDepth 100000 in
theorem q_202 : (Cond.code yX5_copyRow prog_1_method_45_code (3 : Nat) (Option.none : Option FieldType)) ∈ lw_all := List.mem_filter.mpr ⟨List.mem_of_getElem? (i := 202) rfl, rfl⟩
set_option maxRecDepth 100000 in
theorem q_203 : (Cond.methodLink RX4 (54 : Nat) yX1_copyFrom) ∈ lw_all := List.mem_filter.mpr ⟨List.mem_of_getElem? (i := 203) rfl, rfl⟩
set_option maxRecDepth 100000 in
theorem q_204 : (Cond.instanceMethod yX1_copyFrom) ∈ lw_all := List.mem_filter.mpr ⟨List.mem_of_getElem? (i := 204) rfl, rfl⟩
set_option maxRecDepth 100000 in
theorem q_205 : (Cond.selects RX1 yX1_copyFrom yX1_copyFrom) ∈ lw_all := List.mem_filter.mpr ⟨List.mem_of_getElem? (i := 205) rfl, rfl⟩
set_option maxRecDepth 100000 in
theorem q_206 : (Cond.code yX1_copyFrom prog_3_method_2_code (2 : Nat) (Option.none : Option FieldType)) ∈ lw_all := List.mem_filter.mpr ⟨List.mem_of_getElem? (i := 206) rfl, rfl⟩
set_option maxRecDepth 100000 in
theorem q_208 : (Cond.methodLink RL (107 : Nat) yX5_save) ∈ lw_all := List.mem_filter.mpr ⟨List.mem_of_getElem? (i := 208) rfl, rfl⟩
set_option maxRecDepth 100000 in
theorem q_209 : (Cond.instanceMethod yX5_save) ∈ lw_all := List.mem_filter.mpr ⟨List.mem_of_getElem? (i := 209) rfl, rfl⟩
set_option maxRecDepth 100000 in
theorem q_210 : (Cond.selects RX5 yX5_save yX5_save) ∈ lw_all := List.mem_filter.mpr ⟨List.mem_of_getElem? (i := 210) rfl, rfl⟩
set_option maxRecDepth 100000 in
theorem q_211 : (Cond.code yX5_save prog_1_method_17_code (1 : Nat) (Option.some FieldType.int)) ∈ lw_all := List.mem_filter.mpr ⟨List.mem_of_getElem? (i := 211) rfl, rfl⟩
set_option maxRecDepth 100000 in
theorem q_212 : (Cond.methodLink RX5 (187 : Nat) yX4_copyFrom) ∈ lw_all := List.mem_filter.mpr ⟨List.mem_of_getElem? (i := 212) rfl, rfl⟩
set_option maxRecDepth 100000 in
theorem q_213 : (Cond.methodLink RX5 (151 : Nat) yX4_peopleOfAllHalls) ∈ lw_all := List.mem_filter.mpr ⟨List.mem_of_getElem? (i := 213) rfl, rfl⟩
set_option maxRecDepth 100000 in
theorem q_214 : (Cond.instanceMethod yX4_peopleOfAllHalls) ∈ lw_all := List.mem_filter.mpr ⟨List.mem_of_getElem? (i := 214) rfl, rfl⟩
set_option maxRecDepth 100000 in
theorem q_215 : (Cond.selects RX4 yX4_peopleOfAllHalls yX4_peopleOfAllHalls) ∈ lw_all := List.mem_filter.mpr ⟨List.mem_of_getElem? (i := 215) rfl, rfl⟩
set_option maxRecDepth 100000 in
theorem q_216 : (Cond.code yX4_peopleOfAllHalls prog_6_method_24_code (1 : Nat) (Option.some FieldType.int)) ∈ lw_all := List.mem_filter.mpr ⟨List.mem_of_getElem? (i := 216) rfl, rfl⟩
set_option maxRecDepth 100000 in
theorem q_217 : (Cond.methodLink RX4 (130 : Nat) yX4_sumOfAllHalls) ∈ lw_all := List.mem_filter.mpr ⟨List.mem_of_getElem? (i := 217) rfl, rfl⟩
set_option maxRecDepth 100000 in
theorem q_218 : (Cond.static yX4_sumOfAllHalls) ∈ lw_all := List.mem_filter.mpr ⟨List.mem_of_getElem? (i := 218) rfl, rfl⟩
set_option maxRecDepth 100000 in
theorem q_219 : (Cond.code yX4_sumOfAllHalls prog_6_method_26_code (3 : Nat) (Option.some FieldType.int)) ∈ lw_all := List.mem_filter.mpr ⟨List.mem_of_getElem? (i := 219) rfl, rfl⟩
set_option maxRecDepth 100000 in
theorem q_221 : (Cond.static yX5_at) ∈ lw_all := List.mem_filter.mpr ⟨List.mem_of_getElem? (i := 221) rfl, rfl⟩
set_option maxRecDepth 100000 in
theorem q_222 : (Cond.code yX5_at prog_1_method_42_code (2 : Nat) (Option.some FieldType.int)) ∈ lw_all := List.mem_filter.mpr ⟨List.mem_of_getElem? (i := 222) rfl, rfl⟩
set_option maxRecDepth 100000 in
theorem q_223 : (Cond.methodLink RL (35 : Nat) yX5_restore) ∈ lw_all := List.mem_filter.mpr ⟨List.mem_of_getElem? (i := 223) rfl, rfl⟩
set_option maxRecDepth 100000 in
theorem q_224 : (Cond.instanceMethod yX5_restore) ∈ lw_all := List.mem_filter.mpr ⟨List.mem_of_getElem? (i := 224) rfl, rfl⟩
set_option maxRecDepth 100000 in
theorem q_225 : (Cond.selects RX5 yX5_restore yX5_restore) ∈ lw_all := List.mem_filter.mpr ⟨List.mem_of_getElem? (i := 225) rfl, rfl⟩
set_option maxRecDepth 100000 in
theorem q_226 : (Cond.code yX5_restore prog_1_method_18_code (1 : Nat) (Option.some FieldType.int)) ∈ lw_all := List.mem_filter.mpr ⟨List.mem_of_getElem? (i := 226) rfl, rfl⟩
set_option maxRecDepth 100000 in
theorem q_227 : (Cond.constant RX5 (87 : Nat) (-100004 : Int32)) ∈ lw_all := List.mem_filter.mpr ⟨List.mem_of_getElem? (i := 227) rfl, rfl⟩
set_option maxRecDepth 100000 in
theorem q_228 : (Cond.methodLink RX5 (58 : Nat) yX2_keep) ∈ lw_all := List.mem_filter.mpr ⟨List.mem_of_getElem? (i := 228) rfl, rfl⟩
set_option maxRecDepth 100000 in
theorem q_229 : (Cond.instanceMethod yX2_keep) ∈ lw_all := List.mem_filter.mpr ⟨List.mem_of_getElem? (i := 229) rfl, rfl⟩
set_option maxRecDepth 100000 in
theorem q_230 : (Cond.selects RX2 yX2_keep yX2_keep) ∈ lw_all := List.mem_filter.mpr ⟨List.mem_of_getElem? (i := 230) rfl, rfl⟩
set_option maxRecDepth 100000 in
theorem q_231 : (Cond.code yX2_keep prog_4_method_2_code (3 : Nat) (Option.none : Option FieldType)) ∈ lw_all := List.mem_filter.mpr ⟨List.mem_of_getElem? (i := 231) rfl, rfl⟩
set_option maxRecDepth 100000 in
theorem q_232 : (Cond.methodLink RL (58 : Nat) yX5_stileOf) ∈ lw_all := List.mem_filter.mpr ⟨List.mem_of_getElem? (i := 232) rfl, rfl⟩
set_option maxRecDepth 100000 in
theorem q_233 : (Cond.instanceMethod yX5_stileOf) ∈ lw_all := List.mem_filter.mpr ⟨List.mem_of_getElem? (i := 233) rfl, rfl⟩
set_option maxRecDepth 100000 in
theorem q_234 : (Cond.selects RX5 yX5_stileOf yX5_stileOf) ∈ lw_all := List.mem_filter.mpr ⟨List.mem_of_getElem? (i := 234) rfl, rfl⟩
set_option maxRecDepth 100000 in
theorem q_235 : (Cond.code yX5_stileOf prog_1_method_20_code (3 : Nat) (Option.some FieldType.int)) ∈ lw_all := List.mem_filter.mpr ⟨List.mem_of_getElem? (i := 235) rfl, rfl⟩
set_option maxRecDepth 100000 in
theorem q_236 : (Cond.methodLink RX5 (66 : Nat) yX4_hasStile) ∈ lw_all := List.mem_filter.mpr ⟨List.mem_of_getElem? (i := 236) rfl, rfl⟩
set_option maxRecDepth 100000 in
theorem q_237 : (Cond.instanceMethod yX4_hasStile) ∈ lw_all := List.mem_filter.mpr ⟨List.mem_of_getElem? (i := 237) rfl, rfl⟩
set_option maxRecDepth 100000 in
theorem q_238 : (Cond.selects RX4 yX4_hasStile yX4_hasStile) ∈ lw_all := List.mem_filter.mpr ⟨List.mem_of_getElem? (i := 238) rfl, rfl⟩
set_option maxRecDepth 100000 in
theorem q_239 : (Cond.code yX4_hasStile prog_6_method_3_code (2 : Nat) (Option.some FieldType.boolean)) ∈ lw_all := List.mem_filter.mpr ⟨List.mem_of_getElem? (i := 239) rfl, rfl⟩
set_option maxRecDepth 100000 in
theorem q_240 : (Cond.constant RX5 (51 : Nat) (-100001 : Int32)) ∈ lw_all := List.mem_filter.mpr ⟨List.mem_of_getElem? (i := 240) rfl, rfl⟩
set_option maxRecDepth 100000 in
theorem q_241 : (Cond.methodLink RX5 (73 : Nat) yX5_at) ∈ lw_all := List.mem_filter.mpr ⟨List.mem_of_getElem? (i := 241) rfl, rfl⟩
set_option maxRecDepth 100000 in
theorem q_242 : (Cond.methodLink RX5 (121 : Nat) yX1_gapOf) ∈ lw_all := List.mem_filter.mpr ⟨List.mem_of_getElem? (i := 242) rfl, rfl⟩
set_option maxRecDepth 100000 in
theorem q_243 : (Cond.instanceMethod yX1_gapOf) ∈ lw_all := List.mem_filter.mpr ⟨List.mem_of_getElem? (i := 243) rfl, rfl⟩
set_option maxRecDepth 100000 in
theorem q_244 : (Cond.selects RX1 yX1_gapOf yX1_gapOf) ∈ lw_all := List.mem_filter.mpr ⟨List.mem_of_getElem? (i := 244) rfl, rfl⟩
set_option maxRecDepth 100000 in
theorem q_245 : (Cond.code yX1_gapOf prog_3_method_7_code (4 : Nat) (Option.some FieldType.int)) ∈ lw_all := List.mem_filter.mpr ⟨List.mem_of_getElem? (i := 245) rfl, rfl⟩
set_option maxRecDepth 100000 in
theorem q_246 : (Cond.methodLink RX1 (47 : Nat) yX1_countOf) ∈ lw_all := List.mem_filter.mpr ⟨List.mem_of_getElem? (i := 246) rfl, rfl⟩
set_option maxRecDepth 100000 in
theorem q_247 : (Cond.instanceMethod yX1_countOf) ∈ lw_all := List.mem_filter.mpr ⟨List.mem_of_getElem? (i := 247) rfl, rfl⟩
set_option maxRecDepth 100000 in
theorem q_248 : (Cond.selects RX1 yX1_countOf yX1_countOf) ∈ lw_all := List.mem_filter.mpr ⟨List.mem_of_getElem? (i := 248) rfl, rfl⟩
set_option maxRecDepth 100000 in
theorem q_249 : (Cond.code yX1_countOf prog_3_method_6_code (3 : Nat) (Option.some FieldType.int)) ∈ lw_all := List.mem_filter.mpr ⟨List.mem_of_getElem? (i := 249) rfl, rfl⟩
set_option maxRecDepth 100000 in
theorem q_251 : (Cond.static yX5_counterIndex) ∈ lw_all := List.mem_filter.mpr ⟨List.mem_of_getElem? (i := 251) rfl, rfl⟩
set_option maxRecDepth 100000 in
theorem q_252 : (Cond.code yX5_counterIndex prog_1_method_41_code (2 : Nat) (Option.some FieldType.int)) ∈ lw_all := List.mem_filter.mpr ⟨List.mem_of_getElem? (i := 252) rfl, rfl⟩
set_option maxRecDepth 100000 in
theorem q_254 : (Cond.methodLink RX1 (50 : Nat) (⟨"java/lang/Math", "abs", "(I)I"⟩ : MethodName)) ∈ lw_all := List.mem_filter.mpr ⟨List.mem_of_getElem? (i := 254) rfl, rfl⟩
set_option maxRecDepth 100000 in
theorem q_255 : (Cond.static (⟨"java/lang/Math", "abs", "(I)I"⟩ : MethodName)) ∈ lw_all := List.mem_filter.mpr ⟨List.mem_of_getElem? (i := 255) rfl, rfl⟩
set_option maxRecDepth 100000 in
theorem q_256 : (Cond.code (⟨"java/lang/Math", "abs", "(I)I"⟩ : MethodName) prog_9_method_59_code (1 : Nat) (Option.some FieldType.int)) ∈ lw_all := List.mem_filter.mpr ⟨List.mem_of_getElem? (i := 256) rfl, rfl⟩
set_option maxRecDepth 100000 in
theorem q_257 : (Cond.constant RX5 (52 : Nat) (-100002 : Int32)) ∈ lw_all := List.mem_filter.mpr ⟨List.mem_of_getElem? (i := 257) rfl, rfl⟩
set_option maxRecDepth 100000 in
theorem q_258 : (Cond.methodLink RL (49 : Nat) yX5_count) ∈ lw_all := List.mem_filter.mpr ⟨List.mem_of_getElem? (i := 258) rfl, rfl⟩
set_option maxRecDepth 100000 in
theorem q_259 : (Cond.instanceMethod yX5_count) ∈ lw_all := List.mem_filter.mpr ⟨List.mem_of_getElem? (i := 259) rfl, rfl⟩
set_option maxRecDepth 100000 in
theorem q_260 : (Cond.selects RX5 yX5_count yX5_count) ∈ lw_all := List.mem_filter.mpr ⟨List.mem_of_getElem? (i := 260) rfl, rfl⟩
set_option maxRecDepth 100000 in
theorem q_261 : (Cond.code yX5_count prog_1_method_24_code (2 : Nat) (Option.some FieldType.int)) ∈ lw_all := List.mem_filter.mpr ⟨List.mem_of_getElem? (i := 261) rfl, rfl⟩
set_option maxRecDepth 100000 in
theorem q_262 : (Cond.methodLink RX5 (224 : Nat) yX4_stilesUnderRepair) ∈ lw_all := List.mem_filter.mpr ⟨List.mem_of_getElem? (i := 262) rfl, rfl⟩
set_option maxRecDepth 100000 in
theorem q_263 : (Cond.instanceMethod yX4_stilesUnderRepair) ∈ lw_all := List.mem_filter.mpr ⟨List.mem_of_getElem? (i := 263) rfl, rfl⟩
set_option maxRecDepth 100000 in
theorem q_264 : (Cond.selects RX4 yX4_stilesUnderRepair yX4_stilesUnderRepair) ∈ lw_all := List.mem_filter.mpr ⟨List.mem_of_getElem? (i := 264) rfl, rfl⟩
set_option maxRecDepth 100000 in
theorem q_265 : (Cond.code yX4_stilesUnderRepair prog_6_method_29_code (3 : Nat) (Option.some FieldType.int)) ∈ lw_all := List.mem_filter.mpr ⟨List.mem_of_getElem? (i := 265) rfl, rfl⟩
set_option maxRecDepth 100000 in
theorem q_266 : (Cond.methodLink RX4 (70 : Nat) yX4_isUnderRepair) ∈ lw_all := List.mem_filter.mpr ⟨List.mem_of_getElem? (i := 266) rfl, rfl⟩
set_option maxRecDepth 100000 in
theorem q_267 : (Cond.instanceMethod yX4_isUnderRepair) ∈ lw_all := List.mem_filter.mpr ⟨List.mem_of_getElem? (i := 267) rfl, rfl⟩
set_option maxRecDepth 100000 in
theorem q_268 : (Cond.selects RX4 yX4_isUnderRepair yX4_isUnderRepair) ∈ lw_all := List.mem_filter.mpr ⟨List.mem_of_getElem? (i := 268) rfl, rfl⟩
set_option maxRecDepth 100000 in
theorem q_269 : (Cond.code yX4_isUnderRepair prog_6_method_8_code (2 : Nat) (Option.some FieldType.boolean)) ∈ lw_all := List.mem_filter.mpr ⟨List.mem_of_getElem? (i := 269) rfl, rfl⟩
set_option maxRecDepth 100000 in
theorem q_270 : (Cond.methodLink RX5 (227 : Nat) yX4_toldByAllOwnSides) ∈ lw_all := List.mem_filter.mpr ⟨List.mem_of_getElem? (i := 270) rfl, rfl⟩
set_option maxRecDepth 100000 in
theorem q_271 : (Cond.instanceMethod yX4_toldByAllOwnSides) ∈ lw_all := List.mem_filter.mpr ⟨List.mem_of_getElem? (i := 271) rfl, rfl⟩
set_option maxRecDepth 100000 in
theorem q_272 : (Cond.selects RX4 yX4_toldByAllOwnSides yX4_toldByAllOwnSides) ∈ lw_all := List.mem_filter.mpr ⟨List.mem_of_getElem? (i := 272) rfl, rfl⟩
set_option maxRecDepth 100000 in
theorem q_273 : (Cond.code yX4_toldByAllOwnSides prog_6_method_22_code (3 : Nat) (Option.some FieldType.int)) ∈ lw_all := List.mem_filter.mpr ⟨List.mem_of_getElem? (i := 273) rfl, rfl⟩
set_option maxRecDepth 100000 in
theorem q_274 : (Cond.methodLink RX4 (124 : Nat) yX4_toldByOwnSides) ∈ lw_all := List.mem_filter.mpr ⟨List.mem_of_getElem? (i := 274) rfl, rfl⟩
set_option maxRecDepth 100000 in
theorem q_275 : (Cond.instanceMethod yX4_toldByOwnSides) ∈ lw_all := List.mem_filter.mpr ⟨List.mem_of_getElem? (i := 275) rfl, rfl⟩
set_option maxRecDepth 100000 in
theorem q_276 : (Cond.selects RX4 yX4_toldByOwnSides yX4_toldByOwnSides) ∈ lw_all := List.mem_filter.mpr ⟨List.mem_of_getElem? (i := 276) rfl, rfl⟩
set_option maxRecDepth 100000 in
theorem q_277 : (Cond.code yX4_toldByOwnSides prog_6_method_18_code (4 : Nat) (Option.some FieldType.int)) ∈ lw_all := List.mem_filter.mpr ⟨List.mem_of_getElem? (i := 277) rfl, rfl⟩
set_option maxRecDepth 100000 in
theorem q_278 : (Cond.methodLink RX4 (115 : Nat) yX4_toldByFirstSide) ∈ lw_all := List.mem_filter.mpr ⟨List.mem_of_getElem? (i := 278) rfl, rfl⟩
set_option maxRecDepth 100000 in
theorem q_280 : (Cond.instanceMethod yX4_toldByFirstSide) ∈ lw_all := List.mem_filter.mpr ⟨List.mem_of_getElem? (i := 280) rfl, rfl⟩
set_option maxRecDepth 100000 in
theorem q_281 : (Cond.code yX4_toldByFirstSide prog_6_method_20_code (2 : Nat) (Option.some FieldType.int)) ∈ lw_all := List.mem_filter.mpr ⟨List.mem_of_getElem? (i := 281) rfl, rfl⟩
set_option maxRecDepth 100000 in
theorem q_282 : (Cond.methodLink RX4 (121 : Nat) yX1_countOf) ∈ lw_all := List.mem_filter.mpr ⟨List.mem_of_getElem? (i := 282) rfl, rfl⟩
set_option maxRecDepth 100000 in
theorem q_283 : (Cond.methodLink RX4 (118 : Nat) yX4_toldBySecondSide) ∈ lw_all := List.mem_filter.mpr ⟨List.mem_of_getElem? (i := 283) rfl, rfl⟩
set_option maxRecDepth 100000 in
theorem q_285 : (Cond.instanceMethod yX4_toldBySecondSide) ∈ lw_all := List.mem_filter.mpr ⟨List.mem_of_getElem? (i := 285) rfl, rfl⟩
set_option maxRecDepth 100000 in
theorem q_286 : (Cond.code yX4_toldBySecondSide prog_6_method_21_code (2 : Nat) (Option.some FieldType.int)) ∈ lw_all := List.mem_filter.mpr ⟨List.mem_of_getElem? (i := 286) rfl, rfl⟩
set_option maxRecDepth 100000 in
theorem q_287 : (Cond.methodLink RX5 (230 : Nat) yX4_toldByAllFarSides) ∈ lw_all := List.mem_filter.mpr ⟨List.mem_of_getElem? (i := 287) rfl, rfl⟩
set_option maxRecDepth 100000 in
theorem q_288 : (Cond.instanceMethod yX4_toldByAllFarSides) ∈ lw_all := List.mem_filter.mpr ⟨List.mem_of_getElem? (i := 288) rfl, rfl⟩
set_option maxRecDepth 100000 in
theorem q_289 : (Cond.selects RX4 yX4_toldByAllFarSides yX4_toldByAllFarSides) ∈ lw_all := List.mem_filter.mpr ⟨List.mem_of_getElem? (i := 289) rfl, rfl⟩
set_option maxRecDepth 100000 in
theorem q_290 : (Cond.code yX4_toldByAllFarSides prog_6_method_23_code (3 : Nat) (Option.some FieldType.int)) ∈ lw_all := List.mem_filter.mpr ⟨List.mem_of_getElem? (i := 290) rfl, rfl⟩
set_option maxRecDepth 100000 in
theorem q_291 : (Cond.methodLink RX4 (127 : Nat) yX4_toldByFarSides) ∈ lw_all := List.mem_filter.mpr ⟨List.mem_of_getElem? (i := 291) rfl, rfl⟩
set_option maxRecDepth 100000 in
theorem q_292 : (Cond.instanceMethod yX4_toldByFarSides) ∈ lw_all := List.mem_filter.mpr ⟨List.mem_of_getElem? (i := 292) rfl, rfl⟩
set_option maxRecDepth 100000 in
theorem q_293 : (Cond.selects RX4 yX4_toldByFarSides yX4_toldByFarSides) ∈ lw_all := List.mem_filter.mpr ⟨List.mem_of_getElem? (i := 293) rfl, rfl⟩
set_option maxRecDepth 100000 in
theorem q_294 : (Cond.code yX4_toldByFarSides prog_6_method_19_code (4 : Nat) (Option.some FieldType.int)) ∈ lw_all := List.mem_filter.mpr ⟨List.mem_of_getElem? (i := 294) rfl, rfl⟩
set_option maxRecDepth 100000 in
theorem q_295 : (Cond.methodLink RX5 (233 : Nat) yX4_sumOfGaps) ∈ lw_all := List.mem_filter.mpr ⟨List.mem_of_getElem? (i := 295) rfl, rfl⟩
set_option maxRecDepth 100000 in
theorem q_296 : (Cond.instanceMethod yX4_sumOfGaps) ∈ lw_all := List.mem_filter.mpr ⟨List.mem_of_getElem? (i := 296) rfl, rfl⟩
set_option maxRecDepth 100000 in
theorem q_297 : (Cond.selects RX4 yX4_sumOfGaps yX4_sumOfGaps) ∈ lw_all := List.mem_filter.mpr ⟨List.mem_of_getElem? (i := 297) rfl, rfl⟩
set_option maxRecDepth 100000 in
theorem q_298 : (Cond.code yX4_sumOfGaps prog_6_method_30_code (3 : Nat) (Option.some FieldType.int)) ∈ lw_all := List.mem_filter.mpr ⟨List.mem_of_getElem? (i := 298) rfl, rfl⟩
set_option maxRecDepth 100000 in
theorem q_299 : (Cond.methodLink RX4 (134 : Nat) yX1_gapOf) ∈ lw_all := List.mem_filter.mpr ⟨List.mem_of_getElem? (i := 299) rfl, rfl⟩
set_option maxRecDepth 100000 in
theorem q_300 : (Cond.methodLink RX5 (236 : Nat) yX1_withSlip) ∈ lw_all := List.mem_filter.mpr ⟨List.mem_of_getElem? (i := 300) rfl, rfl⟩
set_option maxRecDepth 100000 in
theorem q_301 : (Cond.instanceMethod yX1_withSlip) ∈ lw_all := List.mem_filter.mpr ⟨List.mem_of_getElem? (i := 301) rfl, rfl⟩
set_option maxRecDepth 100000 in
theorem q_302 : (Cond.selects RX1 yX1_withSlip yX1_withSlip) ∈ lw_all := List.mem_filter.mpr ⟨List.mem_of_getElem? (i := 302) rfl, rfl⟩
set_option maxRecDepth 100000 in
theorem q_303 : (Cond.code yX1_withSlip prog_3_method_10_code (3 : Nat) (Option.some FieldType.int)) ∈ lw_all := List.mem_filter.mpr ⟨List.mem_of_getElem? (i := 303) rfl, rfl⟩
set_option maxRecDepth 100000 in
theorem q_304 : (Cond.methodLink RX5 (239 : Nat) yX4_fullestHall) ∈ lw_all := List.mem_filter.mpr ⟨List.mem_of_getElem? (i := 304) rfl, rfl⟩
set_option maxRecDepth 100000 in
theorem q_305 : (Cond.instanceMethod yX4_fullestHall) ∈ lw_all := List.mem_filter.mpr ⟨List.mem_of_getElem? (i := 305) rfl, rfl⟩
set_option maxRecDepth 100000 in
theorem q_306 : (Cond.selects RX4 yX4_fullestHall yX4_fullestHall) ∈ lw_all := List.mem_filter.mpr ⟨List.mem_of_getElem? (i := 306) rfl, rfl⟩
set_option maxRecDepth 100000 in
theorem q_307 : (Cond.code yX4_fullestHall prog_6_method_27_code (4 : Nat) (Option.some FieldType.int)) ∈ lw_all := List.mem_filter.mpr ⟨List.mem_of_getElem? (i := 307) rfl, rfl⟩
set_option maxRecDepth 100000 in
theorem q_308 : (Cond.methodLink RL (91 : Nat) yL_cell) ∈ lw_all := List.mem_filter.mpr ⟨List.mem_of_getElem? (i := 308) rfl, rfl⟩
set_option maxRecDepth 100000 in
theorem q_309 : (Cond.static yL_cell) ∈ lw_all := List.mem_filter.mpr ⟨List.mem_of_getElem? (i := 309) rfl, rfl⟩
set_option maxRecDepth 100000 in
theorem q_310 : (Cond.code yL_cell method_2_code (2 : Nat) (Option.some FieldType.int)) ∈ lw_all := List.mem_filter.mpr ⟨List.mem_of_getElem? (i := 310) rfl, rfl⟩
set_option maxRecDepth 100000 in
theorem q_311 : (Cond.constant RL (7 : Nat) (48397 : Int32)) ∈ lw_all := List.mem_filter.mpr ⟨List.mem_of_getElem? (i := 311) rfl, rfl⟩
set_option maxRecDepth 100000 in
theorem q_312 : (Cond.constant RL (8 : Nat) (2147483647 : Int32)) ∈ lw_all := List.mem_filter.mpr ⟨List.mem_of_getElem? (i := 312) rfl, rfl⟩
set_option maxRecDepth 100000 in
theorem q_313 : (Cond.methodLink RL (99 : Nat) yL_acts) ∈ lw_all := List.mem_filter.mpr ⟨List.mem_of_getElem? (i := 313) rfl, rfl⟩
set_option maxRecDepth 100000 in
theorem q_314 : (Cond.static yL_acts) ∈ lw_all := List.mem_filter.mpr ⟨List.mem_of_getElem? (i := 314) rfl, rfl⟩
set_option maxRecDepth 100000 in
theorem q_315 : (Cond.code yL_acts method_3_code (3 : Nat) (Option.some FieldType.int)) ∈ lw_all := List.mem_filter.mpr ⟨List.mem_of_getElem? (i := 315) rfl, rfl⟩
set_option maxRecDepth 100000 in
theorem q_316 : (Cond.methodLink RL (9 : Nat) yX5_stile) ∈ lw_all := List.mem_filter.mpr ⟨List.mem_of_getElem? (i := 316) rfl, rfl⟩
set_option maxRecDepth 100000 in
theorem q_317 : (Cond.instanceMethod yX5_stile) ∈ lw_all := List.mem_filter.mpr ⟨List.mem_of_getElem? (i := 317) rfl, rfl⟩
set_option maxRecDepth 100000 in
theorem q_318 : (Cond.selects RX5 yX5_stile yX5_stile) ∈ lw_all := List.mem_filter.mpr ⟨List.mem_of_getElem? (i := 318) rfl, rfl⟩
set_option maxRecDepth 100000 in
theorem q_319 : (Cond.code yX5_stile prog_1_method_2_code (3 : Nat) (Option.some FieldType.int)) ∈ lw_all := List.mem_filter.mpr ⟨List.mem_of_getElem? (i := 319) rfl, rfl⟩
set_option maxRecDepth 100000 in
theorem q_320 : (Cond.methodLink RX5 (47 : Nat) yX5_isHall) ∈ lw_all := List.mem_filter.mpr ⟨List.mem_of_getElem? (i := 320) rfl, rfl⟩
set_option maxRecDepth 100000 in
theorem q_321 : (Cond.static yX5_isHall) ∈ lw_all := List.mem_filter.mpr ⟨List.mem_of_getElem? (i := 321) rfl, rfl⟩
set_option maxRecDepth 100000 in
theorem q_322 : (Cond.code yX5_isHall prog_1_method_35_code (1 : Nat) (Option.some FieldType.boolean)) ∈ lw_all := List.mem_filter.mpr ⟨List.mem_of_getElem? (i := 322) rfl, rfl⟩
set_option maxRecDepth 100000 in
theorem q_323 : (Cond.constant RX5 (57 : Nat) (-100003 : Int32)) ∈ lw_all := List.mem_filter.mpr ⟨List.mem_of_getElem? (i := 323) rfl, rfl⟩
set_option maxRecDepth 100000 in
theorem q_324 : (Cond.methodLink RX5 (62 : Nat) yX4_putUp) ∈ lw_all := List.mem_filter.mpr ⟨List.mem_of_getElem? (i := 324) rfl, rfl⟩
set_option maxRecDepth 100000 in
theorem q_325 : (Cond.instanceMethod yX4_putUp) ∈ lw_all := List.mem_filter.mpr ⟨List.mem_of_getElem? (i := 325) rfl, rfl⟩
set_option maxRecDepth 100000 in
theorem q_326 : (Cond.selects RX4 yX4_putUp yX4_putUp) ∈ lw_all := List.mem_filter.mpr ⟨List.mem_of_getElem? (i := 326) rfl, rfl⟩
set_option maxRecDepth 100000 in
theorem q_327 : (Cond.code yX4_putUp prog_6_method_4_code (4 : Nat) (Option.some FieldType.int)) ∈ lw_all := List.mem_filter.mpr ⟨List.mem_of_getElem? (i := 327) rfl, rfl⟩
set_option maxRecDepth 100000 in
theorem q_329 : (Cond.static yX5_put) ∈ lw_all := List.mem_filter.mpr ⟨List.mem_of_getElem? (i := 329) rfl, rfl⟩
set_option maxRecDepth 100000 in
theorem q_330 : (Cond.code yX5_put prog_1_method_43_code (3 : Nat) (Option.none : Option FieldType)) ∈ lw_all := List.mem_filter.mpr ⟨List.mem_of_getElem? (i := 330) rfl, rfl⟩
set_option maxRecDepth 100000 in
theorem q_331 : (Cond.methodLink RL (15 : Nat) yX5_open) ∈ lw_all := List.mem_filter.mpr ⟨List.mem_of_getElem? (i := 331) rfl, rfl⟩
set_option maxRecDepth 100000 in
theorem q_332 : (Cond.instanceMethod yX5_open) ∈ lw_all := List.mem_filter.mpr ⟨List.mem_of_getElem? (i := 332) rfl, rfl⟩
set_option maxRecDepth 100000 in
theorem q_333 : (Cond.selects RX5 yX5_open yX5_open) ∈ lw_all := List.mem_filter.mpr ⟨List.mem_of_getElem? (i := 333) rfl, rfl⟩
set_option maxRecDepth 100000 in
theorem q_334 : (Cond.code yX5_open prog_1_method_3_code (4 : Nat) (Option.some FieldType.int)) ∈ lw_all := List.mem_filter.mpr ⟨List.mem_of_getElem? (i := 334) rfl, rfl⟩
set_option maxRecDepth 100000 in
theorem q_335 : (Cond.methodLink RX5 (77 : Nat) yX5_put) ∈ lw_all := List.mem_filter.mpr ⟨List.mem_of_getElem? (i := 335) rfl, rfl⟩
set_option maxRecDepth 100000 in
theorem q_336 : (Cond.methodLink RL (18 : Nat) yX5_room) ∈ lw_all := List.mem_filter.mpr ⟨List.mem_of_getElem? (i := 336) rfl, rfl⟩
set_option maxRecDepth 100000 in
theorem q_337 : (Cond.instanceMethod yX5_room) ∈ lw_all := List.mem_filter.mpr ⟨List.mem_of_getElem? (i := 337) rfl, rfl⟩
set_option maxRecDepth 100000 in
theorem q_338 : (Cond.selects RX5 yX5_room yX5_room) ∈ lw_all := List.mem_filter.mpr ⟨List.mem_of_getElem? (i := 338) rfl, rfl⟩
set_option maxRecDepth 100000 in
theorem q_339 : (Cond.code yX5_room prog_1_method_4_code (4 : Nat) (Option.some FieldType.int)) ∈ lw_all := List.mem_filter.mpr ⟨List.mem_of_getElem? (i := 339) rfl, rfl⟩
set_option maxRecDepth 100000 in
theorem q_340 : (Cond.methodLink RX5 (81 : Nat) yX5_isHallWithRoom) ∈ lw_all := List.mem_filter.mpr ⟨List.mem_of_getElem? (i := 340) rfl, rfl⟩
set_option maxRecDepth 100000 in
theorem q_341 : (Cond.static yX5_isHallWithRoom) ∈ lw_all := List.mem_filter.mpr ⟨List.mem_of_getElem? (i := 341) rfl, rfl⟩
set_option maxRecDepth 100000 in
theorem q_342 : (Cond.code yX5_isHallWithRoom prog_1_method_36_code (1 : Nat) (Option.some FieldType.boolean)) ∈ lw_all := List.mem_filter.mpr ⟨List.mem_of_getElem? (i := 342) rfl, rfl⟩
set_option maxRecDepth 100000 in
theorem q_343 : (Cond.methodLink RL (21 : Nat) yX5_slip) ∈ lw_all := List.mem_filter.mpr ⟨List.mem_of_getElem? (i := 343) rfl, rfl⟩
set_option maxRecDepth 100000 in
theorem q_344 : (Cond.instanceMethod yX5_slip) ∈ lw_all := List.mem_filter.mpr ⟨List.mem_of_getElem? (i := 344) rfl, rfl⟩
set_option maxRecDepth 100000 in
theorem q_345 : (Cond.selects RX5 yX5_slip yX5_slip) ∈ lw_all := List.mem_filter.mpr ⟨List.mem_of_getElem? (i := 345) rfl, rfl⟩
set_option maxRecDepth 100000 in
theorem q_346 : (Cond.code yX5_slip prog_1_method_5_code (6 : Nat) (Option.some FieldType.int)) ∈ lw_all := List.mem_filter.mpr ⟨List.mem_of_getElem? (i := 346) rfl, rfl⟩
set_option maxRecDepth 100000 in
theorem q_347 : (Cond.methodLink RX5 (91 : Nat) yX5_isCounter) ∈ lw_all := List.mem_filter.mpr ⟨List.mem_of_getElem? (i := 347) rfl, rfl⟩
set_option maxRecDepth 100000 in
theorem q_348 : (Cond.static yX5_isCounter) ∈ lw_all := List.mem_filter.mpr ⟨List.mem_of_getElem? (i := 348) rfl, rfl⟩
set_option maxRecDepth 100000 in
theorem q_349 : (Cond.code yX5_isCounter prog_1_method_37_code (1 : Nat) (Option.some FieldType.boolean)) ∈ lw_all := List.mem_filter.mpr ⟨List.mem_of_getElem? (i := 349) rfl, rfl⟩
set_option maxRecDepth 100000 in
theorem q_350 : (Cond.methodLink RX5 (94 : Nat) yX5_isSlip) ∈ lw_all := List.mem_filter.mpr ⟨List.mem_of_getElem? (i := 350) rfl, rfl⟩
set_option maxRecDepth 100000 in
theorem q_351 : (Cond.static yX5_isSlip) ∈ lw_all := List.mem_filter.mpr ⟨List.mem_of_getElem? (i := 351) rfl, rfl⟩
set_option maxRecDepth 100000 in
theorem q_352 : (Cond.code yX5_isSlip prog_1_method_38_code (1 : Nat) (Option.some FieldType.boolean)) ∈ lw_all := List.mem_filter.mpr ⟨List.mem_of_getElem? (i := 352) rfl, rfl⟩
set_option maxRecDepth 100000 in
theorem q_353 : (Cond.methodLink RX5 (97 : Nat) yX5_counterIndex) ∈ lw_all := List.mem_filter.mpr ⟨List.mem_of_getElem? (i := 353) rfl, rfl⟩
set_option maxRecDepth 100000 in
theorem q_354 : (Cond.methodLink RX5 (109 : Nat) yX1_beginAnew) ∈ lw_all := List.mem_filter.mpr ⟨List.mem_of_getElem? (i := 354) rfl, rfl⟩
set_option maxRecDepth 100000 in
theorem q_355 : (Cond.instanceMethod yX1_beginAnew) ∈ lw_all := List.mem_filter.mpr ⟨List.mem_of_getElem? (i := 355) rfl, rfl⟩
set_option maxRecDepth 100000 in
theorem q_356 : (Cond.selects RX1 yX1_beginAnew yX1_beginAnew) ∈ lw_all := List.mem_filter.mpr ⟨List.mem_of_getElem? (i := 356) rfl, rfl⟩
set_option maxRecDepth 100000 in
theorem q_357 : (Cond.code yX1_beginAnew prog_3_method_3_code (3 : Nat) (Option.none : Option FieldType)) ∈ lw_all := List.mem_filter.mpr ⟨List.mem_of_getElem? (i := 357) rfl, rfl⟩
set_option maxRecDepth 100000 in
theorem q_359 : (Cond.methodLink RL (25 : Nat) yX5_audit) ∈ lw_all := List.mem_filter.mpr ⟨List.mem_of_getElem? (i := 359) rfl, rfl⟩
set_option maxRecDepth 100000 in
theorem q_360 : (Cond.instanceMethod yX5_audit) ∈ lw_all := List.mem_filter.mpr ⟨List.mem_of_getElem? (i := 360) rfl, rfl⟩
set_option maxRecDepth 100000 in
theorem q_361 : (Cond.selects RX5 yX5_audit yX5_audit) ∈ lw_all := List.mem_filter.mpr ⟨List.mem_of_getElem? (i := 361) rfl, rfl⟩
set_option maxRecDepth 100000 in
theorem q_362 : (Cond.code yX5_audit prog_1_method_7_code (3 : Nat) (Option.some FieldType.int)) ∈ lw_all := List.mem_filter.mpr ⟨List.mem_of_getElem? (i := 362) rfl, rfl⟩
set_option maxRecDepth 100000 in
theorem q_363 : (Cond.methodLink RX5 (125 : Nat) yX1_makeAgree) ∈ lw_all := List.mem_filter.mpr ⟨List.mem_of_getElem? (i := 363) rfl, rfl⟩
set_option maxRecDepth 100000 in
theorem q_364 : (Cond.instanceMethod yX1_makeAgree) ∈ lw_all := List.mem_filter.mpr ⟨List.mem_of_getElem? (i := 364) rfl, rfl⟩
set_option maxRecDepth 100000 in
theorem q_365 : (Cond.selects RX1 yX1_makeAgree yX1_makeAgree) ∈ lw_all := List.mem_filter.mpr ⟨List.mem_of_getElem? (i := 365) rfl, rfl⟩
set_option maxRecDepth 100000 in
theorem q_366 : (Cond.code yX1_makeAgree prog_3_method_8_code (2 : Nat) (Option.none : Option FieldType)) ∈ lw_all := List.mem_filter.mpr ⟨List.mem_of_getElem? (i := 366) rfl, rfl⟩
set_option maxRecDepth 100000 in
theorem q_367 : (Cond.methodLink RX1 (56 : Nat) yX1_makePairAgree) ∈ lw_all := List.mem_filter.mpr ⟨List.mem_of_getElem? (i := 367) rfl, rfl⟩
set_option maxRecDepth 100000 in
theorem q_369 : (Cond.instanceMethod yX1_makePairAgree) ∈ lw_all := List.mem_filter.mpr ⟨List.mem_of_getElem? (i := 369) rfl, rfl⟩
set_option maxRecDepth 100000 in
theorem q_370 : (Cond.code yX1_makePairAgree prog_3_method_9_code (5 : Nat) (Option.none : Option FieldType)) ∈ lw_all := List.mem_filter.mpr ⟨List.mem_of_getElem? (i := 370) rfl, rfl⟩
set_option maxRecDepth 100000 in
theorem q_371 : (Cond.methodLink RX1 (60 : Nat) (⟨"java/lang/Math", "max", "(II)I"⟩ : MethodName)) ∈ lw_all := List.mem_filter.mpr ⟨List.mem_of_getElem? (i := 371) rfl, rfl⟩
set_option maxRecDepth 100000 in
theorem q_372 : (Cond.static (⟨"java/lang/Math", "max", "(II)I"⟩ : MethodName)) ∈ lw_all := List.mem_filter.mpr ⟨List.mem_of_getElem? (i := 372) rfl, rfl⟩
set_option maxRecDepth 100000 in
theorem q_373 : (Cond.code (⟨"java/lang/Math", "max", "(II)I"⟩ : MethodName) prog_9_method_65_code (2 : Nat) (Option.some FieldType.int)) ∈ lw_all := List.mem_filter.mpr ⟨List.mem_of_getElem? (i := 373) rfl, rfl⟩
set_option maxRecDepth 100000 in
theorem q_374 : (Cond.methodLink RL (29 : Nat) yX5_repair) ∈ lw_all := List.mem_filter.mpr ⟨List.mem_of_getElem? (i := 374) rfl, rfl⟩
set_option maxRecDepth 100000 in
theorem q_375 : (Cond.instanceMethod yX5_repair) ∈ lw_all := List.mem_filter.mpr ⟨List.mem_of_getElem? (i := 375) rfl, rfl⟩
set_option maxRecDepth 100000 in
theorem q_376 : (Cond.selects RX5 yX5_repair yX5_repair) ∈ lw_all := List.mem_filter.mpr ⟨List.mem_of_getElem? (i := 376) rfl, rfl⟩
set_option maxRecDepth 100000 in
theorem q_377 : (Cond.code yX5_repair prog_1_method_8_code (3 : Nat) (Option.some FieldType.int)) ∈ lw_all := List.mem_filter.mpr ⟨List.mem_of_getElem? (i := 377) rfl, rfl⟩
set_option maxRecDepth 100000 in
theorem q_378 : (Cond.methodLink RX5 (129 : Nat) yX5_repairError) ∈ lw_all := List.mem_filter.mpr ⟨List.mem_of_getElem? (i := 378) rfl, rfl⟩
set_option maxRecDepth 100000 in
theorem q_380 : (Cond.instanceMethod yX5_repairError) ∈ lw_all := List.mem_filter.mpr ⟨List.mem_of_getElem? (i := 380) rfl, rfl⟩
set_option maxRecDepth 100000 in
theorem q_381 : (Cond.code yX5_repairError prog_1_method_30_code (2 : Nat) (Option.some FieldType.int)) ∈ lw_all := List.mem_filter.mpr ⟨List.mem_of_getElem? (i := 381) rfl, rfl⟩
set_option maxRecDepth 100000 in
theorem q_382 : (Cond.methodLink RX5 (132 : Nat) yX4_beginRepair) ∈ lw_all := List.mem_filter.mpr ⟨List.mem_of_getElem? (i := 382) rfl, rfl⟩
set_option maxRecDepth 100000 in
theorem q_383 : (Cond.instanceMethod yX4_beginRepair) ∈ lw_all := List.mem_filter.mpr ⟨List.mem_of_getElem? (i := 383) rfl, rfl⟩
set_option maxRecDepth 100000 in
theorem q_384 : (Cond.selects RX4 yX4_beginRepair yX4_beginRepair) ∈ lw_all := List.mem_filter.mpr ⟨List.mem_of_getElem? (i := 384) rfl, rfl⟩
set_option maxRecDepth 100000 in
theorem q_385 : (Cond.code yX4_beginRepair prog_6_method_15_code (2 : Nat) (Option.none : Option FieldType)) ∈ lw_all := List.mem_filter.mpr ⟨List.mem_of_getElem? (i := 385) rfl, rfl⟩
set_option maxRecDepth 100000 in
theorem q_386 : (Cond.methodLink RL (32 : Nat) yX5_hours) ∈ lw_all := List.mem_filter.mpr ⟨List.mem_of_getElem? (i := 386) rfl, rfl⟩
set_option maxRecDepth 100000 in
theorem q_387 : (Cond.instanceMethod yX5_hours) ∈ lw_all := List.mem_filter.mpr ⟨List.mem_of_getElem? (i := 387) rfl, rfl⟩
set_option maxRecDepth 100000 in
theorem q_388 : (Cond.selects RX5 yX5_hours yX5_hours) ∈ lw_all := List.mem_filter.mpr ⟨List.mem_of_getElem? (i := 388) rfl, rfl⟩
set_option maxRecDepth 100000 in
theorem q_389 : (Cond.code yX5_hours prog_1_method_9_code (2 : Nat) (Option.some FieldType.int)) ∈ lw_all := List.mem_filter.mpr ⟨List.mem_of_getElem? (i := 389) rfl, rfl⟩
set_option maxRecDepth 100000 in
theorem q_390 : (Cond.methodLink RX5 (141 : Nat) yX5_isManyHours) ∈ lw_all := List.mem_filter.mpr ⟨List.mem_of_getElem? (i := 390) rfl, rfl⟩
set_option maxRecDepth 100000 in
theorem q_391 : (Cond.static yX5_isManyHours) ∈ lw_all := List.mem_filter.mpr ⟨List.mem_of_getElem? (i := 391) rfl, rfl⟩
set_option maxRecDepth 100000 in
theorem q_392 : (Cond.code yX5_isManyHours prog_1_method_40_code (1 : Nat) (Option.some FieldType.boolean)) ∈ lw_all := List.mem_filter.mpr ⟨List.mem_of_getElem? (i := 392) rfl, rfl⟩
set_option maxRecDepth 100000 in
theorem q_393 : (Cond.methodLink RX5 (144 : Nat) yX4_letHoursPass) ∈ lw_all := List.mem_filter.mpr ⟨List.mem_of_getElem? (i := 393) rfl, rfl⟩
set_option maxRecDepth 100000 in
theorem q_394 : (Cond.instanceMethod yX4_letHoursPass) ∈ lw_all := List.mem_filter.mpr ⟨List.mem_of_getElem? (i := 394) rfl, rfl⟩
set_option maxRecDepth 100000 in
theorem q_395 : (Cond.selects RX4 yX4_letHoursPass yX4_letHoursPass) ∈ lw_all := List.mem_filter.mpr ⟨List.mem_of_getElem? (i := 395) rfl, rfl⟩
set_option maxRecDepth 100000 in
theorem q_396 : (Cond.code yX4_letHoursPass prog_6_method_16_code (4 : Nat) (Option.some FieldType.int)) ∈ lw_all := List.mem_filter.mpr ⟨List.mem_of_getElem? (i := 396) rfl, rfl⟩
set_option maxRecDepth 100000 in
theorem q_397 : (Cond.methodLink RX4 (107 : Nat) yX4_letHourPass) ∈ lw_all := List.mem_filter.mpr ⟨List.mem_of_getElem? (i := 397) rfl, rfl⟩
set_option maxRecDepth 100000 in
theorem q_398 : (Cond.instanceMethod yX4_letHourPass) ∈ lw_all := List.mem_filter.mpr ⟨List.mem_of_getElem? (i := 398) rfl, rfl⟩
set_option maxRecDepth 100000 in
theorem q_399 : (Cond.selects RX4 yX4_letHourPass yX4_letHourPass) ∈ lw_all := List.mem_filter.mpr ⟨List.mem_of_getElem? (i := 399) rfl, rfl⟩
set_option maxRecDepth 100000 in
theorem q_400 : (Cond.code yX4_letHourPass prog_6_method_17_code (3 : Nat) (Option.some FieldType.int)) ∈ lw_all := List.mem_filter.mpr ⟨List.mem_of_getElem? (i := 400) rfl, rfl⟩
set_option maxRecDepth 100000 in
theorem q_402 : (Cond.static yX5_add) ∈ lw_all := List.mem_filter.mpr ⟨List.mem_of_getElem? (i := 402) rfl, rfl⟩
set_option maxRecDepth 100000 in
theorem q_403 : (Cond.code yX5_add prog_1_method_44_code (3 : Nat) (Option.none : Option FieldType)) ∈ lw_all := List.mem_filter.mpr ⟨List.mem_of_getElem? (i := 403) rfl, rfl⟩
set_option maxRecDepth 100000 in
theorem q_404 : (Cond.methodLink RX4 (111 : Nat) yX1_endSlips) ∈ lw_all := List.mem_filter.mpr ⟨List.mem_of_getElem? (i := 404) rfl, rfl⟩
set_option maxRecDepth 100000 in
theorem q_405 : (Cond.instanceMethod yX1_endSlips) ∈ lw_all := List.mem_filter.mpr ⟨List.mem_of_getElem? (i := 405) rfl, rfl⟩
set_option maxRecDepth 100000 in
theorem q_406 : (Cond.selects RX1 yX1_endSlips yX1_endSlips) ∈ lw_all := List.mem_filter.mpr ⟨List.mem_of_getElem? (i := 406) rfl, rfl⟩
set_option maxRecDepth 100000 in
theorem q_407 : (Cond.code yX1_endSlips prog_3_method_5_code (3 : Nat) (Option.none : Option FieldType)) ∈ lw_all := List.mem_filter.mpr ⟨List.mem_of_getElem? (i := 407) rfl, rfl⟩
set_option maxRecDepth 100000 in
theorem q_408 : (Cond.methodLink RX1 (43 : Nat) yX1_beginAnew) ∈ lw_all := List.mem_filter.mpr ⟨List.mem_of_getElem? (i := 408) rfl, rfl⟩
set_option maxRecDepth 100000 in
theorem q_409 : (Cond.methodLink RL (39 : Nat) yX5_close) ∈ lw_all := List.mem_filter.mpr ⟨List.mem_of_getElem? (i := 409) rfl, rfl⟩
set_option maxRecDepth 100000 in
theorem q_410 : (Cond.instanceMethod yX5_close) ∈ lw_all := List.mem_filter.mpr ⟨List.mem_of_getElem? (i := 410) rfl, rfl⟩
set_option maxRecDepth 100000 in
theorem q_411 : (Cond.selects RX5 yX5_close yX5_close) ∈ lw_all := List.mem_filter.mpr ⟨List.mem_of_getElem? (i := 411) rfl, rfl⟩
set_option maxRecDepth 100000 in
theorem q_412 : (Cond.code yX5_close prog_1_method_10_code (4 : Nat) (Option.some FieldType.int)) ∈ lw_all := List.mem_filter.mpr ⟨List.mem_of_getElem? (i := 412) rfl, rfl⟩
set_option maxRecDepth 100000 in
theorem q_413 : (Cond.methodLink RX5 (147 : Nat) yX0_closeForAnHour) ∈ lw_all := List.mem_filter.mpr ⟨List.mem_of_getElem? (i := 413) rfl, rfl⟩
set_option maxRecDepth 100000 in
theorem q_414 : (Cond.instanceMethod yX0_closeForAnHour) ∈ lw_all := List.mem_filter.mpr ⟨List.mem_of_getElem? (i := 414) rfl, rfl⟩
set_option maxRecDepth 100000 in
theorem q_415 : (Cond.selects RX0 yX0_closeForAnHour yX0_closeForAnHour) ∈ lw_all := List.mem_filter.mpr ⟨List.mem_of_getElem? (i := 415) rfl, rfl⟩
set_option maxRecDepth 100000 in
theorem q_416 : (Cond.code yX0_closeForAnHour prog_2_method_3_code (4 : Nat) (Option.some FieldType.int)) ∈ lw_all := List.mem_filter.mpr ⟨List.mem_of_getElem? (i := 416) rfl, rfl⟩
set_option maxRecDepth 100000 in
theorem q_417 : (Cond.methodLink RX0 (15 : Nat) yX0_measureDistances) ∈ lw_all := List.mem_filter.mpr ⟨List.mem_of_getElem? (i := 417) rfl, rfl⟩
set_option maxRecDepth 100000 in
theorem q_419 : (Cond.instanceMethod yX0_measureDistances) ∈ lw_all := List.mem_filter.mpr ⟨List.mem_of_getElem? (i := 419) rfl, rfl⟩
set_option maxRecDepth 100000 in
theorem q_420 : (Cond.code yX0_measureDistances prog_2_method_5_code (4 : Nat) (Option.none : Option FieldType)) ∈ lw_all := List.mem_filter.mpr ⟨List.mem_of_getElem? (i := 420) rfl, rfl⟩
set_option maxRecDepth 100000 in
theorem q_422 : (Cond.methodLink RX0 (65 : Nat) yX0_comeNearerByAll) ∈ lw_all := List.mem_filter.mpr ⟨List.mem_of_getElem? (i := 422) rfl, rfl⟩
set_option maxRecDepth 100000 in
theorem q_424 : (Cond.instanceMethod yX0_comeNearerByAll) ∈ lw_all := List.mem_filter.mpr ⟨List.mem_of_getElem? (i := 424) rfl, rfl⟩
set_option maxRecDepth 100000 in
theorem q_425 : (Cond.code yX0_comeNearerByAll prog_2_method_6_code (6 : Nat) (Option.some FieldType.boolean)) ∈ lw_all := List.mem_filter.mpr ⟨List.mem_of_getElem? (i := 425) rfl, rfl⟩
set_option maxRecDepth 100000 in
theorem q_426 : (Cond.methodLink RX0 (69 : Nat) yX0_comeNearer) ∈ lw_all := List.mem_filter.mpr ⟨List.mem_of_getElem? (i := 426) rfl, rfl⟩
set_option maxRecDepth 100000 in
theorem q_428 : (Cond.instanceMethod yX0_comeNearer) ∈ lw_all := List.mem_filter.mpr ⟨List.mem_of_getElem? (i := 428) rfl, rfl⟩
set_option maxRecDepth 100000 in
theorem q_429 : (Cond.code yX0_comeNearer prog_2_method_7_code (6 : Nat) (Option.some FieldType.boolean)) ∈ lw_all := List.mem_filter.mpr ⟨List.mem_of_getElem? (i := 429) rfl, rfl⟩
set_option maxRecDepth 100000 in
theorem q_430 : (Cond.methodLink RX0 (73 : Nat) yX4_isUnderRepair) ∈ lw_all := List.mem_filter.mpr ⟨List.mem_of_getElem? (i := 430) rfl, rfl⟩
set_option maxRecDepth 100000 in
theorem q_431 : (Cond.methodLink RX0 (77 : Nat) yX4_goes) ∈ lw_all := List.mem_filter.mpr ⟨List.mem_of_getElem? (i := 431) rfl, rfl⟩
set_option maxRecDepth 100000 in
theorem q_432 : (Cond.instanceMethod yX4_goes) ∈ lw_all := List.mem_filter.mpr ⟨List.mem_of_getElem? (i := 432) rfl, rfl⟩
set_option maxRecDepth 100000 in
theorem q_433 : (Cond.selects RX4 yX4_goes yX4_goes) ∈ lw_all := List.mem_filter.mpr ⟨List.mem_of_getElem? (i := 433) rfl, rfl⟩
set_option maxRecDepth 100000 in
theorem q_434 : (Cond.code yX4_goes prog_6_method_7_code (4 : Nat) (Option.some FieldType.boolean)) ∈ lw_all := List.mem_filter.mpr ⟨List.mem_of_getElem? (i := 434) rfl, rfl⟩
set_option maxRecDepth 100000 in
theorem q_435 : (Cond.methodLink RX0 (38 : Nat) yX4_hallBehind) ∈ lw_all := List.mem_filter.mpr ⟨List.mem_of_getElem? (i := 435) rfl, rfl⟩
set_option maxRecDepth 100000 in
theorem q_436 : (Cond.instanceMethod yX4_hallBehind) ∈ lw_all := List.mem_filter.mpr ⟨List.mem_of_getElem? (i := 436) rfl, rfl⟩
set_option maxRecDepth 100000 in
theorem q_437 : (Cond.selects RX4 yX4_hallBehind yX4_hallBehind) ∈ lw_all := List.mem_filter.mpr ⟨List.mem_of_getElem? (i := 437) rfl, rfl⟩
set_option maxRecDepth 100000 in
theorem q_438 : (Cond.code yX4_hallBehind prog_6_method_5_code (3 : Nat) (Option.some FieldType.int)) ∈ lw_all := List.mem_filter.mpr ⟨List.mem_of_getElem? (i := 438) rfl, rfl⟩
set_option maxRecDepth 100000 in
theorem q_439 : (Cond.methodLink RX0 (42 : Nat) yX4_hallAhead) ∈ lw_all := List.mem_filter.mpr ⟨List.mem_of_getElem? (i := 439) rfl, rfl⟩
set_option maxRecDepth 100000 in
theorem q_440 : (Cond.instanceMethod yX4_hallAhead) ∈ lw_all := List.mem_filter.mpr ⟨List.mem_of_getElem? (i := 440) rfl, rfl⟩
set_option maxRecDepth 100000 in
theorem q_441 : (Cond.selects RX4 yX4_hallAhead yX4_hallAhead) ∈ lw_all := List.mem_filter.mpr ⟨List.mem_of_getElem? (i := 441) rfl, rfl⟩
set_option maxRecDepth 100000 in
theorem q_442 : (Cond.code yX4_hallAhead prog_6_method_6_code (3 : Nat) (Option.some FieldType.int)) ∈ lw_all := List.mem_filter.mpr ⟨List.mem_of_getElem? (i := 442) rfl, rfl⟩
set_option maxRecDepth 100000 in
theorem q_443 : (Cond.methodLink RX4 (66 : Nat) yX4_hallBehind) ∈ lw_all := List.mem_filter.mpr ⟨List.mem_of_getElem? (i := 443) rfl, rfl⟩
set_option maxRecDepth 100000 in
theorem q_445 : (Cond.methodLink RX0 (30 : Nat) yX0_leaveThrough) ∈ lw_all := List.mem_filter.mpr ⟨List.mem_of_getElem? (i := 445) rfl, rfl⟩
set_option maxRecDepth 100000 in
theorem q_447 : (Cond.instanceMethod yX0_leaveThrough) ∈ lw_all := List.mem_filter.mpr ⟨List.mem_of_getElem? (i := 447) rfl, rfl⟩
set_option maxRecDepth 100000 in
theorem q_448 : (Cond.code yX0_leaveThrough prog_2_method_4_code (7 : Nat) (Option.some FieldType.int)) ∈ lw_all := List.mem_filter.mpr ⟨List.mem_of_getElem? (i := 448) rfl, rfl⟩
set_option maxRecDepth 100000 in
theorem q_449 : (Cond.methodLink RX0 (48 : Nat) yX4_mostThrough) ∈ lw_all := List.mem_filter.mpr ⟨List.mem_of_getElem? (i := 449) rfl, rfl⟩
set_option maxRecDepth 100000 in
theorem q_450 : (Cond.instanceMethod yX4_mostThrough) ∈ lw_all := List.mem_filter.mpr ⟨List.mem_of_getElem? (i := 450) rfl, rfl⟩
set_option maxRecDepth 100000 in
theorem q_451 : (Cond.selects RX4 yX4_mostThrough yX4_mostThrough) ∈ lw_all := List.mem_filter.mpr ⟨List.mem_of_getElem? (i := 451) rfl, rfl⟩
set_option maxRecDepth 100000 in
theorem q_452 : (Cond.code yX4_mostThrough prog_6_method_10_code (3 : Nat) (Option.some FieldType.int)) ∈ lw_all := List.mem_filter.mpr ⟨List.mem_of_getElem? (i := 452) rfl, rfl⟩
set_option maxRecDepth 100000 in
theorem q_453 : (Cond.methodLink RX4 (74 : Nat) yX4_goes) ∈ lw_all := List.mem_filter.mpr ⟨List.mem_of_getElem? (i := 453) rfl, rfl⟩
set_option maxRecDepth 100000 in
theorem q_454 : (Cond.methodLink RX4 (78 : Nat) yX4_readyToLeave) ∈ lw_all := List.mem_filter.mpr ⟨List.mem_of_getElem? (i := 454) rfl, rfl⟩
set_option maxRecDepth 100000 in
theorem q_456 : (Cond.instanceMethod yX4_readyToLeave) ∈ lw_all := List.mem_filter.mpr ⟨List.mem_of_getElem? (i := 456) rfl, rfl⟩
set_option maxRecDepth 100000 in
theorem q_457 : (Cond.code yX4_readyToLeave prog_6_method_11_code (2 : Nat) (Option.some FieldType.int)) ∈ lw_all := List.mem_filter.mpr ⟨List.mem_of_getElem? (i := 457) rfl, rfl⟩
set_option maxRecDepth 100000 in
theorem q_458 : (Cond.methodLink RX4 (88 : Nat) (⟨"java/lang/Math", "min", "(II)I"⟩ : MethodName)) ∈ lw_all := List.mem_filter.mpr ⟨List.mem_of_getElem? (i := 458) rfl, rfl⟩
set_option maxRecDepth 100000 in
theorem q_459 : (Cond.static (⟨"java/lang/Math", "min", "(II)I"⟩ : MethodName)) ∈ lw_all := List.mem_filter.mpr ⟨List.mem_of_getElem? (i := 459) rfl, rfl⟩
set_option maxRecDepth 100000 in
theorem q_460 : (Cond.code (⟨"java/lang/Math", "min", "(II)I"⟩ : MethodName) prog_9_method_69_code (2 : Nat) (Option.some FieldType.int)) ∈ lw_all := List.mem_filter.mpr ⟨List.mem_of_getElem? (i := 460) rfl, rfl⟩
set_option maxRecDepth 100000 in
theorem q_461 : (Cond.methodLink RX4 (82 : Nat) yX4_hallAhead) ∈ lw_all := List.mem_filter.mpr ⟨List.mem_of_getElem? (i := 461) rfl, rfl⟩
set_option maxRecDepth 100000 in
theorem q_462 : (Cond.methodLink RX4 (85 : Nat) yX4_roomLeft) ∈ lw_all := List.mem_filter.mpr ⟨List.mem_of_getElem? (i := 462) rfl, rfl⟩
set_option maxRecDepth 100000 in
theorem q_464 : (Cond.instanceMethod yX4_roomLeft) ∈ lw_all := List.mem_filter.mpr ⟨List.mem_of_getElem? (i := 464) rfl, rfl⟩
set_option maxRecDepth 100000 in
theorem q_465 : (Cond.code yX4_roomLeft prog_6_method_12_code (2 : Nat) (Option.some FieldType.int)) ∈ lw_all := List.mem_filter.mpr ⟨List.mem_of_getElem? (i := 465) rfl, rfl⟩
set_option maxRecDepth 100000 in
theorem q_466 : (Cond.methodLink RX0 (51 : Nat) (⟨"java/lang/Math", "min", "(II)I"⟩ : MethodName)) ∈ lw_all := List.mem_filter.mpr ⟨List.mem_of_getElem? (i := 466) rfl, rfl⟩
set_option maxRecDepth 100000 in
theorem q_467 : (Cond.methodLink RX0 (57 : Nat) yX4_letThrough) ∈ lw_all := List.mem_filter.mpr ⟨List.mem_of_getElem? (i := 467) rfl, rfl⟩
set_option maxRecDepth 100000 in
theorem q_468 : (Cond.instanceMethod yX4_letThrough) ∈ lw_all := List.mem_filter.mpr ⟨List.mem_of_getElem? (i := 468) rfl, rfl⟩
set_option maxRecDepth 100000 in
theorem q_469 : (Cond.selects RX4 yX4_letThrough yX4_letThrough) ∈ lw_all := List.mem_filter.mpr ⟨List.mem_of_getElem? (i := 469) rfl, rfl⟩
set_option maxRecDepth 100000 in
theorem q_470 : (Cond.code yX4_letThrough prog_6_method_13_code (6 : Nat) (Option.none : Option FieldType)) ∈ lw_all := List.mem_filter.mpr ⟨List.mem_of_getElem? (i := 470) rfl, rfl⟩
set_option maxRecDepth 100000 in
theorem q_471 : (Cond.methodLink RX4 (94 : Nat) yX4_moveTo) ∈ lw_all := List.mem_filter.mpr ⟨List.mem_of_getElem? (i := 471) rfl, rfl⟩
set_option maxRecDepth 100000 in
theorem q_473 : (Cond.instanceMethod yX4_moveTo) ∈ lw_all := List.mem_filter.mpr ⟨List.mem_of_getElem? (i := 473) rfl, rfl⟩
set_option maxRecDepth 100000 in
theorem q_474 : (Cond.code yX4_moveTo prog_6_method_14_code (3 : Nat) (Option.none : Option FieldType)) ∈ lw_all := List.mem_filter.mpr ⟨List.mem_of_getElem? (i := 474) rfl, rfl⟩
set_option maxRecDepth 100000 in
theorem q_476 : (Cond.methodLink RX4 (101 : Nat) yX1_seePeople) ∈ lw_all := List.mem_filter.mpr ⟨List.mem_of_getElem? (i := 476) rfl, rfl⟩
set_option maxRecDepth 100000 in
theorem q_477 : (Cond.instanceMethod yX1_seePeople) ∈ lw_all := List.mem_filter.mpr ⟨List.mem_of_getElem? (i := 477) rfl, rfl⟩
set_option maxRecDepth 100000 in
theorem q_478 : (Cond.selects RX1 yX1_seePeople yX1_seePeople) ∈ lw_all := List.mem_filter.mpr ⟨List.mem_of_getElem? (i := 478) rfl, rfl⟩
set_option maxRecDepth 100000 in
theorem q_479 : (Cond.code yX1_seePeople prog_3_method_4_code (6 : Nat) (Option.none : Option FieldType)) ∈ lw_all := List.mem_filter.mpr ⟨List.mem_of_getElem? (i := 479) rfl, rfl⟩
set_option maxRecDepth 100000 in
theorem q_481 : (Cond.methodLink RX0 (34 : Nat) yX4_letHourPass) ∈ lw_all := List.mem_filter.mpr ⟨List.mem_of_getElem? (i := 481) rfl, rfl⟩
set_option maxRecDepth 100000 in
theorem q_482 : (Cond.methodLink RL (42 : Nat) yX5_set) ∈ lw_all := List.mem_filter.mpr ⟨List.mem_of_getElem? (i := 482) rfl, rfl⟩
set_option maxRecDepth 100000 in
theorem q_483 : (Cond.instanceMethod yX5_set) ∈ lw_all := List.mem_filter.mpr ⟨List.mem_of_getElem? (i := 483) rfl, rfl⟩
set_option maxRecDepth 100000 in
theorem q_484 : (Cond.selects RX5 yX5_set yX5_set) ∈ lw_all := List.mem_filter.mpr ⟨List.mem_of_getElem? (i := 484) rfl, rfl⟩
set_option maxRecDepth 100000 in
theorem q_485 : (Cond.code yX5_set prog_1_method_11_code (4 : Nat) (Option.some FieldType.int)) ∈ lw_all := List.mem_filter.mpr ⟨List.mem_of_getElem? (i := 485) rfl, rfl⟩
set_option maxRecDepth 100000 in
theorem q_486 : (Cond.methodLink RL (45 : Nat) yX5_pass) ∈ lw_all := List.mem_filter.mpr ⟨List.mem_of_getElem? (i := 486) rfl, rfl⟩
set_option maxRecDepth 100000 in
theorem q_487 : (Cond.instanceMethod yX5_pass) ∈ lw_all := List.mem_filter.mpr ⟨List.mem_of_getElem? (i := 487) rfl, rfl⟩
set_option maxRecDepth 100000 in
theorem q_488 : (Cond.selects RX5 yX5_pass yX5_pass) ∈ lw_all := List.mem_filter.mpr ⟨List.mem_of_getElem? (i := 488) rfl, rfl⟩
set_option maxRecDepth 100000 in
theorem q_489 : (Cond.code yX5_pass prog_1_method_6_code (5 : Nat) (Option.some FieldType.int)) ∈ lw_all := List.mem_filter.mpr ⟨List.mem_of_getElem? (i := 489) rfl, rfl⟩
set_option maxRecDepth 100000 in
theorem q_490 : (Cond.methodLink RX5 (113 : Nat) yX5_passError) ∈ lw_all := List.mem_filter.mpr ⟨List.mem_of_getElem? (i := 490) rfl, rfl⟩
set_option maxRecDepth 100000 in
theorem q_492 : (Cond.instanceMethod yX5_passError) ∈ lw_all := List.mem_filter.mpr ⟨List.mem_of_getElem? (i := 492) rfl, rfl⟩
set_option maxRecDepth 100000 in
theorem q_493 : (Cond.code yX5_passError prog_1_method_29_code (5 : Nat) (Option.some FieldType.int)) ∈ lw_all := List.mem_filter.mpr ⟨List.mem_of_getElem? (i := 493) rfl, rfl⟩
set_option maxRecDepth 100000 in
theorem q_494 : (Cond.methodLink RX5 (215 : Nat) yX5_isManyPeople) ∈ lw_all := List.mem_filter.mpr ⟨List.mem_of_getElem? (i := 494) rfl, rfl⟩
set_option maxRecDepth 100000 in
theorem q_495 : (Cond.static yX5_isManyPeople) ∈ lw_all := List.mem_filter.mpr ⟨List.mem_of_getElem? (i := 495) rfl, rfl⟩
set_option maxRecDepth 100000 in
theorem q_496 : (Cond.code yX5_isManyPeople prog_1_method_39_code (1 : Nat) (Option.some FieldType.boolean)) ∈ lw_all := List.mem_filter.mpr ⟨List.mem_of_getElem? (i := 496) rfl, rfl⟩
set_option maxRecDepth 100000 in
theorem q_497 : (Cond.methodLink RX5 (218 : Nat) yX4_whyNot) ∈ lw_all := List.mem_filter.mpr ⟨List.mem_of_getElem? (i := 497) rfl, rfl⟩
set_option maxRecDepth 100000 in
theorem q_498 : (Cond.instanceMethod yX4_whyNot) ∈ lw_all := List.mem_filter.mpr ⟨List.mem_of_getElem? (i := 498) rfl, rfl⟩
set_option maxRecDepth 100000 in
theorem q_499 : (Cond.selects RX4 yX4_whyNot yX4_whyNot) ∈ lw_all := List.mem_filter.mpr ⟨List.mem_of_getElem? (i := 499) rfl, rfl⟩
set_option maxRecDepth 100000 in
theorem q_500 : (Cond.code yX4_whyNot prog_6_method_9_code (4 : Nat) (Option.some FieldType.int)) ∈ lw_all := List.mem_filter.mpr ⟨List.mem_of_getElem? (i := 500) rfl, rfl⟩
set_option maxRecDepth 100000 in
theorem q_501 : (Cond.methodLink RX5 (117 : Nat) yX4_letThrough) ∈ lw_all := List.mem_filter.mpr ⟨List.mem_of_getElem? (i := 501) rfl, rfl⟩
set_option maxRecDepth 100000 in
theorem q_502 : (Cond.methodLink RL (95 : Nat) yL_numbers) ∈ lw_all := List.mem_filter.mpr ⟨List.mem_of_getElem? (i := 502) rfl, rfl⟩
set_option maxRecDepth 100000 in
theorem q_503 : (Cond.static yL_numbers) ∈ lw_all := List.mem_filter.mpr ⟨List.mem_of_getElem? (i := 503) rfl, rfl⟩
set_option maxRecDepth 100000 in
theorem q_504 : (Cond.code yL_numbers method_4_code (4 : Nat) (Option.some FieldType.int)) ∈ lw_all := List.mem_filter.mpr ⟨List.mem_of_getElem? (i := 504) rfl, rfl⟩
set_option maxRecDepth 100000 in
theorem q_505 : (Cond.methodLink RL (52 : Nat) yX5_hall) ∈ lw_all := List.mem_filter.mpr ⟨List.mem_of_getElem? (i := 505) rfl, rfl⟩
set_option maxRecDepth 100000 in
theorem q_506 : (Cond.instanceMethod yX5_hall) ∈ lw_all := List.mem_filter.mpr ⟨List.mem_of_getElem? (i := 506) rfl, rfl⟩
set_option maxRecDepth 100000 in
theorem q_507 : (Cond.selects RX5 yX5_hall yX5_hall) ∈ lw_all := List.mem_filter.mpr ⟨List.mem_of_getElem? (i := 507) rfl, rfl⟩
set_option maxRecDepth 100000 in
theorem q_508 : (Cond.code yX5_hall prog_1_method_19_code (3 : Nat) (Option.some FieldType.int)) ∈ lw_all := List.mem_filter.mpr ⟨List.mem_of_getElem? (i := 508) rfl, rfl⟩
set_option maxRecDepth 100000 in
theorem q_509 : (Cond.methodLink RX5 (190 : Nat) yX4_toldByOwnSides) ∈ lw_all := List.mem_filter.mpr ⟨List.mem_of_getElem? (i := 509) rfl, rfl⟩
set_option maxRecDepth 100000 in
theorem q_510 : (Cond.methodLink RX5 (193 : Nat) yX4_toldByFarSides) ∈ lw_all := List.mem_filter.mpr ⟨List.mem_of_getElem? (i := 510) rfl, rfl⟩
set_option maxRecDepth 100000 in
theorem q_511 : (Cond.methodLink RX5 (196 : Nat) yX0_distanceOrNone) ∈ lw_all := List.mem_filter.mpr ⟨List.mem_of_getElem? (i := 511) rfl, rfl⟩
set_option maxRecDepth 100000 in
theorem q_512 : (Cond.instanceMethod yX0_distanceOrNone) ∈ lw_all := List.mem_filter.mpr ⟨List.mem_of_getElem? (i := 512) rfl, rfl⟩
set_option maxRecDepth 100000 in
theorem q_513 : (Cond.selects RX0 yX0_distanceOrNone yX0_distanceOrNone) ∈ lw_all := List.mem_filter.mpr ⟨List.mem_of_getElem? (i := 513) rfl, rfl⟩
set_option maxRecDepth 100000 in
theorem q_514 : (Cond.code yX0_distanceOrNone prog_2_method_2_code (4 : Nat) (Option.some FieldType.int)) ∈ lw_all := List.mem_filter.mpr ⟨List.mem_of_getElem? (i := 514) rfl, rfl⟩
set_option maxRecDepth 100000 in
theorem q_515 : (Cond.constant RX0 (23 : Nat) (-100005 : Int32)) ∈ lw_all := List.mem_filter.mpr ⟨List.mem_of_getElem? (i := 515) rfl, rfl⟩
set_option maxRecDepth 100000 in
theorem q_516 : (Cond.methodLink RX5 (200 : Nat) yX4_stilesOfHall) ∈ lw_all := List.mem_filter.mpr ⟨List.mem_of_getElem? (i := 516) rfl, rfl⟩
set_option maxRecDepth 100000 in
theorem q_517 : (Cond.instanceMethod yX4_stilesOfHall) ∈ lw_all := List.mem_filter.mpr ⟨List.mem_of_getElem? (i := 517) rfl, rfl⟩
set_option maxRecDepth 100000 in
theorem q_518 : (Cond.selects RX4 yX4_stilesOfHall yX4_stilesOfHall) ∈ lw_all := List.mem_filter.mpr ⟨List.mem_of_getElem? (i := 518) rfl, rfl⟩
set_option maxRecDepth 100000 in
theorem q_519 : (Cond.code yX4_stilesOfHall prog_6_method_28_code (4 : Nat) (Option.some FieldType.int)) ∈ lw_all := List.mem_filter.mpr ⟨List.mem_of_getElem? (i := 519) rfl, rfl⟩
set_option maxRecDepth 100000 in
theorem q_520 : (Cond.methodLink RL (55 : Nat) yX5_counter) ∈ lw_all := List.mem_filter.mpr ⟨List.mem_of_getElem? (i := 520) rfl, rfl⟩
set_option maxRecDepth 100000 in
theorem q_521 : (Cond.instanceMethod yX5_counter) ∈ lw_all := List.mem_filter.mpr ⟨List.mem_of_getElem? (i := 521) rfl, rfl⟩
set_option maxRecDepth 100000 in
theorem q_522 : (Cond.selects RX5 yX5_counter yX5_counter) ∈ lw_all := List.mem_filter.mpr ⟨List.mem_of_getElem? (i := 522) rfl, rfl⟩
set_option maxRecDepth 100000 in
theorem q_523 : (Cond.code yX5_counter prog_1_method_21_code (5 : Nat) (Option.some FieldType.int)) ∈ lw_all := List.mem_filter.mpr ⟨List.mem_of_getElem? (i := 523) rfl, rfl⟩
set_option maxRecDepth 100000 in
theorem q_524 : (Cond.methodLink RL (103 : Nat) yL_hangs) ∈ lw_all := List.mem_filter.mpr ⟨List.mem_of_getElem? (i := 524) rfl, rfl⟩
set_option maxRecDepth 100000 in
theorem q_525 : (Cond.static yL_hangs) ∈ lw_all := List.mem_filter.mpr ⟨List.mem_of_getElem? (i := 525) rfl, rfl⟩
set_option maxRecDepth 100000 in
theorem q_526 : (Cond.code yL_hangs method_6_code (19 : Nat) (Option.some FieldType.boolean)) ∈ lw_all := List.mem_filter.mpr ⟨List.mem_of_getElem? (i := 526) rfl, rfl⟩
set_option maxRecDepth 100000 in
theorem q_527 : (Cond.constant RL (61 : Nat) (-100001 : Int32)) ∈ lw_all := List.mem_filter.mpr ⟨List.mem_of_getElem? (i := 527) rfl, rfl⟩
set_option maxRecDepth 100000 in
theorem q_528 : (Cond.constant RL (62 : Nat) (-100005 : Int32)) ∈ lw_all := List.mem_filter.mpr ⟨List.mem_of_getElem? (i := 528) rfl, rfl⟩
set_option maxRecDepth 100000 in
theorem q_529 : (Cond.methodLink RL (63 : Nat) yL_apart) ∈ lw_all := List.mem_filter.mpr ⟨List.mem_of_getElem? (i := 529) rfl, rfl⟩
set_option maxRecDepth 100000 in
theorem q_530 : (Cond.static yL_apart) ∈ lw_all := List.mem_filter.mpr ⟨List.mem_of_getElem? (i := 530) rfl, rfl⟩
set_option maxRecDepth 100000 in
theorem q_531 : (Cond.code yL_apart method_5_code (2 : Nat) (Option.some FieldType.int)) ∈ lw_all := List.mem_filter.mpr ⟨List.mem_of_getElem? (i := 531) rfl, rfl⟩
set_option maxRecDepth 100000 in
theorem q_532 : (Cond.methodLink RL (68 : Nat) yX5_most) ∈ lw_all := List.mem_filter.mpr ⟨List.mem_of_getElem? (i := 532) rfl, rfl⟩
set_option maxRecDepth 100000 in
theorem q_533 : (Cond.instanceMethod yX5_most) ∈ lw_all := List.mem_filter.mpr ⟨List.mem_of_getElem? (i := 533) rfl, rfl⟩
set_option maxRecDepth 100000 in
theorem q_534 : (Cond.selects RX5 yX5_most yX5_most) ∈ lw_all := List.mem_filter.mpr ⟨List.mem_of_getElem? (i := 534) rfl, rfl⟩
set_option maxRecDepth 100000 in
theorem q_535 : (Cond.code yX5_most prog_1_method_25_code (3 : Nat) (Option.some FieldType.int)) ∈ lw_all := List.mem_filter.mpr ⟨List.mem_of_getElem? (i := 535) rfl, rfl⟩
set_option maxRecDepth 100000 in
theorem q_536 : (Cond.methodLink RX5 (242 : Nat) yX4_mostThrough) ∈ lw_all := List.mem_filter.mpr ⟨List.mem_of_getElem? (i := 536) rfl, rfl⟩
set_option maxRecDepth 100000 in
theorem q_537 : (Cond.methodLink RL (72 : Nat) yX5_reason) ∈ lw_all := List.mem_filter.mpr ⟨List.mem_of_getElem? (i := 537) rfl, rfl⟩
set_option maxRecDepth 100000 in
theorem q_538 : (Cond.instanceMethod yX5_reason) ∈ lw_all := List.mem_filter.mpr ⟨List.mem_of_getElem? (i := 538) rfl, rfl⟩
set_option maxRecDepth 100000 in
theorem q_539 : (Cond.selects RX5 yX5_reason yX5_reason) ∈ lw_all := List.mem_filter.mpr ⟨List.mem_of_getElem? (i := 539) rfl, rfl⟩
set_option maxRecDepth 100000 in
theorem q_540 : (Cond.code yX5_reason prog_1_method_22_code (4 : Nat) (Option.some FieldType.int)) ∈ lw_all := List.mem_filter.mpr ⟨List.mem_of_getElem? (i := 540) rfl, rfl⟩
set_option maxRecDepth 100000 in
theorem q_541 : (Cond.methodLink RL (75 : Nat) yX5_worst) ∈ lw_all := List.mem_filter.mpr ⟨List.mem_of_getElem? (i := 541) rfl, rfl⟩
set_option maxRecDepth 100000 in
theorem q_542 : (Cond.instanceMethod yX5_worst) ∈ lw_all := List.mem_filter.mpr ⟨List.mem_of_getElem? (i := 542) rfl, rfl⟩
set_option maxRecDepth 100000 in
theorem q_543 : (Cond.selects RX5 yX5_worst yX5_worst) ∈ lw_all := List.mem_filter.mpr ⟨List.mem_of_getElem? (i := 543) rfl, rfl⟩
set_option maxRecDepth 100000 in
theorem q_544 : (Cond.code yX5_worst prog_1_method_23_code (3 : Nat) (Option.some FieldType.int)) ∈ lw_all := List.mem_filter.mpr ⟨List.mem_of_getElem? (i := 544) rfl, rfl⟩
set_option maxRecDepth 100000 in
theorem q_545 : (Cond.methodLink RX5 (221 : Nat) yX4_worseStiles) ∈ lw_all := List.mem_filter.mpr ⟨List.mem_of_getElem? (i := 545) rfl, rfl⟩
set_option maxRecDepth 100000 in
theorem q_546 : (Cond.instanceMethod yX4_worseStiles) ∈ lw_all := List.mem_filter.mpr ⟨List.mem_of_getElem? (i := 546) rfl, rfl⟩
set_option maxRecDepth 100000 in
theorem q_547 : (Cond.selects RX4 yX4_worseStiles yX4_worseStiles) ∈ lw_all := List.mem_filter.mpr ⟨List.mem_of_getElem? (i := 547) rfl, rfl⟩
set_option maxRecDepth 100000 in
theorem q_548 : (Cond.code yX4_worseStiles prog_6_method_31_code (6 : Nat) (Option.some FieldType.int)) ∈ lw_all := List.mem_filter.mpr ⟨List.mem_of_getElem? (i := 548) rfl, rfl⟩
set_option maxRecDepth 100000 in
theorem q_549 : (Cond.constant RL (78 : Nat) (-100002 : Int32)) ∈ lw_all := List.mem_filter.mpr ⟨List.mem_of_getElem? (i := 549) rfl, rfl⟩
set_option maxRecDepth 100000 in
theorem q_550 : (Cond.methodLink RL (79 : Nat) yX5_fullness) ∈ lw_all := List.mem_filter.mpr ⟨List.mem_of_getElem? (i := 550) rfl, rfl⟩
set_option maxRecDepth 100000 in
theorem q_551 : (Cond.instanceMethod yX5_fullness) ∈ lw_all := List.mem_filter.mpr ⟨List.mem_of_getElem? (i := 551) rfl, rfl⟩
set_option maxRecDepth 100000 in
theorem q_552 : (Cond.selects RX5 yX5_fullness yX5_fullness) ∈ lw_all := List.mem_filter.mpr ⟨List.mem_of_getElem? (i := 552) rfl, rfl⟩
set_option maxRecDepth 100000 in
theorem q_553 : (Cond.code yX5_fullness prog_1_method_28_code (2 : Nat) (Option.some FieldType.double)) ∈ lw_all := List.mem_filter.mpr ⟨List.mem_of_getElem? (i := 553) rfl, rfl⟩
set_option maxRecDepth 100000 in
theorem q_554 : (Cond.methodLink RX5 (246 : Nat) yX4_roomsOfAllHalls) ∈ lw_all := List.mem_filter.mpr ⟨List.mem_of_getElem? (i := 554) rfl, rfl⟩
set_option maxRecDepth 100000 in
theorem q_555 : (Cond.instanceMethod yX4_roomsOfAllHalls) ∈ lw_all := List.mem_filter.mpr ⟨List.mem_of_getElem? (i := 555) rfl, rfl⟩
set_option maxRecDepth 100000 in
theorem q_556 : (Cond.selects RX4 yX4_roomsOfAllHalls yX4_roomsOfAllHalls) ∈ lw_all := List.mem_filter.mpr ⟨List.mem_of_getElem? (i := 556) rfl, rfl⟩
set_option maxRecDepth 100000 in
theorem q_557 : (Cond.code yX4_roomsOfAllHalls prog_6_method_25_code (1 : Nat) (Option.some FieldType.int)) ∈ lw_all := List.mem_filter.mpr ⟨List.mem_of_getElem? (i := 557) rfl, rfl⟩
set_option maxRecDepth 100000 in
theorem q_558 : (Cond.methodLink RL (83 : Nat) yX5_emptyIn) ∈ lw_all := List.mem_filter.mpr ⟨List.mem_of_getElem? (i := 558) rfl, rfl⟩
set_option maxRecDepth 100000 in
theorem q_559 : (Cond.instanceMethod yX5_emptyIn) ∈ lw_all := List.mem_filter.mpr ⟨List.mem_of_getElem? (i := 559) rfl, rfl⟩
set_option maxRecDepth 100000 in
theorem q_560 : (Cond.selects RX5 yX5_emptyIn yX5_emptyIn) ∈ lw_all := List.mem_filter.mpr ⟨List.mem_of_getElem? (i := 560) rfl, rfl⟩
set_option maxRecDepth 100000 in
theorem q_561 : (Cond.code yX5_emptyIn prog_1_method_26_code (3 : Nat) (Option.some FieldType.int)) ∈ lw_all := List.mem_filter.mpr ⟨List.mem_of_getElem? (i := 561) rfl, rfl⟩
set_option maxRecDepth 100000 in
theorem q_562 : (Cond.constant RL (90 : Nat) (-100004 : Int32)) ∈ lw_all := List.mem_filter.mpr ⟨List.mem_of_getElem? (i := 562) rfl, rfl⟩
def lw_nst : List Cond := [(Cond.methodLinkNest RX4 (32 : Nat) yX1_init "HallStiles"), (Cond.fieldLinkNest RX5 (209 : Nat) "HallStiles$Counters" "counts" "[I" "HallStiles"), (Cond.fieldLinkNest RX5 (104 : Nat) "HallStiles$Counters" "slips" "[I" "HallStiles"), (Cond.fieldLinkNest RX5 (212 : Nat) "HallStiles$Counters" "missed" "[I" "HallStiles"), (Cond.fieldLinkNest RX5 (88 : Nat) "HallStiles$State" "rooms" "[I" "HallStiles"), (Cond.fieldLinkNest RX5 (84 : Nat) "HallStiles$State" "people" "[I" "HallStiles"), (Cond.fieldLinkNest RX5 (203 : Nat) "HallStiles$State" "firsts" "[I" "HallStiles"), (Cond.fieldLinkNest RX5 (206 : Nat) "HallStiles$State" "seconds" "[I" "HallStiles"), (Cond.fieldLinkNest RX5 (69 : Nat) "HallStiles$State" "ways" "[I" "HallStiles"), (Cond.fieldLinkNest RX5 (138 : Nat) "HallStiles$State" "repairs" "[I" "HallStiles"), (Cond.fieldLinkNest RX5 (100 : Nat) "HallStiles$State" "counters" "LHallStiles$Counters;" "HallStiles"), (Cond.fieldLinkNest RX5 (53 : Nat) "HallStiles$State" "stiles" "I" "HallStiles"), (Cond.fieldLinkNest RX0 (24 : Nat) "HallStiles$State" "stiles" "I" "HallStiles"), (Cond.fieldLinkNest RX0 (45 : Nat) "HallStiles$State" "rate" "I" "HallStiles"), (Cond.fieldLinkNest RX5 (155 : Nat) "HallStiles$State" "rate" "I" "HallStiles"), (Cond.fieldLinkNest RX5 (158 : Nat) "HallStiles$State" "repairHours" "I" "HallStiles"), (Cond.fieldLinkNest RX5 (135 : Nat) "HallStiles$State" "clock" "I" "HallStiles"), (Cond.fieldLinkNest RX5 (181 : Nat) "HallStiles$History" "size" "I" "HallStiles"), (Cond.methodLinkNest RX5 (31 : Nat) yX0_init "HallStiles"), (Cond.methodLinkNest RX5 (38 : Nat) yX3_init "HallStiles"), (Cond.fieldLinkNest RX5 (161 : Nat) "HallStiles$Script" "length" "I" "HallStiles"), (Cond.methodLinkNest RX4 (50 : Nat) yX5_copyRow "HallStiles"), (Cond.methodLinkNest RX1 (24 : Nat) yX5_copyRow "HallStiles"), (Cond.methodLinkNest RX4 (62 : Nat) yX5_at "HallStiles"), (Cond.methodLinkNest RX1 (39 : Nat) yX5_counterIndex "HallStiles"), (Cond.methodLinkNest RX1 (32 : Nat) yX5_at "HallStiles"), (Cond.methodLinkNest RX4 (58 : Nat) yX5_put "HallStiles"), (Cond.methodLinkNest RX1 (28 : Nat) yX5_put "HallStiles"), (Cond.methodLinkNest RX4 (104 : Nat) yX5_add "HallStiles"), (Cond.methodLinkNest RX0 (61 : Nat) yX5_put "HallStiles"), (Cond.methodLinkNest RX0 (19 : Nat) yX5_at "HallStiles"), (Cond.methodLinkNest RX4 (98 : Nat) yX5_counterIndex "HallStiles"), (Cond.methodLinkNest RX1 (36 : Nat) yX5_add "HallStiles")]
def lw_isNst : Cond → Bool
  | .fieldLinkNest .. => true
  | .methodLinkNest .. => true
  | _ => false
theorem lw_nst_all : lw_nst.all lw_isNst = true := rfl
theorem k_0 : (Cond.methodLinkNest RX4 (32 : Nat) yX1_init "HallStiles") ∈ lw_nst := List.mem_of_getElem? (i := 0) rfl
set_option maxRecDepth 100000 in
theorem kt_0 : (Cond.methodLinkNest RX4 (32 : Nat) yX1_init "HallStiles") ∈ lw_tbl := List.mem_of_getElem? (i := 37) rfl
theorem k_1 : (Cond.fieldLinkNest RX5 (209 : Nat) "HallStiles$Counters" "counts" "[I" "HallStiles") ∈ lw_nst := List.mem_of_getElem? (i := 1) rfl
set_option maxRecDepth 100000 in
theorem kt_1 : (Cond.fieldLinkNest RX5 (209 : Nat) "HallStiles$Counters" "counts" "[I" "HallStiles") ∈ lw_tbl := List.mem_of_getElem? (i := 42) rfl
theorem k_2 : (Cond.fieldLinkNest RX5 (104 : Nat) "HallStiles$Counters" "slips" "[I" "HallStiles") ∈ lw_nst := List.mem_of_getElem? (i := 2) rfl
set_option maxRecDepth 100000 in
theorem kt_2 : (Cond.fieldLinkNest RX5 (104 : Nat) "HallStiles$Counters" "slips" "[I" "HallStiles") ∈ lw_tbl := List.mem_of_getElem? (i := 44) rfl
theorem k_3 : (Cond.fieldLinkNest RX5 (212 : Nat) "HallStiles$Counters" "missed" "[I" "HallStiles") ∈ lw_nst := List.mem_of_getElem? (i := 3) rfl
set_option maxRecDepth 100000 in
theorem kt_3 : (Cond.fieldLinkNest RX5 (212 : Nat) "HallStiles$Counters" "missed" "[I" "HallStiles") ∈ lw_tbl := List.mem_of_getElem? (i := 47) rfl
theorem k_4 : (Cond.fieldLinkNest RX5 (88 : Nat) "HallStiles$State" "rooms" "[I" "HallStiles") ∈ lw_nst := List.mem_of_getElem? (i := 4) rfl
set_option maxRecDepth 100000 in
theorem kt_4 : (Cond.fieldLinkNest RX5 (88 : Nat) "HallStiles$State" "rooms" "[I" "HallStiles") ∈ lw_tbl := List.mem_of_getElem? (i := 59) rfl
theorem k_5 : (Cond.fieldLinkNest RX5 (84 : Nat) "HallStiles$State" "people" "[I" "HallStiles") ∈ lw_nst := List.mem_of_getElem? (i := 5) rfl
set_option maxRecDepth 100000 in
theorem kt_5 : (Cond.fieldLinkNest RX5 (84 : Nat) "HallStiles$State" "people" "[I" "HallStiles") ∈ lw_tbl := List.mem_of_getElem? (i := 61) rfl
theorem k_6 : (Cond.fieldLinkNest RX5 (203 : Nat) "HallStiles$State" "firsts" "[I" "HallStiles") ∈ lw_nst := List.mem_of_getElem? (i := 6) rfl
set_option maxRecDepth 100000 in
theorem kt_6 : (Cond.fieldLinkNest RX5 (203 : Nat) "HallStiles$State" "firsts" "[I" "HallStiles") ∈ lw_tbl := List.mem_of_getElem? (i := 63) rfl
theorem k_7 : (Cond.fieldLinkNest RX5 (206 : Nat) "HallStiles$State" "seconds" "[I" "HallStiles") ∈ lw_nst := List.mem_of_getElem? (i := 7) rfl
set_option maxRecDepth 100000 in
theorem kt_7 : (Cond.fieldLinkNest RX5 (206 : Nat) "HallStiles$State" "seconds" "[I" "HallStiles") ∈ lw_tbl := List.mem_of_getElem? (i := 65) rfl
theorem k_8 : (Cond.fieldLinkNest RX5 (69 : Nat) "HallStiles$State" "ways" "[I" "HallStiles") ∈ lw_nst := List.mem_of_getElem? (i := 8) rfl
set_option maxRecDepth 100000 in
theorem kt_8 : (Cond.fieldLinkNest RX5 (69 : Nat) "HallStiles$State" "ways" "[I" "HallStiles") ∈ lw_tbl := List.mem_of_getElem? (i := 67) rfl
theorem k_9 : (Cond.fieldLinkNest RX5 (138 : Nat) "HallStiles$State" "repairs" "[I" "HallStiles") ∈ lw_nst := List.mem_of_getElem? (i := 9) rfl
set_option maxRecDepth 100000 in
theorem kt_9 : (Cond.fieldLinkNest RX5 (138 : Nat) "HallStiles$State" "repairs" "[I" "HallStiles") ∈ lw_tbl := List.mem_of_getElem? (i := 69) rfl
theorem k_10 : (Cond.fieldLinkNest RX5 (100 : Nat) "HallStiles$State" "counters" "LHallStiles$Counters;" "HallStiles") ∈ lw_nst := List.mem_of_getElem? (i := 10) rfl
set_option maxRecDepth 100000 in
theorem kt_10 : (Cond.fieldLinkNest RX5 (100 : Nat) "HallStiles$State" "counters" "LHallStiles$Counters;" "HallStiles") ∈ lw_tbl := List.mem_of_getElem? (i := 71) rfl
theorem k_11 : (Cond.fieldLinkNest RX5 (53 : Nat) "HallStiles$State" "stiles" "I" "HallStiles") ∈ lw_nst := List.mem_of_getElem? (i := 11) rfl
set_option maxRecDepth 100000 in
theorem kt_11 : (Cond.fieldLinkNest RX5 (53 : Nat) "HallStiles$State" "stiles" "I" "HallStiles") ∈ lw_tbl := List.mem_of_getElem? (i := 73) rfl
theorem k_12 : (Cond.fieldLinkNest RX0 (24 : Nat) "HallStiles$State" "stiles" "I" "HallStiles") ∈ lw_nst := List.mem_of_getElem? (i := 12) rfl
set_option maxRecDepth 100000 in
theorem kt_12 : (Cond.fieldLinkNest RX0 (24 : Nat) "HallStiles$State" "stiles" "I" "HallStiles") ∈ lw_tbl := List.mem_of_getElem? (i := 74) rfl
theorem k_13 : (Cond.fieldLinkNest RX0 (45 : Nat) "HallStiles$State" "rate" "I" "HallStiles") ∈ lw_nst := List.mem_of_getElem? (i := 13) rfl
set_option maxRecDepth 100000 in
theorem kt_13 : (Cond.fieldLinkNest RX0 (45 : Nat) "HallStiles$State" "rate" "I" "HallStiles") ∈ lw_tbl := List.mem_of_getElem? (i := 76) rfl
theorem k_14 : (Cond.fieldLinkNest RX5 (155 : Nat) "HallStiles$State" "rate" "I" "HallStiles") ∈ lw_nst := List.mem_of_getElem? (i := 14) rfl
set_option maxRecDepth 100000 in
theorem kt_14 : (Cond.fieldLinkNest RX5 (155 : Nat) "HallStiles$State" "rate" "I" "HallStiles") ∈ lw_tbl := List.mem_of_getElem? (i := 77) rfl
theorem k_15 : (Cond.fieldLinkNest RX5 (158 : Nat) "HallStiles$State" "repairHours" "I" "HallStiles") ∈ lw_nst := List.mem_of_getElem? (i := 15) rfl
set_option maxRecDepth 100000 in
theorem kt_15 : (Cond.fieldLinkNest RX5 (158 : Nat) "HallStiles$State" "repairHours" "I" "HallStiles") ∈ lw_tbl := List.mem_of_getElem? (i := 79) rfl
theorem k_16 : (Cond.fieldLinkNest RX5 (135 : Nat) "HallStiles$State" "clock" "I" "HallStiles") ∈ lw_nst := List.mem_of_getElem? (i := 16) rfl
set_option maxRecDepth 100000 in
theorem kt_16 : (Cond.fieldLinkNest RX5 (135 : Nat) "HallStiles$State" "clock" "I" "HallStiles") ∈ lw_tbl := List.mem_of_getElem? (i := 81) rfl
theorem k_17 : (Cond.fieldLinkNest RX5 (181 : Nat) "HallStiles$History" "size" "I" "HallStiles") ∈ lw_nst := List.mem_of_getElem? (i := 17) rfl
set_option maxRecDepth 100000 in
theorem kt_17 : (Cond.fieldLinkNest RX5 (181 : Nat) "HallStiles$History" "size" "I" "HallStiles") ∈ lw_tbl := List.mem_of_getElem? (i := 117) rfl
theorem k_18 : (Cond.methodLinkNest RX5 (31 : Nat) yX0_init "HallStiles") ∈ lw_nst := List.mem_of_getElem? (i := 18) rfl
set_option maxRecDepth 100000 in
theorem kt_18 : (Cond.methodLinkNest RX5 (31 : Nat) yX0_init "HallStiles") ∈ lw_tbl := List.mem_of_getElem? (i := 127) rfl
theorem k_19 : (Cond.methodLinkNest RX5 (38 : Nat) yX3_init "HallStiles") ∈ lw_nst := List.mem_of_getElem? (i := 19) rfl
set_option maxRecDepth 100000 in
theorem kt_19 : (Cond.methodLinkNest RX5 (38 : Nat) yX3_init "HallStiles") ∈ lw_tbl := List.mem_of_getElem? (i := 137) rfl
theorem k_20 : (Cond.fieldLinkNest RX5 (161 : Nat) "HallStiles$Script" "length" "I" "HallStiles") ∈ lw_nst := List.mem_of_getElem? (i := 20) rfl
set_option maxRecDepth 100000 in
theorem kt_20 : (Cond.fieldLinkNest RX5 (161 : Nat) "HallStiles$Script" "length" "I" "HallStiles") ∈ lw_tbl := List.mem_of_getElem? (i := 143) rfl
theorem k_21 : (Cond.methodLinkNest RX4 (50 : Nat) yX5_copyRow "HallStiles") ∈ lw_nst := List.mem_of_getElem? (i := 21) rfl
set_option maxRecDepth 100000 in
theorem kt_21 : (Cond.methodLinkNest RX4 (50 : Nat) yX5_copyRow "HallStiles") ∈ lw_tbl := List.mem_of_getElem? (i := 200) rfl
theorem k_22 : (Cond.methodLinkNest RX1 (24 : Nat) yX5_copyRow "HallStiles") ∈ lw_nst := List.mem_of_getElem? (i := 22) rfl
set_option maxRecDepth 100000 in
theorem kt_22 : (Cond.methodLinkNest RX1 (24 : Nat) yX5_copyRow "HallStiles") ∈ lw_tbl := List.mem_of_getElem? (i := 207) rfl
theorem k_23 : (Cond.methodLinkNest RX4 (62 : Nat) yX5_at "HallStiles") ∈ lw_nst := List.mem_of_getElem? (i := 23) rfl
set_option maxRecDepth 100000 in
theorem kt_23 : (Cond.methodLinkNest RX4 (62 : Nat) yX5_at "HallStiles") ∈ lw_tbl := List.mem_of_getElem? (i := 220) rfl
theorem k_24 : (Cond.methodLinkNest RX1 (39 : Nat) yX5_counterIndex "HallStiles") ∈ lw_nst := List.mem_of_getElem? (i := 24) rfl
set_option maxRecDepth 100000 in
theorem kt_24 : (Cond.methodLinkNest RX1 (39 : Nat) yX5_counterIndex "HallStiles") ∈ lw_tbl := List.mem_of_getElem? (i := 250) rfl
theorem k_25 : (Cond.methodLinkNest RX1 (32 : Nat) yX5_at "HallStiles") ∈ lw_nst := List.mem_of_getElem? (i := 25) rfl
set_option maxRecDepth 100000 in
theorem kt_25 : (Cond.methodLinkNest RX1 (32 : Nat) yX5_at "HallStiles") ∈ lw_tbl := List.mem_of_getElem? (i := 253) rfl
theorem k_26 : (Cond.methodLinkNest RX4 (58 : Nat) yX5_put "HallStiles") ∈ lw_nst := List.mem_of_getElem? (i := 26) rfl
set_option maxRecDepth 100000 in
theorem kt_26 : (Cond.methodLinkNest RX4 (58 : Nat) yX5_put "HallStiles") ∈ lw_tbl := List.mem_of_getElem? (i := 328) rfl
theorem k_27 : (Cond.methodLinkNest RX1 (28 : Nat) yX5_put "HallStiles") ∈ lw_nst := List.mem_of_getElem? (i := 27) rfl
set_option maxRecDepth 100000 in
theorem kt_27 : (Cond.methodLinkNest RX1 (28 : Nat) yX5_put "HallStiles") ∈ lw_tbl := List.mem_of_getElem? (i := 358) rfl
theorem k_28 : (Cond.methodLinkNest RX4 (104 : Nat) yX5_add "HallStiles") ∈ lw_nst := List.mem_of_getElem? (i := 28) rfl
set_option maxRecDepth 100000 in
theorem kt_28 : (Cond.methodLinkNest RX4 (104 : Nat) yX5_add "HallStiles") ∈ lw_tbl := List.mem_of_getElem? (i := 401) rfl
theorem k_29 : (Cond.methodLinkNest RX0 (61 : Nat) yX5_put "HallStiles") ∈ lw_nst := List.mem_of_getElem? (i := 29) rfl
set_option maxRecDepth 100000 in
theorem kt_29 : (Cond.methodLinkNest RX0 (61 : Nat) yX5_put "HallStiles") ∈ lw_tbl := List.mem_of_getElem? (i := 421) rfl
theorem k_30 : (Cond.methodLinkNest RX0 (19 : Nat) yX5_at "HallStiles") ∈ lw_nst := List.mem_of_getElem? (i := 30) rfl
set_option maxRecDepth 100000 in
theorem kt_30 : (Cond.methodLinkNest RX0 (19 : Nat) yX5_at "HallStiles") ∈ lw_tbl := List.mem_of_getElem? (i := 444) rfl
theorem k_31 : (Cond.methodLinkNest RX4 (98 : Nat) yX5_counterIndex "HallStiles") ∈ lw_nst := List.mem_of_getElem? (i := 31) rfl
set_option maxRecDepth 100000 in
theorem kt_31 : (Cond.methodLinkNest RX4 (98 : Nat) yX5_counterIndex "HallStiles") ∈ lw_tbl := List.mem_of_getElem? (i := 475) rfl
theorem k_32 : (Cond.methodLinkNest RX1 (36 : Nat) yX5_add "HallStiles") ∈ lw_nst := List.mem_of_getElem? (i := 32) rfl
set_option maxRecDepth 100000 in
theorem kt_32 : (Cond.methodLinkNest RX1 (36 : Nat) yX5_add "HallStiles") ∈ lw_tbl := List.mem_of_getElem? (i := 480) rfl
theorem lw_nst_tbl : ∀ w ∈ lw_nst, w ∈ lw_tbl := List.forall_mem_cons.mpr ⟨kt_0, List.forall_mem_cons.mpr ⟨kt_1, List.forall_mem_cons.mpr ⟨kt_2, List.forall_mem_cons.mpr ⟨kt_3, List.forall_mem_cons.mpr ⟨kt_4, List.forall_mem_cons.mpr ⟨kt_5, List.forall_mem_cons.mpr ⟨kt_6, List.forall_mem_cons.mpr ⟨kt_7, List.forall_mem_cons.mpr ⟨kt_8, List.forall_mem_cons.mpr ⟨kt_9, List.forall_mem_cons.mpr ⟨kt_10, List.forall_mem_cons.mpr ⟨kt_11, List.forall_mem_cons.mpr ⟨kt_12, List.forall_mem_cons.mpr ⟨kt_13, List.forall_mem_cons.mpr ⟨kt_14, List.forall_mem_cons.mpr ⟨kt_15, List.forall_mem_cons.mpr ⟨kt_16, List.forall_mem_cons.mpr ⟨kt_17, List.forall_mem_cons.mpr ⟨kt_18, List.forall_mem_cons.mpr ⟨kt_19, List.forall_mem_cons.mpr ⟨kt_20, List.forall_mem_cons.mpr ⟨kt_21, List.forall_mem_cons.mpr ⟨kt_22, List.forall_mem_cons.mpr ⟨kt_23, List.forall_mem_cons.mpr ⟨kt_24, List.forall_mem_cons.mpr ⟨kt_25, List.forall_mem_cons.mpr ⟨kt_26, List.forall_mem_cons.mpr ⟨kt_27, List.forall_mem_cons.mpr ⟨kt_28, List.forall_mem_cons.mpr ⟨kt_29, List.forall_mem_cons.mpr ⟨kt_30, List.forall_mem_cons.mpr ⟨kt_31, List.forall_mem_cons.mpr ⟨kt_32, fun _ h => absurd h List.not_mem_nil⟩⟩⟩⟩⟩⟩⟩⟩⟩⟩⟩⟩⟩⟩⟩⟩⟩⟩⟩⟩⟩⟩⟩⟩⟩⟩⟩⟩⟩⟩⟩⟩⟩
theorem uw0 : ∀ w ∈ u_ws RX0 TX0 1, w ∈ lw_all := by
  show ∀ w ∈ (List.range 1).map (u_lay RX0 TX0), w ∈ lw_all
  exact List.forall_mem_cons.mpr ⟨q_132, fun _ h => absurd h List.not_mem_nil⟩
theorem uw1 : ∀ w ∈ u_ws RX1 TX1 4, w ∈ lw_all := by
  show ∀ w ∈ (List.range 4).map (u_lay RX1 TX1), w ∈ lw_all
  exact List.forall_mem_cons.mpr ⟨q_48, List.forall_mem_cons.mpr ⟨q_50, List.forall_mem_cons.mpr ⟨q_52, List.forall_mem_cons.mpr ⟨q_54, fun _ h => absurd h List.not_mem_nil⟩⟩⟩⟩
theorem uw2 : ∀ w ∈ u_ws RX2 TX2 3, w ∈ lw_all := by
  show ∀ w ∈ (List.range 3).map (u_lay RX2 TX2), w ∈ lw_all
  exact List.forall_mem_cons.mpr ⟨q_118, List.forall_mem_cons.mpr ⟨q_120, List.forall_mem_cons.mpr ⟨q_122, fun _ h => absurd h List.not_mem_nil⟩⟩⟩
theorem uw3 : ∀ w ∈ u_ws RX3 TX3 6, w ∈ lw_all := by
  show ∀ w ∈ (List.range 6).map (u_lay RX3 TX3), w ∈ lw_all
  exact List.forall_mem_cons.mpr ⟨q_148, List.forall_mem_cons.mpr ⟨q_150, List.forall_mem_cons.mpr ⟨q_152, List.forall_mem_cons.mpr ⟨q_154, List.forall_mem_cons.mpr ⟨q_156, List.forall_mem_cons.mpr ⟨q_158, fun _ h => absurd h List.not_mem_nil⟩⟩⟩⟩⟩⟩
theorem uw4 : ∀ w ∈ u_ws RX4 TX4 11, w ∈ lw_all := by
  show ∀ w ∈ (List.range 11).map (u_lay RX4 TX4), w ∈ lw_all
  exact List.forall_mem_cons.mpr ⟨q_82, List.forall_mem_cons.mpr ⟨q_84, List.forall_mem_cons.mpr ⟨q_86, List.forall_mem_cons.mpr ⟨q_88, List.forall_mem_cons.mpr ⟨q_90, List.forall_mem_cons.mpr ⟨q_92, List.forall_mem_cons.mpr ⟨q_94, List.forall_mem_cons.mpr ⟨q_96, List.forall_mem_cons.mpr ⟨q_98, List.forall_mem_cons.mpr ⟨q_100, List.forall_mem_cons.mpr ⟨q_102, fun _ h => absurd h List.not_mem_nil⟩⟩⟩⟩⟩⟩⟩⟩⟩⟩⟩
theorem uw5 : ∀ w ∈ u_ws RX5 TX5 7, w ∈ lw_all := by
  show ∀ w ∈ (List.range 7).map (u_lay RX5 TX5), w ∈ lw_all
  exact List.forall_mem_cons.mpr ⟨q_168, List.forall_mem_cons.mpr ⟨q_170, List.forall_mem_cons.mpr ⟨q_172, List.forall_mem_cons.mpr ⟨q_174, List.forall_mem_cons.mpr ⟨q_176, List.forall_mem_cons.mpr ⟨q_178, List.forall_mem_cons.mpr ⟨q_180, fun _ h => absurd h List.not_mem_nil⟩⟩⟩⟩⟩⟩⟩
theorem uw6 : ∀ w ∈ u_ws RX6 TX6 0, w ∈ lw_all := by
  show ∀ w ∈ (List.range 0).map (u_lay RX6 TX6), w ∈ lw_all
  exact fun _ h => absurd h List.not_mem_nil
