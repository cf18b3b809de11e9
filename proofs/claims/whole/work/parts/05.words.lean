def lw_all : List Cond := lw_tbl.filter goodWord
theorem q_0 : (Cond.selects RX2 yX2_stateAt yX2_stateAt) ∈ lw_all := List.mem_filter.mpr ⟨List.mem_of_getElem? (i := 0) rfl, rfl⟩
theorem q_1 : (Cond.selects RX5 yX5_passError yX5_passError) ∈ lw_all := List.mem_filter.mpr ⟨List.mem_of_getElem? (i := 1) rfl, rfl⟩
theorem q_2 : (Cond.selects RX4 yX4_readyToLeave yX4_readyToLeave) ∈ lw_all := List.mem_filter.mpr ⟨List.mem_of_getElem? (i := 2) rfl, rfl⟩
theorem q_3 : (Cond.selects RX4 yX4_roomLeft yX4_roomLeft) ∈ lw_all := List.mem_filter.mpr ⟨List.mem_of_getElem? (i := 3) rfl, rfl⟩
theorem q_4 : (Cond.selects RX4 yX4_moveTo yX4_moveTo) ∈ lw_all := List.mem_filter.mpr ⟨List.mem_of_getElem? (i := 4) rfl, rfl⟩
theorem q_5 : (Cond.selects RX1 yX1_makePairAgree yX1_makePairAgree) ∈ lw_all := List.mem_filter.mpr ⟨List.mem_of_getElem? (i := 5) rfl, rfl⟩
theorem q_6 : (Cond.selects RX5 yX5_repairError yX5_repairError) ∈ lw_all := List.mem_filter.mpr ⟨List.mem_of_getElem? (i := 6) rfl, rfl⟩
theorem q_7 : (Cond.selects RX0 yX0_measureDistances yX0_measureDistances) ∈ lw_all := List.mem_filter.mpr ⟨List.mem_of_getElem? (i := 7) rfl, rfl⟩
theorem q_8 : (Cond.selects RX0 yX0_comeNearerByAll yX0_comeNearerByAll) ∈ lw_all := List.mem_filter.mpr ⟨List.mem_of_getElem? (i := 8) rfl, rfl⟩
theorem q_9 : (Cond.selects RX0 yX0_comeNearer yX0_comeNearer) ∈ lw_all := List.mem_filter.mpr ⟨List.mem_of_getElem? (i := 9) rfl, rfl⟩
theorem q_10 : (Cond.selects RX0 yX0_leaveThrough yX0_leaveThrough) ∈ lw_all := List.mem_filter.mpr ⟨List.mem_of_getElem? (i := 10) rfl, rfl⟩
theorem q_11 : (Cond.selects RX3 yX3_readCharacter yX3_readCharacter) ∈ lw_all := List.mem_filter.mpr ⟨List.mem_of_getElem? (i := 11) rfl, rfl⟩
theorem q_12 : (Cond.selects RX3 yX3_nextCharacter yX3_nextCharacter) ∈ lw_all := List.mem_filter.mpr ⟨List.mem_of_getElem? (i := 12) rfl, rfl⟩
theorem q_13 : (Cond.selects RX3 yX3_readNumber yX3_readNumber) ∈ lw_all := List.mem_filter.mpr ⟨List.mem_of_getElem? (i := 13) rfl, rfl⟩
theorem q_14 : (Cond.selects RX5 yX5_carryOutOrder yX5_carryOutOrder) ∈ lw_all := List.mem_filter.mpr ⟨List.mem_of_getElem? (i := 14) rfl, rfl⟩
theorem q_15 : (Cond.selects RX5 yX5_carryOutPass yX5_carryOutPass) ∈ lw_all := List.mem_filter.mpr ⟨List.mem_of_getElem? (i := 15) rfl, rfl⟩
theorem q_16 : (Cond.selects RX5 yX5_carryOutAudit yX5_carryOutAudit) ∈ lw_all := List.mem_filter.mpr ⟨List.mem_of_getElem? (i := 16) rfl, rfl⟩
theorem q_17 : (Cond.selects RX5 yX5_carryOutRepair yX5_carryOutRepair) ∈ lw_all := List.mem_filter.mpr ⟨List.mem_of_getElem? (i := 17) rfl, rfl⟩
theorem q_18 : (Cond.selects RX4 yX4_toldByFirstSide yX4_toldByFirstSide) ∈ lw_all := List.mem_filter.mpr ⟨List.mem_of_getElem? (i := 18) rfl, rfl⟩
theorem q_19 : (Cond.selects RX4 yX4_toldBySecondSide yX4_toldBySecondSide) ∈ lw_all := List.mem_filter.mpr ⟨List.mem_of_getElem? (i := 19) rfl, rfl⟩
theorem q_20 : (Cond.selects RX6 yX6_records yX6_records) ∈ lw_all := List.mem_filter.mpr ⟨List.mem_of_getElem? (i := 20) rfl, rfl⟩
theorem q_21 : (Cond.selects RX6 yX6_copies yX6_copies) ∈ lw_all := List.mem_filter.mpr ⟨List.mem_of_getElem? (i := 21) rfl, rfl⟩
theorem q_22 : (Cond.selects RX6 yX6_isStile yX6_isStile) ∈ lw_all := List.mem_filter.mpr ⟨List.mem_of_getElem? (i := 22) rfl, rfl⟩
theorem q_23 : (Cond.selects RX6 yX6_wrong yX6_wrong) ∈ lw_all := List.mem_filter.mpr ⟨List.mem_of_getElem? (i := 23) rfl, rfl⟩
theorem q_24 : (Cond.selects RX6 yX6_why yX6_why) ∈ lw_all := List.mem_filter.mpr ⟨List.mem_of_getElem? (i := 24) rfl, rfl⟩
theorem q_25 : (Cond.selects RX6 yX6_from yX6_from) ∈ lw_all := List.mem_filter.mpr ⟨List.mem_of_getElem? (i := 25) rfl, rfl⟩
theorem q_26 : (Cond.selects RX6 yX6_to yX6_to) ∈ lw_all := List.mem_filter.mpr ⟨List.mem_of_getElem? (i := 26) rfl, rfl⟩
theorem q_27 : (Cond.selects RX6 yX6_barred yX6_barred) ∈ lw_all := List.mem_filter.mpr ⟨List.mem_of_getElem? (i := 27) rfl, rfl⟩
theorem q_28 : (Cond.selects RX6 yX6_passes yX6_passes) ∈ lw_all := List.mem_filter.mpr ⟨List.mem_of_getElem? (i := 28) rfl, rfl⟩
theorem q_29 : (Cond.selects RX6 yX6_counts yX6_counts) ∈ lw_all := List.mem_filter.mpr ⟨List.mem_of_getElem? (i := 29) rfl, rfl⟩
theorem q_30 : (Cond.selects RX6 yX6_gap yX6_gap) ∈ lw_all := List.mem_filter.mpr ⟨List.mem_of_getElem? (i := 30) rfl, rfl⟩
theorem q_31 : (Cond.selects RX6 yX6_counted yX6_counted) ∈ lw_all := List.mem_filter.mpr ⟨List.mem_of_getElem? (i := 31) rfl, rfl⟩
theorem q_32 : (Cond.selects RX6 yX6_audits yX6_audits) ∈ lw_all := List.mem_filter.mpr ⟨List.mem_of_getElem? (i := 32) rfl, rfl⟩
theorem q_33 : (Cond.selects RX6 yX6_hoursPass yX6_hoursPass) ∈ lw_all := List.mem_filter.mpr ⟨List.mem_of_getElem? (i := 33) rfl, rfl⟩
theorem q_34 : (Cond.selects RX6 yX6_hour yX6_hour) ∈ lw_all := List.mem_filter.mpr ⟨List.mem_of_getElem? (i := 34) rfl, rfl⟩
theorem q_35 : (Cond.selects RX6 yX6_closes yX6_closes) ∈ lw_all := List.mem_filter.mpr ⟨List.mem_of_getElem? (i := 35) rfl, rfl⟩
theorem q_36 : (Cond.selects RX6 yX6_distances yX6_distances) ∈ lw_all := List.mem_filter.mpr ⟨List.mem_of_getElem? (i := 36) rfl, rfl⟩
theorem q_37 : (Cond.selects RX6 yX6_atMost yX6_atMost) ∈ lw_all := List.mem_filter.mpr ⟨List.mem_of_getElem? (i := 37) rfl, rfl⟩
theorem q_38 : (Cond.selects RX6 yX6_people yX6_people) ∈ lw_all := List.mem_filter.mpr ⟨List.mem_of_getElem? (i := 38) rfl, rfl⟩
theorem q_39 : (Cond.selects RX6 yX6_faultOf yX6_faultOf) ∈ lw_all := List.mem_filter.mpr ⟨List.mem_of_getElem? (i := 39) rfl, rfl⟩
theorem q_40 : (Cond.selects RX6 yX6_readsOrder yX6_readsOrder) ∈ lw_all := List.mem_filter.mpr ⟨List.mem_of_getElem? (i := 40) rfl, rfl⟩
theorem q_41 : (Cond.selects RX6 yX6_isNow yX6_isNow) ∈ lw_all := List.mem_filter.mpr ⟨List.mem_of_getElem? (i := 41) rfl, rfl⟩
theorem q_42 : (Cond.selects RX6 yX6_readsNumber yX6_readsNumber) ∈ lw_all := List.mem_filter.mpr ⟨List.mem_of_getElem? (i := 42) rfl, rfl⟩
theorem q_43 : (Cond.selects RX6 yX6_does yX6_does) ∈ lw_all := List.mem_filter.mpr ⟨List.mem_of_getElem? (i := 43) rfl, rfl⟩
theorem q_44 : (Cond.selects RX6 yX6_told yX6_told) ∈ lw_all := List.mem_filter.mpr ⟨List.mem_of_getElem? (i := 44) rfl, rfl⟩
theorem q_45 : (Cond.selects RX6 yX6_distance yX6_distance) ∈ lw_all := List.mem_filter.mpr ⟨List.mem_of_getElem? (i := 45) rfl, rfl⟩
theorem q_46 : (Cond.selects RX6 yX6_stilesOf yX6_stilesOf) ∈ lw_all := List.mem_filter.mpr ⟨List.mem_of_getElem? (i := 46) rfl, rfl⟩
theorem q_47 : (Cond.selects RX6 yX6_sumOf yX6_sumOf) ∈ lw_all := List.mem_filter.mpr ⟨List.mem_of_getElem? (i := 47) rfl, rfl⟩
theorem q_48 : (Cond.selects RX6 yX6_allTold yX6_allTold) ∈ lw_all := List.mem_filter.mpr ⟨List.mem_of_getElem? (i := 48) rfl, rfl⟩
theorem q_49 : (Cond.selects RX6 yX6_fullest yX6_fullest) ∈ lw_all := List.mem_filter.mpr ⟨List.mem_of_getElem? (i := 49) rfl, rfl⟩
set_option maxRecDepth 100000 in
theorem q_50 : (Cond.initialized RL) ∈ lw_all := List.mem_filter.mpr ⟨List.mem_of_getElem? (i := 50) rfl, rfl⟩
set_option maxRecDepth 100000 in
theorem q_51 : (Cond.initialized RX5) ∈ lw_all := List.mem_filter.mpr ⟨List.mem_of_getElem? (i := 51) rfl, rfl⟩
set_option maxRecDepth 100000 in
theorem q_52 : (Cond.initialized RX4) ∈ lw_all := List.mem_filter.mpr ⟨List.mem_of_getElem? (i := 52) rfl, rfl⟩
set_option maxRecDepth 100000 in
theorem q_53 : (Cond.initialized RX1) ∈ lw_all := List.mem_filter.mpr ⟨List.mem_of_getElem? (i := 53) rfl, rfl⟩
set_option maxRecDepth 100000 in
theorem q_54 : (Cond.initialized RX2) ∈ lw_all := List.mem_filter.mpr ⟨List.mem_of_getElem? (i := 54) rfl, rfl⟩
set_option maxRecDepth 100000 in
theorem q_55 : (Cond.initialized RX0) ∈ lw_all := List.mem_filter.mpr ⟨List.mem_of_getElem? (i := 55) rfl, rfl⟩
set_option maxRecDepth 100000 in
theorem q_56 : (Cond.initialized RX3) ∈ lw_all := List.mem_filter.mpr ⟨List.mem_of_getElem? (i := 56) rfl, rfl⟩
set_option maxRecDepth 100000 in
theorem q_57 : (Cond.initialized RX6) ∈ lw_all := List.mem_filter.mpr ⟨List.mem_of_getElem? (i := 57) rfl, rfl⟩
set_option maxRecDepth 100000 in
theorem q_58 : (Cond.initialized "java/lang/Math") ∈ lw_all := List.mem_filter.mpr ⟨List.mem_of_getElem? (i := 58) rfl, rfl⟩
set_option maxRecDepth 100000 in
theorem q_59 : (Cond.classLink RL (7 : Nat) "HallStiles") ∈ lw_all := List.mem_filter.mpr ⟨List.mem_of_getElem? (i := 59) rfl, rfl⟩
set_option maxRecDepth 100000 in
theorem q_60 : (Cond.instantiable RX5 (7 : Nat)) ∈ lw_all := List.mem_filter.mpr ⟨List.mem_of_getElem? (i := 60) rfl, rfl⟩
set_option maxRecDepth 100000 in
theorem q_61 : (Cond.methodLink RL (9 : Nat) yX5_init) ∈ lw_all := List.mem_filter.mpr ⟨List.mem_of_getElem? (i := 61) rfl, rfl⟩
set_option maxRecDepth 100000 in
theorem q_62 : (Cond.instanceMethod yX5_init) ∈ lw_all := List.mem_filter.mpr ⟨List.mem_of_getElem? (i := 62) rfl, rfl⟩
set_option maxRecDepth 100000 in
theorem q_63 : (Cond.code yX5_init prog_1_method_1_code (1 : Nat) (Option.none : Option FieldType)) ∈ lw_all := List.mem_filter.mpr ⟨List.mem_of_getElem? (i := 63) rfl, rfl⟩
set_option maxRecDepth 100000 in
theorem q_64 : (Cond.methodLink RX5 (1 : Nat) (⟨"java/lang/Object", "<init>", "()V"⟩ : MethodName)) ∈ lw_all := List.mem_filter.mpr ⟨List.mem_of_getElem? (i := 64) rfl, rfl⟩
set_option maxRecDepth 100000 in
theorem q_65 : (Cond.instanceMethod (⟨"java/lang/Object", "<init>", "()V"⟩ : MethodName)) ∈ lw_all := List.mem_filter.mpr ⟨List.mem_of_getElem? (i := 65) rfl, rfl⟩
set_option maxRecDepth 100000 in
theorem q_66 : (Cond.code (⟨"java/lang/Object", "<init>", "()V"⟩ : MethodName) object_method_1_code (1 : Nat) (Option.none : Option FieldType)) ∈ lw_all := List.mem_filter.mpr ⟨List.mem_of_getElem? (i := 66) rfl, rfl⟩
set_option maxRecDepth 100000 in
theorem q_67 : (Cond.classLink RX5 (7 : Nat) "HallStiles$State") ∈ lw_all := List.mem_filter.mpr ⟨List.mem_of_getElem? (i := 67) rfl, rfl⟩
set_option maxRecDepth 100000 in
theorem q_68 : (Cond.instantiable RX4 (11 : Nat)) ∈ lw_all := List.mem_filter.mpr ⟨List.mem_of_getElem? (i := 68) rfl, rfl⟩
set_option maxRecDepth 100000 in
theorem q_69 : (Cond.methodLink RX5 (9 : Nat) yX4_init) ∈ lw_all := List.mem_filter.mpr ⟨List.mem_of_getElem? (i := 69) rfl, rfl⟩
set_option maxRecDepth 100000 in
theorem q_70 : (Cond.instanceMethod yX4_init) ∈ lw_all := List.mem_filter.mpr ⟨List.mem_of_getElem? (i := 70) rfl, rfl⟩
set_option maxRecDepth 100000 in
theorem q_71 : (Cond.code yX4_init prog_6_method_1_code (2 : Nat) (Option.none : Option FieldType)) ∈ lw_all := List.mem_filter.mpr ⟨List.mem_of_getElem? (i := 71) rfl, rfl⟩
set_option maxRecDepth 100000 in
theorem q_72 : (Cond.methodLink RX4 (3 : Nat) (⟨"java/lang/Object", "<init>", "()V"⟩ : MethodName)) ∈ lw_all := List.mem_filter.mpr ⟨List.mem_of_getElem? (i := 72) rfl, rfl⟩
set_option maxRecDepth 100000 in
theorem q_73 : (Cond.classLink RX4 (30 : Nat) "HallStiles$Counters") ∈ lw_all := List.mem_filter.mpr ⟨List.mem_of_getElem? (i := 73) rfl, rfl⟩
set_option maxRecDepth 100000 in
theorem q_74 : (Cond.instantiable RX1 (4 : Nat)) ∈ lw_all := List.mem_filter.mpr ⟨List.mem_of_getElem? (i := 74) rfl, rfl⟩
set_option maxRecDepth 100000 in
theorem q_76 : (Cond.instanceMethod yX1_init) ∈ lw_all := List.mem_filter.mpr ⟨List.mem_of_getElem? (i := 76) rfl, rfl⟩
set_option maxRecDepth 100000 in
theorem q_77 : (Cond.code yX1_init prog_3_method_1_code (1 : Nat) (Option.none : Option FieldType)) ∈ lw_all := List.mem_filter.mpr ⟨List.mem_of_getElem? (i := 77) rfl, rfl⟩
set_option maxRecDepth 100000 in
theorem q_78 : (Cond.methodLink RX1 (3 : Nat) (⟨"java/lang/Object", "<init>", "()V"⟩ : MethodName)) ∈ lw_all := List.mem_filter.mpr ⟨List.mem_of_getElem? (i := 78) rfl, rfl⟩
set_option maxRecDepth 100000 in
theorem q_79 : (Cond.fieldLink RX1 (9 : Nat) "HallStiles$Counters" "counts" "[I") ∈ lw_all := List.mem_filter.mpr ⟨List.mem_of_getElem? (i := 79) rfl, rfl⟩
set_option maxRecDepth 100000 in
theorem q_81 : (Cond.fieldLink RX1 (15 : Nat) "HallStiles$Counters" "slips" "[I") ∈ lw_all := List.mem_filter.mpr ⟨List.mem_of_getElem? (i := 81) rfl, rfl⟩
set_option maxRecDepth 100000 in
theorem q_83 : (Cond.fieldLink RX1 (18 : Nat) "HallStiles$Counters" "seen" "[I") ∈ lw_all := List.mem_filter.mpr ⟨List.mem_of_getElem? (i := 83) rfl, rfl⟩
set_option maxRecDepth 100000 in
theorem q_84 : (Cond.fieldLink RX1 (21 : Nat) "HallStiles$Counters" "missed" "[I") ∈ lw_all := List.mem_filter.mpr ⟨List.mem_of_getElem? (i := 84) rfl, rfl⟩
set_option maxRecDepth 100000 in
theorem q_86 : (Cond.laysFinal RX1 "HallStiles$Counters" "counts" "[I") ∈ lw_all := List.mem_filter.mpr ⟨List.mem_of_getElem? (i := 86) rfl, rfl⟩
set_option maxRecDepth 100000 in
theorem q_88 : (Cond.laysFinal RX1 "HallStiles$Counters" "slips" "[I") ∈ lw_all := List.mem_filter.mpr ⟨List.mem_of_getElem? (i := 88) rfl, rfl⟩
set_option maxRecDepth 100000 in
theorem q_90 : (Cond.laysFinal RX1 "HallStiles$Counters" "seen" "[I") ∈ lw_all := List.mem_filter.mpr ⟨List.mem_of_getElem? (i := 90) rfl, rfl⟩
set_option maxRecDepth 100000 in
theorem q_92 : (Cond.laysFinal RX1 "HallStiles$Counters" "missed" "[I") ∈ lw_all := List.mem_filter.mpr ⟨List.mem_of_getElem? (i := 92) rfl, rfl⟩
set_option maxRecDepth 100000 in
theorem q_95 : (Cond.arrayClass FieldType.int) ∈ lw_all := List.mem_filter.mpr ⟨List.mem_of_getElem? (i := 95) rfl, rfl⟩
set_option maxRecDepth 100000 in
theorem q_96 : (Cond.fieldLink RX4 (9 : Nat) "HallStiles$State" "rooms" "[I") ∈ lw_all := List.mem_filter.mpr ⟨List.mem_of_getElem? (i := 96) rfl, rfl⟩
set_option maxRecDepth 100000 in
theorem q_98 : (Cond.fieldLink RX4 (15 : Nat) "HallStiles$State" "people" "[I") ∈ lw_all := List.mem_filter.mpr ⟨List.mem_of_getElem? (i := 98) rfl, rfl⟩
set_option maxRecDepth 100000 in
theorem q_100 : (Cond.fieldLink RX4 (18 : Nat) "HallStiles$State" "firsts" "[I") ∈ lw_all := List.mem_filter.mpr ⟨List.mem_of_getElem? (i := 100) rfl, rfl⟩
set_option maxRecDepth 100000 in
theorem q_102 : (Cond.fieldLink RX4 (21 : Nat) "HallStiles$State" "seconds" "[I") ∈ lw_all := List.mem_filter.mpr ⟨List.mem_of_getElem? (i := 102) rfl, rfl⟩
set_option maxRecDepth 100000 in
theorem q_104 : (Cond.fieldLink RX4 (24 : Nat) "HallStiles$State" "ways" "[I") ∈ lw_all := List.mem_filter.mpr ⟨List.mem_of_getElem? (i := 104) rfl, rfl⟩
set_option maxRecDepth 100000 in
theorem q_106 : (Cond.fieldLink RX4 (27 : Nat) "HallStiles$State" "repairs" "[I") ∈ lw_all := List.mem_filter.mpr ⟨List.mem_of_getElem? (i := 106) rfl, rfl⟩
set_option maxRecDepth 100000 in
theorem q_108 : (Cond.fieldLink RX4 (33 : Nat) "HallStiles$State" "counters" "LHallStiles$Counters;") ∈ lw_all := List.mem_filter.mpr ⟨List.mem_of_getElem? (i := 108) rfl, rfl⟩
set_option maxRecDepth 100000 in
theorem q_110 : (Cond.fieldLink RX4 (37 : Nat) "HallStiles$State" "stiles" "I") ∈ lw_all := List.mem_filter.mpr ⟨List.mem_of_getElem? (i := 110) rfl, rfl⟩
set_option maxRecDepth 100000 in
theorem q_113 : (Cond.fieldLink RX4 (41 : Nat) "HallStiles$State" "rate" "I") ∈ lw_all := List.mem_filter.mpr ⟨List.mem_of_getElem? (i := 113) rfl, rfl⟩
set_option maxRecDepth 100000 in
theorem q_116 : (Cond.fieldLink RX4 (44 : Nat) "HallStiles$State" "repairHours" "I") ∈ lw_all := List.mem_filter.mpr ⟨List.mem_of_getElem? (i := 116) rfl, rfl⟩
set_option maxRecDepth 100000 in
theorem q_118 : (Cond.fieldLink RX4 (47 : Nat) "HallStiles$State" "clock" "I") ∈ lw_all := List.mem_filter.mpr ⟨List.mem_of_getElem? (i := 118) rfl, rfl⟩
set_option maxRecDepth 100000 in
theorem q_120 : (Cond.laysFinal RX4 "HallStiles$State" "rooms" "[I") ∈ lw_all := List.mem_filter.mpr ⟨List.mem_of_getElem? (i := 120) rfl, rfl⟩
set_option maxRecDepth 100000 in
theorem q_122 : (Cond.laysFinal RX4 "HallStiles$State" "people" "[I") ∈ lw_all := List.mem_filter.mpr ⟨List.mem_of_getElem? (i := 122) rfl, rfl⟩
set_option maxRecDepth 100000 in
theorem q_124 : (Cond.laysFinal RX4 "HallStiles$State" "firsts" "[I") ∈ lw_all := List.mem_filter.mpr ⟨List.mem_of_getElem? (i := 124) rfl, rfl⟩
set_option maxRecDepth 100000 in
theorem q_126 : (Cond.laysFinal RX4 "HallStiles$State" "seconds" "[I") ∈ lw_all := List.mem_filter.mpr ⟨List.mem_of_getElem? (i := 126) rfl, rfl⟩
set_option maxRecDepth 100000 in
theorem q_128 : (Cond.laysFinal RX4 "HallStiles$State" "ways" "[I") ∈ lw_all := List.mem_filter.mpr ⟨List.mem_of_getElem? (i := 128) rfl, rfl⟩
set_option maxRecDepth 100000 in
theorem q_130 : (Cond.laysFinal RX4 "HallStiles$State" "repairs" "[I") ∈ lw_all := List.mem_filter.mpr ⟨List.mem_of_getElem? (i := 130) rfl, rfl⟩
set_option maxRecDepth 100000 in
theorem q_132 : (Cond.laysFinal RX4 "HallStiles$State" "counters" "LHallStiles$Counters;") ∈ lw_all := List.mem_filter.mpr ⟨List.mem_of_getElem? (i := 132) rfl, rfl⟩
set_option maxRecDepth 100000 in
theorem q_134 : (Cond.lays RX4 "HallStiles$State" "stiles" "I") ∈ lw_all := List.mem_filter.mpr ⟨List.mem_of_getElem? (i := 134) rfl, rfl⟩
set_option maxRecDepth 100000 in
theorem q_136 : (Cond.lays RX4 "HallStiles$State" "rate" "I") ∈ lw_all := List.mem_filter.mpr ⟨List.mem_of_getElem? (i := 136) rfl, rfl⟩
set_option maxRecDepth 100000 in
theorem q_138 : (Cond.lays RX4 "HallStiles$State" "repairHours" "I") ∈ lw_all := List.mem_filter.mpr ⟨List.mem_of_getElem? (i := 138) rfl, rfl⟩
set_option maxRecDepth 100000 in
theorem q_140 : (Cond.lays RX4 "HallStiles$State" "clock" "I") ∈ lw_all := List.mem_filter.mpr ⟨List.mem_of_getElem? (i := 140) rfl, rfl⟩
set_option maxRecDepth 100000 in
theorem q_143 : (Cond.classLink RX5 (22 : Nat) "HallStiles$History") ∈ lw_all := List.mem_filter.mpr ⟨List.mem_of_getElem? (i := 143) rfl, rfl⟩
set_option maxRecDepth 100000 in
theorem q_144 : (Cond.instantiable RX2 (3 : Nat)) ∈ lw_all := List.mem_filter.mpr ⟨List.mem_of_getElem? (i := 144) rfl, rfl⟩
set_option maxRecDepth 100000 in
theorem q_145 : (Cond.methodLink RX5 (24 : Nat) yX2_init) ∈ lw_all := List.mem_filter.mpr ⟨List.mem_of_getElem? (i := 145) rfl, rfl⟩
set_option maxRecDepth 100000 in
theorem q_146 : (Cond.instanceMethod yX2_init) ∈ lw_all := List.mem_filter.mpr ⟨List.mem_of_getElem? (i := 146) rfl, rfl⟩
set_option maxRecDepth 100000 in
theorem q_147 : (Cond.code yX2_init prog_4_method_1_code (2 : Nat) (Option.none : Option FieldType)) ∈ lw_all := List.mem_filter.mpr ⟨List.mem_of_getElem? (i := 147) rfl, rfl⟩
set_option maxRecDepth 100000 in
theorem q_148 : (Cond.methodLink RX2 (3 : Nat) (⟨"java/lang/Object", "<init>", "()V"⟩ : MethodName)) ∈ lw_all := List.mem_filter.mpr ⟨List.mem_of_getElem? (i := 148) rfl, rfl⟩
set_option maxRecDepth 100000 in
theorem q_149 : (Cond.classLink RX2 (9 : Nat) "HallStiles$State") ∈ lw_all := List.mem_filter.mpr ⟨List.mem_of_getElem? (i := 149) rfl, rfl⟩
theorem ao_tbl : (Cond.arrayOver (FieldType.object "HallStiles$State")) ∈ lw_tbl := List.mem_of_getElem? (i := 150) rfl
set_option maxRecDepth 100000 in
theorem q_151 : (Cond.methodLink RX2 (24 : Nat) yX4_init) ∈ lw_all := List.mem_filter.mpr ⟨List.mem_of_getElem? (i := 151) rfl, rfl⟩
set_option maxRecDepth 100000 in
theorem q_152 : (Cond.fieldLink RX2 (11 : Nat) "HallStiles$History" "ring" "[LHallStiles$State;") ∈ lw_all := List.mem_filter.mpr ⟨List.mem_of_getElem? (i := 152) rfl, rfl⟩
set_option maxRecDepth 100000 in
theorem q_153 : (Cond.fieldLink RX2 (17 : Nat) "HallStiles$History" "oldest" "I") ∈ lw_all := List.mem_filter.mpr ⟨List.mem_of_getElem? (i := 153) rfl, rfl⟩
set_option maxRecDepth 100000 in
theorem q_154 : (Cond.fieldLink RX2 (21 : Nat) "HallStiles$History" "size" "I") ∈ lw_all := List.mem_filter.mpr ⟨List.mem_of_getElem? (i := 154) rfl, rfl⟩
set_option maxRecDepth 100000 in
theorem q_156 : (Cond.laysFinal RX2 "HallStiles$History" "ring" "[LHallStiles$State;") ∈ lw_all := List.mem_filter.mpr ⟨List.mem_of_getElem? (i := 156) rfl, rfl⟩
set_option maxRecDepth 100000 in
theorem q_158 : (Cond.lays RX2 "HallStiles$History" "oldest" "I") ∈ lw_all := List.mem_filter.mpr ⟨List.mem_of_getElem? (i := 158) rfl, rfl⟩
set_option maxRecDepth 100000 in
theorem q_160 : (Cond.lays RX2 "HallStiles$History" "size" "I") ∈ lw_all := List.mem_filter.mpr ⟨List.mem_of_getElem? (i := 160) rfl, rfl⟩
set_option maxRecDepth 100000 in
theorem q_163 : (Cond.classLink RX5 (29 : Nat) "HallStiles$Closing") ∈ lw_all := List.mem_filter.mpr ⟨List.mem_of_getElem? (i := 163) rfl, rfl⟩
set_option maxRecDepth 100000 in
theorem q_164 : (Cond.instantiable RX0 (1 : Nat)) ∈ lw_all := List.mem_filter.mpr ⟨List.mem_of_getElem? (i := 164) rfl, rfl⟩
set_option maxRecDepth 100000 in
theorem q_166 : (Cond.instanceMethod yX0_init) ∈ lw_all := List.mem_filter.mpr ⟨List.mem_of_getElem? (i := 166) rfl, rfl⟩
set_option maxRecDepth 100000 in
theorem q_167 : (Cond.code yX0_init prog_2_method_1_code (1 : Nat) (Option.none : Option FieldType)) ∈ lw_all := List.mem_filter.mpr ⟨List.mem_of_getElem? (i := 167) rfl, rfl⟩
set_option maxRecDepth 100000 in
theorem q_168 : (Cond.methodLink RX0 (3 : Nat) (⟨"java/lang/Object", "<init>", "()V"⟩ : MethodName)) ∈ lw_all := List.mem_filter.mpr ⟨List.mem_of_getElem? (i := 168) rfl, rfl⟩
set_option maxRecDepth 100000 in
theorem q_169 : (Cond.fieldLink RX0 (9 : Nat) "HallStiles$Closing" "distances" "[I") ∈ lw_all := List.mem_filter.mpr ⟨List.mem_of_getElem? (i := 169) rfl, rfl⟩
set_option maxRecDepth 100000 in
theorem q_170 : (Cond.laysFinal RX0 "HallStiles$Closing" "distances" "[I") ∈ lw_all := List.mem_filter.mpr ⟨List.mem_of_getElem? (i := 170) rfl, rfl⟩
set_option maxRecDepth 100000 in
theorem q_173 : (Cond.classLink RX5 (36 : Nat) "HallStiles$Script") ∈ lw_all := List.mem_filter.mpr ⟨List.mem_of_getElem? (i := 173) rfl, rfl⟩
set_option maxRecDepth 100000 in
theorem q_174 : (Cond.instantiable RX3 (6 : Nat)) ∈ lw_all := List.mem_filter.mpr ⟨List.mem_of_getElem? (i := 174) rfl, rfl⟩
set_option maxRecDepth 100000 in
theorem q_176 : (Cond.instanceMethod yX3_init) ∈ lw_all := List.mem_filter.mpr ⟨List.mem_of_getElem? (i := 176) rfl, rfl⟩
set_option maxRecDepth 100000 in
theorem q_177 : (Cond.code yX3_init prog_5_method_1_code (1 : Nat) (Option.none : Option FieldType)) ∈ lw_all := List.mem_filter.mpr ⟨List.mem_of_getElem? (i := 177) rfl, rfl⟩
set_option maxRecDepth 100000 in
theorem q_178 : (Cond.methodLink RX3 (3 : Nat) (⟨"java/lang/Object", "<init>", "()V"⟩ : MethodName)) ∈ lw_all := List.mem_filter.mpr ⟨List.mem_of_getElem? (i := 178) rfl, rfl⟩
set_option maxRecDepth 100000 in
theorem q_179 : (Cond.fieldLink RX3 (9 : Nat) "HallStiles$Script" "characters" "[I") ∈ lw_all := List.mem_filter.mpr ⟨List.mem_of_getElem? (i := 179) rfl, rfl⟩
set_option maxRecDepth 100000 in
theorem q_180 : (Cond.fieldLink RX3 (15 : Nat) "HallStiles$Script" "length" "I") ∈ lw_all := List.mem_filter.mpr ⟨List.mem_of_getElem? (i := 180) rfl, rfl⟩
set_option maxRecDepth 100000 in
theorem q_182 : (Cond.fieldLink RX3 (19 : Nat) "HallStiles$Script" "place" "I") ∈ lw_all := List.mem_filter.mpr ⟨List.mem_of_getElem? (i := 182) rfl, rfl⟩
set_option maxRecDepth 100000 in
theorem q_183 : (Cond.fieldLink RX3 (22 : Nat) "HallStiles$Script" "orderStile" "I") ∈ lw_all := List.mem_filter.mpr ⟨List.mem_of_getElem? (i := 183) rfl, rfl⟩
set_option maxRecDepth 100000 in
theorem q_185 : (Cond.fieldLink RX3 (25 : Nat) "HallStiles$Script" "orderKind" "I") ∈ lw_all := List.mem_filter.mpr ⟨List.mem_of_getElem? (i := 185) rfl, rfl⟩
set_option maxRecDepth 100000 in
theorem q_187 : (Cond.fieldLink RX3 (28 : Nat) "HallStiles$Script" "orderNumber" "I") ∈ lw_all := List.mem_filter.mpr ⟨List.mem_of_getElem? (i := 187) rfl, rfl⟩
set_option maxRecDepth 100000 in
theorem q_189 : (Cond.laysFinal RX3 "HallStiles$Script" "characters" "[I") ∈ lw_all := List.mem_filter.mpr ⟨List.mem_of_getElem? (i := 189) rfl, rfl⟩
set_option maxRecDepth 100000 in
theorem q_191 : (Cond.lays RX3 "HallStiles$Script" "length" "I") ∈ lw_all := List.mem_filter.mpr ⟨List.mem_of_getElem? (i := 191) rfl, rfl⟩
set_option maxRecDepth 100000 in
theorem q_193 : (Cond.lays RX3 "HallStiles$Script" "place" "I") ∈ lw_all := List.mem_filter.mpr ⟨List.mem_of_getElem? (i := 193) rfl, rfl⟩
set_option maxRecDepth 100000 in
theorem q_195 : (Cond.lays RX3 "HallStiles$Script" "orderStile" "I") ∈ lw_all := List.mem_filter.mpr ⟨List.mem_of_getElem? (i := 195) rfl, rfl⟩
set_option maxRecDepth 100000 in
theorem q_197 : (Cond.lays RX3 "HallStiles$Script" "orderKind" "I") ∈ lw_all := List.mem_filter.mpr ⟨List.mem_of_getElem? (i := 197) rfl, rfl⟩
set_option maxRecDepth 100000 in
theorem q_199 : (Cond.lays RX3 "HallStiles$Script" "orderNumber" "I") ∈ lw_all := List.mem_filter.mpr ⟨List.mem_of_getElem? (i := 199) rfl, rfl⟩
set_option maxRecDepth 100000 in
theorem q_202 : (Cond.fieldLink RX5 (10 : Nat) "HallStiles" "now" "LHallStiles$State;") ∈ lw_all := List.mem_filter.mpr ⟨List.mem_of_getElem? (i := 202) rfl, rfl⟩
set_option maxRecDepth 100000 in
theorem q_203 : (Cond.fieldLink RX5 (16 : Nat) "HallStiles" "snapshot" "LHallStiles$State;") ∈ lw_all := List.mem_filter.mpr ⟨List.mem_of_getElem? (i := 203) rfl, rfl⟩
set_option maxRecDepth 100000 in
theorem q_204 : (Cond.fieldLink RX5 (19 : Nat) "HallStiles" "trial" "LHallStiles$State;") ∈ lw_all := List.mem_filter.mpr ⟨List.mem_of_getElem? (i := 204) rfl, rfl⟩
set_option maxRecDepth 100000 in
theorem q_205 : (Cond.fieldLink RX5 (25 : Nat) "HallStiles" "history" "LHallStiles$History;") ∈ lw_all := List.mem_filter.mpr ⟨List.mem_of_getElem? (i := 205) rfl, rfl⟩
set_option maxRecDepth 100000 in
theorem q_206 : (Cond.fieldLink RX5 (32 : Nat) "HallStiles" "closing" "LHallStiles$Closing;") ∈ lw_all := List.mem_filter.mpr ⟨List.mem_of_getElem? (i := 206) rfl, rfl⟩
set_option maxRecDepth 100000 in
theorem q_207 : (Cond.fieldLink RX5 (39 : Nat) "HallStiles" "script" "LHallStiles$Script;") ∈ lw_all := List.mem_filter.mpr ⟨List.mem_of_getElem? (i := 207) rfl, rfl⟩
set_option maxRecDepth 100000 in
theorem q_208 : (Cond.fieldLink RX5 (43 : Nat) "HallStiles" "hasSnapshot" "Z") ∈ lw_all := List.mem_filter.mpr ⟨List.mem_of_getElem? (i := 208) rfl, rfl⟩
set_option maxRecDepth 100000 in
theorem q_209 : (Cond.laysFinal RX5 "HallStiles" "now" "LHallStiles$State;") ∈ lw_all := List.mem_filter.mpr ⟨List.mem_of_getElem? (i := 209) rfl, rfl⟩
set_option maxRecDepth 100000 in
theorem q_211 : (Cond.laysFinal RX5 "HallStiles" "snapshot" "LHallStiles$State;") ∈ lw_all := List.mem_filter.mpr ⟨List.mem_of_getElem? (i := 211) rfl, rfl⟩
set_option maxRecDepth 100000 in
theorem q_213 : (Cond.laysFinal RX5 "HallStiles" "trial" "LHallStiles$State;") ∈ lw_all := List.mem_filter.mpr ⟨List.mem_of_getElem? (i := 213) rfl, rfl⟩
set_option maxRecDepth 100000 in
theorem q_215 : (Cond.laysFinal RX5 "HallStiles" "history" "LHallStiles$History;") ∈ lw_all := List.mem_filter.mpr ⟨List.mem_of_getElem? (i := 215) rfl, rfl⟩
set_option maxRecDepth 100000 in
theorem q_217 : (Cond.laysFinal RX5 "HallStiles" "closing" "LHallStiles$Closing;") ∈ lw_all := List.mem_filter.mpr ⟨List.mem_of_getElem? (i := 217) rfl, rfl⟩
set_option maxRecDepth 100000 in
theorem q_219 : (Cond.laysFinal RX5 "HallStiles" "script" "LHallStiles$Script;") ∈ lw_all := List.mem_filter.mpr ⟨List.mem_of_getElem? (i := 219) rfl, rfl⟩
set_option maxRecDepth 100000 in
theorem q_221 : (Cond.lays RX5 "HallStiles" "hasSnapshot" "Z") ∈ lw_all := List.mem_filter.mpr ⟨List.mem_of_getElem? (i := 221) rfl, rfl⟩
set_option maxRecDepth 100000 in
theorem q_224 : (Cond.methodLink RL (13 : Nat) yX5_stile) ∈ lw_all := List.mem_filter.mpr ⟨List.mem_of_getElem? (i := 224) rfl, rfl⟩
set_option maxRecDepth 100000 in
theorem q_225 : (Cond.instanceMethod yX5_stile) ∈ lw_all := List.mem_filter.mpr ⟨List.mem_of_getElem? (i := 225) rfl, rfl⟩
set_option maxRecDepth 100000 in
theorem q_226 : (Cond.selects RX5 yX5_stile yX5_stile) ∈ lw_all := List.mem_filter.mpr ⟨List.mem_of_getElem? (i := 226) rfl, rfl⟩
set_option maxRecDepth 100000 in
theorem q_227 : (Cond.code yX5_stile prog_1_method_2_code (3 : Nat) (Option.some FieldType.int)) ∈ lw_all := List.mem_filter.mpr ⟨List.mem_of_getElem? (i := 227) rfl, rfl⟩
set_option maxRecDepth 100000 in
theorem q_228 : (Cond.methodLink RX5 (47 : Nat) yX5_isHall) ∈ lw_all := List.mem_filter.mpr ⟨List.mem_of_getElem? (i := 228) rfl, rfl⟩
set_option maxRecDepth 100000 in
theorem q_229 : (Cond.static yX5_isHall) ∈ lw_all := List.mem_filter.mpr ⟨List.mem_of_getElem? (i := 229) rfl, rfl⟩
set_option maxRecDepth 100000 in
theorem q_230 : (Cond.code yX5_isHall prog_1_method_35_code (1 : Nat) (Option.some FieldType.boolean)) ∈ lw_all := List.mem_filter.mpr ⟨List.mem_of_getElem? (i := 230) rfl, rfl⟩
set_option maxRecDepth 100000 in
theorem q_231 : (Cond.constant RX5 (51 : Nat) (-100001 : Int32)) ∈ lw_all := List.mem_filter.mpr ⟨List.mem_of_getElem? (i := 231) rfl, rfl⟩
set_option maxRecDepth 100000 in
theorem q_232 : (Cond.constant RX5 (52 : Nat) (-100002 : Int32)) ∈ lw_all := List.mem_filter.mpr ⟨List.mem_of_getElem? (i := 232) rfl, rfl⟩
set_option maxRecDepth 100000 in
theorem q_233 : (Cond.constant RX5 (57 : Nat) (-100003 : Int32)) ∈ lw_all := List.mem_filter.mpr ⟨List.mem_of_getElem? (i := 233) rfl, rfl⟩
set_option maxRecDepth 100000 in
theorem q_234 : (Cond.methodLink RX5 (58 : Nat) yX2_keep) ∈ lw_all := List.mem_filter.mpr ⟨List.mem_of_getElem? (i := 234) rfl, rfl⟩
set_option maxRecDepth 100000 in
theorem q_235 : (Cond.instanceMethod yX2_keep) ∈ lw_all := List.mem_filter.mpr ⟨List.mem_of_getElem? (i := 235) rfl, rfl⟩
set_option maxRecDepth 100000 in
theorem q_236 : (Cond.selects RX2 yX2_keep yX2_keep) ∈ lw_all := List.mem_filter.mpr ⟨List.mem_of_getElem? (i := 236) rfl, rfl⟩
set_option maxRecDepth 100000 in
theorem q_237 : (Cond.code yX2_keep prog_4_method_2_code (3 : Nat) (Option.none : Option FieldType)) ∈ lw_all := List.mem_filter.mpr ⟨List.mem_of_getElem? (i := 237) rfl, rfl⟩
set_option maxRecDepth 100000 in
theorem q_238 : (Cond.methodLink RX2 (25 : Nat) yX2_stateAt) ∈ lw_all := List.mem_filter.mpr ⟨List.mem_of_getElem? (i := 238) rfl, rfl⟩
set_option maxRecDepth 100000 in
theorem q_240 : (Cond.instanceMethod yX2_stateAt) ∈ lw_all := List.mem_filter.mpr ⟨List.mem_of_getElem? (i := 240) rfl, rfl⟩
set_option maxRecDepth 100000 in
theorem q_241 : (Cond.code yX2_stateAt prog_4_method_4_code (2 : Nat) (Option.some (FieldType.object "HallStiles$State"))) ∈ lw_all := List.mem_filter.mpr ⟨List.mem_of_getElem? (i := 241) rfl, rfl⟩
set_option maxRecDepth 100000 in
theorem q_242 : (Cond.methodLink RX2 (29 : Nat) yX4_copyFrom) ∈ lw_all := List.mem_filter.mpr ⟨List.mem_of_getElem? (i := 242) rfl, rfl⟩
set_option maxRecDepth 100000 in
theorem q_243 : (Cond.instanceMethod yX4_copyFrom) ∈ lw_all := List.mem_filter.mpr ⟨List.mem_of_getElem? (i := 243) rfl, rfl⟩
set_option maxRecDepth 100000 in
theorem q_244 : (Cond.selects RX4 yX4_copyFrom yX4_copyFrom) ∈ lw_all := List.mem_filter.mpr ⟨List.mem_of_getElem? (i := 244) rfl, rfl⟩
set_option maxRecDepth 100000 in
theorem q_245 : (Cond.code yX4_copyFrom prog_6_method_2_code (2 : Nat) (Option.none : Option FieldType)) ∈ lw_all := List.mem_filter.mpr ⟨List.mem_of_getElem? (i := 245) rfl, rfl⟩
set_option maxRecDepth 100000 in
theorem q_247 : (Cond.static yX5_copyRow) ∈ lw_all := List.mem_filter.mpr ⟨List.mem_of_getElem? (i := 247) rfl, rfl⟩
set_option maxRecDepth 100000 in
theorem q_248 : (Cond.code yX5_copyRow prog_1_method_45_code (3 : Nat) (Option.none : Option FieldType)) ∈ lw_all := List.mem_filter.mpr ⟨List.mem_of_getElem? (i := 248) rfl, rfl⟩
set_option maxRecDepth 100000 in
theorem q_249 : (Cond.methodLink RX4 (54 : Nat) yX1_copyFrom) ∈ lw_all := List.mem_filter.mpr ⟨List.mem_of_getElem? (i := 249) rfl, rfl⟩
set_option maxRecDepth 100000 in
theorem q_250 : (Cond.instanceMethod yX1_copyFrom) ∈ lw_all := List.mem_filter.mpr ⟨List.mem_of_getElem? (i := 250) rfl, rfl⟩
set_option maxRecDepth 100000 in
theorem q_251 : (Cond.selects RX1 yX1_copyFrom yX1_copyFrom) ∈ lw_all := List.mem_filter.mpr ⟨List.mem_of_getElem? (i := 251) rfl, rfl⟩
set_option maxRecDepth 100000 in
theorem q_252 : (Cond.code yX1_copyFrom prog_3_method_2_code (2 : Nat) (Option.none : Option FieldType)) ∈ lw_all := List.mem_filter.mpr ⟨List.mem_of_getElem? (i := 252) rfl, rfl⟩
set_option maxRecDepth 100000 in
theorem q_254 : (Cond.methodLink RX5 (62 : Nat) yX4_putUp) ∈ lw_all := List.mem_filter.mpr ⟨List.mem_of_getElem? (i := 254) rfl, rfl⟩
set_option maxRecDepth 100000 in
theorem q_255 : (Cond.instanceMethod yX4_putUp) ∈ lw_all := List.mem_filter.mpr ⟨List.mem_of_getElem? (i := 255) rfl, rfl⟩
set_option maxRecDepth 100000 in
theorem q_256 : (Cond.selects RX4 yX4_putUp yX4_putUp) ∈ lw_all := List.mem_filter.mpr ⟨List.mem_of_getElem? (i := 256) rfl, rfl⟩
set_option maxRecDepth 100000 in
theorem q_257 : (Cond.code yX4_putUp prog_6_method_4_code (4 : Nat) (Option.some FieldType.int)) ∈ lw_all := List.mem_filter.mpr ⟨List.mem_of_getElem? (i := 257) rfl, rfl⟩
set_option maxRecDepth 100000 in
theorem q_259 : (Cond.static yX5_put) ∈ lw_all := List.mem_filter.mpr ⟨List.mem_of_getElem? (i := 259) rfl, rfl⟩
set_option maxRecDepth 100000 in
theorem q_260 : (Cond.code yX5_put prog_1_method_43_code (3 : Nat) (Option.none : Option FieldType)) ∈ lw_all := List.mem_filter.mpr ⟨List.mem_of_getElem? (i := 260) rfl, rfl⟩
set_option maxRecDepth 100000 in
theorem q_261 : (Cond.methodLink RL (18 : Nat) yX5_open) ∈ lw_all := List.mem_filter.mpr ⟨List.mem_of_getElem? (i := 261) rfl, rfl⟩
set_option maxRecDepth 100000 in
theorem q_262 : (Cond.instanceMethod yX5_open) ∈ lw_all := List.mem_filter.mpr ⟨List.mem_of_getElem? (i := 262) rfl, rfl⟩
set_option maxRecDepth 100000 in
theorem q_263 : (Cond.selects RX5 yX5_open yX5_open) ∈ lw_all := List.mem_filter.mpr ⟨List.mem_of_getElem? (i := 263) rfl, rfl⟩
set_option maxRecDepth 100000 in
theorem q_264 : (Cond.code yX5_open prog_1_method_3_code (4 : Nat) (Option.some FieldType.int)) ∈ lw_all := List.mem_filter.mpr ⟨List.mem_of_getElem? (i := 264) rfl, rfl⟩
set_option maxRecDepth 100000 in
theorem q_265 : (Cond.methodLink RX5 (66 : Nat) yX4_hasStile) ∈ lw_all := List.mem_filter.mpr ⟨List.mem_of_getElem? (i := 265) rfl, rfl⟩
set_option maxRecDepth 100000 in
theorem q_266 : (Cond.instanceMethod yX4_hasStile) ∈ lw_all := List.mem_filter.mpr ⟨List.mem_of_getElem? (i := 266) rfl, rfl⟩
set_option maxRecDepth 100000 in
theorem q_267 : (Cond.selects RX4 yX4_hasStile yX4_hasStile) ∈ lw_all := List.mem_filter.mpr ⟨List.mem_of_getElem? (i := 267) rfl, rfl⟩
set_option maxRecDepth 100000 in
theorem q_268 : (Cond.code yX4_hasStile prog_6_method_3_code (2 : Nat) (Option.some FieldType.boolean)) ∈ lw_all := List.mem_filter.mpr ⟨List.mem_of_getElem? (i := 268) rfl, rfl⟩
set_option maxRecDepth 100000 in
theorem q_269 : (Cond.methodLink RX5 (73 : Nat) yX5_at) ∈ lw_all := List.mem_filter.mpr ⟨List.mem_of_getElem? (i := 269) rfl, rfl⟩
set_option maxRecDepth 100000 in
theorem q_270 : (Cond.static yX5_at) ∈ lw_all := List.mem_filter.mpr ⟨List.mem_of_getElem? (i := 270) rfl, rfl⟩
set_option maxRecDepth 100000 in
theorem q_271 : (Cond.code yX5_at prog_1_method_42_code (2 : Nat) (Option.some FieldType.int)) ∈ lw_all := List.mem_filter.mpr ⟨List.mem_of_getElem? (i := 271) rfl, rfl⟩
set_option maxRecDepth 100000 in
theorem q_272 : (Cond.methodLink RX5 (77 : Nat) yX5_put) ∈ lw_all := List.mem_filter.mpr ⟨List.mem_of_getElem? (i := 272) rfl, rfl⟩
set_option maxRecDepth 100000 in
theorem q_273 : (Cond.methodLink RL (22 : Nat) yX5_room) ∈ lw_all := List.mem_filter.mpr ⟨List.mem_of_getElem? (i := 273) rfl, rfl⟩
set_option maxRecDepth 100000 in
theorem q_274 : (Cond.instanceMethod yX5_room) ∈ lw_all := List.mem_filter.mpr ⟨List.mem_of_getElem? (i := 274) rfl, rfl⟩
set_option maxRecDepth 100000 in
theorem q_275 : (Cond.selects RX5 yX5_room yX5_room) ∈ lw_all := List.mem_filter.mpr ⟨List.mem_of_getElem? (i := 275) rfl, rfl⟩
set_option maxRecDepth 100000 in
theorem q_276 : (Cond.code yX5_room prog_1_method_4_code (4 : Nat) (Option.some FieldType.int)) ∈ lw_all := List.mem_filter.mpr ⟨List.mem_of_getElem? (i := 276) rfl, rfl⟩
set_option maxRecDepth 100000 in
theorem q_277 : (Cond.methodLink RX5 (81 : Nat) yX5_isHallWithRoom) ∈ lw_all := List.mem_filter.mpr ⟨List.mem_of_getElem? (i := 277) rfl, rfl⟩
set_option maxRecDepth 100000 in
theorem q_278 : (Cond.static yX5_isHallWithRoom) ∈ lw_all := List.mem_filter.mpr ⟨List.mem_of_getElem? (i := 278) rfl, rfl⟩
set_option maxRecDepth 100000 in
theorem q_279 : (Cond.code yX5_isHallWithRoom prog_1_method_36_code (1 : Nat) (Option.some FieldType.boolean)) ∈ lw_all := List.mem_filter.mpr ⟨List.mem_of_getElem? (i := 279) rfl, rfl⟩
set_option maxRecDepth 100000 in
theorem q_280 : (Cond.constant RX5 (87 : Nat) (-100004 : Int32)) ∈ lw_all := List.mem_filter.mpr ⟨List.mem_of_getElem? (i := 280) rfl, rfl⟩
set_option maxRecDepth 100000 in
theorem q_281 : (Cond.methodLink RL (26 : Nat) yX5_slip) ∈ lw_all := List.mem_filter.mpr ⟨List.mem_of_getElem? (i := 281) rfl, rfl⟩
set_option maxRecDepth 100000 in
theorem q_282 : (Cond.instanceMethod yX5_slip) ∈ lw_all := List.mem_filter.mpr ⟨List.mem_of_getElem? (i := 282) rfl, rfl⟩
set_option maxRecDepth 100000 in
theorem q_283 : (Cond.selects RX5 yX5_slip yX5_slip) ∈ lw_all := List.mem_filter.mpr ⟨List.mem_of_getElem? (i := 283) rfl, rfl⟩
set_option maxRecDepth 100000 in
theorem q_284 : (Cond.code yX5_slip prog_1_method_5_code (6 : Nat) (Option.some FieldType.int)) ∈ lw_all := List.mem_filter.mpr ⟨List.mem_of_getElem? (i := 284) rfl, rfl⟩
set_option maxRecDepth 100000 in
theorem q_285 : (Cond.methodLink RX5 (91 : Nat) yX5_isCounter) ∈ lw_all := List.mem_filter.mpr ⟨List.mem_of_getElem? (i := 285) rfl, rfl⟩
set_option maxRecDepth 100000 in
theorem q_286 : (Cond.static yX5_isCounter) ∈ lw_all := List.mem_filter.mpr ⟨List.mem_of_getElem? (i := 286) rfl, rfl⟩
set_option maxRecDepth 100000 in
theorem q_287 : (Cond.code yX5_isCounter prog_1_method_37_code (1 : Nat) (Option.some FieldType.boolean)) ∈ lw_all := List.mem_filter.mpr ⟨List.mem_of_getElem? (i := 287) rfl, rfl⟩
set_option maxRecDepth 100000 in
theorem q_288 : (Cond.methodLink RX5 (94 : Nat) yX5_isSlip) ∈ lw_all := List.mem_filter.mpr ⟨List.mem_of_getElem? (i := 288) rfl, rfl⟩
set_option maxRecDepth 100000 in
theorem q_289 : (Cond.static yX5_isSlip) ∈ lw_all := List.mem_filter.mpr ⟨List.mem_of_getElem? (i := 289) rfl, rfl⟩
set_option maxRecDepth 100000 in
theorem q_290 : (Cond.code yX5_isSlip prog_1_method_38_code (1 : Nat) (Option.some FieldType.boolean)) ∈ lw_all := List.mem_filter.mpr ⟨List.mem_of_getElem? (i := 290) rfl, rfl⟩
set_option maxRecDepth 100000 in
theorem q_291 : (Cond.methodLink RX5 (97 : Nat) yX5_counterIndex) ∈ lw_all := List.mem_filter.mpr ⟨List.mem_of_getElem? (i := 291) rfl, rfl⟩
set_option maxRecDepth 100000 in
theorem q_292 : (Cond.static yX5_counterIndex) ∈ lw_all := List.mem_filter.mpr ⟨List.mem_of_getElem? (i := 292) rfl, rfl⟩
set_option maxRecDepth 100000 in
theorem q_293 : (Cond.code yX5_counterIndex prog_1_method_41_code (2 : Nat) (Option.some FieldType.int)) ∈ lw_all := List.mem_filter.mpr ⟨List.mem_of_getElem? (i := 293) rfl, rfl⟩
set_option maxRecDepth 100000 in
theorem q_294 : (Cond.methodLink RX5 (109 : Nat) yX1_beginAnew) ∈ lw_all := List.mem_filter.mpr ⟨List.mem_of_getElem? (i := 294) rfl, rfl⟩
set_option maxRecDepth 100000 in
theorem q_295 : (Cond.instanceMethod yX1_beginAnew) ∈ lw_all := List.mem_filter.mpr ⟨List.mem_of_getElem? (i := 295) rfl, rfl⟩
set_option maxRecDepth 100000 in
theorem q_296 : (Cond.selects RX1 yX1_beginAnew yX1_beginAnew) ∈ lw_all := List.mem_filter.mpr ⟨List.mem_of_getElem? (i := 296) rfl, rfl⟩
set_option maxRecDepth 100000 in
theorem q_297 : (Cond.code yX1_beginAnew prog_3_method_3_code (3 : Nat) (Option.none : Option FieldType)) ∈ lw_all := List.mem_filter.mpr ⟨List.mem_of_getElem? (i := 297) rfl, rfl⟩
set_option maxRecDepth 100000 in
theorem q_299 : (Cond.methodLink RL (31 : Nat) yX5_pass) ∈ lw_all := List.mem_filter.mpr ⟨List.mem_of_getElem? (i := 299) rfl, rfl⟩
set_option maxRecDepth 100000 in
theorem q_300 : (Cond.instanceMethod yX5_pass) ∈ lw_all := List.mem_filter.mpr ⟨List.mem_of_getElem? (i := 300) rfl, rfl⟩
set_option maxRecDepth 100000 in
theorem q_301 : (Cond.selects RX5 yX5_pass yX5_pass) ∈ lw_all := List.mem_filter.mpr ⟨List.mem_of_getElem? (i := 301) rfl, rfl⟩
set_option maxRecDepth 100000 in
theorem q_302 : (Cond.code yX5_pass prog_1_method_6_code (5 : Nat) (Option.some FieldType.int)) ∈ lw_all := List.mem_filter.mpr ⟨List.mem_of_getElem? (i := 302) rfl, rfl⟩
set_option maxRecDepth 100000 in
theorem q_303 : (Cond.methodLink RX5 (113 : Nat) yX5_passError) ∈ lw_all := List.mem_filter.mpr ⟨List.mem_of_getElem? (i := 303) rfl, rfl⟩
set_option maxRecDepth 100000 in
theorem q_305 : (Cond.instanceMethod yX5_passError) ∈ lw_all := List.mem_filter.mpr ⟨List.mem_of_getElem? (i := 305) rfl, rfl⟩
set_option maxRecDepth 100000 in
theorem q_306 : (Cond.code yX5_passError prog_1_method_29_code (5 : Nat) (Option.some FieldType.int)) ∈ lw_all := List.mem_filter.mpr ⟨List.mem_of_getElem? (i := 306) rfl, rfl⟩
set_option maxRecDepth 100000 in
theorem q_307 : (Cond.methodLink RX5 (215 : Nat) yX5_isManyPeople) ∈ lw_all := List.mem_filter.mpr ⟨List.mem_of_getElem? (i := 307) rfl, rfl⟩
set_option maxRecDepth 100000 in
theorem q_308 : (Cond.static yX5_isManyPeople) ∈ lw_all := List.mem_filter.mpr ⟨List.mem_of_getElem? (i := 308) rfl, rfl⟩
set_option maxRecDepth 100000 in
theorem q_309 : (Cond.code yX5_isManyPeople prog_1_method_39_code (1 : Nat) (Option.some FieldType.boolean)) ∈ lw_all := List.mem_filter.mpr ⟨List.mem_of_getElem? (i := 309) rfl, rfl⟩
set_option maxRecDepth 100000 in
theorem q_310 : (Cond.methodLink RX5 (218 : Nat) yX4_whyNot) ∈ lw_all := List.mem_filter.mpr ⟨List.mem_of_getElem? (i := 310) rfl, rfl⟩
set_option maxRecDepth 100000 in
theorem q_311 : (Cond.instanceMethod yX4_whyNot) ∈ lw_all := List.mem_filter.mpr ⟨List.mem_of_getElem? (i := 311) rfl, rfl⟩
set_option maxRecDepth 100000 in
theorem q_312 : (Cond.selects RX4 yX4_whyNot yX4_whyNot) ∈ lw_all := List.mem_filter.mpr ⟨List.mem_of_getElem? (i := 312) rfl, rfl⟩
set_option maxRecDepth 100000 in
theorem q_313 : (Cond.code yX4_whyNot prog_6_method_9_code (4 : Nat) (Option.some FieldType.int)) ∈ lw_all := List.mem_filter.mpr ⟨List.mem_of_getElem? (i := 313) rfl, rfl⟩
set_option maxRecDepth 100000 in
theorem q_314 : (Cond.methodLink RX4 (70 : Nat) yX4_isUnderRepair) ∈ lw_all := List.mem_filter.mpr ⟨List.mem_of_getElem? (i := 314) rfl, rfl⟩
set_option maxRecDepth 100000 in
theorem q_315 : (Cond.instanceMethod yX4_isUnderRepair) ∈ lw_all := List.mem_filter.mpr ⟨List.mem_of_getElem? (i := 315) rfl, rfl⟩
set_option maxRecDepth 100000 in
theorem q_316 : (Cond.selects RX4 yX4_isUnderRepair yX4_isUnderRepair) ∈ lw_all := List.mem_filter.mpr ⟨List.mem_of_getElem? (i := 316) rfl, rfl⟩
set_option maxRecDepth 100000 in
theorem q_317 : (Cond.code yX4_isUnderRepair prog_6_method_8_code (2 : Nat) (Option.some FieldType.boolean)) ∈ lw_all := List.mem_filter.mpr ⟨List.mem_of_getElem? (i := 317) rfl, rfl⟩
set_option maxRecDepth 100000 in
theorem q_319 : (Cond.methodLink RX4 (74 : Nat) yX4_goes) ∈ lw_all := List.mem_filter.mpr ⟨List.mem_of_getElem? (i := 319) rfl, rfl⟩
set_option maxRecDepth 100000 in
theorem q_320 : (Cond.instanceMethod yX4_goes) ∈ lw_all := List.mem_filter.mpr ⟨List.mem_of_getElem? (i := 320) rfl, rfl⟩
set_option maxRecDepth 100000 in
theorem q_321 : (Cond.selects RX4 yX4_goes yX4_goes) ∈ lw_all := List.mem_filter.mpr ⟨List.mem_of_getElem? (i := 321) rfl, rfl⟩
set_option maxRecDepth 100000 in
theorem q_322 : (Cond.code yX4_goes prog_6_method_7_code (4 : Nat) (Option.some FieldType.boolean)) ∈ lw_all := List.mem_filter.mpr ⟨List.mem_of_getElem? (i := 322) rfl, rfl⟩
set_option maxRecDepth 100000 in
theorem q_323 : (Cond.methodLink RX4 (66 : Nat) yX4_hallBehind) ∈ lw_all := List.mem_filter.mpr ⟨List.mem_of_getElem? (i := 323) rfl, rfl⟩
set_option maxRecDepth 100000 in
theorem q_324 : (Cond.instanceMethod yX4_hallBehind) ∈ lw_all := List.mem_filter.mpr ⟨List.mem_of_getElem? (i := 324) rfl, rfl⟩
set_option maxRecDepth 100000 in
theorem q_325 : (Cond.selects RX4 yX4_hallBehind yX4_hallBehind) ∈ lw_all := List.mem_filter.mpr ⟨List.mem_of_getElem? (i := 325) rfl, rfl⟩
set_option maxRecDepth 100000 in
theorem q_326 : (Cond.code yX4_hallBehind prog_6_method_5_code (3 : Nat) (Option.some FieldType.int)) ∈ lw_all := List.mem_filter.mpr ⟨List.mem_of_getElem? (i := 326) rfl, rfl⟩
set_option maxRecDepth 100000 in
theorem q_327 : (Cond.methodLink RX4 (78 : Nat) yX4_readyToLeave) ∈ lw_all := List.mem_filter.mpr ⟨List.mem_of_getElem? (i := 327) rfl, rfl⟩
set_option maxRecDepth 100000 in
theorem q_329 : (Cond.instanceMethod yX4_readyToLeave) ∈ lw_all := List.mem_filter.mpr ⟨List.mem_of_getElem? (i := 329) rfl, rfl⟩
set_option maxRecDepth 100000 in
theorem q_330 : (Cond.code yX4_readyToLeave prog_6_method_11_code (2 : Nat) (Option.some FieldType.int)) ∈ lw_all := List.mem_filter.mpr ⟨List.mem_of_getElem? (i := 330) rfl, rfl⟩
set_option maxRecDepth 100000 in
theorem q_331 : (Cond.methodLink RX4 (88 : Nat) (⟨"java/lang/Math", "min", "(II)I"⟩ : MethodName)) ∈ lw_all := List.mem_filter.mpr ⟨List.mem_of_getElem? (i := 331) rfl, rfl⟩
set_option maxRecDepth 100000 in
theorem q_332 : (Cond.static (⟨"java/lang/Math", "min", "(II)I"⟩ : MethodName)) ∈ lw_all := List.mem_filter.mpr ⟨List.mem_of_getElem? (i := 332) rfl, rfl⟩
set_option maxRecDepth 100000 in
theorem q_333 : (Cond.code (⟨"java/lang/Math", "min", "(II)I"⟩ : MethodName) prog_9_method_69_code (2 : Nat) (Option.some FieldType.int)) ∈ lw_all := List.mem_filter.mpr ⟨List.mem_of_getElem? (i := 333) rfl, rfl⟩
set_option maxRecDepth 100000 in
theorem q_334 : (Cond.methodLink RX4 (82 : Nat) yX4_hallAhead) ∈ lw_all := List.mem_filter.mpr ⟨List.mem_of_getElem? (i := 334) rfl, rfl⟩
set_option maxRecDepth 100000 in
theorem q_335 : (Cond.instanceMethod yX4_hallAhead) ∈ lw_all := List.mem_filter.mpr ⟨List.mem_of_getElem? (i := 335) rfl, rfl⟩
set_option maxRecDepth 100000 in
theorem q_336 : (Cond.selects RX4 yX4_hallAhead yX4_hallAhead) ∈ lw_all := List.mem_filter.mpr ⟨List.mem_of_getElem? (i := 336) rfl, rfl⟩
set_option maxRecDepth 100000 in
theorem q_337 : (Cond.code yX4_hallAhead prog_6_method_6_code (3 : Nat) (Option.some FieldType.int)) ∈ lw_all := List.mem_filter.mpr ⟨List.mem_of_getElem? (i := 337) rfl, rfl⟩
set_option maxRecDepth 100000 in
theorem q_338 : (Cond.methodLink RX4 (85 : Nat) yX4_roomLeft) ∈ lw_all := List.mem_filter.mpr ⟨List.mem_of_getElem? (i := 338) rfl, rfl⟩
set_option maxRecDepth 100000 in
theorem q_340 : (Cond.instanceMethod yX4_roomLeft) ∈ lw_all := List.mem_filter.mpr ⟨List.mem_of_getElem? (i := 340) rfl, rfl⟩
set_option maxRecDepth 100000 in
theorem q_341 : (Cond.code yX4_roomLeft prog_6_method_12_code (2 : Nat) (Option.some FieldType.int)) ∈ lw_all := List.mem_filter.mpr ⟨List.mem_of_getElem? (i := 341) rfl, rfl⟩
set_option maxRecDepth 100000 in
theorem q_342 : (Cond.methodLink RX5 (117 : Nat) yX4_letThrough) ∈ lw_all := List.mem_filter.mpr ⟨List.mem_of_getElem? (i := 342) rfl, rfl⟩
set_option maxRecDepth 100000 in
theorem q_343 : (Cond.instanceMethod yX4_letThrough) ∈ lw_all := List.mem_filter.mpr ⟨List.mem_of_getElem? (i := 343) rfl, rfl⟩
set_option maxRecDepth 100000 in
theorem q_344 : (Cond.selects RX4 yX4_letThrough yX4_letThrough) ∈ lw_all := List.mem_filter.mpr ⟨List.mem_of_getElem? (i := 344) rfl, rfl⟩
set_option maxRecDepth 100000 in
theorem q_345 : (Cond.code yX4_letThrough prog_6_method_13_code (6 : Nat) (Option.none : Option FieldType)) ∈ lw_all := List.mem_filter.mpr ⟨List.mem_of_getElem? (i := 345) rfl, rfl⟩
set_option maxRecDepth 100000 in
theorem q_346 : (Cond.methodLink RX4 (94 : Nat) yX4_moveTo) ∈ lw_all := List.mem_filter.mpr ⟨List.mem_of_getElem? (i := 346) rfl, rfl⟩
set_option maxRecDepth 100000 in
theorem q_348 : (Cond.instanceMethod yX4_moveTo) ∈ lw_all := List.mem_filter.mpr ⟨List.mem_of_getElem? (i := 348) rfl, rfl⟩
set_option maxRecDepth 100000 in
theorem q_349 : (Cond.code yX4_moveTo prog_6_method_14_code (3 : Nat) (Option.none : Option FieldType)) ∈ lw_all := List.mem_filter.mpr ⟨List.mem_of_getElem? (i := 349) rfl, rfl⟩
set_option maxRecDepth 100000 in
theorem q_351 : (Cond.static yX5_add) ∈ lw_all := List.mem_filter.mpr ⟨List.mem_of_getElem? (i := 351) rfl, rfl⟩
set_option maxRecDepth 100000 in
theorem q_352 : (Cond.code yX5_add prog_1_method_44_code (3 : Nat) (Option.none : Option FieldType)) ∈ lw_all := List.mem_filter.mpr ⟨List.mem_of_getElem? (i := 352) rfl, rfl⟩
set_option maxRecDepth 100000 in
theorem q_354 : (Cond.methodLink RX4 (101 : Nat) yX1_seePeople) ∈ lw_all := List.mem_filter.mpr ⟨List.mem_of_getElem? (i := 354) rfl, rfl⟩
set_option maxRecDepth 100000 in
theorem q_355 : (Cond.instanceMethod yX1_seePeople) ∈ lw_all := List.mem_filter.mpr ⟨List.mem_of_getElem? (i := 355) rfl, rfl⟩
set_option maxRecDepth 100000 in
theorem q_356 : (Cond.selects RX1 yX1_seePeople yX1_seePeople) ∈ lw_all := List.mem_filter.mpr ⟨List.mem_of_getElem? (i := 356) rfl, rfl⟩
set_option maxRecDepth 100000 in
theorem q_357 : (Cond.code yX1_seePeople prog_3_method_4_code (6 : Nat) (Option.none : Option FieldType)) ∈ lw_all := List.mem_filter.mpr ⟨List.mem_of_getElem? (i := 357) rfl, rfl⟩
set_option maxRecDepth 100000 in
theorem q_360 : (Cond.methodLink RX5 (121 : Nat) yX1_gapOf) ∈ lw_all := List.mem_filter.mpr ⟨List.mem_of_getElem? (i := 360) rfl, rfl⟩
set_option maxRecDepth 100000 in
theorem q_361 : (Cond.instanceMethod yX1_gapOf) ∈ lw_all := List.mem_filter.mpr ⟨List.mem_of_getElem? (i := 361) rfl, rfl⟩
set_option maxRecDepth 100000 in
theorem q_362 : (Cond.selects RX1 yX1_gapOf yX1_gapOf) ∈ lw_all := List.mem_filter.mpr ⟨List.mem_of_getElem? (i := 362) rfl, rfl⟩
set_option maxRecDepth 100000 in
theorem q_363 : (Cond.code yX1_gapOf prog_3_method_7_code (4 : Nat) (Option.some FieldType.int)) ∈ lw_all := List.mem_filter.mpr ⟨List.mem_of_getElem? (i := 363) rfl, rfl⟩
set_option maxRecDepth 100000 in
theorem q_364 : (Cond.methodLink RX1 (47 : Nat) yX1_countOf) ∈ lw_all := List.mem_filter.mpr ⟨List.mem_of_getElem? (i := 364) rfl, rfl⟩
set_option maxRecDepth 100000 in
theorem q_365 : (Cond.instanceMethod yX1_countOf) ∈ lw_all := List.mem_filter.mpr ⟨List.mem_of_getElem? (i := 365) rfl, rfl⟩
set_option maxRecDepth 100000 in
theorem q_366 : (Cond.selects RX1 yX1_countOf yX1_countOf) ∈ lw_all := List.mem_filter.mpr ⟨List.mem_of_getElem? (i := 366) rfl, rfl⟩
set_option maxRecDepth 100000 in
theorem q_367 : (Cond.code yX1_countOf prog_3_method_6_code (3 : Nat) (Option.some FieldType.int)) ∈ lw_all := List.mem_filter.mpr ⟨List.mem_of_getElem? (i := 367) rfl, rfl⟩
set_option maxRecDepth 100000 in
theorem q_369 : (Cond.methodLink RX1 (50 : Nat) (⟨"java/lang/Math", "abs", "(I)I"⟩ : MethodName)) ∈ lw_all := List.mem_filter.mpr ⟨List.mem_of_getElem? (i := 369) rfl, rfl⟩
set_option maxRecDepth 100000 in
theorem q_370 : (Cond.static (⟨"java/lang/Math", "abs", "(I)I"⟩ : MethodName)) ∈ lw_all := List.mem_filter.mpr ⟨List.mem_of_getElem? (i := 370) rfl, rfl⟩
set_option maxRecDepth 100000 in
theorem q_371 : (Cond.code (⟨"java/lang/Math", "abs", "(I)I"⟩ : MethodName) prog_9_method_59_code (1 : Nat) (Option.some FieldType.int)) ∈ lw_all := List.mem_filter.mpr ⟨List.mem_of_getElem? (i := 371) rfl, rfl⟩
set_option maxRecDepth 100000 in
theorem q_372 : (Cond.methodLink RL (36 : Nat) yX5_audit) ∈ lw_all := List.mem_filter.mpr ⟨List.mem_of_getElem? (i := 372) rfl, rfl⟩
set_option maxRecDepth 100000 in
theorem q_373 : (Cond.instanceMethod yX5_audit) ∈ lw_all := List.mem_filter.mpr ⟨List.mem_of_getElem? (i := 373) rfl, rfl⟩
set_option maxRecDepth 100000 in
theorem q_374 : (Cond.selects RX5 yX5_audit yX5_audit) ∈ lw_all := List.mem_filter.mpr ⟨List.mem_of_getElem? (i := 374) rfl, rfl⟩
set_option maxRecDepth 100000 in
theorem q_375 : (Cond.code yX5_audit prog_1_method_7_code (3 : Nat) (Option.some FieldType.int)) ∈ lw_all := List.mem_filter.mpr ⟨List.mem_of_getElem? (i := 375) rfl, rfl⟩
set_option maxRecDepth 100000 in
theorem q_376 : (Cond.methodLink RX5 (125 : Nat) yX1_makeAgree) ∈ lw_all := List.mem_filter.mpr ⟨List.mem_of_getElem? (i := 376) rfl, rfl⟩
set_option maxRecDepth 100000 in
theorem q_377 : (Cond.instanceMethod yX1_makeAgree) ∈ lw_all := List.mem_filter.mpr ⟨List.mem_of_getElem? (i := 377) rfl, rfl⟩
set_option maxRecDepth 100000 in
theorem q_378 : (Cond.selects RX1 yX1_makeAgree yX1_makeAgree) ∈ lw_all := List.mem_filter.mpr ⟨List.mem_of_getElem? (i := 378) rfl, rfl⟩
set_option maxRecDepth 100000 in
theorem q_379 : (Cond.code yX1_makeAgree prog_3_method_8_code (2 : Nat) (Option.none : Option FieldType)) ∈ lw_all := List.mem_filter.mpr ⟨List.mem_of_getElem? (i := 379) rfl, rfl⟩
set_option maxRecDepth 100000 in
theorem q_380 : (Cond.methodLink RX1 (56 : Nat) yX1_makePairAgree) ∈ lw_all := List.mem_filter.mpr ⟨List.mem_of_getElem? (i := 380) rfl, rfl⟩
set_option maxRecDepth 100000 in
theorem q_382 : (Cond.instanceMethod yX1_makePairAgree) ∈ lw_all := List.mem_filter.mpr ⟨List.mem_of_getElem? (i := 382) rfl, rfl⟩
set_option maxRecDepth 100000 in
theorem q_383 : (Cond.code yX1_makePairAgree prog_3_method_9_code (5 : Nat) (Option.none : Option FieldType)) ∈ lw_all := List.mem_filter.mpr ⟨List.mem_of_getElem? (i := 383) rfl, rfl⟩
set_option maxRecDepth 100000 in
theorem q_384 : (Cond.methodLink RX1 (60 : Nat) (⟨"java/lang/Math", "max", "(II)I"⟩ : MethodName)) ∈ lw_all := List.mem_filter.mpr ⟨List.mem_of_getElem? (i := 384) rfl, rfl⟩
set_option maxRecDepth 100000 in
theorem q_385 : (Cond.static (⟨"java/lang/Math", "max", "(II)I"⟩ : MethodName)) ∈ lw_all := List.mem_filter.mpr ⟨List.mem_of_getElem? (i := 385) rfl, rfl⟩
set_option maxRecDepth 100000 in
theorem q_386 : (Cond.code (⟨"java/lang/Math", "max", "(II)I"⟩ : MethodName) prog_9_method_65_code (2 : Nat) (Option.some FieldType.int)) ∈ lw_all := List.mem_filter.mpr ⟨List.mem_of_getElem? (i := 386) rfl, rfl⟩
set_option maxRecDepth 100000 in
theorem q_387 : (Cond.methodLink RL (41 : Nat) yX5_repair) ∈ lw_all := List.mem_filter.mpr ⟨List.mem_of_getElem? (i := 387) rfl, rfl⟩
set_option maxRecDepth 100000 in
theorem q_388 : (Cond.instanceMethod yX5_repair) ∈ lw_all := List.mem_filter.mpr ⟨List.mem_of_getElem? (i := 388) rfl, rfl⟩
set_option maxRecDepth 100000 in
theorem q_389 : (Cond.selects RX5 yX5_repair yX5_repair) ∈ lw_all := List.mem_filter.mpr ⟨List.mem_of_getElem? (i := 389) rfl, rfl⟩
set_option maxRecDepth 100000 in
theorem q_390 : (Cond.code yX5_repair prog_1_method_8_code (3 : Nat) (Option.some FieldType.int)) ∈ lw_all := List.mem_filter.mpr ⟨List.mem_of_getElem? (i := 390) rfl, rfl⟩
set_option maxRecDepth 100000 in
theorem q_391 : (Cond.methodLink RX5 (129 : Nat) yX5_repairError) ∈ lw_all := List.mem_filter.mpr ⟨List.mem_of_getElem? (i := 391) rfl, rfl⟩
set_option maxRecDepth 100000 in
theorem q_393 : (Cond.instanceMethod yX5_repairError) ∈ lw_all := List.mem_filter.mpr ⟨List.mem_of_getElem? (i := 393) rfl, rfl⟩
set_option maxRecDepth 100000 in
theorem q_394 : (Cond.code yX5_repairError prog_1_method_30_code (2 : Nat) (Option.some FieldType.int)) ∈ lw_all := List.mem_filter.mpr ⟨List.mem_of_getElem? (i := 394) rfl, rfl⟩
set_option maxRecDepth 100000 in
theorem q_395 : (Cond.methodLink RX5 (132 : Nat) yX4_beginRepair) ∈ lw_all := List.mem_filter.mpr ⟨List.mem_of_getElem? (i := 395) rfl, rfl⟩
set_option maxRecDepth 100000 in
theorem q_396 : (Cond.instanceMethod yX4_beginRepair) ∈ lw_all := List.mem_filter.mpr ⟨List.mem_of_getElem? (i := 396) rfl, rfl⟩
set_option maxRecDepth 100000 in
theorem q_397 : (Cond.selects RX4 yX4_beginRepair yX4_beginRepair) ∈ lw_all := List.mem_filter.mpr ⟨List.mem_of_getElem? (i := 397) rfl, rfl⟩
set_option maxRecDepth 100000 in
theorem q_398 : (Cond.code yX4_beginRepair prog_6_method_15_code (2 : Nat) (Option.none : Option FieldType)) ∈ lw_all := List.mem_filter.mpr ⟨List.mem_of_getElem? (i := 398) rfl, rfl⟩
set_option maxRecDepth 100000 in
theorem q_399 : (Cond.methodLink RL (45 : Nat) yX5_hours) ∈ lw_all := List.mem_filter.mpr ⟨List.mem_of_getElem? (i := 399) rfl, rfl⟩
set_option maxRecDepth 100000 in
theorem q_400 : (Cond.instanceMethod yX5_hours) ∈ lw_all := List.mem_filter.mpr ⟨List.mem_of_getElem? (i := 400) rfl, rfl⟩
set_option maxRecDepth 100000 in
theorem q_401 : (Cond.selects RX5 yX5_hours yX5_hours) ∈ lw_all := List.mem_filter.mpr ⟨List.mem_of_getElem? (i := 401) rfl, rfl⟩
set_option maxRecDepth 100000 in
theorem q_402 : (Cond.code yX5_hours prog_1_method_9_code (2 : Nat) (Option.some FieldType.int)) ∈ lw_all := List.mem_filter.mpr ⟨List.mem_of_getElem? (i := 402) rfl, rfl⟩
set_option maxRecDepth 100000 in
theorem q_403 : (Cond.methodLink RX5 (141 : Nat) yX5_isManyHours) ∈ lw_all := List.mem_filter.mpr ⟨List.mem_of_getElem? (i := 403) rfl, rfl⟩
set_option maxRecDepth 100000 in
theorem q_404 : (Cond.static yX5_isManyHours) ∈ lw_all := List.mem_filter.mpr ⟨List.mem_of_getElem? (i := 404) rfl, rfl⟩
set_option maxRecDepth 100000 in
theorem q_405 : (Cond.code yX5_isManyHours prog_1_method_40_code (1 : Nat) (Option.some FieldType.boolean)) ∈ lw_all := List.mem_filter.mpr ⟨List.mem_of_getElem? (i := 405) rfl, rfl⟩
set_option maxRecDepth 100000 in
theorem q_406 : (Cond.methodLink RX5 (144 : Nat) yX4_letHoursPass) ∈ lw_all := List.mem_filter.mpr ⟨List.mem_of_getElem? (i := 406) rfl, rfl⟩
set_option maxRecDepth 100000 in
theorem q_407 : (Cond.instanceMethod yX4_letHoursPass) ∈ lw_all := List.mem_filter.mpr ⟨List.mem_of_getElem? (i := 407) rfl, rfl⟩
set_option maxRecDepth 100000 in
theorem q_408 : (Cond.selects RX4 yX4_letHoursPass yX4_letHoursPass) ∈ lw_all := List.mem_filter.mpr ⟨List.mem_of_getElem? (i := 408) rfl, rfl⟩
set_option maxRecDepth 100000 in
theorem q_409 : (Cond.code yX4_letHoursPass prog_6_method_16_code (4 : Nat) (Option.some FieldType.int)) ∈ lw_all := List.mem_filter.mpr ⟨List.mem_of_getElem? (i := 409) rfl, rfl⟩
set_option maxRecDepth 100000 in
theorem q_410 : (Cond.methodLink RX4 (107 : Nat) yX4_letHourPass) ∈ lw_all := List.mem_filter.mpr ⟨List.mem_of_getElem? (i := 410) rfl, rfl⟩
set_option maxRecDepth 100000 in
theorem q_411 : (Cond.instanceMethod yX4_letHourPass) ∈ lw_all := List.mem_filter.mpr ⟨List.mem_of_getElem? (i := 411) rfl, rfl⟩
set_option maxRecDepth 100000 in
theorem q_412 : (Cond.selects RX4 yX4_letHourPass yX4_letHourPass) ∈ lw_all := List.mem_filter.mpr ⟨List.mem_of_getElem? (i := 412) rfl, rfl⟩
set_option maxRecDepth 100000 in
theorem q_413 : (Cond.code yX4_letHourPass prog_6_method_17_code (3 : Nat) (Option.some FieldType.int)) ∈ lw_all := List.mem_filter.mpr ⟨List.mem_of_getElem? (i := 413) rfl, rfl⟩
set_option maxRecDepth 100000 in
theorem q_414 : (Cond.methodLink RX4 (111 : Nat) yX1_endSlips) ∈ lw_all := List.mem_filter.mpr ⟨List.mem_of_getElem? (i := 414) rfl, rfl⟩
set_option maxRecDepth 100000 in
theorem q_415 : (Cond.instanceMethod yX1_endSlips) ∈ lw_all := List.mem_filter.mpr ⟨List.mem_of_getElem? (i := 415) rfl, rfl⟩
set_option maxRecDepth 100000 in
theorem q_416 : (Cond.selects RX1 yX1_endSlips yX1_endSlips) ∈ lw_all := List.mem_filter.mpr ⟨List.mem_of_getElem? (i := 416) rfl, rfl⟩
set_option maxRecDepth 100000 in
theorem q_417 : (Cond.code yX1_endSlips prog_3_method_5_code (3 : Nat) (Option.none : Option FieldType)) ∈ lw_all := List.mem_filter.mpr ⟨List.mem_of_getElem? (i := 417) rfl, rfl⟩
set_option maxRecDepth 100000 in
theorem q_418 : (Cond.methodLink RX1 (43 : Nat) yX1_beginAnew) ∈ lw_all := List.mem_filter.mpr ⟨List.mem_of_getElem? (i := 418) rfl, rfl⟩
set_option maxRecDepth 100000 in
theorem q_419 : (Cond.methodLink RL (49 : Nat) yX5_close) ∈ lw_all := List.mem_filter.mpr ⟨List.mem_of_getElem? (i := 419) rfl, rfl⟩
set_option maxRecDepth 100000 in
theorem q_420 : (Cond.instanceMethod yX5_close) ∈ lw_all := List.mem_filter.mpr ⟨List.mem_of_getElem? (i := 420) rfl, rfl⟩
set_option maxRecDepth 100000 in
theorem q_421 : (Cond.selects RX5 yX5_close yX5_close) ∈ lw_all := List.mem_filter.mpr ⟨List.mem_of_getElem? (i := 421) rfl, rfl⟩
set_option maxRecDepth 100000 in
theorem q_422 : (Cond.code yX5_close prog_1_method_10_code (4 : Nat) (Option.some FieldType.int)) ∈ lw_all := List.mem_filter.mpr ⟨List.mem_of_getElem? (i := 422) rfl, rfl⟩
set_option maxRecDepth 100000 in
theorem q_423 : (Cond.methodLink RX5 (147 : Nat) yX0_closeForAnHour) ∈ lw_all := List.mem_filter.mpr ⟨List.mem_of_getElem? (i := 423) rfl, rfl⟩
set_option maxRecDepth 100000 in
theorem q_424 : (Cond.instanceMethod yX0_closeForAnHour) ∈ lw_all := List.mem_filter.mpr ⟨List.mem_of_getElem? (i := 424) rfl, rfl⟩
set_option maxRecDepth 100000 in
theorem q_425 : (Cond.selects RX0 yX0_closeForAnHour yX0_closeForAnHour) ∈ lw_all := List.mem_filter.mpr ⟨List.mem_of_getElem? (i := 425) rfl, rfl⟩
set_option maxRecDepth 100000 in
theorem q_426 : (Cond.code yX0_closeForAnHour prog_2_method_3_code (4 : Nat) (Option.some FieldType.int)) ∈ lw_all := List.mem_filter.mpr ⟨List.mem_of_getElem? (i := 426) rfl, rfl⟩
set_option maxRecDepth 100000 in
theorem q_427 : (Cond.methodLink RX0 (15 : Nat) yX0_measureDistances) ∈ lw_all := List.mem_filter.mpr ⟨List.mem_of_getElem? (i := 427) rfl, rfl⟩
set_option maxRecDepth 100000 in
theorem q_429 : (Cond.instanceMethod yX0_measureDistances) ∈ lw_all := List.mem_filter.mpr ⟨List.mem_of_getElem? (i := 429) rfl, rfl⟩
set_option maxRecDepth 100000 in
theorem q_430 : (Cond.code yX0_measureDistances prog_2_method_5_code (4 : Nat) (Option.none : Option FieldType)) ∈ lw_all := List.mem_filter.mpr ⟨List.mem_of_getElem? (i := 430) rfl, rfl⟩
set_option maxRecDepth 100000 in
theorem q_432 : (Cond.methodLink RX0 (65 : Nat) yX0_comeNearerByAll) ∈ lw_all := List.mem_filter.mpr ⟨List.mem_of_getElem? (i := 432) rfl, rfl⟩
set_option maxRecDepth 100000 in
theorem q_434 : (Cond.instanceMethod yX0_comeNearerByAll) ∈ lw_all := List.mem_filter.mpr ⟨List.mem_of_getElem? (i := 434) rfl, rfl⟩
set_option maxRecDepth 100000 in
theorem q_435 : (Cond.code yX0_comeNearerByAll prog_2_method_6_code (6 : Nat) (Option.some FieldType.boolean)) ∈ lw_all := List.mem_filter.mpr ⟨List.mem_of_getElem? (i := 435) rfl, rfl⟩
set_option maxRecDepth 100000 in
theorem q_436 : (Cond.methodLink RX0 (69 : Nat) yX0_comeNearer) ∈ lw_all := List.mem_filter.mpr ⟨List.mem_of_getElem? (i := 436) rfl, rfl⟩
set_option maxRecDepth 100000 in
theorem q_438 : (Cond.instanceMethod yX0_comeNearer) ∈ lw_all := List.mem_filter.mpr ⟨List.mem_of_getElem? (i := 438) rfl, rfl⟩
set_option maxRecDepth 100000 in
theorem q_439 : (Cond.code yX0_comeNearer prog_2_method_7_code (6 : Nat) (Option.some FieldType.boolean)) ∈ lw_all := List.mem_filter.mpr ⟨List.mem_of_getElem? (i := 439) rfl, rfl⟩
set_option maxRecDepth 100000 in
theorem q_440 : (Cond.methodLink RX0 (73 : Nat) yX4_isUnderRepair) ∈ lw_all := List.mem_filter.mpr ⟨List.mem_of_getElem? (i := 440) rfl, rfl⟩
set_option maxRecDepth 100000 in
theorem q_441 : (Cond.methodLink RX0 (77 : Nat) yX4_goes) ∈ lw_all := List.mem_filter.mpr ⟨List.mem_of_getElem? (i := 441) rfl, rfl⟩
set_option maxRecDepth 100000 in
theorem q_442 : (Cond.methodLink RX0 (38 : Nat) yX4_hallBehind) ∈ lw_all := List.mem_filter.mpr ⟨List.mem_of_getElem? (i := 442) rfl, rfl⟩
set_option maxRecDepth 100000 in
theorem q_443 : (Cond.methodLink RX0 (42 : Nat) yX4_hallAhead) ∈ lw_all := List.mem_filter.mpr ⟨List.mem_of_getElem? (i := 443) rfl, rfl⟩
set_option maxRecDepth 100000 in
theorem q_445 : (Cond.methodLink RX0 (30 : Nat) yX0_leaveThrough) ∈ lw_all := List.mem_filter.mpr ⟨List.mem_of_getElem? (i := 445) rfl, rfl⟩
set_option maxRecDepth 100000 in
theorem q_447 : (Cond.instanceMethod yX0_leaveThrough) ∈ lw_all := List.mem_filter.mpr ⟨List.mem_of_getElem? (i := 447) rfl, rfl⟩
set_option maxRecDepth 100000 in
theorem q_448 : (Cond.code yX0_leaveThrough prog_2_method_4_code (7 : Nat) (Option.some FieldType.int)) ∈ lw_all := List.mem_filter.mpr ⟨List.mem_of_getElem? (i := 448) rfl, rfl⟩
set_option maxRecDepth 100000 in
theorem q_449 : (Cond.methodLink RX0 (48 : Nat) yX4_mostThrough) ∈ lw_all := List.mem_filter.mpr ⟨List.mem_of_getElem? (i := 449) rfl, rfl⟩
set_option maxRecDepth 100000 in
theorem q_450 : (Cond.instanceMethod yX4_mostThrough) ∈ lw_all := List.mem_filter.mpr ⟨List.mem_of_getElem? (i := 450) rfl, rfl⟩
set_option maxRecDepth 100000 in
theorem q_451 : (Cond.selects RX4 yX4_mostThrough yX4_mostThrough) ∈ lw_all := List.mem_filter.mpr ⟨List.mem_of_getElem? (i := 451) rfl, rfl⟩
set_option maxRecDepth 100000 in
theorem q_452 : (Cond.code yX4_mostThrough prog_6_method_10_code (3 : Nat) (Option.some FieldType.int)) ∈ lw_all := List.mem_filter.mpr ⟨List.mem_of_getElem? (i := 452) rfl, rfl⟩
set_option maxRecDepth 100000 in
theorem q_453 : (Cond.methodLink RX0 (51 : Nat) (⟨"java/lang/Math", "min", "(II)I"⟩ : MethodName)) ∈ lw_all := List.mem_filter.mpr ⟨List.mem_of_getElem? (i := 453) rfl, rfl⟩
set_option maxRecDepth 100000 in
theorem q_454 : (Cond.methodLink RX0 (57 : Nat) yX4_letThrough) ∈ lw_all := List.mem_filter.mpr ⟨List.mem_of_getElem? (i := 454) rfl, rfl⟩
set_option maxRecDepth 100000 in
theorem q_455 : (Cond.methodLink RX0 (34 : Nat) yX4_letHourPass) ∈ lw_all := List.mem_filter.mpr ⟨List.mem_of_getElem? (i := 455) rfl, rfl⟩
set_option maxRecDepth 100000 in
theorem q_456 : (Cond.methodLink RX5 (151 : Nat) yX4_peopleOfAllHalls) ∈ lw_all := List.mem_filter.mpr ⟨List.mem_of_getElem? (i := 456) rfl, rfl⟩
set_option maxRecDepth 100000 in
theorem q_457 : (Cond.instanceMethod yX4_peopleOfAllHalls) ∈ lw_all := List.mem_filter.mpr ⟨List.mem_of_getElem? (i := 457) rfl, rfl⟩
set_option maxRecDepth 100000 in
theorem q_458 : (Cond.selects RX4 yX4_peopleOfAllHalls yX4_peopleOfAllHalls) ∈ lw_all := List.mem_filter.mpr ⟨List.mem_of_getElem? (i := 458) rfl, rfl⟩
set_option maxRecDepth 100000 in
theorem q_459 : (Cond.code yX4_peopleOfAllHalls prog_6_method_24_code (1 : Nat) (Option.some FieldType.int)) ∈ lw_all := List.mem_filter.mpr ⟨List.mem_of_getElem? (i := 459) rfl, rfl⟩
set_option maxRecDepth 100000 in
theorem q_460 : (Cond.methodLink RX4 (130 : Nat) yX4_sumOfAllHalls) ∈ lw_all := List.mem_filter.mpr ⟨List.mem_of_getElem? (i := 460) rfl, rfl⟩
set_option maxRecDepth 100000 in
theorem q_461 : (Cond.static yX4_sumOfAllHalls) ∈ lw_all := List.mem_filter.mpr ⟨List.mem_of_getElem? (i := 461) rfl, rfl⟩
set_option maxRecDepth 100000 in
theorem q_462 : (Cond.code yX4_sumOfAllHalls prog_6_method_26_code (3 : Nat) (Option.some FieldType.int)) ∈ lw_all := List.mem_filter.mpr ⟨List.mem_of_getElem? (i := 462) rfl, rfl⟩
set_option maxRecDepth 100000 in
theorem q_463 : (Cond.methodLink RL (53 : Nat) yX5_set) ∈ lw_all := List.mem_filter.mpr ⟨List.mem_of_getElem? (i := 463) rfl, rfl⟩
set_option maxRecDepth 100000 in
theorem q_464 : (Cond.instanceMethod yX5_set) ∈ lw_all := List.mem_filter.mpr ⟨List.mem_of_getElem? (i := 464) rfl, rfl⟩
set_option maxRecDepth 100000 in
theorem q_465 : (Cond.selects RX5 yX5_set yX5_set) ∈ lw_all := List.mem_filter.mpr ⟨List.mem_of_getElem? (i := 465) rfl, rfl⟩
set_option maxRecDepth 100000 in
theorem q_466 : (Cond.code yX5_set prog_1_method_11_code (4 : Nat) (Option.some FieldType.int)) ∈ lw_all := List.mem_filter.mpr ⟨List.mem_of_getElem? (i := 466) rfl, rfl⟩
set_option maxRecDepth 100000 in
theorem q_467 : (Cond.methodLink RL (57 : Nat) yX5_append) ∈ lw_all := List.mem_filter.mpr ⟨List.mem_of_getElem? (i := 467) rfl, rfl⟩
set_option maxRecDepth 100000 in
theorem q_468 : (Cond.instanceMethod yX5_append) ∈ lw_all := List.mem_filter.mpr ⟨List.mem_of_getElem? (i := 468) rfl, rfl⟩
set_option maxRecDepth 100000 in
theorem q_469 : (Cond.selects RX5 yX5_append yX5_append) ∈ lw_all := List.mem_filter.mpr ⟨List.mem_of_getElem? (i := 469) rfl, rfl⟩
set_option maxRecDepth 100000 in
theorem q_470 : (Cond.code yX5_append prog_1_method_12_code (2 : Nat) (Option.some FieldType.int)) ∈ lw_all := List.mem_filter.mpr ⟨List.mem_of_getElem? (i := 470) rfl, rfl⟩
set_option maxRecDepth 100000 in
theorem q_471 : (Cond.methodLink RX5 (164 : Nat) yX3_addCharacter) ∈ lw_all := List.mem_filter.mpr ⟨List.mem_of_getElem? (i := 471) rfl, rfl⟩
set_option maxRecDepth 100000 in
theorem q_472 : (Cond.instanceMethod yX3_addCharacter) ∈ lw_all := List.mem_filter.mpr ⟨List.mem_of_getElem? (i := 472) rfl, rfl⟩
set_option maxRecDepth 100000 in
theorem q_473 : (Cond.selects RX3 yX3_addCharacter yX3_addCharacter) ∈ lw_all := List.mem_filter.mpr ⟨List.mem_of_getElem? (i := 473) rfl, rfl⟩
set_option maxRecDepth 100000 in
theorem q_474 : (Cond.code yX3_addCharacter prog_5_method_2_code (2 : Nat) (Option.none : Option FieldType)) ∈ lw_all := List.mem_filter.mpr ⟨List.mem_of_getElem? (i := 474) rfl, rfl⟩
set_option maxRecDepth 100000 in
theorem q_476 : (Cond.methodLink RL (61 : Nat) yX5_clearText) ∈ lw_all := List.mem_filter.mpr ⟨List.mem_of_getElem? (i := 476) rfl, rfl⟩
set_option maxRecDepth 100000 in
theorem q_477 : (Cond.instanceMethod yX5_clearText) ∈ lw_all := List.mem_filter.mpr ⟨List.mem_of_getElem? (i := 477) rfl, rfl⟩
set_option maxRecDepth 100000 in
theorem q_478 : (Cond.selects RX5 yX5_clearText yX5_clearText) ∈ lw_all := List.mem_filter.mpr ⟨List.mem_of_getElem? (i := 478) rfl, rfl⟩
set_option maxRecDepth 100000 in
theorem q_479 : (Cond.code yX5_clearText prog_1_method_13_code (2 : Nat) (Option.some FieldType.int)) ∈ lw_all := List.mem_filter.mpr ⟨List.mem_of_getElem? (i := 479) rfl, rfl⟩
set_option maxRecDepth 100000 in
theorem q_480 : (Cond.methodLink RL (66 : Nat) yX5_fault) ∈ lw_all := List.mem_filter.mpr ⟨List.mem_of_getElem? (i := 480) rfl, rfl⟩
set_option maxRecDepth 100000 in
theorem q_481 : (Cond.instanceMethod yX5_fault) ∈ lw_all := List.mem_filter.mpr ⟨List.mem_of_getElem? (i := 481) rfl, rfl⟩
set_option maxRecDepth 100000 in
theorem q_482 : (Cond.selects RX5 yX5_fault yX5_fault) ∈ lw_all := List.mem_filter.mpr ⟨List.mem_of_getElem? (i := 482) rfl, rfl⟩
set_option maxRecDepth 100000 in
theorem q_483 : (Cond.code yX5_fault prog_1_method_14_code (1 : Nat) (Option.some FieldType.int)) ∈ lw_all := List.mem_filter.mpr ⟨List.mem_of_getElem? (i := 483) rfl, rfl⟩
set_option maxRecDepth 100000 in
theorem q_484 : (Cond.methodLink RX5 (167 : Nat) yX3_findFault) ∈ lw_all := List.mem_filter.mpr ⟨List.mem_of_getElem? (i := 484) rfl, rfl⟩
set_option maxRecDepth 100000 in
theorem q_485 : (Cond.instanceMethod yX3_findFault) ∈ lw_all := List.mem_filter.mpr ⟨List.mem_of_getElem? (i := 485) rfl, rfl⟩
set_option maxRecDepth 100000 in
theorem q_486 : (Cond.selects RX3 yX3_findFault yX3_findFault) ∈ lw_all := List.mem_filter.mpr ⟨List.mem_of_getElem? (i := 486) rfl, rfl⟩
set_option maxRecDepth 100000 in
theorem q_487 : (Cond.code yX3_findFault prog_5_method_3_code (3 : Nat) (Option.some FieldType.int)) ∈ lw_all := List.mem_filter.mpr ⟨List.mem_of_getElem? (i := 487) rfl, rfl⟩
set_option maxRecDepth 100000 in
theorem q_489 : (Cond.methodLink RX3 (39 : Nat) yX3_whereBehind) ∈ lw_all := List.mem_filter.mpr ⟨List.mem_of_getElem? (i := 489) rfl, rfl⟩
set_option maxRecDepth 100000 in
theorem q_490 : (Cond.static yX3_whereBehind) ∈ lw_all := List.mem_filter.mpr ⟨List.mem_of_getElem? (i := 490) rfl, rfl⟩
set_option maxRecDepth 100000 in
theorem q_491 : (Cond.code yX3_whereBehind prog_5_method_4_code (2 : Nat) (Option.some FieldType.int)) ∈ lw_all := List.mem_filter.mpr ⟨List.mem_of_getElem? (i := 491) rfl, rfl⟩
set_option maxRecDepth 100000 in
theorem q_492 : (Cond.methodLink RX3 (44 : Nat) yX3_isStileLetter) ∈ lw_all := List.mem_filter.mpr ⟨List.mem_of_getElem? (i := 492) rfl, rfl⟩
set_option maxRecDepth 100000 in
theorem q_493 : (Cond.static yX3_isStileLetter) ∈ lw_all := List.mem_filter.mpr ⟨List.mem_of_getElem? (i := 493) rfl, rfl⟩
set_option maxRecDepth 100000 in
theorem q_494 : (Cond.code yX3_isStileLetter prog_5_method_5_code (1 : Nat) (Option.some FieldType.boolean)) ∈ lw_all := List.mem_filter.mpr ⟨List.mem_of_getElem? (i := 494) rfl, rfl⟩
set_option maxRecDepth 100000 in
theorem q_495 : (Cond.methodLink RX3 (48 : Nat) yX3_isWay) ∈ lw_all := List.mem_filter.mpr ⟨List.mem_of_getElem? (i := 495) rfl, rfl⟩
set_option maxRecDepth 100000 in
theorem q_496 : (Cond.static yX3_isWay) ∈ lw_all := List.mem_filter.mpr ⟨List.mem_of_getElem? (i := 496) rfl, rfl⟩
set_option maxRecDepth 100000 in
theorem q_497 : (Cond.code yX3_isWay prog_5_method_6_code (1 : Nat) (Option.some FieldType.boolean)) ∈ lw_all := List.mem_filter.mpr ⟨List.mem_of_getElem? (i := 497) rfl, rfl⟩
set_option maxRecDepth 100000 in
theorem q_498 : (Cond.methodLink RX3 (51 : Nat) yX3_isDigit) ∈ lw_all := List.mem_filter.mpr ⟨List.mem_of_getElem? (i := 498) rfl, rfl⟩
set_option maxRecDepth 100000 in
theorem q_499 : (Cond.static yX3_isDigit) ∈ lw_all := List.mem_filter.mpr ⟨List.mem_of_getElem? (i := 499) rfl, rfl⟩
set_option maxRecDepth 100000 in
theorem q_500 : (Cond.code yX3_isDigit prog_5_method_7_code (1 : Nat) (Option.some FieldType.boolean)) ∈ lw_all := List.mem_filter.mpr ⟨List.mem_of_getElem? (i := 500) rfl, rfl⟩
set_option maxRecDepth 100000 in
theorem q_501 : (Cond.constant RX3 (43 : Nat) (-100005 : Int32)) ∈ lw_all := List.mem_filter.mpr ⟨List.mem_of_getElem? (i := 501) rfl, rfl⟩
set_option maxRecDepth 100000 in
theorem q_502 : (Cond.methodLink RL (70 : Nat) yX5_run) ∈ lw_all := List.mem_filter.mpr ⟨List.mem_of_getElem? (i := 502) rfl, rfl⟩
set_option maxRecDepth 100000 in
theorem q_503 : (Cond.instanceMethod yX5_run) ∈ lw_all := List.mem_filter.mpr ⟨List.mem_of_getElem? (i := 503) rfl, rfl⟩
set_option maxRecDepth 100000 in
theorem q_504 : (Cond.selects RX5 yX5_run yX5_run) ∈ lw_all := List.mem_filter.mpr ⟨List.mem_of_getElem? (i := 504) rfl, rfl⟩
set_option maxRecDepth 100000 in
theorem q_505 : (Cond.code yX5_run prog_1_method_15_code (3 : Nat) (Option.some FieldType.int)) ∈ lw_all := List.mem_filter.mpr ⟨List.mem_of_getElem? (i := 505) rfl, rfl⟩
set_option maxRecDepth 100000 in
theorem q_506 : (Cond.constant RX5 (170 : Nat) (-100005 : Int32)) ∈ lw_all := List.mem_filter.mpr ⟨List.mem_of_getElem? (i := 506) rfl, rfl⟩
set_option maxRecDepth 100000 in
theorem q_507 : (Cond.methodLink RX5 (171 : Nat) yX3_goToBegin) ∈ lw_all := List.mem_filter.mpr ⟨List.mem_of_getElem? (i := 507) rfl, rfl⟩
set_option maxRecDepth 100000 in
theorem q_508 : (Cond.instanceMethod yX3_goToBegin) ∈ lw_all := List.mem_filter.mpr ⟨List.mem_of_getElem? (i := 508) rfl, rfl⟩
set_option maxRecDepth 100000 in
theorem q_509 : (Cond.selects RX3 yX3_goToBegin yX3_goToBegin) ∈ lw_all := List.mem_filter.mpr ⟨List.mem_of_getElem? (i := 509) rfl, rfl⟩
set_option maxRecDepth 100000 in
theorem q_510 : (Cond.code yX3_goToBegin prog_5_method_8_code (1 : Nat) (Option.none : Option FieldType)) ∈ lw_all := List.mem_filter.mpr ⟨List.mem_of_getElem? (i := 510) rfl, rfl⟩
set_option maxRecDepth 100000 in
theorem q_511 : (Cond.methodLink RX5 (174 : Nat) yX3_readOrder) ∈ lw_all := List.mem_filter.mpr ⟨List.mem_of_getElem? (i := 511) rfl, rfl⟩
set_option maxRecDepth 100000 in
theorem q_512 : (Cond.instanceMethod yX3_readOrder) ∈ lw_all := List.mem_filter.mpr ⟨List.mem_of_getElem? (i := 512) rfl, rfl⟩
set_option maxRecDepth 100000 in
theorem q_513 : (Cond.selects RX3 yX3_readOrder yX3_readOrder) ∈ lw_all := List.mem_filter.mpr ⟨List.mem_of_getElem? (i := 513) rfl, rfl⟩
set_option maxRecDepth 100000 in
theorem q_514 : (Cond.code yX3_readOrder prog_5_method_9_code (1 : Nat) (Option.some FieldType.boolean)) ∈ lw_all := List.mem_filter.mpr ⟨List.mem_of_getElem? (i := 514) rfl, rfl⟩
set_option maxRecDepth 100000 in
theorem q_515 : (Cond.methodLink RX3 (54 : Nat) yX3_readCharacter) ∈ lw_all := List.mem_filter.mpr ⟨List.mem_of_getElem? (i := 515) rfl, rfl⟩
set_option maxRecDepth 100000 in
theorem q_517 : (Cond.instanceMethod yX3_readCharacter) ∈ lw_all := List.mem_filter.mpr ⟨List.mem_of_getElem? (i := 517) rfl, rfl⟩
set_option maxRecDepth 100000 in
theorem q_518 : (Cond.code yX3_readCharacter prog_5_method_10_code (2 : Nat) (Option.some FieldType.int)) ∈ lw_all := List.mem_filter.mpr ⟨List.mem_of_getElem? (i := 518) rfl, rfl⟩
set_option maxRecDepth 100000 in
theorem q_519 : (Cond.methodLink RX3 (61 : Nat) yX3_nextCharacter) ∈ lw_all := List.mem_filter.mpr ⟨List.mem_of_getElem? (i := 519) rfl, rfl⟩
set_option maxRecDepth 100000 in
theorem q_521 : (Cond.instanceMethod yX3_nextCharacter) ∈ lw_all := List.mem_filter.mpr ⟨List.mem_of_getElem? (i := 521) rfl, rfl⟩
set_option maxRecDepth 100000 in
theorem q_522 : (Cond.code yX3_nextCharacter prog_5_method_11_code (1 : Nat) (Option.some FieldType.int)) ∈ lw_all := List.mem_filter.mpr ⟨List.mem_of_getElem? (i := 522) rfl, rfl⟩
set_option maxRecDepth 100000 in
theorem q_523 : (Cond.methodLink RX3 (58 : Nat) yX3_readNumber) ∈ lw_all := List.mem_filter.mpr ⟨List.mem_of_getElem? (i := 523) rfl, rfl⟩
set_option maxRecDepth 100000 in
theorem q_525 : (Cond.instanceMethod yX3_readNumber) ∈ lw_all := List.mem_filter.mpr ⟨List.mem_of_getElem? (i := 525) rfl, rfl⟩
set_option maxRecDepth 100000 in
theorem q_526 : (Cond.code yX3_readNumber prog_5_method_12_code (3 : Nat) (Option.some FieldType.int)) ∈ lw_all := List.mem_filter.mpr ⟨List.mem_of_getElem? (i := 526) rfl, rfl⟩
set_option maxRecDepth 100000 in
theorem q_527 : (Cond.methodLink RX5 (178 : Nat) yX5_carryOutOrder) ∈ lw_all := List.mem_filter.mpr ⟨List.mem_of_getElem? (i := 527) rfl, rfl⟩
set_option maxRecDepth 100000 in
theorem q_529 : (Cond.instanceMethod yX5_carryOutOrder) ∈ lw_all := List.mem_filter.mpr ⟨List.mem_of_getElem? (i := 529) rfl, rfl⟩
set_option maxRecDepth 100000 in
theorem q_530 : (Cond.code yX5_carryOutOrder prog_1_method_31_code (1 : Nat) (Option.some FieldType.boolean)) ∈ lw_all := List.mem_filter.mpr ⟨List.mem_of_getElem? (i := 530) rfl, rfl⟩
set_option maxRecDepth 100000 in
theorem q_531 : (Cond.methodLink RX5 (252 : Nat) yX5_carryOutPass) ∈ lw_all := List.mem_filter.mpr ⟨List.mem_of_getElem? (i := 531) rfl, rfl⟩
set_option maxRecDepth 100000 in
theorem q_533 : (Cond.instanceMethod yX5_carryOutPass) ∈ lw_all := List.mem_filter.mpr ⟨List.mem_of_getElem? (i := 533) rfl, rfl⟩
set_option maxRecDepth 100000 in
theorem q_534 : (Cond.code yX5_carryOutPass prog_1_method_32_code (2 : Nat) (Option.some FieldType.boolean)) ∈ lw_all := List.mem_filter.mpr ⟨List.mem_of_getElem? (i := 534) rfl, rfl⟩
set_option maxRecDepth 100000 in
theorem q_535 : (Cond.methodLink RX5 (256 : Nat) yX5_carryOutAudit) ∈ lw_all := List.mem_filter.mpr ⟨List.mem_of_getElem? (i := 535) rfl, rfl⟩
set_option maxRecDepth 100000 in
theorem q_537 : (Cond.instanceMethod yX5_carryOutAudit) ∈ lw_all := List.mem_filter.mpr ⟨List.mem_of_getElem? (i := 537) rfl, rfl⟩
set_option maxRecDepth 100000 in
theorem q_538 : (Cond.code yX5_carryOutAudit prog_1_method_33_code (1 : Nat) (Option.some FieldType.boolean)) ∈ lw_all := List.mem_filter.mpr ⟨List.mem_of_getElem? (i := 538) rfl, rfl⟩
set_option maxRecDepth 100000 in
theorem q_539 : (Cond.methodLink RX5 (259 : Nat) yX5_carryOutRepair) ∈ lw_all := List.mem_filter.mpr ⟨List.mem_of_getElem? (i := 539) rfl, rfl⟩
set_option maxRecDepth 100000 in
theorem q_541 : (Cond.instanceMethod yX5_carryOutRepair) ∈ lw_all := List.mem_filter.mpr ⟨List.mem_of_getElem? (i := 541) rfl, rfl⟩
set_option maxRecDepth 100000 in
theorem q_542 : (Cond.code yX5_carryOutRepair prog_1_method_34_code (1 : Nat) (Option.some FieldType.boolean)) ∈ lw_all := List.mem_filter.mpr ⟨List.mem_of_getElem? (i := 542) rfl, rfl⟩
set_option maxRecDepth 100000 in
theorem q_543 : (Cond.methodLink RL (74 : Nat) yX5_undo) ∈ lw_all := List.mem_filter.mpr ⟨List.mem_of_getElem? (i := 543) rfl, rfl⟩
set_option maxRecDepth 100000 in
theorem q_544 : (Cond.instanceMethod yX5_undo) ∈ lw_all := List.mem_filter.mpr ⟨List.mem_of_getElem? (i := 544) rfl, rfl⟩
set_option maxRecDepth 100000 in
theorem q_545 : (Cond.selects RX5 yX5_undo yX5_undo) ∈ lw_all := List.mem_filter.mpr ⟨List.mem_of_getElem? (i := 545) rfl, rfl⟩
set_option maxRecDepth 100000 in
theorem q_546 : (Cond.code yX5_undo prog_1_method_16_code (1 : Nat) (Option.some FieldType.int)) ∈ lw_all := List.mem_filter.mpr ⟨List.mem_of_getElem? (i := 546) rfl, rfl⟩
set_option maxRecDepth 100000 in
theorem q_547 : (Cond.methodLink RX5 (184 : Nat) yX2_takeLatest) ∈ lw_all := List.mem_filter.mpr ⟨List.mem_of_getElem? (i := 547) rfl, rfl⟩
set_option maxRecDepth 100000 in
theorem q_548 : (Cond.instanceMethod yX2_takeLatest) ∈ lw_all := List.mem_filter.mpr ⟨List.mem_of_getElem? (i := 548) rfl, rfl⟩
set_option maxRecDepth 100000 in
theorem q_549 : (Cond.selects RX2 yX2_takeLatest yX2_takeLatest) ∈ lw_all := List.mem_filter.mpr ⟨List.mem_of_getElem? (i := 549) rfl, rfl⟩
set_option maxRecDepth 100000 in
theorem q_550 : (Cond.code yX2_takeLatest prog_4_method_3_code (3 : Nat) (Option.none : Option FieldType)) ∈ lw_all := List.mem_filter.mpr ⟨List.mem_of_getElem? (i := 550) rfl, rfl⟩
set_option maxRecDepth 100000 in
theorem q_551 : (Cond.methodLink RL (78 : Nat) yX5_save) ∈ lw_all := List.mem_filter.mpr ⟨List.mem_of_getElem? (i := 551) rfl, rfl⟩
set_option maxRecDepth 100000 in
theorem q_552 : (Cond.instanceMethod yX5_save) ∈ lw_all := List.mem_filter.mpr ⟨List.mem_of_getElem? (i := 552) rfl, rfl⟩
set_option maxRecDepth 100000 in
theorem q_553 : (Cond.selects RX5 yX5_save yX5_save) ∈ lw_all := List.mem_filter.mpr ⟨List.mem_of_getElem? (i := 553) rfl, rfl⟩
set_option maxRecDepth 100000 in
theorem q_554 : (Cond.code yX5_save prog_1_method_17_code (1 : Nat) (Option.some FieldType.int)) ∈ lw_all := List.mem_filter.mpr ⟨List.mem_of_getElem? (i := 554) rfl, rfl⟩
set_option maxRecDepth 100000 in
theorem q_555 : (Cond.methodLink RX5 (187 : Nat) yX4_copyFrom) ∈ lw_all := List.mem_filter.mpr ⟨List.mem_of_getElem? (i := 555) rfl, rfl⟩
set_option maxRecDepth 100000 in
theorem q_556 : (Cond.methodLink RL (82 : Nat) yX5_restore) ∈ lw_all := List.mem_filter.mpr ⟨List.mem_of_getElem? (i := 556) rfl, rfl⟩
set_option maxRecDepth 100000 in
theorem q_557 : (Cond.instanceMethod yX5_restore) ∈ lw_all := List.mem_filter.mpr ⟨List.mem_of_getElem? (i := 557) rfl, rfl⟩
set_option maxRecDepth 100000 in
theorem q_558 : (Cond.selects RX5 yX5_restore yX5_restore) ∈ lw_all := List.mem_filter.mpr ⟨List.mem_of_getElem? (i := 558) rfl, rfl⟩
set_option maxRecDepth 100000 in
theorem q_559 : (Cond.code yX5_restore prog_1_method_18_code (1 : Nat) (Option.some FieldType.int)) ∈ lw_all := List.mem_filter.mpr ⟨List.mem_of_getElem? (i := 559) rfl, rfl⟩
set_option maxRecDepth 100000 in
theorem q_560 : (Cond.methodLink RL (86 : Nat) yX5_hall) ∈ lw_all := List.mem_filter.mpr ⟨List.mem_of_getElem? (i := 560) rfl, rfl⟩
set_option maxRecDepth 100000 in
theorem q_561 : (Cond.instanceMethod yX5_hall) ∈ lw_all := List.mem_filter.mpr ⟨List.mem_of_getElem? (i := 561) rfl, rfl⟩
set_option maxRecDepth 100000 in
theorem q_562 : (Cond.selects RX5 yX5_hall yX5_hall) ∈ lw_all := List.mem_filter.mpr ⟨List.mem_of_getElem? (i := 562) rfl, rfl⟩
set_option maxRecDepth 100000 in
theorem q_563 : (Cond.code yX5_hall prog_1_method_19_code (3 : Nat) (Option.some FieldType.int)) ∈ lw_all := List.mem_filter.mpr ⟨List.mem_of_getElem? (i := 563) rfl, rfl⟩
set_option maxRecDepth 100000 in
theorem q_564 : (Cond.methodLink RX5 (190 : Nat) yX4_toldByOwnSides) ∈ lw_all := List.mem_filter.mpr ⟨List.mem_of_getElem? (i := 564) rfl, rfl⟩
set_option maxRecDepth 100000 in
theorem q_565 : (Cond.instanceMethod yX4_toldByOwnSides) ∈ lw_all := List.mem_filter.mpr ⟨List.mem_of_getElem? (i := 565) rfl, rfl⟩
set_option maxRecDepth 100000 in
theorem q_566 : (Cond.selects RX4 yX4_toldByOwnSides yX4_toldByOwnSides) ∈ lw_all := List.mem_filter.mpr ⟨List.mem_of_getElem? (i := 566) rfl, rfl⟩
set_option maxRecDepth 100000 in
theorem q_567 : (Cond.code yX4_toldByOwnSides prog_6_method_18_code (4 : Nat) (Option.some FieldType.int)) ∈ lw_all := List.mem_filter.mpr ⟨List.mem_of_getElem? (i := 567) rfl, rfl⟩
set_option maxRecDepth 100000 in
theorem q_568 : (Cond.methodLink RX4 (115 : Nat) yX4_toldByFirstSide) ∈ lw_all := List.mem_filter.mpr ⟨List.mem_of_getElem? (i := 568) rfl, rfl⟩
set_option maxRecDepth 100000 in
theorem q_570 : (Cond.instanceMethod yX4_toldByFirstSide) ∈ lw_all := List.mem_filter.mpr ⟨List.mem_of_getElem? (i := 570) rfl, rfl⟩
set_option maxRecDepth 100000 in
theorem q_571 : (Cond.code yX4_toldByFirstSide prog_6_method_20_code (2 : Nat) (Option.some FieldType.int)) ∈ lw_all := List.mem_filter.mpr ⟨List.mem_of_getElem? (i := 571) rfl, rfl⟩
set_option maxRecDepth 100000 in
theorem q_572 : (Cond.methodLink RX4 (121 : Nat) yX1_countOf) ∈ lw_all := List.mem_filter.mpr ⟨List.mem_of_getElem? (i := 572) rfl, rfl⟩
set_option maxRecDepth 100000 in
theorem q_573 : (Cond.methodLink RX4 (118 : Nat) yX4_toldBySecondSide) ∈ lw_all := List.mem_filter.mpr ⟨List.mem_of_getElem? (i := 573) rfl, rfl⟩
set_option maxRecDepth 100000 in
theorem q_575 : (Cond.instanceMethod yX4_toldBySecondSide) ∈ lw_all := List.mem_filter.mpr ⟨List.mem_of_getElem? (i := 575) rfl, rfl⟩
set_option maxRecDepth 100000 in
theorem q_576 : (Cond.code yX4_toldBySecondSide prog_6_method_21_code (2 : Nat) (Option.some FieldType.int)) ∈ lw_all := List.mem_filter.mpr ⟨List.mem_of_getElem? (i := 576) rfl, rfl⟩
set_option maxRecDepth 100000 in
theorem q_577 : (Cond.methodLink RX5 (193 : Nat) yX4_toldByFarSides) ∈ lw_all := List.mem_filter.mpr ⟨List.mem_of_getElem? (i := 577) rfl, rfl⟩
set_option maxRecDepth 100000 in
theorem q_578 : (Cond.instanceMethod yX4_toldByFarSides) ∈ lw_all := List.mem_filter.mpr ⟨List.mem_of_getElem? (i := 578) rfl, rfl⟩
set_option maxRecDepth 100000 in
theorem q_579 : (Cond.selects RX4 yX4_toldByFarSides yX4_toldByFarSides) ∈ lw_all := List.mem_filter.mpr ⟨List.mem_of_getElem? (i := 579) rfl, rfl⟩
set_option maxRecDepth 100000 in
theorem q_580 : (Cond.code yX4_toldByFarSides prog_6_method_19_code (4 : Nat) (Option.some FieldType.int)) ∈ lw_all := List.mem_filter.mpr ⟨List.mem_of_getElem? (i := 580) rfl, rfl⟩
set_option maxRecDepth 100000 in
theorem q_581 : (Cond.methodLink RX5 (196 : Nat) yX0_distanceOrNone) ∈ lw_all := List.mem_filter.mpr ⟨List.mem_of_getElem? (i := 581) rfl, rfl⟩
set_option maxRecDepth 100000 in
theorem q_582 : (Cond.instanceMethod yX0_distanceOrNone) ∈ lw_all := List.mem_filter.mpr ⟨List.mem_of_getElem? (i := 582) rfl, rfl⟩
set_option maxRecDepth 100000 in
theorem q_583 : (Cond.selects RX0 yX0_distanceOrNone yX0_distanceOrNone) ∈ lw_all := List.mem_filter.mpr ⟨List.mem_of_getElem? (i := 583) rfl, rfl⟩
set_option maxRecDepth 100000 in
theorem q_584 : (Cond.code yX0_distanceOrNone prog_2_method_2_code (4 : Nat) (Option.some FieldType.int)) ∈ lw_all := List.mem_filter.mpr ⟨List.mem_of_getElem? (i := 584) rfl, rfl⟩
set_option maxRecDepth 100000 in
theorem q_585 : (Cond.constant RX0 (23 : Nat) (-100005 : Int32)) ∈ lw_all := List.mem_filter.mpr ⟨List.mem_of_getElem? (i := 585) rfl, rfl⟩
set_option maxRecDepth 100000 in
theorem q_586 : (Cond.methodLink RX5 (200 : Nat) yX4_stilesOfHall) ∈ lw_all := List.mem_filter.mpr ⟨List.mem_of_getElem? (i := 586) rfl, rfl⟩
set_option maxRecDepth 100000 in
theorem q_587 : (Cond.instanceMethod yX4_stilesOfHall) ∈ lw_all := List.mem_filter.mpr ⟨List.mem_of_getElem? (i := 587) rfl, rfl⟩
set_option maxRecDepth 100000 in
theorem q_588 : (Cond.selects RX4 yX4_stilesOfHall yX4_stilesOfHall) ∈ lw_all := List.mem_filter.mpr ⟨List.mem_of_getElem? (i := 588) rfl, rfl⟩
set_option maxRecDepth 100000 in
theorem q_589 : (Cond.code yX4_stilesOfHall prog_6_method_28_code (4 : Nat) (Option.some FieldType.int)) ∈ lw_all := List.mem_filter.mpr ⟨List.mem_of_getElem? (i := 589) rfl, rfl⟩
set_option maxRecDepth 100000 in
theorem q_590 : (Cond.methodLink RL (90 : Nat) yX5_stileOf) ∈ lw_all := List.mem_filter.mpr ⟨List.mem_of_getElem? (i := 590) rfl, rfl⟩
set_option maxRecDepth 100000 in
theorem q_591 : (Cond.instanceMethod yX5_stileOf) ∈ lw_all := List.mem_filter.mpr ⟨List.mem_of_getElem? (i := 591) rfl, rfl⟩
set_option maxRecDepth 100000 in
theorem q_592 : (Cond.selects RX5 yX5_stileOf yX5_stileOf) ∈ lw_all := List.mem_filter.mpr ⟨List.mem_of_getElem? (i := 592) rfl, rfl⟩
set_option maxRecDepth 100000 in
theorem q_593 : (Cond.code yX5_stileOf prog_1_method_20_code (3 : Nat) (Option.some FieldType.int)) ∈ lw_all := List.mem_filter.mpr ⟨List.mem_of_getElem? (i := 593) rfl, rfl⟩
set_option maxRecDepth 100000 in
theorem q_594 : (Cond.methodLink RL (94 : Nat) yX5_counter) ∈ lw_all := List.mem_filter.mpr ⟨List.mem_of_getElem? (i := 594) rfl, rfl⟩
set_option maxRecDepth 100000 in
theorem q_595 : (Cond.instanceMethod yX5_counter) ∈ lw_all := List.mem_filter.mpr ⟨List.mem_of_getElem? (i := 595) rfl, rfl⟩
set_option maxRecDepth 100000 in
theorem q_596 : (Cond.selects RX5 yX5_counter yX5_counter) ∈ lw_all := List.mem_filter.mpr ⟨List.mem_of_getElem? (i := 596) rfl, rfl⟩
set_option maxRecDepth 100000 in
theorem q_597 : (Cond.code yX5_counter prog_1_method_21_code (5 : Nat) (Option.some FieldType.int)) ∈ lw_all := List.mem_filter.mpr ⟨List.mem_of_getElem? (i := 597) rfl, rfl⟩
set_option maxRecDepth 100000 in
theorem q_598 : (Cond.methodLink RL (98 : Nat) yX5_reason) ∈ lw_all := List.mem_filter.mpr ⟨List.mem_of_getElem? (i := 598) rfl, rfl⟩
set_option maxRecDepth 100000 in
theorem q_599 : (Cond.instanceMethod yX5_reason) ∈ lw_all := List.mem_filter.mpr ⟨List.mem_of_getElem? (i := 599) rfl, rfl⟩
set_option maxRecDepth 100000 in
theorem q_600 : (Cond.selects RX5 yX5_reason yX5_reason) ∈ lw_all := List.mem_filter.mpr ⟨List.mem_of_getElem? (i := 600) rfl, rfl⟩
set_option maxRecDepth 100000 in
theorem q_601 : (Cond.code yX5_reason prog_1_method_22_code (4 : Nat) (Option.some FieldType.int)) ∈ lw_all := List.mem_filter.mpr ⟨List.mem_of_getElem? (i := 601) rfl, rfl⟩
set_option maxRecDepth 100000 in
theorem q_602 : (Cond.methodLink RL (102 : Nat) yX5_worst) ∈ lw_all := List.mem_filter.mpr ⟨List.mem_of_getElem? (i := 602) rfl, rfl⟩
set_option maxRecDepth 100000 in
theorem q_603 : (Cond.instanceMethod yX5_worst) ∈ lw_all := List.mem_filter.mpr ⟨List.mem_of_getElem? (i := 603) rfl, rfl⟩
set_option maxRecDepth 100000 in
theorem q_604 : (Cond.selects RX5 yX5_worst yX5_worst) ∈ lw_all := List.mem_filter.mpr ⟨List.mem_of_getElem? (i := 604) rfl, rfl⟩
set_option maxRecDepth 100000 in
theorem q_605 : (Cond.code yX5_worst prog_1_method_23_code (3 : Nat) (Option.some FieldType.int)) ∈ lw_all := List.mem_filter.mpr ⟨List.mem_of_getElem? (i := 605) rfl, rfl⟩
set_option maxRecDepth 100000 in
theorem q_606 : (Cond.methodLink RX5 (221 : Nat) yX4_worseStiles) ∈ lw_all := List.mem_filter.mpr ⟨List.mem_of_getElem? (i := 606) rfl, rfl⟩
set_option maxRecDepth 100000 in
theorem q_607 : (Cond.instanceMethod yX4_worseStiles) ∈ lw_all := List.mem_filter.mpr ⟨List.mem_of_getElem? (i := 607) rfl, rfl⟩
set_option maxRecDepth 100000 in
theorem q_608 : (Cond.selects RX4 yX4_worseStiles yX4_worseStiles) ∈ lw_all := List.mem_filter.mpr ⟨List.mem_of_getElem? (i := 608) rfl, rfl⟩
set_option maxRecDepth 100000 in
theorem q_609 : (Cond.code yX4_worseStiles prog_6_method_31_code (6 : Nat) (Option.some FieldType.int)) ∈ lw_all := List.mem_filter.mpr ⟨List.mem_of_getElem? (i := 609) rfl, rfl⟩
set_option maxRecDepth 100000 in
theorem q_610 : (Cond.methodLink RX4 (134 : Nat) yX1_gapOf) ∈ lw_all := List.mem_filter.mpr ⟨List.mem_of_getElem? (i := 610) rfl, rfl⟩
set_option maxRecDepth 100000 in
theorem q_611 : (Cond.methodLink RL (106 : Nat) yX5_count) ∈ lw_all := List.mem_filter.mpr ⟨List.mem_of_getElem? (i := 611) rfl, rfl⟩
set_option maxRecDepth 100000 in
theorem q_612 : (Cond.instanceMethod yX5_count) ∈ lw_all := List.mem_filter.mpr ⟨List.mem_of_getElem? (i := 612) rfl, rfl⟩
set_option maxRecDepth 100000 in
theorem q_613 : (Cond.selects RX5 yX5_count yX5_count) ∈ lw_all := List.mem_filter.mpr ⟨List.mem_of_getElem? (i := 613) rfl, rfl⟩
set_option maxRecDepth 100000 in
theorem q_614 : (Cond.code yX5_count prog_1_method_24_code (2 : Nat) (Option.some FieldType.int)) ∈ lw_all := List.mem_filter.mpr ⟨List.mem_of_getElem? (i := 614) rfl, rfl⟩
set_option maxRecDepth 100000 in
theorem q_615 : (Cond.methodLink RX5 (224 : Nat) yX4_stilesUnderRepair) ∈ lw_all := List.mem_filter.mpr ⟨List.mem_of_getElem? (i := 615) rfl, rfl⟩
set_option maxRecDepth 100000 in
theorem q_616 : (Cond.instanceMethod yX4_stilesUnderRepair) ∈ lw_all := List.mem_filter.mpr ⟨List.mem_of_getElem? (i := 616) rfl, rfl⟩
set_option maxRecDepth 100000 in
theorem q_617 : (Cond.selects RX4 yX4_stilesUnderRepair yX4_stilesUnderRepair) ∈ lw_all := List.mem_filter.mpr ⟨List.mem_of_getElem? (i := 617) rfl, rfl⟩
set_option maxRecDepth 100000 in
theorem q_618 : (Cond.code yX4_stilesUnderRepair prog_6_method_29_code (3 : Nat) (Option.some FieldType.int)) ∈ lw_all := List.mem_filter.mpr ⟨List.mem_of_getElem? (i := 618) rfl, rfl⟩
set_option maxRecDepth 100000 in
theorem q_619 : (Cond.methodLink RX5 (227 : Nat) yX4_toldByAllOwnSides) ∈ lw_all := List.mem_filter.mpr ⟨List.mem_of_getElem? (i := 619) rfl, rfl⟩
set_option maxRecDepth 100000 in
theorem q_620 : (Cond.instanceMethod yX4_toldByAllOwnSides) ∈ lw_all := List.mem_filter.mpr ⟨List.mem_of_getElem? (i := 620) rfl, rfl⟩
set_option maxRecDepth 100000 in
theorem q_621 : (Cond.selects RX4 yX4_toldByAllOwnSides yX4_toldByAllOwnSides) ∈ lw_all := List.mem_filter.mpr ⟨List.mem_of_getElem? (i := 621) rfl, rfl⟩
set_option maxRecDepth 100000 in
theorem q_622 : (Cond.code yX4_toldByAllOwnSides prog_6_method_22_code (3 : Nat) (Option.some FieldType.int)) ∈ lw_all := List.mem_filter.mpr ⟨List.mem_of_getElem? (i := 622) rfl, rfl⟩
set_option maxRecDepth 100000 in
theorem q_623 : (Cond.methodLink RX4 (124 : Nat) yX4_toldByOwnSides) ∈ lw_all := List.mem_filter.mpr ⟨List.mem_of_getElem? (i := 623) rfl, rfl⟩
set_option maxRecDepth 100000 in
theorem q_624 : (Cond.methodLink RX5 (230 : Nat) yX4_toldByAllFarSides) ∈ lw_all := List.mem_filter.mpr ⟨List.mem_of_getElem? (i := 624) rfl, rfl⟩
set_option maxRecDepth 100000 in
theorem q_625 : (Cond.instanceMethod yX4_toldByAllFarSides) ∈ lw_all := List.mem_filter.mpr ⟨List.mem_of_getElem? (i := 625) rfl, rfl⟩
set_option maxRecDepth 100000 in
theorem q_626 : (Cond.selects RX4 yX4_toldByAllFarSides yX4_toldByAllFarSides) ∈ lw_all := List.mem_filter.mpr ⟨List.mem_of_getElem? (i := 626) rfl, rfl⟩
set_option maxRecDepth 100000 in
theorem q_627 : (Cond.code yX4_toldByAllFarSides prog_6_method_23_code (3 : Nat) (Option.some FieldType.int)) ∈ lw_all := List.mem_filter.mpr ⟨List.mem_of_getElem? (i := 627) rfl, rfl⟩
set_option maxRecDepth 100000 in
theorem q_628 : (Cond.methodLink RX4 (127 : Nat) yX4_toldByFarSides) ∈ lw_all := List.mem_filter.mpr ⟨List.mem_of_getElem? (i := 628) rfl, rfl⟩
set_option maxRecDepth 100000 in
theorem q_629 : (Cond.methodLink RX5 (233 : Nat) yX4_sumOfGaps) ∈ lw_all := List.mem_filter.mpr ⟨List.mem_of_getElem? (i := 629) rfl, rfl⟩
set_option maxRecDepth 100000 in
theorem q_630 : (Cond.instanceMethod yX4_sumOfGaps) ∈ lw_all := List.mem_filter.mpr ⟨List.mem_of_getElem? (i := 630) rfl, rfl⟩
set_option maxRecDepth 100000 in
theorem q_631 : (Cond.selects RX4 yX4_sumOfGaps yX4_sumOfGaps) ∈ lw_all := List.mem_filter.mpr ⟨List.mem_of_getElem? (i := 631) rfl, rfl⟩
set_option maxRecDepth 100000 in
theorem q_632 : (Cond.code yX4_sumOfGaps prog_6_method_30_code (3 : Nat) (Option.some FieldType.int)) ∈ lw_all := List.mem_filter.mpr ⟨List.mem_of_getElem? (i := 632) rfl, rfl⟩
set_option maxRecDepth 100000 in
theorem q_633 : (Cond.methodLink RX5 (236 : Nat) yX1_withSlip) ∈ lw_all := List.mem_filter.mpr ⟨List.mem_of_getElem? (i := 633) rfl, rfl⟩
set_option maxRecDepth 100000 in
theorem q_634 : (Cond.instanceMethod yX1_withSlip) ∈ lw_all := List.mem_filter.mpr ⟨List.mem_of_getElem? (i := 634) rfl, rfl⟩
set_option maxRecDepth 100000 in
theorem q_635 : (Cond.selects RX1 yX1_withSlip yX1_withSlip) ∈ lw_all := List.mem_filter.mpr ⟨List.mem_of_getElem? (i := 635) rfl, rfl⟩
set_option maxRecDepth 100000 in
theorem q_636 : (Cond.code yX1_withSlip prog_3_method_10_code (3 : Nat) (Option.some FieldType.int)) ∈ lw_all := List.mem_filter.mpr ⟨List.mem_of_getElem? (i := 636) rfl, rfl⟩
set_option maxRecDepth 100000 in
theorem q_637 : (Cond.methodLink RX5 (239 : Nat) yX4_fullestHall) ∈ lw_all := List.mem_filter.mpr ⟨List.mem_of_getElem? (i := 637) rfl, rfl⟩
set_option maxRecDepth 100000 in
theorem q_638 : (Cond.instanceMethod yX4_fullestHall) ∈ lw_all := List.mem_filter.mpr ⟨List.mem_of_getElem? (i := 638) rfl, rfl⟩
set_option maxRecDepth 100000 in
theorem q_639 : (Cond.selects RX4 yX4_fullestHall yX4_fullestHall) ∈ lw_all := List.mem_filter.mpr ⟨List.mem_of_getElem? (i := 639) rfl, rfl⟩
set_option maxRecDepth 100000 in
theorem q_640 : (Cond.code yX4_fullestHall prog_6_method_27_code (4 : Nat) (Option.some FieldType.int)) ∈ lw_all := List.mem_filter.mpr ⟨List.mem_of_getElem? (i := 640) rfl, rfl⟩
set_option maxRecDepth 100000 in
theorem q_641 : (Cond.methodLink RL (110 : Nat) yX5_most) ∈ lw_all := List.mem_filter.mpr ⟨List.mem_of_getElem? (i := 641) rfl, rfl⟩
set_option maxRecDepth 100000 in
theorem q_642 : (Cond.instanceMethod yX5_most) ∈ lw_all := List.mem_filter.mpr ⟨List.mem_of_getElem? (i := 642) rfl, rfl⟩
set_option maxRecDepth 100000 in
theorem q_643 : (Cond.selects RX5 yX5_most yX5_most) ∈ lw_all := List.mem_filter.mpr ⟨List.mem_of_getElem? (i := 643) rfl, rfl⟩
set_option maxRecDepth 100000 in
theorem q_644 : (Cond.code yX5_most prog_1_method_25_code (3 : Nat) (Option.some FieldType.int)) ∈ lw_all := List.mem_filter.mpr ⟨List.mem_of_getElem? (i := 644) rfl, rfl⟩
set_option maxRecDepth 100000 in
theorem q_645 : (Cond.methodLink RX5 (242 : Nat) yX4_mostThrough) ∈ lw_all := List.mem_filter.mpr ⟨List.mem_of_getElem? (i := 645) rfl, rfl⟩
set_option maxRecDepth 100000 in
theorem q_646 : (Cond.methodLink RL (115 : Nat) yX5_emptyIn) ∈ lw_all := List.mem_filter.mpr ⟨List.mem_of_getElem? (i := 646) rfl, rfl⟩
set_option maxRecDepth 100000 in
theorem q_647 : (Cond.instanceMethod yX5_emptyIn) ∈ lw_all := List.mem_filter.mpr ⟨List.mem_of_getElem? (i := 647) rfl, rfl⟩
set_option maxRecDepth 100000 in
theorem q_648 : (Cond.selects RX5 yX5_emptyIn yX5_emptyIn) ∈ lw_all := List.mem_filter.mpr ⟨List.mem_of_getElem? (i := 648) rfl, rfl⟩
set_option maxRecDepth 100000 in
theorem q_649 : (Cond.code yX5_emptyIn prog_1_method_26_code (3 : Nat) (Option.some FieldType.int)) ∈ lw_all := List.mem_filter.mpr ⟨List.mem_of_getElem? (i := 649) rfl, rfl⟩
set_option maxRecDepth 100000 in
theorem q_650 : (Cond.methodLink RL (119 : Nat) yX5_leftWithout) ∈ lw_all := List.mem_filter.mpr ⟨List.mem_of_getElem? (i := 650) rfl, rfl⟩
set_option maxRecDepth 100000 in
theorem q_651 : (Cond.instanceMethod yX5_leftWithout) ∈ lw_all := List.mem_filter.mpr ⟨List.mem_of_getElem? (i := 651) rfl, rfl⟩
set_option maxRecDepth 100000 in
theorem q_652 : (Cond.selects RX5 yX5_leftWithout yX5_leftWithout) ∈ lw_all := List.mem_filter.mpr ⟨List.mem_of_getElem? (i := 652) rfl, rfl⟩
set_option maxRecDepth 100000 in
theorem q_653 : (Cond.code yX5_leftWithout prog_1_method_27_code (4 : Nat) (Option.some FieldType.int)) ∈ lw_all := List.mem_filter.mpr ⟨List.mem_of_getElem? (i := 653) rfl, rfl⟩
set_option maxRecDepth 100000 in
theorem q_654 : (Cond.methodLink RL (123 : Nat) yX5_fullness) ∈ lw_all := List.mem_filter.mpr ⟨List.mem_of_getElem? (i := 654) rfl, rfl⟩
set_option maxRecDepth 100000 in
theorem q_655 : (Cond.instanceMethod yX5_fullness) ∈ lw_all := List.mem_filter.mpr ⟨List.mem_of_getElem? (i := 655) rfl, rfl⟩
set_option maxRecDepth 100000 in
theorem q_656 : (Cond.selects RX5 yX5_fullness yX5_fullness) ∈ lw_all := List.mem_filter.mpr ⟨List.mem_of_getElem? (i := 656) rfl, rfl⟩
set_option maxRecDepth 100000 in
theorem q_657 : (Cond.code yX5_fullness prog_1_method_28_code (2 : Nat) (Option.some FieldType.double)) ∈ lw_all := List.mem_filter.mpr ⟨List.mem_of_getElem? (i := 657) rfl, rfl⟩
set_option maxRecDepth 100000 in
theorem q_658 : (Cond.methodLink RX5 (246 : Nat) yX4_roomsOfAllHalls) ∈ lw_all := List.mem_filter.mpr ⟨List.mem_of_getElem? (i := 658) rfl, rfl⟩
set_option maxRecDepth 100000 in
theorem q_659 : (Cond.instanceMethod yX4_roomsOfAllHalls) ∈ lw_all := List.mem_filter.mpr ⟨List.mem_of_getElem? (i := 659) rfl, rfl⟩
set_option maxRecDepth 100000 in
theorem q_660 : (Cond.selects RX4 yX4_roomsOfAllHalls yX4_roomsOfAllHalls) ∈ lw_all := List.mem_filter.mpr ⟨List.mem_of_getElem? (i := 660) rfl, rfl⟩
set_option maxRecDepth 100000 in
theorem q_661 : (Cond.code yX4_roomsOfAllHalls prog_6_method_25_code (1 : Nat) (Option.some FieldType.int)) ∈ lw_all := List.mem_filter.mpr ⟨List.mem_of_getElem? (i := 661) rfl, rfl⟩
set_option maxRecDepth 100000 in
theorem q_662 : (Cond.classLink RL (10 : Nat) "HallStilesModel") ∈ lw_all := List.mem_filter.mpr ⟨List.mem_of_getElem? (i := 662) rfl, rfl⟩
set_option maxRecDepth 100000 in
theorem q_663 : (Cond.instantiable RX6 (11 : Nat)) ∈ lw_all := List.mem_filter.mpr ⟨List.mem_of_getElem? (i := 663) rfl, rfl⟩
set_option maxRecDepth 100000 in
theorem q_664 : (Cond.methodLink RL (12 : Nat) yX6_init) ∈ lw_all := List.mem_filter.mpr ⟨List.mem_of_getElem? (i := 664) rfl, rfl⟩
set_option maxRecDepth 100000 in
theorem q_665 : (Cond.instanceMethod yX6_init) ∈ lw_all := List.mem_filter.mpr ⟨List.mem_of_getElem? (i := 665) rfl, rfl⟩
set_option maxRecDepth 100000 in
theorem q_666 : (Cond.code yX6_init prog_8_method_1_code (2 : Nat) (Option.none : Option FieldType)) ∈ lw_all := List.mem_filter.mpr ⟨List.mem_of_getElem? (i := 666) rfl, rfl⟩
set_option maxRecDepth 100000 in
theorem q_667 : (Cond.methodLink RX6 (1 : Nat) (⟨"java/lang/Object", "<init>", "()V"⟩ : MethodName)) ∈ lw_all := List.mem_filter.mpr ⟨List.mem_of_getElem? (i := 667) rfl, rfl⟩
set_option maxRecDepth 100000 in
theorem q_668 : (Cond.fieldLink RX6 (7 : Nat) "HallStilesModel" "s" "[I") ∈ lw_all := List.mem_filter.mpr ⟨List.mem_of_getElem? (i := 668) rfl, rfl⟩
set_option maxRecDepth 100000 in
theorem q_669 : (Cond.fieldLink RX6 (20 : Nat) "HallStilesModel" "states" "I") ∈ lw_all := List.mem_filter.mpr ⟨List.mem_of_getElem? (i := 669) rfl, rfl⟩
set_option maxRecDepth 100000 in
theorem q_670 : (Cond.fieldLink RX6 (150 : Nat) "HallStilesModel" "isKept" "Z") ∈ lw_all := List.mem_filter.mpr ⟨List.mem_of_getElem? (i := 670) rfl, rfl⟩
set_option maxRecDepth 100000 in
theorem q_671 : (Cond.fieldLink RX6 (13 : Nat) "HallStilesModel" "text" "[C") ∈ lw_all := List.mem_filter.mpr ⟨List.mem_of_getElem? (i := 671) rfl, rfl⟩
set_option maxRecDepth 100000 in
theorem q_672 : (Cond.fieldLink RX6 (112 : Nat) "HallStilesModel" "typed" "I") ∈ lw_all := List.mem_filter.mpr ⟨List.mem_of_getElem? (i := 672) rfl, rfl⟩
set_option maxRecDepth 100000 in
theorem q_673 : (Cond.fieldLink RX6 (17 : Nat) "HallStilesModel" "far" "[I") ∈ lw_all := List.mem_filter.mpr ⟨List.mem_of_getElem? (i := 673) rfl, rfl⟩
set_option maxRecDepth 100000 in
theorem q_674 : (Cond.fieldLink RX6 (119 : Nat) "HallStilesModel" "at" "I") ∈ lw_all := List.mem_filter.mpr ⟨List.mem_of_getElem? (i := 674) rfl, rfl⟩
set_option maxRecDepth 100000 in
theorem q_675 : (Cond.fieldLink RX6 (115 : Nat) "HallStilesModel" "isWrong" "Z") ∈ lw_all := List.mem_filter.mpr ⟨List.mem_of_getElem? (i := 675) rfl, rfl⟩
set_option maxRecDepth 100000 in
theorem q_676 : (Cond.fieldLink RX6 (129 : Nat) "HallStilesModel" "letter" "C") ∈ lw_all := List.mem_filter.mpr ⟨List.mem_of_getElem? (i := 676) rfl, rfl⟩
set_option maxRecDepth 100000 in
theorem q_677 : (Cond.fieldLink RX6 (136 : Nat) "HallStilesModel" "stileOfOrder" "I") ∈ lw_all := List.mem_filter.mpr ⟨List.mem_of_getElem? (i := 677) rfl, rfl⟩
set_option maxRecDepth 100000 in
theorem q_678 : (Cond.fieldLink RX6 (126 : Nat) "HallStilesModel" "number" "I") ∈ lw_all := List.mem_filter.mpr ⟨List.mem_of_getElem? (i := 678) rfl, rfl⟩
set_option maxRecDepth 100000 in
theorem q_679 : (Cond.laysFinal RX6 "HallStilesModel" "s" "[I") ∈ lw_all := List.mem_filter.mpr ⟨List.mem_of_getElem? (i := 679) rfl, rfl⟩
set_option maxRecDepth 100000 in
theorem q_681 : (Cond.lays RX6 "HallStilesModel" "states" "I") ∈ lw_all := List.mem_filter.mpr ⟨List.mem_of_getElem? (i := 681) rfl, rfl⟩
set_option maxRecDepth 100000 in
theorem q_683 : (Cond.lays RX6 "HallStilesModel" "isKept" "Z") ∈ lw_all := List.mem_filter.mpr ⟨List.mem_of_getElem? (i := 683) rfl, rfl⟩
set_option maxRecDepth 100000 in
theorem q_685 : (Cond.laysFinal RX6 "HallStilesModel" "text" "[C") ∈ lw_all := List.mem_filter.mpr ⟨List.mem_of_getElem? (i := 685) rfl, rfl⟩
set_option maxRecDepth 100000 in
theorem q_687 : (Cond.lays RX6 "HallStilesModel" "typed" "I") ∈ lw_all := List.mem_filter.mpr ⟨List.mem_of_getElem? (i := 687) rfl, rfl⟩
set_option maxRecDepth 100000 in
theorem q_689 : (Cond.laysFinal RX6 "HallStilesModel" "far" "[I") ∈ lw_all := List.mem_filter.mpr ⟨List.mem_of_getElem? (i := 689) rfl, rfl⟩
set_option maxRecDepth 100000 in
theorem q_691 : (Cond.lays RX6 "HallStilesModel" "at" "I") ∈ lw_all := List.mem_filter.mpr ⟨List.mem_of_getElem? (i := 691) rfl, rfl⟩
set_option maxRecDepth 100000 in
theorem q_693 : (Cond.lays RX6 "HallStilesModel" "isWrong" "Z") ∈ lw_all := List.mem_filter.mpr ⟨List.mem_of_getElem? (i := 693) rfl, rfl⟩
set_option maxRecDepth 100000 in
theorem q_695 : (Cond.lays RX6 "HallStilesModel" "letter" "C") ∈ lw_all := List.mem_filter.mpr ⟨List.mem_of_getElem? (i := 695) rfl, rfl⟩
set_option maxRecDepth 100000 in
theorem q_697 : (Cond.lays RX6 "HallStilesModel" "stileOfOrder" "I") ∈ lw_all := List.mem_filter.mpr ⟨List.mem_of_getElem? (i := 697) rfl, rfl⟩
set_option maxRecDepth 100000 in
theorem q_699 : (Cond.lays RX6 "HallStilesModel" "number" "I") ∈ lw_all := List.mem_filter.mpr ⟨List.mem_of_getElem? (i := 699) rfl, rfl⟩
set_option maxRecDepth 100000 in
theorem q_702 : (Cond.arrayClass FieldType.char) ∈ lw_all := List.mem_filter.mpr ⟨List.mem_of_getElem? (i := 702) rfl, rfl⟩
set_option maxRecDepth 100000 in
theorem q_703 : (Cond.methodLink RL (17 : Nat) yX6_stile) ∈ lw_all := List.mem_filter.mpr ⟨List.mem_of_getElem? (i := 703) rfl, rfl⟩
set_option maxRecDepth 100000 in
theorem q_704 : (Cond.instanceMethod yX6_stile) ∈ lw_all := List.mem_filter.mpr ⟨List.mem_of_getElem? (i := 704) rfl, rfl⟩
set_option maxRecDepth 100000 in
theorem q_705 : (Cond.selects RX6 yX6_stile yX6_stile) ∈ lw_all := List.mem_filter.mpr ⟨List.mem_of_getElem? (i := 705) rfl, rfl⟩
set_option maxRecDepth 100000 in
theorem q_706 : (Cond.code yX6_stile prog_8_method_22_code (5 : Nat) (Option.some FieldType.int)) ∈ lw_all := List.mem_filter.mpr ⟨List.mem_of_getElem? (i := 706) rfl, rfl⟩
set_option maxRecDepth 100000 in
theorem q_707 : (Cond.methodLink RX6 (28 : Nat) yX6_in) ∈ lw_all := List.mem_filter.mpr ⟨List.mem_of_getElem? (i := 707) rfl, rfl⟩
set_option maxRecDepth 100000 in
theorem q_708 : (Cond.static yX6_in) ∈ lw_all := List.mem_filter.mpr ⟨List.mem_of_getElem? (i := 708) rfl, rfl⟩
set_option maxRecDepth 100000 in
theorem q_709 : (Cond.code yX6_in prog_8_method_2_code (3 : Nat) (Option.some FieldType.boolean)) ∈ lw_all := List.mem_filter.mpr ⟨List.mem_of_getElem? (i := 709) rfl, rfl⟩
set_option maxRecDepth 100000 in
theorem q_710 : (Cond.constant RX6 (73 : Nat) (-100001 : Int32)) ∈ lw_all := List.mem_filter.mpr ⟨List.mem_of_getElem? (i := 710) rfl, rfl⟩
set_option maxRecDepth 100000 in
theorem q_711 : (Cond.constant RX6 (74 : Nat) (-100002 : Int32)) ∈ lw_all := List.mem_filter.mpr ⟨List.mem_of_getElem? (i := 711) rfl, rfl⟩
set_option maxRecDepth 100000 in
theorem q_712 : (Cond.constant RX6 (75 : Nat) (-100003 : Int32)) ∈ lw_all := List.mem_filter.mpr ⟨List.mem_of_getElem? (i := 712) rfl, rfl⟩
set_option maxRecDepth 100000 in
theorem q_713 : (Cond.methodLink RX6 (76 : Nat) yX6_records) ∈ lw_all := List.mem_filter.mpr ⟨List.mem_of_getElem? (i := 713) rfl, rfl⟩
set_option maxRecDepth 100000 in
theorem q_715 : (Cond.instanceMethod yX6_records) ∈ lw_all := List.mem_filter.mpr ⟨List.mem_of_getElem? (i := 715) rfl, rfl⟩
set_option maxRecDepth 100000 in
theorem q_716 : (Cond.code yX6_records prog_8_method_4_code (2 : Nat) (Option.none : Option FieldType)) ∈ lw_all := List.mem_filter.mpr ⟨List.mem_of_getElem? (i := 716) rfl, rfl⟩
set_option maxRecDepth 100000 in
theorem q_717 : (Cond.methodLink RX6 (24 : Nat) yX6_copies) ∈ lw_all := List.mem_filter.mpr ⟨List.mem_of_getElem? (i := 717) rfl, rfl⟩
set_option maxRecDepth 100000 in
theorem q_719 : (Cond.instanceMethod yX6_copies) ∈ lw_all := List.mem_filter.mpr ⟨List.mem_of_getElem? (i := 719) rfl, rfl⟩
set_option maxRecDepth 100000 in
theorem q_720 : (Cond.code yX6_copies prog_8_method_3_code (4 : Nat) (Option.none : Option FieldType)) ∈ lw_all := List.mem_filter.mpr ⟨List.mem_of_getElem? (i := 720) rfl, rfl⟩
set_option maxRecDepth 100000 in
theorem q_721 : (Cond.methodLink RX6 (32 : Nat) yX6_place) ∈ lw_all := List.mem_filter.mpr ⟨List.mem_of_getElem? (i := 721) rfl, rfl⟩
set_option maxRecDepth 100000 in
theorem q_722 : (Cond.static yX6_place) ∈ lw_all := List.mem_filter.mpr ⟨List.mem_of_getElem? (i := 722) rfl, rfl⟩
set_option maxRecDepth 100000 in
theorem q_723 : (Cond.code yX6_place prog_8_method_5_code (2 : Nat) (Option.some FieldType.int)) ∈ lw_all := List.mem_filter.mpr ⟨List.mem_of_getElem? (i := 723) rfl, rfl⟩
set_option maxRecDepth 100000 in
theorem q_724 : (Cond.methodLink RL (21 : Nat) yX6_open) ∈ lw_all := List.mem_filter.mpr ⟨List.mem_of_getElem? (i := 724) rfl, rfl⟩
set_option maxRecDepth 100000 in
theorem q_725 : (Cond.instanceMethod yX6_open) ∈ lw_all := List.mem_filter.mpr ⟨List.mem_of_getElem? (i := 725) rfl, rfl⟩
set_option maxRecDepth 100000 in
theorem q_726 : (Cond.selects RX6 yX6_open yX6_open) ∈ lw_all := List.mem_filter.mpr ⟨List.mem_of_getElem? (i := 726) rfl, rfl⟩
set_option maxRecDepth 100000 in
theorem q_727 : (Cond.code yX6_open prog_8_method_23_code (4 : Nat) (Option.some FieldType.int)) ∈ lw_all := List.mem_filter.mpr ⟨List.mem_of_getElem? (i := 727) rfl, rfl⟩
set_option maxRecDepth 100000 in
theorem q_728 : (Cond.methodLink RX6 (79 : Nat) yX6_isStile) ∈ lw_all := List.mem_filter.mpr ⟨List.mem_of_getElem? (i := 728) rfl, rfl⟩
set_option maxRecDepth 100000 in
theorem q_730 : (Cond.instanceMethod yX6_isStile) ∈ lw_all := List.mem_filter.mpr ⟨List.mem_of_getElem? (i := 730) rfl, rfl⟩
set_option maxRecDepth 100000 in
theorem q_731 : (Cond.code yX6_isStile prog_8_method_6_code (2 : Nat) (Option.some FieldType.boolean)) ∈ lw_all := List.mem_filter.mpr ⟨List.mem_of_getElem? (i := 731) rfl, rfl⟩
set_option maxRecDepth 100000 in
theorem q_732 : (Cond.methodLink RL (25 : Nat) yX6_room) ∈ lw_all := List.mem_filter.mpr ⟨List.mem_of_getElem? (i := 732) rfl, rfl⟩
set_option maxRecDepth 100000 in
theorem q_733 : (Cond.instanceMethod yX6_room) ∈ lw_all := List.mem_filter.mpr ⟨List.mem_of_getElem? (i := 733) rfl, rfl⟩
set_option maxRecDepth 100000 in
theorem q_734 : (Cond.selects RX6 yX6_room yX6_room) ∈ lw_all := List.mem_filter.mpr ⟨List.mem_of_getElem? (i := 734) rfl, rfl⟩
set_option maxRecDepth 100000 in
theorem q_735 : (Cond.code yX6_room prog_8_method_24_code (4 : Nat) (Option.some FieldType.int)) ∈ lw_all := List.mem_filter.mpr ⟨List.mem_of_getElem? (i := 735) rfl, rfl⟩
set_option maxRecDepth 100000 in
theorem q_736 : (Cond.methodLink RX6 (83 : Nat) yX6_isHall) ∈ lw_all := List.mem_filter.mpr ⟨List.mem_of_getElem? (i := 736) rfl, rfl⟩
set_option maxRecDepth 100000 in
theorem q_737 : (Cond.static yX6_isHall) ∈ lw_all := List.mem_filter.mpr ⟨List.mem_of_getElem? (i := 737) rfl, rfl⟩
set_option maxRecDepth 100000 in
theorem q_738 : (Cond.code yX6_isHall prog_8_method_7_code (1 : Nat) (Option.some FieldType.boolean)) ∈ lw_all := List.mem_filter.mpr ⟨List.mem_of_getElem? (i := 738) rfl, rfl⟩
set_option maxRecDepth 100000 in
theorem q_739 : (Cond.constant RX6 (86 : Nat) (-100004 : Int32)) ∈ lw_all := List.mem_filter.mpr ⟨List.mem_of_getElem? (i := 739) rfl, rfl⟩
set_option maxRecDepth 100000 in
theorem q_740 : (Cond.methodLink RL (30 : Nat) yX6_slip) ∈ lw_all := List.mem_filter.mpr ⟨List.mem_of_getElem? (i := 740) rfl, rfl⟩
set_option maxRecDepth 100000 in
theorem q_741 : (Cond.instanceMethod yX6_slip) ∈ lw_all := List.mem_filter.mpr ⟨List.mem_of_getElem? (i := 741) rfl, rfl⟩
set_option maxRecDepth 100000 in
theorem q_742 : (Cond.selects RX6 yX6_slip yX6_slip) ∈ lw_all := List.mem_filter.mpr ⟨List.mem_of_getElem? (i := 742) rfl, rfl⟩
set_option maxRecDepth 100000 in
theorem q_743 : (Cond.code yX6_slip prog_8_method_26_code (6 : Nat) (Option.some FieldType.int)) ∈ lw_all := List.mem_filter.mpr ⟨List.mem_of_getElem? (i := 743) rfl, rfl⟩
set_option maxRecDepth 100000 in
theorem q_744 : (Cond.methodLink RX6 (87 : Nat) yX6_isSlip) ∈ lw_all := List.mem_filter.mpr ⟨List.mem_of_getElem? (i := 744) rfl, rfl⟩
set_option maxRecDepth 100000 in
theorem q_745 : (Cond.static yX6_isSlip) ∈ lw_all := List.mem_filter.mpr ⟨List.mem_of_getElem? (i := 745) rfl, rfl⟩
set_option maxRecDepth 100000 in
theorem q_746 : (Cond.code yX6_isSlip prog_8_method_25_code (1 : Nat) (Option.some FieldType.boolean)) ∈ lw_all := List.mem_filter.mpr ⟨List.mem_of_getElem? (i := 746) rfl, rfl⟩
set_option maxRecDepth 100000 in
theorem q_747 : (Cond.methodLink RL (35 : Nat) yX6_pass) ∈ lw_all := List.mem_filter.mpr ⟨List.mem_of_getElem? (i := 747) rfl, rfl⟩
set_option maxRecDepth 100000 in
theorem q_748 : (Cond.instanceMethod yX6_pass) ∈ lw_all := List.mem_filter.mpr ⟨List.mem_of_getElem? (i := 748) rfl, rfl⟩
set_option maxRecDepth 100000 in
theorem q_749 : (Cond.selects RX6 yX6_pass yX6_pass) ∈ lw_all := List.mem_filter.mpr ⟨List.mem_of_getElem? (i := 749) rfl, rfl⟩
set_option maxRecDepth 100000 in
theorem q_750 : (Cond.code yX6_pass prog_8_method_28_code (5 : Nat) (Option.some FieldType.int)) ∈ lw_all := List.mem_filter.mpr ⟨List.mem_of_getElem? (i := 750) rfl, rfl⟩
set_option maxRecDepth 100000 in
theorem q_751 : (Cond.methodLink RX6 (93 : Nat) yX6_wrong) ∈ lw_all := List.mem_filter.mpr ⟨List.mem_of_getElem? (i := 751) rfl, rfl⟩
set_option maxRecDepth 100000 in
theorem q_753 : (Cond.instanceMethod yX6_wrong) ∈ lw_all := List.mem_filter.mpr ⟨List.mem_of_getElem? (i := 753) rfl, rfl⟩
set_option maxRecDepth 100000 in
theorem q_754 : (Cond.code yX6_wrong prog_8_method_27_code (5 : Nat) (Option.some FieldType.int)) ∈ lw_all := List.mem_filter.mpr ⟨List.mem_of_getElem? (i := 754) rfl, rfl⟩
set_option maxRecDepth 100000 in
theorem q_755 : (Cond.methodLink RX6 (90 : Nat) yX6_why) ∈ lw_all := List.mem_filter.mpr ⟨List.mem_of_getElem? (i := 755) rfl, rfl⟩
set_option maxRecDepth 100000 in
theorem q_757 : (Cond.instanceMethod yX6_why) ∈ lw_all := List.mem_filter.mpr ⟨List.mem_of_getElem? (i := 757) rfl, rfl⟩
set_option maxRecDepth 100000 in
theorem q_758 : (Cond.code yX6_why prog_8_method_14_code (9 : Nat) (Option.some FieldType.int)) ∈ lw_all := List.mem_filter.mpr ⟨List.mem_of_getElem? (i := 758) rfl, rfl⟩
set_option maxRecDepth 100000 in
theorem q_759 : (Cond.methodLink RX6 (42 : Nat) yX6_from) ∈ lw_all := List.mem_filter.mpr ⟨List.mem_of_getElem? (i := 759) rfl, rfl⟩
set_option maxRecDepth 100000 in
theorem q_761 : (Cond.instanceMethod yX6_from) ∈ lw_all := List.mem_filter.mpr ⟨List.mem_of_getElem? (i := 761) rfl, rfl⟩
set_option maxRecDepth 100000 in
theorem q_762 : (Cond.code yX6_from prog_8_method_12_code (3 : Nat) (Option.some FieldType.int)) ∈ lw_all := List.mem_filter.mpr ⟨List.mem_of_getElem? (i := 762) rfl, rfl⟩
set_option maxRecDepth 100000 in
theorem q_763 : (Cond.methodLink RX6 (46 : Nat) yX6_to) ∈ lw_all := List.mem_filter.mpr ⟨List.mem_of_getElem? (i := 763) rfl, rfl⟩
set_option maxRecDepth 100000 in
theorem q_765 : (Cond.instanceMethod yX6_to) ∈ lw_all := List.mem_filter.mpr ⟨List.mem_of_getElem? (i := 765) rfl, rfl⟩
set_option maxRecDepth 100000 in
theorem q_766 : (Cond.code yX6_to prog_8_method_13_code (3 : Nat) (Option.some FieldType.int)) ∈ lw_all := List.mem_filter.mpr ⟨List.mem_of_getElem? (i := 766) rfl, rfl⟩
set_option maxRecDepth 100000 in
theorem q_767 : (Cond.methodLink RX6 (49 : Nat) yX6_barred) ∈ lw_all := List.mem_filter.mpr ⟨List.mem_of_getElem? (i := 767) rfl, rfl⟩
set_option maxRecDepth 100000 in
theorem q_769 : (Cond.instanceMethod yX6_barred) ∈ lw_all := List.mem_filter.mpr ⟨List.mem_of_getElem? (i := 769) rfl, rfl⟩
set_option maxRecDepth 100000 in
theorem q_770 : (Cond.code yX6_barred prog_8_method_11_code (4 : Nat) (Option.some FieldType.int)) ∈ lw_all := List.mem_filter.mpr ⟨List.mem_of_getElem? (i := 770) rfl, rfl⟩
set_option maxRecDepth 100000 in
theorem q_771 : (Cond.methodLink RX6 (65 : Nat) yX6_passes) ∈ lw_all := List.mem_filter.mpr ⟨List.mem_of_getElem? (i := 771) rfl, rfl⟩
set_option maxRecDepth 100000 in
theorem q_773 : (Cond.instanceMethod yX6_passes) ∈ lw_all := List.mem_filter.mpr ⟨List.mem_of_getElem? (i := 773) rfl, rfl⟩
set_option maxRecDepth 100000 in
theorem q_774 : (Cond.code yX6_passes prog_8_method_16_code (8 : Nat) (Option.none : Option FieldType)) ∈ lw_all := List.mem_filter.mpr ⟨List.mem_of_getElem? (i := 774) rfl, rfl⟩
set_option maxRecDepth 100000 in
theorem q_775 : (Cond.methodLink RX6 (52 : Nat) yX6_counts) ∈ lw_all := List.mem_filter.mpr ⟨List.mem_of_getElem? (i := 775) rfl, rfl⟩
set_option maxRecDepth 100000 in
theorem q_777 : (Cond.instanceMethod yX6_counts) ∈ lw_all := List.mem_filter.mpr ⟨List.mem_of_getElem? (i := 777) rfl, rfl⟩
set_option maxRecDepth 100000 in
theorem q_778 : (Cond.code yX6_counts prog_8_method_15_code (7 : Nat) (Option.none : Option FieldType)) ∈ lw_all := List.mem_filter.mpr ⟨List.mem_of_getElem? (i := 778) rfl, rfl⟩
set_option maxRecDepth 100000 in
theorem q_779 : (Cond.methodLink RX6 (97 : Nat) yX6_gap) ∈ lw_all := List.mem_filter.mpr ⟨List.mem_of_getElem? (i := 779) rfl, rfl⟩
set_option maxRecDepth 100000 in
theorem q_781 : (Cond.instanceMethod yX6_gap) ∈ lw_all := List.mem_filter.mpr ⟨List.mem_of_getElem? (i := 781) rfl, rfl⟩
set_option maxRecDepth 100000 in
theorem q_782 : (Cond.code yX6_gap prog_8_method_10_code (3 : Nat) (Option.some FieldType.int)) ∈ lw_all := List.mem_filter.mpr ⟨List.mem_of_getElem? (i := 782) rfl, rfl⟩
set_option maxRecDepth 100000 in
theorem q_783 : (Cond.methodLink RX6 (36 : Nat) yX6_counted) ∈ lw_all := List.mem_filter.mpr ⟨List.mem_of_getElem? (i := 783) rfl, rfl⟩
set_option maxRecDepth 100000 in
theorem q_785 : (Cond.instanceMethod yX6_counted) ∈ lw_all := List.mem_filter.mpr ⟨List.mem_of_getElem? (i := 785) rfl, rfl⟩
set_option maxRecDepth 100000 in
theorem q_786 : (Cond.code yX6_counted prog_8_method_8_code (3 : Nat) (Option.some FieldType.int)) ∈ lw_all := List.mem_filter.mpr ⟨List.mem_of_getElem? (i := 786) rfl, rfl⟩
set_option maxRecDepth 100000 in
theorem q_787 : (Cond.methodLink RX6 (39 : Nat) yX6_apart) ∈ lw_all := List.mem_filter.mpr ⟨List.mem_of_getElem? (i := 787) rfl, rfl⟩
set_option maxRecDepth 100000 in
theorem q_788 : (Cond.static yX6_apart) ∈ lw_all := List.mem_filter.mpr ⟨List.mem_of_getElem? (i := 788) rfl, rfl⟩
set_option maxRecDepth 100000 in
theorem q_789 : (Cond.code yX6_apart prog_8_method_9_code (2 : Nat) (Option.some FieldType.int)) ∈ lw_all := List.mem_filter.mpr ⟨List.mem_of_getElem? (i := 789) rfl, rfl⟩
set_option maxRecDepth 100000 in
theorem q_790 : (Cond.methodLink RL (40 : Nat) yX6_audit) ∈ lw_all := List.mem_filter.mpr ⟨List.mem_of_getElem? (i := 790) rfl, rfl⟩
set_option maxRecDepth 100000 in
theorem q_791 : (Cond.instanceMethod yX6_audit) ∈ lw_all := List.mem_filter.mpr ⟨List.mem_of_getElem? (i := 791) rfl, rfl⟩
set_option maxRecDepth 100000 in
theorem q_792 : (Cond.selects RX6 yX6_audit yX6_audit) ∈ lw_all := List.mem_filter.mpr ⟨List.mem_of_getElem? (i := 792) rfl, rfl⟩
set_option maxRecDepth 100000 in
theorem q_793 : (Cond.code yX6_audit prog_8_method_30_code (3 : Nat) (Option.some FieldType.int)) ∈ lw_all := List.mem_filter.mpr ⟨List.mem_of_getElem? (i := 793) rfl, rfl⟩
set_option maxRecDepth 100000 in
theorem q_794 : (Cond.methodLink RX6 (100 : Nat) yX6_audits) ∈ lw_all := List.mem_filter.mpr ⟨List.mem_of_getElem? (i := 794) rfl, rfl⟩
set_option maxRecDepth 100000 in
theorem q_796 : (Cond.instanceMethod yX6_audits) ∈ lw_all := List.mem_filter.mpr ⟨List.mem_of_getElem? (i := 796) rfl, rfl⟩
set_option maxRecDepth 100000 in
theorem q_797 : (Cond.code yX6_audits prog_8_method_29_code (5 : Nat) (Option.none : Option FieldType)) ∈ lw_all := List.mem_filter.mpr ⟨List.mem_of_getElem? (i := 797) rfl, rfl⟩
set_option maxRecDepth 100000 in
theorem q_798 : (Cond.methodLink RL (44 : Nat) yX6_repair) ∈ lw_all := List.mem_filter.mpr ⟨List.mem_of_getElem? (i := 798) rfl, rfl⟩
set_option maxRecDepth 100000 in
theorem q_799 : (Cond.instanceMethod yX6_repair) ∈ lw_all := List.mem_filter.mpr ⟨List.mem_of_getElem? (i := 799) rfl, rfl⟩
set_option maxRecDepth 100000 in
theorem q_800 : (Cond.selects RX6 yX6_repair yX6_repair) ∈ lw_all := List.mem_filter.mpr ⟨List.mem_of_getElem? (i := 800) rfl, rfl⟩
set_option maxRecDepth 100000 in
theorem q_801 : (Cond.code yX6_repair prog_8_method_31_code (2 : Nat) (Option.some FieldType.int)) ∈ lw_all := List.mem_filter.mpr ⟨List.mem_of_getElem? (i := 801) rfl, rfl⟩
set_option maxRecDepth 100000 in
theorem q_802 : (Cond.methodLink RL (48 : Nat) yX6_hours) ∈ lw_all := List.mem_filter.mpr ⟨List.mem_of_getElem? (i := 802) rfl, rfl⟩
set_option maxRecDepth 100000 in
theorem q_803 : (Cond.instanceMethod yX6_hours) ∈ lw_all := List.mem_filter.mpr ⟨List.mem_of_getElem? (i := 803) rfl, rfl⟩
set_option maxRecDepth 100000 in
theorem q_804 : (Cond.selects RX6 yX6_hours yX6_hours) ∈ lw_all := List.mem_filter.mpr ⟨List.mem_of_getElem? (i := 804) rfl, rfl⟩
set_option maxRecDepth 100000 in
theorem q_805 : (Cond.code yX6_hours prog_8_method_33_code (2 : Nat) (Option.some FieldType.int)) ∈ lw_all := List.mem_filter.mpr ⟨List.mem_of_getElem? (i := 805) rfl, rfl⟩
set_option maxRecDepth 100000 in
theorem q_806 : (Cond.methodLink RX6 (103 : Nat) yX6_hoursPass) ∈ lw_all := List.mem_filter.mpr ⟨List.mem_of_getElem? (i := 806) rfl, rfl⟩
set_option maxRecDepth 100000 in
theorem q_808 : (Cond.instanceMethod yX6_hoursPass) ∈ lw_all := List.mem_filter.mpr ⟨List.mem_of_getElem? (i := 808) rfl, rfl⟩
set_option maxRecDepth 100000 in
theorem q_809 : (Cond.code yX6_hoursPass prog_8_method_32_code (4 : Nat) (Option.some FieldType.int)) ∈ lw_all := List.mem_filter.mpr ⟨List.mem_of_getElem? (i := 809) rfl, rfl⟩
set_option maxRecDepth 100000 in
theorem q_810 : (Cond.methodLink RX6 (69 : Nat) yX6_hour) ∈ lw_all := List.mem_filter.mpr ⟨List.mem_of_getElem? (i := 810) rfl, rfl⟩
set_option maxRecDepth 100000 in
theorem q_812 : (Cond.instanceMethod yX6_hour) ∈ lw_all := List.mem_filter.mpr ⟨List.mem_of_getElem? (i := 812) rfl, rfl⟩
set_option maxRecDepth 100000 in
theorem q_813 : (Cond.code yX6_hour prog_8_method_18_code (6 : Nat) (Option.some FieldType.int)) ∈ lw_all := List.mem_filter.mpr ⟨List.mem_of_getElem? (i := 813) rfl, rfl⟩
set_option maxRecDepth 100000 in
theorem q_814 : (Cond.methodLink RL (52 : Nat) yX6_close) ∈ lw_all := List.mem_filter.mpr ⟨List.mem_of_getElem? (i := 814) rfl, rfl⟩
set_option maxRecDepth 100000 in
theorem q_815 : (Cond.instanceMethod yX6_close) ∈ lw_all := List.mem_filter.mpr ⟨List.mem_of_getElem? (i := 815) rfl, rfl⟩
set_option maxRecDepth 100000 in
theorem q_816 : (Cond.selects RX6 yX6_close yX6_close) ∈ lw_all := List.mem_filter.mpr ⟨List.mem_of_getElem? (i := 816) rfl, rfl⟩
set_option maxRecDepth 100000 in
theorem q_817 : (Cond.code yX6_close prog_8_method_34_code (4 : Nat) (Option.some FieldType.int)) ∈ lw_all := List.mem_filter.mpr ⟨List.mem_of_getElem? (i := 817) rfl, rfl⟩
set_option maxRecDepth 100000 in
theorem q_818 : (Cond.methodLink RX6 (106 : Nat) yX6_closes) ∈ lw_all := List.mem_filter.mpr ⟨List.mem_of_getElem? (i := 818) rfl, rfl⟩
set_option maxRecDepth 100000 in
theorem q_820 : (Cond.instanceMethod yX6_closes) ∈ lw_all := List.mem_filter.mpr ⟨List.mem_of_getElem? (i := 820) rfl, rfl⟩
set_option maxRecDepth 100000 in
theorem q_821 : (Cond.code yX6_closes prog_8_method_20_code (9 : Nat) (Option.some FieldType.int)) ∈ lw_all := List.mem_filter.mpr ⟨List.mem_of_getElem? (i := 821) rfl, rfl⟩
set_option maxRecDepth 100000 in
theorem q_822 : (Cond.methodLink RX6 (57 : Nat) yX6_distances) ∈ lw_all := List.mem_filter.mpr ⟨List.mem_of_getElem? (i := 822) rfl, rfl⟩
set_option maxRecDepth 100000 in
theorem q_824 : (Cond.instanceMethod yX6_distances) ∈ lw_all := List.mem_filter.mpr ⟨List.mem_of_getElem? (i := 824) rfl, rfl⟩
set_option maxRecDepth 100000 in
theorem q_825 : (Cond.code yX6_distances prog_8_method_19_code (7 : Nat) (Option.none : Option FieldType)) ∈ lw_all := List.mem_filter.mpr ⟨List.mem_of_getElem? (i := 825) rfl, rfl⟩
set_option maxRecDepth 100000 in
theorem q_826 : (Cond.constant RX6 (56 : Nat) (-100005 : Int32)) ∈ lw_all := List.mem_filter.mpr ⟨List.mem_of_getElem? (i := 826) rfl, rfl⟩
set_option maxRecDepth 100000 in
theorem q_827 : (Cond.methodLink RX6 (61 : Nat) yX6_atMost) ∈ lw_all := List.mem_filter.mpr ⟨List.mem_of_getElem? (i := 827) rfl, rfl⟩
set_option maxRecDepth 100000 in
theorem q_829 : (Cond.instanceMethod yX6_atMost) ∈ lw_all := List.mem_filter.mpr ⟨List.mem_of_getElem? (i := 829) rfl, rfl⟩
set_option maxRecDepth 100000 in
theorem q_830 : (Cond.code yX6_atMost prog_8_method_17_code (10 : Nat) (Option.some FieldType.int)) ∈ lw_all := List.mem_filter.mpr ⟨List.mem_of_getElem? (i := 830) rfl, rfl⟩
set_option maxRecDepth 100000 in
theorem q_831 : (Cond.methodLink RX6 (109 : Nat) yX6_people) ∈ lw_all := List.mem_filter.mpr ⟨List.mem_of_getElem? (i := 831) rfl, rfl⟩
set_option maxRecDepth 100000 in
theorem q_833 : (Cond.instanceMethod yX6_people) ∈ lw_all := List.mem_filter.mpr ⟨List.mem_of_getElem? (i := 833) rfl, rfl⟩
set_option maxRecDepth 100000 in
theorem q_834 : (Cond.code yX6_people prog_8_method_21_code (4 : Nat) (Option.some FieldType.int)) ∈ lw_all := List.mem_filter.mpr ⟨List.mem_of_getElem? (i := 834) rfl, rfl⟩
set_option maxRecDepth 100000 in
theorem q_835 : (Cond.methodLink RL (56 : Nat) yX6_set) ∈ lw_all := List.mem_filter.mpr ⟨List.mem_of_getElem? (i := 835) rfl, rfl⟩
set_option maxRecDepth 100000 in
theorem q_836 : (Cond.instanceMethod yX6_set) ∈ lw_all := List.mem_filter.mpr ⟨List.mem_of_getElem? (i := 836) rfl, rfl⟩
set_option maxRecDepth 100000 in
theorem q_837 : (Cond.selects RX6 yX6_set yX6_set) ∈ lw_all := List.mem_filter.mpr ⟨List.mem_of_getElem? (i := 837) rfl, rfl⟩
set_option maxRecDepth 100000 in
theorem q_838 : (Cond.code yX6_set prog_8_method_35_code (4 : Nat) (Option.some FieldType.int)) ∈ lw_all := List.mem_filter.mpr ⟨List.mem_of_getElem? (i := 838) rfl, rfl⟩
set_option maxRecDepth 100000 in
theorem q_839 : (Cond.methodLink RL (60 : Nat) yX6_append) ∈ lw_all := List.mem_filter.mpr ⟨List.mem_of_getElem? (i := 839) rfl, rfl⟩
set_option maxRecDepth 100000 in
theorem q_840 : (Cond.instanceMethod yX6_append) ∈ lw_all := List.mem_filter.mpr ⟨List.mem_of_getElem? (i := 840) rfl, rfl⟩
set_option maxRecDepth 100000 in
theorem q_841 : (Cond.selects RX6 yX6_append yX6_append) ∈ lw_all := List.mem_filter.mpr ⟨List.mem_of_getElem? (i := 841) rfl, rfl⟩
set_option maxRecDepth 100000 in
theorem q_842 : (Cond.code yX6_append prog_8_method_36_code (2 : Nat) (Option.some FieldType.int)) ∈ lw_all := List.mem_filter.mpr ⟨List.mem_of_getElem? (i := 842) rfl, rfl⟩
set_option maxRecDepth 100000 in
theorem q_843 : (Cond.methodLink RL (65 : Nat) yX6_clearText) ∈ lw_all := List.mem_filter.mpr ⟨List.mem_of_getElem? (i := 843) rfl, rfl⟩
set_option maxRecDepth 100000 in
theorem q_844 : (Cond.instanceMethod yX6_clearText) ∈ lw_all := List.mem_filter.mpr ⟨List.mem_of_getElem? (i := 844) rfl, rfl⟩
set_option maxRecDepth 100000 in
theorem q_845 : (Cond.selects RX6 yX6_clearText yX6_clearText) ∈ lw_all := List.mem_filter.mpr ⟨List.mem_of_getElem? (i := 845) rfl, rfl⟩
set_option maxRecDepth 100000 in
theorem q_846 : (Cond.code yX6_clearText prog_8_method_37_code (2 : Nat) (Option.some FieldType.int)) ∈ lw_all := List.mem_filter.mpr ⟨List.mem_of_getElem? (i := 846) rfl, rfl⟩
set_option maxRecDepth 100000 in
theorem q_847 : (Cond.methodLink RL (69 : Nat) yX6_fault) ∈ lw_all := List.mem_filter.mpr ⟨List.mem_of_getElem? (i := 847) rfl, rfl⟩
set_option maxRecDepth 100000 in
theorem q_848 : (Cond.instanceMethod yX6_fault) ∈ lw_all := List.mem_filter.mpr ⟨List.mem_of_getElem? (i := 848) rfl, rfl⟩
set_option maxRecDepth 100000 in
theorem q_849 : (Cond.selects RX6 yX6_fault yX6_fault) ∈ lw_all := List.mem_filter.mpr ⟨List.mem_of_getElem? (i := 849) rfl, rfl⟩
set_option maxRecDepth 100000 in
theorem q_850 : (Cond.code yX6_fault prog_8_method_42_code (1 : Nat) (Option.some FieldType.int)) ∈ lw_all := List.mem_filter.mpr ⟨List.mem_of_getElem? (i := 850) rfl, rfl⟩
set_option maxRecDepth 100000 in
theorem q_851 : (Cond.methodLink RX6 (142 : Nat) yX6_faultOf) ∈ lw_all := List.mem_filter.mpr ⟨List.mem_of_getElem? (i := 851) rfl, rfl⟩
set_option maxRecDepth 100000 in
theorem q_853 : (Cond.instanceMethod yX6_faultOf) ∈ lw_all := List.mem_filter.mpr ⟨List.mem_of_getElem? (i := 853) rfl, rfl⟩
set_option maxRecDepth 100000 in
theorem q_854 : (Cond.code yX6_faultOf prog_8_method_41_code (2 : Nat) (Option.some FieldType.int)) ∈ lw_all := List.mem_filter.mpr ⟨List.mem_of_getElem? (i := 854) rfl, rfl⟩
set_option maxRecDepth 100000 in
theorem q_855 : (Cond.methodLink RX6 (139 : Nat) yX6_readsOrder) ∈ lw_all := List.mem_filter.mpr ⟨List.mem_of_getElem? (i := 855) rfl, rfl⟩
set_option maxRecDepth 100000 in
theorem q_857 : (Cond.instanceMethod yX6_readsOrder) ∈ lw_all := List.mem_filter.mpr ⟨List.mem_of_getElem? (i := 857) rfl, rfl⟩
set_option maxRecDepth 100000 in
theorem q_858 : (Cond.code yX6_readsOrder prog_8_method_40_code (2 : Nat) (Option.none : Option FieldType)) ∈ lw_all := List.mem_filter.mpr ⟨List.mem_of_getElem? (i := 858) rfl, rfl⟩
set_option maxRecDepth 100000 in
theorem q_859 : (Cond.methodLink RX6 (122 : Nat) yX6_isNow) ∈ lw_all := List.mem_filter.mpr ⟨List.mem_of_getElem? (i := 859) rfl, rfl⟩
set_option maxRecDepth 100000 in
theorem q_861 : (Cond.instanceMethod yX6_isNow) ∈ lw_all := List.mem_filter.mpr ⟨List.mem_of_getElem? (i := 861) rfl, rfl⟩
set_option maxRecDepth 100000 in
theorem q_862 : (Cond.code yX6_isNow prog_8_method_38_code (3 : Nat) (Option.some FieldType.boolean)) ∈ lw_all := List.mem_filter.mpr ⟨List.mem_of_getElem? (i := 862) rfl, rfl⟩
set_option maxRecDepth 100000 in
theorem q_863 : (Cond.methodLink RX6 (133 : Nat) yX6_readsNumber) ∈ lw_all := List.mem_filter.mpr ⟨List.mem_of_getElem? (i := 863) rfl, rfl⟩
set_option maxRecDepth 100000 in
theorem q_865 : (Cond.instanceMethod yX6_readsNumber) ∈ lw_all := List.mem_filter.mpr ⟨List.mem_of_getElem? (i := 865) rfl, rfl⟩
set_option maxRecDepth 100000 in
theorem q_866 : (Cond.code yX6_readsNumber prog_8_method_39_code (1 : Nat) (Option.none : Option FieldType)) ∈ lw_all := List.mem_filter.mpr ⟨List.mem_of_getElem? (i := 866) rfl, rfl⟩
set_option maxRecDepth 100000 in
theorem q_867 : (Cond.methodLink RL (73 : Nat) yX6_run) ∈ lw_all := List.mem_filter.mpr ⟨List.mem_of_getElem? (i := 867) rfl, rfl⟩
set_option maxRecDepth 100000 in
theorem q_868 : (Cond.instanceMethod yX6_run) ∈ lw_all := List.mem_filter.mpr ⟨List.mem_of_getElem? (i := 868) rfl, rfl⟩
set_option maxRecDepth 100000 in
theorem q_869 : (Cond.selects RX6 yX6_run yX6_run) ∈ lw_all := List.mem_filter.mpr ⟨List.mem_of_getElem? (i := 869) rfl, rfl⟩
set_option maxRecDepth 100000 in
theorem q_870 : (Cond.code yX6_run prog_8_method_44_code (5 : Nat) (Option.some FieldType.int)) ∈ lw_all := List.mem_filter.mpr ⟨List.mem_of_getElem? (i := 870) rfl, rfl⟩
set_option maxRecDepth 100000 in
theorem q_871 : (Cond.methodLink RX6 (146 : Nat) yX6_does) ∈ lw_all := List.mem_filter.mpr ⟨List.mem_of_getElem? (i := 871) rfl, rfl⟩
set_option maxRecDepth 100000 in
theorem q_873 : (Cond.instanceMethod yX6_does) ∈ lw_all := List.mem_filter.mpr ⟨List.mem_of_getElem? (i := 873) rfl, rfl⟩
set_option maxRecDepth 100000 in
theorem q_874 : (Cond.code yX6_does prog_8_method_43_code (2 : Nat) (Option.some FieldType.boolean)) ∈ lw_all := List.mem_filter.mpr ⟨List.mem_of_getElem? (i := 874) rfl, rfl⟩
set_option maxRecDepth 100000 in
theorem q_875 : (Cond.methodLink RL (77 : Nat) yX6_undo) ∈ lw_all := List.mem_filter.mpr ⟨List.mem_of_getElem? (i := 875) rfl, rfl⟩
set_option maxRecDepth 100000 in
theorem q_876 : (Cond.instanceMethod yX6_undo) ∈ lw_all := List.mem_filter.mpr ⟨List.mem_of_getElem? (i := 876) rfl, rfl⟩
set_option maxRecDepth 100000 in
theorem q_877 : (Cond.selects RX6 yX6_undo yX6_undo) ∈ lw_all := List.mem_filter.mpr ⟨List.mem_of_getElem? (i := 877) rfl, rfl⟩
set_option maxRecDepth 100000 in
theorem q_878 : (Cond.code yX6_undo prog_8_method_45_code (1 : Nat) (Option.some FieldType.int)) ∈ lw_all := List.mem_filter.mpr ⟨List.mem_of_getElem? (i := 878) rfl, rfl⟩
set_option maxRecDepth 100000 in
theorem q_879 : (Cond.methodLink RL (81 : Nat) yX6_save) ∈ lw_all := List.mem_filter.mpr ⟨List.mem_of_getElem? (i := 879) rfl, rfl⟩
set_option maxRecDepth 100000 in
theorem q_880 : (Cond.instanceMethod yX6_save) ∈ lw_all := List.mem_filter.mpr ⟨List.mem_of_getElem? (i := 880) rfl, rfl⟩
set_option maxRecDepth 100000 in
theorem q_881 : (Cond.selects RX6 yX6_save yX6_save) ∈ lw_all := List.mem_filter.mpr ⟨List.mem_of_getElem? (i := 881) rfl, rfl⟩
set_option maxRecDepth 100000 in
theorem q_882 : (Cond.code yX6_save prog_8_method_46_code (1 : Nat) (Option.some FieldType.int)) ∈ lw_all := List.mem_filter.mpr ⟨List.mem_of_getElem? (i := 882) rfl, rfl⟩
set_option maxRecDepth 100000 in
theorem q_883 : (Cond.methodLink RL (85 : Nat) yX6_restore) ∈ lw_all := List.mem_filter.mpr ⟨List.mem_of_getElem? (i := 883) rfl, rfl⟩
set_option maxRecDepth 100000 in
theorem q_884 : (Cond.instanceMethod yX6_restore) ∈ lw_all := List.mem_filter.mpr ⟨List.mem_of_getElem? (i := 884) rfl, rfl⟩
set_option maxRecDepth 100000 in
theorem q_885 : (Cond.selects RX6 yX6_restore yX6_restore) ∈ lw_all := List.mem_filter.mpr ⟨List.mem_of_getElem? (i := 885) rfl, rfl⟩
set_option maxRecDepth 100000 in
theorem q_886 : (Cond.code yX6_restore prog_8_method_47_code (1 : Nat) (Option.some FieldType.int)) ∈ lw_all := List.mem_filter.mpr ⟨List.mem_of_getElem? (i := 886) rfl, rfl⟩
set_option maxRecDepth 100000 in
theorem q_887 : (Cond.methodLink RL (89 : Nat) yX6_hall) ∈ lw_all := List.mem_filter.mpr ⟨List.mem_of_getElem? (i := 887) rfl, rfl⟩
set_option maxRecDepth 100000 in
theorem q_888 : (Cond.instanceMethod yX6_hall) ∈ lw_all := List.mem_filter.mpr ⟨List.mem_of_getElem? (i := 888) rfl, rfl⟩
set_option maxRecDepth 100000 in
theorem q_889 : (Cond.selects RX6 yX6_hall yX6_hall) ∈ lw_all := List.mem_filter.mpr ⟨List.mem_of_getElem? (i := 889) rfl, rfl⟩
set_option maxRecDepth 100000 in
theorem q_890 : (Cond.code yX6_hall prog_8_method_51_code (3 : Nat) (Option.some FieldType.int)) ∈ lw_all := List.mem_filter.mpr ⟨List.mem_of_getElem? (i := 890) rfl, rfl⟩
set_option maxRecDepth 100000 in
theorem q_891 : (Cond.methodLink RX6 (153 : Nat) yX6_told) ∈ lw_all := List.mem_filter.mpr ⟨List.mem_of_getElem? (i := 891) rfl, rfl⟩
set_option maxRecDepth 100000 in
theorem q_893 : (Cond.instanceMethod yX6_told) ∈ lw_all := List.mem_filter.mpr ⟨List.mem_of_getElem? (i := 893) rfl, rfl⟩
set_option maxRecDepth 100000 in
theorem q_894 : (Cond.code yX6_told prog_8_method_48_code (6 : Nat) (Option.some FieldType.int)) ∈ lw_all := List.mem_filter.mpr ⟨List.mem_of_getElem? (i := 894) rfl, rfl⟩
set_option maxRecDepth 100000 in
theorem q_895 : (Cond.methodLink RX6 (156 : Nat) yX6_distance) ∈ lw_all := List.mem_filter.mpr ⟨List.mem_of_getElem? (i := 895) rfl, rfl⟩
set_option maxRecDepth 100000 in
theorem q_897 : (Cond.instanceMethod yX6_distance) ∈ lw_all := List.mem_filter.mpr ⟨List.mem_of_getElem? (i := 897) rfl, rfl⟩
set_option maxRecDepth 100000 in
theorem q_898 : (Cond.code yX6_distance prog_8_method_50_code (2 : Nat) (Option.some FieldType.int)) ∈ lw_all := List.mem_filter.mpr ⟨List.mem_of_getElem? (i := 898) rfl, rfl⟩
set_option maxRecDepth 100000 in
theorem q_899 : (Cond.methodLink RX6 (159 : Nat) yX6_stilesOf) ∈ lw_all := List.mem_filter.mpr ⟨List.mem_of_getElem? (i := 899) rfl, rfl⟩
set_option maxRecDepth 100000 in
theorem q_901 : (Cond.instanceMethod yX6_stilesOf) ∈ lw_all := List.mem_filter.mpr ⟨List.mem_of_getElem? (i := 901) rfl, rfl⟩
set_option maxRecDepth 100000 in
theorem q_902 : (Cond.code yX6_stilesOf prog_8_method_49_code (4 : Nat) (Option.some FieldType.int)) ∈ lw_all := List.mem_filter.mpr ⟨List.mem_of_getElem? (i := 902) rfl, rfl⟩
set_option maxRecDepth 100000 in
theorem q_903 : (Cond.methodLink RL (93 : Nat) yX6_stileOf) ∈ lw_all := List.mem_filter.mpr ⟨List.mem_of_getElem? (i := 903) rfl, rfl⟩
set_option maxRecDepth 100000 in
theorem q_904 : (Cond.instanceMethod yX6_stileOf) ∈ lw_all := List.mem_filter.mpr ⟨List.mem_of_getElem? (i := 904) rfl, rfl⟩
set_option maxRecDepth 100000 in
theorem q_905 : (Cond.selects RX6 yX6_stileOf yX6_stileOf) ∈ lw_all := List.mem_filter.mpr ⟨List.mem_of_getElem? (i := 905) rfl, rfl⟩
set_option maxRecDepth 100000 in
theorem q_906 : (Cond.code yX6_stileOf prog_8_method_52_code (3 : Nat) (Option.some FieldType.int)) ∈ lw_all := List.mem_filter.mpr ⟨List.mem_of_getElem? (i := 906) rfl, rfl⟩
set_option maxRecDepth 100000 in
theorem q_907 : (Cond.methodLink RL (97 : Nat) yX6_counter) ∈ lw_all := List.mem_filter.mpr ⟨List.mem_of_getElem? (i := 907) rfl, rfl⟩
set_option maxRecDepth 100000 in
theorem q_908 : (Cond.instanceMethod yX6_counter) ∈ lw_all := List.mem_filter.mpr ⟨List.mem_of_getElem? (i := 908) rfl, rfl⟩
set_option maxRecDepth 100000 in
theorem q_909 : (Cond.selects RX6 yX6_counter yX6_counter) ∈ lw_all := List.mem_filter.mpr ⟨List.mem_of_getElem? (i := 909) rfl, rfl⟩
set_option maxRecDepth 100000 in
theorem q_910 : (Cond.code yX6_counter prog_8_method_53_code (5 : Nat) (Option.some FieldType.int)) ∈ lw_all := List.mem_filter.mpr ⟨List.mem_of_getElem? (i := 910) rfl, rfl⟩
set_option maxRecDepth 100000 in
theorem q_911 : (Cond.methodLink RL (101 : Nat) yX6_reason) ∈ lw_all := List.mem_filter.mpr ⟨List.mem_of_getElem? (i := 911) rfl, rfl⟩
set_option maxRecDepth 100000 in
theorem q_912 : (Cond.instanceMethod yX6_reason) ∈ lw_all := List.mem_filter.mpr ⟨List.mem_of_getElem? (i := 912) rfl, rfl⟩
set_option maxRecDepth 100000 in
theorem q_913 : (Cond.selects RX6 yX6_reason yX6_reason) ∈ lw_all := List.mem_filter.mpr ⟨List.mem_of_getElem? (i := 913) rfl, rfl⟩
set_option maxRecDepth 100000 in
theorem q_914 : (Cond.code yX6_reason prog_8_method_54_code (4 : Nat) (Option.some FieldType.int)) ∈ lw_all := List.mem_filter.mpr ⟨List.mem_of_getElem? (i := 914) rfl, rfl⟩
set_option maxRecDepth 100000 in
theorem q_915 : (Cond.methodLink RL (105 : Nat) yX6_worst) ∈ lw_all := List.mem_filter.mpr ⟨List.mem_of_getElem? (i := 915) rfl, rfl⟩
set_option maxRecDepth 100000 in
theorem q_916 : (Cond.instanceMethod yX6_worst) ∈ lw_all := List.mem_filter.mpr ⟨List.mem_of_getElem? (i := 916) rfl, rfl⟩
set_option maxRecDepth 100000 in
theorem q_917 : (Cond.selects RX6 yX6_worst yX6_worst) ∈ lw_all := List.mem_filter.mpr ⟨List.mem_of_getElem? (i := 917) rfl, rfl⟩
set_option maxRecDepth 100000 in
theorem q_918 : (Cond.code yX6_worst prog_8_method_55_code (6 : Nat) (Option.some FieldType.int)) ∈ lw_all := List.mem_filter.mpr ⟨List.mem_of_getElem? (i := 918) rfl, rfl⟩
set_option maxRecDepth 100000 in
theorem q_919 : (Cond.methodLink RL (109 : Nat) yX6_count) ∈ lw_all := List.mem_filter.mpr ⟨List.mem_of_getElem? (i := 919) rfl, rfl⟩
set_option maxRecDepth 100000 in
theorem q_920 : (Cond.instanceMethod yX6_count) ∈ lw_all := List.mem_filter.mpr ⟨List.mem_of_getElem? (i := 920) rfl, rfl⟩
set_option maxRecDepth 100000 in
theorem q_921 : (Cond.selects RX6 yX6_count yX6_count) ∈ lw_all := List.mem_filter.mpr ⟨List.mem_of_getElem? (i := 921) rfl, rfl⟩
set_option maxRecDepth 100000 in
theorem q_922 : (Cond.code yX6_count prog_8_method_59_code (2 : Nat) (Option.some FieldType.int)) ∈ lw_all := List.mem_filter.mpr ⟨List.mem_of_getElem? (i := 922) rfl, rfl⟩
set_option maxRecDepth 100000 in
theorem q_923 : (Cond.methodLink RX6 (162 : Nat) yX6_sumOf) ∈ lw_all := List.mem_filter.mpr ⟨List.mem_of_getElem? (i := 923) rfl, rfl⟩
set_option maxRecDepth 100000 in
theorem q_925 : (Cond.instanceMethod yX6_sumOf) ∈ lw_all := List.mem_filter.mpr ⟨List.mem_of_getElem? (i := 925) rfl, rfl⟩
set_option maxRecDepth 100000 in
theorem q_926 : (Cond.code yX6_sumOf prog_8_method_56_code (7 : Nat) (Option.some FieldType.int)) ∈ lw_all := List.mem_filter.mpr ⟨List.mem_of_getElem? (i := 926) rfl, rfl⟩
set_option maxRecDepth 100000 in
theorem q_927 : (Cond.methodLink RX6 (165 : Nat) yX6_allTold) ∈ lw_all := List.mem_filter.mpr ⟨List.mem_of_getElem? (i := 927) rfl, rfl⟩
set_option maxRecDepth 100000 in
theorem q_929 : (Cond.instanceMethod yX6_allTold) ∈ lw_all := List.mem_filter.mpr ⟨List.mem_of_getElem? (i := 929) rfl, rfl⟩
set_option maxRecDepth 100000 in
theorem q_930 : (Cond.code yX6_allTold prog_8_method_57_code (4 : Nat) (Option.some FieldType.int)) ∈ lw_all := List.mem_filter.mpr ⟨List.mem_of_getElem? (i := 930) rfl, rfl⟩
set_option maxRecDepth 100000 in
theorem q_931 : (Cond.methodLink RX6 (169 : Nat) yX6_fullest) ∈ lw_all := List.mem_filter.mpr ⟨List.mem_of_getElem? (i := 931) rfl, rfl⟩
set_option maxRecDepth 100000 in
theorem q_933 : (Cond.instanceMethod yX6_fullest) ∈ lw_all := List.mem_filter.mpr ⟨List.mem_of_getElem? (i := 933) rfl, rfl⟩
set_option maxRecDepth 100000 in
theorem q_934 : (Cond.code yX6_fullest prog_8_method_58_code (3 : Nat) (Option.some FieldType.int)) ∈ lw_all := List.mem_filter.mpr ⟨List.mem_of_getElem? (i := 934) rfl, rfl⟩
set_option maxRecDepth 100000 in
theorem q_935 : (Cond.methodLink RL (114 : Nat) yX6_most) ∈ lw_all := List.mem_filter.mpr ⟨List.mem_of_getElem? (i := 935) rfl, rfl⟩
set_option maxRecDepth 100000 in
theorem q_936 : (Cond.instanceMethod yX6_most) ∈ lw_all := List.mem_filter.mpr ⟨List.mem_of_getElem? (i := 936) rfl, rfl⟩
set_option maxRecDepth 100000 in
theorem q_937 : (Cond.selects RX6 yX6_most yX6_most) ∈ lw_all := List.mem_filter.mpr ⟨List.mem_of_getElem? (i := 937) rfl, rfl⟩
set_option maxRecDepth 100000 in
theorem q_938 : (Cond.code yX6_most prog_8_method_60_code (3 : Nat) (Option.some FieldType.int)) ∈ lw_all := List.mem_filter.mpr ⟨List.mem_of_getElem? (i := 938) rfl, rfl⟩
set_option maxRecDepth 100000 in
theorem q_939 : (Cond.methodLink RL (118 : Nat) yX6_emptyIn) ∈ lw_all := List.mem_filter.mpr ⟨List.mem_of_getElem? (i := 939) rfl, rfl⟩
set_option maxRecDepth 100000 in
theorem q_940 : (Cond.instanceMethod yX6_emptyIn) ∈ lw_all := List.mem_filter.mpr ⟨List.mem_of_getElem? (i := 940) rfl, rfl⟩
set_option maxRecDepth 100000 in
theorem q_941 : (Cond.selects RX6 yX6_emptyIn yX6_emptyIn) ∈ lw_all := List.mem_filter.mpr ⟨List.mem_of_getElem? (i := 941) rfl, rfl⟩
set_option maxRecDepth 100000 in
theorem q_942 : (Cond.code yX6_emptyIn prog_8_method_61_code (2 : Nat) (Option.some FieldType.int)) ∈ lw_all := List.mem_filter.mpr ⟨List.mem_of_getElem? (i := 942) rfl, rfl⟩
set_option maxRecDepth 100000 in
theorem q_943 : (Cond.methodLink RL (122 : Nat) yX6_leftWithout) ∈ lw_all := List.mem_filter.mpr ⟨List.mem_of_getElem? (i := 943) rfl, rfl⟩
set_option maxRecDepth 100000 in
theorem q_944 : (Cond.instanceMethod yX6_leftWithout) ∈ lw_all := List.mem_filter.mpr ⟨List.mem_of_getElem? (i := 944) rfl, rfl⟩
set_option maxRecDepth 100000 in
theorem q_945 : (Cond.selects RX6 yX6_leftWithout yX6_leftWithout) ∈ lw_all := List.mem_filter.mpr ⟨List.mem_of_getElem? (i := 945) rfl, rfl⟩
set_option maxRecDepth 100000 in
theorem q_946 : (Cond.code yX6_leftWithout prog_8_method_62_code (4 : Nat) (Option.some FieldType.int)) ∈ lw_all := List.mem_filter.mpr ⟨List.mem_of_getElem? (i := 946) rfl, rfl⟩
set_option maxRecDepth 100000 in
theorem q_947 : (Cond.methodLink RL (127 : Nat) yX6_fullness) ∈ lw_all := List.mem_filter.mpr ⟨List.mem_of_getElem? (i := 947) rfl, rfl⟩
set_option maxRecDepth 100000 in
theorem q_948 : (Cond.instanceMethod yX6_fullness) ∈ lw_all := List.mem_filter.mpr ⟨List.mem_of_getElem? (i := 948) rfl, rfl⟩
set_option maxRecDepth 100000 in
theorem q_949 : (Cond.selects RX6 yX6_fullness yX6_fullness) ∈ lw_all := List.mem_filter.mpr ⟨List.mem_of_getElem? (i := 949) rfl, rfl⟩
set_option maxRecDepth 100000 in
theorem q_950 : (Cond.code yX6_fullness prog_8_method_63_code (3 : Nat) (Option.some FieldType.double)) ∈ lw_all := List.mem_filter.mpr ⟨List.mem_of_getElem? (i := 950) rfl, rfl⟩
def lw_nst : List Cond := [(Cond.methodLinkNest RX4 (32 : Nat) yX1_init "HallStiles"), (Cond.fieldLinkNest RX5 (209 : Nat) "HallStiles$Counters" "counts" "[I" "HallStiles"), (Cond.fieldLinkNest RX5 (104 : Nat) "HallStiles$Counters" "slips" "[I" "HallStiles"), (Cond.fieldLinkNest RX5 (212 : Nat) "HallStiles$Counters" "missed" "[I" "HallStiles"), (Cond.fieldLinkNest RX5 (88 : Nat) "HallStiles$State" "rooms" "[I" "HallStiles"), (Cond.fieldLinkNest RX5 (84 : Nat) "HallStiles$State" "people" "[I" "HallStiles"), (Cond.fieldLinkNest RX5 (203 : Nat) "HallStiles$State" "firsts" "[I" "HallStiles"), (Cond.fieldLinkNest RX5 (206 : Nat) "HallStiles$State" "seconds" "[I" "HallStiles"), (Cond.fieldLinkNest RX5 (69 : Nat) "HallStiles$State" "ways" "[I" "HallStiles"), (Cond.fieldLinkNest RX5 (138 : Nat) "HallStiles$State" "repairs" "[I" "HallStiles"), (Cond.fieldLinkNest RX5 (100 : Nat) "HallStiles$State" "counters" "LHallStiles$Counters;" "HallStiles"), (Cond.fieldLinkNest RX5 (53 : Nat) "HallStiles$State" "stiles" "I" "HallStiles"), (Cond.fieldLinkNest RX0 (24 : Nat) "HallStiles$State" "stiles" "I" "HallStiles"), (Cond.fieldLinkNest RX0 (45 : Nat) "HallStiles$State" "rate" "I" "HallStiles"), (Cond.fieldLinkNest RX5 (155 : Nat) "HallStiles$State" "rate" "I" "HallStiles"), (Cond.fieldLinkNest RX5 (158 : Nat) "HallStiles$State" "repairHours" "I" "HallStiles"), (Cond.fieldLinkNest RX5 (135 : Nat) "HallStiles$State" "clock" "I" "HallStiles"), (Cond.fieldLinkNest RX5 (181 : Nat) "HallStiles$History" "size" "I" "HallStiles"), (Cond.methodLinkNest RX5 (31 : Nat) yX0_init "HallStiles"), (Cond.methodLinkNest RX5 (38 : Nat) yX3_init "HallStiles"), (Cond.fieldLinkNest RX5 (161 : Nat) "HallStiles$Script" "length" "I" "HallStiles"), (Cond.fieldLinkNest RX5 (265 : Nat) "HallStiles$Script" "orderStile" "I" "HallStiles"), (Cond.fieldLinkNest RX5 (249 : Nat) "HallStiles$Script" "orderKind" "I" "HallStiles"), (Cond.fieldLinkNest RX5 (262 : Nat) "HallStiles$Script" "orderNumber" "I" "HallStiles"), (Cond.methodLinkNest RX4 (50 : Nat) yX5_copyRow "HallStiles"), (Cond.methodLinkNest RX1 (24 : Nat) yX5_copyRow "HallStiles"), (Cond.methodLinkNest RX4 (58 : Nat) yX5_put "HallStiles"), (Cond.methodLinkNest RX1 (28 : Nat) yX5_put "HallStiles"), (Cond.methodLinkNest RX4 (62 : Nat) yX5_at "HallStiles"), (Cond.methodLinkNest RX4 (104 : Nat) yX5_add "HallStiles"), (Cond.methodLinkNest RX4 (98 : Nat) yX5_counterIndex "HallStiles"), (Cond.methodLinkNest RX1 (32 : Nat) yX5_at "HallStiles"), (Cond.methodLinkNest RX1 (36 : Nat) yX5_add "HallStiles"), (Cond.methodLinkNest RX1 (39 : Nat) yX5_counterIndex "HallStiles"), (Cond.methodLinkNest RX0 (61 : Nat) yX5_put "HallStiles"), (Cond.methodLinkNest RX0 (19 : Nat) yX5_at "HallStiles"), (Cond.methodLinkNest RX3 (31 : Nat) yX5_put "HallStiles"), (Cond.methodLinkNest RX3 (35 : Nat) yX5_at "HallStiles")]
def lw_isNst : Cond → Bool
  | .fieldLinkNest .. => true
  | .methodLinkNest .. => true
  | _ => false
theorem lw_nst_all : lw_nst.all lw_isNst = true := rfl
theorem k_0 : (Cond.methodLinkNest RX4 (32 : Nat) yX1_init "HallStiles") ∈ lw_nst := List.mem_of_getElem? (i := 0) rfl
set_option maxRecDepth 100000 in
theorem kt_0 : (Cond.methodLinkNest RX4 (32 : Nat) yX1_init "HallStiles") ∈ lw_tbl := List.mem_of_getElem? (i := 75) rfl
theorem k_1 : (Cond.fieldLinkNest RX5 (209 : Nat) "HallStiles$Counters" "counts" "[I" "HallStiles") ∈ lw_nst := List.mem_of_getElem? (i := 1) rfl
set_option maxRecDepth 100000 in
theorem kt_1 : (Cond.fieldLinkNest RX5 (209 : Nat) "HallStiles$Counters" "counts" "[I" "HallStiles") ∈ lw_tbl := List.mem_of_getElem? (i := 80) rfl
theorem k_2 : (Cond.fieldLinkNest RX5 (104 : Nat) "HallStiles$Counters" "slips" "[I" "HallStiles") ∈ lw_nst := List.mem_of_getElem? (i := 2) rfl
set_option maxRecDepth 100000 in
theorem kt_2 : (Cond.fieldLinkNest RX5 (104 : Nat) "HallStiles$Counters" "slips" "[I" "HallStiles") ∈ lw_tbl := List.mem_of_getElem? (i := 82) rfl
theorem k_3 : (Cond.fieldLinkNest RX5 (212 : Nat) "HallStiles$Counters" "missed" "[I" "HallStiles") ∈ lw_nst := List.mem_of_getElem? (i := 3) rfl
set_option maxRecDepth 100000 in
theorem kt_3 : (Cond.fieldLinkNest RX5 (212 : Nat) "HallStiles$Counters" "missed" "[I" "HallStiles") ∈ lw_tbl := List.mem_of_getElem? (i := 85) rfl
theorem k_4 : (Cond.fieldLinkNest RX5 (88 : Nat) "HallStiles$State" "rooms" "[I" "HallStiles") ∈ lw_nst := List.mem_of_getElem? (i := 4) rfl
set_option maxRecDepth 100000 in
theorem kt_4 : (Cond.fieldLinkNest RX5 (88 : Nat) "HallStiles$State" "rooms" "[I" "HallStiles") ∈ lw_tbl := List.mem_of_getElem? (i := 97) rfl
theorem k_5 : (Cond.fieldLinkNest RX5 (84 : Nat) "HallStiles$State" "people" "[I" "HallStiles") ∈ lw_nst := List.mem_of_getElem? (i := 5) rfl
set_option maxRecDepth 100000 in
theorem kt_5 : (Cond.fieldLinkNest RX5 (84 : Nat) "HallStiles$State" "people" "[I" "HallStiles") ∈ lw_tbl := List.mem_of_getElem? (i := 99) rfl
theorem k_6 : (Cond.fieldLinkNest RX5 (203 : Nat) "HallStiles$State" "firsts" "[I" "HallStiles") ∈ lw_nst := List.mem_of_getElem? (i := 6) rfl
set_option maxRecDepth 100000 in
theorem kt_6 : (Cond.fieldLinkNest RX5 (203 : Nat) "HallStiles$State" "firsts" "[I" "HallStiles") ∈ lw_tbl := List.mem_of_getElem? (i := 101) rfl
theorem k_7 : (Cond.fieldLinkNest RX5 (206 : Nat) "HallStiles$State" "seconds" "[I" "HallStiles") ∈ lw_nst := List.mem_of_getElem? (i := 7) rfl
set_option maxRecDepth 100000 in
theorem kt_7 : (Cond.fieldLinkNest RX5 (206 : Nat) "HallStiles$State" "seconds" "[I" "HallStiles") ∈ lw_tbl := List.mem_of_getElem? (i := 103) rfl
theorem k_8 : (Cond.fieldLinkNest RX5 (69 : Nat) "HallStiles$State" "ways" "[I" "HallStiles") ∈ lw_nst := List.mem_of_getElem? (i := 8) rfl
set_option maxRecDepth 100000 in
theorem kt_8 : (Cond.fieldLinkNest RX5 (69 : Nat) "HallStiles$State" "ways" "[I" "HallStiles") ∈ lw_tbl := List.mem_of_getElem? (i := 105) rfl
theorem k_9 : (Cond.fieldLinkNest RX5 (138 : Nat) "HallStiles$State" "repairs" "[I" "HallStiles") ∈ lw_nst := List.mem_of_getElem? (i := 9) rfl
set_option maxRecDepth 100000 in
theorem kt_9 : (Cond.fieldLinkNest RX5 (138 : Nat) "HallStiles$State" "repairs" "[I" "HallStiles") ∈ lw_tbl := List.mem_of_getElem? (i := 107) rfl
theorem k_10 : (Cond.fieldLinkNest RX5 (100 : Nat) "HallStiles$State" "counters" "LHallStiles$Counters;" "HallStiles") ∈ lw_nst := List.mem_of_getElem? (i := 10) rfl
set_option maxRecDepth 100000 in
theorem kt_10 : (Cond.fieldLinkNest RX5 (100 : Nat) "HallStiles$State" "counters" "LHallStiles$Counters;" "HallStiles") ∈ lw_tbl := List.mem_of_getElem? (i := 109) rfl
theorem k_11 : (Cond.fieldLinkNest RX5 (53 : Nat) "HallStiles$State" "stiles" "I" "HallStiles") ∈ lw_nst := List.mem_of_getElem? (i := 11) rfl
set_option maxRecDepth 100000 in
theorem kt_11 : (Cond.fieldLinkNest RX5 (53 : Nat) "HallStiles$State" "stiles" "I" "HallStiles") ∈ lw_tbl := List.mem_of_getElem? (i := 111) rfl
theorem k_12 : (Cond.fieldLinkNest RX0 (24 : Nat) "HallStiles$State" "stiles" "I" "HallStiles") ∈ lw_nst := List.mem_of_getElem? (i := 12) rfl
set_option maxRecDepth 100000 in
theorem kt_12 : (Cond.fieldLinkNest RX0 (24 : Nat) "HallStiles$State" "stiles" "I" "HallStiles") ∈ lw_tbl := List.mem_of_getElem? (i := 112) rfl
theorem k_13 : (Cond.fieldLinkNest RX0 (45 : Nat) "HallStiles$State" "rate" "I" "HallStiles") ∈ lw_nst := List.mem_of_getElem? (i := 13) rfl
set_option maxRecDepth 100000 in
theorem kt_13 : (Cond.fieldLinkNest RX0 (45 : Nat) "HallStiles$State" "rate" "I" "HallStiles") ∈ lw_tbl := List.mem_of_getElem? (i := 114) rfl
theorem k_14 : (Cond.fieldLinkNest RX5 (155 : Nat) "HallStiles$State" "rate" "I" "HallStiles") ∈ lw_nst := List.mem_of_getElem? (i := 14) rfl
set_option maxRecDepth 100000 in
theorem kt_14 : (Cond.fieldLinkNest RX5 (155 : Nat) "HallStiles$State" "rate" "I" "HallStiles") ∈ lw_tbl := List.mem_of_getElem? (i := 115) rfl
theorem k_15 : (Cond.fieldLinkNest RX5 (158 : Nat) "HallStiles$State" "repairHours" "I" "HallStiles") ∈ lw_nst := List.mem_of_getElem? (i := 15) rfl
set_option maxRecDepth 100000 in
theorem kt_15 : (Cond.fieldLinkNest RX5 (158 : Nat) "HallStiles$State" "repairHours" "I" "HallStiles") ∈ lw_tbl := List.mem_of_getElem? (i := 117) rfl
theorem k_16 : (Cond.fieldLinkNest RX5 (135 : Nat) "HallStiles$State" "clock" "I" "HallStiles") ∈ lw_nst := List.mem_of_getElem? (i := 16) rfl
set_option maxRecDepth 100000 in
theorem kt_16 : (Cond.fieldLinkNest RX5 (135 : Nat) "HallStiles$State" "clock" "I" "HallStiles") ∈ lw_tbl := List.mem_of_getElem? (i := 119) rfl
theorem k_17 : (Cond.fieldLinkNest RX5 (181 : Nat) "HallStiles$History" "size" "I" "HallStiles") ∈ lw_nst := List.mem_of_getElem? (i := 17) rfl
set_option maxRecDepth 100000 in
theorem kt_17 : (Cond.fieldLinkNest RX5 (181 : Nat) "HallStiles$History" "size" "I" "HallStiles") ∈ lw_tbl := List.mem_of_getElem? (i := 155) rfl
theorem k_18 : (Cond.methodLinkNest RX5 (31 : Nat) yX0_init "HallStiles") ∈ lw_nst := List.mem_of_getElem? (i := 18) rfl
set_option maxRecDepth 100000 in
theorem kt_18 : (Cond.methodLinkNest RX5 (31 : Nat) yX0_init "HallStiles") ∈ lw_tbl := List.mem_of_getElem? (i := 165) rfl
theorem k_19 : (Cond.methodLinkNest RX5 (38 : Nat) yX3_init "HallStiles") ∈ lw_nst := List.mem_of_getElem? (i := 19) rfl
set_option maxRecDepth 100000 in
theorem kt_19 : (Cond.methodLinkNest RX5 (38 : Nat) yX3_init "HallStiles") ∈ lw_tbl := List.mem_of_getElem? (i := 175) rfl
theorem k_20 : (Cond.fieldLinkNest RX5 (161 : Nat) "HallStiles$Script" "length" "I" "HallStiles") ∈ lw_nst := List.mem_of_getElem? (i := 20) rfl
set_option maxRecDepth 100000 in
theorem kt_20 : (Cond.fieldLinkNest RX5 (161 : Nat) "HallStiles$Script" "length" "I" "HallStiles") ∈ lw_tbl := List.mem_of_getElem? (i := 181) rfl
theorem k_21 : (Cond.fieldLinkNest RX5 (265 : Nat) "HallStiles$Script" "orderStile" "I" "HallStiles") ∈ lw_nst := List.mem_of_getElem? (i := 21) rfl
set_option maxRecDepth 100000 in
theorem kt_21 : (Cond.fieldLinkNest RX5 (265 : Nat) "HallStiles$Script" "orderStile" "I" "HallStiles") ∈ lw_tbl := List.mem_of_getElem? (i := 184) rfl
theorem k_22 : (Cond.fieldLinkNest RX5 (249 : Nat) "HallStiles$Script" "orderKind" "I" "HallStiles") ∈ lw_nst := List.mem_of_getElem? (i := 22) rfl
set_option maxRecDepth 100000 in
theorem kt_22 : (Cond.fieldLinkNest RX5 (249 : Nat) "HallStiles$Script" "orderKind" "I" "HallStiles") ∈ lw_tbl := List.mem_of_getElem? (i := 186) rfl
theorem k_23 : (Cond.fieldLinkNest RX5 (262 : Nat) "HallStiles$Script" "orderNumber" "I" "HallStiles") ∈ lw_nst := List.mem_of_getElem? (i := 23) rfl
set_option maxRecDepth 100000 in
theorem kt_23 : (Cond.fieldLinkNest RX5 (262 : Nat) "HallStiles$Script" "orderNumber" "I" "HallStiles") ∈ lw_tbl := List.mem_of_getElem? (i := 188) rfl
theorem k_24 : (Cond.methodLinkNest RX4 (50 : Nat) yX5_copyRow "HallStiles") ∈ lw_nst := List.mem_of_getElem? (i := 24) rfl
set_option maxRecDepth 100000 in
theorem kt_24 : (Cond.methodLinkNest RX4 (50 : Nat) yX5_copyRow "HallStiles") ∈ lw_tbl := List.mem_of_getElem? (i := 246) rfl
theorem k_25 : (Cond.methodLinkNest RX1 (24 : Nat) yX5_copyRow "HallStiles") ∈ lw_nst := List.mem_of_getElem? (i := 25) rfl
set_option maxRecDepth 100000 in
theorem kt_25 : (Cond.methodLinkNest RX1 (24 : Nat) yX5_copyRow "HallStiles") ∈ lw_tbl := List.mem_of_getElem? (i := 253) rfl
theorem k_26 : (Cond.methodLinkNest RX4 (58 : Nat) yX5_put "HallStiles") ∈ lw_nst := List.mem_of_getElem? (i := 26) rfl
set_option maxRecDepth 100000 in
theorem kt_26 : (Cond.methodLinkNest RX4 (58 : Nat) yX5_put "HallStiles") ∈ lw_tbl := List.mem_of_getElem? (i := 258) rfl
theorem k_27 : (Cond.methodLinkNest RX1 (28 : Nat) yX5_put "HallStiles") ∈ lw_nst := List.mem_of_getElem? (i := 27) rfl
set_option maxRecDepth 100000 in
theorem kt_27 : (Cond.methodLinkNest RX1 (28 : Nat) yX5_put "HallStiles") ∈ lw_tbl := List.mem_of_getElem? (i := 298) rfl
theorem k_28 : (Cond.methodLinkNest RX4 (62 : Nat) yX5_at "HallStiles") ∈ lw_nst := List.mem_of_getElem? (i := 28) rfl
set_option maxRecDepth 100000 in
theorem kt_28 : (Cond.methodLinkNest RX4 (62 : Nat) yX5_at "HallStiles") ∈ lw_tbl := List.mem_of_getElem? (i := 318) rfl
theorem k_29 : (Cond.methodLinkNest RX4 (104 : Nat) yX5_add "HallStiles") ∈ lw_nst := List.mem_of_getElem? (i := 29) rfl
set_option maxRecDepth 100000 in
theorem kt_29 : (Cond.methodLinkNest RX4 (104 : Nat) yX5_add "HallStiles") ∈ lw_tbl := List.mem_of_getElem? (i := 350) rfl
theorem k_30 : (Cond.methodLinkNest RX4 (98 : Nat) yX5_counterIndex "HallStiles") ∈ lw_nst := List.mem_of_getElem? (i := 30) rfl
set_option maxRecDepth 100000 in
theorem kt_30 : (Cond.methodLinkNest RX4 (98 : Nat) yX5_counterIndex "HallStiles") ∈ lw_tbl := List.mem_of_getElem? (i := 353) rfl
theorem k_31 : (Cond.methodLinkNest RX1 (32 : Nat) yX5_at "HallStiles") ∈ lw_nst := List.mem_of_getElem? (i := 31) rfl
set_option maxRecDepth 100000 in
theorem kt_31 : (Cond.methodLinkNest RX1 (32 : Nat) yX5_at "HallStiles") ∈ lw_tbl := List.mem_of_getElem? (i := 358) rfl
theorem k_32 : (Cond.methodLinkNest RX1 (36 : Nat) yX5_add "HallStiles") ∈ lw_nst := List.mem_of_getElem? (i := 32) rfl
set_option maxRecDepth 100000 in
theorem kt_32 : (Cond.methodLinkNest RX1 (36 : Nat) yX5_add "HallStiles") ∈ lw_tbl := List.mem_of_getElem? (i := 359) rfl
theorem k_33 : (Cond.methodLinkNest RX1 (39 : Nat) yX5_counterIndex "HallStiles") ∈ lw_nst := List.mem_of_getElem? (i := 33) rfl
set_option maxRecDepth 100000 in
theorem kt_33 : (Cond.methodLinkNest RX1 (39 : Nat) yX5_counterIndex "HallStiles") ∈ lw_tbl := List.mem_of_getElem? (i := 368) rfl
theorem k_34 : (Cond.methodLinkNest RX0 (61 : Nat) yX5_put "HallStiles") ∈ lw_nst := List.mem_of_getElem? (i := 34) rfl
set_option maxRecDepth 100000 in
theorem kt_34 : (Cond.methodLinkNest RX0 (61 : Nat) yX5_put "HallStiles") ∈ lw_tbl := List.mem_of_getElem? (i := 431) rfl
theorem k_35 : (Cond.methodLinkNest RX0 (19 : Nat) yX5_at "HallStiles") ∈ lw_nst := List.mem_of_getElem? (i := 35) rfl
set_option maxRecDepth 100000 in
theorem kt_35 : (Cond.methodLinkNest RX0 (19 : Nat) yX5_at "HallStiles") ∈ lw_tbl := List.mem_of_getElem? (i := 444) rfl
theorem k_36 : (Cond.methodLinkNest RX3 (31 : Nat) yX5_put "HallStiles") ∈ lw_nst := List.mem_of_getElem? (i := 36) rfl
set_option maxRecDepth 100000 in
theorem kt_36 : (Cond.methodLinkNest RX3 (31 : Nat) yX5_put "HallStiles") ∈ lw_tbl := List.mem_of_getElem? (i := 475) rfl
theorem k_37 : (Cond.methodLinkNest RX3 (35 : Nat) yX5_at "HallStiles") ∈ lw_nst := List.mem_of_getElem? (i := 37) rfl
set_option maxRecDepth 100000 in
theorem kt_37 : (Cond.methodLinkNest RX3 (35 : Nat) yX5_at "HallStiles") ∈ lw_tbl := List.mem_of_getElem? (i := 488) rfl
theorem lw_nst_tbl : ∀ w ∈ lw_nst, w ∈ lw_tbl := List.forall_mem_cons.mpr ⟨kt_0, List.forall_mem_cons.mpr ⟨kt_1, List.forall_mem_cons.mpr ⟨kt_2, List.forall_mem_cons.mpr ⟨kt_3, List.forall_mem_cons.mpr ⟨kt_4, List.forall_mem_cons.mpr ⟨kt_5, List.forall_mem_cons.mpr ⟨kt_6, List.forall_mem_cons.mpr ⟨kt_7, List.forall_mem_cons.mpr ⟨kt_8, List.forall_mem_cons.mpr ⟨kt_9, List.forall_mem_cons.mpr ⟨kt_10, List.forall_mem_cons.mpr ⟨kt_11, List.forall_mem_cons.mpr ⟨kt_12, List.forall_mem_cons.mpr ⟨kt_13, List.forall_mem_cons.mpr ⟨kt_14, List.forall_mem_cons.mpr ⟨kt_15, List.forall_mem_cons.mpr ⟨kt_16, List.forall_mem_cons.mpr ⟨kt_17, List.forall_mem_cons.mpr ⟨kt_18, List.forall_mem_cons.mpr ⟨kt_19, List.forall_mem_cons.mpr ⟨kt_20, List.forall_mem_cons.mpr ⟨kt_21, List.forall_mem_cons.mpr ⟨kt_22, List.forall_mem_cons.mpr ⟨kt_23, List.forall_mem_cons.mpr ⟨kt_24, List.forall_mem_cons.mpr ⟨kt_25, List.forall_mem_cons.mpr ⟨kt_26, List.forall_mem_cons.mpr ⟨kt_27, List.forall_mem_cons.mpr ⟨kt_28, List.forall_mem_cons.mpr ⟨kt_29, List.forall_mem_cons.mpr ⟨kt_30, List.forall_mem_cons.mpr ⟨kt_31, List.forall_mem_cons.mpr ⟨kt_32, List.forall_mem_cons.mpr ⟨kt_33, List.forall_mem_cons.mpr ⟨kt_34, List.forall_mem_cons.mpr ⟨kt_35, List.forall_mem_cons.mpr ⟨kt_36, List.forall_mem_cons.mpr ⟨kt_37, fun _ h => absurd h List.not_mem_nil⟩⟩⟩⟩⟩⟩⟩⟩⟩⟩⟩⟩⟩⟩⟩⟩⟩⟩⟩⟩⟩⟩⟩⟩⟩⟩⟩⟩⟩⟩⟩⟩⟩⟩⟩⟩⟩⟩
theorem uw0 : ∀ w ∈ u_ws RX0 TX0 1, w ∈ lw_all := by
  show ∀ w ∈ (List.range 1).map (u_lay RX0 TX0), w ∈ lw_all
  exact List.forall_mem_cons.mpr ⟨q_170, fun _ h => absurd h List.not_mem_nil⟩
theorem uw1 : ∀ w ∈ u_ws RX1 TX1 4, w ∈ lw_all := by
  show ∀ w ∈ (List.range 4).map (u_lay RX1 TX1), w ∈ lw_all
  exact List.forall_mem_cons.mpr ⟨q_86, List.forall_mem_cons.mpr ⟨q_88, List.forall_mem_cons.mpr ⟨q_90, List.forall_mem_cons.mpr ⟨q_92, fun _ h => absurd h List.not_mem_nil⟩⟩⟩⟩
theorem uw2 : ∀ w ∈ u_ws RX2 TX2 3, w ∈ lw_all := by
  show ∀ w ∈ (List.range 3).map (u_lay RX2 TX2), w ∈ lw_all
  exact List.forall_mem_cons.mpr ⟨q_156, List.forall_mem_cons.mpr ⟨q_158, List.forall_mem_cons.mpr ⟨q_160, fun _ h => absurd h List.not_mem_nil⟩⟩⟩
theorem uw3 : ∀ w ∈ u_ws RX3 TX3 6, w ∈ lw_all := by
  show ∀ w ∈ (List.range 6).map (u_lay RX3 TX3), w ∈ lw_all
  exact List.forall_mem_cons.mpr ⟨q_189, List.forall_mem_cons.mpr ⟨q_191, List.forall_mem_cons.mpr ⟨q_193, List.forall_mem_cons.mpr ⟨q_195, List.forall_mem_cons.mpr ⟨q_197, List.forall_mem_cons.mpr ⟨q_199, fun _ h => absurd h List.not_mem_nil⟩⟩⟩⟩⟩⟩
theorem uw4 : ∀ w ∈ u_ws RX4 TX4 11, w ∈ lw_all := by
  show ∀ w ∈ (List.range 11).map (u_lay RX4 TX4), w ∈ lw_all
  exact List.forall_mem_cons.mpr ⟨q_120, List.forall_mem_cons.mpr ⟨q_122, List.forall_mem_cons.mpr ⟨q_124, List.forall_mem_cons.mpr ⟨q_126, List.forall_mem_cons.mpr ⟨q_128, List.forall_mem_cons.mpr ⟨q_130, List.forall_mem_cons.mpr ⟨q_132, List.forall_mem_cons.mpr ⟨q_134, List.forall_mem_cons.mpr ⟨q_136, List.forall_mem_cons.mpr ⟨q_138, List.forall_mem_cons.mpr ⟨q_140, fun _ h => absurd h List.not_mem_nil⟩⟩⟩⟩⟩⟩⟩⟩⟩⟩⟩
theorem uw5 : ∀ w ∈ u_ws RX5 TX5 7, w ∈ lw_all := by
  show ∀ w ∈ (List.range 7).map (u_lay RX5 TX5), w ∈ lw_all
  exact List.forall_mem_cons.mpr ⟨q_209, List.forall_mem_cons.mpr ⟨q_211, List.forall_mem_cons.mpr ⟨q_213, List.forall_mem_cons.mpr ⟨q_215, List.forall_mem_cons.mpr ⟨q_217, List.forall_mem_cons.mpr ⟨q_219, List.forall_mem_cons.mpr ⟨q_221, fun _ h => absurd h List.not_mem_nil⟩⟩⟩⟩⟩⟩⟩
theorem uw6 : ∀ w ∈ u_ws RX6 TX6 11, w ∈ lw_all := by
  show ∀ w ∈ (List.range 11).map (u_lay RX6 TX6), w ∈ lw_all
  exact List.forall_mem_cons.mpr ⟨q_679, List.forall_mem_cons.mpr ⟨q_681, List.forall_mem_cons.mpr ⟨q_683, List.forall_mem_cons.mpr ⟨q_685, List.forall_mem_cons.mpr ⟨q_687, List.forall_mem_cons.mpr ⟨q_689, List.forall_mem_cons.mpr ⟨q_691, List.forall_mem_cons.mpr ⟨q_693, List.forall_mem_cons.mpr ⟨q_695, List.forall_mem_cons.mpr ⟨q_697, List.forall_mem_cons.mpr ⟨q_699, fun _ h => absurd h List.not_mem_nil⟩⟩⟩⟩⟩⟩⟩⟩⟩⟩⟩
