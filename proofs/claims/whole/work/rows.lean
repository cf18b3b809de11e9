section
-- ===== PART A: goes FIRST, ahead of the names: the tables' words, and 'selects' of the private methods out of them =====
/-- a private method of a class that the tables say can be made, by its rows of tables_1 -/
def lw_okq (q : MethodName × Nat) : Prop := (q.1.cls ≠ "java/lang/invoke/MethodHandle" ∧ q.1.cls ≠ "java/lang/invoke/VarHandle") ∧ Cond.instantiable q.1.cls q.2 ∈ tables_1 ∧ Cond.privateMethod q.1 ∈ tables_1 ∧ Cond.instanceMethod q.1 ∈ tables_1
theorem lw_p0 : lw_okq (⟨"HallStiles$History", "stateAt", "(I)LHallStiles$State;"⟩, 3) := ⟨⟨by decide +kernel, by decide +kernel⟩, List.mem_of_getElem? (i := 94) (by decide +kernel), List.mem_of_getElem? (i := 189) (by decide +kernel), List.mem_of_getElem? (i := 190) (by decide +kernel)⟩
theorem lw_p1 : lw_okq (⟨"HallStiles", "passError", "(IZI)I"⟩, 7) := ⟨⟨by decide +kernel, by decide +kernel⟩, List.mem_of_getElem? (i := 10) (by decide +kernel), List.mem_of_getElem? (i := 254) (by decide +kernel), List.mem_of_getElem? (i := 255) (by decide +kernel)⟩
theorem lw_p2 : lw_okq (⟨"HallStiles$State", "readyToLeave", "(I)I"⟩, 11) := ⟨⟨by decide +kernel, by decide +kernel⟩, List.mem_of_getElem? (i := 18) (by decide +kernel), List.mem_of_getElem? (i := 278) (by decide +kernel), List.mem_of_getElem? (i := 279) (by decide +kernel)⟩
theorem lw_p3 : lw_okq (⟨"HallStiles$State", "roomLeft", "(I)I"⟩, 11) := ⟨⟨by decide +kernel, by decide +kernel⟩, List.mem_of_getElem? (i := 18) (by decide +kernel), List.mem_of_getElem? (i := 289) (by decide +kernel), List.mem_of_getElem? (i := 290) (by decide +kernel)⟩
theorem lw_p4 : lw_okq (⟨"HallStiles$State", "moveTo", "(II)V"⟩, 11) := ⟨⟨by decide +kernel, by decide +kernel⟩, List.mem_of_getElem? (i := 18) (by decide +kernel), List.mem_of_getElem? (i := 297) (by decide +kernel), List.mem_of_getElem? (i := 298) (by decide +kernel)⟩
theorem lw_p5 : lw_okq (⟨"HallStiles$Counters", "makePairAgree", "(III)V"⟩, 4) := ⟨⟨by decide +kernel, by decide +kernel⟩, List.mem_of_getElem? (i := 24) (by decide +kernel), List.mem_of_getElem? (i := 331) (by decide +kernel), List.mem_of_getElem? (i := 332) (by decide +kernel)⟩
theorem lw_p6 : lw_okq (⟨"HallStiles", "repairError", "(I)I"⟩, 7) := ⟨⟨by decide +kernel, by decide +kernel⟩, List.mem_of_getElem? (i := 10) (by decide +kernel), List.mem_of_getElem? (i := 342) (by decide +kernel), List.mem_of_getElem? (i := 343) (by decide +kernel)⟩
theorem lw_p7 : lw_okq (⟨"HallStiles$Closing", "measureDistances", "(LHallStiles$State;)V"⟩, 1) := ⟨⟨by decide +kernel, by decide +kernel⟩, List.mem_of_getElem? (i := 114) (by decide +kernel), List.mem_of_getElem? (i := 378) (by decide +kernel), List.mem_of_getElem? (i := 379) (by decide +kernel)⟩
theorem lw_p8 : lw_okq (⟨"HallStiles$Closing", "comeNearer", "(LHallStiles$State;IZ)Z"⟩, 1) := ⟨⟨by decide +kernel, by decide +kernel⟩, List.mem_of_getElem? (i := 114) (by decide +kernel), List.mem_of_getElem? (i := 383) (by decide +kernel), List.mem_of_getElem? (i := 384) (by decide +kernel)⟩
theorem lw_p9 : lw_okq (⟨"HallStiles$Closing", "leaveThrough", "(LHallStiles$State;IZ)I"⟩, 1) := ⟨⟨by decide +kernel, by decide +kernel⟩, List.mem_of_getElem? (i := 114) (by decide +kernel), List.mem_of_getElem? (i := 392) (by decide +kernel), List.mem_of_getElem? (i := 393) (by decide +kernel)⟩
theorem lw_p10 : lw_okq (⟨"HallStiles$Script", "readCharacter", "()I"⟩, 6) := ⟨⟨by decide +kernel, by decide +kernel⟩, List.mem_of_getElem? (i := 124) (by decide +kernel), List.mem_of_getElem? (i := 462) (by decide +kernel), List.mem_of_getElem? (i := 463) (by decide +kernel)⟩
theorem lw_p11 : lw_okq (⟨"HallStiles$Script", "nextCharacter", "()I"⟩, 6) := ⟨⟨by decide +kernel, by decide +kernel⟩, List.mem_of_getElem? (i := 124) (by decide +kernel), List.mem_of_getElem? (i := 466) (by decide +kernel), List.mem_of_getElem? (i := 467) (by decide +kernel)⟩
theorem lw_p12 : lw_okq (⟨"HallStiles$Script", "readNumber", "()I"⟩, 6) := ⟨⟨by decide +kernel, by decide +kernel⟩, List.mem_of_getElem? (i := 124) (by decide +kernel), List.mem_of_getElem? (i := 470) (by decide +kernel), List.mem_of_getElem? (i := 471) (by decide +kernel)⟩
theorem lw_p13 : lw_okq (⟨"HallStiles", "carryOutOrder", "()Z"⟩, 7) := ⟨⟨by decide +kernel, by decide +kernel⟩, List.mem_of_getElem? (i := 10) (by decide +kernel), List.mem_of_getElem? (i := 474) (by decide +kernel), List.mem_of_getElem? (i := 475) (by decide +kernel)⟩
theorem lw_p14 : lw_okq (⟨"HallStiles", "carryOutPass", "(Z)Z"⟩, 7) := ⟨⟨by decide +kernel, by decide +kernel⟩, List.mem_of_getElem? (i := 10) (by decide +kernel), List.mem_of_getElem? (i := 478) (by decide +kernel), List.mem_of_getElem? (i := 479) (by decide +kernel)⟩
theorem lw_p15 : lw_okq (⟨"HallStiles", "carryOutAudit", "()Z"⟩, 7) := ⟨⟨by decide +kernel, by decide +kernel⟩, List.mem_of_getElem? (i := 10) (by decide +kernel), List.mem_of_getElem? (i := 482) (by decide +kernel), List.mem_of_getElem? (i := 483) (by decide +kernel)⟩
def lw_privs_1 : List (MethodName × Nat) := [(⟨"HallStiles$History", "stateAt", "(I)LHallStiles$State;"⟩, 3), (⟨"HallStiles", "passError", "(IZI)I"⟩, 7), (⟨"HallStiles$State", "readyToLeave", "(I)I"⟩, 11), (⟨"HallStiles$State", "roomLeft", "(I)I"⟩, 11), (⟨"HallStiles$State", "moveTo", "(II)V"⟩, 11), (⟨"HallStiles$Counters", "makePairAgree", "(III)V"⟩, 4), (⟨"HallStiles", "repairError", "(I)I"⟩, 7), (⟨"HallStiles$Closing", "measureDistances", "(LHallStiles$State;)V"⟩, 1), (⟨"HallStiles$Closing", "comeNearer", "(LHallStiles$State;IZ)Z"⟩, 1), (⟨"HallStiles$Closing", "leaveThrough", "(LHallStiles$State;IZ)I"⟩, 1), (⟨"HallStiles$Script", "readCharacter", "()I"⟩, 6), (⟨"HallStiles$Script", "nextCharacter", "()I"⟩, 6), (⟨"HallStiles$Script", "readNumber", "()I"⟩, 6), (⟨"HallStiles", "carryOutOrder", "()Z"⟩, 7), (⟨"HallStiles", "carryOutPass", "(Z)Z"⟩, 7), (⟨"HallStiles", "carryOutAudit", "()Z"⟩, 7)]
theorem lw_r1 : ∀ q ∈ lw_privs_1, lw_okq q := List.forall_mem_cons.mpr ⟨lw_p0, List.forall_mem_cons.mpr ⟨lw_p1, List.forall_mem_cons.mpr ⟨lw_p2, List.forall_mem_cons.mpr ⟨lw_p3, List.forall_mem_cons.mpr ⟨lw_p4, List.forall_mem_cons.mpr ⟨lw_p5, List.forall_mem_cons.mpr ⟨lw_p6, List.forall_mem_cons.mpr ⟨lw_p7, List.forall_mem_cons.mpr ⟨lw_p8, List.forall_mem_cons.mpr ⟨lw_p9, List.forall_mem_cons.mpr ⟨lw_p10, List.forall_mem_cons.mpr ⟨lw_p11, List.forall_mem_cons.mpr ⟨lw_p12, List.forall_mem_cons.mpr ⟨lw_p13, List.forall_mem_cons.mpr ⟨lw_p14, List.forall_mem_cons.mpr ⟨lw_p15, fun _ h => absurd h List.not_mem_nil⟩⟩⟩⟩⟩⟩⟩⟩⟩⟩⟩⟩⟩⟩⟩⟩
theorem lw_p16 : lw_okq (⟨"HallStiles", "carryOutRepair", "()Z"⟩, 7) := ⟨⟨by decide +kernel, by decide +kernel⟩, List.mem_of_getElem? (i := 10) (by decide +kernel), List.mem_of_getElem? (i := 486) (by decide +kernel), List.mem_of_getElem? (i := 487) (by decide +kernel)⟩
theorem lw_p17 : lw_okq (⟨"HallStiles$State", "toldByFirstSide", "(I)I"⟩, 11) := ⟨⟨by decide +kernel, by decide +kernel⟩, List.mem_of_getElem? (i := 18) (by decide +kernel), List.mem_of_getElem? (i := 515) (by decide +kernel), List.mem_of_getElem? (i := 516) (by decide +kernel)⟩
theorem lw_p18 : lw_okq (⟨"HallStiles$State", "toldBySecondSide", "(I)I"⟩, 11) := ⟨⟨by decide +kernel, by decide +kernel⟩, List.mem_of_getElem? (i := 18) (by decide +kernel), List.mem_of_getElem? (i := 520) (by decide +kernel), List.mem_of_getElem? (i := 521) (by decide +kernel)⟩
theorem lw_p19 : lw_okq (⟨"HallStilesModel", "records", "()V"⟩, 11) := ⟨⟨by decide +kernel, by decide +kernel⟩, List.mem_of_getElem? (i := 609) (by decide +kernel), List.mem_of_getElem? (i := 660) (by decide +kernel), List.mem_of_getElem? (i := 661) (by decide +kernel)⟩
theorem lw_p20 : lw_okq (⟨"HallStilesModel", "copies", "(II)V"⟩, 11) := ⟨⟨by decide +kernel, by decide +kernel⟩, List.mem_of_getElem? (i := 609) (by decide +kernel), List.mem_of_getElem? (i := 664) (by decide +kernel), List.mem_of_getElem? (i := 665) (by decide +kernel)⟩
theorem lw_p21 : lw_okq (⟨"HallStilesModel", "isStile", "(I)Z"⟩, 11) := ⟨⟨by decide +kernel, by decide +kernel⟩, List.mem_of_getElem? (i := 609) (by decide +kernel), List.mem_of_getElem? (i := 675) (by decide +kernel), List.mem_of_getElem? (i := 676) (by decide +kernel)⟩
theorem lw_p22 : lw_okq (⟨"HallStilesModel", "wrong", "(IZI)I"⟩, 11) := ⟨⟨by decide +kernel, by decide +kernel⟩, List.mem_of_getElem? (i := 609) (by decide +kernel), List.mem_of_getElem? (i := 698) (by decide +kernel), List.mem_of_getElem? (i := 699) (by decide +kernel)⟩
theorem lw_p23 : lw_okq (⟨"HallStilesModel", "why", "(IIZI)I"⟩, 11) := ⟨⟨by decide +kernel, by decide +kernel⟩, List.mem_of_getElem? (i := 609) (by decide +kernel), List.mem_of_getElem? (i := 702) (by decide +kernel), List.mem_of_getElem? (i := 703) (by decide +kernel)⟩
theorem lw_p24 : lw_okq (⟨"HallStilesModel", "from", "(IZ)I"⟩, 11) := ⟨⟨by decide +kernel, by decide +kernel⟩, List.mem_of_getElem? (i := 609) (by decide +kernel), List.mem_of_getElem? (i := 706) (by decide +kernel), List.mem_of_getElem? (i := 707) (by decide +kernel)⟩
theorem lw_p25 : lw_okq (⟨"HallStilesModel", "to", "(IZ)I"⟩, 11) := ⟨⟨by decide +kernel, by decide +kernel⟩, List.mem_of_getElem? (i := 609) (by decide +kernel), List.mem_of_getElem? (i := 710) (by decide +kernel), List.mem_of_getElem? (i := 711) (by decide +kernel)⟩
theorem lw_p26 : lw_okq (⟨"HallStilesModel", "barred", "(IZ)I"⟩, 11) := ⟨⟨by decide +kernel, by decide +kernel⟩, List.mem_of_getElem? (i := 609) (by decide +kernel), List.mem_of_getElem? (i := 714) (by decide +kernel), List.mem_of_getElem? (i := 715) (by decide +kernel)⟩
theorem lw_p27 : lw_okq (⟨"HallStilesModel", "passes", "(IIZI)V"⟩, 11) := ⟨⟨by decide +kernel, by decide +kernel⟩, List.mem_of_getElem? (i := 609) (by decide +kernel), List.mem_of_getElem? (i := 718) (by decide +kernel), List.mem_of_getElem? (i := 719) (by decide +kernel)⟩
theorem lw_p28 : lw_okq (⟨"HallStilesModel", "counts", "(III)V"⟩, 11) := ⟨⟨by decide +kernel, by decide +kernel⟩, List.mem_of_getElem? (i := 609) (by decide +kernel), List.mem_of_getElem? (i := 722) (by decide +kernel), List.mem_of_getElem? (i := 723) (by decide +kernel)⟩
theorem lw_p29 : lw_okq (⟨"HallStilesModel", "gap", "(I)I"⟩, 11) := ⟨⟨by decide +kernel, by decide +kernel⟩, List.mem_of_getElem? (i := 609) (by decide +kernel), List.mem_of_getElem? (i := 726) (by decide +kernel), List.mem_of_getElem? (i := 727) (by decide +kernel)⟩
theorem lw_p30 : lw_okq (⟨"HallStilesModel", "counted", "(II)I"⟩, 11) := ⟨⟨by decide +kernel, by decide +kernel⟩, List.mem_of_getElem? (i := 609) (by decide +kernel), List.mem_of_getElem? (i := 730) (by decide +kernel), List.mem_of_getElem? (i := 731) (by decide +kernel)⟩
theorem lw_p31 : lw_okq (⟨"HallStilesModel", "audits", "(I)V"⟩, 11) := ⟨⟨by decide +kernel, by decide +kernel⟩, List.mem_of_getElem? (i := 609) (by decide +kernel), List.mem_of_getElem? (i := 741) (by decide +kernel), List.mem_of_getElem? (i := 742) (by decide +kernel)⟩
def lw_privs_2 : List (MethodName × Nat) := [(⟨"HallStiles", "carryOutRepair", "()Z"⟩, 7), (⟨"HallStiles$State", "toldByFirstSide", "(I)I"⟩, 11), (⟨"HallStiles$State", "toldBySecondSide", "(I)I"⟩, 11), (⟨"HallStilesModel", "records", "()V"⟩, 11), (⟨"HallStilesModel", "copies", "(II)V"⟩, 11), (⟨"HallStilesModel", "isStile", "(I)Z"⟩, 11), (⟨"HallStilesModel", "wrong", "(IZI)I"⟩, 11), (⟨"HallStilesModel", "why", "(IIZI)I"⟩, 11), (⟨"HallStilesModel", "from", "(IZ)I"⟩, 11), (⟨"HallStilesModel", "to", "(IZ)I"⟩, 11), (⟨"HallStilesModel", "barred", "(IZ)I"⟩, 11), (⟨"HallStilesModel", "passes", "(IIZI)V"⟩, 11), (⟨"HallStilesModel", "counts", "(III)V"⟩, 11), (⟨"HallStilesModel", "gap", "(I)I"⟩, 11), (⟨"HallStilesModel", "counted", "(II)I"⟩, 11), (⟨"HallStilesModel", "audits", "(I)V"⟩, 11)]
theorem lw_r2 : ∀ q ∈ lw_privs_2, lw_okq q := List.forall_mem_cons.mpr ⟨lw_p16, List.forall_mem_cons.mpr ⟨lw_p17, List.forall_mem_cons.mpr ⟨lw_p18, List.forall_mem_cons.mpr ⟨lw_p19, List.forall_mem_cons.mpr ⟨lw_p20, List.forall_mem_cons.mpr ⟨lw_p21, List.forall_mem_cons.mpr ⟨lw_p22, List.forall_mem_cons.mpr ⟨lw_p23, List.forall_mem_cons.mpr ⟨lw_p24, List.forall_mem_cons.mpr ⟨lw_p25, List.forall_mem_cons.mpr ⟨lw_p26, List.forall_mem_cons.mpr ⟨lw_p27, List.forall_mem_cons.mpr ⟨lw_p28, List.forall_mem_cons.mpr ⟨lw_p29, List.forall_mem_cons.mpr ⟨lw_p30, List.forall_mem_cons.mpr ⟨lw_p31, fun _ h => absurd h List.not_mem_nil⟩⟩⟩⟩⟩⟩⟩⟩⟩⟩⟩⟩⟩⟩⟩⟩
theorem lw_p32 : lw_okq (⟨"HallStilesModel", "hoursPass", "(I)I"⟩, 11) := ⟨⟨by decide +kernel, by decide +kernel⟩, List.mem_of_getElem? (i := 609) (by decide +kernel), List.mem_of_getElem? (i := 753) (by decide +kernel), List.mem_of_getElem? (i := 754) (by decide +kernel)⟩
theorem lw_p33 : lw_okq (⟨"HallStilesModel", "hour", "(I)I"⟩, 11) := ⟨⟨by decide +kernel, by decide +kernel⟩, List.mem_of_getElem? (i := 609) (by decide +kernel), List.mem_of_getElem? (i := 757) (by decide +kernel), List.mem_of_getElem? (i := 758) (by decide +kernel)⟩
theorem lw_p34 : lw_okq (⟨"HallStilesModel", "closes", "(I)I"⟩, 11) := ⟨⟨by decide +kernel, by decide +kernel⟩, List.mem_of_getElem? (i := 609) (by decide +kernel), List.mem_of_getElem? (i := 765) (by decide +kernel), List.mem_of_getElem? (i := 766) (by decide +kernel)⟩
theorem lw_p35 : lw_okq (⟨"HallStilesModel", "distances", "(I)V"⟩, 11) := ⟨⟨by decide +kernel, by decide +kernel⟩, List.mem_of_getElem? (i := 609) (by decide +kernel), List.mem_of_getElem? (i := 769) (by decide +kernel), List.mem_of_getElem? (i := 770) (by decide +kernel)⟩
theorem lw_p36 : lw_okq (⟨"HallStilesModel", "atMost", "(IIZI)I"⟩, 11) := ⟨⟨by decide +kernel, by decide +kernel⟩, List.mem_of_getElem? (i := 609) (by decide +kernel), List.mem_of_getElem? (i := 774) (by decide +kernel), List.mem_of_getElem? (i := 775) (by decide +kernel)⟩
theorem lw_p37 : lw_okq (⟨"HallStilesModel", "people", "(I)I"⟩, 11) := ⟨⟨by decide +kernel, by decide +kernel⟩, List.mem_of_getElem? (i := 609) (by decide +kernel), List.mem_of_getElem? (i := 778) (by decide +kernel), List.mem_of_getElem? (i := 779) (by decide +kernel)⟩
theorem lw_p38 : lw_okq (⟨"HallStilesModel", "faultOf", "()I"⟩, 11) := ⟨⟨by decide +kernel, by decide +kernel⟩, List.mem_of_getElem? (i := 609) (by decide +kernel), List.mem_of_getElem? (i := 798) (by decide +kernel), List.mem_of_getElem? (i := 799) (by decide +kernel)⟩
theorem lw_p39 : lw_okq (⟨"HallStilesModel", "readsOrder", "()V"⟩, 11) := ⟨⟨by decide +kernel, by decide +kernel⟩, List.mem_of_getElem? (i := 609) (by decide +kernel), List.mem_of_getElem? (i := 802) (by decide +kernel), List.mem_of_getElem? (i := 803) (by decide +kernel)⟩
theorem lw_p40 : lw_okq (⟨"HallStilesModel", "isNow", "(II)Z"⟩, 11) := ⟨⟨by decide +kernel, by decide +kernel⟩, List.mem_of_getElem? (i := 609) (by decide +kernel), List.mem_of_getElem? (i := 806) (by decide +kernel), List.mem_of_getElem? (i := 807) (by decide +kernel)⟩
theorem lw_p41 : lw_okq (⟨"HallStilesModel", "readsNumber", "()V"⟩, 11) := ⟨⟨by decide +kernel, by decide +kernel⟩, List.mem_of_getElem? (i := 609) (by decide +kernel), List.mem_of_getElem? (i := 810) (by decide +kernel), List.mem_of_getElem? (i := 811) (by decide +kernel)⟩
theorem lw_p42 : lw_okq (⟨"HallStilesModel", "does", "()Z"⟩, 11) := ⟨⟨by decide +kernel, by decide +kernel⟩, List.mem_of_getElem? (i := 609) (by decide +kernel), List.mem_of_getElem? (i := 818) (by decide +kernel), List.mem_of_getElem? (i := 819) (by decide +kernel)⟩
theorem lw_p43 : lw_okq (⟨"HallStilesModel", "told", "(IZ)I"⟩, 11) := ⟨⟨by decide +kernel, by decide +kernel⟩, List.mem_of_getElem? (i := 609) (by decide +kernel), List.mem_of_getElem? (i := 838) (by decide +kernel), List.mem_of_getElem? (i := 839) (by decide +kernel)⟩
theorem lw_p44 : lw_okq (⟨"HallStilesModel", "distance", "(I)I"⟩, 11) := ⟨⟨by decide +kernel, by decide +kernel⟩, List.mem_of_getElem? (i := 609) (by decide +kernel), List.mem_of_getElem? (i := 842) (by decide +kernel), List.mem_of_getElem? (i := 843) (by decide +kernel)⟩
theorem lw_p45 : lw_okq (⟨"HallStilesModel", "stilesOf", "(I)I"⟩, 11) := ⟨⟨by decide +kernel, by decide +kernel⟩, List.mem_of_getElem? (i := 609) (by decide +kernel), List.mem_of_getElem? (i := 846) (by decide +kernel), List.mem_of_getElem? (i := 847) (by decide +kernel)⟩
theorem lw_p46 : lw_okq (⟨"HallStilesModel", "sumOf", "(I)I"⟩, 11) := ⟨⟨by decide +kernel, by decide +kernel⟩, List.mem_of_getElem? (i := 609) (by decide +kernel), List.mem_of_getElem? (i := 870) (by decide +kernel), List.mem_of_getElem? (i := 871) (by decide +kernel)⟩
theorem lw_p47 : lw_okq (⟨"HallStilesModel", "allTold", "(Z)I"⟩, 11) := ⟨⟨by decide +kernel, by decide +kernel⟩, List.mem_of_getElem? (i := 609) (by decide +kernel), List.mem_of_getElem? (i := 874) (by decide +kernel), List.mem_of_getElem? (i := 875) (by decide +kernel)⟩
def lw_privs_3 : List (MethodName × Nat) := [(⟨"HallStilesModel", "hoursPass", "(I)I"⟩, 11), (⟨"HallStilesModel", "hour", "(I)I"⟩, 11), (⟨"HallStilesModel", "closes", "(I)I"⟩, 11), (⟨"HallStilesModel", "distances", "(I)V"⟩, 11), (⟨"HallStilesModel", "atMost", "(IIZI)I"⟩, 11), (⟨"HallStilesModel", "people", "(I)I"⟩, 11), (⟨"HallStilesModel", "faultOf", "()I"⟩, 11), (⟨"HallStilesModel", "readsOrder", "()V"⟩, 11), (⟨"HallStilesModel", "isNow", "(II)Z"⟩, 11), (⟨"HallStilesModel", "readsNumber", "()V"⟩, 11), (⟨"HallStilesModel", "does", "()Z"⟩, 11), (⟨"HallStilesModel", "told", "(IZ)I"⟩, 11), (⟨"HallStilesModel", "distance", "(I)I"⟩, 11), (⟨"HallStilesModel", "stilesOf", "(I)I"⟩, 11), (⟨"HallStilesModel", "sumOf", "(I)I"⟩, 11), (⟨"HallStilesModel", "allTold", "(Z)I"⟩, 11)]
theorem lw_r3 : ∀ q ∈ lw_privs_3, lw_okq q := List.forall_mem_cons.mpr ⟨lw_p32, List.forall_mem_cons.mpr ⟨lw_p33, List.forall_mem_cons.mpr ⟨lw_p34, List.forall_mem_cons.mpr ⟨lw_p35, List.forall_mem_cons.mpr ⟨lw_p36, List.forall_mem_cons.mpr ⟨lw_p37, List.forall_mem_cons.mpr ⟨lw_p38, List.forall_mem_cons.mpr ⟨lw_p39, List.forall_mem_cons.mpr ⟨lw_p40, List.forall_mem_cons.mpr ⟨lw_p41, List.forall_mem_cons.mpr ⟨lw_p42, List.forall_mem_cons.mpr ⟨lw_p43, List.forall_mem_cons.mpr ⟨lw_p44, List.forall_mem_cons.mpr ⟨lw_p45, List.forall_mem_cons.mpr ⟨lw_p46, List.forall_mem_cons.mpr ⟨lw_p47, fun _ h => absurd h List.not_mem_nil⟩⟩⟩⟩⟩⟩⟩⟩⟩⟩⟩⟩⟩⟩⟩⟩
theorem lw_p48 : lw_okq (⟨"HallStilesModel", "fullest", "()I"⟩, 11) := ⟨⟨by decide +kernel, by decide +kernel⟩, List.mem_of_getElem? (i := 609) (by decide +kernel), List.mem_of_getElem? (i := 878) (by decide +kernel), List.mem_of_getElem? (i := 879) (by decide +kernel)⟩
def lw_privs_4 : List (MethodName × Nat) := [(⟨"HallStilesModel", "fullest", "()I"⟩, 11)]
theorem lw_r4 : ∀ q ∈ lw_privs_4, lw_okq q := List.forall_mem_cons.mpr ⟨lw_p48, fun _ h => absurd h List.not_mem_nil⟩
def lw_privs : List (MethodName × Nat) := lw_privs_1 ++ (lw_privs_2 ++ (lw_privs_3 ++ (lw_privs_4)))
def lw_tbl : List Cond := k2_sels lw_privs ++ tables_1
theorem lw_privs_ok : ∀ q ∈ lw_privs, lw_okq q := by
  show ∀ q ∈ lw_privs_1 ++ (lw_privs_2 ++ (lw_privs_3 ++ (lw_privs_4))), lw_okq q
  exact List.forall_mem_append.mpr ⟨lw_r1, List.forall_mem_append.mpr ⟨lw_r2, List.forall_mem_append.mpr ⟨lw_r3, lw_r4⟩⟩⟩
/-- the streams that the claim lets the run draw from -/
abbrev lw_cs : List Choice := [Jvm.Choice.named "NaN.bits"]
theorem lw_bits : nanBits ∈ lw_cs := by first | decide | exact List.mem_cons_self | simp [lw_cs, nanBits]
end
section
def RX0 : String := "HallStiles$Closing"
def TX0 : u_T := fun k => match k with
  | _ => ("HallStiles$Closing", "distances", "[I", true)
def tyX0 : Nat → FieldType := fun k => match k with
  | _ => .array .int
abbrev wsX00 : List Cond := u_ws RX0 TX0 1
theorem nmX0 : ∀ a, a < 1 → ∀ b, b < 1 → a ≠ b → (TX0 a).2.1 ≠ (TX0 b).2.1 := by decide +kernel
theorem tyX0_ok : ∀ k, k < 1 → parseFieldDescriptor (TX0 k).2.2.1 = some (tyX0 k) := by decide +kernel
abbrev cX0_init : ByteArray := prog_2_method_1_code
def yX0_init : MethodName := ⟨RX0, "<init>", "()V"⟩
abbrev cX0_distanceOrNone : ByteArray := prog_2_method_2_code
def yX0_distanceOrNone : MethodName := ⟨RX0, "distanceOrNone", "(LHallStiles$State;I)I"⟩
abbrev cX0_closeForAnHour : ByteArray := prog_2_method_3_code
def yX0_closeForAnHour : MethodName := ⟨RX0, "closeForAnHour", "(LHallStiles$State;)I"⟩
abbrev cX0_leaveThrough : ByteArray := prog_2_method_4_code
def yX0_leaveThrough : MethodName := ⟨RX0, "leaveThrough", "(LHallStiles$State;IZ)I"⟩
abbrev cX0_measureDistances : ByteArray := prog_2_method_5_code
def yX0_measureDistances : MethodName := ⟨RX0, "measureDistances", "(LHallStiles$State;)V"⟩
abbrev cX0_comeNearer : ByteArray := prog_2_method_6_code
def yX0_comeNearer : MethodName := ⟨RX0, "comeNearer", "(LHallStiles$State;IZ)Z"⟩
def RX1 : String := "HallStiles$Counters"
def TX1 : u_T := fun k => match k with
  | 0 => ("HallStiles$Counters", "counts", "[I", true)
  | 1 => ("HallStiles$Counters", "slips", "[I", true)
  | 2 => ("HallStiles$Counters", "seen", "[I", true)
  | _ => ("HallStiles$Counters", "missed", "[I", true)
def tyX1 : Nat → FieldType := fun k => match k with
  | 0 => .array .int
  | 1 => .array .int
  | 2 => .array .int
  | _ => .array .int
abbrev wsX10 : List Cond := u_ws RX1 TX1 4
theorem nmX1 : ∀ a, a < 4 → ∀ b, b < 4 → a ≠ b → (TX1 a).2.1 ≠ (TX1 b).2.1 := by decide +kernel
theorem tyX1_ok : ∀ k, k < 4 → parseFieldDescriptor (TX1 k).2.2.1 = some (tyX1 k) := by decide +kernel
abbrev cX1_init : ByteArray := prog_3_method_1_code
def yX1_init : MethodName := ⟨RX1, "<init>", "()V"⟩
abbrev cX1_copyFrom : ByteArray := prog_3_method_2_code
def yX1_copyFrom : MethodName := ⟨RX1, "copyFrom", "(LHallStiles$Counters;)V"⟩
abbrev cX1_beginAnew : ByteArray := prog_3_method_3_code
def yX1_beginAnew : MethodName := ⟨RX1, "beginAnew", "(II)V"⟩
abbrev cX1_seePeople : ByteArray := prog_3_method_4_code
def yX1_seePeople : MethodName := ⟨RX1, "seePeople", "(II)V"⟩
abbrev cX1_endSlips : ByteArray := prog_3_method_5_code
def yX1_endSlips : MethodName := ⟨RX1, "endSlips", "(I)V"⟩
abbrev cX1_countOf : ByteArray := prog_3_method_6_code
def yX1_countOf : MethodName := ⟨RX1, "countOf", "(II)I"⟩
abbrev cX1_gapOf : ByteArray := prog_3_method_7_code
def yX1_gapOf : MethodName := ⟨RX1, "gapOf", "(I)I"⟩
abbrev cX1_makeAgree : ByteArray := prog_3_method_8_code
def yX1_makeAgree : MethodName := ⟨RX1, "makeAgree", "(I)V"⟩
abbrev cX1_makePairAgree : ByteArray := prog_3_method_9_code
def yX1_makePairAgree : MethodName := ⟨RX1, "makePairAgree", "(III)V"⟩
abbrev cX1_withSlip : ByteArray := prog_3_method_10_code
def yX1_withSlip : MethodName := ⟨RX1, "withSlip", "()I"⟩
def RX2 : String := "HallStiles$History"
def TX2 : u_T := fun k => match k with
  | 0 => ("HallStiles$History", "ring", "[LHallStiles$State;", true)
  | 1 => ("HallStiles$History", "oldest", "I", false)
  | _ => ("HallStiles$History", "size", "I", false)
def tyX2 : Nat → FieldType := fun k => match k with
  | 0 => .array (.object "HallStiles$State")
  | 1 => .int
  | _ => .int
abbrev wsX20 : List Cond := u_ws RX2 TX2 3
theorem nmX2 : ∀ a, a < 3 → ∀ b, b < 3 → a ≠ b → (TX2 a).2.1 ≠ (TX2 b).2.1 := by decide +kernel
theorem tyX2_ok : ∀ k, k < 3 → parseFieldDescriptor (TX2 k).2.2.1 = some (tyX2 k) := by decide +kernel
abbrev cX2_init : ByteArray := prog_4_method_1_code
def yX2_init : MethodName := ⟨RX2, "<init>", "()V"⟩
abbrev cX2_keep : ByteArray := prog_4_method_2_code
def yX2_keep : MethodName := ⟨RX2, "keep", "(LHallStiles$State;)V"⟩
abbrev cX2_takeLatest : ByteArray := prog_4_method_3_code
def yX2_takeLatest : MethodName := ⟨RX2, "takeLatest", "(LHallStiles$State;)V"⟩
abbrev cX2_stateAt : ByteArray := prog_4_method_4_code
def yX2_stateAt : MethodName := ⟨RX2, "stateAt", "(I)LHallStiles$State;"⟩
def RX3 : String := "HallStiles$Script"
def TX3 : u_T := fun k => match k with
  | 0 => ("HallStiles$Script", "characters", "[I", true)
  | 1 => ("HallStiles$Script", "length", "I", false)
  | 2 => ("HallStiles$Script", "place", "I", false)
  | 3 => ("HallStiles$Script", "orderStile", "I", false)
  | 4 => ("HallStiles$Script", "orderKind", "I", false)
  | _ => ("HallStiles$Script", "orderNumber", "I", false)
def tyX3 : Nat → FieldType := fun k => match k with
  | 0 => .array .int
  | 1 => .int
  | 2 => .int
  | 3 => .int
  | 4 => .int
  | _ => .int
abbrev wsX30 : List Cond := u_ws RX3 TX3 6
theorem nmX3 : ∀ a, a < 6 → ∀ b, b < 6 → a ≠ b → (TX3 a).2.1 ≠ (TX3 b).2.1 := by decide +kernel
theorem tyX3_ok : ∀ k, k < 6 → parseFieldDescriptor (TX3 k).2.2.1 = some (tyX3 k) := by decide +kernel
abbrev cX3_init : ByteArray := prog_5_method_1_code
def yX3_init : MethodName := ⟨RX3, "<init>", "()V"⟩
abbrev cX3_addCharacter : ByteArray := prog_5_method_2_code
def yX3_addCharacter : MethodName := ⟨RX3, "addCharacter", "(I)V"⟩
abbrev cX3_findFault : ByteArray := prog_5_method_3_code
def yX3_findFault : MethodName := ⟨RX3, "findFault", "()I"⟩
abbrev cX3_whereBehind : ByteArray := prog_5_method_4_code
def yX3_whereBehind : MethodName := ⟨RX3, "whereBehind", "(II)I"⟩
abbrev cX3_isStileLetter : ByteArray := prog_5_method_5_code
def yX3_isStileLetter : MethodName := ⟨RX3, "isStileLetter", "(I)Z"⟩
abbrev cX3_isWay : ByteArray := prog_5_method_6_code
def yX3_isWay : MethodName := ⟨RX3, "isWay", "(I)Z"⟩
abbrev cX3_isDigit : ByteArray := prog_5_method_7_code
def yX3_isDigit : MethodName := ⟨RX3, "isDigit", "(I)Z"⟩
abbrev cX3_goToBegin : ByteArray := prog_5_method_8_code
def yX3_goToBegin : MethodName := ⟨RX3, "goToBegin", "()V"⟩
abbrev cX3_readOrder : ByteArray := prog_5_method_9_code
def yX3_readOrder : MethodName := ⟨RX3, "readOrder", "()Z"⟩
abbrev cX3_readCharacter : ByteArray := prog_5_method_10_code
def yX3_readCharacter : MethodName := ⟨RX3, "readCharacter", "()I"⟩
abbrev cX3_nextCharacter : ByteArray := prog_5_method_11_code
def yX3_nextCharacter : MethodName := ⟨RX3, "nextCharacter", "()I"⟩
abbrev cX3_readNumber : ByteArray := prog_5_method_12_code
def yX3_readNumber : MethodName := ⟨RX3, "readNumber", "()I"⟩
def RX4 : String := "HallStiles$State"
def TX4 : u_T := fun k => match k with
  | 0 => ("HallStiles$State", "rooms", "[I", true)
  | 1 => ("HallStiles$State", "people", "[I", true)
  | 2 => ("HallStiles$State", "firsts", "[I", true)
  | 3 => ("HallStiles$State", "seconds", "[I", true)
  | 4 => ("HallStiles$State", "ways", "[I", true)
  | 5 => ("HallStiles$State", "repairs", "[I", true)
  | 6 => ("HallStiles$State", "counters", "LHallStiles$Counters;", true)
  | 7 => ("HallStiles$State", "stiles", "I", false)
  | 8 => ("HallStiles$State", "rate", "I", false)
  | 9 => ("HallStiles$State", "repairHours", "I", false)
  | _ => ("HallStiles$State", "clock", "I", false)
def tyX4 : Nat → FieldType := fun k => match k with
  | 0 => .array .int
  | 1 => .array .int
  | 2 => .array .int
  | 3 => .array .int
  | 4 => .array .int
  | 5 => .array .int
  | 6 => .object "HallStiles$Counters"
  | 7 => .int
  | 8 => .int
  | 9 => .int
  | _ => .int
abbrev wsX40 : List Cond := u_ws RX4 TX4 11
theorem nmX4 : ∀ a, a < 11 → ∀ b, b < 11 → a ≠ b → (TX4 a).2.1 ≠ (TX4 b).2.1 := by decide +kernel
theorem tyX4_ok : ∀ k, k < 11 → parseFieldDescriptor (TX4 k).2.2.1 = some (tyX4 k) := by decide +kernel
abbrev cX4_init : ByteArray := prog_6_method_1_code
def yX4_init : MethodName := ⟨RX4, "<init>", "()V"⟩
abbrev cX4_copyFrom : ByteArray := prog_6_method_2_code
def yX4_copyFrom : MethodName := ⟨RX4, "copyFrom", "(LHallStiles$State;)V"⟩
abbrev cX4_hasStile : ByteArray := prog_6_method_3_code
def yX4_hasStile : MethodName := ⟨RX4, "hasStile", "(I)Z"⟩
abbrev cX4_putUp : ByteArray := prog_6_method_4_code
def yX4_putUp : MethodName := ⟨RX4, "putUp", "(II)I"⟩
abbrev cX4_hallBehind : ByteArray := prog_6_method_5_code
def yX4_hallBehind : MethodName := ⟨RX4, "hallBehind", "(IZ)I"⟩
abbrev cX4_hallAhead : ByteArray := prog_6_method_6_code
def yX4_hallAhead : MethodName := ⟨RX4, "hallAhead", "(IZ)I"⟩
abbrev cX4_goes : ByteArray := prog_6_method_7_code
def yX4_goes : MethodName := ⟨RX4, "goes", "(IZ)Z"⟩
abbrev cX4_isUnderRepair : ByteArray := prog_6_method_8_code
def yX4_isUnderRepair : MethodName := ⟨RX4, "isUnderRepair", "(I)Z"⟩
abbrev cX4_whyNot : ByteArray := prog_6_method_9_code
def yX4_whyNot : MethodName := ⟨RX4, "whyNot", "(IZI)I"⟩
abbrev cX4_mostThrough : ByteArray := prog_6_method_10_code
def yX4_mostThrough : MethodName := ⟨RX4, "mostThrough", "(IZ)I"⟩
abbrev cX4_readyToLeave : ByteArray := prog_6_method_11_code
def yX4_readyToLeave : MethodName := ⟨RX4, "readyToLeave", "(I)I"⟩
abbrev cX4_roomLeft : ByteArray := prog_6_method_12_code
def yX4_roomLeft : MethodName := ⟨RX4, "roomLeft", "(I)I"⟩
abbrev cX4_letThrough : ByteArray := prog_6_method_13_code
def yX4_letThrough : MethodName := ⟨RX4, "letThrough", "(IZI)V"⟩
abbrev cX4_moveTo : ByteArray := prog_6_method_14_code
def yX4_moveTo : MethodName := ⟨RX4, "moveTo", "(II)V"⟩
abbrev cX4_beginRepair : ByteArray := prog_6_method_15_code
def yX4_beginRepair : MethodName := ⟨RX4, "beginRepair", "(I)V"⟩
abbrev cX4_letHoursPass : ByteArray := prog_6_method_16_code
def yX4_letHoursPass : MethodName := ⟨RX4, "letHoursPass", "(I)I"⟩
abbrev cX4_letHourPass : ByteArray := prog_6_method_17_code
def yX4_letHourPass : MethodName := ⟨RX4, "letHourPass", "()I"⟩
abbrev cX4_toldByOwnSides : ByteArray := prog_6_method_18_code
def yX4_toldByOwnSides : MethodName := ⟨RX4, "toldByOwnSides", "(I)I"⟩
abbrev cX4_toldByFarSides : ByteArray := prog_6_method_19_code
def yX4_toldByFarSides : MethodName := ⟨RX4, "toldByFarSides", "(I)I"⟩
abbrev cX4_toldByFirstSide : ByteArray := prog_6_method_20_code
def yX4_toldByFirstSide : MethodName := ⟨RX4, "toldByFirstSide", "(I)I"⟩
abbrev cX4_toldBySecondSide : ByteArray := prog_6_method_21_code
def yX4_toldBySecondSide : MethodName := ⟨RX4, "toldBySecondSide", "(I)I"⟩
abbrev cX4_toldByAllOwnSides : ByteArray := prog_6_method_22_code
def yX4_toldByAllOwnSides : MethodName := ⟨RX4, "toldByAllOwnSides", "()I"⟩
abbrev cX4_toldByAllFarSides : ByteArray := prog_6_method_23_code
def yX4_toldByAllFarSides : MethodName := ⟨RX4, "toldByAllFarSides", "()I"⟩
abbrev cX4_peopleOfAllHalls : ByteArray := prog_6_method_24_code
def yX4_peopleOfAllHalls : MethodName := ⟨RX4, "peopleOfAllHalls", "()I"⟩
abbrev cX4_roomsOfAllHalls : ByteArray := prog_6_method_25_code
def yX4_roomsOfAllHalls : MethodName := ⟨RX4, "roomsOfAllHalls", "()I"⟩
abbrev cX4_sumOfAllHalls : ByteArray := prog_6_method_26_code
def yX4_sumOfAllHalls : MethodName := ⟨RX4, "sumOfAllHalls", "([I)I"⟩
abbrev cX4_fullestHall : ByteArray := prog_6_method_27_code
def yX4_fullestHall : MethodName := ⟨RX4, "fullestHall", "()I"⟩
abbrev cX4_stilesOfHall : ByteArray := prog_6_method_28_code
def yX4_stilesOfHall : MethodName := ⟨RX4, "stilesOfHall", "(I)I"⟩
abbrev cX4_stilesUnderRepair : ByteArray := prog_6_method_29_code
def yX4_stilesUnderRepair : MethodName := ⟨RX4, "stilesUnderRepair", "()I"⟩
abbrev cX4_sumOfGaps : ByteArray := prog_6_method_30_code
def yX4_sumOfGaps : MethodName := ⟨RX4, "sumOfGaps", "()I"⟩
abbrev cX4_worseStiles : ByteArray := prog_6_method_31_code
def yX4_worseStiles : MethodName := ⟨RX4, "worseStiles", "(I)I"⟩
def RX5 : String := "HallStiles"
def TX5 : u_T := fun k => match k with
  | 0 => ("HallStiles", "now", "LHallStiles$State;", true)
  | 1 => ("HallStiles", "snapshot", "LHallStiles$State;", true)
  | 2 => ("HallStiles", "trial", "LHallStiles$State;", true)
  | 3 => ("HallStiles", "history", "LHallStiles$History;", true)
  | 4 => ("HallStiles", "closing", "LHallStiles$Closing;", true)
  | 5 => ("HallStiles", "script", "LHallStiles$Script;", true)
  | _ => ("HallStiles", "hasSnapshot", "Z", false)
def tyX5 : Nat → FieldType := fun k => match k with
  | 0 => .object "HallStiles$State"
  | 1 => .object "HallStiles$State"
  | 2 => .object "HallStiles$State"
  | 3 => .object "HallStiles$History"
  | 4 => .object "HallStiles$Closing"
  | 5 => .object "HallStiles$Script"
  | _ => .boolean
abbrev wsX50 : List Cond := u_ws RX5 TX5 7
theorem nmX5 : ∀ a, a < 7 → ∀ b, b < 7 → a ≠ b → (TX5 a).2.1 ≠ (TX5 b).2.1 := by decide +kernel
theorem tyX5_ok : ∀ k, k < 7 → parseFieldDescriptor (TX5 k).2.2.1 = some (tyX5 k) := by decide +kernel
abbrev cX5_init : ByteArray := prog_1_method_1_code
def yX5_init : MethodName := ⟨RX5, "<init>", "()V"⟩
abbrev cX5_stile : ByteArray := prog_1_method_2_code
def yX5_stile : MethodName := ⟨RX5, "stile", "(II)I"⟩
abbrev cX5_open : ByteArray := prog_1_method_3_code
def yX5_open : MethodName := ⟨RX5, "open", "(II)I"⟩
abbrev cX5_room : ByteArray := prog_1_method_4_code
def yX5_room : MethodName := ⟨RX5, "room", "(II)I"⟩
abbrev cX5_slip : ByteArray := prog_1_method_5_code
def yX5_slip : MethodName := ⟨RX5, "slip", "(III)I"⟩
abbrev cX5_pass : ByteArray := prog_1_method_6_code
def yX5_pass : MethodName := ⟨RX5, "pass", "(IZI)I"⟩
abbrev cX5_audit : ByteArray := prog_1_method_7_code
def yX5_audit : MethodName := ⟨RX5, "audit", "(I)I"⟩
abbrev cX5_repair : ByteArray := prog_1_method_8_code
def yX5_repair : MethodName := ⟨RX5, "repair", "(I)I"⟩
abbrev cX5_hours : ByteArray := prog_1_method_9_code
def yX5_hours : MethodName := ⟨RX5, "hours", "(I)I"⟩
abbrev cX5_close : ByteArray := prog_1_method_10_code
def yX5_close : MethodName := ⟨RX5, "close", "(I)I"⟩
abbrev cX5_set : ByteArray := prog_1_method_11_code
def yX5_set : MethodName := ⟨RX5, "set", "(II)I"⟩
abbrev cX5_append : ByteArray := prog_1_method_12_code
def yX5_append : MethodName := ⟨RX5, "append", "(I)I"⟩
abbrev cX5_clearText : ByteArray := prog_1_method_13_code
def yX5_clearText : MethodName := ⟨RX5, "clearText", "()I"⟩
abbrev cX5_fault : ByteArray := prog_1_method_14_code
def yX5_fault : MethodName := ⟨RX5, "fault", "()I"⟩
abbrev cX5_run : ByteArray := prog_1_method_15_code
def yX5_run : MethodName := ⟨RX5, "run", "()I"⟩
abbrev cX5_undo : ByteArray := prog_1_method_16_code
def yX5_undo : MethodName := ⟨RX5, "undo", "()I"⟩
abbrev cX5_save : ByteArray := prog_1_method_17_code
def yX5_save : MethodName := ⟨RX5, "save", "()I"⟩
abbrev cX5_restore : ByteArray := prog_1_method_18_code
def yX5_restore : MethodName := ⟨RX5, "restore", "()I"⟩
abbrev cX5_hall : ByteArray := prog_1_method_19_code
def yX5_hall : MethodName := ⟨RX5, "hall", "(II)I"⟩
abbrev cX5_stileOf : ByteArray := prog_1_method_20_code
def yX5_stileOf : MethodName := ⟨RX5, "stileOf", "(II)I"⟩
abbrev cX5_counter : ByteArray := prog_1_method_21_code
def yX5_counter : MethodName := ⟨RX5, "counter", "(III)I"⟩
abbrev cX5_reason : ByteArray := prog_1_method_22_code
def yX5_reason : MethodName := ⟨RX5, "reason", "(IZI)I"⟩
abbrev cX5_worst : ByteArray := prog_1_method_23_code
def yX5_worst : MethodName := ⟨RX5, "worst", "(I)I"⟩
abbrev cX5_count : ByteArray := prog_1_method_24_code
def yX5_count : MethodName := ⟨RX5, "count", "(I)I"⟩
abbrev cX5_most : ByteArray := prog_1_method_25_code
def yX5_most : MethodName := ⟨RX5, "most", "(IZ)I"⟩
abbrev cX5_emptyIn : ByteArray := prog_1_method_26_code
def yX5_emptyIn : MethodName := ⟨RX5, "emptyIn", "()I"⟩
abbrev cX5_leftWithout : ByteArray := prog_1_method_27_code
def yX5_leftWithout : MethodName := ⟨RX5, "leftWithout", "(II)I"⟩
abbrev cX5_fullness : ByteArray := prog_1_method_28_code
def yX5_fullness : MethodName := ⟨RX5, "fullness", "()D"⟩
abbrev cX5_passError : ByteArray := prog_1_method_29_code
def yX5_passError : MethodName := ⟨RX5, "passError", "(IZI)I"⟩
abbrev cX5_repairError : ByteArray := prog_1_method_30_code
def yX5_repairError : MethodName := ⟨RX5, "repairError", "(I)I"⟩
abbrev cX5_carryOutOrder : ByteArray := prog_1_method_31_code
def yX5_carryOutOrder : MethodName := ⟨RX5, "carryOutOrder", "()Z"⟩
abbrev cX5_carryOutPass : ByteArray := prog_1_method_32_code
def yX5_carryOutPass : MethodName := ⟨RX5, "carryOutPass", "(Z)Z"⟩
abbrev cX5_carryOutAudit : ByteArray := prog_1_method_33_code
def yX5_carryOutAudit : MethodName := ⟨RX5, "carryOutAudit", "()Z"⟩
abbrev cX5_carryOutRepair : ByteArray := prog_1_method_34_code
def yX5_carryOutRepair : MethodName := ⟨RX5, "carryOutRepair", "()Z"⟩
abbrev cX5_isHall : ByteArray := prog_1_method_35_code
def yX5_isHall : MethodName := ⟨RX5, "isHall", "(I)Z"⟩
abbrev cX5_isHallWithRoom : ByteArray := prog_1_method_36_code
def yX5_isHallWithRoom : MethodName := ⟨RX5, "isHallWithRoom", "(I)Z"⟩
abbrev cX5_isCounter : ByteArray := prog_1_method_37_code
def yX5_isCounter : MethodName := ⟨RX5, "isCounter", "(I)Z"⟩
abbrev cX5_isSlip : ByteArray := prog_1_method_38_code
def yX5_isSlip : MethodName := ⟨RX5, "isSlip", "(I)Z"⟩
abbrev cX5_isManyPeople : ByteArray := prog_1_method_39_code
def yX5_isManyPeople : MethodName := ⟨RX5, "isManyPeople", "(I)Z"⟩
abbrev cX5_isManyHours : ByteArray := prog_1_method_40_code
def yX5_isManyHours : MethodName := ⟨RX5, "isManyHours", "(I)Z"⟩
abbrev cX5_counterIndex : ByteArray := prog_1_method_41_code
def yX5_counterIndex : MethodName := ⟨RX5, "counterIndex", "(II)I"⟩
abbrev cX5_at : ByteArray := prog_1_method_42_code
def yX5_at : MethodName := ⟨RX5, "at", "([II)I"⟩
abbrev cX5_put : ByteArray := prog_1_method_43_code
def yX5_put : MethodName := ⟨RX5, "put", "([III)V"⟩
abbrev cX5_add : ByteArray := prog_1_method_44_code
def yX5_add : MethodName := ⟨RX5, "add", "([III)V"⟩
abbrev cX5_copyRow : ByteArray := prog_1_method_45_code
def yX5_copyRow : MethodName := ⟨RX5, "copyRow", "([I[I)V"⟩
def RX6 : String := "HallStilesModel"
def TX6 : u_T := fun k => match k with
  | 0 => ("HallStilesModel", "s", "[I", true)
  | 1 => ("HallStilesModel", "states", "I", false)
  | 2 => ("HallStilesModel", "isKept", "Z", false)
  | 3 => ("HallStilesModel", "text", "[C", true)
  | 4 => ("HallStilesModel", "typed", "I", false)
  | 5 => ("HallStilesModel", "far", "[I", true)
  | 6 => ("HallStilesModel", "at", "I", false)
  | 7 => ("HallStilesModel", "isWrong", "Z", false)
  | 8 => ("HallStilesModel", "letter", "C", false)
  | 9 => ("HallStilesModel", "stileOfOrder", "I", false)
  | _ => ("HallStilesModel", "number", "I", false)
def tyX6 : Nat → FieldType := fun k => match k with
  | 0 => .array .int
  | 1 => .int
  | 2 => .boolean
  | 3 => .array .char
  | 4 => .int
  | 5 => .array .int
  | 6 => .int
  | 7 => .boolean
  | 8 => .char
  | 9 => .int
  | _ => .int
abbrev wsX60 : List Cond := u_ws RX6 TX6 11
theorem nmX6 : ∀ a, a < 11 → ∀ b, b < 11 → a ≠ b → (TX6 a).2.1 ≠ (TX6 b).2.1 := by decide +kernel
theorem tyX6_ok : ∀ k, k < 11 → parseFieldDescriptor (TX6 k).2.2.1 = some (tyX6 k) := by decide +kernel
abbrev cX6_init : ByteArray := prog_8_method_1_code
def yX6_init : MethodName := ⟨RX6, "<init>", "()V"⟩
abbrev cX6_in : ByteArray := prog_8_method_2_code
def yX6_in : MethodName := ⟨RX6, "in", "(III)Z"⟩
abbrev cX6_copies : ByteArray := prog_8_method_3_code
def yX6_copies : MethodName := ⟨RX6, "copies", "(II)V"⟩
abbrev cX6_records : ByteArray := prog_8_method_4_code
def yX6_records : MethodName := ⟨RX6, "records", "()V"⟩
abbrev cX6_place : ByteArray := prog_8_method_5_code
def yX6_place : MethodName := ⟨RX6, "place", "(II)I"⟩
abbrev cX6_isStile : ByteArray := prog_8_method_6_code
def yX6_isStile : MethodName := ⟨RX6, "isStile", "(I)Z"⟩
abbrev cX6_isHall : ByteArray := prog_8_method_7_code
def yX6_isHall : MethodName := ⟨RX6, "isHall", "(I)Z"⟩
abbrev cX6_counted : ByteArray := prog_8_method_8_code
def yX6_counted : MethodName := ⟨RX6, "counted", "(II)I"⟩
abbrev cX6_apart : ByteArray := prog_8_method_9_code
def yX6_apart : MethodName := ⟨RX6, "apart", "(II)I"⟩
abbrev cX6_gap : ByteArray := prog_8_method_10_code
def yX6_gap : MethodName := ⟨RX6, "gap", "(I)I"⟩
abbrev cX6_barred : ByteArray := prog_8_method_11_code
def yX6_barred : MethodName := ⟨RX6, "barred", "(IZ)I"⟩
abbrev cX6_from : ByteArray := prog_8_method_12_code
def yX6_from : MethodName := ⟨RX6, "from", "(IZ)I"⟩
abbrev cX6_to : ByteArray := prog_8_method_13_code
def yX6_to : MethodName := ⟨RX6, "to", "(IZ)I"⟩
abbrev cX6_why : ByteArray := prog_8_method_14_code
def yX6_why : MethodName := ⟨RX6, "why", "(IIZI)I"⟩
abbrev cX6_counts : ByteArray := prog_8_method_15_code
def yX6_counts : MethodName := ⟨RX6, "counts", "(III)V"⟩
abbrev cX6_passes : ByteArray := prog_8_method_16_code
def yX6_passes : MethodName := ⟨RX6, "passes", "(IIZI)V"⟩
abbrev cX6_atMost : ByteArray := prog_8_method_17_code
def yX6_atMost : MethodName := ⟨RX6, "atMost", "(IIZI)I"⟩
abbrev cX6_hour : ByteArray := prog_8_method_18_code
def yX6_hour : MethodName := ⟨RX6, "hour", "(I)I"⟩
abbrev cX6_distances : ByteArray := prog_8_method_19_code
def yX6_distances : MethodName := ⟨RX6, "distances", "(I)V"⟩
abbrev cX6_closes : ByteArray := prog_8_method_20_code
def yX6_closes : MethodName := ⟨RX6, "closes", "(I)I"⟩
abbrev cX6_people : ByteArray := prog_8_method_21_code
def yX6_people : MethodName := ⟨RX6, "people", "(I)I"⟩
abbrev cX6_stile : ByteArray := prog_8_method_22_code
def yX6_stile : MethodName := ⟨RX6, "stile", "(II)I"⟩
abbrev cX6_open : ByteArray := prog_8_method_23_code
def yX6_open : MethodName := ⟨RX6, "open", "(II)I"⟩
abbrev cX6_room : ByteArray := prog_8_method_24_code
def yX6_room : MethodName := ⟨RX6, "room", "(II)I"⟩
abbrev cX6_isSlip : ByteArray := prog_8_method_25_code
def yX6_isSlip : MethodName := ⟨RX6, "isSlip", "(I)Z"⟩
abbrev cX6_slip : ByteArray := prog_8_method_26_code
def yX6_slip : MethodName := ⟨RX6, "slip", "(III)I"⟩
abbrev cX6_wrong : ByteArray := prog_8_method_27_code
def yX6_wrong : MethodName := ⟨RX6, "wrong", "(IZI)I"⟩
abbrev cX6_pass : ByteArray := prog_8_method_28_code
def yX6_pass : MethodName := ⟨RX6, "pass", "(IZI)I"⟩
abbrev cX6_audits : ByteArray := prog_8_method_29_code
def yX6_audits : MethodName := ⟨RX6, "audits", "(I)V"⟩
abbrev cX6_audit : ByteArray := prog_8_method_30_code
def yX6_audit : MethodName := ⟨RX6, "audit", "(I)I"⟩
abbrev cX6_repair : ByteArray := prog_8_method_31_code
def yX6_repair : MethodName := ⟨RX6, "repair", "(I)I"⟩
abbrev cX6_hoursPass : ByteArray := prog_8_method_32_code
def yX6_hoursPass : MethodName := ⟨RX6, "hoursPass", "(I)I"⟩
abbrev cX6_hours : ByteArray := prog_8_method_33_code
def yX6_hours : MethodName := ⟨RX6, "hours", "(I)I"⟩
abbrev cX6_close : ByteArray := prog_8_method_34_code
def yX6_close : MethodName := ⟨RX6, "close", "(I)I"⟩
abbrev cX6_set : ByteArray := prog_8_method_35_code
def yX6_set : MethodName := ⟨RX6, "set", "(II)I"⟩
abbrev cX6_append : ByteArray := prog_8_method_36_code
def yX6_append : MethodName := ⟨RX6, "append", "(I)I"⟩
abbrev cX6_clearText : ByteArray := prog_8_method_37_code
def yX6_clearText : MethodName := ⟨RX6, "clearText", "()I"⟩
abbrev cX6_isNow : ByteArray := prog_8_method_38_code
def yX6_isNow : MethodName := ⟨RX6, "isNow", "(II)Z"⟩
abbrev cX6_readsNumber : ByteArray := prog_8_method_39_code
def yX6_readsNumber : MethodName := ⟨RX6, "readsNumber", "()V"⟩
abbrev cX6_readsOrder : ByteArray := prog_8_method_40_code
def yX6_readsOrder : MethodName := ⟨RX6, "readsOrder", "()V"⟩
abbrev cX6_faultOf : ByteArray := prog_8_method_41_code
def yX6_faultOf : MethodName := ⟨RX6, "faultOf", "()I"⟩
abbrev cX6_fault : ByteArray := prog_8_method_42_code
def yX6_fault : MethodName := ⟨RX6, "fault", "()I"⟩
abbrev cX6_does : ByteArray := prog_8_method_43_code
def yX6_does : MethodName := ⟨RX6, "does", "()Z"⟩
abbrev cX6_run : ByteArray := prog_8_method_44_code
def yX6_run : MethodName := ⟨RX6, "run", "()I"⟩
abbrev cX6_undo : ByteArray := prog_8_method_45_code
def yX6_undo : MethodName := ⟨RX6, "undo", "()I"⟩
abbrev cX6_save : ByteArray := prog_8_method_46_code
def yX6_save : MethodName := ⟨RX6, "save", "()I"⟩
abbrev cX6_restore : ByteArray := prog_8_method_47_code
def yX6_restore : MethodName := ⟨RX6, "restore", "()I"⟩
abbrev cX6_told : ByteArray := prog_8_method_48_code
def yX6_told : MethodName := ⟨RX6, "told", "(IZ)I"⟩
abbrev cX6_stilesOf : ByteArray := prog_8_method_49_code
def yX6_stilesOf : MethodName := ⟨RX6, "stilesOf", "(I)I"⟩
abbrev cX6_distance : ByteArray := prog_8_method_50_code
def yX6_distance : MethodName := ⟨RX6, "distance", "(I)I"⟩
abbrev cX6_hall : ByteArray := prog_8_method_51_code
def yX6_hall : MethodName := ⟨RX6, "hall", "(II)I"⟩
abbrev cX6_stileOf : ByteArray := prog_8_method_52_code
def yX6_stileOf : MethodName := ⟨RX6, "stileOf", "(II)I"⟩
abbrev cX6_counter : ByteArray := prog_8_method_53_code
def yX6_counter : MethodName := ⟨RX6, "counter", "(III)I"⟩
abbrev cX6_reason : ByteArray := prog_8_method_54_code
def yX6_reason : MethodName := ⟨RX6, "reason", "(IZI)I"⟩
abbrev cX6_worst : ByteArray := prog_8_method_55_code
def yX6_worst : MethodName := ⟨RX6, "worst", "(I)I"⟩
abbrev cX6_sumOf : ByteArray := prog_8_method_56_code
def yX6_sumOf : MethodName := ⟨RX6, "sumOf", "(I)I"⟩
abbrev cX6_allTold : ByteArray := prog_8_method_57_code
def yX6_allTold : MethodName := ⟨RX6, "allTold", "(Z)I"⟩
abbrev cX6_fullest : ByteArray := prog_8_method_58_code
def yX6_fullest : MethodName := ⟨RX6, "fullest", "()I"⟩
abbrev cX6_count : ByteArray := prog_8_method_59_code
def yX6_count : MethodName := ⟨RX6, "count", "(I)I"⟩
abbrev cX6_most : ByteArray := prog_8_method_60_code
def yX6_most : MethodName := ⟨RX6, "most", "(IZ)I"⟩
abbrev cX6_emptyIn : ByteArray := prog_8_method_61_code
def yX6_emptyIn : MethodName := ⟨RX6, "emptyIn", "()I"⟩
abbrev cX6_leftWithout : ByteArray := prog_8_method_62_code
def yX6_leftWithout : MethodName := ⟨RX6, "leftWithout", "(II)I"⟩
abbrev cX6_fullness : ByteArray := prog_8_method_63_code
def yX6_fullness : MethodName := ⟨RX6, "fullness", "()D"⟩
def RL : String := "HallStilesLaw"
abbrev cL_law : ByteArray := code
def yL_law : MethodName := ⟨RL, "law", "([I)Z"⟩
abbrev vwCl : List vw_C := [(RX0, TX0, 1), (RX1, TX1, 4), (RX2, TX2, 3), (RX3, TX3, 6), (RX4, TX4, 11), (RX5, TX5, 7), (RX6, TX6, 11)]
end
section
theorem dX0_init_0 : decode cX0_init 0 = .ok (.aload_n 0, 1) := by decide +kernel
theorem dX0_init_1 : decode cX0_init 1 = .ok (.invokespecial 3, 3) := by decide +kernel
theorem dX0_init_4 : decode cX0_init 4 = .ok (.aload_n 0, 1) := by decide +kernel
theorem dX0_init_5 : decode cX0_init 5 = .ok (.bipush 6, 2) := by decide +kernel
theorem dX0_init_7 : decode cX0_init 7 = .ok (.newarray .int, 2) := by decide +kernel
theorem dX0_init_9 : decode cX0_init 9 = .ok (.putfield 9, 3) := by decide +kernel
theorem dX0_init_12 : decode cX0_init 12 = .ok (.return_, 1) := by decide +kernel
theorem dX0_distanceOrNone_0 : decode cX0_distanceOrNone 0 = .ok (.aload_n 0, 1) := by decide +kernel
theorem dX0_distanceOrNone_1 : decode cX0_distanceOrNone 1 = .ok (.aload_n 1, 1) := by decide +kernel
theorem dX0_distanceOrNone_2 : decode cX0_distanceOrNone 2 = .ok (.invokevirtual 15, 3) := by decide +kernel
theorem dX0_distanceOrNone_5 : decode cX0_distanceOrNone 5 = .ok (.aload_n 0, 1) := by decide +kernel
theorem dX0_distanceOrNone_6 : decode cX0_distanceOrNone 6 = .ok (.getfield 9, 3) := by decide +kernel
theorem dX0_distanceOrNone_9 : decode cX0_distanceOrNone 9 = .ok (.iload_n 2, 1) := by decide +kernel
theorem dX0_distanceOrNone_10 : decode cX0_distanceOrNone 10 = .ok (.invokestatic 19, 3) := by decide +kernel
theorem dX0_distanceOrNone_13 : decode cX0_distanceOrNone 13 = .ok (.istore_n 3, 1) := by decide +kernel
theorem dX0_distanceOrNone_14 : decode cX0_distanceOrNone 14 = .ok (.iload_n 3, 1) := by decide +kernel
theorem dX0_distanceOrNone_15 : decode cX0_distanceOrNone 15 = .ok (.sipush 1000, 3) := by decide +kernel
theorem dX0_distanceOrNone_18 : decode cX0_distanceOrNone 18 = .ok (.if_icmp .ne 8, 3) := by decide +kernel
theorem dX0_distanceOrNone_21 : decode cX0_distanceOrNone 21 = .ok (.ldc 23, 2) := by decide +kernel
theorem dX0_distanceOrNone_23 : decode cX0_distanceOrNone 23 = .ok (.goto 4, 3) := by decide +kernel
theorem dX0_distanceOrNone_26 : decode cX0_distanceOrNone 26 = .ok (.iload_n 3, 1) := by decide +kernel
theorem dX0_distanceOrNone_27 : decode cX0_distanceOrNone 27 = .ok (.ireturn, 1) := by decide +kernel
theorem dX0_closeForAnHour_0 : decode cX0_closeForAnHour 0 = .ok (.aload_n 0, 1) := by decide +kernel
theorem dX0_closeForAnHour_1 : decode cX0_closeForAnHour 1 = .ok (.aload_n 1, 1) := by decide +kernel
theorem dX0_closeForAnHour_2 : decode cX0_closeForAnHour 2 = .ok (.invokevirtual 15, 3) := by decide +kernel
theorem dX0_closeForAnHour_5 : decode cX0_closeForAnHour 5 = .ok (.iconst 0, 1) := by decide +kernel
theorem dX0_closeForAnHour_6 : decode cX0_closeForAnHour 6 = .ok (.istore_n 2, 1) := by decide +kernel
theorem dX0_closeForAnHour_7 : decode cX0_closeForAnHour 7 = .ok (.iconst 0, 1) := by decide +kernel
theorem dX0_closeForAnHour_8 : decode cX0_closeForAnHour 8 = .ok (.istore_n 3, 1) := by decide +kernel
theorem dX0_closeForAnHour_9 : decode cX0_closeForAnHour 9 = .ok (.iload_n 3, 1) := by decide +kernel
theorem dX0_closeForAnHour_10 : decode cX0_closeForAnHour 10 = .ok (.aload_n 1, 1) := by decide +kernel
theorem dX0_closeForAnHour_11 : decode cX0_closeForAnHour 11 = .ok (.getfield 24, 3) := by decide +kernel
theorem dX0_closeForAnHour_14 : decode cX0_closeForAnHour 14 = .ok (.if_icmp .ge 29, 3) := by decide +kernel
theorem dX0_closeForAnHour_17 : decode cX0_closeForAnHour 17 = .ok (.iload_n 2, 1) := by decide +kernel
theorem dX0_closeForAnHour_18 : decode cX0_closeForAnHour 18 = .ok (.aload_n 0, 1) := by decide +kernel
theorem dX0_closeForAnHour_19 : decode cX0_closeForAnHour 19 = .ok (.aload_n 1, 1) := by decide +kernel
theorem dX0_closeForAnHour_20 : decode cX0_closeForAnHour 20 = .ok (.iload_n 3, 1) := by decide +kernel
theorem dX0_closeForAnHour_21 : decode cX0_closeForAnHour 21 = .ok (.iconst 1, 1) := by decide +kernel
theorem dX0_closeForAnHour_22 : decode cX0_closeForAnHour 22 = .ok (.invokevirtual 30, 3) := by decide +kernel
theorem dX0_closeForAnHour_25 : decode cX0_closeForAnHour 25 = .ok (.iadd, 1) := by decide +kernel
theorem dX0_closeForAnHour_26 : decode cX0_closeForAnHour 26 = .ok (.istore_n 2, 1) := by decide +kernel
theorem dX0_closeForAnHour_27 : decode cX0_closeForAnHour 27 = .ok (.iload_n 2, 1) := by decide +kernel
theorem dX0_closeForAnHour_28 : decode cX0_closeForAnHour 28 = .ok (.aload_n 0, 1) := by decide +kernel
theorem dX0_closeForAnHour_29 : decode cX0_closeForAnHour 29 = .ok (.aload_n 1, 1) := by decide +kernel
theorem dX0_closeForAnHour_30 : decode cX0_closeForAnHour 30 = .ok (.iload_n 3, 1) := by decide +kernel
theorem dX0_closeForAnHour_31 : decode cX0_closeForAnHour 31 = .ok (.iconst 0, 1) := by decide +kernel
theorem dX0_closeForAnHour_32 : decode cX0_closeForAnHour 32 = .ok (.invokevirtual 30, 3) := by decide +kernel
theorem dX0_closeForAnHour_35 : decode cX0_closeForAnHour 35 = .ok (.iadd, 1) := by decide +kernel
theorem dX0_closeForAnHour_36 : decode cX0_closeForAnHour 36 = .ok (.istore_n 2, 1) := by decide +kernel
theorem dX0_closeForAnHour_37 : decode cX0_closeForAnHour 37 = .ok (.iinc 3 1, 3) := by decide +kernel
theorem dX0_closeForAnHour_40 : decode cX0_closeForAnHour 40 = .ok (.goto (-31), 3) := by decide +kernel
theorem dX0_closeForAnHour_43 : decode cX0_closeForAnHour 43 = .ok (.aload_n 1, 1) := by decide +kernel
theorem dX0_closeForAnHour_44 : decode cX0_closeForAnHour 44 = .ok (.invokevirtual 34, 3) := by decide +kernel
theorem dX0_closeForAnHour_47 : decode cX0_closeForAnHour 47 = .ok (.pop, 1) := by decide +kernel
theorem dX0_closeForAnHour_48 : decode cX0_closeForAnHour 48 = .ok (.iload_n 2, 1) := by decide +kernel
theorem dX0_closeForAnHour_49 : decode cX0_closeForAnHour 49 = .ok (.ireturn, 1) := by decide +kernel
theorem dX0_leaveThrough_0 : decode cX0_leaveThrough 0 = .ok (.aload_n 0, 1) := by decide +kernel
theorem dX0_leaveThrough_1 : decode cX0_leaveThrough 1 = .ok (.getfield 9, 3) := by decide +kernel
theorem dX0_leaveThrough_4 : decode cX0_leaveThrough 4 = .ok (.aload_n 1, 1) := by decide +kernel
theorem dX0_leaveThrough_5 : decode cX0_leaveThrough 5 = .ok (.iload_n 2, 1) := by decide +kernel
theorem dX0_leaveThrough_6 : decode cX0_leaveThrough 6 = .ok (.iload_n 3, 1) := by decide +kernel
theorem dX0_leaveThrough_7 : decode cX0_leaveThrough 7 = .ok (.invokevirtual 38, 3) := by decide +kernel
theorem dX0_leaveThrough_10 : decode cX0_leaveThrough 10 = .ok (.invokestatic 19, 3) := by decide +kernel
theorem dX0_leaveThrough_13 : decode cX0_leaveThrough 13 = .ok (.istore 4, 2) := by decide +kernel
theorem dX0_leaveThrough_15 : decode cX0_leaveThrough 15 = .ok (.aload_n 0, 1) := by decide +kernel
theorem dX0_leaveThrough_16 : decode cX0_leaveThrough 16 = .ok (.getfield 9, 3) := by decide +kernel
theorem dX0_leaveThrough_19 : decode cX0_leaveThrough 19 = .ok (.aload_n 1, 1) := by decide +kernel
theorem dX0_leaveThrough_20 : decode cX0_leaveThrough 20 = .ok (.iload_n 2, 1) := by decide +kernel
theorem dX0_leaveThrough_21 : decode cX0_leaveThrough 21 = .ok (.iload_n 3, 1) := by decide +kernel
theorem dX0_leaveThrough_22 : decode cX0_leaveThrough 22 = .ok (.invokevirtual 42, 3) := by decide +kernel
theorem dX0_leaveThrough_25 : decode cX0_leaveThrough 25 = .ok (.invokestatic 19, 3) := by decide +kernel
theorem dX0_leaveThrough_28 : decode cX0_leaveThrough 28 = .ok (.istore 5, 2) := by decide +kernel
theorem dX0_leaveThrough_30 : decode cX0_leaveThrough 30 = .ok (.iload 4, 2) := by decide +kernel
theorem dX0_leaveThrough_32 : decode cX0_leaveThrough 32 = .ok (.iload 5, 2) := by decide +kernel
theorem dX0_leaveThrough_34 : decode cX0_leaveThrough 34 = .ok (.iconst 1, 1) := by decide +kernel
theorem dX0_leaveThrough_35 : decode cX0_leaveThrough 35 = .ok (.iadd, 1) := by decide +kernel
theorem dX0_leaveThrough_36 : decode cX0_leaveThrough 36 = .ok (.if_icmp .eq 5, 3) := by decide +kernel
theorem dX0_leaveThrough_39 : decode cX0_leaveThrough 39 = .ok (.iconst 0, 1) := by decide +kernel
theorem dX0_leaveThrough_40 : decode cX0_leaveThrough 40 = .ok (.ireturn, 1) := by decide +kernel
theorem dX0_leaveThrough_41 : decode cX0_leaveThrough 41 = .ok (.aload_n 1, 1) := by decide +kernel
theorem dX0_leaveThrough_42 : decode cX0_leaveThrough 42 = .ok (.getfield 45, 3) := by decide +kernel
theorem dX0_leaveThrough_45 : decode cX0_leaveThrough 45 = .ok (.aload_n 1, 1) := by decide +kernel
theorem dX0_leaveThrough_46 : decode cX0_leaveThrough 46 = .ok (.iload_n 2, 1) := by decide +kernel
theorem dX0_leaveThrough_47 : decode cX0_leaveThrough 47 = .ok (.iload_n 3, 1) := by decide +kernel
theorem dX0_leaveThrough_48 : decode cX0_leaveThrough 48 = .ok (.invokevirtual 48, 3) := by decide +kernel
theorem dX0_leaveThrough_51 : decode cX0_leaveThrough 51 = .ok (.invokestatic 51, 3) := by decide +kernel
theorem dX0_leaveThrough_54 : decode cX0_leaveThrough 54 = .ok (.istore 6, 2) := by decide +kernel
theorem dX0_leaveThrough_56 : decode cX0_leaveThrough 56 = .ok (.iload 6, 2) := by decide +kernel
theorem dX0_leaveThrough_58 : decode cX0_leaveThrough 58 = .ok (.ifCond .le 11, 3) := by decide +kernel
theorem dX0_leaveThrough_61 : decode cX0_leaveThrough 61 = .ok (.aload_n 1, 1) := by decide +kernel
theorem dX0_leaveThrough_62 : decode cX0_leaveThrough 62 = .ok (.iload_n 2, 1) := by decide +kernel
theorem dX0_leaveThrough_63 : decode cX0_leaveThrough 63 = .ok (.iload_n 3, 1) := by decide +kernel
theorem dX0_leaveThrough_64 : decode cX0_leaveThrough 64 = .ok (.iload 6, 2) := by decide +kernel
theorem dX0_leaveThrough_66 : decode cX0_leaveThrough 66 = .ok (.invokevirtual 57, 3) := by decide +kernel
theorem dX0_leaveThrough_69 : decode cX0_leaveThrough 69 = .ok (.iload 6, 2) := by decide +kernel
theorem dX0_leaveThrough_71 : decode cX0_leaveThrough 71 = .ok (.ireturn, 1) := by decide +kernel
theorem dX0_measureDistances_0 : decode cX0_measureDistances 0 = .ok (.iconst 0, 1) := by decide +kernel
theorem dX0_measureDistances_1 : decode cX0_measureDistances 1 = .ok (.istore_n 2, 1) := by decide +kernel
theorem dX0_measureDistances_2 : decode cX0_measureDistances 2 = .ok (.iload_n 2, 1) := by decide +kernel
theorem dX0_measureDistances_3 : decode cX0_measureDistances 3 = .ok (.bipush 6, 2) := by decide +kernel
theorem dX0_measureDistances_5 : decode cX0_measureDistances 5 = .ok (.if_icmp .ge 28, 3) := by decide +kernel
theorem dX0_measureDistances_8 : decode cX0_measureDistances 8 = .ok (.aload_n 0, 1) := by decide +kernel
theorem dX0_measureDistances_9 : decode cX0_measureDistances 9 = .ok (.getfield 9, 3) := by decide +kernel
theorem dX0_measureDistances_12 : decode cX0_measureDistances 12 = .ok (.iload_n 2, 1) := by decide +kernel
theorem dX0_measureDistances_13 : decode cX0_measureDistances 13 = .ok (.iload_n 2, 1) := by decide +kernel
theorem dX0_measureDistances_14 : decode cX0_measureDistances 14 = .ok (.ifCond .ne 7, 3) := by decide +kernel
theorem dX0_measureDistances_17 : decode cX0_measureDistances 17 = .ok (.iconst 0, 1) := by decide +kernel
theorem dX0_measureDistances_18 : decode cX0_measureDistances 18 = .ok (.goto 6, 3) := by decide +kernel
theorem dX0_measureDistances_21 : decode cX0_measureDistances 21 = .ok (.sipush 1000, 3) := by decide +kernel
theorem dX0_measureDistances_24 : decode cX0_measureDistances 24 = .ok (.invokestatic 61, 3) := by decide +kernel
theorem dX0_measureDistances_27 : decode cX0_measureDistances 27 = .ok (.iinc 2 1, 3) := by decide +kernel
theorem dX0_measureDistances_30 : decode cX0_measureDistances 30 = .ok (.goto (-28), 3) := by decide +kernel
theorem dX0_measureDistances_33 : decode cX0_measureDistances 33 = .ok (.iconst 1, 1) := by decide +kernel
theorem dX0_measureDistances_34 : decode cX0_measureDistances 34 = .ok (.istore_n 2, 1) := by decide +kernel
theorem dX0_measureDistances_35 : decode cX0_measureDistances 35 = .ok (.iconst 1, 1) := by decide +kernel
theorem dX0_measureDistances_36 : decode cX0_measureDistances 36 = .ok (.istore_n 3, 1) := by decide +kernel
theorem dX0_measureDistances_37 : decode cX0_measureDistances 37 = .ok (.iload_n 3, 1) := by decide +kernel
theorem dX0_measureDistances_38 : decode cX0_measureDistances 38 = .ok (.bipush 6, 2) := by decide +kernel
theorem dX0_measureDistances_40 : decode cX0_measureDistances 40 = .ok (.if_icmp .ge 55, 3) := by decide +kernel
theorem dX0_measureDistances_43 : decode cX0_measureDistances 43 = .ok (.iload_n 2, 1) := by decide +kernel
theorem dX0_measureDistances_44 : decode cX0_measureDistances 44 = .ok (.ifCond .eq 51, 3) := by decide +kernel
theorem dX0_measureDistances_47 : decode cX0_measureDistances 47 = .ok (.iconst 0, 1) := by decide +kernel
theorem dX0_measureDistances_48 : decode cX0_measureDistances 48 = .ok (.istore_n 2, 1) := by decide +kernel
theorem dX0_measureDistances_49 : decode cX0_measureDistances 49 = .ok (.iconst 0, 1) := by decide +kernel
theorem dX0_measureDistances_50 : decode cX0_measureDistances 50 = .ok (.istore 4, 2) := by decide +kernel
theorem dX0_measureDistances_52 : decode cX0_measureDistances 52 = .ok (.iload 4, 2) := by decide +kernel
theorem dX0_measureDistances_54 : decode cX0_measureDistances 54 = .ok (.aload_n 1, 1) := by decide +kernel
theorem dX0_measureDistances_55 : decode cX0_measureDistances 55 = .ok (.getfield 24, 3) := by decide +kernel
theorem dX0_measureDistances_58 : decode cX0_measureDistances 58 = .ok (.if_icmp .ge 31, 3) := by decide +kernel
theorem dX0_measureDistances_61 : decode cX0_measureDistances 61 = .ok (.iload_n 2, 1) := by decide +kernel
theorem dX0_measureDistances_62 : decode cX0_measureDistances 62 = .ok (.aload_n 0, 1) := by decide +kernel
theorem dX0_measureDistances_63 : decode cX0_measureDistances 63 = .ok (.aload_n 1, 1) := by decide +kernel
theorem dX0_measureDistances_64 : decode cX0_measureDistances 64 = .ok (.iload 4, 2) := by decide +kernel
theorem dX0_measureDistances_66 : decode cX0_measureDistances 66 = .ok (.iconst 1, 1) := by decide +kernel
theorem dX0_measureDistances_67 : decode cX0_measureDistances 67 = .ok (.invokevirtual 65, 3) := by decide +kernel
theorem dX0_measureDistances_70 : decode cX0_measureDistances 70 = .ok (.ior, 1) := by decide +kernel
theorem dX0_measureDistances_71 : decode cX0_measureDistances 71 = .ok (.istore_n 2, 1) := by decide +kernel
theorem dX0_measureDistances_72 : decode cX0_measureDistances 72 = .ok (.iload_n 2, 1) := by decide +kernel
theorem dX0_measureDistances_73 : decode cX0_measureDistances 73 = .ok (.aload_n 0, 1) := by decide +kernel
theorem dX0_measureDistances_74 : decode cX0_measureDistances 74 = .ok (.aload_n 1, 1) := by decide +kernel
theorem dX0_measureDistances_75 : decode cX0_measureDistances 75 = .ok (.iload 4, 2) := by decide +kernel
theorem dX0_measureDistances_77 : decode cX0_measureDistances 77 = .ok (.iconst 0, 1) := by decide +kernel
theorem dX0_measureDistances_78 : decode cX0_measureDistances 78 = .ok (.invokevirtual 65, 3) := by decide +kernel
theorem dX0_measureDistances_81 : decode cX0_measureDistances 81 = .ok (.ior, 1) := by decide +kernel
theorem dX0_measureDistances_82 : decode cX0_measureDistances 82 = .ok (.istore_n 2, 1) := by decide +kernel
theorem dX0_measureDistances_83 : decode cX0_measureDistances 83 = .ok (.iinc 4 1, 3) := by decide +kernel
theorem dX0_measureDistances_86 : decode cX0_measureDistances 86 = .ok (.goto (-34), 3) := by decide +kernel
theorem dX0_measureDistances_89 : decode cX0_measureDistances 89 = .ok (.iinc 3 1, 3) := by decide +kernel
theorem dX0_measureDistances_92 : decode cX0_measureDistances 92 = .ok (.goto (-55), 3) := by decide +kernel
theorem dX0_measureDistances_95 : decode cX0_measureDistances 95 = .ok (.return_, 1) := by decide +kernel
theorem dX0_comeNearer_0 : decode cX0_comeNearer 0 = .ok (.aload_n 1, 1) := by decide +kernel
theorem dX0_comeNearer_1 : decode cX0_comeNearer 1 = .ok (.iload_n 2, 1) := by decide +kernel
theorem dX0_comeNearer_2 : decode cX0_comeNearer 2 = .ok (.invokevirtual 69, 3) := by decide +kernel
theorem dX0_comeNearer_5 : decode cX0_comeNearer 5 = .ok (.ifCond .ne 12, 3) := by decide +kernel
theorem dX0_comeNearer_8 : decode cX0_comeNearer 8 = .ok (.aload_n 1, 1) := by decide +kernel
theorem dX0_comeNearer_9 : decode cX0_comeNearer 9 = .ok (.iload_n 2, 1) := by decide +kernel
theorem dX0_comeNearer_10 : decode cX0_comeNearer 10 = .ok (.iload_n 3, 1) := by decide +kernel
theorem dX0_comeNearer_11 : decode cX0_comeNearer 11 = .ok (.invokevirtual 73, 3) := by decide +kernel
theorem dX0_comeNearer_14 : decode cX0_comeNearer 14 = .ok (.ifCond .ne 5, 3) := by decide +kernel
theorem dX0_comeNearer_17 : decode cX0_comeNearer 17 = .ok (.iconst 0, 1) := by decide +kernel
theorem dX0_comeNearer_18 : decode cX0_comeNearer 18 = .ok (.ireturn, 1) := by decide +kernel
theorem dX0_comeNearer_19 : decode cX0_comeNearer 19 = .ok (.aload_n 1, 1) := by decide +kernel
theorem dX0_comeNearer_20 : decode cX0_comeNearer 20 = .ok (.iload_n 2, 1) := by decide +kernel
theorem dX0_comeNearer_21 : decode cX0_comeNearer 21 = .ok (.iload_n 3, 1) := by decide +kernel
theorem dX0_comeNearer_22 : decode cX0_comeNearer 22 = .ok (.invokevirtual 38, 3) := by decide +kernel
theorem dX0_comeNearer_25 : decode cX0_comeNearer 25 = .ok (.istore 4, 2) := by decide +kernel
theorem dX0_comeNearer_27 : decode cX0_comeNearer 27 = .ok (.aload_n 0, 1) := by decide +kernel
theorem dX0_comeNearer_28 : decode cX0_comeNearer 28 = .ok (.getfield 9, 3) := by decide +kernel
theorem dX0_comeNearer_31 : decode cX0_comeNearer 31 = .ok (.aload_n 1, 1) := by decide +kernel
theorem dX0_comeNearer_32 : decode cX0_comeNearer 32 = .ok (.iload_n 2, 1) := by decide +kernel
theorem dX0_comeNearer_33 : decode cX0_comeNearer 33 = .ok (.iload_n 3, 1) := by decide +kernel
theorem dX0_comeNearer_34 : decode cX0_comeNearer 34 = .ok (.invokevirtual 42, 3) := by decide +kernel
theorem dX0_comeNearer_37 : decode cX0_comeNearer 37 = .ok (.invokestatic 19, 3) := by decide +kernel
theorem dX0_comeNearer_40 : decode cX0_comeNearer 40 = .ok (.iconst 1, 1) := by decide +kernel
theorem dX0_comeNearer_41 : decode cX0_comeNearer 41 = .ok (.iadd, 1) := by decide +kernel
theorem dX0_comeNearer_42 : decode cX0_comeNearer 42 = .ok (.istore 5, 2) := by decide +kernel
theorem dX0_comeNearer_44 : decode cX0_comeNearer 44 = .ok (.iload 5, 2) := by decide +kernel
theorem dX0_comeNearer_46 : decode cX0_comeNearer 46 = .ok (.aload_n 0, 1) := by decide +kernel
theorem dX0_comeNearer_47 : decode cX0_comeNearer 47 = .ok (.getfield 9, 3) := by decide +kernel
theorem dX0_comeNearer_50 : decode cX0_comeNearer 50 = .ok (.iload 4, 2) := by decide +kernel
theorem dX0_comeNearer_52 : decode cX0_comeNearer 52 = .ok (.invokestatic 19, 3) := by decide +kernel
theorem dX0_comeNearer_55 : decode cX0_comeNearer 55 = .ok (.if_icmp .lt 5, 3) := by decide +kernel
theorem dX0_comeNearer_58 : decode cX0_comeNearer 58 = .ok (.iconst 0, 1) := by decide +kernel
theorem dX0_comeNearer_59 : decode cX0_comeNearer 59 = .ok (.ireturn, 1) := by decide +kernel
theorem dX0_comeNearer_60 : decode cX0_comeNearer 60 = .ok (.aload_n 0, 1) := by decide +kernel
theorem dX0_comeNearer_61 : decode cX0_comeNearer 61 = .ok (.getfield 9, 3) := by decide +kernel
theorem dX0_comeNearer_64 : decode cX0_comeNearer 64 = .ok (.iload 4, 2) := by decide +kernel
theorem dX0_comeNearer_66 : decode cX0_comeNearer 66 = .ok (.iload 5, 2) := by decide +kernel
theorem dX0_comeNearer_68 : decode cX0_comeNearer 68 = .ok (.invokestatic 61, 3) := by decide +kernel
theorem dX0_comeNearer_71 : decode cX0_comeNearer 71 = .ok (.iconst 1, 1) := by decide +kernel
theorem dX0_comeNearer_72 : decode cX0_comeNearer 72 = .ok (.ireturn, 1) := by decide +kernel
theorem dX1_init_0 : decode cX1_init 0 = .ok (.aload_n 0, 1) := by decide +kernel
theorem dX1_init_1 : decode cX1_init 1 = .ok (.invokespecial 3, 3) := by decide +kernel
theorem dX1_init_4 : decode cX1_init 4 = .ok (.aload_n 0, 1) := by decide +kernel
theorem dX1_init_5 : decode cX1_init 5 = .ok (.bipush 48, 2) := by decide +kernel
theorem dX1_init_7 : decode cX1_init 7 = .ok (.newarray .int, 2) := by decide +kernel
theorem dX1_init_9 : decode cX1_init 9 = .ok (.putfield 9, 3) := by decide +kernel
theorem dX1_init_12 : decode cX1_init 12 = .ok (.aload_n 0, 1) := by decide +kernel
theorem dX1_init_13 : decode cX1_init 13 = .ok (.bipush 48, 2) := by decide +kernel
theorem dX1_init_15 : decode cX1_init 15 = .ok (.newarray .int, 2) := by decide +kernel
theorem dX1_init_17 : decode cX1_init 17 = .ok (.putfield 15, 3) := by decide +kernel
theorem dX1_init_20 : decode cX1_init 20 = .ok (.aload_n 0, 1) := by decide +kernel
theorem dX1_init_21 : decode cX1_init 21 = .ok (.bipush 48, 2) := by decide +kernel
theorem dX1_init_23 : decode cX1_init 23 = .ok (.newarray .int, 2) := by decide +kernel
theorem dX1_init_25 : decode cX1_init 25 = .ok (.putfield 18, 3) := by decide +kernel
theorem dX1_init_28 : decode cX1_init 28 = .ok (.aload_n 0, 1) := by decide +kernel
theorem dX1_init_29 : decode cX1_init 29 = .ok (.bipush 48, 2) := by decide +kernel
theorem dX1_init_31 : decode cX1_init 31 = .ok (.newarray .int, 2) := by decide +kernel
theorem dX1_init_33 : decode cX1_init 33 = .ok (.putfield 21, 3) := by decide +kernel
theorem dX1_init_36 : decode cX1_init 36 = .ok (.return_, 1) := by decide +kernel
theorem dX1_copyFrom_0 : decode cX1_copyFrom 0 = .ok (.aload_n 1, 1) := by decide +kernel
theorem dX1_copyFrom_1 : decode cX1_copyFrom 1 = .ok (.getfield 9, 3) := by decide +kernel
theorem dX1_copyFrom_4 : decode cX1_copyFrom 4 = .ok (.aload_n 0, 1) := by decide +kernel
theorem dX1_copyFrom_5 : decode cX1_copyFrom 5 = .ok (.getfield 9, 3) := by decide +kernel
theorem dX1_copyFrom_8 : decode cX1_copyFrom 8 = .ok (.invokestatic 24, 3) := by decide +kernel
theorem dX1_copyFrom_11 : decode cX1_copyFrom 11 = .ok (.aload_n 1, 1) := by decide +kernel
theorem dX1_copyFrom_12 : decode cX1_copyFrom 12 = .ok (.getfield 15, 3) := by decide +kernel
theorem dX1_copyFrom_15 : decode cX1_copyFrom 15 = .ok (.aload_n 0, 1) := by decide +kernel
theorem dX1_copyFrom_16 : decode cX1_copyFrom 16 = .ok (.getfield 15, 3) := by decide +kernel
theorem dX1_copyFrom_19 : decode cX1_copyFrom 19 = .ok (.invokestatic 24, 3) := by decide +kernel
theorem dX1_copyFrom_22 : decode cX1_copyFrom 22 = .ok (.aload_n 1, 1) := by decide +kernel
theorem dX1_copyFrom_23 : decode cX1_copyFrom 23 = .ok (.getfield 18, 3) := by decide +kernel
theorem dX1_copyFrom_26 : decode cX1_copyFrom 26 = .ok (.aload_n 0, 1) := by decide +kernel
theorem dX1_copyFrom_27 : decode cX1_copyFrom 27 = .ok (.getfield 18, 3) := by decide +kernel
theorem dX1_copyFrom_30 : decode cX1_copyFrom 30 = .ok (.invokestatic 24, 3) := by decide +kernel
theorem dX1_copyFrom_33 : decode cX1_copyFrom 33 = .ok (.aload_n 1, 1) := by decide +kernel
theorem dX1_copyFrom_34 : decode cX1_copyFrom 34 = .ok (.getfield 21, 3) := by decide +kernel
theorem dX1_copyFrom_37 : decode cX1_copyFrom 37 = .ok (.aload_n 0, 1) := by decide +kernel
theorem dX1_copyFrom_38 : decode cX1_copyFrom 38 = .ok (.getfield 21, 3) := by decide +kernel
theorem dX1_copyFrom_41 : decode cX1_copyFrom 41 = .ok (.invokestatic 24, 3) := by decide +kernel
theorem dX1_copyFrom_44 : decode cX1_copyFrom 44 = .ok (.return_, 1) := by decide +kernel
theorem dX1_beginAnew_0 : decode cX1_beginAnew 0 = .ok (.aload_n 0, 1) := by decide +kernel
theorem dX1_beginAnew_1 : decode cX1_beginAnew 1 = .ok (.getfield 15, 3) := by decide +kernel
theorem dX1_beginAnew_4 : decode cX1_beginAnew 4 = .ok (.iload_n 1, 1) := by decide +kernel
theorem dX1_beginAnew_5 : decode cX1_beginAnew 5 = .ok (.iload_n 2, 1) := by decide +kernel
theorem dX1_beginAnew_6 : decode cX1_beginAnew 6 = .ok (.invokestatic 28, 3) := by decide +kernel
theorem dX1_beginAnew_9 : decode cX1_beginAnew 9 = .ok (.aload_n 0, 1) := by decide +kernel
theorem dX1_beginAnew_10 : decode cX1_beginAnew 10 = .ok (.getfield 18, 3) := by decide +kernel
theorem dX1_beginAnew_13 : decode cX1_beginAnew 13 = .ok (.iload_n 1, 1) := by decide +kernel
theorem dX1_beginAnew_14 : decode cX1_beginAnew 14 = .ok (.iconst 0, 1) := by decide +kernel
theorem dX1_beginAnew_15 : decode cX1_beginAnew 15 = .ok (.invokestatic 28, 3) := by decide +kernel
theorem dX1_beginAnew_18 : decode cX1_beginAnew 18 = .ok (.return_, 1) := by decide +kernel
theorem dX1_seePeople_0 : decode cX1_seePeople 0 = .ok (.aload_n 0, 1) := by decide +kernel
theorem dX1_seePeople_1 : decode cX1_seePeople 1 = .ok (.getfield 15, 3) := by decide +kernel
theorem dX1_seePeople_4 : decode cX1_seePeople 4 = .ok (.iload_n 1, 1) := by decide +kernel
theorem dX1_seePeople_5 : decode cX1_seePeople 5 = .ok (.invokestatic 32, 3) := by decide +kernel
theorem dX1_seePeople_8 : decode cX1_seePeople 8 = .ok (.istore_n 3, 1) := by decide +kernel
theorem dX1_seePeople_9 : decode cX1_seePeople 9 = .ok (.iconst 0, 1) := by decide +kernel
theorem dX1_seePeople_10 : decode cX1_seePeople 10 = .ok (.istore 4, 2) := by decide +kernel
theorem dX1_seePeople_12 : decode cX1_seePeople 12 = .ok (.iload_n 3, 1) := by decide +kernel
theorem dX1_seePeople_13 : decode cX1_seePeople 13 = .ok (.ifCond .le 33, 3) := by decide +kernel
theorem dX1_seePeople_16 : decode cX1_seePeople 16 = .ok (.aload_n 0, 1) := by decide +kernel
theorem dX1_seePeople_17 : decode cX1_seePeople 17 = .ok (.getfield 18, 3) := by decide +kernel
theorem dX1_seePeople_20 : decode cX1_seePeople 20 = .ok (.iload_n 1, 1) := by decide +kernel
theorem dX1_seePeople_21 : decode cX1_seePeople 21 = .ok (.invokestatic 32, 3) := by decide +kernel
theorem dX1_seePeople_24 : decode cX1_seePeople 24 = .ok (.iload_n 2, 1) := by decide +kernel
theorem dX1_seePeople_25 : decode cX1_seePeople 25 = .ok (.iadd, 1) := by decide +kernel
theorem dX1_seePeople_26 : decode cX1_seePeople 26 = .ok (.istore 5, 2) := by decide +kernel
theorem dX1_seePeople_28 : decode cX1_seePeople 28 = .ok (.iload 5, 2) := by decide +kernel
theorem dX1_seePeople_30 : decode cX1_seePeople 30 = .ok (.iload_n 3, 1) := by decide +kernel
theorem dX1_seePeople_31 : decode cX1_seePeople 31 = .ok (.idiv, 1) := by decide +kernel
theorem dX1_seePeople_32 : decode cX1_seePeople 32 = .ok (.istore 4, 2) := by decide +kernel
theorem dX1_seePeople_34 : decode cX1_seePeople 34 = .ok (.aload_n 0, 1) := by decide +kernel
theorem dX1_seePeople_35 : decode cX1_seePeople 35 = .ok (.getfield 18, 3) := by decide +kernel
theorem dX1_seePeople_38 : decode cX1_seePeople 38 = .ok (.iload_n 1, 1) := by decide +kernel
theorem dX1_seePeople_39 : decode cX1_seePeople 39 = .ok (.iload 5, 2) := by decide +kernel
theorem dX1_seePeople_41 : decode cX1_seePeople 41 = .ok (.iload_n 3, 1) := by decide +kernel
theorem dX1_seePeople_42 : decode cX1_seePeople 42 = .ok (.irem, 1) := by decide +kernel
theorem dX1_seePeople_43 : decode cX1_seePeople 43 = .ok (.invokestatic 28, 3) := by decide +kernel
theorem dX1_seePeople_46 : decode cX1_seePeople 46 = .ok (.aload_n 0, 1) := by decide +kernel
theorem dX1_seePeople_47 : decode cX1_seePeople 47 = .ok (.getfield 9, 3) := by decide +kernel
theorem dX1_seePeople_50 : decode cX1_seePeople 50 = .ok (.iload_n 1, 1) := by decide +kernel
theorem dX1_seePeople_51 : decode cX1_seePeople 51 = .ok (.iload_n 2, 1) := by decide +kernel
theorem dX1_seePeople_52 : decode cX1_seePeople 52 = .ok (.iload 4, 2) := by decide +kernel
theorem dX1_seePeople_54 : decode cX1_seePeople 54 = .ok (.isub, 1) := by decide +kernel
theorem dX1_seePeople_55 : decode cX1_seePeople 55 = .ok (.invokestatic 36, 3) := by decide +kernel
theorem dX1_seePeople_58 : decode cX1_seePeople 58 = .ok (.aload_n 0, 1) := by decide +kernel
theorem dX1_seePeople_59 : decode cX1_seePeople 59 = .ok (.getfield 21, 3) := by decide +kernel
theorem dX1_seePeople_62 : decode cX1_seePeople 62 = .ok (.iload_n 1, 1) := by decide +kernel
theorem dX1_seePeople_63 : decode cX1_seePeople 63 = .ok (.iload 4, 2) := by decide +kernel
theorem dX1_seePeople_65 : decode cX1_seePeople 65 = .ok (.invokestatic 36, 3) := by decide +kernel
theorem dX1_seePeople_68 : decode cX1_seePeople 68 = .ok (.return_, 1) := by decide +kernel
theorem dX1_endSlips_0 : decode cX1_endSlips 0 = .ok (.iconst 0, 1) := by decide +kernel
theorem dX1_endSlips_1 : decode cX1_endSlips 1 = .ok (.istore_n 2, 1) := by decide +kernel
theorem dX1_endSlips_2 : decode cX1_endSlips 2 = .ok (.iload_n 2, 1) := by decide +kernel
theorem dX1_endSlips_3 : decode cX1_endSlips 3 = .ok (.iconst 4, 1) := by decide +kernel
theorem dX1_endSlips_4 : decode cX1_endSlips 4 = .ok (.if_icmp .ge 19, 3) := by decide +kernel
theorem dX1_endSlips_7 : decode cX1_endSlips 7 = .ok (.aload_n 0, 1) := by decide +kernel
theorem dX1_endSlips_8 : decode cX1_endSlips 8 = .ok (.iload_n 1, 1) := by decide +kernel
theorem dX1_endSlips_9 : decode cX1_endSlips 9 = .ok (.iload_n 2, 1) := by decide +kernel
theorem dX1_endSlips_10 : decode cX1_endSlips 10 = .ok (.invokestatic 39, 3) := by decide +kernel
theorem dX1_endSlips_13 : decode cX1_endSlips 13 = .ok (.iconst 0, 1) := by decide +kernel
theorem dX1_endSlips_14 : decode cX1_endSlips 14 = .ok (.invokevirtual 43, 3) := by decide +kernel
theorem dX1_endSlips_17 : decode cX1_endSlips 17 = .ok (.iinc 2 1, 3) := by decide +kernel
theorem dX1_endSlips_20 : decode cX1_endSlips 20 = .ok (.goto (-18), 3) := by decide +kernel
theorem dX1_endSlips_23 : decode cX1_endSlips 23 = .ok (.return_, 1) := by decide +kernel
theorem dX1_countOf_0 : decode cX1_countOf 0 = .ok (.aload_n 0, 1) := by decide +kernel
theorem dX1_countOf_1 : decode cX1_countOf 1 = .ok (.getfield 9, 3) := by decide +kernel
theorem dX1_countOf_4 : decode cX1_countOf 4 = .ok (.iload_n 1, 1) := by decide +kernel
theorem dX1_countOf_5 : decode cX1_countOf 5 = .ok (.iload_n 2, 1) := by decide +kernel
theorem dX1_countOf_6 : decode cX1_countOf 6 = .ok (.invokestatic 39, 3) := by decide +kernel
theorem dX1_countOf_9 : decode cX1_countOf 9 = .ok (.invokestatic 32, 3) := by decide +kernel
theorem dX1_countOf_12 : decode cX1_countOf 12 = .ok (.ireturn, 1) := by decide +kernel
theorem dX1_gapOf_0 : decode cX1_gapOf 0 = .ok (.aload_n 0, 1) := by decide +kernel
theorem dX1_gapOf_1 : decode cX1_gapOf 1 = .ok (.iload_n 1, 1) := by decide +kernel
theorem dX1_gapOf_2 : decode cX1_gapOf 2 = .ok (.iconst 0, 1) := by decide +kernel
theorem dX1_gapOf_3 : decode cX1_gapOf 3 = .ok (.invokevirtual 47, 3) := by decide +kernel
theorem dX1_gapOf_6 : decode cX1_gapOf 6 = .ok (.aload_n 0, 1) := by decide +kernel
theorem dX1_gapOf_7 : decode cX1_gapOf 7 = .ok (.iload_n 1, 1) := by decide +kernel
theorem dX1_gapOf_8 : decode cX1_gapOf 8 = .ok (.iconst 3, 1) := by decide +kernel
theorem dX1_gapOf_9 : decode cX1_gapOf 9 = .ok (.invokevirtual 47, 3) := by decide +kernel
theorem dX1_gapOf_12 : decode cX1_gapOf 12 = .ok (.isub, 1) := by decide +kernel
theorem dX1_gapOf_13 : decode cX1_gapOf 13 = .ok (.istore_n 2, 1) := by decide +kernel
theorem dX1_gapOf_14 : decode cX1_gapOf 14 = .ok (.aload_n 0, 1) := by decide +kernel
theorem dX1_gapOf_15 : decode cX1_gapOf 15 = .ok (.iload_n 1, 1) := by decide +kernel
theorem dX1_gapOf_16 : decode cX1_gapOf 16 = .ok (.iconst 1, 1) := by decide +kernel
theorem dX1_gapOf_17 : decode cX1_gapOf 17 = .ok (.invokevirtual 47, 3) := by decide +kernel
theorem dX1_gapOf_20 : decode cX1_gapOf 20 = .ok (.aload_n 0, 1) := by decide +kernel
theorem dX1_gapOf_21 : decode cX1_gapOf 21 = .ok (.iload_n 1, 1) := by decide +kernel
theorem dX1_gapOf_22 : decode cX1_gapOf 22 = .ok (.iconst 2, 1) := by decide +kernel
theorem dX1_gapOf_23 : decode cX1_gapOf 23 = .ok (.invokevirtual 47, 3) := by decide +kernel
theorem dX1_gapOf_26 : decode cX1_gapOf 26 = .ok (.isub, 1) := by decide +kernel
theorem dX1_gapOf_27 : decode cX1_gapOf 27 = .ok (.istore_n 3, 1) := by decide +kernel
theorem dX1_gapOf_28 : decode cX1_gapOf 28 = .ok (.iload_n 2, 1) := by decide +kernel
theorem dX1_gapOf_29 : decode cX1_gapOf 29 = .ok (.invokestatic 50, 3) := by decide +kernel
theorem dX1_gapOf_32 : decode cX1_gapOf 32 = .ok (.iload_n 3, 1) := by decide +kernel
theorem dX1_gapOf_33 : decode cX1_gapOf 33 = .ok (.invokestatic 50, 3) := by decide +kernel
theorem dX1_gapOf_36 : decode cX1_gapOf 36 = .ok (.iadd, 1) := by decide +kernel
theorem dX1_gapOf_37 : decode cX1_gapOf 37 = .ok (.ireturn, 1) := by decide +kernel
theorem dX1_makeAgree_0 : decode cX1_makeAgree 0 = .ok (.aload_n 0, 1) := by decide +kernel
theorem dX1_makeAgree_1 : decode cX1_makeAgree 1 = .ok (.iload_n 1, 1) := by decide +kernel
theorem dX1_makeAgree_2 : decode cX1_makeAgree 2 = .ok (.iconst 0, 1) := by decide +kernel
theorem dX1_makeAgree_3 : decode cX1_makeAgree 3 = .ok (.iconst 3, 1) := by decide +kernel
theorem dX1_makeAgree_4 : decode cX1_makeAgree 4 = .ok (.invokevirtual 56, 3) := by decide +kernel
theorem dX1_makeAgree_7 : decode cX1_makeAgree 7 = .ok (.aload_n 0, 1) := by decide +kernel
theorem dX1_makeAgree_8 : decode cX1_makeAgree 8 = .ok (.iload_n 1, 1) := by decide +kernel
theorem dX1_makeAgree_9 : decode cX1_makeAgree 9 = .ok (.iconst 1, 1) := by decide +kernel
theorem dX1_makeAgree_10 : decode cX1_makeAgree 10 = .ok (.iconst 2, 1) := by decide +kernel
theorem dX1_makeAgree_11 : decode cX1_makeAgree 11 = .ok (.invokevirtual 56, 3) := by decide +kernel
theorem dX1_makeAgree_14 : decode cX1_makeAgree 14 = .ok (.return_, 1) := by decide +kernel
theorem dX1_makePairAgree_0 : decode cX1_makePairAgree 0 = .ok (.aload_n 0, 1) := by decide +kernel
theorem dX1_makePairAgree_1 : decode cX1_makePairAgree 1 = .ok (.iload_n 1, 1) := by decide +kernel
theorem dX1_makePairAgree_2 : decode cX1_makePairAgree 2 = .ok (.iload_n 2, 1) := by decide +kernel
theorem dX1_makePairAgree_3 : decode cX1_makePairAgree 3 = .ok (.invokevirtual 47, 3) := by decide +kernel
theorem dX1_makePairAgree_6 : decode cX1_makePairAgree 6 = .ok (.aload_n 0, 1) := by decide +kernel
theorem dX1_makePairAgree_7 : decode cX1_makePairAgree 7 = .ok (.iload_n 1, 1) := by decide +kernel
theorem dX1_makePairAgree_8 : decode cX1_makePairAgree 8 = .ok (.iload_n 3, 1) := by decide +kernel
theorem dX1_makePairAgree_9 : decode cX1_makePairAgree 9 = .ok (.invokevirtual 47, 3) := by decide +kernel
theorem dX1_makePairAgree_12 : decode cX1_makePairAgree 12 = .ok (.invokestatic 60, 3) := by decide +kernel
theorem dX1_makePairAgree_15 : decode cX1_makePairAgree 15 = .ok (.istore 4, 2) := by decide +kernel
theorem dX1_makePairAgree_17 : decode cX1_makePairAgree 17 = .ok (.aload_n 0, 1) := by decide +kernel
theorem dX1_makePairAgree_18 : decode cX1_makePairAgree 18 = .ok (.getfield 9, 3) := by decide +kernel
theorem dX1_makePairAgree_21 : decode cX1_makePairAgree 21 = .ok (.iload_n 1, 1) := by decide +kernel
theorem dX1_makePairAgree_22 : decode cX1_makePairAgree 22 = .ok (.iload_n 2, 1) := by decide +kernel
theorem dX1_makePairAgree_23 : decode cX1_makePairAgree 23 = .ok (.invokestatic 39, 3) := by decide +kernel
theorem dX1_makePairAgree_26 : decode cX1_makePairAgree 26 = .ok (.iload 4, 2) := by decide +kernel
theorem dX1_makePairAgree_28 : decode cX1_makePairAgree 28 = .ok (.invokestatic 28, 3) := by decide +kernel
theorem dX1_makePairAgree_31 : decode cX1_makePairAgree 31 = .ok (.aload_n 0, 1) := by decide +kernel
theorem dX1_makePairAgree_32 : decode cX1_makePairAgree 32 = .ok (.getfield 9, 3) := by decide +kernel
theorem dX1_makePairAgree_35 : decode cX1_makePairAgree 35 = .ok (.iload_n 1, 1) := by decide +kernel
theorem dX1_makePairAgree_36 : decode cX1_makePairAgree 36 = .ok (.iload_n 3, 1) := by decide +kernel
theorem dX1_makePairAgree_37 : decode cX1_makePairAgree 37 = .ok (.invokestatic 39, 3) := by decide +kernel
theorem dX1_makePairAgree_40 : decode cX1_makePairAgree 40 = .ok (.iload 4, 2) := by decide +kernel
theorem dX1_makePairAgree_42 : decode cX1_makePairAgree 42 = .ok (.invokestatic 28, 3) := by decide +kernel
theorem dX1_makePairAgree_45 : decode cX1_makePairAgree 45 = .ok (.return_, 1) := by decide +kernel
theorem dX1_withSlip_0 : decode cX1_withSlip 0 = .ok (.iconst 0, 1) := by decide +kernel
theorem dX1_withSlip_1 : decode cX1_withSlip 1 = .ok (.istore_n 1, 1) := by decide +kernel
theorem dX1_withSlip_2 : decode cX1_withSlip 2 = .ok (.iconst 0, 1) := by decide +kernel
theorem dX1_withSlip_3 : decode cX1_withSlip 3 = .ok (.istore_n 2, 1) := by decide +kernel
theorem dX1_withSlip_4 : decode cX1_withSlip 4 = .ok (.iload_n 2, 1) := by decide +kernel
theorem dX1_withSlip_5 : decode cX1_withSlip 5 = .ok (.aload_n 0, 1) := by decide +kernel
theorem dX1_withSlip_6 : decode cX1_withSlip 6 = .ok (.getfield 15, 3) := by decide +kernel
theorem dX1_withSlip_9 : decode cX1_withSlip 9 = .ok (.arraylength, 1) := by decide +kernel
theorem dX1_withSlip_10 : decode cX1_withSlip 10 = .ok (.if_icmp .ge 23, 3) := by decide +kernel
theorem dX1_withSlip_13 : decode cX1_withSlip 13 = .ok (.aload_n 0, 1) := by decide +kernel
theorem dX1_withSlip_14 : decode cX1_withSlip 14 = .ok (.getfield 15, 3) := by decide +kernel
theorem dX1_withSlip_17 : decode cX1_withSlip 17 = .ok (.iload_n 2, 1) := by decide +kernel
theorem dX1_withSlip_18 : decode cX1_withSlip 18 = .ok (.invokestatic 32, 3) := by decide +kernel
theorem dX1_withSlip_21 : decode cX1_withSlip 21 = .ok (.ifCond .le 6, 3) := by decide +kernel
theorem dX1_withSlip_24 : decode cX1_withSlip 24 = .ok (.iinc 1 1, 3) := by decide +kernel
theorem dX1_withSlip_27 : decode cX1_withSlip 27 = .ok (.iinc 2 1, 3) := by decide +kernel
theorem dX1_withSlip_30 : decode cX1_withSlip 30 = .ok (.goto (-26), 3) := by decide +kernel
theorem dX1_withSlip_33 : decode cX1_withSlip 33 = .ok (.iload_n 1, 1) := by decide +kernel
theorem dX1_withSlip_34 : decode cX1_withSlip 34 = .ok (.ireturn, 1) := by decide +kernel
theorem dX2_init_0 : decode cX2_init 0 = .ok (.aload_n 0, 1) := by decide +kernel
theorem dX2_init_1 : decode cX2_init 1 = .ok (.invokespecial 3, 3) := by decide +kernel
theorem dX2_init_4 : decode cX2_init 4 = .ok (.aload_n 0, 1) := by decide +kernel
theorem dX2_init_5 : decode cX2_init 5 = .ok (.iconst 5, 1) := by decide +kernel
theorem dX2_init_6 : decode cX2_init 6 = .ok (.anewarray 9, 3) := by decide +kernel
theorem dX2_init_9 : decode cX2_init 9 = .ok (.putfield 11, 3) := by decide +kernel
theorem dX2_init_12 : decode cX2_init 12 = .ok (.aload_n 0, 1) := by decide +kernel
theorem dX2_init_13 : decode cX2_init 13 = .ok (.iconst 0, 1) := by decide +kernel
theorem dX2_init_14 : decode cX2_init 14 = .ok (.putfield 17, 3) := by decide +kernel
theorem dX2_init_17 : decode cX2_init 17 = .ok (.aload_n 0, 1) := by decide +kernel
theorem dX2_init_18 : decode cX2_init 18 = .ok (.iconst 0, 1) := by decide +kernel
theorem dX2_init_19 : decode cX2_init 19 = .ok (.putfield 21, 3) := by decide +kernel
theorem dX2_init_22 : decode cX2_init 22 = .ok (.iconst 0, 1) := by decide +kernel
theorem dX2_init_23 : decode cX2_init 23 = .ok (.istore_n 1, 1) := by decide +kernel
theorem dX2_init_24 : decode cX2_init 24 = .ok (.iload_n 1, 1) := by decide +kernel
theorem dX2_init_25 : decode cX2_init 25 = .ok (.aload_n 0, 1) := by decide +kernel
theorem dX2_init_26 : decode cX2_init 26 = .ok (.getfield 11, 3) := by decide +kernel
theorem dX2_init_29 : decode cX2_init 29 = .ok (.arraylength, 1) := by decide +kernel
theorem dX2_init_30 : decode cX2_init 30 = .ok (.if_icmp .ge 22, 3) := by decide +kernel
theorem dX2_init_33 : decode cX2_init 33 = .ok (.aload_n 0, 1) := by decide +kernel
theorem dX2_init_34 : decode cX2_init 34 = .ok (.getfield 11, 3) := by decide +kernel
theorem dX2_init_37 : decode cX2_init 37 = .ok (.iload_n 1, 1) := by decide +kernel
theorem dX2_init_38 : decode cX2_init 38 = .ok (.new 9, 3) := by decide +kernel
theorem dX2_init_41 : decode cX2_init 41 = .ok (.dup, 1) := by decide +kernel
theorem dX2_init_42 : decode cX2_init 42 = .ok (.invokespecial 24, 3) := by decide +kernel
theorem dX2_init_45 : decode cX2_init 45 = .ok (.aastore, 1) := by decide +kernel
theorem dX2_init_46 : decode cX2_init 46 = .ok (.iinc 1 1, 3) := by decide +kernel
theorem dX2_init_49 : decode cX2_init 49 = .ok (.goto (-25), 3) := by decide +kernel
theorem dX2_init_52 : decode cX2_init 52 = .ok (.return_, 1) := by decide +kernel
theorem dX2_keep_0 : decode cX2_keep 0 = .ok (.aload_n 0, 1) := by decide +kernel
theorem dX2_keep_1 : decode cX2_keep 1 = .ok (.aload_n 0, 1) := by decide +kernel
theorem dX2_keep_2 : decode cX2_keep 2 = .ok (.getfield 17, 3) := by decide +kernel
theorem dX2_keep_5 : decode cX2_keep 5 = .ok (.aload_n 0, 1) := by decide +kernel
theorem dX2_keep_6 : decode cX2_keep 6 = .ok (.getfield 21, 3) := by decide +kernel
theorem dX2_keep_9 : decode cX2_keep 9 = .ok (.iadd, 1) := by decide +kernel
theorem dX2_keep_10 : decode cX2_keep 10 = .ok (.iconst 5, 1) := by decide +kernel
theorem dX2_keep_11 : decode cX2_keep 11 = .ok (.irem, 1) := by decide +kernel
theorem dX2_keep_12 : decode cX2_keep 12 = .ok (.invokevirtual 25, 3) := by decide +kernel
theorem dX2_keep_15 : decode cX2_keep 15 = .ok (.astore_n 2, 1) := by decide +kernel
theorem dX2_keep_16 : decode cX2_keep 16 = .ok (.aload_n 2, 1) := by decide +kernel
theorem dX2_keep_17 : decode cX2_keep 17 = .ok (.ifnull 8, 3) := by decide +kernel
theorem dX2_keep_20 : decode cX2_keep 20 = .ok (.aload_n 2, 1) := by decide +kernel
theorem dX2_keep_21 : decode cX2_keep 21 = .ok (.aload_n 1, 1) := by decide +kernel
theorem dX2_keep_22 : decode cX2_keep 22 = .ok (.invokevirtual 29, 3) := by decide +kernel
theorem dX2_keep_25 : decode cX2_keep 25 = .ok (.aload_n 0, 1) := by decide +kernel
theorem dX2_keep_26 : decode cX2_keep 26 = .ok (.getfield 21, 3) := by decide +kernel
theorem dX2_keep_29 : decode cX2_keep 29 = .ok (.iconst 5, 1) := by decide +kernel
theorem dX2_keep_30 : decode cX2_keep 30 = .ok (.if_icmp .ge 16, 3) := by decide +kernel
theorem dX2_keep_33 : decode cX2_keep 33 = .ok (.aload_n 0, 1) := by decide +kernel
theorem dX2_keep_34 : decode cX2_keep 34 = .ok (.dup, 1) := by decide +kernel
theorem dX2_keep_35 : decode cX2_keep 35 = .ok (.getfield 21, 3) := by decide +kernel
theorem dX2_keep_38 : decode cX2_keep 38 = .ok (.iconst 1, 1) := by decide +kernel
theorem dX2_keep_39 : decode cX2_keep 39 = .ok (.iadd, 1) := by decide +kernel
theorem dX2_keep_40 : decode cX2_keep 40 = .ok (.putfield 21, 3) := by decide +kernel
theorem dX2_keep_43 : decode cX2_keep 43 = .ok (.goto 15, 3) := by decide +kernel
theorem dX2_keep_46 : decode cX2_keep 46 = .ok (.aload_n 0, 1) := by decide +kernel
theorem dX2_keep_47 : decode cX2_keep 47 = .ok (.aload_n 0, 1) := by decide +kernel
theorem dX2_keep_48 : decode cX2_keep 48 = .ok (.getfield 17, 3) := by decide +kernel
theorem dX2_keep_51 : decode cX2_keep 51 = .ok (.iconst 1, 1) := by decide +kernel
theorem dX2_keep_52 : decode cX2_keep 52 = .ok (.iadd, 1) := by decide +kernel
theorem dX2_keep_53 : decode cX2_keep 53 = .ok (.iconst 5, 1) := by decide +kernel
theorem dX2_keep_54 : decode cX2_keep 54 = .ok (.irem, 1) := by decide +kernel
theorem dX2_keep_55 : decode cX2_keep 55 = .ok (.putfield 17, 3) := by decide +kernel
theorem dX2_keep_58 : decode cX2_keep 58 = .ok (.return_, 1) := by decide +kernel
theorem dX2_takeLatest_0 : decode cX2_takeLatest 0 = .ok (.aload_n 0, 1) := by decide +kernel
theorem dX2_takeLatest_1 : decode cX2_takeLatest 1 = .ok (.getfield 21, 3) := by decide +kernel
theorem dX2_takeLatest_4 : decode cX2_takeLatest 4 = .ok (.ifCond .le 38, 3) := by decide +kernel
theorem dX2_takeLatest_7 : decode cX2_takeLatest 7 = .ok (.aload_n 0, 1) := by decide +kernel
theorem dX2_takeLatest_8 : decode cX2_takeLatest 8 = .ok (.dup, 1) := by decide +kernel
theorem dX2_takeLatest_9 : decode cX2_takeLatest 9 = .ok (.getfield 21, 3) := by decide +kernel
theorem dX2_takeLatest_12 : decode cX2_takeLatest 12 = .ok (.iconst 1, 1) := by decide +kernel
theorem dX2_takeLatest_13 : decode cX2_takeLatest 13 = .ok (.isub, 1) := by decide +kernel
theorem dX2_takeLatest_14 : decode cX2_takeLatest 14 = .ok (.putfield 21, 3) := by decide +kernel
theorem dX2_takeLatest_17 : decode cX2_takeLatest 17 = .ok (.aload_n 0, 1) := by decide +kernel
theorem dX2_takeLatest_18 : decode cX2_takeLatest 18 = .ok (.aload_n 0, 1) := by decide +kernel
theorem dX2_takeLatest_19 : decode cX2_takeLatest 19 = .ok (.getfield 17, 3) := by decide +kernel
theorem dX2_takeLatest_22 : decode cX2_takeLatest 22 = .ok (.aload_n 0, 1) := by decide +kernel
theorem dX2_takeLatest_23 : decode cX2_takeLatest 23 = .ok (.getfield 21, 3) := by decide +kernel
theorem dX2_takeLatest_26 : decode cX2_takeLatest 26 = .ok (.iadd, 1) := by decide +kernel
theorem dX2_takeLatest_27 : decode cX2_takeLatest 27 = .ok (.iconst 5, 1) := by decide +kernel
theorem dX2_takeLatest_28 : decode cX2_takeLatest 28 = .ok (.irem, 1) := by decide +kernel
theorem dX2_takeLatest_29 : decode cX2_takeLatest 29 = .ok (.invokevirtual 25, 3) := by decide +kernel
theorem dX2_takeLatest_32 : decode cX2_takeLatest 32 = .ok (.astore_n 2, 1) := by decide +kernel
theorem dX2_takeLatest_33 : decode cX2_takeLatest 33 = .ok (.aload_n 2, 1) := by decide +kernel
theorem dX2_takeLatest_34 : decode cX2_takeLatest 34 = .ok (.ifnull 8, 3) := by decide +kernel
theorem dX2_takeLatest_37 : decode cX2_takeLatest 37 = .ok (.aload_n 1, 1) := by decide +kernel
theorem dX2_takeLatest_38 : decode cX2_takeLatest 38 = .ok (.aload_n 2, 1) := by decide +kernel
theorem dX2_takeLatest_39 : decode cX2_takeLatest 39 = .ok (.invokevirtual 29, 3) := by decide +kernel
theorem dX2_takeLatest_42 : decode cX2_takeLatest 42 = .ok (.return_, 1) := by decide +kernel
theorem dX2_stateAt_0 : decode cX2_stateAt 0 = .ok (.iload_n 1, 1) := by decide +kernel
theorem dX2_stateAt_1 : decode cX2_stateAt 1 = .ok (.ifCond .lt 21, 3) := by decide +kernel
theorem dX2_stateAt_4 : decode cX2_stateAt 4 = .ok (.iload_n 1, 1) := by decide +kernel
theorem dX2_stateAt_5 : decode cX2_stateAt 5 = .ok (.aload_n 0, 1) := by decide +kernel
theorem dX2_stateAt_6 : decode cX2_stateAt 6 = .ok (.getfield 11, 3) := by decide +kernel
theorem dX2_stateAt_9 : decode cX2_stateAt 9 = .ok (.arraylength, 1) := by decide +kernel
theorem dX2_stateAt_10 : decode cX2_stateAt 10 = .ok (.if_icmp .ge 12, 3) := by decide +kernel
theorem dX2_stateAt_13 : decode cX2_stateAt 13 = .ok (.aload_n 0, 1) := by decide +kernel
theorem dX2_stateAt_14 : decode cX2_stateAt 14 = .ok (.getfield 11, 3) := by decide +kernel
theorem dX2_stateAt_17 : decode cX2_stateAt 17 = .ok (.iload_n 1, 1) := by decide +kernel
theorem dX2_stateAt_18 : decode cX2_stateAt 18 = .ok (.aaload, 1) := by decide +kernel
theorem dX2_stateAt_19 : decode cX2_stateAt 19 = .ok (.goto 4, 3) := by decide +kernel
theorem dX2_stateAt_22 : decode cX2_stateAt 22 = .ok (.aconst_null, 1) := by decide +kernel
theorem dX2_stateAt_23 : decode cX2_stateAt 23 = .ok (.areturn, 1) := by decide +kernel
theorem dX3_init_0 : decode cX3_init 0 = .ok (.aload_n 0, 1) := by decide +kernel
theorem dX3_init_1 : decode cX3_init 1 = .ok (.invokespecial 3, 3) := by decide +kernel
theorem dX3_init_4 : decode cX3_init 4 = .ok (.aload_n 0, 1) := by decide +kernel
theorem dX3_init_5 : decode cX3_init 5 = .ok (.bipush 60, 2) := by decide +kernel
theorem dX3_init_7 : decode cX3_init 7 = .ok (.newarray .int, 2) := by decide +kernel
theorem dX3_init_9 : decode cX3_init 9 = .ok (.putfield 9, 3) := by decide +kernel
theorem dX3_init_12 : decode cX3_init 12 = .ok (.aload_n 0, 1) := by decide +kernel
theorem dX3_init_13 : decode cX3_init 13 = .ok (.iconst 0, 1) := by decide +kernel
theorem dX3_init_14 : decode cX3_init 14 = .ok (.putfield 15, 3) := by decide +kernel
theorem dX3_init_17 : decode cX3_init 17 = .ok (.aload_n 0, 1) := by decide +kernel
theorem dX3_init_18 : decode cX3_init 18 = .ok (.iconst 0, 1) := by decide +kernel
theorem dX3_init_19 : decode cX3_init 19 = .ok (.putfield 19, 3) := by decide +kernel
theorem dX3_init_22 : decode cX3_init 22 = .ok (.aload_n 0, 1) := by decide +kernel
theorem dX3_init_23 : decode cX3_init 23 = .ok (.iconst 0, 1) := by decide +kernel
theorem dX3_init_24 : decode cX3_init 24 = .ok (.putfield 22, 3) := by decide +kernel
theorem dX3_init_27 : decode cX3_init 27 = .ok (.aload_n 0, 1) := by decide +kernel
theorem dX3_init_28 : decode cX3_init 28 = .ok (.iconst 0, 1) := by decide +kernel
theorem dX3_init_29 : decode cX3_init 29 = .ok (.putfield 25, 3) := by decide +kernel
theorem dX3_init_32 : decode cX3_init 32 = .ok (.aload_n 0, 1) := by decide +kernel
theorem dX3_init_33 : decode cX3_init 33 = .ok (.iconst 0, 1) := by decide +kernel
theorem dX3_init_34 : decode cX3_init 34 = .ok (.putfield 28, 3) := by decide +kernel
theorem dX3_init_37 : decode cX3_init 37 = .ok (.return_, 1) := by decide +kernel
theorem dX3_addCharacter_0 : decode cX3_addCharacter 0 = .ok (.aload_n 0, 1) := by decide +kernel
theorem dX3_addCharacter_1 : decode cX3_addCharacter 1 = .ok (.getfield 9, 3) := by decide +kernel
theorem dX3_addCharacter_4 : decode cX3_addCharacter 4 = .ok (.aload_n 0, 1) := by decide +kernel
theorem dX3_addCharacter_5 : decode cX3_addCharacter 5 = .ok (.getfield 15, 3) := by decide +kernel
theorem dX3_addCharacter_8 : decode cX3_addCharacter 8 = .ok (.iload_n 1, 1) := by decide +kernel
theorem dX3_addCharacter_9 : decode cX3_addCharacter 9 = .ok (.invokestatic 31, 3) := by decide +kernel
theorem dX3_addCharacter_12 : decode cX3_addCharacter 12 = .ok (.aload_n 0, 1) := by decide +kernel
theorem dX3_addCharacter_13 : decode cX3_addCharacter 13 = .ok (.dup, 1) := by decide +kernel
theorem dX3_addCharacter_14 : decode cX3_addCharacter 14 = .ok (.getfield 15, 3) := by decide +kernel
theorem dX3_addCharacter_17 : decode cX3_addCharacter 17 = .ok (.iconst 1, 1) := by decide +kernel
theorem dX3_addCharacter_18 : decode cX3_addCharacter 18 = .ok (.iadd, 1) := by decide +kernel
theorem dX3_addCharacter_19 : decode cX3_addCharacter 19 = .ok (.putfield 15, 3) := by decide +kernel
theorem dX3_addCharacter_22 : decode cX3_addCharacter 22 = .ok (.return_, 1) := by decide +kernel
theorem dX3_findFault_0 : decode cX3_findFault 0 = .ok (.iconst 0, 1) := by decide +kernel
theorem dX3_findFault_1 : decode cX3_findFault 1 = .ok (.istore_n 1, 1) := by decide +kernel
theorem dX3_findFault_2 : decode cX3_findFault 2 = .ok (.iconst 0, 1) := by decide +kernel
theorem dX3_findFault_3 : decode cX3_findFault 3 = .ok (.istore_n 2, 1) := by decide +kernel
theorem dX3_findFault_4 : decode cX3_findFault 4 = .ok (.iload_n 2, 1) := by decide +kernel
theorem dX3_findFault_5 : decode cX3_findFault 5 = .ok (.aload_n 0, 1) := by decide +kernel
theorem dX3_findFault_6 : decode cX3_findFault 6 = .ok (.getfield 15, 3) := by decide +kernel
theorem dX3_findFault_9 : decode cX3_findFault 9 = .ok (.if_icmp .ge 29, 3) := by decide +kernel
theorem dX3_findFault_12 : decode cX3_findFault 12 = .ok (.iload_n 1, 1) := by decide +kernel
theorem dX3_findFault_13 : decode cX3_findFault 13 = .ok (.aload_n 0, 1) := by decide +kernel
theorem dX3_findFault_14 : decode cX3_findFault 14 = .ok (.getfield 9, 3) := by decide +kernel
theorem dX3_findFault_17 : decode cX3_findFault 17 = .ok (.iload_n 2, 1) := by decide +kernel
theorem dX3_findFault_18 : decode cX3_findFault 18 = .ok (.invokestatic 35, 3) := by decide +kernel
theorem dX3_findFault_21 : decode cX3_findFault 21 = .ok (.invokestatic 39, 3) := by decide +kernel
theorem dX3_findFault_24 : decode cX3_findFault 24 = .ok (.istore_n 1, 1) := by decide +kernel
theorem dX3_findFault_25 : decode cX3_findFault 25 = .ok (.iload_n 1, 1) := by decide +kernel
theorem dX3_findFault_26 : decode cX3_findFault 26 = .ok (.iconst (-1), 1) := by decide +kernel
theorem dX3_findFault_27 : decode cX3_findFault 27 = .ok (.if_icmp .ne 5, 3) := by decide +kernel
theorem dX3_findFault_30 : decode cX3_findFault 30 = .ok (.iload_n 2, 1) := by decide +kernel
theorem dX3_findFault_31 : decode cX3_findFault 31 = .ok (.ireturn, 1) := by decide +kernel
theorem dX3_findFault_32 : decode cX3_findFault 32 = .ok (.iinc 2 1, 3) := by decide +kernel
theorem dX3_findFault_35 : decode cX3_findFault 35 = .ok (.goto (-31), 3) := by decide +kernel
theorem dX3_findFault_38 : decode cX3_findFault 38 = .ok (.iload_n 1, 1) := by decide +kernel
theorem dX3_findFault_39 : decode cX3_findFault 39 = .ok (.iconst 3, 1) := by decide +kernel
theorem dX3_findFault_40 : decode cX3_findFault 40 = .ok (.if_icmp .eq 8, 3) := by decide +kernel
theorem dX3_findFault_43 : decode cX3_findFault 43 = .ok (.iload_n 1, 1) := by decide +kernel
theorem dX3_findFault_44 : decode cX3_findFault 44 = .ok (.iconst 4, 1) := by decide +kernel
theorem dX3_findFault_45 : decode cX3_findFault 45 = .ok (.if_icmp .ne 8, 3) := by decide +kernel
theorem dX3_findFault_48 : decode cX3_findFault 48 = .ok (.ldc 43, 2) := by decide +kernel
theorem dX3_findFault_50 : decode cX3_findFault 50 = .ok (.goto 7, 3) := by decide +kernel
theorem dX3_findFault_53 : decode cX3_findFault 53 = .ok (.aload_n 0, 1) := by decide +kernel
theorem dX3_findFault_54 : decode cX3_findFault 54 = .ok (.getfield 15, 3) := by decide +kernel
theorem dX3_findFault_57 : decode cX3_findFault 57 = .ok (.ireturn, 1) := by decide +kernel
theorem dX3_whereBehind_0 : decode cX3_whereBehind 0 = .ok (.iload_n 0, 1) := by decide +kernel
theorem dX3_whereBehind_1 : decode cX3_whereBehind 1 = .ok (.tableswitch 119 0 3 #[31, 52, 79, 98], 31) := by decide +kernel
theorem dX3_whereBehind_32 : decode cX3_whereBehind 32 = .ok (.iload_n 1, 1) := by decide +kernel
theorem dX3_whereBehind_33 : decode cX3_whereBehind 33 = .ok (.bipush 104, 2) := by decide +kernel
theorem dX3_whereBehind_35 : decode cX3_whereBehind 35 = .ok (.if_icmp .ne 5, 3) := by decide +kernel
theorem dX3_whereBehind_38 : decode cX3_whereBehind 38 = .ok (.iconst 2, 1) := by decide +kernel
theorem dX3_whereBehind_39 : decode cX3_whereBehind 39 = .ok (.ireturn, 1) := by decide +kernel
theorem dX3_whereBehind_40 : decode cX3_whereBehind 40 = .ok (.iload_n 1, 1) := by decide +kernel
theorem dX3_whereBehind_41 : decode cX3_whereBehind 41 = .ok (.invokestatic 44, 3) := by decide +kernel
theorem dX3_whereBehind_44 : decode cX3_whereBehind 44 = .ok (.ifCond .eq 7, 3) := by decide +kernel
theorem dX3_whereBehind_47 : decode cX3_whereBehind 47 = .ok (.iconst 1, 1) := by decide +kernel
theorem dX3_whereBehind_48 : decode cX3_whereBehind 48 = .ok (.goto 4, 3) := by decide +kernel
theorem dX3_whereBehind_51 : decode cX3_whereBehind 51 = .ok (.iconst (-1), 1) := by decide +kernel
theorem dX3_whereBehind_52 : decode cX3_whereBehind 52 = .ok (.ireturn, 1) := by decide +kernel
theorem dX3_whereBehind_53 : decode cX3_whereBehind 53 = .ok (.iload_n 1, 1) := by decide +kernel
theorem dX3_whereBehind_54 : decode cX3_whereBehind 54 = .ok (.invokestatic 48, 3) := by decide +kernel
theorem dX3_whereBehind_57 : decode cX3_whereBehind 57 = .ok (.ifCond .eq 5, 3) := by decide +kernel
theorem dX3_whereBehind_60 : decode cX3_whereBehind 60 = .ok (.iconst 2, 1) := by decide +kernel
theorem dX3_whereBehind_61 : decode cX3_whereBehind 61 = .ok (.ireturn, 1) := by decide +kernel
theorem dX3_whereBehind_62 : decode cX3_whereBehind 62 = .ok (.iload_n 1, 1) := by decide +kernel
theorem dX3_whereBehind_63 : decode cX3_whereBehind 63 = .ok (.bipush 97, 2) := by decide +kernel
theorem dX3_whereBehind_65 : decode cX3_whereBehind 65 = .ok (.if_icmp .eq 9, 3) := by decide +kernel
theorem dX3_whereBehind_68 : decode cX3_whereBehind 68 = .ok (.iload_n 1, 1) := by decide +kernel
theorem dX3_whereBehind_69 : decode cX3_whereBehind 69 = .ok (.bipush 114, 2) := by decide +kernel
theorem dX3_whereBehind_71 : decode cX3_whereBehind 71 = .ok (.if_icmp .ne 7, 3) := by decide +kernel
theorem dX3_whereBehind_74 : decode cX3_whereBehind 74 = .ok (.iconst 4, 1) := by decide +kernel
theorem dX3_whereBehind_75 : decode cX3_whereBehind 75 = .ok (.goto 4, 3) := by decide +kernel
theorem dX3_whereBehind_78 : decode cX3_whereBehind 78 = .ok (.iconst (-1), 1) := by decide +kernel
theorem dX3_whereBehind_79 : decode cX3_whereBehind 79 = .ok (.ireturn, 1) := by decide +kernel
theorem dX3_whereBehind_80 : decode cX3_whereBehind 80 = .ok (.iload_n 1, 1) := by decide +kernel
theorem dX3_whereBehind_81 : decode cX3_whereBehind 81 = .ok (.invokestatic 51, 3) := by decide +kernel
theorem dX3_whereBehind_84 : decode cX3_whereBehind 84 = .ok (.ifCond .eq 13, 3) := by decide +kernel
theorem dX3_whereBehind_87 : decode cX3_whereBehind 87 = .ok (.iload_n 1, 1) := by decide +kernel
theorem dX3_whereBehind_88 : decode cX3_whereBehind 88 = .ok (.bipush 48, 2) := by decide +kernel
theorem dX3_whereBehind_90 : decode cX3_whereBehind 90 = .ok (.if_icmp .eq 7, 3) := by decide +kernel
theorem dX3_whereBehind_93 : decode cX3_whereBehind 93 = .ok (.iconst 3, 1) := by decide +kernel
theorem dX3_whereBehind_94 : decode cX3_whereBehind 94 = .ok (.goto 4, 3) := by decide +kernel
theorem dX3_whereBehind_97 : decode cX3_whereBehind 97 = .ok (.iconst (-1), 1) := by decide +kernel
theorem dX3_whereBehind_98 : decode cX3_whereBehind 98 = .ok (.ireturn, 1) := by decide +kernel
theorem dX3_whereBehind_99 : decode cX3_whereBehind 99 = .ok (.iload_n 1, 1) := by decide +kernel
theorem dX3_whereBehind_100 : decode cX3_whereBehind 100 = .ok (.invokestatic 51, 3) := by decide +kernel
theorem dX3_whereBehind_103 : decode cX3_whereBehind 103 = .ok (.ifCond .eq 5, 3) := by decide +kernel
theorem dX3_whereBehind_106 : decode cX3_whereBehind 106 = .ok (.iconst 4, 1) := by decide +kernel
theorem dX3_whereBehind_107 : decode cX3_whereBehind 107 = .ok (.ireturn, 1) := by decide +kernel
theorem dX3_whereBehind_108 : decode cX3_whereBehind 108 = .ok (.iload_n 1, 1) := by decide +kernel
theorem dX3_whereBehind_109 : decode cX3_whereBehind 109 = .ok (.bipush 44, 2) := by decide +kernel
theorem dX3_whereBehind_111 : decode cX3_whereBehind 111 = .ok (.if_icmp .ne 7, 3) := by decide +kernel
theorem dX3_whereBehind_114 : decode cX3_whereBehind 114 = .ok (.iconst 0, 1) := by decide +kernel
theorem dX3_whereBehind_115 : decode cX3_whereBehind 115 = .ok (.goto 4, 3) := by decide +kernel
theorem dX3_whereBehind_118 : decode cX3_whereBehind 118 = .ok (.iconst (-1), 1) := by decide +kernel
theorem dX3_whereBehind_119 : decode cX3_whereBehind 119 = .ok (.ireturn, 1) := by decide +kernel
theorem dX3_whereBehind_120 : decode cX3_whereBehind 120 = .ok (.iload_n 1, 1) := by decide +kernel
theorem dX3_whereBehind_121 : decode cX3_whereBehind 121 = .ok (.bipush 44, 2) := by decide +kernel
theorem dX3_whereBehind_123 : decode cX3_whereBehind 123 = .ok (.if_icmp .ne 7, 3) := by decide +kernel
theorem dX3_whereBehind_126 : decode cX3_whereBehind 126 = .ok (.iconst 0, 1) := by decide +kernel
theorem dX3_whereBehind_127 : decode cX3_whereBehind 127 = .ok (.goto 4, 3) := by decide +kernel
theorem dX3_whereBehind_130 : decode cX3_whereBehind 130 = .ok (.iconst (-1), 1) := by decide +kernel
theorem dX3_whereBehind_131 : decode cX3_whereBehind 131 = .ok (.ireturn, 1) := by decide +kernel
theorem dX3_isStileLetter_0 : decode cX3_isStileLetter 0 = .ok (.iload_n 0, 1) := by decide +kernel
theorem dX3_isStileLetter_1 : decode cX3_isStileLetter 1 = .ok (.bipush 65, 2) := by decide +kernel
theorem dX3_isStileLetter_3 : decode cX3_isStileLetter 3 = .ok (.if_icmp .lt 13, 3) := by decide +kernel
theorem dX3_isStileLetter_6 : decode cX3_isStileLetter 6 = .ok (.iload_n 0, 1) := by decide +kernel
theorem dX3_isStileLetter_7 : decode cX3_isStileLetter 7 = .ok (.bipush 77, 2) := by decide +kernel
theorem dX3_isStileLetter_9 : decode cX3_isStileLetter 9 = .ok (.if_icmp .ge 7, 3) := by decide +kernel
theorem dX3_isStileLetter_12 : decode cX3_isStileLetter 12 = .ok (.iconst 1, 1) := by decide +kernel
theorem dX3_isStileLetter_13 : decode cX3_isStileLetter 13 = .ok (.goto 4, 3) := by decide +kernel
theorem dX3_isStileLetter_16 : decode cX3_isStileLetter 16 = .ok (.iconst 0, 1) := by decide +kernel
theorem dX3_isStileLetter_17 : decode cX3_isStileLetter 17 = .ok (.ireturn, 1) := by decide +kernel
theorem dX3_isWay_0 : decode cX3_isWay 0 = .ok (.iload_n 0, 1) := by decide +kernel
theorem dX3_isWay_1 : decode cX3_isWay 1 = .ok (.bipush 62, 2) := by decide +kernel
theorem dX3_isWay_3 : decode cX3_isWay 3 = .ok (.if_icmp .eq 9, 3) := by decide +kernel
theorem dX3_isWay_6 : decode cX3_isWay 6 = .ok (.iload_n 0, 1) := by decide +kernel
theorem dX3_isWay_7 : decode cX3_isWay 7 = .ok (.bipush 60, 2) := by decide +kernel
theorem dX3_isWay_9 : decode cX3_isWay 9 = .ok (.if_icmp .ne 7, 3) := by decide +kernel
theorem dX3_isWay_12 : decode cX3_isWay 12 = .ok (.iconst 1, 1) := by decide +kernel
theorem dX3_isWay_13 : decode cX3_isWay 13 = .ok (.goto 4, 3) := by decide +kernel
theorem dX3_isWay_16 : decode cX3_isWay 16 = .ok (.iconst 0, 1) := by decide +kernel
theorem dX3_isWay_17 : decode cX3_isWay 17 = .ok (.ireturn, 1) := by decide +kernel
theorem dX3_isDigit_0 : decode cX3_isDigit 0 = .ok (.iload_n 0, 1) := by decide +kernel
theorem dX3_isDigit_1 : decode cX3_isDigit 1 = .ok (.bipush 48, 2) := by decide +kernel
theorem dX3_isDigit_3 : decode cX3_isDigit 3 = .ok (.if_icmp .lt 13, 3) := by decide +kernel
theorem dX3_isDigit_6 : decode cX3_isDigit 6 = .ok (.iload_n 0, 1) := by decide +kernel
theorem dX3_isDigit_7 : decode cX3_isDigit 7 = .ok (.bipush 57, 2) := by decide +kernel
theorem dX3_isDigit_9 : decode cX3_isDigit 9 = .ok (.if_icmp .gt 7, 3) := by decide +kernel
theorem dX3_isDigit_12 : decode cX3_isDigit 12 = .ok (.iconst 1, 1) := by decide +kernel
theorem dX3_isDigit_13 : decode cX3_isDigit 13 = .ok (.goto 4, 3) := by decide +kernel
theorem dX3_isDigit_16 : decode cX3_isDigit 16 = .ok (.iconst 0, 1) := by decide +kernel
theorem dX3_isDigit_17 : decode cX3_isDigit 17 = .ok (.ireturn, 1) := by decide +kernel
theorem dX3_goToBegin_0 : decode cX3_goToBegin 0 = .ok (.aload_n 0, 1) := by decide +kernel
theorem dX3_goToBegin_1 : decode cX3_goToBegin 1 = .ok (.iconst 0, 1) := by decide +kernel
theorem dX3_goToBegin_2 : decode cX3_goToBegin 2 = .ok (.putfield 19, 3) := by decide +kernel
theorem dX3_goToBegin_5 : decode cX3_goToBegin 5 = .ok (.return_, 1) := by decide +kernel
theorem dX3_readOrder_0 : decode cX3_readOrder 0 = .ok (.aload_n 0, 1) := by decide +kernel
theorem dX3_readOrder_1 : decode cX3_readOrder 1 = .ok (.getfield 19, 3) := by decide +kernel
theorem dX3_readOrder_4 : decode cX3_readOrder 4 = .ok (.aload_n 0, 1) := by decide +kernel
theorem dX3_readOrder_5 : decode cX3_readOrder 5 = .ok (.getfield 15, 3) := by decide +kernel
theorem dX3_readOrder_8 : decode cX3_readOrder 8 = .ok (.if_icmp .lt 5, 3) := by decide +kernel
theorem dX3_readOrder_11 : decode cX3_readOrder 11 = .ok (.iconst 0, 1) := by decide +kernel
theorem dX3_readOrder_12 : decode cX3_readOrder 12 = .ok (.ireturn, 1) := by decide +kernel
theorem dX3_readOrder_13 : decode cX3_readOrder 13 = .ok (.aload_n 0, 1) := by decide +kernel
theorem dX3_readOrder_14 : decode cX3_readOrder 14 = .ok (.aload_n 0, 1) := by decide +kernel
theorem dX3_readOrder_15 : decode cX3_readOrder 15 = .ok (.invokevirtual 54, 3) := by decide +kernel
theorem dX3_readOrder_18 : decode cX3_readOrder 18 = .ok (.putfield 25, 3) := by decide +kernel
theorem dX3_readOrder_21 : decode cX3_readOrder 21 = .ok (.aload_n 0, 1) := by decide +kernel
theorem dX3_readOrder_22 : decode cX3_readOrder 22 = .ok (.getfield 25, 3) := by decide +kernel
theorem dX3_readOrder_25 : decode cX3_readOrder 25 = .ok (.invokestatic 44, 3) := by decide +kernel
theorem dX3_readOrder_28 : decode cX3_readOrder 28 = .ok (.ifCond .eq 22, 3) := by decide +kernel
theorem dX3_readOrder_31 : decode cX3_readOrder 31 = .ok (.aload_n 0, 1) := by decide +kernel
theorem dX3_readOrder_32 : decode cX3_readOrder 32 = .ok (.aload_n 0, 1) := by decide +kernel
theorem dX3_readOrder_33 : decode cX3_readOrder 33 = .ok (.getfield 25, 3) := by decide +kernel
theorem dX3_readOrder_36 : decode cX3_readOrder 36 = .ok (.bipush 65, 2) := by decide +kernel
theorem dX3_readOrder_38 : decode cX3_readOrder 38 = .ok (.isub, 1) := by decide +kernel
theorem dX3_readOrder_39 : decode cX3_readOrder 39 = .ok (.putfield 22, 3) := by decide +kernel
theorem dX3_readOrder_42 : decode cX3_readOrder 42 = .ok (.aload_n 0, 1) := by decide +kernel
theorem dX3_readOrder_43 : decode cX3_readOrder 43 = .ok (.aload_n 0, 1) := by decide +kernel
theorem dX3_readOrder_44 : decode cX3_readOrder 44 = .ok (.invokevirtual 54, 3) := by decide +kernel
theorem dX3_readOrder_47 : decode cX3_readOrder 47 = .ok (.putfield 25, 3) := by decide +kernel
theorem dX3_readOrder_50 : decode cX3_readOrder 50 = .ok (.aload_n 0, 1) := by decide +kernel
theorem dX3_readOrder_51 : decode cX3_readOrder 51 = .ok (.aload_n 0, 1) := by decide +kernel
theorem dX3_readOrder_52 : decode cX3_readOrder 52 = .ok (.invokevirtual 58, 3) := by decide +kernel
theorem dX3_readOrder_55 : decode cX3_readOrder 55 = .ok (.putfield 28, 3) := by decide +kernel
theorem dX3_readOrder_58 : decode cX3_readOrder 58 = .ok (.aload_n 0, 1) := by decide +kernel
theorem dX3_readOrder_59 : decode cX3_readOrder 59 = .ok (.dup, 1) := by decide +kernel
theorem dX3_readOrder_60 : decode cX3_readOrder 60 = .ok (.getfield 19, 3) := by decide +kernel
theorem dX3_readOrder_63 : decode cX3_readOrder 63 = .ok (.iconst 1, 1) := by decide +kernel
theorem dX3_readOrder_64 : decode cX3_readOrder 64 = .ok (.iadd, 1) := by decide +kernel
theorem dX3_readOrder_65 : decode cX3_readOrder 65 = .ok (.putfield 19, 3) := by decide +kernel
theorem dX3_readOrder_68 : decode cX3_readOrder 68 = .ok (.iconst 1, 1) := by decide +kernel
theorem dX3_readOrder_69 : decode cX3_readOrder 69 = .ok (.ireturn, 1) := by decide +kernel
theorem dX3_readCharacter_0 : decode cX3_readCharacter 0 = .ok (.aload_n 0, 1) := by decide +kernel
theorem dX3_readCharacter_1 : decode cX3_readCharacter 1 = .ok (.invokevirtual 61, 3) := by decide +kernel
theorem dX3_readCharacter_4 : decode cX3_readCharacter 4 = .ok (.istore_n 1, 1) := by decide +kernel
theorem dX3_readCharacter_5 : decode cX3_readCharacter 5 = .ok (.aload_n 0, 1) := by decide +kernel
theorem dX3_readCharacter_6 : decode cX3_readCharacter 6 = .ok (.dup, 1) := by decide +kernel
theorem dX3_readCharacter_7 : decode cX3_readCharacter 7 = .ok (.getfield 19, 3) := by decide +kernel
theorem dX3_readCharacter_10 : decode cX3_readCharacter 10 = .ok (.iconst 1, 1) := by decide +kernel
theorem dX3_readCharacter_11 : decode cX3_readCharacter 11 = .ok (.iadd, 1) := by decide +kernel
theorem dX3_readCharacter_12 : decode cX3_readCharacter 12 = .ok (.putfield 19, 3) := by decide +kernel
theorem dX3_readCharacter_15 : decode cX3_readCharacter 15 = .ok (.iload_n 1, 1) := by decide +kernel
theorem dX3_readCharacter_16 : decode cX3_readCharacter 16 = .ok (.ireturn, 1) := by decide +kernel
theorem dX3_nextCharacter_0 : decode cX3_nextCharacter 0 = .ok (.aload_n 0, 1) := by decide +kernel
theorem dX3_nextCharacter_1 : decode cX3_nextCharacter 1 = .ok (.getfield 19, 3) := by decide +kernel
theorem dX3_nextCharacter_4 : decode cX3_nextCharacter 4 = .ok (.aload_n 0, 1) := by decide +kernel
theorem dX3_nextCharacter_5 : decode cX3_nextCharacter 5 = .ok (.getfield 15, 3) := by decide +kernel
theorem dX3_nextCharacter_8 : decode cX3_nextCharacter 8 = .ok (.if_icmp .ge 17, 3) := by decide +kernel
theorem dX3_nextCharacter_11 : decode cX3_nextCharacter 11 = .ok (.aload_n 0, 1) := by decide +kernel
theorem dX3_nextCharacter_12 : decode cX3_nextCharacter 12 = .ok (.getfield 9, 3) := by decide +kernel
theorem dX3_nextCharacter_15 : decode cX3_nextCharacter 15 = .ok (.aload_n 0, 1) := by decide +kernel
theorem dX3_nextCharacter_16 : decode cX3_nextCharacter 16 = .ok (.getfield 19, 3) := by decide +kernel
theorem dX3_nextCharacter_19 : decode cX3_nextCharacter 19 = .ok (.invokestatic 35, 3) := by decide +kernel
theorem dX3_nextCharacter_22 : decode cX3_nextCharacter 22 = .ok (.goto 4, 3) := by decide +kernel
theorem dX3_nextCharacter_25 : decode cX3_nextCharacter 25 = .ok (.iconst 0, 1) := by decide +kernel
theorem dX3_nextCharacter_26 : decode cX3_nextCharacter 26 = .ok (.ireturn, 1) := by decide +kernel
theorem dX3_readNumber_0 : decode cX3_readNumber 0 = .ok (.iconst 0, 1) := by decide +kernel
theorem dX3_readNumber_1 : decode cX3_readNumber 1 = .ok (.istore_n 1, 1) := by decide +kernel
theorem dX3_readNumber_2 : decode cX3_readNumber 2 = .ok (.iconst 0, 1) := by decide +kernel
theorem dX3_readNumber_3 : decode cX3_readNumber 3 = .ok (.istore_n 2, 1) := by decide +kernel
theorem dX3_readNumber_4 : decode cX3_readNumber 4 = .ok (.iload_n 2, 1) := by decide +kernel
theorem dX3_readNumber_5 : decode cX3_readNumber 5 = .ok (.iconst 2, 1) := by decide +kernel
theorem dX3_readNumber_6 : decode cX3_readNumber 6 = .ok (.if_icmp .ge 32, 3) := by decide +kernel
theorem dX3_readNumber_9 : decode cX3_readNumber 9 = .ok (.aload_n 0, 1) := by decide +kernel
theorem dX3_readNumber_10 : decode cX3_readNumber 10 = .ok (.invokevirtual 61, 3) := by decide +kernel
theorem dX3_readNumber_13 : decode cX3_readNumber 13 = .ok (.invokestatic 51, 3) := by decide +kernel
theorem dX3_readNumber_16 : decode cX3_readNumber 16 = .ok (.ifCond .eq 22, 3) := by decide +kernel
theorem dX3_readNumber_19 : decode cX3_readNumber 19 = .ok (.bipush 10, 2) := by decide +kernel
theorem dX3_readNumber_21 : decode cX3_readNumber 21 = .ok (.iload_n 1, 1) := by decide +kernel
theorem dX3_readNumber_22 : decode cX3_readNumber 22 = .ok (.imul, 1) := by decide +kernel
theorem dX3_readNumber_23 : decode cX3_readNumber 23 = .ok (.aload_n 0, 1) := by decide +kernel
theorem dX3_readNumber_24 : decode cX3_readNumber 24 = .ok (.invokevirtual 54, 3) := by decide +kernel
theorem dX3_readNumber_27 : decode cX3_readNumber 27 = .ok (.iadd, 1) := by decide +kernel
theorem dX3_readNumber_28 : decode cX3_readNumber 28 = .ok (.bipush 48, 2) := by decide +kernel
theorem dX3_readNumber_30 : decode cX3_readNumber 30 = .ok (.isub, 1) := by decide +kernel
theorem dX3_readNumber_31 : decode cX3_readNumber 31 = .ok (.istore_n 1, 1) := by decide +kernel
theorem dX3_readNumber_32 : decode cX3_readNumber 32 = .ok (.iinc 2 1, 3) := by decide +kernel
theorem dX3_readNumber_35 : decode cX3_readNumber 35 = .ok (.goto (-31), 3) := by decide +kernel
theorem dX3_readNumber_38 : decode cX3_readNumber 38 = .ok (.iload_n 1, 1) := by decide +kernel
theorem dX3_readNumber_39 : decode cX3_readNumber 39 = .ok (.ireturn, 1) := by decide +kernel
theorem dX4_init_0 : decode cX4_init 0 = .ok (.aload_n 0, 1) := by decide +kernel
theorem dX4_init_1 : decode cX4_init 1 = .ok (.invokespecial 3, 3) := by decide +kernel
theorem dX4_init_4 : decode cX4_init 4 = .ok (.aload_n 0, 1) := by decide +kernel
theorem dX4_init_5 : decode cX4_init 5 = .ok (.bipush 6, 2) := by decide +kernel
theorem dX4_init_7 : decode cX4_init 7 = .ok (.newarray .int, 2) := by decide +kernel
theorem dX4_init_9 : decode cX4_init 9 = .ok (.putfield 9, 3) := by decide +kernel
theorem dX4_init_12 : decode cX4_init 12 = .ok (.aload_n 0, 1) := by decide +kernel
theorem dX4_init_13 : decode cX4_init 13 = .ok (.bipush 6, 2) := by decide +kernel
theorem dX4_init_15 : decode cX4_init 15 = .ok (.newarray .int, 2) := by decide +kernel
theorem dX4_init_17 : decode cX4_init 17 = .ok (.putfield 15, 3) := by decide +kernel
theorem dX4_init_20 : decode cX4_init 20 = .ok (.aload_n 0, 1) := by decide +kernel
theorem dX4_init_21 : decode cX4_init 21 = .ok (.bipush 12, 2) := by decide +kernel
theorem dX4_init_23 : decode cX4_init 23 = .ok (.newarray .int, 2) := by decide +kernel
theorem dX4_init_25 : decode cX4_init 25 = .ok (.putfield 18, 3) := by decide +kernel
theorem dX4_init_28 : decode cX4_init 28 = .ok (.aload_n 0, 1) := by decide +kernel
theorem dX4_init_29 : decode cX4_init 29 = .ok (.bipush 12, 2) := by decide +kernel
theorem dX4_init_31 : decode cX4_init 31 = .ok (.newarray .int, 2) := by decide +kernel
theorem dX4_init_33 : decode cX4_init 33 = .ok (.putfield 21, 3) := by decide +kernel
theorem dX4_init_36 : decode cX4_init 36 = .ok (.aload_n 0, 1) := by decide +kernel
theorem dX4_init_37 : decode cX4_init 37 = .ok (.bipush 12, 2) := by decide +kernel
theorem dX4_init_39 : decode cX4_init 39 = .ok (.newarray .int, 2) := by decide +kernel
theorem dX4_init_41 : decode cX4_init 41 = .ok (.putfield 24, 3) := by decide +kernel
theorem dX4_init_44 : decode cX4_init 44 = .ok (.aload_n 0, 1) := by decide +kernel
theorem dX4_init_45 : decode cX4_init 45 = .ok (.bipush 12, 2) := by decide +kernel
theorem dX4_init_47 : decode cX4_init 47 = .ok (.newarray .int, 2) := by decide +kernel
theorem dX4_init_49 : decode cX4_init 49 = .ok (.putfield 27, 3) := by decide +kernel
theorem dX4_init_52 : decode cX4_init 52 = .ok (.aload_n 0, 1) := by decide +kernel
theorem dX4_init_53 : decode cX4_init 53 = .ok (.new 30, 3) := by decide +kernel
theorem dX4_init_56 : decode cX4_init 56 = .ok (.dup, 1) := by decide +kernel
theorem dX4_init_57 : decode cX4_init 57 = .ok (.invokespecial 32, 3) := by decide +kernel
theorem dX4_init_60 : decode cX4_init 60 = .ok (.putfield 33, 3) := by decide +kernel
theorem dX4_init_63 : decode cX4_init 63 = .ok (.aload_n 0, 1) := by decide +kernel
theorem dX4_init_64 : decode cX4_init 64 = .ok (.iconst 0, 1) := by decide +kernel
theorem dX4_init_65 : decode cX4_init 65 = .ok (.putfield 37, 3) := by decide +kernel
theorem dX4_init_68 : decode cX4_init 68 = .ok (.aload_n 0, 1) := by decide +kernel
theorem dX4_init_69 : decode cX4_init 69 = .ok (.bipush 30, 2) := by decide +kernel
theorem dX4_init_71 : decode cX4_init 71 = .ok (.putfield 41, 3) := by decide +kernel
theorem dX4_init_74 : decode cX4_init 74 = .ok (.aload_n 0, 1) := by decide +kernel
theorem dX4_init_75 : decode cX4_init 75 = .ok (.bipush 6, 2) := by decide +kernel
theorem dX4_init_77 : decode cX4_init 77 = .ok (.putfield 44, 3) := by decide +kernel
theorem dX4_init_80 : decode cX4_init 80 = .ok (.aload_n 0, 1) := by decide +kernel
theorem dX4_init_81 : decode cX4_init 81 = .ok (.iconst 0, 1) := by decide +kernel
theorem dX4_init_82 : decode cX4_init 82 = .ok (.putfield 47, 3) := by decide +kernel
theorem dX4_init_85 : decode cX4_init 85 = .ok (.iconst 0, 1) := by decide +kernel
theorem dX4_init_86 : decode cX4_init 86 = .ok (.istore_n 1, 1) := by decide +kernel
theorem dX4_init_87 : decode cX4_init 87 = .ok (.iload_n 1, 1) := by decide +kernel
theorem dX4_init_88 : decode cX4_init 88 = .ok (.aload_n 0, 1) := by decide +kernel
theorem dX4_init_89 : decode cX4_init 89 = .ok (.getfield 9, 3) := by decide +kernel
theorem dX4_init_92 : decode cX4_init 92 = .ok (.arraylength, 1) := by decide +kernel
theorem dX4_init_93 : decode cX4_init 93 = .ok (.if_icmp .ge 17, 3) := by decide +kernel
theorem dX4_init_96 : decode cX4_init 96 = .ok (.aload_n 0, 1) := by decide +kernel
theorem dX4_init_97 : decode cX4_init 97 = .ok (.getfield 9, 3) := by decide +kernel
theorem dX4_init_100 : decode cX4_init 100 = .ok (.iload_n 1, 1) := by decide +kernel
theorem dX4_init_101 : decode cX4_init 101 = .ok (.bipush 100, 2) := by decide +kernel
theorem dX4_init_103 : decode cX4_init 103 = .ok (.iastore, 1) := by decide +kernel
theorem dX4_init_104 : decode cX4_init 104 = .ok (.iinc 1 1, 3) := by decide +kernel
theorem dX4_init_107 : decode cX4_init 107 = .ok (.goto (-20), 3) := by decide +kernel
theorem dX4_init_110 : decode cX4_init 110 = .ok (.return_, 1) := by decide +kernel
theorem dX4_copyFrom_0 : decode cX4_copyFrom 0 = .ok (.aload_n 1, 1) := by decide +kernel
theorem dX4_copyFrom_1 : decode cX4_copyFrom 1 = .ok (.getfield 9, 3) := by decide +kernel
theorem dX4_copyFrom_4 : decode cX4_copyFrom 4 = .ok (.aload_n 0, 1) := by decide +kernel
theorem dX4_copyFrom_5 : decode cX4_copyFrom 5 = .ok (.getfield 9, 3) := by decide +kernel
theorem dX4_copyFrom_8 : decode cX4_copyFrom 8 = .ok (.invokestatic 50, 3) := by decide +kernel
theorem dX4_copyFrom_11 : decode cX4_copyFrom 11 = .ok (.aload_n 1, 1) := by decide +kernel
theorem dX4_copyFrom_12 : decode cX4_copyFrom 12 = .ok (.getfield 15, 3) := by decide +kernel
theorem dX4_copyFrom_15 : decode cX4_copyFrom 15 = .ok (.aload_n 0, 1) := by decide +kernel
theorem dX4_copyFrom_16 : decode cX4_copyFrom 16 = .ok (.getfield 15, 3) := by decide +kernel
theorem dX4_copyFrom_19 : decode cX4_copyFrom 19 = .ok (.invokestatic 50, 3) := by decide +kernel
theorem dX4_copyFrom_22 : decode cX4_copyFrom 22 = .ok (.aload_n 1, 1) := by decide +kernel
theorem dX4_copyFrom_23 : decode cX4_copyFrom 23 = .ok (.getfield 18, 3) := by decide +kernel
theorem dX4_copyFrom_26 : decode cX4_copyFrom 26 = .ok (.aload_n 0, 1) := by decide +kernel
theorem dX4_copyFrom_27 : decode cX4_copyFrom 27 = .ok (.getfield 18, 3) := by decide +kernel
theorem dX4_copyFrom_30 : decode cX4_copyFrom 30 = .ok (.invokestatic 50, 3) := by decide +kernel
theorem dX4_copyFrom_33 : decode cX4_copyFrom 33 = .ok (.aload_n 1, 1) := by decide +kernel
theorem dX4_copyFrom_34 : decode cX4_copyFrom 34 = .ok (.getfield 21, 3) := by decide +kernel
theorem dX4_copyFrom_37 : decode cX4_copyFrom 37 = .ok (.aload_n 0, 1) := by decide +kernel
theorem dX4_copyFrom_38 : decode cX4_copyFrom 38 = .ok (.getfield 21, 3) := by decide +kernel
theorem dX4_copyFrom_41 : decode cX4_copyFrom 41 = .ok (.invokestatic 50, 3) := by decide +kernel
theorem dX4_copyFrom_44 : decode cX4_copyFrom 44 = .ok (.aload_n 1, 1) := by decide +kernel
theorem dX4_copyFrom_45 : decode cX4_copyFrom 45 = .ok (.getfield 24, 3) := by decide +kernel
theorem dX4_copyFrom_48 : decode cX4_copyFrom 48 = .ok (.aload_n 0, 1) := by decide +kernel
theorem dX4_copyFrom_49 : decode cX4_copyFrom 49 = .ok (.getfield 24, 3) := by decide +kernel
theorem dX4_copyFrom_52 : decode cX4_copyFrom 52 = .ok (.invokestatic 50, 3) := by decide +kernel
theorem dX4_copyFrom_55 : decode cX4_copyFrom 55 = .ok (.aload_n 1, 1) := by decide +kernel
theorem dX4_copyFrom_56 : decode cX4_copyFrom 56 = .ok (.getfield 27, 3) := by decide +kernel
theorem dX4_copyFrom_59 : decode cX4_copyFrom 59 = .ok (.aload_n 0, 1) := by decide +kernel
theorem dX4_copyFrom_60 : decode cX4_copyFrom 60 = .ok (.getfield 27, 3) := by decide +kernel
theorem dX4_copyFrom_63 : decode cX4_copyFrom 63 = .ok (.invokestatic 50, 3) := by decide +kernel
theorem dX4_copyFrom_66 : decode cX4_copyFrom 66 = .ok (.aload_n 0, 1) := by decide +kernel
theorem dX4_copyFrom_67 : decode cX4_copyFrom 67 = .ok (.getfield 33, 3) := by decide +kernel
theorem dX4_copyFrom_70 : decode cX4_copyFrom 70 = .ok (.aload_n 1, 1) := by decide +kernel
theorem dX4_copyFrom_71 : decode cX4_copyFrom 71 = .ok (.getfield 33, 3) := by decide +kernel
theorem dX4_copyFrom_74 : decode cX4_copyFrom 74 = .ok (.invokevirtual 54, 3) := by decide +kernel
theorem dX4_copyFrom_77 : decode cX4_copyFrom 77 = .ok (.aload_n 0, 1) := by decide +kernel
theorem dX4_copyFrom_78 : decode cX4_copyFrom 78 = .ok (.aload_n 1, 1) := by decide +kernel
theorem dX4_copyFrom_79 : decode cX4_copyFrom 79 = .ok (.getfield 37, 3) := by decide +kernel
theorem dX4_copyFrom_82 : decode cX4_copyFrom 82 = .ok (.putfield 37, 3) := by decide +kernel
theorem dX4_copyFrom_85 : decode cX4_copyFrom 85 = .ok (.aload_n 0, 1) := by decide +kernel
theorem dX4_copyFrom_86 : decode cX4_copyFrom 86 = .ok (.aload_n 1, 1) := by decide +kernel
theorem dX4_copyFrom_87 : decode cX4_copyFrom 87 = .ok (.getfield 41, 3) := by decide +kernel
theorem dX4_copyFrom_90 : decode cX4_copyFrom 90 = .ok (.putfield 41, 3) := by decide +kernel
theorem dX4_copyFrom_93 : decode cX4_copyFrom 93 = .ok (.aload_n 0, 1) := by decide +kernel
theorem dX4_copyFrom_94 : decode cX4_copyFrom 94 = .ok (.aload_n 1, 1) := by decide +kernel
theorem dX4_copyFrom_95 : decode cX4_copyFrom 95 = .ok (.getfield 44, 3) := by decide +kernel
theorem dX4_copyFrom_98 : decode cX4_copyFrom 98 = .ok (.putfield 44, 3) := by decide +kernel
theorem dX4_copyFrom_101 : decode cX4_copyFrom 101 = .ok (.aload_n 0, 1) := by decide +kernel
theorem dX4_copyFrom_102 : decode cX4_copyFrom 102 = .ok (.aload_n 1, 1) := by decide +kernel
theorem dX4_copyFrom_103 : decode cX4_copyFrom 103 = .ok (.getfield 47, 3) := by decide +kernel
theorem dX4_copyFrom_106 : decode cX4_copyFrom 106 = .ok (.putfield 47, 3) := by decide +kernel
theorem dX4_copyFrom_109 : decode cX4_copyFrom 109 = .ok (.return_, 1) := by decide +kernel
theorem dX4_hasStile_0 : decode cX4_hasStile 0 = .ok (.iload_n 1, 1) := by decide +kernel
theorem dX4_hasStile_1 : decode cX4_hasStile 1 = .ok (.ifCond .lt 15, 3) := by decide +kernel
theorem dX4_hasStile_4 : decode cX4_hasStile 4 = .ok (.iload_n 1, 1) := by decide +kernel
theorem dX4_hasStile_5 : decode cX4_hasStile 5 = .ok (.aload_n 0, 1) := by decide +kernel
theorem dX4_hasStile_6 : decode cX4_hasStile 6 = .ok (.getfield 37, 3) := by decide +kernel
theorem dX4_hasStile_9 : decode cX4_hasStile 9 = .ok (.if_icmp .ge 7, 3) := by decide +kernel
theorem dX4_hasStile_12 : decode cX4_hasStile 12 = .ok (.iconst 1, 1) := by decide +kernel
theorem dX4_hasStile_13 : decode cX4_hasStile 13 = .ok (.goto 4, 3) := by decide +kernel
theorem dX4_hasStile_16 : decode cX4_hasStile 16 = .ok (.iconst 0, 1) := by decide +kernel
theorem dX4_hasStile_17 : decode cX4_hasStile 17 = .ok (.ireturn, 1) := by decide +kernel
theorem dX4_putUp_0 : decode cX4_putUp 0 = .ok (.aload_n 0, 1) := by decide +kernel
theorem dX4_putUp_1 : decode cX4_putUp 1 = .ok (.getfield 37, 3) := by decide +kernel
theorem dX4_putUp_4 : decode cX4_putUp 4 = .ok (.istore_n 3, 1) := by decide +kernel
theorem dX4_putUp_5 : decode cX4_putUp 5 = .ok (.aload_n 0, 1) := by decide +kernel
theorem dX4_putUp_6 : decode cX4_putUp 6 = .ok (.getfield 18, 3) := by decide +kernel
theorem dX4_putUp_9 : decode cX4_putUp 9 = .ok (.iload_n 3, 1) := by decide +kernel
theorem dX4_putUp_10 : decode cX4_putUp 10 = .ok (.iload_n 1, 1) := by decide +kernel
theorem dX4_putUp_11 : decode cX4_putUp 11 = .ok (.invokestatic 58, 3) := by decide +kernel
theorem dX4_putUp_14 : decode cX4_putUp 14 = .ok (.aload_n 0, 1) := by decide +kernel
theorem dX4_putUp_15 : decode cX4_putUp 15 = .ok (.getfield 21, 3) := by decide +kernel
theorem dX4_putUp_18 : decode cX4_putUp 18 = .ok (.iload_n 3, 1) := by decide +kernel
theorem dX4_putUp_19 : decode cX4_putUp 19 = .ok (.iload_n 2, 1) := by decide +kernel
theorem dX4_putUp_20 : decode cX4_putUp 20 = .ok (.invokestatic 58, 3) := by decide +kernel
theorem dX4_putUp_23 : decode cX4_putUp 23 = .ok (.aload_n 0, 1) := by decide +kernel
theorem dX4_putUp_24 : decode cX4_putUp 24 = .ok (.iload_n 3, 1) := by decide +kernel
theorem dX4_putUp_25 : decode cX4_putUp 25 = .ok (.iconst 1, 1) := by decide +kernel
theorem dX4_putUp_26 : decode cX4_putUp 26 = .ok (.iadd, 1) := by decide +kernel
theorem dX4_putUp_27 : decode cX4_putUp 27 = .ok (.putfield 37, 3) := by decide +kernel
theorem dX4_putUp_30 : decode cX4_putUp 30 = .ok (.iload_n 3, 1) := by decide +kernel
theorem dX4_putUp_31 : decode cX4_putUp 31 = .ok (.ireturn, 1) := by decide +kernel
theorem dX4_hallBehind_0 : decode cX4_hallBehind 0 = .ok (.iload_n 2, 1) := by decide +kernel
theorem dX4_hallBehind_1 : decode cX4_hallBehind 1 = .ok (.ifCond .eq 14, 3) := by decide +kernel
theorem dX4_hallBehind_4 : decode cX4_hallBehind 4 = .ok (.aload_n 0, 1) := by decide +kernel
theorem dX4_hallBehind_5 : decode cX4_hallBehind 5 = .ok (.getfield 18, 3) := by decide +kernel
theorem dX4_hallBehind_8 : decode cX4_hallBehind 8 = .ok (.iload_n 1, 1) := by decide +kernel
theorem dX4_hallBehind_9 : decode cX4_hallBehind 9 = .ok (.invokestatic 62, 3) := by decide +kernel
theorem dX4_hallBehind_12 : decode cX4_hallBehind 12 = .ok (.goto 11, 3) := by decide +kernel
theorem dX4_hallBehind_15 : decode cX4_hallBehind 15 = .ok (.aload_n 0, 1) := by decide +kernel
theorem dX4_hallBehind_16 : decode cX4_hallBehind 16 = .ok (.getfield 21, 3) := by decide +kernel
theorem dX4_hallBehind_19 : decode cX4_hallBehind 19 = .ok (.iload_n 1, 1) := by decide +kernel
theorem dX4_hallBehind_20 : decode cX4_hallBehind 20 = .ok (.invokestatic 62, 3) := by decide +kernel
theorem dX4_hallBehind_23 : decode cX4_hallBehind 23 = .ok (.ireturn, 1) := by decide +kernel
theorem dX4_hallAhead_0 : decode cX4_hallAhead 0 = .ok (.aload_n 0, 1) := by decide +kernel
theorem dX4_hallAhead_1 : decode cX4_hallAhead 1 = .ok (.iload_n 1, 1) := by decide +kernel
theorem dX4_hallAhead_2 : decode cX4_hallAhead 2 = .ok (.iload_n 2, 1) := by decide +kernel
theorem dX4_hallAhead_3 : decode cX4_hallAhead 3 = .ok (.ifCond .ne 7, 3) := by decide +kernel
theorem dX4_hallAhead_6 : decode cX4_hallAhead 6 = .ok (.iconst 1, 1) := by decide +kernel
theorem dX4_hallAhead_7 : decode cX4_hallAhead 7 = .ok (.goto 4, 3) := by decide +kernel
theorem dX4_hallAhead_10 : decode cX4_hallAhead 10 = .ok (.iconst 0, 1) := by decide +kernel
theorem dX4_hallAhead_11 : decode cX4_hallAhead 11 = .ok (.invokevirtual 66, 3) := by decide +kernel
theorem dX4_hallAhead_14 : decode cX4_hallAhead 14 = .ok (.ireturn, 1) := by decide +kernel
theorem dX4_goes_0 : decode cX4_goes 0 = .ok (.aload_n 0, 1) := by decide +kernel
theorem dX4_goes_1 : decode cX4_goes 1 = .ok (.getfield 24, 3) := by decide +kernel
theorem dX4_goes_4 : decode cX4_goes 4 = .ok (.iload_n 1, 1) := by decide +kernel
theorem dX4_goes_5 : decode cX4_goes 5 = .ok (.invokestatic 62, 3) := by decide +kernel
theorem dX4_goes_8 : decode cX4_goes 8 = .ok (.istore_n 3, 1) := by decide +kernel
theorem dX4_goes_9 : decode cX4_goes 9 = .ok (.iload_n 3, 1) := by decide +kernel
theorem dX4_goes_10 : decode cX4_goes 10 = .ok (.ifCond .eq 16, 3) := by decide +kernel
theorem dX4_goes_13 : decode cX4_goes 13 = .ok (.iload_n 3, 1) := by decide +kernel
theorem dX4_goes_14 : decode cX4_goes 14 = .ok (.iload_n 2, 1) := by decide +kernel
theorem dX4_goes_15 : decode cX4_goes 15 = .ok (.ifCond .eq 7, 3) := by decide +kernel
theorem dX4_goes_18 : decode cX4_goes 18 = .ok (.iconst 1, 1) := by decide +kernel
theorem dX4_goes_19 : decode cX4_goes 19 = .ok (.goto 4, 3) := by decide +kernel
theorem dX4_goes_22 : decode cX4_goes 22 = .ok (.iconst 2, 1) := by decide +kernel
theorem dX4_goes_23 : decode cX4_goes 23 = .ok (.if_icmp .ne 7, 3) := by decide +kernel
theorem dX4_goes_26 : decode cX4_goes 26 = .ok (.iconst 1, 1) := by decide +kernel
theorem dX4_goes_27 : decode cX4_goes 27 = .ok (.goto 4, 3) := by decide +kernel
theorem dX4_goes_30 : decode cX4_goes 30 = .ok (.iconst 0, 1) := by decide +kernel
theorem dX4_goes_31 : decode cX4_goes 31 = .ok (.ireturn, 1) := by decide +kernel
theorem dX4_isUnderRepair_0 : decode cX4_isUnderRepair 0 = .ok (.aload_n 0, 1) := by decide +kernel
theorem dX4_isUnderRepair_1 : decode cX4_isUnderRepair 1 = .ok (.getfield 27, 3) := by decide +kernel
theorem dX4_isUnderRepair_4 : decode cX4_isUnderRepair 4 = .ok (.iload_n 1, 1) := by decide +kernel
theorem dX4_isUnderRepair_5 : decode cX4_isUnderRepair 5 = .ok (.invokestatic 62, 3) := by decide +kernel
theorem dX4_isUnderRepair_8 : decode cX4_isUnderRepair 8 = .ok (.ifCond .le 7, 3) := by decide +kernel
theorem dX4_isUnderRepair_11 : decode cX4_isUnderRepair 11 = .ok (.iconst 1, 1) := by decide +kernel
theorem dX4_isUnderRepair_12 : decode cX4_isUnderRepair 12 = .ok (.goto 4, 3) := by decide +kernel
theorem dX4_isUnderRepair_15 : decode cX4_isUnderRepair 15 = .ok (.iconst 0, 1) := by decide +kernel
theorem dX4_isUnderRepair_16 : decode cX4_isUnderRepair 16 = .ok (.ireturn, 1) := by decide +kernel
theorem dX4_whyNot_0 : decode cX4_whyNot 0 = .ok (.aload_n 0, 1) := by decide +kernel
theorem dX4_whyNot_1 : decode cX4_whyNot 1 = .ok (.iload_n 1, 1) := by decide +kernel
theorem dX4_whyNot_2 : decode cX4_whyNot 2 = .ok (.invokevirtual 70, 3) := by decide +kernel
theorem dX4_whyNot_5 : decode cX4_whyNot 5 = .ok (.ifCond .eq 5, 3) := by decide +kernel
theorem dX4_whyNot_8 : decode cX4_whyNot 8 = .ok (.iconst 1, 1) := by decide +kernel
theorem dX4_whyNot_9 : decode cX4_whyNot 9 = .ok (.ireturn, 1) := by decide +kernel
theorem dX4_whyNot_10 : decode cX4_whyNot 10 = .ok (.aload_n 0, 1) := by decide +kernel
theorem dX4_whyNot_11 : decode cX4_whyNot 11 = .ok (.iload_n 1, 1) := by decide +kernel
theorem dX4_whyNot_12 : decode cX4_whyNot 12 = .ok (.iload_n 2, 1) := by decide +kernel
theorem dX4_whyNot_13 : decode cX4_whyNot 13 = .ok (.invokevirtual 74, 3) := by decide +kernel
theorem dX4_whyNot_16 : decode cX4_whyNot 16 = .ok (.ifCond .ne 5, 3) := by decide +kernel
theorem dX4_whyNot_19 : decode cX4_whyNot 19 = .ok (.iconst 2, 1) := by decide +kernel
theorem dX4_whyNot_20 : decode cX4_whyNot 20 = .ok (.ireturn, 1) := by decide +kernel
theorem dX4_whyNot_21 : decode cX4_whyNot 21 = .ok (.iload_n 3, 1) := by decide +kernel
theorem dX4_whyNot_22 : decode cX4_whyNot 22 = .ok (.aload_n 0, 1) := by decide +kernel
theorem dX4_whyNot_23 : decode cX4_whyNot 23 = .ok (.aload_n 0, 1) := by decide +kernel
theorem dX4_whyNot_24 : decode cX4_whyNot 24 = .ok (.iload_n 1, 1) := by decide +kernel
theorem dX4_whyNot_25 : decode cX4_whyNot 25 = .ok (.iload_n 2, 1) := by decide +kernel
theorem dX4_whyNot_26 : decode cX4_whyNot 26 = .ok (.invokevirtual 66, 3) := by decide +kernel
theorem dX4_whyNot_29 : decode cX4_whyNot 29 = .ok (.invokevirtual 78, 3) := by decide +kernel
theorem dX4_whyNot_32 : decode cX4_whyNot 32 = .ok (.if_icmp .le 5, 3) := by decide +kernel
theorem dX4_whyNot_35 : decode cX4_whyNot 35 = .ok (.iconst 3, 1) := by decide +kernel
theorem dX4_whyNot_36 : decode cX4_whyNot 36 = .ok (.ireturn, 1) := by decide +kernel
theorem dX4_whyNot_37 : decode cX4_whyNot 37 = .ok (.iload_n 3, 1) := by decide +kernel
theorem dX4_whyNot_38 : decode cX4_whyNot 38 = .ok (.aload_n 0, 1) := by decide +kernel
theorem dX4_whyNot_39 : decode cX4_whyNot 39 = .ok (.aload_n 0, 1) := by decide +kernel
theorem dX4_whyNot_40 : decode cX4_whyNot 40 = .ok (.iload_n 1, 1) := by decide +kernel
theorem dX4_whyNot_41 : decode cX4_whyNot 41 = .ok (.iload_n 2, 1) := by decide +kernel
theorem dX4_whyNot_42 : decode cX4_whyNot 42 = .ok (.invokevirtual 82, 3) := by decide +kernel
theorem dX4_whyNot_45 : decode cX4_whyNot 45 = .ok (.invokevirtual 85, 3) := by decide +kernel
theorem dX4_whyNot_48 : decode cX4_whyNot 48 = .ok (.if_icmp .le 7, 3) := by decide +kernel
theorem dX4_whyNot_51 : decode cX4_whyNot 51 = .ok (.iconst 4, 1) := by decide +kernel
theorem dX4_whyNot_52 : decode cX4_whyNot 52 = .ok (.goto 4, 3) := by decide +kernel
theorem dX4_whyNot_55 : decode cX4_whyNot 55 = .ok (.iconst 0, 1) := by decide +kernel
theorem dX4_whyNot_56 : decode cX4_whyNot 56 = .ok (.ireturn, 1) := by decide +kernel
theorem dX4_mostThrough_0 : decode cX4_mostThrough 0 = .ok (.aload_n 0, 1) := by decide +kernel
theorem dX4_mostThrough_1 : decode cX4_mostThrough 1 = .ok (.iload_n 1, 1) := by decide +kernel
theorem dX4_mostThrough_2 : decode cX4_mostThrough 2 = .ok (.invokevirtual 70, 3) := by decide +kernel
theorem dX4_mostThrough_5 : decode cX4_mostThrough 5 = .ok (.ifCond .ne 12, 3) := by decide +kernel
theorem dX4_mostThrough_8 : decode cX4_mostThrough 8 = .ok (.aload_n 0, 1) := by decide +kernel
theorem dX4_mostThrough_9 : decode cX4_mostThrough 9 = .ok (.iload_n 1, 1) := by decide +kernel
theorem dX4_mostThrough_10 : decode cX4_mostThrough 10 = .ok (.iload_n 2, 1) := by decide +kernel
theorem dX4_mostThrough_11 : decode cX4_mostThrough 11 = .ok (.invokevirtual 74, 3) := by decide +kernel
theorem dX4_mostThrough_14 : decode cX4_mostThrough 14 = .ok (.ifCond .ne 5, 3) := by decide +kernel
theorem dX4_mostThrough_17 : decode cX4_mostThrough 17 = .ok (.iconst 0, 1) := by decide +kernel
theorem dX4_mostThrough_18 : decode cX4_mostThrough 18 = .ok (.ireturn, 1) := by decide +kernel
theorem dX4_mostThrough_19 : decode cX4_mostThrough 19 = .ok (.aload_n 0, 1) := by decide +kernel
theorem dX4_mostThrough_20 : decode cX4_mostThrough 20 = .ok (.aload_n 0, 1) := by decide +kernel
theorem dX4_mostThrough_21 : decode cX4_mostThrough 21 = .ok (.iload_n 1, 1) := by decide +kernel
theorem dX4_mostThrough_22 : decode cX4_mostThrough 22 = .ok (.iload_n 2, 1) := by decide +kernel
theorem dX4_mostThrough_23 : decode cX4_mostThrough 23 = .ok (.invokevirtual 66, 3) := by decide +kernel
theorem dX4_mostThrough_26 : decode cX4_mostThrough 26 = .ok (.invokevirtual 78, 3) := by decide +kernel
theorem dX4_mostThrough_29 : decode cX4_mostThrough 29 = .ok (.aload_n 0, 1) := by decide +kernel
theorem dX4_mostThrough_30 : decode cX4_mostThrough 30 = .ok (.aload_n 0, 1) := by decide +kernel
theorem dX4_mostThrough_31 : decode cX4_mostThrough 31 = .ok (.iload_n 1, 1) := by decide +kernel
theorem dX4_mostThrough_32 : decode cX4_mostThrough 32 = .ok (.iload_n 2, 1) := by decide +kernel
theorem dX4_mostThrough_33 : decode cX4_mostThrough 33 = .ok (.invokevirtual 82, 3) := by decide +kernel
theorem dX4_mostThrough_36 : decode cX4_mostThrough 36 = .ok (.invokevirtual 85, 3) := by decide +kernel
theorem dX4_mostThrough_39 : decode cX4_mostThrough 39 = .ok (.invokestatic 88, 3) := by decide +kernel
theorem dX4_mostThrough_42 : decode cX4_mostThrough 42 = .ok (.ireturn, 1) := by decide +kernel
theorem dX4_readyToLeave_0 : decode cX4_readyToLeave 0 = .ok (.iload_n 1, 1) := by decide +kernel
theorem dX4_readyToLeave_1 : decode cX4_readyToLeave 1 = .ok (.ifCond .ne 8, 3) := by decide +kernel
theorem dX4_readyToLeave_4 : decode cX4_readyToLeave 4 = .ok (.bipush 99, 2) := by decide +kernel
theorem dX4_readyToLeave_6 : decode cX4_readyToLeave 6 = .ok (.goto 16, 3) := by decide +kernel
theorem dX4_readyToLeave_9 : decode cX4_readyToLeave 9 = .ok (.bipush 99, 2) := by decide +kernel
theorem dX4_readyToLeave_11 : decode cX4_readyToLeave 11 = .ok (.aload_n 0, 1) := by decide +kernel
theorem dX4_readyToLeave_12 : decode cX4_readyToLeave 12 = .ok (.getfield 15, 3) := by decide +kernel
theorem dX4_readyToLeave_15 : decode cX4_readyToLeave 15 = .ok (.iload_n 1, 1) := by decide +kernel
theorem dX4_readyToLeave_16 : decode cX4_readyToLeave 16 = .ok (.invokestatic 62, 3) := by decide +kernel
theorem dX4_readyToLeave_19 : decode cX4_readyToLeave 19 = .ok (.invokestatic 88, 3) := by decide +kernel
theorem dX4_readyToLeave_22 : decode cX4_readyToLeave 22 = .ok (.ireturn, 1) := by decide +kernel
theorem dX4_roomLeft_0 : decode cX4_roomLeft 0 = .ok (.iload_n 1, 1) := by decide +kernel
theorem dX4_roomLeft_1 : decode cX4_roomLeft 1 = .ok (.ifCond .ne 8, 3) := by decide +kernel
theorem dX4_roomLeft_4 : decode cX4_roomLeft 4 = .ok (.bipush 99, 2) := by decide +kernel
theorem dX4_roomLeft_6 : decode cX4_roomLeft 6 = .ok (.goto 25, 3) := by decide +kernel
theorem dX4_roomLeft_9 : decode cX4_roomLeft 9 = .ok (.bipush 99, 2) := by decide +kernel
theorem dX4_roomLeft_11 : decode cX4_roomLeft 11 = .ok (.aload_n 0, 1) := by decide +kernel
theorem dX4_roomLeft_12 : decode cX4_roomLeft 12 = .ok (.getfield 9, 3) := by decide +kernel
theorem dX4_roomLeft_15 : decode cX4_roomLeft 15 = .ok (.iload_n 1, 1) := by decide +kernel
theorem dX4_roomLeft_16 : decode cX4_roomLeft 16 = .ok (.invokestatic 62, 3) := by decide +kernel
theorem dX4_roomLeft_19 : decode cX4_roomLeft 19 = .ok (.aload_n 0, 1) := by decide +kernel
theorem dX4_roomLeft_20 : decode cX4_roomLeft 20 = .ok (.getfield 15, 3) := by decide +kernel
theorem dX4_roomLeft_23 : decode cX4_roomLeft 23 = .ok (.iload_n 1, 1) := by decide +kernel
theorem dX4_roomLeft_24 : decode cX4_roomLeft 24 = .ok (.invokestatic 62, 3) := by decide +kernel
theorem dX4_roomLeft_27 : decode cX4_roomLeft 27 = .ok (.isub, 1) := by decide +kernel
theorem dX4_roomLeft_28 : decode cX4_roomLeft 28 = .ok (.invokestatic 88, 3) := by decide +kernel
theorem dX4_roomLeft_31 : decode cX4_roomLeft 31 = .ok (.ireturn, 1) := by decide +kernel
theorem dX4_letThrough_0 : decode cX4_letThrough 0 = .ok (.aload_n 0, 1) := by decide +kernel
theorem dX4_letThrough_1 : decode cX4_letThrough 1 = .ok (.aload_n 0, 1) := by decide +kernel
theorem dX4_letThrough_2 : decode cX4_letThrough 2 = .ok (.iload_n 1, 1) := by decide +kernel
theorem dX4_letThrough_3 : decode cX4_letThrough 3 = .ok (.iload_n 2, 1) := by decide +kernel
theorem dX4_letThrough_4 : decode cX4_letThrough 4 = .ok (.invokevirtual 66, 3) := by decide +kernel
theorem dX4_letThrough_7 : decode cX4_letThrough 7 = .ok (.iload_n 3, 1) := by decide +kernel
theorem dX4_letThrough_8 : decode cX4_letThrough 8 = .ok (.ineg, 1) := by decide +kernel
theorem dX4_letThrough_9 : decode cX4_letThrough 9 = .ok (.invokevirtual 94, 3) := by decide +kernel
theorem dX4_letThrough_12 : decode cX4_letThrough 12 = .ok (.aload_n 0, 1) := by decide +kernel
theorem dX4_letThrough_13 : decode cX4_letThrough 13 = .ok (.aload_n 0, 1) := by decide +kernel
theorem dX4_letThrough_14 : decode cX4_letThrough 14 = .ok (.iload_n 1, 1) := by decide +kernel
theorem dX4_letThrough_15 : decode cX4_letThrough 15 = .ok (.iload_n 2, 1) := by decide +kernel
theorem dX4_letThrough_16 : decode cX4_letThrough 16 = .ok (.invokevirtual 82, 3) := by decide +kernel
theorem dX4_letThrough_19 : decode cX4_letThrough 19 = .ok (.iload_n 3, 1) := by decide +kernel
theorem dX4_letThrough_20 : decode cX4_letThrough 20 = .ok (.invokevirtual 94, 3) := by decide +kernel
theorem dX4_letThrough_23 : decode cX4_letThrough 23 = .ok (.iload_n 2, 1) := by decide +kernel
theorem dX4_letThrough_24 : decode cX4_letThrough 24 = .ok (.ifCond .eq 7, 3) := by decide +kernel
theorem dX4_letThrough_27 : decode cX4_letThrough 27 = .ok (.iconst 0, 1) := by decide +kernel
theorem dX4_letThrough_28 : decode cX4_letThrough 28 = .ok (.goto 4, 3) := by decide +kernel
theorem dX4_letThrough_31 : decode cX4_letThrough 31 = .ok (.iconst 2, 1) := by decide +kernel
theorem dX4_letThrough_32 : decode cX4_letThrough 32 = .ok (.istore 4, 2) := by decide +kernel
theorem dX4_letThrough_34 : decode cX4_letThrough 34 = .ok (.iload_n 2, 1) := by decide +kernel
theorem dX4_letThrough_35 : decode cX4_letThrough 35 = .ok (.ifCond .eq 7, 3) := by decide +kernel
theorem dX4_letThrough_38 : decode cX4_letThrough 38 = .ok (.iconst 3, 1) := by decide +kernel
theorem dX4_letThrough_39 : decode cX4_letThrough 39 = .ok (.goto 4, 3) := by decide +kernel
theorem dX4_letThrough_42 : decode cX4_letThrough 42 = .ok (.iconst 1, 1) := by decide +kernel
theorem dX4_letThrough_43 : decode cX4_letThrough 43 = .ok (.istore 5, 2) := by decide +kernel
theorem dX4_letThrough_45 : decode cX4_letThrough 45 = .ok (.aload_n 0, 1) := by decide +kernel
theorem dX4_letThrough_46 : decode cX4_letThrough 46 = .ok (.getfield 33, 3) := by decide +kernel
theorem dX4_letThrough_49 : decode cX4_letThrough 49 = .ok (.iload_n 1, 1) := by decide +kernel
theorem dX4_letThrough_50 : decode cX4_letThrough 50 = .ok (.iload 4, 2) := by decide +kernel
theorem dX4_letThrough_52 : decode cX4_letThrough 52 = .ok (.invokestatic 98, 3) := by decide +kernel
theorem dX4_letThrough_55 : decode cX4_letThrough 55 = .ok (.iload_n 3, 1) := by decide +kernel
theorem dX4_letThrough_56 : decode cX4_letThrough 56 = .ok (.invokevirtual 101, 3) := by decide +kernel
theorem dX4_letThrough_59 : decode cX4_letThrough 59 = .ok (.aload_n 0, 1) := by decide +kernel
theorem dX4_letThrough_60 : decode cX4_letThrough 60 = .ok (.getfield 33, 3) := by decide +kernel
theorem dX4_letThrough_63 : decode cX4_letThrough 63 = .ok (.iload_n 1, 1) := by decide +kernel
theorem dX4_letThrough_64 : decode cX4_letThrough 64 = .ok (.iload 5, 2) := by decide +kernel
theorem dX4_letThrough_66 : decode cX4_letThrough 66 = .ok (.invokestatic 98, 3) := by decide +kernel
theorem dX4_letThrough_69 : decode cX4_letThrough 69 = .ok (.iload_n 3, 1) := by decide +kernel
theorem dX4_letThrough_70 : decode cX4_letThrough 70 = .ok (.invokevirtual 101, 3) := by decide +kernel
theorem dX4_letThrough_73 : decode cX4_letThrough 73 = .ok (.return_, 1) := by decide +kernel
theorem dX4_moveTo_0 : decode cX4_moveTo 0 = .ok (.iload_n 1, 1) := by decide +kernel
theorem dX4_moveTo_1 : decode cX4_moveTo 1 = .ok (.ifCond .eq 12, 3) := by decide +kernel
theorem dX4_moveTo_4 : decode cX4_moveTo 4 = .ok (.aload_n 0, 1) := by decide +kernel
theorem dX4_moveTo_5 : decode cX4_moveTo 5 = .ok (.getfield 15, 3) := by decide +kernel
theorem dX4_moveTo_8 : decode cX4_moveTo 8 = .ok (.iload_n 1, 1) := by decide +kernel
theorem dX4_moveTo_9 : decode cX4_moveTo 9 = .ok (.iload_n 2, 1) := by decide +kernel
theorem dX4_moveTo_10 : decode cX4_moveTo 10 = .ok (.invokestatic 104, 3) := by decide +kernel
theorem dX4_moveTo_13 : decode cX4_moveTo 13 = .ok (.return_, 1) := by decide +kernel
theorem dX4_beginRepair_0 : decode cX4_beginRepair 0 = .ok (.aload_n 0, 1) := by decide +kernel
theorem dX4_beginRepair_1 : decode cX4_beginRepair 1 = .ok (.getfield 27, 3) := by decide +kernel
theorem dX4_beginRepair_4 : decode cX4_beginRepair 4 = .ok (.iload_n 1, 1) := by decide +kernel
theorem dX4_beginRepair_5 : decode cX4_beginRepair 5 = .ok (.aload_n 0, 1) := by decide +kernel
theorem dX4_beginRepair_6 : decode cX4_beginRepair 6 = .ok (.getfield 44, 3) := by decide +kernel
theorem dX4_beginRepair_9 : decode cX4_beginRepair 9 = .ok (.invokestatic 58, 3) := by decide +kernel
theorem dX4_beginRepair_12 : decode cX4_beginRepair 12 = .ok (.return_, 1) := by decide +kernel
theorem dX4_letHoursPass_0 : decode cX4_letHoursPass 0 = .ok (.iconst 0, 1) := by decide +kernel
theorem dX4_letHoursPass_1 : decode cX4_letHoursPass 1 = .ok (.istore_n 2, 1) := by decide +kernel
theorem dX4_letHoursPass_2 : decode cX4_letHoursPass 2 = .ok (.iconst 0, 1) := by decide +kernel
theorem dX4_letHoursPass_3 : decode cX4_letHoursPass 3 = .ok (.istore_n 3, 1) := by decide +kernel
theorem dX4_letHoursPass_4 : decode cX4_letHoursPass 4 = .ok (.iload_n 3, 1) := by decide +kernel
theorem dX4_letHoursPass_5 : decode cX4_letHoursPass 5 = .ok (.iload_n 1, 1) := by decide +kernel
theorem dX4_letHoursPass_6 : decode cX4_letHoursPass 6 = .ok (.if_icmp .ge 16, 3) := by decide +kernel
theorem dX4_letHoursPass_9 : decode cX4_letHoursPass 9 = .ok (.iload_n 2, 1) := by decide +kernel
theorem dX4_letHoursPass_10 : decode cX4_letHoursPass 10 = .ok (.aload_n 0, 1) := by decide +kernel
theorem dX4_letHoursPass_11 : decode cX4_letHoursPass 11 = .ok (.invokevirtual 107, 3) := by decide +kernel
theorem dX4_letHoursPass_14 : decode cX4_letHoursPass 14 = .ok (.iadd, 1) := by decide +kernel
theorem dX4_letHoursPass_15 : decode cX4_letHoursPass 15 = .ok (.istore_n 2, 1) := by decide +kernel
theorem dX4_letHoursPass_16 : decode cX4_letHoursPass 16 = .ok (.iinc 3 1, 3) := by decide +kernel
theorem dX4_letHoursPass_19 : decode cX4_letHoursPass 19 = .ok (.goto (-15), 3) := by decide +kernel
theorem dX4_letHoursPass_22 : decode cX4_letHoursPass 22 = .ok (.iload_n 2, 1) := by decide +kernel
theorem dX4_letHoursPass_23 : decode cX4_letHoursPass 23 = .ok (.ireturn, 1) := by decide +kernel
theorem dX4_letHourPass_0 : decode cX4_letHourPass 0 = .ok (.iconst 0, 1) := by decide +kernel
theorem dX4_letHourPass_1 : decode cX4_letHourPass 1 = .ok (.istore_n 1, 1) := by decide +kernel
theorem dX4_letHourPass_2 : decode cX4_letHourPass 2 = .ok (.iconst 0, 1) := by decide +kernel
theorem dX4_letHourPass_3 : decode cX4_letHourPass 3 = .ok (.istore_n 2, 1) := by decide +kernel
theorem dX4_letHourPass_4 : decode cX4_letHourPass 4 = .ok (.iload_n 2, 1) := by decide +kernel
theorem dX4_letHourPass_5 : decode cX4_letHourPass 5 = .ok (.aload_n 0, 1) := by decide +kernel
theorem dX4_letHourPass_6 : decode cX4_letHourPass 6 = .ok (.getfield 37, 3) := by decide +kernel
theorem dX4_letHourPass_9 : decode cX4_letHourPass 9 = .ok (.if_icmp .ge 45, 3) := by decide +kernel
theorem dX4_letHourPass_12 : decode cX4_letHourPass 12 = .ok (.aload_n 0, 1) := by decide +kernel
theorem dX4_letHourPass_13 : decode cX4_letHourPass 13 = .ok (.iload_n 2, 1) := by decide +kernel
theorem dX4_letHourPass_14 : decode cX4_letHourPass 14 = .ok (.invokevirtual 70, 3) := by decide +kernel
theorem dX4_letHourPass_17 : decode cX4_letHourPass 17 = .ok (.ifCond .eq 31, 3) := by decide +kernel
theorem dX4_letHourPass_20 : decode cX4_letHourPass 20 = .ok (.aload_n 0, 1) := by decide +kernel
theorem dX4_letHourPass_21 : decode cX4_letHourPass 21 = .ok (.getfield 27, 3) := by decide +kernel
theorem dX4_letHourPass_24 : decode cX4_letHourPass 24 = .ok (.iload_n 2, 1) := by decide +kernel
theorem dX4_letHourPass_25 : decode cX4_letHourPass 25 = .ok (.iconst (-1), 1) := by decide +kernel
theorem dX4_letHourPass_26 : decode cX4_letHourPass 26 = .ok (.invokestatic 104, 3) := by decide +kernel
theorem dX4_letHourPass_29 : decode cX4_letHourPass 29 = .ok (.aload_n 0, 1) := by decide +kernel
theorem dX4_letHourPass_30 : decode cX4_letHourPass 30 = .ok (.iload_n 2, 1) := by decide +kernel
theorem dX4_letHourPass_31 : decode cX4_letHourPass 31 = .ok (.invokevirtual 70, 3) := by decide +kernel
theorem dX4_letHourPass_34 : decode cX4_letHourPass 34 = .ok (.ifCond .ne 14, 3) := by decide +kernel
theorem dX4_letHourPass_37 : decode cX4_letHourPass 37 = .ok (.aload_n 0, 1) := by decide +kernel
theorem dX4_letHourPass_38 : decode cX4_letHourPass 38 = .ok (.getfield 33, 3) := by decide +kernel
theorem dX4_letHourPass_41 : decode cX4_letHourPass 41 = .ok (.iload_n 2, 1) := by decide +kernel
theorem dX4_letHourPass_42 : decode cX4_letHourPass 42 = .ok (.invokevirtual 111, 3) := by decide +kernel
theorem dX4_letHourPass_45 : decode cX4_letHourPass 45 = .ok (.iinc 1 1, 3) := by decide +kernel
theorem dX4_letHourPass_48 : decode cX4_letHourPass 48 = .ok (.iinc 2 1, 3) := by decide +kernel
theorem dX4_letHourPass_51 : decode cX4_letHourPass 51 = .ok (.goto (-47), 3) := by decide +kernel
theorem dX4_letHourPass_54 : decode cX4_letHourPass 54 = .ok (.aload_n 0, 1) := by decide +kernel
theorem dX4_letHourPass_55 : decode cX4_letHourPass 55 = .ok (.dup, 1) := by decide +kernel
theorem dX4_letHourPass_56 : decode cX4_letHourPass 56 = .ok (.getfield 47, 3) := by decide +kernel
theorem dX4_letHourPass_59 : decode cX4_letHourPass 59 = .ok (.iconst 1, 1) := by decide +kernel
theorem dX4_letHourPass_60 : decode cX4_letHourPass 60 = .ok (.iadd, 1) := by decide +kernel
theorem dX4_letHourPass_61 : decode cX4_letHourPass 61 = .ok (.putfield 47, 3) := by decide +kernel
theorem dX4_letHourPass_64 : decode cX4_letHourPass 64 = .ok (.iload_n 1, 1) := by decide +kernel
theorem dX4_letHourPass_65 : decode cX4_letHourPass 65 = .ok (.ireturn, 1) := by decide +kernel
theorem dX4_toldByOwnSides_0 : decode cX4_toldByOwnSides 0 = .ok (.iconst 0, 1) := by decide +kernel
theorem dX4_toldByOwnSides_1 : decode cX4_toldByOwnSides 1 = .ok (.istore_n 2, 1) := by decide +kernel
theorem dX4_toldByOwnSides_2 : decode cX4_toldByOwnSides 2 = .ok (.iconst 0, 1) := by decide +kernel
theorem dX4_toldByOwnSides_3 : decode cX4_toldByOwnSides 3 = .ok (.istore_n 3, 1) := by decide +kernel
theorem dX4_toldByOwnSides_4 : decode cX4_toldByOwnSides 4 = .ok (.iload_n 3, 1) := by decide +kernel
theorem dX4_toldByOwnSides_5 : decode cX4_toldByOwnSides 5 = .ok (.aload_n 0, 1) := by decide +kernel
theorem dX4_toldByOwnSides_6 : decode cX4_toldByOwnSides 6 = .ok (.getfield 37, 3) := by decide +kernel
theorem dX4_toldByOwnSides_9 : decode cX4_toldByOwnSides 9 = .ok (.if_icmp .ge 52, 3) := by decide +kernel
theorem dX4_toldByOwnSides_12 : decode cX4_toldByOwnSides 12 = .ok (.aload_n 0, 1) := by decide +kernel
theorem dX4_toldByOwnSides_13 : decode cX4_toldByOwnSides 13 = .ok (.getfield 18, 3) := by decide +kernel
theorem dX4_toldByOwnSides_16 : decode cX4_toldByOwnSides 16 = .ok (.iload_n 3, 1) := by decide +kernel
theorem dX4_toldByOwnSides_17 : decode cX4_toldByOwnSides 17 = .ok (.invokestatic 62, 3) := by decide +kernel
theorem dX4_toldByOwnSides_20 : decode cX4_toldByOwnSides 20 = .ok (.iload_n 1, 1) := by decide +kernel
theorem dX4_toldByOwnSides_21 : decode cX4_toldByOwnSides 21 = .ok (.if_icmp .ne 14, 3) := by decide +kernel
theorem dX4_toldByOwnSides_24 : decode cX4_toldByOwnSides 24 = .ok (.iload_n 2, 1) := by decide +kernel
theorem dX4_toldByOwnSides_25 : decode cX4_toldByOwnSides 25 = .ok (.aload_n 0, 1) := by decide +kernel
theorem dX4_toldByOwnSides_26 : decode cX4_toldByOwnSides 26 = .ok (.iload_n 3, 1) := by decide +kernel
theorem dX4_toldByOwnSides_27 : decode cX4_toldByOwnSides 27 = .ok (.invokevirtual 115, 3) := by decide +kernel
theorem dX4_toldByOwnSides_30 : decode cX4_toldByOwnSides 30 = .ok (.iadd, 1) := by decide +kernel
theorem dX4_toldByOwnSides_31 : decode cX4_toldByOwnSides 31 = .ok (.istore_n 2, 1) := by decide +kernel
theorem dX4_toldByOwnSides_32 : decode cX4_toldByOwnSides 32 = .ok (.goto 23, 3) := by decide +kernel
theorem dX4_toldByOwnSides_35 : decode cX4_toldByOwnSides 35 = .ok (.aload_n 0, 1) := by decide +kernel
theorem dX4_toldByOwnSides_36 : decode cX4_toldByOwnSides 36 = .ok (.getfield 21, 3) := by decide +kernel
theorem dX4_toldByOwnSides_39 : decode cX4_toldByOwnSides 39 = .ok (.iload_n 3, 1) := by decide +kernel
theorem dX4_toldByOwnSides_40 : decode cX4_toldByOwnSides 40 = .ok (.invokestatic 62, 3) := by decide +kernel
theorem dX4_toldByOwnSides_43 : decode cX4_toldByOwnSides 43 = .ok (.iload_n 1, 1) := by decide +kernel
theorem dX4_toldByOwnSides_44 : decode cX4_toldByOwnSides 44 = .ok (.if_icmp .ne 11, 3) := by decide +kernel
theorem dX4_toldByOwnSides_47 : decode cX4_toldByOwnSides 47 = .ok (.iload_n 2, 1) := by decide +kernel
theorem dX4_toldByOwnSides_48 : decode cX4_toldByOwnSides 48 = .ok (.aload_n 0, 1) := by decide +kernel
theorem dX4_toldByOwnSides_49 : decode cX4_toldByOwnSides 49 = .ok (.iload_n 3, 1) := by decide +kernel
theorem dX4_toldByOwnSides_50 : decode cX4_toldByOwnSides 50 = .ok (.invokevirtual 118, 3) := by decide +kernel
theorem dX4_toldByOwnSides_53 : decode cX4_toldByOwnSides 53 = .ok (.iadd, 1) := by decide +kernel
theorem dX4_toldByOwnSides_54 : decode cX4_toldByOwnSides 54 = .ok (.istore_n 2, 1) := by decide +kernel
theorem dX4_toldByOwnSides_55 : decode cX4_toldByOwnSides 55 = .ok (.iinc 3 1, 3) := by decide +kernel
theorem dX4_toldByOwnSides_58 : decode cX4_toldByOwnSides 58 = .ok (.goto (-54), 3) := by decide +kernel
theorem dX4_toldByOwnSides_61 : decode cX4_toldByOwnSides 61 = .ok (.iload_n 2, 1) := by decide +kernel
theorem dX4_toldByOwnSides_62 : decode cX4_toldByOwnSides 62 = .ok (.ireturn, 1) := by decide +kernel
theorem dX4_toldByFarSides_0 : decode cX4_toldByFarSides 0 = .ok (.iconst 0, 1) := by decide +kernel
theorem dX4_toldByFarSides_1 : decode cX4_toldByFarSides 1 = .ok (.istore_n 2, 1) := by decide +kernel
theorem dX4_toldByFarSides_2 : decode cX4_toldByFarSides 2 = .ok (.iconst 0, 1) := by decide +kernel
theorem dX4_toldByFarSides_3 : decode cX4_toldByFarSides 3 = .ok (.istore_n 3, 1) := by decide +kernel
theorem dX4_toldByFarSides_4 : decode cX4_toldByFarSides 4 = .ok (.iload_n 3, 1) := by decide +kernel
theorem dX4_toldByFarSides_5 : decode cX4_toldByFarSides 5 = .ok (.aload_n 0, 1) := by decide +kernel
theorem dX4_toldByFarSides_6 : decode cX4_toldByFarSides 6 = .ok (.getfield 37, 3) := by decide +kernel
theorem dX4_toldByFarSides_9 : decode cX4_toldByFarSides 9 = .ok (.if_icmp .ge 52, 3) := by decide +kernel
theorem dX4_toldByFarSides_12 : decode cX4_toldByFarSides 12 = .ok (.aload_n 0, 1) := by decide +kernel
theorem dX4_toldByFarSides_13 : decode cX4_toldByFarSides 13 = .ok (.getfield 18, 3) := by decide +kernel
theorem dX4_toldByFarSides_16 : decode cX4_toldByFarSides 16 = .ok (.iload_n 3, 1) := by decide +kernel
theorem dX4_toldByFarSides_17 : decode cX4_toldByFarSides 17 = .ok (.invokestatic 62, 3) := by decide +kernel
theorem dX4_toldByFarSides_20 : decode cX4_toldByFarSides 20 = .ok (.iload_n 1, 1) := by decide +kernel
theorem dX4_toldByFarSides_21 : decode cX4_toldByFarSides 21 = .ok (.if_icmp .ne 14, 3) := by decide +kernel
theorem dX4_toldByFarSides_24 : decode cX4_toldByFarSides 24 = .ok (.iload_n 2, 1) := by decide +kernel
theorem dX4_toldByFarSides_25 : decode cX4_toldByFarSides 25 = .ok (.aload_n 0, 1) := by decide +kernel
theorem dX4_toldByFarSides_26 : decode cX4_toldByFarSides 26 = .ok (.iload_n 3, 1) := by decide +kernel
theorem dX4_toldByFarSides_27 : decode cX4_toldByFarSides 27 = .ok (.invokevirtual 118, 3) := by decide +kernel
theorem dX4_toldByFarSides_30 : decode cX4_toldByFarSides 30 = .ok (.isub, 1) := by decide +kernel
theorem dX4_toldByFarSides_31 : decode cX4_toldByFarSides 31 = .ok (.istore_n 2, 1) := by decide +kernel
theorem dX4_toldByFarSides_32 : decode cX4_toldByFarSides 32 = .ok (.goto 23, 3) := by decide +kernel
theorem dX4_toldByFarSides_35 : decode cX4_toldByFarSides 35 = .ok (.aload_n 0, 1) := by decide +kernel
theorem dX4_toldByFarSides_36 : decode cX4_toldByFarSides 36 = .ok (.getfield 21, 3) := by decide +kernel
theorem dX4_toldByFarSides_39 : decode cX4_toldByFarSides 39 = .ok (.iload_n 3, 1) := by decide +kernel
theorem dX4_toldByFarSides_40 : decode cX4_toldByFarSides 40 = .ok (.invokestatic 62, 3) := by decide +kernel
theorem dX4_toldByFarSides_43 : decode cX4_toldByFarSides 43 = .ok (.iload_n 1, 1) := by decide +kernel
theorem dX4_toldByFarSides_44 : decode cX4_toldByFarSides 44 = .ok (.if_icmp .ne 11, 3) := by decide +kernel
theorem dX4_toldByFarSides_47 : decode cX4_toldByFarSides 47 = .ok (.iload_n 2, 1) := by decide +kernel
theorem dX4_toldByFarSides_48 : decode cX4_toldByFarSides 48 = .ok (.aload_n 0, 1) := by decide +kernel
theorem dX4_toldByFarSides_49 : decode cX4_toldByFarSides 49 = .ok (.iload_n 3, 1) := by decide +kernel
theorem dX4_toldByFarSides_50 : decode cX4_toldByFarSides 50 = .ok (.invokevirtual 115, 3) := by decide +kernel
theorem dX4_toldByFarSides_53 : decode cX4_toldByFarSides 53 = .ok (.isub, 1) := by decide +kernel
theorem dX4_toldByFarSides_54 : decode cX4_toldByFarSides 54 = .ok (.istore_n 2, 1) := by decide +kernel
theorem dX4_toldByFarSides_55 : decode cX4_toldByFarSides 55 = .ok (.iinc 3 1, 3) := by decide +kernel
theorem dX4_toldByFarSides_58 : decode cX4_toldByFarSides 58 = .ok (.goto (-54), 3) := by decide +kernel
theorem dX4_toldByFarSides_61 : decode cX4_toldByFarSides 61 = .ok (.iload_n 2, 1) := by decide +kernel
theorem dX4_toldByFarSides_62 : decode cX4_toldByFarSides 62 = .ok (.ireturn, 1) := by decide +kernel
theorem dX4_toldByFirstSide_0 : decode cX4_toldByFirstSide 0 = .ok (.aload_n 0, 1) := by decide +kernel
theorem dX4_toldByFirstSide_1 : decode cX4_toldByFirstSide 1 = .ok (.getfield 33, 3) := by decide +kernel
theorem dX4_toldByFirstSide_4 : decode cX4_toldByFirstSide 4 = .ok (.iload_n 1, 1) := by decide +kernel
theorem dX4_toldByFirstSide_5 : decode cX4_toldByFirstSide 5 = .ok (.iconst 1, 1) := by decide +kernel
theorem dX4_toldByFirstSide_6 : decode cX4_toldByFirstSide 6 = .ok (.invokevirtual 121, 3) := by decide +kernel
theorem dX4_toldByFirstSide_9 : decode cX4_toldByFirstSide 9 = .ok (.aload_n 0, 1) := by decide +kernel
theorem dX4_toldByFirstSide_10 : decode cX4_toldByFirstSide 10 = .ok (.getfield 33, 3) := by decide +kernel
theorem dX4_toldByFirstSide_13 : decode cX4_toldByFirstSide 13 = .ok (.iload_n 1, 1) := by decide +kernel
theorem dX4_toldByFirstSide_14 : decode cX4_toldByFirstSide 14 = .ok (.iconst 0, 1) := by decide +kernel
theorem dX4_toldByFirstSide_15 : decode cX4_toldByFirstSide 15 = .ok (.invokevirtual 121, 3) := by decide +kernel
theorem dX4_toldByFirstSide_18 : decode cX4_toldByFirstSide 18 = .ok (.isub, 1) := by decide +kernel
theorem dX4_toldByFirstSide_19 : decode cX4_toldByFirstSide 19 = .ok (.ireturn, 1) := by decide +kernel
theorem dX4_toldBySecondSide_0 : decode cX4_toldBySecondSide 0 = .ok (.aload_n 0, 1) := by decide +kernel
theorem dX4_toldBySecondSide_1 : decode cX4_toldBySecondSide 1 = .ok (.getfield 33, 3) := by decide +kernel
theorem dX4_toldBySecondSide_4 : decode cX4_toldBySecondSide 4 = .ok (.iload_n 1, 1) := by decide +kernel
theorem dX4_toldBySecondSide_5 : decode cX4_toldBySecondSide 5 = .ok (.iconst 3, 1) := by decide +kernel
theorem dX4_toldBySecondSide_6 : decode cX4_toldBySecondSide 6 = .ok (.invokevirtual 121, 3) := by decide +kernel
theorem dX4_toldBySecondSide_9 : decode cX4_toldBySecondSide 9 = .ok (.aload_n 0, 1) := by decide +kernel
theorem dX4_toldBySecondSide_10 : decode cX4_toldBySecondSide 10 = .ok (.getfield 33, 3) := by decide +kernel
theorem dX4_toldBySecondSide_13 : decode cX4_toldBySecondSide 13 = .ok (.iload_n 1, 1) := by decide +kernel
theorem dX4_toldBySecondSide_14 : decode cX4_toldBySecondSide 14 = .ok (.iconst 2, 1) := by decide +kernel
theorem dX4_toldBySecondSide_15 : decode cX4_toldBySecondSide 15 = .ok (.invokevirtual 121, 3) := by decide +kernel
theorem dX4_toldBySecondSide_18 : decode cX4_toldBySecondSide 18 = .ok (.isub, 1) := by decide +kernel
theorem dX4_toldBySecondSide_19 : decode cX4_toldBySecondSide 19 = .ok (.ireturn, 1) := by decide +kernel
theorem dX4_toldByAllOwnSides_0 : decode cX4_toldByAllOwnSides 0 = .ok (.iconst 0, 1) := by decide +kernel
theorem dX4_toldByAllOwnSides_1 : decode cX4_toldByAllOwnSides 1 = .ok (.istore_n 1, 1) := by decide +kernel
theorem dX4_toldByAllOwnSides_2 : decode cX4_toldByAllOwnSides 2 = .ok (.iconst 1, 1) := by decide +kernel
theorem dX4_toldByAllOwnSides_3 : decode cX4_toldByAllOwnSides 3 = .ok (.istore_n 2, 1) := by decide +kernel
theorem dX4_toldByAllOwnSides_4 : decode cX4_toldByAllOwnSides 4 = .ok (.iload_n 2, 1) := by decide +kernel
theorem dX4_toldByAllOwnSides_5 : decode cX4_toldByAllOwnSides 5 = .ok (.bipush 6, 2) := by decide +kernel
theorem dX4_toldByAllOwnSides_7 : decode cX4_toldByAllOwnSides 7 = .ok (.if_icmp .ge 17, 3) := by decide +kernel
theorem dX4_toldByAllOwnSides_10 : decode cX4_toldByAllOwnSides 10 = .ok (.iload_n 1, 1) := by decide +kernel
theorem dX4_toldByAllOwnSides_11 : decode cX4_toldByAllOwnSides 11 = .ok (.aload_n 0, 1) := by decide +kernel
theorem dX4_toldByAllOwnSides_12 : decode cX4_toldByAllOwnSides 12 = .ok (.iload_n 2, 1) := by decide +kernel
theorem dX4_toldByAllOwnSides_13 : decode cX4_toldByAllOwnSides 13 = .ok (.invokevirtual 124, 3) := by decide +kernel
theorem dX4_toldByAllOwnSides_16 : decode cX4_toldByAllOwnSides 16 = .ok (.iadd, 1) := by decide +kernel
theorem dX4_toldByAllOwnSides_17 : decode cX4_toldByAllOwnSides 17 = .ok (.istore_n 1, 1) := by decide +kernel
theorem dX4_toldByAllOwnSides_18 : decode cX4_toldByAllOwnSides 18 = .ok (.iinc 2 1, 3) := by decide +kernel
theorem dX4_toldByAllOwnSides_21 : decode cX4_toldByAllOwnSides 21 = .ok (.goto (-17), 3) := by decide +kernel
theorem dX4_toldByAllOwnSides_24 : decode cX4_toldByAllOwnSides 24 = .ok (.iload_n 1, 1) := by decide +kernel
theorem dX4_toldByAllOwnSides_25 : decode cX4_toldByAllOwnSides 25 = .ok (.ireturn, 1) := by decide +kernel
theorem dX4_toldByAllFarSides_0 : decode cX4_toldByAllFarSides 0 = .ok (.iconst 0, 1) := by decide +kernel
theorem dX4_toldByAllFarSides_1 : decode cX4_toldByAllFarSides 1 = .ok (.istore_n 1, 1) := by decide +kernel
theorem dX4_toldByAllFarSides_2 : decode cX4_toldByAllFarSides 2 = .ok (.iconst 1, 1) := by decide +kernel
theorem dX4_toldByAllFarSides_3 : decode cX4_toldByAllFarSides 3 = .ok (.istore_n 2, 1) := by decide +kernel
theorem dX4_toldByAllFarSides_4 : decode cX4_toldByAllFarSides 4 = .ok (.iload_n 2, 1) := by decide +kernel
theorem dX4_toldByAllFarSides_5 : decode cX4_toldByAllFarSides 5 = .ok (.bipush 6, 2) := by decide +kernel
theorem dX4_toldByAllFarSides_7 : decode cX4_toldByAllFarSides 7 = .ok (.if_icmp .ge 17, 3) := by decide +kernel
theorem dX4_toldByAllFarSides_10 : decode cX4_toldByAllFarSides 10 = .ok (.iload_n 1, 1) := by decide +kernel
theorem dX4_toldByAllFarSides_11 : decode cX4_toldByAllFarSides 11 = .ok (.aload_n 0, 1) := by decide +kernel
theorem dX4_toldByAllFarSides_12 : decode cX4_toldByAllFarSides 12 = .ok (.iload_n 2, 1) := by decide +kernel
theorem dX4_toldByAllFarSides_13 : decode cX4_toldByAllFarSides 13 = .ok (.invokevirtual 127, 3) := by decide +kernel
theorem dX4_toldByAllFarSides_16 : decode cX4_toldByAllFarSides 16 = .ok (.iadd, 1) := by decide +kernel
theorem dX4_toldByAllFarSides_17 : decode cX4_toldByAllFarSides 17 = .ok (.istore_n 1, 1) := by decide +kernel
theorem dX4_toldByAllFarSides_18 : decode cX4_toldByAllFarSides 18 = .ok (.iinc 2 1, 3) := by decide +kernel
theorem dX4_toldByAllFarSides_21 : decode cX4_toldByAllFarSides 21 = .ok (.goto (-17), 3) := by decide +kernel
theorem dX4_toldByAllFarSides_24 : decode cX4_toldByAllFarSides 24 = .ok (.iload_n 1, 1) := by decide +kernel
theorem dX4_toldByAllFarSides_25 : decode cX4_toldByAllFarSides 25 = .ok (.ireturn, 1) := by decide +kernel
theorem dX4_peopleOfAllHalls_0 : decode cX4_peopleOfAllHalls 0 = .ok (.aload_n 0, 1) := by decide +kernel
theorem dX4_peopleOfAllHalls_1 : decode cX4_peopleOfAllHalls 1 = .ok (.getfield 15, 3) := by decide +kernel
theorem dX4_peopleOfAllHalls_4 : decode cX4_peopleOfAllHalls 4 = .ok (.invokestatic 130, 3) := by decide +kernel
theorem dX4_peopleOfAllHalls_7 : decode cX4_peopleOfAllHalls 7 = .ok (.ireturn, 1) := by decide +kernel
theorem dX4_roomsOfAllHalls_0 : decode cX4_roomsOfAllHalls 0 = .ok (.aload_n 0, 1) := by decide +kernel
theorem dX4_roomsOfAllHalls_1 : decode cX4_roomsOfAllHalls 1 = .ok (.getfield 9, 3) := by decide +kernel
theorem dX4_roomsOfAllHalls_4 : decode cX4_roomsOfAllHalls 4 = .ok (.invokestatic 130, 3) := by decide +kernel
theorem dX4_roomsOfAllHalls_7 : decode cX4_roomsOfAllHalls 7 = .ok (.ireturn, 1) := by decide +kernel
theorem dX4_sumOfAllHalls_0 : decode cX4_sumOfAllHalls 0 = .ok (.iconst 0, 1) := by decide +kernel
theorem dX4_sumOfAllHalls_1 : decode cX4_sumOfAllHalls 1 = .ok (.istore_n 1, 1) := by decide +kernel
theorem dX4_sumOfAllHalls_2 : decode cX4_sumOfAllHalls 2 = .ok (.iconst 1, 1) := by decide +kernel
theorem dX4_sumOfAllHalls_3 : decode cX4_sumOfAllHalls 3 = .ok (.istore_n 2, 1) := by decide +kernel
theorem dX4_sumOfAllHalls_4 : decode cX4_sumOfAllHalls 4 = .ok (.iload_n 2, 1) := by decide +kernel
theorem dX4_sumOfAllHalls_5 : decode cX4_sumOfAllHalls 5 = .ok (.bipush 6, 2) := by decide +kernel
theorem dX4_sumOfAllHalls_7 : decode cX4_sumOfAllHalls 7 = .ok (.if_icmp .ge 17, 3) := by decide +kernel
theorem dX4_sumOfAllHalls_10 : decode cX4_sumOfAllHalls 10 = .ok (.iload_n 1, 1) := by decide +kernel
theorem dX4_sumOfAllHalls_11 : decode cX4_sumOfAllHalls 11 = .ok (.aload_n 0, 1) := by decide +kernel
theorem dX4_sumOfAllHalls_12 : decode cX4_sumOfAllHalls 12 = .ok (.iload_n 2, 1) := by decide +kernel
theorem dX4_sumOfAllHalls_13 : decode cX4_sumOfAllHalls 13 = .ok (.invokestatic 62, 3) := by decide +kernel
theorem dX4_sumOfAllHalls_16 : decode cX4_sumOfAllHalls 16 = .ok (.iadd, 1) := by decide +kernel
theorem dX4_sumOfAllHalls_17 : decode cX4_sumOfAllHalls 17 = .ok (.istore_n 1, 1) := by decide +kernel
theorem dX4_sumOfAllHalls_18 : decode cX4_sumOfAllHalls 18 = .ok (.iinc 2 1, 3) := by decide +kernel
theorem dX4_sumOfAllHalls_21 : decode cX4_sumOfAllHalls 21 = .ok (.goto (-17), 3) := by decide +kernel
theorem dX4_sumOfAllHalls_24 : decode cX4_sumOfAllHalls 24 = .ok (.iload_n 1, 1) := by decide +kernel
theorem dX4_sumOfAllHalls_25 : decode cX4_sumOfAllHalls 25 = .ok (.ireturn, 1) := by decide +kernel
theorem dX4_fullestHall_0 : decode cX4_fullestHall 0 = .ok (.iconst 1, 1) := by decide +kernel
theorem dX4_fullestHall_1 : decode cX4_fullestHall 1 = .ok (.istore_n 1, 1) := by decide +kernel
theorem dX4_fullestHall_2 : decode cX4_fullestHall 2 = .ok (.iload_n 1, 1) := by decide +kernel
theorem dX4_fullestHall_3 : decode cX4_fullestHall 3 = .ok (.iconst 1, 1) := by decide +kernel
theorem dX4_fullestHall_4 : decode cX4_fullestHall 4 = .ok (.iadd, 1) := by decide +kernel
theorem dX4_fullestHall_5 : decode cX4_fullestHall 5 = .ok (.istore_n 2, 1) := by decide +kernel
theorem dX4_fullestHall_6 : decode cX4_fullestHall 6 = .ok (.iload_n 2, 1) := by decide +kernel
theorem dX4_fullestHall_7 : decode cX4_fullestHall 7 = .ok (.bipush 6, 2) := by decide +kernel
theorem dX4_fullestHall_9 : decode cX4_fullestHall 9 = .ok (.if_icmp .ge 50, 3) := by decide +kernel
theorem dX4_fullestHall_12 : decode cX4_fullestHall 12 = .ok (.aload_n 0, 1) := by decide +kernel
theorem dX4_fullestHall_13 : decode cX4_fullestHall 13 = .ok (.getfield 9, 3) := by decide +kernel
theorem dX4_fullestHall_16 : decode cX4_fullestHall 16 = .ok (.iload_n 2, 1) := by decide +kernel
theorem dX4_fullestHall_17 : decode cX4_fullestHall 17 = .ok (.invokestatic 62, 3) := by decide +kernel
theorem dX4_fullestHall_20 : decode cX4_fullestHall 20 = .ok (.aload_n 0, 1) := by decide +kernel
theorem dX4_fullestHall_21 : decode cX4_fullestHall 21 = .ok (.getfield 15, 3) := by decide +kernel
theorem dX4_fullestHall_24 : decode cX4_fullestHall 24 = .ok (.iload_n 2, 1) := by decide +kernel
theorem dX4_fullestHall_25 : decode cX4_fullestHall 25 = .ok (.invokestatic 62, 3) := by decide +kernel
theorem dX4_fullestHall_28 : decode cX4_fullestHall 28 = .ok (.isub, 1) := by decide +kernel
theorem dX4_fullestHall_29 : decode cX4_fullestHall 29 = .ok (.istore_n 3, 1) := by decide +kernel
theorem dX4_fullestHall_30 : decode cX4_fullestHall 30 = .ok (.iload_n 3, 1) := by decide +kernel
theorem dX4_fullestHall_31 : decode cX4_fullestHall 31 = .ok (.aload_n 0, 1) := by decide +kernel
theorem dX4_fullestHall_32 : decode cX4_fullestHall 32 = .ok (.getfield 9, 3) := by decide +kernel
theorem dX4_fullestHall_35 : decode cX4_fullestHall 35 = .ok (.iload_n 1, 1) := by decide +kernel
theorem dX4_fullestHall_36 : decode cX4_fullestHall 36 = .ok (.invokestatic 62, 3) := by decide +kernel
theorem dX4_fullestHall_39 : decode cX4_fullestHall 39 = .ok (.aload_n 0, 1) := by decide +kernel
theorem dX4_fullestHall_40 : decode cX4_fullestHall 40 = .ok (.getfield 15, 3) := by decide +kernel
theorem dX4_fullestHall_43 : decode cX4_fullestHall 43 = .ok (.iload_n 1, 1) := by decide +kernel
theorem dX4_fullestHall_44 : decode cX4_fullestHall 44 = .ok (.invokestatic 62, 3) := by decide +kernel
theorem dX4_fullestHall_47 : decode cX4_fullestHall 47 = .ok (.isub, 1) := by decide +kernel
theorem dX4_fullestHall_48 : decode cX4_fullestHall 48 = .ok (.if_icmp .ge 5, 3) := by decide +kernel
theorem dX4_fullestHall_51 : decode cX4_fullestHall 51 = .ok (.iload_n 2, 1) := by decide +kernel
theorem dX4_fullestHall_52 : decode cX4_fullestHall 52 = .ok (.istore_n 1, 1) := by decide +kernel
theorem dX4_fullestHall_53 : decode cX4_fullestHall 53 = .ok (.iinc 2 1, 3) := by decide +kernel
theorem dX4_fullestHall_56 : decode cX4_fullestHall 56 = .ok (.goto (-50), 3) := by decide +kernel
theorem dX4_fullestHall_59 : decode cX4_fullestHall 59 = .ok (.iload_n 1, 1) := by decide +kernel
theorem dX4_fullestHall_60 : decode cX4_fullestHall 60 = .ok (.ireturn, 1) := by decide +kernel
theorem dX4_stilesOfHall_0 : decode cX4_stilesOfHall 0 = .ok (.iconst 0, 1) := by decide +kernel
theorem dX4_stilesOfHall_1 : decode cX4_stilesOfHall 1 = .ok (.istore_n 2, 1) := by decide +kernel
theorem dX4_stilesOfHall_2 : decode cX4_stilesOfHall 2 = .ok (.iconst 0, 1) := by decide +kernel
theorem dX4_stilesOfHall_3 : decode cX4_stilesOfHall 3 = .ok (.istore_n 3, 1) := by decide +kernel
theorem dX4_stilesOfHall_4 : decode cX4_stilesOfHall 4 = .ok (.iload_n 3, 1) := by decide +kernel
theorem dX4_stilesOfHall_5 : decode cX4_stilesOfHall 5 = .ok (.aload_n 0, 1) := by decide +kernel
theorem dX4_stilesOfHall_6 : decode cX4_stilesOfHall 6 = .ok (.getfield 37, 3) := by decide +kernel
theorem dX4_stilesOfHall_9 : decode cX4_stilesOfHall 9 = .ok (.if_icmp .ge 36, 3) := by decide +kernel
theorem dX4_stilesOfHall_12 : decode cX4_stilesOfHall 12 = .ok (.aload_n 0, 1) := by decide +kernel
theorem dX4_stilesOfHall_13 : decode cX4_stilesOfHall 13 = .ok (.getfield 18, 3) := by decide +kernel
theorem dX4_stilesOfHall_16 : decode cX4_stilesOfHall 16 = .ok (.iload_n 3, 1) := by decide +kernel
theorem dX4_stilesOfHall_17 : decode cX4_stilesOfHall 17 = .ok (.invokestatic 62, 3) := by decide +kernel
theorem dX4_stilesOfHall_20 : decode cX4_stilesOfHall 20 = .ok (.iload_n 1, 1) := by decide +kernel
theorem dX4_stilesOfHall_21 : decode cX4_stilesOfHall 21 = .ok (.if_icmp .eq 15, 3) := by decide +kernel
theorem dX4_stilesOfHall_24 : decode cX4_stilesOfHall 24 = .ok (.aload_n 0, 1) := by decide +kernel
theorem dX4_stilesOfHall_25 : decode cX4_stilesOfHall 25 = .ok (.getfield 21, 3) := by decide +kernel
theorem dX4_stilesOfHall_28 : decode cX4_stilesOfHall 28 = .ok (.iload_n 3, 1) := by decide +kernel
theorem dX4_stilesOfHall_29 : decode cX4_stilesOfHall 29 = .ok (.invokestatic 62, 3) := by decide +kernel
theorem dX4_stilesOfHall_32 : decode cX4_stilesOfHall 32 = .ok (.iload_n 1, 1) := by decide +kernel
theorem dX4_stilesOfHall_33 : decode cX4_stilesOfHall 33 = .ok (.if_icmp .ne 6, 3) := by decide +kernel
theorem dX4_stilesOfHall_36 : decode cX4_stilesOfHall 36 = .ok (.iinc 2 1, 3) := by decide +kernel
theorem dX4_stilesOfHall_39 : decode cX4_stilesOfHall 39 = .ok (.iinc 3 1, 3) := by decide +kernel
theorem dX4_stilesOfHall_42 : decode cX4_stilesOfHall 42 = .ok (.goto (-38), 3) := by decide +kernel
theorem dX4_stilesOfHall_45 : decode cX4_stilesOfHall 45 = .ok (.iload_n 2, 1) := by decide +kernel
theorem dX4_stilesOfHall_46 : decode cX4_stilesOfHall 46 = .ok (.ireturn, 1) := by decide +kernel
theorem dX4_stilesUnderRepair_0 : decode cX4_stilesUnderRepair 0 = .ok (.iconst 0, 1) := by decide +kernel
theorem dX4_stilesUnderRepair_1 : decode cX4_stilesUnderRepair 1 = .ok (.istore_n 1, 1) := by decide +kernel
theorem dX4_stilesUnderRepair_2 : decode cX4_stilesUnderRepair 2 = .ok (.iconst 0, 1) := by decide +kernel
theorem dX4_stilesUnderRepair_3 : decode cX4_stilesUnderRepair 3 = .ok (.istore_n 2, 1) := by decide +kernel
theorem dX4_stilesUnderRepair_4 : decode cX4_stilesUnderRepair 4 = .ok (.iload_n 2, 1) := by decide +kernel
theorem dX4_stilesUnderRepair_5 : decode cX4_stilesUnderRepair 5 = .ok (.aload_n 0, 1) := by decide +kernel
theorem dX4_stilesUnderRepair_6 : decode cX4_stilesUnderRepair 6 = .ok (.getfield 37, 3) := by decide +kernel
theorem dX4_stilesUnderRepair_9 : decode cX4_stilesUnderRepair 9 = .ok (.if_icmp .ge 20, 3) := by decide +kernel
theorem dX4_stilesUnderRepair_12 : decode cX4_stilesUnderRepair 12 = .ok (.aload_n 0, 1) := by decide +kernel
theorem dX4_stilesUnderRepair_13 : decode cX4_stilesUnderRepair 13 = .ok (.iload_n 2, 1) := by decide +kernel
theorem dX4_stilesUnderRepair_14 : decode cX4_stilesUnderRepair 14 = .ok (.invokevirtual 70, 3) := by decide +kernel
theorem dX4_stilesUnderRepair_17 : decode cX4_stilesUnderRepair 17 = .ok (.ifCond .eq 6, 3) := by decide +kernel
theorem dX4_stilesUnderRepair_20 : decode cX4_stilesUnderRepair 20 = .ok (.iinc 1 1, 3) := by decide +kernel
theorem dX4_stilesUnderRepair_23 : decode cX4_stilesUnderRepair 23 = .ok (.iinc 2 1, 3) := by decide +kernel
theorem dX4_stilesUnderRepair_26 : decode cX4_stilesUnderRepair 26 = .ok (.goto (-22), 3) := by decide +kernel
theorem dX4_stilesUnderRepair_29 : decode cX4_stilesUnderRepair 29 = .ok (.iload_n 1, 1) := by decide +kernel
theorem dX4_stilesUnderRepair_30 : decode cX4_stilesUnderRepair 30 = .ok (.ireturn, 1) := by decide +kernel
theorem dX4_sumOfGaps_0 : decode cX4_sumOfGaps 0 = .ok (.iconst 0, 1) := by decide +kernel
theorem dX4_sumOfGaps_1 : decode cX4_sumOfGaps 1 = .ok (.istore_n 1, 1) := by decide +kernel
theorem dX4_sumOfGaps_2 : decode cX4_sumOfGaps 2 = .ok (.iconst 0, 1) := by decide +kernel
theorem dX4_sumOfGaps_3 : decode cX4_sumOfGaps 3 = .ok (.istore_n 2, 1) := by decide +kernel
theorem dX4_sumOfGaps_4 : decode cX4_sumOfGaps 4 = .ok (.iload_n 2, 1) := by decide +kernel
theorem dX4_sumOfGaps_5 : decode cX4_sumOfGaps 5 = .ok (.aload_n 0, 1) := by decide +kernel
theorem dX4_sumOfGaps_6 : decode cX4_sumOfGaps 6 = .ok (.getfield 37, 3) := by decide +kernel
theorem dX4_sumOfGaps_9 : decode cX4_sumOfGaps 9 = .ok (.if_icmp .ge 20, 3) := by decide +kernel
theorem dX4_sumOfGaps_12 : decode cX4_sumOfGaps 12 = .ok (.iload_n 1, 1) := by decide +kernel
theorem dX4_sumOfGaps_13 : decode cX4_sumOfGaps 13 = .ok (.aload_n 0, 1) := by decide +kernel
theorem dX4_sumOfGaps_14 : decode cX4_sumOfGaps 14 = .ok (.getfield 33, 3) := by decide +kernel
theorem dX4_sumOfGaps_17 : decode cX4_sumOfGaps 17 = .ok (.iload_n 2, 1) := by decide +kernel
theorem dX4_sumOfGaps_18 : decode cX4_sumOfGaps 18 = .ok (.invokevirtual 134, 3) := by decide +kernel
theorem dX4_sumOfGaps_21 : decode cX4_sumOfGaps 21 = .ok (.iadd, 1) := by decide +kernel
theorem dX4_sumOfGaps_22 : decode cX4_sumOfGaps 22 = .ok (.istore_n 1, 1) := by decide +kernel
theorem dX4_sumOfGaps_23 : decode cX4_sumOfGaps 23 = .ok (.iinc 2 1, 3) := by decide +kernel
theorem dX4_sumOfGaps_26 : decode cX4_sumOfGaps 26 = .ok (.goto (-22), 3) := by decide +kernel
theorem dX4_sumOfGaps_29 : decode cX4_sumOfGaps 29 = .ok (.iload_n 1, 1) := by decide +kernel
theorem dX4_sumOfGaps_30 : decode cX4_sumOfGaps 30 = .ok (.ireturn, 1) := by decide +kernel
theorem dX4_worseStiles_0 : decode cX4_worseStiles 0 = .ok (.aload_n 0, 1) := by decide +kernel
theorem dX4_worseStiles_1 : decode cX4_worseStiles 1 = .ok (.getfield 33, 3) := by decide +kernel
theorem dX4_worseStiles_4 : decode cX4_worseStiles 4 = .ok (.iload_n 1, 1) := by decide +kernel
theorem dX4_worseStiles_5 : decode cX4_worseStiles 5 = .ok (.invokevirtual 134, 3) := by decide +kernel
theorem dX4_worseStiles_8 : decode cX4_worseStiles 8 = .ok (.istore_n 2, 1) := by decide +kernel
theorem dX4_worseStiles_9 : decode cX4_worseStiles 9 = .ok (.iconst 0, 1) := by decide +kernel
theorem dX4_worseStiles_10 : decode cX4_worseStiles 10 = .ok (.istore_n 3, 1) := by decide +kernel
theorem dX4_worseStiles_11 : decode cX4_worseStiles 11 = .ok (.iconst 0, 1) := by decide +kernel
theorem dX4_worseStiles_12 : decode cX4_worseStiles 12 = .ok (.istore 4, 2) := by decide +kernel
theorem dX4_worseStiles_14 : decode cX4_worseStiles 14 = .ok (.iload 4, 2) := by decide +kernel
theorem dX4_worseStiles_16 : decode cX4_worseStiles 16 = .ok (.aload_n 0, 1) := by decide +kernel
theorem dX4_worseStiles_17 : decode cX4_worseStiles 17 = .ok (.getfield 37, 3) := by decide +kernel
theorem dX4_worseStiles_20 : decode cX4_worseStiles 20 = .ok (.if_icmp .ge 41, 3) := by decide +kernel
theorem dX4_worseStiles_23 : decode cX4_worseStiles 23 = .ok (.aload_n 0, 1) := by decide +kernel
theorem dX4_worseStiles_24 : decode cX4_worseStiles 24 = .ok (.getfield 33, 3) := by decide +kernel
theorem dX4_worseStiles_27 : decode cX4_worseStiles 27 = .ok (.iload 4, 2) := by decide +kernel
theorem dX4_worseStiles_29 : decode cX4_worseStiles 29 = .ok (.invokevirtual 134, 3) := by decide +kernel
theorem dX4_worseStiles_32 : decode cX4_worseStiles 32 = .ok (.istore 5, 2) := by decide +kernel
theorem dX4_worseStiles_34 : decode cX4_worseStiles 34 = .ok (.iload 5, 2) := by decide +kernel
theorem dX4_worseStiles_36 : decode cX4_worseStiles 36 = .ok (.iload_n 2, 1) := by decide +kernel
theorem dX4_worseStiles_37 : decode cX4_worseStiles 37 = .ok (.if_icmp .gt 15, 3) := by decide +kernel
theorem dX4_worseStiles_40 : decode cX4_worseStiles 40 = .ok (.iload 5, 2) := by decide +kernel
theorem dX4_worseStiles_42 : decode cX4_worseStiles 42 = .ok (.iload_n 2, 1) := by decide +kernel
theorem dX4_worseStiles_43 : decode cX4_worseStiles 43 = .ok (.if_icmp .ne 12, 3) := by decide +kernel
theorem dX4_worseStiles_46 : decode cX4_worseStiles 46 = .ok (.iload 4, 2) := by decide +kernel
theorem dX4_worseStiles_48 : decode cX4_worseStiles 48 = .ok (.iload_n 1, 1) := by decide +kernel
theorem dX4_worseStiles_49 : decode cX4_worseStiles 49 = .ok (.if_icmp .ge 6, 3) := by decide +kernel
theorem dX4_worseStiles_52 : decode cX4_worseStiles 52 = .ok (.iinc 3 1, 3) := by decide +kernel
theorem dX4_worseStiles_55 : decode cX4_worseStiles 55 = .ok (.iinc 4 1, 3) := by decide +kernel
theorem dX4_worseStiles_58 : decode cX4_worseStiles 58 = .ok (.goto (-44), 3) := by decide +kernel
theorem dX4_worseStiles_61 : decode cX4_worseStiles 61 = .ok (.iload_n 3, 1) := by decide +kernel
theorem dX4_worseStiles_62 : decode cX4_worseStiles 62 = .ok (.ireturn, 1) := by decide +kernel
theorem dX5_init_0 : decode cX5_init 0 = .ok (.aload_n 0, 1) := by decide +kernel
theorem dX5_init_1 : decode cX5_init 1 = .ok (.invokespecial 1, 3) := by decide +kernel
theorem dX5_init_4 : decode cX5_init 4 = .ok (.aload_n 0, 1) := by decide +kernel
theorem dX5_init_5 : decode cX5_init 5 = .ok (.new 7, 3) := by decide +kernel
theorem dX5_init_8 : decode cX5_init 8 = .ok (.dup, 1) := by decide +kernel
theorem dX5_init_9 : decode cX5_init 9 = .ok (.invokespecial 9, 3) := by decide +kernel
theorem dX5_init_12 : decode cX5_init 12 = .ok (.putfield 10, 3) := by decide +kernel
theorem dX5_init_15 : decode cX5_init 15 = .ok (.aload_n 0, 1) := by decide +kernel
theorem dX5_init_16 : decode cX5_init 16 = .ok (.new 7, 3) := by decide +kernel
theorem dX5_init_19 : decode cX5_init 19 = .ok (.dup, 1) := by decide +kernel
theorem dX5_init_20 : decode cX5_init 20 = .ok (.invokespecial 9, 3) := by decide +kernel
theorem dX5_init_23 : decode cX5_init 23 = .ok (.putfield 16, 3) := by decide +kernel
theorem dX5_init_26 : decode cX5_init 26 = .ok (.aload_n 0, 1) := by decide +kernel
theorem dX5_init_27 : decode cX5_init 27 = .ok (.new 7, 3) := by decide +kernel
theorem dX5_init_30 : decode cX5_init 30 = .ok (.dup, 1) := by decide +kernel
theorem dX5_init_31 : decode cX5_init 31 = .ok (.invokespecial 9, 3) := by decide +kernel
theorem dX5_init_34 : decode cX5_init 34 = .ok (.putfield 19, 3) := by decide +kernel
theorem dX5_init_37 : decode cX5_init 37 = .ok (.aload_n 0, 1) := by decide +kernel
theorem dX5_init_38 : decode cX5_init 38 = .ok (.new 22, 3) := by decide +kernel
theorem dX5_init_41 : decode cX5_init 41 = .ok (.dup, 1) := by decide +kernel
theorem dX5_init_42 : decode cX5_init 42 = .ok (.invokespecial 24, 3) := by decide +kernel
theorem dX5_init_45 : decode cX5_init 45 = .ok (.putfield 25, 3) := by decide +kernel
theorem dX5_init_48 : decode cX5_init 48 = .ok (.aload_n 0, 1) := by decide +kernel
theorem dX5_init_49 : decode cX5_init 49 = .ok (.new 29, 3) := by decide +kernel
theorem dX5_init_52 : decode cX5_init 52 = .ok (.dup, 1) := by decide +kernel
theorem dX5_init_53 : decode cX5_init 53 = .ok (.invokespecial 31, 3) := by decide +kernel
theorem dX5_init_56 : decode cX5_init 56 = .ok (.putfield 32, 3) := by decide +kernel
theorem dX5_init_59 : decode cX5_init 59 = .ok (.aload_n 0, 1) := by decide +kernel
theorem dX5_init_60 : decode cX5_init 60 = .ok (.new 36, 3) := by decide +kernel
theorem dX5_init_63 : decode cX5_init 63 = .ok (.dup, 1) := by decide +kernel
theorem dX5_init_64 : decode cX5_init 64 = .ok (.invokespecial 38, 3) := by decide +kernel
theorem dX5_init_67 : decode cX5_init 67 = .ok (.putfield 39, 3) := by decide +kernel
theorem dX5_init_70 : decode cX5_init 70 = .ok (.aload_n 0, 1) := by decide +kernel
theorem dX5_init_71 : decode cX5_init 71 = .ok (.iconst 0, 1) := by decide +kernel
theorem dX5_init_72 : decode cX5_init 72 = .ok (.putfield 43, 3) := by decide +kernel
theorem dX5_init_75 : decode cX5_init 75 = .ok (.return_, 1) := by decide +kernel
theorem dX5_stile_0 : decode cX5_stile 0 = .ok (.iload_n 1, 1) := by decide +kernel
theorem dX5_stile_1 : decode cX5_stile 1 = .ok (.invokestatic 47, 3) := by decide +kernel
theorem dX5_stile_4 : decode cX5_stile 4 = .ok (.ifCond .eq 10, 3) := by decide +kernel
theorem dX5_stile_7 : decode cX5_stile 7 = .ok (.iload_n 2, 1) := by decide +kernel
theorem dX5_stile_8 : decode cX5_stile 8 = .ok (.invokestatic 47, 3) := by decide +kernel
theorem dX5_stile_11 : decode cX5_stile 11 = .ok (.ifCond .ne 6, 3) := by decide +kernel
theorem dX5_stile_14 : decode cX5_stile 14 = .ok (.ldc 51, 2) := by decide +kernel
theorem dX5_stile_16 : decode cX5_stile 16 = .ok (.ireturn, 1) := by decide +kernel
theorem dX5_stile_17 : decode cX5_stile 17 = .ok (.iload_n 1, 1) := by decide +kernel
theorem dX5_stile_18 : decode cX5_stile 18 = .ok (.iload_n 2, 1) := by decide +kernel
theorem dX5_stile_19 : decode cX5_stile 19 = .ok (.if_icmp .ne 6, 3) := by decide +kernel
theorem dX5_stile_22 : decode cX5_stile 22 = .ok (.ldc 52, 2) := by decide +kernel
theorem dX5_stile_24 : decode cX5_stile 24 = .ok (.ireturn, 1) := by decide +kernel
theorem dX5_stile_25 : decode cX5_stile 25 = .ok (.aload_n 0, 1) := by decide +kernel
theorem dX5_stile_26 : decode cX5_stile 26 = .ok (.getfield 10, 3) := by decide +kernel
theorem dX5_stile_29 : decode cX5_stile 29 = .ok (.getfield 53, 3) := by decide +kernel
theorem dX5_stile_32 : decode cX5_stile 32 = .ok (.bipush 12, 2) := by decide +kernel
theorem dX5_stile_34 : decode cX5_stile 34 = .ok (.if_icmp .lt 6, 3) := by decide +kernel
theorem dX5_stile_37 : decode cX5_stile 37 = .ok (.ldc 57, 2) := by decide +kernel
theorem dX5_stile_39 : decode cX5_stile 39 = .ok (.ireturn, 1) := by decide +kernel
theorem dX5_stile_40 : decode cX5_stile 40 = .ok (.aload_n 0, 1) := by decide +kernel
theorem dX5_stile_41 : decode cX5_stile 41 = .ok (.getfield 25, 3) := by decide +kernel
theorem dX5_stile_44 : decode cX5_stile 44 = .ok (.aload_n 0, 1) := by decide +kernel
theorem dX5_stile_45 : decode cX5_stile 45 = .ok (.getfield 10, 3) := by decide +kernel
theorem dX5_stile_48 : decode cX5_stile 48 = .ok (.invokevirtual 58, 3) := by decide +kernel
theorem dX5_stile_51 : decode cX5_stile 51 = .ok (.aload_n 0, 1) := by decide +kernel
theorem dX5_stile_52 : decode cX5_stile 52 = .ok (.getfield 10, 3) := by decide +kernel
theorem dX5_stile_55 : decode cX5_stile 55 = .ok (.iload_n 1, 1) := by decide +kernel
theorem dX5_stile_56 : decode cX5_stile 56 = .ok (.iload_n 2, 1) := by decide +kernel
theorem dX5_stile_57 : decode cX5_stile 57 = .ok (.invokevirtual 62, 3) := by decide +kernel
theorem dX5_stile_60 : decode cX5_stile 60 = .ok (.ireturn, 1) := by decide +kernel
theorem dX5_open_0 : decode cX5_open 0 = .ok (.aload_n 0, 1) := by decide +kernel
theorem dX5_open_1 : decode cX5_open 1 = .ok (.getfield 10, 3) := by decide +kernel
theorem dX5_open_4 : decode cX5_open 4 = .ok (.iload_n 1, 1) := by decide +kernel
theorem dX5_open_5 : decode cX5_open 5 = .ok (.invokevirtual 66, 3) := by decide +kernel
theorem dX5_open_8 : decode cX5_open 8 = .ok (.ifCond .ne 6, 3) := by decide +kernel
theorem dX5_open_11 : decode cX5_open 11 = .ok (.ldc 51, 2) := by decide +kernel
theorem dX5_open_13 : decode cX5_open 13 = .ok (.ireturn, 1) := by decide +kernel
theorem dX5_open_14 : decode cX5_open 14 = .ok (.iload_n 2, 1) := by decide +kernel
theorem dX5_open_15 : decode cX5_open 15 = .ok (.ifCond .lt 8, 3) := by decide +kernel
theorem dX5_open_18 : decode cX5_open 18 = .ok (.iload_n 2, 1) := by decide +kernel
theorem dX5_open_19 : decode cX5_open 19 = .ok (.iconst 3, 1) := by decide +kernel
theorem dX5_open_20 : decode cX5_open 20 = .ok (.if_icmp .le 6, 3) := by decide +kernel
theorem dX5_open_23 : decode cX5_open 23 = .ok (.ldc 52, 2) := by decide +kernel
theorem dX5_open_25 : decode cX5_open 25 = .ok (.ireturn, 1) := by decide +kernel
theorem dX5_open_26 : decode cX5_open 26 = .ok (.aload_n 0, 1) := by decide +kernel
theorem dX5_open_27 : decode cX5_open 27 = .ok (.getfield 25, 3) := by decide +kernel
theorem dX5_open_30 : decode cX5_open 30 = .ok (.aload_n 0, 1) := by decide +kernel
theorem dX5_open_31 : decode cX5_open 31 = .ok (.getfield 10, 3) := by decide +kernel
theorem dX5_open_34 : decode cX5_open 34 = .ok (.invokevirtual 58, 3) := by decide +kernel
theorem dX5_open_37 : decode cX5_open 37 = .ok (.aload_n 0, 1) := by decide +kernel
theorem dX5_open_38 : decode cX5_open 38 = .ok (.getfield 10, 3) := by decide +kernel
theorem dX5_open_41 : decode cX5_open 41 = .ok (.getfield 69, 3) := by decide +kernel
theorem dX5_open_44 : decode cX5_open 44 = .ok (.iload_n 1, 1) := by decide +kernel
theorem dX5_open_45 : decode cX5_open 45 = .ok (.invokestatic 73, 3) := by decide +kernel
theorem dX5_open_48 : decode cX5_open 48 = .ok (.istore_n 3, 1) := by decide +kernel
theorem dX5_open_49 : decode cX5_open 49 = .ok (.aload_n 0, 1) := by decide +kernel
theorem dX5_open_50 : decode cX5_open 50 = .ok (.getfield 10, 3) := by decide +kernel
theorem dX5_open_53 : decode cX5_open 53 = .ok (.getfield 69, 3) := by decide +kernel
theorem dX5_open_56 : decode cX5_open 56 = .ok (.iload_n 1, 1) := by decide +kernel
theorem dX5_open_57 : decode cX5_open 57 = .ok (.iload_n 2, 1) := by decide +kernel
theorem dX5_open_58 : decode cX5_open 58 = .ok (.invokestatic 77, 3) := by decide +kernel
theorem dX5_open_61 : decode cX5_open 61 = .ok (.iload_n 3, 1) := by decide +kernel
theorem dX5_open_62 : decode cX5_open 62 = .ok (.ireturn, 1) := by decide +kernel
theorem dX5_room_0 : decode cX5_room 0 = .ok (.iload_n 1, 1) := by decide +kernel
theorem dX5_room_1 : decode cX5_room 1 = .ok (.invokestatic 81, 3) := by decide +kernel
theorem dX5_room_4 : decode cX5_room 4 = .ok (.ifCond .ne 6, 3) := by decide +kernel
theorem dX5_room_7 : decode cX5_room 7 = .ok (.ldc 51, 2) := by decide +kernel
theorem dX5_room_9 : decode cX5_room 9 = .ok (.ireturn, 1) := by decide +kernel
theorem dX5_room_10 : decode cX5_room 10 = .ok (.iload_n 2, 1) := by decide +kernel
theorem dX5_room_11 : decode cX5_room 11 = .ok (.iconst 1, 1) := by decide +kernel
theorem dX5_room_12 : decode cX5_room 12 = .ok (.if_icmp .lt 10, 3) := by decide +kernel
theorem dX5_room_15 : decode cX5_room 15 = .ok (.iload_n 2, 1) := by decide +kernel
theorem dX5_room_16 : decode cX5_room 16 = .ok (.sipush 500, 3) := by decide +kernel
theorem dX5_room_19 : decode cX5_room 19 = .ok (.if_icmp .le 6, 3) := by decide +kernel
theorem dX5_room_22 : decode cX5_room 22 = .ok (.ldc 52, 2) := by decide +kernel
theorem dX5_room_24 : decode cX5_room 24 = .ok (.ireturn, 1) := by decide +kernel
theorem dX5_room_25 : decode cX5_room 25 = .ok (.aload_n 0, 1) := by decide +kernel
theorem dX5_room_26 : decode cX5_room 26 = .ok (.getfield 10, 3) := by decide +kernel
theorem dX5_room_29 : decode cX5_room 29 = .ok (.getfield 84, 3) := by decide +kernel
theorem dX5_room_32 : decode cX5_room 32 = .ok (.iload_n 1, 1) := by decide +kernel
theorem dX5_room_33 : decode cX5_room 33 = .ok (.invokestatic 73, 3) := by decide +kernel
theorem dX5_room_36 : decode cX5_room 36 = .ok (.iload_n 2, 1) := by decide +kernel
theorem dX5_room_37 : decode cX5_room 37 = .ok (.if_icmp .le 6, 3) := by decide +kernel
theorem dX5_room_40 : decode cX5_room 40 = .ok (.ldc 87, 2) := by decide +kernel
theorem dX5_room_42 : decode cX5_room 42 = .ok (.ireturn, 1) := by decide +kernel
theorem dX5_room_43 : decode cX5_room 43 = .ok (.aload_n 0, 1) := by decide +kernel
theorem dX5_room_44 : decode cX5_room 44 = .ok (.getfield 25, 3) := by decide +kernel
theorem dX5_room_47 : decode cX5_room 47 = .ok (.aload_n 0, 1) := by decide +kernel
theorem dX5_room_48 : decode cX5_room 48 = .ok (.getfield 10, 3) := by decide +kernel
theorem dX5_room_51 : decode cX5_room 51 = .ok (.invokevirtual 58, 3) := by decide +kernel
theorem dX5_room_54 : decode cX5_room 54 = .ok (.aload_n 0, 1) := by decide +kernel
theorem dX5_room_55 : decode cX5_room 55 = .ok (.getfield 10, 3) := by decide +kernel
theorem dX5_room_58 : decode cX5_room 58 = .ok (.getfield 88, 3) := by decide +kernel
theorem dX5_room_61 : decode cX5_room 61 = .ok (.iload_n 1, 1) := by decide +kernel
theorem dX5_room_62 : decode cX5_room 62 = .ok (.invokestatic 73, 3) := by decide +kernel
theorem dX5_room_65 : decode cX5_room 65 = .ok (.istore_n 3, 1) := by decide +kernel
theorem dX5_room_66 : decode cX5_room 66 = .ok (.aload_n 0, 1) := by decide +kernel
theorem dX5_room_67 : decode cX5_room 67 = .ok (.getfield 10, 3) := by decide +kernel
theorem dX5_room_70 : decode cX5_room 70 = .ok (.getfield 88, 3) := by decide +kernel
theorem dX5_room_73 : decode cX5_room 73 = .ok (.iload_n 1, 1) := by decide +kernel
theorem dX5_room_74 : decode cX5_room 74 = .ok (.iload_n 2, 1) := by decide +kernel
theorem dX5_room_75 : decode cX5_room 75 = .ok (.invokestatic 77, 3) := by decide +kernel
theorem dX5_room_78 : decode cX5_room 78 = .ok (.iload_n 3, 1) := by decide +kernel
theorem dX5_room_79 : decode cX5_room 79 = .ok (.ireturn, 1) := by decide +kernel
theorem dX5_slip_0 : decode cX5_slip 0 = .ok (.aload_n 0, 1) := by decide +kernel
theorem dX5_slip_1 : decode cX5_slip 1 = .ok (.getfield 10, 3) := by decide +kernel
theorem dX5_slip_4 : decode cX5_slip 4 = .ok (.iload_n 1, 1) := by decide +kernel
theorem dX5_slip_5 : decode cX5_slip 5 = .ok (.invokevirtual 66, 3) := by decide +kernel
theorem dX5_slip_8 : decode cX5_slip 8 = .ok (.ifCond .ne 6, 3) := by decide +kernel
theorem dX5_slip_11 : decode cX5_slip 11 = .ok (.ldc 51, 2) := by decide +kernel
theorem dX5_slip_13 : decode cX5_slip 13 = .ok (.ireturn, 1) := by decide +kernel
theorem dX5_slip_14 : decode cX5_slip 14 = .ok (.iload_n 2, 1) := by decide +kernel
theorem dX5_slip_15 : decode cX5_slip 15 = .ok (.invokestatic 91, 3) := by decide +kernel
theorem dX5_slip_18 : decode cX5_slip 18 = .ok (.ifCond .eq 10, 3) := by decide +kernel
theorem dX5_slip_21 : decode cX5_slip 21 = .ok (.iload_n 3, 1) := by decide +kernel
theorem dX5_slip_22 : decode cX5_slip 22 = .ok (.invokestatic 94, 3) := by decide +kernel
theorem dX5_slip_25 : decode cX5_slip 25 = .ok (.ifCond .ne 6, 3) := by decide +kernel
theorem dX5_slip_28 : decode cX5_slip 28 = .ok (.ldc 52, 2) := by decide +kernel
theorem dX5_slip_30 : decode cX5_slip 30 = .ok (.ireturn, 1) := by decide +kernel
theorem dX5_slip_31 : decode cX5_slip 31 = .ok (.aload_n 0, 1) := by decide +kernel
theorem dX5_slip_32 : decode cX5_slip 32 = .ok (.getfield 25, 3) := by decide +kernel
theorem dX5_slip_35 : decode cX5_slip 35 = .ok (.aload_n 0, 1) := by decide +kernel
theorem dX5_slip_36 : decode cX5_slip 36 = .ok (.getfield 10, 3) := by decide +kernel
theorem dX5_slip_39 : decode cX5_slip 39 = .ok (.invokevirtual 58, 3) := by decide +kernel
theorem dX5_slip_42 : decode cX5_slip 42 = .ok (.iload_n 1, 1) := by decide +kernel
theorem dX5_slip_43 : decode cX5_slip 43 = .ok (.iload_n 2, 1) := by decide +kernel
theorem dX5_slip_44 : decode cX5_slip 44 = .ok (.invokestatic 97, 3) := by decide +kernel
theorem dX5_slip_47 : decode cX5_slip 47 = .ok (.istore 4, 2) := by decide +kernel
theorem dX5_slip_49 : decode cX5_slip 49 = .ok (.aload_n 0, 1) := by decide +kernel
theorem dX5_slip_50 : decode cX5_slip 50 = .ok (.getfield 10, 3) := by decide +kernel
theorem dX5_slip_53 : decode cX5_slip 53 = .ok (.getfield 100, 3) := by decide +kernel
theorem dX5_slip_56 : decode cX5_slip 56 = .ok (.getfield 104, 3) := by decide +kernel
theorem dX5_slip_59 : decode cX5_slip 59 = .ok (.iload 4, 2) := by decide +kernel
theorem dX5_slip_61 : decode cX5_slip 61 = .ok (.invokestatic 73, 3) := by decide +kernel
theorem dX5_slip_64 : decode cX5_slip 64 = .ok (.istore 5, 2) := by decide +kernel
theorem dX5_slip_66 : decode cX5_slip 66 = .ok (.aload_n 0, 1) := by decide +kernel
theorem dX5_slip_67 : decode cX5_slip 67 = .ok (.getfield 10, 3) := by decide +kernel
theorem dX5_slip_70 : decode cX5_slip 70 = .ok (.getfield 100, 3) := by decide +kernel
theorem dX5_slip_73 : decode cX5_slip 73 = .ok (.iload 4, 2) := by decide +kernel
theorem dX5_slip_75 : decode cX5_slip 75 = .ok (.iload_n 3, 1) := by decide +kernel
theorem dX5_slip_76 : decode cX5_slip 76 = .ok (.invokevirtual 109, 3) := by decide +kernel
theorem dX5_slip_79 : decode cX5_slip 79 = .ok (.iload 5, 2) := by decide +kernel
theorem dX5_slip_81 : decode cX5_slip 81 = .ok (.ireturn, 1) := by decide +kernel
theorem dX5_pass_0 : decode cX5_pass 0 = .ok (.aload_n 0, 1) := by decide +kernel
theorem dX5_pass_1 : decode cX5_pass 1 = .ok (.iload_n 1, 1) := by decide +kernel
theorem dX5_pass_2 : decode cX5_pass 2 = .ok (.iload_n 2, 1) := by decide +kernel
theorem dX5_pass_3 : decode cX5_pass 3 = .ok (.iload_n 3, 1) := by decide +kernel
theorem dX5_pass_4 : decode cX5_pass 4 = .ok (.invokevirtual 113, 3) := by decide +kernel
theorem dX5_pass_7 : decode cX5_pass 7 = .ok (.istore 4, 2) := by decide +kernel
theorem dX5_pass_9 : decode cX5_pass 9 = .ok (.iload 4, 2) := by decide +kernel
theorem dX5_pass_11 : decode cX5_pass 11 = .ok (.ifCond .eq 6, 3) := by decide +kernel
theorem dX5_pass_14 : decode cX5_pass 14 = .ok (.iload 4, 2) := by decide +kernel
theorem dX5_pass_16 : decode cX5_pass 16 = .ok (.ireturn, 1) := by decide +kernel
theorem dX5_pass_17 : decode cX5_pass 17 = .ok (.aload_n 0, 1) := by decide +kernel
theorem dX5_pass_18 : decode cX5_pass 18 = .ok (.getfield 25, 3) := by decide +kernel
theorem dX5_pass_21 : decode cX5_pass 21 = .ok (.aload_n 0, 1) := by decide +kernel
theorem dX5_pass_22 : decode cX5_pass 22 = .ok (.getfield 10, 3) := by decide +kernel
theorem dX5_pass_25 : decode cX5_pass 25 = .ok (.invokevirtual 58, 3) := by decide +kernel
theorem dX5_pass_28 : decode cX5_pass 28 = .ok (.aload_n 0, 1) := by decide +kernel
theorem dX5_pass_29 : decode cX5_pass 29 = .ok (.getfield 10, 3) := by decide +kernel
theorem dX5_pass_32 : decode cX5_pass 32 = .ok (.iload_n 1, 1) := by decide +kernel
theorem dX5_pass_33 : decode cX5_pass 33 = .ok (.iload_n 2, 1) := by decide +kernel
theorem dX5_pass_34 : decode cX5_pass 34 = .ok (.iload_n 3, 1) := by decide +kernel
theorem dX5_pass_35 : decode cX5_pass 35 = .ok (.invokevirtual 117, 3) := by decide +kernel
theorem dX5_pass_38 : decode cX5_pass 38 = .ok (.aload_n 0, 1) := by decide +kernel
theorem dX5_pass_39 : decode cX5_pass 39 = .ok (.getfield 10, 3) := by decide +kernel
theorem dX5_pass_42 : decode cX5_pass 42 = .ok (.getfield 100, 3) := by decide +kernel
theorem dX5_pass_45 : decode cX5_pass 45 = .ok (.iload_n 1, 1) := by decide +kernel
theorem dX5_pass_46 : decode cX5_pass 46 = .ok (.invokevirtual 121, 3) := by decide +kernel
theorem dX5_pass_49 : decode cX5_pass 49 = .ok (.ireturn, 1) := by decide +kernel
theorem dX5_audit_0 : decode cX5_audit 0 = .ok (.aload_n 0, 1) := by decide +kernel
theorem dX5_audit_1 : decode cX5_audit 1 = .ok (.getfield 10, 3) := by decide +kernel
theorem dX5_audit_4 : decode cX5_audit 4 = .ok (.iload_n 1, 1) := by decide +kernel
theorem dX5_audit_5 : decode cX5_audit 5 = .ok (.invokevirtual 66, 3) := by decide +kernel
theorem dX5_audit_8 : decode cX5_audit 8 = .ok (.ifCond .ne 6, 3) := by decide +kernel
theorem dX5_audit_11 : decode cX5_audit 11 = .ok (.ldc 51, 2) := by decide +kernel
theorem dX5_audit_13 : decode cX5_audit 13 = .ok (.ireturn, 1) := by decide +kernel
theorem dX5_audit_14 : decode cX5_audit 14 = .ok (.aload_n 0, 1) := by decide +kernel
theorem dX5_audit_15 : decode cX5_audit 15 = .ok (.getfield 25, 3) := by decide +kernel
theorem dX5_audit_18 : decode cX5_audit 18 = .ok (.aload_n 0, 1) := by decide +kernel
theorem dX5_audit_19 : decode cX5_audit 19 = .ok (.getfield 10, 3) := by decide +kernel
theorem dX5_audit_22 : decode cX5_audit 22 = .ok (.invokevirtual 58, 3) := by decide +kernel
theorem dX5_audit_25 : decode cX5_audit 25 = .ok (.aload_n 0, 1) := by decide +kernel
theorem dX5_audit_26 : decode cX5_audit 26 = .ok (.getfield 10, 3) := by decide +kernel
theorem dX5_audit_29 : decode cX5_audit 29 = .ok (.getfield 100, 3) := by decide +kernel
theorem dX5_audit_32 : decode cX5_audit 32 = .ok (.iload_n 1, 1) := by decide +kernel
theorem dX5_audit_33 : decode cX5_audit 33 = .ok (.invokevirtual 121, 3) := by decide +kernel
theorem dX5_audit_36 : decode cX5_audit 36 = .ok (.istore_n 2, 1) := by decide +kernel
theorem dX5_audit_37 : decode cX5_audit 37 = .ok (.aload_n 0, 1) := by decide +kernel
theorem dX5_audit_38 : decode cX5_audit 38 = .ok (.getfield 10, 3) := by decide +kernel
theorem dX5_audit_41 : decode cX5_audit 41 = .ok (.getfield 100, 3) := by decide +kernel
theorem dX5_audit_44 : decode cX5_audit 44 = .ok (.iload_n 1, 1) := by decide +kernel
theorem dX5_audit_45 : decode cX5_audit 45 = .ok (.invokevirtual 125, 3) := by decide +kernel
theorem dX5_audit_48 : decode cX5_audit 48 = .ok (.iload_n 2, 1) := by decide +kernel
theorem dX5_audit_49 : decode cX5_audit 49 = .ok (.ireturn, 1) := by decide +kernel
theorem dX5_repair_0 : decode cX5_repair 0 = .ok (.aload_n 0, 1) := by decide +kernel
theorem dX5_repair_1 : decode cX5_repair 1 = .ok (.iload_n 1, 1) := by decide +kernel
theorem dX5_repair_2 : decode cX5_repair 2 = .ok (.invokevirtual 129, 3) := by decide +kernel
theorem dX5_repair_5 : decode cX5_repair 5 = .ok (.istore_n 2, 1) := by decide +kernel
theorem dX5_repair_6 : decode cX5_repair 6 = .ok (.iload_n 2, 1) := by decide +kernel
theorem dX5_repair_7 : decode cX5_repair 7 = .ok (.ifCond .eq 5, 3) := by decide +kernel
theorem dX5_repair_10 : decode cX5_repair 10 = .ok (.iload_n 2, 1) := by decide +kernel
theorem dX5_repair_11 : decode cX5_repair 11 = .ok (.ireturn, 1) := by decide +kernel
theorem dX5_repair_12 : decode cX5_repair 12 = .ok (.aload_n 0, 1) := by decide +kernel
theorem dX5_repair_13 : decode cX5_repair 13 = .ok (.getfield 25, 3) := by decide +kernel
theorem dX5_repair_16 : decode cX5_repair 16 = .ok (.aload_n 0, 1) := by decide +kernel
theorem dX5_repair_17 : decode cX5_repair 17 = .ok (.getfield 10, 3) := by decide +kernel
theorem dX5_repair_20 : decode cX5_repair 20 = .ok (.invokevirtual 58, 3) := by decide +kernel
theorem dX5_repair_23 : decode cX5_repair 23 = .ok (.aload_n 0, 1) := by decide +kernel
theorem dX5_repair_24 : decode cX5_repair 24 = .ok (.getfield 10, 3) := by decide +kernel
theorem dX5_repair_27 : decode cX5_repair 27 = .ok (.iload_n 1, 1) := by decide +kernel
theorem dX5_repair_28 : decode cX5_repair 28 = .ok (.invokevirtual 132, 3) := by decide +kernel
theorem dX5_repair_31 : decode cX5_repair 31 = .ok (.aload_n 0, 1) := by decide +kernel
theorem dX5_repair_32 : decode cX5_repair 32 = .ok (.getfield 10, 3) := by decide +kernel
theorem dX5_repair_35 : decode cX5_repair 35 = .ok (.getfield 135, 3) := by decide +kernel
theorem dX5_repair_38 : decode cX5_repair 38 = .ok (.aload_n 0, 1) := by decide +kernel
theorem dX5_repair_39 : decode cX5_repair 39 = .ok (.getfield 10, 3) := by decide +kernel
theorem dX5_repair_42 : decode cX5_repair 42 = .ok (.getfield 138, 3) := by decide +kernel
theorem dX5_repair_45 : decode cX5_repair 45 = .ok (.iload_n 1, 1) := by decide +kernel
theorem dX5_repair_46 : decode cX5_repair 46 = .ok (.invokestatic 73, 3) := by decide +kernel
theorem dX5_repair_49 : decode cX5_repair 49 = .ok (.iadd, 1) := by decide +kernel
theorem dX5_repair_50 : decode cX5_repair 50 = .ok (.ireturn, 1) := by decide +kernel
theorem dX5_hours_0 : decode cX5_hours 0 = .ok (.iload_n 1, 1) := by decide +kernel
theorem dX5_hours_1 : decode cX5_hours 1 = .ok (.invokestatic 141, 3) := by decide +kernel
theorem dX5_hours_4 : decode cX5_hours 4 = .ok (.ifCond .ne 6, 3) := by decide +kernel
theorem dX5_hours_7 : decode cX5_hours 7 = .ok (.ldc 52, 2) := by decide +kernel
theorem dX5_hours_9 : decode cX5_hours 9 = .ok (.ireturn, 1) := by decide +kernel
theorem dX5_hours_10 : decode cX5_hours 10 = .ok (.aload_n 0, 1) := by decide +kernel
theorem dX5_hours_11 : decode cX5_hours 11 = .ok (.getfield 25, 3) := by decide +kernel
theorem dX5_hours_14 : decode cX5_hours 14 = .ok (.aload_n 0, 1) := by decide +kernel
theorem dX5_hours_15 : decode cX5_hours 15 = .ok (.getfield 10, 3) := by decide +kernel
theorem dX5_hours_18 : decode cX5_hours 18 = .ok (.invokevirtual 58, 3) := by decide +kernel
theorem dX5_hours_21 : decode cX5_hours 21 = .ok (.aload_n 0, 1) := by decide +kernel
theorem dX5_hours_22 : decode cX5_hours 22 = .ok (.getfield 10, 3) := by decide +kernel
theorem dX5_hours_25 : decode cX5_hours 25 = .ok (.iload_n 1, 1) := by decide +kernel
theorem dX5_hours_26 : decode cX5_hours 26 = .ok (.invokevirtual 144, 3) := by decide +kernel
theorem dX5_hours_29 : decode cX5_hours 29 = .ok (.ireturn, 1) := by decide +kernel
theorem dX5_close_0 : decode cX5_close 0 = .ok (.iload_n 1, 1) := by decide +kernel
theorem dX5_close_1 : decode cX5_close 1 = .ok (.invokestatic 141, 3) := by decide +kernel
theorem dX5_close_4 : decode cX5_close 4 = .ok (.ifCond .ne 6, 3) := by decide +kernel
theorem dX5_close_7 : decode cX5_close 7 = .ok (.ldc 52, 2) := by decide +kernel
theorem dX5_close_9 : decode cX5_close 9 = .ok (.ireturn, 1) := by decide +kernel
theorem dX5_close_10 : decode cX5_close 10 = .ok (.aload_n 0, 1) := by decide +kernel
theorem dX5_close_11 : decode cX5_close 11 = .ok (.getfield 25, 3) := by decide +kernel
theorem dX5_close_14 : decode cX5_close 14 = .ok (.aload_n 0, 1) := by decide +kernel
theorem dX5_close_15 : decode cX5_close 15 = .ok (.getfield 10, 3) := by decide +kernel
theorem dX5_close_18 : decode cX5_close 18 = .ok (.invokevirtual 58, 3) := by decide +kernel
theorem dX5_close_21 : decode cX5_close 21 = .ok (.iconst 1, 1) := by decide +kernel
theorem dX5_close_22 : decode cX5_close 22 = .ok (.istore_n 2, 1) := by decide +kernel
theorem dX5_close_23 : decode cX5_close 23 = .ok (.iconst 0, 1) := by decide +kernel
theorem dX5_close_24 : decode cX5_close 24 = .ok (.istore_n 3, 1) := by decide +kernel
theorem dX5_close_25 : decode cX5_close 25 = .ok (.iload_n 3, 1) := by decide +kernel
theorem dX5_close_26 : decode cX5_close 26 = .ok (.iload_n 1, 1) := by decide +kernel
theorem dX5_close_27 : decode cX5_close 27 = .ok (.if_icmp .ge 33, 3) := by decide +kernel
theorem dX5_close_30 : decode cX5_close 30 = .ok (.iload_n 2, 1) := by decide +kernel
theorem dX5_close_31 : decode cX5_close 31 = .ok (.ifCond .eq 29, 3) := by decide +kernel
theorem dX5_close_34 : decode cX5_close 34 = .ok (.aload_n 0, 1) := by decide +kernel
theorem dX5_close_35 : decode cX5_close 35 = .ok (.getfield 32, 3) := by decide +kernel
theorem dX5_close_38 : decode cX5_close 38 = .ok (.aload_n 0, 1) := by decide +kernel
theorem dX5_close_39 : decode cX5_close 39 = .ok (.getfield 10, 3) := by decide +kernel
theorem dX5_close_42 : decode cX5_close 42 = .ok (.invokevirtual 147, 3) := by decide +kernel
theorem dX5_close_45 : decode cX5_close 45 = .ok (.ifCond .le 7, 3) := by decide +kernel
theorem dX5_close_48 : decode cX5_close 48 = .ok (.iconst 1, 1) := by decide +kernel
theorem dX5_close_49 : decode cX5_close 49 = .ok (.goto 4, 3) := by decide +kernel
theorem dX5_close_52 : decode cX5_close 52 = .ok (.iconst 0, 1) := by decide +kernel
theorem dX5_close_53 : decode cX5_close 53 = .ok (.istore_n 2, 1) := by decide +kernel
theorem dX5_close_54 : decode cX5_close 54 = .ok (.iinc 3 1, 3) := by decide +kernel
theorem dX5_close_57 : decode cX5_close 57 = .ok (.goto (-32), 3) := by decide +kernel
theorem dX5_close_60 : decode cX5_close 60 = .ok (.aload_n 0, 1) := by decide +kernel
theorem dX5_close_61 : decode cX5_close 61 = .ok (.getfield 10, 3) := by decide +kernel
theorem dX5_close_64 : decode cX5_close 64 = .ok (.invokevirtual 151, 3) := by decide +kernel
theorem dX5_close_67 : decode cX5_close 67 = .ok (.ireturn, 1) := by decide +kernel
theorem dX5_set_0 : decode cX5_set 0 = .ok (.iload_n 1, 1) := by decide +kernel
theorem dX5_set_1 : decode cX5_set 1 = .ok (.ifCond .eq 11, 3) := by decide +kernel
theorem dX5_set_4 : decode cX5_set 4 = .ok (.iload_n 1, 1) := by decide +kernel
theorem dX5_set_5 : decode cX5_set 5 = .ok (.iconst 1, 1) := by decide +kernel
theorem dX5_set_6 : decode cX5_set 6 = .ok (.if_icmp .eq 6, 3) := by decide +kernel
theorem dX5_set_9 : decode cX5_set 9 = .ok (.ldc 51, 2) := by decide +kernel
theorem dX5_set_11 : decode cX5_set 11 = .ok (.ireturn, 1) := by decide +kernel
theorem dX5_set_12 : decode cX5_set 12 = .ok (.iload_n 2, 1) := by decide +kernel
theorem dX5_set_13 : decode cX5_set 13 = .ok (.iconst 1, 1) := by decide +kernel
theorem dX5_set_14 : decode cX5_set 14 = .ok (.if_icmp .lt 18, 3) := by decide +kernel
theorem dX5_set_17 : decode cX5_set 17 = .ok (.iload_n 2, 1) := by decide +kernel
theorem dX5_set_18 : decode cX5_set 18 = .ok (.iload_n 1, 1) := by decide +kernel
theorem dX5_set_19 : decode cX5_set 19 = .ok (.ifCond .ne 8, 3) := by decide +kernel
theorem dX5_set_22 : decode cX5_set 22 = .ok (.bipush 99, 2) := by decide +kernel
theorem dX5_set_24 : decode cX5_set 24 = .ok (.goto 5, 3) := by decide +kernel
theorem dX5_set_27 : decode cX5_set 27 = .ok (.bipush 48, 2) := by decide +kernel
theorem dX5_set_29 : decode cX5_set 29 = .ok (.if_icmp .le 6, 3) := by decide +kernel
theorem dX5_set_32 : decode cX5_set 32 = .ok (.ldc 52, 2) := by decide +kernel
theorem dX5_set_34 : decode cX5_set 34 = .ok (.ireturn, 1) := by decide +kernel
theorem dX5_set_35 : decode cX5_set 35 = .ok (.aload_n 0, 1) := by decide +kernel
theorem dX5_set_36 : decode cX5_set 36 = .ok (.getfield 25, 3) := by decide +kernel
theorem dX5_set_39 : decode cX5_set 39 = .ok (.aload_n 0, 1) := by decide +kernel
theorem dX5_set_40 : decode cX5_set 40 = .ok (.getfield 10, 3) := by decide +kernel
theorem dX5_set_43 : decode cX5_set 43 = .ok (.invokevirtual 58, 3) := by decide +kernel
theorem dX5_set_46 : decode cX5_set 46 = .ok (.iload_n 1, 1) := by decide +kernel
theorem dX5_set_47 : decode cX5_set 47 = .ok (.ifCond .ne 13, 3) := by decide +kernel
theorem dX5_set_50 : decode cX5_set 50 = .ok (.aload_n 0, 1) := by decide +kernel
theorem dX5_set_51 : decode cX5_set 51 = .ok (.getfield 10, 3) := by decide +kernel
theorem dX5_set_54 : decode cX5_set 54 = .ok (.getfield 155, 3) := by decide +kernel
theorem dX5_set_57 : decode cX5_set 57 = .ok (.goto 10, 3) := by decide +kernel
theorem dX5_set_60 : decode cX5_set 60 = .ok (.aload_n 0, 1) := by decide +kernel
theorem dX5_set_61 : decode cX5_set 61 = .ok (.getfield 10, 3) := by decide +kernel
theorem dX5_set_64 : decode cX5_set 64 = .ok (.getfield 158, 3) := by decide +kernel
theorem dX5_set_67 : decode cX5_set 67 = .ok (.istore_n 3, 1) := by decide +kernel
theorem dX5_set_68 : decode cX5_set 68 = .ok (.iload_n 1, 1) := by decide +kernel
theorem dX5_set_69 : decode cX5_set 69 = .ok (.ifCond .ne 14, 3) := by decide +kernel
theorem dX5_set_72 : decode cX5_set 72 = .ok (.aload_n 0, 1) := by decide +kernel
theorem dX5_set_73 : decode cX5_set 73 = .ok (.getfield 10, 3) := by decide +kernel
theorem dX5_set_76 : decode cX5_set 76 = .ok (.iload_n 2, 1) := by decide +kernel
theorem dX5_set_77 : decode cX5_set 77 = .ok (.putfield 155, 3) := by decide +kernel
theorem dX5_set_80 : decode cX5_set 80 = .ok (.goto 11, 3) := by decide +kernel
theorem dX5_set_83 : decode cX5_set 83 = .ok (.aload_n 0, 1) := by decide +kernel
theorem dX5_set_84 : decode cX5_set 84 = .ok (.getfield 10, 3) := by decide +kernel
theorem dX5_set_87 : decode cX5_set 87 = .ok (.iload_n 2, 1) := by decide +kernel
theorem dX5_set_88 : decode cX5_set 88 = .ok (.putfield 158, 3) := by decide +kernel
theorem dX5_set_91 : decode cX5_set 91 = .ok (.iload_n 3, 1) := by decide +kernel
theorem dX5_set_92 : decode cX5_set 92 = .ok (.ireturn, 1) := by decide +kernel
theorem dX5_append_0 : decode cX5_append 0 = .ok (.iload_n 1, 1) := by decide +kernel
theorem dX5_append_1 : decode cX5_append 1 = .ok (.bipush 32, 2) := by decide +kernel
theorem dX5_append_3 : decode cX5_append 3 = .ok (.if_icmp .lt 9, 3) := by decide +kernel
theorem dX5_append_6 : decode cX5_append 6 = .ok (.iload_n 1, 1) := by decide +kernel
theorem dX5_append_7 : decode cX5_append 7 = .ok (.bipush 126, 2) := by decide +kernel
theorem dX5_append_9 : decode cX5_append 9 = .ok (.if_icmp .le 6, 3) := by decide +kernel
theorem dX5_append_12 : decode cX5_append 12 = .ok (.ldc 52, 2) := by decide +kernel
theorem dX5_append_14 : decode cX5_append 14 = .ok (.ireturn, 1) := by decide +kernel
theorem dX5_append_15 : decode cX5_append 15 = .ok (.aload_n 0, 1) := by decide +kernel
theorem dX5_append_16 : decode cX5_append 16 = .ok (.getfield 39, 3) := by decide +kernel
theorem dX5_append_19 : decode cX5_append 19 = .ok (.getfield 161, 3) := by decide +kernel
theorem dX5_append_22 : decode cX5_append 22 = .ok (.bipush 60, 2) := by decide +kernel
theorem dX5_append_24 : decode cX5_append 24 = .ok (.if_icmp .lt 6, 3) := by decide +kernel
theorem dX5_append_27 : decode cX5_append 27 = .ok (.ldc 57, 2) := by decide +kernel
theorem dX5_append_29 : decode cX5_append 29 = .ok (.ireturn, 1) := by decide +kernel
theorem dX5_append_30 : decode cX5_append 30 = .ok (.aload_n 0, 1) := by decide +kernel
theorem dX5_append_31 : decode cX5_append 31 = .ok (.getfield 39, 3) := by decide +kernel
theorem dX5_append_34 : decode cX5_append 34 = .ok (.iload_n 1, 1) := by decide +kernel
theorem dX5_append_35 : decode cX5_append 35 = .ok (.invokevirtual 164, 3) := by decide +kernel
theorem dX5_append_38 : decode cX5_append 38 = .ok (.aload_n 0, 1) := by decide +kernel
theorem dX5_append_39 : decode cX5_append 39 = .ok (.getfield 39, 3) := by decide +kernel
theorem dX5_append_42 : decode cX5_append 42 = .ok (.getfield 161, 3) := by decide +kernel
theorem dX5_append_45 : decode cX5_append 45 = .ok (.ireturn, 1) := by decide +kernel
theorem dX5_clearText_0 : decode cX5_clearText 0 = .ok (.aload_n 0, 1) := by decide +kernel
theorem dX5_clearText_1 : decode cX5_clearText 1 = .ok (.getfield 39, 3) := by decide +kernel
theorem dX5_clearText_4 : decode cX5_clearText 4 = .ok (.getfield 161, 3) := by decide +kernel
theorem dX5_clearText_7 : decode cX5_clearText 7 = .ok (.istore_n 1, 1) := by decide +kernel
theorem dX5_clearText_8 : decode cX5_clearText 8 = .ok (.aload_n 0, 1) := by decide +kernel
theorem dX5_clearText_9 : decode cX5_clearText 9 = .ok (.getfield 39, 3) := by decide +kernel
theorem dX5_clearText_12 : decode cX5_clearText 12 = .ok (.iconst 0, 1) := by decide +kernel
theorem dX5_clearText_13 : decode cX5_clearText 13 = .ok (.putfield 161, 3) := by decide +kernel
theorem dX5_clearText_16 : decode cX5_clearText 16 = .ok (.iload_n 1, 1) := by decide +kernel
theorem dX5_clearText_17 : decode cX5_clearText 17 = .ok (.ireturn, 1) := by decide +kernel
theorem dX5_fault_0 : decode cX5_fault 0 = .ok (.aload_n 0, 1) := by decide +kernel
theorem dX5_fault_1 : decode cX5_fault 1 = .ok (.getfield 39, 3) := by decide +kernel
theorem dX5_fault_4 : decode cX5_fault 4 = .ok (.invokevirtual 167, 3) := by decide +kernel
theorem dX5_fault_7 : decode cX5_fault 7 = .ok (.ireturn, 1) := by decide +kernel
theorem dX5_run_0 : decode cX5_run 0 = .ok (.aload_n 0, 1) := by decide +kernel
theorem dX5_run_1 : decode cX5_run 1 = .ok (.getfield 39, 3) := by decide +kernel
theorem dX5_run_4 : decode cX5_run 4 = .ok (.invokevirtual 167, 3) := by decide +kernel
theorem dX5_run_7 : decode cX5_run 7 = .ok (.istore_n 1, 1) := by decide +kernel
theorem dX5_run_8 : decode cX5_run 8 = .ok (.iload_n 1, 1) := by decide +kernel
theorem dX5_run_9 : decode cX5_run 9 = .ok (.ldc 170, 2) := by decide +kernel
theorem dX5_run_11 : decode cX5_run 11 = .ok (.if_icmp .eq 8, 3) := by decide +kernel
theorem dX5_run_14 : decode cX5_run 14 = .ok (.bipush (-100), 2) := by decide +kernel
theorem dX5_run_16 : decode cX5_run 16 = .ok (.iload_n 1, 1) := by decide +kernel
theorem dX5_run_17 : decode cX5_run 17 = .ok (.isub, 1) := by decide +kernel
theorem dX5_run_18 : decode cX5_run 18 = .ok (.ireturn, 1) := by decide +kernel
theorem dX5_run_19 : decode cX5_run 19 = .ok (.aload_n 0, 1) := by decide +kernel
theorem dX5_run_20 : decode cX5_run 20 = .ok (.getfield 25, 3) := by decide +kernel
theorem dX5_run_23 : decode cX5_run 23 = .ok (.aload_n 0, 1) := by decide +kernel
theorem dX5_run_24 : decode cX5_run 24 = .ok (.getfield 10, 3) := by decide +kernel
theorem dX5_run_27 : decode cX5_run 27 = .ok (.invokevirtual 58, 3) := by decide +kernel
theorem dX5_run_30 : decode cX5_run 30 = .ok (.aload_n 0, 1) := by decide +kernel
theorem dX5_run_31 : decode cX5_run 31 = .ok (.getfield 39, 3) := by decide +kernel
theorem dX5_run_34 : decode cX5_run 34 = .ok (.invokevirtual 171, 3) := by decide +kernel
theorem dX5_run_37 : decode cX5_run 37 = .ok (.iconst 0, 1) := by decide +kernel
theorem dX5_run_38 : decode cX5_run 38 = .ok (.istore_n 2, 1) := by decide +kernel
theorem dX5_run_39 : decode cX5_run 39 = .ok (.iload_n 2, 1) := by decide +kernel
theorem dX5_run_40 : decode cX5_run 40 = .ok (.bipush 60, 2) := by decide +kernel
theorem dX5_run_42 : decode cX5_run 42 = .ok (.if_icmp .ge 26, 3) := by decide +kernel
theorem dX5_run_45 : decode cX5_run 45 = .ok (.aload_n 0, 1) := by decide +kernel
theorem dX5_run_46 : decode cX5_run 46 = .ok (.getfield 39, 3) := by decide +kernel
theorem dX5_run_49 : decode cX5_run 49 = .ok (.invokevirtual 174, 3) := by decide +kernel
theorem dX5_run_52 : decode cX5_run 52 = .ok (.ifCond .eq 16, 3) := by decide +kernel
theorem dX5_run_55 : decode cX5_run 55 = .ok (.aload_n 0, 1) := by decide +kernel
theorem dX5_run_56 : decode cX5_run 56 = .ok (.invokevirtual 178, 3) := by decide +kernel
theorem dX5_run_59 : decode cX5_run 59 = .ok (.ifCond .eq 9, 3) := by decide +kernel
theorem dX5_run_62 : decode cX5_run 62 = .ok (.iinc 2 1, 3) := by decide +kernel
theorem dX5_run_65 : decode cX5_run 65 = .ok (.goto (-26), 3) := by decide +kernel
theorem dX5_run_68 : decode cX5_run 68 = .ok (.iload_n 2, 1) := by decide +kernel
theorem dX5_run_69 : decode cX5_run 69 = .ok (.ireturn, 1) := by decide +kernel
theorem dX5_undo_0 : decode cX5_undo 0 = .ok (.aload_n 0, 1) := by decide +kernel
theorem dX5_undo_1 : decode cX5_undo 1 = .ok (.getfield 25, 3) := by decide +kernel
theorem dX5_undo_4 : decode cX5_undo 4 = .ok (.getfield 181, 3) := by decide +kernel
theorem dX5_undo_7 : decode cX5_undo 7 = .ok (.ifCond .ne 6, 3) := by decide +kernel
theorem dX5_undo_10 : decode cX5_undo 10 = .ok (.ldc 170, 2) := by decide +kernel
theorem dX5_undo_12 : decode cX5_undo 12 = .ok (.ireturn, 1) := by decide +kernel
theorem dX5_undo_13 : decode cX5_undo 13 = .ok (.aload_n 0, 1) := by decide +kernel
theorem dX5_undo_14 : decode cX5_undo 14 = .ok (.getfield 25, 3) := by decide +kernel
theorem dX5_undo_17 : decode cX5_undo 17 = .ok (.aload_n 0, 1) := by decide +kernel
theorem dX5_undo_18 : decode cX5_undo 18 = .ok (.getfield 10, 3) := by decide +kernel
theorem dX5_undo_21 : decode cX5_undo 21 = .ok (.invokevirtual 184, 3) := by decide +kernel
theorem dX5_undo_24 : decode cX5_undo 24 = .ok (.aload_n 0, 1) := by decide +kernel
theorem dX5_undo_25 : decode cX5_undo 25 = .ok (.getfield 25, 3) := by decide +kernel
theorem dX5_undo_28 : decode cX5_undo 28 = .ok (.getfield 181, 3) := by decide +kernel
theorem dX5_undo_31 : decode cX5_undo 31 = .ok (.ireturn, 1) := by decide +kernel
theorem dX5_save_0 : decode cX5_save 0 = .ok (.aload_n 0, 1) := by decide +kernel
theorem dX5_save_1 : decode cX5_save 1 = .ok (.getfield 16, 3) := by decide +kernel
theorem dX5_save_4 : decode cX5_save 4 = .ok (.aload_n 0, 1) := by decide +kernel
theorem dX5_save_5 : decode cX5_save 5 = .ok (.getfield 10, 3) := by decide +kernel
theorem dX5_save_8 : decode cX5_save 8 = .ok (.invokevirtual 187, 3) := by decide +kernel
theorem dX5_save_11 : decode cX5_save 11 = .ok (.aload_n 0, 1) := by decide +kernel
theorem dX5_save_12 : decode cX5_save 12 = .ok (.iconst 1, 1) := by decide +kernel
theorem dX5_save_13 : decode cX5_save 13 = .ok (.putfield 43, 3) := by decide +kernel
theorem dX5_save_16 : decode cX5_save 16 = .ok (.aload_n 0, 1) := by decide +kernel
theorem dX5_save_17 : decode cX5_save 17 = .ok (.getfield 10, 3) := by decide +kernel
theorem dX5_save_20 : decode cX5_save 20 = .ok (.invokevirtual 151, 3) := by decide +kernel
theorem dX5_save_23 : decode cX5_save 23 = .ok (.ireturn, 1) := by decide +kernel
theorem dX5_restore_0 : decode cX5_restore 0 = .ok (.aload_n 0, 1) := by decide +kernel
theorem dX5_restore_1 : decode cX5_restore 1 = .ok (.getfield 43, 3) := by decide +kernel
theorem dX5_restore_4 : decode cX5_restore 4 = .ok (.ifCond .ne 6, 3) := by decide +kernel
theorem dX5_restore_7 : decode cX5_restore 7 = .ok (.ldc 87, 2) := by decide +kernel
theorem dX5_restore_9 : decode cX5_restore 9 = .ok (.ireturn, 1) := by decide +kernel
theorem dX5_restore_10 : decode cX5_restore 10 = .ok (.aload_n 0, 1) := by decide +kernel
theorem dX5_restore_11 : decode cX5_restore 11 = .ok (.getfield 25, 3) := by decide +kernel
theorem dX5_restore_14 : decode cX5_restore 14 = .ok (.aload_n 0, 1) := by decide +kernel
theorem dX5_restore_15 : decode cX5_restore 15 = .ok (.getfield 10, 3) := by decide +kernel
theorem dX5_restore_18 : decode cX5_restore 18 = .ok (.invokevirtual 58, 3) := by decide +kernel
theorem dX5_restore_21 : decode cX5_restore 21 = .ok (.aload_n 0, 1) := by decide +kernel
theorem dX5_restore_22 : decode cX5_restore 22 = .ok (.getfield 10, 3) := by decide +kernel
theorem dX5_restore_25 : decode cX5_restore 25 = .ok (.aload_n 0, 1) := by decide +kernel
theorem dX5_restore_26 : decode cX5_restore 26 = .ok (.getfield 16, 3) := by decide +kernel
theorem dX5_restore_29 : decode cX5_restore 29 = .ok (.invokevirtual 187, 3) := by decide +kernel
theorem dX5_restore_32 : decode cX5_restore 32 = .ok (.aload_n 0, 1) := by decide +kernel
theorem dX5_restore_33 : decode cX5_restore 33 = .ok (.getfield 10, 3) := by decide +kernel
theorem dX5_restore_36 : decode cX5_restore 36 = .ok (.invokevirtual 151, 3) := by decide +kernel
theorem dX5_restore_39 : decode cX5_restore 39 = .ok (.ireturn, 1) := by decide +kernel
theorem dX5_hall_0 : decode cX5_hall 0 = .ok (.iload_n 1, 1) := by decide +kernel
theorem dX5_hall_1 : decode cX5_hall 1 = .ok (.invokestatic 81, 3) := by decide +kernel
theorem dX5_hall_4 : decode cX5_hall 4 = .ok (.ifCond .ne 6, 3) := by decide +kernel
theorem dX5_hall_7 : decode cX5_hall 7 = .ok (.ldc 51, 2) := by decide +kernel
theorem dX5_hall_9 : decode cX5_hall 9 = .ok (.ireturn, 1) := by decide +kernel
theorem dX5_hall_10 : decode cX5_hall 10 = .ok (.iload_n 2, 1) := by decide +kernel
theorem dX5_hall_11 : decode cX5_hall 11 = .ok (.tableswitch 101 0 5 #[37, 49, 61, 70, 79, 92], 37) := by decide +kernel
theorem dX5_hall_48 : decode cX5_hall 48 = .ok (.aload_n 0, 1) := by decide +kernel
theorem dX5_hall_49 : decode cX5_hall 49 = .ok (.getfield 10, 3) := by decide +kernel
theorem dX5_hall_52 : decode cX5_hall 52 = .ok (.getfield 88, 3) := by decide +kernel
theorem dX5_hall_55 : decode cX5_hall 55 = .ok (.iload_n 1, 1) := by decide +kernel
theorem dX5_hall_56 : decode cX5_hall 56 = .ok (.invokestatic 73, 3) := by decide +kernel
theorem dX5_hall_59 : decode cX5_hall 59 = .ok (.ireturn, 1) := by decide +kernel
theorem dX5_hall_60 : decode cX5_hall 60 = .ok (.aload_n 0, 1) := by decide +kernel
theorem dX5_hall_61 : decode cX5_hall 61 = .ok (.getfield 10, 3) := by decide +kernel
theorem dX5_hall_64 : decode cX5_hall 64 = .ok (.getfield 84, 3) := by decide +kernel
theorem dX5_hall_67 : decode cX5_hall 67 = .ok (.iload_n 1, 1) := by decide +kernel
theorem dX5_hall_68 : decode cX5_hall 68 = .ok (.invokestatic 73, 3) := by decide +kernel
theorem dX5_hall_71 : decode cX5_hall 71 = .ok (.ireturn, 1) := by decide +kernel
theorem dX5_hall_72 : decode cX5_hall 72 = .ok (.aload_n 0, 1) := by decide +kernel
theorem dX5_hall_73 : decode cX5_hall 73 = .ok (.getfield 10, 3) := by decide +kernel
theorem dX5_hall_76 : decode cX5_hall 76 = .ok (.iload_n 1, 1) := by decide +kernel
theorem dX5_hall_77 : decode cX5_hall 77 = .ok (.invokevirtual 190, 3) := by decide +kernel
theorem dX5_hall_80 : decode cX5_hall 80 = .ok (.ireturn, 1) := by decide +kernel
theorem dX5_hall_81 : decode cX5_hall 81 = .ok (.aload_n 0, 1) := by decide +kernel
theorem dX5_hall_82 : decode cX5_hall 82 = .ok (.getfield 10, 3) := by decide +kernel
theorem dX5_hall_85 : decode cX5_hall 85 = .ok (.iload_n 1, 1) := by decide +kernel
theorem dX5_hall_86 : decode cX5_hall 86 = .ok (.invokevirtual 193, 3) := by decide +kernel
theorem dX5_hall_89 : decode cX5_hall 89 = .ok (.ireturn, 1) := by decide +kernel
theorem dX5_hall_90 : decode cX5_hall 90 = .ok (.aload_n 0, 1) := by decide +kernel
theorem dX5_hall_91 : decode cX5_hall 91 = .ok (.getfield 32, 3) := by decide +kernel
theorem dX5_hall_94 : decode cX5_hall 94 = .ok (.aload_n 0, 1) := by decide +kernel
theorem dX5_hall_95 : decode cX5_hall 95 = .ok (.getfield 10, 3) := by decide +kernel
theorem dX5_hall_98 : decode cX5_hall 98 = .ok (.iload_n 1, 1) := by decide +kernel
theorem dX5_hall_99 : decode cX5_hall 99 = .ok (.invokevirtual 196, 3) := by decide +kernel
theorem dX5_hall_102 : decode cX5_hall 102 = .ok (.ireturn, 1) := by decide +kernel
theorem dX5_hall_103 : decode cX5_hall 103 = .ok (.aload_n 0, 1) := by decide +kernel
theorem dX5_hall_104 : decode cX5_hall 104 = .ok (.getfield 10, 3) := by decide +kernel
theorem dX5_hall_107 : decode cX5_hall 107 = .ok (.iload_n 1, 1) := by decide +kernel
theorem dX5_hall_108 : decode cX5_hall 108 = .ok (.invokevirtual 200, 3) := by decide +kernel
theorem dX5_hall_111 : decode cX5_hall 111 = .ok (.ireturn, 1) := by decide +kernel
theorem dX5_hall_112 : decode cX5_hall 112 = .ok (.ldc 52, 2) := by decide +kernel
theorem dX5_hall_114 : decode cX5_hall 114 = .ok (.ireturn, 1) := by decide +kernel
theorem dX5_stileOf_0 : decode cX5_stileOf 0 = .ok (.aload_n 0, 1) := by decide +kernel
theorem dX5_stileOf_1 : decode cX5_stileOf 1 = .ok (.getfield 10, 3) := by decide +kernel
theorem dX5_stileOf_4 : decode cX5_stileOf 4 = .ok (.iload_n 1, 1) := by decide +kernel
theorem dX5_stileOf_5 : decode cX5_stileOf 5 = .ok (.invokevirtual 66, 3) := by decide +kernel
theorem dX5_stileOf_8 : decode cX5_stileOf 8 = .ok (.ifCond .ne 6, 3) := by decide +kernel
theorem dX5_stileOf_11 : decode cX5_stileOf 11 = .ok (.ldc 51, 2) := by decide +kernel
theorem dX5_stileOf_13 : decode cX5_stileOf 13 = .ok (.ireturn, 1) := by decide +kernel
theorem dX5_stileOf_14 : decode cX5_stileOf 14 = .ok (.iload_n 2, 1) := by decide +kernel
theorem dX5_stileOf_15 : decode cX5_stileOf 15 = .ok (.tableswitch 93 0 4 #[33, 45, 57, 69, 81], 33) := by decide +kernel
theorem dX5_stileOf_48 : decode cX5_stileOf 48 = .ok (.aload_n 0, 1) := by decide +kernel
theorem dX5_stileOf_49 : decode cX5_stileOf 49 = .ok (.getfield 10, 3) := by decide +kernel
theorem dX5_stileOf_52 : decode cX5_stileOf 52 = .ok (.getfield 203, 3) := by decide +kernel
theorem dX5_stileOf_55 : decode cX5_stileOf 55 = .ok (.iload_n 1, 1) := by decide +kernel
theorem dX5_stileOf_56 : decode cX5_stileOf 56 = .ok (.invokestatic 73, 3) := by decide +kernel
theorem dX5_stileOf_59 : decode cX5_stileOf 59 = .ok (.ireturn, 1) := by decide +kernel
theorem dX5_stileOf_60 : decode cX5_stileOf 60 = .ok (.aload_n 0, 1) := by decide +kernel
theorem dX5_stileOf_61 : decode cX5_stileOf 61 = .ok (.getfield 10, 3) := by decide +kernel
theorem dX5_stileOf_64 : decode cX5_stileOf 64 = .ok (.getfield 206, 3) := by decide +kernel
theorem dX5_stileOf_67 : decode cX5_stileOf 67 = .ok (.iload_n 1, 1) := by decide +kernel
theorem dX5_stileOf_68 : decode cX5_stileOf 68 = .ok (.invokestatic 73, 3) := by decide +kernel
theorem dX5_stileOf_71 : decode cX5_stileOf 71 = .ok (.ireturn, 1) := by decide +kernel
theorem dX5_stileOf_72 : decode cX5_stileOf 72 = .ok (.aload_n 0, 1) := by decide +kernel
theorem dX5_stileOf_73 : decode cX5_stileOf 73 = .ok (.getfield 10, 3) := by decide +kernel
theorem dX5_stileOf_76 : decode cX5_stileOf 76 = .ok (.getfield 69, 3) := by decide +kernel
theorem dX5_stileOf_79 : decode cX5_stileOf 79 = .ok (.iload_n 1, 1) := by decide +kernel
theorem dX5_stileOf_80 : decode cX5_stileOf 80 = .ok (.invokestatic 73, 3) := by decide +kernel
theorem dX5_stileOf_83 : decode cX5_stileOf 83 = .ok (.ireturn, 1) := by decide +kernel
theorem dX5_stileOf_84 : decode cX5_stileOf 84 = .ok (.aload_n 0, 1) := by decide +kernel
theorem dX5_stileOf_85 : decode cX5_stileOf 85 = .ok (.getfield 10, 3) := by decide +kernel
theorem dX5_stileOf_88 : decode cX5_stileOf 88 = .ok (.getfield 138, 3) := by decide +kernel
theorem dX5_stileOf_91 : decode cX5_stileOf 91 = .ok (.iload_n 1, 1) := by decide +kernel
theorem dX5_stileOf_92 : decode cX5_stileOf 92 = .ok (.invokestatic 73, 3) := by decide +kernel
theorem dX5_stileOf_95 : decode cX5_stileOf 95 = .ok (.ireturn, 1) := by decide +kernel
theorem dX5_stileOf_96 : decode cX5_stileOf 96 = .ok (.aload_n 0, 1) := by decide +kernel
theorem dX5_stileOf_97 : decode cX5_stileOf 97 = .ok (.getfield 10, 3) := by decide +kernel
theorem dX5_stileOf_100 : decode cX5_stileOf 100 = .ok (.getfield 100, 3) := by decide +kernel
theorem dX5_stileOf_103 : decode cX5_stileOf 103 = .ok (.iload_n 1, 1) := by decide +kernel
theorem dX5_stileOf_104 : decode cX5_stileOf 104 = .ok (.invokevirtual 121, 3) := by decide +kernel
theorem dX5_stileOf_107 : decode cX5_stileOf 107 = .ok (.ireturn, 1) := by decide +kernel
theorem dX5_stileOf_108 : decode cX5_stileOf 108 = .ok (.ldc 52, 2) := by decide +kernel
theorem dX5_stileOf_110 : decode cX5_stileOf 110 = .ok (.ireturn, 1) := by decide +kernel
theorem dX5_counter_0 : decode cX5_counter 0 = .ok (.aload_n 0, 1) := by decide +kernel
theorem dX5_counter_1 : decode cX5_counter 1 = .ok (.getfield 10, 3) := by decide +kernel
theorem dX5_counter_4 : decode cX5_counter 4 = .ok (.iload_n 1, 1) := by decide +kernel
theorem dX5_counter_5 : decode cX5_counter 5 = .ok (.invokevirtual 66, 3) := by decide +kernel
theorem dX5_counter_8 : decode cX5_counter 8 = .ok (.ifCond .ne 6, 3) := by decide +kernel
theorem dX5_counter_11 : decode cX5_counter 11 = .ok (.ldc 51, 2) := by decide +kernel
theorem dX5_counter_13 : decode cX5_counter 13 = .ok (.ireturn, 1) := by decide +kernel
theorem dX5_counter_14 : decode cX5_counter 14 = .ok (.iload_n 2, 1) := by decide +kernel
theorem dX5_counter_15 : decode cX5_counter 15 = .ok (.invokestatic 91, 3) := by decide +kernel
theorem dX5_counter_18 : decode cX5_counter 18 = .ok (.ifCond .ne 6, 3) := by decide +kernel
theorem dX5_counter_21 : decode cX5_counter 21 = .ok (.ldc 52, 2) := by decide +kernel
theorem dX5_counter_23 : decode cX5_counter 23 = .ok (.ireturn, 1) := by decide +kernel
theorem dX5_counter_24 : decode cX5_counter 24 = .ok (.iload_n 1, 1) := by decide +kernel
theorem dX5_counter_25 : decode cX5_counter 25 = .ok (.iload_n 2, 1) := by decide +kernel
theorem dX5_counter_26 : decode cX5_counter 26 = .ok (.invokestatic 97, 3) := by decide +kernel
theorem dX5_counter_29 : decode cX5_counter 29 = .ok (.istore 4, 2) := by decide +kernel
theorem dX5_counter_31 : decode cX5_counter 31 = .ok (.iload_n 3, 1) := by decide +kernel
theorem dX5_counter_32 : decode cX5_counter 32 = .ok (.tableswitch 76 0 2 #[28, 44, 60], 28) := by decide +kernel
theorem dX5_counter_60 : decode cX5_counter 60 = .ok (.aload_n 0, 1) := by decide +kernel
theorem dX5_counter_61 : decode cX5_counter 61 = .ok (.getfield 10, 3) := by decide +kernel
theorem dX5_counter_64 : decode cX5_counter 64 = .ok (.getfield 100, 3) := by decide +kernel
theorem dX5_counter_67 : decode cX5_counter 67 = .ok (.getfield 209, 3) := by decide +kernel
theorem dX5_counter_70 : decode cX5_counter 70 = .ok (.iload 4, 2) := by decide +kernel
theorem dX5_counter_72 : decode cX5_counter 72 = .ok (.invokestatic 73, 3) := by decide +kernel
theorem dX5_counter_75 : decode cX5_counter 75 = .ok (.ireturn, 1) := by decide +kernel
theorem dX5_counter_76 : decode cX5_counter 76 = .ok (.aload_n 0, 1) := by decide +kernel
theorem dX5_counter_77 : decode cX5_counter 77 = .ok (.getfield 10, 3) := by decide +kernel
theorem dX5_counter_80 : decode cX5_counter 80 = .ok (.getfield 100, 3) := by decide +kernel
theorem dX5_counter_83 : decode cX5_counter 83 = .ok (.getfield 104, 3) := by decide +kernel
theorem dX5_counter_86 : decode cX5_counter 86 = .ok (.iload 4, 2) := by decide +kernel
theorem dX5_counter_88 : decode cX5_counter 88 = .ok (.invokestatic 73, 3) := by decide +kernel
theorem dX5_counter_91 : decode cX5_counter 91 = .ok (.ireturn, 1) := by decide +kernel
theorem dX5_counter_92 : decode cX5_counter 92 = .ok (.aload_n 0, 1) := by decide +kernel
theorem dX5_counter_93 : decode cX5_counter 93 = .ok (.getfield 10, 3) := by decide +kernel
theorem dX5_counter_96 : decode cX5_counter 96 = .ok (.getfield 100, 3) := by decide +kernel
theorem dX5_counter_99 : decode cX5_counter 99 = .ok (.getfield 212, 3) := by decide +kernel
theorem dX5_counter_102 : decode cX5_counter 102 = .ok (.iload 4, 2) := by decide +kernel
theorem dX5_counter_104 : decode cX5_counter 104 = .ok (.invokestatic 73, 3) := by decide +kernel
theorem dX5_counter_107 : decode cX5_counter 107 = .ok (.ireturn, 1) := by decide +kernel
theorem dX5_counter_108 : decode cX5_counter 108 = .ok (.ldc 52, 2) := by decide +kernel
theorem dX5_counter_110 : decode cX5_counter 110 = .ok (.ireturn, 1) := by decide +kernel
theorem dX5_reason_0 : decode cX5_reason 0 = .ok (.aload_n 0, 1) := by decide +kernel
theorem dX5_reason_1 : decode cX5_reason 1 = .ok (.getfield 10, 3) := by decide +kernel
theorem dX5_reason_4 : decode cX5_reason 4 = .ok (.iload_n 1, 1) := by decide +kernel
theorem dX5_reason_5 : decode cX5_reason 5 = .ok (.invokevirtual 66, 3) := by decide +kernel
theorem dX5_reason_8 : decode cX5_reason 8 = .ok (.ifCond .ne 6, 3) := by decide +kernel
theorem dX5_reason_11 : decode cX5_reason 11 = .ok (.ldc 51, 2) := by decide +kernel
theorem dX5_reason_13 : decode cX5_reason 13 = .ok (.ireturn, 1) := by decide +kernel
theorem dX5_reason_14 : decode cX5_reason 14 = .ok (.iload_n 3, 1) := by decide +kernel
theorem dX5_reason_15 : decode cX5_reason 15 = .ok (.invokestatic 215, 3) := by decide +kernel
theorem dX5_reason_18 : decode cX5_reason 18 = .ok (.ifCond .ne 6, 3) := by decide +kernel
theorem dX5_reason_21 : decode cX5_reason 21 = .ok (.ldc 52, 2) := by decide +kernel
theorem dX5_reason_23 : decode cX5_reason 23 = .ok (.ireturn, 1) := by decide +kernel
theorem dX5_reason_24 : decode cX5_reason 24 = .ok (.aload_n 0, 1) := by decide +kernel
theorem dX5_reason_25 : decode cX5_reason 25 = .ok (.getfield 10, 3) := by decide +kernel
theorem dX5_reason_28 : decode cX5_reason 28 = .ok (.iload_n 1, 1) := by decide +kernel
theorem dX5_reason_29 : decode cX5_reason 29 = .ok (.iload_n 2, 1) := by decide +kernel
theorem dX5_reason_30 : decode cX5_reason 30 = .ok (.iload_n 3, 1) := by decide +kernel
theorem dX5_reason_31 : decode cX5_reason 31 = .ok (.invokevirtual 218, 3) := by decide +kernel
theorem dX5_reason_34 : decode cX5_reason 34 = .ok (.ireturn, 1) := by decide +kernel
theorem dX5_worst_0 : decode cX5_worst 0 = .ok (.iload_n 1, 1) := by decide +kernel
theorem dX5_worst_1 : decode cX5_worst 1 = .ok (.ifCond .ge 6, 3) := by decide +kernel
theorem dX5_worst_4 : decode cX5_worst 4 = .ok (.ldc 52, 2) := by decide +kernel
theorem dX5_worst_6 : decode cX5_worst 6 = .ok (.ireturn, 1) := by decide +kernel
theorem dX5_worst_7 : decode cX5_worst 7 = .ok (.iconst 0, 1) := by decide +kernel
theorem dX5_worst_8 : decode cX5_worst 8 = .ok (.istore_n 2, 1) := by decide +kernel
theorem dX5_worst_9 : decode cX5_worst 9 = .ok (.iload_n 2, 1) := by decide +kernel
theorem dX5_worst_10 : decode cX5_worst 10 = .ok (.aload_n 0, 1) := by decide +kernel
theorem dX5_worst_11 : decode cX5_worst 11 = .ok (.getfield 10, 3) := by decide +kernel
theorem dX5_worst_14 : decode cX5_worst 14 = .ok (.getfield 53, 3) := by decide +kernel
theorem dX5_worst_17 : decode cX5_worst 17 = .ok (.if_icmp .ge 37, 3) := by decide +kernel
theorem dX5_worst_20 : decode cX5_worst 20 = .ok (.aload_n 0, 1) := by decide +kernel
theorem dX5_worst_21 : decode cX5_worst 21 = .ok (.getfield 10, 3) := by decide +kernel
theorem dX5_worst_24 : decode cX5_worst 24 = .ok (.getfield 100, 3) := by decide +kernel
theorem dX5_worst_27 : decode cX5_worst 27 = .ok (.iload_n 2, 1) := by decide +kernel
theorem dX5_worst_28 : decode cX5_worst 28 = .ok (.invokevirtual 121, 3) := by decide +kernel
theorem dX5_worst_31 : decode cX5_worst 31 = .ok (.ifCond .le 17, 3) := by decide +kernel
theorem dX5_worst_34 : decode cX5_worst 34 = .ok (.aload_n 0, 1) := by decide +kernel
theorem dX5_worst_35 : decode cX5_worst 35 = .ok (.getfield 10, 3) := by decide +kernel
theorem dX5_worst_38 : decode cX5_worst 38 = .ok (.iload_n 2, 1) := by decide +kernel
theorem dX5_worst_39 : decode cX5_worst 39 = .ok (.invokevirtual 221, 3) := by decide +kernel
theorem dX5_worst_42 : decode cX5_worst 42 = .ok (.iload_n 1, 1) := by decide +kernel
theorem dX5_worst_43 : decode cX5_worst 43 = .ok (.if_icmp .ne 5, 3) := by decide +kernel
theorem dX5_worst_46 : decode cX5_worst 46 = .ok (.iload_n 2, 1) := by decide +kernel
theorem dX5_worst_47 : decode cX5_worst 47 = .ok (.ireturn, 1) := by decide +kernel
theorem dX5_worst_48 : decode cX5_worst 48 = .ok (.iinc 2 1, 3) := by decide +kernel
theorem dX5_worst_51 : decode cX5_worst 51 = .ok (.goto (-42), 3) := by decide +kernel
theorem dX5_worst_54 : decode cX5_worst 54 = .ok (.ldc 170, 2) := by decide +kernel
theorem dX5_worst_56 : decode cX5_worst 56 = .ok (.ireturn, 1) := by decide +kernel
theorem dX5_count_0 : decode cX5_count 0 = .ok (.iload_n 1, 1) := by decide +kernel
theorem dX5_count_1 : decode cX5_count 1 = .ok (.tableswitch 174 0 12 #[67, 75, 83, 91, 99, 107, 115, 123, 134, 142, 150, 158, 166], 67) := by decide +kernel
theorem dX5_count_68 : decode cX5_count 68 = .ok (.aload_n 0, 1) := by decide +kernel
theorem dX5_count_69 : decode cX5_count 69 = .ok (.getfield 10, 3) := by decide +kernel
theorem dX5_count_72 : decode cX5_count 72 = .ok (.getfield 135, 3) := by decide +kernel
theorem dX5_count_75 : decode cX5_count 75 = .ok (.ireturn, 1) := by decide +kernel
theorem dX5_count_76 : decode cX5_count 76 = .ok (.aload_n 0, 1) := by decide +kernel
theorem dX5_count_77 : decode cX5_count 77 = .ok (.getfield 10, 3) := by decide +kernel
theorem dX5_count_80 : decode cX5_count 80 = .ok (.getfield 53, 3) := by decide +kernel
theorem dX5_count_83 : decode cX5_count 83 = .ok (.ireturn, 1) := by decide +kernel
theorem dX5_count_84 : decode cX5_count 84 = .ok (.aload_n 0, 1) := by decide +kernel
theorem dX5_count_85 : decode cX5_count 85 = .ok (.getfield 10, 3) := by decide +kernel
theorem dX5_count_88 : decode cX5_count 88 = .ok (.invokevirtual 224, 3) := by decide +kernel
theorem dX5_count_91 : decode cX5_count 91 = .ok (.ireturn, 1) := by decide +kernel
theorem dX5_count_92 : decode cX5_count 92 = .ok (.aload_n 0, 1) := by decide +kernel
theorem dX5_count_93 : decode cX5_count 93 = .ok (.getfield 10, 3) := by decide +kernel
theorem dX5_count_96 : decode cX5_count 96 = .ok (.invokevirtual 151, 3) := by decide +kernel
theorem dX5_count_99 : decode cX5_count 99 = .ok (.ireturn, 1) := by decide +kernel
theorem dX5_count_100 : decode cX5_count 100 = .ok (.aload_n 0, 1) := by decide +kernel
theorem dX5_count_101 : decode cX5_count 101 = .ok (.getfield 10, 3) := by decide +kernel
theorem dX5_count_104 : decode cX5_count 104 = .ok (.invokevirtual 227, 3) := by decide +kernel
theorem dX5_count_107 : decode cX5_count 107 = .ok (.ireturn, 1) := by decide +kernel
theorem dX5_count_108 : decode cX5_count 108 = .ok (.aload_n 0, 1) := by decide +kernel
theorem dX5_count_109 : decode cX5_count 109 = .ok (.getfield 10, 3) := by decide +kernel
theorem dX5_count_112 : decode cX5_count 112 = .ok (.invokevirtual 230, 3) := by decide +kernel
theorem dX5_count_115 : decode cX5_count 115 = .ok (.ireturn, 1) := by decide +kernel
theorem dX5_count_116 : decode cX5_count 116 = .ok (.aload_n 0, 1) := by decide +kernel
theorem dX5_count_117 : decode cX5_count 117 = .ok (.getfield 10, 3) := by decide +kernel
theorem dX5_count_120 : decode cX5_count 120 = .ok (.invokevirtual 233, 3) := by decide +kernel
theorem dX5_count_123 : decode cX5_count 123 = .ok (.ireturn, 1) := by decide +kernel
theorem dX5_count_124 : decode cX5_count 124 = .ok (.aload_n 0, 1) := by decide +kernel
theorem dX5_count_125 : decode cX5_count 125 = .ok (.getfield 10, 3) := by decide +kernel
theorem dX5_count_128 : decode cX5_count 128 = .ok (.getfield 100, 3) := by decide +kernel
theorem dX5_count_131 : decode cX5_count 131 = .ok (.invokevirtual 236, 3) := by decide +kernel
theorem dX5_count_134 : decode cX5_count 134 = .ok (.ireturn, 1) := by decide +kernel
theorem dX5_count_135 : decode cX5_count 135 = .ok (.aload_n 0, 1) := by decide +kernel
theorem dX5_count_136 : decode cX5_count 136 = .ok (.getfield 10, 3) := by decide +kernel
theorem dX5_count_139 : decode cX5_count 139 = .ok (.invokevirtual 239, 3) := by decide +kernel
theorem dX5_count_142 : decode cX5_count 142 = .ok (.ireturn, 1) := by decide +kernel
theorem dX5_count_143 : decode cX5_count 143 = .ok (.aload_n 0, 1) := by decide +kernel
theorem dX5_count_144 : decode cX5_count 144 = .ok (.getfield 10, 3) := by decide +kernel
theorem dX5_count_147 : decode cX5_count 147 = .ok (.getfield 155, 3) := by decide +kernel
theorem dX5_count_150 : decode cX5_count 150 = .ok (.ireturn, 1) := by decide +kernel
theorem dX5_count_151 : decode cX5_count 151 = .ok (.aload_n 0, 1) := by decide +kernel
theorem dX5_count_152 : decode cX5_count 152 = .ok (.getfield 10, 3) := by decide +kernel
theorem dX5_count_155 : decode cX5_count 155 = .ok (.getfield 158, 3) := by decide +kernel
theorem dX5_count_158 : decode cX5_count 158 = .ok (.ireturn, 1) := by decide +kernel
theorem dX5_count_159 : decode cX5_count 159 = .ok (.aload_n 0, 1) := by decide +kernel
theorem dX5_count_160 : decode cX5_count 160 = .ok (.getfield 25, 3) := by decide +kernel
theorem dX5_count_163 : decode cX5_count 163 = .ok (.getfield 181, 3) := by decide +kernel
theorem dX5_count_166 : decode cX5_count 166 = .ok (.ireturn, 1) := by decide +kernel
theorem dX5_count_167 : decode cX5_count 167 = .ok (.aload_n 0, 1) := by decide +kernel
theorem dX5_count_168 : decode cX5_count 168 = .ok (.getfield 39, 3) := by decide +kernel
theorem dX5_count_171 : decode cX5_count 171 = .ok (.getfield 161, 3) := by decide +kernel
theorem dX5_count_174 : decode cX5_count 174 = .ok (.ireturn, 1) := by decide +kernel
theorem dX5_count_175 : decode cX5_count 175 = .ok (.ldc 52, 2) := by decide +kernel
theorem dX5_count_177 : decode cX5_count 177 = .ok (.ireturn, 1) := by decide +kernel
theorem dX5_most_0 : decode cX5_most 0 = .ok (.aload_n 0, 1) := by decide +kernel
theorem dX5_most_1 : decode cX5_most 1 = .ok (.getfield 10, 3) := by decide +kernel
theorem dX5_most_4 : decode cX5_most 4 = .ok (.iload_n 1, 1) := by decide +kernel
theorem dX5_most_5 : decode cX5_most 5 = .ok (.invokevirtual 66, 3) := by decide +kernel
theorem dX5_most_8 : decode cX5_most 8 = .ok (.ifCond .ne 6, 3) := by decide +kernel
theorem dX5_most_11 : decode cX5_most 11 = .ok (.ldc 51, 2) := by decide +kernel
theorem dX5_most_13 : decode cX5_most 13 = .ok (.ireturn, 1) := by decide +kernel
theorem dX5_most_14 : decode cX5_most 14 = .ok (.aload_n 0, 1) := by decide +kernel
theorem dX5_most_15 : decode cX5_most 15 = .ok (.getfield 10, 3) := by decide +kernel
theorem dX5_most_18 : decode cX5_most 18 = .ok (.iload_n 1, 1) := by decide +kernel
theorem dX5_most_19 : decode cX5_most 19 = .ok (.iload_n 2, 1) := by decide +kernel
theorem dX5_most_20 : decode cX5_most 20 = .ok (.invokevirtual 242, 3) := by decide +kernel
theorem dX5_most_23 : decode cX5_most 23 = .ok (.ireturn, 1) := by decide +kernel
theorem dX5_emptyIn_0 : decode cX5_emptyIn 0 = .ok (.aload_n 0, 1) := by decide +kernel
theorem dX5_emptyIn_1 : decode cX5_emptyIn 1 = .ok (.getfield 19, 3) := by decide +kernel
theorem dX5_emptyIn_4 : decode cX5_emptyIn 4 = .ok (.aload_n 0, 1) := by decide +kernel
theorem dX5_emptyIn_5 : decode cX5_emptyIn 5 = .ok (.getfield 10, 3) := by decide +kernel
theorem dX5_emptyIn_8 : decode cX5_emptyIn 8 = .ok (.invokevirtual 187, 3) := by decide +kernel
theorem dX5_emptyIn_11 : decode cX5_emptyIn 11 = .ok (.iconst 0, 1) := by decide +kernel
theorem dX5_emptyIn_12 : decode cX5_emptyIn 12 = .ok (.istore_n 1, 1) := by decide +kernel
theorem dX5_emptyIn_13 : decode cX5_emptyIn 13 = .ok (.iload_n 1, 1) := by decide +kernel
theorem dX5_emptyIn_14 : decode cX5_emptyIn 14 = .ok (.sipush 300, 3) := by decide +kernel
theorem dX5_emptyIn_17 : decode cX5_emptyIn 17 = .ok (.if_icmp .ge 58, 3) := by decide +kernel
theorem dX5_emptyIn_20 : decode cX5_emptyIn 20 = .ok (.aload_n 0, 1) := by decide +kernel
theorem dX5_emptyIn_21 : decode cX5_emptyIn 21 = .ok (.getfield 19, 3) := by decide +kernel
theorem dX5_emptyIn_24 : decode cX5_emptyIn 24 = .ok (.invokevirtual 151, 3) := by decide +kernel
theorem dX5_emptyIn_27 : decode cX5_emptyIn 27 = .ok (.ifCond .ne 5, 3) := by decide +kernel
theorem dX5_emptyIn_30 : decode cX5_emptyIn 30 = .ok (.iload_n 1, 1) := by decide +kernel
theorem dX5_emptyIn_31 : decode cX5_emptyIn 31 = .ok (.ireturn, 1) := by decide +kernel
theorem dX5_emptyIn_32 : decode cX5_emptyIn 32 = .ok (.aload_n 0, 1) := by decide +kernel
theorem dX5_emptyIn_33 : decode cX5_emptyIn 33 = .ok (.getfield 19, 3) := by decide +kernel
theorem dX5_emptyIn_36 : decode cX5_emptyIn 36 = .ok (.invokevirtual 224, 3) := by decide +kernel
theorem dX5_emptyIn_39 : decode cX5_emptyIn 39 = .ok (.ifCond .le 7, 3) := by decide +kernel
theorem dX5_emptyIn_42 : decode cX5_emptyIn 42 = .ok (.iconst 1, 1) := by decide +kernel
theorem dX5_emptyIn_43 : decode cX5_emptyIn 43 = .ok (.goto 4, 3) := by decide +kernel
theorem dX5_emptyIn_46 : decode cX5_emptyIn 46 = .ok (.iconst 0, 1) := by decide +kernel
theorem dX5_emptyIn_47 : decode cX5_emptyIn 47 = .ok (.istore_n 2, 1) := by decide +kernel
theorem dX5_emptyIn_48 : decode cX5_emptyIn 48 = .ok (.aload_n 0, 1) := by decide +kernel
theorem dX5_emptyIn_49 : decode cX5_emptyIn 49 = .ok (.getfield 32, 3) := by decide +kernel
theorem dX5_emptyIn_52 : decode cX5_emptyIn 52 = .ok (.aload_n 0, 1) := by decide +kernel
theorem dX5_emptyIn_53 : decode cX5_emptyIn 53 = .ok (.getfield 19, 3) := by decide +kernel
theorem dX5_emptyIn_56 : decode cX5_emptyIn 56 = .ok (.invokevirtual 147, 3) := by decide +kernel
theorem dX5_emptyIn_59 : decode cX5_emptyIn 59 = .ok (.ifCond .ne 10, 3) := by decide +kernel
theorem dX5_emptyIn_62 : decode cX5_emptyIn 62 = .ok (.iload_n 2, 1) := by decide +kernel
theorem dX5_emptyIn_63 : decode cX5_emptyIn 63 = .ok (.ifCond .ne 6, 3) := by decide +kernel
theorem dX5_emptyIn_66 : decode cX5_emptyIn 66 = .ok (.ldc 170, 2) := by decide +kernel
theorem dX5_emptyIn_68 : decode cX5_emptyIn 68 = .ok (.ireturn, 1) := by decide +kernel
theorem dX5_emptyIn_69 : decode cX5_emptyIn 69 = .ok (.iinc 1 1, 3) := by decide +kernel
theorem dX5_emptyIn_72 : decode cX5_emptyIn 72 = .ok (.goto (-59), 3) := by decide +kernel
theorem dX5_emptyIn_75 : decode cX5_emptyIn 75 = .ok (.aload_n 0, 1) := by decide +kernel
theorem dX5_emptyIn_76 : decode cX5_emptyIn 76 = .ok (.getfield 19, 3) := by decide +kernel
theorem dX5_emptyIn_79 : decode cX5_emptyIn 79 = .ok (.invokevirtual 151, 3) := by decide +kernel
theorem dX5_emptyIn_82 : decode cX5_emptyIn 82 = .ok (.ifCond .ne 9, 3) := by decide +kernel
theorem dX5_emptyIn_85 : decode cX5_emptyIn 85 = .ok (.sipush 300, 3) := by decide +kernel
theorem dX5_emptyIn_88 : decode cX5_emptyIn 88 = .ok (.goto 5, 3) := by decide +kernel
theorem dX5_emptyIn_91 : decode cX5_emptyIn 91 = .ok (.ldc 170, 2) := by decide +kernel
theorem dX5_emptyIn_93 : decode cX5_emptyIn 93 = .ok (.ireturn, 1) := by decide +kernel
theorem dX5_leftWithout_0 : decode cX5_leftWithout 0 = .ok (.aload_n 0, 1) := by decide +kernel
theorem dX5_leftWithout_1 : decode cX5_leftWithout 1 = .ok (.getfield 10, 3) := by decide +kernel
theorem dX5_leftWithout_4 : decode cX5_leftWithout 4 = .ok (.iload_n 1, 1) := by decide +kernel
theorem dX5_leftWithout_5 : decode cX5_leftWithout 5 = .ok (.invokevirtual 66, 3) := by decide +kernel
theorem dX5_leftWithout_8 : decode cX5_leftWithout 8 = .ok (.ifCond .ne 6, 3) := by decide +kernel
theorem dX5_leftWithout_11 : decode cX5_leftWithout 11 = .ok (.ldc 51, 2) := by decide +kernel
theorem dX5_leftWithout_13 : decode cX5_leftWithout 13 = .ok (.ireturn, 1) := by decide +kernel
theorem dX5_leftWithout_14 : decode cX5_leftWithout 14 = .ok (.iload_n 2, 1) := by decide +kernel
theorem dX5_leftWithout_15 : decode cX5_leftWithout 15 = .ok (.invokestatic 141, 3) := by decide +kernel
theorem dX5_leftWithout_18 : decode cX5_leftWithout 18 = .ok (.ifCond .ne 6, 3) := by decide +kernel
theorem dX5_leftWithout_21 : decode cX5_leftWithout 21 = .ok (.ldc 52, 2) := by decide +kernel
theorem dX5_leftWithout_23 : decode cX5_leftWithout 23 = .ok (.ireturn, 1) := by decide +kernel
theorem dX5_leftWithout_24 : decode cX5_leftWithout 24 = .ok (.aload_n 0, 1) := by decide +kernel
theorem dX5_leftWithout_25 : decode cX5_leftWithout 25 = .ok (.getfield 19, 3) := by decide +kernel
theorem dX5_leftWithout_28 : decode cX5_leftWithout 28 = .ok (.aload_n 0, 1) := by decide +kernel
theorem dX5_leftWithout_29 : decode cX5_leftWithout 29 = .ok (.getfield 10, 3) := by decide +kernel
theorem dX5_leftWithout_32 : decode cX5_leftWithout 32 = .ok (.invokevirtual 187, 3) := by decide +kernel
theorem dX5_leftWithout_35 : decode cX5_leftWithout 35 = .ok (.aload_n 0, 1) := by decide +kernel
theorem dX5_leftWithout_36 : decode cX5_leftWithout 36 = .ok (.getfield 19, 3) := by decide +kernel
theorem dX5_leftWithout_39 : decode cX5_leftWithout 39 = .ok (.getfield 69, 3) := by decide +kernel
theorem dX5_leftWithout_42 : decode cX5_leftWithout 42 = .ok (.iload_n 1, 1) := by decide +kernel
theorem dX5_leftWithout_43 : decode cX5_leftWithout 43 = .ok (.iconst 3, 1) := by decide +kernel
theorem dX5_leftWithout_44 : decode cX5_leftWithout 44 = .ok (.invokestatic 77, 3) := by decide +kernel
theorem dX5_leftWithout_47 : decode cX5_leftWithout 47 = .ok (.iconst 0, 1) := by decide +kernel
theorem dX5_leftWithout_48 : decode cX5_leftWithout 48 = .ok (.istore_n 3, 1) := by decide +kernel
theorem dX5_leftWithout_49 : decode cX5_leftWithout 49 = .ok (.iload_n 3, 1) := by decide +kernel
theorem dX5_leftWithout_50 : decode cX5_leftWithout 50 = .ok (.iload_n 2, 1) := by decide +kernel
theorem dX5_leftWithout_51 : decode cX5_leftWithout 51 = .ok (.if_icmp .ge 21, 3) := by decide +kernel
theorem dX5_leftWithout_54 : decode cX5_leftWithout 54 = .ok (.aload_n 0, 1) := by decide +kernel
theorem dX5_leftWithout_55 : decode cX5_leftWithout 55 = .ok (.getfield 32, 3) := by decide +kernel
theorem dX5_leftWithout_58 : decode cX5_leftWithout 58 = .ok (.aload_n 0, 1) := by decide +kernel
theorem dX5_leftWithout_59 : decode cX5_leftWithout 59 = .ok (.getfield 19, 3) := by decide +kernel
theorem dX5_leftWithout_62 : decode cX5_leftWithout 62 = .ok (.invokevirtual 147, 3) := by decide +kernel
theorem dX5_leftWithout_65 : decode cX5_leftWithout 65 = .ok (.pop, 1) := by decide +kernel
theorem dX5_leftWithout_66 : decode cX5_leftWithout 66 = .ok (.iinc 3 1, 3) := by decide +kernel
theorem dX5_leftWithout_69 : decode cX5_leftWithout 69 = .ok (.goto (-20), 3) := by decide +kernel
theorem dX5_leftWithout_72 : decode cX5_leftWithout 72 = .ok (.aload_n 0, 1) := by decide +kernel
theorem dX5_leftWithout_73 : decode cX5_leftWithout 73 = .ok (.getfield 19, 3) := by decide +kernel
theorem dX5_leftWithout_76 : decode cX5_leftWithout 76 = .ok (.invokevirtual 151, 3) := by decide +kernel
theorem dX5_leftWithout_79 : decode cX5_leftWithout 79 = .ok (.ireturn, 1) := by decide +kernel
theorem dX5_fullness_0 : decode cX5_fullness 0 = .ok (.aload_n 0, 1) := by decide +kernel
theorem dX5_fullness_1 : decode cX5_fullness 1 = .ok (.getfield 10, 3) := by decide +kernel
theorem dX5_fullness_4 : decode cX5_fullness 4 = .ok (.invokevirtual 246, 3) := by decide +kernel
theorem dX5_fullness_7 : decode cX5_fullness 7 = .ok (.istore_n 1, 1) := by decide +kernel
theorem dX5_fullness_8 : decode cX5_fullness 8 = .ok (.iload_n 1, 1) := by decide +kernel
theorem dX5_fullness_9 : decode cX5_fullness 9 = .ok (.ifCond .le 17, 3) := by decide +kernel
theorem dX5_fullness_12 : decode cX5_fullness 12 = .ok (.aload_n 0, 1) := by decide +kernel
theorem dX5_fullness_13 : decode cX5_fullness 13 = .ok (.getfield 10, 3) := by decide +kernel
theorem dX5_fullness_16 : decode cX5_fullness 16 = .ok (.invokevirtual 151, 3) := by decide +kernel
theorem dX5_fullness_19 : decode cX5_fullness 19 = .ok (.i2d, 1) := by decide +kernel
theorem dX5_fullness_20 : decode cX5_fullness 20 = .ok (.iload_n 1, 1) := by decide +kernel
theorem dX5_fullness_21 : decode cX5_fullness 21 = .ok (.i2d, 1) := by decide +kernel
theorem dX5_fullness_22 : decode cX5_fullness 22 = .ok (.ddiv, 1) := by decide +kernel
theorem dX5_fullness_23 : decode cX5_fullness 23 = .ok (.goto 4, 3) := by decide +kernel
theorem dX5_fullness_26 : decode cX5_fullness 26 = .ok (.dconst 0, 1) := by decide +kernel
theorem dX5_fullness_27 : decode cX5_fullness 27 = .ok (.dreturn, 1) := by decide +kernel
theorem dX5_passError_0 : decode cX5_passError 0 = .ok (.aload_n 0, 1) := by decide +kernel
theorem dX5_passError_1 : decode cX5_passError 1 = .ok (.getfield 10, 3) := by decide +kernel
theorem dX5_passError_4 : decode cX5_passError 4 = .ok (.iload_n 1, 1) := by decide +kernel
theorem dX5_passError_5 : decode cX5_passError 5 = .ok (.invokevirtual 66, 3) := by decide +kernel
theorem dX5_passError_8 : decode cX5_passError 8 = .ok (.ifCond .ne 6, 3) := by decide +kernel
theorem dX5_passError_11 : decode cX5_passError 11 = .ok (.ldc 51, 2) := by decide +kernel
theorem dX5_passError_13 : decode cX5_passError 13 = .ok (.ireturn, 1) := by decide +kernel
theorem dX5_passError_14 : decode cX5_passError 14 = .ok (.iload_n 3, 1) := by decide +kernel
theorem dX5_passError_15 : decode cX5_passError 15 = .ok (.invokestatic 215, 3) := by decide +kernel
theorem dX5_passError_18 : decode cX5_passError 18 = .ok (.ifCond .ne 6, 3) := by decide +kernel
theorem dX5_passError_21 : decode cX5_passError 21 = .ok (.ldc 52, 2) := by decide +kernel
theorem dX5_passError_23 : decode cX5_passError 23 = .ok (.ireturn, 1) := by decide +kernel
theorem dX5_passError_24 : decode cX5_passError 24 = .ok (.aload_n 0, 1) := by decide +kernel
theorem dX5_passError_25 : decode cX5_passError 25 = .ok (.getfield 10, 3) := by decide +kernel
theorem dX5_passError_28 : decode cX5_passError 28 = .ok (.iload_n 1, 1) := by decide +kernel
theorem dX5_passError_29 : decode cX5_passError 29 = .ok (.iload_n 2, 1) := by decide +kernel
theorem dX5_passError_30 : decode cX5_passError 30 = .ok (.iload_n 3, 1) := by decide +kernel
theorem dX5_passError_31 : decode cX5_passError 31 = .ok (.invokevirtual 218, 3) := by decide +kernel
theorem dX5_passError_34 : decode cX5_passError 34 = .ok (.istore 4, 2) := by decide +kernel
theorem dX5_passError_36 : decode cX5_passError 36 = .ok (.iload 4, 2) := by decide +kernel
theorem dX5_passError_38 : decode cX5_passError 38 = .ok (.ifCond .ne 7, 3) := by decide +kernel
theorem dX5_passError_41 : decode cX5_passError 41 = .ok (.iconst 0, 1) := by decide +kernel
theorem dX5_passError_42 : decode cX5_passError 42 = .ok (.goto 8, 3) := by decide +kernel
theorem dX5_passError_45 : decode cX5_passError 45 = .ok (.bipush (-10), 2) := by decide +kernel
theorem dX5_passError_47 : decode cX5_passError 47 = .ok (.iload 4, 2) := by decide +kernel
theorem dX5_passError_49 : decode cX5_passError 49 = .ok (.isub, 1) := by decide +kernel
theorem dX5_passError_50 : decode cX5_passError 50 = .ok (.ireturn, 1) := by decide +kernel
theorem dX5_repairError_0 : decode cX5_repairError 0 = .ok (.aload_n 0, 1) := by decide +kernel
theorem dX5_repairError_1 : decode cX5_repairError 1 = .ok (.getfield 10, 3) := by decide +kernel
theorem dX5_repairError_4 : decode cX5_repairError 4 = .ok (.iload_n 1, 1) := by decide +kernel
theorem dX5_repairError_5 : decode cX5_repairError 5 = .ok (.invokevirtual 66, 3) := by decide +kernel
theorem dX5_repairError_8 : decode cX5_repairError 8 = .ok (.ifCond .ne 6, 3) := by decide +kernel
theorem dX5_repairError_11 : decode cX5_repairError 11 = .ok (.ldc 51, 2) := by decide +kernel
theorem dX5_repairError_13 : decode cX5_repairError 13 = .ok (.ireturn, 1) := by decide +kernel
theorem dX5_repairError_14 : decode cX5_repairError 14 = .ok (.aload_n 0, 1) := by decide +kernel
theorem dX5_repairError_15 : decode cX5_repairError 15 = .ok (.getfield 10, 3) := by decide +kernel
theorem dX5_repairError_18 : decode cX5_repairError 18 = .ok (.getfield 138, 3) := by decide +kernel
theorem dX5_repairError_21 : decode cX5_repairError 21 = .ok (.iload_n 1, 1) := by decide +kernel
theorem dX5_repairError_22 : decode cX5_repairError 22 = .ok (.invokestatic 73, 3) := by decide +kernel
theorem dX5_repairError_25 : decode cX5_repairError 25 = .ok (.ifCond .le 8, 3) := by decide +kernel
theorem dX5_repairError_28 : decode cX5_repairError 28 = .ok (.ldc 87, 2) := by decide +kernel
theorem dX5_repairError_30 : decode cX5_repairError 30 = .ok (.goto 4, 3) := by decide +kernel
theorem dX5_repairError_33 : decode cX5_repairError 33 = .ok (.iconst 0, 1) := by decide +kernel
theorem dX5_repairError_34 : decode cX5_repairError 34 = .ok (.ireturn, 1) := by decide +kernel
theorem dX5_carryOutOrder_0 : decode cX5_carryOutOrder 0 = .ok (.aload_n 0, 1) := by decide +kernel
theorem dX5_carryOutOrder_1 : decode cX5_carryOutOrder 1 = .ok (.getfield 39, 3) := by decide +kernel
theorem dX5_carryOutOrder_4 : decode cX5_carryOutOrder 4 = .ok (.getfield 249, 3) := by decide +kernel
theorem dX5_carryOutOrder_7 : decode cX5_carryOutOrder 7 = .ok (.lookupswitch 63 #[(60, 47), (62, 41), (97, 53), (114, 58)], 41) := by decide +kernel
theorem dX5_carryOutOrder_48 : decode cX5_carryOutOrder 48 = .ok (.aload_n 0, 1) := by decide +kernel
theorem dX5_carryOutOrder_49 : decode cX5_carryOutOrder 49 = .ok (.iconst 1, 1) := by decide +kernel
theorem dX5_carryOutOrder_50 : decode cX5_carryOutOrder 50 = .ok (.invokevirtual 252, 3) := by decide +kernel
theorem dX5_carryOutOrder_53 : decode cX5_carryOutOrder 53 = .ok (.ireturn, 1) := by decide +kernel
theorem dX5_carryOutOrder_54 : decode cX5_carryOutOrder 54 = .ok (.aload_n 0, 1) := by decide +kernel
theorem dX5_carryOutOrder_55 : decode cX5_carryOutOrder 55 = .ok (.iconst 0, 1) := by decide +kernel
theorem dX5_carryOutOrder_56 : decode cX5_carryOutOrder 56 = .ok (.invokevirtual 252, 3) := by decide +kernel
theorem dX5_carryOutOrder_59 : decode cX5_carryOutOrder 59 = .ok (.ireturn, 1) := by decide +kernel
theorem dX5_carryOutOrder_60 : decode cX5_carryOutOrder 60 = .ok (.aload_n 0, 1) := by decide +kernel
theorem dX5_carryOutOrder_61 : decode cX5_carryOutOrder 61 = .ok (.invokevirtual 256, 3) := by decide +kernel
theorem dX5_carryOutOrder_64 : decode cX5_carryOutOrder 64 = .ok (.ireturn, 1) := by decide +kernel
theorem dX5_carryOutOrder_65 : decode cX5_carryOutOrder 65 = .ok (.aload_n 0, 1) := by decide +kernel
theorem dX5_carryOutOrder_66 : decode cX5_carryOutOrder 66 = .ok (.invokevirtual 259, 3) := by decide +kernel
theorem dX5_carryOutOrder_69 : decode cX5_carryOutOrder 69 = .ok (.ireturn, 1) := by decide +kernel
theorem dX5_carryOutOrder_70 : decode cX5_carryOutOrder 70 = .ok (.aload_n 0, 1) := by decide +kernel
theorem dX5_carryOutOrder_71 : decode cX5_carryOutOrder 71 = .ok (.getfield 10, 3) := by decide +kernel
theorem dX5_carryOutOrder_74 : decode cX5_carryOutOrder 74 = .ok (.aload_n 0, 1) := by decide +kernel
theorem dX5_carryOutOrder_75 : decode cX5_carryOutOrder 75 = .ok (.getfield 39, 3) := by decide +kernel
theorem dX5_carryOutOrder_78 : decode cX5_carryOutOrder 78 = .ok (.getfield 262, 3) := by decide +kernel
theorem dX5_carryOutOrder_81 : decode cX5_carryOutOrder 81 = .ok (.invokevirtual 144, 3) := by decide +kernel
theorem dX5_carryOutOrder_84 : decode cX5_carryOutOrder 84 = .ok (.pop, 1) := by decide +kernel
theorem dX5_carryOutOrder_85 : decode cX5_carryOutOrder 85 = .ok (.iconst 1, 1) := by decide +kernel
theorem dX5_carryOutOrder_86 : decode cX5_carryOutOrder 86 = .ok (.ireturn, 1) := by decide +kernel
theorem dX5_carryOutPass_0 : decode cX5_carryOutPass 0 = .ok (.aload_n 0, 1) := by decide +kernel
theorem dX5_carryOutPass_1 : decode cX5_carryOutPass 1 = .ok (.aload_n 0, 1) := by decide +kernel
theorem dX5_carryOutPass_2 : decode cX5_carryOutPass 2 = .ok (.getfield 39, 3) := by decide +kernel
theorem dX5_carryOutPass_5 : decode cX5_carryOutPass 5 = .ok (.getfield 265, 3) := by decide +kernel
theorem dX5_carryOutPass_8 : decode cX5_carryOutPass 8 = .ok (.iload_n 1, 1) := by decide +kernel
theorem dX5_carryOutPass_9 : decode cX5_carryOutPass 9 = .ok (.aload_n 0, 1) := by decide +kernel
theorem dX5_carryOutPass_10 : decode cX5_carryOutPass 10 = .ok (.getfield 39, 3) := by decide +kernel
theorem dX5_carryOutPass_13 : decode cX5_carryOutPass 13 = .ok (.getfield 262, 3) := by decide +kernel
theorem dX5_carryOutPass_16 : decode cX5_carryOutPass 16 = .ok (.invokevirtual 113, 3) := by decide +kernel
theorem dX5_carryOutPass_19 : decode cX5_carryOutPass 19 = .ok (.ifCond .eq 5, 3) := by decide +kernel
theorem dX5_carryOutPass_22 : decode cX5_carryOutPass 22 = .ok (.iconst 0, 1) := by decide +kernel
theorem dX5_carryOutPass_23 : decode cX5_carryOutPass 23 = .ok (.ireturn, 1) := by decide +kernel
theorem dX5_carryOutPass_24 : decode cX5_carryOutPass 24 = .ok (.aload_n 0, 1) := by decide +kernel
theorem dX5_carryOutPass_25 : decode cX5_carryOutPass 25 = .ok (.getfield 10, 3) := by decide +kernel
theorem dX5_carryOutPass_28 : decode cX5_carryOutPass 28 = .ok (.aload_n 0, 1) := by decide +kernel
theorem dX5_carryOutPass_29 : decode cX5_carryOutPass 29 = .ok (.getfield 39, 3) := by decide +kernel
theorem dX5_carryOutPass_32 : decode cX5_carryOutPass 32 = .ok (.getfield 265, 3) := by decide +kernel
theorem dX5_carryOutPass_35 : decode cX5_carryOutPass 35 = .ok (.iload_n 1, 1) := by decide +kernel
theorem dX5_carryOutPass_36 : decode cX5_carryOutPass 36 = .ok (.aload_n 0, 1) := by decide +kernel
theorem dX5_carryOutPass_37 : decode cX5_carryOutPass 37 = .ok (.getfield 39, 3) := by decide +kernel
theorem dX5_carryOutPass_40 : decode cX5_carryOutPass 40 = .ok (.getfield 262, 3) := by decide +kernel
theorem dX5_carryOutPass_43 : decode cX5_carryOutPass 43 = .ok (.invokevirtual 117, 3) := by decide +kernel
theorem dX5_carryOutPass_46 : decode cX5_carryOutPass 46 = .ok (.iconst 1, 1) := by decide +kernel
theorem dX5_carryOutPass_47 : decode cX5_carryOutPass 47 = .ok (.ireturn, 1) := by decide +kernel
theorem dX5_carryOutAudit_0 : decode cX5_carryOutAudit 0 = .ok (.aload_n 0, 1) := by decide +kernel
theorem dX5_carryOutAudit_1 : decode cX5_carryOutAudit 1 = .ok (.getfield 10, 3) := by decide +kernel
theorem dX5_carryOutAudit_4 : decode cX5_carryOutAudit 4 = .ok (.aload_n 0, 1) := by decide +kernel
theorem dX5_carryOutAudit_5 : decode cX5_carryOutAudit 5 = .ok (.getfield 39, 3) := by decide +kernel
theorem dX5_carryOutAudit_8 : decode cX5_carryOutAudit 8 = .ok (.getfield 265, 3) := by decide +kernel
theorem dX5_carryOutAudit_11 : decode cX5_carryOutAudit 11 = .ok (.invokevirtual 66, 3) := by decide +kernel
theorem dX5_carryOutAudit_14 : decode cX5_carryOutAudit 14 = .ok (.ifCond .ne 5, 3) := by decide +kernel
theorem dX5_carryOutAudit_17 : decode cX5_carryOutAudit 17 = .ok (.iconst 0, 1) := by decide +kernel
theorem dX5_carryOutAudit_18 : decode cX5_carryOutAudit 18 = .ok (.ireturn, 1) := by decide +kernel
theorem dX5_carryOutAudit_19 : decode cX5_carryOutAudit 19 = .ok (.aload_n 0, 1) := by decide +kernel
theorem dX5_carryOutAudit_20 : decode cX5_carryOutAudit 20 = .ok (.getfield 10, 3) := by decide +kernel
theorem dX5_carryOutAudit_23 : decode cX5_carryOutAudit 23 = .ok (.getfield 100, 3) := by decide +kernel
theorem dX5_carryOutAudit_26 : decode cX5_carryOutAudit 26 = .ok (.aload_n 0, 1) := by decide +kernel
theorem dX5_carryOutAudit_27 : decode cX5_carryOutAudit 27 = .ok (.getfield 39, 3) := by decide +kernel
theorem dX5_carryOutAudit_30 : decode cX5_carryOutAudit 30 = .ok (.getfield 265, 3) := by decide +kernel
theorem dX5_carryOutAudit_33 : decode cX5_carryOutAudit 33 = .ok (.invokevirtual 125, 3) := by decide +kernel
theorem dX5_carryOutAudit_36 : decode cX5_carryOutAudit 36 = .ok (.iconst 1, 1) := by decide +kernel
theorem dX5_carryOutAudit_37 : decode cX5_carryOutAudit 37 = .ok (.ireturn, 1) := by decide +kernel
theorem dX5_carryOutRepair_0 : decode cX5_carryOutRepair 0 = .ok (.aload_n 0, 1) := by decide +kernel
theorem dX5_carryOutRepair_1 : decode cX5_carryOutRepair 1 = .ok (.aload_n 0, 1) := by decide +kernel
theorem dX5_carryOutRepair_2 : decode cX5_carryOutRepair 2 = .ok (.getfield 39, 3) := by decide +kernel
theorem dX5_carryOutRepair_5 : decode cX5_carryOutRepair 5 = .ok (.getfield 265, 3) := by decide +kernel
theorem dX5_carryOutRepair_8 : decode cX5_carryOutRepair 8 = .ok (.invokevirtual 129, 3) := by decide +kernel
theorem dX5_carryOutRepair_11 : decode cX5_carryOutRepair 11 = .ok (.ifCond .eq 5, 3) := by decide +kernel
theorem dX5_carryOutRepair_14 : decode cX5_carryOutRepair 14 = .ok (.iconst 0, 1) := by decide +kernel
theorem dX5_carryOutRepair_15 : decode cX5_carryOutRepair 15 = .ok (.ireturn, 1) := by decide +kernel
theorem dX5_carryOutRepair_16 : decode cX5_carryOutRepair 16 = .ok (.aload_n 0, 1) := by decide +kernel
theorem dX5_carryOutRepair_17 : decode cX5_carryOutRepair 17 = .ok (.getfield 10, 3) := by decide +kernel
theorem dX5_carryOutRepair_20 : decode cX5_carryOutRepair 20 = .ok (.aload_n 0, 1) := by decide +kernel
theorem dX5_carryOutRepair_21 : decode cX5_carryOutRepair 21 = .ok (.getfield 39, 3) := by decide +kernel
theorem dX5_carryOutRepair_24 : decode cX5_carryOutRepair 24 = .ok (.getfield 265, 3) := by decide +kernel
theorem dX5_carryOutRepair_27 : decode cX5_carryOutRepair 27 = .ok (.invokevirtual 132, 3) := by decide +kernel
theorem dX5_carryOutRepair_30 : decode cX5_carryOutRepair 30 = .ok (.iconst 1, 1) := by decide +kernel
theorem dX5_carryOutRepair_31 : decode cX5_carryOutRepair 31 = .ok (.ireturn, 1) := by decide +kernel
theorem dX5_isHall_0 : decode cX5_isHall 0 = .ok (.iload_n 0, 1) := by decide +kernel
theorem dX5_isHall_1 : decode cX5_isHall 1 = .ok (.ifCond .lt 13, 3) := by decide +kernel
theorem dX5_isHall_4 : decode cX5_isHall 4 = .ok (.iload_n 0, 1) := by decide +kernel
theorem dX5_isHall_5 : decode cX5_isHall 5 = .ok (.bipush 6, 2) := by decide +kernel
theorem dX5_isHall_7 : decode cX5_isHall 7 = .ok (.if_icmp .ge 7, 3) := by decide +kernel
theorem dX5_isHall_10 : decode cX5_isHall 10 = .ok (.iconst 1, 1) := by decide +kernel
theorem dX5_isHall_11 : decode cX5_isHall 11 = .ok (.goto 4, 3) := by decide +kernel
theorem dX5_isHall_14 : decode cX5_isHall 14 = .ok (.iconst 0, 1) := by decide +kernel
theorem dX5_isHall_15 : decode cX5_isHall 15 = .ok (.ireturn, 1) := by decide +kernel
theorem dX5_isHallWithRoom_0 : decode cX5_isHallWithRoom 0 = .ok (.iload_n 0, 1) := by decide +kernel
theorem dX5_isHallWithRoom_1 : decode cX5_isHallWithRoom 1 = .ok (.invokestatic 47, 3) := by decide +kernel
theorem dX5_isHallWithRoom_4 : decode cX5_isHallWithRoom 4 = .ok (.ifCond .eq 11, 3) := by decide +kernel
theorem dX5_isHallWithRoom_7 : decode cX5_isHallWithRoom 7 = .ok (.iload_n 0, 1) := by decide +kernel
theorem dX5_isHallWithRoom_8 : decode cX5_isHallWithRoom 8 = .ok (.ifCond .eq 7, 3) := by decide +kernel
theorem dX5_isHallWithRoom_11 : decode cX5_isHallWithRoom 11 = .ok (.iconst 1, 1) := by decide +kernel
theorem dX5_isHallWithRoom_12 : decode cX5_isHallWithRoom 12 = .ok (.goto 4, 3) := by decide +kernel
theorem dX5_isHallWithRoom_15 : decode cX5_isHallWithRoom 15 = .ok (.iconst 0, 1) := by decide +kernel
theorem dX5_isHallWithRoom_16 : decode cX5_isHallWithRoom 16 = .ok (.ireturn, 1) := by decide +kernel
theorem dX5_isCounter_0 : decode cX5_isCounter 0 = .ok (.iload_n 0, 1) := by decide +kernel
theorem dX5_isCounter_1 : decode cX5_isCounter 1 = .ok (.ifCond .lt 12, 3) := by decide +kernel
theorem dX5_isCounter_4 : decode cX5_isCounter 4 = .ok (.iload_n 0, 1) := by decide +kernel
theorem dX5_isCounter_5 : decode cX5_isCounter 5 = .ok (.iconst 4, 1) := by decide +kernel
theorem dX5_isCounter_6 : decode cX5_isCounter 6 = .ok (.if_icmp .ge 7, 3) := by decide +kernel
theorem dX5_isCounter_9 : decode cX5_isCounter 9 = .ok (.iconst 1, 1) := by decide +kernel
theorem dX5_isCounter_10 : decode cX5_isCounter 10 = .ok (.goto 4, 3) := by decide +kernel
theorem dX5_isCounter_13 : decode cX5_isCounter 13 = .ok (.iconst 0, 1) := by decide +kernel
theorem dX5_isCounter_14 : decode cX5_isCounter 14 = .ok (.ireturn, 1) := by decide +kernel
theorem dX5_isSlip_0 : decode cX5_isSlip 0 = .ok (.iload_n 0, 1) := by decide +kernel
theorem dX5_isSlip_1 : decode cX5_isSlip 1 = .ok (.ifCond .eq 14, 3) := by decide +kernel
theorem dX5_isSlip_4 : decode cX5_isSlip 4 = .ok (.iload_n 0, 1) := by decide +kernel
theorem dX5_isSlip_5 : decode cX5_isSlip 5 = .ok (.iconst 2, 1) := by decide +kernel
theorem dX5_isSlip_6 : decode cX5_isSlip 6 = .ok (.if_icmp .lt 13, 3) := by decide +kernel
theorem dX5_isSlip_9 : decode cX5_isSlip 9 = .ok (.iload_n 0, 1) := by decide +kernel
theorem dX5_isSlip_10 : decode cX5_isSlip 10 = .ok (.bipush 9, 2) := by decide +kernel
theorem dX5_isSlip_12 : decode cX5_isSlip 12 = .ok (.if_icmp .gt 7, 3) := by decide +kernel
theorem dX5_isSlip_15 : decode cX5_isSlip 15 = .ok (.iconst 1, 1) := by decide +kernel
theorem dX5_isSlip_16 : decode cX5_isSlip 16 = .ok (.goto 4, 3) := by decide +kernel
theorem dX5_isSlip_19 : decode cX5_isSlip 19 = .ok (.iconst 0, 1) := by decide +kernel
theorem dX5_isSlip_20 : decode cX5_isSlip 20 = .ok (.ireturn, 1) := by decide +kernel
theorem dX5_isManyPeople_0 : decode cX5_isManyPeople 0 = .ok (.iload_n 0, 1) := by decide +kernel
theorem dX5_isManyPeople_1 : decode cX5_isManyPeople 1 = .ok (.iconst 1, 1) := by decide +kernel
theorem dX5_isManyPeople_2 : decode cX5_isManyPeople 2 = .ok (.if_icmp .lt 13, 3) := by decide +kernel
theorem dX5_isManyPeople_5 : decode cX5_isManyPeople 5 = .ok (.iload_n 0, 1) := by decide +kernel
theorem dX5_isManyPeople_6 : decode cX5_isManyPeople 6 = .ok (.bipush 99, 2) := by decide +kernel
theorem dX5_isManyPeople_8 : decode cX5_isManyPeople 8 = .ok (.if_icmp .gt 7, 3) := by decide +kernel
theorem dX5_isManyPeople_11 : decode cX5_isManyPeople 11 = .ok (.iconst 1, 1) := by decide +kernel
theorem dX5_isManyPeople_12 : decode cX5_isManyPeople 12 = .ok (.goto 4, 3) := by decide +kernel
theorem dX5_isManyPeople_15 : decode cX5_isManyPeople 15 = .ok (.iconst 0, 1) := by decide +kernel
theorem dX5_isManyPeople_16 : decode cX5_isManyPeople 16 = .ok (.ireturn, 1) := by decide +kernel
theorem dX5_isManyHours_0 : decode cX5_isManyHours 0 = .ok (.iload_n 0, 1) := by decide +kernel
theorem dX5_isManyHours_1 : decode cX5_isManyHours 1 = .ok (.iconst 1, 1) := by decide +kernel
theorem dX5_isManyHours_2 : decode cX5_isManyHours 2 = .ok (.if_icmp .lt 13, 3) := by decide +kernel
theorem dX5_isManyHours_5 : decode cX5_isManyHours 5 = .ok (.iload_n 0, 1) := by decide +kernel
theorem dX5_isManyHours_6 : decode cX5_isManyHours 6 = .ok (.bipush 99, 2) := by decide +kernel
theorem dX5_isManyHours_8 : decode cX5_isManyHours 8 = .ok (.if_icmp .gt 7, 3) := by decide +kernel
theorem dX5_isManyHours_11 : decode cX5_isManyHours 11 = .ok (.iconst 1, 1) := by decide +kernel
theorem dX5_isManyHours_12 : decode cX5_isManyHours 12 = .ok (.goto 4, 3) := by decide +kernel
theorem dX5_isManyHours_15 : decode cX5_isManyHours 15 = .ok (.iconst 0, 1) := by decide +kernel
theorem dX5_isManyHours_16 : decode cX5_isManyHours 16 = .ok (.ireturn, 1) := by decide +kernel
theorem dX5_counterIndex_0 : decode cX5_counterIndex 0 = .ok (.iload_n 0, 1) := by decide +kernel
theorem dX5_counterIndex_1 : decode cX5_counterIndex 1 = .ok (.iconst 4, 1) := by decide +kernel
theorem dX5_counterIndex_2 : decode cX5_counterIndex 2 = .ok (.imul, 1) := by decide +kernel
theorem dX5_counterIndex_3 : decode cX5_counterIndex 3 = .ok (.iload_n 1, 1) := by decide +kernel
theorem dX5_counterIndex_4 : decode cX5_counterIndex 4 = .ok (.iadd, 1) := by decide +kernel
theorem dX5_counterIndex_5 : decode cX5_counterIndex 5 = .ok (.ireturn, 1) := by decide +kernel
theorem dX5_at_0 : decode cX5_at 0 = .ok (.iload_n 1, 1) := by decide +kernel
theorem dX5_at_1 : decode cX5_at 1 = .ok (.ifCond .lt 15, 3) := by decide +kernel
theorem dX5_at_4 : decode cX5_at 4 = .ok (.iload_n 1, 1) := by decide +kernel
theorem dX5_at_5 : decode cX5_at 5 = .ok (.aload_n 0, 1) := by decide +kernel
theorem dX5_at_6 : decode cX5_at 6 = .ok (.arraylength, 1) := by decide +kernel
theorem dX5_at_7 : decode cX5_at 7 = .ok (.if_icmp .ge 9, 3) := by decide +kernel
theorem dX5_at_10 : decode cX5_at 10 = .ok (.aload_n 0, 1) := by decide +kernel
theorem dX5_at_11 : decode cX5_at 11 = .ok (.iload_n 1, 1) := by decide +kernel
theorem dX5_at_12 : decode cX5_at 12 = .ok (.iaload, 1) := by decide +kernel
theorem dX5_at_13 : decode cX5_at 13 = .ok (.goto 4, 3) := by decide +kernel
theorem dX5_at_16 : decode cX5_at 16 = .ok (.iconst 0, 1) := by decide +kernel
theorem dX5_at_17 : decode cX5_at 17 = .ok (.ireturn, 1) := by decide +kernel
theorem dX5_put_0 : decode cX5_put 0 = .ok (.iload_n 1, 1) := by decide +kernel
theorem dX5_put_1 : decode cX5_put 1 = .ok (.ifCond .lt 13, 3) := by decide +kernel
theorem dX5_put_4 : decode cX5_put 4 = .ok (.iload_n 1, 1) := by decide +kernel
theorem dX5_put_5 : decode cX5_put 5 = .ok (.aload_n 0, 1) := by decide +kernel
theorem dX5_put_6 : decode cX5_put 6 = .ok (.arraylength, 1) := by decide +kernel
theorem dX5_put_7 : decode cX5_put 7 = .ok (.if_icmp .ge 7, 3) := by decide +kernel
theorem dX5_put_10 : decode cX5_put 10 = .ok (.aload_n 0, 1) := by decide +kernel
theorem dX5_put_11 : decode cX5_put 11 = .ok (.iload_n 1, 1) := by decide +kernel
theorem dX5_put_12 : decode cX5_put 12 = .ok (.iload_n 2, 1) := by decide +kernel
theorem dX5_put_13 : decode cX5_put 13 = .ok (.iastore, 1) := by decide +kernel
theorem dX5_put_14 : decode cX5_put 14 = .ok (.return_, 1) := by decide +kernel
theorem dX5_add_0 : decode cX5_add 0 = .ok (.aload_n 0, 1) := by decide +kernel
theorem dX5_add_1 : decode cX5_add 1 = .ok (.iload_n 1, 1) := by decide +kernel
theorem dX5_add_2 : decode cX5_add 2 = .ok (.aload_n 0, 1) := by decide +kernel
theorem dX5_add_3 : decode cX5_add 3 = .ok (.iload_n 1, 1) := by decide +kernel
theorem dX5_add_4 : decode cX5_add 4 = .ok (.invokestatic 73, 3) := by decide +kernel
theorem dX5_add_7 : decode cX5_add 7 = .ok (.iload_n 2, 1) := by decide +kernel
theorem dX5_add_8 : decode cX5_add 8 = .ok (.iadd, 1) := by decide +kernel
theorem dX5_add_9 : decode cX5_add 9 = .ok (.invokestatic 77, 3) := by decide +kernel
theorem dX5_add_12 : decode cX5_add 12 = .ok (.return_, 1) := by decide +kernel
theorem dX5_copyRow_0 : decode cX5_copyRow 0 = .ok (.iconst 0, 1) := by decide +kernel
theorem dX5_copyRow_1 : decode cX5_copyRow 1 = .ok (.istore_n 2, 1) := by decide +kernel
theorem dX5_copyRow_2 : decode cX5_copyRow 2 = .ok (.iload_n 2, 1) := by decide +kernel
theorem dX5_copyRow_3 : decode cX5_copyRow 3 = .ok (.aload_n 0, 1) := by decide +kernel
theorem dX5_copyRow_4 : decode cX5_copyRow 4 = .ok (.arraylength, 1) := by decide +kernel
theorem dX5_copyRow_5 : decode cX5_copyRow 5 = .ok (.if_icmp .ge 21, 3) := by decide +kernel
theorem dX5_copyRow_8 : decode cX5_copyRow 8 = .ok (.iload_n 2, 1) := by decide +kernel
theorem dX5_copyRow_9 : decode cX5_copyRow 9 = .ok (.aload_n 1, 1) := by decide +kernel
theorem dX5_copyRow_10 : decode cX5_copyRow 10 = .ok (.arraylength, 1) := by decide +kernel
theorem dX5_copyRow_11 : decode cX5_copyRow 11 = .ok (.if_icmp .ge 15, 3) := by decide +kernel
theorem dX5_copyRow_14 : decode cX5_copyRow 14 = .ok (.aload_n 1, 1) := by decide +kernel
theorem dX5_copyRow_15 : decode cX5_copyRow 15 = .ok (.iload_n 2, 1) := by decide +kernel
theorem dX5_copyRow_16 : decode cX5_copyRow 16 = .ok (.aload_n 0, 1) := by decide +kernel
theorem dX5_copyRow_17 : decode cX5_copyRow 17 = .ok (.iload_n 2, 1) := by decide +kernel
theorem dX5_copyRow_18 : decode cX5_copyRow 18 = .ok (.iaload, 1) := by decide +kernel
theorem dX5_copyRow_19 : decode cX5_copyRow 19 = .ok (.iastore, 1) := by decide +kernel
theorem dX5_copyRow_20 : decode cX5_copyRow 20 = .ok (.iinc 2 1, 3) := by decide +kernel
theorem dX5_copyRow_23 : decode cX5_copyRow 23 = .ok (.goto (-21), 3) := by decide +kernel
theorem dX5_copyRow_26 : decode cX5_copyRow 26 = .ok (.return_, 1) := by decide +kernel
end
section
theorem dX6_init_0 : decode cX6_init 0 = .ok (.aload_n 0, 1) := by decide +kernel
theorem dX6_init_1 : decode cX6_init 1 = .ok (.invokespecial 1, 3) := by decide +kernel
theorem dX6_init_4 : decode cX6_init 4 = .ok (.aload_n 0, 1) := by decide +kernel
theorem dX6_init_5 : decode cX6_init 5 = .ok (.sipush 2048, 3) := by decide +kernel
theorem dX6_init_8 : decode cX6_init 8 = .ok (.newarray .int, 2) := by decide +kernel
theorem dX6_init_10 : decode cX6_init 10 = .ok (.putfield 7, 3) := by decide +kernel
theorem dX6_init_13 : decode cX6_init 13 = .ok (.aload_n 0, 1) := by decide +kernel
theorem dX6_init_14 : decode cX6_init 14 = .ok (.bipush 60, 2) := by decide +kernel
theorem dX6_init_16 : decode cX6_init 16 = .ok (.newarray .char, 2) := by decide +kernel
theorem dX6_init_18 : decode cX6_init 18 = .ok (.putfield 13, 3) := by decide +kernel
theorem dX6_init_21 : decode cX6_init 21 = .ok (.aload_n 0, 1) := by decide +kernel
theorem dX6_init_22 : decode cX6_init 22 = .ok (.bipush 6, 2) := by decide +kernel
theorem dX6_init_24 : decode cX6_init 24 = .ok (.newarray .int, 2) := by decide +kernel
theorem dX6_init_26 : decode cX6_init 26 = .ok (.putfield 17, 3) := by decide +kernel
theorem dX6_init_29 : decode cX6_init 29 = .ok (.aload_n 0, 1) := by decide +kernel
theorem dX6_init_30 : decode cX6_init 30 = .ok (.getfield 7, 3) := by decide +kernel
theorem dX6_init_33 : decode cX6_init 33 = .ok (.iconst 0, 1) := by decide +kernel
theorem dX6_init_34 : decode cX6_init 34 = .ok (.bipush 30, 2) := by decide +kernel
theorem dX6_init_36 : decode cX6_init 36 = .ok (.iastore, 1) := by decide +kernel
theorem dX6_init_37 : decode cX6_init 37 = .ok (.aload_n 0, 1) := by decide +kernel
theorem dX6_init_38 : decode cX6_init 38 = .ok (.getfield 7, 3) := by decide +kernel
theorem dX6_init_41 : decode cX6_init 41 = .ok (.iconst 1, 1) := by decide +kernel
theorem dX6_init_42 : decode cX6_init 42 = .ok (.bipush 6, 2) := by decide +kernel
theorem dX6_init_44 : decode cX6_init 44 = .ok (.iastore, 1) := by decide +kernel
theorem dX6_init_45 : decode cX6_init 45 = .ok (.iconst 1, 1) := by decide +kernel
theorem dX6_init_46 : decode cX6_init 46 = .ok (.istore_n 1, 1) := by decide +kernel
theorem dX6_init_47 : decode cX6_init 47 = .ok (.iload_n 1, 1) := by decide +kernel
theorem dX6_init_48 : decode cX6_init 48 = .ok (.bipush 6, 2) := by decide +kernel
theorem dX6_init_50 : decode cX6_init 50 = .ok (.if_icmp .ge 19, 3) := by decide +kernel
theorem dX6_init_53 : decode cX6_init 53 = .ok (.aload_n 0, 1) := by decide +kernel
theorem dX6_init_54 : decode cX6_init 54 = .ok (.getfield 7, 3) := by decide +kernel
theorem dX6_init_57 : decode cX6_init 57 = .ok (.iconst 4, 1) := by decide +kernel
theorem dX6_init_58 : decode cX6_init 58 = .ok (.iload_n 1, 1) := by decide +kernel
theorem dX6_init_59 : decode cX6_init 59 = .ok (.iadd, 1) := by decide +kernel
theorem dX6_init_60 : decode cX6_init 60 = .ok (.bipush 100, 2) := by decide +kernel
theorem dX6_init_62 : decode cX6_init 62 = .ok (.iastore, 1) := by decide +kernel
theorem dX6_init_63 : decode cX6_init 63 = .ok (.iinc 1 1, 3) := by decide +kernel
theorem dX6_init_66 : decode cX6_init 66 = .ok (.goto (-19), 3) := by decide +kernel
theorem dX6_init_69 : decode cX6_init 69 = .ok (.return_, 1) := by decide +kernel
theorem dX6_in_0 : decode cX6_in 0 = .ok (.iload_n 0, 1) := by decide +kernel
theorem dX6_in_1 : decode cX6_in 1 = .ok (.iload_n 1, 1) := by decide +kernel
theorem dX6_in_2 : decode cX6_in 2 = .ok (.if_icmp .lt 12, 3) := by decide +kernel
theorem dX6_in_5 : decode cX6_in 5 = .ok (.iload_n 0, 1) := by decide +kernel
theorem dX6_in_6 : decode cX6_in 6 = .ok (.iload_n 2, 1) := by decide +kernel
theorem dX6_in_7 : decode cX6_in 7 = .ok (.if_icmp .gt 7, 3) := by decide +kernel
theorem dX6_in_10 : decode cX6_in 10 = .ok (.iconst 1, 1) := by decide +kernel
theorem dX6_in_11 : decode cX6_in 11 = .ok (.goto 4, 3) := by decide +kernel
theorem dX6_in_14 : decode cX6_in 14 = .ok (.iconst 0, 1) := by decide +kernel
theorem dX6_in_15 : decode cX6_in 15 = .ok (.ireturn, 1) := by decide +kernel
theorem dX6_copies_0 : decode cX6_copies 0 = .ok (.iconst 0, 1) := by decide +kernel
theorem dX6_copies_1 : decode cX6_copies 1 = .ok (.istore_n 3, 1) := by decide +kernel
theorem dX6_copies_2 : decode cX6_copies 2 = .ok (.iload_n 3, 1) := by decide +kernel
theorem dX6_copies_3 : decode cX6_copies 3 = .ok (.sipush 256, 3) := by decide +kernel
theorem dX6_copies_6 : decode cX6_copies 6 = .ok (.if_icmp .ge 33, 3) := by decide +kernel
theorem dX6_copies_9 : decode cX6_copies 9 = .ok (.aload_n 0, 1) := by decide +kernel
theorem dX6_copies_10 : decode cX6_copies 10 = .ok (.getfield 7, 3) := by decide +kernel
theorem dX6_copies_13 : decode cX6_copies 13 = .ok (.sipush 256, 3) := by decide +kernel
theorem dX6_copies_16 : decode cX6_copies 16 = .ok (.iload_n 2, 1) := by decide +kernel
theorem dX6_copies_17 : decode cX6_copies 17 = .ok (.imul, 1) := by decide +kernel
theorem dX6_copies_18 : decode cX6_copies 18 = .ok (.iload_n 3, 1) := by decide +kernel
theorem dX6_copies_19 : decode cX6_copies 19 = .ok (.iadd, 1) := by decide +kernel
theorem dX6_copies_20 : decode cX6_copies 20 = .ok (.aload_n 0, 1) := by decide +kernel
theorem dX6_copies_21 : decode cX6_copies 21 = .ok (.getfield 7, 3) := by decide +kernel
theorem dX6_copies_24 : decode cX6_copies 24 = .ok (.sipush 256, 3) := by decide +kernel
theorem dX6_copies_27 : decode cX6_copies 27 = .ok (.iload_n 1, 1) := by decide +kernel
theorem dX6_copies_28 : decode cX6_copies 28 = .ok (.imul, 1) := by decide +kernel
theorem dX6_copies_29 : decode cX6_copies 29 = .ok (.iload_n 3, 1) := by decide +kernel
theorem dX6_copies_30 : decode cX6_copies 30 = .ok (.iadd, 1) := by decide +kernel
theorem dX6_copies_31 : decode cX6_copies 31 = .ok (.iaload, 1) := by decide +kernel
theorem dX6_copies_32 : decode cX6_copies 32 = .ok (.iastore, 1) := by decide +kernel
theorem dX6_copies_33 : decode cX6_copies 33 = .ok (.iinc 3 1, 3) := by decide +kernel
theorem dX6_copies_36 : decode cX6_copies 36 = .ok (.goto (-34), 3) := by decide +kernel
theorem dX6_copies_39 : decode cX6_copies 39 = .ok (.return_, 1) := by decide +kernel
theorem dX6_records_0 : decode cX6_records 0 = .ok (.aload_n 0, 1) := by decide +kernel
theorem dX6_records_1 : decode cX6_records 1 = .ok (.getfield 20, 3) := by decide +kernel
theorem dX6_records_4 : decode cX6_records 4 = .ok (.iconst 5, 1) := by decide +kernel
theorem dX6_records_5 : decode cX6_records 5 = .ok (.if_icmp .ne 34, 3) := by decide +kernel
theorem dX6_records_8 : decode cX6_records 8 = .ok (.iconst 1, 1) := by decide +kernel
theorem dX6_records_9 : decode cX6_records 9 = .ok (.istore_n 1, 1) := by decide +kernel
theorem dX6_records_10 : decode cX6_records 10 = .ok (.iload_n 1, 1) := by decide +kernel
theorem dX6_records_11 : decode cX6_records 11 = .ok (.iconst 5, 1) := by decide +kernel
theorem dX6_records_12 : decode cX6_records 12 = .ok (.if_icmp .ge 17, 3) := by decide +kernel
theorem dX6_records_15 : decode cX6_records 15 = .ok (.aload_n 0, 1) := by decide +kernel
theorem dX6_records_16 : decode cX6_records 16 = .ok (.iload_n 1, 1) := by decide +kernel
theorem dX6_records_17 : decode cX6_records 17 = .ok (.iconst 1, 1) := by decide +kernel
theorem dX6_records_18 : decode cX6_records 18 = .ok (.iadd, 1) := by decide +kernel
theorem dX6_records_19 : decode cX6_records 19 = .ok (.iload_n 1, 1) := by decide +kernel
theorem dX6_records_20 : decode cX6_records 20 = .ok (.invokevirtual 24, 3) := by decide +kernel
theorem dX6_records_23 : decode cX6_records 23 = .ok (.iinc 1 1, 3) := by decide +kernel
theorem dX6_records_26 : decode cX6_records 26 = .ok (.goto (-16), 3) := by decide +kernel
theorem dX6_records_29 : decode cX6_records 29 = .ok (.aload_n 0, 1) := by decide +kernel
theorem dX6_records_30 : decode cX6_records 30 = .ok (.dup, 1) := by decide +kernel
theorem dX6_records_31 : decode cX6_records 31 = .ok (.getfield 20, 3) := by decide +kernel
theorem dX6_records_34 : decode cX6_records 34 = .ok (.iconst 1, 1) := by decide +kernel
theorem dX6_records_35 : decode cX6_records 35 = .ok (.isub, 1) := by decide +kernel
theorem dX6_records_36 : decode cX6_records 36 = .ok (.putfield 20, 3) := by decide +kernel
theorem dX6_records_39 : decode cX6_records 39 = .ok (.aload_n 0, 1) := by decide +kernel
theorem dX6_records_40 : decode cX6_records 40 = .ok (.dup, 1) := by decide +kernel
theorem dX6_records_41 : decode cX6_records 41 = .ok (.getfield 20, 3) := by decide +kernel
theorem dX6_records_44 : decode cX6_records 44 = .ok (.iconst 1, 1) := by decide +kernel
theorem dX6_records_45 : decode cX6_records 45 = .ok (.iadd, 1) := by decide +kernel
theorem dX6_records_46 : decode cX6_records 46 = .ok (.putfield 20, 3) := by decide +kernel
theorem dX6_records_49 : decode cX6_records 49 = .ok (.aload_n 0, 1) := by decide +kernel
theorem dX6_records_50 : decode cX6_records 50 = .ok (.iconst 0, 1) := by decide +kernel
theorem dX6_records_51 : decode cX6_records 51 = .ok (.aload_n 0, 1) := by decide +kernel
theorem dX6_records_52 : decode cX6_records 52 = .ok (.getfield 20, 3) := by decide +kernel
theorem dX6_records_55 : decode cX6_records 55 = .ok (.invokevirtual 24, 3) := by decide +kernel
theorem dX6_records_58 : decode cX6_records 58 = .ok (.return_, 1) := by decide +kernel
theorem dX6_place_0 : decode cX6_place 0 = .ok (.iload_n 0, 1) := by decide +kernel
theorem dX6_place_1 : decode cX6_place 1 = .ok (.bipush 16, 2) := by decide +kernel
theorem dX6_place_3 : decode cX6_place 3 = .ok (.iadd, 1) := by decide +kernel
theorem dX6_place_4 : decode cX6_place 4 = .ok (.bipush 20, 2) := by decide +kernel
theorem dX6_place_6 : decode cX6_place 6 = .ok (.iload_n 1, 1) := by decide +kernel
theorem dX6_place_7 : decode cX6_place 7 = .ok (.imul, 1) := by decide +kernel
theorem dX6_place_8 : decode cX6_place 8 = .ok (.iadd, 1) := by decide +kernel
theorem dX6_place_9 : decode cX6_place 9 = .ok (.ireturn, 1) := by decide +kernel
theorem dX6_isStile_0 : decode cX6_isStile 0 = .ok (.iload_n 1, 1) := by decide +kernel
theorem dX6_isStile_1 : decode cX6_isStile 1 = .ok (.iconst 0, 1) := by decide +kernel
theorem dX6_isStile_2 : decode cX6_isStile 2 = .ok (.aload_n 0, 1) := by decide +kernel
theorem dX6_isStile_3 : decode cX6_isStile 3 = .ok (.getfield 7, 3) := by decide +kernel
theorem dX6_isStile_6 : decode cX6_isStile 6 = .ok (.iconst 3, 1) := by decide +kernel
theorem dX6_isStile_7 : decode cX6_isStile 7 = .ok (.iaload, 1) := by decide +kernel
theorem dX6_isStile_8 : decode cX6_isStile 8 = .ok (.iconst 1, 1) := by decide +kernel
theorem dX6_isStile_9 : decode cX6_isStile 9 = .ok (.isub, 1) := by decide +kernel
theorem dX6_isStile_10 : decode cX6_isStile 10 = .ok (.invokestatic 28, 3) := by decide +kernel
theorem dX6_isStile_13 : decode cX6_isStile 13 = .ok (.ireturn, 1) := by decide +kernel
theorem dX6_isHall_0 : decode cX6_isHall 0 = .ok (.iload_n 0, 1) := by decide +kernel
theorem dX6_isHall_1 : decode cX6_isHall 1 = .ok (.iconst 1, 1) := by decide +kernel
theorem dX6_isHall_2 : decode cX6_isHall 2 = .ok (.iconst 5, 1) := by decide +kernel
theorem dX6_isHall_3 : decode cX6_isHall 3 = .ok (.invokestatic 28, 3) := by decide +kernel
theorem dX6_isHall_6 : decode cX6_isHall 6 = .ok (.ireturn, 1) := by decide +kernel
theorem dX6_counted_0 : decode cX6_counted 0 = .ok (.aload_n 0, 1) := by decide +kernel
theorem dX6_counted_1 : decode cX6_counted 1 = .ok (.getfield 7, 3) := by decide +kernel
theorem dX6_counted_4 : decode cX6_counted 4 = .ok (.iload_n 1, 1) := by decide +kernel
theorem dX6_counted_5 : decode cX6_counted 5 = .ok (.iconst 4, 1) := by decide +kernel
theorem dX6_counted_6 : decode cX6_counted 6 = .ok (.iadd, 1) := by decide +kernel
theorem dX6_counted_7 : decode cX6_counted 7 = .ok (.iconst 4, 1) := by decide +kernel
theorem dX6_counted_8 : decode cX6_counted 8 = .ok (.iload_n 2, 1) := by decide +kernel
theorem dX6_counted_9 : decode cX6_counted 9 = .ok (.imul, 1) := by decide +kernel
theorem dX6_counted_10 : decode cX6_counted 10 = .ok (.iadd, 1) := by decide +kernel
theorem dX6_counted_11 : decode cX6_counted 11 = .ok (.iaload, 1) := by decide +kernel
theorem dX6_counted_12 : decode cX6_counted 12 = .ok (.ireturn, 1) := by decide +kernel
theorem dX6_apart_0 : decode cX6_apart 0 = .ok (.iload_n 0, 1) := by decide +kernel
theorem dX6_apart_1 : decode cX6_apart 1 = .ok (.iload_n 1, 1) := by decide +kernel
theorem dX6_apart_2 : decode cX6_apart 2 = .ok (.if_icmp .le 9, 3) := by decide +kernel
theorem dX6_apart_5 : decode cX6_apart 5 = .ok (.iload_n 0, 1) := by decide +kernel
theorem dX6_apart_6 : decode cX6_apart 6 = .ok (.iload_n 1, 1) := by decide +kernel
theorem dX6_apart_7 : decode cX6_apart 7 = .ok (.isub, 1) := by decide +kernel
theorem dX6_apart_8 : decode cX6_apart 8 = .ok (.goto 6, 3) := by decide +kernel
theorem dX6_apart_11 : decode cX6_apart 11 = .ok (.iload_n 1, 1) := by decide +kernel
theorem dX6_apart_12 : decode cX6_apart 12 = .ok (.iload_n 0, 1) := by decide +kernel
theorem dX6_apart_13 : decode cX6_apart 13 = .ok (.isub, 1) := by decide +kernel
theorem dX6_apart_14 : decode cX6_apart 14 = .ok (.ireturn, 1) := by decide +kernel
theorem dX6_gap_0 : decode cX6_gap 0 = .ok (.iconst 0, 1) := by decide +kernel
theorem dX6_gap_1 : decode cX6_gap 1 = .ok (.iload_n 1, 1) := by decide +kernel
theorem dX6_gap_2 : decode cX6_gap 2 = .ok (.invokestatic 32, 3) := by decide +kernel
theorem dX6_gap_5 : decode cX6_gap 5 = .ok (.istore_n 2, 1) := by decide +kernel
theorem dX6_gap_6 : decode cX6_gap 6 = .ok (.aload_n 0, 1) := by decide +kernel
theorem dX6_gap_7 : decode cX6_gap 7 = .ok (.iload_n 2, 1) := by decide +kernel
theorem dX6_gap_8 : decode cX6_gap 8 = .ok (.iconst 0, 1) := by decide +kernel
theorem dX6_gap_9 : decode cX6_gap 9 = .ok (.invokevirtual 36, 3) := by decide +kernel
theorem dX6_gap_12 : decode cX6_gap 12 = .ok (.aload_n 0, 1) := by decide +kernel
theorem dX6_gap_13 : decode cX6_gap 13 = .ok (.iload_n 2, 1) := by decide +kernel
theorem dX6_gap_14 : decode cX6_gap 14 = .ok (.iconst 3, 1) := by decide +kernel
theorem dX6_gap_15 : decode cX6_gap 15 = .ok (.invokevirtual 36, 3) := by decide +kernel
theorem dX6_gap_18 : decode cX6_gap 18 = .ok (.invokestatic 39, 3) := by decide +kernel
theorem dX6_gap_21 : decode cX6_gap 21 = .ok (.aload_n 0, 1) := by decide +kernel
theorem dX6_gap_22 : decode cX6_gap 22 = .ok (.iload_n 2, 1) := by decide +kernel
theorem dX6_gap_23 : decode cX6_gap 23 = .ok (.iconst 1, 1) := by decide +kernel
theorem dX6_gap_24 : decode cX6_gap 24 = .ok (.invokevirtual 36, 3) := by decide +kernel
theorem dX6_gap_27 : decode cX6_gap 27 = .ok (.aload_n 0, 1) := by decide +kernel
theorem dX6_gap_28 : decode cX6_gap 28 = .ok (.iload_n 2, 1) := by decide +kernel
theorem dX6_gap_29 : decode cX6_gap 29 = .ok (.iconst 2, 1) := by decide +kernel
theorem dX6_gap_30 : decode cX6_gap 30 = .ok (.invokevirtual 36, 3) := by decide +kernel
theorem dX6_gap_33 : decode cX6_gap 33 = .ok (.invokestatic 39, 3) := by decide +kernel
theorem dX6_gap_36 : decode cX6_gap 36 = .ok (.iadd, 1) := by decide +kernel
theorem dX6_gap_37 : decode cX6_gap 37 = .ok (.ireturn, 1) := by decide +kernel
theorem dX6_barred_0 : decode cX6_barred 0 = .ok (.aload_n 0, 1) := by decide +kernel
theorem dX6_barred_1 : decode cX6_barred 1 = .ok (.getfield 7, 3) := by decide +kernel
theorem dX6_barred_4 : decode cX6_barred 4 = .ok (.iload_n 1, 1) := by decide +kernel
theorem dX6_barred_5 : decode cX6_barred 5 = .ok (.iconst 2, 1) := by decide +kernel
theorem dX6_barred_6 : decode cX6_barred 6 = .ok (.iadd, 1) := by decide +kernel
theorem dX6_barred_7 : decode cX6_barred 7 = .ok (.iaload, 1) := by decide +kernel
theorem dX6_barred_8 : decode cX6_barred 8 = .ok (.istore_n 3, 1) := by decide +kernel
theorem dX6_barred_9 : decode cX6_barred 9 = .ok (.aload_n 0, 1) := by decide +kernel
theorem dX6_barred_10 : decode cX6_barred 10 = .ok (.getfield 7, 3) := by decide +kernel
theorem dX6_barred_13 : decode cX6_barred 13 = .ok (.iload_n 1, 1) := by decide +kernel
theorem dX6_barred_14 : decode cX6_barred 14 = .ok (.iconst 3, 1) := by decide +kernel
theorem dX6_barred_15 : decode cX6_barred 15 = .ok (.iadd, 1) := by decide +kernel
theorem dX6_barred_16 : decode cX6_barred 16 = .ok (.iaload, 1) := by decide +kernel
theorem dX6_barred_17 : decode cX6_barred 17 = .ok (.ifCond .le 7, 3) := by decide +kernel
theorem dX6_barred_20 : decode cX6_barred 20 = .ok (.iconst 1, 1) := by decide +kernel
theorem dX6_barred_21 : decode cX6_barred 21 = .ok (.goto 25, 3) := by decide +kernel
theorem dX6_barred_24 : decode cX6_barred 24 = .ok (.iload_n 3, 1) := by decide +kernel
theorem dX6_barred_25 : decode cX6_barred 25 = .ok (.ifCond .eq 16, 3) := by decide +kernel
theorem dX6_barred_28 : decode cX6_barred 28 = .ok (.iload_n 3, 1) := by decide +kernel
theorem dX6_barred_29 : decode cX6_barred 29 = .ok (.iload_n 2, 1) := by decide +kernel
theorem dX6_barred_30 : decode cX6_barred 30 = .ok (.ifCond .eq 7, 3) := by decide +kernel
theorem dX6_barred_33 : decode cX6_barred 33 = .ok (.iconst 1, 1) := by decide +kernel
theorem dX6_barred_34 : decode cX6_barred 34 = .ok (.goto 4, 3) := by decide +kernel
theorem dX6_barred_37 : decode cX6_barred 37 = .ok (.iconst 2, 1) := by decide +kernel
theorem dX6_barred_38 : decode cX6_barred 38 = .ok (.if_icmp .ne 7, 3) := by decide +kernel
theorem dX6_barred_41 : decode cX6_barred 41 = .ok (.iconst 0, 1) := by decide +kernel
theorem dX6_barred_42 : decode cX6_barred 42 = .ok (.goto 4, 3) := by decide +kernel
theorem dX6_barred_45 : decode cX6_barred 45 = .ok (.iconst 2, 1) := by decide +kernel
theorem dX6_barred_46 : decode cX6_barred 46 = .ok (.ireturn, 1) := by decide +kernel
theorem dX6_from_0 : decode cX6_from 0 = .ok (.iload_n 2, 1) := by decide +kernel
theorem dX6_from_1 : decode cX6_from 1 = .ok (.ifCond .eq 12, 3) := by decide +kernel
theorem dX6_from_4 : decode cX6_from 4 = .ok (.aload_n 0, 1) := by decide +kernel
theorem dX6_from_5 : decode cX6_from 5 = .ok (.getfield 7, 3) := by decide +kernel
theorem dX6_from_8 : decode cX6_from 8 = .ok (.iload_n 1, 1) := by decide +kernel
theorem dX6_from_9 : decode cX6_from 9 = .ok (.iaload, 1) := by decide +kernel
theorem dX6_from_10 : decode cX6_from 10 = .ok (.goto 11, 3) := by decide +kernel
theorem dX6_from_13 : decode cX6_from 13 = .ok (.aload_n 0, 1) := by decide +kernel
theorem dX6_from_14 : decode cX6_from 14 = .ok (.getfield 7, 3) := by decide +kernel
theorem dX6_from_17 : decode cX6_from 17 = .ok (.iload_n 1, 1) := by decide +kernel
theorem dX6_from_18 : decode cX6_from 18 = .ok (.iconst 1, 1) := by decide +kernel
theorem dX6_from_19 : decode cX6_from 19 = .ok (.iadd, 1) := by decide +kernel
theorem dX6_from_20 : decode cX6_from 20 = .ok (.iaload, 1) := by decide +kernel
theorem dX6_from_21 : decode cX6_from 21 = .ok (.ireturn, 1) := by decide +kernel
theorem dX6_to_0 : decode cX6_to 0 = .ok (.iload_n 2, 1) := by decide +kernel
theorem dX6_to_1 : decode cX6_to 1 = .ok (.ifCond .eq 14, 3) := by decide +kernel
theorem dX6_to_4 : decode cX6_to 4 = .ok (.aload_n 0, 1) := by decide +kernel
theorem dX6_to_5 : decode cX6_to 5 = .ok (.getfield 7, 3) := by decide +kernel
theorem dX6_to_8 : decode cX6_to 8 = .ok (.iload_n 1, 1) := by decide +kernel
theorem dX6_to_9 : decode cX6_to 9 = .ok (.iconst 1, 1) := by decide +kernel
theorem dX6_to_10 : decode cX6_to 10 = .ok (.iadd, 1) := by decide +kernel
theorem dX6_to_11 : decode cX6_to 11 = .ok (.iaload, 1) := by decide +kernel
theorem dX6_to_12 : decode cX6_to 12 = .ok (.goto 9, 3) := by decide +kernel
theorem dX6_to_15 : decode cX6_to 15 = .ok (.aload_n 0, 1) := by decide +kernel
theorem dX6_to_16 : decode cX6_to 16 = .ok (.getfield 7, 3) := by decide +kernel
theorem dX6_to_19 : decode cX6_to 19 = .ok (.iload_n 1, 1) := by decide +kernel
theorem dX6_to_20 : decode cX6_to 20 = .ok (.iaload, 1) := by decide +kernel
theorem dX6_to_21 : decode cX6_to 21 = .ok (.ireturn, 1) := by decide +kernel
theorem dX6_why_0 : decode cX6_why 0 = .ok (.iload_n 1, 1) := by decide +kernel
theorem dX6_why_1 : decode cX6_why 1 = .ok (.iload_n 2, 1) := by decide +kernel
theorem dX6_why_2 : decode cX6_why 2 = .ok (.invokestatic 32, 3) := by decide +kernel
theorem dX6_why_5 : decode cX6_why 5 = .ok (.istore 5, 2) := by decide +kernel
theorem dX6_why_7 : decode cX6_why 7 = .ok (.aload_n 0, 1) := by decide +kernel
theorem dX6_why_8 : decode cX6_why 8 = .ok (.iload 5, 2) := by decide +kernel
theorem dX6_why_10 : decode cX6_why 10 = .ok (.iload_n 3, 1) := by decide +kernel
theorem dX6_why_11 : decode cX6_why 11 = .ok (.invokevirtual 42, 3) := by decide +kernel
theorem dX6_why_14 : decode cX6_why 14 = .ok (.istore 6, 2) := by decide +kernel
theorem dX6_why_16 : decode cX6_why 16 = .ok (.aload_n 0, 1) := by decide +kernel
theorem dX6_why_17 : decode cX6_why 17 = .ok (.iload 5, 2) := by decide +kernel
theorem dX6_why_19 : decode cX6_why 19 = .ok (.iload_n 3, 1) := by decide +kernel
theorem dX6_why_20 : decode cX6_why 20 = .ok (.invokevirtual 46, 3) := by decide +kernel
theorem dX6_why_23 : decode cX6_why 23 = .ok (.istore 7, 2) := by decide +kernel
theorem dX6_why_25 : decode cX6_why 25 = .ok (.aload_n 0, 1) := by decide +kernel
theorem dX6_why_26 : decode cX6_why 26 = .ok (.iload 5, 2) := by decide +kernel
theorem dX6_why_28 : decode cX6_why 28 = .ok (.iload_n 3, 1) := by decide +kernel
theorem dX6_why_29 : decode cX6_why 29 = .ok (.invokevirtual 49, 3) := by decide +kernel
theorem dX6_why_32 : decode cX6_why 32 = .ok (.istore 8, 2) := by decide +kernel
theorem dX6_why_34 : decode cX6_why 34 = .ok (.iload 8, 2) := by decide +kernel
theorem dX6_why_36 : decode cX6_why 36 = .ok (.ifCond .le 6, 3) := by decide +kernel
theorem dX6_why_39 : decode cX6_why 39 = .ok (.iload 8, 2) := by decide +kernel
theorem dX6_why_41 : decode cX6_why 41 = .ok (.ireturn, 1) := by decide +kernel
theorem dX6_why_42 : decode cX6_why 42 = .ok (.iload 6, 2) := by decide +kernel
theorem dX6_why_44 : decode cX6_why 44 = .ok (.ifCond .eq 24, 3) := by decide +kernel
theorem dX6_why_47 : decode cX6_why 47 = .ok (.aload_n 0, 1) := by decide +kernel
theorem dX6_why_48 : decode cX6_why 48 = .ok (.getfield 7, 3) := by decide +kernel
theorem dX6_why_51 : decode cX6_why 51 = .ok (.iload_n 1, 1) := by decide +kernel
theorem dX6_why_52 : decode cX6_why 52 = .ok (.bipush 10, 2) := by decide +kernel
theorem dX6_why_54 : decode cX6_why 54 = .ok (.iadd, 1) := by decide +kernel
theorem dX6_why_55 : decode cX6_why 55 = .ok (.iload 6, 2) := by decide +kernel
theorem dX6_why_57 : decode cX6_why 57 = .ok (.iadd, 1) := by decide +kernel
theorem dX6_why_58 : decode cX6_why 58 = .ok (.iaload, 1) := by decide +kernel
theorem dX6_why_59 : decode cX6_why 59 = .ok (.iload 4, 2) := by decide +kernel
theorem dX6_why_61 : decode cX6_why 61 = .ok (.if_icmp .ge 7, 3) := by decide +kernel
theorem dX6_why_64 : decode cX6_why 64 = .ok (.iconst 3, 1) := by decide +kernel
theorem dX6_why_65 : decode cX6_why 65 = .ok (.goto 42, 3) := by decide +kernel
theorem dX6_why_68 : decode cX6_why 68 = .ok (.iload 7, 2) := by decide +kernel
theorem dX6_why_70 : decode cX6_why 70 = .ok (.ifCond .eq 36, 3) := by decide +kernel
theorem dX6_why_73 : decode cX6_why 73 = .ok (.aload_n 0, 1) := by decide +kernel
theorem dX6_why_74 : decode cX6_why 74 = .ok (.getfield 7, 3) := by decide +kernel
theorem dX6_why_77 : decode cX6_why 77 = .ok (.iload_n 1, 1) := by decide +kernel
theorem dX6_why_78 : decode cX6_why 78 = .ok (.bipush 10, 2) := by decide +kernel
theorem dX6_why_80 : decode cX6_why 80 = .ok (.iadd, 1) := by decide +kernel
theorem dX6_why_81 : decode cX6_why 81 = .ok (.iload 7, 2) := by decide +kernel
theorem dX6_why_83 : decode cX6_why 83 = .ok (.iadd, 1) := by decide +kernel
theorem dX6_why_84 : decode cX6_why 84 = .ok (.iaload, 1) := by decide +kernel
theorem dX6_why_85 : decode cX6_why 85 = .ok (.iload 4, 2) := by decide +kernel
theorem dX6_why_87 : decode cX6_why 87 = .ok (.iadd, 1) := by decide +kernel
theorem dX6_why_88 : decode cX6_why 88 = .ok (.aload_n 0, 1) := by decide +kernel
theorem dX6_why_89 : decode cX6_why 89 = .ok (.getfield 7, 3) := by decide +kernel
theorem dX6_why_92 : decode cX6_why 92 = .ok (.iload_n 1, 1) := by decide +kernel
theorem dX6_why_93 : decode cX6_why 93 = .ok (.iconst 4, 1) := by decide +kernel
theorem dX6_why_94 : decode cX6_why 94 = .ok (.iadd, 1) := by decide +kernel
theorem dX6_why_95 : decode cX6_why 95 = .ok (.iload 7, 2) := by decide +kernel
theorem dX6_why_97 : decode cX6_why 97 = .ok (.iadd, 1) := by decide +kernel
theorem dX6_why_98 : decode cX6_why 98 = .ok (.iaload, 1) := by decide +kernel
theorem dX6_why_99 : decode cX6_why 99 = .ok (.if_icmp .le 7, 3) := by decide +kernel
theorem dX6_why_102 : decode cX6_why 102 = .ok (.iconst 4, 1) := by decide +kernel
theorem dX6_why_103 : decode cX6_why 103 = .ok (.goto 4, 3) := by decide +kernel
theorem dX6_why_106 : decode cX6_why 106 = .ok (.iconst 0, 1) := by decide +kernel
theorem dX6_why_107 : decode cX6_why 107 = .ok (.ireturn, 1) := by decide +kernel
theorem dX6_counts_0 : decode cX6_counts 0 = .ok (.iload_n 1, 1) := by decide +kernel
theorem dX6_counts_1 : decode cX6_counts 1 = .ok (.iconst 4, 1) := by decide +kernel
theorem dX6_counts_2 : decode cX6_counts 2 = .ok (.iadd, 1) := by decide +kernel
theorem dX6_counts_3 : decode cX6_counts 3 = .ok (.iconst 4, 1) := by decide +kernel
theorem dX6_counts_4 : decode cX6_counts 4 = .ok (.iload_n 2, 1) := by decide +kernel
theorem dX6_counts_5 : decode cX6_counts 5 = .ok (.imul, 1) := by decide +kernel
theorem dX6_counts_6 : decode cX6_counts 6 = .ok (.iadd, 1) := by decide +kernel
theorem dX6_counts_7 : decode cX6_counts 7 = .ok (.istore 4, 2) := by decide +kernel
theorem dX6_counts_9 : decode cX6_counts 9 = .ok (.aload_n 0, 1) := by decide +kernel
theorem dX6_counts_10 : decode cX6_counts 10 = .ok (.getfield 7, 3) := by decide +kernel
theorem dX6_counts_13 : decode cX6_counts 13 = .ok (.iload 4, 2) := by decide +kernel
theorem dX6_counts_15 : decode cX6_counts 15 = .ok (.iconst 1, 1) := by decide +kernel
theorem dX6_counts_16 : decode cX6_counts 16 = .ok (.iadd, 1) := by decide +kernel
theorem dX6_counts_17 : decode cX6_counts 17 = .ok (.iaload, 1) := by decide +kernel
theorem dX6_counts_18 : decode cX6_counts 18 = .ok (.istore 5, 2) := by decide +kernel
theorem dX6_counts_20 : decode cX6_counts 20 = .ok (.iload 5, 2) := by decide +kernel
theorem dX6_counts_22 : decode cX6_counts 22 = .ok (.ifCond .ne 7, 3) := by decide +kernel
theorem dX6_counts_25 : decode cX6_counts 25 = .ok (.iconst 0, 1) := by decide +kernel
theorem dX6_counts_26 : decode cX6_counts 26 = .ok (.goto 30, 3) := by decide +kernel
theorem dX6_counts_29 : decode cX6_counts 29 = .ok (.aload_n 0, 1) := by decide +kernel
theorem dX6_counts_30 : decode cX6_counts 30 = .ok (.getfield 7, 3) := by decide +kernel
theorem dX6_counts_33 : decode cX6_counts 33 = .ok (.iload 4, 2) := by decide +kernel
theorem dX6_counts_35 : decode cX6_counts 35 = .ok (.iconst 2, 1) := by decide +kernel
theorem dX6_counts_36 : decode cX6_counts 36 = .ok (.iadd, 1) := by decide +kernel
theorem dX6_counts_37 : decode cX6_counts 37 = .ok (.iaload, 1) := by decide +kernel
theorem dX6_counts_38 : decode cX6_counts 38 = .ok (.iload_n 3, 1) := by decide +kernel
theorem dX6_counts_39 : decode cX6_counts 39 = .ok (.iadd, 1) := by decide +kernel
theorem dX6_counts_40 : decode cX6_counts 40 = .ok (.iload 5, 2) := by decide +kernel
theorem dX6_counts_42 : decode cX6_counts 42 = .ok (.idiv, 1) := by decide +kernel
theorem dX6_counts_43 : decode cX6_counts 43 = .ok (.aload_n 0, 1) := by decide +kernel
theorem dX6_counts_44 : decode cX6_counts 44 = .ok (.getfield 7, 3) := by decide +kernel
theorem dX6_counts_47 : decode cX6_counts 47 = .ok (.iload 4, 2) := by decide +kernel
theorem dX6_counts_49 : decode cX6_counts 49 = .ok (.iconst 2, 1) := by decide +kernel
theorem dX6_counts_50 : decode cX6_counts 50 = .ok (.iadd, 1) := by decide +kernel
theorem dX6_counts_51 : decode cX6_counts 51 = .ok (.iaload, 1) := by decide +kernel
theorem dX6_counts_52 : decode cX6_counts 52 = .ok (.iload 5, 2) := by decide +kernel
theorem dX6_counts_54 : decode cX6_counts 54 = .ok (.idiv, 1) := by decide +kernel
theorem dX6_counts_55 : decode cX6_counts 55 = .ok (.isub, 1) := by decide +kernel
theorem dX6_counts_56 : decode cX6_counts 56 = .ok (.istore 6, 2) := by decide +kernel
theorem dX6_counts_58 : decode cX6_counts 58 = .ok (.aload_n 0, 1) := by decide +kernel
theorem dX6_counts_59 : decode cX6_counts 59 = .ok (.getfield 7, 3) := by decide +kernel
theorem dX6_counts_62 : decode cX6_counts 62 = .ok (.iload 4, 2) := by decide +kernel
theorem dX6_counts_64 : decode cX6_counts 64 = .ok (.iconst 2, 1) := by decide +kernel
theorem dX6_counts_65 : decode cX6_counts 65 = .ok (.iadd, 1) := by decide +kernel
theorem dX6_counts_66 : decode cX6_counts 66 = .ok (.dup2, 1) := by decide +kernel
theorem dX6_counts_67 : decode cX6_counts 67 = .ok (.iaload, 1) := by decide +kernel
theorem dX6_counts_68 : decode cX6_counts 68 = .ok (.iload_n 3, 1) := by decide +kernel
theorem dX6_counts_69 : decode cX6_counts 69 = .ok (.iadd, 1) := by decide +kernel
theorem dX6_counts_70 : decode cX6_counts 70 = .ok (.iastore, 1) := by decide +kernel
theorem dX6_counts_71 : decode cX6_counts 71 = .ok (.aload_n 0, 1) := by decide +kernel
theorem dX6_counts_72 : decode cX6_counts 72 = .ok (.getfield 7, 3) := by decide +kernel
theorem dX6_counts_75 : decode cX6_counts 75 = .ok (.iload 4, 2) := by decide +kernel
theorem dX6_counts_77 : decode cX6_counts 77 = .ok (.iconst 3, 1) := by decide +kernel
theorem dX6_counts_78 : decode cX6_counts 78 = .ok (.iadd, 1) := by decide +kernel
theorem dX6_counts_79 : decode cX6_counts 79 = .ok (.dup2, 1) := by decide +kernel
theorem dX6_counts_80 : decode cX6_counts 80 = .ok (.iaload, 1) := by decide +kernel
theorem dX6_counts_81 : decode cX6_counts 81 = .ok (.iload 6, 2) := by decide +kernel
theorem dX6_counts_83 : decode cX6_counts 83 = .ok (.iadd, 1) := by decide +kernel
theorem dX6_counts_84 : decode cX6_counts 84 = .ok (.iastore, 1) := by decide +kernel
theorem dX6_counts_85 : decode cX6_counts 85 = .ok (.aload_n 0, 1) := by decide +kernel
theorem dX6_counts_86 : decode cX6_counts 86 = .ok (.getfield 7, 3) := by decide +kernel
theorem dX6_counts_89 : decode cX6_counts 89 = .ok (.iload 4, 2) := by decide +kernel
theorem dX6_counts_91 : decode cX6_counts 91 = .ok (.dup2, 1) := by decide +kernel
theorem dX6_counts_92 : decode cX6_counts 92 = .ok (.iaload, 1) := by decide +kernel
theorem dX6_counts_93 : decode cX6_counts 93 = .ok (.iload_n 3, 1) := by decide +kernel
theorem dX6_counts_94 : decode cX6_counts 94 = .ok (.iload 6, 2) := by decide +kernel
theorem dX6_counts_96 : decode cX6_counts 96 = .ok (.isub, 1) := by decide +kernel
theorem dX6_counts_97 : decode cX6_counts 97 = .ok (.iadd, 1) := by decide +kernel
theorem dX6_counts_98 : decode cX6_counts 98 = .ok (.iastore, 1) := by decide +kernel
theorem dX6_counts_99 : decode cX6_counts 99 = .ok (.return_, 1) := by decide +kernel
theorem dX6_passes_0 : decode cX6_passes 0 = .ok (.iload_n 1, 1) := by decide +kernel
theorem dX6_passes_1 : decode cX6_passes 1 = .ok (.iload_n 2, 1) := by decide +kernel
theorem dX6_passes_2 : decode cX6_passes 2 = .ok (.invokestatic 32, 3) := by decide +kernel
theorem dX6_passes_5 : decode cX6_passes 5 = .ok (.istore 5, 2) := by decide +kernel
theorem dX6_passes_7 : decode cX6_passes 7 = .ok (.aload_n 0, 1) := by decide +kernel
theorem dX6_passes_8 : decode cX6_passes 8 = .ok (.iload 5, 2) := by decide +kernel
theorem dX6_passes_10 : decode cX6_passes 10 = .ok (.iload_n 3, 1) := by decide +kernel
theorem dX6_passes_11 : decode cX6_passes 11 = .ok (.invokevirtual 42, 3) := by decide +kernel
theorem dX6_passes_14 : decode cX6_passes 14 = .ok (.istore 6, 2) := by decide +kernel
theorem dX6_passes_16 : decode cX6_passes 16 = .ok (.aload_n 0, 1) := by decide +kernel
theorem dX6_passes_17 : decode cX6_passes 17 = .ok (.iload 5, 2) := by decide +kernel
theorem dX6_passes_19 : decode cX6_passes 19 = .ok (.iload_n 3, 1) := by decide +kernel
theorem dX6_passes_20 : decode cX6_passes 20 = .ok (.invokevirtual 46, 3) := by decide +kernel
theorem dX6_passes_23 : decode cX6_passes 23 = .ok (.istore 7, 2) := by decide +kernel
theorem dX6_passes_25 : decode cX6_passes 25 = .ok (.aload_n 0, 1) := by decide +kernel
theorem dX6_passes_26 : decode cX6_passes 26 = .ok (.getfield 7, 3) := by decide +kernel
theorem dX6_passes_29 : decode cX6_passes 29 = .ok (.iload_n 1, 1) := by decide +kernel
theorem dX6_passes_30 : decode cX6_passes 30 = .ok (.bipush 10, 2) := by decide +kernel
theorem dX6_passes_32 : decode cX6_passes 32 = .ok (.iadd, 1) := by decide +kernel
theorem dX6_passes_33 : decode cX6_passes 33 = .ok (.iload 6, 2) := by decide +kernel
theorem dX6_passes_35 : decode cX6_passes 35 = .ok (.iadd, 1) := by decide +kernel
theorem dX6_passes_36 : decode cX6_passes 36 = .ok (.dup2, 1) := by decide +kernel
theorem dX6_passes_37 : decode cX6_passes 37 = .ok (.iaload, 1) := by decide +kernel
theorem dX6_passes_38 : decode cX6_passes 38 = .ok (.iload 6, 2) := by decide +kernel
theorem dX6_passes_40 : decode cX6_passes 40 = .ok (.ifCond .ne 7, 3) := by decide +kernel
theorem dX6_passes_43 : decode cX6_passes 43 = .ok (.iconst 0, 1) := by decide +kernel
theorem dX6_passes_44 : decode cX6_passes 44 = .ok (.goto 5, 3) := by decide +kernel
theorem dX6_passes_47 : decode cX6_passes 47 = .ok (.iload 4, 2) := by decide +kernel
theorem dX6_passes_49 : decode cX6_passes 49 = .ok (.isub, 1) := by decide +kernel
theorem dX6_passes_50 : decode cX6_passes 50 = .ok (.iastore, 1) := by decide +kernel
theorem dX6_passes_51 : decode cX6_passes 51 = .ok (.aload_n 0, 1) := by decide +kernel
theorem dX6_passes_52 : decode cX6_passes 52 = .ok (.getfield 7, 3) := by decide +kernel
theorem dX6_passes_55 : decode cX6_passes 55 = .ok (.iload_n 1, 1) := by decide +kernel
theorem dX6_passes_56 : decode cX6_passes 56 = .ok (.bipush 10, 2) := by decide +kernel
theorem dX6_passes_58 : decode cX6_passes 58 = .ok (.iadd, 1) := by decide +kernel
theorem dX6_passes_59 : decode cX6_passes 59 = .ok (.iload 7, 2) := by decide +kernel
theorem dX6_passes_61 : decode cX6_passes 61 = .ok (.iadd, 1) := by decide +kernel
theorem dX6_passes_62 : decode cX6_passes 62 = .ok (.dup2, 1) := by decide +kernel
theorem dX6_passes_63 : decode cX6_passes 63 = .ok (.iaload, 1) := by decide +kernel
theorem dX6_passes_64 : decode cX6_passes 64 = .ok (.iload 7, 2) := by decide +kernel
theorem dX6_passes_66 : decode cX6_passes 66 = .ok (.ifCond .ne 7, 3) := by decide +kernel
theorem dX6_passes_69 : decode cX6_passes 69 = .ok (.iconst 0, 1) := by decide +kernel
theorem dX6_passes_70 : decode cX6_passes 70 = .ok (.goto 5, 3) := by decide +kernel
theorem dX6_passes_73 : decode cX6_passes 73 = .ok (.iload 4, 2) := by decide +kernel
theorem dX6_passes_75 : decode cX6_passes 75 = .ok (.iadd, 1) := by decide +kernel
theorem dX6_passes_76 : decode cX6_passes 76 = .ok (.iastore, 1) := by decide +kernel
theorem dX6_passes_77 : decode cX6_passes 77 = .ok (.aload_n 0, 1) := by decide +kernel
theorem dX6_passes_78 : decode cX6_passes 78 = .ok (.iload 5, 2) := by decide +kernel
theorem dX6_passes_80 : decode cX6_passes 80 = .ok (.iload_n 3, 1) := by decide +kernel
theorem dX6_passes_81 : decode cX6_passes 81 = .ok (.ifCond .eq 7, 3) := by decide +kernel
theorem dX6_passes_84 : decode cX6_passes 84 = .ok (.iconst 0, 1) := by decide +kernel
theorem dX6_passes_85 : decode cX6_passes 85 = .ok (.goto 4, 3) := by decide +kernel
theorem dX6_passes_88 : decode cX6_passes 88 = .ok (.iconst 2, 1) := by decide +kernel
theorem dX6_passes_89 : decode cX6_passes 89 = .ok (.iload 4, 2) := by decide +kernel
theorem dX6_passes_91 : decode cX6_passes 91 = .ok (.invokevirtual 52, 3) := by decide +kernel
theorem dX6_passes_94 : decode cX6_passes 94 = .ok (.aload_n 0, 1) := by decide +kernel
theorem dX6_passes_95 : decode cX6_passes 95 = .ok (.iload 5, 2) := by decide +kernel
theorem dX6_passes_97 : decode cX6_passes 97 = .ok (.iload_n 3, 1) := by decide +kernel
theorem dX6_passes_98 : decode cX6_passes 98 = .ok (.ifCond .eq 7, 3) := by decide +kernel
theorem dX6_passes_101 : decode cX6_passes 101 = .ok (.iconst 3, 1) := by decide +kernel
theorem dX6_passes_102 : decode cX6_passes 102 = .ok (.goto 4, 3) := by decide +kernel
theorem dX6_passes_105 : decode cX6_passes 105 = .ok (.iconst 1, 1) := by decide +kernel
theorem dX6_passes_106 : decode cX6_passes 106 = .ok (.iload 4, 2) := by decide +kernel
theorem dX6_passes_108 : decode cX6_passes 108 = .ok (.invokevirtual 52, 3) := by decide +kernel
theorem dX6_passes_111 : decode cX6_passes 111 = .ok (.return_, 1) := by decide +kernel
theorem dX6_atMost_0 : decode cX6_atMost 0 = .ok (.iload_n 1, 1) := by decide +kernel
theorem dX6_atMost_1 : decode cX6_atMost 1 = .ok (.iload_n 2, 1) := by decide +kernel
theorem dX6_atMost_2 : decode cX6_atMost 2 = .ok (.invokestatic 32, 3) := by decide +kernel
theorem dX6_atMost_5 : decode cX6_atMost 5 = .ok (.istore 5, 2) := by decide +kernel
theorem dX6_atMost_7 : decode cX6_atMost 7 = .ok (.aload_n 0, 1) := by decide +kernel
theorem dX6_atMost_8 : decode cX6_atMost 8 = .ok (.iload 5, 2) := by decide +kernel
theorem dX6_atMost_10 : decode cX6_atMost 10 = .ok (.iload_n 3, 1) := by decide +kernel
theorem dX6_atMost_11 : decode cX6_atMost 11 = .ok (.invokevirtual 42, 3) := by decide +kernel
theorem dX6_atMost_14 : decode cX6_atMost 14 = .ok (.istore 6, 2) := by decide +kernel
theorem dX6_atMost_16 : decode cX6_atMost 16 = .ok (.aload_n 0, 1) := by decide +kernel
theorem dX6_atMost_17 : decode cX6_atMost 17 = .ok (.iload 5, 2) := by decide +kernel
theorem dX6_atMost_19 : decode cX6_atMost 19 = .ok (.iload_n 3, 1) := by decide +kernel
theorem dX6_atMost_20 : decode cX6_atMost 20 = .ok (.invokevirtual 46, 3) := by decide +kernel
theorem dX6_atMost_23 : decode cX6_atMost 23 = .ok (.istore 7, 2) := by decide +kernel
theorem dX6_atMost_25 : decode cX6_atMost 25 = .ok (.aload_n 0, 1) := by decide +kernel
theorem dX6_atMost_26 : decode cX6_atMost 26 = .ok (.iload 5, 2) := by decide +kernel
theorem dX6_atMost_28 : decode cX6_atMost 28 = .ok (.iload_n 3, 1) := by decide +kernel
theorem dX6_atMost_29 : decode cX6_atMost 29 = .ok (.invokevirtual 49, 3) := by decide +kernel
theorem dX6_atMost_32 : decode cX6_atMost 32 = .ok (.ifCond .le 7, 3) := by decide +kernel
theorem dX6_atMost_35 : decode cX6_atMost 35 = .ok (.iconst 0, 1) := by decide +kernel
theorem dX6_atMost_36 : decode cX6_atMost 36 = .ok (.goto 5, 3) := by decide +kernel
theorem dX6_atMost_39 : decode cX6_atMost 39 = .ok (.iload 4, 2) := by decide +kernel
theorem dX6_atMost_41 : decode cX6_atMost 41 = .ok (.istore 8, 2) := by decide +kernel
theorem dX6_atMost_43 : decode cX6_atMost 43 = .ok (.iload 6, 2) := by decide +kernel
theorem dX6_atMost_45 : decode cX6_atMost 45 = .ok (.ifCond .eq 35, 3) := by decide +kernel
theorem dX6_atMost_48 : decode cX6_atMost 48 = .ok (.aload_n 0, 1) := by decide +kernel
theorem dX6_atMost_49 : decode cX6_atMost 49 = .ok (.getfield 7, 3) := by decide +kernel
theorem dX6_atMost_52 : decode cX6_atMost 52 = .ok (.iload_n 1, 1) := by decide +kernel
theorem dX6_atMost_53 : decode cX6_atMost 53 = .ok (.bipush 10, 2) := by decide +kernel
theorem dX6_atMost_55 : decode cX6_atMost 55 = .ok (.iadd, 1) := by decide +kernel
theorem dX6_atMost_56 : decode cX6_atMost 56 = .ok (.iload 6, 2) := by decide +kernel
theorem dX6_atMost_58 : decode cX6_atMost 58 = .ok (.iadd, 1) := by decide +kernel
theorem dX6_atMost_59 : decode cX6_atMost 59 = .ok (.iaload, 1) := by decide +kernel
theorem dX6_atMost_60 : decode cX6_atMost 60 = .ok (.iload 8, 2) := by decide +kernel
theorem dX6_atMost_62 : decode cX6_atMost 62 = .ok (.if_icmp .ge 18, 3) := by decide +kernel
theorem dX6_atMost_65 : decode cX6_atMost 65 = .ok (.aload_n 0, 1) := by decide +kernel
theorem dX6_atMost_66 : decode cX6_atMost 66 = .ok (.getfield 7, 3) := by decide +kernel
theorem dX6_atMost_69 : decode cX6_atMost 69 = .ok (.iload_n 1, 1) := by decide +kernel
theorem dX6_atMost_70 : decode cX6_atMost 70 = .ok (.bipush 10, 2) := by decide +kernel
theorem dX6_atMost_72 : decode cX6_atMost 72 = .ok (.iadd, 1) := by decide +kernel
theorem dX6_atMost_73 : decode cX6_atMost 73 = .ok (.iload 6, 2) := by decide +kernel
theorem dX6_atMost_75 : decode cX6_atMost 75 = .ok (.iadd, 1) := by decide +kernel
theorem dX6_atMost_76 : decode cX6_atMost 76 = .ok (.iaload, 1) := by decide +kernel
theorem dX6_atMost_77 : decode cX6_atMost 77 = .ok (.goto 5, 3) := by decide +kernel
theorem dX6_atMost_80 : decode cX6_atMost 80 = .ok (.iload 8, 2) := by decide +kernel
theorem dX6_atMost_82 : decode cX6_atMost 82 = .ok (.istore 8, 2) := by decide +kernel
theorem dX6_atMost_84 : decode cX6_atMost 84 = .ok (.aload_n 0, 1) := by decide +kernel
theorem dX6_atMost_85 : decode cX6_atMost 85 = .ok (.getfield 7, 3) := by decide +kernel
theorem dX6_atMost_88 : decode cX6_atMost 88 = .ok (.iload_n 1, 1) := by decide +kernel
theorem dX6_atMost_89 : decode cX6_atMost 89 = .ok (.iconst 4, 1) := by decide +kernel
theorem dX6_atMost_90 : decode cX6_atMost 90 = .ok (.iadd, 1) := by decide +kernel
theorem dX6_atMost_91 : decode cX6_atMost 91 = .ok (.iload 7, 2) := by decide +kernel
theorem dX6_atMost_93 : decode cX6_atMost 93 = .ok (.iadd, 1) := by decide +kernel
theorem dX6_atMost_94 : decode cX6_atMost 94 = .ok (.iaload, 1) := by decide +kernel
theorem dX6_atMost_95 : decode cX6_atMost 95 = .ok (.aload_n 0, 1) := by decide +kernel
theorem dX6_atMost_96 : decode cX6_atMost 96 = .ok (.getfield 7, 3) := by decide +kernel
theorem dX6_atMost_99 : decode cX6_atMost 99 = .ok (.iload_n 1, 1) := by decide +kernel
theorem dX6_atMost_100 : decode cX6_atMost 100 = .ok (.bipush 10, 2) := by decide +kernel
theorem dX6_atMost_102 : decode cX6_atMost 102 = .ok (.iadd, 1) := by decide +kernel
theorem dX6_atMost_103 : decode cX6_atMost 103 = .ok (.iload 7, 2) := by decide +kernel
theorem dX6_atMost_105 : decode cX6_atMost 105 = .ok (.iadd, 1) := by decide +kernel
theorem dX6_atMost_106 : decode cX6_atMost 106 = .ok (.iaload, 1) := by decide +kernel
theorem dX6_atMost_107 : decode cX6_atMost 107 = .ok (.isub, 1) := by decide +kernel
theorem dX6_atMost_108 : decode cX6_atMost 108 = .ok (.istore 9, 2) := by decide +kernel
theorem dX6_atMost_110 : decode cX6_atMost 110 = .ok (.iload 7, 2) := by decide +kernel
theorem dX6_atMost_112 : decode cX6_atMost 112 = .ok (.ifCond .eq 15, 3) := by decide +kernel
theorem dX6_atMost_115 : decode cX6_atMost 115 = .ok (.iload 9, 2) := by decide +kernel
theorem dX6_atMost_117 : decode cX6_atMost 117 = .ok (.iload 8, 2) := by decide +kernel
theorem dX6_atMost_119 : decode cX6_atMost 119 = .ok (.if_icmp .ge 8, 3) := by decide +kernel
theorem dX6_atMost_122 : decode cX6_atMost 122 = .ok (.iload 9, 2) := by decide +kernel
theorem dX6_atMost_124 : decode cX6_atMost 124 = .ok (.goto 5, 3) := by decide +kernel
theorem dX6_atMost_127 : decode cX6_atMost 127 = .ok (.iload 8, 2) := by decide +kernel
theorem dX6_atMost_129 : decode cX6_atMost 129 = .ok (.ireturn, 1) := by decide +kernel
theorem dX6_hour_0 : decode cX6_hour 0 = .ok (.aload_n 0, 1) := by decide +kernel
theorem dX6_hour_1 : decode cX6_hour 1 = .ok (.getfield 7, 3) := by decide +kernel
theorem dX6_hour_4 : decode cX6_hour 4 = .ok (.iload_n 1, 1) := by decide +kernel
theorem dX6_hour_5 : decode cX6_hour 5 = .ok (.iconst 2, 1) := by decide +kernel
theorem dX6_hour_6 : decode cX6_hour 6 = .ok (.iadd, 1) := by decide +kernel
theorem dX6_hour_7 : decode cX6_hour 7 = .ok (.dup2, 1) := by decide +kernel
theorem dX6_hour_8 : decode cX6_hour 8 = .ok (.iaload, 1) := by decide +kernel
theorem dX6_hour_9 : decode cX6_hour 9 = .ok (.iconst 1, 1) := by decide +kernel
theorem dX6_hour_10 : decode cX6_hour 10 = .ok (.iadd, 1) := by decide +kernel
theorem dX6_hour_11 : decode cX6_hour 11 = .ok (.iastore, 1) := by decide +kernel
theorem dX6_hour_12 : decode cX6_hour 12 = .ok (.iconst 0, 1) := by decide +kernel
theorem dX6_hour_13 : decode cX6_hour 13 = .ok (.istore_n 2, 1) := by decide +kernel
theorem dX6_hour_14 : decode cX6_hour 14 = .ok (.iconst 0, 1) := by decide +kernel
theorem dX6_hour_15 : decode cX6_hour 15 = .ok (.istore_n 3, 1) := by decide +kernel
theorem dX6_hour_16 : decode cX6_hour 16 = .ok (.iload_n 3, 1) := by decide +kernel
theorem dX6_hour_17 : decode cX6_hour 17 = .ok (.aload_n 0, 1) := by decide +kernel
theorem dX6_hour_18 : decode cX6_hour 18 = .ok (.getfield 7, 3) := by decide +kernel
theorem dX6_hour_21 : decode cX6_hour 21 = .ok (.iload_n 1, 1) := by decide +kernel
theorem dX6_hour_22 : decode cX6_hour 22 = .ok (.iconst 3, 1) := by decide +kernel
theorem dX6_hour_23 : decode cX6_hour 23 = .ok (.iadd, 1) := by decide +kernel
theorem dX6_hour_24 : decode cX6_hour 24 = .ok (.iaload, 1) := by decide +kernel
theorem dX6_hour_25 : decode cX6_hour 25 = .ok (.if_icmp .ge 105, 3) := by decide +kernel
theorem dX6_hour_28 : decode cX6_hour 28 = .ok (.iload_n 1, 1) := by decide +kernel
theorem dX6_hour_29 : decode cX6_hour 29 = .ok (.iload_n 3, 1) := by decide +kernel
theorem dX6_hour_30 : decode cX6_hour 30 = .ok (.invokestatic 32, 3) := by decide +kernel
theorem dX6_hour_33 : decode cX6_hour 33 = .ok (.istore 4, 2) := by decide +kernel
theorem dX6_hour_35 : decode cX6_hour 35 = .ok (.aload_n 0, 1) := by decide +kernel
theorem dX6_hour_36 : decode cX6_hour 36 = .ok (.getfield 7, 3) := by decide +kernel
theorem dX6_hour_39 : decode cX6_hour 39 = .ok (.iload 4, 2) := by decide +kernel
theorem dX6_hour_41 : decode cX6_hour 41 = .ok (.iconst 3, 1) := by decide +kernel
theorem dX6_hour_42 : decode cX6_hour 42 = .ok (.iadd, 1) := by decide +kernel
theorem dX6_hour_43 : decode cX6_hour 43 = .ok (.iaload, 1) := by decide +kernel
theorem dX6_hour_44 : decode cX6_hour 44 = .ok (.ifCond .le 80, 3) := by decide +kernel
theorem dX6_hour_47 : decode cX6_hour 47 = .ok (.aload_n 0, 1) := by decide +kernel
theorem dX6_hour_48 : decode cX6_hour 48 = .ok (.getfield 7, 3) := by decide +kernel
theorem dX6_hour_51 : decode cX6_hour 51 = .ok (.iload 4, 2) := by decide +kernel
theorem dX6_hour_53 : decode cX6_hour 53 = .ok (.iconst 3, 1) := by decide +kernel
theorem dX6_hour_54 : decode cX6_hour 54 = .ok (.iadd, 1) := by decide +kernel
theorem dX6_hour_55 : decode cX6_hour 55 = .ok (.dup2, 1) := by decide +kernel
theorem dX6_hour_56 : decode cX6_hour 56 = .ok (.iaload, 1) := by decide +kernel
theorem dX6_hour_57 : decode cX6_hour 57 = .ok (.iconst 1, 1) := by decide +kernel
theorem dX6_hour_58 : decode cX6_hour 58 = .ok (.isub, 1) := by decide +kernel
theorem dX6_hour_59 : decode cX6_hour 59 = .ok (.iastore, 1) := by decide +kernel
theorem dX6_hour_60 : decode cX6_hour 60 = .ok (.iload_n 2, 1) := by decide +kernel
theorem dX6_hour_61 : decode cX6_hour 61 = .ok (.aload_n 0, 1) := by decide +kernel
theorem dX6_hour_62 : decode cX6_hour 62 = .ok (.getfield 7, 3) := by decide +kernel
theorem dX6_hour_65 : decode cX6_hour 65 = .ok (.iload 4, 2) := by decide +kernel
theorem dX6_hour_67 : decode cX6_hour 67 = .ok (.iconst 3, 1) := by decide +kernel
theorem dX6_hour_68 : decode cX6_hour 68 = .ok (.iadd, 1) := by decide +kernel
theorem dX6_hour_69 : decode cX6_hour 69 = .ok (.iaload, 1) := by decide +kernel
theorem dX6_hour_70 : decode cX6_hour 70 = .ok (.ifCond .ne 7, 3) := by decide +kernel
theorem dX6_hour_73 : decode cX6_hour 73 = .ok (.iconst 1, 1) := by decide +kernel
theorem dX6_hour_74 : decode cX6_hour 74 = .ok (.goto 4, 3) := by decide +kernel
theorem dX6_hour_77 : decode cX6_hour 77 = .ok (.iconst 0, 1) := by decide +kernel
theorem dX6_hour_78 : decode cX6_hour 78 = .ok (.iadd, 1) := by decide +kernel
theorem dX6_hour_79 : decode cX6_hour 79 = .ok (.istore_n 2, 1) := by decide +kernel
theorem dX6_hour_80 : decode cX6_hour 80 = .ok (.iconst 0, 1) := by decide +kernel
theorem dX6_hour_81 : decode cX6_hour 81 = .ok (.istore 5, 2) := by decide +kernel
theorem dX6_hour_83 : decode cX6_hour 83 = .ok (.iload 5, 2) := by decide +kernel
theorem dX6_hour_85 : decode cX6_hour 85 = .ok (.iconst 4, 1) := by decide +kernel
theorem dX6_hour_86 : decode cX6_hour 86 = .ok (.if_icmp .ge 38, 3) := by decide +kernel
theorem dX6_hour_89 : decode cX6_hour 89 = .ok (.aload_n 0, 1) := by decide +kernel
theorem dX6_hour_90 : decode cX6_hour 90 = .ok (.getfield 7, 3) := by decide +kernel
theorem dX6_hour_93 : decode cX6_hour 93 = .ok (.iload 4, 2) := by decide +kernel
theorem dX6_hour_95 : decode cX6_hour 95 = .ok (.iconst 3, 1) := by decide +kernel
theorem dX6_hour_96 : decode cX6_hour 96 = .ok (.iadd, 1) := by decide +kernel
theorem dX6_hour_97 : decode cX6_hour 97 = .ok (.iaload, 1) := by decide +kernel
theorem dX6_hour_98 : decode cX6_hour 98 = .ok (.ifCond .ne 26, 3) := by decide +kernel
theorem dX6_hour_101 : decode cX6_hour 101 = .ok (.aload_n 0, 1) := by decide +kernel
theorem dX6_hour_102 : decode cX6_hour 102 = .ok (.getfield 7, 3) := by decide +kernel
theorem dX6_hour_105 : decode cX6_hour 105 = .ok (.iload 4, 2) := by decide +kernel
theorem dX6_hour_107 : decode cX6_hour 107 = .ok (.iconst 4, 1) := by decide +kernel
theorem dX6_hour_108 : decode cX6_hour 108 = .ok (.iadd, 1) := by decide +kernel
theorem dX6_hour_109 : decode cX6_hour 109 = .ok (.iconst 4, 1) := by decide +kernel
theorem dX6_hour_110 : decode cX6_hour 110 = .ok (.iload 5, 2) := by decide +kernel
theorem dX6_hour_112 : decode cX6_hour 112 = .ok (.imul, 1) := by decide +kernel
theorem dX6_hour_113 : decode cX6_hour 113 = .ok (.iadd, 1) := by decide +kernel
theorem dX6_hour_114 : decode cX6_hour 114 = .ok (.iconst 1, 1) := by decide +kernel
theorem dX6_hour_115 : decode cX6_hour 115 = .ok (.iadd, 1) := by decide +kernel
theorem dX6_hour_116 : decode cX6_hour 116 = .ok (.iconst 0, 1) := by decide +kernel
theorem dX6_hour_117 : decode cX6_hour 117 = .ok (.iastore, 1) := by decide +kernel
theorem dX6_hour_118 : decode cX6_hour 118 = .ok (.iinc 5 1, 3) := by decide +kernel
theorem dX6_hour_121 : decode cX6_hour 121 = .ok (.goto (-38), 3) := by decide +kernel
theorem dX6_hour_124 : decode cX6_hour 124 = .ok (.iinc 3 1, 3) := by decide +kernel
theorem dX6_hour_127 : decode cX6_hour 127 = .ok (.goto (-111), 3) := by decide +kernel
theorem dX6_hour_130 : decode cX6_hour 130 = .ok (.iload_n 2, 1) := by decide +kernel
theorem dX6_hour_131 : decode cX6_hour 131 = .ok (.ireturn, 1) := by decide +kernel
theorem dX6_distances_0 : decode cX6_distances 0 = .ok (.iconst 0, 1) := by decide +kernel
theorem dX6_distances_1 : decode cX6_distances 1 = .ok (.istore_n 2, 1) := by decide +kernel
theorem dX6_distances_2 : decode cX6_distances 2 = .ok (.iload_n 2, 1) := by decide +kernel
theorem dX6_distances_3 : decode cX6_distances 3 = .ok (.bipush 6, 2) := by decide +kernel
theorem dX6_distances_5 : decode cX6_distances 5 = .ok (.if_icmp .ge 25, 3) := by decide +kernel
theorem dX6_distances_8 : decode cX6_distances 8 = .ok (.aload_n 0, 1) := by decide +kernel
theorem dX6_distances_9 : decode cX6_distances 9 = .ok (.getfield 17, 3) := by decide +kernel
theorem dX6_distances_12 : decode cX6_distances 12 = .ok (.iload_n 2, 1) := by decide +kernel
theorem dX6_distances_13 : decode cX6_distances 13 = .ok (.iload_n 2, 1) := by decide +kernel
theorem dX6_distances_14 : decode cX6_distances 14 = .ok (.ifCond .ne 7, 3) := by decide +kernel
theorem dX6_distances_17 : decode cX6_distances 17 = .ok (.iconst 0, 1) := by decide +kernel
theorem dX6_distances_18 : decode cX6_distances 18 = .ok (.goto 5, 3) := by decide +kernel
theorem dX6_distances_21 : decode cX6_distances 21 = .ok (.ldc 56, 2) := by decide +kernel
theorem dX6_distances_23 : decode cX6_distances 23 = .ok (.iastore, 1) := by decide +kernel
theorem dX6_distances_24 : decode cX6_distances 24 = .ok (.iinc 2 1, 3) := by decide +kernel
theorem dX6_distances_27 : decode cX6_distances 27 = .ok (.goto (-25), 3) := by decide +kernel
theorem dX6_distances_30 : decode cX6_distances 30 = .ok (.iconst 1, 1) := by decide +kernel
theorem dX6_distances_31 : decode cX6_distances 31 = .ok (.istore_n 2, 1) := by decide +kernel
theorem dX6_distances_32 : decode cX6_distances 32 = .ok (.iload_n 2, 1) := by decide +kernel
theorem dX6_distances_33 : decode cX6_distances 33 = .ok (.bipush 6, 2) := by decide +kernel
theorem dX6_distances_35 : decode cX6_distances 35 = .ok (.if_icmp .ge 125, 3) := by decide +kernel
theorem dX6_distances_38 : decode cX6_distances 38 = .ok (.iconst 0, 1) := by decide +kernel
theorem dX6_distances_39 : decode cX6_distances 39 = .ok (.istore_n 3, 1) := by decide +kernel
theorem dX6_distances_40 : decode cX6_distances 40 = .ok (.iload_n 3, 1) := by decide +kernel
theorem dX6_distances_41 : decode cX6_distances 41 = .ok (.iconst 2, 1) := by decide +kernel
theorem dX6_distances_42 : decode cX6_distances 42 = .ok (.aload_n 0, 1) := by decide +kernel
theorem dX6_distances_43 : decode cX6_distances 43 = .ok (.getfield 7, 3) := by decide +kernel
theorem dX6_distances_46 : decode cX6_distances 46 = .ok (.iload_n 1, 1) := by decide +kernel
theorem dX6_distances_47 : decode cX6_distances 47 = .ok (.iconst 3, 1) := by decide +kernel
theorem dX6_distances_48 : decode cX6_distances 48 = .ok (.iadd, 1) := by decide +kernel
theorem dX6_distances_49 : decode cX6_distances 49 = .ok (.iaload, 1) := by decide +kernel
theorem dX6_distances_50 : decode cX6_distances 50 = .ok (.imul, 1) := by decide +kernel
theorem dX6_distances_51 : decode cX6_distances 51 = .ok (.if_icmp .ge 103, 3) := by decide +kernel
theorem dX6_distances_54 : decode cX6_distances 54 = .ok (.iload_n 1, 1) := by decide +kernel
theorem dX6_distances_55 : decode cX6_distances 55 = .ok (.iload_n 3, 1) := by decide +kernel
theorem dX6_distances_56 : decode cX6_distances 56 = .ok (.iconst 2, 1) := by decide +kernel
theorem dX6_distances_57 : decode cX6_distances 57 = .ok (.idiv, 1) := by decide +kernel
theorem dX6_distances_58 : decode cX6_distances 58 = .ok (.invokestatic 32, 3) := by decide +kernel
theorem dX6_distances_61 : decode cX6_distances 61 = .ok (.istore 4, 2) := by decide +kernel
theorem dX6_distances_63 : decode cX6_distances 63 = .ok (.iload_n 3, 1) := by decide +kernel
theorem dX6_distances_64 : decode cX6_distances 64 = .ok (.iconst 2, 1) := by decide +kernel
theorem dX6_distances_65 : decode cX6_distances 65 = .ok (.irem, 1) := by decide +kernel
theorem dX6_distances_66 : decode cX6_distances 66 = .ok (.ifCond .ne 7, 3) := by decide +kernel
theorem dX6_distances_69 : decode cX6_distances 69 = .ok (.iconst 1, 1) := by decide +kernel
theorem dX6_distances_70 : decode cX6_distances 70 = .ok (.goto 4, 3) := by decide +kernel
theorem dX6_distances_73 : decode cX6_distances 73 = .ok (.iconst 0, 1) := by decide +kernel
theorem dX6_distances_74 : decode cX6_distances 74 = .ok (.istore 5, 2) := by decide +kernel
theorem dX6_distances_76 : decode cX6_distances 76 = .ok (.aload_n 0, 1) := by decide +kernel
theorem dX6_distances_77 : decode cX6_distances 77 = .ok (.iload 4, 2) := by decide +kernel
theorem dX6_distances_79 : decode cX6_distances 79 = .ok (.iload 5, 2) := by decide +kernel
theorem dX6_distances_81 : decode cX6_distances 81 = .ok (.invokevirtual 49, 3) := by decide +kernel
theorem dX6_distances_84 : decode cX6_distances 84 = .ok (.ifCond .ne 26, 3) := by decide +kernel
theorem dX6_distances_87 : decode cX6_distances 87 = .ok (.aload_n 0, 1) := by decide +kernel
theorem dX6_distances_88 : decode cX6_distances 88 = .ok (.getfield 17, 3) := by decide +kernel
theorem dX6_distances_91 : decode cX6_distances 91 = .ok (.aload_n 0, 1) := by decide +kernel
theorem dX6_distances_92 : decode cX6_distances 92 = .ok (.iload 4, 2) := by decide +kernel
theorem dX6_distances_94 : decode cX6_distances 94 = .ok (.iload 5, 2) := by decide +kernel
theorem dX6_distances_96 : decode cX6_distances 96 = .ok (.invokevirtual 46, 3) := by decide +kernel
theorem dX6_distances_99 : decode cX6_distances 99 = .ok (.iaload, 1) := by decide +kernel
theorem dX6_distances_100 : decode cX6_distances 100 = .ok (.iload_n 2, 1) := by decide +kernel
theorem dX6_distances_101 : decode cX6_distances 101 = .ok (.iconst 1, 1) := by decide +kernel
theorem dX6_distances_102 : decode cX6_distances 102 = .ok (.isub, 1) := by decide +kernel
theorem dX6_distances_103 : decode cX6_distances 103 = .ok (.if_icmp .ne 7, 3) := by decide +kernel
theorem dX6_distances_106 : decode cX6_distances 106 = .ok (.iconst 1, 1) := by decide +kernel
theorem dX6_distances_107 : decode cX6_distances 107 = .ok (.goto 4, 3) := by decide +kernel
theorem dX6_distances_110 : decode cX6_distances 110 = .ok (.iconst 0, 1) := by decide +kernel
theorem dX6_distances_111 : decode cX6_distances 111 = .ok (.istore 6, 2) := by decide +kernel
theorem dX6_distances_113 : decode cX6_distances 113 = .ok (.iload 6, 2) := by decide +kernel
theorem dX6_distances_115 : decode cX6_distances 115 = .ok (.ifCond .eq 33, 3) := by decide +kernel
theorem dX6_distances_118 : decode cX6_distances 118 = .ok (.aload_n 0, 1) := by decide +kernel
theorem dX6_distances_119 : decode cX6_distances 119 = .ok (.getfield 17, 3) := by decide +kernel
theorem dX6_distances_122 : decode cX6_distances 122 = .ok (.aload_n 0, 1) := by decide +kernel
theorem dX6_distances_123 : decode cX6_distances 123 = .ok (.iload 4, 2) := by decide +kernel
theorem dX6_distances_125 : decode cX6_distances 125 = .ok (.iload 5, 2) := by decide +kernel
theorem dX6_distances_127 : decode cX6_distances 127 = .ok (.invokevirtual 42, 3) := by decide +kernel
theorem dX6_distances_130 : decode cX6_distances 130 = .ok (.iaload, 1) := by decide +kernel
theorem dX6_distances_131 : decode cX6_distances 131 = .ok (.ifCond .ge 17, 3) := by decide +kernel
theorem dX6_distances_134 : decode cX6_distances 134 = .ok (.aload_n 0, 1) := by decide +kernel
theorem dX6_distances_135 : decode cX6_distances 135 = .ok (.getfield 17, 3) := by decide +kernel
theorem dX6_distances_138 : decode cX6_distances 138 = .ok (.aload_n 0, 1) := by decide +kernel
theorem dX6_distances_139 : decode cX6_distances 139 = .ok (.iload 4, 2) := by decide +kernel
theorem dX6_distances_141 : decode cX6_distances 141 = .ok (.iload 5, 2) := by decide +kernel
theorem dX6_distances_143 : decode cX6_distances 143 = .ok (.invokevirtual 42, 3) := by decide +kernel
theorem dX6_distances_146 : decode cX6_distances 146 = .ok (.iload_n 2, 1) := by decide +kernel
theorem dX6_distances_147 : decode cX6_distances 147 = .ok (.iastore, 1) := by decide +kernel
theorem dX6_distances_148 : decode cX6_distances 148 = .ok (.iinc 3 1, 3) := by decide +kernel
theorem dX6_distances_151 : decode cX6_distances 151 = .ok (.goto (-111), 3) := by decide +kernel
theorem dX6_distances_154 : decode cX6_distances 154 = .ok (.iinc 2 1, 3) := by decide +kernel
theorem dX6_distances_157 : decode cX6_distances 157 = .ok (.goto (-125), 3) := by decide +kernel
theorem dX6_distances_160 : decode cX6_distances 160 = .ok (.return_, 1) := by decide +kernel
theorem dX6_closes_0 : decode cX6_closes 0 = .ok (.aload_n 0, 1) := by decide +kernel
theorem dX6_closes_1 : decode cX6_closes 1 = .ok (.iload_n 1, 1) := by decide +kernel
theorem dX6_closes_2 : decode cX6_closes 2 = .ok (.invokevirtual 57, 3) := by decide +kernel
theorem dX6_closes_5 : decode cX6_closes 5 = .ok (.iconst 0, 1) := by decide +kernel
theorem dX6_closes_6 : decode cX6_closes 6 = .ok (.istore_n 2, 1) := by decide +kernel
theorem dX6_closes_7 : decode cX6_closes 7 = .ok (.iconst 0, 1) := by decide +kernel
theorem dX6_closes_8 : decode cX6_closes 8 = .ok (.istore_n 3, 1) := by decide +kernel
theorem dX6_closes_9 : decode cX6_closes 9 = .ok (.iload_n 3, 1) := by decide +kernel
theorem dX6_closes_10 : decode cX6_closes 10 = .ok (.iconst 2, 1) := by decide +kernel
theorem dX6_closes_11 : decode cX6_closes 11 = .ok (.aload_n 0, 1) := by decide +kernel
theorem dX6_closes_12 : decode cX6_closes 12 = .ok (.getfield 7, 3) := by decide +kernel
theorem dX6_closes_15 : decode cX6_closes 15 = .ok (.iload_n 1, 1) := by decide +kernel
theorem dX6_closes_16 : decode cX6_closes 16 = .ok (.iconst 3, 1) := by decide +kernel
theorem dX6_closes_17 : decode cX6_closes 17 = .ok (.iadd, 1) := by decide +kernel
theorem dX6_closes_18 : decode cX6_closes 18 = .ok (.iaload, 1) := by decide +kernel
theorem dX6_closes_19 : decode cX6_closes 19 = .ok (.imul, 1) := by decide +kernel
theorem dX6_closes_20 : decode cX6_closes 20 = .ok (.if_icmp .ge 116, 3) := by decide +kernel
theorem dX6_closes_23 : decode cX6_closes 23 = .ok (.iload_n 1, 1) := by decide +kernel
theorem dX6_closes_24 : decode cX6_closes 24 = .ok (.iload_n 3, 1) := by decide +kernel
theorem dX6_closes_25 : decode cX6_closes 25 = .ok (.iconst 2, 1) := by decide +kernel
theorem dX6_closes_26 : decode cX6_closes 26 = .ok (.idiv, 1) := by decide +kernel
theorem dX6_closes_27 : decode cX6_closes 27 = .ok (.invokestatic 32, 3) := by decide +kernel
theorem dX6_closes_30 : decode cX6_closes 30 = .ok (.istore 4, 2) := by decide +kernel
theorem dX6_closes_32 : decode cX6_closes 32 = .ok (.iload_n 3, 1) := by decide +kernel
theorem dX6_closes_33 : decode cX6_closes 33 = .ok (.iconst 2, 1) := by decide +kernel
theorem dX6_closes_34 : decode cX6_closes 34 = .ok (.irem, 1) := by decide +kernel
theorem dX6_closes_35 : decode cX6_closes 35 = .ok (.ifCond .ne 7, 3) := by decide +kernel
theorem dX6_closes_38 : decode cX6_closes 38 = .ok (.iconst 1, 1) := by decide +kernel
theorem dX6_closes_39 : decode cX6_closes 39 = .ok (.goto 4, 3) := by decide +kernel
theorem dX6_closes_42 : decode cX6_closes 42 = .ok (.iconst 0, 1) := by decide +kernel
theorem dX6_closes_43 : decode cX6_closes 43 = .ok (.istore 5, 2) := by decide +kernel
theorem dX6_closes_45 : decode cX6_closes 45 = .ok (.aload_n 0, 1) := by decide +kernel
theorem dX6_closes_46 : decode cX6_closes 46 = .ok (.getfield 17, 3) := by decide +kernel
theorem dX6_closes_49 : decode cX6_closes 49 = .ok (.aload_n 0, 1) := by decide +kernel
theorem dX6_closes_50 : decode cX6_closes 50 = .ok (.iload 4, 2) := by decide +kernel
theorem dX6_closes_52 : decode cX6_closes 52 = .ok (.iload 5, 2) := by decide +kernel
theorem dX6_closes_54 : decode cX6_closes 54 = .ok (.invokevirtual 42, 3) := by decide +kernel
theorem dX6_closes_57 : decode cX6_closes 57 = .ok (.iaload, 1) := by decide +kernel
theorem dX6_closes_58 : decode cX6_closes 58 = .ok (.istore 6, 2) := by decide +kernel
theorem dX6_closes_60 : decode cX6_closes 60 = .ok (.aload_n 0, 1) := by decide +kernel
theorem dX6_closes_61 : decode cX6_closes 61 = .ok (.getfield 17, 3) := by decide +kernel
theorem dX6_closes_64 : decode cX6_closes 64 = .ok (.aload_n 0, 1) := by decide +kernel
theorem dX6_closes_65 : decode cX6_closes 65 = .ok (.iload 4, 2) := by decide +kernel
theorem dX6_closes_67 : decode cX6_closes 67 = .ok (.iload 5, 2) := by decide +kernel
theorem dX6_closes_69 : decode cX6_closes 69 = .ok (.invokevirtual 46, 3) := by decide +kernel
theorem dX6_closes_72 : decode cX6_closes 72 = .ok (.iaload, 1) := by decide +kernel
theorem dX6_closes_73 : decode cX6_closes 73 = .ok (.istore 7, 2) := by decide +kernel
theorem dX6_closes_75 : decode cX6_closes 75 = .ok (.iload 7, 2) := by decide +kernel
theorem dX6_closes_77 : decode cX6_closes 77 = .ok (.ifCond .lt 33, 3) := by decide +kernel
theorem dX6_closes_80 : decode cX6_closes 80 = .ok (.iload 6, 2) := by decide +kernel
theorem dX6_closes_82 : decode cX6_closes 82 = .ok (.iload 7, 2) := by decide +kernel
theorem dX6_closes_84 : decode cX6_closes 84 = .ok (.iconst 1, 1) := by decide +kernel
theorem dX6_closes_85 : decode cX6_closes 85 = .ok (.iadd, 1) := by decide +kernel
theorem dX6_closes_86 : decode cX6_closes 86 = .ok (.if_icmp .ne 24, 3) := by decide +kernel
theorem dX6_closes_89 : decode cX6_closes 89 = .ok (.aload_n 0, 1) := by decide +kernel
theorem dX6_closes_90 : decode cX6_closes 90 = .ok (.iload_n 1, 1) := by decide +kernel
theorem dX6_closes_91 : decode cX6_closes 91 = .ok (.iload_n 3, 1) := by decide +kernel
theorem dX6_closes_92 : decode cX6_closes 92 = .ok (.iconst 2, 1) := by decide +kernel
theorem dX6_closes_93 : decode cX6_closes 93 = .ok (.idiv, 1) := by decide +kernel
theorem dX6_closes_94 : decode cX6_closes 94 = .ok (.iload 5, 2) := by decide +kernel
theorem dX6_closes_96 : decode cX6_closes 96 = .ok (.aload_n 0, 1) := by decide +kernel
theorem dX6_closes_97 : decode cX6_closes 97 = .ok (.getfield 7, 3) := by decide +kernel
theorem dX6_closes_100 : decode cX6_closes 100 = .ok (.iload_n 1, 1) := by decide +kernel
theorem dX6_closes_101 : decode cX6_closes 101 = .ok (.iconst 0, 1) := by decide +kernel
theorem dX6_closes_102 : decode cX6_closes 102 = .ok (.iadd, 1) := by decide +kernel
theorem dX6_closes_103 : decode cX6_closes 103 = .ok (.iaload, 1) := by decide +kernel
theorem dX6_closes_104 : decode cX6_closes 104 = .ok (.invokevirtual 61, 3) := by decide +kernel
theorem dX6_closes_107 : decode cX6_closes 107 = .ok (.goto 4, 3) := by decide +kernel
theorem dX6_closes_110 : decode cX6_closes 110 = .ok (.iconst 0, 1) := by decide +kernel
theorem dX6_closes_111 : decode cX6_closes 111 = .ok (.istore 8, 2) := by decide +kernel
theorem dX6_closes_113 : decode cX6_closes 113 = .ok (.aload_n 0, 1) := by decide +kernel
theorem dX6_closes_114 : decode cX6_closes 114 = .ok (.iload_n 1, 1) := by decide +kernel
theorem dX6_closes_115 : decode cX6_closes 115 = .ok (.iload_n 3, 1) := by decide +kernel
theorem dX6_closes_116 : decode cX6_closes 116 = .ok (.iconst 2, 1) := by decide +kernel
theorem dX6_closes_117 : decode cX6_closes 117 = .ok (.idiv, 1) := by decide +kernel
theorem dX6_closes_118 : decode cX6_closes 118 = .ok (.iload 5, 2) := by decide +kernel
theorem dX6_closes_120 : decode cX6_closes 120 = .ok (.iload 8, 2) := by decide +kernel
theorem dX6_closes_122 : decode cX6_closes 122 = .ok (.invokevirtual 65, 3) := by decide +kernel
theorem dX6_closes_125 : decode cX6_closes 125 = .ok (.iload_n 2, 1) := by decide +kernel
theorem dX6_closes_126 : decode cX6_closes 126 = .ok (.iload 8, 2) := by decide +kernel
theorem dX6_closes_128 : decode cX6_closes 128 = .ok (.iadd, 1) := by decide +kernel
theorem dX6_closes_129 : decode cX6_closes 129 = .ok (.istore_n 2, 1) := by decide +kernel
theorem dX6_closes_130 : decode cX6_closes 130 = .ok (.iinc 3 1, 3) := by decide +kernel
theorem dX6_closes_133 : decode cX6_closes 133 = .ok (.goto (-124), 3) := by decide +kernel
theorem dX6_closes_136 : decode cX6_closes 136 = .ok (.aload_n 0, 1) := by decide +kernel
theorem dX6_closes_137 : decode cX6_closes 137 = .ok (.iload_n 1, 1) := by decide +kernel
theorem dX6_closes_138 : decode cX6_closes 138 = .ok (.invokevirtual 69, 3) := by decide +kernel
theorem dX6_closes_141 : decode cX6_closes 141 = .ok (.pop, 1) := by decide +kernel
theorem dX6_closes_142 : decode cX6_closes 142 = .ok (.iload_n 2, 1) := by decide +kernel
theorem dX6_closes_143 : decode cX6_closes 143 = .ok (.ireturn, 1) := by decide +kernel
theorem dX6_people_0 : decode cX6_people 0 = .ok (.iconst 0, 1) := by decide +kernel
theorem dX6_people_1 : decode cX6_people 1 = .ok (.istore_n 2, 1) := by decide +kernel
theorem dX6_people_2 : decode cX6_people 2 = .ok (.iconst 1, 1) := by decide +kernel
theorem dX6_people_3 : decode cX6_people 3 = .ok (.istore_n 3, 1) := by decide +kernel
theorem dX6_people_4 : decode cX6_people 4 = .ok (.iload_n 3, 1) := by decide +kernel
theorem dX6_people_5 : decode cX6_people 5 = .ok (.bipush 6, 2) := by decide +kernel
theorem dX6_people_7 : decode cX6_people 7 = .ok (.if_icmp .ge 23, 3) := by decide +kernel
theorem dX6_people_10 : decode cX6_people 10 = .ok (.iload_n 2, 1) := by decide +kernel
theorem dX6_people_11 : decode cX6_people 11 = .ok (.aload_n 0, 1) := by decide +kernel
theorem dX6_people_12 : decode cX6_people 12 = .ok (.getfield 7, 3) := by decide +kernel
theorem dX6_people_15 : decode cX6_people 15 = .ok (.iload_n 1, 1) := by decide +kernel
theorem dX6_people_16 : decode cX6_people 16 = .ok (.bipush 10, 2) := by decide +kernel
theorem dX6_people_18 : decode cX6_people 18 = .ok (.iadd, 1) := by decide +kernel
theorem dX6_people_19 : decode cX6_people 19 = .ok (.iload_n 3, 1) := by decide +kernel
theorem dX6_people_20 : decode cX6_people 20 = .ok (.iadd, 1) := by decide +kernel
theorem dX6_people_21 : decode cX6_people 21 = .ok (.iaload, 1) := by decide +kernel
theorem dX6_people_22 : decode cX6_people 22 = .ok (.iadd, 1) := by decide +kernel
theorem dX6_people_23 : decode cX6_people 23 = .ok (.istore_n 2, 1) := by decide +kernel
theorem dX6_people_24 : decode cX6_people 24 = .ok (.iinc 3 1, 3) := by decide +kernel
theorem dX6_people_27 : decode cX6_people 27 = .ok (.goto (-23), 3) := by decide +kernel
theorem dX6_people_30 : decode cX6_people 30 = .ok (.iload_n 2, 1) := by decide +kernel
theorem dX6_people_31 : decode cX6_people 31 = .ok (.ireturn, 1) := by decide +kernel
theorem dX6_stile_0 : decode cX6_stile 0 = .ok (.iload_n 1, 1) := by decide +kernel
theorem dX6_stile_1 : decode cX6_stile 1 = .ok (.iconst 0, 1) := by decide +kernel
theorem dX6_stile_2 : decode cX6_stile 2 = .ok (.iconst 5, 1) := by decide +kernel
theorem dX6_stile_3 : decode cX6_stile 3 = .ok (.invokestatic 28, 3) := by decide +kernel
theorem dX6_stile_6 : decode cX6_stile 6 = .ok (.ifCond .eq 12, 3) := by decide +kernel
theorem dX6_stile_9 : decode cX6_stile 9 = .ok (.iload_n 2, 1) := by decide +kernel
theorem dX6_stile_10 : decode cX6_stile 10 = .ok (.iconst 0, 1) := by decide +kernel
theorem dX6_stile_11 : decode cX6_stile 11 = .ok (.iconst 5, 1) := by decide +kernel
theorem dX6_stile_12 : decode cX6_stile 12 = .ok (.invokestatic 28, 3) := by decide +kernel
theorem dX6_stile_15 : decode cX6_stile 15 = .ok (.ifCond .ne 6, 3) := by decide +kernel
theorem dX6_stile_18 : decode cX6_stile 18 = .ok (.ldc 73, 2) := by decide +kernel
theorem dX6_stile_20 : decode cX6_stile 20 = .ok (.ireturn, 1) := by decide +kernel
theorem dX6_stile_21 : decode cX6_stile 21 = .ok (.iload_n 1, 1) := by decide +kernel
theorem dX6_stile_22 : decode cX6_stile 22 = .ok (.iload_n 2, 1) := by decide +kernel
theorem dX6_stile_23 : decode cX6_stile 23 = .ok (.if_icmp .ne 6, 3) := by decide +kernel
theorem dX6_stile_26 : decode cX6_stile 26 = .ok (.ldc 74, 2) := by decide +kernel
theorem dX6_stile_28 : decode cX6_stile 28 = .ok (.ireturn, 1) := by decide +kernel
theorem dX6_stile_29 : decode cX6_stile 29 = .ok (.aload_n 0, 1) := by decide +kernel
theorem dX6_stile_30 : decode cX6_stile 30 = .ok (.getfield 7, 3) := by decide +kernel
theorem dX6_stile_33 : decode cX6_stile 33 = .ok (.iconst 3, 1) := by decide +kernel
theorem dX6_stile_34 : decode cX6_stile 34 = .ok (.iaload, 1) := by decide +kernel
theorem dX6_stile_35 : decode cX6_stile 35 = .ok (.bipush 12, 2) := by decide +kernel
theorem dX6_stile_37 : decode cX6_stile 37 = .ok (.if_icmp .ne 6, 3) := by decide +kernel
theorem dX6_stile_40 : decode cX6_stile 40 = .ok (.ldc 75, 2) := by decide +kernel
theorem dX6_stile_42 : decode cX6_stile 42 = .ok (.ireturn, 1) := by decide +kernel
theorem dX6_stile_43 : decode cX6_stile 43 = .ok (.aload_n 0, 1) := by decide +kernel
theorem dX6_stile_44 : decode cX6_stile 44 = .ok (.invokevirtual 76, 3) := by decide +kernel
theorem dX6_stile_47 : decode cX6_stile 47 = .ok (.iconst 0, 1) := by decide +kernel
theorem dX6_stile_48 : decode cX6_stile 48 = .ok (.aload_n 0, 1) := by decide +kernel
theorem dX6_stile_49 : decode cX6_stile 49 = .ok (.getfield 7, 3) := by decide +kernel
theorem dX6_stile_52 : decode cX6_stile 52 = .ok (.iconst 3, 1) := by decide +kernel
theorem dX6_stile_53 : decode cX6_stile 53 = .ok (.iaload, 1) := by decide +kernel
theorem dX6_stile_54 : decode cX6_stile 54 = .ok (.invokestatic 32, 3) := by decide +kernel
theorem dX6_stile_57 : decode cX6_stile 57 = .ok (.istore_n 3, 1) := by decide +kernel
theorem dX6_stile_58 : decode cX6_stile 58 = .ok (.iconst 0, 1) := by decide +kernel
theorem dX6_stile_59 : decode cX6_stile 59 = .ok (.istore 4, 2) := by decide +kernel
theorem dX6_stile_61 : decode cX6_stile 61 = .ok (.iload 4, 2) := by decide +kernel
theorem dX6_stile_63 : decode cX6_stile 63 = .ok (.bipush 20, 2) := by decide +kernel
theorem dX6_stile_65 : decode cX6_stile 65 = .ok (.if_icmp .ge 19, 3) := by decide +kernel
theorem dX6_stile_68 : decode cX6_stile 68 = .ok (.aload_n 0, 1) := by decide +kernel
theorem dX6_stile_69 : decode cX6_stile 69 = .ok (.getfield 7, 3) := by decide +kernel
theorem dX6_stile_72 : decode cX6_stile 72 = .ok (.iload_n 3, 1) := by decide +kernel
theorem dX6_stile_73 : decode cX6_stile 73 = .ok (.iload 4, 2) := by decide +kernel
theorem dX6_stile_75 : decode cX6_stile 75 = .ok (.iadd, 1) := by decide +kernel
theorem dX6_stile_76 : decode cX6_stile 76 = .ok (.iconst 0, 1) := by decide +kernel
theorem dX6_stile_77 : decode cX6_stile 77 = .ok (.iastore, 1) := by decide +kernel
theorem dX6_stile_78 : decode cX6_stile 78 = .ok (.iinc 4 1, 3) := by decide +kernel
theorem dX6_stile_81 : decode cX6_stile 81 = .ok (.goto (-20), 3) := by decide +kernel
theorem dX6_stile_84 : decode cX6_stile 84 = .ok (.aload_n 0, 1) := by decide +kernel
theorem dX6_stile_85 : decode cX6_stile 85 = .ok (.getfield 7, 3) := by decide +kernel
theorem dX6_stile_88 : decode cX6_stile 88 = .ok (.iload_n 3, 1) := by decide +kernel
theorem dX6_stile_89 : decode cX6_stile 89 = .ok (.iload_n 1, 1) := by decide +kernel
theorem dX6_stile_90 : decode cX6_stile 90 = .ok (.iastore, 1) := by decide +kernel
theorem dX6_stile_91 : decode cX6_stile 91 = .ok (.aload_n 0, 1) := by decide +kernel
theorem dX6_stile_92 : decode cX6_stile 92 = .ok (.getfield 7, 3) := by decide +kernel
theorem dX6_stile_95 : decode cX6_stile 95 = .ok (.iload_n 3, 1) := by decide +kernel
theorem dX6_stile_96 : decode cX6_stile 96 = .ok (.iconst 1, 1) := by decide +kernel
theorem dX6_stile_97 : decode cX6_stile 97 = .ok (.iadd, 1) := by decide +kernel
theorem dX6_stile_98 : decode cX6_stile 98 = .ok (.iload_n 2, 1) := by decide +kernel
theorem dX6_stile_99 : decode cX6_stile 99 = .ok (.iastore, 1) := by decide +kernel
theorem dX6_stile_100 : decode cX6_stile 100 = .ok (.aload_n 0, 1) := by decide +kernel
theorem dX6_stile_101 : decode cX6_stile 101 = .ok (.getfield 7, 3) := by decide +kernel
theorem dX6_stile_104 : decode cX6_stile 104 = .ok (.iconst 3, 1) := by decide +kernel
theorem dX6_stile_105 : decode cX6_stile 105 = .ok (.dup2, 1) := by decide +kernel
theorem dX6_stile_106 : decode cX6_stile 106 = .ok (.iaload, 1) := by decide +kernel
theorem dX6_stile_107 : decode cX6_stile 107 = .ok (.iconst 1, 1) := by decide +kernel
theorem dX6_stile_108 : decode cX6_stile 108 = .ok (.iadd, 1) := by decide +kernel
theorem dX6_stile_109 : decode cX6_stile 109 = .ok (.iastore, 1) := by decide +kernel
theorem dX6_stile_110 : decode cX6_stile 110 = .ok (.aload_n 0, 1) := by decide +kernel
theorem dX6_stile_111 : decode cX6_stile 111 = .ok (.getfield 7, 3) := by decide +kernel
theorem dX6_stile_114 : decode cX6_stile 114 = .ok (.iconst 3, 1) := by decide +kernel
theorem dX6_stile_115 : decode cX6_stile 115 = .ok (.iaload, 1) := by decide +kernel
theorem dX6_stile_116 : decode cX6_stile 116 = .ok (.iconst 1, 1) := by decide +kernel
theorem dX6_stile_117 : decode cX6_stile 117 = .ok (.isub, 1) := by decide +kernel
theorem dX6_stile_118 : decode cX6_stile 118 = .ok (.ireturn, 1) := by decide +kernel
theorem dX6_open_0 : decode cX6_open 0 = .ok (.aload_n 0, 1) := by decide +kernel
theorem dX6_open_1 : decode cX6_open 1 = .ok (.iload_n 1, 1) := by decide +kernel
theorem dX6_open_2 : decode cX6_open 2 = .ok (.invokevirtual 79, 3) := by decide +kernel
theorem dX6_open_5 : decode cX6_open 5 = .ok (.ifCond .ne 6, 3) := by decide +kernel
theorem dX6_open_8 : decode cX6_open 8 = .ok (.ldc 73, 2) := by decide +kernel
theorem dX6_open_10 : decode cX6_open 10 = .ok (.ireturn, 1) := by decide +kernel
theorem dX6_open_11 : decode cX6_open 11 = .ok (.iload_n 2, 1) := by decide +kernel
theorem dX6_open_12 : decode cX6_open 12 = .ok (.iconst 0, 1) := by decide +kernel
theorem dX6_open_13 : decode cX6_open 13 = .ok (.iconst 3, 1) := by decide +kernel
theorem dX6_open_14 : decode cX6_open 14 = .ok (.invokestatic 28, 3) := by decide +kernel
theorem dX6_open_17 : decode cX6_open 17 = .ok (.ifCond .ne 6, 3) := by decide +kernel
theorem dX6_open_20 : decode cX6_open 20 = .ok (.ldc 74, 2) := by decide +kernel
theorem dX6_open_22 : decode cX6_open 22 = .ok (.ireturn, 1) := by decide +kernel
theorem dX6_open_23 : decode cX6_open 23 = .ok (.aload_n 0, 1) := by decide +kernel
theorem dX6_open_24 : decode cX6_open 24 = .ok (.invokevirtual 76, 3) := by decide +kernel
theorem dX6_open_27 : decode cX6_open 27 = .ok (.aload_n 0, 1) := by decide +kernel
theorem dX6_open_28 : decode cX6_open 28 = .ok (.getfield 7, 3) := by decide +kernel
theorem dX6_open_31 : decode cX6_open 31 = .ok (.iconst 0, 1) := by decide +kernel
theorem dX6_open_32 : decode cX6_open 32 = .ok (.iload_n 1, 1) := by decide +kernel
theorem dX6_open_33 : decode cX6_open 33 = .ok (.invokestatic 32, 3) := by decide +kernel
theorem dX6_open_36 : decode cX6_open 36 = .ok (.iconst 2, 1) := by decide +kernel
theorem dX6_open_37 : decode cX6_open 37 = .ok (.iadd, 1) := by decide +kernel
theorem dX6_open_38 : decode cX6_open 38 = .ok (.iaload, 1) := by decide +kernel
theorem dX6_open_39 : decode cX6_open 39 = .ok (.istore_n 3, 1) := by decide +kernel
theorem dX6_open_40 : decode cX6_open 40 = .ok (.aload_n 0, 1) := by decide +kernel
theorem dX6_open_41 : decode cX6_open 41 = .ok (.getfield 7, 3) := by decide +kernel
theorem dX6_open_44 : decode cX6_open 44 = .ok (.iconst 0, 1) := by decide +kernel
theorem dX6_open_45 : decode cX6_open 45 = .ok (.iload_n 1, 1) := by decide +kernel
theorem dX6_open_46 : decode cX6_open 46 = .ok (.invokestatic 32, 3) := by decide +kernel
theorem dX6_open_49 : decode cX6_open 49 = .ok (.iconst 2, 1) := by decide +kernel
theorem dX6_open_50 : decode cX6_open 50 = .ok (.iadd, 1) := by decide +kernel
theorem dX6_open_51 : decode cX6_open 51 = .ok (.iload_n 2, 1) := by decide +kernel
theorem dX6_open_52 : decode cX6_open 52 = .ok (.iastore, 1) := by decide +kernel
theorem dX6_open_53 : decode cX6_open 53 = .ok (.iload_n 3, 1) := by decide +kernel
theorem dX6_open_54 : decode cX6_open 54 = .ok (.ireturn, 1) := by decide +kernel
theorem dX6_room_0 : decode cX6_room 0 = .ok (.iload_n 1, 1) := by decide +kernel
theorem dX6_room_1 : decode cX6_room 1 = .ok (.invokestatic 83, 3) := by decide +kernel
theorem dX6_room_4 : decode cX6_room 4 = .ok (.ifCond .ne 6, 3) := by decide +kernel
theorem dX6_room_7 : decode cX6_room 7 = .ok (.ldc 73, 2) := by decide +kernel
theorem dX6_room_9 : decode cX6_room 9 = .ok (.ireturn, 1) := by decide +kernel
theorem dX6_room_10 : decode cX6_room 10 = .ok (.iload_n 2, 1) := by decide +kernel
theorem dX6_room_11 : decode cX6_room 11 = .ok (.iconst 1, 1) := by decide +kernel
theorem dX6_room_12 : decode cX6_room 12 = .ok (.sipush 500, 3) := by decide +kernel
theorem dX6_room_15 : decode cX6_room 15 = .ok (.invokestatic 28, 3) := by decide +kernel
theorem dX6_room_18 : decode cX6_room 18 = .ok (.ifCond .ne 6, 3) := by decide +kernel
theorem dX6_room_21 : decode cX6_room 21 = .ok (.ldc 74, 2) := by decide +kernel
theorem dX6_room_23 : decode cX6_room 23 = .ok (.ireturn, 1) := by decide +kernel
theorem dX6_room_24 : decode cX6_room 24 = .ok (.aload_n 0, 1) := by decide +kernel
theorem dX6_room_25 : decode cX6_room 25 = .ok (.getfield 7, 3) := by decide +kernel
theorem dX6_room_28 : decode cX6_room 28 = .ok (.bipush 10, 2) := by decide +kernel
theorem dX6_room_30 : decode cX6_room 30 = .ok (.iload_n 1, 1) := by decide +kernel
theorem dX6_room_31 : decode cX6_room 31 = .ok (.iadd, 1) := by decide +kernel
theorem dX6_room_32 : decode cX6_room 32 = .ok (.iaload, 1) := by decide +kernel
theorem dX6_room_33 : decode cX6_room 33 = .ok (.iload_n 2, 1) := by decide +kernel
theorem dX6_room_34 : decode cX6_room 34 = .ok (.if_icmp .le 6, 3) := by decide +kernel
theorem dX6_room_37 : decode cX6_room 37 = .ok (.ldc 86, 2) := by decide +kernel
theorem dX6_room_39 : decode cX6_room 39 = .ok (.ireturn, 1) := by decide +kernel
theorem dX6_room_40 : decode cX6_room 40 = .ok (.aload_n 0, 1) := by decide +kernel
theorem dX6_room_41 : decode cX6_room 41 = .ok (.invokevirtual 76, 3) := by decide +kernel
theorem dX6_room_44 : decode cX6_room 44 = .ok (.aload_n 0, 1) := by decide +kernel
theorem dX6_room_45 : decode cX6_room 45 = .ok (.getfield 7, 3) := by decide +kernel
theorem dX6_room_48 : decode cX6_room 48 = .ok (.iconst 4, 1) := by decide +kernel
theorem dX6_room_49 : decode cX6_room 49 = .ok (.iload_n 1, 1) := by decide +kernel
theorem dX6_room_50 : decode cX6_room 50 = .ok (.iadd, 1) := by decide +kernel
theorem dX6_room_51 : decode cX6_room 51 = .ok (.iaload, 1) := by decide +kernel
theorem dX6_room_52 : decode cX6_room 52 = .ok (.istore_n 3, 1) := by decide +kernel
theorem dX6_room_53 : decode cX6_room 53 = .ok (.aload_n 0, 1) := by decide +kernel
theorem dX6_room_54 : decode cX6_room 54 = .ok (.getfield 7, 3) := by decide +kernel
theorem dX6_room_57 : decode cX6_room 57 = .ok (.iconst 4, 1) := by decide +kernel
theorem dX6_room_58 : decode cX6_room 58 = .ok (.iload_n 1, 1) := by decide +kernel
theorem dX6_room_59 : decode cX6_room 59 = .ok (.iadd, 1) := by decide +kernel
theorem dX6_room_60 : decode cX6_room 60 = .ok (.iload_n 2, 1) := by decide +kernel
theorem dX6_room_61 : decode cX6_room 61 = .ok (.iastore, 1) := by decide +kernel
theorem dX6_room_62 : decode cX6_room 62 = .ok (.iload_n 3, 1) := by decide +kernel
theorem dX6_room_63 : decode cX6_room 63 = .ok (.ireturn, 1) := by decide +kernel
theorem dX6_isSlip_0 : decode cX6_isSlip 0 = .ok (.iload_n 0, 1) := by decide +kernel
theorem dX6_isSlip_1 : decode cX6_isSlip 1 = .ok (.ifCond .eq 13, 3) := by decide +kernel
theorem dX6_isSlip_4 : decode cX6_isSlip 4 = .ok (.iload_n 0, 1) := by decide +kernel
theorem dX6_isSlip_5 : decode cX6_isSlip 5 = .ok (.iconst 2, 1) := by decide +kernel
theorem dX6_isSlip_6 : decode cX6_isSlip 6 = .ok (.bipush 9, 2) := by decide +kernel
theorem dX6_isSlip_8 : decode cX6_isSlip 8 = .ok (.invokestatic 28, 3) := by decide +kernel
theorem dX6_isSlip_11 : decode cX6_isSlip 11 = .ok (.ifCond .eq 7, 3) := by decide +kernel
theorem dX6_isSlip_14 : decode cX6_isSlip 14 = .ok (.iconst 1, 1) := by decide +kernel
theorem dX6_isSlip_15 : decode cX6_isSlip 15 = .ok (.goto 4, 3) := by decide +kernel
theorem dX6_isSlip_18 : decode cX6_isSlip 18 = .ok (.iconst 0, 1) := by decide +kernel
theorem dX6_isSlip_19 : decode cX6_isSlip 19 = .ok (.ireturn, 1) := by decide +kernel
theorem dX6_slip_0 : decode cX6_slip 0 = .ok (.aload_n 0, 1) := by decide +kernel
theorem dX6_slip_1 : decode cX6_slip 1 = .ok (.iload_n 1, 1) := by decide +kernel
theorem dX6_slip_2 : decode cX6_slip 2 = .ok (.invokevirtual 79, 3) := by decide +kernel
theorem dX6_slip_5 : decode cX6_slip 5 = .ok (.ifCond .ne 6, 3) := by decide +kernel
theorem dX6_slip_8 : decode cX6_slip 8 = .ok (.ldc 73, 2) := by decide +kernel
theorem dX6_slip_10 : decode cX6_slip 10 = .ok (.ireturn, 1) := by decide +kernel
theorem dX6_slip_11 : decode cX6_slip 11 = .ok (.iload_n 2, 1) := by decide +kernel
theorem dX6_slip_12 : decode cX6_slip 12 = .ok (.iconst 0, 1) := by decide +kernel
theorem dX6_slip_13 : decode cX6_slip 13 = .ok (.iconst 3, 1) := by decide +kernel
theorem dX6_slip_14 : decode cX6_slip 14 = .ok (.invokestatic 28, 3) := by decide +kernel
theorem dX6_slip_17 : decode cX6_slip 17 = .ok (.ifCond .eq 10, 3) := by decide +kernel
theorem dX6_slip_20 : decode cX6_slip 20 = .ok (.iload_n 3, 1) := by decide +kernel
theorem dX6_slip_21 : decode cX6_slip 21 = .ok (.invokestatic 87, 3) := by decide +kernel
theorem dX6_slip_24 : decode cX6_slip 24 = .ok (.ifCond .ne 6, 3) := by decide +kernel
theorem dX6_slip_27 : decode cX6_slip 27 = .ok (.ldc 74, 2) := by decide +kernel
theorem dX6_slip_29 : decode cX6_slip 29 = .ok (.ireturn, 1) := by decide +kernel
theorem dX6_slip_30 : decode cX6_slip 30 = .ok (.aload_n 0, 1) := by decide +kernel
theorem dX6_slip_31 : decode cX6_slip 31 = .ok (.invokevirtual 76, 3) := by decide +kernel
theorem dX6_slip_34 : decode cX6_slip 34 = .ok (.iconst 0, 1) := by decide +kernel
theorem dX6_slip_35 : decode cX6_slip 35 = .ok (.iload_n 1, 1) := by decide +kernel
theorem dX6_slip_36 : decode cX6_slip 36 = .ok (.invokestatic 32, 3) := by decide +kernel
theorem dX6_slip_39 : decode cX6_slip 39 = .ok (.iconst 4, 1) := by decide +kernel
theorem dX6_slip_40 : decode cX6_slip 40 = .ok (.iadd, 1) := by decide +kernel
theorem dX6_slip_41 : decode cX6_slip 41 = .ok (.iconst 4, 1) := by decide +kernel
theorem dX6_slip_42 : decode cX6_slip 42 = .ok (.iload_n 2, 1) := by decide +kernel
theorem dX6_slip_43 : decode cX6_slip 43 = .ok (.imul, 1) := by decide +kernel
theorem dX6_slip_44 : decode cX6_slip 44 = .ok (.iadd, 1) := by decide +kernel
theorem dX6_slip_45 : decode cX6_slip 45 = .ok (.istore 4, 2) := by decide +kernel
theorem dX6_slip_47 : decode cX6_slip 47 = .ok (.aload_n 0, 1) := by decide +kernel
theorem dX6_slip_48 : decode cX6_slip 48 = .ok (.getfield 7, 3) := by decide +kernel
theorem dX6_slip_51 : decode cX6_slip 51 = .ok (.iload 4, 2) := by decide +kernel
theorem dX6_slip_53 : decode cX6_slip 53 = .ok (.iconst 1, 1) := by decide +kernel
theorem dX6_slip_54 : decode cX6_slip 54 = .ok (.iadd, 1) := by decide +kernel
theorem dX6_slip_55 : decode cX6_slip 55 = .ok (.iaload, 1) := by decide +kernel
theorem dX6_slip_56 : decode cX6_slip 56 = .ok (.istore 5, 2) := by decide +kernel
theorem dX6_slip_58 : decode cX6_slip 58 = .ok (.aload_n 0, 1) := by decide +kernel
theorem dX6_slip_59 : decode cX6_slip 59 = .ok (.getfield 7, 3) := by decide +kernel
theorem dX6_slip_62 : decode cX6_slip 62 = .ok (.iload 4, 2) := by decide +kernel
theorem dX6_slip_64 : decode cX6_slip 64 = .ok (.iconst 1, 1) := by decide +kernel
theorem dX6_slip_65 : decode cX6_slip 65 = .ok (.iadd, 1) := by decide +kernel
theorem dX6_slip_66 : decode cX6_slip 66 = .ok (.iload_n 3, 1) := by decide +kernel
theorem dX6_slip_67 : decode cX6_slip 67 = .ok (.iastore, 1) := by decide +kernel
theorem dX6_slip_68 : decode cX6_slip 68 = .ok (.aload_n 0, 1) := by decide +kernel
theorem dX6_slip_69 : decode cX6_slip 69 = .ok (.getfield 7, 3) := by decide +kernel
theorem dX6_slip_72 : decode cX6_slip 72 = .ok (.iload 4, 2) := by decide +kernel
theorem dX6_slip_74 : decode cX6_slip 74 = .ok (.iconst 2, 1) := by decide +kernel
theorem dX6_slip_75 : decode cX6_slip 75 = .ok (.iadd, 1) := by decide +kernel
theorem dX6_slip_76 : decode cX6_slip 76 = .ok (.iconst 0, 1) := by decide +kernel
theorem dX6_slip_77 : decode cX6_slip 77 = .ok (.iastore, 1) := by decide +kernel
theorem dX6_slip_78 : decode cX6_slip 78 = .ok (.iload 5, 2) := by decide +kernel
theorem dX6_slip_80 : decode cX6_slip 80 = .ok (.ireturn, 1) := by decide +kernel
theorem dX6_wrong_0 : decode cX6_wrong 0 = .ok (.aload_n 0, 1) := by decide +kernel
theorem dX6_wrong_1 : decode cX6_wrong 1 = .ok (.iload_n 1, 1) := by decide +kernel
theorem dX6_wrong_2 : decode cX6_wrong 2 = .ok (.invokevirtual 79, 3) := by decide +kernel
theorem dX6_wrong_5 : decode cX6_wrong 5 = .ok (.ifCond .ne 6, 3) := by decide +kernel
theorem dX6_wrong_8 : decode cX6_wrong 8 = .ok (.ldc 73, 2) := by decide +kernel
theorem dX6_wrong_10 : decode cX6_wrong 10 = .ok (.ireturn, 1) := by decide +kernel
theorem dX6_wrong_11 : decode cX6_wrong 11 = .ok (.iload_n 3, 1) := by decide +kernel
theorem dX6_wrong_12 : decode cX6_wrong 12 = .ok (.iconst 1, 1) := by decide +kernel
theorem dX6_wrong_13 : decode cX6_wrong 13 = .ok (.bipush 99, 2) := by decide +kernel
theorem dX6_wrong_15 : decode cX6_wrong 15 = .ok (.invokestatic 28, 3) := by decide +kernel
theorem dX6_wrong_18 : decode cX6_wrong 18 = .ok (.ifCond .ne 6, 3) := by decide +kernel
theorem dX6_wrong_21 : decode cX6_wrong 21 = .ok (.ldc 74, 2) := by decide +kernel
theorem dX6_wrong_23 : decode cX6_wrong 23 = .ok (.ireturn, 1) := by decide +kernel
theorem dX6_wrong_24 : decode cX6_wrong 24 = .ok (.aload_n 0, 1) := by decide +kernel
theorem dX6_wrong_25 : decode cX6_wrong 25 = .ok (.iconst 0, 1) := by decide +kernel
theorem dX6_wrong_26 : decode cX6_wrong 26 = .ok (.iload_n 1, 1) := by decide +kernel
theorem dX6_wrong_27 : decode cX6_wrong 27 = .ok (.iload_n 2, 1) := by decide +kernel
theorem dX6_wrong_28 : decode cX6_wrong 28 = .ok (.iload_n 3, 1) := by decide +kernel
theorem dX6_wrong_29 : decode cX6_wrong 29 = .ok (.invokevirtual 90, 3) := by decide +kernel
theorem dX6_wrong_32 : decode cX6_wrong 32 = .ok (.istore 4, 2) := by decide +kernel
theorem dX6_wrong_34 : decode cX6_wrong 34 = .ok (.iload 4, 2) := by decide +kernel
theorem dX6_wrong_36 : decode cX6_wrong 36 = .ok (.ifCond .le 11, 3) := by decide +kernel
theorem dX6_wrong_39 : decode cX6_wrong 39 = .ok (.bipush (-10), 2) := by decide +kernel
theorem dX6_wrong_41 : decode cX6_wrong 41 = .ok (.iload 4, 2) := by decide +kernel
theorem dX6_wrong_43 : decode cX6_wrong 43 = .ok (.isub, 1) := by decide +kernel
theorem dX6_wrong_44 : decode cX6_wrong 44 = .ok (.goto 4, 3) := by decide +kernel
theorem dX6_wrong_47 : decode cX6_wrong 47 = .ok (.iconst 0, 1) := by decide +kernel
theorem dX6_wrong_48 : decode cX6_wrong 48 = .ok (.ireturn, 1) := by decide +kernel
theorem dX6_pass_0 : decode cX6_pass 0 = .ok (.aload_n 0, 1) := by decide +kernel
theorem dX6_pass_1 : decode cX6_pass 1 = .ok (.iload_n 1, 1) := by decide +kernel
theorem dX6_pass_2 : decode cX6_pass 2 = .ok (.iload_n 2, 1) := by decide +kernel
theorem dX6_pass_3 : decode cX6_pass 3 = .ok (.iload_n 3, 1) := by decide +kernel
theorem dX6_pass_4 : decode cX6_pass 4 = .ok (.invokevirtual 93, 3) := by decide +kernel
theorem dX6_pass_7 : decode cX6_pass 7 = .ok (.istore 4, 2) := by decide +kernel
theorem dX6_pass_9 : decode cX6_pass 9 = .ok (.iload 4, 2) := by decide +kernel
theorem dX6_pass_11 : decode cX6_pass 11 = .ok (.ifCond .ge 6, 3) := by decide +kernel
theorem dX6_pass_14 : decode cX6_pass 14 = .ok (.iload 4, 2) := by decide +kernel
theorem dX6_pass_16 : decode cX6_pass 16 = .ok (.ireturn, 1) := by decide +kernel
theorem dX6_pass_17 : decode cX6_pass 17 = .ok (.aload_n 0, 1) := by decide +kernel
theorem dX6_pass_18 : decode cX6_pass 18 = .ok (.invokevirtual 76, 3) := by decide +kernel
theorem dX6_pass_21 : decode cX6_pass 21 = .ok (.aload_n 0, 1) := by decide +kernel
theorem dX6_pass_22 : decode cX6_pass 22 = .ok (.iconst 0, 1) := by decide +kernel
theorem dX6_pass_23 : decode cX6_pass 23 = .ok (.iload_n 1, 1) := by decide +kernel
theorem dX6_pass_24 : decode cX6_pass 24 = .ok (.iload_n 2, 1) := by decide +kernel
theorem dX6_pass_25 : decode cX6_pass 25 = .ok (.iload_n 3, 1) := by decide +kernel
theorem dX6_pass_26 : decode cX6_pass 26 = .ok (.invokevirtual 65, 3) := by decide +kernel
theorem dX6_pass_29 : decode cX6_pass 29 = .ok (.aload_n 0, 1) := by decide +kernel
theorem dX6_pass_30 : decode cX6_pass 30 = .ok (.iload_n 1, 1) := by decide +kernel
theorem dX6_pass_31 : decode cX6_pass 31 = .ok (.invokevirtual 97, 3) := by decide +kernel
theorem dX6_pass_34 : decode cX6_pass 34 = .ok (.ireturn, 1) := by decide +kernel
theorem dX6_audits_0 : decode cX6_audits 0 = .ok (.iconst 0, 1) := by decide +kernel
theorem dX6_audits_1 : decode cX6_audits 1 = .ok (.iload_n 1, 1) := by decide +kernel
theorem dX6_audits_2 : decode cX6_audits 2 = .ok (.invokestatic 32, 3) := by decide +kernel
theorem dX6_audits_5 : decode cX6_audits 5 = .ok (.iconst 4, 1) := by decide +kernel
theorem dX6_audits_6 : decode cX6_audits 6 = .ok (.iadd, 1) := by decide +kernel
theorem dX6_audits_7 : decode cX6_audits 7 = .ok (.istore_n 2, 1) := by decide +kernel
theorem dX6_audits_8 : decode cX6_audits 8 = .ok (.aload_n 0, 1) := by decide +kernel
theorem dX6_audits_9 : decode cX6_audits 9 = .ok (.getfield 7, 3) := by decide +kernel
theorem dX6_audits_12 : decode cX6_audits 12 = .ok (.iload_n 2, 1) := by decide +kernel
theorem dX6_audits_13 : decode cX6_audits 13 = .ok (.iaload, 1) := by decide +kernel
theorem dX6_audits_14 : decode cX6_audits 14 = .ok (.aload_n 0, 1) := by decide +kernel
theorem dX6_audits_15 : decode cX6_audits 15 = .ok (.getfield 7, 3) := by decide +kernel
theorem dX6_audits_18 : decode cX6_audits 18 = .ok (.iload_n 2, 1) := by decide +kernel
theorem dX6_audits_19 : decode cX6_audits 19 = .ok (.bipush 12, 2) := by decide +kernel
theorem dX6_audits_21 : decode cX6_audits 21 = .ok (.iadd, 1) := by decide +kernel
theorem dX6_audits_22 : decode cX6_audits 22 = .ok (.iaload, 1) := by decide +kernel
theorem dX6_audits_23 : decode cX6_audits 23 = .ok (.if_icmp .le 12, 3) := by decide +kernel
theorem dX6_audits_26 : decode cX6_audits 26 = .ok (.aload_n 0, 1) := by decide +kernel
theorem dX6_audits_27 : decode cX6_audits 27 = .ok (.getfield 7, 3) := by decide +kernel
theorem dX6_audits_30 : decode cX6_audits 30 = .ok (.iload_n 2, 1) := by decide +kernel
theorem dX6_audits_31 : decode cX6_audits 31 = .ok (.iaload, 1) := by decide +kernel
theorem dX6_audits_32 : decode cX6_audits 32 = .ok (.goto 12, 3) := by decide +kernel
theorem dX6_audits_35 : decode cX6_audits 35 = .ok (.aload_n 0, 1) := by decide +kernel
theorem dX6_audits_36 : decode cX6_audits 36 = .ok (.getfield 7, 3) := by decide +kernel
theorem dX6_audits_39 : decode cX6_audits 39 = .ok (.iload_n 2, 1) := by decide +kernel
theorem dX6_audits_40 : decode cX6_audits 40 = .ok (.bipush 12, 2) := by decide +kernel
theorem dX6_audits_42 : decode cX6_audits 42 = .ok (.iadd, 1) := by decide +kernel
theorem dX6_audits_43 : decode cX6_audits 43 = .ok (.iaload, 1) := by decide +kernel
theorem dX6_audits_44 : decode cX6_audits 44 = .ok (.istore_n 3, 1) := by decide +kernel
theorem dX6_audits_45 : decode cX6_audits 45 = .ok (.aload_n 0, 1) := by decide +kernel
theorem dX6_audits_46 : decode cX6_audits 46 = .ok (.getfield 7, 3) := by decide +kernel
theorem dX6_audits_49 : decode cX6_audits 49 = .ok (.iload_n 2, 1) := by decide +kernel
theorem dX6_audits_50 : decode cX6_audits 50 = .ok (.iconst 4, 1) := by decide +kernel
theorem dX6_audits_51 : decode cX6_audits 51 = .ok (.iadd, 1) := by decide +kernel
theorem dX6_audits_52 : decode cX6_audits 52 = .ok (.iaload, 1) := by decide +kernel
theorem dX6_audits_53 : decode cX6_audits 53 = .ok (.aload_n 0, 1) := by decide +kernel
theorem dX6_audits_54 : decode cX6_audits 54 = .ok (.getfield 7, 3) := by decide +kernel
theorem dX6_audits_57 : decode cX6_audits 57 = .ok (.iload_n 2, 1) := by decide +kernel
theorem dX6_audits_58 : decode cX6_audits 58 = .ok (.bipush 8, 2) := by decide +kernel
theorem dX6_audits_60 : decode cX6_audits 60 = .ok (.iadd, 1) := by decide +kernel
theorem dX6_audits_61 : decode cX6_audits 61 = .ok (.iaload, 1) := by decide +kernel
theorem dX6_audits_62 : decode cX6_audits 62 = .ok (.if_icmp .le 14, 3) := by decide +kernel
theorem dX6_audits_65 : decode cX6_audits 65 = .ok (.aload_n 0, 1) := by decide +kernel
theorem dX6_audits_66 : decode cX6_audits 66 = .ok (.getfield 7, 3) := by decide +kernel
theorem dX6_audits_69 : decode cX6_audits 69 = .ok (.iload_n 2, 1) := by decide +kernel
theorem dX6_audits_70 : decode cX6_audits 70 = .ok (.iconst 4, 1) := by decide +kernel
theorem dX6_audits_71 : decode cX6_audits 71 = .ok (.iadd, 1) := by decide +kernel
theorem dX6_audits_72 : decode cX6_audits 72 = .ok (.iaload, 1) := by decide +kernel
theorem dX6_audits_73 : decode cX6_audits 73 = .ok (.goto 12, 3) := by decide +kernel
theorem dX6_audits_76 : decode cX6_audits 76 = .ok (.aload_n 0, 1) := by decide +kernel
theorem dX6_audits_77 : decode cX6_audits 77 = .ok (.getfield 7, 3) := by decide +kernel
theorem dX6_audits_80 : decode cX6_audits 80 = .ok (.iload_n 2, 1) := by decide +kernel
theorem dX6_audits_81 : decode cX6_audits 81 = .ok (.bipush 8, 2) := by decide +kernel
theorem dX6_audits_83 : decode cX6_audits 83 = .ok (.iadd, 1) := by decide +kernel
theorem dX6_audits_84 : decode cX6_audits 84 = .ok (.iaload, 1) := by decide +kernel
theorem dX6_audits_85 : decode cX6_audits 85 = .ok (.istore 4, 2) := by decide +kernel
theorem dX6_audits_87 : decode cX6_audits 87 = .ok (.aload_n 0, 1) := by decide +kernel
theorem dX6_audits_88 : decode cX6_audits 88 = .ok (.getfield 7, 3) := by decide +kernel
theorem dX6_audits_91 : decode cX6_audits 91 = .ok (.iload_n 2, 1) := by decide +kernel
theorem dX6_audits_92 : decode cX6_audits 92 = .ok (.iload_n 3, 1) := by decide +kernel
theorem dX6_audits_93 : decode cX6_audits 93 = .ok (.iastore, 1) := by decide +kernel
theorem dX6_audits_94 : decode cX6_audits 94 = .ok (.aload_n 0, 1) := by decide +kernel
theorem dX6_audits_95 : decode cX6_audits 95 = .ok (.getfield 7, 3) := by decide +kernel
theorem dX6_audits_98 : decode cX6_audits 98 = .ok (.iload_n 2, 1) := by decide +kernel
theorem dX6_audits_99 : decode cX6_audits 99 = .ok (.bipush 12, 2) := by decide +kernel
theorem dX6_audits_101 : decode cX6_audits 101 = .ok (.iadd, 1) := by decide +kernel
theorem dX6_audits_102 : decode cX6_audits 102 = .ok (.iload_n 3, 1) := by decide +kernel
theorem dX6_audits_103 : decode cX6_audits 103 = .ok (.iastore, 1) := by decide +kernel
theorem dX6_audits_104 : decode cX6_audits 104 = .ok (.aload_n 0, 1) := by decide +kernel
theorem dX6_audits_105 : decode cX6_audits 105 = .ok (.getfield 7, 3) := by decide +kernel
theorem dX6_audits_108 : decode cX6_audits 108 = .ok (.iload_n 2, 1) := by decide +kernel
theorem dX6_audits_109 : decode cX6_audits 109 = .ok (.iconst 4, 1) := by decide +kernel
theorem dX6_audits_110 : decode cX6_audits 110 = .ok (.iadd, 1) := by decide +kernel
theorem dX6_audits_111 : decode cX6_audits 111 = .ok (.iload 4, 2) := by decide +kernel
theorem dX6_audits_113 : decode cX6_audits 113 = .ok (.iastore, 1) := by decide +kernel
theorem dX6_audits_114 : decode cX6_audits 114 = .ok (.aload_n 0, 1) := by decide +kernel
theorem dX6_audits_115 : decode cX6_audits 115 = .ok (.getfield 7, 3) := by decide +kernel
theorem dX6_audits_118 : decode cX6_audits 118 = .ok (.iload_n 2, 1) := by decide +kernel
theorem dX6_audits_119 : decode cX6_audits 119 = .ok (.bipush 8, 2) := by decide +kernel
theorem dX6_audits_121 : decode cX6_audits 121 = .ok (.iadd, 1) := by decide +kernel
theorem dX6_audits_122 : decode cX6_audits 122 = .ok (.iload 4, 2) := by decide +kernel
theorem dX6_audits_124 : decode cX6_audits 124 = .ok (.iastore, 1) := by decide +kernel
theorem dX6_audits_125 : decode cX6_audits 125 = .ok (.return_, 1) := by decide +kernel
theorem dX6_audit_0 : decode cX6_audit 0 = .ok (.aload_n 0, 1) := by decide +kernel
theorem dX6_audit_1 : decode cX6_audit 1 = .ok (.iload_n 1, 1) := by decide +kernel
theorem dX6_audit_2 : decode cX6_audit 2 = .ok (.invokevirtual 79, 3) := by decide +kernel
theorem dX6_audit_5 : decode cX6_audit 5 = .ok (.ifCond .ne 6, 3) := by decide +kernel
theorem dX6_audit_8 : decode cX6_audit 8 = .ok (.ldc 73, 2) := by decide +kernel
theorem dX6_audit_10 : decode cX6_audit 10 = .ok (.ireturn, 1) := by decide +kernel
theorem dX6_audit_11 : decode cX6_audit 11 = .ok (.aload_n 0, 1) := by decide +kernel
theorem dX6_audit_12 : decode cX6_audit 12 = .ok (.invokevirtual 76, 3) := by decide +kernel
theorem dX6_audit_15 : decode cX6_audit 15 = .ok (.aload_n 0, 1) := by decide +kernel
theorem dX6_audit_16 : decode cX6_audit 16 = .ok (.iload_n 1, 1) := by decide +kernel
theorem dX6_audit_17 : decode cX6_audit 17 = .ok (.invokevirtual 97, 3) := by decide +kernel
theorem dX6_audit_20 : decode cX6_audit 20 = .ok (.istore_n 2, 1) := by decide +kernel
theorem dX6_audit_21 : decode cX6_audit 21 = .ok (.aload_n 0, 1) := by decide +kernel
theorem dX6_audit_22 : decode cX6_audit 22 = .ok (.iload_n 1, 1) := by decide +kernel
theorem dX6_audit_23 : decode cX6_audit 23 = .ok (.invokevirtual 100, 3) := by decide +kernel
theorem dX6_audit_26 : decode cX6_audit 26 = .ok (.iload_n 2, 1) := by decide +kernel
theorem dX6_audit_27 : decode cX6_audit 27 = .ok (.ireturn, 1) := by decide +kernel
theorem dX6_repair_0 : decode cX6_repair 0 = .ok (.aload_n 0, 1) := by decide +kernel
theorem dX6_repair_1 : decode cX6_repair 1 = .ok (.iload_n 1, 1) := by decide +kernel
theorem dX6_repair_2 : decode cX6_repair 2 = .ok (.invokevirtual 79, 3) := by decide +kernel
theorem dX6_repair_5 : decode cX6_repair 5 = .ok (.ifCond .ne 6, 3) := by decide +kernel
theorem dX6_repair_8 : decode cX6_repair 8 = .ok (.ldc 73, 2) := by decide +kernel
theorem dX6_repair_10 : decode cX6_repair 10 = .ok (.ireturn, 1) := by decide +kernel
theorem dX6_repair_11 : decode cX6_repair 11 = .ok (.aload_n 0, 1) := by decide +kernel
theorem dX6_repair_12 : decode cX6_repair 12 = .ok (.getfield 7, 3) := by decide +kernel
theorem dX6_repair_15 : decode cX6_repair 15 = .ok (.iconst 0, 1) := by decide +kernel
theorem dX6_repair_16 : decode cX6_repair 16 = .ok (.iload_n 1, 1) := by decide +kernel
theorem dX6_repair_17 : decode cX6_repair 17 = .ok (.invokestatic 32, 3) := by decide +kernel
theorem dX6_repair_20 : decode cX6_repair 20 = .ok (.iconst 3, 1) := by decide +kernel
theorem dX6_repair_21 : decode cX6_repair 21 = .ok (.iadd, 1) := by decide +kernel
theorem dX6_repair_22 : decode cX6_repair 22 = .ok (.iaload, 1) := by decide +kernel
theorem dX6_repair_23 : decode cX6_repair 23 = .ok (.ifCond .le 6, 3) := by decide +kernel
theorem dX6_repair_26 : decode cX6_repair 26 = .ok (.ldc 86, 2) := by decide +kernel
theorem dX6_repair_28 : decode cX6_repair 28 = .ok (.ireturn, 1) := by decide +kernel
theorem dX6_repair_29 : decode cX6_repair 29 = .ok (.aload_n 0, 1) := by decide +kernel
theorem dX6_repair_30 : decode cX6_repair 30 = .ok (.invokevirtual 76, 3) := by decide +kernel
theorem dX6_repair_33 : decode cX6_repair 33 = .ok (.aload_n 0, 1) := by decide +kernel
theorem dX6_repair_34 : decode cX6_repair 34 = .ok (.getfield 7, 3) := by decide +kernel
theorem dX6_repair_37 : decode cX6_repair 37 = .ok (.iconst 0, 1) := by decide +kernel
theorem dX6_repair_38 : decode cX6_repair 38 = .ok (.iload_n 1, 1) := by decide +kernel
theorem dX6_repair_39 : decode cX6_repair 39 = .ok (.invokestatic 32, 3) := by decide +kernel
theorem dX6_repair_42 : decode cX6_repair 42 = .ok (.iconst 3, 1) := by decide +kernel
theorem dX6_repair_43 : decode cX6_repair 43 = .ok (.iadd, 1) := by decide +kernel
theorem dX6_repair_44 : decode cX6_repair 44 = .ok (.aload_n 0, 1) := by decide +kernel
theorem dX6_repair_45 : decode cX6_repair 45 = .ok (.getfield 7, 3) := by decide +kernel
theorem dX6_repair_48 : decode cX6_repair 48 = .ok (.iconst 1, 1) := by decide +kernel
theorem dX6_repair_49 : decode cX6_repair 49 = .ok (.iaload, 1) := by decide +kernel
theorem dX6_repair_50 : decode cX6_repair 50 = .ok (.iastore, 1) := by decide +kernel
theorem dX6_repair_51 : decode cX6_repair 51 = .ok (.aload_n 0, 1) := by decide +kernel
theorem dX6_repair_52 : decode cX6_repair 52 = .ok (.getfield 7, 3) := by decide +kernel
theorem dX6_repair_55 : decode cX6_repair 55 = .ok (.iconst 2, 1) := by decide +kernel
theorem dX6_repair_56 : decode cX6_repair 56 = .ok (.iaload, 1) := by decide +kernel
theorem dX6_repair_57 : decode cX6_repair 57 = .ok (.aload_n 0, 1) := by decide +kernel
theorem dX6_repair_58 : decode cX6_repair 58 = .ok (.getfield 7, 3) := by decide +kernel
theorem dX6_repair_61 : decode cX6_repair 61 = .ok (.iconst 1, 1) := by decide +kernel
theorem dX6_repair_62 : decode cX6_repair 62 = .ok (.iaload, 1) := by decide +kernel
theorem dX6_repair_63 : decode cX6_repair 63 = .ok (.iadd, 1) := by decide +kernel
theorem dX6_repair_64 : decode cX6_repair 64 = .ok (.ireturn, 1) := by decide +kernel
theorem dX6_hoursPass_0 : decode cX6_hoursPass 0 = .ok (.iconst 0, 1) := by decide +kernel
theorem dX6_hoursPass_1 : decode cX6_hoursPass 1 = .ok (.istore_n 2, 1) := by decide +kernel
theorem dX6_hoursPass_2 : decode cX6_hoursPass 2 = .ok (.iconst 0, 1) := by decide +kernel
theorem dX6_hoursPass_3 : decode cX6_hoursPass 3 = .ok (.istore_n 3, 1) := by decide +kernel
theorem dX6_hoursPass_4 : decode cX6_hoursPass 4 = .ok (.iload_n 3, 1) := by decide +kernel
theorem dX6_hoursPass_5 : decode cX6_hoursPass 5 = .ok (.iload_n 1, 1) := by decide +kernel
theorem dX6_hoursPass_6 : decode cX6_hoursPass 6 = .ok (.if_icmp .ge 17, 3) := by decide +kernel
theorem dX6_hoursPass_9 : decode cX6_hoursPass 9 = .ok (.iload_n 2, 1) := by decide +kernel
theorem dX6_hoursPass_10 : decode cX6_hoursPass 10 = .ok (.aload_n 0, 1) := by decide +kernel
theorem dX6_hoursPass_11 : decode cX6_hoursPass 11 = .ok (.iconst 0, 1) := by decide +kernel
theorem dX6_hoursPass_12 : decode cX6_hoursPass 12 = .ok (.invokevirtual 69, 3) := by decide +kernel
theorem dX6_hoursPass_15 : decode cX6_hoursPass 15 = .ok (.iadd, 1) := by decide +kernel
theorem dX6_hoursPass_16 : decode cX6_hoursPass 16 = .ok (.istore_n 2, 1) := by decide +kernel
theorem dX6_hoursPass_17 : decode cX6_hoursPass 17 = .ok (.iinc 3 1, 3) := by decide +kernel
theorem dX6_hoursPass_20 : decode cX6_hoursPass 20 = .ok (.goto (-16), 3) := by decide +kernel
theorem dX6_hoursPass_23 : decode cX6_hoursPass 23 = .ok (.iload_n 2, 1) := by decide +kernel
theorem dX6_hoursPass_24 : decode cX6_hoursPass 24 = .ok (.ireturn, 1) := by decide +kernel
theorem dX6_hours_0 : decode cX6_hours 0 = .ok (.iload_n 1, 1) := by decide +kernel
theorem dX6_hours_1 : decode cX6_hours 1 = .ok (.iconst 1, 1) := by decide +kernel
theorem dX6_hours_2 : decode cX6_hours 2 = .ok (.bipush 99, 2) := by decide +kernel
theorem dX6_hours_4 : decode cX6_hours 4 = .ok (.invokestatic 28, 3) := by decide +kernel
theorem dX6_hours_7 : decode cX6_hours 7 = .ok (.ifCond .ne 6, 3) := by decide +kernel
theorem dX6_hours_10 : decode cX6_hours 10 = .ok (.ldc 74, 2) := by decide +kernel
theorem dX6_hours_12 : decode cX6_hours 12 = .ok (.ireturn, 1) := by decide +kernel
theorem dX6_hours_13 : decode cX6_hours 13 = .ok (.aload_n 0, 1) := by decide +kernel
theorem dX6_hours_14 : decode cX6_hours 14 = .ok (.invokevirtual 76, 3) := by decide +kernel
theorem dX6_hours_17 : decode cX6_hours 17 = .ok (.aload_n 0, 1) := by decide +kernel
theorem dX6_hours_18 : decode cX6_hours 18 = .ok (.iload_n 1, 1) := by decide +kernel
theorem dX6_hours_19 : decode cX6_hours 19 = .ok (.invokevirtual 103, 3) := by decide +kernel
theorem dX6_hours_22 : decode cX6_hours 22 = .ok (.ireturn, 1) := by decide +kernel
theorem dX6_close_0 : decode cX6_close 0 = .ok (.iload_n 1, 1) := by decide +kernel
theorem dX6_close_1 : decode cX6_close 1 = .ok (.iconst 1, 1) := by decide +kernel
theorem dX6_close_2 : decode cX6_close 2 = .ok (.bipush 99, 2) := by decide +kernel
theorem dX6_close_4 : decode cX6_close 4 = .ok (.invokestatic 28, 3) := by decide +kernel
theorem dX6_close_7 : decode cX6_close 7 = .ok (.ifCond .ne 6, 3) := by decide +kernel
theorem dX6_close_10 : decode cX6_close 10 = .ok (.ldc 74, 2) := by decide +kernel
theorem dX6_close_12 : decode cX6_close 12 = .ok (.ireturn, 1) := by decide +kernel
theorem dX6_close_13 : decode cX6_close 13 = .ok (.aload_n 0, 1) := by decide +kernel
theorem dX6_close_14 : decode cX6_close 14 = .ok (.invokevirtual 76, 3) := by decide +kernel
theorem dX6_close_17 : decode cX6_close 17 = .ok (.iconst 1, 1) := by decide +kernel
theorem dX6_close_18 : decode cX6_close 18 = .ok (.istore_n 2, 1) := by decide +kernel
theorem dX6_close_19 : decode cX6_close 19 = .ok (.iconst 0, 1) := by decide +kernel
theorem dX6_close_20 : decode cX6_close 20 = .ok (.istore_n 3, 1) := by decide +kernel
theorem dX6_close_21 : decode cX6_close 21 = .ok (.iload_n 3, 1) := by decide +kernel
theorem dX6_close_22 : decode cX6_close 22 = .ok (.iload_n 1, 1) := by decide +kernel
theorem dX6_close_23 : decode cX6_close 23 = .ok (.if_icmp .ge 19, 3) := by decide +kernel
theorem dX6_close_26 : decode cX6_close 26 = .ok (.iload_n 2, 1) := by decide +kernel
theorem dX6_close_27 : decode cX6_close 27 = .ok (.ifCond .le 15, 3) := by decide +kernel
theorem dX6_close_30 : decode cX6_close 30 = .ok (.aload_n 0, 1) := by decide +kernel
theorem dX6_close_31 : decode cX6_close 31 = .ok (.iconst 0, 1) := by decide +kernel
theorem dX6_close_32 : decode cX6_close 32 = .ok (.invokevirtual 106, 3) := by decide +kernel
theorem dX6_close_35 : decode cX6_close 35 = .ok (.istore_n 2, 1) := by decide +kernel
theorem dX6_close_36 : decode cX6_close 36 = .ok (.iinc 3 1, 3) := by decide +kernel
theorem dX6_close_39 : decode cX6_close 39 = .ok (.goto (-18), 3) := by decide +kernel
theorem dX6_close_42 : decode cX6_close 42 = .ok (.aload_n 0, 1) := by decide +kernel
theorem dX6_close_43 : decode cX6_close 43 = .ok (.iconst 0, 1) := by decide +kernel
theorem dX6_close_44 : decode cX6_close 44 = .ok (.invokevirtual 109, 3) := by decide +kernel
theorem dX6_close_47 : decode cX6_close 47 = .ok (.ireturn, 1) := by decide +kernel
theorem dX6_set_0 : decode cX6_set 0 = .ok (.iload_n 1, 1) := by decide +kernel
theorem dX6_set_1 : decode cX6_set 1 = .ok (.iconst 0, 1) := by decide +kernel
theorem dX6_set_2 : decode cX6_set 2 = .ok (.iconst 1, 1) := by decide +kernel
theorem dX6_set_3 : decode cX6_set 3 = .ok (.invokestatic 28, 3) := by decide +kernel
theorem dX6_set_6 : decode cX6_set 6 = .ok (.ifCond .ne 6, 3) := by decide +kernel
theorem dX6_set_9 : decode cX6_set 9 = .ok (.ldc 73, 2) := by decide +kernel
theorem dX6_set_11 : decode cX6_set 11 = .ok (.ireturn, 1) := by decide +kernel
theorem dX6_set_12 : decode cX6_set 12 = .ok (.iload_n 2, 1) := by decide +kernel
theorem dX6_set_13 : decode cX6_set 13 = .ok (.iconst 1, 1) := by decide +kernel
theorem dX6_set_14 : decode cX6_set 14 = .ok (.iload_n 1, 1) := by decide +kernel
theorem dX6_set_15 : decode cX6_set 15 = .ok (.ifCond .ne 8, 3) := by decide +kernel
theorem dX6_set_18 : decode cX6_set 18 = .ok (.bipush 99, 2) := by decide +kernel
theorem dX6_set_20 : decode cX6_set 20 = .ok (.goto 5, 3) := by decide +kernel
theorem dX6_set_23 : decode cX6_set 23 = .ok (.bipush 48, 2) := by decide +kernel
theorem dX6_set_25 : decode cX6_set 25 = .ok (.invokestatic 28, 3) := by decide +kernel
theorem dX6_set_28 : decode cX6_set 28 = .ok (.ifCond .ne 6, 3) := by decide +kernel
theorem dX6_set_31 : decode cX6_set 31 = .ok (.ldc 74, 2) := by decide +kernel
theorem dX6_set_33 : decode cX6_set 33 = .ok (.ireturn, 1) := by decide +kernel
theorem dX6_set_34 : decode cX6_set 34 = .ok (.aload_n 0, 1) := by decide +kernel
theorem dX6_set_35 : decode cX6_set 35 = .ok (.invokevirtual 76, 3) := by decide +kernel
theorem dX6_set_38 : decode cX6_set 38 = .ok (.aload_n 0, 1) := by decide +kernel
theorem dX6_set_39 : decode cX6_set 39 = .ok (.getfield 7, 3) := by decide +kernel
theorem dX6_set_42 : decode cX6_set 42 = .ok (.iload_n 1, 1) := by decide +kernel
theorem dX6_set_43 : decode cX6_set 43 = .ok (.iaload, 1) := by decide +kernel
theorem dX6_set_44 : decode cX6_set 44 = .ok (.istore_n 3, 1) := by decide +kernel
theorem dX6_set_45 : decode cX6_set 45 = .ok (.aload_n 0, 1) := by decide +kernel
theorem dX6_set_46 : decode cX6_set 46 = .ok (.getfield 7, 3) := by decide +kernel
theorem dX6_set_49 : decode cX6_set 49 = .ok (.iload_n 1, 1) := by decide +kernel
theorem dX6_set_50 : decode cX6_set 50 = .ok (.iload_n 2, 1) := by decide +kernel
theorem dX6_set_51 : decode cX6_set 51 = .ok (.iastore, 1) := by decide +kernel
theorem dX6_set_52 : decode cX6_set 52 = .ok (.iload_n 3, 1) := by decide +kernel
theorem dX6_set_53 : decode cX6_set 53 = .ok (.ireturn, 1) := by decide +kernel
theorem dX6_append_0 : decode cX6_append 0 = .ok (.iload_n 1, 1) := by decide +kernel
theorem dX6_append_1 : decode cX6_append 1 = .ok (.bipush 32, 2) := by decide +kernel
theorem dX6_append_3 : decode cX6_append 3 = .ok (.bipush 126, 2) := by decide +kernel
theorem dX6_append_5 : decode cX6_append 5 = .ok (.invokestatic 28, 3) := by decide +kernel
theorem dX6_append_8 : decode cX6_append 8 = .ok (.ifCond .ne 6, 3) := by decide +kernel
theorem dX6_append_11 : decode cX6_append 11 = .ok (.ldc 74, 2) := by decide +kernel
theorem dX6_append_13 : decode cX6_append 13 = .ok (.ireturn, 1) := by decide +kernel
theorem dX6_append_14 : decode cX6_append 14 = .ok (.aload_n 0, 1) := by decide +kernel
theorem dX6_append_15 : decode cX6_append 15 = .ok (.getfield 112, 3) := by decide +kernel
theorem dX6_append_18 : decode cX6_append 18 = .ok (.bipush 60, 2) := by decide +kernel
theorem dX6_append_20 : decode cX6_append 20 = .ok (.if_icmp .ne 6, 3) := by decide +kernel
theorem dX6_append_23 : decode cX6_append 23 = .ok (.ldc 75, 2) := by decide +kernel
theorem dX6_append_25 : decode cX6_append 25 = .ok (.ireturn, 1) := by decide +kernel
theorem dX6_append_26 : decode cX6_append 26 = .ok (.aload_n 0, 1) := by decide +kernel
theorem dX6_append_27 : decode cX6_append 27 = .ok (.getfield 13, 3) := by decide +kernel
theorem dX6_append_30 : decode cX6_append 30 = .ok (.aload_n 0, 1) := by decide +kernel
theorem dX6_append_31 : decode cX6_append 31 = .ok (.getfield 112, 3) := by decide +kernel
theorem dX6_append_34 : decode cX6_append 34 = .ok (.iload_n 1, 1) := by decide +kernel
theorem dX6_append_35 : decode cX6_append 35 = .ok (.i2c, 1) := by decide +kernel
theorem dX6_append_36 : decode cX6_append 36 = .ok (.castore, 1) := by decide +kernel
theorem dX6_append_37 : decode cX6_append 37 = .ok (.aload_n 0, 1) := by decide +kernel
theorem dX6_append_38 : decode cX6_append 38 = .ok (.dup, 1) := by decide +kernel
theorem dX6_append_39 : decode cX6_append 39 = .ok (.getfield 112, 3) := by decide +kernel
theorem dX6_append_42 : decode cX6_append 42 = .ok (.iconst 1, 1) := by decide +kernel
theorem dX6_append_43 : decode cX6_append 43 = .ok (.iadd, 1) := by decide +kernel
theorem dX6_append_44 : decode cX6_append 44 = .ok (.putfield 112, 3) := by decide +kernel
theorem dX6_append_47 : decode cX6_append 47 = .ok (.aload_n 0, 1) := by decide +kernel
theorem dX6_append_48 : decode cX6_append 48 = .ok (.getfield 112, 3) := by decide +kernel
theorem dX6_append_51 : decode cX6_append 51 = .ok (.ireturn, 1) := by decide +kernel
theorem dX6_clearText_0 : decode cX6_clearText 0 = .ok (.aload_n 0, 1) := by decide +kernel
theorem dX6_clearText_1 : decode cX6_clearText 1 = .ok (.getfield 112, 3) := by decide +kernel
theorem dX6_clearText_4 : decode cX6_clearText 4 = .ok (.istore_n 1, 1) := by decide +kernel
theorem dX6_clearText_5 : decode cX6_clearText 5 = .ok (.aload_n 0, 1) := by decide +kernel
theorem dX6_clearText_6 : decode cX6_clearText 6 = .ok (.iconst 0, 1) := by decide +kernel
theorem dX6_clearText_7 : decode cX6_clearText 7 = .ok (.putfield 112, 3) := by decide +kernel
theorem dX6_clearText_10 : decode cX6_clearText 10 = .ok (.iload_n 1, 1) := by decide +kernel
theorem dX6_clearText_11 : decode cX6_clearText 11 = .ok (.ireturn, 1) := by decide +kernel
theorem dX6_isNow_0 : decode cX6_isNow 0 = .ok (.aload_n 0, 1) := by decide +kernel
theorem dX6_isNow_1 : decode cX6_isNow 1 = .ok (.getfield 115, 3) := by decide +kernel
theorem dX6_isNow_4 : decode cX6_isNow 4 = .ok (.ifCond .ne 35, 3) := by decide +kernel
theorem dX6_isNow_7 : decode cX6_isNow 7 = .ok (.aload_n 0, 1) := by decide +kernel
theorem dX6_isNow_8 : decode cX6_isNow 8 = .ok (.getfield 119, 3) := by decide +kernel
theorem dX6_isNow_11 : decode cX6_isNow 11 = .ok (.aload_n 0, 1) := by decide +kernel
theorem dX6_isNow_12 : decode cX6_isNow 12 = .ok (.getfield 112, 3) := by decide +kernel
theorem dX6_isNow_15 : decode cX6_isNow 15 = .ok (.if_icmp .ge 24, 3) := by decide +kernel
theorem dX6_isNow_18 : decode cX6_isNow 18 = .ok (.aload_n 0, 1) := by decide +kernel
theorem dX6_isNow_19 : decode cX6_isNow 19 = .ok (.getfield 13, 3) := by decide +kernel
theorem dX6_isNow_22 : decode cX6_isNow 22 = .ok (.aload_n 0, 1) := by decide +kernel
theorem dX6_isNow_23 : decode cX6_isNow 23 = .ok (.getfield 119, 3) := by decide +kernel
theorem dX6_isNow_26 : decode cX6_isNow 26 = .ok (.caload, 1) := by decide +kernel
theorem dX6_isNow_27 : decode cX6_isNow 27 = .ok (.iload_n 1, 1) := by decide +kernel
theorem dX6_isNow_28 : decode cX6_isNow 28 = .ok (.iload_n 2, 1) := by decide +kernel
theorem dX6_isNow_29 : decode cX6_isNow 29 = .ok (.invokestatic 28, 3) := by decide +kernel
theorem dX6_isNow_32 : decode cX6_isNow 32 = .ok (.ifCond .eq 7, 3) := by decide +kernel
theorem dX6_isNow_35 : decode cX6_isNow 35 = .ok (.iconst 1, 1) := by decide +kernel
theorem dX6_isNow_36 : decode cX6_isNow 36 = .ok (.goto 4, 3) := by decide +kernel
theorem dX6_isNow_39 : decode cX6_isNow 39 = .ok (.iconst 0, 1) := by decide +kernel
theorem dX6_isNow_40 : decode cX6_isNow 40 = .ok (.ireturn, 1) := by decide +kernel
theorem dX6_readsNumber_0 : decode cX6_readsNumber 0 = .ok (.aload_n 0, 1) := by decide +kernel
theorem dX6_readsNumber_1 : decode cX6_readsNumber 1 = .ok (.aload_n 0, 1) := by decide +kernel
theorem dX6_readsNumber_2 : decode cX6_readsNumber 2 = .ok (.getfield 115, 3) := by decide +kernel
theorem dX6_readsNumber_5 : decode cX6_readsNumber 5 = .ok (.ifCond .ne 14, 3) := by decide +kernel
theorem dX6_readsNumber_8 : decode cX6_readsNumber 8 = .ok (.aload_n 0, 1) := by decide +kernel
theorem dX6_readsNumber_9 : decode cX6_readsNumber 9 = .ok (.bipush 49, 2) := by decide +kernel
theorem dX6_readsNumber_11 : decode cX6_readsNumber 11 = .ok (.bipush 57, 2) := by decide +kernel
theorem dX6_readsNumber_13 : decode cX6_readsNumber 13 = .ok (.invokevirtual 122, 3) := by decide +kernel
theorem dX6_readsNumber_16 : decode cX6_readsNumber 16 = .ok (.ifCond .ne 7, 3) := by decide +kernel
theorem dX6_readsNumber_19 : decode cX6_readsNumber 19 = .ok (.iconst 1, 1) := by decide +kernel
theorem dX6_readsNumber_20 : decode cX6_readsNumber 20 = .ok (.goto 4, 3) := by decide +kernel
theorem dX6_readsNumber_23 : decode cX6_readsNumber 23 = .ok (.iconst 0, 1) := by decide +kernel
theorem dX6_readsNumber_24 : decode cX6_readsNumber 24 = .ok (.putfield 115, 3) := by decide +kernel
theorem dX6_readsNumber_27 : decode cX6_readsNumber 27 = .ok (.aload_n 0, 1) := by decide +kernel
theorem dX6_readsNumber_28 : decode cX6_readsNumber 28 = .ok (.iconst 0, 1) := by decide +kernel
theorem dX6_readsNumber_29 : decode cX6_readsNumber 29 = .ok (.putfield 126, 3) := by decide +kernel
theorem dX6_readsNumber_32 : decode cX6_readsNumber 32 = .ok (.aload_n 0, 1) := by decide +kernel
theorem dX6_readsNumber_33 : decode cX6_readsNumber 33 = .ok (.getfield 115, 3) := by decide +kernel
theorem dX6_readsNumber_36 : decode cX6_readsNumber 36 = .ok (.ifCond .ne 74, 3) := by decide +kernel
theorem dX6_readsNumber_39 : decode cX6_readsNumber 39 = .ok (.aload_n 0, 1) := by decide +kernel
theorem dX6_readsNumber_40 : decode cX6_readsNumber 40 = .ok (.aload_n 0, 1) := by decide +kernel
theorem dX6_readsNumber_41 : decode cX6_readsNumber 41 = .ok (.getfield 13, 3) := by decide +kernel
theorem dX6_readsNumber_44 : decode cX6_readsNumber 44 = .ok (.aload_n 0, 1) := by decide +kernel
theorem dX6_readsNumber_45 : decode cX6_readsNumber 45 = .ok (.getfield 119, 3) := by decide +kernel
theorem dX6_readsNumber_48 : decode cX6_readsNumber 48 = .ok (.caload, 1) := by decide +kernel
theorem dX6_readsNumber_49 : decode cX6_readsNumber 49 = .ok (.bipush 48, 2) := by decide +kernel
theorem dX6_readsNumber_51 : decode cX6_readsNumber 51 = .ok (.isub, 1) := by decide +kernel
theorem dX6_readsNumber_52 : decode cX6_readsNumber 52 = .ok (.putfield 126, 3) := by decide +kernel
theorem dX6_readsNumber_55 : decode cX6_readsNumber 55 = .ok (.aload_n 0, 1) := by decide +kernel
theorem dX6_readsNumber_56 : decode cX6_readsNumber 56 = .ok (.dup, 1) := by decide +kernel
theorem dX6_readsNumber_57 : decode cX6_readsNumber 57 = .ok (.getfield 119, 3) := by decide +kernel
theorem dX6_readsNumber_60 : decode cX6_readsNumber 60 = .ok (.iconst 1, 1) := by decide +kernel
theorem dX6_readsNumber_61 : decode cX6_readsNumber 61 = .ok (.iadd, 1) := by decide +kernel
theorem dX6_readsNumber_62 : decode cX6_readsNumber 62 = .ok (.putfield 119, 3) := by decide +kernel
theorem dX6_readsNumber_65 : decode cX6_readsNumber 65 = .ok (.aload_n 0, 1) := by decide +kernel
theorem dX6_readsNumber_66 : decode cX6_readsNumber 66 = .ok (.bipush 48, 2) := by decide +kernel
theorem dX6_readsNumber_68 : decode cX6_readsNumber 68 = .ok (.bipush 57, 2) := by decide +kernel
theorem dX6_readsNumber_70 : decode cX6_readsNumber 70 = .ok (.invokevirtual 122, 3) := by decide +kernel
theorem dX6_readsNumber_73 : decode cX6_readsNumber 73 = .ok (.ifCond .eq 37, 3) := by decide +kernel
theorem dX6_readsNumber_76 : decode cX6_readsNumber 76 = .ok (.aload_n 0, 1) := by decide +kernel
theorem dX6_readsNumber_77 : decode cX6_readsNumber 77 = .ok (.bipush 10, 2) := by decide +kernel
theorem dX6_readsNumber_79 : decode cX6_readsNumber 79 = .ok (.aload_n 0, 1) := by decide +kernel
theorem dX6_readsNumber_80 : decode cX6_readsNumber 80 = .ok (.getfield 126, 3) := by decide +kernel
theorem dX6_readsNumber_83 : decode cX6_readsNumber 83 = .ok (.imul, 1) := by decide +kernel
theorem dX6_readsNumber_84 : decode cX6_readsNumber 84 = .ok (.aload_n 0, 1) := by decide +kernel
theorem dX6_readsNumber_85 : decode cX6_readsNumber 85 = .ok (.getfield 13, 3) := by decide +kernel
theorem dX6_readsNumber_88 : decode cX6_readsNumber 88 = .ok (.aload_n 0, 1) := by decide +kernel
theorem dX6_readsNumber_89 : decode cX6_readsNumber 89 = .ok (.getfield 119, 3) := by decide +kernel
theorem dX6_readsNumber_92 : decode cX6_readsNumber 92 = .ok (.caload, 1) := by decide +kernel
theorem dX6_readsNumber_93 : decode cX6_readsNumber 93 = .ok (.iadd, 1) := by decide +kernel
theorem dX6_readsNumber_94 : decode cX6_readsNumber 94 = .ok (.bipush 48, 2) := by decide +kernel
theorem dX6_readsNumber_96 : decode cX6_readsNumber 96 = .ok (.isub, 1) := by decide +kernel
theorem dX6_readsNumber_97 : decode cX6_readsNumber 97 = .ok (.putfield 126, 3) := by decide +kernel
theorem dX6_readsNumber_100 : decode cX6_readsNumber 100 = .ok (.aload_n 0, 1) := by decide +kernel
theorem dX6_readsNumber_101 : decode cX6_readsNumber 101 = .ok (.dup, 1) := by decide +kernel
theorem dX6_readsNumber_102 : decode cX6_readsNumber 102 = .ok (.getfield 119, 3) := by decide +kernel
theorem dX6_readsNumber_105 : decode cX6_readsNumber 105 = .ok (.iconst 1, 1) := by decide +kernel
theorem dX6_readsNumber_106 : decode cX6_readsNumber 106 = .ok (.iadd, 1) := by decide +kernel
theorem dX6_readsNumber_107 : decode cX6_readsNumber 107 = .ok (.putfield 119, 3) := by decide +kernel
theorem dX6_readsNumber_110 : decode cX6_readsNumber 110 = .ok (.return_, 1) := by decide +kernel
theorem dX6_readsOrder_0 : decode cX6_readsOrder 0 = .ok (.aload_n 0, 1) := by decide +kernel
theorem dX6_readsOrder_1 : decode cX6_readsOrder 1 = .ok (.bipush 32, 2) := by decide +kernel
theorem dX6_readsOrder_3 : decode cX6_readsOrder 3 = .ok (.putfield 129, 3) := by decide +kernel
theorem dX6_readsOrder_6 : decode cX6_readsOrder 6 = .ok (.aload_n 0, 1) := by decide +kernel
theorem dX6_readsOrder_7 : decode cX6_readsOrder 7 = .ok (.bipush 104, 2) := by decide +kernel
theorem dX6_readsOrder_9 : decode cX6_readsOrder 9 = .ok (.bipush 104, 2) := by decide +kernel
theorem dX6_readsOrder_11 : decode cX6_readsOrder 11 = .ok (.invokevirtual 122, 3) := by decide +kernel
theorem dX6_readsOrder_14 : decode cX6_readsOrder 14 = .ok (.ifCond .eq 26, 3) := by decide +kernel
theorem dX6_readsOrder_17 : decode cX6_readsOrder 17 = .ok (.aload_n 0, 1) := by decide +kernel
theorem dX6_readsOrder_18 : decode cX6_readsOrder 18 = .ok (.bipush 104, 2) := by decide +kernel
theorem dX6_readsOrder_20 : decode cX6_readsOrder 20 = .ok (.putfield 129, 3) := by decide +kernel
theorem dX6_readsOrder_23 : decode cX6_readsOrder 23 = .ok (.aload_n 0, 1) := by decide +kernel
theorem dX6_readsOrder_24 : decode cX6_readsOrder 24 = .ok (.dup, 1) := by decide +kernel
theorem dX6_readsOrder_25 : decode cX6_readsOrder 25 = .ok (.getfield 119, 3) := by decide +kernel
theorem dX6_readsOrder_28 : decode cX6_readsOrder 28 = .ok (.iconst 1, 1) := by decide +kernel
theorem dX6_readsOrder_29 : decode cX6_readsOrder 29 = .ok (.iadd, 1) := by decide +kernel
theorem dX6_readsOrder_30 : decode cX6_readsOrder 30 = .ok (.putfield 119, 3) := by decide +kernel
theorem dX6_readsOrder_33 : decode cX6_readsOrder 33 = .ok (.aload_n 0, 1) := by decide +kernel
theorem dX6_readsOrder_34 : decode cX6_readsOrder 34 = .ok (.invokevirtual 133, 3) := by decide +kernel
theorem dX6_readsOrder_37 : decode cX6_readsOrder 37 = .ok (.goto 172, 3) := by decide +kernel
theorem dX6_readsOrder_40 : decode cX6_readsOrder 40 = .ok (.aload_n 0, 1) := by decide +kernel
theorem dX6_readsOrder_41 : decode cX6_readsOrder 41 = .ok (.bipush 65, 2) := by decide +kernel
theorem dX6_readsOrder_43 : decode cX6_readsOrder 43 = .ok (.bipush 76, 2) := by decide +kernel
theorem dX6_readsOrder_45 : decode cX6_readsOrder 45 = .ok (.invokevirtual 122, 3) := by decide +kernel
theorem dX6_readsOrder_48 : decode cX6_readsOrder 48 = .ok (.ifCond .eq 156, 3) := by decide +kernel
theorem dX6_readsOrder_51 : decode cX6_readsOrder 51 = .ok (.aload_n 0, 1) := by decide +kernel
theorem dX6_readsOrder_52 : decode cX6_readsOrder 52 = .ok (.aload_n 0, 1) := by decide +kernel
theorem dX6_readsOrder_53 : decode cX6_readsOrder 53 = .ok (.getfield 13, 3) := by decide +kernel
theorem dX6_readsOrder_56 : decode cX6_readsOrder 56 = .ok (.aload_n 0, 1) := by decide +kernel
theorem dX6_readsOrder_57 : decode cX6_readsOrder 57 = .ok (.getfield 119, 3) := by decide +kernel
theorem dX6_readsOrder_60 : decode cX6_readsOrder 60 = .ok (.caload, 1) := by decide +kernel
theorem dX6_readsOrder_61 : decode cX6_readsOrder 61 = .ok (.bipush 65, 2) := by decide +kernel
theorem dX6_readsOrder_63 : decode cX6_readsOrder 63 = .ok (.isub, 1) := by decide +kernel
theorem dX6_readsOrder_64 : decode cX6_readsOrder 64 = .ok (.putfield 136, 3) := by decide +kernel
theorem dX6_readsOrder_67 : decode cX6_readsOrder 67 = .ok (.aload_n 0, 1) := by decide +kernel
theorem dX6_readsOrder_68 : decode cX6_readsOrder 68 = .ok (.dup, 1) := by decide +kernel
theorem dX6_readsOrder_69 : decode cX6_readsOrder 69 = .ok (.getfield 119, 3) := by decide +kernel
theorem dX6_readsOrder_72 : decode cX6_readsOrder 72 = .ok (.iconst 1, 1) := by decide +kernel
theorem dX6_readsOrder_73 : decode cX6_readsOrder 73 = .ok (.iadd, 1) := by decide +kernel
theorem dX6_readsOrder_74 : decode cX6_readsOrder 74 = .ok (.putfield 119, 3) := by decide +kernel
theorem dX6_readsOrder_77 : decode cX6_readsOrder 77 = .ok (.aload_n 0, 1) := by decide +kernel
theorem dX6_readsOrder_78 : decode cX6_readsOrder 78 = .ok (.bipush 62, 2) := by decide +kernel
theorem dX6_readsOrder_80 : decode cX6_readsOrder 80 = .ok (.bipush 62, 2) := by decide +kernel
theorem dX6_readsOrder_82 : decode cX6_readsOrder 82 = .ok (.invokevirtual 122, 3) := by decide +kernel
theorem dX6_readsOrder_85 : decode cX6_readsOrder 85 = .ok (.ifCond .ne 14, 3) := by decide +kernel
theorem dX6_readsOrder_88 : decode cX6_readsOrder 88 = .ok (.aload_n 0, 1) := by decide +kernel
theorem dX6_readsOrder_89 : decode cX6_readsOrder 89 = .ok (.bipush 60, 2) := by decide +kernel
theorem dX6_readsOrder_91 : decode cX6_readsOrder 91 = .ok (.bipush 60, 2) := by decide +kernel
theorem dX6_readsOrder_93 : decode cX6_readsOrder 93 = .ok (.invokevirtual 122, 3) := by decide +kernel
theorem dX6_readsOrder_96 : decode cX6_readsOrder 96 = .ok (.ifCond .eq 7, 3) := by decide +kernel
theorem dX6_readsOrder_99 : decode cX6_readsOrder 99 = .ok (.iconst 1, 1) := by decide +kernel
theorem dX6_readsOrder_100 : decode cX6_readsOrder 100 = .ok (.goto 4, 3) := by decide +kernel
theorem dX6_readsOrder_103 : decode cX6_readsOrder 103 = .ok (.iconst 0, 1) := by decide +kernel
theorem dX6_readsOrder_104 : decode cX6_readsOrder 104 = .ok (.istore_n 1, 1) := by decide +kernel
theorem dX6_readsOrder_105 : decode cX6_readsOrder 105 = .ok (.aload_n 0, 1) := by decide +kernel
theorem dX6_readsOrder_106 : decode cX6_readsOrder 106 = .ok (.aload_n 0, 1) := by decide +kernel
theorem dX6_readsOrder_107 : decode cX6_readsOrder 107 = .ok (.getfield 115, 3) := by decide +kernel
theorem dX6_readsOrder_110 : decode cX6_readsOrder 110 = .ok (.ifCond .ne 29, 3) := by decide +kernel
theorem dX6_readsOrder_113 : decode cX6_readsOrder 113 = .ok (.iload_n 1, 1) := by decide +kernel
theorem dX6_readsOrder_114 : decode cX6_readsOrder 114 = .ok (.ifCond .ne 29, 3) := by decide +kernel
theorem dX6_readsOrder_117 : decode cX6_readsOrder 117 = .ok (.aload_n 0, 1) := by decide +kernel
theorem dX6_readsOrder_118 : decode cX6_readsOrder 118 = .ok (.bipush 97, 2) := by decide +kernel
theorem dX6_readsOrder_120 : decode cX6_readsOrder 120 = .ok (.bipush 97, 2) := by decide +kernel
theorem dX6_readsOrder_122 : decode cX6_readsOrder 122 = .ok (.invokevirtual 122, 3) := by decide +kernel
theorem dX6_readsOrder_125 : decode cX6_readsOrder 125 = .ok (.ifCond .ne 18, 3) := by decide +kernel
theorem dX6_readsOrder_128 : decode cX6_readsOrder 128 = .ok (.aload_n 0, 1) := by decide +kernel
theorem dX6_readsOrder_129 : decode cX6_readsOrder 129 = .ok (.bipush 114, 2) := by decide +kernel
theorem dX6_readsOrder_131 : decode cX6_readsOrder 131 = .ok (.bipush 114, 2) := by decide +kernel
theorem dX6_readsOrder_133 : decode cX6_readsOrder 133 = .ok (.invokevirtual 122, 3) := by decide +kernel
theorem dX6_readsOrder_136 : decode cX6_readsOrder 136 = .ok (.ifCond .ne 7, 3) := by decide +kernel
theorem dX6_readsOrder_139 : decode cX6_readsOrder 139 = .ok (.iconst 1, 1) := by decide +kernel
theorem dX6_readsOrder_140 : decode cX6_readsOrder 140 = .ok (.goto 4, 3) := by decide +kernel
theorem dX6_readsOrder_143 : decode cX6_readsOrder 143 = .ok (.iconst 0, 1) := by decide +kernel
theorem dX6_readsOrder_144 : decode cX6_readsOrder 144 = .ok (.putfield 115, 3) := by decide +kernel
theorem dX6_readsOrder_147 : decode cX6_readsOrder 147 = .ok (.aload_n 0, 1) := by decide +kernel
theorem dX6_readsOrder_148 : decode cX6_readsOrder 148 = .ok (.aload_n 0, 1) := by decide +kernel
theorem dX6_readsOrder_149 : decode cX6_readsOrder 149 = .ok (.getfield 115, 3) := by decide +kernel
theorem dX6_readsOrder_152 : decode cX6_readsOrder 152 = .ok (.ifCond .eq 8, 3) := by decide +kernel
theorem dX6_readsOrder_155 : decode cX6_readsOrder 155 = .ok (.bipush 32, 2) := by decide +kernel
theorem dX6_readsOrder_157 : decode cX6_readsOrder 157 = .ok (.goto 12, 3) := by decide +kernel
theorem dX6_readsOrder_160 : decode cX6_readsOrder 160 = .ok (.aload_n 0, 1) := by decide +kernel
theorem dX6_readsOrder_161 : decode cX6_readsOrder 161 = .ok (.getfield 13, 3) := by decide +kernel
theorem dX6_readsOrder_164 : decode cX6_readsOrder 164 = .ok (.aload_n 0, 1) := by decide +kernel
theorem dX6_readsOrder_165 : decode cX6_readsOrder 165 = .ok (.getfield 119, 3) := by decide +kernel
theorem dX6_readsOrder_168 : decode cX6_readsOrder 168 = .ok (.caload, 1) := by decide +kernel
theorem dX6_readsOrder_169 : decode cX6_readsOrder 169 = .ok (.putfield 129, 3) := by decide +kernel
theorem dX6_readsOrder_172 : decode cX6_readsOrder 172 = .ok (.aload_n 0, 1) := by decide +kernel
theorem dX6_readsOrder_173 : decode cX6_readsOrder 173 = .ok (.dup, 1) := by decide +kernel
theorem dX6_readsOrder_174 : decode cX6_readsOrder 174 = .ok (.getfield 119, 3) := by decide +kernel
theorem dX6_readsOrder_177 : decode cX6_readsOrder 177 = .ok (.aload_n 0, 1) := by decide +kernel
theorem dX6_readsOrder_178 : decode cX6_readsOrder 178 = .ok (.getfield 115, 3) := by decide +kernel
theorem dX6_readsOrder_181 : decode cX6_readsOrder 181 = .ok (.ifCond .eq 7, 3) := by decide +kernel
theorem dX6_readsOrder_184 : decode cX6_readsOrder 184 = .ok (.iconst 0, 1) := by decide +kernel
theorem dX6_readsOrder_185 : decode cX6_readsOrder 185 = .ok (.goto 4, 3) := by decide +kernel
theorem dX6_readsOrder_188 : decode cX6_readsOrder 188 = .ok (.iconst 1, 1) := by decide +kernel
theorem dX6_readsOrder_189 : decode cX6_readsOrder 189 = .ok (.iadd, 1) := by decide +kernel
theorem dX6_readsOrder_190 : decode cX6_readsOrder 190 = .ok (.putfield 119, 3) := by decide +kernel
theorem dX6_readsOrder_193 : decode cX6_readsOrder 193 = .ok (.iload_n 1, 1) := by decide +kernel
theorem dX6_readsOrder_194 : decode cX6_readsOrder 194 = .ok (.ifCond .eq 7, 3) := by decide +kernel
theorem dX6_readsOrder_197 : decode cX6_readsOrder 197 = .ok (.aload_n 0, 1) := by decide +kernel
theorem dX6_readsOrder_198 : decode cX6_readsOrder 198 = .ok (.invokevirtual 133, 3) := by decide +kernel
theorem dX6_readsOrder_201 : decode cX6_readsOrder 201 = .ok (.goto 8, 3) := by decide +kernel
theorem dX6_readsOrder_204 : decode cX6_readsOrder 204 = .ok (.aload_n 0, 1) := by decide +kernel
theorem dX6_readsOrder_205 : decode cX6_readsOrder 205 = .ok (.iconst 1, 1) := by decide +kernel
theorem dX6_readsOrder_206 : decode cX6_readsOrder 206 = .ok (.putfield 115, 3) := by decide +kernel
theorem dX6_readsOrder_209 : decode cX6_readsOrder 209 = .ok (.return_, 1) := by decide +kernel
theorem dX6_faultOf_0 : decode cX6_faultOf 0 = .ok (.aload_n 0, 1) := by decide +kernel
theorem dX6_faultOf_1 : decode cX6_faultOf 1 = .ok (.iconst 0, 1) := by decide +kernel
theorem dX6_faultOf_2 : decode cX6_faultOf 2 = .ok (.putfield 119, 3) := by decide +kernel
theorem dX6_faultOf_5 : decode cX6_faultOf 5 = .ok (.aload_n 0, 1) := by decide +kernel
theorem dX6_faultOf_6 : decode cX6_faultOf 6 = .ok (.iconst 0, 1) := by decide +kernel
theorem dX6_faultOf_7 : decode cX6_faultOf 7 = .ok (.putfield 115, 3) := by decide +kernel
theorem dX6_faultOf_10 : decode cX6_faultOf 10 = .ok (.iconst 1, 1) := by decide +kernel
theorem dX6_faultOf_11 : decode cX6_faultOf 11 = .ok (.istore_n 1, 1) := by decide +kernel
theorem dX6_faultOf_12 : decode cX6_faultOf 12 = .ok (.iload_n 1, 1) := by decide +kernel
theorem dX6_faultOf_13 : decode cX6_faultOf 13 = .ok (.ifCond .eq 37, 3) := by decide +kernel
theorem dX6_faultOf_16 : decode cX6_faultOf 16 = .ok (.aload_n 0, 1) := by decide +kernel
theorem dX6_faultOf_17 : decode cX6_faultOf 17 = .ok (.invokevirtual 139, 3) := by decide +kernel
theorem dX6_faultOf_20 : decode cX6_faultOf 20 = .ok (.aload_n 0, 1) := by decide +kernel
theorem dX6_faultOf_21 : decode cX6_faultOf 21 = .ok (.bipush 44, 2) := by decide +kernel
theorem dX6_faultOf_23 : decode cX6_faultOf 23 = .ok (.bipush 44, 2) := by decide +kernel
theorem dX6_faultOf_25 : decode cX6_faultOf 25 = .ok (.invokevirtual 122, 3) := by decide +kernel
theorem dX6_faultOf_28 : decode cX6_faultOf 28 = .ok (.istore_n 1, 1) := by decide +kernel
theorem dX6_faultOf_29 : decode cX6_faultOf 29 = .ok (.aload_n 0, 1) := by decide +kernel
theorem dX6_faultOf_30 : decode cX6_faultOf 30 = .ok (.dup, 1) := by decide +kernel
theorem dX6_faultOf_31 : decode cX6_faultOf 31 = .ok (.getfield 119, 3) := by decide +kernel
theorem dX6_faultOf_34 : decode cX6_faultOf 34 = .ok (.iload_n 1, 1) := by decide +kernel
theorem dX6_faultOf_35 : decode cX6_faultOf 35 = .ok (.ifCond .eq 7, 3) := by decide +kernel
theorem dX6_faultOf_38 : decode cX6_faultOf 38 = .ok (.iconst 1, 1) := by decide +kernel
theorem dX6_faultOf_39 : decode cX6_faultOf 39 = .ok (.goto 4, 3) := by decide +kernel
theorem dX6_faultOf_42 : decode cX6_faultOf 42 = .ok (.iconst 0, 1) := by decide +kernel
theorem dX6_faultOf_43 : decode cX6_faultOf 43 = .ok (.iadd, 1) := by decide +kernel
theorem dX6_faultOf_44 : decode cX6_faultOf 44 = .ok (.putfield 119, 3) := by decide +kernel
theorem dX6_faultOf_47 : decode cX6_faultOf 47 = .ok (.goto (-35), 3) := by decide +kernel
theorem dX6_faultOf_50 : decode cX6_faultOf 50 = .ok (.aload_n 0, 1) := by decide +kernel
theorem dX6_faultOf_51 : decode cX6_faultOf 51 = .ok (.getfield 115, 3) := by decide +kernel
theorem dX6_faultOf_54 : decode cX6_faultOf 54 = .ok (.ifCond .ne 14, 3) := by decide +kernel
theorem dX6_faultOf_57 : decode cX6_faultOf 57 = .ok (.aload_n 0, 1) := by decide +kernel
theorem dX6_faultOf_58 : decode cX6_faultOf 58 = .ok (.getfield 119, 3) := by decide +kernel
theorem dX6_faultOf_61 : decode cX6_faultOf 61 = .ok (.aload_n 0, 1) := by decide +kernel
theorem dX6_faultOf_62 : decode cX6_faultOf 62 = .ok (.getfield 112, 3) := by decide +kernel
theorem dX6_faultOf_65 : decode cX6_faultOf 65 = .ok (.if_icmp .ge 10, 3) := by decide +kernel
theorem dX6_faultOf_68 : decode cX6_faultOf 68 = .ok (.aload_n 0, 1) := by decide +kernel
theorem dX6_faultOf_69 : decode cX6_faultOf 69 = .ok (.getfield 119, 3) := by decide +kernel
theorem dX6_faultOf_72 : decode cX6_faultOf 72 = .ok (.goto 5, 3) := by decide +kernel
theorem dX6_faultOf_75 : decode cX6_faultOf 75 = .ok (.ldc 56, 2) := by decide +kernel
theorem dX6_faultOf_77 : decode cX6_faultOf 77 = .ok (.ireturn, 1) := by decide +kernel
theorem dX6_fault_0 : decode cX6_fault 0 = .ok (.aload_n 0, 1) := by decide +kernel
theorem dX6_fault_1 : decode cX6_fault 1 = .ok (.invokevirtual 142, 3) := by decide +kernel
theorem dX6_fault_4 : decode cX6_fault 4 = .ok (.ireturn, 1) := by decide +kernel
theorem dX6_does_0 : decode cX6_does 0 = .ok (.aload_n 0, 1) := by decide +kernel
theorem dX6_does_1 : decode cX6_does 1 = .ok (.getfield 129, 3) := by decide +kernel
theorem dX6_does_4 : decode cX6_does 4 = .ok (.bipush 104, 2) := by decide +kernel
theorem dX6_does_6 : decode cX6_does 6 = .ok (.if_icmp .ne 14, 3) := by decide +kernel
theorem dX6_does_9 : decode cX6_does 9 = .ok (.aload_n 0, 1) := by decide +kernel
theorem dX6_does_10 : decode cX6_does 10 = .ok (.aload_n 0, 1) := by decide +kernel
theorem dX6_does_11 : decode cX6_does 11 = .ok (.getfield 126, 3) := by decide +kernel
theorem dX6_does_14 : decode cX6_does 14 = .ok (.invokevirtual 103, 3) := by decide +kernel
theorem dX6_does_17 : decode cX6_does 17 = .ok (.pop, 1) := by decide +kernel
theorem dX6_does_18 : decode cX6_does 18 = .ok (.iconst 1, 1) := by decide +kernel
theorem dX6_does_19 : decode cX6_does 19 = .ok (.ireturn, 1) := by decide +kernel
theorem dX6_does_20 : decode cX6_does 20 = .ok (.aload_n 0, 1) := by decide +kernel
theorem dX6_does_21 : decode cX6_does 21 = .ok (.aload_n 0, 1) := by decide +kernel
theorem dX6_does_22 : decode cX6_does 22 = .ok (.getfield 136, 3) := by decide +kernel
theorem dX6_does_25 : decode cX6_does 25 = .ok (.invokevirtual 79, 3) := by decide +kernel
theorem dX6_does_28 : decode cX6_does 28 = .ok (.ifCond .ne 5, 3) := by decide +kernel
theorem dX6_does_31 : decode cX6_does 31 = .ok (.iconst 0, 1) := by decide +kernel
theorem dX6_does_32 : decode cX6_does 32 = .ok (.ireturn, 1) := by decide +kernel
theorem dX6_does_33 : decode cX6_does 33 = .ok (.aload_n 0, 1) := by decide +kernel
theorem dX6_does_34 : decode cX6_does 34 = .ok (.getfield 129, 3) := by decide +kernel
theorem dX6_does_37 : decode cX6_does 37 = .ok (.bipush 97, 2) := by decide +kernel
theorem dX6_does_39 : decode cX6_does 39 = .ok (.if_icmp .ne 13, 3) := by decide +kernel
theorem dX6_does_42 : decode cX6_does 42 = .ok (.aload_n 0, 1) := by decide +kernel
theorem dX6_does_43 : decode cX6_does 43 = .ok (.aload_n 0, 1) := by decide +kernel
theorem dX6_does_44 : decode cX6_does 44 = .ok (.getfield 136, 3) := by decide +kernel
theorem dX6_does_47 : decode cX6_does 47 = .ok (.invokevirtual 100, 3) := by decide +kernel
theorem dX6_does_50 : decode cX6_does 50 = .ok (.iconst 1, 1) := by decide +kernel
theorem dX6_does_51 : decode cX6_does 51 = .ok (.ireturn, 1) := by decide +kernel
theorem dX6_does_52 : decode cX6_does 52 = .ok (.aload_n 0, 1) := by decide +kernel
theorem dX6_does_53 : decode cX6_does 53 = .ok (.getfield 129, 3) := by decide +kernel
theorem dX6_does_56 : decode cX6_does 56 = .ok (.bipush 114, 2) := by decide +kernel
theorem dX6_does_58 : decode cX6_does 58 = .ok (.if_icmp .ne 61, 3) := by decide +kernel
theorem dX6_does_61 : decode cX6_does 61 = .ok (.aload_n 0, 1) := by decide +kernel
theorem dX6_does_62 : decode cX6_does 62 = .ok (.getfield 7, 3) := by decide +kernel
theorem dX6_does_65 : decode cX6_does 65 = .ok (.iconst 0, 1) := by decide +kernel
theorem dX6_does_66 : decode cX6_does 66 = .ok (.aload_n 0, 1) := by decide +kernel
theorem dX6_does_67 : decode cX6_does 67 = .ok (.getfield 136, 3) := by decide +kernel
theorem dX6_does_70 : decode cX6_does 70 = .ok (.invokestatic 32, 3) := by decide +kernel
theorem dX6_does_73 : decode cX6_does 73 = .ok (.iconst 3, 1) := by decide +kernel
theorem dX6_does_74 : decode cX6_does 74 = .ok (.iadd, 1) := by decide +kernel
theorem dX6_does_75 : decode cX6_does 75 = .ok (.iaload, 1) := by decide +kernel
theorem dX6_does_76 : decode cX6_does 76 = .ok (.ifCond .ne 7, 3) := by decide +kernel
theorem dX6_does_79 : decode cX6_does 79 = .ok (.iconst 1, 1) := by decide +kernel
theorem dX6_does_80 : decode cX6_does 80 = .ok (.goto 4, 3) := by decide +kernel
theorem dX6_does_83 : decode cX6_does 83 = .ok (.iconst 0, 1) := by decide +kernel
theorem dX6_does_84 : decode cX6_does 84 = .ok (.istore_n 1, 1) := by decide +kernel
theorem dX6_does_85 : decode cX6_does 85 = .ok (.aload_n 0, 1) := by decide +kernel
theorem dX6_does_86 : decode cX6_does 86 = .ok (.getfield 7, 3) := by decide +kernel
theorem dX6_does_89 : decode cX6_does 89 = .ok (.iconst 0, 1) := by decide +kernel
theorem dX6_does_90 : decode cX6_does 90 = .ok (.aload_n 0, 1) := by decide +kernel
theorem dX6_does_91 : decode cX6_does 91 = .ok (.getfield 136, 3) := by decide +kernel
theorem dX6_does_94 : decode cX6_does 94 = .ok (.invokestatic 32, 3) := by decide +kernel
theorem dX6_does_97 : decode cX6_does 97 = .ok (.iconst 3, 1) := by decide +kernel
theorem dX6_does_98 : decode cX6_does 98 = .ok (.iadd, 1) := by decide +kernel
theorem dX6_does_99 : decode cX6_does 99 = .ok (.dup2, 1) := by decide +kernel
theorem dX6_does_100 : decode cX6_does 100 = .ok (.iaload, 1) := by decide +kernel
theorem dX6_does_101 : decode cX6_does 101 = .ok (.iload_n 1, 1) := by decide +kernel
theorem dX6_does_102 : decode cX6_does 102 = .ok (.ifCond .eq 12, 3) := by decide +kernel
theorem dX6_does_105 : decode cX6_does 105 = .ok (.aload_n 0, 1) := by decide +kernel
theorem dX6_does_106 : decode cX6_does 106 = .ok (.getfield 7, 3) := by decide +kernel
theorem dX6_does_109 : decode cX6_does 109 = .ok (.iconst 1, 1) := by decide +kernel
theorem dX6_does_110 : decode cX6_does 110 = .ok (.iaload, 1) := by decide +kernel
theorem dX6_does_111 : decode cX6_does 111 = .ok (.goto 4, 3) := by decide +kernel
theorem dX6_does_114 : decode cX6_does 114 = .ok (.iconst 0, 1) := by decide +kernel
theorem dX6_does_115 : decode cX6_does 115 = .ok (.iadd, 1) := by decide +kernel
theorem dX6_does_116 : decode cX6_does 116 = .ok (.iastore, 1) := by decide +kernel
theorem dX6_does_117 : decode cX6_does 117 = .ok (.iload_n 1, 1) := by decide +kernel
theorem dX6_does_118 : decode cX6_does 118 = .ok (.ireturn, 1) := by decide +kernel
theorem dX6_does_119 : decode cX6_does 119 = .ok (.aload_n 0, 1) := by decide +kernel
theorem dX6_does_120 : decode cX6_does 120 = .ok (.iconst 0, 1) := by decide +kernel
theorem dX6_does_121 : decode cX6_does 121 = .ok (.aload_n 0, 1) := by decide +kernel
theorem dX6_does_122 : decode cX6_does 122 = .ok (.getfield 136, 3) := by decide +kernel
theorem dX6_does_125 : decode cX6_does 125 = .ok (.aload_n 0, 1) := by decide +kernel
theorem dX6_does_126 : decode cX6_does 126 = .ok (.getfield 129, 3) := by decide +kernel
theorem dX6_does_129 : decode cX6_does 129 = .ok (.bipush 62, 2) := by decide +kernel
theorem dX6_does_131 : decode cX6_does 131 = .ok (.if_icmp .ne 7, 3) := by decide +kernel
theorem dX6_does_134 : decode cX6_does 134 = .ok (.iconst 1, 1) := by decide +kernel
theorem dX6_does_135 : decode cX6_does 135 = .ok (.goto 4, 3) := by decide +kernel
theorem dX6_does_138 : decode cX6_does 138 = .ok (.iconst 0, 1) := by decide +kernel
theorem dX6_does_139 : decode cX6_does 139 = .ok (.aload_n 0, 1) := by decide +kernel
theorem dX6_does_140 : decode cX6_does 140 = .ok (.getfield 126, 3) := by decide +kernel
theorem dX6_does_143 : decode cX6_does 143 = .ok (.invokevirtual 90, 3) := by decide +kernel
theorem dX6_does_146 : decode cX6_does 146 = .ok (.ifCond .ne 7, 3) := by decide +kernel
theorem dX6_does_149 : decode cX6_does 149 = .ok (.iconst 1, 1) := by decide +kernel
theorem dX6_does_150 : decode cX6_does 150 = .ok (.goto 4, 3) := by decide +kernel
theorem dX6_does_153 : decode cX6_does 153 = .ok (.iconst 0, 1) := by decide +kernel
theorem dX6_does_154 : decode cX6_does 154 = .ok (.istore_n 1, 1) := by decide +kernel
theorem dX6_does_155 : decode cX6_does 155 = .ok (.iload_n 1, 1) := by decide +kernel
theorem dX6_does_156 : decode cX6_does 156 = .ok (.ifCond .eq 30, 3) := by decide +kernel
theorem dX6_does_159 : decode cX6_does 159 = .ok (.aload_n 0, 1) := by decide +kernel
theorem dX6_does_160 : decode cX6_does 160 = .ok (.iconst 0, 1) := by decide +kernel
theorem dX6_does_161 : decode cX6_does 161 = .ok (.aload_n 0, 1) := by decide +kernel
theorem dX6_does_162 : decode cX6_does 162 = .ok (.getfield 136, 3) := by decide +kernel
theorem dX6_does_165 : decode cX6_does 165 = .ok (.aload_n 0, 1) := by decide +kernel
theorem dX6_does_166 : decode cX6_does 166 = .ok (.getfield 129, 3) := by decide +kernel
theorem dX6_does_169 : decode cX6_does 169 = .ok (.bipush 62, 2) := by decide +kernel
theorem dX6_does_171 : decode cX6_does 171 = .ok (.if_icmp .ne 7, 3) := by decide +kernel
theorem dX6_does_174 : decode cX6_does 174 = .ok (.iconst 1, 1) := by decide +kernel
theorem dX6_does_175 : decode cX6_does 175 = .ok (.goto 4, 3) := by decide +kernel
theorem dX6_does_178 : decode cX6_does 178 = .ok (.iconst 0, 1) := by decide +kernel
theorem dX6_does_179 : decode cX6_does 179 = .ok (.aload_n 0, 1) := by decide +kernel
theorem dX6_does_180 : decode cX6_does 180 = .ok (.getfield 126, 3) := by decide +kernel
theorem dX6_does_183 : decode cX6_does 183 = .ok (.invokevirtual 65, 3) := by decide +kernel
theorem dX6_does_186 : decode cX6_does 186 = .ok (.iload_n 1, 1) := by decide +kernel
theorem dX6_does_187 : decode cX6_does 187 = .ok (.ireturn, 1) := by decide +kernel
theorem dX6_run_0 : decode cX6_run 0 = .ok (.aload_n 0, 1) := by decide +kernel
theorem dX6_run_1 : decode cX6_run 1 = .ok (.invokevirtual 142, 3) := by decide +kernel
theorem dX6_run_4 : decode cX6_run 4 = .ok (.istore_n 1, 1) := by decide +kernel
theorem dX6_run_5 : decode cX6_run 5 = .ok (.iload_n 1, 1) := by decide +kernel
theorem dX6_run_6 : decode cX6_run 6 = .ok (.ldc 56, 2) := by decide +kernel
theorem dX6_run_8 : decode cX6_run 8 = .ok (.if_icmp .eq 8, 3) := by decide +kernel
theorem dX6_run_11 : decode cX6_run 11 = .ok (.bipush (-100), 2) := by decide +kernel
theorem dX6_run_13 : decode cX6_run 13 = .ok (.iload_n 1, 1) := by decide +kernel
theorem dX6_run_14 : decode cX6_run 14 = .ok (.isub, 1) := by decide +kernel
theorem dX6_run_15 : decode cX6_run 15 = .ok (.ireturn, 1) := by decide +kernel
theorem dX6_run_16 : decode cX6_run 16 = .ok (.aload_n 0, 1) := by decide +kernel
theorem dX6_run_17 : decode cX6_run 17 = .ok (.invokevirtual 76, 3) := by decide +kernel
theorem dX6_run_20 : decode cX6_run 20 = .ok (.aload_n 0, 1) := by decide +kernel
theorem dX6_run_21 : decode cX6_run 21 = .ok (.iconst 0, 1) := by decide +kernel
theorem dX6_run_22 : decode cX6_run 22 = .ok (.putfield 119, 3) := by decide +kernel
theorem dX6_run_25 : decode cX6_run 25 = .ok (.iconst 0, 1) := by decide +kernel
theorem dX6_run_26 : decode cX6_run 26 = .ok (.istore_n 2, 1) := by decide +kernel
theorem dX6_run_27 : decode cX6_run 27 = .ok (.iconst 1, 1) := by decide +kernel
theorem dX6_run_28 : decode cX6_run 28 = .ok (.istore_n 3, 1) := by decide +kernel
theorem dX6_run_29 : decode cX6_run 29 = .ok (.iload_n 3, 1) := by decide +kernel
theorem dX6_run_30 : decode cX6_run 30 = .ok (.ifCond .eq 61, 3) := by decide +kernel
theorem dX6_run_33 : decode cX6_run 33 = .ok (.aload_n 0, 1) := by decide +kernel
theorem dX6_run_34 : decode cX6_run 34 = .ok (.invokevirtual 139, 3) := by decide +kernel
theorem dX6_run_37 : decode cX6_run 37 = .ok (.aload_n 0, 1) := by decide +kernel
theorem dX6_run_38 : decode cX6_run 38 = .ok (.invokevirtual 146, 3) := by decide +kernel
theorem dX6_run_41 : decode cX6_run 41 = .ok (.istore 4, 2) := by decide +kernel
theorem dX6_run_43 : decode cX6_run 43 = .ok (.iload_n 2, 1) := by decide +kernel
theorem dX6_run_44 : decode cX6_run 44 = .ok (.iload 4, 2) := by decide +kernel
theorem dX6_run_46 : decode cX6_run 46 = .ok (.ifCond .eq 7, 3) := by decide +kernel
theorem dX6_run_49 : decode cX6_run 49 = .ok (.iconst 1, 1) := by decide +kernel
theorem dX6_run_50 : decode cX6_run 50 = .ok (.goto 4, 3) := by decide +kernel
theorem dX6_run_53 : decode cX6_run 53 = .ok (.iconst 0, 1) := by decide +kernel
theorem dX6_run_54 : decode cX6_run 54 = .ok (.iadd, 1) := by decide +kernel
theorem dX6_run_55 : decode cX6_run 55 = .ok (.istore_n 2, 1) := by decide +kernel
theorem dX6_run_56 : decode cX6_run 56 = .ok (.iload 4, 2) := by decide +kernel
theorem dX6_run_58 : decode cX6_run 58 = .ok (.ifCond .eq 18, 3) := by decide +kernel
theorem dX6_run_61 : decode cX6_run 61 = .ok (.aload_n 0, 1) := by decide +kernel
theorem dX6_run_62 : decode cX6_run 62 = .ok (.getfield 119, 3) := by decide +kernel
theorem dX6_run_65 : decode cX6_run 65 = .ok (.aload_n 0, 1) := by decide +kernel
theorem dX6_run_66 : decode cX6_run 66 = .ok (.getfield 112, 3) := by decide +kernel
theorem dX6_run_69 : decode cX6_run 69 = .ok (.if_icmp .ge 7, 3) := by decide +kernel
theorem dX6_run_72 : decode cX6_run 72 = .ok (.iconst 1, 1) := by decide +kernel
theorem dX6_run_73 : decode cX6_run 73 = .ok (.goto 4, 3) := by decide +kernel
theorem dX6_run_76 : decode cX6_run 76 = .ok (.iconst 0, 1) := by decide +kernel
theorem dX6_run_77 : decode cX6_run 77 = .ok (.istore_n 3, 1) := by decide +kernel
theorem dX6_run_78 : decode cX6_run 78 = .ok (.aload_n 0, 1) := by decide +kernel
theorem dX6_run_79 : decode cX6_run 79 = .ok (.dup, 1) := by decide +kernel
theorem dX6_run_80 : decode cX6_run 80 = .ok (.getfield 119, 3) := by decide +kernel
theorem dX6_run_83 : decode cX6_run 83 = .ok (.iconst 1, 1) := by decide +kernel
theorem dX6_run_84 : decode cX6_run 84 = .ok (.iadd, 1) := by decide +kernel
theorem dX6_run_85 : decode cX6_run 85 = .ok (.putfield 119, 3) := by decide +kernel
theorem dX6_run_88 : decode cX6_run 88 = .ok (.goto (-59), 3) := by decide +kernel
theorem dX6_run_91 : decode cX6_run 91 = .ok (.iload_n 2, 1) := by decide +kernel
theorem dX6_run_92 : decode cX6_run 92 = .ok (.ireturn, 1) := by decide +kernel
theorem dX6_undo_0 : decode cX6_undo 0 = .ok (.aload_n 0, 1) := by decide +kernel
theorem dX6_undo_1 : decode cX6_undo 1 = .ok (.getfield 20, 3) := by decide +kernel
theorem dX6_undo_4 : decode cX6_undo 4 = .ok (.ifCond .ne 6, 3) := by decide +kernel
theorem dX6_undo_7 : decode cX6_undo 7 = .ok (.ldc 56, 2) := by decide +kernel
theorem dX6_undo_9 : decode cX6_undo 9 = .ok (.ireturn, 1) := by decide +kernel
theorem dX6_undo_10 : decode cX6_undo 10 = .ok (.aload_n 0, 1) := by decide +kernel
theorem dX6_undo_11 : decode cX6_undo 11 = .ok (.aload_n 0, 1) := by decide +kernel
theorem dX6_undo_12 : decode cX6_undo 12 = .ok (.getfield 20, 3) := by decide +kernel
theorem dX6_undo_15 : decode cX6_undo 15 = .ok (.iconst 0, 1) := by decide +kernel
theorem dX6_undo_16 : decode cX6_undo 16 = .ok (.invokevirtual 24, 3) := by decide +kernel
theorem dX6_undo_19 : decode cX6_undo 19 = .ok (.aload_n 0, 1) := by decide +kernel
theorem dX6_undo_20 : decode cX6_undo 20 = .ok (.dup, 1) := by decide +kernel
theorem dX6_undo_21 : decode cX6_undo 21 = .ok (.getfield 20, 3) := by decide +kernel
theorem dX6_undo_24 : decode cX6_undo 24 = .ok (.iconst 1, 1) := by decide +kernel
theorem dX6_undo_25 : decode cX6_undo 25 = .ok (.isub, 1) := by decide +kernel
theorem dX6_undo_26 : decode cX6_undo 26 = .ok (.putfield 20, 3) := by decide +kernel
theorem dX6_undo_29 : decode cX6_undo 29 = .ok (.aload_n 0, 1) := by decide +kernel
theorem dX6_undo_30 : decode cX6_undo 30 = .ok (.getfield 20, 3) := by decide +kernel
theorem dX6_undo_33 : decode cX6_undo 33 = .ok (.ireturn, 1) := by decide +kernel
theorem dX6_save_0 : decode cX6_save 0 = .ok (.aload_n 0, 1) := by decide +kernel
theorem dX6_save_1 : decode cX6_save 1 = .ok (.iconst 0, 1) := by decide +kernel
theorem dX6_save_2 : decode cX6_save 2 = .ok (.bipush 6, 2) := by decide +kernel
theorem dX6_save_4 : decode cX6_save 4 = .ok (.invokevirtual 24, 3) := by decide +kernel
theorem dX6_save_7 : decode cX6_save 7 = .ok (.aload_n 0, 1) := by decide +kernel
theorem dX6_save_8 : decode cX6_save 8 = .ok (.iconst 1, 1) := by decide +kernel
theorem dX6_save_9 : decode cX6_save 9 = .ok (.putfield 150, 3) := by decide +kernel
theorem dX6_save_12 : decode cX6_save 12 = .ok (.aload_n 0, 1) := by decide +kernel
theorem dX6_save_13 : decode cX6_save 13 = .ok (.iconst 0, 1) := by decide +kernel
theorem dX6_save_14 : decode cX6_save 14 = .ok (.invokevirtual 109, 3) := by decide +kernel
theorem dX6_save_17 : decode cX6_save 17 = .ok (.ireturn, 1) := by decide +kernel
theorem dX6_restore_0 : decode cX6_restore 0 = .ok (.aload_n 0, 1) := by decide +kernel
theorem dX6_restore_1 : decode cX6_restore 1 = .ok (.getfield 150, 3) := by decide +kernel
theorem dX6_restore_4 : decode cX6_restore 4 = .ok (.ifCond .ne 6, 3) := by decide +kernel
theorem dX6_restore_7 : decode cX6_restore 7 = .ok (.ldc 86, 2) := by decide +kernel
theorem dX6_restore_9 : decode cX6_restore 9 = .ok (.ireturn, 1) := by decide +kernel
theorem dX6_restore_10 : decode cX6_restore 10 = .ok (.aload_n 0, 1) := by decide +kernel
theorem dX6_restore_11 : decode cX6_restore 11 = .ok (.invokevirtual 76, 3) := by decide +kernel
theorem dX6_restore_14 : decode cX6_restore 14 = .ok (.aload_n 0, 1) := by decide +kernel
theorem dX6_restore_15 : decode cX6_restore 15 = .ok (.bipush 6, 2) := by decide +kernel
theorem dX6_restore_17 : decode cX6_restore 17 = .ok (.iconst 0, 1) := by decide +kernel
theorem dX6_restore_18 : decode cX6_restore 18 = .ok (.invokevirtual 24, 3) := by decide +kernel
theorem dX6_restore_21 : decode cX6_restore 21 = .ok (.aload_n 0, 1) := by decide +kernel
theorem dX6_restore_22 : decode cX6_restore 22 = .ok (.iconst 0, 1) := by decide +kernel
theorem dX6_restore_23 : decode cX6_restore 23 = .ok (.invokevirtual 109, 3) := by decide +kernel
theorem dX6_restore_26 : decode cX6_restore 26 = .ok (.ireturn, 1) := by decide +kernel
theorem dX6_told_0 : decode cX6_told 0 = .ok (.iconst 0, 1) := by decide +kernel
theorem dX6_told_1 : decode cX6_told 1 = .ok (.istore_n 3, 1) := by decide +kernel
theorem dX6_told_2 : decode cX6_told 2 = .ok (.iconst 0, 1) := by decide +kernel
theorem dX6_told_3 : decode cX6_told 3 = .ok (.istore 4, 2) := by decide +kernel
theorem dX6_told_5 : decode cX6_told 5 = .ok (.iload 4, 2) := by decide +kernel
theorem dX6_told_7 : decode cX6_told 7 = .ok (.aload_n 0, 1) := by decide +kernel
theorem dX6_told_8 : decode cX6_told 8 = .ok (.getfield 7, 3) := by decide +kernel
theorem dX6_told_11 : decode cX6_told 11 = .ok (.iconst 3, 1) := by decide +kernel
theorem dX6_told_12 : decode cX6_told 12 = .ok (.iaload, 1) := by decide +kernel
theorem dX6_told_13 : decode cX6_told 13 = .ok (.if_icmp .ge 121, 3) := by decide +kernel
theorem dX6_told_16 : decode cX6_told 16 = .ok (.iconst 0, 1) := by decide +kernel
theorem dX6_told_17 : decode cX6_told 17 = .ok (.iload 4, 2) := by decide +kernel
theorem dX6_told_19 : decode cX6_told 19 = .ok (.invokestatic 32, 3) := by decide +kernel
theorem dX6_told_22 : decode cX6_told 22 = .ok (.istore 5, 2) := by decide +kernel
theorem dX6_told_24 : decode cX6_told 24 = .ok (.aload_n 0, 1) := by decide +kernel
theorem dX6_told_25 : decode cX6_told 25 = .ok (.getfield 7, 3) := by decide +kernel
theorem dX6_told_28 : decode cX6_told 28 = .ok (.iload 5, 2) := by decide +kernel
theorem dX6_told_30 : decode cX6_told 30 = .ok (.iaload, 1) := by decide +kernel
theorem dX6_told_31 : decode cX6_told 31 = .ok (.iload_n 1, 1) := by decide +kernel
theorem dX6_told_32 : decode cX6_told 32 = .ok (.if_icmp .ne 43, 3) := by decide +kernel
theorem dX6_told_35 : decode cX6_told 35 = .ok (.iload_n 3, 1) := by decide +kernel
theorem dX6_told_36 : decode cX6_told 36 = .ok (.iload_n 2, 1) := by decide +kernel
theorem dX6_told_37 : decode cX6_told 37 = .ok (.ifCond .eq 21, 3) := by decide +kernel
theorem dX6_told_40 : decode cX6_told 40 = .ok (.aload_n 0, 1) := by decide +kernel
theorem dX6_told_41 : decode cX6_told 41 = .ok (.iload 5, 2) := by decide +kernel
theorem dX6_told_43 : decode cX6_told 43 = .ok (.iconst 1, 1) := by decide +kernel
theorem dX6_told_44 : decode cX6_told 44 = .ok (.invokevirtual 36, 3) := by decide +kernel
theorem dX6_told_47 : decode cX6_told 47 = .ok (.aload_n 0, 1) := by decide +kernel
theorem dX6_told_48 : decode cX6_told 48 = .ok (.iload 5, 2) := by decide +kernel
theorem dX6_told_50 : decode cX6_told 50 = .ok (.iconst 0, 1) := by decide +kernel
theorem dX6_told_51 : decode cX6_told 51 = .ok (.invokevirtual 36, 3) := by decide +kernel
theorem dX6_told_54 : decode cX6_told 54 = .ok (.isub, 1) := by decide +kernel
theorem dX6_told_55 : decode cX6_told 55 = .ok (.goto 18, 3) := by decide +kernel
theorem dX6_told_58 : decode cX6_told 58 = .ok (.aload_n 0, 1) := by decide +kernel
theorem dX6_told_59 : decode cX6_told 59 = .ok (.iload 5, 2) := by decide +kernel
theorem dX6_told_61 : decode cX6_told 61 = .ok (.iconst 2, 1) := by decide +kernel
theorem dX6_told_62 : decode cX6_told 62 = .ok (.invokevirtual 36, 3) := by decide +kernel
theorem dX6_told_65 : decode cX6_told 65 = .ok (.aload_n 0, 1) := by decide +kernel
theorem dX6_told_66 : decode cX6_told 66 = .ok (.iload 5, 2) := by decide +kernel
theorem dX6_told_68 : decode cX6_told 68 = .ok (.iconst 3, 1) := by decide +kernel
theorem dX6_told_69 : decode cX6_told 69 = .ok (.invokevirtual 36, 3) := by decide +kernel
theorem dX6_told_72 : decode cX6_told 72 = .ok (.isub, 1) := by decide +kernel
theorem dX6_told_73 : decode cX6_told 73 = .ok (.iadd, 1) := by decide +kernel
theorem dX6_told_74 : decode cX6_told 74 = .ok (.istore_n 3, 1) := by decide +kernel
theorem dX6_told_75 : decode cX6_told 75 = .ok (.aload_n 0, 1) := by decide +kernel
theorem dX6_told_76 : decode cX6_told 76 = .ok (.getfield 7, 3) := by decide +kernel
theorem dX6_told_79 : decode cX6_told 79 = .ok (.iload 5, 2) := by decide +kernel
theorem dX6_told_81 : decode cX6_told 81 = .ok (.iconst 1, 1) := by decide +kernel
theorem dX6_told_82 : decode cX6_told 82 = .ok (.iadd, 1) := by decide +kernel
theorem dX6_told_83 : decode cX6_told 83 = .ok (.iaload, 1) := by decide +kernel
theorem dX6_told_84 : decode cX6_told 84 = .ok (.iload_n 1, 1) := by decide +kernel
theorem dX6_told_85 : decode cX6_told 85 = .ok (.if_icmp .ne 43, 3) := by decide +kernel
theorem dX6_told_88 : decode cX6_told 88 = .ok (.iload_n 3, 1) := by decide +kernel
theorem dX6_told_89 : decode cX6_told 89 = .ok (.iload_n 2, 1) := by decide +kernel
theorem dX6_told_90 : decode cX6_told 90 = .ok (.ifCond .eq 21, 3) := by decide +kernel
theorem dX6_told_93 : decode cX6_told 93 = .ok (.aload_n 0, 1) := by decide +kernel
theorem dX6_told_94 : decode cX6_told 94 = .ok (.iload 5, 2) := by decide +kernel
theorem dX6_told_96 : decode cX6_told 96 = .ok (.iconst 3, 1) := by decide +kernel
theorem dX6_told_97 : decode cX6_told 97 = .ok (.invokevirtual 36, 3) := by decide +kernel
theorem dX6_told_100 : decode cX6_told 100 = .ok (.aload_n 0, 1) := by decide +kernel
theorem dX6_told_101 : decode cX6_told 101 = .ok (.iload 5, 2) := by decide +kernel
theorem dX6_told_103 : decode cX6_told 103 = .ok (.iconst 2, 1) := by decide +kernel
theorem dX6_told_104 : decode cX6_told 104 = .ok (.invokevirtual 36, 3) := by decide +kernel
theorem dX6_told_107 : decode cX6_told 107 = .ok (.isub, 1) := by decide +kernel
theorem dX6_told_108 : decode cX6_told 108 = .ok (.goto 18, 3) := by decide +kernel
theorem dX6_told_111 : decode cX6_told 111 = .ok (.aload_n 0, 1) := by decide +kernel
theorem dX6_told_112 : decode cX6_told 112 = .ok (.iload 5, 2) := by decide +kernel
theorem dX6_told_114 : decode cX6_told 114 = .ok (.iconst 0, 1) := by decide +kernel
theorem dX6_told_115 : decode cX6_told 115 = .ok (.invokevirtual 36, 3) := by decide +kernel
theorem dX6_told_118 : decode cX6_told 118 = .ok (.aload_n 0, 1) := by decide +kernel
theorem dX6_told_119 : decode cX6_told 119 = .ok (.iload 5, 2) := by decide +kernel
theorem dX6_told_121 : decode cX6_told 121 = .ok (.iconst 1, 1) := by decide +kernel
theorem dX6_told_122 : decode cX6_told 122 = .ok (.invokevirtual 36, 3) := by decide +kernel
theorem dX6_told_125 : decode cX6_told 125 = .ok (.isub, 1) := by decide +kernel
theorem dX6_told_126 : decode cX6_told 126 = .ok (.iadd, 1) := by decide +kernel
theorem dX6_told_127 : decode cX6_told 127 = .ok (.istore_n 3, 1) := by decide +kernel
theorem dX6_told_128 : decode cX6_told 128 = .ok (.iinc 4 1, 3) := by decide +kernel
theorem dX6_told_131 : decode cX6_told 131 = .ok (.goto (-126), 3) := by decide +kernel
theorem dX6_told_134 : decode cX6_told 134 = .ok (.iload_n 3, 1) := by decide +kernel
theorem dX6_told_135 : decode cX6_told 135 = .ok (.ireturn, 1) := by decide +kernel
theorem dX6_stilesOf_0 : decode cX6_stilesOf 0 = .ok (.iconst 0, 1) := by decide +kernel
theorem dX6_stilesOf_1 : decode cX6_stilesOf 1 = .ok (.istore_n 2, 1) := by decide +kernel
theorem dX6_stilesOf_2 : decode cX6_stilesOf 2 = .ok (.iconst 0, 1) := by decide +kernel
theorem dX6_stilesOf_3 : decode cX6_stilesOf 3 = .ok (.istore_n 3, 1) := by decide +kernel
theorem dX6_stilesOf_4 : decode cX6_stilesOf 4 = .ok (.iload_n 3, 1) := by decide +kernel
theorem dX6_stilesOf_5 : decode cX6_stilesOf 5 = .ok (.aload_n 0, 1) := by decide +kernel
theorem dX6_stilesOf_6 : decode cX6_stilesOf 6 = .ok (.getfield 7, 3) := by decide +kernel
theorem dX6_stilesOf_9 : decode cX6_stilesOf 9 = .ok (.iconst 3, 1) := by decide +kernel
theorem dX6_stilesOf_10 : decode cX6_stilesOf 10 = .ok (.iaload, 1) := by decide +kernel
theorem dX6_stilesOf_11 : decode cX6_stilesOf 11 = .ok (.if_icmp .ge 47, 3) := by decide +kernel
theorem dX6_stilesOf_14 : decode cX6_stilesOf 14 = .ok (.iload_n 2, 1) := by decide +kernel
theorem dX6_stilesOf_15 : decode cX6_stilesOf 15 = .ok (.aload_n 0, 1) := by decide +kernel
theorem dX6_stilesOf_16 : decode cX6_stilesOf 16 = .ok (.getfield 7, 3) := by decide +kernel
theorem dX6_stilesOf_19 : decode cX6_stilesOf 19 = .ok (.iconst 0, 1) := by decide +kernel
theorem dX6_stilesOf_20 : decode cX6_stilesOf 20 = .ok (.iload_n 3, 1) := by decide +kernel
theorem dX6_stilesOf_21 : decode cX6_stilesOf 21 = .ok (.invokestatic 32, 3) := by decide +kernel
theorem dX6_stilesOf_24 : decode cX6_stilesOf 24 = .ok (.iaload, 1) := by decide +kernel
theorem dX6_stilesOf_25 : decode cX6_stilesOf 25 = .ok (.iload_n 1, 1) := by decide +kernel
theorem dX6_stilesOf_26 : decode cX6_stilesOf 26 = .ok (.if_icmp .eq 19, 3) := by decide +kernel
theorem dX6_stilesOf_29 : decode cX6_stilesOf 29 = .ok (.aload_n 0, 1) := by decide +kernel
theorem dX6_stilesOf_30 : decode cX6_stilesOf 30 = .ok (.getfield 7, 3) := by decide +kernel
theorem dX6_stilesOf_33 : decode cX6_stilesOf 33 = .ok (.iconst 0, 1) := by decide +kernel
theorem dX6_stilesOf_34 : decode cX6_stilesOf 34 = .ok (.iload_n 3, 1) := by decide +kernel
theorem dX6_stilesOf_35 : decode cX6_stilesOf 35 = .ok (.invokestatic 32, 3) := by decide +kernel
theorem dX6_stilesOf_38 : decode cX6_stilesOf 38 = .ok (.iconst 1, 1) := by decide +kernel
theorem dX6_stilesOf_39 : decode cX6_stilesOf 39 = .ok (.iadd, 1) := by decide +kernel
theorem dX6_stilesOf_40 : decode cX6_stilesOf 40 = .ok (.iaload, 1) := by decide +kernel
theorem dX6_stilesOf_41 : decode cX6_stilesOf 41 = .ok (.iload_n 1, 1) := by decide +kernel
theorem dX6_stilesOf_42 : decode cX6_stilesOf 42 = .ok (.if_icmp .ne 7, 3) := by decide +kernel
theorem dX6_stilesOf_45 : decode cX6_stilesOf 45 = .ok (.iconst 1, 1) := by decide +kernel
theorem dX6_stilesOf_46 : decode cX6_stilesOf 46 = .ok (.goto 4, 3) := by decide +kernel
theorem dX6_stilesOf_49 : decode cX6_stilesOf 49 = .ok (.iconst 0, 1) := by decide +kernel
theorem dX6_stilesOf_50 : decode cX6_stilesOf 50 = .ok (.iadd, 1) := by decide +kernel
theorem dX6_stilesOf_51 : decode cX6_stilesOf 51 = .ok (.istore_n 2, 1) := by decide +kernel
theorem dX6_stilesOf_52 : decode cX6_stilesOf 52 = .ok (.iinc 3 1, 3) := by decide +kernel
theorem dX6_stilesOf_55 : decode cX6_stilesOf 55 = .ok (.goto (-51), 3) := by decide +kernel
theorem dX6_stilesOf_58 : decode cX6_stilesOf 58 = .ok (.iload_n 2, 1) := by decide +kernel
theorem dX6_stilesOf_59 : decode cX6_stilesOf 59 = .ok (.ireturn, 1) := by decide +kernel
theorem dX6_distance_0 : decode cX6_distance 0 = .ok (.aload_n 0, 1) := by decide +kernel
theorem dX6_distance_1 : decode cX6_distance 1 = .ok (.iconst 0, 1) := by decide +kernel
theorem dX6_distance_2 : decode cX6_distance 2 = .ok (.invokevirtual 57, 3) := by decide +kernel
theorem dX6_distance_5 : decode cX6_distance 5 = .ok (.aload_n 0, 1) := by decide +kernel
theorem dX6_distance_6 : decode cX6_distance 6 = .ok (.getfield 17, 3) := by decide +kernel
theorem dX6_distance_9 : decode cX6_distance 9 = .ok (.iload_n 1, 1) := by decide +kernel
theorem dX6_distance_10 : decode cX6_distance 10 = .ok (.iaload, 1) := by decide +kernel
theorem dX6_distance_11 : decode cX6_distance 11 = .ok (.ireturn, 1) := by decide +kernel
theorem dX6_hall_0 : decode cX6_hall 0 = .ok (.iload_n 1, 1) := by decide +kernel
theorem dX6_hall_1 : decode cX6_hall 1 = .ok (.invokestatic 83, 3) := by decide +kernel
theorem dX6_hall_4 : decode cX6_hall 4 = .ok (.ifCond .ne 6, 3) := by decide +kernel
theorem dX6_hall_7 : decode cX6_hall 7 = .ok (.ldc 73, 2) := by decide +kernel
theorem dX6_hall_9 : decode cX6_hall 9 = .ok (.ireturn, 1) := by decide +kernel
theorem dX6_hall_10 : decode cX6_hall 10 = .ok (.iload_n 2, 1) := by decide +kernel
theorem dX6_hall_11 : decode cX6_hall 11 = .ok (.tableswitch 82 0 5 #[37, 46, 56, 63, 70, 76], 37) := by decide +kernel
theorem dX6_hall_48 : decode cX6_hall 48 = .ok (.aload_n 0, 1) := by decide +kernel
theorem dX6_hall_49 : decode cX6_hall 49 = .ok (.getfield 7, 3) := by decide +kernel
theorem dX6_hall_52 : decode cX6_hall 52 = .ok (.iconst 4, 1) := by decide +kernel
theorem dX6_hall_53 : decode cX6_hall 53 = .ok (.iload_n 1, 1) := by decide +kernel
theorem dX6_hall_54 : decode cX6_hall 54 = .ok (.iadd, 1) := by decide +kernel
theorem dX6_hall_55 : decode cX6_hall 55 = .ok (.iaload, 1) := by decide +kernel
theorem dX6_hall_56 : decode cX6_hall 56 = .ok (.ireturn, 1) := by decide +kernel
theorem dX6_hall_57 : decode cX6_hall 57 = .ok (.aload_n 0, 1) := by decide +kernel
theorem dX6_hall_58 : decode cX6_hall 58 = .ok (.getfield 7, 3) := by decide +kernel
theorem dX6_hall_61 : decode cX6_hall 61 = .ok (.bipush 10, 2) := by decide +kernel
theorem dX6_hall_63 : decode cX6_hall 63 = .ok (.iload_n 1, 1) := by decide +kernel
theorem dX6_hall_64 : decode cX6_hall 64 = .ok (.iadd, 1) := by decide +kernel
theorem dX6_hall_65 : decode cX6_hall 65 = .ok (.iaload, 1) := by decide +kernel
theorem dX6_hall_66 : decode cX6_hall 66 = .ok (.ireturn, 1) := by decide +kernel
theorem dX6_hall_67 : decode cX6_hall 67 = .ok (.aload_n 0, 1) := by decide +kernel
theorem dX6_hall_68 : decode cX6_hall 68 = .ok (.iload_n 1, 1) := by decide +kernel
theorem dX6_hall_69 : decode cX6_hall 69 = .ok (.iconst 1, 1) := by decide +kernel
theorem dX6_hall_70 : decode cX6_hall 70 = .ok (.invokevirtual 153, 3) := by decide +kernel
theorem dX6_hall_73 : decode cX6_hall 73 = .ok (.ireturn, 1) := by decide +kernel
theorem dX6_hall_74 : decode cX6_hall 74 = .ok (.aload_n 0, 1) := by decide +kernel
theorem dX6_hall_75 : decode cX6_hall 75 = .ok (.iload_n 1, 1) := by decide +kernel
theorem dX6_hall_76 : decode cX6_hall 76 = .ok (.iconst 0, 1) := by decide +kernel
theorem dX6_hall_77 : decode cX6_hall 77 = .ok (.invokevirtual 153, 3) := by decide +kernel
theorem dX6_hall_80 : decode cX6_hall 80 = .ok (.ireturn, 1) := by decide +kernel
theorem dX6_hall_81 : decode cX6_hall 81 = .ok (.aload_n 0, 1) := by decide +kernel
theorem dX6_hall_82 : decode cX6_hall 82 = .ok (.iload_n 1, 1) := by decide +kernel
theorem dX6_hall_83 : decode cX6_hall 83 = .ok (.invokevirtual 156, 3) := by decide +kernel
theorem dX6_hall_86 : decode cX6_hall 86 = .ok (.ireturn, 1) := by decide +kernel
theorem dX6_hall_87 : decode cX6_hall 87 = .ok (.aload_n 0, 1) := by decide +kernel
theorem dX6_hall_88 : decode cX6_hall 88 = .ok (.iload_n 1, 1) := by decide +kernel
theorem dX6_hall_89 : decode cX6_hall 89 = .ok (.invokevirtual 159, 3) := by decide +kernel
theorem dX6_hall_92 : decode cX6_hall 92 = .ok (.ireturn, 1) := by decide +kernel
theorem dX6_hall_93 : decode cX6_hall 93 = .ok (.ldc 74, 2) := by decide +kernel
theorem dX6_hall_95 : decode cX6_hall 95 = .ok (.ireturn, 1) := by decide +kernel
theorem dX6_stileOf_0 : decode cX6_stileOf 0 = .ok (.aload_n 0, 1) := by decide +kernel
theorem dX6_stileOf_1 : decode cX6_stileOf 1 = .ok (.iload_n 1, 1) := by decide +kernel
theorem dX6_stileOf_2 : decode cX6_stileOf 2 = .ok (.invokevirtual 79, 3) := by decide +kernel
theorem dX6_stileOf_5 : decode cX6_stileOf 5 = .ok (.ifCond .ne 6, 3) := by decide +kernel
theorem dX6_stileOf_8 : decode cX6_stileOf 8 = .ok (.ldc 73, 2) := by decide +kernel
theorem dX6_stileOf_10 : decode cX6_stileOf 10 = .ok (.ireturn, 1) := by decide +kernel
theorem dX6_stileOf_11 : decode cX6_stileOf 11 = .ok (.iload_n 2, 1) := by decide +kernel
theorem dX6_stileOf_12 : decode cX6_stileOf 12 = .ok (.iconst 0, 1) := by decide +kernel
theorem dX6_stileOf_13 : decode cX6_stileOf 13 = .ok (.iconst 4, 1) := by decide +kernel
theorem dX6_stileOf_14 : decode cX6_stileOf 14 = .ok (.invokestatic 28, 3) := by decide +kernel
theorem dX6_stileOf_17 : decode cX6_stileOf 17 = .ok (.ifCond .ne 8, 3) := by decide +kernel
theorem dX6_stileOf_20 : decode cX6_stileOf 20 = .ok (.ldc 74, 2) := by decide +kernel
theorem dX6_stileOf_22 : decode cX6_stileOf 22 = .ok (.goto 28, 3) := by decide +kernel
theorem dX6_stileOf_25 : decode cX6_stileOf 25 = .ok (.iload_n 2, 1) := by decide +kernel
theorem dX6_stileOf_26 : decode cX6_stileOf 26 = .ok (.iconst 4, 1) := by decide +kernel
theorem dX6_stileOf_27 : decode cX6_stileOf 27 = .ok (.if_icmp .ne 11, 3) := by decide +kernel
theorem dX6_stileOf_30 : decode cX6_stileOf 30 = .ok (.aload_n 0, 1) := by decide +kernel
theorem dX6_stileOf_31 : decode cX6_stileOf 31 = .ok (.iload_n 1, 1) := by decide +kernel
theorem dX6_stileOf_32 : decode cX6_stileOf 32 = .ok (.invokevirtual 97, 3) := by decide +kernel
theorem dX6_stileOf_35 : decode cX6_stileOf 35 = .ok (.goto 15, 3) := by decide +kernel
theorem dX6_stileOf_38 : decode cX6_stileOf 38 = .ok (.aload_n 0, 1) := by decide +kernel
theorem dX6_stileOf_39 : decode cX6_stileOf 39 = .ok (.getfield 7, 3) := by decide +kernel
theorem dX6_stileOf_42 : decode cX6_stileOf 42 = .ok (.iconst 0, 1) := by decide +kernel
theorem dX6_stileOf_43 : decode cX6_stileOf 43 = .ok (.iload_n 1, 1) := by decide +kernel
theorem dX6_stileOf_44 : decode cX6_stileOf 44 = .ok (.invokestatic 32, 3) := by decide +kernel
theorem dX6_stileOf_47 : decode cX6_stileOf 47 = .ok (.iload_n 2, 1) := by decide +kernel
theorem dX6_stileOf_48 : decode cX6_stileOf 48 = .ok (.iadd, 1) := by decide +kernel
theorem dX6_stileOf_49 : decode cX6_stileOf 49 = .ok (.iaload, 1) := by decide +kernel
theorem dX6_stileOf_50 : decode cX6_stileOf 50 = .ok (.ireturn, 1) := by decide +kernel
theorem dX6_counter_0 : decode cX6_counter 0 = .ok (.aload_n 0, 1) := by decide +kernel
theorem dX6_counter_1 : decode cX6_counter 1 = .ok (.iload_n 1, 1) := by decide +kernel
theorem dX6_counter_2 : decode cX6_counter 2 = .ok (.invokevirtual 79, 3) := by decide +kernel
theorem dX6_counter_5 : decode cX6_counter 5 = .ok (.ifCond .ne 6, 3) := by decide +kernel
theorem dX6_counter_8 : decode cX6_counter 8 = .ok (.ldc 73, 2) := by decide +kernel
theorem dX6_counter_10 : decode cX6_counter 10 = .ok (.ireturn, 1) := by decide +kernel
theorem dX6_counter_11 : decode cX6_counter 11 = .ok (.iload_n 2, 1) := by decide +kernel
theorem dX6_counter_12 : decode cX6_counter 12 = .ok (.iconst 0, 1) := by decide +kernel
theorem dX6_counter_13 : decode cX6_counter 13 = .ok (.iconst 3, 1) := by decide +kernel
theorem dX6_counter_14 : decode cX6_counter 14 = .ok (.invokestatic 28, 3) := by decide +kernel
theorem dX6_counter_17 : decode cX6_counter 17 = .ok (.ifCond .eq 12, 3) := by decide +kernel
theorem dX6_counter_20 : decode cX6_counter 20 = .ok (.iload_n 3, 1) := by decide +kernel
theorem dX6_counter_21 : decode cX6_counter 21 = .ok (.iconst 0, 1) := by decide +kernel
theorem dX6_counter_22 : decode cX6_counter 22 = .ok (.iconst 2, 1) := by decide +kernel
theorem dX6_counter_23 : decode cX6_counter 23 = .ok (.invokestatic 28, 3) := by decide +kernel
theorem dX6_counter_26 : decode cX6_counter 26 = .ok (.ifCond .ne 6, 3) := by decide +kernel
theorem dX6_counter_29 : decode cX6_counter 29 = .ok (.ldc 74, 2) := by decide +kernel
theorem dX6_counter_31 : decode cX6_counter 31 = .ok (.ireturn, 1) := by decide +kernel
theorem dX6_counter_32 : decode cX6_counter 32 = .ok (.iconst 0, 1) := by decide +kernel
theorem dX6_counter_33 : decode cX6_counter 33 = .ok (.iload_n 1, 1) := by decide +kernel
theorem dX6_counter_34 : decode cX6_counter 34 = .ok (.invokestatic 32, 3) := by decide +kernel
theorem dX6_counter_37 : decode cX6_counter 37 = .ok (.iconst 4, 1) := by decide +kernel
theorem dX6_counter_38 : decode cX6_counter 38 = .ok (.iadd, 1) := by decide +kernel
theorem dX6_counter_39 : decode cX6_counter 39 = .ok (.iconst 4, 1) := by decide +kernel
theorem dX6_counter_40 : decode cX6_counter 40 = .ok (.iload_n 2, 1) := by decide +kernel
theorem dX6_counter_41 : decode cX6_counter 41 = .ok (.imul, 1) := by decide +kernel
theorem dX6_counter_42 : decode cX6_counter 42 = .ok (.iadd, 1) := by decide +kernel
theorem dX6_counter_43 : decode cX6_counter 43 = .ok (.istore 4, 2) := by decide +kernel
theorem dX6_counter_45 : decode cX6_counter 45 = .ok (.iload_n 3, 1) := by decide +kernel
theorem dX6_counter_46 : decode cX6_counter 46 = .ok (.ifCond .ne 13, 3) := by decide +kernel
theorem dX6_counter_49 : decode cX6_counter 49 = .ok (.aload_n 0, 1) := by decide +kernel
theorem dX6_counter_50 : decode cX6_counter 50 = .ok (.getfield 7, 3) := by decide +kernel
theorem dX6_counter_53 : decode cX6_counter 53 = .ok (.iload 4, 2) := by decide +kernel
theorem dX6_counter_55 : decode cX6_counter 55 = .ok (.iaload, 1) := by decide +kernel
theorem dX6_counter_56 : decode cX6_counter 56 = .ok (.goto 29, 3) := by decide +kernel
theorem dX6_counter_59 : decode cX6_counter 59 = .ok (.iload_n 3, 1) := by decide +kernel
theorem dX6_counter_60 : decode cX6_counter 60 = .ok (.iconst 1, 1) := by decide +kernel
theorem dX6_counter_61 : decode cX6_counter 61 = .ok (.if_icmp .ne 15, 3) := by decide +kernel
theorem dX6_counter_64 : decode cX6_counter 64 = .ok (.aload_n 0, 1) := by decide +kernel
theorem dX6_counter_65 : decode cX6_counter 65 = .ok (.getfield 7, 3) := by decide +kernel
theorem dX6_counter_68 : decode cX6_counter 68 = .ok (.iload 4, 2) := by decide +kernel
theorem dX6_counter_70 : decode cX6_counter 70 = .ok (.iconst 1, 1) := by decide +kernel
theorem dX6_counter_71 : decode cX6_counter 71 = .ok (.iadd, 1) := by decide +kernel
theorem dX6_counter_72 : decode cX6_counter 72 = .ok (.iaload, 1) := by decide +kernel
theorem dX6_counter_73 : decode cX6_counter 73 = .ok (.goto 12, 3) := by decide +kernel
theorem dX6_counter_76 : decode cX6_counter 76 = .ok (.aload_n 0, 1) := by decide +kernel
theorem dX6_counter_77 : decode cX6_counter 77 = .ok (.getfield 7, 3) := by decide +kernel
theorem dX6_counter_80 : decode cX6_counter 80 = .ok (.iload 4, 2) := by decide +kernel
theorem dX6_counter_82 : decode cX6_counter 82 = .ok (.iconst 3, 1) := by decide +kernel
theorem dX6_counter_83 : decode cX6_counter 83 = .ok (.iadd, 1) := by decide +kernel
theorem dX6_counter_84 : decode cX6_counter 84 = .ok (.iaload, 1) := by decide +kernel
theorem dX6_counter_85 : decode cX6_counter 85 = .ok (.ireturn, 1) := by decide +kernel
theorem dX6_reason_0 : decode cX6_reason 0 = .ok (.aload_n 0, 1) := by decide +kernel
theorem dX6_reason_1 : decode cX6_reason 1 = .ok (.iload_n 1, 1) := by decide +kernel
theorem dX6_reason_2 : decode cX6_reason 2 = .ok (.invokevirtual 79, 3) := by decide +kernel
theorem dX6_reason_5 : decode cX6_reason 5 = .ok (.ifCond .ne 6, 3) := by decide +kernel
theorem dX6_reason_8 : decode cX6_reason 8 = .ok (.ldc 73, 2) := by decide +kernel
theorem dX6_reason_10 : decode cX6_reason 10 = .ok (.ireturn, 1) := by decide +kernel
theorem dX6_reason_11 : decode cX6_reason 11 = .ok (.iload_n 3, 1) := by decide +kernel
theorem dX6_reason_12 : decode cX6_reason 12 = .ok (.iconst 1, 1) := by decide +kernel
theorem dX6_reason_13 : decode cX6_reason 13 = .ok (.bipush 99, 2) := by decide +kernel
theorem dX6_reason_15 : decode cX6_reason 15 = .ok (.invokestatic 28, 3) := by decide +kernel
theorem dX6_reason_18 : decode cX6_reason 18 = .ok (.ifCond .eq 14, 3) := by decide +kernel
theorem dX6_reason_21 : decode cX6_reason 21 = .ok (.aload_n 0, 1) := by decide +kernel
theorem dX6_reason_22 : decode cX6_reason 22 = .ok (.iconst 0, 1) := by decide +kernel
theorem dX6_reason_23 : decode cX6_reason 23 = .ok (.iload_n 1, 1) := by decide +kernel
theorem dX6_reason_24 : decode cX6_reason 24 = .ok (.iload_n 2, 1) := by decide +kernel
theorem dX6_reason_25 : decode cX6_reason 25 = .ok (.iload_n 3, 1) := by decide +kernel
theorem dX6_reason_26 : decode cX6_reason 26 = .ok (.invokevirtual 90, 3) := by decide +kernel
theorem dX6_reason_29 : decode cX6_reason 29 = .ok (.goto 5, 3) := by decide +kernel
theorem dX6_reason_32 : decode cX6_reason 32 = .ok (.ldc 74, 2) := by decide +kernel
theorem dX6_reason_34 : decode cX6_reason 34 = .ok (.ireturn, 1) := by decide +kernel
theorem dX6_worst_0 : decode cX6_worst 0 = .ok (.iload_n 1, 1) := by decide +kernel
theorem dX6_worst_1 : decode cX6_worst 1 = .ok (.ifCond .ge 6, 3) := by decide +kernel
theorem dX6_worst_4 : decode cX6_worst 4 = .ok (.ldc 74, 2) := by decide +kernel
theorem dX6_worst_6 : decode cX6_worst 6 = .ok (.ireturn, 1) := by decide +kernel
theorem dX6_worst_7 : decode cX6_worst 7 = .ok (.ldc 56, 2) := by decide +kernel
theorem dX6_worst_9 : decode cX6_worst 9 = .ok (.istore_n 2, 1) := by decide +kernel
theorem dX6_worst_10 : decode cX6_worst 10 = .ok (.iconst 0, 1) := by decide +kernel
theorem dX6_worst_11 : decode cX6_worst 11 = .ok (.istore_n 3, 1) := by decide +kernel
theorem dX6_worst_12 : decode cX6_worst 12 = .ok (.iload_n 3, 1) := by decide +kernel
theorem dX6_worst_13 : decode cX6_worst 13 = .ok (.aload_n 0, 1) := by decide +kernel
theorem dX6_worst_14 : decode cX6_worst 14 = .ok (.getfield 7, 3) := by decide +kernel
theorem dX6_worst_17 : decode cX6_worst 17 = .ok (.iconst 3, 1) := by decide +kernel
theorem dX6_worst_18 : decode cX6_worst 18 = .ok (.iaload, 1) := by decide +kernel
theorem dX6_worst_19 : decode cX6_worst 19 = .ok (.if_icmp .ge 96, 3) := by decide +kernel
theorem dX6_worst_22 : decode cX6_worst 22 = .ok (.iconst 0, 1) := by decide +kernel
theorem dX6_worst_23 : decode cX6_worst 23 = .ok (.istore 4, 2) := by decide +kernel
theorem dX6_worst_25 : decode cX6_worst 25 = .ok (.iconst 0, 1) := by decide +kernel
theorem dX6_worst_26 : decode cX6_worst 26 = .ok (.istore 5, 2) := by decide +kernel
theorem dX6_worst_28 : decode cX6_worst 28 = .ok (.iload 5, 2) := by decide +kernel
theorem dX6_worst_30 : decode cX6_worst 30 = .ok (.aload_n 0, 1) := by decide +kernel
theorem dX6_worst_31 : decode cX6_worst 31 = .ok (.getfield 7, 3) := by decide +kernel
theorem dX6_worst_34 : decode cX6_worst 34 = .ok (.iconst 3, 1) := by decide +kernel
theorem dX6_worst_35 : decode cX6_worst 35 = .ok (.iaload, 1) := by decide +kernel
theorem dX6_worst_36 : decode cX6_worst 36 = .ok (.if_icmp .ge 53, 3) := by decide +kernel
theorem dX6_worst_39 : decode cX6_worst 39 = .ok (.iload 4, 2) := by decide +kernel
theorem dX6_worst_41 : decode cX6_worst 41 = .ok (.aload_n 0, 1) := by decide +kernel
theorem dX6_worst_42 : decode cX6_worst 42 = .ok (.iload 5, 2) := by decide +kernel
theorem dX6_worst_44 : decode cX6_worst 44 = .ok (.invokevirtual 97, 3) := by decide +kernel
theorem dX6_worst_47 : decode cX6_worst 47 = .ok (.aload_n 0, 1) := by decide +kernel
theorem dX6_worst_48 : decode cX6_worst 48 = .ok (.iload_n 3, 1) := by decide +kernel
theorem dX6_worst_49 : decode cX6_worst 49 = .ok (.invokevirtual 97, 3) := by decide +kernel
theorem dX6_worst_52 : decode cX6_worst 52 = .ok (.if_icmp .gt 23, 3) := by decide +kernel
theorem dX6_worst_55 : decode cX6_worst 55 = .ok (.aload_n 0, 1) := by decide +kernel
theorem dX6_worst_56 : decode cX6_worst 56 = .ok (.iload 5, 2) := by decide +kernel
theorem dX6_worst_58 : decode cX6_worst 58 = .ok (.invokevirtual 97, 3) := by decide +kernel
theorem dX6_worst_61 : decode cX6_worst 61 = .ok (.aload_n 0, 1) := by decide +kernel
theorem dX6_worst_62 : decode cX6_worst 62 = .ok (.iload_n 3, 1) := by decide +kernel
theorem dX6_worst_63 : decode cX6_worst 63 = .ok (.invokevirtual 97, 3) := by decide +kernel
theorem dX6_worst_66 : decode cX6_worst 66 = .ok (.if_icmp .ne 13, 3) := by decide +kernel
theorem dX6_worst_69 : decode cX6_worst 69 = .ok (.iload 5, 2) := by decide +kernel
theorem dX6_worst_71 : decode cX6_worst 71 = .ok (.iload_n 3, 1) := by decide +kernel
theorem dX6_worst_72 : decode cX6_worst 72 = .ok (.if_icmp .ge 7, 3) := by decide +kernel
theorem dX6_worst_75 : decode cX6_worst 75 = .ok (.iconst 1, 1) := by decide +kernel
theorem dX6_worst_76 : decode cX6_worst 76 = .ok (.goto 4, 3) := by decide +kernel
theorem dX6_worst_79 : decode cX6_worst 79 = .ok (.iconst 0, 1) := by decide +kernel
theorem dX6_worst_80 : decode cX6_worst 80 = .ok (.iadd, 1) := by decide +kernel
theorem dX6_worst_81 : decode cX6_worst 81 = .ok (.istore 4, 2) := by decide +kernel
theorem dX6_worst_83 : decode cX6_worst 83 = .ok (.iinc 5 1, 3) := by decide +kernel
theorem dX6_worst_86 : decode cX6_worst 86 = .ok (.goto (-58), 3) := by decide +kernel
theorem dX6_worst_89 : decode cX6_worst 89 = .ok (.iload 4, 2) := by decide +kernel
theorem dX6_worst_91 : decode cX6_worst 91 = .ok (.iload_n 1, 1) := by decide +kernel
theorem dX6_worst_92 : decode cX6_worst 92 = .ok (.if_icmp .ne 15, 3) := by decide +kernel
theorem dX6_worst_95 : decode cX6_worst 95 = .ok (.aload_n 0, 1) := by decide +kernel
theorem dX6_worst_96 : decode cX6_worst 96 = .ok (.iload_n 3, 1) := by decide +kernel
theorem dX6_worst_97 : decode cX6_worst 97 = .ok (.invokevirtual 97, 3) := by decide +kernel
theorem dX6_worst_100 : decode cX6_worst 100 = .ok (.ifCond .le 7, 3) := by decide +kernel
theorem dX6_worst_103 : decode cX6_worst 103 = .ok (.iload_n 3, 1) := by decide +kernel
theorem dX6_worst_104 : decode cX6_worst 104 = .ok (.goto 4, 3) := by decide +kernel
theorem dX6_worst_107 : decode cX6_worst 107 = .ok (.iload_n 2, 1) := by decide +kernel
theorem dX6_worst_108 : decode cX6_worst 108 = .ok (.istore_n 2, 1) := by decide +kernel
theorem dX6_worst_109 : decode cX6_worst 109 = .ok (.iinc 3 1, 3) := by decide +kernel
theorem dX6_worst_112 : decode cX6_worst 112 = .ok (.goto (-100), 3) := by decide +kernel
theorem dX6_worst_115 : decode cX6_worst 115 = .ok (.iload_n 2, 1) := by decide +kernel
theorem dX6_worst_116 : decode cX6_worst 116 = .ok (.ireturn, 1) := by decide +kernel
theorem dX6_sumOf_0 : decode cX6_sumOf 0 = .ok (.iconst 0, 1) := by decide +kernel
theorem dX6_sumOf_1 : decode cX6_sumOf 1 = .ok (.istore_n 2, 1) := by decide +kernel
theorem dX6_sumOf_2 : decode cX6_sumOf 2 = .ok (.iconst 0, 1) := by decide +kernel
theorem dX6_sumOf_3 : decode cX6_sumOf 3 = .ok (.istore_n 3, 1) := by decide +kernel
theorem dX6_sumOf_4 : decode cX6_sumOf 4 = .ok (.iload_n 3, 1) := by decide +kernel
theorem dX6_sumOf_5 : decode cX6_sumOf 5 = .ok (.aload_n 0, 1) := by decide +kernel
theorem dX6_sumOf_6 : decode cX6_sumOf 6 = .ok (.getfield 7, 3) := by decide +kernel
theorem dX6_sumOf_9 : decode cX6_sumOf 9 = .ok (.iconst 3, 1) := by decide +kernel
theorem dX6_sumOf_10 : decode cX6_sumOf 10 = .ok (.iaload, 1) := by decide +kernel
theorem dX6_sumOf_11 : decode cX6_sumOf 11 = .ok (.if_icmp .ge 107, 3) := by decide +kernel
theorem dX6_sumOf_14 : decode cX6_sumOf 14 = .ok (.iconst 0, 1) := by decide +kernel
theorem dX6_sumOf_15 : decode cX6_sumOf 15 = .ok (.iload_n 3, 1) := by decide +kernel
theorem dX6_sumOf_16 : decode cX6_sumOf 16 = .ok (.invokestatic 32, 3) := by decide +kernel
theorem dX6_sumOf_19 : decode cX6_sumOf 19 = .ok (.istore 4, 2) := by decide +kernel
theorem dX6_sumOf_21 : decode cX6_sumOf 21 = .ok (.iconst 0, 1) := by decide +kernel
theorem dX6_sumOf_22 : decode cX6_sumOf 22 = .ok (.istore 5, 2) := by decide +kernel
theorem dX6_sumOf_24 : decode cX6_sumOf 24 = .ok (.iconst 0, 1) := by decide +kernel
theorem dX6_sumOf_25 : decode cX6_sumOf 25 = .ok (.istore 6, 2) := by decide +kernel
theorem dX6_sumOf_27 : decode cX6_sumOf 27 = .ok (.iload 6, 2) := by decide +kernel
theorem dX6_sumOf_29 : decode cX6_sumOf 29 = .ok (.iconst 4, 1) := by decide +kernel
theorem dX6_sumOf_30 : decode cX6_sumOf 30 = .ok (.if_icmp .ge 38, 3) := by decide +kernel
theorem dX6_sumOf_33 : decode cX6_sumOf 33 = .ok (.iload 5, 2) := by decide +kernel
theorem dX6_sumOf_35 : decode cX6_sumOf 35 = .ok (.aload_n 0, 1) := by decide +kernel
theorem dX6_sumOf_36 : decode cX6_sumOf 36 = .ok (.getfield 7, 3) := by decide +kernel
theorem dX6_sumOf_39 : decode cX6_sumOf 39 = .ok (.iload 4, 2) := by decide +kernel
theorem dX6_sumOf_41 : decode cX6_sumOf 41 = .ok (.iconst 4, 1) := by decide +kernel
theorem dX6_sumOf_42 : decode cX6_sumOf 42 = .ok (.iadd, 1) := by decide +kernel
theorem dX6_sumOf_43 : decode cX6_sumOf 43 = .ok (.iconst 4, 1) := by decide +kernel
theorem dX6_sumOf_44 : decode cX6_sumOf 44 = .ok (.iload 6, 2) := by decide +kernel
theorem dX6_sumOf_46 : decode cX6_sumOf 46 = .ok (.imul, 1) := by decide +kernel
theorem dX6_sumOf_47 : decode cX6_sumOf 47 = .ok (.iadd, 1) := by decide +kernel
theorem dX6_sumOf_48 : decode cX6_sumOf 48 = .ok (.iconst 1, 1) := by decide +kernel
theorem dX6_sumOf_49 : decode cX6_sumOf 49 = .ok (.iadd, 1) := by decide +kernel
theorem dX6_sumOf_50 : decode cX6_sumOf 50 = .ok (.iaload, 1) := by decide +kernel
theorem dX6_sumOf_51 : decode cX6_sumOf 51 = .ok (.ifCond .le 7, 3) := by decide +kernel
theorem dX6_sumOf_54 : decode cX6_sumOf 54 = .ok (.iconst 1, 1) := by decide +kernel
theorem dX6_sumOf_55 : decode cX6_sumOf 55 = .ok (.goto 4, 3) := by decide +kernel
theorem dX6_sumOf_58 : decode cX6_sumOf 58 = .ok (.iconst 0, 1) := by decide +kernel
theorem dX6_sumOf_59 : decode cX6_sumOf 59 = .ok (.iadd, 1) := by decide +kernel
theorem dX6_sumOf_60 : decode cX6_sumOf 60 = .ok (.istore 5, 2) := by decide +kernel
theorem dX6_sumOf_62 : decode cX6_sumOf 62 = .ok (.iinc 6 1, 3) := by decide +kernel
theorem dX6_sumOf_65 : decode cX6_sumOf 65 = .ok (.goto (-38), 3) := by decide +kernel
theorem dX6_sumOf_68 : decode cX6_sumOf 68 = .ok (.iload_n 2, 1) := by decide +kernel
theorem dX6_sumOf_69 : decode cX6_sumOf 69 = .ok (.iload_n 1, 1) := by decide +kernel
theorem dX6_sumOf_70 : decode cX6_sumOf 70 = .ok (.iconst 2, 1) := by decide +kernel
theorem dX6_sumOf_71 : decode cX6_sumOf 71 = .ok (.if_icmp .ne 23, 3) := by decide +kernel
theorem dX6_sumOf_74 : decode cX6_sumOf 74 = .ok (.aload_n 0, 1) := by decide +kernel
theorem dX6_sumOf_75 : decode cX6_sumOf 75 = .ok (.getfield 7, 3) := by decide +kernel
theorem dX6_sumOf_78 : decode cX6_sumOf 78 = .ok (.iload 4, 2) := by decide +kernel
theorem dX6_sumOf_80 : decode cX6_sumOf 80 = .ok (.iconst 3, 1) := by decide +kernel
theorem dX6_sumOf_81 : decode cX6_sumOf 81 = .ok (.iadd, 1) := by decide +kernel
theorem dX6_sumOf_82 : decode cX6_sumOf 82 = .ok (.iaload, 1) := by decide +kernel
theorem dX6_sumOf_83 : decode cX6_sumOf 83 = .ok (.ifCond .le 7, 3) := by decide +kernel
theorem dX6_sumOf_86 : decode cX6_sumOf 86 = .ok (.iconst 1, 1) := by decide +kernel
theorem dX6_sumOf_87 : decode cX6_sumOf 87 = .ok (.goto 23, 3) := by decide +kernel
theorem dX6_sumOf_90 : decode cX6_sumOf 90 = .ok (.iconst 0, 1) := by decide +kernel
theorem dX6_sumOf_91 : decode cX6_sumOf 91 = .ok (.goto 19, 3) := by decide +kernel
theorem dX6_sumOf_94 : decode cX6_sumOf 94 = .ok (.iload_n 1, 1) := by decide +kernel
theorem dX6_sumOf_95 : decode cX6_sumOf 95 = .ok (.bipush 6, 2) := by decide +kernel
theorem dX6_sumOf_97 : decode cX6_sumOf 97 = .ok (.if_icmp .ne 11, 3) := by decide +kernel
theorem dX6_sumOf_100 : decode cX6_sumOf 100 = .ok (.aload_n 0, 1) := by decide +kernel
theorem dX6_sumOf_101 : decode cX6_sumOf 101 = .ok (.iload_n 3, 1) := by decide +kernel
theorem dX6_sumOf_102 : decode cX6_sumOf 102 = .ok (.invokevirtual 97, 3) := by decide +kernel
theorem dX6_sumOf_105 : decode cX6_sumOf 105 = .ok (.goto 5, 3) := by decide +kernel
theorem dX6_sumOf_108 : decode cX6_sumOf 108 = .ok (.iload 5, 2) := by decide +kernel
theorem dX6_sumOf_110 : decode cX6_sumOf 110 = .ok (.iadd, 1) := by decide +kernel
theorem dX6_sumOf_111 : decode cX6_sumOf 111 = .ok (.istore_n 2, 1) := by decide +kernel
theorem dX6_sumOf_112 : decode cX6_sumOf 112 = .ok (.iinc 3 1, 3) := by decide +kernel
theorem dX6_sumOf_115 : decode cX6_sumOf 115 = .ok (.goto (-111), 3) := by decide +kernel
theorem dX6_sumOf_118 : decode cX6_sumOf 118 = .ok (.iload_n 2, 1) := by decide +kernel
theorem dX6_sumOf_119 : decode cX6_sumOf 119 = .ok (.ireturn, 1) := by decide +kernel
theorem dX6_allTold_0 : decode cX6_allTold 0 = .ok (.iconst 0, 1) := by decide +kernel
theorem dX6_allTold_1 : decode cX6_allTold 1 = .ok (.istore_n 2, 1) := by decide +kernel
theorem dX6_allTold_2 : decode cX6_allTold 2 = .ok (.iconst 1, 1) := by decide +kernel
theorem dX6_allTold_3 : decode cX6_allTold 3 = .ok (.istore_n 3, 1) := by decide +kernel
theorem dX6_allTold_4 : decode cX6_allTold 4 = .ok (.iload_n 3, 1) := by decide +kernel
theorem dX6_allTold_5 : decode cX6_allTold 5 = .ok (.bipush 6, 2) := by decide +kernel
theorem dX6_allTold_7 : decode cX6_allTold 7 = .ok (.if_icmp .ge 18, 3) := by decide +kernel
theorem dX6_allTold_10 : decode cX6_allTold 10 = .ok (.iload_n 2, 1) := by decide +kernel
theorem dX6_allTold_11 : decode cX6_allTold 11 = .ok (.aload_n 0, 1) := by decide +kernel
theorem dX6_allTold_12 : decode cX6_allTold 12 = .ok (.iload_n 3, 1) := by decide +kernel
theorem dX6_allTold_13 : decode cX6_allTold 13 = .ok (.iload_n 1, 1) := by decide +kernel
theorem dX6_allTold_14 : decode cX6_allTold 14 = .ok (.invokevirtual 153, 3) := by decide +kernel
theorem dX6_allTold_17 : decode cX6_allTold 17 = .ok (.iadd, 1) := by decide +kernel
theorem dX6_allTold_18 : decode cX6_allTold 18 = .ok (.istore_n 2, 1) := by decide +kernel
theorem dX6_allTold_19 : decode cX6_allTold 19 = .ok (.iinc 3 1, 3) := by decide +kernel
theorem dX6_allTold_22 : decode cX6_allTold 22 = .ok (.goto (-18), 3) := by decide +kernel
theorem dX6_allTold_25 : decode cX6_allTold 25 = .ok (.iload_n 2, 1) := by decide +kernel
theorem dX6_allTold_26 : decode cX6_allTold 26 = .ok (.ireturn, 1) := by decide +kernel
theorem dX6_fullest_0 : decode cX6_fullest 0 = .ok (.iconst 1, 1) := by decide +kernel
theorem dX6_fullest_1 : decode cX6_fullest 1 = .ok (.istore_n 1, 1) := by decide +kernel
theorem dX6_fullest_2 : decode cX6_fullest 2 = .ok (.iconst 2, 1) := by decide +kernel
theorem dX6_fullest_3 : decode cX6_fullest 3 = .ok (.istore_n 2, 1) := by decide +kernel
theorem dX6_fullest_4 : decode cX6_fullest 4 = .ok (.iload_n 2, 1) := by decide +kernel
theorem dX6_fullest_5 : decode cX6_fullest 5 = .ok (.bipush 6, 2) := by decide +kernel
theorem dX6_fullest_7 : decode cX6_fullest 7 = .ok (.if_icmp .ge 54, 3) := by decide +kernel
theorem dX6_fullest_10 : decode cX6_fullest 10 = .ok (.aload_n 0, 1) := by decide +kernel
theorem dX6_fullest_11 : decode cX6_fullest 11 = .ok (.getfield 7, 3) := by decide +kernel
theorem dX6_fullest_14 : decode cX6_fullest 14 = .ok (.iconst 4, 1) := by decide +kernel
theorem dX6_fullest_15 : decode cX6_fullest 15 = .ok (.iload_n 2, 1) := by decide +kernel
theorem dX6_fullest_16 : decode cX6_fullest 16 = .ok (.iadd, 1) := by decide +kernel
theorem dX6_fullest_17 : decode cX6_fullest 17 = .ok (.iaload, 1) := by decide +kernel
theorem dX6_fullest_18 : decode cX6_fullest 18 = .ok (.aload_n 0, 1) := by decide +kernel
theorem dX6_fullest_19 : decode cX6_fullest 19 = .ok (.getfield 7, 3) := by decide +kernel
theorem dX6_fullest_22 : decode cX6_fullest 22 = .ok (.bipush 10, 2) := by decide +kernel
theorem dX6_fullest_24 : decode cX6_fullest 24 = .ok (.iload_n 2, 1) := by decide +kernel
theorem dX6_fullest_25 : decode cX6_fullest 25 = .ok (.iadd, 1) := by decide +kernel
theorem dX6_fullest_26 : decode cX6_fullest 26 = .ok (.iaload, 1) := by decide +kernel
theorem dX6_fullest_27 : decode cX6_fullest 27 = .ok (.isub, 1) := by decide +kernel
theorem dX6_fullest_28 : decode cX6_fullest 28 = .ok (.aload_n 0, 1) := by decide +kernel
theorem dX6_fullest_29 : decode cX6_fullest 29 = .ok (.getfield 7, 3) := by decide +kernel
theorem dX6_fullest_32 : decode cX6_fullest 32 = .ok (.iconst 4, 1) := by decide +kernel
theorem dX6_fullest_33 : decode cX6_fullest 33 = .ok (.iload_n 1, 1) := by decide +kernel
theorem dX6_fullest_34 : decode cX6_fullest 34 = .ok (.iadd, 1) := by decide +kernel
theorem dX6_fullest_35 : decode cX6_fullest 35 = .ok (.iaload, 1) := by decide +kernel
theorem dX6_fullest_36 : decode cX6_fullest 36 = .ok (.aload_n 0, 1) := by decide +kernel
theorem dX6_fullest_37 : decode cX6_fullest 37 = .ok (.getfield 7, 3) := by decide +kernel
theorem dX6_fullest_40 : decode cX6_fullest 40 = .ok (.bipush 10, 2) := by decide +kernel
theorem dX6_fullest_42 : decode cX6_fullest 42 = .ok (.iload_n 1, 1) := by decide +kernel
theorem dX6_fullest_43 : decode cX6_fullest 43 = .ok (.iadd, 1) := by decide +kernel
theorem dX6_fullest_44 : decode cX6_fullest 44 = .ok (.iaload, 1) := by decide +kernel
theorem dX6_fullest_45 : decode cX6_fullest 45 = .ok (.isub, 1) := by decide +kernel
theorem dX6_fullest_46 : decode cX6_fullest 46 = .ok (.if_icmp .ge 7, 3) := by decide +kernel
theorem dX6_fullest_49 : decode cX6_fullest 49 = .ok (.iload_n 2, 1) := by decide +kernel
theorem dX6_fullest_50 : decode cX6_fullest 50 = .ok (.goto 4, 3) := by decide +kernel
theorem dX6_fullest_53 : decode cX6_fullest 53 = .ok (.iload_n 1, 1) := by decide +kernel
theorem dX6_fullest_54 : decode cX6_fullest 54 = .ok (.istore_n 1, 1) := by decide +kernel
theorem dX6_fullest_55 : decode cX6_fullest 55 = .ok (.iinc 2 1, 3) := by decide +kernel
theorem dX6_fullest_58 : decode cX6_fullest 58 = .ok (.goto (-54), 3) := by decide +kernel
theorem dX6_fullest_61 : decode cX6_fullest 61 = .ok (.iload_n 1, 1) := by decide +kernel
theorem dX6_fullest_62 : decode cX6_fullest 62 = .ok (.ireturn, 1) := by decide +kernel
theorem dX6_count_0 : decode cX6_count 0 = .ok (.iload_n 1, 1) := by decide +kernel
theorem dX6_count_1 : decode cX6_count 1 = .ok (.tableswitch 134 0 12 #[67, 74, 81, 87, 93, 99, 81, 81, 105, 110, 117, 124, 129], 67) := by decide +kernel
theorem dX6_count_68 : decode cX6_count 68 = .ok (.aload_n 0, 1) := by decide +kernel
theorem dX6_count_69 : decode cX6_count 69 = .ok (.getfield 7, 3) := by decide +kernel
theorem dX6_count_72 : decode cX6_count 72 = .ok (.iconst 2, 1) := by decide +kernel
theorem dX6_count_73 : decode cX6_count 73 = .ok (.iaload, 1) := by decide +kernel
theorem dX6_count_74 : decode cX6_count 74 = .ok (.ireturn, 1) := by decide +kernel
theorem dX6_count_75 : decode cX6_count 75 = .ok (.aload_n 0, 1) := by decide +kernel
theorem dX6_count_76 : decode cX6_count 76 = .ok (.getfield 7, 3) := by decide +kernel
theorem dX6_count_79 : decode cX6_count 79 = .ok (.iconst 3, 1) := by decide +kernel
theorem dX6_count_80 : decode cX6_count 80 = .ok (.iaload, 1) := by decide +kernel
theorem dX6_count_81 : decode cX6_count 81 = .ok (.ireturn, 1) := by decide +kernel
theorem dX6_count_82 : decode cX6_count 82 = .ok (.aload_n 0, 1) := by decide +kernel
theorem dX6_count_83 : decode cX6_count 83 = .ok (.iload_n 1, 1) := by decide +kernel
theorem dX6_count_84 : decode cX6_count 84 = .ok (.invokevirtual 162, 3) := by decide +kernel
theorem dX6_count_87 : decode cX6_count 87 = .ok (.ireturn, 1) := by decide +kernel
theorem dX6_count_88 : decode cX6_count 88 = .ok (.aload_n 0, 1) := by decide +kernel
theorem dX6_count_89 : decode cX6_count 89 = .ok (.iconst 0, 1) := by decide +kernel
theorem dX6_count_90 : decode cX6_count 90 = .ok (.invokevirtual 109, 3) := by decide +kernel
theorem dX6_count_93 : decode cX6_count 93 = .ok (.ireturn, 1) := by decide +kernel
theorem dX6_count_94 : decode cX6_count 94 = .ok (.aload_n 0, 1) := by decide +kernel
theorem dX6_count_95 : decode cX6_count 95 = .ok (.iconst 1, 1) := by decide +kernel
theorem dX6_count_96 : decode cX6_count 96 = .ok (.invokevirtual 165, 3) := by decide +kernel
theorem dX6_count_99 : decode cX6_count 99 = .ok (.ireturn, 1) := by decide +kernel
theorem dX6_count_100 : decode cX6_count 100 = .ok (.aload_n 0, 1) := by decide +kernel
theorem dX6_count_101 : decode cX6_count 101 = .ok (.iconst 0, 1) := by decide +kernel
theorem dX6_count_102 : decode cX6_count 102 = .ok (.invokevirtual 165, 3) := by decide +kernel
theorem dX6_count_105 : decode cX6_count 105 = .ok (.ireturn, 1) := by decide +kernel
theorem dX6_count_106 : decode cX6_count 106 = .ok (.aload_n 0, 1) := by decide +kernel
theorem dX6_count_107 : decode cX6_count 107 = .ok (.invokevirtual 169, 3) := by decide +kernel
theorem dX6_count_110 : decode cX6_count 110 = .ok (.ireturn, 1) := by decide +kernel
theorem dX6_count_111 : decode cX6_count 111 = .ok (.aload_n 0, 1) := by decide +kernel
theorem dX6_count_112 : decode cX6_count 112 = .ok (.getfield 7, 3) := by decide +kernel
theorem dX6_count_115 : decode cX6_count 115 = .ok (.iconst 0, 1) := by decide +kernel
theorem dX6_count_116 : decode cX6_count 116 = .ok (.iaload, 1) := by decide +kernel
theorem dX6_count_117 : decode cX6_count 117 = .ok (.ireturn, 1) := by decide +kernel
theorem dX6_count_118 : decode cX6_count 118 = .ok (.aload_n 0, 1) := by decide +kernel
theorem dX6_count_119 : decode cX6_count 119 = .ok (.getfield 7, 3) := by decide +kernel
theorem dX6_count_122 : decode cX6_count 122 = .ok (.iconst 1, 1) := by decide +kernel
theorem dX6_count_123 : decode cX6_count 123 = .ok (.iaload, 1) := by decide +kernel
theorem dX6_count_124 : decode cX6_count 124 = .ok (.ireturn, 1) := by decide +kernel
theorem dX6_count_125 : decode cX6_count 125 = .ok (.aload_n 0, 1) := by decide +kernel
theorem dX6_count_126 : decode cX6_count 126 = .ok (.getfield 20, 3) := by decide +kernel
theorem dX6_count_129 : decode cX6_count 129 = .ok (.ireturn, 1) := by decide +kernel
theorem dX6_count_130 : decode cX6_count 130 = .ok (.aload_n 0, 1) := by decide +kernel
theorem dX6_count_131 : decode cX6_count 131 = .ok (.getfield 112, 3) := by decide +kernel
theorem dX6_count_134 : decode cX6_count 134 = .ok (.ireturn, 1) := by decide +kernel
theorem dX6_count_135 : decode cX6_count 135 = .ok (.ldc 74, 2) := by decide +kernel
theorem dX6_count_137 : decode cX6_count 137 = .ok (.ireturn, 1) := by decide +kernel
theorem dX6_most_0 : decode cX6_most 0 = .ok (.aload_n 0, 1) := by decide +kernel
theorem dX6_most_1 : decode cX6_most 1 = .ok (.iload_n 1, 1) := by decide +kernel
theorem dX6_most_2 : decode cX6_most 2 = .ok (.invokevirtual 79, 3) := by decide +kernel
theorem dX6_most_5 : decode cX6_most 5 = .ok (.ifCond .eq 15, 3) := by decide +kernel
theorem dX6_most_8 : decode cX6_most 8 = .ok (.aload_n 0, 1) := by decide +kernel
theorem dX6_most_9 : decode cX6_most 9 = .ok (.iconst 0, 1) := by decide +kernel
theorem dX6_most_10 : decode cX6_most 10 = .ok (.iload_n 1, 1) := by decide +kernel
theorem dX6_most_11 : decode cX6_most 11 = .ok (.iload_n 2, 1) := by decide +kernel
theorem dX6_most_12 : decode cX6_most 12 = .ok (.bipush 99, 2) := by decide +kernel
theorem dX6_most_14 : decode cX6_most 14 = .ok (.invokevirtual 61, 3) := by decide +kernel
theorem dX6_most_17 : decode cX6_most 17 = .ok (.goto 5, 3) := by decide +kernel
theorem dX6_most_20 : decode cX6_most 20 = .ok (.ldc 73, 2) := by decide +kernel
theorem dX6_most_22 : decode cX6_most 22 = .ok (.ireturn, 1) := by decide +kernel
theorem dX6_emptyIn_0 : decode cX6_emptyIn 0 = .ok (.aload_n 0, 1) := by decide +kernel
theorem dX6_emptyIn_1 : decode cX6_emptyIn 1 = .ok (.iconst 0, 1) := by decide +kernel
theorem dX6_emptyIn_2 : decode cX6_emptyIn 2 = .ok (.bipush 7, 2) := by decide +kernel
theorem dX6_emptyIn_4 : decode cX6_emptyIn 4 = .ok (.invokevirtual 24, 3) := by decide +kernel
theorem dX6_emptyIn_7 : decode cX6_emptyIn 7 = .ok (.iconst 0, 1) := by decide +kernel
theorem dX6_emptyIn_8 : decode cX6_emptyIn 8 = .ok (.istore_n 1, 1) := by decide +kernel
theorem dX6_emptyIn_9 : decode cX6_emptyIn 9 = .ok (.iload_n 1, 1) := by decide +kernel
theorem dX6_emptyIn_10 : decode cX6_emptyIn 10 = .ok (.sipush 300, 3) := by decide +kernel
theorem dX6_emptyIn_13 : decode cX6_emptyIn 13 = .ok (.if_icmp .gt 27, 3) := by decide +kernel
theorem dX6_emptyIn_16 : decode cX6_emptyIn 16 = .ok (.aload_n 0, 1) := by decide +kernel
theorem dX6_emptyIn_17 : decode cX6_emptyIn 17 = .ok (.sipush 1792, 3) := by decide +kernel
theorem dX6_emptyIn_20 : decode cX6_emptyIn 20 = .ok (.invokevirtual 109, 3) := by decide +kernel
theorem dX6_emptyIn_23 : decode cX6_emptyIn 23 = .ok (.ifCond .le 17, 3) := by decide +kernel
theorem dX6_emptyIn_26 : decode cX6_emptyIn 26 = .ok (.aload_n 0, 1) := by decide +kernel
theorem dX6_emptyIn_27 : decode cX6_emptyIn 27 = .ok (.sipush 1792, 3) := by decide +kernel
theorem dX6_emptyIn_30 : decode cX6_emptyIn 30 = .ok (.invokevirtual 106, 3) := by decide +kernel
theorem dX6_emptyIn_33 : decode cX6_emptyIn 33 = .ok (.pop, 1) := by decide +kernel
theorem dX6_emptyIn_34 : decode cX6_emptyIn 34 = .ok (.iinc 1 1, 3) := by decide +kernel
theorem dX6_emptyIn_37 : decode cX6_emptyIn 37 = .ok (.goto (-28), 3) := by decide +kernel
theorem dX6_emptyIn_40 : decode cX6_emptyIn 40 = .ok (.iload_n 1, 1) := by decide +kernel
theorem dX6_emptyIn_41 : decode cX6_emptyIn 41 = .ok (.sipush 300, 3) := by decide +kernel
theorem dX6_emptyIn_44 : decode cX6_emptyIn 44 = .ok (.if_icmp .le 8, 3) := by decide +kernel
theorem dX6_emptyIn_47 : decode cX6_emptyIn 47 = .ok (.ldc 56, 2) := by decide +kernel
theorem dX6_emptyIn_49 : decode cX6_emptyIn 49 = .ok (.goto 4, 3) := by decide +kernel
theorem dX6_emptyIn_52 : decode cX6_emptyIn 52 = .ok (.iload_n 1, 1) := by decide +kernel
theorem dX6_emptyIn_53 : decode cX6_emptyIn 53 = .ok (.ireturn, 1) := by decide +kernel
theorem dX6_leftWithout_0 : decode cX6_leftWithout 0 = .ok (.aload_n 0, 1) := by decide +kernel
theorem dX6_leftWithout_1 : decode cX6_leftWithout 1 = .ok (.iload_n 1, 1) := by decide +kernel
theorem dX6_leftWithout_2 : decode cX6_leftWithout 2 = .ok (.invokevirtual 79, 3) := by decide +kernel
theorem dX6_leftWithout_5 : decode cX6_leftWithout 5 = .ok (.ifCond .ne 6, 3) := by decide +kernel
theorem dX6_leftWithout_8 : decode cX6_leftWithout 8 = .ok (.ldc 73, 2) := by decide +kernel
theorem dX6_leftWithout_10 : decode cX6_leftWithout 10 = .ok (.ireturn, 1) := by decide +kernel
theorem dX6_leftWithout_11 : decode cX6_leftWithout 11 = .ok (.iload_n 2, 1) := by decide +kernel
theorem dX6_leftWithout_12 : decode cX6_leftWithout 12 = .ok (.iconst 1, 1) := by decide +kernel
theorem dX6_leftWithout_13 : decode cX6_leftWithout 13 = .ok (.bipush 99, 2) := by decide +kernel
theorem dX6_leftWithout_15 : decode cX6_leftWithout 15 = .ok (.invokestatic 28, 3) := by decide +kernel
theorem dX6_leftWithout_18 : decode cX6_leftWithout 18 = .ok (.ifCond .ne 6, 3) := by decide +kernel
theorem dX6_leftWithout_21 : decode cX6_leftWithout 21 = .ok (.ldc 74, 2) := by decide +kernel
theorem dX6_leftWithout_23 : decode cX6_leftWithout 23 = .ok (.ireturn, 1) := by decide +kernel
theorem dX6_leftWithout_24 : decode cX6_leftWithout 24 = .ok (.aload_n 0, 1) := by decide +kernel
theorem dX6_leftWithout_25 : decode cX6_leftWithout 25 = .ok (.iconst 0, 1) := by decide +kernel
theorem dX6_leftWithout_26 : decode cX6_leftWithout 26 = .ok (.bipush 7, 2) := by decide +kernel
theorem dX6_leftWithout_28 : decode cX6_leftWithout 28 = .ok (.invokevirtual 24, 3) := by decide +kernel
theorem dX6_leftWithout_31 : decode cX6_leftWithout 31 = .ok (.aload_n 0, 1) := by decide +kernel
theorem dX6_leftWithout_32 : decode cX6_leftWithout 32 = .ok (.getfield 7, 3) := by decide +kernel
theorem dX6_leftWithout_35 : decode cX6_leftWithout 35 = .ok (.sipush 1792, 3) := by decide +kernel
theorem dX6_leftWithout_38 : decode cX6_leftWithout 38 = .ok (.iload_n 1, 1) := by decide +kernel
theorem dX6_leftWithout_39 : decode cX6_leftWithout 39 = .ok (.invokestatic 32, 3) := by decide +kernel
theorem dX6_leftWithout_42 : decode cX6_leftWithout 42 = .ok (.iconst 2, 1) := by decide +kernel
theorem dX6_leftWithout_43 : decode cX6_leftWithout 43 = .ok (.iadd, 1) := by decide +kernel
theorem dX6_leftWithout_44 : decode cX6_leftWithout 44 = .ok (.iconst 3, 1) := by decide +kernel
theorem dX6_leftWithout_45 : decode cX6_leftWithout 45 = .ok (.iastore, 1) := by decide +kernel
theorem dX6_leftWithout_46 : decode cX6_leftWithout 46 = .ok (.iconst 0, 1) := by decide +kernel
theorem dX6_leftWithout_47 : decode cX6_leftWithout 47 = .ok (.istore_n 3, 1) := by decide +kernel
theorem dX6_leftWithout_48 : decode cX6_leftWithout 48 = .ok (.iload_n 3, 1) := by decide +kernel
theorem dX6_leftWithout_49 : decode cX6_leftWithout 49 = .ok (.iload_n 2, 1) := by decide +kernel
theorem dX6_leftWithout_50 : decode cX6_leftWithout 50 = .ok (.if_icmp .ge 17, 3) := by decide +kernel
theorem dX6_leftWithout_53 : decode cX6_leftWithout 53 = .ok (.aload_n 0, 1) := by decide +kernel
theorem dX6_leftWithout_54 : decode cX6_leftWithout 54 = .ok (.sipush 1792, 3) := by decide +kernel
theorem dX6_leftWithout_57 : decode cX6_leftWithout 57 = .ok (.invokevirtual 106, 3) := by decide +kernel
theorem dX6_leftWithout_60 : decode cX6_leftWithout 60 = .ok (.pop, 1) := by decide +kernel
theorem dX6_leftWithout_61 : decode cX6_leftWithout 61 = .ok (.iinc 3 1, 3) := by decide +kernel
theorem dX6_leftWithout_64 : decode cX6_leftWithout 64 = .ok (.goto (-16), 3) := by decide +kernel
theorem dX6_leftWithout_67 : decode cX6_leftWithout 67 = .ok (.aload_n 0, 1) := by decide +kernel
theorem dX6_leftWithout_68 : decode cX6_leftWithout 68 = .ok (.sipush 1792, 3) := by decide +kernel
theorem dX6_leftWithout_71 : decode cX6_leftWithout 71 = .ok (.invokevirtual 109, 3) := by decide +kernel
theorem dX6_leftWithout_74 : decode cX6_leftWithout 74 = .ok (.ireturn, 1) := by decide +kernel
theorem dX6_fullness_0 : decode cX6_fullness 0 = .ok (.iconst 0, 1) := by decide +kernel
theorem dX6_fullness_1 : decode cX6_fullness 1 = .ok (.istore_n 1, 1) := by decide +kernel
theorem dX6_fullness_2 : decode cX6_fullness 2 = .ok (.iconst 1, 1) := by decide +kernel
theorem dX6_fullness_3 : decode cX6_fullness 3 = .ok (.istore_n 2, 1) := by decide +kernel
theorem dX6_fullness_4 : decode cX6_fullness 4 = .ok (.iload_n 2, 1) := by decide +kernel
theorem dX6_fullness_5 : decode cX6_fullness 5 = .ok (.bipush 6, 2) := by decide +kernel
theorem dX6_fullness_7 : decode cX6_fullness 7 = .ok (.if_icmp .ge 20, 3) := by decide +kernel
theorem dX6_fullness_10 : decode cX6_fullness 10 = .ok (.iload_n 1, 1) := by decide +kernel
theorem dX6_fullness_11 : decode cX6_fullness 11 = .ok (.aload_n 0, 1) := by decide +kernel
theorem dX6_fullness_12 : decode cX6_fullness 12 = .ok (.getfield 7, 3) := by decide +kernel
theorem dX6_fullness_15 : decode cX6_fullness 15 = .ok (.iconst 4, 1) := by decide +kernel
theorem dX6_fullness_16 : decode cX6_fullness 16 = .ok (.iload_n 2, 1) := by decide +kernel
theorem dX6_fullness_17 : decode cX6_fullness 17 = .ok (.iadd, 1) := by decide +kernel
theorem dX6_fullness_18 : decode cX6_fullness 18 = .ok (.iaload, 1) := by decide +kernel
theorem dX6_fullness_19 : decode cX6_fullness 19 = .ok (.iadd, 1) := by decide +kernel
theorem dX6_fullness_20 : decode cX6_fullness 20 = .ok (.istore_n 1, 1) := by decide +kernel
theorem dX6_fullness_21 : decode cX6_fullness 21 = .ok (.iinc 2 1, 3) := by decide +kernel
theorem dX6_fullness_24 : decode cX6_fullness 24 = .ok (.goto (-20), 3) := by decide +kernel
theorem dX6_fullness_27 : decode cX6_fullness 27 = .ok (.aload_n 0, 1) := by decide +kernel
theorem dX6_fullness_28 : decode cX6_fullness 28 = .ok (.iconst 0, 1) := by decide +kernel
theorem dX6_fullness_29 : decode cX6_fullness 29 = .ok (.invokevirtual 109, 3) := by decide +kernel
theorem dX6_fullness_32 : decode cX6_fullness 32 = .ok (.i2d, 1) := by decide +kernel
theorem dX6_fullness_33 : decode cX6_fullness 33 = .ok (.iload_n 1, 1) := by decide +kernel
theorem dX6_fullness_34 : decode cX6_fullness 34 = .ok (.i2d, 1) := by decide +kernel
theorem dX6_fullness_35 : decode cX6_fullness 35 = .ok (.ddiv, 1) := by decide +kernel
theorem dX6_fullness_36 : decode cX6_fullness 36 = .ok (.dreturn, 1) := by decide +kernel
theorem dL_law_0 : decode cL_law 0 = .ok (.new 7, 3) := by decide +kernel
theorem dL_law_3 : decode cL_law 3 = .ok (.dup, 1) := by decide +kernel
theorem dL_law_4 : decode cL_law 4 = .ok (.invokespecial 9, 3) := by decide +kernel
theorem dL_law_7 : decode cL_law 7 = .ok (.astore_n 1, 1) := by decide +kernel
theorem dL_law_8 : decode cL_law 8 = .ok (.new 10, 3) := by decide +kernel
theorem dL_law_11 : decode cL_law 11 = .ok (.dup, 1) := by decide +kernel
theorem dL_law_12 : decode cL_law 12 = .ok (.invokespecial 12, 3) := by decide +kernel
theorem dL_law_15 : decode cL_law 15 = .ok (.astore_n 2, 1) := by decide +kernel
theorem dL_law_16 : decode cL_law 16 = .ok (.iconst 0, 1) := by decide +kernel
theorem dL_law_17 : decode cL_law 17 = .ok (.istore_n 3, 1) := by decide +kernel
theorem dL_law_18 : decode cL_law 18 = .ok (.iload_n 3, 1) := by decide +kernel
theorem dL_law_19 : decode cL_law 19 = .ok (.aload_n 0, 1) := by decide +kernel
theorem dL_law_20 : decode cL_law 20 = .ok (.arraylength, 1) := by decide +kernel
theorem dL_law_21 : decode cL_law 21 = .ok (.iconst 4, 1) := by decide +kernel
theorem dL_law_22 : decode cL_law 22 = .ok (.isub, 1) := by decide +kernel
theorem dL_law_23 : decode cL_law 23 = .ok (.if_icmp .gt 916, 3) := by decide +kernel
theorem dL_law_26 : decode cL_law 26 = .ok (.aload_n 0, 1) := by decide +kernel
theorem dL_law_27 : decode cL_law 27 = .ok (.iload_n 3, 1) := by decide +kernel
theorem dL_law_28 : decode cL_law 28 = .ok (.iaload, 1) := by decide +kernel
theorem dL_law_29 : decode cL_law 29 = .ok (.bipush 31, 2) := by decide +kernel
theorem dL_law_31 : decode cL_law 31 = .ok (.iand, 1) := by decide +kernel
theorem dL_law_32 : decode cL_law 32 = .ok (.tableswitch 901 0 26 #[124, 157, 190, 223, 266, 325, 348, 371, 394, 417, 450, 473, 486, 499, 512, 525, 538, 551, 584, 617, 660, 719, 742, 765, 814, 827, 860], 124) := by decide +kernel
theorem dL_law_156 : decode cL_law 156 = .ok (.aload_n 1, 1) := by decide +kernel
theorem dL_law_157 : decode cL_law 157 = .ok (.aload_n 0, 1) := by decide +kernel
theorem dL_law_158 : decode cL_law 158 = .ok (.iload_n 3, 1) := by decide +kernel
theorem dL_law_159 : decode cL_law 159 = .ok (.iconst 1, 1) := by decide +kernel
theorem dL_law_160 : decode cL_law 160 = .ok (.iadd, 1) := by decide +kernel
theorem dL_law_161 : decode cL_law 161 = .ok (.iaload, 1) := by decide +kernel
theorem dL_law_162 : decode cL_law 162 = .ok (.aload_n 0, 1) := by decide +kernel
theorem dL_law_163 : decode cL_law 163 = .ok (.iload_n 3, 1) := by decide +kernel
theorem dL_law_164 : decode cL_law 164 = .ok (.iconst 2, 1) := by decide +kernel
theorem dL_law_165 : decode cL_law 165 = .ok (.iadd, 1) := by decide +kernel
theorem dL_law_166 : decode cL_law 166 = .ok (.iaload, 1) := by decide +kernel
theorem dL_law_167 : decode cL_law 167 = .ok (.invokevirtual 13, 3) := by decide +kernel
theorem dL_law_170 : decode cL_law 170 = .ok (.aload_n 2, 1) := by decide +kernel
theorem dL_law_171 : decode cL_law 171 = .ok (.aload_n 0, 1) := by decide +kernel
theorem dL_law_172 : decode cL_law 172 = .ok (.iload_n 3, 1) := by decide +kernel
theorem dL_law_173 : decode cL_law 173 = .ok (.iconst 1, 1) := by decide +kernel
theorem dL_law_174 : decode cL_law 174 = .ok (.iadd, 1) := by decide +kernel
theorem dL_law_175 : decode cL_law 175 = .ok (.iaload, 1) := by decide +kernel
theorem dL_law_176 : decode cL_law 176 = .ok (.aload_n 0, 1) := by decide +kernel
theorem dL_law_177 : decode cL_law 177 = .ok (.iload_n 3, 1) := by decide +kernel
theorem dL_law_178 : decode cL_law 178 = .ok (.iconst 2, 1) := by decide +kernel
theorem dL_law_179 : decode cL_law 179 = .ok (.iadd, 1) := by decide +kernel
theorem dL_law_180 : decode cL_law 180 = .ok (.iaload, 1) := by decide +kernel
theorem dL_law_181 : decode cL_law 181 = .ok (.invokevirtual 17, 3) := by decide +kernel
theorem dL_law_184 : decode cL_law 184 = .ok (.if_icmp .eq 749, 3) := by decide +kernel
theorem dL_law_187 : decode cL_law 187 = .ok (.iconst 0, 1) := by decide +kernel
theorem dL_law_188 : decode cL_law 188 = .ok (.ireturn, 1) := by decide +kernel
theorem dL_law_189 : decode cL_law 189 = .ok (.aload_n 1, 1) := by decide +kernel
theorem dL_law_190 : decode cL_law 190 = .ok (.aload_n 0, 1) := by decide +kernel
theorem dL_law_191 : decode cL_law 191 = .ok (.iload_n 3, 1) := by decide +kernel
theorem dL_law_192 : decode cL_law 192 = .ok (.iconst 1, 1) := by decide +kernel
theorem dL_law_193 : decode cL_law 193 = .ok (.iadd, 1) := by decide +kernel
theorem dL_law_194 : decode cL_law 194 = .ok (.iaload, 1) := by decide +kernel
theorem dL_law_195 : decode cL_law 195 = .ok (.aload_n 0, 1) := by decide +kernel
theorem dL_law_196 : decode cL_law 196 = .ok (.iload_n 3, 1) := by decide +kernel
theorem dL_law_197 : decode cL_law 197 = .ok (.iconst 2, 1) := by decide +kernel
theorem dL_law_198 : decode cL_law 198 = .ok (.iadd, 1) := by decide +kernel
theorem dL_law_199 : decode cL_law 199 = .ok (.iaload, 1) := by decide +kernel
theorem dL_law_200 : decode cL_law 200 = .ok (.invokevirtual 18, 3) := by decide +kernel
theorem dL_law_203 : decode cL_law 203 = .ok (.aload_n 2, 1) := by decide +kernel
theorem dL_law_204 : decode cL_law 204 = .ok (.aload_n 0, 1) := by decide +kernel
theorem dL_law_205 : decode cL_law 205 = .ok (.iload_n 3, 1) := by decide +kernel
theorem dL_law_206 : decode cL_law 206 = .ok (.iconst 1, 1) := by decide +kernel
theorem dL_law_207 : decode cL_law 207 = .ok (.iadd, 1) := by decide +kernel
theorem dL_law_208 : decode cL_law 208 = .ok (.iaload, 1) := by decide +kernel
theorem dL_law_209 : decode cL_law 209 = .ok (.aload_n 0, 1) := by decide +kernel
theorem dL_law_210 : decode cL_law 210 = .ok (.iload_n 3, 1) := by decide +kernel
theorem dL_law_211 : decode cL_law 211 = .ok (.iconst 2, 1) := by decide +kernel
theorem dL_law_212 : decode cL_law 212 = .ok (.iadd, 1) := by decide +kernel
theorem dL_law_213 : decode cL_law 213 = .ok (.iaload, 1) := by decide +kernel
theorem dL_law_214 : decode cL_law 214 = .ok (.invokevirtual 21, 3) := by decide +kernel
theorem dL_law_217 : decode cL_law 217 = .ok (.if_icmp .eq 716, 3) := by decide +kernel
theorem dL_law_220 : decode cL_law 220 = .ok (.iconst 0, 1) := by decide +kernel
theorem dL_law_221 : decode cL_law 221 = .ok (.ireturn, 1) := by decide +kernel
theorem dL_law_222 : decode cL_law 222 = .ok (.aload_n 1, 1) := by decide +kernel
theorem dL_law_223 : decode cL_law 223 = .ok (.aload_n 0, 1) := by decide +kernel
theorem dL_law_224 : decode cL_law 224 = .ok (.iload_n 3, 1) := by decide +kernel
theorem dL_law_225 : decode cL_law 225 = .ok (.iconst 1, 1) := by decide +kernel
theorem dL_law_226 : decode cL_law 226 = .ok (.iadd, 1) := by decide +kernel
theorem dL_law_227 : decode cL_law 227 = .ok (.iaload, 1) := by decide +kernel
theorem dL_law_228 : decode cL_law 228 = .ok (.aload_n 0, 1) := by decide +kernel
theorem dL_law_229 : decode cL_law 229 = .ok (.iload_n 3, 1) := by decide +kernel
theorem dL_law_230 : decode cL_law 230 = .ok (.iconst 2, 1) := by decide +kernel
theorem dL_law_231 : decode cL_law 231 = .ok (.iadd, 1) := by decide +kernel
theorem dL_law_232 : decode cL_law 232 = .ok (.iaload, 1) := by decide +kernel
theorem dL_law_233 : decode cL_law 233 = .ok (.invokevirtual 22, 3) := by decide +kernel
theorem dL_law_236 : decode cL_law 236 = .ok (.aload_n 2, 1) := by decide +kernel
theorem dL_law_237 : decode cL_law 237 = .ok (.aload_n 0, 1) := by decide +kernel
theorem dL_law_238 : decode cL_law 238 = .ok (.iload_n 3, 1) := by decide +kernel
theorem dL_law_239 : decode cL_law 239 = .ok (.iconst 1, 1) := by decide +kernel
theorem dL_law_240 : decode cL_law 240 = .ok (.iadd, 1) := by decide +kernel
theorem dL_law_241 : decode cL_law 241 = .ok (.iaload, 1) := by decide +kernel
theorem dL_law_242 : decode cL_law 242 = .ok (.aload_n 0, 1) := by decide +kernel
theorem dL_law_243 : decode cL_law 243 = .ok (.iload_n 3, 1) := by decide +kernel
theorem dL_law_244 : decode cL_law 244 = .ok (.iconst 2, 1) := by decide +kernel
theorem dL_law_245 : decode cL_law 245 = .ok (.iadd, 1) := by decide +kernel
theorem dL_law_246 : decode cL_law 246 = .ok (.iaload, 1) := by decide +kernel
theorem dL_law_247 : decode cL_law 247 = .ok (.invokevirtual 25, 3) := by decide +kernel
theorem dL_law_250 : decode cL_law 250 = .ok (.if_icmp .eq 683, 3) := by decide +kernel
theorem dL_law_253 : decode cL_law 253 = .ok (.iconst 0, 1) := by decide +kernel
theorem dL_law_254 : decode cL_law 254 = .ok (.ireturn, 1) := by decide +kernel
theorem dL_law_255 : decode cL_law 255 = .ok (.aload_n 1, 1) := by decide +kernel
theorem dL_law_256 : decode cL_law 256 = .ok (.aload_n 0, 1) := by decide +kernel
theorem dL_law_257 : decode cL_law 257 = .ok (.iload_n 3, 1) := by decide +kernel
theorem dL_law_258 : decode cL_law 258 = .ok (.iconst 1, 1) := by decide +kernel
theorem dL_law_259 : decode cL_law 259 = .ok (.iadd, 1) := by decide +kernel
theorem dL_law_260 : decode cL_law 260 = .ok (.iaload, 1) := by decide +kernel
theorem dL_law_261 : decode cL_law 261 = .ok (.aload_n 0, 1) := by decide +kernel
theorem dL_law_262 : decode cL_law 262 = .ok (.iload_n 3, 1) := by decide +kernel
theorem dL_law_263 : decode cL_law 263 = .ok (.iconst 2, 1) := by decide +kernel
theorem dL_law_264 : decode cL_law 264 = .ok (.iadd, 1) := by decide +kernel
theorem dL_law_265 : decode cL_law 265 = .ok (.iaload, 1) := by decide +kernel
theorem dL_law_266 : decode cL_law 266 = .ok (.aload_n 0, 1) := by decide +kernel
theorem dL_law_267 : decode cL_law 267 = .ok (.iload_n 3, 1) := by decide +kernel
theorem dL_law_268 : decode cL_law 268 = .ok (.iconst 3, 1) := by decide +kernel
theorem dL_law_269 : decode cL_law 269 = .ok (.iadd, 1) := by decide +kernel
theorem dL_law_270 : decode cL_law 270 = .ok (.iaload, 1) := by decide +kernel
theorem dL_law_271 : decode cL_law 271 = .ok (.invokevirtual 26, 3) := by decide +kernel
theorem dL_law_274 : decode cL_law 274 = .ok (.aload_n 2, 1) := by decide +kernel
theorem dL_law_275 : decode cL_law 275 = .ok (.aload_n 0, 1) := by decide +kernel
theorem dL_law_276 : decode cL_law 276 = .ok (.iload_n 3, 1) := by decide +kernel
theorem dL_law_277 : decode cL_law 277 = .ok (.iconst 1, 1) := by decide +kernel
theorem dL_law_278 : decode cL_law 278 = .ok (.iadd, 1) := by decide +kernel
theorem dL_law_279 : decode cL_law 279 = .ok (.iaload, 1) := by decide +kernel
theorem dL_law_280 : decode cL_law 280 = .ok (.aload_n 0, 1) := by decide +kernel
theorem dL_law_281 : decode cL_law 281 = .ok (.iload_n 3, 1) := by decide +kernel
theorem dL_law_282 : decode cL_law 282 = .ok (.iconst 2, 1) := by decide +kernel
theorem dL_law_283 : decode cL_law 283 = .ok (.iadd, 1) := by decide +kernel
theorem dL_law_284 : decode cL_law 284 = .ok (.iaload, 1) := by decide +kernel
theorem dL_law_285 : decode cL_law 285 = .ok (.aload_n 0, 1) := by decide +kernel
theorem dL_law_286 : decode cL_law 286 = .ok (.iload_n 3, 1) := by decide +kernel
theorem dL_law_287 : decode cL_law 287 = .ok (.iconst 3, 1) := by decide +kernel
theorem dL_law_288 : decode cL_law 288 = .ok (.iadd, 1) := by decide +kernel
theorem dL_law_289 : decode cL_law 289 = .ok (.iaload, 1) := by decide +kernel
theorem dL_law_290 : decode cL_law 290 = .ok (.invokevirtual 30, 3) := by decide +kernel
theorem dL_law_293 : decode cL_law 293 = .ok (.if_icmp .eq 640, 3) := by decide +kernel
theorem dL_law_296 : decode cL_law 296 = .ok (.iconst 0, 1) := by decide +kernel
theorem dL_law_297 : decode cL_law 297 = .ok (.ireturn, 1) := by decide +kernel
theorem dL_law_298 : decode cL_law 298 = .ok (.aload_n 1, 1) := by decide +kernel
theorem dL_law_299 : decode cL_law 299 = .ok (.aload_n 0, 1) := by decide +kernel
theorem dL_law_300 : decode cL_law 300 = .ok (.iload_n 3, 1) := by decide +kernel
theorem dL_law_301 : decode cL_law 301 = .ok (.iconst 1, 1) := by decide +kernel
theorem dL_law_302 : decode cL_law 302 = .ok (.iadd, 1) := by decide +kernel
theorem dL_law_303 : decode cL_law 303 = .ok (.iaload, 1) := by decide +kernel
theorem dL_law_304 : decode cL_law 304 = .ok (.aload_n 0, 1) := by decide +kernel
theorem dL_law_305 : decode cL_law 305 = .ok (.iload_n 3, 1) := by decide +kernel
theorem dL_law_306 : decode cL_law 306 = .ok (.iconst 2, 1) := by decide +kernel
theorem dL_law_307 : decode cL_law 307 = .ok (.iadd, 1) := by decide +kernel
theorem dL_law_308 : decode cL_law 308 = .ok (.iaload, 1) := by decide +kernel
theorem dL_law_309 : decode cL_law 309 = .ok (.ifCond .eq 7, 3) := by decide +kernel
theorem dL_law_312 : decode cL_law 312 = .ok (.iconst 1, 1) := by decide +kernel
theorem dL_law_313 : decode cL_law 313 = .ok (.goto 4, 3) := by decide +kernel
theorem dL_law_316 : decode cL_law 316 = .ok (.iconst 0, 1) := by decide +kernel
theorem dL_law_317 : decode cL_law 317 = .ok (.aload_n 0, 1) := by decide +kernel
theorem dL_law_318 : decode cL_law 318 = .ok (.iload_n 3, 1) := by decide +kernel
theorem dL_law_319 : decode cL_law 319 = .ok (.iconst 3, 1) := by decide +kernel
theorem dL_law_320 : decode cL_law 320 = .ok (.iadd, 1) := by decide +kernel
theorem dL_law_321 : decode cL_law 321 = .ok (.iaload, 1) := by decide +kernel
theorem dL_law_322 : decode cL_law 322 = .ok (.invokevirtual 31, 3) := by decide +kernel
theorem dL_law_325 : decode cL_law 325 = .ok (.aload_n 2, 1) := by decide +kernel
theorem dL_law_326 : decode cL_law 326 = .ok (.aload_n 0, 1) := by decide +kernel
theorem dL_law_327 : decode cL_law 327 = .ok (.iload_n 3, 1) := by decide +kernel
theorem dL_law_328 : decode cL_law 328 = .ok (.iconst 1, 1) := by decide +kernel
theorem dL_law_329 : decode cL_law 329 = .ok (.iadd, 1) := by decide +kernel
theorem dL_law_330 : decode cL_law 330 = .ok (.iaload, 1) := by decide +kernel
theorem dL_law_331 : decode cL_law 331 = .ok (.aload_n 0, 1) := by decide +kernel
theorem dL_law_332 : decode cL_law 332 = .ok (.iload_n 3, 1) := by decide +kernel
theorem dL_law_333 : decode cL_law 333 = .ok (.iconst 2, 1) := by decide +kernel
theorem dL_law_334 : decode cL_law 334 = .ok (.iadd, 1) := by decide +kernel
theorem dL_law_335 : decode cL_law 335 = .ok (.iaload, 1) := by decide +kernel
theorem dL_law_336 : decode cL_law 336 = .ok (.ifCond .eq 7, 3) := by decide +kernel
theorem dL_law_339 : decode cL_law 339 = .ok (.iconst 1, 1) := by decide +kernel
theorem dL_law_340 : decode cL_law 340 = .ok (.goto 4, 3) := by decide +kernel
theorem dL_law_343 : decode cL_law 343 = .ok (.iconst 0, 1) := by decide +kernel
theorem dL_law_344 : decode cL_law 344 = .ok (.aload_n 0, 1) := by decide +kernel
theorem dL_law_345 : decode cL_law 345 = .ok (.iload_n 3, 1) := by decide +kernel
theorem dL_law_346 : decode cL_law 346 = .ok (.iconst 3, 1) := by decide +kernel
theorem dL_law_347 : decode cL_law 347 = .ok (.iadd, 1) := by decide +kernel
theorem dL_law_348 : decode cL_law 348 = .ok (.iaload, 1) := by decide +kernel
theorem dL_law_349 : decode cL_law 349 = .ok (.invokevirtual 35, 3) := by decide +kernel
theorem dL_law_352 : decode cL_law 352 = .ok (.if_icmp .eq 581, 3) := by decide +kernel
theorem dL_law_355 : decode cL_law 355 = .ok (.iconst 0, 1) := by decide +kernel
theorem dL_law_356 : decode cL_law 356 = .ok (.ireturn, 1) := by decide +kernel
theorem dL_law_357 : decode cL_law 357 = .ok (.aload_n 1, 1) := by decide +kernel
theorem dL_law_358 : decode cL_law 358 = .ok (.aload_n 0, 1) := by decide +kernel
theorem dL_law_359 : decode cL_law 359 = .ok (.iload_n 3, 1) := by decide +kernel
theorem dL_law_360 : decode cL_law 360 = .ok (.iconst 1, 1) := by decide +kernel
theorem dL_law_361 : decode cL_law 361 = .ok (.iadd, 1) := by decide +kernel
theorem dL_law_362 : decode cL_law 362 = .ok (.iaload, 1) := by decide +kernel
theorem dL_law_363 : decode cL_law 363 = .ok (.invokevirtual 36, 3) := by decide +kernel
theorem dL_law_366 : decode cL_law 366 = .ok (.aload_n 2, 1) := by decide +kernel
theorem dL_law_367 : decode cL_law 367 = .ok (.aload_n 0, 1) := by decide +kernel
theorem dL_law_368 : decode cL_law 368 = .ok (.iload_n 3, 1) := by decide +kernel
theorem dL_law_369 : decode cL_law 369 = .ok (.iconst 1, 1) := by decide +kernel
theorem dL_law_370 : decode cL_law 370 = .ok (.iadd, 1) := by decide +kernel
theorem dL_law_371 : decode cL_law 371 = .ok (.iaload, 1) := by decide +kernel
theorem dL_law_372 : decode cL_law 372 = .ok (.invokevirtual 40, 3) := by decide +kernel
theorem dL_law_375 : decode cL_law 375 = .ok (.if_icmp .eq 558, 3) := by decide +kernel
theorem dL_law_378 : decode cL_law 378 = .ok (.iconst 0, 1) := by decide +kernel
theorem dL_law_379 : decode cL_law 379 = .ok (.ireturn, 1) := by decide +kernel
theorem dL_law_380 : decode cL_law 380 = .ok (.aload_n 1, 1) := by decide +kernel
theorem dL_law_381 : decode cL_law 381 = .ok (.aload_n 0, 1) := by decide +kernel
theorem dL_law_382 : decode cL_law 382 = .ok (.iload_n 3, 1) := by decide +kernel
theorem dL_law_383 : decode cL_law 383 = .ok (.iconst 1, 1) := by decide +kernel
theorem dL_law_384 : decode cL_law 384 = .ok (.iadd, 1) := by decide +kernel
theorem dL_law_385 : decode cL_law 385 = .ok (.iaload, 1) := by decide +kernel
theorem dL_law_386 : decode cL_law 386 = .ok (.invokevirtual 41, 3) := by decide +kernel
theorem dL_law_389 : decode cL_law 389 = .ok (.aload_n 2, 1) := by decide +kernel
theorem dL_law_390 : decode cL_law 390 = .ok (.aload_n 0, 1) := by decide +kernel
theorem dL_law_391 : decode cL_law 391 = .ok (.iload_n 3, 1) := by decide +kernel
theorem dL_law_392 : decode cL_law 392 = .ok (.iconst 1, 1) := by decide +kernel
theorem dL_law_393 : decode cL_law 393 = .ok (.iadd, 1) := by decide +kernel
theorem dL_law_394 : decode cL_law 394 = .ok (.iaload, 1) := by decide +kernel
theorem dL_law_395 : decode cL_law 395 = .ok (.invokevirtual 44, 3) := by decide +kernel
theorem dL_law_398 : decode cL_law 398 = .ok (.if_icmp .eq 535, 3) := by decide +kernel
theorem dL_law_401 : decode cL_law 401 = .ok (.iconst 0, 1) := by decide +kernel
theorem dL_law_402 : decode cL_law 402 = .ok (.ireturn, 1) := by decide +kernel
theorem dL_law_403 : decode cL_law 403 = .ok (.aload_n 1, 1) := by decide +kernel
theorem dL_law_404 : decode cL_law 404 = .ok (.aload_n 0, 1) := by decide +kernel
theorem dL_law_405 : decode cL_law 405 = .ok (.iload_n 3, 1) := by decide +kernel
theorem dL_law_406 : decode cL_law 406 = .ok (.iconst 1, 1) := by decide +kernel
theorem dL_law_407 : decode cL_law 407 = .ok (.iadd, 1) := by decide +kernel
theorem dL_law_408 : decode cL_law 408 = .ok (.iaload, 1) := by decide +kernel
theorem dL_law_409 : decode cL_law 409 = .ok (.invokevirtual 45, 3) := by decide +kernel
theorem dL_law_412 : decode cL_law 412 = .ok (.aload_n 2, 1) := by decide +kernel
theorem dL_law_413 : decode cL_law 413 = .ok (.aload_n 0, 1) := by decide +kernel
theorem dL_law_414 : decode cL_law 414 = .ok (.iload_n 3, 1) := by decide +kernel
theorem dL_law_415 : decode cL_law 415 = .ok (.iconst 1, 1) := by decide +kernel
theorem dL_law_416 : decode cL_law 416 = .ok (.iadd, 1) := by decide +kernel
theorem dL_law_417 : decode cL_law 417 = .ok (.iaload, 1) := by decide +kernel
theorem dL_law_418 : decode cL_law 418 = .ok (.invokevirtual 48, 3) := by decide +kernel
theorem dL_law_421 : decode cL_law 421 = .ok (.if_icmp .eq 512, 3) := by decide +kernel
theorem dL_law_424 : decode cL_law 424 = .ok (.iconst 0, 1) := by decide +kernel
theorem dL_law_425 : decode cL_law 425 = .ok (.ireturn, 1) := by decide +kernel
theorem dL_law_426 : decode cL_law 426 = .ok (.aload_n 1, 1) := by decide +kernel
theorem dL_law_427 : decode cL_law 427 = .ok (.aload_n 0, 1) := by decide +kernel
theorem dL_law_428 : decode cL_law 428 = .ok (.iload_n 3, 1) := by decide +kernel
theorem dL_law_429 : decode cL_law 429 = .ok (.iconst 1, 1) := by decide +kernel
theorem dL_law_430 : decode cL_law 430 = .ok (.iadd, 1) := by decide +kernel
theorem dL_law_431 : decode cL_law 431 = .ok (.iaload, 1) := by decide +kernel
theorem dL_law_432 : decode cL_law 432 = .ok (.invokevirtual 49, 3) := by decide +kernel
theorem dL_law_435 : decode cL_law 435 = .ok (.aload_n 2, 1) := by decide +kernel
theorem dL_law_436 : decode cL_law 436 = .ok (.aload_n 0, 1) := by decide +kernel
theorem dL_law_437 : decode cL_law 437 = .ok (.iload_n 3, 1) := by decide +kernel
theorem dL_law_438 : decode cL_law 438 = .ok (.iconst 1, 1) := by decide +kernel
theorem dL_law_439 : decode cL_law 439 = .ok (.iadd, 1) := by decide +kernel
theorem dL_law_440 : decode cL_law 440 = .ok (.iaload, 1) := by decide +kernel
theorem dL_law_441 : decode cL_law 441 = .ok (.invokevirtual 52, 3) := by decide +kernel
theorem dL_law_444 : decode cL_law 444 = .ok (.if_icmp .eq 489, 3) := by decide +kernel
theorem dL_law_447 : decode cL_law 447 = .ok (.iconst 0, 1) := by decide +kernel
theorem dL_law_448 : decode cL_law 448 = .ok (.ireturn, 1) := by decide +kernel
theorem dL_law_449 : decode cL_law 449 = .ok (.aload_n 1, 1) := by decide +kernel
theorem dL_law_450 : decode cL_law 450 = .ok (.aload_n 0, 1) := by decide +kernel
theorem dL_law_451 : decode cL_law 451 = .ok (.iload_n 3, 1) := by decide +kernel
theorem dL_law_452 : decode cL_law 452 = .ok (.iconst 1, 1) := by decide +kernel
theorem dL_law_453 : decode cL_law 453 = .ok (.iadd, 1) := by decide +kernel
theorem dL_law_454 : decode cL_law 454 = .ok (.iaload, 1) := by decide +kernel
theorem dL_law_455 : decode cL_law 455 = .ok (.aload_n 0, 1) := by decide +kernel
theorem dL_law_456 : decode cL_law 456 = .ok (.iload_n 3, 1) := by decide +kernel
theorem dL_law_457 : decode cL_law 457 = .ok (.iconst 2, 1) := by decide +kernel
theorem dL_law_458 : decode cL_law 458 = .ok (.iadd, 1) := by decide +kernel
theorem dL_law_459 : decode cL_law 459 = .ok (.iaload, 1) := by decide +kernel
theorem dL_law_460 : decode cL_law 460 = .ok (.invokevirtual 53, 3) := by decide +kernel
theorem dL_law_463 : decode cL_law 463 = .ok (.aload_n 2, 1) := by decide +kernel
theorem dL_law_464 : decode cL_law 464 = .ok (.aload_n 0, 1) := by decide +kernel
theorem dL_law_465 : decode cL_law 465 = .ok (.iload_n 3, 1) := by decide +kernel
theorem dL_law_466 : decode cL_law 466 = .ok (.iconst 1, 1) := by decide +kernel
theorem dL_law_467 : decode cL_law 467 = .ok (.iadd, 1) := by decide +kernel
theorem dL_law_468 : decode cL_law 468 = .ok (.iaload, 1) := by decide +kernel
theorem dL_law_469 : decode cL_law 469 = .ok (.aload_n 0, 1) := by decide +kernel
theorem dL_law_470 : decode cL_law 470 = .ok (.iload_n 3, 1) := by decide +kernel
theorem dL_law_471 : decode cL_law 471 = .ok (.iconst 2, 1) := by decide +kernel
theorem dL_law_472 : decode cL_law 472 = .ok (.iadd, 1) := by decide +kernel
theorem dL_law_473 : decode cL_law 473 = .ok (.iaload, 1) := by decide +kernel
theorem dL_law_474 : decode cL_law 474 = .ok (.invokevirtual 56, 3) := by decide +kernel
theorem dL_law_477 : decode cL_law 477 = .ok (.if_icmp .eq 456, 3) := by decide +kernel
theorem dL_law_480 : decode cL_law 480 = .ok (.iconst 0, 1) := by decide +kernel
theorem dL_law_481 : decode cL_law 481 = .ok (.ireturn, 1) := by decide +kernel
theorem dL_law_482 : decode cL_law 482 = .ok (.aload_n 1, 1) := by decide +kernel
theorem dL_law_483 : decode cL_law 483 = .ok (.aload_n 0, 1) := by decide +kernel
theorem dL_law_484 : decode cL_law 484 = .ok (.iload_n 3, 1) := by decide +kernel
theorem dL_law_485 : decode cL_law 485 = .ok (.iconst 1, 1) := by decide +kernel
theorem dL_law_486 : decode cL_law 486 = .ok (.iadd, 1) := by decide +kernel
theorem dL_law_487 : decode cL_law 487 = .ok (.iaload, 1) := by decide +kernel
theorem dL_law_488 : decode cL_law 488 = .ok (.invokevirtual 57, 3) := by decide +kernel
theorem dL_law_491 : decode cL_law 491 = .ok (.aload_n 2, 1) := by decide +kernel
theorem dL_law_492 : decode cL_law 492 = .ok (.aload_n 0, 1) := by decide +kernel
theorem dL_law_493 : decode cL_law 493 = .ok (.iload_n 3, 1) := by decide +kernel
theorem dL_law_494 : decode cL_law 494 = .ok (.iconst 1, 1) := by decide +kernel
theorem dL_law_495 : decode cL_law 495 = .ok (.iadd, 1) := by decide +kernel
theorem dL_law_496 : decode cL_law 496 = .ok (.iaload, 1) := by decide +kernel
theorem dL_law_497 : decode cL_law 497 = .ok (.invokevirtual 60, 3) := by decide +kernel
theorem dL_law_500 : decode cL_law 500 = .ok (.if_icmp .eq 433, 3) := by decide +kernel
theorem dL_law_503 : decode cL_law 503 = .ok (.iconst 0, 1) := by decide +kernel
theorem dL_law_504 : decode cL_law 504 = .ok (.ireturn, 1) := by decide +kernel
theorem dL_law_505 : decode cL_law 505 = .ok (.aload_n 1, 1) := by decide +kernel
theorem dL_law_506 : decode cL_law 506 = .ok (.invokevirtual 61, 3) := by decide +kernel
theorem dL_law_509 : decode cL_law 509 = .ok (.aload_n 2, 1) := by decide +kernel
theorem dL_law_510 : decode cL_law 510 = .ok (.invokevirtual 65, 3) := by decide +kernel
theorem dL_law_513 : decode cL_law 513 = .ok (.if_icmp .eq 420, 3) := by decide +kernel
theorem dL_law_516 : decode cL_law 516 = .ok (.iconst 0, 1) := by decide +kernel
theorem dL_law_517 : decode cL_law 517 = .ok (.ireturn, 1) := by decide +kernel
theorem dL_law_518 : decode cL_law 518 = .ok (.aload_n 1, 1) := by decide +kernel
theorem dL_law_519 : decode cL_law 519 = .ok (.invokevirtual 66, 3) := by decide +kernel
theorem dL_law_522 : decode cL_law 522 = .ok (.aload_n 2, 1) := by decide +kernel
theorem dL_law_523 : decode cL_law 523 = .ok (.invokevirtual 69, 3) := by decide +kernel
theorem dL_law_526 : decode cL_law 526 = .ok (.if_icmp .eq 407, 3) := by decide +kernel
theorem dL_law_529 : decode cL_law 529 = .ok (.iconst 0, 1) := by decide +kernel
theorem dL_law_530 : decode cL_law 530 = .ok (.ireturn, 1) := by decide +kernel
theorem dL_law_531 : decode cL_law 531 = .ok (.aload_n 1, 1) := by decide +kernel
theorem dL_law_532 : decode cL_law 532 = .ok (.invokevirtual 70, 3) := by decide +kernel
theorem dL_law_535 : decode cL_law 535 = .ok (.aload_n 2, 1) := by decide +kernel
theorem dL_law_536 : decode cL_law 536 = .ok (.invokevirtual 73, 3) := by decide +kernel
theorem dL_law_539 : decode cL_law 539 = .ok (.if_icmp .eq 394, 3) := by decide +kernel
theorem dL_law_542 : decode cL_law 542 = .ok (.iconst 0, 1) := by decide +kernel
theorem dL_law_543 : decode cL_law 543 = .ok (.ireturn, 1) := by decide +kernel
theorem dL_law_544 : decode cL_law 544 = .ok (.aload_n 1, 1) := by decide +kernel
theorem dL_law_545 : decode cL_law 545 = .ok (.invokevirtual 74, 3) := by decide +kernel
theorem dL_law_548 : decode cL_law 548 = .ok (.aload_n 2, 1) := by decide +kernel
theorem dL_law_549 : decode cL_law 549 = .ok (.invokevirtual 77, 3) := by decide +kernel
theorem dL_law_552 : decode cL_law 552 = .ok (.if_icmp .eq 381, 3) := by decide +kernel
theorem dL_law_555 : decode cL_law 555 = .ok (.iconst 0, 1) := by decide +kernel
theorem dL_law_556 : decode cL_law 556 = .ok (.ireturn, 1) := by decide +kernel
theorem dL_law_557 : decode cL_law 557 = .ok (.aload_n 1, 1) := by decide +kernel
theorem dL_law_558 : decode cL_law 558 = .ok (.invokevirtual 78, 3) := by decide +kernel
theorem dL_law_561 : decode cL_law 561 = .ok (.aload_n 2, 1) := by decide +kernel
theorem dL_law_562 : decode cL_law 562 = .ok (.invokevirtual 81, 3) := by decide +kernel
theorem dL_law_565 : decode cL_law 565 = .ok (.if_icmp .eq 368, 3) := by decide +kernel
theorem dL_law_568 : decode cL_law 568 = .ok (.iconst 0, 1) := by decide +kernel
theorem dL_law_569 : decode cL_law 569 = .ok (.ireturn, 1) := by decide +kernel
theorem dL_law_570 : decode cL_law 570 = .ok (.aload_n 1, 1) := by decide +kernel
theorem dL_law_571 : decode cL_law 571 = .ok (.invokevirtual 82, 3) := by decide +kernel
theorem dL_law_574 : decode cL_law 574 = .ok (.aload_n 2, 1) := by decide +kernel
theorem dL_law_575 : decode cL_law 575 = .ok (.invokevirtual 85, 3) := by decide +kernel
theorem dL_law_578 : decode cL_law 578 = .ok (.if_icmp .eq 355, 3) := by decide +kernel
theorem dL_law_581 : decode cL_law 581 = .ok (.iconst 0, 1) := by decide +kernel
theorem dL_law_582 : decode cL_law 582 = .ok (.ireturn, 1) := by decide +kernel
theorem dL_law_583 : decode cL_law 583 = .ok (.aload_n 1, 1) := by decide +kernel
theorem dL_law_584 : decode cL_law 584 = .ok (.aload_n 0, 1) := by decide +kernel
theorem dL_law_585 : decode cL_law 585 = .ok (.iload_n 3, 1) := by decide +kernel
theorem dL_law_586 : decode cL_law 586 = .ok (.iconst 1, 1) := by decide +kernel
theorem dL_law_587 : decode cL_law 587 = .ok (.iadd, 1) := by decide +kernel
theorem dL_law_588 : decode cL_law 588 = .ok (.iaload, 1) := by decide +kernel
theorem dL_law_589 : decode cL_law 589 = .ok (.aload_n 0, 1) := by decide +kernel
theorem dL_law_590 : decode cL_law 590 = .ok (.iload_n 3, 1) := by decide +kernel
theorem dL_law_591 : decode cL_law 591 = .ok (.iconst 2, 1) := by decide +kernel
theorem dL_law_592 : decode cL_law 592 = .ok (.iadd, 1) := by decide +kernel
theorem dL_law_593 : decode cL_law 593 = .ok (.iaload, 1) := by decide +kernel
theorem dL_law_594 : decode cL_law 594 = .ok (.invokevirtual 86, 3) := by decide +kernel
theorem dL_law_597 : decode cL_law 597 = .ok (.aload_n 2, 1) := by decide +kernel
theorem dL_law_598 : decode cL_law 598 = .ok (.aload_n 0, 1) := by decide +kernel
theorem dL_law_599 : decode cL_law 599 = .ok (.iload_n 3, 1) := by decide +kernel
theorem dL_law_600 : decode cL_law 600 = .ok (.iconst 1, 1) := by decide +kernel
theorem dL_law_601 : decode cL_law 601 = .ok (.iadd, 1) := by decide +kernel
theorem dL_law_602 : decode cL_law 602 = .ok (.iaload, 1) := by decide +kernel
theorem dL_law_603 : decode cL_law 603 = .ok (.aload_n 0, 1) := by decide +kernel
theorem dL_law_604 : decode cL_law 604 = .ok (.iload_n 3, 1) := by decide +kernel
theorem dL_law_605 : decode cL_law 605 = .ok (.iconst 2, 1) := by decide +kernel
theorem dL_law_606 : decode cL_law 606 = .ok (.iadd, 1) := by decide +kernel
theorem dL_law_607 : decode cL_law 607 = .ok (.iaload, 1) := by decide +kernel
theorem dL_law_608 : decode cL_law 608 = .ok (.invokevirtual 89, 3) := by decide +kernel
theorem dL_law_611 : decode cL_law 611 = .ok (.if_icmp .eq 322, 3) := by decide +kernel
theorem dL_law_614 : decode cL_law 614 = .ok (.iconst 0, 1) := by decide +kernel
theorem dL_law_615 : decode cL_law 615 = .ok (.ireturn, 1) := by decide +kernel
theorem dL_law_616 : decode cL_law 616 = .ok (.aload_n 1, 1) := by decide +kernel
theorem dL_law_617 : decode cL_law 617 = .ok (.aload_n 0, 1) := by decide +kernel
theorem dL_law_618 : decode cL_law 618 = .ok (.iload_n 3, 1) := by decide +kernel
theorem dL_law_619 : decode cL_law 619 = .ok (.iconst 1, 1) := by decide +kernel
theorem dL_law_620 : decode cL_law 620 = .ok (.iadd, 1) := by decide +kernel
theorem dL_law_621 : decode cL_law 621 = .ok (.iaload, 1) := by decide +kernel
theorem dL_law_622 : decode cL_law 622 = .ok (.aload_n 0, 1) := by decide +kernel
theorem dL_law_623 : decode cL_law 623 = .ok (.iload_n 3, 1) := by decide +kernel
theorem dL_law_624 : decode cL_law 624 = .ok (.iconst 2, 1) := by decide +kernel
theorem dL_law_625 : decode cL_law 625 = .ok (.iadd, 1) := by decide +kernel
theorem dL_law_626 : decode cL_law 626 = .ok (.iaload, 1) := by decide +kernel
theorem dL_law_627 : decode cL_law 627 = .ok (.invokevirtual 90, 3) := by decide +kernel
theorem dL_law_630 : decode cL_law 630 = .ok (.aload_n 2, 1) := by decide +kernel
theorem dL_law_631 : decode cL_law 631 = .ok (.aload_n 0, 1) := by decide +kernel
theorem dL_law_632 : decode cL_law 632 = .ok (.iload_n 3, 1) := by decide +kernel
theorem dL_law_633 : decode cL_law 633 = .ok (.iconst 1, 1) := by decide +kernel
theorem dL_law_634 : decode cL_law 634 = .ok (.iadd, 1) := by decide +kernel
theorem dL_law_635 : decode cL_law 635 = .ok (.iaload, 1) := by decide +kernel
theorem dL_law_636 : decode cL_law 636 = .ok (.aload_n 0, 1) := by decide +kernel
theorem dL_law_637 : decode cL_law 637 = .ok (.iload_n 3, 1) := by decide +kernel
theorem dL_law_638 : decode cL_law 638 = .ok (.iconst 2, 1) := by decide +kernel
theorem dL_law_639 : decode cL_law 639 = .ok (.iadd, 1) := by decide +kernel
theorem dL_law_640 : decode cL_law 640 = .ok (.iaload, 1) := by decide +kernel
theorem dL_law_641 : decode cL_law 641 = .ok (.invokevirtual 93, 3) := by decide +kernel
theorem dL_law_644 : decode cL_law 644 = .ok (.if_icmp .eq 289, 3) := by decide +kernel
theorem dL_law_647 : decode cL_law 647 = .ok (.iconst 0, 1) := by decide +kernel
theorem dL_law_648 : decode cL_law 648 = .ok (.ireturn, 1) := by decide +kernel
theorem dL_law_649 : decode cL_law 649 = .ok (.aload_n 1, 1) := by decide +kernel
theorem dL_law_650 : decode cL_law 650 = .ok (.aload_n 0, 1) := by decide +kernel
theorem dL_law_651 : decode cL_law 651 = .ok (.iload_n 3, 1) := by decide +kernel
theorem dL_law_652 : decode cL_law 652 = .ok (.iconst 1, 1) := by decide +kernel
theorem dL_law_653 : decode cL_law 653 = .ok (.iadd, 1) := by decide +kernel
theorem dL_law_654 : decode cL_law 654 = .ok (.iaload, 1) := by decide +kernel
theorem dL_law_655 : decode cL_law 655 = .ok (.aload_n 0, 1) := by decide +kernel
theorem dL_law_656 : decode cL_law 656 = .ok (.iload_n 3, 1) := by decide +kernel
theorem dL_law_657 : decode cL_law 657 = .ok (.iconst 2, 1) := by decide +kernel
theorem dL_law_658 : decode cL_law 658 = .ok (.iadd, 1) := by decide +kernel
theorem dL_law_659 : decode cL_law 659 = .ok (.iaload, 1) := by decide +kernel
theorem dL_law_660 : decode cL_law 660 = .ok (.aload_n 0, 1) := by decide +kernel
theorem dL_law_661 : decode cL_law 661 = .ok (.iload_n 3, 1) := by decide +kernel
theorem dL_law_662 : decode cL_law 662 = .ok (.iconst 3, 1) := by decide +kernel
theorem dL_law_663 : decode cL_law 663 = .ok (.iadd, 1) := by decide +kernel
theorem dL_law_664 : decode cL_law 664 = .ok (.iaload, 1) := by decide +kernel
theorem dL_law_665 : decode cL_law 665 = .ok (.invokevirtual 94, 3) := by decide +kernel
theorem dL_law_668 : decode cL_law 668 = .ok (.aload_n 2, 1) := by decide +kernel
theorem dL_law_669 : decode cL_law 669 = .ok (.aload_n 0, 1) := by decide +kernel
theorem dL_law_670 : decode cL_law 670 = .ok (.iload_n 3, 1) := by decide +kernel
theorem dL_law_671 : decode cL_law 671 = .ok (.iconst 1, 1) := by decide +kernel
theorem dL_law_672 : decode cL_law 672 = .ok (.iadd, 1) := by decide +kernel
theorem dL_law_673 : decode cL_law 673 = .ok (.iaload, 1) := by decide +kernel
theorem dL_law_674 : decode cL_law 674 = .ok (.aload_n 0, 1) := by decide +kernel
theorem dL_law_675 : decode cL_law 675 = .ok (.iload_n 3, 1) := by decide +kernel
theorem dL_law_676 : decode cL_law 676 = .ok (.iconst 2, 1) := by decide +kernel
theorem dL_law_677 : decode cL_law 677 = .ok (.iadd, 1) := by decide +kernel
theorem dL_law_678 : decode cL_law 678 = .ok (.iaload, 1) := by decide +kernel
theorem dL_law_679 : decode cL_law 679 = .ok (.aload_n 0, 1) := by decide +kernel
theorem dL_law_680 : decode cL_law 680 = .ok (.iload_n 3, 1) := by decide +kernel
theorem dL_law_681 : decode cL_law 681 = .ok (.iconst 3, 1) := by decide +kernel
theorem dL_law_682 : decode cL_law 682 = .ok (.iadd, 1) := by decide +kernel
theorem dL_law_683 : decode cL_law 683 = .ok (.iaload, 1) := by decide +kernel
theorem dL_law_684 : decode cL_law 684 = .ok (.invokevirtual 97, 3) := by decide +kernel
theorem dL_law_687 : decode cL_law 687 = .ok (.if_icmp .eq 246, 3) := by decide +kernel
theorem dL_law_690 : decode cL_law 690 = .ok (.iconst 0, 1) := by decide +kernel
theorem dL_law_691 : decode cL_law 691 = .ok (.ireturn, 1) := by decide +kernel
theorem dL_law_692 : decode cL_law 692 = .ok (.aload_n 1, 1) := by decide +kernel
theorem dL_law_693 : decode cL_law 693 = .ok (.aload_n 0, 1) := by decide +kernel
theorem dL_law_694 : decode cL_law 694 = .ok (.iload_n 3, 1) := by decide +kernel
theorem dL_law_695 : decode cL_law 695 = .ok (.iconst 1, 1) := by decide +kernel
theorem dL_law_696 : decode cL_law 696 = .ok (.iadd, 1) := by decide +kernel
theorem dL_law_697 : decode cL_law 697 = .ok (.iaload, 1) := by decide +kernel
theorem dL_law_698 : decode cL_law 698 = .ok (.aload_n 0, 1) := by decide +kernel
theorem dL_law_699 : decode cL_law 699 = .ok (.iload_n 3, 1) := by decide +kernel
theorem dL_law_700 : decode cL_law 700 = .ok (.iconst 2, 1) := by decide +kernel
theorem dL_law_701 : decode cL_law 701 = .ok (.iadd, 1) := by decide +kernel
theorem dL_law_702 : decode cL_law 702 = .ok (.iaload, 1) := by decide +kernel
theorem dL_law_703 : decode cL_law 703 = .ok (.ifCond .eq 7, 3) := by decide +kernel
theorem dL_law_706 : decode cL_law 706 = .ok (.iconst 1, 1) := by decide +kernel
theorem dL_law_707 : decode cL_law 707 = .ok (.goto 4, 3) := by decide +kernel
theorem dL_law_710 : decode cL_law 710 = .ok (.iconst 0, 1) := by decide +kernel
theorem dL_law_711 : decode cL_law 711 = .ok (.aload_n 0, 1) := by decide +kernel
theorem dL_law_712 : decode cL_law 712 = .ok (.iload_n 3, 1) := by decide +kernel
theorem dL_law_713 : decode cL_law 713 = .ok (.iconst 3, 1) := by decide +kernel
theorem dL_law_714 : decode cL_law 714 = .ok (.iadd, 1) := by decide +kernel
theorem dL_law_715 : decode cL_law 715 = .ok (.iaload, 1) := by decide +kernel
theorem dL_law_716 : decode cL_law 716 = .ok (.invokevirtual 98, 3) := by decide +kernel
theorem dL_law_719 : decode cL_law 719 = .ok (.aload_n 2, 1) := by decide +kernel
theorem dL_law_720 : decode cL_law 720 = .ok (.aload_n 0, 1) := by decide +kernel
theorem dL_law_721 : decode cL_law 721 = .ok (.iload_n 3, 1) := by decide +kernel
theorem dL_law_722 : decode cL_law 722 = .ok (.iconst 1, 1) := by decide +kernel
theorem dL_law_723 : decode cL_law 723 = .ok (.iadd, 1) := by decide +kernel
theorem dL_law_724 : decode cL_law 724 = .ok (.iaload, 1) := by decide +kernel
theorem dL_law_725 : decode cL_law 725 = .ok (.aload_n 0, 1) := by decide +kernel
theorem dL_law_726 : decode cL_law 726 = .ok (.iload_n 3, 1) := by decide +kernel
theorem dL_law_727 : decode cL_law 727 = .ok (.iconst 2, 1) := by decide +kernel
theorem dL_law_728 : decode cL_law 728 = .ok (.iadd, 1) := by decide +kernel
theorem dL_law_729 : decode cL_law 729 = .ok (.iaload, 1) := by decide +kernel
theorem dL_law_730 : decode cL_law 730 = .ok (.ifCond .eq 7, 3) := by decide +kernel
theorem dL_law_733 : decode cL_law 733 = .ok (.iconst 1, 1) := by decide +kernel
theorem dL_law_734 : decode cL_law 734 = .ok (.goto 4, 3) := by decide +kernel
theorem dL_law_737 : decode cL_law 737 = .ok (.iconst 0, 1) := by decide +kernel
theorem dL_law_738 : decode cL_law 738 = .ok (.aload_n 0, 1) := by decide +kernel
theorem dL_law_739 : decode cL_law 739 = .ok (.iload_n 3, 1) := by decide +kernel
theorem dL_law_740 : decode cL_law 740 = .ok (.iconst 3, 1) := by decide +kernel
theorem dL_law_741 : decode cL_law 741 = .ok (.iadd, 1) := by decide +kernel
theorem dL_law_742 : decode cL_law 742 = .ok (.iaload, 1) := by decide +kernel
theorem dL_law_743 : decode cL_law 743 = .ok (.invokevirtual 101, 3) := by decide +kernel
theorem dL_law_746 : decode cL_law 746 = .ok (.if_icmp .eq 187, 3) := by decide +kernel
theorem dL_law_749 : decode cL_law 749 = .ok (.iconst 0, 1) := by decide +kernel
theorem dL_law_750 : decode cL_law 750 = .ok (.ireturn, 1) := by decide +kernel
theorem dL_law_751 : decode cL_law 751 = .ok (.aload_n 1, 1) := by decide +kernel
theorem dL_law_752 : decode cL_law 752 = .ok (.aload_n 0, 1) := by decide +kernel
theorem dL_law_753 : decode cL_law 753 = .ok (.iload_n 3, 1) := by decide +kernel
theorem dL_law_754 : decode cL_law 754 = .ok (.iconst 1, 1) := by decide +kernel
theorem dL_law_755 : decode cL_law 755 = .ok (.iadd, 1) := by decide +kernel
theorem dL_law_756 : decode cL_law 756 = .ok (.iaload, 1) := by decide +kernel
theorem dL_law_757 : decode cL_law 757 = .ok (.invokevirtual 102, 3) := by decide +kernel
theorem dL_law_760 : decode cL_law 760 = .ok (.aload_n 2, 1) := by decide +kernel
theorem dL_law_761 : decode cL_law 761 = .ok (.aload_n 0, 1) := by decide +kernel
theorem dL_law_762 : decode cL_law 762 = .ok (.iload_n 3, 1) := by decide +kernel
theorem dL_law_763 : decode cL_law 763 = .ok (.iconst 1, 1) := by decide +kernel
theorem dL_law_764 : decode cL_law 764 = .ok (.iadd, 1) := by decide +kernel
theorem dL_law_765 : decode cL_law 765 = .ok (.iaload, 1) := by decide +kernel
theorem dL_law_766 : decode cL_law 766 = .ok (.invokevirtual 105, 3) := by decide +kernel
theorem dL_law_769 : decode cL_law 769 = .ok (.if_icmp .eq 164, 3) := by decide +kernel
theorem dL_law_772 : decode cL_law 772 = .ok (.iconst 0, 1) := by decide +kernel
theorem dL_law_773 : decode cL_law 773 = .ok (.ireturn, 1) := by decide +kernel
theorem dL_law_774 : decode cL_law 774 = .ok (.aload_n 1, 1) := by decide +kernel
theorem dL_law_775 : decode cL_law 775 = .ok (.aload_n 0, 1) := by decide +kernel
theorem dL_law_776 : decode cL_law 776 = .ok (.iload_n 3, 1) := by decide +kernel
theorem dL_law_777 : decode cL_law 777 = .ok (.iconst 1, 1) := by decide +kernel
theorem dL_law_778 : decode cL_law 778 = .ok (.iadd, 1) := by decide +kernel
theorem dL_law_779 : decode cL_law 779 = .ok (.iaload, 1) := by decide +kernel
theorem dL_law_780 : decode cL_law 780 = .ok (.invokevirtual 106, 3) := by decide +kernel
theorem dL_law_783 : decode cL_law 783 = .ok (.aload_n 2, 1) := by decide +kernel
theorem dL_law_784 : decode cL_law 784 = .ok (.aload_n 0, 1) := by decide +kernel
theorem dL_law_785 : decode cL_law 785 = .ok (.iload_n 3, 1) := by decide +kernel
theorem dL_law_786 : decode cL_law 786 = .ok (.iconst 1, 1) := by decide +kernel
theorem dL_law_787 : decode cL_law 787 = .ok (.iadd, 1) := by decide +kernel
theorem dL_law_788 : decode cL_law 788 = .ok (.iaload, 1) := by decide +kernel
theorem dL_law_789 : decode cL_law 789 = .ok (.invokevirtual 109, 3) := by decide +kernel
theorem dL_law_792 : decode cL_law 792 = .ok (.if_icmp .eq 141, 3) := by decide +kernel
theorem dL_law_795 : decode cL_law 795 = .ok (.iconst 0, 1) := by decide +kernel
theorem dL_law_796 : decode cL_law 796 = .ok (.ireturn, 1) := by decide +kernel
theorem dL_law_797 : decode cL_law 797 = .ok (.aload_n 1, 1) := by decide +kernel
theorem dL_law_798 : decode cL_law 798 = .ok (.aload_n 0, 1) := by decide +kernel
theorem dL_law_799 : decode cL_law 799 = .ok (.iload_n 3, 1) := by decide +kernel
theorem dL_law_800 : decode cL_law 800 = .ok (.iconst 1, 1) := by decide +kernel
theorem dL_law_801 : decode cL_law 801 = .ok (.iadd, 1) := by decide +kernel
theorem dL_law_802 : decode cL_law 802 = .ok (.iaload, 1) := by decide +kernel
theorem dL_law_803 : decode cL_law 803 = .ok (.aload_n 0, 1) := by decide +kernel
theorem dL_law_804 : decode cL_law 804 = .ok (.iload_n 3, 1) := by decide +kernel
theorem dL_law_805 : decode cL_law 805 = .ok (.iconst 2, 1) := by decide +kernel
theorem dL_law_806 : decode cL_law 806 = .ok (.iadd, 1) := by decide +kernel
theorem dL_law_807 : decode cL_law 807 = .ok (.iaload, 1) := by decide +kernel
theorem dL_law_808 : decode cL_law 808 = .ok (.ifCond .eq 7, 3) := by decide +kernel
theorem dL_law_811 : decode cL_law 811 = .ok (.iconst 1, 1) := by decide +kernel
theorem dL_law_812 : decode cL_law 812 = .ok (.goto 4, 3) := by decide +kernel
theorem dL_law_815 : decode cL_law 815 = .ok (.iconst 0, 1) := by decide +kernel
theorem dL_law_816 : decode cL_law 816 = .ok (.invokevirtual 110, 3) := by decide +kernel
theorem dL_law_819 : decode cL_law 819 = .ok (.aload_n 2, 1) := by decide +kernel
theorem dL_law_820 : decode cL_law 820 = .ok (.aload_n 0, 1) := by decide +kernel
theorem dL_law_821 : decode cL_law 821 = .ok (.iload_n 3, 1) := by decide +kernel
theorem dL_law_822 : decode cL_law 822 = .ok (.iconst 1, 1) := by decide +kernel
theorem dL_law_823 : decode cL_law 823 = .ok (.iadd, 1) := by decide +kernel
theorem dL_law_824 : decode cL_law 824 = .ok (.iaload, 1) := by decide +kernel
theorem dL_law_825 : decode cL_law 825 = .ok (.aload_n 0, 1) := by decide +kernel
theorem dL_law_826 : decode cL_law 826 = .ok (.iload_n 3, 1) := by decide +kernel
theorem dL_law_827 : decode cL_law 827 = .ok (.iconst 2, 1) := by decide +kernel
theorem dL_law_828 : decode cL_law 828 = .ok (.iadd, 1) := by decide +kernel
theorem dL_law_829 : decode cL_law 829 = .ok (.iaload, 1) := by decide +kernel
theorem dL_law_830 : decode cL_law 830 = .ok (.ifCond .eq 7, 3) := by decide +kernel
theorem dL_law_833 : decode cL_law 833 = .ok (.iconst 1, 1) := by decide +kernel
theorem dL_law_834 : decode cL_law 834 = .ok (.goto 4, 3) := by decide +kernel
theorem dL_law_837 : decode cL_law 837 = .ok (.iconst 0, 1) := by decide +kernel
theorem dL_law_838 : decode cL_law 838 = .ok (.invokevirtual 114, 3) := by decide +kernel
theorem dL_law_841 : decode cL_law 841 = .ok (.if_icmp .eq 92, 3) := by decide +kernel
theorem dL_law_844 : decode cL_law 844 = .ok (.iconst 0, 1) := by decide +kernel
theorem dL_law_845 : decode cL_law 845 = .ok (.ireturn, 1) := by decide +kernel
theorem dL_law_846 : decode cL_law 846 = .ok (.aload_n 1, 1) := by decide +kernel
theorem dL_law_847 : decode cL_law 847 = .ok (.invokevirtual 115, 3) := by decide +kernel
theorem dL_law_850 : decode cL_law 850 = .ok (.aload_n 2, 1) := by decide +kernel
theorem dL_law_851 : decode cL_law 851 = .ok (.invokevirtual 118, 3) := by decide +kernel
theorem dL_law_854 : decode cL_law 854 = .ok (.if_icmp .eq 79, 3) := by decide +kernel
theorem dL_law_857 : decode cL_law 857 = .ok (.iconst 0, 1) := by decide +kernel
theorem dL_law_858 : decode cL_law 858 = .ok (.ireturn, 1) := by decide +kernel
theorem dL_law_859 : decode cL_law 859 = .ok (.aload_n 1, 1) := by decide +kernel
theorem dL_law_860 : decode cL_law 860 = .ok (.aload_n 0, 1) := by decide +kernel
theorem dL_law_861 : decode cL_law 861 = .ok (.iload_n 3, 1) := by decide +kernel
theorem dL_law_862 : decode cL_law 862 = .ok (.iconst 1, 1) := by decide +kernel
theorem dL_law_863 : decode cL_law 863 = .ok (.iadd, 1) := by decide +kernel
theorem dL_law_864 : decode cL_law 864 = .ok (.iaload, 1) := by decide +kernel
theorem dL_law_865 : decode cL_law 865 = .ok (.aload_n 0, 1) := by decide +kernel
theorem dL_law_866 : decode cL_law 866 = .ok (.iload_n 3, 1) := by decide +kernel
theorem dL_law_867 : decode cL_law 867 = .ok (.iconst 2, 1) := by decide +kernel
theorem dL_law_868 : decode cL_law 868 = .ok (.iadd, 1) := by decide +kernel
theorem dL_law_869 : decode cL_law 869 = .ok (.iaload, 1) := by decide +kernel
theorem dL_law_870 : decode cL_law 870 = .ok (.invokevirtual 119, 3) := by decide +kernel
theorem dL_law_873 : decode cL_law 873 = .ok (.aload_n 2, 1) := by decide +kernel
theorem dL_law_874 : decode cL_law 874 = .ok (.aload_n 0, 1) := by decide +kernel
theorem dL_law_875 : decode cL_law 875 = .ok (.iload_n 3, 1) := by decide +kernel
theorem dL_law_876 : decode cL_law 876 = .ok (.iconst 1, 1) := by decide +kernel
theorem dL_law_877 : decode cL_law 877 = .ok (.iadd, 1) := by decide +kernel
theorem dL_law_878 : decode cL_law 878 = .ok (.iaload, 1) := by decide +kernel
theorem dL_law_879 : decode cL_law 879 = .ok (.aload_n 0, 1) := by decide +kernel
theorem dL_law_880 : decode cL_law 880 = .ok (.iload_n 3, 1) := by decide +kernel
theorem dL_law_881 : decode cL_law 881 = .ok (.iconst 2, 1) := by decide +kernel
theorem dL_law_882 : decode cL_law 882 = .ok (.iadd, 1) := by decide +kernel
theorem dL_law_883 : decode cL_law 883 = .ok (.iaload, 1) := by decide +kernel
theorem dL_law_884 : decode cL_law 884 = .ok (.invokevirtual 122, 3) := by decide +kernel
theorem dL_law_887 : decode cL_law 887 = .ok (.if_icmp .eq 46, 3) := by decide +kernel
theorem dL_law_890 : decode cL_law 890 = .ok (.iconst 0, 1) := by decide +kernel
theorem dL_law_891 : decode cL_law 891 = .ok (.ireturn, 1) := by decide +kernel
theorem dL_law_892 : decode cL_law 892 = .ok (.aload_n 1, 1) := by decide +kernel
theorem dL_law_893 : decode cL_law 893 = .ok (.invokevirtual 123, 3) := by decide +kernel
theorem dL_law_896 : decode cL_law 896 = .ok (.dstore 4, 2) := by decide +kernel
theorem dL_law_898 : decode cL_law 898 = .ok (.aload_n 2, 1) := by decide +kernel
theorem dL_law_899 : decode cL_law 899 = .ok (.invokevirtual 127, 3) := by decide +kernel
theorem dL_law_902 : decode cL_law 902 = .ok (.dstore 6, 2) := by decide +kernel
theorem dL_law_904 : decode cL_law 904 = .ok (.dload 4, 2) := by decide +kernel
theorem dL_law_906 : decode cL_law 906 = .ok (.dload 6, 2) := by decide +kernel
theorem dL_law_908 : decode cL_law 908 = .ok (.dcmp .l, 1) := by decide +kernel
theorem dL_law_909 : decode cL_law 909 = .ok (.ifCond .eq 21, 3) := by decide +kernel
theorem dL_law_912 : decode cL_law 912 = .ok (.dload 4, 2) := by decide +kernel
theorem dL_law_914 : decode cL_law 914 = .ok (.dload 4, 2) := by decide +kernel
theorem dL_law_916 : decode cL_law 916 = .ok (.dcmp .l, 1) := by decide +kernel
theorem dL_law_917 : decode cL_law 917 = .ok (.ifCond .eq 11, 3) := by decide +kernel
theorem dL_law_920 : decode cL_law 920 = .ok (.dload 6, 2) := by decide +kernel
theorem dL_law_922 : decode cL_law 922 = .ok (.dload 6, 2) := by decide +kernel
theorem dL_law_924 : decode cL_law 924 = .ok (.dcmp .l, 1) := by decide +kernel
theorem dL_law_925 : decode cL_law 925 = .ok (.ifCond .ne 5, 3) := by decide +kernel
theorem dL_law_928 : decode cL_law 928 = .ok (.iconst 0, 1) := by decide +kernel
theorem dL_law_929 : decode cL_law 929 = .ok (.ireturn, 1) := by decide +kernel
theorem dL_law_930 : decode cL_law 930 = .ok (.goto 3, 3) := by decide +kernel
theorem dL_law_933 : decode cL_law 933 = .ok (.iinc 3 4, 3) := by decide +kernel
theorem dL_law_936 : decode cL_law 936 = .ok (.goto (-918), 3) := by decide +kernel
theorem dL_law_939 : decode cL_law 939 = .ok (.iconst 1, 1) := by decide +kernel
theorem dL_law_940 : decode cL_law 940 = .ok (.ireturn, 1) := by decide +kernel
end
section
def lw_all : List Cond := lw_tbl.filter goodWord
theorem q_0 : (Cond.selects RX2 yX2_stateAt yX2_stateAt) ∈ lw_all := List.mem_filter.mpr ⟨List.mem_of_getElem? (i := 0) rfl, rfl⟩
theorem q_1 : (Cond.selects RX5 yX5_passError yX5_passError) ∈ lw_all := List.mem_filter.mpr ⟨List.mem_of_getElem? (i := 1) rfl, rfl⟩
theorem q_2 : (Cond.selects RX4 yX4_readyToLeave yX4_readyToLeave) ∈ lw_all := List.mem_filter.mpr ⟨List.mem_of_getElem? (i := 2) rfl, rfl⟩
theorem q_3 : (Cond.selects RX4 yX4_roomLeft yX4_roomLeft) ∈ lw_all := List.mem_filter.mpr ⟨List.mem_of_getElem? (i := 3) rfl, rfl⟩
theorem q_4 : (Cond.selects RX4 yX4_moveTo yX4_moveTo) ∈ lw_all := List.mem_filter.mpr ⟨List.mem_of_getElem? (i := 4) rfl, rfl⟩
theorem q_5 : (Cond.selects RX1 yX1_makePairAgree yX1_makePairAgree) ∈ lw_all := List.mem_filter.mpr ⟨List.mem_of_getElem? (i := 5) rfl, rfl⟩
theorem q_6 : (Cond.selects RX5 yX5_repairError yX5_repairError) ∈ lw_all := List.mem_filter.mpr ⟨List.mem_of_getElem? (i := 6) rfl, rfl⟩
theorem q_7 : (Cond.selects RX0 yX0_measureDistances yX0_measureDistances) ∈ lw_all := List.mem_filter.mpr ⟨List.mem_of_getElem? (i := 7) rfl, rfl⟩
theorem q_8 : (Cond.selects RX0 yX0_comeNearer yX0_comeNearer) ∈ lw_all := List.mem_filter.mpr ⟨List.mem_of_getElem? (i := 8) rfl, rfl⟩
theorem q_9 : (Cond.selects RX0 yX0_leaveThrough yX0_leaveThrough) ∈ lw_all := List.mem_filter.mpr ⟨List.mem_of_getElem? (i := 9) rfl, rfl⟩
theorem q_10 : (Cond.selects RX3 yX3_readCharacter yX3_readCharacter) ∈ lw_all := List.mem_filter.mpr ⟨List.mem_of_getElem? (i := 10) rfl, rfl⟩
theorem q_11 : (Cond.selects RX3 yX3_nextCharacter yX3_nextCharacter) ∈ lw_all := List.mem_filter.mpr ⟨List.mem_of_getElem? (i := 11) rfl, rfl⟩
theorem q_12 : (Cond.selects RX3 yX3_readNumber yX3_readNumber) ∈ lw_all := List.mem_filter.mpr ⟨List.mem_of_getElem? (i := 12) rfl, rfl⟩
theorem q_13 : (Cond.selects RX5 yX5_carryOutOrder yX5_carryOutOrder) ∈ lw_all := List.mem_filter.mpr ⟨List.mem_of_getElem? (i := 13) rfl, rfl⟩
theorem q_14 : (Cond.selects RX5 yX5_carryOutPass yX5_carryOutPass) ∈ lw_all := List.mem_filter.mpr ⟨List.mem_of_getElem? (i := 14) rfl, rfl⟩
theorem q_15 : (Cond.selects RX5 yX5_carryOutAudit yX5_carryOutAudit) ∈ lw_all := List.mem_filter.mpr ⟨List.mem_of_getElem? (i := 15) rfl, rfl⟩
theorem q_16 : (Cond.selects RX5 yX5_carryOutRepair yX5_carryOutRepair) ∈ lw_all := List.mem_filter.mpr ⟨List.mem_of_getElem? (i := 16) rfl, rfl⟩
theorem q_17 : (Cond.selects RX4 yX4_toldByFirstSide yX4_toldByFirstSide) ∈ lw_all := List.mem_filter.mpr ⟨List.mem_of_getElem? (i := 17) rfl, rfl⟩
theorem q_18 : (Cond.selects RX4 yX4_toldBySecondSide yX4_toldBySecondSide) ∈ lw_all := List.mem_filter.mpr ⟨List.mem_of_getElem? (i := 18) rfl, rfl⟩
theorem q_19 : (Cond.selects RX6 yX6_records yX6_records) ∈ lw_all := List.mem_filter.mpr ⟨List.mem_of_getElem? (i := 19) rfl, rfl⟩
theorem q_20 : (Cond.selects RX6 yX6_copies yX6_copies) ∈ lw_all := List.mem_filter.mpr ⟨List.mem_of_getElem? (i := 20) rfl, rfl⟩
theorem q_21 : (Cond.selects RX6 yX6_isStile yX6_isStile) ∈ lw_all := List.mem_filter.mpr ⟨List.mem_of_getElem? (i := 21) rfl, rfl⟩
theorem q_22 : (Cond.selects RX6 yX6_wrong yX6_wrong) ∈ lw_all := List.mem_filter.mpr ⟨List.mem_of_getElem? (i := 22) rfl, rfl⟩
theorem q_23 : (Cond.selects RX6 yX6_why yX6_why) ∈ lw_all := List.mem_filter.mpr ⟨List.mem_of_getElem? (i := 23) rfl, rfl⟩
theorem q_24 : (Cond.selects RX6 yX6_from yX6_from) ∈ lw_all := List.mem_filter.mpr ⟨List.mem_of_getElem? (i := 24) rfl, rfl⟩
theorem q_25 : (Cond.selects RX6 yX6_to yX6_to) ∈ lw_all := List.mem_filter.mpr ⟨List.mem_of_getElem? (i := 25) rfl, rfl⟩
theorem q_26 : (Cond.selects RX6 yX6_barred yX6_barred) ∈ lw_all := List.mem_filter.mpr ⟨List.mem_of_getElem? (i := 26) rfl, rfl⟩
theorem q_27 : (Cond.selects RX6 yX6_passes yX6_passes) ∈ lw_all := List.mem_filter.mpr ⟨List.mem_of_getElem? (i := 27) rfl, rfl⟩
theorem q_28 : (Cond.selects RX6 yX6_counts yX6_counts) ∈ lw_all := List.mem_filter.mpr ⟨List.mem_of_getElem? (i := 28) rfl, rfl⟩
theorem q_29 : (Cond.selects RX6 yX6_gap yX6_gap) ∈ lw_all := List.mem_filter.mpr ⟨List.mem_of_getElem? (i := 29) rfl, rfl⟩
theorem q_30 : (Cond.selects RX6 yX6_counted yX6_counted) ∈ lw_all := List.mem_filter.mpr ⟨List.mem_of_getElem? (i := 30) rfl, rfl⟩
theorem q_31 : (Cond.selects RX6 yX6_audits yX6_audits) ∈ lw_all := List.mem_filter.mpr ⟨List.mem_of_getElem? (i := 31) rfl, rfl⟩
theorem q_32 : (Cond.selects RX6 yX6_hoursPass yX6_hoursPass) ∈ lw_all := List.mem_filter.mpr ⟨List.mem_of_getElem? (i := 32) rfl, rfl⟩
theorem q_33 : (Cond.selects RX6 yX6_hour yX6_hour) ∈ lw_all := List.mem_filter.mpr ⟨List.mem_of_getElem? (i := 33) rfl, rfl⟩
theorem q_34 : (Cond.selects RX6 yX6_closes yX6_closes) ∈ lw_all := List.mem_filter.mpr ⟨List.mem_of_getElem? (i := 34) rfl, rfl⟩
theorem q_35 : (Cond.selects RX6 yX6_distances yX6_distances) ∈ lw_all := List.mem_filter.mpr ⟨List.mem_of_getElem? (i := 35) rfl, rfl⟩
theorem q_36 : (Cond.selects RX6 yX6_atMost yX6_atMost) ∈ lw_all := List.mem_filter.mpr ⟨List.mem_of_getElem? (i := 36) rfl, rfl⟩
theorem q_37 : (Cond.selects RX6 yX6_people yX6_people) ∈ lw_all := List.mem_filter.mpr ⟨List.mem_of_getElem? (i := 37) rfl, rfl⟩
theorem q_38 : (Cond.selects RX6 yX6_faultOf yX6_faultOf) ∈ lw_all := List.mem_filter.mpr ⟨List.mem_of_getElem? (i := 38) rfl, rfl⟩
theorem q_39 : (Cond.selects RX6 yX6_readsOrder yX6_readsOrder) ∈ lw_all := List.mem_filter.mpr ⟨List.mem_of_getElem? (i := 39) rfl, rfl⟩
theorem q_40 : (Cond.selects RX6 yX6_isNow yX6_isNow) ∈ lw_all := List.mem_filter.mpr ⟨List.mem_of_getElem? (i := 40) rfl, rfl⟩
theorem q_41 : (Cond.selects RX6 yX6_readsNumber yX6_readsNumber) ∈ lw_all := List.mem_filter.mpr ⟨List.mem_of_getElem? (i := 41) rfl, rfl⟩
theorem q_42 : (Cond.selects RX6 yX6_does yX6_does) ∈ lw_all := List.mem_filter.mpr ⟨List.mem_of_getElem? (i := 42) rfl, rfl⟩
theorem q_43 : (Cond.selects RX6 yX6_told yX6_told) ∈ lw_all := List.mem_filter.mpr ⟨List.mem_of_getElem? (i := 43) rfl, rfl⟩
theorem q_44 : (Cond.selects RX6 yX6_distance yX6_distance) ∈ lw_all := List.mem_filter.mpr ⟨List.mem_of_getElem? (i := 44) rfl, rfl⟩
theorem q_45 : (Cond.selects RX6 yX6_stilesOf yX6_stilesOf) ∈ lw_all := List.mem_filter.mpr ⟨List.mem_of_getElem? (i := 45) rfl, rfl⟩
theorem q_46 : (Cond.selects RX6 yX6_sumOf yX6_sumOf) ∈ lw_all := List.mem_filter.mpr ⟨List.mem_of_getElem? (i := 46) rfl, rfl⟩
theorem q_47 : (Cond.selects RX6 yX6_allTold yX6_allTold) ∈ lw_all := List.mem_filter.mpr ⟨List.mem_of_getElem? (i := 47) rfl, rfl⟩
theorem q_48 : (Cond.selects RX6 yX6_fullest yX6_fullest) ∈ lw_all := List.mem_filter.mpr ⟨List.mem_of_getElem? (i := 48) rfl, rfl⟩
set_option maxRecDepth 100000 in
theorem q_49 : (Cond.initialized RL) ∈ lw_all := List.mem_filter.mpr ⟨List.mem_of_getElem? (i := 49) rfl, rfl⟩
set_option maxRecDepth 100000 in
theorem q_50 : (Cond.initialized RX5) ∈ lw_all := List.mem_filter.mpr ⟨List.mem_of_getElem? (i := 50) rfl, rfl⟩
set_option maxRecDepth 100000 in
theorem q_51 : (Cond.initialized RX4) ∈ lw_all := List.mem_filter.mpr ⟨List.mem_of_getElem? (i := 51) rfl, rfl⟩
set_option maxRecDepth 100000 in
theorem q_52 : (Cond.initialized RX1) ∈ lw_all := List.mem_filter.mpr ⟨List.mem_of_getElem? (i := 52) rfl, rfl⟩
set_option maxRecDepth 100000 in
theorem q_53 : (Cond.initialized RX2) ∈ lw_all := List.mem_filter.mpr ⟨List.mem_of_getElem? (i := 53) rfl, rfl⟩
set_option maxRecDepth 100000 in
theorem q_54 : (Cond.initialized RX0) ∈ lw_all := List.mem_filter.mpr ⟨List.mem_of_getElem? (i := 54) rfl, rfl⟩
set_option maxRecDepth 100000 in
theorem q_55 : (Cond.initialized RX3) ∈ lw_all := List.mem_filter.mpr ⟨List.mem_of_getElem? (i := 55) rfl, rfl⟩
set_option maxRecDepth 100000 in
theorem q_56 : (Cond.initialized RX6) ∈ lw_all := List.mem_filter.mpr ⟨List.mem_of_getElem? (i := 56) rfl, rfl⟩
set_option maxRecDepth 100000 in
theorem q_57 : (Cond.initialized "java/lang/Math") ∈ lw_all := List.mem_filter.mpr ⟨List.mem_of_getElem? (i := 57) rfl, rfl⟩
set_option maxRecDepth 100000 in
theorem q_58 : (Cond.classLink RL (7 : Nat) "HallStiles") ∈ lw_all := List.mem_filter.mpr ⟨List.mem_of_getElem? (i := 58) rfl, rfl⟩
set_option maxRecDepth 100000 in
theorem q_59 : (Cond.instantiable RX5 (7 : Nat)) ∈ lw_all := List.mem_filter.mpr ⟨List.mem_of_getElem? (i := 59) rfl, rfl⟩
set_option maxRecDepth 100000 in
theorem q_60 : (Cond.methodLink RL (9 : Nat) yX5_init) ∈ lw_all := List.mem_filter.mpr ⟨List.mem_of_getElem? (i := 60) rfl, rfl⟩
set_option maxRecDepth 100000 in
theorem q_61 : (Cond.instanceMethod yX5_init) ∈ lw_all := List.mem_filter.mpr ⟨List.mem_of_getElem? (i := 61) rfl, rfl⟩
set_option maxRecDepth 100000 in
theorem q_62 : (Cond.code yX5_init prog_1_method_1_code (1 : Nat) (Option.none : Option FieldType)) ∈ lw_all := List.mem_filter.mpr ⟨List.mem_of_getElem? (i := 62) rfl, rfl⟩
set_option maxRecDepth 100000 in
theorem q_63 : (Cond.methodLink RX5 (1 : Nat) (⟨"java/lang/Object", "<init>", "()V"⟩ : MethodName)) ∈ lw_all := List.mem_filter.mpr ⟨List.mem_of_getElem? (i := 63) rfl, rfl⟩
set_option maxRecDepth 100000 in
theorem q_64 : (Cond.instanceMethod (⟨"java/lang/Object", "<init>", "()V"⟩ : MethodName)) ∈ lw_all := List.mem_filter.mpr ⟨List.mem_of_getElem? (i := 64) rfl, rfl⟩
set_option maxRecDepth 100000 in
theorem q_65 : (Cond.code (⟨"java/lang/Object", "<init>", "()V"⟩ : MethodName) object_method_1_code (1 : Nat) (Option.none : Option FieldType)) ∈ lw_all := List.mem_filter.mpr ⟨List.mem_of_getElem? (i := 65) rfl, rfl⟩
set_option maxRecDepth 100000 in
theorem q_66 : (Cond.classLink RX5 (7 : Nat) "HallStiles$State") ∈ lw_all := List.mem_filter.mpr ⟨List.mem_of_getElem? (i := 66) rfl, rfl⟩
set_option maxRecDepth 100000 in
theorem q_67 : (Cond.instantiable RX4 (11 : Nat)) ∈ lw_all := List.mem_filter.mpr ⟨List.mem_of_getElem? (i := 67) rfl, rfl⟩
set_option maxRecDepth 100000 in
theorem q_68 : (Cond.methodLink RX5 (9 : Nat) yX4_init) ∈ lw_all := List.mem_filter.mpr ⟨List.mem_of_getElem? (i := 68) rfl, rfl⟩
set_option maxRecDepth 100000 in
theorem q_69 : (Cond.instanceMethod yX4_init) ∈ lw_all := List.mem_filter.mpr ⟨List.mem_of_getElem? (i := 69) rfl, rfl⟩
set_option maxRecDepth 100000 in
theorem q_70 : (Cond.code yX4_init prog_6_method_1_code (2 : Nat) (Option.none : Option FieldType)) ∈ lw_all := List.mem_filter.mpr ⟨List.mem_of_getElem? (i := 70) rfl, rfl⟩
set_option maxRecDepth 100000 in
theorem q_71 : (Cond.methodLink RX4 (3 : Nat) (⟨"java/lang/Object", "<init>", "()V"⟩ : MethodName)) ∈ lw_all := List.mem_filter.mpr ⟨List.mem_of_getElem? (i := 71) rfl, rfl⟩
set_option maxRecDepth 100000 in
theorem q_72 : (Cond.classLink RX4 (30 : Nat) "HallStiles$Counters") ∈ lw_all := List.mem_filter.mpr ⟨List.mem_of_getElem? (i := 72) rfl, rfl⟩
set_option maxRecDepth 100000 in
theorem q_73 : (Cond.instantiable RX1 (4 : Nat)) ∈ lw_all := List.mem_filter.mpr ⟨List.mem_of_getElem? (i := 73) rfl, rfl⟩
set_option maxRecDepth 100000 in
theorem q_75 : (Cond.instanceMethod yX1_init) ∈ lw_all := List.mem_filter.mpr ⟨List.mem_of_getElem? (i := 75) rfl, rfl⟩
set_option maxRecDepth 100000 in
theorem q_76 : (Cond.code yX1_init prog_3_method_1_code (1 : Nat) (Option.none : Option FieldType)) ∈ lw_all := List.mem_filter.mpr ⟨List.mem_of_getElem? (i := 76) rfl, rfl⟩
set_option maxRecDepth 100000 in
theorem q_77 : (Cond.methodLink RX1 (3 : Nat) (⟨"java/lang/Object", "<init>", "()V"⟩ : MethodName)) ∈ lw_all := List.mem_filter.mpr ⟨List.mem_of_getElem? (i := 77) rfl, rfl⟩
set_option maxRecDepth 100000 in
theorem q_78 : (Cond.fieldLink RX1 (9 : Nat) "HallStiles$Counters" "counts" "[I") ∈ lw_all := List.mem_filter.mpr ⟨List.mem_of_getElem? (i := 78) rfl, rfl⟩
set_option maxRecDepth 100000 in
theorem q_80 : (Cond.fieldLink RX1 (15 : Nat) "HallStiles$Counters" "slips" "[I") ∈ lw_all := List.mem_filter.mpr ⟨List.mem_of_getElem? (i := 80) rfl, rfl⟩
set_option maxRecDepth 100000 in
theorem q_82 : (Cond.fieldLink RX1 (18 : Nat) "HallStiles$Counters" "seen" "[I") ∈ lw_all := List.mem_filter.mpr ⟨List.mem_of_getElem? (i := 82) rfl, rfl⟩
set_option maxRecDepth 100000 in
theorem q_83 : (Cond.fieldLink RX1 (21 : Nat) "HallStiles$Counters" "missed" "[I") ∈ lw_all := List.mem_filter.mpr ⟨List.mem_of_getElem? (i := 83) rfl, rfl⟩
set_option maxRecDepth 100000 in
theorem q_85 : (Cond.laysFinal RX1 "HallStiles$Counters" "counts" "[I") ∈ lw_all := List.mem_filter.mpr ⟨List.mem_of_getElem? (i := 85) rfl, rfl⟩
set_option maxRecDepth 100000 in
theorem q_87 : (Cond.laysFinal RX1 "HallStiles$Counters" "slips" "[I") ∈ lw_all := List.mem_filter.mpr ⟨List.mem_of_getElem? (i := 87) rfl, rfl⟩
set_option maxRecDepth 100000 in
theorem q_89 : (Cond.laysFinal RX1 "HallStiles$Counters" "seen" "[I") ∈ lw_all := List.mem_filter.mpr ⟨List.mem_of_getElem? (i := 89) rfl, rfl⟩
set_option maxRecDepth 100000 in
theorem q_91 : (Cond.laysFinal RX1 "HallStiles$Counters" "missed" "[I") ∈ lw_all := List.mem_filter.mpr ⟨List.mem_of_getElem? (i := 91) rfl, rfl⟩
set_option maxRecDepth 100000 in
theorem q_94 : (Cond.arrayClass FieldType.int) ∈ lw_all := List.mem_filter.mpr ⟨List.mem_of_getElem? (i := 94) rfl, rfl⟩
set_option maxRecDepth 100000 in
theorem q_95 : (Cond.fieldLink RX4 (9 : Nat) "HallStiles$State" "rooms" "[I") ∈ lw_all := List.mem_filter.mpr ⟨List.mem_of_getElem? (i := 95) rfl, rfl⟩
set_option maxRecDepth 100000 in
theorem q_97 : (Cond.fieldLink RX4 (15 : Nat) "HallStiles$State" "people" "[I") ∈ lw_all := List.mem_filter.mpr ⟨List.mem_of_getElem? (i := 97) rfl, rfl⟩
set_option maxRecDepth 100000 in
theorem q_99 : (Cond.fieldLink RX4 (18 : Nat) "HallStiles$State" "firsts" "[I") ∈ lw_all := List.mem_filter.mpr ⟨List.mem_of_getElem? (i := 99) rfl, rfl⟩
set_option maxRecDepth 100000 in
theorem q_101 : (Cond.fieldLink RX4 (21 : Nat) "HallStiles$State" "seconds" "[I") ∈ lw_all := List.mem_filter.mpr ⟨List.mem_of_getElem? (i := 101) rfl, rfl⟩
set_option maxRecDepth 100000 in
theorem q_103 : (Cond.fieldLink RX4 (24 : Nat) "HallStiles$State" "ways" "[I") ∈ lw_all := List.mem_filter.mpr ⟨List.mem_of_getElem? (i := 103) rfl, rfl⟩
set_option maxRecDepth 100000 in
theorem q_105 : (Cond.fieldLink RX4 (27 : Nat) "HallStiles$State" "repairs" "[I") ∈ lw_all := List.mem_filter.mpr ⟨List.mem_of_getElem? (i := 105) rfl, rfl⟩
set_option maxRecDepth 100000 in
theorem q_107 : (Cond.fieldLink RX4 (33 : Nat) "HallStiles$State" "counters" "LHallStiles$Counters;") ∈ lw_all := List.mem_filter.mpr ⟨List.mem_of_getElem? (i := 107) rfl, rfl⟩
set_option maxRecDepth 100000 in
theorem q_109 : (Cond.fieldLink RX4 (37 : Nat) "HallStiles$State" "stiles" "I") ∈ lw_all := List.mem_filter.mpr ⟨List.mem_of_getElem? (i := 109) rfl, rfl⟩
set_option maxRecDepth 100000 in
theorem q_112 : (Cond.fieldLink RX4 (41 : Nat) "HallStiles$State" "rate" "I") ∈ lw_all := List.mem_filter.mpr ⟨List.mem_of_getElem? (i := 112) rfl, rfl⟩
set_option maxRecDepth 100000 in
theorem q_115 : (Cond.fieldLink RX4 (44 : Nat) "HallStiles$State" "repairHours" "I") ∈ lw_all := List.mem_filter.mpr ⟨List.mem_of_getElem? (i := 115) rfl, rfl⟩
set_option maxRecDepth 100000 in
theorem q_117 : (Cond.fieldLink RX4 (47 : Nat) "HallStiles$State" "clock" "I") ∈ lw_all := List.mem_filter.mpr ⟨List.mem_of_getElem? (i := 117) rfl, rfl⟩
set_option maxRecDepth 100000 in
theorem q_119 : (Cond.laysFinal RX4 "HallStiles$State" "rooms" "[I") ∈ lw_all := List.mem_filter.mpr ⟨List.mem_of_getElem? (i := 119) rfl, rfl⟩
set_option maxRecDepth 100000 in
theorem q_121 : (Cond.laysFinal RX4 "HallStiles$State" "people" "[I") ∈ lw_all := List.mem_filter.mpr ⟨List.mem_of_getElem? (i := 121) rfl, rfl⟩
set_option maxRecDepth 100000 in
theorem q_123 : (Cond.laysFinal RX4 "HallStiles$State" "firsts" "[I") ∈ lw_all := List.mem_filter.mpr ⟨List.mem_of_getElem? (i := 123) rfl, rfl⟩
set_option maxRecDepth 100000 in
theorem q_125 : (Cond.laysFinal RX4 "HallStiles$State" "seconds" "[I") ∈ lw_all := List.mem_filter.mpr ⟨List.mem_of_getElem? (i := 125) rfl, rfl⟩
set_option maxRecDepth 100000 in
theorem q_127 : (Cond.laysFinal RX4 "HallStiles$State" "ways" "[I") ∈ lw_all := List.mem_filter.mpr ⟨List.mem_of_getElem? (i := 127) rfl, rfl⟩
set_option maxRecDepth 100000 in
theorem q_129 : (Cond.laysFinal RX4 "HallStiles$State" "repairs" "[I") ∈ lw_all := List.mem_filter.mpr ⟨List.mem_of_getElem? (i := 129) rfl, rfl⟩
set_option maxRecDepth 100000 in
theorem q_131 : (Cond.laysFinal RX4 "HallStiles$State" "counters" "LHallStiles$Counters;") ∈ lw_all := List.mem_filter.mpr ⟨List.mem_of_getElem? (i := 131) rfl, rfl⟩
set_option maxRecDepth 100000 in
theorem q_133 : (Cond.lays RX4 "HallStiles$State" "stiles" "I") ∈ lw_all := List.mem_filter.mpr ⟨List.mem_of_getElem? (i := 133) rfl, rfl⟩
set_option maxRecDepth 100000 in
theorem q_135 : (Cond.lays RX4 "HallStiles$State" "rate" "I") ∈ lw_all := List.mem_filter.mpr ⟨List.mem_of_getElem? (i := 135) rfl, rfl⟩
set_option maxRecDepth 100000 in
theorem q_137 : (Cond.lays RX4 "HallStiles$State" "repairHours" "I") ∈ lw_all := List.mem_filter.mpr ⟨List.mem_of_getElem? (i := 137) rfl, rfl⟩
set_option maxRecDepth 100000 in
theorem q_139 : (Cond.lays RX4 "HallStiles$State" "clock" "I") ∈ lw_all := List.mem_filter.mpr ⟨List.mem_of_getElem? (i := 139) rfl, rfl⟩
set_option maxRecDepth 100000 in
theorem q_142 : (Cond.classLink RX5 (22 : Nat) "HallStiles$History") ∈ lw_all := List.mem_filter.mpr ⟨List.mem_of_getElem? (i := 142) rfl, rfl⟩
set_option maxRecDepth 100000 in
theorem q_143 : (Cond.instantiable RX2 (3 : Nat)) ∈ lw_all := List.mem_filter.mpr ⟨List.mem_of_getElem? (i := 143) rfl, rfl⟩
set_option maxRecDepth 100000 in
theorem q_144 : (Cond.methodLink RX5 (24 : Nat) yX2_init) ∈ lw_all := List.mem_filter.mpr ⟨List.mem_of_getElem? (i := 144) rfl, rfl⟩
set_option maxRecDepth 100000 in
theorem q_145 : (Cond.instanceMethod yX2_init) ∈ lw_all := List.mem_filter.mpr ⟨List.mem_of_getElem? (i := 145) rfl, rfl⟩
set_option maxRecDepth 100000 in
theorem q_146 : (Cond.code yX2_init prog_4_method_1_code (2 : Nat) (Option.none : Option FieldType)) ∈ lw_all := List.mem_filter.mpr ⟨List.mem_of_getElem? (i := 146) rfl, rfl⟩
set_option maxRecDepth 100000 in
theorem q_147 : (Cond.methodLink RX2 (3 : Nat) (⟨"java/lang/Object", "<init>", "()V"⟩ : MethodName)) ∈ lw_all := List.mem_filter.mpr ⟨List.mem_of_getElem? (i := 147) rfl, rfl⟩
set_option maxRecDepth 100000 in
theorem q_148 : (Cond.classLink RX2 (9 : Nat) "HallStiles$State") ∈ lw_all := List.mem_filter.mpr ⟨List.mem_of_getElem? (i := 148) rfl, rfl⟩
theorem ao_tbl : (Cond.arrayOver (FieldType.object "HallStiles$State")) ∈ lw_tbl := List.mem_of_getElem? (i := 149) rfl
set_option maxRecDepth 100000 in
theorem q_150 : (Cond.methodLink RX2 (24 : Nat) yX4_init) ∈ lw_all := List.mem_filter.mpr ⟨List.mem_of_getElem? (i := 150) rfl, rfl⟩
set_option maxRecDepth 100000 in
theorem q_151 : (Cond.fieldLink RX2 (11 : Nat) "HallStiles$History" "ring" "[LHallStiles$State;") ∈ lw_all := List.mem_filter.mpr ⟨List.mem_of_getElem? (i := 151) rfl, rfl⟩
set_option maxRecDepth 100000 in
theorem q_152 : (Cond.fieldLink RX2 (17 : Nat) "HallStiles$History" "oldest" "I") ∈ lw_all := List.mem_filter.mpr ⟨List.mem_of_getElem? (i := 152) rfl, rfl⟩
set_option maxRecDepth 100000 in
theorem q_153 : (Cond.fieldLink RX2 (21 : Nat) "HallStiles$History" "size" "I") ∈ lw_all := List.mem_filter.mpr ⟨List.mem_of_getElem? (i := 153) rfl, rfl⟩
set_option maxRecDepth 100000 in
theorem q_155 : (Cond.laysFinal RX2 "HallStiles$History" "ring" "[LHallStiles$State;") ∈ lw_all := List.mem_filter.mpr ⟨List.mem_of_getElem? (i := 155) rfl, rfl⟩
set_option maxRecDepth 100000 in
theorem q_157 : (Cond.lays RX2 "HallStiles$History" "oldest" "I") ∈ lw_all := List.mem_filter.mpr ⟨List.mem_of_getElem? (i := 157) rfl, rfl⟩
set_option maxRecDepth 100000 in
theorem q_159 : (Cond.lays RX2 "HallStiles$History" "size" "I") ∈ lw_all := List.mem_filter.mpr ⟨List.mem_of_getElem? (i := 159) rfl, rfl⟩
set_option maxRecDepth 100000 in
theorem q_162 : (Cond.classLink RX5 (29 : Nat) "HallStiles$Closing") ∈ lw_all := List.mem_filter.mpr ⟨List.mem_of_getElem? (i := 162) rfl, rfl⟩
set_option maxRecDepth 100000 in
theorem q_163 : (Cond.instantiable RX0 (1 : Nat)) ∈ lw_all := List.mem_filter.mpr ⟨List.mem_of_getElem? (i := 163) rfl, rfl⟩
set_option maxRecDepth 100000 in
theorem q_165 : (Cond.instanceMethod yX0_init) ∈ lw_all := List.mem_filter.mpr ⟨List.mem_of_getElem? (i := 165) rfl, rfl⟩
set_option maxRecDepth 100000 in
theorem q_166 : (Cond.code yX0_init prog_2_method_1_code (1 : Nat) (Option.none : Option FieldType)) ∈ lw_all := List.mem_filter.mpr ⟨List.mem_of_getElem? (i := 166) rfl, rfl⟩
set_option maxRecDepth 100000 in
theorem q_167 : (Cond.methodLink RX0 (3 : Nat) (⟨"java/lang/Object", "<init>", "()V"⟩ : MethodName)) ∈ lw_all := List.mem_filter.mpr ⟨List.mem_of_getElem? (i := 167) rfl, rfl⟩
set_option maxRecDepth 100000 in
theorem q_168 : (Cond.fieldLink RX0 (9 : Nat) "HallStiles$Closing" "distances" "[I") ∈ lw_all := List.mem_filter.mpr ⟨List.mem_of_getElem? (i := 168) rfl, rfl⟩
set_option maxRecDepth 100000 in
theorem q_169 : (Cond.laysFinal RX0 "HallStiles$Closing" "distances" "[I") ∈ lw_all := List.mem_filter.mpr ⟨List.mem_of_getElem? (i := 169) rfl, rfl⟩
set_option maxRecDepth 100000 in
theorem q_172 : (Cond.classLink RX5 (36 : Nat) "HallStiles$Script") ∈ lw_all := List.mem_filter.mpr ⟨List.mem_of_getElem? (i := 172) rfl, rfl⟩
set_option maxRecDepth 100000 in
theorem q_173 : (Cond.instantiable RX3 (6 : Nat)) ∈ lw_all := List.mem_filter.mpr ⟨List.mem_of_getElem? (i := 173) rfl, rfl⟩
set_option maxRecDepth 100000 in
theorem q_175 : (Cond.instanceMethod yX3_init) ∈ lw_all := List.mem_filter.mpr ⟨List.mem_of_getElem? (i := 175) rfl, rfl⟩
set_option maxRecDepth 100000 in
theorem q_176 : (Cond.code yX3_init prog_5_method_1_code (1 : Nat) (Option.none : Option FieldType)) ∈ lw_all := List.mem_filter.mpr ⟨List.mem_of_getElem? (i := 176) rfl, rfl⟩
set_option maxRecDepth 100000 in
theorem q_177 : (Cond.methodLink RX3 (3 : Nat) (⟨"java/lang/Object", "<init>", "()V"⟩ : MethodName)) ∈ lw_all := List.mem_filter.mpr ⟨List.mem_of_getElem? (i := 177) rfl, rfl⟩
set_option maxRecDepth 100000 in
theorem q_178 : (Cond.fieldLink RX3 (9 : Nat) "HallStiles$Script" "characters" "[I") ∈ lw_all := List.mem_filter.mpr ⟨List.mem_of_getElem? (i := 178) rfl, rfl⟩
set_option maxRecDepth 100000 in
theorem q_179 : (Cond.fieldLink RX3 (15 : Nat) "HallStiles$Script" "length" "I") ∈ lw_all := List.mem_filter.mpr ⟨List.mem_of_getElem? (i := 179) rfl, rfl⟩
set_option maxRecDepth 100000 in
theorem q_181 : (Cond.fieldLink RX3 (19 : Nat) "HallStiles$Script" "place" "I") ∈ lw_all := List.mem_filter.mpr ⟨List.mem_of_getElem? (i := 181) rfl, rfl⟩
set_option maxRecDepth 100000 in
theorem q_182 : (Cond.fieldLink RX3 (22 : Nat) "HallStiles$Script" "orderStile" "I") ∈ lw_all := List.mem_filter.mpr ⟨List.mem_of_getElem? (i := 182) rfl, rfl⟩
set_option maxRecDepth 100000 in
theorem q_184 : (Cond.fieldLink RX3 (25 : Nat) "HallStiles$Script" "orderKind" "I") ∈ lw_all := List.mem_filter.mpr ⟨List.mem_of_getElem? (i := 184) rfl, rfl⟩
set_option maxRecDepth 100000 in
theorem q_186 : (Cond.fieldLink RX3 (28 : Nat) "HallStiles$Script" "orderNumber" "I") ∈ lw_all := List.mem_filter.mpr ⟨List.mem_of_getElem? (i := 186) rfl, rfl⟩
set_option maxRecDepth 100000 in
theorem q_188 : (Cond.laysFinal RX3 "HallStiles$Script" "characters" "[I") ∈ lw_all := List.mem_filter.mpr ⟨List.mem_of_getElem? (i := 188) rfl, rfl⟩
set_option maxRecDepth 100000 in
theorem q_190 : (Cond.lays RX3 "HallStiles$Script" "length" "I") ∈ lw_all := List.mem_filter.mpr ⟨List.mem_of_getElem? (i := 190) rfl, rfl⟩
set_option maxRecDepth 100000 in
theorem q_192 : (Cond.lays RX3 "HallStiles$Script" "place" "I") ∈ lw_all := List.mem_filter.mpr ⟨List.mem_of_getElem? (i := 192) rfl, rfl⟩
set_option maxRecDepth 100000 in
theorem q_194 : (Cond.lays RX3 "HallStiles$Script" "orderStile" "I") ∈ lw_all := List.mem_filter.mpr ⟨List.mem_of_getElem? (i := 194) rfl, rfl⟩
set_option maxRecDepth 100000 in
theorem q_196 : (Cond.lays RX3 "HallStiles$Script" "orderKind" "I") ∈ lw_all := List.mem_filter.mpr ⟨List.mem_of_getElem? (i := 196) rfl, rfl⟩
set_option maxRecDepth 100000 in
theorem q_198 : (Cond.lays RX3 "HallStiles$Script" "orderNumber" "I") ∈ lw_all := List.mem_filter.mpr ⟨List.mem_of_getElem? (i := 198) rfl, rfl⟩
set_option maxRecDepth 100000 in
theorem q_201 : (Cond.fieldLink RX5 (10 : Nat) "HallStiles" "now" "LHallStiles$State;") ∈ lw_all := List.mem_filter.mpr ⟨List.mem_of_getElem? (i := 201) rfl, rfl⟩
set_option maxRecDepth 100000 in
theorem q_202 : (Cond.fieldLink RX5 (16 : Nat) "HallStiles" "snapshot" "LHallStiles$State;") ∈ lw_all := List.mem_filter.mpr ⟨List.mem_of_getElem? (i := 202) rfl, rfl⟩
set_option maxRecDepth 100000 in
theorem q_203 : (Cond.fieldLink RX5 (19 : Nat) "HallStiles" "trial" "LHallStiles$State;") ∈ lw_all := List.mem_filter.mpr ⟨List.mem_of_getElem? (i := 203) rfl, rfl⟩
set_option maxRecDepth 100000 in
theorem q_204 : (Cond.fieldLink RX5 (25 : Nat) "HallStiles" "history" "LHallStiles$History;") ∈ lw_all := List.mem_filter.mpr ⟨List.mem_of_getElem? (i := 204) rfl, rfl⟩
set_option maxRecDepth 100000 in
theorem q_205 : (Cond.fieldLink RX5 (32 : Nat) "HallStiles" "closing" "LHallStiles$Closing;") ∈ lw_all := List.mem_filter.mpr ⟨List.mem_of_getElem? (i := 205) rfl, rfl⟩
set_option maxRecDepth 100000 in
theorem q_206 : (Cond.fieldLink RX5 (39 : Nat) "HallStiles" "script" "LHallStiles$Script;") ∈ lw_all := List.mem_filter.mpr ⟨List.mem_of_getElem? (i := 206) rfl, rfl⟩
set_option maxRecDepth 100000 in
theorem q_207 : (Cond.fieldLink RX5 (43 : Nat) "HallStiles" "hasSnapshot" "Z") ∈ lw_all := List.mem_filter.mpr ⟨List.mem_of_getElem? (i := 207) rfl, rfl⟩
set_option maxRecDepth 100000 in
theorem q_208 : (Cond.laysFinal RX5 "HallStiles" "now" "LHallStiles$State;") ∈ lw_all := List.mem_filter.mpr ⟨List.mem_of_getElem? (i := 208) rfl, rfl⟩
set_option maxRecDepth 100000 in
theorem q_210 : (Cond.laysFinal RX5 "HallStiles" "snapshot" "LHallStiles$State;") ∈ lw_all := List.mem_filter.mpr ⟨List.mem_of_getElem? (i := 210) rfl, rfl⟩
set_option maxRecDepth 100000 in
theorem q_212 : (Cond.laysFinal RX5 "HallStiles" "trial" "LHallStiles$State;") ∈ lw_all := List.mem_filter.mpr ⟨List.mem_of_getElem? (i := 212) rfl, rfl⟩
set_option maxRecDepth 100000 in
theorem q_214 : (Cond.laysFinal RX5 "HallStiles" "history" "LHallStiles$History;") ∈ lw_all := List.mem_filter.mpr ⟨List.mem_of_getElem? (i := 214) rfl, rfl⟩
set_option maxRecDepth 100000 in
theorem q_216 : (Cond.laysFinal RX5 "HallStiles" "closing" "LHallStiles$Closing;") ∈ lw_all := List.mem_filter.mpr ⟨List.mem_of_getElem? (i := 216) rfl, rfl⟩
set_option maxRecDepth 100000 in
theorem q_218 : (Cond.laysFinal RX5 "HallStiles" "script" "LHallStiles$Script;") ∈ lw_all := List.mem_filter.mpr ⟨List.mem_of_getElem? (i := 218) rfl, rfl⟩
set_option maxRecDepth 100000 in
theorem q_220 : (Cond.lays RX5 "HallStiles" "hasSnapshot" "Z") ∈ lw_all := List.mem_filter.mpr ⟨List.mem_of_getElem? (i := 220) rfl, rfl⟩
set_option maxRecDepth 100000 in
theorem q_223 : (Cond.methodLink RL (13 : Nat) yX5_stile) ∈ lw_all := List.mem_filter.mpr ⟨List.mem_of_getElem? (i := 223) rfl, rfl⟩
set_option maxRecDepth 100000 in
theorem q_224 : (Cond.instanceMethod yX5_stile) ∈ lw_all := List.mem_filter.mpr ⟨List.mem_of_getElem? (i := 224) rfl, rfl⟩
set_option maxRecDepth 100000 in
theorem q_225 : (Cond.selects RX5 yX5_stile yX5_stile) ∈ lw_all := List.mem_filter.mpr ⟨List.mem_of_getElem? (i := 225) rfl, rfl⟩
set_option maxRecDepth 100000 in
theorem q_226 : (Cond.code yX5_stile prog_1_method_2_code (3 : Nat) (Option.some FieldType.int)) ∈ lw_all := List.mem_filter.mpr ⟨List.mem_of_getElem? (i := 226) rfl, rfl⟩
set_option maxRecDepth 100000 in
theorem q_227 : (Cond.methodLink RX5 (47 : Nat) yX5_isHall) ∈ lw_all := List.mem_filter.mpr ⟨List.mem_of_getElem? (i := 227) rfl, rfl⟩
set_option maxRecDepth 100000 in
theorem q_228 : (Cond.static yX5_isHall) ∈ lw_all := List.mem_filter.mpr ⟨List.mem_of_getElem? (i := 228) rfl, rfl⟩
set_option maxRecDepth 100000 in
theorem q_229 : (Cond.code yX5_isHall prog_1_method_35_code (1 : Nat) (Option.some FieldType.boolean)) ∈ lw_all := List.mem_filter.mpr ⟨List.mem_of_getElem? (i := 229) rfl, rfl⟩
set_option maxRecDepth 100000 in
theorem q_230 : (Cond.constant RX5 (51 : Nat) (-100001 : Int32)) ∈ lw_all := List.mem_filter.mpr ⟨List.mem_of_getElem? (i := 230) rfl, rfl⟩
set_option maxRecDepth 100000 in
theorem q_231 : (Cond.constant RX5 (52 : Nat) (-100002 : Int32)) ∈ lw_all := List.mem_filter.mpr ⟨List.mem_of_getElem? (i := 231) rfl, rfl⟩
set_option maxRecDepth 100000 in
theorem q_232 : (Cond.constant RX5 (57 : Nat) (-100003 : Int32)) ∈ lw_all := List.mem_filter.mpr ⟨List.mem_of_getElem? (i := 232) rfl, rfl⟩
set_option maxRecDepth 100000 in
theorem q_233 : (Cond.methodLink RX5 (58 : Nat) yX2_keep) ∈ lw_all := List.mem_filter.mpr ⟨List.mem_of_getElem? (i := 233) rfl, rfl⟩
set_option maxRecDepth 100000 in
theorem q_234 : (Cond.instanceMethod yX2_keep) ∈ lw_all := List.mem_filter.mpr ⟨List.mem_of_getElem? (i := 234) rfl, rfl⟩
set_option maxRecDepth 100000 in
theorem q_235 : (Cond.selects RX2 yX2_keep yX2_keep) ∈ lw_all := List.mem_filter.mpr ⟨List.mem_of_getElem? (i := 235) rfl, rfl⟩
set_option maxRecDepth 100000 in
theorem q_236 : (Cond.code yX2_keep prog_4_method_2_code (3 : Nat) (Option.none : Option FieldType)) ∈ lw_all := List.mem_filter.mpr ⟨List.mem_of_getElem? (i := 236) rfl, rfl⟩
set_option maxRecDepth 100000 in
theorem q_237 : (Cond.methodLink RX2 (25 : Nat) yX2_stateAt) ∈ lw_all := List.mem_filter.mpr ⟨List.mem_of_getElem? (i := 237) rfl, rfl⟩
set_option maxRecDepth 100000 in
theorem q_239 : (Cond.instanceMethod yX2_stateAt) ∈ lw_all := List.mem_filter.mpr ⟨List.mem_of_getElem? (i := 239) rfl, rfl⟩
set_option maxRecDepth 100000 in
theorem q_240 : (Cond.code yX2_stateAt prog_4_method_4_code (2 : Nat) (Option.some (FieldType.object "HallStiles$State"))) ∈ lw_all := List.mem_filter.mpr ⟨List.mem_of_getElem? (i := 240) rfl, rfl⟩
set_option maxRecDepth 100000 in
theorem q_241 : (Cond.methodLink RX2 (29 : Nat) yX4_copyFrom) ∈ lw_all := List.mem_filter.mpr ⟨List.mem_of_getElem? (i := 241) rfl, rfl⟩
set_option maxRecDepth 100000 in
theorem q_242 : (Cond.instanceMethod yX4_copyFrom) ∈ lw_all := List.mem_filter.mpr ⟨List.mem_of_getElem? (i := 242) rfl, rfl⟩
set_option maxRecDepth 100000 in
theorem q_243 : (Cond.selects RX4 yX4_copyFrom yX4_copyFrom) ∈ lw_all := List.mem_filter.mpr ⟨List.mem_of_getElem? (i := 243) rfl, rfl⟩
set_option maxRecDepth 100000 in
theorem q_244 : (Cond.code yX4_copyFrom prog_6_method_2_code (2 : Nat) (Option.none : Option FieldType)) ∈ lw_all := List.mem_filter.mpr ⟨List.mem_of_getElem? (i := 244) rfl, rfl⟩
set_option maxRecDepth 100000 in
theorem q_246 : (Cond.static yX5_copyRow) ∈ lw_all := List.mem_filter.mpr ⟨List.mem_of_getElem? (i := 246) rfl, rfl⟩
set_option maxRecDepth 100000 in
theorem q_247 : (Cond.code yX5_copyRow prog_1_method_45_code (3 : Nat) (Option.none : Option FieldType)) ∈ lw_all := List.mem_filter.mpr ⟨List.mem_of_getElem? (i := 247) rfl, rfl⟩
set_option maxRecDepth 100000 in
theorem q_248 : (Cond.methodLink RX4 (54 : Nat) yX1_copyFrom) ∈ lw_all := List.mem_filter.mpr ⟨List.mem_of_getElem? (i := 248) rfl, rfl⟩
set_option maxRecDepth 100000 in
theorem q_249 : (Cond.instanceMethod yX1_copyFrom) ∈ lw_all := List.mem_filter.mpr ⟨List.mem_of_getElem? (i := 249) rfl, rfl⟩
set_option maxRecDepth 100000 in
theorem q_250 : (Cond.selects RX1 yX1_copyFrom yX1_copyFrom) ∈ lw_all := List.mem_filter.mpr ⟨List.mem_of_getElem? (i := 250) rfl, rfl⟩
set_option maxRecDepth 100000 in
theorem q_251 : (Cond.code yX1_copyFrom prog_3_method_2_code (2 : Nat) (Option.none : Option FieldType)) ∈ lw_all := List.mem_filter.mpr ⟨List.mem_of_getElem? (i := 251) rfl, rfl⟩
set_option maxRecDepth 100000 in
theorem q_253 : (Cond.methodLink RX5 (62 : Nat) yX4_putUp) ∈ lw_all := List.mem_filter.mpr ⟨List.mem_of_getElem? (i := 253) rfl, rfl⟩
set_option maxRecDepth 100000 in
theorem q_254 : (Cond.instanceMethod yX4_putUp) ∈ lw_all := List.mem_filter.mpr ⟨List.mem_of_getElem? (i := 254) rfl, rfl⟩
set_option maxRecDepth 100000 in
theorem q_255 : (Cond.selects RX4 yX4_putUp yX4_putUp) ∈ lw_all := List.mem_filter.mpr ⟨List.mem_of_getElem? (i := 255) rfl, rfl⟩
set_option maxRecDepth 100000 in
theorem q_256 : (Cond.code yX4_putUp prog_6_method_4_code (4 : Nat) (Option.some FieldType.int)) ∈ lw_all := List.mem_filter.mpr ⟨List.mem_of_getElem? (i := 256) rfl, rfl⟩
set_option maxRecDepth 100000 in
theorem q_258 : (Cond.static yX5_put) ∈ lw_all := List.mem_filter.mpr ⟨List.mem_of_getElem? (i := 258) rfl, rfl⟩
set_option maxRecDepth 100000 in
theorem q_259 : (Cond.code yX5_put prog_1_method_43_code (3 : Nat) (Option.none : Option FieldType)) ∈ lw_all := List.mem_filter.mpr ⟨List.mem_of_getElem? (i := 259) rfl, rfl⟩
set_option maxRecDepth 100000 in
theorem q_260 : (Cond.methodLink RL (18 : Nat) yX5_open) ∈ lw_all := List.mem_filter.mpr ⟨List.mem_of_getElem? (i := 260) rfl, rfl⟩
set_option maxRecDepth 100000 in
theorem q_261 : (Cond.instanceMethod yX5_open) ∈ lw_all := List.mem_filter.mpr ⟨List.mem_of_getElem? (i := 261) rfl, rfl⟩
set_option maxRecDepth 100000 in
theorem q_262 : (Cond.selects RX5 yX5_open yX5_open) ∈ lw_all := List.mem_filter.mpr ⟨List.mem_of_getElem? (i := 262) rfl, rfl⟩
set_option maxRecDepth 100000 in
theorem q_263 : (Cond.code yX5_open prog_1_method_3_code (4 : Nat) (Option.some FieldType.int)) ∈ lw_all := List.mem_filter.mpr ⟨List.mem_of_getElem? (i := 263) rfl, rfl⟩
set_option maxRecDepth 100000 in
theorem q_264 : (Cond.methodLink RX5 (66 : Nat) yX4_hasStile) ∈ lw_all := List.mem_filter.mpr ⟨List.mem_of_getElem? (i := 264) rfl, rfl⟩
set_option maxRecDepth 100000 in
theorem q_265 : (Cond.instanceMethod yX4_hasStile) ∈ lw_all := List.mem_filter.mpr ⟨List.mem_of_getElem? (i := 265) rfl, rfl⟩
set_option maxRecDepth 100000 in
theorem q_266 : (Cond.selects RX4 yX4_hasStile yX4_hasStile) ∈ lw_all := List.mem_filter.mpr ⟨List.mem_of_getElem? (i := 266) rfl, rfl⟩
set_option maxRecDepth 100000 in
theorem q_267 : (Cond.code yX4_hasStile prog_6_method_3_code (2 : Nat) (Option.some FieldType.boolean)) ∈ lw_all := List.mem_filter.mpr ⟨List.mem_of_getElem? (i := 267) rfl, rfl⟩
set_option maxRecDepth 100000 in
theorem q_268 : (Cond.methodLink RX5 (73 : Nat) yX5_at) ∈ lw_all := List.mem_filter.mpr ⟨List.mem_of_getElem? (i := 268) rfl, rfl⟩
set_option maxRecDepth 100000 in
theorem q_269 : (Cond.static yX5_at) ∈ lw_all := List.mem_filter.mpr ⟨List.mem_of_getElem? (i := 269) rfl, rfl⟩
set_option maxRecDepth 100000 in
theorem q_270 : (Cond.code yX5_at prog_1_method_42_code (2 : Nat) (Option.some FieldType.int)) ∈ lw_all := List.mem_filter.mpr ⟨List.mem_of_getElem? (i := 270) rfl, rfl⟩
set_option maxRecDepth 100000 in
theorem q_271 : (Cond.methodLink RX5 (77 : Nat) yX5_put) ∈ lw_all := List.mem_filter.mpr ⟨List.mem_of_getElem? (i := 271) rfl, rfl⟩
set_option maxRecDepth 100000 in
theorem q_272 : (Cond.methodLink RL (22 : Nat) yX5_room) ∈ lw_all := List.mem_filter.mpr ⟨List.mem_of_getElem? (i := 272) rfl, rfl⟩
set_option maxRecDepth 100000 in
theorem q_273 : (Cond.instanceMethod yX5_room) ∈ lw_all := List.mem_filter.mpr ⟨List.mem_of_getElem? (i := 273) rfl, rfl⟩
set_option maxRecDepth 100000 in
theorem q_274 : (Cond.selects RX5 yX5_room yX5_room) ∈ lw_all := List.mem_filter.mpr ⟨List.mem_of_getElem? (i := 274) rfl, rfl⟩
set_option maxRecDepth 100000 in
theorem q_275 : (Cond.code yX5_room prog_1_method_4_code (4 : Nat) (Option.some FieldType.int)) ∈ lw_all := List.mem_filter.mpr ⟨List.mem_of_getElem? (i := 275) rfl, rfl⟩
set_option maxRecDepth 100000 in
theorem q_276 : (Cond.methodLink RX5 (81 : Nat) yX5_isHallWithRoom) ∈ lw_all := List.mem_filter.mpr ⟨List.mem_of_getElem? (i := 276) rfl, rfl⟩
set_option maxRecDepth 100000 in
theorem q_277 : (Cond.static yX5_isHallWithRoom) ∈ lw_all := List.mem_filter.mpr ⟨List.mem_of_getElem? (i := 277) rfl, rfl⟩
set_option maxRecDepth 100000 in
theorem q_278 : (Cond.code yX5_isHallWithRoom prog_1_method_36_code (1 : Nat) (Option.some FieldType.boolean)) ∈ lw_all := List.mem_filter.mpr ⟨List.mem_of_getElem? (i := 278) rfl, rfl⟩
set_option maxRecDepth 100000 in
theorem q_279 : (Cond.constant RX5 (87 : Nat) (-100004 : Int32)) ∈ lw_all := List.mem_filter.mpr ⟨List.mem_of_getElem? (i := 279) rfl, rfl⟩
set_option maxRecDepth 100000 in
theorem q_280 : (Cond.methodLink RL (26 : Nat) yX5_slip) ∈ lw_all := List.mem_filter.mpr ⟨List.mem_of_getElem? (i := 280) rfl, rfl⟩
set_option maxRecDepth 100000 in
theorem q_281 : (Cond.instanceMethod yX5_slip) ∈ lw_all := List.mem_filter.mpr ⟨List.mem_of_getElem? (i := 281) rfl, rfl⟩
set_option maxRecDepth 100000 in
theorem q_282 : (Cond.selects RX5 yX5_slip yX5_slip) ∈ lw_all := List.mem_filter.mpr ⟨List.mem_of_getElem? (i := 282) rfl, rfl⟩
set_option maxRecDepth 100000 in
theorem q_283 : (Cond.code yX5_slip prog_1_method_5_code (6 : Nat) (Option.some FieldType.int)) ∈ lw_all := List.mem_filter.mpr ⟨List.mem_of_getElem? (i := 283) rfl, rfl⟩
set_option maxRecDepth 100000 in
theorem q_284 : (Cond.methodLink RX5 (91 : Nat) yX5_isCounter) ∈ lw_all := List.mem_filter.mpr ⟨List.mem_of_getElem? (i := 284) rfl, rfl⟩
set_option maxRecDepth 100000 in
theorem q_285 : (Cond.static yX5_isCounter) ∈ lw_all := List.mem_filter.mpr ⟨List.mem_of_getElem? (i := 285) rfl, rfl⟩
set_option maxRecDepth 100000 in
theorem q_286 : (Cond.code yX5_isCounter prog_1_method_37_code (1 : Nat) (Option.some FieldType.boolean)) ∈ lw_all := List.mem_filter.mpr ⟨List.mem_of_getElem? (i := 286) rfl, rfl⟩
set_option maxRecDepth 100000 in
theorem q_287 : (Cond.methodLink RX5 (94 : Nat) yX5_isSlip) ∈ lw_all := List.mem_filter.mpr ⟨List.mem_of_getElem? (i := 287) rfl, rfl⟩
set_option maxRecDepth 100000 in
theorem q_288 : (Cond.static yX5_isSlip) ∈ lw_all := List.mem_filter.mpr ⟨List.mem_of_getElem? (i := 288) rfl, rfl⟩
set_option maxRecDepth 100000 in
theorem q_289 : (Cond.code yX5_isSlip prog_1_method_38_code (1 : Nat) (Option.some FieldType.boolean)) ∈ lw_all := List.mem_filter.mpr ⟨List.mem_of_getElem? (i := 289) rfl, rfl⟩
set_option maxRecDepth 100000 in
theorem q_290 : (Cond.methodLink RX5 (97 : Nat) yX5_counterIndex) ∈ lw_all := List.mem_filter.mpr ⟨List.mem_of_getElem? (i := 290) rfl, rfl⟩
set_option maxRecDepth 100000 in
theorem q_291 : (Cond.static yX5_counterIndex) ∈ lw_all := List.mem_filter.mpr ⟨List.mem_of_getElem? (i := 291) rfl, rfl⟩
set_option maxRecDepth 100000 in
theorem q_292 : (Cond.code yX5_counterIndex prog_1_method_41_code (2 : Nat) (Option.some FieldType.int)) ∈ lw_all := List.mem_filter.mpr ⟨List.mem_of_getElem? (i := 292) rfl, rfl⟩
set_option maxRecDepth 100000 in
theorem q_293 : (Cond.methodLink RX5 (109 : Nat) yX1_beginAnew) ∈ lw_all := List.mem_filter.mpr ⟨List.mem_of_getElem? (i := 293) rfl, rfl⟩
set_option maxRecDepth 100000 in
theorem q_294 : (Cond.instanceMethod yX1_beginAnew) ∈ lw_all := List.mem_filter.mpr ⟨List.mem_of_getElem? (i := 294) rfl, rfl⟩
set_option maxRecDepth 100000 in
theorem q_295 : (Cond.selects RX1 yX1_beginAnew yX1_beginAnew) ∈ lw_all := List.mem_filter.mpr ⟨List.mem_of_getElem? (i := 295) rfl, rfl⟩
set_option maxRecDepth 100000 in
theorem q_296 : (Cond.code yX1_beginAnew prog_3_method_3_code (3 : Nat) (Option.none : Option FieldType)) ∈ lw_all := List.mem_filter.mpr ⟨List.mem_of_getElem? (i := 296) rfl, rfl⟩
set_option maxRecDepth 100000 in
theorem q_298 : (Cond.methodLink RL (31 : Nat) yX5_pass) ∈ lw_all := List.mem_filter.mpr ⟨List.mem_of_getElem? (i := 298) rfl, rfl⟩
set_option maxRecDepth 100000 in
theorem q_299 : (Cond.instanceMethod yX5_pass) ∈ lw_all := List.mem_filter.mpr ⟨List.mem_of_getElem? (i := 299) rfl, rfl⟩
set_option maxRecDepth 100000 in
theorem q_300 : (Cond.selects RX5 yX5_pass yX5_pass) ∈ lw_all := List.mem_filter.mpr ⟨List.mem_of_getElem? (i := 300) rfl, rfl⟩
set_option maxRecDepth 100000 in
theorem q_301 : (Cond.code yX5_pass prog_1_method_6_code (5 : Nat) (Option.some FieldType.int)) ∈ lw_all := List.mem_filter.mpr ⟨List.mem_of_getElem? (i := 301) rfl, rfl⟩
set_option maxRecDepth 100000 in
theorem q_302 : (Cond.methodLink RX5 (113 : Nat) yX5_passError) ∈ lw_all := List.mem_filter.mpr ⟨List.mem_of_getElem? (i := 302) rfl, rfl⟩
set_option maxRecDepth 100000 in
theorem q_304 : (Cond.instanceMethod yX5_passError) ∈ lw_all := List.mem_filter.mpr ⟨List.mem_of_getElem? (i := 304) rfl, rfl⟩
set_option maxRecDepth 100000 in
theorem q_305 : (Cond.code yX5_passError prog_1_method_29_code (5 : Nat) (Option.some FieldType.int)) ∈ lw_all := List.mem_filter.mpr ⟨List.mem_of_getElem? (i := 305) rfl, rfl⟩
set_option maxRecDepth 100000 in
theorem q_306 : (Cond.methodLink RX5 (215 : Nat) yX5_isManyPeople) ∈ lw_all := List.mem_filter.mpr ⟨List.mem_of_getElem? (i := 306) rfl, rfl⟩
set_option maxRecDepth 100000 in
theorem q_307 : (Cond.static yX5_isManyPeople) ∈ lw_all := List.mem_filter.mpr ⟨List.mem_of_getElem? (i := 307) rfl, rfl⟩
set_option maxRecDepth 100000 in
theorem q_308 : (Cond.code yX5_isManyPeople prog_1_method_39_code (1 : Nat) (Option.some FieldType.boolean)) ∈ lw_all := List.mem_filter.mpr ⟨List.mem_of_getElem? (i := 308) rfl, rfl⟩
set_option maxRecDepth 100000 in
theorem q_309 : (Cond.methodLink RX5 (218 : Nat) yX4_whyNot) ∈ lw_all := List.mem_filter.mpr ⟨List.mem_of_getElem? (i := 309) rfl, rfl⟩
set_option maxRecDepth 100000 in
theorem q_310 : (Cond.instanceMethod yX4_whyNot) ∈ lw_all := List.mem_filter.mpr ⟨List.mem_of_getElem? (i := 310) rfl, rfl⟩
set_option maxRecDepth 100000 in
theorem q_311 : (Cond.selects RX4 yX4_whyNot yX4_whyNot) ∈ lw_all := List.mem_filter.mpr ⟨List.mem_of_getElem? (i := 311) rfl, rfl⟩
set_option maxRecDepth 100000 in
theorem q_312 : (Cond.code yX4_whyNot prog_6_method_9_code (4 : Nat) (Option.some FieldType.int)) ∈ lw_all := List.mem_filter.mpr ⟨List.mem_of_getElem? (i := 312) rfl, rfl⟩
set_option maxRecDepth 100000 in
theorem q_313 : (Cond.methodLink RX4 (70 : Nat) yX4_isUnderRepair) ∈ lw_all := List.mem_filter.mpr ⟨List.mem_of_getElem? (i := 313) rfl, rfl⟩
set_option maxRecDepth 100000 in
theorem q_314 : (Cond.instanceMethod yX4_isUnderRepair) ∈ lw_all := List.mem_filter.mpr ⟨List.mem_of_getElem? (i := 314) rfl, rfl⟩
set_option maxRecDepth 100000 in
theorem q_315 : (Cond.selects RX4 yX4_isUnderRepair yX4_isUnderRepair) ∈ lw_all := List.mem_filter.mpr ⟨List.mem_of_getElem? (i := 315) rfl, rfl⟩
set_option maxRecDepth 100000 in
theorem q_316 : (Cond.code yX4_isUnderRepair prog_6_method_8_code (2 : Nat) (Option.some FieldType.boolean)) ∈ lw_all := List.mem_filter.mpr ⟨List.mem_of_getElem? (i := 316) rfl, rfl⟩
set_option maxRecDepth 100000 in
theorem q_318 : (Cond.methodLink RX4 (74 : Nat) yX4_goes) ∈ lw_all := List.mem_filter.mpr ⟨List.mem_of_getElem? (i := 318) rfl, rfl⟩
set_option maxRecDepth 100000 in
theorem q_319 : (Cond.instanceMethod yX4_goes) ∈ lw_all := List.mem_filter.mpr ⟨List.mem_of_getElem? (i := 319) rfl, rfl⟩
set_option maxRecDepth 100000 in
theorem q_320 : (Cond.selects RX4 yX4_goes yX4_goes) ∈ lw_all := List.mem_filter.mpr ⟨List.mem_of_getElem? (i := 320) rfl, rfl⟩
set_option maxRecDepth 100000 in
theorem q_321 : (Cond.code yX4_goes prog_6_method_7_code (4 : Nat) (Option.some FieldType.boolean)) ∈ lw_all := List.mem_filter.mpr ⟨List.mem_of_getElem? (i := 321) rfl, rfl⟩
set_option maxRecDepth 100000 in
theorem q_322 : (Cond.methodLink RX4 (66 : Nat) yX4_hallBehind) ∈ lw_all := List.mem_filter.mpr ⟨List.mem_of_getElem? (i := 322) rfl, rfl⟩
set_option maxRecDepth 100000 in
theorem q_323 : (Cond.instanceMethod yX4_hallBehind) ∈ lw_all := List.mem_filter.mpr ⟨List.mem_of_getElem? (i := 323) rfl, rfl⟩
set_option maxRecDepth 100000 in
theorem q_324 : (Cond.selects RX4 yX4_hallBehind yX4_hallBehind) ∈ lw_all := List.mem_filter.mpr ⟨List.mem_of_getElem? (i := 324) rfl, rfl⟩
set_option maxRecDepth 100000 in
theorem q_325 : (Cond.code yX4_hallBehind prog_6_method_5_code (3 : Nat) (Option.some FieldType.int)) ∈ lw_all := List.mem_filter.mpr ⟨List.mem_of_getElem? (i := 325) rfl, rfl⟩
set_option maxRecDepth 100000 in
theorem q_326 : (Cond.methodLink RX4 (78 : Nat) yX4_readyToLeave) ∈ lw_all := List.mem_filter.mpr ⟨List.mem_of_getElem? (i := 326) rfl, rfl⟩
set_option maxRecDepth 100000 in
theorem q_328 : (Cond.instanceMethod yX4_readyToLeave) ∈ lw_all := List.mem_filter.mpr ⟨List.mem_of_getElem? (i := 328) rfl, rfl⟩
set_option maxRecDepth 100000 in
theorem q_329 : (Cond.code yX4_readyToLeave prog_6_method_11_code (2 : Nat) (Option.some FieldType.int)) ∈ lw_all := List.mem_filter.mpr ⟨List.mem_of_getElem? (i := 329) rfl, rfl⟩
set_option maxRecDepth 100000 in
theorem q_330 : (Cond.methodLink RX4 (88 : Nat) (⟨"java/lang/Math", "min", "(II)I"⟩ : MethodName)) ∈ lw_all := List.mem_filter.mpr ⟨List.mem_of_getElem? (i := 330) rfl, rfl⟩
set_option maxRecDepth 100000 in
theorem q_331 : (Cond.static (⟨"java/lang/Math", "min", "(II)I"⟩ : MethodName)) ∈ lw_all := List.mem_filter.mpr ⟨List.mem_of_getElem? (i := 331) rfl, rfl⟩
set_option maxRecDepth 100000 in
theorem q_332 : (Cond.code (⟨"java/lang/Math", "min", "(II)I"⟩ : MethodName) prog_9_method_69_code (2 : Nat) (Option.some FieldType.int)) ∈ lw_all := List.mem_filter.mpr ⟨List.mem_of_getElem? (i := 332) rfl, rfl⟩
set_option maxRecDepth 100000 in
theorem q_333 : (Cond.methodLink RX4 (82 : Nat) yX4_hallAhead) ∈ lw_all := List.mem_filter.mpr ⟨List.mem_of_getElem? (i := 333) rfl, rfl⟩
set_option maxRecDepth 100000 in
theorem q_334 : (Cond.instanceMethod yX4_hallAhead) ∈ lw_all := List.mem_filter.mpr ⟨List.mem_of_getElem? (i := 334) rfl, rfl⟩
set_option maxRecDepth 100000 in
theorem q_335 : (Cond.selects RX4 yX4_hallAhead yX4_hallAhead) ∈ lw_all := List.mem_filter.mpr ⟨List.mem_of_getElem? (i := 335) rfl, rfl⟩
set_option maxRecDepth 100000 in
theorem q_336 : (Cond.code yX4_hallAhead prog_6_method_6_code (3 : Nat) (Option.some FieldType.int)) ∈ lw_all := List.mem_filter.mpr ⟨List.mem_of_getElem? (i := 336) rfl, rfl⟩
set_option maxRecDepth 100000 in
theorem q_337 : (Cond.methodLink RX4 (85 : Nat) yX4_roomLeft) ∈ lw_all := List.mem_filter.mpr ⟨List.mem_of_getElem? (i := 337) rfl, rfl⟩
set_option maxRecDepth 100000 in
theorem q_339 : (Cond.instanceMethod yX4_roomLeft) ∈ lw_all := List.mem_filter.mpr ⟨List.mem_of_getElem? (i := 339) rfl, rfl⟩
set_option maxRecDepth 100000 in
theorem q_340 : (Cond.code yX4_roomLeft prog_6_method_12_code (2 : Nat) (Option.some FieldType.int)) ∈ lw_all := List.mem_filter.mpr ⟨List.mem_of_getElem? (i := 340) rfl, rfl⟩
set_option maxRecDepth 100000 in
theorem q_341 : (Cond.methodLink RX5 (117 : Nat) yX4_letThrough) ∈ lw_all := List.mem_filter.mpr ⟨List.mem_of_getElem? (i := 341) rfl, rfl⟩
set_option maxRecDepth 100000 in
theorem q_342 : (Cond.instanceMethod yX4_letThrough) ∈ lw_all := List.mem_filter.mpr ⟨List.mem_of_getElem? (i := 342) rfl, rfl⟩
set_option maxRecDepth 100000 in
theorem q_343 : (Cond.selects RX4 yX4_letThrough yX4_letThrough) ∈ lw_all := List.mem_filter.mpr ⟨List.mem_of_getElem? (i := 343) rfl, rfl⟩
set_option maxRecDepth 100000 in
theorem q_344 : (Cond.code yX4_letThrough prog_6_method_13_code (6 : Nat) (Option.none : Option FieldType)) ∈ lw_all := List.mem_filter.mpr ⟨List.mem_of_getElem? (i := 344) rfl, rfl⟩
set_option maxRecDepth 100000 in
theorem q_345 : (Cond.methodLink RX4 (94 : Nat) yX4_moveTo) ∈ lw_all := List.mem_filter.mpr ⟨List.mem_of_getElem? (i := 345) rfl, rfl⟩
set_option maxRecDepth 100000 in
theorem q_347 : (Cond.instanceMethod yX4_moveTo) ∈ lw_all := List.mem_filter.mpr ⟨List.mem_of_getElem? (i := 347) rfl, rfl⟩
set_option maxRecDepth 100000 in
theorem q_348 : (Cond.code yX4_moveTo prog_6_method_14_code (3 : Nat) (Option.none : Option FieldType)) ∈ lw_all := List.mem_filter.mpr ⟨List.mem_of_getElem? (i := 348) rfl, rfl⟩
set_option maxRecDepth 100000 in
theorem q_350 : (Cond.static yX5_add) ∈ lw_all := List.mem_filter.mpr ⟨List.mem_of_getElem? (i := 350) rfl, rfl⟩
set_option maxRecDepth 100000 in
theorem q_351 : (Cond.code yX5_add prog_1_method_44_code (3 : Nat) (Option.none : Option FieldType)) ∈ lw_all := List.mem_filter.mpr ⟨List.mem_of_getElem? (i := 351) rfl, rfl⟩
set_option maxRecDepth 100000 in
theorem q_353 : (Cond.methodLink RX4 (101 : Nat) yX1_seePeople) ∈ lw_all := List.mem_filter.mpr ⟨List.mem_of_getElem? (i := 353) rfl, rfl⟩
set_option maxRecDepth 100000 in
theorem q_354 : (Cond.instanceMethod yX1_seePeople) ∈ lw_all := List.mem_filter.mpr ⟨List.mem_of_getElem? (i := 354) rfl, rfl⟩
set_option maxRecDepth 100000 in
theorem q_355 : (Cond.selects RX1 yX1_seePeople yX1_seePeople) ∈ lw_all := List.mem_filter.mpr ⟨List.mem_of_getElem? (i := 355) rfl, rfl⟩
set_option maxRecDepth 100000 in
theorem q_356 : (Cond.code yX1_seePeople prog_3_method_4_code (6 : Nat) (Option.none : Option FieldType)) ∈ lw_all := List.mem_filter.mpr ⟨List.mem_of_getElem? (i := 356) rfl, rfl⟩
set_option maxRecDepth 100000 in
theorem q_359 : (Cond.methodLink RX5 (121 : Nat) yX1_gapOf) ∈ lw_all := List.mem_filter.mpr ⟨List.mem_of_getElem? (i := 359) rfl, rfl⟩
set_option maxRecDepth 100000 in
theorem q_360 : (Cond.instanceMethod yX1_gapOf) ∈ lw_all := List.mem_filter.mpr ⟨List.mem_of_getElem? (i := 360) rfl, rfl⟩
set_option maxRecDepth 100000 in
theorem q_361 : (Cond.selects RX1 yX1_gapOf yX1_gapOf) ∈ lw_all := List.mem_filter.mpr ⟨List.mem_of_getElem? (i := 361) rfl, rfl⟩
set_option maxRecDepth 100000 in
theorem q_362 : (Cond.code yX1_gapOf prog_3_method_7_code (4 : Nat) (Option.some FieldType.int)) ∈ lw_all := List.mem_filter.mpr ⟨List.mem_of_getElem? (i := 362) rfl, rfl⟩
set_option maxRecDepth 100000 in
theorem q_363 : (Cond.methodLink RX1 (47 : Nat) yX1_countOf) ∈ lw_all := List.mem_filter.mpr ⟨List.mem_of_getElem? (i := 363) rfl, rfl⟩
set_option maxRecDepth 100000 in
theorem q_364 : (Cond.instanceMethod yX1_countOf) ∈ lw_all := List.mem_filter.mpr ⟨List.mem_of_getElem? (i := 364) rfl, rfl⟩
set_option maxRecDepth 100000 in
theorem q_365 : (Cond.selects RX1 yX1_countOf yX1_countOf) ∈ lw_all := List.mem_filter.mpr ⟨List.mem_of_getElem? (i := 365) rfl, rfl⟩
set_option maxRecDepth 100000 in
theorem q_366 : (Cond.code yX1_countOf prog_3_method_6_code (3 : Nat) (Option.some FieldType.int)) ∈ lw_all := List.mem_filter.mpr ⟨List.mem_of_getElem? (i := 366) rfl, rfl⟩
set_option maxRecDepth 100000 in
theorem q_368 : (Cond.methodLink RX1 (50 : Nat) (⟨"java/lang/Math", "abs", "(I)I"⟩ : MethodName)) ∈ lw_all := List.mem_filter.mpr ⟨List.mem_of_getElem? (i := 368) rfl, rfl⟩
set_option maxRecDepth 100000 in
theorem q_369 : (Cond.static (⟨"java/lang/Math", "abs", "(I)I"⟩ : MethodName)) ∈ lw_all := List.mem_filter.mpr ⟨List.mem_of_getElem? (i := 369) rfl, rfl⟩
set_option maxRecDepth 100000 in
theorem q_370 : (Cond.code (⟨"java/lang/Math", "abs", "(I)I"⟩ : MethodName) prog_9_method_59_code (1 : Nat) (Option.some FieldType.int)) ∈ lw_all := List.mem_filter.mpr ⟨List.mem_of_getElem? (i := 370) rfl, rfl⟩
set_option maxRecDepth 100000 in
theorem q_371 : (Cond.methodLink RL (36 : Nat) yX5_audit) ∈ lw_all := List.mem_filter.mpr ⟨List.mem_of_getElem? (i := 371) rfl, rfl⟩
set_option maxRecDepth 100000 in
theorem q_372 : (Cond.instanceMethod yX5_audit) ∈ lw_all := List.mem_filter.mpr ⟨List.mem_of_getElem? (i := 372) rfl, rfl⟩
set_option maxRecDepth 100000 in
theorem q_373 : (Cond.selects RX5 yX5_audit yX5_audit) ∈ lw_all := List.mem_filter.mpr ⟨List.mem_of_getElem? (i := 373) rfl, rfl⟩
set_option maxRecDepth 100000 in
theorem q_374 : (Cond.code yX5_audit prog_1_method_7_code (3 : Nat) (Option.some FieldType.int)) ∈ lw_all := List.mem_filter.mpr ⟨List.mem_of_getElem? (i := 374) rfl, rfl⟩
set_option maxRecDepth 100000 in
theorem q_375 : (Cond.methodLink RX5 (125 : Nat) yX1_makeAgree) ∈ lw_all := List.mem_filter.mpr ⟨List.mem_of_getElem? (i := 375) rfl, rfl⟩
set_option maxRecDepth 100000 in
theorem q_376 : (Cond.instanceMethod yX1_makeAgree) ∈ lw_all := List.mem_filter.mpr ⟨List.mem_of_getElem? (i := 376) rfl, rfl⟩
set_option maxRecDepth 100000 in
theorem q_377 : (Cond.selects RX1 yX1_makeAgree yX1_makeAgree) ∈ lw_all := List.mem_filter.mpr ⟨List.mem_of_getElem? (i := 377) rfl, rfl⟩
set_option maxRecDepth 100000 in
theorem q_378 : (Cond.code yX1_makeAgree prog_3_method_8_code (2 : Nat) (Option.none : Option FieldType)) ∈ lw_all := List.mem_filter.mpr ⟨List.mem_of_getElem? (i := 378) rfl, rfl⟩
set_option maxRecDepth 100000 in
theorem q_379 : (Cond.methodLink RX1 (56 : Nat) yX1_makePairAgree) ∈ lw_all := List.mem_filter.mpr ⟨List.mem_of_getElem? (i := 379) rfl, rfl⟩
set_option maxRecDepth 100000 in
theorem q_381 : (Cond.instanceMethod yX1_makePairAgree) ∈ lw_all := List.mem_filter.mpr ⟨List.mem_of_getElem? (i := 381) rfl, rfl⟩
set_option maxRecDepth 100000 in
theorem q_382 : (Cond.code yX1_makePairAgree prog_3_method_9_code (5 : Nat) (Option.none : Option FieldType)) ∈ lw_all := List.mem_filter.mpr ⟨List.mem_of_getElem? (i := 382) rfl, rfl⟩
set_option maxRecDepth 100000 in
theorem q_383 : (Cond.methodLink RX1 (60 : Nat) (⟨"java/lang/Math", "max", "(II)I"⟩ : MethodName)) ∈ lw_all := List.mem_filter.mpr ⟨List.mem_of_getElem? (i := 383) rfl, rfl⟩
set_option maxRecDepth 100000 in
theorem q_384 : (Cond.static (⟨"java/lang/Math", "max", "(II)I"⟩ : MethodName)) ∈ lw_all := List.mem_filter.mpr ⟨List.mem_of_getElem? (i := 384) rfl, rfl⟩
set_option maxRecDepth 100000 in
theorem q_385 : (Cond.code (⟨"java/lang/Math", "max", "(II)I"⟩ : MethodName) prog_9_method_65_code (2 : Nat) (Option.some FieldType.int)) ∈ lw_all := List.mem_filter.mpr ⟨List.mem_of_getElem? (i := 385) rfl, rfl⟩
set_option maxRecDepth 100000 in
theorem q_386 : (Cond.methodLink RL (41 : Nat) yX5_repair) ∈ lw_all := List.mem_filter.mpr ⟨List.mem_of_getElem? (i := 386) rfl, rfl⟩
set_option maxRecDepth 100000 in
theorem q_387 : (Cond.instanceMethod yX5_repair) ∈ lw_all := List.mem_filter.mpr ⟨List.mem_of_getElem? (i := 387) rfl, rfl⟩
set_option maxRecDepth 100000 in
theorem q_388 : (Cond.selects RX5 yX5_repair yX5_repair) ∈ lw_all := List.mem_filter.mpr ⟨List.mem_of_getElem? (i := 388) rfl, rfl⟩
set_option maxRecDepth 100000 in
theorem q_389 : (Cond.code yX5_repair prog_1_method_8_code (3 : Nat) (Option.some FieldType.int)) ∈ lw_all := List.mem_filter.mpr ⟨List.mem_of_getElem? (i := 389) rfl, rfl⟩
set_option maxRecDepth 100000 in
theorem q_390 : (Cond.methodLink RX5 (129 : Nat) yX5_repairError) ∈ lw_all := List.mem_filter.mpr ⟨List.mem_of_getElem? (i := 390) rfl, rfl⟩
set_option maxRecDepth 100000 in
theorem q_392 : (Cond.instanceMethod yX5_repairError) ∈ lw_all := List.mem_filter.mpr ⟨List.mem_of_getElem? (i := 392) rfl, rfl⟩
set_option maxRecDepth 100000 in
theorem q_393 : (Cond.code yX5_repairError prog_1_method_30_code (2 : Nat) (Option.some FieldType.int)) ∈ lw_all := List.mem_filter.mpr ⟨List.mem_of_getElem? (i := 393) rfl, rfl⟩
set_option maxRecDepth 100000 in
theorem q_394 : (Cond.methodLink RX5 (132 : Nat) yX4_beginRepair) ∈ lw_all := List.mem_filter.mpr ⟨List.mem_of_getElem? (i := 394) rfl, rfl⟩
set_option maxRecDepth 100000 in
theorem q_395 : (Cond.instanceMethod yX4_beginRepair) ∈ lw_all := List.mem_filter.mpr ⟨List.mem_of_getElem? (i := 395) rfl, rfl⟩
set_option maxRecDepth 100000 in
theorem q_396 : (Cond.selects RX4 yX4_beginRepair yX4_beginRepair) ∈ lw_all := List.mem_filter.mpr ⟨List.mem_of_getElem? (i := 396) rfl, rfl⟩
set_option maxRecDepth 100000 in
theorem q_397 : (Cond.code yX4_beginRepair prog_6_method_15_code (2 : Nat) (Option.none : Option FieldType)) ∈ lw_all := List.mem_filter.mpr ⟨List.mem_of_getElem? (i := 397) rfl, rfl⟩
set_option maxRecDepth 100000 in
theorem q_398 : (Cond.methodLink RL (45 : Nat) yX5_hours) ∈ lw_all := List.mem_filter.mpr ⟨List.mem_of_getElem? (i := 398) rfl, rfl⟩
set_option maxRecDepth 100000 in
theorem q_399 : (Cond.instanceMethod yX5_hours) ∈ lw_all := List.mem_filter.mpr ⟨List.mem_of_getElem? (i := 399) rfl, rfl⟩
set_option maxRecDepth 100000 in
theorem q_400 : (Cond.selects RX5 yX5_hours yX5_hours) ∈ lw_all := List.mem_filter.mpr ⟨List.mem_of_getElem? (i := 400) rfl, rfl⟩
set_option maxRecDepth 100000 in
theorem q_401 : (Cond.code yX5_hours prog_1_method_9_code (2 : Nat) (Option.some FieldType.int)) ∈ lw_all := List.mem_filter.mpr ⟨List.mem_of_getElem? (i := 401) rfl, rfl⟩
set_option maxRecDepth 100000 in
theorem q_402 : (Cond.methodLink RX5 (141 : Nat) yX5_isManyHours) ∈ lw_all := List.mem_filter.mpr ⟨List.mem_of_getElem? (i := 402) rfl, rfl⟩
set_option maxRecDepth 100000 in
theorem q_403 : (Cond.static yX5_isManyHours) ∈ lw_all := List.mem_filter.mpr ⟨List.mem_of_getElem? (i := 403) rfl, rfl⟩
set_option maxRecDepth 100000 in
theorem q_404 : (Cond.code yX5_isManyHours prog_1_method_40_code (1 : Nat) (Option.some FieldType.boolean)) ∈ lw_all := List.mem_filter.mpr ⟨List.mem_of_getElem? (i := 404) rfl, rfl⟩
set_option maxRecDepth 100000 in
theorem q_405 : (Cond.methodLink RX5 (144 : Nat) yX4_letHoursPass) ∈ lw_all := List.mem_filter.mpr ⟨List.mem_of_getElem? (i := 405) rfl, rfl⟩
set_option maxRecDepth 100000 in
theorem q_406 : (Cond.instanceMethod yX4_letHoursPass) ∈ lw_all := List.mem_filter.mpr ⟨List.mem_of_getElem? (i := 406) rfl, rfl⟩
set_option maxRecDepth 100000 in
theorem q_407 : (Cond.selects RX4 yX4_letHoursPass yX4_letHoursPass) ∈ lw_all := List.mem_filter.mpr ⟨List.mem_of_getElem? (i := 407) rfl, rfl⟩
set_option maxRecDepth 100000 in
theorem q_408 : (Cond.code yX4_letHoursPass prog_6_method_16_code (4 : Nat) (Option.some FieldType.int)) ∈ lw_all := List.mem_filter.mpr ⟨List.mem_of_getElem? (i := 408) rfl, rfl⟩
set_option maxRecDepth 100000 in
theorem q_409 : (Cond.methodLink RX4 (107 : Nat) yX4_letHourPass) ∈ lw_all := List.mem_filter.mpr ⟨List.mem_of_getElem? (i := 409) rfl, rfl⟩
set_option maxRecDepth 100000 in
theorem q_410 : (Cond.instanceMethod yX4_letHourPass) ∈ lw_all := List.mem_filter.mpr ⟨List.mem_of_getElem? (i := 410) rfl, rfl⟩
set_option maxRecDepth 100000 in
theorem q_411 : (Cond.selects RX4 yX4_letHourPass yX4_letHourPass) ∈ lw_all := List.mem_filter.mpr ⟨List.mem_of_getElem? (i := 411) rfl, rfl⟩
set_option maxRecDepth 100000 in
theorem q_412 : (Cond.code yX4_letHourPass prog_6_method_17_code (3 : Nat) (Option.some FieldType.int)) ∈ lw_all := List.mem_filter.mpr ⟨List.mem_of_getElem? (i := 412) rfl, rfl⟩
set_option maxRecDepth 100000 in
theorem q_413 : (Cond.methodLink RX4 (111 : Nat) yX1_endSlips) ∈ lw_all := List.mem_filter.mpr ⟨List.mem_of_getElem? (i := 413) rfl, rfl⟩
set_option maxRecDepth 100000 in
theorem q_414 : (Cond.instanceMethod yX1_endSlips) ∈ lw_all := List.mem_filter.mpr ⟨List.mem_of_getElem? (i := 414) rfl, rfl⟩
set_option maxRecDepth 100000 in
theorem q_415 : (Cond.selects RX1 yX1_endSlips yX1_endSlips) ∈ lw_all := List.mem_filter.mpr ⟨List.mem_of_getElem? (i := 415) rfl, rfl⟩
set_option maxRecDepth 100000 in
theorem q_416 : (Cond.code yX1_endSlips prog_3_method_5_code (3 : Nat) (Option.none : Option FieldType)) ∈ lw_all := List.mem_filter.mpr ⟨List.mem_of_getElem? (i := 416) rfl, rfl⟩
set_option maxRecDepth 100000 in
theorem q_417 : (Cond.methodLink RX1 (43 : Nat) yX1_beginAnew) ∈ lw_all := List.mem_filter.mpr ⟨List.mem_of_getElem? (i := 417) rfl, rfl⟩
set_option maxRecDepth 100000 in
theorem q_418 : (Cond.methodLink RL (49 : Nat) yX5_close) ∈ lw_all := List.mem_filter.mpr ⟨List.mem_of_getElem? (i := 418) rfl, rfl⟩
set_option maxRecDepth 100000 in
theorem q_419 : (Cond.instanceMethod yX5_close) ∈ lw_all := List.mem_filter.mpr ⟨List.mem_of_getElem? (i := 419) rfl, rfl⟩
set_option maxRecDepth 100000 in
theorem q_420 : (Cond.selects RX5 yX5_close yX5_close) ∈ lw_all := List.mem_filter.mpr ⟨List.mem_of_getElem? (i := 420) rfl, rfl⟩
set_option maxRecDepth 100000 in
theorem q_421 : (Cond.code yX5_close prog_1_method_10_code (4 : Nat) (Option.some FieldType.int)) ∈ lw_all := List.mem_filter.mpr ⟨List.mem_of_getElem? (i := 421) rfl, rfl⟩
set_option maxRecDepth 100000 in
theorem q_422 : (Cond.methodLink RX5 (147 : Nat) yX0_closeForAnHour) ∈ lw_all := List.mem_filter.mpr ⟨List.mem_of_getElem? (i := 422) rfl, rfl⟩
set_option maxRecDepth 100000 in
theorem q_423 : (Cond.instanceMethod yX0_closeForAnHour) ∈ lw_all := List.mem_filter.mpr ⟨List.mem_of_getElem? (i := 423) rfl, rfl⟩
set_option maxRecDepth 100000 in
theorem q_424 : (Cond.selects RX0 yX0_closeForAnHour yX0_closeForAnHour) ∈ lw_all := List.mem_filter.mpr ⟨List.mem_of_getElem? (i := 424) rfl, rfl⟩
set_option maxRecDepth 100000 in
theorem q_425 : (Cond.code yX0_closeForAnHour prog_2_method_3_code (4 : Nat) (Option.some FieldType.int)) ∈ lw_all := List.mem_filter.mpr ⟨List.mem_of_getElem? (i := 425) rfl, rfl⟩
set_option maxRecDepth 100000 in
theorem q_426 : (Cond.methodLink RX0 (15 : Nat) yX0_measureDistances) ∈ lw_all := List.mem_filter.mpr ⟨List.mem_of_getElem? (i := 426) rfl, rfl⟩
set_option maxRecDepth 100000 in
theorem q_428 : (Cond.instanceMethod yX0_measureDistances) ∈ lw_all := List.mem_filter.mpr ⟨List.mem_of_getElem? (i := 428) rfl, rfl⟩
set_option maxRecDepth 100000 in
theorem q_429 : (Cond.code yX0_measureDistances prog_2_method_5_code (5 : Nat) (Option.none : Option FieldType)) ∈ lw_all := List.mem_filter.mpr ⟨List.mem_of_getElem? (i := 429) rfl, rfl⟩
set_option maxRecDepth 100000 in
theorem q_431 : (Cond.methodLink RX0 (65 : Nat) yX0_comeNearer) ∈ lw_all := List.mem_filter.mpr ⟨List.mem_of_getElem? (i := 431) rfl, rfl⟩
set_option maxRecDepth 100000 in
theorem q_433 : (Cond.instanceMethod yX0_comeNearer) ∈ lw_all := List.mem_filter.mpr ⟨List.mem_of_getElem? (i := 433) rfl, rfl⟩
set_option maxRecDepth 100000 in
theorem q_434 : (Cond.code yX0_comeNearer prog_2_method_6_code (6 : Nat) (Option.some FieldType.boolean)) ∈ lw_all := List.mem_filter.mpr ⟨List.mem_of_getElem? (i := 434) rfl, rfl⟩
set_option maxRecDepth 100000 in
theorem q_435 : (Cond.methodLink RX0 (69 : Nat) yX4_isUnderRepair) ∈ lw_all := List.mem_filter.mpr ⟨List.mem_of_getElem? (i := 435) rfl, rfl⟩
set_option maxRecDepth 100000 in
theorem q_436 : (Cond.methodLink RX0 (73 : Nat) yX4_goes) ∈ lw_all := List.mem_filter.mpr ⟨List.mem_of_getElem? (i := 436) rfl, rfl⟩
set_option maxRecDepth 100000 in
theorem q_437 : (Cond.methodLink RX0 (38 : Nat) yX4_hallBehind) ∈ lw_all := List.mem_filter.mpr ⟨List.mem_of_getElem? (i := 437) rfl, rfl⟩
set_option maxRecDepth 100000 in
theorem q_438 : (Cond.methodLink RX0 (42 : Nat) yX4_hallAhead) ∈ lw_all := List.mem_filter.mpr ⟨List.mem_of_getElem? (i := 438) rfl, rfl⟩
set_option maxRecDepth 100000 in
theorem q_440 : (Cond.methodLink RX0 (30 : Nat) yX0_leaveThrough) ∈ lw_all := List.mem_filter.mpr ⟨List.mem_of_getElem? (i := 440) rfl, rfl⟩
set_option maxRecDepth 100000 in
theorem q_442 : (Cond.instanceMethod yX0_leaveThrough) ∈ lw_all := List.mem_filter.mpr ⟨List.mem_of_getElem? (i := 442) rfl, rfl⟩
set_option maxRecDepth 100000 in
theorem q_443 : (Cond.code yX0_leaveThrough prog_2_method_4_code (7 : Nat) (Option.some FieldType.int)) ∈ lw_all := List.mem_filter.mpr ⟨List.mem_of_getElem? (i := 443) rfl, rfl⟩
set_option maxRecDepth 100000 in
theorem q_444 : (Cond.methodLink RX0 (48 : Nat) yX4_mostThrough) ∈ lw_all := List.mem_filter.mpr ⟨List.mem_of_getElem? (i := 444) rfl, rfl⟩
set_option maxRecDepth 100000 in
theorem q_445 : (Cond.instanceMethod yX4_mostThrough) ∈ lw_all := List.mem_filter.mpr ⟨List.mem_of_getElem? (i := 445) rfl, rfl⟩
set_option maxRecDepth 100000 in
theorem q_446 : (Cond.selects RX4 yX4_mostThrough yX4_mostThrough) ∈ lw_all := List.mem_filter.mpr ⟨List.mem_of_getElem? (i := 446) rfl, rfl⟩
set_option maxRecDepth 100000 in
theorem q_447 : (Cond.code yX4_mostThrough prog_6_method_10_code (3 : Nat) (Option.some FieldType.int)) ∈ lw_all := List.mem_filter.mpr ⟨List.mem_of_getElem? (i := 447) rfl, rfl⟩
set_option maxRecDepth 100000 in
theorem q_448 : (Cond.methodLink RX0 (51 : Nat) (⟨"java/lang/Math", "min", "(II)I"⟩ : MethodName)) ∈ lw_all := List.mem_filter.mpr ⟨List.mem_of_getElem? (i := 448) rfl, rfl⟩
set_option maxRecDepth 100000 in
theorem q_449 : (Cond.methodLink RX0 (57 : Nat) yX4_letThrough) ∈ lw_all := List.mem_filter.mpr ⟨List.mem_of_getElem? (i := 449) rfl, rfl⟩
set_option maxRecDepth 100000 in
theorem q_450 : (Cond.methodLink RX0 (34 : Nat) yX4_letHourPass) ∈ lw_all := List.mem_filter.mpr ⟨List.mem_of_getElem? (i := 450) rfl, rfl⟩
set_option maxRecDepth 100000 in
theorem q_451 : (Cond.methodLink RX5 (151 : Nat) yX4_peopleOfAllHalls) ∈ lw_all := List.mem_filter.mpr ⟨List.mem_of_getElem? (i := 451) rfl, rfl⟩
set_option maxRecDepth 100000 in
theorem q_452 : (Cond.instanceMethod yX4_peopleOfAllHalls) ∈ lw_all := List.mem_filter.mpr ⟨List.mem_of_getElem? (i := 452) rfl, rfl⟩
set_option maxRecDepth 100000 in
theorem q_453 : (Cond.selects RX4 yX4_peopleOfAllHalls yX4_peopleOfAllHalls) ∈ lw_all := List.mem_filter.mpr ⟨List.mem_of_getElem? (i := 453) rfl, rfl⟩
set_option maxRecDepth 100000 in
theorem q_454 : (Cond.code yX4_peopleOfAllHalls prog_6_method_24_code (1 : Nat) (Option.some FieldType.int)) ∈ lw_all := List.mem_filter.mpr ⟨List.mem_of_getElem? (i := 454) rfl, rfl⟩
set_option maxRecDepth 100000 in
theorem q_455 : (Cond.methodLink RX4 (130 : Nat) yX4_sumOfAllHalls) ∈ lw_all := List.mem_filter.mpr ⟨List.mem_of_getElem? (i := 455) rfl, rfl⟩
set_option maxRecDepth 100000 in
theorem q_456 : (Cond.static yX4_sumOfAllHalls) ∈ lw_all := List.mem_filter.mpr ⟨List.mem_of_getElem? (i := 456) rfl, rfl⟩
set_option maxRecDepth 100000 in
theorem q_457 : (Cond.code yX4_sumOfAllHalls prog_6_method_26_code (3 : Nat) (Option.some FieldType.int)) ∈ lw_all := List.mem_filter.mpr ⟨List.mem_of_getElem? (i := 457) rfl, rfl⟩
set_option maxRecDepth 100000 in
theorem q_458 : (Cond.methodLink RL (53 : Nat) yX5_set) ∈ lw_all := List.mem_filter.mpr ⟨List.mem_of_getElem? (i := 458) rfl, rfl⟩
set_option maxRecDepth 100000 in
theorem q_459 : (Cond.instanceMethod yX5_set) ∈ lw_all := List.mem_filter.mpr ⟨List.mem_of_getElem? (i := 459) rfl, rfl⟩
set_option maxRecDepth 100000 in
theorem q_460 : (Cond.selects RX5 yX5_set yX5_set) ∈ lw_all := List.mem_filter.mpr ⟨List.mem_of_getElem? (i := 460) rfl, rfl⟩
set_option maxRecDepth 100000 in
theorem q_461 : (Cond.code yX5_set prog_1_method_11_code (4 : Nat) (Option.some FieldType.int)) ∈ lw_all := List.mem_filter.mpr ⟨List.mem_of_getElem? (i := 461) rfl, rfl⟩
set_option maxRecDepth 100000 in
theorem q_462 : (Cond.methodLink RL (57 : Nat) yX5_append) ∈ lw_all := List.mem_filter.mpr ⟨List.mem_of_getElem? (i := 462) rfl, rfl⟩
set_option maxRecDepth 100000 in
theorem q_463 : (Cond.instanceMethod yX5_append) ∈ lw_all := List.mem_filter.mpr ⟨List.mem_of_getElem? (i := 463) rfl, rfl⟩
set_option maxRecDepth 100000 in
theorem q_464 : (Cond.selects RX5 yX5_append yX5_append) ∈ lw_all := List.mem_filter.mpr ⟨List.mem_of_getElem? (i := 464) rfl, rfl⟩
set_option maxRecDepth 100000 in
theorem q_465 : (Cond.code yX5_append prog_1_method_12_code (2 : Nat) (Option.some FieldType.int)) ∈ lw_all := List.mem_filter.mpr ⟨List.mem_of_getElem? (i := 465) rfl, rfl⟩
set_option maxRecDepth 100000 in
theorem q_466 : (Cond.methodLink RX5 (164 : Nat) yX3_addCharacter) ∈ lw_all := List.mem_filter.mpr ⟨List.mem_of_getElem? (i := 466) rfl, rfl⟩
set_option maxRecDepth 100000 in
theorem q_467 : (Cond.instanceMethod yX3_addCharacter) ∈ lw_all := List.mem_filter.mpr ⟨List.mem_of_getElem? (i := 467) rfl, rfl⟩
set_option maxRecDepth 100000 in
theorem q_468 : (Cond.selects RX3 yX3_addCharacter yX3_addCharacter) ∈ lw_all := List.mem_filter.mpr ⟨List.mem_of_getElem? (i := 468) rfl, rfl⟩
set_option maxRecDepth 100000 in
theorem q_469 : (Cond.code yX3_addCharacter prog_5_method_2_code (2 : Nat) (Option.none : Option FieldType)) ∈ lw_all := List.mem_filter.mpr ⟨List.mem_of_getElem? (i := 469) rfl, rfl⟩
set_option maxRecDepth 100000 in
theorem q_471 : (Cond.methodLink RL (61 : Nat) yX5_clearText) ∈ lw_all := List.mem_filter.mpr ⟨List.mem_of_getElem? (i := 471) rfl, rfl⟩
set_option maxRecDepth 100000 in
theorem q_472 : (Cond.instanceMethod yX5_clearText) ∈ lw_all := List.mem_filter.mpr ⟨List.mem_of_getElem? (i := 472) rfl, rfl⟩
set_option maxRecDepth 100000 in
theorem q_473 : (Cond.selects RX5 yX5_clearText yX5_clearText) ∈ lw_all := List.mem_filter.mpr ⟨List.mem_of_getElem? (i := 473) rfl, rfl⟩
set_option maxRecDepth 100000 in
theorem q_474 : (Cond.code yX5_clearText prog_1_method_13_code (2 : Nat) (Option.some FieldType.int)) ∈ lw_all := List.mem_filter.mpr ⟨List.mem_of_getElem? (i := 474) rfl, rfl⟩
set_option maxRecDepth 100000 in
theorem q_475 : (Cond.methodLink RL (66 : Nat) yX5_fault) ∈ lw_all := List.mem_filter.mpr ⟨List.mem_of_getElem? (i := 475) rfl, rfl⟩
set_option maxRecDepth 100000 in
theorem q_476 : (Cond.instanceMethod yX5_fault) ∈ lw_all := List.mem_filter.mpr ⟨List.mem_of_getElem? (i := 476) rfl, rfl⟩
set_option maxRecDepth 100000 in
theorem q_477 : (Cond.selects RX5 yX5_fault yX5_fault) ∈ lw_all := List.mem_filter.mpr ⟨List.mem_of_getElem? (i := 477) rfl, rfl⟩
set_option maxRecDepth 100000 in
theorem q_478 : (Cond.code yX5_fault prog_1_method_14_code (1 : Nat) (Option.some FieldType.int)) ∈ lw_all := List.mem_filter.mpr ⟨List.mem_of_getElem? (i := 478) rfl, rfl⟩
set_option maxRecDepth 100000 in
theorem q_479 : (Cond.methodLink RX5 (167 : Nat) yX3_findFault) ∈ lw_all := List.mem_filter.mpr ⟨List.mem_of_getElem? (i := 479) rfl, rfl⟩
set_option maxRecDepth 100000 in
theorem q_480 : (Cond.instanceMethod yX3_findFault) ∈ lw_all := List.mem_filter.mpr ⟨List.mem_of_getElem? (i := 480) rfl, rfl⟩
set_option maxRecDepth 100000 in
theorem q_481 : (Cond.selects RX3 yX3_findFault yX3_findFault) ∈ lw_all := List.mem_filter.mpr ⟨List.mem_of_getElem? (i := 481) rfl, rfl⟩
set_option maxRecDepth 100000 in
theorem q_482 : (Cond.code yX3_findFault prog_5_method_3_code (3 : Nat) (Option.some FieldType.int)) ∈ lw_all := List.mem_filter.mpr ⟨List.mem_of_getElem? (i := 482) rfl, rfl⟩
set_option maxRecDepth 100000 in
theorem q_484 : (Cond.methodLink RX3 (39 : Nat) yX3_whereBehind) ∈ lw_all := List.mem_filter.mpr ⟨List.mem_of_getElem? (i := 484) rfl, rfl⟩
set_option maxRecDepth 100000 in
theorem q_485 : (Cond.static yX3_whereBehind) ∈ lw_all := List.mem_filter.mpr ⟨List.mem_of_getElem? (i := 485) rfl, rfl⟩
set_option maxRecDepth 100000 in
theorem q_486 : (Cond.code yX3_whereBehind prog_5_method_4_code (2 : Nat) (Option.some FieldType.int)) ∈ lw_all := List.mem_filter.mpr ⟨List.mem_of_getElem? (i := 486) rfl, rfl⟩
set_option maxRecDepth 100000 in
theorem q_487 : (Cond.methodLink RX3 (44 : Nat) yX3_isStileLetter) ∈ lw_all := List.mem_filter.mpr ⟨List.mem_of_getElem? (i := 487) rfl, rfl⟩
set_option maxRecDepth 100000 in
theorem q_488 : (Cond.static yX3_isStileLetter) ∈ lw_all := List.mem_filter.mpr ⟨List.mem_of_getElem? (i := 488) rfl, rfl⟩
set_option maxRecDepth 100000 in
theorem q_489 : (Cond.code yX3_isStileLetter prog_5_method_5_code (1 : Nat) (Option.some FieldType.boolean)) ∈ lw_all := List.mem_filter.mpr ⟨List.mem_of_getElem? (i := 489) rfl, rfl⟩
set_option maxRecDepth 100000 in
theorem q_490 : (Cond.methodLink RX3 (48 : Nat) yX3_isWay) ∈ lw_all := List.mem_filter.mpr ⟨List.mem_of_getElem? (i := 490) rfl, rfl⟩
set_option maxRecDepth 100000 in
theorem q_491 : (Cond.static yX3_isWay) ∈ lw_all := List.mem_filter.mpr ⟨List.mem_of_getElem? (i := 491) rfl, rfl⟩
set_option maxRecDepth 100000 in
theorem q_492 : (Cond.code yX3_isWay prog_5_method_6_code (1 : Nat) (Option.some FieldType.boolean)) ∈ lw_all := List.mem_filter.mpr ⟨List.mem_of_getElem? (i := 492) rfl, rfl⟩
set_option maxRecDepth 100000 in
theorem q_493 : (Cond.methodLink RX3 (51 : Nat) yX3_isDigit) ∈ lw_all := List.mem_filter.mpr ⟨List.mem_of_getElem? (i := 493) rfl, rfl⟩
set_option maxRecDepth 100000 in
theorem q_494 : (Cond.static yX3_isDigit) ∈ lw_all := List.mem_filter.mpr ⟨List.mem_of_getElem? (i := 494) rfl, rfl⟩
set_option maxRecDepth 100000 in
theorem q_495 : (Cond.code yX3_isDigit prog_5_method_7_code (1 : Nat) (Option.some FieldType.boolean)) ∈ lw_all := List.mem_filter.mpr ⟨List.mem_of_getElem? (i := 495) rfl, rfl⟩
set_option maxRecDepth 100000 in
theorem q_496 : (Cond.constant RX3 (43 : Nat) (-100005 : Int32)) ∈ lw_all := List.mem_filter.mpr ⟨List.mem_of_getElem? (i := 496) rfl, rfl⟩
set_option maxRecDepth 100000 in
theorem q_497 : (Cond.methodLink RL (70 : Nat) yX5_run) ∈ lw_all := List.mem_filter.mpr ⟨List.mem_of_getElem? (i := 497) rfl, rfl⟩
set_option maxRecDepth 100000 in
theorem q_498 : (Cond.instanceMethod yX5_run) ∈ lw_all := List.mem_filter.mpr ⟨List.mem_of_getElem? (i := 498) rfl, rfl⟩
set_option maxRecDepth 100000 in
theorem q_499 : (Cond.selects RX5 yX5_run yX5_run) ∈ lw_all := List.mem_filter.mpr ⟨List.mem_of_getElem? (i := 499) rfl, rfl⟩
set_option maxRecDepth 100000 in
theorem q_500 : (Cond.code yX5_run prog_1_method_15_code (3 : Nat) (Option.some FieldType.int)) ∈ lw_all := List.mem_filter.mpr ⟨List.mem_of_getElem? (i := 500) rfl, rfl⟩
set_option maxRecDepth 100000 in
theorem q_501 : (Cond.constant RX5 (170 : Nat) (-100005 : Int32)) ∈ lw_all := List.mem_filter.mpr ⟨List.mem_of_getElem? (i := 501) rfl, rfl⟩
set_option maxRecDepth 100000 in
theorem q_502 : (Cond.methodLink RX5 (171 : Nat) yX3_goToBegin) ∈ lw_all := List.mem_filter.mpr ⟨List.mem_of_getElem? (i := 502) rfl, rfl⟩
set_option maxRecDepth 100000 in
theorem q_503 : (Cond.instanceMethod yX3_goToBegin) ∈ lw_all := List.mem_filter.mpr ⟨List.mem_of_getElem? (i := 503) rfl, rfl⟩
set_option maxRecDepth 100000 in
theorem q_504 : (Cond.selects RX3 yX3_goToBegin yX3_goToBegin) ∈ lw_all := List.mem_filter.mpr ⟨List.mem_of_getElem? (i := 504) rfl, rfl⟩
set_option maxRecDepth 100000 in
theorem q_505 : (Cond.code yX3_goToBegin prog_5_method_8_code (1 : Nat) (Option.none : Option FieldType)) ∈ lw_all := List.mem_filter.mpr ⟨List.mem_of_getElem? (i := 505) rfl, rfl⟩
set_option maxRecDepth 100000 in
theorem q_506 : (Cond.methodLink RX5 (174 : Nat) yX3_readOrder) ∈ lw_all := List.mem_filter.mpr ⟨List.mem_of_getElem? (i := 506) rfl, rfl⟩
set_option maxRecDepth 100000 in
theorem q_507 : (Cond.instanceMethod yX3_readOrder) ∈ lw_all := List.mem_filter.mpr ⟨List.mem_of_getElem? (i := 507) rfl, rfl⟩
set_option maxRecDepth 100000 in
theorem q_508 : (Cond.selects RX3 yX3_readOrder yX3_readOrder) ∈ lw_all := List.mem_filter.mpr ⟨List.mem_of_getElem? (i := 508) rfl, rfl⟩
set_option maxRecDepth 100000 in
theorem q_509 : (Cond.code yX3_readOrder prog_5_method_9_code (1 : Nat) (Option.some FieldType.boolean)) ∈ lw_all := List.mem_filter.mpr ⟨List.mem_of_getElem? (i := 509) rfl, rfl⟩
set_option maxRecDepth 100000 in
theorem q_510 : (Cond.methodLink RX3 (54 : Nat) yX3_readCharacter) ∈ lw_all := List.mem_filter.mpr ⟨List.mem_of_getElem? (i := 510) rfl, rfl⟩
set_option maxRecDepth 100000 in
theorem q_512 : (Cond.instanceMethod yX3_readCharacter) ∈ lw_all := List.mem_filter.mpr ⟨List.mem_of_getElem? (i := 512) rfl, rfl⟩
set_option maxRecDepth 100000 in
theorem q_513 : (Cond.code yX3_readCharacter prog_5_method_10_code (2 : Nat) (Option.some FieldType.int)) ∈ lw_all := List.mem_filter.mpr ⟨List.mem_of_getElem? (i := 513) rfl, rfl⟩
set_option maxRecDepth 100000 in
theorem q_514 : (Cond.methodLink RX3 (61 : Nat) yX3_nextCharacter) ∈ lw_all := List.mem_filter.mpr ⟨List.mem_of_getElem? (i := 514) rfl, rfl⟩
set_option maxRecDepth 100000 in
theorem q_516 : (Cond.instanceMethod yX3_nextCharacter) ∈ lw_all := List.mem_filter.mpr ⟨List.mem_of_getElem? (i := 516) rfl, rfl⟩
set_option maxRecDepth 100000 in
theorem q_517 : (Cond.code yX3_nextCharacter prog_5_method_11_code (1 : Nat) (Option.some FieldType.int)) ∈ lw_all := List.mem_filter.mpr ⟨List.mem_of_getElem? (i := 517) rfl, rfl⟩
set_option maxRecDepth 100000 in
theorem q_518 : (Cond.methodLink RX3 (58 : Nat) yX3_readNumber) ∈ lw_all := List.mem_filter.mpr ⟨List.mem_of_getElem? (i := 518) rfl, rfl⟩
set_option maxRecDepth 100000 in
theorem q_520 : (Cond.instanceMethod yX3_readNumber) ∈ lw_all := List.mem_filter.mpr ⟨List.mem_of_getElem? (i := 520) rfl, rfl⟩
set_option maxRecDepth 100000 in
theorem q_521 : (Cond.code yX3_readNumber prog_5_method_12_code (3 : Nat) (Option.some FieldType.int)) ∈ lw_all := List.mem_filter.mpr ⟨List.mem_of_getElem? (i := 521) rfl, rfl⟩
set_option maxRecDepth 100000 in
theorem q_522 : (Cond.methodLink RX5 (178 : Nat) yX5_carryOutOrder) ∈ lw_all := List.mem_filter.mpr ⟨List.mem_of_getElem? (i := 522) rfl, rfl⟩
set_option maxRecDepth 100000 in
theorem q_524 : (Cond.instanceMethod yX5_carryOutOrder) ∈ lw_all := List.mem_filter.mpr ⟨List.mem_of_getElem? (i := 524) rfl, rfl⟩
set_option maxRecDepth 100000 in
theorem q_525 : (Cond.code yX5_carryOutOrder prog_1_method_31_code (1 : Nat) (Option.some FieldType.boolean)) ∈ lw_all := List.mem_filter.mpr ⟨List.mem_of_getElem? (i := 525) rfl, rfl⟩
set_option maxRecDepth 100000 in
theorem q_526 : (Cond.methodLink RX5 (252 : Nat) yX5_carryOutPass) ∈ lw_all := List.mem_filter.mpr ⟨List.mem_of_getElem? (i := 526) rfl, rfl⟩
set_option maxRecDepth 100000 in
theorem q_528 : (Cond.instanceMethod yX5_carryOutPass) ∈ lw_all := List.mem_filter.mpr ⟨List.mem_of_getElem? (i := 528) rfl, rfl⟩
set_option maxRecDepth 100000 in
theorem q_529 : (Cond.code yX5_carryOutPass prog_1_method_32_code (2 : Nat) (Option.some FieldType.boolean)) ∈ lw_all := List.mem_filter.mpr ⟨List.mem_of_getElem? (i := 529) rfl, rfl⟩
set_option maxRecDepth 100000 in
theorem q_530 : (Cond.methodLink RX5 (256 : Nat) yX5_carryOutAudit) ∈ lw_all := List.mem_filter.mpr ⟨List.mem_of_getElem? (i := 530) rfl, rfl⟩
set_option maxRecDepth 100000 in
theorem q_532 : (Cond.instanceMethod yX5_carryOutAudit) ∈ lw_all := List.mem_filter.mpr ⟨List.mem_of_getElem? (i := 532) rfl, rfl⟩
set_option maxRecDepth 100000 in
theorem q_533 : (Cond.code yX5_carryOutAudit prog_1_method_33_code (1 : Nat) (Option.some FieldType.boolean)) ∈ lw_all := List.mem_filter.mpr ⟨List.mem_of_getElem? (i := 533) rfl, rfl⟩
set_option maxRecDepth 100000 in
theorem q_534 : (Cond.methodLink RX5 (259 : Nat) yX5_carryOutRepair) ∈ lw_all := List.mem_filter.mpr ⟨List.mem_of_getElem? (i := 534) rfl, rfl⟩
set_option maxRecDepth 100000 in
theorem q_536 : (Cond.instanceMethod yX5_carryOutRepair) ∈ lw_all := List.mem_filter.mpr ⟨List.mem_of_getElem? (i := 536) rfl, rfl⟩
set_option maxRecDepth 100000 in
theorem q_537 : (Cond.code yX5_carryOutRepair prog_1_method_34_code (1 : Nat) (Option.some FieldType.boolean)) ∈ lw_all := List.mem_filter.mpr ⟨List.mem_of_getElem? (i := 537) rfl, rfl⟩
set_option maxRecDepth 100000 in
theorem q_538 : (Cond.methodLink RL (74 : Nat) yX5_undo) ∈ lw_all := List.mem_filter.mpr ⟨List.mem_of_getElem? (i := 538) rfl, rfl⟩
set_option maxRecDepth 100000 in
theorem q_539 : (Cond.instanceMethod yX5_undo) ∈ lw_all := List.mem_filter.mpr ⟨List.mem_of_getElem? (i := 539) rfl, rfl⟩
set_option maxRecDepth 100000 in
theorem q_540 : (Cond.selects RX5 yX5_undo yX5_undo) ∈ lw_all := List.mem_filter.mpr ⟨List.mem_of_getElem? (i := 540) rfl, rfl⟩
set_option maxRecDepth 100000 in
theorem q_541 : (Cond.code yX5_undo prog_1_method_16_code (1 : Nat) (Option.some FieldType.int)) ∈ lw_all := List.mem_filter.mpr ⟨List.mem_of_getElem? (i := 541) rfl, rfl⟩
set_option maxRecDepth 100000 in
theorem q_542 : (Cond.methodLink RX5 (184 : Nat) yX2_takeLatest) ∈ lw_all := List.mem_filter.mpr ⟨List.mem_of_getElem? (i := 542) rfl, rfl⟩
set_option maxRecDepth 100000 in
theorem q_543 : (Cond.instanceMethod yX2_takeLatest) ∈ lw_all := List.mem_filter.mpr ⟨List.mem_of_getElem? (i := 543) rfl, rfl⟩
set_option maxRecDepth 100000 in
theorem q_544 : (Cond.selects RX2 yX2_takeLatest yX2_takeLatest) ∈ lw_all := List.mem_filter.mpr ⟨List.mem_of_getElem? (i := 544) rfl, rfl⟩
set_option maxRecDepth 100000 in
theorem q_545 : (Cond.code yX2_takeLatest prog_4_method_3_code (3 : Nat) (Option.none : Option FieldType)) ∈ lw_all := List.mem_filter.mpr ⟨List.mem_of_getElem? (i := 545) rfl, rfl⟩
set_option maxRecDepth 100000 in
theorem q_546 : (Cond.methodLink RL (78 : Nat) yX5_save) ∈ lw_all := List.mem_filter.mpr ⟨List.mem_of_getElem? (i := 546) rfl, rfl⟩
set_option maxRecDepth 100000 in
theorem q_547 : (Cond.instanceMethod yX5_save) ∈ lw_all := List.mem_filter.mpr ⟨List.mem_of_getElem? (i := 547) rfl, rfl⟩
set_option maxRecDepth 100000 in
theorem q_548 : (Cond.selects RX5 yX5_save yX5_save) ∈ lw_all := List.mem_filter.mpr ⟨List.mem_of_getElem? (i := 548) rfl, rfl⟩
set_option maxRecDepth 100000 in
theorem q_549 : (Cond.code yX5_save prog_1_method_17_code (1 : Nat) (Option.some FieldType.int)) ∈ lw_all := List.mem_filter.mpr ⟨List.mem_of_getElem? (i := 549) rfl, rfl⟩
set_option maxRecDepth 100000 in
theorem q_550 : (Cond.methodLink RX5 (187 : Nat) yX4_copyFrom) ∈ lw_all := List.mem_filter.mpr ⟨List.mem_of_getElem? (i := 550) rfl, rfl⟩
set_option maxRecDepth 100000 in
theorem q_551 : (Cond.methodLink RL (82 : Nat) yX5_restore) ∈ lw_all := List.mem_filter.mpr ⟨List.mem_of_getElem? (i := 551) rfl, rfl⟩
set_option maxRecDepth 100000 in
theorem q_552 : (Cond.instanceMethod yX5_restore) ∈ lw_all := List.mem_filter.mpr ⟨List.mem_of_getElem? (i := 552) rfl, rfl⟩
set_option maxRecDepth 100000 in
theorem q_553 : (Cond.selects RX5 yX5_restore yX5_restore) ∈ lw_all := List.mem_filter.mpr ⟨List.mem_of_getElem? (i := 553) rfl, rfl⟩
set_option maxRecDepth 100000 in
theorem q_554 : (Cond.code yX5_restore prog_1_method_18_code (1 : Nat) (Option.some FieldType.int)) ∈ lw_all := List.mem_filter.mpr ⟨List.mem_of_getElem? (i := 554) rfl, rfl⟩
set_option maxRecDepth 100000 in
theorem q_555 : (Cond.methodLink RL (86 : Nat) yX5_hall) ∈ lw_all := List.mem_filter.mpr ⟨List.mem_of_getElem? (i := 555) rfl, rfl⟩
set_option maxRecDepth 100000 in
theorem q_556 : (Cond.instanceMethod yX5_hall) ∈ lw_all := List.mem_filter.mpr ⟨List.mem_of_getElem? (i := 556) rfl, rfl⟩
set_option maxRecDepth 100000 in
theorem q_557 : (Cond.selects RX5 yX5_hall yX5_hall) ∈ lw_all := List.mem_filter.mpr ⟨List.mem_of_getElem? (i := 557) rfl, rfl⟩
set_option maxRecDepth 100000 in
theorem q_558 : (Cond.code yX5_hall prog_1_method_19_code (3 : Nat) (Option.some FieldType.int)) ∈ lw_all := List.mem_filter.mpr ⟨List.mem_of_getElem? (i := 558) rfl, rfl⟩
set_option maxRecDepth 100000 in
theorem q_559 : (Cond.methodLink RX5 (190 : Nat) yX4_toldByOwnSides) ∈ lw_all := List.mem_filter.mpr ⟨List.mem_of_getElem? (i := 559) rfl, rfl⟩
set_option maxRecDepth 100000 in
theorem q_560 : (Cond.instanceMethod yX4_toldByOwnSides) ∈ lw_all := List.mem_filter.mpr ⟨List.mem_of_getElem? (i := 560) rfl, rfl⟩
set_option maxRecDepth 100000 in
theorem q_561 : (Cond.selects RX4 yX4_toldByOwnSides yX4_toldByOwnSides) ∈ lw_all := List.mem_filter.mpr ⟨List.mem_of_getElem? (i := 561) rfl, rfl⟩
set_option maxRecDepth 100000 in
theorem q_562 : (Cond.code yX4_toldByOwnSides prog_6_method_18_code (4 : Nat) (Option.some FieldType.int)) ∈ lw_all := List.mem_filter.mpr ⟨List.mem_of_getElem? (i := 562) rfl, rfl⟩
set_option maxRecDepth 100000 in
theorem q_563 : (Cond.methodLink RX4 (115 : Nat) yX4_toldByFirstSide) ∈ lw_all := List.mem_filter.mpr ⟨List.mem_of_getElem? (i := 563) rfl, rfl⟩
set_option maxRecDepth 100000 in
theorem q_565 : (Cond.instanceMethod yX4_toldByFirstSide) ∈ lw_all := List.mem_filter.mpr ⟨List.mem_of_getElem? (i := 565) rfl, rfl⟩
set_option maxRecDepth 100000 in
theorem q_566 : (Cond.code yX4_toldByFirstSide prog_6_method_20_code (2 : Nat) (Option.some FieldType.int)) ∈ lw_all := List.mem_filter.mpr ⟨List.mem_of_getElem? (i := 566) rfl, rfl⟩
set_option maxRecDepth 100000 in
theorem q_567 : (Cond.methodLink RX4 (121 : Nat) yX1_countOf) ∈ lw_all := List.mem_filter.mpr ⟨List.mem_of_getElem? (i := 567) rfl, rfl⟩
set_option maxRecDepth 100000 in
theorem q_568 : (Cond.methodLink RX4 (118 : Nat) yX4_toldBySecondSide) ∈ lw_all := List.mem_filter.mpr ⟨List.mem_of_getElem? (i := 568) rfl, rfl⟩
set_option maxRecDepth 100000 in
theorem q_570 : (Cond.instanceMethod yX4_toldBySecondSide) ∈ lw_all := List.mem_filter.mpr ⟨List.mem_of_getElem? (i := 570) rfl, rfl⟩
set_option maxRecDepth 100000 in
theorem q_571 : (Cond.code yX4_toldBySecondSide prog_6_method_21_code (2 : Nat) (Option.some FieldType.int)) ∈ lw_all := List.mem_filter.mpr ⟨List.mem_of_getElem? (i := 571) rfl, rfl⟩
set_option maxRecDepth 100000 in
theorem q_572 : (Cond.methodLink RX5 (193 : Nat) yX4_toldByFarSides) ∈ lw_all := List.mem_filter.mpr ⟨List.mem_of_getElem? (i := 572) rfl, rfl⟩
set_option maxRecDepth 100000 in
theorem q_573 : (Cond.instanceMethod yX4_toldByFarSides) ∈ lw_all := List.mem_filter.mpr ⟨List.mem_of_getElem? (i := 573) rfl, rfl⟩
set_option maxRecDepth 100000 in
theorem q_574 : (Cond.selects RX4 yX4_toldByFarSides yX4_toldByFarSides) ∈ lw_all := List.mem_filter.mpr ⟨List.mem_of_getElem? (i := 574) rfl, rfl⟩
set_option maxRecDepth 100000 in
theorem q_575 : (Cond.code yX4_toldByFarSides prog_6_method_19_code (4 : Nat) (Option.some FieldType.int)) ∈ lw_all := List.mem_filter.mpr ⟨List.mem_of_getElem? (i := 575) rfl, rfl⟩
set_option maxRecDepth 100000 in
theorem q_576 : (Cond.methodLink RX5 (196 : Nat) yX0_distanceOrNone) ∈ lw_all := List.mem_filter.mpr ⟨List.mem_of_getElem? (i := 576) rfl, rfl⟩
set_option maxRecDepth 100000 in
theorem q_577 : (Cond.instanceMethod yX0_distanceOrNone) ∈ lw_all := List.mem_filter.mpr ⟨List.mem_of_getElem? (i := 577) rfl, rfl⟩
set_option maxRecDepth 100000 in
theorem q_578 : (Cond.selects RX0 yX0_distanceOrNone yX0_distanceOrNone) ∈ lw_all := List.mem_filter.mpr ⟨List.mem_of_getElem? (i := 578) rfl, rfl⟩
set_option maxRecDepth 100000 in
theorem q_579 : (Cond.code yX0_distanceOrNone prog_2_method_2_code (4 : Nat) (Option.some FieldType.int)) ∈ lw_all := List.mem_filter.mpr ⟨List.mem_of_getElem? (i := 579) rfl, rfl⟩
set_option maxRecDepth 100000 in
theorem q_580 : (Cond.constant RX0 (23 : Nat) (-100005 : Int32)) ∈ lw_all := List.mem_filter.mpr ⟨List.mem_of_getElem? (i := 580) rfl, rfl⟩
set_option maxRecDepth 100000 in
theorem q_581 : (Cond.methodLink RX5 (200 : Nat) yX4_stilesOfHall) ∈ lw_all := List.mem_filter.mpr ⟨List.mem_of_getElem? (i := 581) rfl, rfl⟩
set_option maxRecDepth 100000 in
theorem q_582 : (Cond.instanceMethod yX4_stilesOfHall) ∈ lw_all := List.mem_filter.mpr ⟨List.mem_of_getElem? (i := 582) rfl, rfl⟩
set_option maxRecDepth 100000 in
theorem q_583 : (Cond.selects RX4 yX4_stilesOfHall yX4_stilesOfHall) ∈ lw_all := List.mem_filter.mpr ⟨List.mem_of_getElem? (i := 583) rfl, rfl⟩
set_option maxRecDepth 100000 in
theorem q_584 : (Cond.code yX4_stilesOfHall prog_6_method_28_code (4 : Nat) (Option.some FieldType.int)) ∈ lw_all := List.mem_filter.mpr ⟨List.mem_of_getElem? (i := 584) rfl, rfl⟩
set_option maxRecDepth 100000 in
theorem q_585 : (Cond.methodLink RL (90 : Nat) yX5_stileOf) ∈ lw_all := List.mem_filter.mpr ⟨List.mem_of_getElem? (i := 585) rfl, rfl⟩
set_option maxRecDepth 100000 in
theorem q_586 : (Cond.instanceMethod yX5_stileOf) ∈ lw_all := List.mem_filter.mpr ⟨List.mem_of_getElem? (i := 586) rfl, rfl⟩
set_option maxRecDepth 100000 in
theorem q_587 : (Cond.selects RX5 yX5_stileOf yX5_stileOf) ∈ lw_all := List.mem_filter.mpr ⟨List.mem_of_getElem? (i := 587) rfl, rfl⟩
set_option maxRecDepth 100000 in
theorem q_588 : (Cond.code yX5_stileOf prog_1_method_20_code (3 : Nat) (Option.some FieldType.int)) ∈ lw_all := List.mem_filter.mpr ⟨List.mem_of_getElem? (i := 588) rfl, rfl⟩
set_option maxRecDepth 100000 in
theorem q_589 : (Cond.methodLink RL (94 : Nat) yX5_counter) ∈ lw_all := List.mem_filter.mpr ⟨List.mem_of_getElem? (i := 589) rfl, rfl⟩
set_option maxRecDepth 100000 in
theorem q_590 : (Cond.instanceMethod yX5_counter) ∈ lw_all := List.mem_filter.mpr ⟨List.mem_of_getElem? (i := 590) rfl, rfl⟩
set_option maxRecDepth 100000 in
theorem q_591 : (Cond.selects RX5 yX5_counter yX5_counter) ∈ lw_all := List.mem_filter.mpr ⟨List.mem_of_getElem? (i := 591) rfl, rfl⟩
set_option maxRecDepth 100000 in
theorem q_592 : (Cond.code yX5_counter prog_1_method_21_code (5 : Nat) (Option.some FieldType.int)) ∈ lw_all := List.mem_filter.mpr ⟨List.mem_of_getElem? (i := 592) rfl, rfl⟩
set_option maxRecDepth 100000 in
theorem q_593 : (Cond.methodLink RL (98 : Nat) yX5_reason) ∈ lw_all := List.mem_filter.mpr ⟨List.mem_of_getElem? (i := 593) rfl, rfl⟩
set_option maxRecDepth 100000 in
theorem q_594 : (Cond.instanceMethod yX5_reason) ∈ lw_all := List.mem_filter.mpr ⟨List.mem_of_getElem? (i := 594) rfl, rfl⟩
set_option maxRecDepth 100000 in
theorem q_595 : (Cond.selects RX5 yX5_reason yX5_reason) ∈ lw_all := List.mem_filter.mpr ⟨List.mem_of_getElem? (i := 595) rfl, rfl⟩
set_option maxRecDepth 100000 in
theorem q_596 : (Cond.code yX5_reason prog_1_method_22_code (4 : Nat) (Option.some FieldType.int)) ∈ lw_all := List.mem_filter.mpr ⟨List.mem_of_getElem? (i := 596) rfl, rfl⟩
set_option maxRecDepth 100000 in
theorem q_597 : (Cond.methodLink RL (102 : Nat) yX5_worst) ∈ lw_all := List.mem_filter.mpr ⟨List.mem_of_getElem? (i := 597) rfl, rfl⟩
set_option maxRecDepth 100000 in
theorem q_598 : (Cond.instanceMethod yX5_worst) ∈ lw_all := List.mem_filter.mpr ⟨List.mem_of_getElem? (i := 598) rfl, rfl⟩
set_option maxRecDepth 100000 in
theorem q_599 : (Cond.selects RX5 yX5_worst yX5_worst) ∈ lw_all := List.mem_filter.mpr ⟨List.mem_of_getElem? (i := 599) rfl, rfl⟩
set_option maxRecDepth 100000 in
theorem q_600 : (Cond.code yX5_worst prog_1_method_23_code (3 : Nat) (Option.some FieldType.int)) ∈ lw_all := List.mem_filter.mpr ⟨List.mem_of_getElem? (i := 600) rfl, rfl⟩
set_option maxRecDepth 100000 in
theorem q_601 : (Cond.methodLink RX5 (221 : Nat) yX4_worseStiles) ∈ lw_all := List.mem_filter.mpr ⟨List.mem_of_getElem? (i := 601) rfl, rfl⟩
set_option maxRecDepth 100000 in
theorem q_602 : (Cond.instanceMethod yX4_worseStiles) ∈ lw_all := List.mem_filter.mpr ⟨List.mem_of_getElem? (i := 602) rfl, rfl⟩
set_option maxRecDepth 100000 in
theorem q_603 : (Cond.selects RX4 yX4_worseStiles yX4_worseStiles) ∈ lw_all := List.mem_filter.mpr ⟨List.mem_of_getElem? (i := 603) rfl, rfl⟩
set_option maxRecDepth 100000 in
theorem q_604 : (Cond.code yX4_worseStiles prog_6_method_31_code (6 : Nat) (Option.some FieldType.int)) ∈ lw_all := List.mem_filter.mpr ⟨List.mem_of_getElem? (i := 604) rfl, rfl⟩
set_option maxRecDepth 100000 in
theorem q_605 : (Cond.methodLink RX4 (134 : Nat) yX1_gapOf) ∈ lw_all := List.mem_filter.mpr ⟨List.mem_of_getElem? (i := 605) rfl, rfl⟩
set_option maxRecDepth 100000 in
theorem q_606 : (Cond.methodLink RL (106 : Nat) yX5_count) ∈ lw_all := List.mem_filter.mpr ⟨List.mem_of_getElem? (i := 606) rfl, rfl⟩
set_option maxRecDepth 100000 in
theorem q_607 : (Cond.instanceMethod yX5_count) ∈ lw_all := List.mem_filter.mpr ⟨List.mem_of_getElem? (i := 607) rfl, rfl⟩
set_option maxRecDepth 100000 in
theorem q_608 : (Cond.selects RX5 yX5_count yX5_count) ∈ lw_all := List.mem_filter.mpr ⟨List.mem_of_getElem? (i := 608) rfl, rfl⟩
set_option maxRecDepth 100000 in
theorem q_609 : (Cond.code yX5_count prog_1_method_24_code (2 : Nat) (Option.some FieldType.int)) ∈ lw_all := List.mem_filter.mpr ⟨List.mem_of_getElem? (i := 609) rfl, rfl⟩
set_option maxRecDepth 100000 in
theorem q_610 : (Cond.methodLink RX5 (224 : Nat) yX4_stilesUnderRepair) ∈ lw_all := List.mem_filter.mpr ⟨List.mem_of_getElem? (i := 610) rfl, rfl⟩
set_option maxRecDepth 100000 in
theorem q_611 : (Cond.instanceMethod yX4_stilesUnderRepair) ∈ lw_all := List.mem_filter.mpr ⟨List.mem_of_getElem? (i := 611) rfl, rfl⟩
set_option maxRecDepth 100000 in
theorem q_612 : (Cond.selects RX4 yX4_stilesUnderRepair yX4_stilesUnderRepair) ∈ lw_all := List.mem_filter.mpr ⟨List.mem_of_getElem? (i := 612) rfl, rfl⟩
set_option maxRecDepth 100000 in
theorem q_613 : (Cond.code yX4_stilesUnderRepair prog_6_method_29_code (3 : Nat) (Option.some FieldType.int)) ∈ lw_all := List.mem_filter.mpr ⟨List.mem_of_getElem? (i := 613) rfl, rfl⟩
set_option maxRecDepth 100000 in
theorem q_614 : (Cond.methodLink RX5 (227 : Nat) yX4_toldByAllOwnSides) ∈ lw_all := List.mem_filter.mpr ⟨List.mem_of_getElem? (i := 614) rfl, rfl⟩
set_option maxRecDepth 100000 in
theorem q_615 : (Cond.instanceMethod yX4_toldByAllOwnSides) ∈ lw_all := List.mem_filter.mpr ⟨List.mem_of_getElem? (i := 615) rfl, rfl⟩
set_option maxRecDepth 100000 in
theorem q_616 : (Cond.selects RX4 yX4_toldByAllOwnSides yX4_toldByAllOwnSides) ∈ lw_all := List.mem_filter.mpr ⟨List.mem_of_getElem? (i := 616) rfl, rfl⟩
set_option maxRecDepth 100000 in
theorem q_617 : (Cond.code yX4_toldByAllOwnSides prog_6_method_22_code (3 : Nat) (Option.some FieldType.int)) ∈ lw_all := List.mem_filter.mpr ⟨List.mem_of_getElem? (i := 617) rfl, rfl⟩
set_option maxRecDepth 100000 in
theorem q_618 : (Cond.methodLink RX4 (124 : Nat) yX4_toldByOwnSides) ∈ lw_all := List.mem_filter.mpr ⟨List.mem_of_getElem? (i := 618) rfl, rfl⟩
set_option maxRecDepth 100000 in
theorem q_619 : (Cond.methodLink RX5 (230 : Nat) yX4_toldByAllFarSides) ∈ lw_all := List.mem_filter.mpr ⟨List.mem_of_getElem? (i := 619) rfl, rfl⟩
set_option maxRecDepth 100000 in
theorem q_620 : (Cond.instanceMethod yX4_toldByAllFarSides) ∈ lw_all := List.mem_filter.mpr ⟨List.mem_of_getElem? (i := 620) rfl, rfl⟩
set_option maxRecDepth 100000 in
theorem q_621 : (Cond.selects RX4 yX4_toldByAllFarSides yX4_toldByAllFarSides) ∈ lw_all := List.mem_filter.mpr ⟨List.mem_of_getElem? (i := 621) rfl, rfl⟩
set_option maxRecDepth 100000 in
theorem q_622 : (Cond.code yX4_toldByAllFarSides prog_6_method_23_code (3 : Nat) (Option.some FieldType.int)) ∈ lw_all := List.mem_filter.mpr ⟨List.mem_of_getElem? (i := 622) rfl, rfl⟩
set_option maxRecDepth 100000 in
theorem q_623 : (Cond.methodLink RX4 (127 : Nat) yX4_toldByFarSides) ∈ lw_all := List.mem_filter.mpr ⟨List.mem_of_getElem? (i := 623) rfl, rfl⟩
set_option maxRecDepth 100000 in
theorem q_624 : (Cond.methodLink RX5 (233 : Nat) yX4_sumOfGaps) ∈ lw_all := List.mem_filter.mpr ⟨List.mem_of_getElem? (i := 624) rfl, rfl⟩
set_option maxRecDepth 100000 in
theorem q_625 : (Cond.instanceMethod yX4_sumOfGaps) ∈ lw_all := List.mem_filter.mpr ⟨List.mem_of_getElem? (i := 625) rfl, rfl⟩
set_option maxRecDepth 100000 in
theorem q_626 : (Cond.selects RX4 yX4_sumOfGaps yX4_sumOfGaps) ∈ lw_all := List.mem_filter.mpr ⟨List.mem_of_getElem? (i := 626) rfl, rfl⟩
set_option maxRecDepth 100000 in
theorem q_627 : (Cond.code yX4_sumOfGaps prog_6_method_30_code (3 : Nat) (Option.some FieldType.int)) ∈ lw_all := List.mem_filter.mpr ⟨List.mem_of_getElem? (i := 627) rfl, rfl⟩
set_option maxRecDepth 100000 in
theorem q_628 : (Cond.methodLink RX5 (236 : Nat) yX1_withSlip) ∈ lw_all := List.mem_filter.mpr ⟨List.mem_of_getElem? (i := 628) rfl, rfl⟩
set_option maxRecDepth 100000 in
theorem q_629 : (Cond.instanceMethod yX1_withSlip) ∈ lw_all := List.mem_filter.mpr ⟨List.mem_of_getElem? (i := 629) rfl, rfl⟩
set_option maxRecDepth 100000 in
theorem q_630 : (Cond.selects RX1 yX1_withSlip yX1_withSlip) ∈ lw_all := List.mem_filter.mpr ⟨List.mem_of_getElem? (i := 630) rfl, rfl⟩
set_option maxRecDepth 100000 in
theorem q_631 : (Cond.code yX1_withSlip prog_3_method_10_code (3 : Nat) (Option.some FieldType.int)) ∈ lw_all := List.mem_filter.mpr ⟨List.mem_of_getElem? (i := 631) rfl, rfl⟩
set_option maxRecDepth 100000 in
theorem q_632 : (Cond.methodLink RX5 (239 : Nat) yX4_fullestHall) ∈ lw_all := List.mem_filter.mpr ⟨List.mem_of_getElem? (i := 632) rfl, rfl⟩
set_option maxRecDepth 100000 in
theorem q_633 : (Cond.instanceMethod yX4_fullestHall) ∈ lw_all := List.mem_filter.mpr ⟨List.mem_of_getElem? (i := 633) rfl, rfl⟩
set_option maxRecDepth 100000 in
theorem q_634 : (Cond.selects RX4 yX4_fullestHall yX4_fullestHall) ∈ lw_all := List.mem_filter.mpr ⟨List.mem_of_getElem? (i := 634) rfl, rfl⟩
set_option maxRecDepth 100000 in
theorem q_635 : (Cond.code yX4_fullestHall prog_6_method_27_code (4 : Nat) (Option.some FieldType.int)) ∈ lw_all := List.mem_filter.mpr ⟨List.mem_of_getElem? (i := 635) rfl, rfl⟩
set_option maxRecDepth 100000 in
theorem q_636 : (Cond.methodLink RL (110 : Nat) yX5_most) ∈ lw_all := List.mem_filter.mpr ⟨List.mem_of_getElem? (i := 636) rfl, rfl⟩
set_option maxRecDepth 100000 in
theorem q_637 : (Cond.instanceMethod yX5_most) ∈ lw_all := List.mem_filter.mpr ⟨List.mem_of_getElem? (i := 637) rfl, rfl⟩
set_option maxRecDepth 100000 in
theorem q_638 : (Cond.selects RX5 yX5_most yX5_most) ∈ lw_all := List.mem_filter.mpr ⟨List.mem_of_getElem? (i := 638) rfl, rfl⟩
set_option maxRecDepth 100000 in
theorem q_639 : (Cond.code yX5_most prog_1_method_25_code (3 : Nat) (Option.some FieldType.int)) ∈ lw_all := List.mem_filter.mpr ⟨List.mem_of_getElem? (i := 639) rfl, rfl⟩
set_option maxRecDepth 100000 in
theorem q_640 : (Cond.methodLink RX5 (242 : Nat) yX4_mostThrough) ∈ lw_all := List.mem_filter.mpr ⟨List.mem_of_getElem? (i := 640) rfl, rfl⟩
set_option maxRecDepth 100000 in
theorem q_641 : (Cond.methodLink RL (115 : Nat) yX5_emptyIn) ∈ lw_all := List.mem_filter.mpr ⟨List.mem_of_getElem? (i := 641) rfl, rfl⟩
set_option maxRecDepth 100000 in
theorem q_642 : (Cond.instanceMethod yX5_emptyIn) ∈ lw_all := List.mem_filter.mpr ⟨List.mem_of_getElem? (i := 642) rfl, rfl⟩
set_option maxRecDepth 100000 in
theorem q_643 : (Cond.selects RX5 yX5_emptyIn yX5_emptyIn) ∈ lw_all := List.mem_filter.mpr ⟨List.mem_of_getElem? (i := 643) rfl, rfl⟩
set_option maxRecDepth 100000 in
theorem q_644 : (Cond.code yX5_emptyIn prog_1_method_26_code (3 : Nat) (Option.some FieldType.int)) ∈ lw_all := List.mem_filter.mpr ⟨List.mem_of_getElem? (i := 644) rfl, rfl⟩
set_option maxRecDepth 100000 in
theorem q_645 : (Cond.methodLink RL (119 : Nat) yX5_leftWithout) ∈ lw_all := List.mem_filter.mpr ⟨List.mem_of_getElem? (i := 645) rfl, rfl⟩
set_option maxRecDepth 100000 in
theorem q_646 : (Cond.instanceMethod yX5_leftWithout) ∈ lw_all := List.mem_filter.mpr ⟨List.mem_of_getElem? (i := 646) rfl, rfl⟩
set_option maxRecDepth 100000 in
theorem q_647 : (Cond.selects RX5 yX5_leftWithout yX5_leftWithout) ∈ lw_all := List.mem_filter.mpr ⟨List.mem_of_getElem? (i := 647) rfl, rfl⟩
set_option maxRecDepth 100000 in
theorem q_648 : (Cond.code yX5_leftWithout prog_1_method_27_code (4 : Nat) (Option.some FieldType.int)) ∈ lw_all := List.mem_filter.mpr ⟨List.mem_of_getElem? (i := 648) rfl, rfl⟩
set_option maxRecDepth 100000 in
theorem q_649 : (Cond.methodLink RL (123 : Nat) yX5_fullness) ∈ lw_all := List.mem_filter.mpr ⟨List.mem_of_getElem? (i := 649) rfl, rfl⟩
set_option maxRecDepth 100000 in
theorem q_650 : (Cond.instanceMethod yX5_fullness) ∈ lw_all := List.mem_filter.mpr ⟨List.mem_of_getElem? (i := 650) rfl, rfl⟩
set_option maxRecDepth 100000 in
theorem q_651 : (Cond.selects RX5 yX5_fullness yX5_fullness) ∈ lw_all := List.mem_filter.mpr ⟨List.mem_of_getElem? (i := 651) rfl, rfl⟩
set_option maxRecDepth 100000 in
theorem q_652 : (Cond.code yX5_fullness prog_1_method_28_code (2 : Nat) (Option.some FieldType.double)) ∈ lw_all := List.mem_filter.mpr ⟨List.mem_of_getElem? (i := 652) rfl, rfl⟩
set_option maxRecDepth 100000 in
theorem q_653 : (Cond.methodLink RX5 (246 : Nat) yX4_roomsOfAllHalls) ∈ lw_all := List.mem_filter.mpr ⟨List.mem_of_getElem? (i := 653) rfl, rfl⟩
set_option maxRecDepth 100000 in
theorem q_654 : (Cond.instanceMethod yX4_roomsOfAllHalls) ∈ lw_all := List.mem_filter.mpr ⟨List.mem_of_getElem? (i := 654) rfl, rfl⟩
set_option maxRecDepth 100000 in
theorem q_655 : (Cond.selects RX4 yX4_roomsOfAllHalls yX4_roomsOfAllHalls) ∈ lw_all := List.mem_filter.mpr ⟨List.mem_of_getElem? (i := 655) rfl, rfl⟩
set_option maxRecDepth 100000 in
theorem q_656 : (Cond.code yX4_roomsOfAllHalls prog_6_method_25_code (1 : Nat) (Option.some FieldType.int)) ∈ lw_all := List.mem_filter.mpr ⟨List.mem_of_getElem? (i := 656) rfl, rfl⟩
set_option maxRecDepth 100000 in
theorem q_657 : (Cond.classLink RL (10 : Nat) "HallStilesModel") ∈ lw_all := List.mem_filter.mpr ⟨List.mem_of_getElem? (i := 657) rfl, rfl⟩
set_option maxRecDepth 100000 in
theorem q_658 : (Cond.instantiable RX6 (11 : Nat)) ∈ lw_all := List.mem_filter.mpr ⟨List.mem_of_getElem? (i := 658) rfl, rfl⟩
set_option maxRecDepth 100000 in
theorem q_659 : (Cond.methodLink RL (12 : Nat) yX6_init) ∈ lw_all := List.mem_filter.mpr ⟨List.mem_of_getElem? (i := 659) rfl, rfl⟩
set_option maxRecDepth 100000 in
theorem q_660 : (Cond.instanceMethod yX6_init) ∈ lw_all := List.mem_filter.mpr ⟨List.mem_of_getElem? (i := 660) rfl, rfl⟩
set_option maxRecDepth 100000 in
theorem q_661 : (Cond.code yX6_init prog_8_method_1_code (2 : Nat) (Option.none : Option FieldType)) ∈ lw_all := List.mem_filter.mpr ⟨List.mem_of_getElem? (i := 661) rfl, rfl⟩
set_option maxRecDepth 100000 in
theorem q_662 : (Cond.methodLink RX6 (1 : Nat) (⟨"java/lang/Object", "<init>", "()V"⟩ : MethodName)) ∈ lw_all := List.mem_filter.mpr ⟨List.mem_of_getElem? (i := 662) rfl, rfl⟩
set_option maxRecDepth 100000 in
theorem q_663 : (Cond.fieldLink RX6 (7 : Nat) "HallStilesModel" "s" "[I") ∈ lw_all := List.mem_filter.mpr ⟨List.mem_of_getElem? (i := 663) rfl, rfl⟩
set_option maxRecDepth 100000 in
theorem q_664 : (Cond.fieldLink RX6 (20 : Nat) "HallStilesModel" "states" "I") ∈ lw_all := List.mem_filter.mpr ⟨List.mem_of_getElem? (i := 664) rfl, rfl⟩
set_option maxRecDepth 100000 in
theorem q_665 : (Cond.fieldLink RX6 (150 : Nat) "HallStilesModel" "isKept" "Z") ∈ lw_all := List.mem_filter.mpr ⟨List.mem_of_getElem? (i := 665) rfl, rfl⟩
set_option maxRecDepth 100000 in
theorem q_666 : (Cond.fieldLink RX6 (13 : Nat) "HallStilesModel" "text" "[C") ∈ lw_all := List.mem_filter.mpr ⟨List.mem_of_getElem? (i := 666) rfl, rfl⟩
set_option maxRecDepth 100000 in
theorem q_667 : (Cond.fieldLink RX6 (112 : Nat) "HallStilesModel" "typed" "I") ∈ lw_all := List.mem_filter.mpr ⟨List.mem_of_getElem? (i := 667) rfl, rfl⟩
set_option maxRecDepth 100000 in
theorem q_668 : (Cond.fieldLink RX6 (17 : Nat) "HallStilesModel" "far" "[I") ∈ lw_all := List.mem_filter.mpr ⟨List.mem_of_getElem? (i := 668) rfl, rfl⟩
set_option maxRecDepth 100000 in
theorem q_669 : (Cond.fieldLink RX6 (119 : Nat) "HallStilesModel" "at" "I") ∈ lw_all := List.mem_filter.mpr ⟨List.mem_of_getElem? (i := 669) rfl, rfl⟩
set_option maxRecDepth 100000 in
theorem q_670 : (Cond.fieldLink RX6 (115 : Nat) "HallStilesModel" "isWrong" "Z") ∈ lw_all := List.mem_filter.mpr ⟨List.mem_of_getElem? (i := 670) rfl, rfl⟩
set_option maxRecDepth 100000 in
theorem q_671 : (Cond.fieldLink RX6 (129 : Nat) "HallStilesModel" "letter" "C") ∈ lw_all := List.mem_filter.mpr ⟨List.mem_of_getElem? (i := 671) rfl, rfl⟩
set_option maxRecDepth 100000 in
theorem q_672 : (Cond.fieldLink RX6 (136 : Nat) "HallStilesModel" "stileOfOrder" "I") ∈ lw_all := List.mem_filter.mpr ⟨List.mem_of_getElem? (i := 672) rfl, rfl⟩
set_option maxRecDepth 100000 in
theorem q_673 : (Cond.fieldLink RX6 (126 : Nat) "HallStilesModel" "number" "I") ∈ lw_all := List.mem_filter.mpr ⟨List.mem_of_getElem? (i := 673) rfl, rfl⟩
set_option maxRecDepth 100000 in
theorem q_674 : (Cond.laysFinal RX6 "HallStilesModel" "s" "[I") ∈ lw_all := List.mem_filter.mpr ⟨List.mem_of_getElem? (i := 674) rfl, rfl⟩
set_option maxRecDepth 100000 in
theorem q_676 : (Cond.lays RX6 "HallStilesModel" "states" "I") ∈ lw_all := List.mem_filter.mpr ⟨List.mem_of_getElem? (i := 676) rfl, rfl⟩
set_option maxRecDepth 100000 in
theorem q_678 : (Cond.lays RX6 "HallStilesModel" "isKept" "Z") ∈ lw_all := List.mem_filter.mpr ⟨List.mem_of_getElem? (i := 678) rfl, rfl⟩
set_option maxRecDepth 100000 in
theorem q_680 : (Cond.laysFinal RX6 "HallStilesModel" "text" "[C") ∈ lw_all := List.mem_filter.mpr ⟨List.mem_of_getElem? (i := 680) rfl, rfl⟩
set_option maxRecDepth 100000 in
theorem q_682 : (Cond.lays RX6 "HallStilesModel" "typed" "I") ∈ lw_all := List.mem_filter.mpr ⟨List.mem_of_getElem? (i := 682) rfl, rfl⟩
set_option maxRecDepth 100000 in
theorem q_684 : (Cond.laysFinal RX6 "HallStilesModel" "far" "[I") ∈ lw_all := List.mem_filter.mpr ⟨List.mem_of_getElem? (i := 684) rfl, rfl⟩
set_option maxRecDepth 100000 in
theorem q_686 : (Cond.lays RX6 "HallStilesModel" "at" "I") ∈ lw_all := List.mem_filter.mpr ⟨List.mem_of_getElem? (i := 686) rfl, rfl⟩
set_option maxRecDepth 100000 in
theorem q_688 : (Cond.lays RX6 "HallStilesModel" "isWrong" "Z") ∈ lw_all := List.mem_filter.mpr ⟨List.mem_of_getElem? (i := 688) rfl, rfl⟩
set_option maxRecDepth 100000 in
theorem q_690 : (Cond.lays RX6 "HallStilesModel" "letter" "C") ∈ lw_all := List.mem_filter.mpr ⟨List.mem_of_getElem? (i := 690) rfl, rfl⟩
set_option maxRecDepth 100000 in
theorem q_692 : (Cond.lays RX6 "HallStilesModel" "stileOfOrder" "I") ∈ lw_all := List.mem_filter.mpr ⟨List.mem_of_getElem? (i := 692) rfl, rfl⟩
set_option maxRecDepth 100000 in
theorem q_694 : (Cond.lays RX6 "HallStilesModel" "number" "I") ∈ lw_all := List.mem_filter.mpr ⟨List.mem_of_getElem? (i := 694) rfl, rfl⟩
set_option maxRecDepth 100000 in
theorem q_697 : (Cond.arrayClass FieldType.char) ∈ lw_all := List.mem_filter.mpr ⟨List.mem_of_getElem? (i := 697) rfl, rfl⟩
set_option maxRecDepth 100000 in
theorem q_698 : (Cond.methodLink RL (17 : Nat) yX6_stile) ∈ lw_all := List.mem_filter.mpr ⟨List.mem_of_getElem? (i := 698) rfl, rfl⟩
set_option maxRecDepth 100000 in
theorem q_699 : (Cond.instanceMethod yX6_stile) ∈ lw_all := List.mem_filter.mpr ⟨List.mem_of_getElem? (i := 699) rfl, rfl⟩
set_option maxRecDepth 100000 in
theorem q_700 : (Cond.selects RX6 yX6_stile yX6_stile) ∈ lw_all := List.mem_filter.mpr ⟨List.mem_of_getElem? (i := 700) rfl, rfl⟩
set_option maxRecDepth 100000 in
theorem q_701 : (Cond.code yX6_stile prog_8_method_22_code (5 : Nat) (Option.some FieldType.int)) ∈ lw_all := List.mem_filter.mpr ⟨List.mem_of_getElem? (i := 701) rfl, rfl⟩
set_option maxRecDepth 100000 in
theorem q_702 : (Cond.methodLink RX6 (28 : Nat) yX6_in) ∈ lw_all := List.mem_filter.mpr ⟨List.mem_of_getElem? (i := 702) rfl, rfl⟩
set_option maxRecDepth 100000 in
theorem q_703 : (Cond.static yX6_in) ∈ lw_all := List.mem_filter.mpr ⟨List.mem_of_getElem? (i := 703) rfl, rfl⟩
set_option maxRecDepth 100000 in
theorem q_704 : (Cond.code yX6_in prog_8_method_2_code (3 : Nat) (Option.some FieldType.boolean)) ∈ lw_all := List.mem_filter.mpr ⟨List.mem_of_getElem? (i := 704) rfl, rfl⟩
set_option maxRecDepth 100000 in
theorem q_705 : (Cond.constant RX6 (73 : Nat) (-100001 : Int32)) ∈ lw_all := List.mem_filter.mpr ⟨List.mem_of_getElem? (i := 705) rfl, rfl⟩
set_option maxRecDepth 100000 in
theorem q_706 : (Cond.constant RX6 (74 : Nat) (-100002 : Int32)) ∈ lw_all := List.mem_filter.mpr ⟨List.mem_of_getElem? (i := 706) rfl, rfl⟩
set_option maxRecDepth 100000 in
theorem q_707 : (Cond.constant RX6 (75 : Nat) (-100003 : Int32)) ∈ lw_all := List.mem_filter.mpr ⟨List.mem_of_getElem? (i := 707) rfl, rfl⟩
set_option maxRecDepth 100000 in
theorem q_708 : (Cond.methodLink RX6 (76 : Nat) yX6_records) ∈ lw_all := List.mem_filter.mpr ⟨List.mem_of_getElem? (i := 708) rfl, rfl⟩
set_option maxRecDepth 100000 in
theorem q_710 : (Cond.instanceMethod yX6_records) ∈ lw_all := List.mem_filter.mpr ⟨List.mem_of_getElem? (i := 710) rfl, rfl⟩
set_option maxRecDepth 100000 in
theorem q_711 : (Cond.code yX6_records prog_8_method_4_code (2 : Nat) (Option.none : Option FieldType)) ∈ lw_all := List.mem_filter.mpr ⟨List.mem_of_getElem? (i := 711) rfl, rfl⟩
set_option maxRecDepth 100000 in
theorem q_712 : (Cond.methodLink RX6 (24 : Nat) yX6_copies) ∈ lw_all := List.mem_filter.mpr ⟨List.mem_of_getElem? (i := 712) rfl, rfl⟩
set_option maxRecDepth 100000 in
theorem q_714 : (Cond.instanceMethod yX6_copies) ∈ lw_all := List.mem_filter.mpr ⟨List.mem_of_getElem? (i := 714) rfl, rfl⟩
set_option maxRecDepth 100000 in
theorem q_715 : (Cond.code yX6_copies prog_8_method_3_code (4 : Nat) (Option.none : Option FieldType)) ∈ lw_all := List.mem_filter.mpr ⟨List.mem_of_getElem? (i := 715) rfl, rfl⟩
set_option maxRecDepth 100000 in
theorem q_716 : (Cond.methodLink RX6 (32 : Nat) yX6_place) ∈ lw_all := List.mem_filter.mpr ⟨List.mem_of_getElem? (i := 716) rfl, rfl⟩
set_option maxRecDepth 100000 in
theorem q_717 : (Cond.static yX6_place) ∈ lw_all := List.mem_filter.mpr ⟨List.mem_of_getElem? (i := 717) rfl, rfl⟩
set_option maxRecDepth 100000 in
theorem q_718 : (Cond.code yX6_place prog_8_method_5_code (2 : Nat) (Option.some FieldType.int)) ∈ lw_all := List.mem_filter.mpr ⟨List.mem_of_getElem? (i := 718) rfl, rfl⟩
set_option maxRecDepth 100000 in
theorem q_719 : (Cond.methodLink RL (21 : Nat) yX6_open) ∈ lw_all := List.mem_filter.mpr ⟨List.mem_of_getElem? (i := 719) rfl, rfl⟩
set_option maxRecDepth 100000 in
theorem q_720 : (Cond.instanceMethod yX6_open) ∈ lw_all := List.mem_filter.mpr ⟨List.mem_of_getElem? (i := 720) rfl, rfl⟩
set_option maxRecDepth 100000 in
theorem q_721 : (Cond.selects RX6 yX6_open yX6_open) ∈ lw_all := List.mem_filter.mpr ⟨List.mem_of_getElem? (i := 721) rfl, rfl⟩
set_option maxRecDepth 100000 in
theorem q_722 : (Cond.code yX6_open prog_8_method_23_code (4 : Nat) (Option.some FieldType.int)) ∈ lw_all := List.mem_filter.mpr ⟨List.mem_of_getElem? (i := 722) rfl, rfl⟩
set_option maxRecDepth 100000 in
theorem q_723 : (Cond.methodLink RX6 (79 : Nat) yX6_isStile) ∈ lw_all := List.mem_filter.mpr ⟨List.mem_of_getElem? (i := 723) rfl, rfl⟩
set_option maxRecDepth 100000 in
theorem q_725 : (Cond.instanceMethod yX6_isStile) ∈ lw_all := List.mem_filter.mpr ⟨List.mem_of_getElem? (i := 725) rfl, rfl⟩
set_option maxRecDepth 100000 in
theorem q_726 : (Cond.code yX6_isStile prog_8_method_6_code (2 : Nat) (Option.some FieldType.boolean)) ∈ lw_all := List.mem_filter.mpr ⟨List.mem_of_getElem? (i := 726) rfl, rfl⟩
set_option maxRecDepth 100000 in
theorem q_727 : (Cond.methodLink RL (25 : Nat) yX6_room) ∈ lw_all := List.mem_filter.mpr ⟨List.mem_of_getElem? (i := 727) rfl, rfl⟩
set_option maxRecDepth 100000 in
theorem q_728 : (Cond.instanceMethod yX6_room) ∈ lw_all := List.mem_filter.mpr ⟨List.mem_of_getElem? (i := 728) rfl, rfl⟩
set_option maxRecDepth 100000 in
theorem q_729 : (Cond.selects RX6 yX6_room yX6_room) ∈ lw_all := List.mem_filter.mpr ⟨List.mem_of_getElem? (i := 729) rfl, rfl⟩
set_option maxRecDepth 100000 in
theorem q_730 : (Cond.code yX6_room prog_8_method_24_code (4 : Nat) (Option.some FieldType.int)) ∈ lw_all := List.mem_filter.mpr ⟨List.mem_of_getElem? (i := 730) rfl, rfl⟩
set_option maxRecDepth 100000 in
theorem q_731 : (Cond.methodLink RX6 (83 : Nat) yX6_isHall) ∈ lw_all := List.mem_filter.mpr ⟨List.mem_of_getElem? (i := 731) rfl, rfl⟩
set_option maxRecDepth 100000 in
theorem q_732 : (Cond.static yX6_isHall) ∈ lw_all := List.mem_filter.mpr ⟨List.mem_of_getElem? (i := 732) rfl, rfl⟩
set_option maxRecDepth 100000 in
theorem q_733 : (Cond.code yX6_isHall prog_8_method_7_code (1 : Nat) (Option.some FieldType.boolean)) ∈ lw_all := List.mem_filter.mpr ⟨List.mem_of_getElem? (i := 733) rfl, rfl⟩
set_option maxRecDepth 100000 in
theorem q_734 : (Cond.constant RX6 (86 : Nat) (-100004 : Int32)) ∈ lw_all := List.mem_filter.mpr ⟨List.mem_of_getElem? (i := 734) rfl, rfl⟩
set_option maxRecDepth 100000 in
theorem q_735 : (Cond.methodLink RL (30 : Nat) yX6_slip) ∈ lw_all := List.mem_filter.mpr ⟨List.mem_of_getElem? (i := 735) rfl, rfl⟩
set_option maxRecDepth 100000 in
theorem q_736 : (Cond.instanceMethod yX6_slip) ∈ lw_all := List.mem_filter.mpr ⟨List.mem_of_getElem? (i := 736) rfl, rfl⟩
set_option maxRecDepth 100000 in
theorem q_737 : (Cond.selects RX6 yX6_slip yX6_slip) ∈ lw_all := List.mem_filter.mpr ⟨List.mem_of_getElem? (i := 737) rfl, rfl⟩
set_option maxRecDepth 100000 in
theorem q_738 : (Cond.code yX6_slip prog_8_method_26_code (6 : Nat) (Option.some FieldType.int)) ∈ lw_all := List.mem_filter.mpr ⟨List.mem_of_getElem? (i := 738) rfl, rfl⟩
set_option maxRecDepth 100000 in
theorem q_739 : (Cond.methodLink RX6 (87 : Nat) yX6_isSlip) ∈ lw_all := List.mem_filter.mpr ⟨List.mem_of_getElem? (i := 739) rfl, rfl⟩
set_option maxRecDepth 100000 in
theorem q_740 : (Cond.static yX6_isSlip) ∈ lw_all := List.mem_filter.mpr ⟨List.mem_of_getElem? (i := 740) rfl, rfl⟩
set_option maxRecDepth 100000 in
theorem q_741 : (Cond.code yX6_isSlip prog_8_method_25_code (1 : Nat) (Option.some FieldType.boolean)) ∈ lw_all := List.mem_filter.mpr ⟨List.mem_of_getElem? (i := 741) rfl, rfl⟩
set_option maxRecDepth 100000 in
theorem q_742 : (Cond.methodLink RL (35 : Nat) yX6_pass) ∈ lw_all := List.mem_filter.mpr ⟨List.mem_of_getElem? (i := 742) rfl, rfl⟩
set_option maxRecDepth 100000 in
theorem q_743 : (Cond.instanceMethod yX6_pass) ∈ lw_all := List.mem_filter.mpr ⟨List.mem_of_getElem? (i := 743) rfl, rfl⟩
set_option maxRecDepth 100000 in
theorem q_744 : (Cond.selects RX6 yX6_pass yX6_pass) ∈ lw_all := List.mem_filter.mpr ⟨List.mem_of_getElem? (i := 744) rfl, rfl⟩
set_option maxRecDepth 100000 in
theorem q_745 : (Cond.code yX6_pass prog_8_method_28_code (5 : Nat) (Option.some FieldType.int)) ∈ lw_all := List.mem_filter.mpr ⟨List.mem_of_getElem? (i := 745) rfl, rfl⟩
set_option maxRecDepth 100000 in
theorem q_746 : (Cond.methodLink RX6 (93 : Nat) yX6_wrong) ∈ lw_all := List.mem_filter.mpr ⟨List.mem_of_getElem? (i := 746) rfl, rfl⟩
set_option maxRecDepth 100000 in
theorem q_748 : (Cond.instanceMethod yX6_wrong) ∈ lw_all := List.mem_filter.mpr ⟨List.mem_of_getElem? (i := 748) rfl, rfl⟩
set_option maxRecDepth 100000 in
theorem q_749 : (Cond.code yX6_wrong prog_8_method_27_code (5 : Nat) (Option.some FieldType.int)) ∈ lw_all := List.mem_filter.mpr ⟨List.mem_of_getElem? (i := 749) rfl, rfl⟩
set_option maxRecDepth 100000 in
theorem q_750 : (Cond.methodLink RX6 (90 : Nat) yX6_why) ∈ lw_all := List.mem_filter.mpr ⟨List.mem_of_getElem? (i := 750) rfl, rfl⟩
set_option maxRecDepth 100000 in
theorem q_752 : (Cond.instanceMethod yX6_why) ∈ lw_all := List.mem_filter.mpr ⟨List.mem_of_getElem? (i := 752) rfl, rfl⟩
set_option maxRecDepth 100000 in
theorem q_753 : (Cond.code yX6_why prog_8_method_14_code (9 : Nat) (Option.some FieldType.int)) ∈ lw_all := List.mem_filter.mpr ⟨List.mem_of_getElem? (i := 753) rfl, rfl⟩
set_option maxRecDepth 100000 in
theorem q_754 : (Cond.methodLink RX6 (42 : Nat) yX6_from) ∈ lw_all := List.mem_filter.mpr ⟨List.mem_of_getElem? (i := 754) rfl, rfl⟩
set_option maxRecDepth 100000 in
theorem q_756 : (Cond.instanceMethod yX6_from) ∈ lw_all := List.mem_filter.mpr ⟨List.mem_of_getElem? (i := 756) rfl, rfl⟩
set_option maxRecDepth 100000 in
theorem q_757 : (Cond.code yX6_from prog_8_method_12_code (3 : Nat) (Option.some FieldType.int)) ∈ lw_all := List.mem_filter.mpr ⟨List.mem_of_getElem? (i := 757) rfl, rfl⟩
set_option maxRecDepth 100000 in
theorem q_758 : (Cond.methodLink RX6 (46 : Nat) yX6_to) ∈ lw_all := List.mem_filter.mpr ⟨List.mem_of_getElem? (i := 758) rfl, rfl⟩
set_option maxRecDepth 100000 in
theorem q_760 : (Cond.instanceMethod yX6_to) ∈ lw_all := List.mem_filter.mpr ⟨List.mem_of_getElem? (i := 760) rfl, rfl⟩
set_option maxRecDepth 100000 in
theorem q_761 : (Cond.code yX6_to prog_8_method_13_code (3 : Nat) (Option.some FieldType.int)) ∈ lw_all := List.mem_filter.mpr ⟨List.mem_of_getElem? (i := 761) rfl, rfl⟩
set_option maxRecDepth 100000 in
theorem q_762 : (Cond.methodLink RX6 (49 : Nat) yX6_barred) ∈ lw_all := List.mem_filter.mpr ⟨List.mem_of_getElem? (i := 762) rfl, rfl⟩
set_option maxRecDepth 100000 in
theorem q_764 : (Cond.instanceMethod yX6_barred) ∈ lw_all := List.mem_filter.mpr ⟨List.mem_of_getElem? (i := 764) rfl, rfl⟩
set_option maxRecDepth 100000 in
theorem q_765 : (Cond.code yX6_barred prog_8_method_11_code (4 : Nat) (Option.some FieldType.int)) ∈ lw_all := List.mem_filter.mpr ⟨List.mem_of_getElem? (i := 765) rfl, rfl⟩
set_option maxRecDepth 100000 in
theorem q_766 : (Cond.methodLink RX6 (65 : Nat) yX6_passes) ∈ lw_all := List.mem_filter.mpr ⟨List.mem_of_getElem? (i := 766) rfl, rfl⟩
set_option maxRecDepth 100000 in
theorem q_768 : (Cond.instanceMethod yX6_passes) ∈ lw_all := List.mem_filter.mpr ⟨List.mem_of_getElem? (i := 768) rfl, rfl⟩
set_option maxRecDepth 100000 in
theorem q_769 : (Cond.code yX6_passes prog_8_method_16_code (8 : Nat) (Option.none : Option FieldType)) ∈ lw_all := List.mem_filter.mpr ⟨List.mem_of_getElem? (i := 769) rfl, rfl⟩
set_option maxRecDepth 100000 in
theorem q_770 : (Cond.methodLink RX6 (52 : Nat) yX6_counts) ∈ lw_all := List.mem_filter.mpr ⟨List.mem_of_getElem? (i := 770) rfl, rfl⟩
set_option maxRecDepth 100000 in
theorem q_772 : (Cond.instanceMethod yX6_counts) ∈ lw_all := List.mem_filter.mpr ⟨List.mem_of_getElem? (i := 772) rfl, rfl⟩
set_option maxRecDepth 100000 in
theorem q_773 : (Cond.code yX6_counts prog_8_method_15_code (7 : Nat) (Option.none : Option FieldType)) ∈ lw_all := List.mem_filter.mpr ⟨List.mem_of_getElem? (i := 773) rfl, rfl⟩
set_option maxRecDepth 100000 in
theorem q_774 : (Cond.methodLink RX6 (97 : Nat) yX6_gap) ∈ lw_all := List.mem_filter.mpr ⟨List.mem_of_getElem? (i := 774) rfl, rfl⟩
set_option maxRecDepth 100000 in
theorem q_776 : (Cond.instanceMethod yX6_gap) ∈ lw_all := List.mem_filter.mpr ⟨List.mem_of_getElem? (i := 776) rfl, rfl⟩
set_option maxRecDepth 100000 in
theorem q_777 : (Cond.code yX6_gap prog_8_method_10_code (3 : Nat) (Option.some FieldType.int)) ∈ lw_all := List.mem_filter.mpr ⟨List.mem_of_getElem? (i := 777) rfl, rfl⟩
set_option maxRecDepth 100000 in
theorem q_778 : (Cond.methodLink RX6 (36 : Nat) yX6_counted) ∈ lw_all := List.mem_filter.mpr ⟨List.mem_of_getElem? (i := 778) rfl, rfl⟩
set_option maxRecDepth 100000 in
theorem q_780 : (Cond.instanceMethod yX6_counted) ∈ lw_all := List.mem_filter.mpr ⟨List.mem_of_getElem? (i := 780) rfl, rfl⟩
set_option maxRecDepth 100000 in
theorem q_781 : (Cond.code yX6_counted prog_8_method_8_code (3 : Nat) (Option.some FieldType.int)) ∈ lw_all := List.mem_filter.mpr ⟨List.mem_of_getElem? (i := 781) rfl, rfl⟩
set_option maxRecDepth 100000 in
theorem q_782 : (Cond.methodLink RX6 (39 : Nat) yX6_apart) ∈ lw_all := List.mem_filter.mpr ⟨List.mem_of_getElem? (i := 782) rfl, rfl⟩
set_option maxRecDepth 100000 in
theorem q_783 : (Cond.static yX6_apart) ∈ lw_all := List.mem_filter.mpr ⟨List.mem_of_getElem? (i := 783) rfl, rfl⟩
set_option maxRecDepth 100000 in
theorem q_784 : (Cond.code yX6_apart prog_8_method_9_code (2 : Nat) (Option.some FieldType.int)) ∈ lw_all := List.mem_filter.mpr ⟨List.mem_of_getElem? (i := 784) rfl, rfl⟩
set_option maxRecDepth 100000 in
theorem q_785 : (Cond.methodLink RL (40 : Nat) yX6_audit) ∈ lw_all := List.mem_filter.mpr ⟨List.mem_of_getElem? (i := 785) rfl, rfl⟩
set_option maxRecDepth 100000 in
theorem q_786 : (Cond.instanceMethod yX6_audit) ∈ lw_all := List.mem_filter.mpr ⟨List.mem_of_getElem? (i := 786) rfl, rfl⟩
set_option maxRecDepth 100000 in
theorem q_787 : (Cond.selects RX6 yX6_audit yX6_audit) ∈ lw_all := List.mem_filter.mpr ⟨List.mem_of_getElem? (i := 787) rfl, rfl⟩
set_option maxRecDepth 100000 in
theorem q_788 : (Cond.code yX6_audit prog_8_method_30_code (3 : Nat) (Option.some FieldType.int)) ∈ lw_all := List.mem_filter.mpr ⟨List.mem_of_getElem? (i := 788) rfl, rfl⟩
set_option maxRecDepth 100000 in
theorem q_789 : (Cond.methodLink RX6 (100 : Nat) yX6_audits) ∈ lw_all := List.mem_filter.mpr ⟨List.mem_of_getElem? (i := 789) rfl, rfl⟩
set_option maxRecDepth 100000 in
theorem q_791 : (Cond.instanceMethod yX6_audits) ∈ lw_all := List.mem_filter.mpr ⟨List.mem_of_getElem? (i := 791) rfl, rfl⟩
set_option maxRecDepth 100000 in
theorem q_792 : (Cond.code yX6_audits prog_8_method_29_code (5 : Nat) (Option.none : Option FieldType)) ∈ lw_all := List.mem_filter.mpr ⟨List.mem_of_getElem? (i := 792) rfl, rfl⟩
set_option maxRecDepth 100000 in
theorem q_793 : (Cond.methodLink RL (44 : Nat) yX6_repair) ∈ lw_all := List.mem_filter.mpr ⟨List.mem_of_getElem? (i := 793) rfl, rfl⟩
set_option maxRecDepth 100000 in
theorem q_794 : (Cond.instanceMethod yX6_repair) ∈ lw_all := List.mem_filter.mpr ⟨List.mem_of_getElem? (i := 794) rfl, rfl⟩
set_option maxRecDepth 100000 in
theorem q_795 : (Cond.selects RX6 yX6_repair yX6_repair) ∈ lw_all := List.mem_filter.mpr ⟨List.mem_of_getElem? (i := 795) rfl, rfl⟩
set_option maxRecDepth 100000 in
theorem q_796 : (Cond.code yX6_repair prog_8_method_31_code (2 : Nat) (Option.some FieldType.int)) ∈ lw_all := List.mem_filter.mpr ⟨List.mem_of_getElem? (i := 796) rfl, rfl⟩
set_option maxRecDepth 100000 in
theorem q_797 : (Cond.methodLink RL (48 : Nat) yX6_hours) ∈ lw_all := List.mem_filter.mpr ⟨List.mem_of_getElem? (i := 797) rfl, rfl⟩
set_option maxRecDepth 100000 in
theorem q_798 : (Cond.instanceMethod yX6_hours) ∈ lw_all := List.mem_filter.mpr ⟨List.mem_of_getElem? (i := 798) rfl, rfl⟩
set_option maxRecDepth 100000 in
theorem q_799 : (Cond.selects RX6 yX6_hours yX6_hours) ∈ lw_all := List.mem_filter.mpr ⟨List.mem_of_getElem? (i := 799) rfl, rfl⟩
set_option maxRecDepth 100000 in
theorem q_800 : (Cond.code yX6_hours prog_8_method_33_code (2 : Nat) (Option.some FieldType.int)) ∈ lw_all := List.mem_filter.mpr ⟨List.mem_of_getElem? (i := 800) rfl, rfl⟩
set_option maxRecDepth 100000 in
theorem q_801 : (Cond.methodLink RX6 (103 : Nat) yX6_hoursPass) ∈ lw_all := List.mem_filter.mpr ⟨List.mem_of_getElem? (i := 801) rfl, rfl⟩
set_option maxRecDepth 100000 in
theorem q_803 : (Cond.instanceMethod yX6_hoursPass) ∈ lw_all := List.mem_filter.mpr ⟨List.mem_of_getElem? (i := 803) rfl, rfl⟩
set_option maxRecDepth 100000 in
theorem q_804 : (Cond.code yX6_hoursPass prog_8_method_32_code (4 : Nat) (Option.some FieldType.int)) ∈ lw_all := List.mem_filter.mpr ⟨List.mem_of_getElem? (i := 804) rfl, rfl⟩
set_option maxRecDepth 100000 in
theorem q_805 : (Cond.methodLink RX6 (69 : Nat) yX6_hour) ∈ lw_all := List.mem_filter.mpr ⟨List.mem_of_getElem? (i := 805) rfl, rfl⟩
set_option maxRecDepth 100000 in
theorem q_807 : (Cond.instanceMethod yX6_hour) ∈ lw_all := List.mem_filter.mpr ⟨List.mem_of_getElem? (i := 807) rfl, rfl⟩
set_option maxRecDepth 100000 in
theorem q_808 : (Cond.code yX6_hour prog_8_method_18_code (6 : Nat) (Option.some FieldType.int)) ∈ lw_all := List.mem_filter.mpr ⟨List.mem_of_getElem? (i := 808) rfl, rfl⟩
set_option maxRecDepth 100000 in
theorem q_809 : (Cond.methodLink RL (52 : Nat) yX6_close) ∈ lw_all := List.mem_filter.mpr ⟨List.mem_of_getElem? (i := 809) rfl, rfl⟩
set_option maxRecDepth 100000 in
theorem q_810 : (Cond.instanceMethod yX6_close) ∈ lw_all := List.mem_filter.mpr ⟨List.mem_of_getElem? (i := 810) rfl, rfl⟩
set_option maxRecDepth 100000 in
theorem q_811 : (Cond.selects RX6 yX6_close yX6_close) ∈ lw_all := List.mem_filter.mpr ⟨List.mem_of_getElem? (i := 811) rfl, rfl⟩
set_option maxRecDepth 100000 in
theorem q_812 : (Cond.code yX6_close prog_8_method_34_code (4 : Nat) (Option.some FieldType.int)) ∈ lw_all := List.mem_filter.mpr ⟨List.mem_of_getElem? (i := 812) rfl, rfl⟩
set_option maxRecDepth 100000 in
theorem q_813 : (Cond.methodLink RX6 (106 : Nat) yX6_closes) ∈ lw_all := List.mem_filter.mpr ⟨List.mem_of_getElem? (i := 813) rfl, rfl⟩
set_option maxRecDepth 100000 in
theorem q_815 : (Cond.instanceMethod yX6_closes) ∈ lw_all := List.mem_filter.mpr ⟨List.mem_of_getElem? (i := 815) rfl, rfl⟩
set_option maxRecDepth 100000 in
theorem q_816 : (Cond.code yX6_closes prog_8_method_20_code (9 : Nat) (Option.some FieldType.int)) ∈ lw_all := List.mem_filter.mpr ⟨List.mem_of_getElem? (i := 816) rfl, rfl⟩
set_option maxRecDepth 100000 in
theorem q_817 : (Cond.methodLink RX6 (57 : Nat) yX6_distances) ∈ lw_all := List.mem_filter.mpr ⟨List.mem_of_getElem? (i := 817) rfl, rfl⟩
set_option maxRecDepth 100000 in
theorem q_819 : (Cond.instanceMethod yX6_distances) ∈ lw_all := List.mem_filter.mpr ⟨List.mem_of_getElem? (i := 819) rfl, rfl⟩
set_option maxRecDepth 100000 in
theorem q_820 : (Cond.code yX6_distances prog_8_method_19_code (7 : Nat) (Option.none : Option FieldType)) ∈ lw_all := List.mem_filter.mpr ⟨List.mem_of_getElem? (i := 820) rfl, rfl⟩
set_option maxRecDepth 100000 in
theorem q_821 : (Cond.constant RX6 (56 : Nat) (-100005 : Int32)) ∈ lw_all := List.mem_filter.mpr ⟨List.mem_of_getElem? (i := 821) rfl, rfl⟩
set_option maxRecDepth 100000 in
theorem q_822 : (Cond.methodLink RX6 (61 : Nat) yX6_atMost) ∈ lw_all := List.mem_filter.mpr ⟨List.mem_of_getElem? (i := 822) rfl, rfl⟩
set_option maxRecDepth 100000 in
theorem q_824 : (Cond.instanceMethod yX6_atMost) ∈ lw_all := List.mem_filter.mpr ⟨List.mem_of_getElem? (i := 824) rfl, rfl⟩
set_option maxRecDepth 100000 in
theorem q_825 : (Cond.code yX6_atMost prog_8_method_17_code (10 : Nat) (Option.some FieldType.int)) ∈ lw_all := List.mem_filter.mpr ⟨List.mem_of_getElem? (i := 825) rfl, rfl⟩
set_option maxRecDepth 100000 in
theorem q_826 : (Cond.methodLink RX6 (109 : Nat) yX6_people) ∈ lw_all := List.mem_filter.mpr ⟨List.mem_of_getElem? (i := 826) rfl, rfl⟩
set_option maxRecDepth 100000 in
theorem q_828 : (Cond.instanceMethod yX6_people) ∈ lw_all := List.mem_filter.mpr ⟨List.mem_of_getElem? (i := 828) rfl, rfl⟩
set_option maxRecDepth 100000 in
theorem q_829 : (Cond.code yX6_people prog_8_method_21_code (4 : Nat) (Option.some FieldType.int)) ∈ lw_all := List.mem_filter.mpr ⟨List.mem_of_getElem? (i := 829) rfl, rfl⟩
set_option maxRecDepth 100000 in
theorem q_830 : (Cond.methodLink RL (56 : Nat) yX6_set) ∈ lw_all := List.mem_filter.mpr ⟨List.mem_of_getElem? (i := 830) rfl, rfl⟩
set_option maxRecDepth 100000 in
theorem q_831 : (Cond.instanceMethod yX6_set) ∈ lw_all := List.mem_filter.mpr ⟨List.mem_of_getElem? (i := 831) rfl, rfl⟩
set_option maxRecDepth 100000 in
theorem q_832 : (Cond.selects RX6 yX6_set yX6_set) ∈ lw_all := List.mem_filter.mpr ⟨List.mem_of_getElem? (i := 832) rfl, rfl⟩
set_option maxRecDepth 100000 in
theorem q_833 : (Cond.code yX6_set prog_8_method_35_code (4 : Nat) (Option.some FieldType.int)) ∈ lw_all := List.mem_filter.mpr ⟨List.mem_of_getElem? (i := 833) rfl, rfl⟩
set_option maxRecDepth 100000 in
theorem q_834 : (Cond.methodLink RL (60 : Nat) yX6_append) ∈ lw_all := List.mem_filter.mpr ⟨List.mem_of_getElem? (i := 834) rfl, rfl⟩
set_option maxRecDepth 100000 in
theorem q_835 : (Cond.instanceMethod yX6_append) ∈ lw_all := List.mem_filter.mpr ⟨List.mem_of_getElem? (i := 835) rfl, rfl⟩
set_option maxRecDepth 100000 in
theorem q_836 : (Cond.selects RX6 yX6_append yX6_append) ∈ lw_all := List.mem_filter.mpr ⟨List.mem_of_getElem? (i := 836) rfl, rfl⟩
set_option maxRecDepth 100000 in
theorem q_837 : (Cond.code yX6_append prog_8_method_36_code (2 : Nat) (Option.some FieldType.int)) ∈ lw_all := List.mem_filter.mpr ⟨List.mem_of_getElem? (i := 837) rfl, rfl⟩
set_option maxRecDepth 100000 in
theorem q_838 : (Cond.methodLink RL (65 : Nat) yX6_clearText) ∈ lw_all := List.mem_filter.mpr ⟨List.mem_of_getElem? (i := 838) rfl, rfl⟩
set_option maxRecDepth 100000 in
theorem q_839 : (Cond.instanceMethod yX6_clearText) ∈ lw_all := List.mem_filter.mpr ⟨List.mem_of_getElem? (i := 839) rfl, rfl⟩
set_option maxRecDepth 100000 in
theorem q_840 : (Cond.selects RX6 yX6_clearText yX6_clearText) ∈ lw_all := List.mem_filter.mpr ⟨List.mem_of_getElem? (i := 840) rfl, rfl⟩
set_option maxRecDepth 100000 in
theorem q_841 : (Cond.code yX6_clearText prog_8_method_37_code (2 : Nat) (Option.some FieldType.int)) ∈ lw_all := List.mem_filter.mpr ⟨List.mem_of_getElem? (i := 841) rfl, rfl⟩
set_option maxRecDepth 100000 in
theorem q_842 : (Cond.methodLink RL (69 : Nat) yX6_fault) ∈ lw_all := List.mem_filter.mpr ⟨List.mem_of_getElem? (i := 842) rfl, rfl⟩
set_option maxRecDepth 100000 in
theorem q_843 : (Cond.instanceMethod yX6_fault) ∈ lw_all := List.mem_filter.mpr ⟨List.mem_of_getElem? (i := 843) rfl, rfl⟩
set_option maxRecDepth 100000 in
theorem q_844 : (Cond.selects RX6 yX6_fault yX6_fault) ∈ lw_all := List.mem_filter.mpr ⟨List.mem_of_getElem? (i := 844) rfl, rfl⟩
set_option maxRecDepth 100000 in
theorem q_845 : (Cond.code yX6_fault prog_8_method_42_code (1 : Nat) (Option.some FieldType.int)) ∈ lw_all := List.mem_filter.mpr ⟨List.mem_of_getElem? (i := 845) rfl, rfl⟩
set_option maxRecDepth 100000 in
theorem q_846 : (Cond.methodLink RX6 (142 : Nat) yX6_faultOf) ∈ lw_all := List.mem_filter.mpr ⟨List.mem_of_getElem? (i := 846) rfl, rfl⟩
set_option maxRecDepth 100000 in
theorem q_848 : (Cond.instanceMethod yX6_faultOf) ∈ lw_all := List.mem_filter.mpr ⟨List.mem_of_getElem? (i := 848) rfl, rfl⟩
set_option maxRecDepth 100000 in
theorem q_849 : (Cond.code yX6_faultOf prog_8_method_41_code (2 : Nat) (Option.some FieldType.int)) ∈ lw_all := List.mem_filter.mpr ⟨List.mem_of_getElem? (i := 849) rfl, rfl⟩
set_option maxRecDepth 100000 in
theorem q_850 : (Cond.methodLink RX6 (139 : Nat) yX6_readsOrder) ∈ lw_all := List.mem_filter.mpr ⟨List.mem_of_getElem? (i := 850) rfl, rfl⟩
set_option maxRecDepth 100000 in
theorem q_852 : (Cond.instanceMethod yX6_readsOrder) ∈ lw_all := List.mem_filter.mpr ⟨List.mem_of_getElem? (i := 852) rfl, rfl⟩
set_option maxRecDepth 100000 in
theorem q_853 : (Cond.code yX6_readsOrder prog_8_method_40_code (2 : Nat) (Option.none : Option FieldType)) ∈ lw_all := List.mem_filter.mpr ⟨List.mem_of_getElem? (i := 853) rfl, rfl⟩
set_option maxRecDepth 100000 in
theorem q_854 : (Cond.methodLink RX6 (122 : Nat) yX6_isNow) ∈ lw_all := List.mem_filter.mpr ⟨List.mem_of_getElem? (i := 854) rfl, rfl⟩
set_option maxRecDepth 100000 in
theorem q_856 : (Cond.instanceMethod yX6_isNow) ∈ lw_all := List.mem_filter.mpr ⟨List.mem_of_getElem? (i := 856) rfl, rfl⟩
set_option maxRecDepth 100000 in
theorem q_857 : (Cond.code yX6_isNow prog_8_method_38_code (3 : Nat) (Option.some FieldType.boolean)) ∈ lw_all := List.mem_filter.mpr ⟨List.mem_of_getElem? (i := 857) rfl, rfl⟩
set_option maxRecDepth 100000 in
theorem q_858 : (Cond.methodLink RX6 (133 : Nat) yX6_readsNumber) ∈ lw_all := List.mem_filter.mpr ⟨List.mem_of_getElem? (i := 858) rfl, rfl⟩
set_option maxRecDepth 100000 in
theorem q_860 : (Cond.instanceMethod yX6_readsNumber) ∈ lw_all := List.mem_filter.mpr ⟨List.mem_of_getElem? (i := 860) rfl, rfl⟩
set_option maxRecDepth 100000 in
theorem q_861 : (Cond.code yX6_readsNumber prog_8_method_39_code (1 : Nat) (Option.none : Option FieldType)) ∈ lw_all := List.mem_filter.mpr ⟨List.mem_of_getElem? (i := 861) rfl, rfl⟩
set_option maxRecDepth 100000 in
theorem q_862 : (Cond.methodLink RL (73 : Nat) yX6_run) ∈ lw_all := List.mem_filter.mpr ⟨List.mem_of_getElem? (i := 862) rfl, rfl⟩
set_option maxRecDepth 100000 in
theorem q_863 : (Cond.instanceMethod yX6_run) ∈ lw_all := List.mem_filter.mpr ⟨List.mem_of_getElem? (i := 863) rfl, rfl⟩
set_option maxRecDepth 100000 in
theorem q_864 : (Cond.selects RX6 yX6_run yX6_run) ∈ lw_all := List.mem_filter.mpr ⟨List.mem_of_getElem? (i := 864) rfl, rfl⟩
set_option maxRecDepth 100000 in
theorem q_865 : (Cond.code yX6_run prog_8_method_44_code (5 : Nat) (Option.some FieldType.int)) ∈ lw_all := List.mem_filter.mpr ⟨List.mem_of_getElem? (i := 865) rfl, rfl⟩
set_option maxRecDepth 100000 in
theorem q_866 : (Cond.methodLink RX6 (146 : Nat) yX6_does) ∈ lw_all := List.mem_filter.mpr ⟨List.mem_of_getElem? (i := 866) rfl, rfl⟩
set_option maxRecDepth 100000 in
theorem q_868 : (Cond.instanceMethod yX6_does) ∈ lw_all := List.mem_filter.mpr ⟨List.mem_of_getElem? (i := 868) rfl, rfl⟩
set_option maxRecDepth 100000 in
theorem q_869 : (Cond.code yX6_does prog_8_method_43_code (2 : Nat) (Option.some FieldType.boolean)) ∈ lw_all := List.mem_filter.mpr ⟨List.mem_of_getElem? (i := 869) rfl, rfl⟩
set_option maxRecDepth 100000 in
theorem q_870 : (Cond.methodLink RL (77 : Nat) yX6_undo) ∈ lw_all := List.mem_filter.mpr ⟨List.mem_of_getElem? (i := 870) rfl, rfl⟩
set_option maxRecDepth 100000 in
theorem q_871 : (Cond.instanceMethod yX6_undo) ∈ lw_all := List.mem_filter.mpr ⟨List.mem_of_getElem? (i := 871) rfl, rfl⟩
set_option maxRecDepth 100000 in
theorem q_872 : (Cond.selects RX6 yX6_undo yX6_undo) ∈ lw_all := List.mem_filter.mpr ⟨List.mem_of_getElem? (i := 872) rfl, rfl⟩
set_option maxRecDepth 100000 in
theorem q_873 : (Cond.code yX6_undo prog_8_method_45_code (1 : Nat) (Option.some FieldType.int)) ∈ lw_all := List.mem_filter.mpr ⟨List.mem_of_getElem? (i := 873) rfl, rfl⟩
set_option maxRecDepth 100000 in
theorem q_874 : (Cond.methodLink RL (81 : Nat) yX6_save) ∈ lw_all := List.mem_filter.mpr ⟨List.mem_of_getElem? (i := 874) rfl, rfl⟩
set_option maxRecDepth 100000 in
theorem q_875 : (Cond.instanceMethod yX6_save) ∈ lw_all := List.mem_filter.mpr ⟨List.mem_of_getElem? (i := 875) rfl, rfl⟩
set_option maxRecDepth 100000 in
theorem q_876 : (Cond.selects RX6 yX6_save yX6_save) ∈ lw_all := List.mem_filter.mpr ⟨List.mem_of_getElem? (i := 876) rfl, rfl⟩
set_option maxRecDepth 100000 in
theorem q_877 : (Cond.code yX6_save prog_8_method_46_code (1 : Nat) (Option.some FieldType.int)) ∈ lw_all := List.mem_filter.mpr ⟨List.mem_of_getElem? (i := 877) rfl, rfl⟩
set_option maxRecDepth 100000 in
theorem q_878 : (Cond.methodLink RL (85 : Nat) yX6_restore) ∈ lw_all := List.mem_filter.mpr ⟨List.mem_of_getElem? (i := 878) rfl, rfl⟩
set_option maxRecDepth 100000 in
theorem q_879 : (Cond.instanceMethod yX6_restore) ∈ lw_all := List.mem_filter.mpr ⟨List.mem_of_getElem? (i := 879) rfl, rfl⟩
set_option maxRecDepth 100000 in
theorem q_880 : (Cond.selects RX6 yX6_restore yX6_restore) ∈ lw_all := List.mem_filter.mpr ⟨List.mem_of_getElem? (i := 880) rfl, rfl⟩
set_option maxRecDepth 100000 in
theorem q_881 : (Cond.code yX6_restore prog_8_method_47_code (1 : Nat) (Option.some FieldType.int)) ∈ lw_all := List.mem_filter.mpr ⟨List.mem_of_getElem? (i := 881) rfl, rfl⟩
set_option maxRecDepth 100000 in
theorem q_882 : (Cond.methodLink RL (89 : Nat) yX6_hall) ∈ lw_all := List.mem_filter.mpr ⟨List.mem_of_getElem? (i := 882) rfl, rfl⟩
set_option maxRecDepth 100000 in
theorem q_883 : (Cond.instanceMethod yX6_hall) ∈ lw_all := List.mem_filter.mpr ⟨List.mem_of_getElem? (i := 883) rfl, rfl⟩
set_option maxRecDepth 100000 in
theorem q_884 : (Cond.selects RX6 yX6_hall yX6_hall) ∈ lw_all := List.mem_filter.mpr ⟨List.mem_of_getElem? (i := 884) rfl, rfl⟩
set_option maxRecDepth 100000 in
theorem q_885 : (Cond.code yX6_hall prog_8_method_51_code (3 : Nat) (Option.some FieldType.int)) ∈ lw_all := List.mem_filter.mpr ⟨List.mem_of_getElem? (i := 885) rfl, rfl⟩
set_option maxRecDepth 100000 in
theorem q_886 : (Cond.methodLink RX6 (153 : Nat) yX6_told) ∈ lw_all := List.mem_filter.mpr ⟨List.mem_of_getElem? (i := 886) rfl, rfl⟩
set_option maxRecDepth 100000 in
theorem q_888 : (Cond.instanceMethod yX6_told) ∈ lw_all := List.mem_filter.mpr ⟨List.mem_of_getElem? (i := 888) rfl, rfl⟩
set_option maxRecDepth 100000 in
theorem q_889 : (Cond.code yX6_told prog_8_method_48_code (6 : Nat) (Option.some FieldType.int)) ∈ lw_all := List.mem_filter.mpr ⟨List.mem_of_getElem? (i := 889) rfl, rfl⟩
set_option maxRecDepth 100000 in
theorem q_890 : (Cond.methodLink RX6 (156 : Nat) yX6_distance) ∈ lw_all := List.mem_filter.mpr ⟨List.mem_of_getElem? (i := 890) rfl, rfl⟩
set_option maxRecDepth 100000 in
theorem q_892 : (Cond.instanceMethod yX6_distance) ∈ lw_all := List.mem_filter.mpr ⟨List.mem_of_getElem? (i := 892) rfl, rfl⟩
set_option maxRecDepth 100000 in
theorem q_893 : (Cond.code yX6_distance prog_8_method_50_code (2 : Nat) (Option.some FieldType.int)) ∈ lw_all := List.mem_filter.mpr ⟨List.mem_of_getElem? (i := 893) rfl, rfl⟩
set_option maxRecDepth 100000 in
theorem q_894 : (Cond.methodLink RX6 (159 : Nat) yX6_stilesOf) ∈ lw_all := List.mem_filter.mpr ⟨List.mem_of_getElem? (i := 894) rfl, rfl⟩
set_option maxRecDepth 100000 in
theorem q_896 : (Cond.instanceMethod yX6_stilesOf) ∈ lw_all := List.mem_filter.mpr ⟨List.mem_of_getElem? (i := 896) rfl, rfl⟩
set_option maxRecDepth 100000 in
theorem q_897 : (Cond.code yX6_stilesOf prog_8_method_49_code (4 : Nat) (Option.some FieldType.int)) ∈ lw_all := List.mem_filter.mpr ⟨List.mem_of_getElem? (i := 897) rfl, rfl⟩
set_option maxRecDepth 100000 in
theorem q_898 : (Cond.methodLink RL (93 : Nat) yX6_stileOf) ∈ lw_all := List.mem_filter.mpr ⟨List.mem_of_getElem? (i := 898) rfl, rfl⟩
set_option maxRecDepth 100000 in
theorem q_899 : (Cond.instanceMethod yX6_stileOf) ∈ lw_all := List.mem_filter.mpr ⟨List.mem_of_getElem? (i := 899) rfl, rfl⟩
set_option maxRecDepth 100000 in
theorem q_900 : (Cond.selects RX6 yX6_stileOf yX6_stileOf) ∈ lw_all := List.mem_filter.mpr ⟨List.mem_of_getElem? (i := 900) rfl, rfl⟩
set_option maxRecDepth 100000 in
theorem q_901 : (Cond.code yX6_stileOf prog_8_method_52_code (3 : Nat) (Option.some FieldType.int)) ∈ lw_all := List.mem_filter.mpr ⟨List.mem_of_getElem? (i := 901) rfl, rfl⟩
set_option maxRecDepth 100000 in
theorem q_902 : (Cond.methodLink RL (97 : Nat) yX6_counter) ∈ lw_all := List.mem_filter.mpr ⟨List.mem_of_getElem? (i := 902) rfl, rfl⟩
set_option maxRecDepth 100000 in
theorem q_903 : (Cond.instanceMethod yX6_counter) ∈ lw_all := List.mem_filter.mpr ⟨List.mem_of_getElem? (i := 903) rfl, rfl⟩
set_option maxRecDepth 100000 in
theorem q_904 : (Cond.selects RX6 yX6_counter yX6_counter) ∈ lw_all := List.mem_filter.mpr ⟨List.mem_of_getElem? (i := 904) rfl, rfl⟩
set_option maxRecDepth 100000 in
theorem q_905 : (Cond.code yX6_counter prog_8_method_53_code (5 : Nat) (Option.some FieldType.int)) ∈ lw_all := List.mem_filter.mpr ⟨List.mem_of_getElem? (i := 905) rfl, rfl⟩
set_option maxRecDepth 100000 in
theorem q_906 : (Cond.methodLink RL (101 : Nat) yX6_reason) ∈ lw_all := List.mem_filter.mpr ⟨List.mem_of_getElem? (i := 906) rfl, rfl⟩
set_option maxRecDepth 100000 in
theorem q_907 : (Cond.instanceMethod yX6_reason) ∈ lw_all := List.mem_filter.mpr ⟨List.mem_of_getElem? (i := 907) rfl, rfl⟩
set_option maxRecDepth 100000 in
theorem q_908 : (Cond.selects RX6 yX6_reason yX6_reason) ∈ lw_all := List.mem_filter.mpr ⟨List.mem_of_getElem? (i := 908) rfl, rfl⟩
set_option maxRecDepth 100000 in
theorem q_909 : (Cond.code yX6_reason prog_8_method_54_code (4 : Nat) (Option.some FieldType.int)) ∈ lw_all := List.mem_filter.mpr ⟨List.mem_of_getElem? (i := 909) rfl, rfl⟩
set_option maxRecDepth 100000 in
theorem q_910 : (Cond.methodLink RL (105 : Nat) yX6_worst) ∈ lw_all := List.mem_filter.mpr ⟨List.mem_of_getElem? (i := 910) rfl, rfl⟩
set_option maxRecDepth 100000 in
theorem q_911 : (Cond.instanceMethod yX6_worst) ∈ lw_all := List.mem_filter.mpr ⟨List.mem_of_getElem? (i := 911) rfl, rfl⟩
set_option maxRecDepth 100000 in
theorem q_912 : (Cond.selects RX6 yX6_worst yX6_worst) ∈ lw_all := List.mem_filter.mpr ⟨List.mem_of_getElem? (i := 912) rfl, rfl⟩
set_option maxRecDepth 100000 in
theorem q_913 : (Cond.code yX6_worst prog_8_method_55_code (6 : Nat) (Option.some FieldType.int)) ∈ lw_all := List.mem_filter.mpr ⟨List.mem_of_getElem? (i := 913) rfl, rfl⟩
set_option maxRecDepth 100000 in
theorem q_914 : (Cond.methodLink RL (109 : Nat) yX6_count) ∈ lw_all := List.mem_filter.mpr ⟨List.mem_of_getElem? (i := 914) rfl, rfl⟩
set_option maxRecDepth 100000 in
theorem q_915 : (Cond.instanceMethod yX6_count) ∈ lw_all := List.mem_filter.mpr ⟨List.mem_of_getElem? (i := 915) rfl, rfl⟩
set_option maxRecDepth 100000 in
theorem q_916 : (Cond.selects RX6 yX6_count yX6_count) ∈ lw_all := List.mem_filter.mpr ⟨List.mem_of_getElem? (i := 916) rfl, rfl⟩
set_option maxRecDepth 100000 in
theorem q_917 : (Cond.code yX6_count prog_8_method_59_code (2 : Nat) (Option.some FieldType.int)) ∈ lw_all := List.mem_filter.mpr ⟨List.mem_of_getElem? (i := 917) rfl, rfl⟩
set_option maxRecDepth 100000 in
theorem q_918 : (Cond.methodLink RX6 (162 : Nat) yX6_sumOf) ∈ lw_all := List.mem_filter.mpr ⟨List.mem_of_getElem? (i := 918) rfl, rfl⟩
set_option maxRecDepth 100000 in
theorem q_920 : (Cond.instanceMethod yX6_sumOf) ∈ lw_all := List.mem_filter.mpr ⟨List.mem_of_getElem? (i := 920) rfl, rfl⟩
set_option maxRecDepth 100000 in
theorem q_921 : (Cond.code yX6_sumOf prog_8_method_56_code (7 : Nat) (Option.some FieldType.int)) ∈ lw_all := List.mem_filter.mpr ⟨List.mem_of_getElem? (i := 921) rfl, rfl⟩
set_option maxRecDepth 100000 in
theorem q_922 : (Cond.methodLink RX6 (165 : Nat) yX6_allTold) ∈ lw_all := List.mem_filter.mpr ⟨List.mem_of_getElem? (i := 922) rfl, rfl⟩
set_option maxRecDepth 100000 in
theorem q_924 : (Cond.instanceMethod yX6_allTold) ∈ lw_all := List.mem_filter.mpr ⟨List.mem_of_getElem? (i := 924) rfl, rfl⟩
set_option maxRecDepth 100000 in
theorem q_925 : (Cond.code yX6_allTold prog_8_method_57_code (4 : Nat) (Option.some FieldType.int)) ∈ lw_all := List.mem_filter.mpr ⟨List.mem_of_getElem? (i := 925) rfl, rfl⟩
set_option maxRecDepth 100000 in
theorem q_926 : (Cond.methodLink RX6 (169 : Nat) yX6_fullest) ∈ lw_all := List.mem_filter.mpr ⟨List.mem_of_getElem? (i := 926) rfl, rfl⟩
set_option maxRecDepth 100000 in
theorem q_928 : (Cond.instanceMethod yX6_fullest) ∈ lw_all := List.mem_filter.mpr ⟨List.mem_of_getElem? (i := 928) rfl, rfl⟩
set_option maxRecDepth 100000 in
theorem q_929 : (Cond.code yX6_fullest prog_8_method_58_code (3 : Nat) (Option.some FieldType.int)) ∈ lw_all := List.mem_filter.mpr ⟨List.mem_of_getElem? (i := 929) rfl, rfl⟩
set_option maxRecDepth 100000 in
theorem q_930 : (Cond.methodLink RL (114 : Nat) yX6_most) ∈ lw_all := List.mem_filter.mpr ⟨List.mem_of_getElem? (i := 930) rfl, rfl⟩
set_option maxRecDepth 100000 in
theorem q_931 : (Cond.instanceMethod yX6_most) ∈ lw_all := List.mem_filter.mpr ⟨List.mem_of_getElem? (i := 931) rfl, rfl⟩
set_option maxRecDepth 100000 in
theorem q_932 : (Cond.selects RX6 yX6_most yX6_most) ∈ lw_all := List.mem_filter.mpr ⟨List.mem_of_getElem? (i := 932) rfl, rfl⟩
set_option maxRecDepth 100000 in
theorem q_933 : (Cond.code yX6_most prog_8_method_60_code (3 : Nat) (Option.some FieldType.int)) ∈ lw_all := List.mem_filter.mpr ⟨List.mem_of_getElem? (i := 933) rfl, rfl⟩
set_option maxRecDepth 100000 in
theorem q_934 : (Cond.methodLink RL (118 : Nat) yX6_emptyIn) ∈ lw_all := List.mem_filter.mpr ⟨List.mem_of_getElem? (i := 934) rfl, rfl⟩
set_option maxRecDepth 100000 in
theorem q_935 : (Cond.instanceMethod yX6_emptyIn) ∈ lw_all := List.mem_filter.mpr ⟨List.mem_of_getElem? (i := 935) rfl, rfl⟩
set_option maxRecDepth 100000 in
theorem q_936 : (Cond.selects RX6 yX6_emptyIn yX6_emptyIn) ∈ lw_all := List.mem_filter.mpr ⟨List.mem_of_getElem? (i := 936) rfl, rfl⟩
set_option maxRecDepth 100000 in
theorem q_937 : (Cond.code yX6_emptyIn prog_8_method_61_code (2 : Nat) (Option.some FieldType.int)) ∈ lw_all := List.mem_filter.mpr ⟨List.mem_of_getElem? (i := 937) rfl, rfl⟩
set_option maxRecDepth 100000 in
theorem q_938 : (Cond.methodLink RL (122 : Nat) yX6_leftWithout) ∈ lw_all := List.mem_filter.mpr ⟨List.mem_of_getElem? (i := 938) rfl, rfl⟩
set_option maxRecDepth 100000 in
theorem q_939 : (Cond.instanceMethod yX6_leftWithout) ∈ lw_all := List.mem_filter.mpr ⟨List.mem_of_getElem? (i := 939) rfl, rfl⟩
set_option maxRecDepth 100000 in
theorem q_940 : (Cond.selects RX6 yX6_leftWithout yX6_leftWithout) ∈ lw_all := List.mem_filter.mpr ⟨List.mem_of_getElem? (i := 940) rfl, rfl⟩
set_option maxRecDepth 100000 in
theorem q_941 : (Cond.code yX6_leftWithout prog_8_method_62_code (4 : Nat) (Option.some FieldType.int)) ∈ lw_all := List.mem_filter.mpr ⟨List.mem_of_getElem? (i := 941) rfl, rfl⟩
set_option maxRecDepth 100000 in
theorem q_942 : (Cond.methodLink RL (127 : Nat) yX6_fullness) ∈ lw_all := List.mem_filter.mpr ⟨List.mem_of_getElem? (i := 942) rfl, rfl⟩
set_option maxRecDepth 100000 in
theorem q_943 : (Cond.instanceMethod yX6_fullness) ∈ lw_all := List.mem_filter.mpr ⟨List.mem_of_getElem? (i := 943) rfl, rfl⟩
set_option maxRecDepth 100000 in
theorem q_944 : (Cond.selects RX6 yX6_fullness yX6_fullness) ∈ lw_all := List.mem_filter.mpr ⟨List.mem_of_getElem? (i := 944) rfl, rfl⟩
set_option maxRecDepth 100000 in
theorem q_945 : (Cond.code yX6_fullness prog_8_method_63_code (3 : Nat) (Option.some FieldType.double)) ∈ lw_all := List.mem_filter.mpr ⟨List.mem_of_getElem? (i := 945) rfl, rfl⟩
def lw_nst : List Cond := [(Cond.methodLinkNest RX4 (32 : Nat) yX1_init "HallStiles"), (Cond.fieldLinkNest RX5 (209 : Nat) "HallStiles$Counters" "counts" "[I" "HallStiles"), (Cond.fieldLinkNest RX5 (104 : Nat) "HallStiles$Counters" "slips" "[I" "HallStiles"), (Cond.fieldLinkNest RX5 (212 : Nat) "HallStiles$Counters" "missed" "[I" "HallStiles"), (Cond.fieldLinkNest RX5 (88 : Nat) "HallStiles$State" "rooms" "[I" "HallStiles"), (Cond.fieldLinkNest RX5 (84 : Nat) "HallStiles$State" "people" "[I" "HallStiles"), (Cond.fieldLinkNest RX5 (203 : Nat) "HallStiles$State" "firsts" "[I" "HallStiles"), (Cond.fieldLinkNest RX5 (206 : Nat) "HallStiles$State" "seconds" "[I" "HallStiles"), (Cond.fieldLinkNest RX5 (69 : Nat) "HallStiles$State" "ways" "[I" "HallStiles"), (Cond.fieldLinkNest RX5 (138 : Nat) "HallStiles$State" "repairs" "[I" "HallStiles"), (Cond.fieldLinkNest RX5 (100 : Nat) "HallStiles$State" "counters" "LHallStiles$Counters;" "HallStiles"), (Cond.fieldLinkNest RX5 (53 : Nat) "HallStiles$State" "stiles" "I" "HallStiles"), (Cond.fieldLinkNest RX0 (24 : Nat) "HallStiles$State" "stiles" "I" "HallStiles"), (Cond.fieldLinkNest RX0 (45 : Nat) "HallStiles$State" "rate" "I" "HallStiles"), (Cond.fieldLinkNest RX5 (155 : Nat) "HallStiles$State" "rate" "I" "HallStiles"), (Cond.fieldLinkNest RX5 (158 : Nat) "HallStiles$State" "repairHours" "I" "HallStiles"), (Cond.fieldLinkNest RX5 (135 : Nat) "HallStiles$State" "clock" "I" "HallStiles"), (Cond.fieldLinkNest RX5 (181 : Nat) "HallStiles$History" "size" "I" "HallStiles"), (Cond.methodLinkNest RX5 (31 : Nat) yX0_init "HallStiles"), (Cond.methodLinkNest RX5 (38 : Nat) yX3_init "HallStiles"), (Cond.fieldLinkNest RX5 (161 : Nat) "HallStiles$Script" "length" "I" "HallStiles"), (Cond.fieldLinkNest RX5 (265 : Nat) "HallStiles$Script" "orderStile" "I" "HallStiles"), (Cond.fieldLinkNest RX5 (249 : Nat) "HallStiles$Script" "orderKind" "I" "HallStiles"), (Cond.fieldLinkNest RX5 (262 : Nat) "HallStiles$Script" "orderNumber" "I" "HallStiles"), (Cond.methodLinkNest RX4 (50 : Nat) yX5_copyRow "HallStiles"), (Cond.methodLinkNest RX1 (24 : Nat) yX5_copyRow "HallStiles"), (Cond.methodLinkNest RX4 (58 : Nat) yX5_put "HallStiles"), (Cond.methodLinkNest RX1 (28 : Nat) yX5_put "HallStiles"), (Cond.methodLinkNest RX4 (62 : Nat) yX5_at "HallStiles"), (Cond.methodLinkNest RX4 (104 : Nat) yX5_add "HallStiles"), (Cond.methodLinkNest RX4 (98 : Nat) yX5_counterIndex "HallStiles"), (Cond.methodLinkNest RX1 (32 : Nat) yX5_at "HallStiles"), (Cond.methodLinkNest RX1 (36 : Nat) yX5_add "HallStiles"), (Cond.methodLinkNest RX1 (39 : Nat) yX5_counterIndex "HallStiles"), (Cond.methodLinkNest RX0 (61 : Nat) yX5_put "HallStiles"), (Cond.methodLinkNest RX0 (19 : Nat) yX5_at "HallStiles"), (Cond.methodLinkNest RX3 (31 : Nat) yX5_put "HallStiles"), (Cond.methodLinkNest RX3 (35 : Nat) yX5_at "HallStiles")]
def lw_isNst : Cond → Bool
  | .fieldLinkNest .. => true
  | .methodLinkNest .. => true
  | _ => false
theorem lw_nst_all : lw_nst.all lw_isNst = true := rfl
theorem k_0 : (Cond.methodLinkNest RX4 (32 : Nat) yX1_init "HallStiles") ∈ lw_nst := List.mem_of_getElem? (i := 0) rfl
set_option maxRecDepth 100000 in
theorem kt_0 : (Cond.methodLinkNest RX4 (32 : Nat) yX1_init "HallStiles") ∈ lw_tbl := List.mem_of_getElem? (i := 74) rfl
theorem k_1 : (Cond.fieldLinkNest RX5 (209 : Nat) "HallStiles$Counters" "counts" "[I" "HallStiles") ∈ lw_nst := List.mem_of_getElem? (i := 1) rfl
set_option maxRecDepth 100000 in
theorem kt_1 : (Cond.fieldLinkNest RX5 (209 : Nat) "HallStiles$Counters" "counts" "[I" "HallStiles") ∈ lw_tbl := List.mem_of_getElem? (i := 79) rfl
theorem k_2 : (Cond.fieldLinkNest RX5 (104 : Nat) "HallStiles$Counters" "slips" "[I" "HallStiles") ∈ lw_nst := List.mem_of_getElem? (i := 2) rfl
set_option maxRecDepth 100000 in
theorem kt_2 : (Cond.fieldLinkNest RX5 (104 : Nat) "HallStiles$Counters" "slips" "[I" "HallStiles") ∈ lw_tbl := List.mem_of_getElem? (i := 81) rfl
theorem k_3 : (Cond.fieldLinkNest RX5 (212 : Nat) "HallStiles$Counters" "missed" "[I" "HallStiles") ∈ lw_nst := List.mem_of_getElem? (i := 3) rfl
set_option maxRecDepth 100000 in
theorem kt_3 : (Cond.fieldLinkNest RX5 (212 : Nat) "HallStiles$Counters" "missed" "[I" "HallStiles") ∈ lw_tbl := List.mem_of_getElem? (i := 84) rfl
theorem k_4 : (Cond.fieldLinkNest RX5 (88 : Nat) "HallStiles$State" "rooms" "[I" "HallStiles") ∈ lw_nst := List.mem_of_getElem? (i := 4) rfl
set_option maxRecDepth 100000 in
theorem kt_4 : (Cond.fieldLinkNest RX5 (88 : Nat) "HallStiles$State" "rooms" "[I" "HallStiles") ∈ lw_tbl := List.mem_of_getElem? (i := 96) rfl
theorem k_5 : (Cond.fieldLinkNest RX5 (84 : Nat) "HallStiles$State" "people" "[I" "HallStiles") ∈ lw_nst := List.mem_of_getElem? (i := 5) rfl
set_option maxRecDepth 100000 in
theorem kt_5 : (Cond.fieldLinkNest RX5 (84 : Nat) "HallStiles$State" "people" "[I" "HallStiles") ∈ lw_tbl := List.mem_of_getElem? (i := 98) rfl
theorem k_6 : (Cond.fieldLinkNest RX5 (203 : Nat) "HallStiles$State" "firsts" "[I" "HallStiles") ∈ lw_nst := List.mem_of_getElem? (i := 6) rfl
set_option maxRecDepth 100000 in
theorem kt_6 : (Cond.fieldLinkNest RX5 (203 : Nat) "HallStiles$State" "firsts" "[I" "HallStiles") ∈ lw_tbl := List.mem_of_getElem? (i := 100) rfl
theorem k_7 : (Cond.fieldLinkNest RX5 (206 : Nat) "HallStiles$State" "seconds" "[I" "HallStiles") ∈ lw_nst := List.mem_of_getElem? (i := 7) rfl
set_option maxRecDepth 100000 in
theorem kt_7 : (Cond.fieldLinkNest RX5 (206 : Nat) "HallStiles$State" "seconds" "[I" "HallStiles") ∈ lw_tbl := List.mem_of_getElem? (i := 102) rfl
theorem k_8 : (Cond.fieldLinkNest RX5 (69 : Nat) "HallStiles$State" "ways" "[I" "HallStiles") ∈ lw_nst := List.mem_of_getElem? (i := 8) rfl
set_option maxRecDepth 100000 in
theorem kt_8 : (Cond.fieldLinkNest RX5 (69 : Nat) "HallStiles$State" "ways" "[I" "HallStiles") ∈ lw_tbl := List.mem_of_getElem? (i := 104) rfl
theorem k_9 : (Cond.fieldLinkNest RX5 (138 : Nat) "HallStiles$State" "repairs" "[I" "HallStiles") ∈ lw_nst := List.mem_of_getElem? (i := 9) rfl
set_option maxRecDepth 100000 in
theorem kt_9 : (Cond.fieldLinkNest RX5 (138 : Nat) "HallStiles$State" "repairs" "[I" "HallStiles") ∈ lw_tbl := List.mem_of_getElem? (i := 106) rfl
theorem k_10 : (Cond.fieldLinkNest RX5 (100 : Nat) "HallStiles$State" "counters" "LHallStiles$Counters;" "HallStiles") ∈ lw_nst := List.mem_of_getElem? (i := 10) rfl
set_option maxRecDepth 100000 in
theorem kt_10 : (Cond.fieldLinkNest RX5 (100 : Nat) "HallStiles$State" "counters" "LHallStiles$Counters;" "HallStiles") ∈ lw_tbl := List.mem_of_getElem? (i := 108) rfl
theorem k_11 : (Cond.fieldLinkNest RX5 (53 : Nat) "HallStiles$State" "stiles" "I" "HallStiles") ∈ lw_nst := List.mem_of_getElem? (i := 11) rfl
set_option maxRecDepth 100000 in
theorem kt_11 : (Cond.fieldLinkNest RX5 (53 : Nat) "HallStiles$State" "stiles" "I" "HallStiles") ∈ lw_tbl := List.mem_of_getElem? (i := 110) rfl
theorem k_12 : (Cond.fieldLinkNest RX0 (24 : Nat) "HallStiles$State" "stiles" "I" "HallStiles") ∈ lw_nst := List.mem_of_getElem? (i := 12) rfl
set_option maxRecDepth 100000 in
theorem kt_12 : (Cond.fieldLinkNest RX0 (24 : Nat) "HallStiles$State" "stiles" "I" "HallStiles") ∈ lw_tbl := List.mem_of_getElem? (i := 111) rfl
theorem k_13 : (Cond.fieldLinkNest RX0 (45 : Nat) "HallStiles$State" "rate" "I" "HallStiles") ∈ lw_nst := List.mem_of_getElem? (i := 13) rfl
set_option maxRecDepth 100000 in
theorem kt_13 : (Cond.fieldLinkNest RX0 (45 : Nat) "HallStiles$State" "rate" "I" "HallStiles") ∈ lw_tbl := List.mem_of_getElem? (i := 113) rfl
theorem k_14 : (Cond.fieldLinkNest RX5 (155 : Nat) "HallStiles$State" "rate" "I" "HallStiles") ∈ lw_nst := List.mem_of_getElem? (i := 14) rfl
set_option maxRecDepth 100000 in
theorem kt_14 : (Cond.fieldLinkNest RX5 (155 : Nat) "HallStiles$State" "rate" "I" "HallStiles") ∈ lw_tbl := List.mem_of_getElem? (i := 114) rfl
theorem k_15 : (Cond.fieldLinkNest RX5 (158 : Nat) "HallStiles$State" "repairHours" "I" "HallStiles") ∈ lw_nst := List.mem_of_getElem? (i := 15) rfl
set_option maxRecDepth 100000 in
theorem kt_15 : (Cond.fieldLinkNest RX5 (158 : Nat) "HallStiles$State" "repairHours" "I" "HallStiles") ∈ lw_tbl := List.mem_of_getElem? (i := 116) rfl
theorem k_16 : (Cond.fieldLinkNest RX5 (135 : Nat) "HallStiles$State" "clock" "I" "HallStiles") ∈ lw_nst := List.mem_of_getElem? (i := 16) rfl
set_option maxRecDepth 100000 in
theorem kt_16 : (Cond.fieldLinkNest RX5 (135 : Nat) "HallStiles$State" "clock" "I" "HallStiles") ∈ lw_tbl := List.mem_of_getElem? (i := 118) rfl
theorem k_17 : (Cond.fieldLinkNest RX5 (181 : Nat) "HallStiles$History" "size" "I" "HallStiles") ∈ lw_nst := List.mem_of_getElem? (i := 17) rfl
set_option maxRecDepth 100000 in
theorem kt_17 : (Cond.fieldLinkNest RX5 (181 : Nat) "HallStiles$History" "size" "I" "HallStiles") ∈ lw_tbl := List.mem_of_getElem? (i := 154) rfl
theorem k_18 : (Cond.methodLinkNest RX5 (31 : Nat) yX0_init "HallStiles") ∈ lw_nst := List.mem_of_getElem? (i := 18) rfl
set_option maxRecDepth 100000 in
theorem kt_18 : (Cond.methodLinkNest RX5 (31 : Nat) yX0_init "HallStiles") ∈ lw_tbl := List.mem_of_getElem? (i := 164) rfl
theorem k_19 : (Cond.methodLinkNest RX5 (38 : Nat) yX3_init "HallStiles") ∈ lw_nst := List.mem_of_getElem? (i := 19) rfl
set_option maxRecDepth 100000 in
theorem kt_19 : (Cond.methodLinkNest RX5 (38 : Nat) yX3_init "HallStiles") ∈ lw_tbl := List.mem_of_getElem? (i := 174) rfl
theorem k_20 : (Cond.fieldLinkNest RX5 (161 : Nat) "HallStiles$Script" "length" "I" "HallStiles") ∈ lw_nst := List.mem_of_getElem? (i := 20) rfl
set_option maxRecDepth 100000 in
theorem kt_20 : (Cond.fieldLinkNest RX5 (161 : Nat) "HallStiles$Script" "length" "I" "HallStiles") ∈ lw_tbl := List.mem_of_getElem? (i := 180) rfl
theorem k_21 : (Cond.fieldLinkNest RX5 (265 : Nat) "HallStiles$Script" "orderStile" "I" "HallStiles") ∈ lw_nst := List.mem_of_getElem? (i := 21) rfl
set_option maxRecDepth 100000 in
theorem kt_21 : (Cond.fieldLinkNest RX5 (265 : Nat) "HallStiles$Script" "orderStile" "I" "HallStiles") ∈ lw_tbl := List.mem_of_getElem? (i := 183) rfl
theorem k_22 : (Cond.fieldLinkNest RX5 (249 : Nat) "HallStiles$Script" "orderKind" "I" "HallStiles") ∈ lw_nst := List.mem_of_getElem? (i := 22) rfl
set_option maxRecDepth 100000 in
theorem kt_22 : (Cond.fieldLinkNest RX5 (249 : Nat) "HallStiles$Script" "orderKind" "I" "HallStiles") ∈ lw_tbl := List.mem_of_getElem? (i := 185) rfl
theorem k_23 : (Cond.fieldLinkNest RX5 (262 : Nat) "HallStiles$Script" "orderNumber" "I" "HallStiles") ∈ lw_nst := List.mem_of_getElem? (i := 23) rfl
set_option maxRecDepth 100000 in
theorem kt_23 : (Cond.fieldLinkNest RX5 (262 : Nat) "HallStiles$Script" "orderNumber" "I" "HallStiles") ∈ lw_tbl := List.mem_of_getElem? (i := 187) rfl
theorem k_24 : (Cond.methodLinkNest RX4 (50 : Nat) yX5_copyRow "HallStiles") ∈ lw_nst := List.mem_of_getElem? (i := 24) rfl
set_option maxRecDepth 100000 in
theorem kt_24 : (Cond.methodLinkNest RX4 (50 : Nat) yX5_copyRow "HallStiles") ∈ lw_tbl := List.mem_of_getElem? (i := 245) rfl
theorem k_25 : (Cond.methodLinkNest RX1 (24 : Nat) yX5_copyRow "HallStiles") ∈ lw_nst := List.mem_of_getElem? (i := 25) rfl
set_option maxRecDepth 100000 in
theorem kt_25 : (Cond.methodLinkNest RX1 (24 : Nat) yX5_copyRow "HallStiles") ∈ lw_tbl := List.mem_of_getElem? (i := 252) rfl
theorem k_26 : (Cond.methodLinkNest RX4 (58 : Nat) yX5_put "HallStiles") ∈ lw_nst := List.mem_of_getElem? (i := 26) rfl
set_option maxRecDepth 100000 in
theorem kt_26 : (Cond.methodLinkNest RX4 (58 : Nat) yX5_put "HallStiles") ∈ lw_tbl := List.mem_of_getElem? (i := 257) rfl
theorem k_27 : (Cond.methodLinkNest RX1 (28 : Nat) yX5_put "HallStiles") ∈ lw_nst := List.mem_of_getElem? (i := 27) rfl
set_option maxRecDepth 100000 in
theorem kt_27 : (Cond.methodLinkNest RX1 (28 : Nat) yX5_put "HallStiles") ∈ lw_tbl := List.mem_of_getElem? (i := 297) rfl
theorem k_28 : (Cond.methodLinkNest RX4 (62 : Nat) yX5_at "HallStiles") ∈ lw_nst := List.mem_of_getElem? (i := 28) rfl
set_option maxRecDepth 100000 in
theorem kt_28 : (Cond.methodLinkNest RX4 (62 : Nat) yX5_at "HallStiles") ∈ lw_tbl := List.mem_of_getElem? (i := 317) rfl
theorem k_29 : (Cond.methodLinkNest RX4 (104 : Nat) yX5_add "HallStiles") ∈ lw_nst := List.mem_of_getElem? (i := 29) rfl
set_option maxRecDepth 100000 in
theorem kt_29 : (Cond.methodLinkNest RX4 (104 : Nat) yX5_add "HallStiles") ∈ lw_tbl := List.mem_of_getElem? (i := 349) rfl
theorem k_30 : (Cond.methodLinkNest RX4 (98 : Nat) yX5_counterIndex "HallStiles") ∈ lw_nst := List.mem_of_getElem? (i := 30) rfl
set_option maxRecDepth 100000 in
theorem kt_30 : (Cond.methodLinkNest RX4 (98 : Nat) yX5_counterIndex "HallStiles") ∈ lw_tbl := List.mem_of_getElem? (i := 352) rfl
theorem k_31 : (Cond.methodLinkNest RX1 (32 : Nat) yX5_at "HallStiles") ∈ lw_nst := List.mem_of_getElem? (i := 31) rfl
set_option maxRecDepth 100000 in
theorem kt_31 : (Cond.methodLinkNest RX1 (32 : Nat) yX5_at "HallStiles") ∈ lw_tbl := List.mem_of_getElem? (i := 357) rfl
theorem k_32 : (Cond.methodLinkNest RX1 (36 : Nat) yX5_add "HallStiles") ∈ lw_nst := List.mem_of_getElem? (i := 32) rfl
set_option maxRecDepth 100000 in
theorem kt_32 : (Cond.methodLinkNest RX1 (36 : Nat) yX5_add "HallStiles") ∈ lw_tbl := List.mem_of_getElem? (i := 358) rfl
theorem k_33 : (Cond.methodLinkNest RX1 (39 : Nat) yX5_counterIndex "HallStiles") ∈ lw_nst := List.mem_of_getElem? (i := 33) rfl
set_option maxRecDepth 100000 in
theorem kt_33 : (Cond.methodLinkNest RX1 (39 : Nat) yX5_counterIndex "HallStiles") ∈ lw_tbl := List.mem_of_getElem? (i := 367) rfl
theorem k_34 : (Cond.methodLinkNest RX0 (61 : Nat) yX5_put "HallStiles") ∈ lw_nst := List.mem_of_getElem? (i := 34) rfl
set_option maxRecDepth 100000 in
theorem kt_34 : (Cond.methodLinkNest RX0 (61 : Nat) yX5_put "HallStiles") ∈ lw_tbl := List.mem_of_getElem? (i := 430) rfl
theorem k_35 : (Cond.methodLinkNest RX0 (19 : Nat) yX5_at "HallStiles") ∈ lw_nst := List.mem_of_getElem? (i := 35) rfl
set_option maxRecDepth 100000 in
theorem kt_35 : (Cond.methodLinkNest RX0 (19 : Nat) yX5_at "HallStiles") ∈ lw_tbl := List.mem_of_getElem? (i := 439) rfl
theorem k_36 : (Cond.methodLinkNest RX3 (31 : Nat) yX5_put "HallStiles") ∈ lw_nst := List.mem_of_getElem? (i := 36) rfl
set_option maxRecDepth 100000 in
theorem kt_36 : (Cond.methodLinkNest RX3 (31 : Nat) yX5_put "HallStiles") ∈ lw_tbl := List.mem_of_getElem? (i := 470) rfl
theorem k_37 : (Cond.methodLinkNest RX3 (35 : Nat) yX5_at "HallStiles") ∈ lw_nst := List.mem_of_getElem? (i := 37) rfl
set_option maxRecDepth 100000 in
theorem kt_37 : (Cond.methodLinkNest RX3 (35 : Nat) yX5_at "HallStiles") ∈ lw_tbl := List.mem_of_getElem? (i := 483) rfl
theorem lw_nst_tbl : ∀ w ∈ lw_nst, w ∈ lw_tbl := List.forall_mem_cons.mpr ⟨kt_0, List.forall_mem_cons.mpr ⟨kt_1, List.forall_mem_cons.mpr ⟨kt_2, List.forall_mem_cons.mpr ⟨kt_3, List.forall_mem_cons.mpr ⟨kt_4, List.forall_mem_cons.mpr ⟨kt_5, List.forall_mem_cons.mpr ⟨kt_6, List.forall_mem_cons.mpr ⟨kt_7, List.forall_mem_cons.mpr ⟨kt_8, List.forall_mem_cons.mpr ⟨kt_9, List.forall_mem_cons.mpr ⟨kt_10, List.forall_mem_cons.mpr ⟨kt_11, List.forall_mem_cons.mpr ⟨kt_12, List.forall_mem_cons.mpr ⟨kt_13, List.forall_mem_cons.mpr ⟨kt_14, List.forall_mem_cons.mpr ⟨kt_15, List.forall_mem_cons.mpr ⟨kt_16, List.forall_mem_cons.mpr ⟨kt_17, List.forall_mem_cons.mpr ⟨kt_18, List.forall_mem_cons.mpr ⟨kt_19, List.forall_mem_cons.mpr ⟨kt_20, List.forall_mem_cons.mpr ⟨kt_21, List.forall_mem_cons.mpr ⟨kt_22, List.forall_mem_cons.mpr ⟨kt_23, List.forall_mem_cons.mpr ⟨kt_24, List.forall_mem_cons.mpr ⟨kt_25, List.forall_mem_cons.mpr ⟨kt_26, List.forall_mem_cons.mpr ⟨kt_27, List.forall_mem_cons.mpr ⟨kt_28, List.forall_mem_cons.mpr ⟨kt_29, List.forall_mem_cons.mpr ⟨kt_30, List.forall_mem_cons.mpr ⟨kt_31, List.forall_mem_cons.mpr ⟨kt_32, List.forall_mem_cons.mpr ⟨kt_33, List.forall_mem_cons.mpr ⟨kt_34, List.forall_mem_cons.mpr ⟨kt_35, List.forall_mem_cons.mpr ⟨kt_36, List.forall_mem_cons.mpr ⟨kt_37, fun _ h => absurd h List.not_mem_nil⟩⟩⟩⟩⟩⟩⟩⟩⟩⟩⟩⟩⟩⟩⟩⟩⟩⟩⟩⟩⟩⟩⟩⟩⟩⟩⟩⟩⟩⟩⟩⟩⟩⟩⟩⟩⟩⟩
theorem uw0 : ∀ w ∈ u_ws RX0 TX0 1, w ∈ lw_all := by
  show ∀ w ∈ (List.range 1).map (u_lay RX0 TX0), w ∈ lw_all
  exact List.forall_mem_cons.mpr ⟨q_169, fun _ h => absurd h List.not_mem_nil⟩
theorem uw1 : ∀ w ∈ u_ws RX1 TX1 4, w ∈ lw_all := by
  show ∀ w ∈ (List.range 4).map (u_lay RX1 TX1), w ∈ lw_all
  exact List.forall_mem_cons.mpr ⟨q_85, List.forall_mem_cons.mpr ⟨q_87, List.forall_mem_cons.mpr ⟨q_89, List.forall_mem_cons.mpr ⟨q_91, fun _ h => absurd h List.not_mem_nil⟩⟩⟩⟩
theorem uw2 : ∀ w ∈ u_ws RX2 TX2 3, w ∈ lw_all := by
  show ∀ w ∈ (List.range 3).map (u_lay RX2 TX2), w ∈ lw_all
  exact List.forall_mem_cons.mpr ⟨q_155, List.forall_mem_cons.mpr ⟨q_157, List.forall_mem_cons.mpr ⟨q_159, fun _ h => absurd h List.not_mem_nil⟩⟩⟩
theorem uw3 : ∀ w ∈ u_ws RX3 TX3 6, w ∈ lw_all := by
  show ∀ w ∈ (List.range 6).map (u_lay RX3 TX3), w ∈ lw_all
  exact List.forall_mem_cons.mpr ⟨q_188, List.forall_mem_cons.mpr ⟨q_190, List.forall_mem_cons.mpr ⟨q_192, List.forall_mem_cons.mpr ⟨q_194, List.forall_mem_cons.mpr ⟨q_196, List.forall_mem_cons.mpr ⟨q_198, fun _ h => absurd h List.not_mem_nil⟩⟩⟩⟩⟩⟩
theorem uw4 : ∀ w ∈ u_ws RX4 TX4 11, w ∈ lw_all := by
  show ∀ w ∈ (List.range 11).map (u_lay RX4 TX4), w ∈ lw_all
  exact List.forall_mem_cons.mpr ⟨q_119, List.forall_mem_cons.mpr ⟨q_121, List.forall_mem_cons.mpr ⟨q_123, List.forall_mem_cons.mpr ⟨q_125, List.forall_mem_cons.mpr ⟨q_127, List.forall_mem_cons.mpr ⟨q_129, List.forall_mem_cons.mpr ⟨q_131, List.forall_mem_cons.mpr ⟨q_133, List.forall_mem_cons.mpr ⟨q_135, List.forall_mem_cons.mpr ⟨q_137, List.forall_mem_cons.mpr ⟨q_139, fun _ h => absurd h List.not_mem_nil⟩⟩⟩⟩⟩⟩⟩⟩⟩⟩⟩
theorem uw5 : ∀ w ∈ u_ws RX5 TX5 7, w ∈ lw_all := by
  show ∀ w ∈ (List.range 7).map (u_lay RX5 TX5), w ∈ lw_all
  exact List.forall_mem_cons.mpr ⟨q_208, List.forall_mem_cons.mpr ⟨q_210, List.forall_mem_cons.mpr ⟨q_212, List.forall_mem_cons.mpr ⟨q_214, List.forall_mem_cons.mpr ⟨q_216, List.forall_mem_cons.mpr ⟨q_218, List.forall_mem_cons.mpr ⟨q_220, fun _ h => absurd h List.not_mem_nil⟩⟩⟩⟩⟩⟩⟩
theorem uw6 : ∀ w ∈ u_ws RX6 TX6 11, w ∈ lw_all := by
  show ∀ w ∈ (List.range 11).map (u_lay RX6 TX6), w ∈ lw_all
  exact List.forall_mem_cons.mpr ⟨q_674, List.forall_mem_cons.mpr ⟨q_676, List.forall_mem_cons.mpr ⟨q_678, List.forall_mem_cons.mpr ⟨q_680, List.forall_mem_cons.mpr ⟨q_682, List.forall_mem_cons.mpr ⟨q_684, List.forall_mem_cons.mpr ⟨q_686, List.forall_mem_cons.mpr ⟨q_688, List.forall_mem_cons.mpr ⟨q_690, List.forall_mem_cons.mpr ⟨q_692, List.forall_mem_cons.mpr ⟨q_694, fun _ h => absurd h List.not_mem_nil⟩⟩⟩⟩⟩⟩⟩⟩⟩⟩⟩
end
section
abbrev Row : Type := Nat → Int32
abbrev Blk : Type := Nat → Nat → Int32
/-- the tables' kinds, and the array classes of ints, chars and states -/
abbrev Gl : Type := va_G × ClassId × ClassId × ClassId
def TY (g : Gl) : List (ClassId × FieldType) := [(g.2.1, .int), (g.2.2.1, .char), (g.2.2.2, .object RX4)]
def upR (σ : Blk) (p : Nat) (f : Row) : Blk := fun q => cond (Nat.beq q p) f (σ q)
def up (σ : Blk) (p i : Nat) (v : Int32) : Blk := upR σ p (upd (σ p) i v)
def b2i (b : Bool) : Int32 := cond b 1 0
abbrev Ctx : Type := (Program × Launch × Env × Room) × (State × MethodId × Array Value × List Frame) × (Method × Code × Nat × Nat) × (Gl × (Nat → Prop) × Nat × (State → Prop))
abbrev Ctx.p (x : Ctx) : Program := x.1.1
abbrev Ctx.l (x : Ctx) : Launch := x.1.2.1
abbrev Ctx.e (x : Ctx) : Env := x.1.2.2.1
abbrev Ctx.R (x : Ctx) : Room := x.1.2.2.2
abbrev Ctx.s (x : Ctx) : State := x.2.1.1
abbrev Ctx.m (x : Ctx) : MethodId := x.2.1.2.1
abbrev Ctx.args (x : Ctx) : Array Value := x.2.1.2.2.1
abbrev Ctx.below (x : Ctx) : List Frame := x.2.1.2.2.2
abbrev Ctx.meth (x : Ctx) : Method := x.2.2.1.1
abbrev Ctx.c (x : Ctx) : Code := x.2.2.1.2.1
abbrev Ctx.cells (x : Ctx) : Nat := x.2.2.1.2.2.1
abbrev Ctx.slots (x : Ctx) : Nat := x.2.2.1.2.2.2
abbrev Ctx.g (x : Ctx) : Gl := x.2.2.2.1
abbrev Ctx.A (x : Ctx) : Nat → Prop := x.2.2.2.2.1
abbrev Ctx.nL (x : Ctx) : Nat := x.2.2.2.2.2.1
abbrev Ctx.Q (x : Ctx) : State → Prop := x.2.2.2.2.2.2
/-- at pc, with the world w, the locals L, the stack st: the machine comes to its end -/
def V (x : Ctx) (w : va_W) (L : List (Nat × Value)) (st : List Value) (pc : Nat) : Prop :=
  ∀ (H : Heap) (locs : List Loc) (ls : Array Slot), va_P x.g.1 vwCl w H → va_D x.A w → va_S x.A x.s.heap H locs → lv_has ls x.nL L → W x.p x.l x.e x.R x.s x.m x.args x.below x.meth x.c H locs x.cells x.slots x.Q (F0 x.m pc ls st)
/-- what stays while a method runs -/
def Cx (x : Ctx) (own : String) (cc : ByteArray) (nl fr lo : Nat) : Prop :=
  x.p.tables.exec = Jvm.exec ∧ x.c.code = cc ∧ x.c.maxLocals = x.nL ∧ x.s.vm.findClass own = some x.m.cls ∧ (∀ w ∈ lw_all, w.before x.args x.s = true) ∧ (∀ w ∈ lw_nst, va_Nw w x.s) ∧ va_K x.g.1 vwCl (TY x.g) x.s ∧ (∀ q : Nat, x.s.heap.size ≤ q → x.A q) ∧ fr ≤ x.R.frames ∧ lo ≤ x.R.locals ∧ x.cells ≤ x.R.cells ∧ x.slots ≤ x.R.slots ∧ x.nL = nl
def Qf (g : Gl) (A : Nat → Prop) (r : Option Value) (w' : va_W) : Array Value → State → Outcome → State → Prop := fun _ st oc t => (oc = .returned r ∧ va_P g.1 vwCl w' t.heap ∧ va_D A w') ∧ va_F A st t
/-- the end: what the method returns, and the world behind it -/
def Fn (x : Ctx) (ret : Option FieldType) (r : Option Value) (w' : va_W) : Prop :=
  x.meth.sig.returnType = ret ∧ x.meth.locks = false ∧ x.Q = MQ x.below (Qf x.g x.A r w') x.args x.s x.cells x.slots x.A
def Pq (g : Gl) (w : va_W) (sz : Nat) : State → Prop := fun U => U.heap.size = sz ∧ va_P g.1 vwCl w U.heap ∧ va_K g.1 vwCl (TY g) U ∧ va_D (fun _ => True) w ∧ ∀ q ∈ lw_nst, va_Nw q U
/-- a method's contract: on the world w, with these arguments, it returns r and leaves w' -/
def Ok (l : Launch) (g : Gl) (y : MethodName) (cc : ByteArray) (maxL : Nat) (ret : Option FieldType) (fr lo : Nat) (av : List Value) (w : va_W) (r : Option Value) (w' : va_W) : Prop :=
  ∀ sz : Nat, Met l y (Cond.code y cc maxL ret :: lw_all) ({ frames := fr, cells := 0, slots := 0, locals := lo } : Room) (va_Pc av (Pq g w sz)) (Qf g (va_A w sz) r w') 0 0 (va_A w sz)
theorem nst_moved {s U : State} (hW : s.WarmedH U.vm) (h : ∀ w ∈ lw_nst, va_Nw w s) : ∀ w ∈ lw_nst, va_Nw w U := by
  intro w hw
  have h1 := h w hw
  have hk : lw_isNst w = true := List.all_eq_true.mp lw_nst_all w hw
  cases w <;> first | exact va_Nw.warmF hW h1 | exact va_Nw.warmM hW h1 | (exact absurd hk (by decide)) | (simp [lw_isNst] at hk)
theorem nst_calling {U : State} {g : JFrame} {mk : MethodId} {a : Array Value} (h : ∀ w ∈ lw_nst, va_Nw w U) : ∀ w ∈ lw_nst, va_Nw w (U.calling g mk a) := by
  intro w hw
  have h1 := h w hw
  have hk : lw_isNst w = true := List.all_eq_true.mp lw_nst_all w hw
  have ho : w.onTables = true := by
    cases w <;> first | rfl | (simp [lw_isNst] at hk)
  exact va_Nw.same ho (u := U) (U := U.calling g mk a) rfl h1
theorem Pq.blind {g : Gl} {w : va_W} {sz : Nat} {av : List Value} : FrameBlind (va_Pc av (Pq g w sz)) := by
  intro a U g' mk q
  obtain ⟨q0, q1, qP, qK, qD, qN⟩ := q
  exact ⟨q0, q1, qP, va_K.moved (u := U) (U := U.calling g' mk a) (Vm.Alike.refl U.vm) qK, qD, nst_calling qN⟩
theorem gw {w : Cond} (h : w ∈ lw_all) : (w.onTables && w.keeps) = true ∨ ∃ ty, w = .arrayClass ty := good_of_word (List.mem_filter.mp h).2
theorem lw_all_tbl {w : Cond} (h : w ∈ lw_all) : w ∈ lw_tbl := (List.mem_filter.mp h).1
/-- a contract out of one walk from the entry -/
theorem Ok.of {l : Launch} {g : Gl} {y : MethodName} {cc : ByteArray} {maxL : Nat} {ret : Option FieldType} {fr lo : Nat} {av : List Value} {w : va_W} {r : Option Value} {w' : va_W} (own : String) (hy : plainName y.cls = true) (ho : y.cls = own) (hn : (lg_sl av).length ≤ maxL)
    (body : ∀ x : Ctx, x.l = l → x.g = g → Cx x own cc maxL fr lo → Fn x ret r w' → V x w (lv_args 0 av) [] 0) : Ok l g y cc maxL ret fr lo av w r w' := by
  intro sz
  refine Met.ofW (cc := cc) (maxL := maxL) (ret := ret) hy rfl ?_
  intro p e s m args below meth c s₁ B hml hv
  obtain ⟨rfl, hsz, hP, hK, hD0, hN⟩ := hv
  have hts := atoms_spec (ws := Cond.code y cc maxL ret :: lw_all) B.pre
  have hown : s.vm.findClass own = some m.cls := ho ▸ findClass_of_methodNamed B.named
  subst hsz
  have hD := hD0.self (sz := s.heap.size)
  rw [lg_entry_eq]
  have hl := lv_entry av (n := maxL) hn
  exact body ((p, l, e, (headSpec (Cond.code y cc maxL ret :: lw_all) ({ frames := fr, cells := 0, slots := 0, locals := lo } : Room)).room), (s, m, av.toArray, below), (meth, c, 0, 0), (g, va_A w s.heap.size, maxL, _)) rfl rfl
    ⟨B.exec, B.bytes, hml, hown, fun w h => hts w (List.mem_cons_of_mem _ h), hN, hK, fun q h => Or.inr h, Nat.le_refl _, Nat.le_refl _, Nat.le_refl _, Nat.le_refl _, rfl⟩
    ⟨B.returns, B.notSynchronized, rfl⟩ s.heap [] _ hP hD va_S.rf hl
/-- the world w' is w with its part wc become wc', every cell where it was -/
def Fr (w wc wc' w' : va_W) : Prop := ∃ is : List Nat, is.map (fun i => w[i]?) = wc.map some ∧ va_nd is = true ∧ w'.map Prod.fst = w.map Prod.fst ∧ wc'.map Prod.fst = wc.map Prod.fst ∧ ∀ (k : Nat) (q : Nat × va_E), w'[k]? = some q → (∃ j : Nat, is[j]? = some k ∧ wc'[j]? = some q) ∨ (k ∉ is ∧ w[k]? = some q)
/-- the k-th cell, or the part's cell that takes its place -/
def pick : List Nat → va_W → Nat → (Nat × va_E) → (Nat × va_E)
  | i :: is, c :: cs, k, q => cond (Nat.beq k i) c (pick is cs k q)
  | _, _, _, q => q
def mixA (is : List Nat) (wc' : va_W) : Nat → va_W → va_W
  | _, [] => []
  | k, q :: w => pick is wc' k q :: mixA is wc' (k + 1) w
theorem pick_spec : ∀ (is : List Nat) (cs : va_W) (k : Nat) (q : Nat × va_E), is.length = cs.length → (∃ j : Nat, is[j]? = some k ∧ cs[j]? = some (pick is cs k q)) ∨ (k ∉ is ∧ pick is cs k q = q)
  | [], cs, k, q, _ => Or.inr ⟨List.not_mem_nil, by cases cs <;> rfl⟩
  | i :: is, [], k, q, h => by simp at h
  | i :: is, c :: cs, k, q, h => by
    by_cases hk : k = i
    · subst hk
      exact Or.inl ⟨0, rfl, by simp [pick]⟩
    · have hb : Nat.beq k i = false := by
        cases hh : Nat.beq k i with
        | false => rfl
        | true => exact absurd (Nat.eq_of_beq_eq_true hh) hk
      have e : pick (i :: is) (c :: cs) k q = pick is cs k q := by simp [pick, hb]
      rw [e]
      rcases pick_spec is cs k q (by simpa using h) with ⟨j, h1, h2⟩ | ⟨h1, h2⟩
      · exact Or.inl ⟨j + 1, by simpa using h1, by simpa using h2⟩
      · exact Or.inr ⟨by simp [hk, h1], h2⟩
theorem mixA_get (is : List Nat) (wc' : va_W) : ∀ (w : va_W) (k0 k : Nat), (mixA is wc' k0 w)[k]? = (w[k]?).map (fun q => pick is wc' (k0 + k) q)
  | [], k0, k => by simp [mixA]
  | q :: w, k0, 0 => by simp [mixA]
  | q :: w, k0, k + 1 => by
    have h := mixA_get is wc' w (k0 + 1) k
    simp only [mixA, List.getElem?_cons_succ]
    rw [h, show k0 + 1 + k = k0 + (k + 1) by omega]
theorem Fr.of {w wc wc' w' : va_W} (is : List Nat) (h1 : is.map (fun i => w[i]?) = wc.map some) (hn : va_nd is = true) (hw : mixA is wc' 0 w = w') (ha : wc'.map Prod.fst = wc.map Prod.fst) (ha' : w'.map Prod.fst = w.map Prod.fst) : Fr w wc wc' w' := by
  refine ⟨is, h1, hn, ha', ha, fun k q hk => ?_⟩
  rw [← hw, mixA_get, Nat.zero_add] at hk
  have hlen : is.length = wc'.length := by
    have e1 := congrArg List.length h1
    have e2 := congrArg List.length ha
    simp at e1 e2
    omega
  cases hwk : w[k]? with
  | none => rw [hwk] at hk; cases hk
  | some q0 =>
    rw [hwk] at hk
    have hq : pick is wc' k q0 = q := Option.some.inj hk
    rcases pick_spec is wc' k q0 hlen with ⟨j, h3, h4⟩ | ⟨h3, h4⟩
    · exact Or.inl ⟨j, h3, by rw [h4, hq]⟩
    · exact Or.inr ⟨h3, by rw [← hq, h4]⟩
theorem Fr.all {w w' : va_W} (ha : w'.map Prod.fst = w.map Prod.fst) : Fr w w w' w' := by
  refine ⟨List.range w.length, ?_, ?_, ha, ha, fun k q hk => Or.inl ⟨k, ?_, hk⟩⟩
  · apply List.ext_getElem?
    intro i
    by_cases h : i < w.length
    · simp [h]
    · simp [h]
  · have key : ∀ (n k : Nat), va_nd (List.range' k n) = true := by
      intro n
      induction n with
      | zero => intro k; rfl
      | succ n ih =>
        intro k
        simp only [List.range'_succ, va_nd, Bool.and_eq_true, decide_eq_true_eq]
        exact ⟨by simp [List.mem_range']; omega, ih _⟩
    rw [List.range_eq_range']
    exact key _ _
  · have h1 : k < w'.length := (List.getElem?_eq_some_iff.mp hk).1
    have h2 := congrArg List.length ha
    simp at h2
    simp only [List.getElem?_range (show k < w.length by omega)]
theorem Fr.sub {w wc wc' w' : va_W} (h : Fr w wc wc' w') : ∀ (k : Nat) (q : Nat × va_E), wc[k]? = some q → ∃ i : Nat, w[i]? = some q := by
  obtain ⟨is, h1, -⟩ := h
  intro k q hq
  have h2 : (is.map (fun i => w[i]?))[k]? = some (some q) := by rw [h1, List.getElem?_map, hq]; rfl
  rw [List.getElem?_map] at h2
  cases hi : is[k]? with
  | none => rw [hi] at h2; cases h2
  | some i => rw [hi] at h2; exact ⟨i, Option.some.inj h2⟩
theorem Fr.P {D : va_G} {cl : List vw_C} {H : Heap} {w wc wc' w' : va_W} (h : Fr w wc wc' w') (hP : va_P D cl w H) : va_P D cl wc H := by
  intro k q hq
  obtain ⟨i, hi⟩ := h.sub k q hq
  exact hP i q hi
theorem Fr.D {A : Nat → Prop} {w wc wc' w' : va_W} (h : Fr w wc wc' w') (hD : va_D A w) : va_D A wc := by
  obtain ⟨is, h1, h2, -⟩ := h
  exact hD.sub is h2 h1
theorem Fr.free {A : Nat → Prop} {H0 H : Heap} {locs : List Loc} {w wc wc' w' : va_W} (h : Fr w wc wc' w') (hD : va_D A w) (hS : va_S A H0 H locs) (hA : ∀ q, H0.size ≤ q → A q) : ∀ q, va_A wc H.size q → A q := by
  obtain ⟨is, h1, -⟩ := h
  exact va_free hD hS hA is h1
theorem Fr.D' {A : Nat → Prop} {w wc wc' w' : va_W} (h : Fr w wc wc' w') (hD : va_D A w) : va_D A w' := by
  obtain ⟨is, h1, h2, h3, -⟩ := h
  have key : ∀ (k : Nat) (q : Nat × va_E), w'[k]? = some q → ∃ q0, w[k]? = some q0 ∧ q0.1 = q.1 := by
    intro k q hk
    have e1 : (w'.map Prod.fst)[k]? = some q.1 := by rw [List.getElem?_map, hk]; rfl
    rw [h3, List.getElem?_map] at e1
    cases hw : w[k]? with
    | none => rw [hw] at e1; cases e1
    | some q0 => rw [hw] at e1; exact ⟨q0, rfl, Option.some.inj e1⟩
  refine ⟨fun i j p q hi hj hpq => ?_, fun k q hk => ?_⟩
  · obtain ⟨p0, h5, h6⟩ := key i p hi
    obtain ⟨q0, h7, h8⟩ := key j q hj
    exact hD.1 i j p0 q0 h5 h7 (by rw [h6, h8, hpq])
  · obtain ⟨q0, h5, h6⟩ := key k q hk
    rw [← h6]
    exact hD.2 k q0 h5
theorem Fr.P' {D : va_G} {cl : List vw_C} {A : Nat → Prop} {H H1 : Heap} {w wc wc' w' : va_W} (h : Fr w wc wc' w') (hP : va_P D cl w H) (hD : va_D A w) (hk : ∀ q : Nat, q < H.size → ¬ va_A wc H.size q → H1[q]? = H[q]?) (hP1 : va_P D cl wc' H1) : va_P D cl w' H1 := by
  obtain ⟨is, h1, h2, h3, h4, h5⟩ := h
  intro k q hq
  rcases h5 k q hq with ⟨j, h6, h7⟩ | ⟨h6, h7⟩
  · exact hP1 j q h7
  · have hl := (hP k q h7).lt
    refine (hP k q h7).kept (hk q.1 hl ?_)
    rintro (⟨j, e, hj⟩ | hj)
    · have e1 : (is.map (fun i => w[i]?))[j]? = some (some (q.1, e)) := by rw [h1, List.getElem?_map, hj]; rfl
      rw [List.getElem?_map] at e1
      cases hi : is[j]? with
      | none => rw [hi] at e1; cases e1
      | some i =>
        rw [hi] at e1
        have hki := hD.1 k i q (q.1, e) h7 (Option.some.inj e1) rfl
        exact h6 (by rw [hki]; exact List.mem_of_getElem? hi)
    · omega
theorem Fr.nil {w : va_W} : Fr w [] [] w := ⟨[], rfl, rfl, rfl, rfl, fun k q h => Or.inr ⟨List.not_mem_nil, h⟩⟩
def minF (a b : Int32) : Int32 := if b < a then b else a
def maxF (a b : Int32) : Int32 := if a < b then b else a
def absF (a : Int32) : Int32 := if 0 ≤ a then a else 0 - a
def i2cF (a : Int32) : Int32 := (a.toUInt32 % 65536).toInt32
def FU : Nat := 4294967296
def lt {α β : Type} (v : α) (f : α → β) : β := f v
theorem lts {α β : Type} {v : α} {f : α → β} {r : β} (h : lt v f = r) : ∃ a, v = a ∧ f a = r := ⟨v, rfl, h⟩
theorem hp {c : Prop} {dc : Decidable c} {α : Type} {a b r : α} (hc : c) (h : (@ite _ c dc a b) = r) : a = r := by rw [if_pos hc] at h; exact h
theorem hn {c : Prop} {dc : Decidable c} {α : Type} {a b r : α} (hc : ¬ c) (h : (@ite _ c dc a b) = r) : b = r := by rw [if_neg hc] at h; exact h
theorem nbt {b : Bool} (h : b = false) : ¬ b = true := by rw [h]; exact Bool.false_ne_true
def ib (i : Int32) (n : Nat) : Bool := decide (0 ≤ i.toInt) && decide (i.toInt < (n : Int))
theorem ib_iff {i : Int32} {n : Nat} : ib i n = true ↔ 0 ≤ i.toInt ∧ i.toInt < (n : Int) := by simp [ib]
theorem ib_in {i : Int32} {n : Nat} (h : ib i n = true) : vp_in i n := vp_in_iff.mpr (ib_iff.mp h)
def isCh (v : Int32) : Bool := decide (0 ≤ v.toInt) && decide (v.toInt < 65536)
theorem isCh_nI {v : Int32} (h : isCh v = true) : ∃ q : Nat, q < 65536 ∧ v = nI q := by
  have h1 : 0 ≤ v.toInt ∧ v.toInt < 65536 := by simpa [isCh] using h
  refine ⟨v.toInt.toNat, by omega, Int32.toInt_inj.mp ?_⟩
  rw [nI_toInt (by omega)]
  omega
theorem nar_c {v : Int32} (h : isCh v = true) : narrow .char (.int v) = .int v := by
  obtain ⟨q, hq, rfl⟩ := isCh_nI h
  exact (pk_charN hq).1
theorem fit_c {v : Int32} (h : isCh v = true) : fits .char (.int v) = true := by
  obtain ⟨q, hq, rfl⟩ := isCh_nI h
  exact (pk_charN hq).2
theorem fit_b (b : Bool) : fits .boolean (.int (b2i b)) = true := by cases b <;> rfl
def wRow (g : Gl) (b n : Nat) (f : Row) : Nat × va_E := (b, .inl (g.2.1, n, .inl f))
def wSt (g : Gl) (a : Nat → Nat) (σ : Blk) : va_W := [(a 0, .inr (4, [.ref (a 1), .ref (a 2), .ref (a 3), .ref (a 4), .ref (a 5), .ref (a 6), .ref (a 11), .int (σ 0 0), .int (σ 0 1), .int (σ 0 2), .int (σ 0 3)])),
  (a 1, .inl (g.2.1, 6, .inl (σ 1))), (a 2, .inl (g.2.1, 6, .inl (σ 2))), (a 3, .inl (g.2.1, 12, .inl (σ 3))), (a 4, .inl (g.2.1, 12, .inl (σ 4))), (a 5, .inl (g.2.1, 12, .inl (σ 5))), (a 6, .inl (g.2.1, 12, .inl (σ 6))),
  (a 7, .inl (g.2.1, 48, .inl (σ 7))), (a 8, .inl (g.2.1, 48, .inl (σ 8))), (a 9, .inl (g.2.1, 48, .inl (σ 9))), (a 10, .inl (g.2.1, 48, .inl (σ 10))), (a 11, .inr (1, [.ref (a 7), .ref (a 8), .ref (a 9), .ref (a 10)]))]
def wCl (g : Gl) (a : Nat → Nat) (δ : Row) : va_W := [(a 0, .inr (0, [.ref (a 1)])), (a 1, .inl (g.2.1, 6, .inl δ))]
def wSc (g : Gl) (a : Nat → Nat) (χ : Blk) : va_W := [(a 0, .inr (3, [.ref (a 1), .int (χ 0 0), .int (χ 0 1), .int (χ 0 2), .int (χ 0 3), .int (χ 0 4)])), (a 1, .inl (g.2.1, 60, .inl (χ 1)))]
def wHi (g : Gl) (a : Nat → Nat) (c : Nat → Nat → Nat) (h : Row) (η : Nat → Blk) : va_W := (a 0, .inr (2, [.ref (a 1), .int (h 0), .int (h 1)])) :: (a 1, .inl (g.2.2.2, 5, .inr (.inr (.inr (.inr (fun j => some (c j 0))))))) :: (wSt g (c 0) (η 0) ++ (wSt g (c 1) (η 1) ++ (wSt g (c 2) (η 2) ++ (wSt g (c 3) (η 3) ++ wSt g (c 4) (η 4)))))
def wHS (g : Gl) (b : Nat → Nat → Nat) (hs : Int32) (n0 n1 n2 : Blk) (h : Row) (η : Nat → Blk) (δ : Row) (χ : Blk) : va_W := (b 11 0, .inr (5, [.ref (b 0 0), .ref (b 1 0), .ref (b 2 0), .ref (b 8 0), .ref (b 9 0), .ref (b 10 0), .int hs])) :: (wSt g (b 0) n0 ++ (wSt g (b 1) n1 ++ (wSt g (b 2) n2 ++ (wHi g (b 8) (fun j => b (j + 3)) h η ++ (wCl g (b 9) δ ++ wSc g (b 10) χ)))))
def wM (g : Gl) (a : Nat → Nat) (μ : Blk) : va_W := [(a 0, .inr (6, [.ref (a 1), .int (μ 0 0), .int (μ 0 1), .ref (a 2), .int (μ 0 2), .ref (a 3), .int (μ 0 3), .int (μ 0 4), .int (μ 0 5), .int (μ 0 6), .int (μ 0 7)])), (a 1, .inl (g.2.1, 2048, .inl (μ 1))), (a 2, .inl (g.2.2.1, 60, .inl (μ 2))), (a 3, .inl (g.2.1, 6, .inl (μ 3)))]
section ROWS
variable {x : Ctx} {own : String} {cc : ByteArray} {nl fr lo : Nat} {w w' : va_W} {L : List (Nat × Value)} {st : List Value} {pc : Nat}
/-- a call of a method with a contract, from what the machine says of its run -/
theorem v_run (X : Cx x own cc nl fr lo) {wc wc' : va_W} {r : Option Value} {rest st0 : List Value} {aa : Array Value} (F : Fr w wc wc' w')
    (hr : ∀ (H : Heap) (locs : List Loc) (ls : Array Slot), va_P x.g.1 vwCl wc H → va_P x.g.1 vwCl w H → va_D (fun _ => True) wc → lv_has ls x.nL L → va_Run x.p x.l x.e x.R x.s x.m x.args x.below x.meth x.c H locs x.cells x.slots 0 0 (F0 x.m pc ls st0) rest (Qf x.g (va_A wc H.size) r wc' aa) (va_A wc H.size))
    (kk : V x w' L (r.toList ++ rest) (pc + 3)) : V x w L st0 pc := by
  intro H locs ls hP hD hS hl T hT X0
  have hPc := F.P hP
  have hDc := F.D hD
  have hFc := F.free hD hS X.2.2.2.2.2.2.2.1
  obtain ⟨v, st₀, t, T', Lc, h0, X', hL, e1, e2, ⟨⟨hv, hP1, hD1⟩, hz, hk⟩, stp⟩ := hr H locs ls hPc hP (hDc.weaken (fun _ _ _ _ => trivial)) hl T hT X0
  have hvr : v = r := Outcome.returned.inj hv
  subst hvr
  rw [h0] at hz hk
  have hS' : va_S x.A x.s.heap T'.heap (locs ++ Lc) := ⟨Nat.le_trans hS.1 (by rw [e1]; exact hz), fun q h1 h2 => by rw [e1, hk q (Nat.lt_of_lt_of_le h1 hS.1) (fun z => h2 (hFc q z))]; exact hS.2.1 q h1 h2, fun q hq => by
      rcases List.mem_append.mp hq with h | h
      · exact hS.2.2 q h
      · exact hFc _ (hL q h)⟩
  obtain ⟨t2, a1, b1⟩ := kk T'.heap (locs ++ Lc) ls (F.P' hP hD (fun q h1 h2 => by rw [e1]; exact hk q h1 h2) (by rw [e1]; exact hP1)) (F.D' hD) hS' hl T' rfl X'
  exact ⟨t2, stp t2 a1, b1⟩
/-- what the tables say of a callee: by its link in the caller's class -/
def CwB (y : MethodName) (cc' : ByteArray) (maxL' : Nat) (ret' : Option FieldType) (n : Nat) : Prop :=
  Cond.code y cc' maxL' ret' ∈ lw_all ∧ Cond.initialized y.cls ∈ lw_all ∧ y.cls ≠ "java/lang/invoke/MethodHandle" ∧ y.cls ≠ "java/lang/invoke/VarHandle" ∧ (parseMethodDescriptor y.desc).map (fun d => d.parameters.length) = some n
theorem CwB.B (X : Cx x own cc nl fr lo) {y : MethodName} {cc' : ByteArray} {maxL' : Nat} {ret' : Option FieldType} {n : Nat} (c : CwB y cc' maxL' ret' n) {index fr' lo' : Nat} (hl : Cond.methodLink own index y ∈ lw_all) (h1 : fr' + 1 ≤ fr) (h2 : 8 + (maxL' + 11) + lo' ≤ lo) :
    CallB x.R x.s x.args own index y cc' maxL' ret' (Cond.code y cc' maxL' ret' :: lw_all) ({ frames := fr', cells := 0, slots := 0, locals := lo' } : Room) 0 0 n :=
  callB_of n (Ts := lw_all) X.2.2.2.2.1 (fun w h => by rcases List.mem_cons.mp h with rfl | h; exact ⟨c.1, gw c.1⟩; exact ⟨h, gw h⟩) rfl rfl rfl (X.2.2.2.2.1 _ c.2.1) (X.2.2.2.2.1 _ hl) c.2.2 ⟨Nat.le_trans h1 X.2.2.2.2.2.2.2.2.1, Nat.le_trans h2 X.2.2.2.2.2.2.2.2.2.1⟩
theorem CwB.N (X : Cx x own cc nl fr lo) {y : MethodName} {cc' : ByteArray} {maxL' : Nat} {ret' : Option FieldType} {n : Nat} (c : CwB y cc' maxL' ret' n) {index fr' lo' : Nat} {host : String} (hl : Cond.methodLinkNest own index y host ∈ lw_nst) (h1 : fr' + 1 ≤ fr) (h2 : 8 + (maxL' + 11) + lo' ≤ lo) :
    va_CN x.R x.s x.args own index y host cc' maxL' ret' (Cond.code y cc' maxL' ret' :: lw_all) ({ frames := fr', cells := 0, slots := 0, locals := lo' } : Room) 0 0 n :=
  va_cnB n (Ts := lw_all) X.2.2.2.2.1 (fun w h => by rcases List.mem_cons.mp h with rfl | h; exact ⟨c.1, gw c.1⟩; exact ⟨h, gw h⟩) rfl rfl rfl (X.2.2.2.2.2.1 _ hl) (X.2.2.2.2.1 _ c.2.1) c.2.2 ⟨Nat.le_trans h1 X.2.2.2.2.2.2.2.2.1, Nat.le_trans h2 X.2.2.2.2.2.2.2.2.2.1⟩
theorem v_pre (X : Cx x own cc nl fr lo) {wc : va_W} {av : List Value} {H : Heap} (hPc : va_P x.g.1 vwCl wc H) (hDc : va_D (fun _ => True) wc) : ∀ U : State, U.heap = H → x.s.WarmedH U.vm → va_Pc av (Pq x.g wc H.size) av.toArray U :=
  fun U hU hW => ⟨rfl, by rw [hU], by rw [hU]; exact hPc, va_K.moved hW.alike X.2.2.2.2.2.2.1, hDc, nst_moved hW X.2.2.2.2.2.1⟩
theorem v_callV (X : Cx x own cc nl fr lo) {y : MethodName} {cc' : ByteArray} {maxL' : Nat} {ret' : Option FieldType} {n index fr' lo' b : Nat} {wc wc' : va_W} {r : Option Value}
    {st0 st1 : List Value} (As rest : List Value) (hM : Ok x.l x.g y cc' maxL' ret' fr' lo' (.ref b :: As) wc r wc') (h0 : st0 = As.reverse ++ .ref b :: rest) (h1 : r.toList ++ rest = st1) (c : CwB y cc' maxL' ret' n) (hl : Cond.methodLink own index y ∈ lw_all) (hi : Cond.instanceMethod y ∈ lw_all) (hs : Cond.selects y.cls y y ∈ lw_all)
    (hR : fr' + 1 ≤ fr ∧ 8 + (maxL' + 11) + lo' ≤ lo) (q0 ci : Nat) {fs : List Value} (he : w[q0]? = some (b, .inr (ci, fs))) {cq : vw_C} (hc : vwCl[ci]? = some cq) (hcq : cq.1 = y.cls) (F : Fr w wc wc' w') (hn : As.length = n) (hst : (rest.map fun v => v.category).sum ≤ 8) (d : decode cc pc = .ok (.invokevirtual index, 3))
    (kk : V x w' L st1 (pc + 3)) : V x w L st0 pc := by
  subst h0; subst h1
  refine v_run X (aa := (Value.ref b :: As).toArray) F (fun H locs ls hPc hP hDc hlv => ?_) kk
  exact va_runV (As := As) (rest := rest) ⟨X.1, X.2.1, rfl, X.2.2.2.1, X.2.2.2.2.1⟩ (hM H.size) ⟨c.B X hl hR.1 hR.2, X.2.2.2.2.1 _ hi, X.2.2.2.2.1 _ hs⟩
    ⟨Pq.blind, by rw [← hcq]; exact va_recv X.2.2.2.2.2.2.1 hP hc he, v_pre X hPc hDc⟩ rfl hn (hlv.1.trans X.2.2.1.symm) rfl (lv_room hst) d ⟨X.2.2.2.2.2.2.2.2.2.2.1, X.2.2.2.2.2.2.2.2.2.2.2.1⟩
theorem v_callVN (X : Cx x own cc nl fr lo) {y : MethodName} {cc' : ByteArray} {maxL' : Nat} {ret' : Option FieldType} {n index fr' lo' b : Nat} {host : String} {wc wc' : va_W} {r : Option Value}
    {st0 st1 : List Value} (As rest : List Value) (hM : Ok x.l x.g y cc' maxL' ret' fr' lo' (.ref b :: As) wc r wc') (h0 : st0 = As.reverse ++ .ref b :: rest) (h1 : r.toList ++ rest = st1) (c : CwB y cc' maxL' ret' n) (hl : Cond.methodLinkNest own index y host ∈ lw_nst) (hi : Cond.instanceMethod y ∈ lw_all) (hs : Cond.selects y.cls y y ∈ lw_all)
    (hR : fr' + 1 ≤ fr ∧ 8 + (maxL' + 11) + lo' ≤ lo) (q0 ci : Nat) {fs : List Value} (he : w[q0]? = some (b, .inr (ci, fs))) {cq : vw_C} (hc : vwCl[ci]? = some cq) (hcq : cq.1 = y.cls) (F : Fr w wc wc' w') (hn : As.length = n) (hst : (rest.map fun v => v.category).sum ≤ 8) (d : decode cc pc = .ok (.invokevirtual index, 3))
    (kk : V x w' L st1 (pc + 3)) : V x w L st0 pc := by
  subst h0; subst h1
  refine v_run X (aa := (Value.ref b :: As).toArray) F (fun H locs ls hPc hP hDc hlv => ?_) kk
  exact va_runVN (C := y.cls) (As := As) (rest := rest) ⟨X.1, X.2.1, rfl, X.2.2.2.1, X.2.2.2.2.1⟩ (hM H.size) ⟨c.N X hl hR.1 hR.2, X.2.2.2.2.1 _ hi, X.2.2.2.2.1 _ hs⟩
    ⟨Pq.blind, by rw [← hcq]; exact va_recv X.2.2.2.2.2.2.1 hP hc he, v_pre X hPc hDc⟩ rfl hn (hlv.1.trans X.2.2.1.symm) rfl (lv_room hst) d ⟨X.2.2.2.2.2.2.2.2.2.2.1, X.2.2.2.2.2.2.2.2.2.2.2.1⟩
theorem v_callS (X : Cx x own cc nl fr lo) {y : MethodName} {cc' : ByteArray} {maxL' : Nat} {ret' : Option FieldType} {n index fr' lo' : Nat} {wc wc' : va_W} {r : Option Value}
    {st0 st1 : List Value} (As rest : List Value) (hM : Ok x.l x.g y cc' maxL' ret' fr' lo' As wc r wc') (h0 : st0 = As.reverse ++ rest) (h1 : r.toList ++ rest = st1) (c : CwB y cc' maxL' ret' n) (hl : Cond.methodLink own index y ∈ lw_all) (hs : Cond.static y ∈ lw_all)
    (hR : fr' + 1 ≤ fr ∧ 8 + (maxL' + 11) + lo' ≤ lo) (F : Fr w wc wc' w') (hn : As.length = n) (hst : (rest.map fun v => v.category).sum ≤ 8) (d : decode cc pc = .ok (.invokestatic index, 3))
    (kk : V x w' L st1 (pc + 3)) : V x w L st0 pc := by
  subst h0; subst h1
  refine v_run X (aa := As.toArray) F (fun H locs ls hPc hP hDc hlv => ?_) kk
  exact va_runS (As := As) (rest := rest) ⟨X.1, X.2.1, rfl, X.2.2.2.1, X.2.2.2.2.1⟩ (hM H.size) ⟨c.B X hl hR.1 hR.2, X.2.2.2.2.1 _ hs⟩
    ⟨Pq.blind, v_pre X hPc hDc⟩ rfl hn (hlv.1.trans X.2.2.1.symm) rfl (lv_room hst) d ⟨X.2.2.2.2.2.2.2.2.2.2.1, X.2.2.2.2.2.2.2.2.2.2.2.1⟩
theorem v_callSN (X : Cx x own cc nl fr lo) {y : MethodName} {cc' : ByteArray} {maxL' : Nat} {ret' : Option FieldType} {n index fr' lo' : Nat} {host : String} {wc wc' : va_W} {r : Option Value}
    {st0 st1 : List Value} (As rest : List Value) (hM : Ok x.l x.g y cc' maxL' ret' fr' lo' As wc r wc') (h0 : st0 = As.reverse ++ rest) (h1 : r.toList ++ rest = st1) (c : CwB y cc' maxL' ret' n) (hl : Cond.methodLinkNest own index y host ∈ lw_nst) (hs : Cond.static y ∈ lw_all)
    (hR : fr' + 1 ≤ fr ∧ 8 + (maxL' + 11) + lo' ≤ lo) (F : Fr w wc wc' w') (hn : As.length = n) (hst : (rest.map fun v => v.category).sum ≤ 8) (d : decode cc pc = .ok (.invokestatic index, 3))
    (kk : V x w' L st1 (pc + 3)) : V x w L st0 pc := by
  subst h0; subst h1
  refine v_run X (aa := As.toArray) F (fun H locs ls hPc hP hDc hlv => ?_) kk
  exact va_runSN (As := As) (rest := rest) ⟨X.1, X.2.1, rfl, X.2.2.2.1, X.2.2.2.2.1⟩ (hM H.size) ⟨c.N X hl hR.1 hR.2, X.2.2.2.2.1 _ hs, trivial⟩
    ⟨Pq.blind, v_pre X hPc hDc⟩ rfl hn (hlv.1.trans X.2.2.1.symm) rfl (lv_room hst) d ⟨X.2.2.2.2.2.2.2.2.2.2.1, X.2.2.2.2.2.2.2.2.2.2.2.1⟩

theorem v_iconst (X : Cx x own cc nl fr lo) {n : Int} {v : Int32} (d : decode cc pc = .ok (.iconst n, 1)) (hv : Int32.ofInt n = v) (kk : V x w L (.int v :: st) (pc + 1)) : V x w L (st) pc := fun H locs ls hP hD hS hl => lv_iconst X.1 X.2.1 d hv (kk H locs ls hP hD hS hl)
theorem v_bipush (X : Cx x own cc nl fr lo) {n : Int} {v : Int32} (d : decode cc pc = .ok (.bipush n, 2)) (hv : (Int8.ofInt n).toInt32 = v) (kk : V x w L (.int v :: st) (pc + 2)) : V x w L (st) pc := fun H locs ls hP hD hS hl => lv_bipush X.1 X.2.1 d hv (kk H locs ls hP hD hS hl)
theorem v_sipush (X : Cx x own cc nl fr lo) {n : Int} {v : Int32} (d : decode cc pc = .ok (.sipush n, 3)) (hv : (Int16.ofInt n).toInt32 = v) (kk : V x w L (.int v :: st) (pc + 3)) : V x w L (st) pc := fun H locs ls hP hD hS hl => lv_sipush X.1 X.2.1 d hv (kk H locs ls hP hD hS hl)
theorem v_iload_n (X : Cx x own cc nl fr lo) {k : Fin 4} {i : Nat} {v : Int32} (d : decode cc pc = .ok (.iload_n k, 1)) (hi : (k : Nat) = i) (j : Nat) (hj : L[j]? = some (i, .int v)) (kk : V x w L (.int v :: st) (pc + 1)) : V x w L (st) pc := fun H locs ls hP hD hS hl => lv_iload_n X.1 X.2.1 d hi (lv_at hl j hj) (kk H locs ls hP hD hS hl)
theorem v_iload (X : Cx x own cc nl fr lo) {i : Nat} {v : Int32} (d : decode cc pc = .ok (.iload i, 2)) (j : Nat) (hj : L[j]? = some (i, .int v)) (kk : V x w L (.int v :: st) (pc + 2)) : V x w L (st) pc := fun H locs ls hP hD hS hl => lv_iload X.1 X.2.1 d (lv_at hl j hj) (kk H locs ls hP hD hS hl)
theorem v_aload_n (X : Cx x own cc nl fr lo) {k : Fin 4} {i : Nat} {v : Nat} (d : decode cc pc = .ok (.aload_n k, 1)) (hi : (k : Nat) = i) (j : Nat) (hj : L[j]? = some (i, .ref v)) (kk : V x w L (.ref v :: st) (pc + 1)) : V x w L (st) pc := fun H locs ls hP hD hS hl => lv_aload_n X.1 X.2.1 d hi (lv_at hl j hj) (kk H locs ls hP hD hS hl)
theorem v_aload (X : Cx x own cc nl fr lo) {i : Nat} {v : Nat} (d : decode cc pc = .ok (.aload i, 2)) (j : Nat) (hj : L[j]? = some (i, .ref v)) (kk : V x w L (.ref v :: st) (pc + 2)) : V x w L (st) pc := fun H locs ls hP hD hS hl => lv_aload X.1 X.2.1 d (lv_at hl j hj) (kk H locs ls hP hD hS hl)
theorem v_iadd (X : Cx x own cc nl fr lo) {a b : Int32} (d : decode cc pc = .ok (.iadd, 1)) (kk : V x w L (.int (a + b) :: st) (pc + 1)) : V x w L (.int b :: .int a :: st) pc := fun H locs ls hP hD hS hl => lv_iadd X.1 X.2.1 d (kk H locs ls hP hD hS hl)
theorem v_isub (X : Cx x own cc nl fr lo) {a b : Int32} (d : decode cc pc = .ok (.isub, 1)) (kk : V x w L (.int (a - b) :: st) (pc + 1)) : V x w L (.int b :: .int a :: st) pc := fun H locs ls hP hD hS hl => lv_isub X.1 X.2.1 d (kk H locs ls hP hD hS hl)
theorem v_imul (X : Cx x own cc nl fr lo) {a b : Int32} (d : decode cc pc = .ok (.imul, 1)) (kk : V x w L (.int (a * b) :: st) (pc + 1)) : V x w L (.int b :: .int a :: st) pc := fun H locs ls hP hD hS hl => lv_imul X.1 X.2.1 d (kk H locs ls hP hD hS hl)
theorem v_iand (X : Cx x own cc nl fr lo) {a b : Int32} (d : decode cc pc = .ok (.iand, 1)) (kk : V x w L (.int (a &&& b) :: st) (pc + 1)) : V x w L (.int b :: .int a :: st) pc := fun H locs ls hP hD hS hl => lv_iand X.1 X.2.1 d (kk H locs ls hP hD hS hl)
theorem v_ior (X : Cx x own cc nl fr lo) {a b : Int32} (d : decode cc pc = .ok (.ior, 1)) (kk : V x w L (.int (a ||| b) :: st) (pc + 1)) : V x w L (.int b :: .int a :: st) pc := fun H locs ls hP hD hS hl => lv_ior X.1 X.2.1 d (kk H locs ls hP hD hS hl)
theorem v_ineg (X : Cx x own cc nl fr lo) {a : Int32} (d : decode cc pc = .ok (.ineg, 1)) (kk : V x w L (.int (-a) :: st) (pc + 1)) : V x w L (.int a :: st) pc := fun H locs ls hP hD hS hl => lv_ineg X.1 X.2.1 d (kk H locs ls hP hD hS hl)
theorem v_idiv (X : Cx x own cc nl fr lo) {a b : Int32} (d : decode cc pc = .ok (.idiv, 1)) (hne : ¬ b = 0) (kk : V x w L (.int (a / b) :: st) (pc + 1)) : V x w L (.int b :: .int a :: st) pc := fun H locs ls hP hD hS hl => lv_idiv X.1 X.2.1 d hne (kk H locs ls hP hD hS hl)
theorem v_irem (X : Cx x own cc nl fr lo) {a b : Int32} (d : decode cc pc = .ok (.irem, 1)) (hne : ¬ b = 0) (kk : V x w L (.int (a - a / b * b) :: st) (pc + 1)) : V x w L (.int b :: .int a :: st) pc := fun H locs ls hP hD hS hl => lv_irem X.1 X.2.1 d hne (kk H locs ls hP hD hS hl)
theorem v_i2c (X : Cx x own cc nl fr lo) {a v : Int32} (d : decode cc pc = .ok (.i2c, 1)) (hv : (a.toUInt32 % 65536).toInt32 = v) (kk : V x w L (.int v :: st) (pc + 1)) : V x w L (.int a :: st) pc := fun H locs ls hP hD hS hl => lv_i2c X.1 X.2.1 d hv (kk H locs ls hP hD hS hl)
theorem v_dup (X : Cx x own cc nl fr lo) {a : Value} (d : decode cc pc = .ok (.dup, 1)) (hc : a.category = 1) (kk : V x w L (a :: a :: st) (pc + 1)) : V x w L (a :: st) pc := fun H locs ls hP hD hS hl => lv_dup X.1 X.2.1 d hc (kk H locs ls hP hD hS hl)
theorem v_pop (X : Cx x own cc nl fr lo) {a : Value} (d : decode cc pc = .ok (.pop, 1)) (hc : a.category = 1) (kk : V x w L (st) (pc + 1)) : V x w L (a :: st) pc := fun H locs ls hP hD hS hl => lv_pop X.1 X.2.1 d hc (kk H locs ls hP hD hS hl)
theorem v_dup2 (X : Cx x own cc nl fr lo) {a b : Value} (d : decode cc pc = .ok (.dup2, 1)) (hc : a.category = 1) (hc2 : b.category = 1) (kk : V x w L (a :: b :: a :: b :: st) (pc + 1)) : V x w L (a :: b :: st) pc := fun H locs ls hP hD hS hl => lv_dup2_11 X.1 X.2.1 d hc hc2 (kk H locs ls hP hD hS hl)
theorem v_ldc (X : Cx x own cc nl fr lo) {index : Nat} {v : Int32} (hw : Cond.constant own index v ∈ lw_all) (d : decode cc pc = .ok (.ldc index, 2)) (kk : V x w L (.int v :: st) (pc + 2)) : V x w L (st) pc := fun H locs ls hP hD hS hl => lv_ldc X.1 X.2.1 X.2.2.2.1 (X.2.2.2.2.1 _ hw) d (kk H locs ls hP hD hS hl)
theorem v_ifnull (X : Cx x own cc nl fr lo) {a : Nat} {off : Int} (d : decode cc pc = .ok (.ifnull off, 3)) (kk : V x w L (st) (pc + 3)) : V x w L (.ref a :: st) pc := fun H locs ls hP hD hS hl => lv_ifnull X.1 X.2.1 d (kk H locs ls hP hD hS hl)
theorem v_istore_n (X : Cx x own cc nl fr lo) {k : Fin 4} {i : Nat} {v : Int32} {L2 : List (Nat × Value)} (d : decode cc pc = .ok (.istore_n k, 1)) (hi : (k : Nat) = i) (hn : i < nl) (hL : (i, Value.int v) :: L.filter (fun q => !(q.1 == i) && !(q.1 + 1 == i && q.2.category == 2)) = L2) (kk : V x w L2 st (pc + 1)) : V x w L (.int v :: st) pc := fun H locs ls hP hD hS hl => lv_istore_n X.1 X.2.1 d hi hl (by rw [X.2.2.2.2.2.2.2.2.2.2.2.2]; exact hn) hL (fun ls2 hl2 => kk H locs ls2 hP hD hS hl2)
theorem v_istore (X : Cx x own cc nl fr lo) {i : Nat} {v : Int32} {L2 : List (Nat × Value)} (d : decode cc pc = .ok (.istore i, 2)) (hn : i < nl) (hL : (i, Value.int v) :: L.filter (fun q => !(q.1 == i) && !(q.1 + 1 == i && q.2.category == 2)) = L2) (kk : V x w L2 st (pc + 2)) : V x w L (.int v :: st) pc := fun H locs ls hP hD hS hl => lv_istore X.1 X.2.1 d hl (by rw [X.2.2.2.2.2.2.2.2.2.2.2.2]; exact hn) hL (fun ls2 hl2 => kk H locs ls2 hP hD hS hl2)
theorem v_astore_n (X : Cx x own cc nl fr lo) {k : Fin 4} {i : Nat} {v : Nat} {L2 : List (Nat × Value)} (d : decode cc pc = .ok (.astore_n k, 1)) (hi : (k : Nat) = i) (hn : i < nl) (hL : (i, Value.ref v) :: L.filter (fun q => !(q.1 == i) && !(q.1 + 1 == i && q.2.category == 2)) = L2) (kk : V x w L2 st (pc + 1)) : V x w L (.ref v :: st) pc := fun H locs ls hP hD hS hl => lv_astore_n X.1 X.2.1 d hi hl (by rw [X.2.2.2.2.2.2.2.2.2.2.2.2]; exact hn) hL (fun ls2 hl2 => kk H locs ls2 hP hD hS hl2)
theorem v_astore (X : Cx x own cc nl fr lo) {i : Nat} {v : Nat} {L2 : List (Nat × Value)} (d : decode cc pc = .ok (.astore i, 2)) (hn : i < nl) (hL : (i, Value.ref v) :: L.filter (fun q => !(q.1 == i) && !(q.1 + 1 == i && q.2.category == 2)) = L2) (kk : V x w L2 st (pc + 2)) : V x w L (.ref v :: st) pc := fun H locs ls hP hD hS hl => lv_astore X.1 X.2.1 d hl (by rw [X.2.2.2.2.2.2.2.2.2.2.2.2]; exact hn) hL (fun ls2 hl2 => kk H locs ls2 hP hD hS hl2)
theorem v_iinc (X : Cx x own cc nl fr lo) {i : Nat} {n : Int} {u v : Int32} {L2 : List (Nat × Value)} (d : decode cc pc = .ok (.iinc i n, 3)) (j : Nat) (hj : L[j]? = some (i, .int u)) (hv : u + Int32.ofInt n = v) (hn : i < nl) (hL : (i, Value.int v) :: L.filter (fun q => !(q.1 == i) && !(q.1 + 1 == i && q.2.category == 2)) = L2) (kk : V x w L2 st (pc + 3)) : V x w L st pc := fun H locs ls hP hD hS hl => lv_iinc X.1 X.2.1 d hl hj hv (by rw [X.2.2.2.2.2.2.2.2.2.2.2.2]; exact hn) hL (fun ls2 hl2 => kk H locs ls2 hP hD hS hl2)
theorem v_ifeq (X : Cx x own cc nl fr lo) {a : Int32} {off : Int} {tgt : Nat} (d : decode cc pc = .ok (.ifCond .eq off, 3)) (ht : (pc : Int) + off = (tgt : Int)) (kt : a = 0 → V x w L st tgt) (kf : ¬ a = 0 → V x w L st (pc + 3)) : V x w L (.int a :: st) pc := fun H locs ls hP hD hS hl => lv_if_eq X.1 X.2.1 d ht (fun c => kt c H locs ls hP hD hS hl) (fun c => kf c H locs ls hP hD hS hl)
theorem v_ifne (X : Cx x own cc nl fr lo) {a : Int32} {off : Int} {tgt : Nat} (d : decode cc pc = .ok (.ifCond .ne off, 3)) (ht : (pc : Int) + off = (tgt : Int)) (kt : ¬ a = 0 → V x w L st tgt) (kf : a = 0 → V x w L st (pc + 3)) : V x w L (.int a :: st) pc := fun H locs ls hP hD hS hl => lv_if_ne X.1 X.2.1 d ht (fun c => kt c H locs ls hP hD hS hl) (fun c => kf c H locs ls hP hD hS hl)
theorem v_iflt (X : Cx x own cc nl fr lo) {a : Int32} {off : Int} {tgt : Nat} (d : decode cc pc = .ok (.ifCond .lt off, 3)) (ht : (pc : Int) + off = (tgt : Int)) (kt : a < 0 → V x w L st tgt) (kf : ¬ a < 0 → V x w L st (pc + 3)) : V x w L (.int a :: st) pc := fun H locs ls hP hD hS hl => lv_if_lt X.1 X.2.1 d ht (fun c => kt c H locs ls hP hD hS hl) (fun c => kf c H locs ls hP hD hS hl)
theorem v_ifge (X : Cx x own cc nl fr lo) {a : Int32} {off : Int} {tgt : Nat} (d : decode cc pc = .ok (.ifCond .ge off, 3)) (ht : (pc : Int) + off = (tgt : Int)) (kt : 0 ≤ a → V x w L st tgt) (kf : ¬ 0 ≤ a → V x w L st (pc + 3)) : V x w L (.int a :: st) pc := fun H locs ls hP hD hS hl => lv_if_ge X.1 X.2.1 d ht (fun c => kt c H locs ls hP hD hS hl) (fun c => kf c H locs ls hP hD hS hl)
theorem v_ifgt (X : Cx x own cc nl fr lo) {a : Int32} {off : Int} {tgt : Nat} (d : decode cc pc = .ok (.ifCond .gt off, 3)) (ht : (pc : Int) + off = (tgt : Int)) (kt : 0 < a → V x w L st tgt) (kf : ¬ 0 < a → V x w L st (pc + 3)) : V x w L (.int a :: st) pc := fun H locs ls hP hD hS hl => lv_if_gt X.1 X.2.1 d ht (fun c => kt c H locs ls hP hD hS hl) (fun c => kf c H locs ls hP hD hS hl)
theorem v_ifle (X : Cx x own cc nl fr lo) {a : Int32} {off : Int} {tgt : Nat} (d : decode cc pc = .ok (.ifCond .le off, 3)) (ht : (pc : Int) + off = (tgt : Int)) (kt : a ≤ 0 → V x w L st tgt) (kf : ¬ a ≤ 0 → V x w L st (pc + 3)) : V x w L (.int a :: st) pc := fun H locs ls hP hD hS hl => lv_if_le X.1 X.2.1 d ht (fun c => kt c H locs ls hP hD hS hl) (fun c => kf c H locs ls hP hD hS hl)
theorem v_icmpeq (X : Cx x own cc nl fr lo) {a b : Int32} {off : Int} {tgt : Nat} (d : decode cc pc = .ok (.if_icmp .eq off, 3)) (ht : (pc : Int) + off = (tgt : Int)) (kt : a = b → V x w L st tgt) (kf : ¬ a = b → V x w L st (pc + 3)) : V x w L (.int b :: .int a :: st) pc := fun H locs ls hP hD hS hl => lv_icmp_eq X.1 X.2.1 d ht (fun c => kt c H locs ls hP hD hS hl) (fun c => kf c H locs ls hP hD hS hl)
theorem v_icmpne (X : Cx x own cc nl fr lo) {a b : Int32} {off : Int} {tgt : Nat} (d : decode cc pc = .ok (.if_icmp .ne off, 3)) (ht : (pc : Int) + off = (tgt : Int)) (kt : ¬ a = b → V x w L st tgt) (kf : a = b → V x w L st (pc + 3)) : V x w L (.int b :: .int a :: st) pc := fun H locs ls hP hD hS hl => lv_icmp_ne X.1 X.2.1 d ht (fun c => kt c H locs ls hP hD hS hl) (fun c => kf c H locs ls hP hD hS hl)
theorem v_icmplt (X : Cx x own cc nl fr lo) {a b : Int32} {off : Int} {tgt : Nat} (d : decode cc pc = .ok (.if_icmp .lt off, 3)) (ht : (pc : Int) + off = (tgt : Int)) (kt : a < b → V x w L st tgt) (kf : ¬ a < b → V x w L st (pc + 3)) : V x w L (.int b :: .int a :: st) pc := fun H locs ls hP hD hS hl => lv_icmp_lt X.1 X.2.1 d ht (fun c => kt c H locs ls hP hD hS hl) (fun c => kf c H locs ls hP hD hS hl)
theorem v_icmpge (X : Cx x own cc nl fr lo) {a b : Int32} {off : Int} {tgt : Nat} (d : decode cc pc = .ok (.if_icmp .ge off, 3)) (ht : (pc : Int) + off = (tgt : Int)) (kt : b ≤ a → V x w L st tgt) (kf : ¬ b ≤ a → V x w L st (pc + 3)) : V x w L (.int b :: .int a :: st) pc := fun H locs ls hP hD hS hl => lv_icmp_ge X.1 X.2.1 d ht (fun c => kt c H locs ls hP hD hS hl) (fun c => kf c H locs ls hP hD hS hl)
theorem v_icmpgt (X : Cx x own cc nl fr lo) {a b : Int32} {off : Int} {tgt : Nat} (d : decode cc pc = .ok (.if_icmp .gt off, 3)) (ht : (pc : Int) + off = (tgt : Int)) (kt : b < a → V x w L st tgt) (kf : ¬ b < a → V x w L st (pc + 3)) : V x w L (.int b :: .int a :: st) pc := fun H locs ls hP hD hS hl => lv_icmp_gt X.1 X.2.1 d ht (fun c => kt c H locs ls hP hD hS hl) (fun c => kf c H locs ls hP hD hS hl)
theorem v_icmple (X : Cx x own cc nl fr lo) {a b : Int32} {off : Int} {tgt : Nat} (d : decode cc pc = .ok (.if_icmp .le off, 3)) (ht : (pc : Int) + off = (tgt : Int)) (kt : a ≤ b → V x w L st tgt) (kf : ¬ a ≤ b → V x w L st (pc + 3)) : V x w L (.int b :: .int a :: st) pc := fun H locs ls hP hD hS hl => lv_icmp_le X.1 X.2.1 d ht (fun c => kt c H locs ls hP hD hS hl) (fun c => kf c H locs ls hP hD hS hl)
theorem b2i_0 {b : Bool} : b2i b = 0 ↔ b = false := by cases b <;> decide
theorem b2i_n0 {b : Bool} : ¬ b2i b = 0 ↔ b = true := by cases b <;> decide
theorem v_ifeqB (X : Cx x own cc nl fr lo) {b : Bool} {off : Int} {tgt : Nat} (d : decode cc pc = .ok (.ifCond .eq off, 3)) (ht : (pc : Int) + off = (tgt : Int)) (kt : b = false → V x w L st tgt) (kf : b = true → V x w L st (pc + 3)) : V x w L (.int (b2i b) :: st) pc := v_ifeq X d ht (fun c => kt (b2i_0.mp c)) (fun c => kf (b2i_n0.mp c))
theorem v_ifneB (X : Cx x own cc nl fr lo) {b : Bool} {off : Int} {tgt : Nat} (d : decode cc pc = .ok (.ifCond .ne off, 3)) (ht : (pc : Int) + off = (tgt : Int)) (kt : b = true → V x w L st tgt) (kf : b = false → V x w L st (pc + 3)) : V x w L (.int (b2i b) :: st) pc := v_ifne X d ht (fun c => kt (b2i_n0.mp c)) (fun c => kf (b2i_0.mp c))
theorem v_goto (X : Cx x own cc nl fr lo) {off : Int} {tgt : Nat} (d : decode cc pc = .ok (.goto off, 3)) (ht : (pc : Int) + off = (tgt : Int)) (kk : V x w L st tgt) : V x w L st pc := fun H locs ls hP hD hS hl => lv_goto X.1 X.2.1 d ht (kk H locs ls hP hD hS hl)
theorem v_tswIn (X : Cx x own cc nl fr lo) {dflt lo2 hi : Int} {offs : Array Int} {len : Nat} {a : Int32} {off : Int} {tgt : Nat} (d : decode cc pc = .ok (.tableswitch dflt lo2 hi offs, len)) (h1 : ¬ a.toInt < lo2) (h2 : ¬ hi < a.toInt) (ho : offs[(a.toInt - lo2).toNat]? = some off) (ht : (pc : Int) + off = (tgt : Int)) (kk : V x w L st tgt) : V x w L (.int a :: st) pc := fun H locs ls hP hD hS hl => lv_tableIn X.1 X.2.1 d h1 h2 ho ht (kk H locs ls hP hD hS hl)
theorem v_tswOut (X : Cx x own cc nl fr lo) {dflt lo2 hi : Int} {offs : Array Int} {len : Nat} {a : Int32} {tgt : Nat} (d : decode cc pc = .ok (.tableswitch dflt lo2 hi offs, len)) (h : a.toInt < lo2 ∨ hi < a.toInt) (ht : (pc : Int) + dflt = (tgt : Int)) (kk : V x w L st tgt) : V x w L (.int a :: st) pc := fun H locs ls hP hD hS hl => lv_tableOut X.1 X.2.1 d h ht (kk H locs ls hP hD hS hl)
theorem v_lsw (X : Cx x own cc nl fr lo) {dflt : Int} {ps : Array (Int × Int)} {len : Nat} {a : Int32} {off : Int} {tgt : Nat} (d : decode cc pc = .ok (.lookupswitch dflt ps, len)) (hp : (ps.toList.zip (ps.toList.drop 1)).all (fun (a, next) => a.1 < next.1) = true) (ho : Op.lookupswitch.offset ps.toList dflt a.toInt = off) (ht : (pc : Int) + off = (tgt : Int)) (kk : V x w L st tgt) : V x w L (.int a :: st) pc := fun H locs ls hP hD hS hl => lv_lookup X.1 X.2.1 d hp ho ht (kk H locs ls hP hD hS hl)
theorem v_get (X : Cx x own cc nl fr lo) {C ref : String} {T : u_T} {N ci index a : Nat} {fs : List Value} {v : Value} (hin : ∀ w ∈ u_ws C T N, w ∈ lw_all) (q0 : Nat) (he : w[q0]? = some (a, .inr (ci, fs))) (hc : vwCl[ci]? = some (C, T, N)) (k : Nat) (hk : k < N) (hlink : Cond.fieldLink own index ref (T k).2.1 (T k).2.2.1 ∈ lw_all) (hsame : (T k).1 = ref) (hv : fs[k]? = some v) (d : decode cc pc = .ok (.getfield index, 3)) (kk : V x w L (v :: st) (pc + 3)) : V x w L (.ref a :: st) pc := fun H locs ls hP hD hS hl => va_get X.1 X.2.1 X.2.2.2.2.1 hin X.2.2.2.1 X.2.2.2.2.2.2.1 hP q0 he hc k hk (X.2.2.2.2.1 _ hlink) (fun _ h => hsame ▸ h) hv d (kk H locs ls hP hD hS hl)
theorem v_getN (X : Cx x own cc nl fr lo) {host : String} {C ref : String} {T : u_T} {N ci index a : Nat} {fs : List Value} {v : Value} (hin : ∀ w ∈ u_ws C T N, w ∈ lw_all) (q0 : Nat) (he : w[q0]? = some (a, .inr (ci, fs))) (hc : vwCl[ci]? = some (C, T, N)) (k : Nat) (hk : k < N) (hlink : Cond.fieldLinkNest own index ref (T k).2.1 (T k).2.2.1 host ∈ lw_nst) (hsame : (T k).1 = ref) (hv : fs[k]? = some v) (d : decode cc pc = .ok (.getfield index, 3)) (kk : V x w L (v :: st) (pc + 3)) : V x w L (.ref a :: st) pc := fun H locs ls hP hD hS hl => va_getN X.1 X.2.1 X.2.2.2.2.1 hin X.2.2.2.1 X.2.2.2.2.2.2.1 hP q0 he hc k hk (va_Nw.use rfl (X.2.2.2.2.2.1 _ hlink)) (fun _ h => hsame ▸ h) hv d (kk H locs ls hP hD hS hl)
theorem v_put (X : Cx x own cc nl fr lo) {C ref : String} {T : u_T} {N ci index a : Nat} {fs : List Value} {v : Value} (hin : ∀ w ∈ u_ws C T N, w ∈ lw_all) (q0 : Nat) (he : w[q0]? = some (a, .inr (ci, fs))) (hc : vwCl[ci]? = some (C, T, N)) (k : Nat) (hk : k < N) (hlink : Cond.fieldLink own index ref (T k).2.1 (T k).2.2.1 ∈ lw_all) (hsame : (T k).1 = ref) (ty0 : Nat → FieldType) (hty : ∀ k, k < N → parseFieldDescriptor (T k).2.2.1 = some (ty0 k)) (hnm : ∀ a, a < N → ∀ b, b < N → a ≠ b → (T a).2.1 ≠ (T b).2.1) (hfin : (T k).2.2.2 = false) (hn : narrow (ty0 k) v = v) (hfit : fits (ty0 k) v = true) (hl0 : k < fs.length) (hw : w.set q0 (a, .inr (ci, fs.set k v)) = w') (d : decode cc pc = .ok (.putfield index, 3)) (kk : V x w' L st (pc + 3)) : V x w L (v :: .ref a :: st) pc := fun H locs ls hP hD hS hl => va_put X.1 X.2.1 X.2.2.2.2.1 hin ty0 hty hnm X.2.2.2.1 X.2.2.2.2.2.2.1 hP hD hS q0 he hc k hk (X.2.2.2.2.1 _ hlink) (fun _ h => hsame ▸ h) hfin (hty k hk) hn hfit hl0 d (fun H1 locs1 hP1 hD1 hS1 => kk H1 locs1 ls (hw ▸ hP1) (hw ▸ hD1) hS1 hl)
theorem v_putN (X : Cx x own cc nl fr lo) {host : String} {C ref : String} {T : u_T} {N ci index a : Nat} {fs : List Value} {v : Value} (hin : ∀ w ∈ u_ws C T N, w ∈ lw_all) (q0 : Nat) (he : w[q0]? = some (a, .inr (ci, fs))) (hc : vwCl[ci]? = some (C, T, N)) (k : Nat) (hk : k < N) (hlink : Cond.fieldLinkNest own index ref (T k).2.1 (T k).2.2.1 host ∈ lw_nst) (hsame : (T k).1 = ref) (ty0 : Nat → FieldType) (hty : ∀ k, k < N → parseFieldDescriptor (T k).2.2.1 = some (ty0 k)) (hnm : ∀ a, a < N → ∀ b, b < N → a ≠ b → (T a).2.1 ≠ (T b).2.1) (hfin : (T k).2.2.2 = false) (hn : narrow (ty0 k) v = v) (hfit : fits (ty0 k) v = true) (hl0 : k < fs.length) (hw : w.set q0 (a, .inr (ci, fs.set k v)) = w') (d : decode cc pc = .ok (.putfield index, 3)) (kk : V x w' L st (pc + 3)) : V x w L (v :: .ref a :: st) pc := fun H locs ls hP hD hS hl => va_putN X.1 X.2.1 X.2.2.2.2.1 hin ty0 hty hnm X.2.2.2.1 X.2.2.2.2.2.2.1 hP hD hS q0 he hc k hk (va_Nw.use rfl (X.2.2.2.2.2.1 _ hlink)) (fun _ h => hsame ▸ h) hfin (hty k hk) hn hfit hl0 d (fun H1 locs1 hP1 hD1 hS1 => kk H1 locs1 ls (hw ▸ hP1) (hw ▸ hD1) hS1 hl)
theorem v_iald (X : Cx x own cc nl fr lo) {a n : Nat} {f : Row} {i : Int32} (q0 : Nat) (ha : w[q0]? = some (a, .inl (x.g.2.1, n, .inl f))) (hin : vp_in i n) {v : Int32} (hv : f i.toNatClampNeg = v) (d : decode cc pc = .ok (.iaload, 1)) (kk : V x w L (.int v :: st) (pc + 1)) : V x w L (.int i :: .ref a :: st) pc := fun H locs ls hP hD hS hl => va_iald X.1 X.2.1 X.2.2.2.2.2.2.1 hP q0 0 ha rfl hin d (hv ▸ kk H locs ls hP hD hS hl)
theorem v_cald (X : Cx x own cc nl fr lo) {a n : Nat} {f : Row} {i : Int32} (q0 : Nat) (ha : w[q0]? = some (a, .inl (x.g.2.2.1, n, .inl f))) (hin : vp_in i n) {v : Int32} (hv : f i.toNatClampNeg = v) (d : decode cc pc = .ok (.caload, 1)) (kk : V x w L (.int v :: st) (pc + 1)) : V x w L (.int i :: .ref a :: st) pc := fun H locs ls hP hD hS hl => va_cald X.1 X.2.1 X.2.2.2.2.2.2.1 hP q0 1 ha rfl hin d (hv ▸ kk H locs ls hP hD hS hl)
theorem v_iast (X : Cx x own cc nl fr lo) {a n : Nat} {f : Row} {i v : Int32} (q0 : Nat) (ha : w[q0]? = some (a, .inl (x.g.2.1, n, .inl f))) (hin : vp_in i n) (hw : w.set q0 (a, .inl (x.g.2.1, n, .inl (upd f i.toNatClampNeg v))) = w') (d : decode cc pc = .ok (.iastore, 1)) (kk : V x w' L st (pc + 1)) : V x w L (.int v :: .int i :: .ref a :: st) pc := fun H locs ls hP hD hS hl => va_iast X.1 X.2.1 X.2.2.2.2.2.2.1 hP hD hS q0 0 ha rfl hin d (fun H1 locs1 hP1 hD1 hS1 => kk H1 locs1 ls (hw ▸ hP1) (hw ▸ hD1) hS1 hl)
theorem v_cast (X : Cx x own cc nl fr lo) {a n : Nat} {f : Row} {i v : Int32} (q0 : Nat) (ha : w[q0]? = some (a, .inl (x.g.2.2.1, n, .inl f))) (hin : vp_in i n) (hw : w.set q0 (a, .inl (x.g.2.2.1, n, .inl (upd f i.toNatClampNeg (vp_nar .char v)))) = w') (d : decode cc pc = .ok (.castore, 1)) (kk : V x w' L st (pc + 1)) : V x w L (.int v :: .int i :: .ref a :: st) pc := fun H locs ls hP hD hS hl => va_cast X.1 X.2.1 X.2.2.2.2.2.2.1 hP hD hS q0 1 ha rfl hin d (fun H1 locs1 hP1 hD1 hS1 => kk H1 locs1 ls (hw ▸ hP1) (hw ▸ hD1) hS1 hl)
theorem v_alen (X : Cx x own cc nl fr lo) {a n : Nat} {f : Row} (q0 : Nat) (ha : w[q0]? = some (a, .inl (x.g.2.1, n, .inl f))) (d : decode cc pc = .ok (.arraylength, 1)) (kk : V x w L (.int (nI n) :: st) (pc + 1)) : V x w L (.ref a :: st) pc := fun H locs ls hP hD hS hl => va_alen X.1 X.2.1 X.2.2.2.2.2.2.1 hP q0 0 ha (ty := .int) rfl rfl d (kk H locs ls hP hD hS hl)
theorem v_alenR (X : Cx x own cc nl fr lo) {a n : Nat} {f : Nat → Option Nat} (q0 : Nat) (ha : w[q0]? = some (a, .inl (x.g.2.2.2, n, .inr (.inr (.inr (.inr f)))))) (d : decode cc pc = .ok (.arraylength, 1)) (kk : V x w L (.int (nI n) :: st) (pc + 1)) : V x w L (.ref a :: st) pc := fun H locs ls hP hD hS hl => va_alen X.1 X.2.1 X.2.2.2.2.2.2.1 hP q0 2 ha (ty := .object RX4) rfl rfl d (kk H locs ls hP hD hS hl)
theorem v_aldq (X : Cx x own cc nl fr lo) {a n : Nat} {f : Nat → Option Nat} {i : Int32} (q0 : Nat) (ha : w[q0]? = some (a, .inl (x.g.2.2.2, n, .inr (.inr (.inr (.inr f)))))) (hin : vp_in i n) (d : decode cc pc = .ok (.aaload, 1)) (kk : V x w L (va_rf (f i.toNatClampNeg) :: st) (pc + 1)) : V x w L (.int i :: .ref a :: st) pc := fun H locs ls hP hD hS hl => va_aldq X.1 X.2.1 X.2.2.2.2.2.2.1 hP q0 2 ha rfl hin d (kk H locs ls hP hD hS hl)
theorem v_mmin (X : Cx x own cc nl fr lo) {index : Nat} {a b : Int32} (hl1 : Cond.methodLink own index Lib.Math.min.name ∈ lw_all) (hl2 : Cond.static Lib.Math.min.name ∈ lw_all) (hl3 : Cond.initialized "java/lang/Math" ∈ lw_all) (hl4 : Cond.code Lib.Math.min.name Lib.Math.min.code 2 (some .int) ∈ lw_all) (hR : 1 ≤ fr) (hR2 : (st.map fun v => v.category).sum + 13 ≤ lo) (d : decode cc pc = .ok (.invokestatic index, 3)) (kk : V x w L (.int (minF a b) :: st) (pc + 3)) : V x w L (.int b :: .int a :: st) pc := fun H locs ls hP hD hS hl => va_mmin X.1 X.2.1 (X.2.2.1.trans hl.1.symm) X.2.2.2.1 (X.2.2.2.2.1 _ hl1) (X.2.2.2.2.1 _ hl2) (X.2.2.2.2.1 _ hl3) (X.2.2.2.2.1 _ hl4) (Nat.le_trans hR X.2.2.2.2.2.2.2.2.1) (Nat.le_trans hR2 X.2.2.2.2.2.2.2.2.2.1) X.2.2.2.2.2.2.2.2.2.2.1 X.2.2.2.2.2.2.2.2.2.2.2.1 d (kk H locs ls hP hD hS hl)
theorem v_mmax (X : Cx x own cc nl fr lo) {index : Nat} {a b : Int32} (hl1 : Cond.methodLink own index Lib.Math.max.name ∈ lw_all) (hl2 : Cond.static Lib.Math.max.name ∈ lw_all) (hl3 : Cond.initialized "java/lang/Math" ∈ lw_all) (hl4 : Cond.code Lib.Math.max.name Lib.Math.max.code 2 (some .int) ∈ lw_all) (hR : 1 ≤ fr) (hR2 : (st.map fun v => v.category).sum + 13 ≤ lo) (d : decode cc pc = .ok (.invokestatic index, 3)) (kk : V x w L (.int (maxF a b) :: st) (pc + 3)) : V x w L (.int b :: .int a :: st) pc := fun H locs ls hP hD hS hl => va_mmax X.1 X.2.1 (X.2.2.1.trans hl.1.symm) X.2.2.2.1 (X.2.2.2.2.1 _ hl1) (X.2.2.2.2.1 _ hl2) (X.2.2.2.2.1 _ hl3) (X.2.2.2.2.1 _ hl4) (Nat.le_trans hR X.2.2.2.2.2.2.2.2.1) (Nat.le_trans hR2 X.2.2.2.2.2.2.2.2.2.1) X.2.2.2.2.2.2.2.2.2.2.1 X.2.2.2.2.2.2.2.2.2.2.2.1 d (kk H locs ls hP hD hS hl)
theorem v_mabs (X : Cx x own cc nl fr lo) {index : Nat} {a : Int32} (hl1 : Cond.methodLink own index Lib.Math.abs.name ∈ lw_all) (hl2 : Cond.static Lib.Math.abs.name ∈ lw_all) (hl3 : Cond.initialized "java/lang/Math" ∈ lw_all) (hl4 : Cond.code Lib.Math.abs.name Lib.Math.abs.code 1 (some .int) ∈ lw_all) (hR : 1 ≤ fr) (hR2 : (st.map fun v => v.category).sum + 13 ≤ lo) (d : decode cc pc = .ok (.invokestatic index, 3)) (kk : V x w L (.int (absF a) :: st) (pc + 3)) : V x w L (.int a :: st) pc := fun H locs ls hP hD hS hl => va_mabs X.1 X.2.1 (X.2.2.1.trans hl.1.symm) X.2.2.2.1 (X.2.2.2.2.1 _ hl1) (X.2.2.2.2.1 _ hl2) (X.2.2.2.2.1 _ hl3) (X.2.2.2.2.1 _ hl4) (Nat.le_trans hR X.2.2.2.2.2.2.2.2.1) (Nat.le_trans hR2 X.2.2.2.2.2.2.2.2.2.1) X.2.2.2.2.2.2.2.2.2.2.1 X.2.2.2.2.2.2.2.2.2.2.2.1 d (kk H locs ls hP hD hS hl)
theorem v_sub {L2 : List (Nat × Value)} (js : List Nat) (hL : lv_pick L js = L2) (kk : V x w L2 st pc) : V x w L st pc := fun H locs ls hP hD hS hl => kk H locs ls hP hD hS (lv_sub hl js hL)
theorem v_zret (X : Cx x own cc nl fr lo) {v : Int32} {ty : FieldType} (F : Fn x (some ty) (some (.int v)) w) (hn : narrow ty (.int v) = .int v) (d : decode cc pc = .ok (.ireturn, 1)) : V x w L [.int v] pc := by
  intro H locs ls hP hD hS hl
  obtain ⟨f1, f2, f3⟩ := F
  rw [f3]
  exact W.zret (ty := ty) X.1 X.2.1 f1 hn (fun t ht hW => ⟨⟨rfl, by rw [ht]; exact hP, hD⟩, hS.F ht⟩) hS.2.2 d f2
theorem v_iret (X : Cx x own cc nl fr lo) {v : Int32} (F : Fn x (some .int) (some (.int v)) w) (d : decode cc pc = .ok (.ireturn, 1)) : V x w L [.int v] pc := v_zret X F rfl d
theorem nar_b (b : Bool) : narrow .boolean (.int (b2i b)) = .int (b2i b) := by cases b <;> rfl
theorem v_bret (X : Cx x own cc nl fr lo) {b : Bool} (F : Fn x (some .boolean) (some (.int (b2i b))) w) (d : decode cc pc = .ok (.ireturn, 1)) : V x w L [.int (b2i b)] pc := v_zret X F (nar_b b) d
theorem v_vret (X : Cx x own cc nl fr lo) (F : Fn x none none w) (d : decode cc pc = .ok (.return_, 1)) : V x w L [] pc := by
  intro H locs ls hP hD hS hl
  obtain ⟨f1, f2, f3⟩ := F
  rw [f3]
  exact W.vret X.1 X.2.1 f1 (fun t ht hW => ⟨⟨rfl, by rw [ht]; exact hP, hD⟩, hS.F ht⟩) hS.2.2 d f2
theorem v_aret (X : Cx x own cc nl fr lo) {v : Value} {nm : String} (F : Fn x (some (.object nm)) (some v) w) (hv : v = .null ∨ ∃ a, v = .ref a) (d : decode cc pc = .ok (.areturn, 1)) : V x w L [v] pc := by
  intro H locs ls hP hD hS hl
  obtain ⟨f1, f2, f3⟩ := F
  rw [f3]
  exact W.aret X.1 X.2.1 f1 (Or.inl ⟨nm, rfl⟩) hv (fun t ht hW => ⟨⟨rfl, by rw [ht]; exact hP, hD⟩, hS.F ht⟩) hS.2.2 d f2
end ROWS
theorem og {c : Prop} {dc : Decidable c} {α : Type} {A : Option α} {r : α} (h : (@ite _ c dc A none) = some r) : c ∧ A = some r := by
  by_cases hc : c
  · rw [if_pos hc] at h; exact ⟨hc, h⟩
  · rw [if_neg hc] at h; cases h
theorem ob {α β : Type} {A : Option α} {f : α → Option β} {r : β} (h : A.bind f = some r) : ∃ a, A = some a ∧ f a = some r := by
  cases A with
  | none => cases h
  | some a => exact ⟨a, rfl, h⟩
theorem oi {α : Type} {a b : α} (h : some a = some b) : a = b := Option.some.inj h
def asB (v : Int32) : Option Bool := if v = 0 then some false else if v = 1 then some true else none
theorem asB_s {v : Int32} {b : Bool} (h : asB v = some b) : v = b2i b := by
  unfold asB at h
  split at h
  · rename_i e; cases h; exact e
  · split at h
    · rename_i e; cases h; exact e
    · cases h
end
section
/-- the context with other counts of cells and slots made -/
def Ctx.al (x : Ctx) (k n : Nat) : Ctx := (x.1, x.2.1, (x.meth, x.c, k, n), x.2.2.2)
def QfC (g : Gl) (A : Nat → Prop) (post : va_W → Prop) : Array Value → State → Outcome → State → Prop := fun _ st oc t => (oc = .returned none ∧ ∃ w' : va_W, post w' ∧ va_P g.1 vwCl w' t.heap ∧ va_D A w') ∧ va_F A st t
/-- a constructor's end -/
def FnC (x : Ctx) (mc ms : Nat) (post : va_W → Prop) : Prop :=
  x.meth.sig.returnType = none ∧ x.meth.locks = false ∧ x.Q = MQ x.below (QfC x.g x.A post) x.args x.s mc ms x.A ∧ x.meth.name = "<init>" ∧ va_AO RX4 x.s ∧ mc ≤ x.R.cells ∧ ms ≤ x.R.slots
def PqC (g : Gl) (w : va_W) (sz : Nat) : State → Prop := fun U => Pq g w sz U ∧ va_AO RX4 U
def OkC (l : Launch) (g : Gl) (y : MethodName) (cc : ByteArray) (maxL : Nat) (fr lo mc ms : Nat) (av : List Value) (w : va_W) (post : va_W → Prop) : Prop :=
  ∀ sz : Nat, Met l y (Cond.code y cc maxL none :: lw_all) ({ frames := fr, cells := mc, slots := ms, locals := lo } : Room) (va_Pc av (PqC g w sz)) (QfC g (va_A w sz) post) mc ms (va_A w sz)
theorem PqC.blind {g : Gl} {w : va_W} {sz : Nat} {av : List Value} : FrameBlind (va_Pc av (PqC g w sz)) := by
  intro a U g' mk q
  obtain ⟨q0, q1, q2⟩ := q
  have h := Pq.blind (g := g) (w := w) (sz := sz) (av := av) a U g' mk ⟨q0, q1⟩
  exact ⟨h.1, h.2, va_AO.moved (u := U) (U := U.calling g' mk a) (Vm.Alike.refl U.vm) q2⟩
theorem OkC.of {l : Launch} {g : Gl} {y : MethodName} {cc : ByteArray} {maxL : Nat} {fr lo mc ms : Nat} {av : List Value} {w : va_W} {post : va_W → Prop} (own : String) (hy : plainName y.cls = true) (ho : y.cls = own) (hy1 : y.name = "<init>") (hn : (lg_sl av).length ≤ maxL)
    (body : ∀ x : Ctx, x.l = l → x.g = g → Cx x own cc maxL fr lo → FnC x mc ms post → V (x.al 0 0) w (lv_args 0 av) [] 0) : OkC l g y cc maxL fr lo mc ms av w post := by
  intro sz
  refine Met.ofW (cc := cc) (maxL := maxL) (ret := none) hy rfl ?_
  intro p e s m args below meth c s₁ B hml hv
  obtain ⟨rfl, ⟨hsz, hP, hK, hD0, hN⟩, hAO⟩ := hv
  have hts := atoms_spec (ws := Cond.code y cc maxL none :: lw_all) B.pre
  have hown : s.vm.findClass own = some m.cls := ho ▸ findClass_of_methodNamed B.named
  have hin : meth.name = "<init>" := (name_of_methodNamed B.named B.method).1.trans hy1
  subst hsz
  have hD := hD0.self (sz := s.heap.size)
  rw [lg_entry_eq]
  have hl := lv_entry av (n := maxL) hn
  exact body ((p, l, e, (headSpec (Cond.code y cc maxL none :: lw_all) ({ frames := fr, cells := mc, slots := ms, locals := lo } : Room)).room), (s, m, av.toArray, below), (meth, c, 0, 0), (g, va_A w s.heap.size, maxL, _)) rfl rfl
    ⟨B.exec, B.bytes, hml, hown, fun w h => hts w (List.mem_cons_of_mem _ h), hN, hK, fun q h => Or.inr h, Nat.le_refl _, Nat.le_refl _, Nat.zero_le _, Nat.zero_le _, rfl⟩
    ⟨B.returns, B.notSynchronized, rfl, hin, hAO, Nat.le_refl _, Nat.le_refl _⟩ s.heap [] _ hP hD va_S.rf hl
section ROWSA
variable {x : Ctx} {own : String} {cc : ByteArray} {nl fr lo : Nat} {w w' : va_W} {L : List (Nat × Value)} {st : List Value} {pc : Nat}
theorem Cx.al (X : Cx x own cc nl fr lo) {k n : Nat} (h1 : k ≤ x.R.cells) (h2 : n ≤ x.R.slots) : Cx (x.al k n) own cc nl fr lo := ⟨X.1, X.2.1, X.2.2.1, X.2.2.2.1, X.2.2.2.2.1, X.2.2.2.2.2.1, X.2.2.2.2.2.2.1, X.2.2.2.2.2.2.2.1, X.2.2.2.2.2.2.2.2.1, X.2.2.2.2.2.2.2.2.2.1, h1, h2, X.2.2.2.2.2.2.2.2.2.2.2.2⟩
theorem v_perm {w2 : va_W} (is : List Nat) (hn : va_nd is = true) (hs : is.map (fun i => w[i]?) = w2.map some) (kk : V x w2 L st pc) : V x w L st pc := fun H locs ls hP hD hS hl => kk H locs ls (hP.sub is (by
  have e : is.filterMap (fun i => w[i]?) = (is.map (fun i => w[i]?)).filterMap id := by rw [List.filterMap_map]; rfl
  rw [e, hs, List.filterMap_map]
  simp)) (hD.sub is hn hs) hS hl
theorem v_objInit (X : Cx x own cc nl fr lo) {a idx : Nat} (hl1 : Cond.methodLink own idx Lib.objectInit ∈ lw_all) (hl2 : Cond.instanceMethod Lib.objectInit ∈ lw_all) (hl3 : Cond.code Lib.objectInit ⟨#[0xb1]⟩ 1 none ∈ lw_all) (hR : 1 ≤ fr) (hR2 : (st.map fun v => v.category).sum + 12 ≤ lo) (d : decode cc pc = .ok (.invokespecial idx, 3)) (kk : V x w L st (pc + 3)) : V x w L (.ref a :: st) pc :=
  fun H locs ls hP hD hS hl => W.objInit X.1 X.2.1 X.2.2.2.1 (X.2.2.2.2.1 _ hl1) (X.2.2.2.2.1 _ hl2) (X.2.2.2.2.1 _ hl3) rfl (hl.1.trans X.2.2.1.symm) rfl d (Nat.le_trans hR X.2.2.2.2.2.2.2.2.1) (by
    have h := X.2.2.2.2.2.2.2.2.2.1
    have h0 : (F0 x.m pc ls (.ref a :: st)).monitorRoom = 0 := rfl
    rw [h0]; omega) (kk H locs ls hP hD hS hl)
theorem v_new (X : Cx x own cc nl fr lo) {C : String} {T : u_T} {N ci index : Nat} {fs : List Value} (hin : ∀ w ∈ u_ws C T N, w ∈ lw_all) (ty0 : Nat → FieldType) (hty : ∀ k, k < N → parseFieldDescriptor (T k).2.2.1 = some (ty0 k)) (hl1 : Cond.classLink own index C ∈ lw_all) (hl2 : Cond.instantiable C N ∈ lw_all) (hl3 : Cond.initialized C ∈ lw_all) (hc : vwCl[ci]? = some (C, T, N)) (hfs : ∀ j, j < N → defaultValue (ty0 j) = vp_V fs j) {k n : Nat} (hk : x.cells + 1 = k) (hn : x.slots + N = n) (h1 : k ≤ x.R.cells) (h2 : n ≤ x.R.slots) (d : decode cc pc = .ok (.new index, 3))
    (kk : ∀ q : Nat, V (x.al k n) (w ++ [(q, .inr (ci, fs))]) L (.ref q :: st) (pc + 3)) : V x w L st pc := by
  subst hk; subst hn
  intro H locs ls hP hD hS hl
  exact va_new X.1 X.2.1 X.2.2.2.2.1 hin ty0 hty X.2.2.2.1 (X.2.2.2.2.1 _ hl1) (X.2.2.2.2.1 _ hl2) (X.2.2.2.2.1 _ hl3) X.2.2.2.2.2.2.1 hP hD hS X.2.2.2.2.2.2.2.1 hc hfs h1 h2 d (fun q H1 hP1 hD1 hS1 => kk q H1 locs ls hP1 hD1 hS1 hl)
theorem cA_eq {g : Gl} {s : State} {ty : FieldType} {cA cB : ClassId} {tys : List (ClassId × FieldType)} {D : va_G} (h1 : va_RA s cA ty) (h2 : va_RA s cB ty) : cA = cB := by
  cases ty with
  | object C =>
    obtain ⟨kA, comp, a1, a2, a3, a4⟩ := h1
    obtain ⟨kB, comp2, b1, b2, b3, b4⟩ := h2
    exact Option.some.inj (a4.symm.trans b4)
  | _ => exact Option.some.inj (Eq.trans (Eq.symm h1) h2)
theorem v_newaI (X : Cx x own cc nl fr lo) {N : Nat} {u : Int32} (hl1 : Cond.arrayClass .int ∈ lw_all) (hn : ¬ u < 0) (hN : u.toNatClampNeg = N) (hb : N * 4 ≤ 536870912) {k n : Nat} (hk : x.cells + 1 = k) (hn2 : x.slots + N = n) (h1 : k ≤ x.R.cells) (h2 : n ≤ x.R.slots) (d : decode cc pc = .ok (.newarray .int, 2))
    (kk : ∀ q : Nat, V (x.al k n) (w ++ [(q, .inl (x.g.2.1, N, .inl (fun _ => 0)))]) L (.ref q :: st) (pc + 2)) : V x w L (.int u :: st) pc := by
  subst hk; subst hn2
  intro H locs ls hP hD hS hl
  refine va_newa (atype := .int) (a0 := (N, .inl (fun _ => 0))) X.1 X.2.1 (X.2.2.2.2.1 _ hl1) rfl X.2.2.2.2.2.2.1 hP hD hS X.2.2.2.2.2.2.2.1 (fun cA => rfl) hn hN hb h1 h2 d (fun q cA H1 hK1 hP1 hD1 hS1 => ?_)
  have e : cA = x.g.2.1 := cA_eq (g := x.g) (tys := []) (D := x.g.1) (hK1.2 3 (cA, .int) rfl).2 (X.2.2.2.2.2.2.1.2 0 (x.g.2.1, .int) rfl).2
  subst e
  exact kk q H1 locs ls hP1 hD1 hS1 hl
theorem v_newaC (X : Cx x own cc nl fr lo) {N : Nat} {u : Int32} (hl1 : Cond.arrayClass .char ∈ lw_all) (hn : ¬ u < 0) (hN : u.toNatClampNeg = N) (hb : N * 2 ≤ 536870912) {k n : Nat} (hk : x.cells + 1 = k) (hn2 : x.slots + N = n) (h1 : k ≤ x.R.cells) (h2 : n ≤ x.R.slots) (d : decode cc pc = .ok (.newarray .char, 2))
    (kk : ∀ q : Nat, V (x.al k n) (w ++ [(q, .inl (x.g.2.2.1, N, .inl (fun _ => 0)))]) L (.ref q :: st) (pc + 2)) : V x w L (.int u :: st) pc := by
  subst hk; subst hn2
  intro H locs ls hP hD hS hl
  refine va_newa (atype := .char) (a0 := (N, .inl (fun _ => 0))) X.1 X.2.1 (X.2.2.2.2.1 _ hl1) rfl X.2.2.2.2.2.2.1 hP hD hS X.2.2.2.2.2.2.2.1 (fun cA => rfl) hn hN hb h1 h2 d (fun q cA H1 hK1 hP1 hD1 hS1 => ?_)
  have e : cA = x.g.2.2.1 := cA_eq (g := x.g) (tys := []) (D := x.g.1) (hK1.2 3 (cA, .char) rfl).2 (X.2.2.2.2.2.2.1.2 1 (x.g.2.2.1, .char) rfl).2
  subst e
  exact kk q H1 locs ls hP1 hD1 hS1 hl
theorem v_newq (X : Cx x own cc nl fr lo) {N index : Nat} {u : Int32} (hl1 : Cond.classLink own index RX4 ∈ lw_all) (hao : va_AO RX4 x.s) (hn : ¬ u < 0) (hN : u.toNatClampNeg = N) (hb : N * 4 ≤ 536870912) {k n : Nat} (hk : x.cells + 1 = k) (hn2 : x.slots + N = n) (h1 : k ≤ x.R.cells) (h2 : n ≤ x.R.slots) (d : decode cc pc = .ok (.anewarray index, 3))
    (kk : ∀ q : Nat, V (x.al k n) (w ++ [(q, .inl (x.g.2.2.2, N, .inr (.inr (.inr (.inr (fun _ => none))))))]) L (.ref q :: st) (pc + 3)) : V x w L (.int u :: st) pc := by
  subst hk; subst hn2
  intro H locs ls hP hD hS hl
  refine va_newq X.1 X.2.1 X.2.2.2.1 (X.2.2.2.2.1 _ hl1) hao X.2.2.2.2.2.2.1 hP hD hS X.2.2.2.2.2.2.2.1 hn hN hb h1 h2 d (fun q cA H1 hK1 hP1 hD1 hS1 => ?_)
  have e : cA = x.g.2.2.2 := cA_eq (g := x.g) (tys := []) (D := x.g.1) (hK1.2 3 (cA, .object RX4) rfl).2 (X.2.2.2.2.2.2.1.2 2 (x.g.2.2.2, .object RX4) rfl).2
  subst e
  exact kk q H1 locs ls hP1 hD1 hS1 hl
theorem v_astq (X : Cx x own cc nl fr lo) {a n v : Nat} {f : Nat → Option Nat} {i : Int32} {vs : List Value} (q0 qk : Nat) (ha : w[q0]? = some (a, .inl (x.g.2.2.2, n, .inr (.inr (.inr (.inr f)))))) (hv : w[qk]? = some (v, .inr (4, vs))) (hin : vp_in i n) (hw : w.set q0 (a, .inl (x.g.2.2.2, n, .inr (.inr (.inr (.inr (va_up f i.toNatClampNeg (some v))))))) = w') (d : decode cc pc = .ok (.aastore, 1)) (kk : V x w' L st (pc + 1)) : V x w L (.ref v :: .int i :: .ref a :: st) pc :=
  fun H locs ls hP hD hS hl => va_astq X.1 X.2.1 X.2.2.2.2.2.2.1 hP hD hS q0 2 qk 4 (r := (RX4, TX4, 11)) ha rfl hv rfl hin d (fun H1 locs1 hP1 hD1 hS1 => kk H1 locs1 ls (hw ▸ hP1) (hw ▸ hD1) hS1 hl)
theorem v_putF (X : Cx x own cc nl fr lo) (hin2 : x.meth.name = "<init>") {C ref : String} {T : u_T} {N ci index a : Nat} {fs : List Value} {v : Value} (hin : ∀ w ∈ u_ws C T N, w ∈ lw_all) (q0 : Nat) (he : w[q0]? = some (a, .inr (ci, fs))) (hc : vwCl[ci]? = some (C, T, N)) (k : Nat) (hk : k < N) (hlink : Cond.fieldLink own index ref (T k).2.1 (T k).2.2.1 ∈ lw_all) (hsame : (T k).1 = ref) (ty0 : Nat → FieldType) (hty : ∀ k, k < N → parseFieldDescriptor (T k).2.2.1 = some (ty0 k)) (hnm : ∀ a, a < N → ∀ b, b < N → a ≠ b → (T a).2.1 ≠ (T b).2.1) (hfin : (T k).2.2.2 = true) (hdecl : (T k).1 = own) (hn : narrow (ty0 k) v = v) (hfit : fits (ty0 k) v = true) (hl0 : k < fs.length) (hw : w.set q0 (a, .inr (ci, fs.set k v)) = w') (d : decode cc pc = .ok (.putfield index, 3)) (kk : V x w' L st (pc + 3)) : V x w L (v :: .ref a :: st) pc :=
  fun H locs ls hP hD hS hl => va_putF X.1 X.2.1 X.2.2.2.2.1 hin ty0 hty hnm X.2.2.2.1 X.2.2.2.2.2.2.1 hP hD hS q0 he hc k hk (X.2.2.2.2.1 _ hlink) (fun _ h => hsame ▸ h) hfin hin2 hdecl (hty k hk) hn hfit hl0 d (fun H1 locs1 hP1 hD1 hS1 => kk H1 locs1 ls (hw ▸ hP1) (hw ▸ hD1) hS1 hl)
/-- a constructor called on the world's last cell -/
theorem v_runC (X : Cx x own cc nl fr lo) {wr wc : va_W} {post : va_W → Prop} {rest st0 : List Value} {aa : Array Value} {mc ms k n : Nat} (hk : x.cells + mc = k) (hn : x.slots + ms = n)
    (hr : ∀ (H : Heap) (locs : List Loc) (ls : Array Slot), va_P x.g.1 vwCl wc H → va_D (fun _ => True) wc → lv_has ls x.nL L → va_Run x.p x.l x.e x.R x.s x.m x.args x.below x.meth x.c H locs x.cells x.slots mc ms (F0 x.m pc ls st0) rest (QfC x.g (va_A wc H.size) post aa) (va_A wc H.size))
    (kk : ∀ w1 : va_W, post w1 → V (x.al k n) (wr ++ w1) L rest (pc + 3)) : V x (wr ++ wc) L st0 pc := by
  subst hk; subst hn
  intro H locs ls hP hD hS hl T hT X0
  have hC : (List.range' wr.length wc.length).map (fun i => (wr ++ wc)[i]?) = wc.map some := by
    apply List.ext_getElem?
    intro i
    by_cases h : i < wc.length
    · simp [List.getElem?_append_right, h]
    · simp [h]
  have hR : (List.range wr.length).map (fun i => (wr ++ wc)[i]?) = wr.map some := by
    apply List.ext_getElem?
    intro i
    by_cases h : i < wr.length
    · simp [List.getElem?_append_left, h]
    · simp [h]
  have nd : ∀ (n k : Nat), va_nd (List.range' k n) = true := by
    intro n
    induction n with
    | zero => intro k; rfl
    | succ n ih =>
      intro k
      simp only [List.range'_succ, va_nd, Bool.and_eq_true, decide_eq_true_eq]
      exact ⟨by simp [List.mem_range']; omega, ih _⟩
  have hPc : va_P x.g.1 vwCl wc H := by
    intro j q hq
    exact hP (wr.length + j) q (by rw [List.getElem?_append_right (by omega)]; simpa using hq)
  have hDc : va_D x.A wc := hD.sub _ (nd _ _) hC
  have hFc := va_free (wc := wc) hD hS X.2.2.2.2.2.2.2.1 _ hC
  obtain ⟨v, st₀, t, T', Lc, h0, X', hL, e1, e2, ⟨⟨hv, w1, hpo, hP1, hD1⟩, hz, hk⟩, stp⟩ := hr H locs ls hPc (hDc.weaken (fun _ _ _ _ => trivial)) hl T hT X0
  have hvr : v = none := Outcome.returned.inj hv
  subst hvr
  rw [h0] at hz hk
  have hS' : va_S x.A x.s.heap T'.heap (locs ++ Lc) := ⟨Nat.le_trans hS.1 (by rw [e1]; exact hz), fun q h1 h2 => by rw [e1, hk q (Nat.lt_of_lt_of_le h1 hS.1) (fun z => h2 (hFc q z))]; exact hS.2.1 q h1 h2, fun q hq => by
      rcases List.mem_append.mp hq with h | h
      · exact hS.2.2 q h
      · exact hFc _ (hL q h)⟩
  obtain ⟨hPj, hDj⟩ := va_join (wr := wr) (w1 := w1) (H1 := T'.heap) hP hD _ (List.range wr.length) hC hR (by rw [List.range_eq_range']; exact nd _ _) (fun i h1 h2 => by
    simp [List.mem_range'] at h1 h2
    omega) (fun q h1 h2 => by rw [e1]; exact hk q h1 h2) hFc (by rw [e1]; exact hP1) hD1
  obtain ⟨t2, a1, b1⟩ := kk w1 hpo T'.heap (locs ++ Lc) ls hPj hDj hS' hl T' rfl X'
  exact ⟨t2, stp t2 a1, b1⟩
theorem v_preC (X : Cx x own cc nl fr lo) (hao : va_AO RX4 x.s) {wc : va_W} {av : List Value} {H : Heap} (hPc : va_P x.g.1 vwCl wc H) (hDc : va_D (fun _ => True) wc) : ∀ U : State, U.heap = H → x.s.WarmedH U.vm → va_Pc av (PqC x.g wc H.size) av.toArray U :=
  fun U hU hW => ⟨rfl, (v_pre X (av := av) hPc hDc U hU hW).2, va_AO.moved hW.alike hao⟩
theorem v_callI (X : Cx x own cc nl fr lo) (hao : va_AO RX4 x.s) {y : MethodName} {cc' : ByteArray} {maxL' index fr' lo' b mc ms k n : Nat} {wr wc : va_W} {post : va_W → Prop} {rest : List Value}
    (hM : OkC x.l x.g y cc' maxL' fr' lo' mc ms [.ref b] wc post) (c : CwB y cc' maxL' none 0) (hl : Cond.methodLink own index y ∈ lw_all) (hi : Cond.instanceMethod y ∈ lw_all) (hy1 : y.name = "<init>") (hR : fr' + 1 ≤ fr ∧ 8 + (maxL' + 11) + lo' ≤ lo) (hk : x.cells + mc = k) (hn : x.slots + ms = n) (h1 : k ≤ x.R.cells) (h2 : n ≤ x.R.slots) (hst : (rest.map fun v => v.category).sum ≤ 8) (d : decode cc pc = .ok (.invokespecial index, 3))
    (kk : ∀ w1 : va_W, post w1 → V (x.al k n) (wr ++ w1) L rest (pc + 3)) : V x (wr ++ wc) L (.ref b :: rest) pc := by
  refine v_runC X (aa := [Value.ref b].toArray) hk hn (fun H locs ls hPc hDc hlv => ?_) kk
  exact va_runI (As := []) (rest := rest) (b := b) ⟨X.1, X.2.1, rfl, X.2.2.2.1, X.2.2.2.2.1⟩ (hM H.size) ⟨callB_of 0 (Ts := lw_all) X.2.2.2.2.1 (fun w h => by rcases List.mem_cons.mp h with rfl | h; exact ⟨c.1, gw c.1⟩; exact ⟨h, gw h⟩) rfl rfl rfl (X.2.2.2.2.1 _ c.2.1) (X.2.2.2.2.1 _ hl) c.2.2 ⟨Nat.le_trans hR.1 X.2.2.2.2.2.2.2.2.1, Nat.le_trans hR.2 X.2.2.2.2.2.2.2.2.2.1⟩, hy1, X.2.2.2.2.1 _ hi⟩
    ⟨PqC.blind, v_preC X hao hPc hDc⟩ rfl rfl (hlv.1.trans X.2.2.1.symm) rfl (lv_room hst) d ⟨by omega, by omega⟩
theorem v_callIN (X : Cx x own cc nl fr lo) (hao : va_AO RX4 x.s) {y : MethodName} {cc' : ByteArray} {maxL' index fr' lo' b mc ms k n : Nat} {host : String} {wr wc : va_W} {post : va_W → Prop} {rest : List Value}
    (hM : OkC x.l x.g y cc' maxL' fr' lo' mc ms [.ref b] wc post) (c : CwB y cc' maxL' none 0) (hl : Cond.methodLinkNest own index y host ∈ lw_nst) (hi : Cond.instanceMethod y ∈ lw_all) (hy1 : y.name = "<init>") (hR : fr' + 1 ≤ fr ∧ 8 + (maxL' + 11) + lo' ≤ lo) (hk : x.cells + mc = k) (hn : x.slots + ms = n) (h1 : k ≤ x.R.cells) (h2 : n ≤ x.R.slots) (hst : (rest.map fun v => v.category).sum ≤ 8) (d : decode cc pc = .ok (.invokespecial index, 3))
    (kk : ∀ w1 : va_W, post w1 → V (x.al k n) (wr ++ w1) L rest (pc + 3)) : V x (wr ++ wc) L (.ref b :: rest) pc := by
  refine v_runC X (aa := [Value.ref b].toArray) hk hn (fun H locs ls hPc hDc hlv => ?_) kk
  exact va_runIN (As := []) (rest := rest) (b := b) ⟨X.1, X.2.1, rfl, X.2.2.2.1, X.2.2.2.2.1⟩ (hM H.size) ⟨va_cnB 0 (Ts := lw_all) X.2.2.2.2.1 (fun w h => by rcases List.mem_cons.mp h with rfl | h; exact ⟨c.1, gw c.1⟩; exact ⟨h, gw h⟩) rfl rfl rfl (X.2.2.2.2.2.1 _ hl) (X.2.2.2.2.1 _ c.2.1) c.2.2 ⟨Nat.le_trans hR.1 X.2.2.2.2.2.2.2.2.1, Nat.le_trans hR.2 X.2.2.2.2.2.2.2.2.2.1⟩, hy1, X.2.2.2.2.1 _ hi⟩
    ⟨PqC.blind, v_preC X hao hPc hDc⟩ rfl rfl (hlv.1.trans X.2.2.1.symm) rfl (lv_room hst) d ⟨by omega, by omega⟩
theorem v_cret (X : Cx x own cc nl fr lo) {mc ms : Nat} {post : va_W → Prop} (F : FnC x mc ms post) (hc : x.cells = mc) (hs : x.slots = ms) (hp : post w) (d : decode cc pc = .ok (.return_, 1)) : V x w L [] pc := by
  intro H locs ls hP hD hS hl
  obtain ⟨f1, f2, f3, -⟩ := F
  rw [f3, ← hc, ← hs]
  exact W.vret X.1 X.2.1 f1 (fun t ht hW => ⟨⟨rfl, w, hp, by rw [ht]; exact hP, hD⟩, hS.F ht⟩) hS.2.2 d f2
theorem FnC.al {mc ms : Nat} {post : va_W → Prop} (F : FnC x mc ms post) {k n : Nat} : FnC (x.al k n) mc ms post := F
end ROWSA

theorem arrV_agree {cA : ClassId} {n : Nat} {f f2 : Nat → Value} (h : ∀ j, j < n → f j = f2 j) : arrV cA n f = arrV cA n f2 := by
  unfold arrV
  have e : (fun j : Fin n => f j.val) = (fun j : Fin n => f2 j.val) := funext fun j => h j.val j.isLt
  rw [e]
/-- a row of references read as another one that agrees with it where the row is -/
theorem v_ring {x : Ctx} {w w' : va_W} {L : List (Nat × Value)} {st : List Value} {pc : Nat} (q0 : Nat) {a n : Nat} {cA : ClassId} {f f2 : Nat → Option Nat} (ha : w[q0]? = some (a, .inl (cA, n, .inr (.inr (.inr (.inr f)))))) (hf : ∀ j, j < n → f j = f2 j) (hw : w.set q0 (a, .inl (cA, n, .inr (.inr (.inr (.inr f2))))) = w') (kk : V x w' L st pc) : V x w L st pc := by
  subst hw
  intro H locs ls hP hD hS hl
  refine kk H locs ls (hP.set hD ha ?_ (fun q _ => rfl)) (hD.set ha) hS hl
  have h1 := hP q0 _ ha
  have e : vp_cell cA (n, .inr (.inr (.inr (.inr f)))) = vp_cell cA (n, .inr (.inr (.inr (.inr f2)))) := by
    rw [vp_cell_q, vp_cell_q]
    exact arrV_agree (fun j hj => by rw [hf j hj])
  exact h1.trans (by rw [e])
def adL (l : List Nat) : Nat → Nat := fun k => l.getD k 0
end
section
def st0 : Blk := fun p => match p with
  | 0 => upd (upd (fun _ => 0) 1 30) 2 6
  | 1 => upd (upd (upd (upd (upd (upd (fun _ => 0) 0 100) 1 100) 2 100) 3 100) 4 100) 5 100
  | _ => fun _ => 0
def wHiR (g : Gl) (a : Nat → Nat) (c : Nat → Nat → Nat) (h : Row) (η : Nat → Blk) : va_W := (a 0, .inr (2, [.ref (a 1), .int (h 0), .int (h 1)])) :: (a 1, .inl (g.2.2.2, 5, .inr (.inr (.inr (.inr (va_up (va_up (va_up (va_up (va_up (fun _ => none) 0 (some (c 0 0))) 1 (some (c 1 0))) 2 (some (c 2 0))) 3 (some (c 3 0))) 4 (some (c 4 0)))))))) :: (wSt g (c 0) (η 0) ++ (wSt g (c 1) (η 1) ++ (wSt g (c 2) (η 2) ++ (wSt g (c 3) (η 3) ++ wSt g (c 4) (η 4)))))
set_option maxHeartbeats 4000000 in
set_option maxRecDepth 100000 in
theorem c_X1_init (l : Launch) (g : Gl) (h0 : Nat) : OkC l g yX1_init cX1_init 1 1 20 4 192 [.ref h0] [(h0, .inr (1, [.null, .null, .null, .null]))] (fun w1 => ∃ z7 z8 z9 z10 : Nat, w1 = [(h0, .inr (1, [.ref z7, .ref z8, .ref z9, .ref z10])), (z7, .inl (g.2.1, 48, .inl (fun _ => 0))), (z8, .inl (g.2.1, 48, .inl (fun _ => 0))), (z9, .inl (g.2.1, 48, .inl (fun _ => 0))), (z10, .inl (g.2.1, 48, .inl (fun _ => 0)))]) := by
  refine OkC.of RX1 (by decide) rfl rfl (Nat.le_of_ble_eq_true rfl) (fun x hl hg X F => ?_)
  subst hg; subst hl
  have X0 : Cx (x.al 0 0) _ _ _ _ _ := X.al (Nat.zero_le _) (Nat.zero_le _)
  show V (x.al 0 0) [(h0, .inr (1, [.null, .null, .null, .null]))] [(0, .ref h0)] [] 0
  refine v_aload_n X0 (pc := 0) dX1_init_0 rfl 0 rfl ?_
  refine v_objInit X0 (pc := 1) q_77 q_64 q_65 (by decide) (Nat.le_of_ble_eq_true rfl) dX1_init_1 ?_
  refine v_aload_n X0 (pc := 4) dX1_init_4 rfl 0 rfl ?_
  refine v_bipush X0 (pc := 5) (v := 48) dX1_init_5 (by decide) ?_
  refine v_newaI X0 (pc := 7) (N := 48) (k := 1) (n := 48) q_94 (by decide) (by decide) (Nat.le_of_ble_eq_true rfl) rfl rfl (Nat.le_trans (Nat.le_of_ble_eq_true rfl) F.2.2.2.2.2.1) (Nat.le_trans (Nat.le_of_ble_eq_true rfl) F.2.2.2.2.2.2) dX1_init_7 (fun y0 => ?_)
  have X1 := (X.al (Nat.le_trans (Nat.le_of_ble_eq_true rfl) F.2.2.2.2.2.1) (Nat.le_trans (Nat.le_of_ble_eq_true rfl) F.2.2.2.2.2.2) : Cx (x.al 1 48) _ _ _ _ _)
  show V (x.al 1 48) _ _ _ _
  refine v_putF X1 F.2.2.2.1 (pc := 9) (w' := [(h0, .inr (1, [.ref y0, .null, .null, .null])), (y0, .inl (x.g.2.1, 48, .inl (fun _ => 0)))]) uw1 0 rfl rfl 0 (by decide) q_78 rfl tyX1 tyX1_ok nmX1 rfl rfl rfl rfl (Nat.le_of_ble_eq_true rfl) rfl dX1_init_9 ?_
  refine v_aload_n X1 (pc := 12) dX1_init_12 rfl 0 rfl ?_
  refine v_bipush X1 (pc := 13) (v := 48) dX1_init_13 (by decide) ?_
  refine v_newaI X1 (pc := 15) (N := 48) (k := 2) (n := 96) q_94 (by decide) (by decide) (Nat.le_of_ble_eq_true rfl) rfl rfl (Nat.le_trans (Nat.le_of_ble_eq_true rfl) F.2.2.2.2.2.1) (Nat.le_trans (Nat.le_of_ble_eq_true rfl) F.2.2.2.2.2.2) dX1_init_15 (fun y1 => ?_)
  have X2 := (X.al (Nat.le_trans (Nat.le_of_ble_eq_true rfl) F.2.2.2.2.2.1) (Nat.le_trans (Nat.le_of_ble_eq_true rfl) F.2.2.2.2.2.2) : Cx (x.al 2 96) _ _ _ _ _)
  show V (x.al 2 96) _ _ _ _
  refine v_putF X2 F.2.2.2.1 (pc := 17) (w' := [(h0, .inr (1, [.ref y0, .ref y1, .null, .null])), (y0, .inl (x.g.2.1, 48, .inl (fun _ => 0))), (y1, .inl (x.g.2.1, 48, .inl (fun _ => 0)))]) uw1 0 rfl rfl 1 (by decide) q_80 rfl tyX1 tyX1_ok nmX1 rfl rfl rfl rfl (Nat.le_of_ble_eq_true rfl) rfl dX1_init_17 ?_
  refine v_aload_n X2 (pc := 20) dX1_init_20 rfl 0 rfl ?_
  refine v_bipush X2 (pc := 21) (v := 48) dX1_init_21 (by decide) ?_
  refine v_newaI X2 (pc := 23) (N := 48) (k := 3) (n := 144) q_94 (by decide) (by decide) (Nat.le_of_ble_eq_true rfl) rfl rfl (Nat.le_trans (Nat.le_of_ble_eq_true rfl) F.2.2.2.2.2.1) (Nat.le_trans (Nat.le_of_ble_eq_true rfl) F.2.2.2.2.2.2) dX1_init_23 (fun y2 => ?_)
  have X3 := (X.al (Nat.le_trans (Nat.le_of_ble_eq_true rfl) F.2.2.2.2.2.1) (Nat.le_trans (Nat.le_of_ble_eq_true rfl) F.2.2.2.2.2.2) : Cx (x.al 3 144) _ _ _ _ _)
  show V (x.al 3 144) _ _ _ _
  refine v_putF X3 F.2.2.2.1 (pc := 25) (w' := [(h0, .inr (1, [.ref y0, .ref y1, .ref y2, .null])), (y0, .inl (x.g.2.1, 48, .inl (fun _ => 0))), (y1, .inl (x.g.2.1, 48, .inl (fun _ => 0))), (y2, .inl (x.g.2.1, 48, .inl (fun _ => 0)))]) uw1 0 rfl rfl 2 (by decide) q_82 rfl tyX1 tyX1_ok nmX1 rfl rfl rfl rfl (Nat.le_of_ble_eq_true rfl) rfl dX1_init_25 ?_
  refine v_aload_n X3 (pc := 28) dX1_init_28 rfl 0 rfl ?_
  refine v_bipush X3 (pc := 29) (v := 48) dX1_init_29 (by decide) ?_
  refine v_newaI X3 (pc := 31) (N := 48) (k := 4) (n := 192) q_94 (by decide) (by decide) (Nat.le_of_ble_eq_true rfl) rfl rfl (Nat.le_trans (Nat.le_of_ble_eq_true rfl) F.2.2.2.2.2.1) (Nat.le_trans (Nat.le_of_ble_eq_true rfl) F.2.2.2.2.2.2) dX1_init_31 (fun y3 => ?_)
  have X4 := (X.al (Nat.le_trans (Nat.le_of_ble_eq_true rfl) F.2.2.2.2.2.1) (Nat.le_trans (Nat.le_of_ble_eq_true rfl) F.2.2.2.2.2.2) : Cx (x.al 4 192) _ _ _ _ _)
  show V (x.al 4 192) _ _ _ _
  refine v_putF X4 F.2.2.2.1 (pc := 33) (w' := [(h0, .inr (1, [.ref y0, .ref y1, .ref y2, .ref y3])), (y0, .inl (x.g.2.1, 48, .inl (fun _ => 0))), (y1, .inl (x.g.2.1, 48, .inl (fun _ => 0))), (y2, .inl (x.g.2.1, 48, .inl (fun _ => 0))), (y3, .inl (x.g.2.1, 48, .inl (fun _ => 0)))]) uw1 0 rfl rfl 3 (by decide) q_83 rfl tyX1 tyX1_ok nmX1 rfl rfl rfl rfl (Nat.le_of_ble_eq_true rfl) rfl dX1_init_33 ?_
  exact v_cret X4 (pc := 36) (F.al (k := 4) (n := 192)) rfl rfl ⟨_, _, _, _, rfl⟩ dX1_init_36
theorem cw_X1_init : CwB yX1_init cX1_init 1 none 0 := ⟨q_76, q_52, by decide, by decide, by decide +kernel⟩

set_option maxHeartbeats 4000000 in
set_option maxRecDepth 100000 in
theorem c_X0_init (l : Launch) (g : Gl) (h0 : Nat) : OkC l g yX0_init cX0_init 1 1 20 1 6 [.ref h0] [(h0, .inr (0, [.null]))] (fun w1 => ∃ a : Nat → Nat, a 0 = h0 ∧ w1 = wCl g a (fun _ => 0)) := by
  refine OkC.of RX0 (by decide) rfl rfl (Nat.le_of_ble_eq_true rfl) (fun x hl hg X F => ?_)
  subst hg; subst hl
  have X0 : Cx (x.al 0 0) _ _ _ _ _ := X.al (Nat.zero_le _) (Nat.zero_le _)
  show V (x.al 0 0) [(h0, .inr (0, [.null]))] [(0, .ref h0)] [] 0
  refine v_aload_n X0 (pc := 0) dX0_init_0 rfl 0 rfl ?_
  refine v_objInit X0 (pc := 1) q_167 q_64 q_65 (by decide) (Nat.le_of_ble_eq_true rfl) dX0_init_1 ?_
  refine v_aload_n X0 (pc := 4) dX0_init_4 rfl 0 rfl ?_
  refine v_bipush X0 (pc := 5) (v := 6) dX0_init_5 (by decide) ?_
  refine v_newaI X0 (pc := 7) (N := 6) (k := 1) (n := 6) q_94 (by decide) (by decide) (Nat.le_of_ble_eq_true rfl) rfl rfl (Nat.le_trans (Nat.le_of_ble_eq_true rfl) F.2.2.2.2.2.1) (Nat.le_trans (Nat.le_of_ble_eq_true rfl) F.2.2.2.2.2.2) dX0_init_7 (fun y0 => ?_)
  have X1 := (X.al (Nat.le_trans (Nat.le_of_ble_eq_true rfl) F.2.2.2.2.2.1) (Nat.le_trans (Nat.le_of_ble_eq_true rfl) F.2.2.2.2.2.2) : Cx (x.al 1 6) _ _ _ _ _)
  show V (x.al 1 6) _ _ _ _
  refine v_putF X1 F.2.2.2.1 (pc := 9) (w' := [(h0, .inr (0, [.ref y0])), (y0, .inl (x.g.2.1, 6, .inl (fun _ => 0)))]) uw0 0 rfl rfl 0 (by decide) q_168 rfl tyX0 tyX0_ok nmX0 rfl rfl rfl rfl (Nat.le_of_ble_eq_true rfl) rfl dX0_init_9 ?_
  exact v_cret X1 (pc := 12) (F.al (k := 1) (n := 6)) rfl rfl ⟨adL [h0, y0], rfl, rfl⟩ dX0_init_12
theorem cw_X0_init : CwB yX0_init cX0_init 1 none 0 := ⟨q_166, q_54, by decide, by decide, by decide +kernel⟩

set_option maxHeartbeats 4000000 in
set_option maxRecDepth 100000 in
theorem c_X3_init (l : Launch) (g : Gl) (h0 : Nat) : OkC l g yX3_init cX3_init 1 1 20 1 60 [.ref h0] [(h0, .inr (3, [.null, .int 0, .int 0, .int 0, .int 0, .int 0]))] (fun w1 => ∃ a : Nat → Nat, a 0 = h0 ∧ w1 = wSc g a (fun _ _ => 0)) := by
  refine OkC.of RX3 (by decide) rfl rfl (Nat.le_of_ble_eq_true rfl) (fun x hl hg X F => ?_)
  subst hg; subst hl
  have X0 : Cx (x.al 0 0) _ _ _ _ _ := X.al (Nat.zero_le _) (Nat.zero_le _)
  show V (x.al 0 0) [(h0, .inr (3, [.null, .int 0, .int 0, .int 0, .int 0, .int 0]))] [(0, .ref h0)] [] 0
  refine v_aload_n X0 (pc := 0) dX3_init_0 rfl 0 rfl ?_
  refine v_objInit X0 (pc := 1) q_177 q_64 q_65 (by decide) (Nat.le_of_ble_eq_true rfl) dX3_init_1 ?_
  refine v_aload_n X0 (pc := 4) dX3_init_4 rfl 0 rfl ?_
  refine v_bipush X0 (pc := 5) (v := 60) dX3_init_5 (by decide) ?_
  refine v_newaI X0 (pc := 7) (N := 60) (k := 1) (n := 60) q_94 (by decide) (by decide) (Nat.le_of_ble_eq_true rfl) rfl rfl (Nat.le_trans (Nat.le_of_ble_eq_true rfl) F.2.2.2.2.2.1) (Nat.le_trans (Nat.le_of_ble_eq_true rfl) F.2.2.2.2.2.2) dX3_init_7 (fun y0 => ?_)
  have X1 := (X.al (Nat.le_trans (Nat.le_of_ble_eq_true rfl) F.2.2.2.2.2.1) (Nat.le_trans (Nat.le_of_ble_eq_true rfl) F.2.2.2.2.2.2) : Cx (x.al 1 60) _ _ _ _ _)
  show V (x.al 1 60) _ _ _ _
  refine v_putF X1 F.2.2.2.1 (pc := 9) (w' := [(h0, .inr (3, [.ref y0, .int 0, .int 0, .int 0, .int 0, .int 0])), (y0, .inl (x.g.2.1, 60, .inl (fun _ => 0)))]) uw3 0 rfl rfl 0 (by decide) q_178 rfl tyX3 tyX3_ok nmX3 rfl rfl rfl rfl (Nat.le_of_ble_eq_true rfl) rfl dX3_init_9 ?_
  refine v_aload_n X1 (pc := 12) dX3_init_12 rfl 0 rfl ?_
  refine v_iconst X1 (pc := 13) (v := 0) dX3_init_13 (by decide) ?_
  refine v_put X1 (pc := 14) (w' := [(h0, .inr (3, [.ref y0, .int 0, .int 0, .int 0, .int 0, .int 0])), (y0, .inl (x.g.2.1, 60, .inl (fun _ => 0)))]) uw3 0 rfl rfl 1 (by decide) q_179 rfl tyX3 tyX3_ok nmX3 rfl rfl rfl (Nat.le_of_ble_eq_true rfl) rfl dX3_init_14 ?_
  refine v_aload_n X1 (pc := 17) dX3_init_17 rfl 0 rfl ?_
  refine v_iconst X1 (pc := 18) (v := 0) dX3_init_18 (by decide) ?_
  refine v_put X1 (pc := 19) (w' := [(h0, .inr (3, [.ref y0, .int 0, .int 0, .int 0, .int 0, .int 0])), (y0, .inl (x.g.2.1, 60, .inl (fun _ => 0)))]) uw3 0 rfl rfl 2 (by decide) q_181 rfl tyX3 tyX3_ok nmX3 rfl rfl rfl (Nat.le_of_ble_eq_true rfl) rfl dX3_init_19 ?_
  refine v_aload_n X1 (pc := 22) dX3_init_22 rfl 0 rfl ?_
  refine v_iconst X1 (pc := 23) (v := 0) dX3_init_23 (by decide) ?_
  refine v_put X1 (pc := 24) (w' := [(h0, .inr (3, [.ref y0, .int 0, .int 0, .int 0, .int 0, .int 0])), (y0, .inl (x.g.2.1, 60, .inl (fun _ => 0)))]) uw3 0 rfl rfl 3 (by decide) q_182 rfl tyX3 tyX3_ok nmX3 rfl rfl rfl (Nat.le_of_ble_eq_true rfl) rfl dX3_init_24 ?_
  refine v_aload_n X1 (pc := 27) dX3_init_27 rfl 0 rfl ?_
  refine v_iconst X1 (pc := 28) (v := 0) dX3_init_28 (by decide) ?_
  refine v_put X1 (pc := 29) (w' := [(h0, .inr (3, [.ref y0, .int 0, .int 0, .int 0, .int 0, .int 0])), (y0, .inl (x.g.2.1, 60, .inl (fun _ => 0)))]) uw3 0 rfl rfl 4 (by decide) q_184 rfl tyX3 tyX3_ok nmX3 rfl rfl rfl (Nat.le_of_ble_eq_true rfl) rfl dX3_init_29 ?_
  refine v_aload_n X1 (pc := 32) dX3_init_32 rfl 0 rfl ?_
  refine v_iconst X1 (pc := 33) (v := 0) dX3_init_33 (by decide) ?_
  refine v_put X1 (pc := 34) (w' := [(h0, .inr (3, [.ref y0, .int 0, .int 0, .int 0, .int 0, .int 0])), (y0, .inl (x.g.2.1, 60, .inl (fun _ => 0)))]) uw3 0 rfl rfl 5 (by decide) q_186 rfl tyX3 tyX3_ok nmX3 rfl rfl rfl (Nat.le_of_ble_eq_true rfl) rfl dX3_init_34 ?_
  exact v_cret X1 (pc := 37) (F.al (k := 1) (n := 60)) rfl rfl ⟨adL [h0, y0], rfl, rfl⟩ dX3_init_37
theorem cw_X3_init : CwB yX3_init cX3_init 1 none 0 := ⟨q_176, q_55, by decide, by decide, by decide +kernel⟩

set_option maxHeartbeats 4000000 in
set_option maxRecDepth 100000 in
theorem c_X4_init (l : Launch) (g : Gl) (h0 : Nat) : OkC l g yX4_init cX4_init 2 2 40 11 256 [.ref h0] [(h0, .inr (4, [.null, .null, .null, .null, .null, .null, .null, .int 0, .int 0, .int 0, .int 0]))] (fun w1 => ∃ a : Nat → Nat, a 0 = h0 ∧ w1 = wSt g a st0) := by
  refine OkC.of RX4 (by decide) rfl rfl (Nat.le_of_ble_eq_true rfl) (fun x hl hg X F => ?_)
  subst hg; subst hl
  have X0 : Cx (x.al 0 0) _ _ _ _ _ := X.al (Nat.zero_le _) (Nat.zero_le _)
  show V (x.al 0 0) [(h0, .inr (4, [.null, .null, .null, .null, .null, .null, .null, .int 0, .int 0, .int 0, .int 0]))] [(0, .ref h0)] [] 0
  refine v_aload_n X0 (pc := 0) dX4_init_0 rfl 0 rfl ?_
  refine v_objInit X0 (pc := 1) q_71 q_64 q_65 (by decide) (Nat.le_of_ble_eq_true rfl) dX4_init_1 ?_
  refine v_aload_n X0 (pc := 4) dX4_init_4 rfl 0 rfl ?_
  refine v_bipush X0 (pc := 5) (v := 6) dX4_init_5 (by decide) ?_
  refine v_newaI X0 (pc := 7) (N := 6) (k := 1) (n := 6) q_94 (by decide) (by decide) (Nat.le_of_ble_eq_true rfl) rfl rfl (Nat.le_trans (Nat.le_of_ble_eq_true rfl) F.2.2.2.2.2.1) (Nat.le_trans (Nat.le_of_ble_eq_true rfl) F.2.2.2.2.2.2) dX4_init_7 (fun y0 => ?_)
  have X1 := (X.al (Nat.le_trans (Nat.le_of_ble_eq_true rfl) F.2.2.2.2.2.1) (Nat.le_trans (Nat.le_of_ble_eq_true rfl) F.2.2.2.2.2.2) : Cx (x.al 1 6) _ _ _ _ _)
  show V (x.al 1 6) _ _ _ _
  refine v_putF X1 F.2.2.2.1 (pc := 9) (w' := [(h0, .inr (4, [.ref y0, .null, .null, .null, .null, .null, .null, .int 0, .int 0, .int 0, .int 0])), (y0, .inl (x.g.2.1, 6, .inl (fun _ => 0)))]) uw4 0 rfl rfl 0 (by decide) q_95 rfl tyX4 tyX4_ok nmX4 rfl rfl rfl rfl (Nat.le_of_ble_eq_true rfl) rfl dX4_init_9 ?_
  refine v_aload_n X1 (pc := 12) dX4_init_12 rfl 0 rfl ?_
  refine v_bipush X1 (pc := 13) (v := 6) dX4_init_13 (by decide) ?_
  refine v_newaI X1 (pc := 15) (N := 6) (k := 2) (n := 12) q_94 (by decide) (by decide) (Nat.le_of_ble_eq_true rfl) rfl rfl (Nat.le_trans (Nat.le_of_ble_eq_true rfl) F.2.2.2.2.2.1) (Nat.le_trans (Nat.le_of_ble_eq_true rfl) F.2.2.2.2.2.2) dX4_init_15 (fun y1 => ?_)
  have X2 := (X.al (Nat.le_trans (Nat.le_of_ble_eq_true rfl) F.2.2.2.2.2.1) (Nat.le_trans (Nat.le_of_ble_eq_true rfl) F.2.2.2.2.2.2) : Cx (x.al 2 12) _ _ _ _ _)
  show V (x.al 2 12) _ _ _ _
  refine v_putF X2 F.2.2.2.1 (pc := 17) (w' := [(h0, .inr (4, [.ref y0, .ref y1, .null, .null, .null, .null, .null, .int 0, .int 0, .int 0, .int 0])), (y0, .inl (x.g.2.1, 6, .inl (fun _ => 0))), (y1, .inl (x.g.2.1, 6, .inl (fun _ => 0)))]) uw4 0 rfl rfl 1 (by decide) q_97 rfl tyX4 tyX4_ok nmX4 rfl rfl rfl rfl (Nat.le_of_ble_eq_true rfl) rfl dX4_init_17 ?_
  refine v_aload_n X2 (pc := 20) dX4_init_20 rfl 0 rfl ?_
  refine v_bipush X2 (pc := 21) (v := 12) dX4_init_21 (by decide) ?_
  refine v_newaI X2 (pc := 23) (N := 12) (k := 3) (n := 24) q_94 (by decide) (by decide) (Nat.le_of_ble_eq_true rfl) rfl rfl (Nat.le_trans (Nat.le_of_ble_eq_true rfl) F.2.2.2.2.2.1) (Nat.le_trans (Nat.le_of_ble_eq_true rfl) F.2.2.2.2.2.2) dX4_init_23 (fun y2 => ?_)
  have X3 := (X.al (Nat.le_trans (Nat.le_of_ble_eq_true rfl) F.2.2.2.2.2.1) (Nat.le_trans (Nat.le_of_ble_eq_true rfl) F.2.2.2.2.2.2) : Cx (x.al 3 24) _ _ _ _ _)
  show V (x.al 3 24) _ _ _ _
  refine v_putF X3 F.2.2.2.1 (pc := 25) (w' := [(h0, .inr (4, [.ref y0, .ref y1, .ref y2, .null, .null, .null, .null, .int 0, .int 0, .int 0, .int 0])), (y0, .inl (x.g.2.1, 6, .inl (fun _ => 0))), (y1, .inl (x.g.2.1, 6, .inl (fun _ => 0))), (y2, .inl (x.g.2.1, 12, .inl (fun _ => 0)))]) uw4 0 rfl rfl 2 (by decide) q_99 rfl tyX4 tyX4_ok nmX4 rfl rfl rfl rfl (Nat.le_of_ble_eq_true rfl) rfl dX4_init_25 ?_
  refine v_aload_n X3 (pc := 28) dX4_init_28 rfl 0 rfl ?_
  refine v_bipush X3 (pc := 29) (v := 12) dX4_init_29 (by decide) ?_
  refine v_newaI X3 (pc := 31) (N := 12) (k := 4) (n := 36) q_94 (by decide) (by decide) (Nat.le_of_ble_eq_true rfl) rfl rfl (Nat.le_trans (Nat.le_of_ble_eq_true rfl) F.2.2.2.2.2.1) (Nat.le_trans (Nat.le_of_ble_eq_true rfl) F.2.2.2.2.2.2) dX4_init_31 (fun y3 => ?_)
  have X4 := (X.al (Nat.le_trans (Nat.le_of_ble_eq_true rfl) F.2.2.2.2.2.1) (Nat.le_trans (Nat.le_of_ble_eq_true rfl) F.2.2.2.2.2.2) : Cx (x.al 4 36) _ _ _ _ _)
  show V (x.al 4 36) _ _ _ _
  refine v_putF X4 F.2.2.2.1 (pc := 33) (w' := [(h0, .inr (4, [.ref y0, .ref y1, .ref y2, .ref y3, .null, .null, .null, .int 0, .int 0, .int 0, .int 0])), (y0, .inl (x.g.2.1, 6, .inl (fun _ => 0))), (y1, .inl (x.g.2.1, 6, .inl (fun _ => 0))), (y2, .inl (x.g.2.1, 12, .inl (fun _ => 0))), (y3, .inl (x.g.2.1, 12, .inl (fun _ => 0)))]) uw4 0 rfl rfl 3 (by decide) q_101 rfl tyX4 tyX4_ok nmX4 rfl rfl rfl rfl (Nat.le_of_ble_eq_true rfl) rfl dX4_init_33 ?_
  refine v_aload_n X4 (pc := 36) dX4_init_36 rfl 0 rfl ?_
  refine v_bipush X4 (pc := 37) (v := 12) dX4_init_37 (by decide) ?_
  refine v_newaI X4 (pc := 39) (N := 12) (k := 5) (n := 48) q_94 (by decide) (by decide) (Nat.le_of_ble_eq_true rfl) rfl rfl (Nat.le_trans (Nat.le_of_ble_eq_true rfl) F.2.2.2.2.2.1) (Nat.le_trans (Nat.le_of_ble_eq_true rfl) F.2.2.2.2.2.2) dX4_init_39 (fun y4 => ?_)
  have X5 := (X.al (Nat.le_trans (Nat.le_of_ble_eq_true rfl) F.2.2.2.2.2.1) (Nat.le_trans (Nat.le_of_ble_eq_true rfl) F.2.2.2.2.2.2) : Cx (x.al 5 48) _ _ _ _ _)
  show V (x.al 5 48) _ _ _ _
  refine v_putF X5 F.2.2.2.1 (pc := 41) (w' := [(h0, .inr (4, [.ref y0, .ref y1, .ref y2, .ref y3, .ref y4, .null, .null, .int 0, .int 0, .int 0, .int 0])), (y0, .inl (x.g.2.1, 6, .inl (fun _ => 0))), (y1, .inl (x.g.2.1, 6, .inl (fun _ => 0))), (y2, .inl (x.g.2.1, 12, .inl (fun _ => 0))), (y3, .inl (x.g.2.1, 12, .inl (fun _ => 0))), (y4, .inl (x.g.2.1, 12, .inl (fun _ => 0)))]) uw4 0 rfl rfl 4 (by decide) q_103 rfl tyX4 tyX4_ok nmX4 rfl rfl rfl rfl (Nat.le_of_ble_eq_true rfl) rfl dX4_init_41 ?_
  refine v_aload_n X5 (pc := 44) dX4_init_44 rfl 0 rfl ?_
  refine v_bipush X5 (pc := 45) (v := 12) dX4_init_45 (by decide) ?_
  refine v_newaI X5 (pc := 47) (N := 12) (k := 6) (n := 60) q_94 (by decide) (by decide) (Nat.le_of_ble_eq_true rfl) rfl rfl (Nat.le_trans (Nat.le_of_ble_eq_true rfl) F.2.2.2.2.2.1) (Nat.le_trans (Nat.le_of_ble_eq_true rfl) F.2.2.2.2.2.2) dX4_init_47 (fun y5 => ?_)
  have X6 := (X.al (Nat.le_trans (Nat.le_of_ble_eq_true rfl) F.2.2.2.2.2.1) (Nat.le_trans (Nat.le_of_ble_eq_true rfl) F.2.2.2.2.2.2) : Cx (x.al 6 60) _ _ _ _ _)
  show V (x.al 6 60) _ _ _ _
  refine v_putF X6 F.2.2.2.1 (pc := 49) (w' := [(h0, .inr (4, [.ref y0, .ref y1, .ref y2, .ref y3, .ref y4, .ref y5, .null, .int 0, .int 0, .int 0, .int 0])), (y0, .inl (x.g.2.1, 6, .inl (fun _ => 0))), (y1, .inl (x.g.2.1, 6, .inl (fun _ => 0))), (y2, .inl (x.g.2.1, 12, .inl (fun _ => 0))), (y3, .inl (x.g.2.1, 12, .inl (fun _ => 0))), (y4, .inl (x.g.2.1, 12, .inl (fun _ => 0))), (y5, .inl (x.g.2.1, 12, .inl (fun _ => 0)))]) uw4 0 rfl rfl 5 (by decide) q_105 rfl tyX4 tyX4_ok nmX4 rfl rfl rfl rfl (Nat.le_of_ble_eq_true rfl) rfl dX4_init_49 ?_
  refine v_aload_n X6 (pc := 52) dX4_init_52 rfl 0 rfl ?_
  refine v_new X6 (pc := 53) (ci := 1) (N := 4) (fs := [.null, .null, .null, .null]) (k := 7) (n := 64) uw1 tyX1 tyX1_ok q_72 q_73 q_52 rfl (fun j hj => by match j, hj with | 0, _ => rfl | 1, _ => rfl | 2, _ => rfl | 3, _ => rfl | j + 4, hj => exact absurd hj (by omega)) rfl rfl (Nat.le_trans (Nat.le_of_ble_eq_true rfl) F.2.2.2.2.2.1) (Nat.le_trans (Nat.le_of_ble_eq_true rfl) F.2.2.2.2.2.2) dX4_init_53 (fun y6 => ?_)
  have X7 := (X.al (Nat.le_trans (Nat.le_of_ble_eq_true rfl) F.2.2.2.2.2.1) (Nat.le_trans (Nat.le_of_ble_eq_true rfl) F.2.2.2.2.2.2) : Cx (x.al 7 64) _ _ _ _ _)
  show V (x.al 7 64) _ _ _ _
  refine v_dup X7 (pc := 56) dX4_init_56 rfl ?_
  refine v_callIN X7 F.2.2.2.2.1 (pc := 57) (k := 11) (n := 256) (c_X1_init x.l x.g y6) cw_X1_init k_0 q_75 rfl ⟨by decide, by decide⟩ rfl rfl (Nat.le_trans (Nat.le_of_ble_eq_true rfl) F.2.2.2.2.2.1) (Nat.le_trans (Nat.le_of_ble_eq_true rfl) F.2.2.2.2.2.2) (Nat.le_of_ble_eq_true rfl) dX4_init_57 (fun w7 hw7 => ?_)
  obtain ⟨z7, z8, z9, z10, rfl⟩ := hw7
  have X11 := (X.al (Nat.le_trans (Nat.le_of_ble_eq_true rfl) F.2.2.2.2.2.1) (Nat.le_trans (Nat.le_of_ble_eq_true rfl) F.2.2.2.2.2.2) : Cx (x.al 11 256) _ _ _ _ _)
  show V (x.al 11 256) _ _ _ _
  refine v_putF X11 F.2.2.2.1 (pc := 60) (w' := [(h0, .inr (4, [.ref y0, .ref y1, .ref y2, .ref y3, .ref y4, .ref y5, .ref y6, .int 0, .int 0, .int 0, .int 0])), (y0, .inl (x.g.2.1, 6, .inl (fun _ => 0))), (y1, .inl (x.g.2.1, 6, .inl (fun _ => 0))), (y2, .inl (x.g.2.1, 12, .inl (fun _ => 0))), (y3, .inl (x.g.2.1, 12, .inl (fun _ => 0))), (y4, .inl (x.g.2.1, 12, .inl (fun _ => 0))), (y5, .inl (x.g.2.1, 12, .inl (fun _ => 0))), (y6, .inr (1, [.ref z7, .ref z8, .ref z9, .ref z10])), (z7, .inl (x.g.2.1, 48, .inl (fun _ => 0))), (z8, .inl (x.g.2.1, 48, .inl (fun _ => 0))), (z9, .inl (x.g.2.1, 48, .inl (fun _ => 0))), (z10, .inl (x.g.2.1, 48, .inl (fun _ => 0)))]) uw4 0 rfl rfl 6 (by decide) q_107 rfl tyX4 tyX4_ok nmX4 rfl rfl rfl rfl (Nat.le_of_ble_eq_true rfl) rfl dX4_init_60 ?_
  refine v_aload_n X11 (pc := 63) dX4_init_63 rfl 0 rfl ?_
  refine v_iconst X11 (pc := 64) (v := 0) dX4_init_64 (by decide) ?_
  refine v_put X11 (pc := 65) (w' := [(h0, .inr (4, [.ref y0, .ref y1, .ref y2, .ref y3, .ref y4, .ref y5, .ref y6, .int 0, .int 0, .int 0, .int 0])), (y0, .inl (x.g.2.1, 6, .inl (fun _ => 0))), (y1, .inl (x.g.2.1, 6, .inl (fun _ => 0))), (y2, .inl (x.g.2.1, 12, .inl (fun _ => 0))), (y3, .inl (x.g.2.1, 12, .inl (fun _ => 0))), (y4, .inl (x.g.2.1, 12, .inl (fun _ => 0))), (y5, .inl (x.g.2.1, 12, .inl (fun _ => 0))), (y6, .inr (1, [.ref z7, .ref z8, .ref z9, .ref z10])), (z7, .inl (x.g.2.1, 48, .inl (fun _ => 0))), (z8, .inl (x.g.2.1, 48, .inl (fun _ => 0))), (z9, .inl (x.g.2.1, 48, .inl (fun _ => 0))), (z10, .inl (x.g.2.1, 48, .inl (fun _ => 0)))]) uw4 0 rfl rfl 7 (by decide) q_109 rfl tyX4 tyX4_ok nmX4 rfl rfl rfl (Nat.le_of_ble_eq_true rfl) rfl dX4_init_65 ?_
  refine v_aload_n X11 (pc := 68) dX4_init_68 rfl 0 rfl ?_
  refine v_bipush X11 (pc := 69) (v := 30) dX4_init_69 (by decide) ?_
  refine v_put X11 (pc := 71) (w' := [(h0, .inr (4, [.ref y0, .ref y1, .ref y2, .ref y3, .ref y4, .ref y5, .ref y6, .int 0, .int 30, .int 0, .int 0])), (y0, .inl (x.g.2.1, 6, .inl (fun _ => 0))), (y1, .inl (x.g.2.1, 6, .inl (fun _ => 0))), (y2, .inl (x.g.2.1, 12, .inl (fun _ => 0))), (y3, .inl (x.g.2.1, 12, .inl (fun _ => 0))), (y4, .inl (x.g.2.1, 12, .inl (fun _ => 0))), (y5, .inl (x.g.2.1, 12, .inl (fun _ => 0))), (y6, .inr (1, [.ref z7, .ref z8, .ref z9, .ref z10])), (z7, .inl (x.g.2.1, 48, .inl (fun _ => 0))), (z8, .inl (x.g.2.1, 48, .inl (fun _ => 0))), (z9, .inl (x.g.2.1, 48, .inl (fun _ => 0))), (z10, .inl (x.g.2.1, 48, .inl (fun _ => 0)))]) uw4 0 rfl rfl 8 (by decide) q_112 rfl tyX4 tyX4_ok nmX4 rfl rfl rfl (Nat.le_of_ble_eq_true rfl) rfl dX4_init_71 ?_
  refine v_aload_n X11 (pc := 74) dX4_init_74 rfl 0 rfl ?_
  refine v_bipush X11 (pc := 75) (v := 6) dX4_init_75 (by decide) ?_
  refine v_put X11 (pc := 77) (w' := [(h0, .inr (4, [.ref y0, .ref y1, .ref y2, .ref y3, .ref y4, .ref y5, .ref y6, .int 0, .int 30, .int 6, .int 0])), (y0, .inl (x.g.2.1, 6, .inl (fun _ => 0))), (y1, .inl (x.g.2.1, 6, .inl (fun _ => 0))), (y2, .inl (x.g.2.1, 12, .inl (fun _ => 0))), (y3, .inl (x.g.2.1, 12, .inl (fun _ => 0))), (y4, .inl (x.g.2.1, 12, .inl (fun _ => 0))), (y5, .inl (x.g.2.1, 12, .inl (fun _ => 0))), (y6, .inr (1, [.ref z7, .ref z8, .ref z9, .ref z10])), (z7, .inl (x.g.2.1, 48, .inl (fun _ => 0))), (z8, .inl (x.g.2.1, 48, .inl (fun _ => 0))), (z9, .inl (x.g.2.1, 48, .inl (fun _ => 0))), (z10, .inl (x.g.2.1, 48, .inl (fun _ => 0)))]) uw4 0 rfl rfl 9 (by decide) q_115 rfl tyX4 tyX4_ok nmX4 rfl rfl rfl (Nat.le_of_ble_eq_true rfl) rfl dX4_init_77 ?_
  refine v_aload_n X11 (pc := 80) dX4_init_80 rfl 0 rfl ?_
  refine v_iconst X11 (pc := 81) (v := 0) dX4_init_81 (by decide) ?_
  refine v_put X11 (pc := 82) (w' := [(h0, .inr (4, [.ref y0, .ref y1, .ref y2, .ref y3, .ref y4, .ref y5, .ref y6, .int 0, .int 30, .int 6, .int 0])), (y0, .inl (x.g.2.1, 6, .inl (fun _ => 0))), (y1, .inl (x.g.2.1, 6, .inl (fun _ => 0))), (y2, .inl (x.g.2.1, 12, .inl (fun _ => 0))), (y3, .inl (x.g.2.1, 12, .inl (fun _ => 0))), (y4, .inl (x.g.2.1, 12, .inl (fun _ => 0))), (y5, .inl (x.g.2.1, 12, .inl (fun _ => 0))), (y6, .inr (1, [.ref z7, .ref z8, .ref z9, .ref z10])), (z7, .inl (x.g.2.1, 48, .inl (fun _ => 0))), (z8, .inl (x.g.2.1, 48, .inl (fun _ => 0))), (z9, .inl (x.g.2.1, 48, .inl (fun _ => 0))), (z10, .inl (x.g.2.1, 48, .inl (fun _ => 0)))]) uw4 0 rfl rfl 10 (by decide) q_117 rfl tyX4 tyX4_ok nmX4 rfl rfl rfl (Nat.le_of_ble_eq_true rfl) rfl dX4_init_82 ?_
  refine v_iconst X11 (pc := 85) (v := 0) dX4_init_85 (by decide) ?_
  refine v_istore_n X11 (pc := 86) (L2 := [(1, .int 0), (0, .ref h0)]) dX4_init_86 rfl (by decide) rfl ?_
  refine v_iload_n X11 (pc := 87) dX4_init_87 rfl 0 rfl ?_
  refine v_aload_n X11 (pc := 88) dX4_init_88 rfl 1 rfl ?_
  refine v_get X11 (pc := 89) (v := .ref y0) uw4 0 rfl rfl 0 (by decide) q_95 rfl rfl dX4_init_89 ?_
  refine v_alen X11 (pc := 92) 1 rfl dX4_init_92 ?_
  refine v_icmpge X11 (pc := 93) (tgt := 110) dX4_init_93 (by decide) (fun c => absurd c (by decide)) (fun _ => ?_)
  refine v_aload_n X11 (pc := 96) dX4_init_96 rfl 1 rfl ?_
  refine v_get X11 (pc := 97) (v := .ref y0) uw4 0 rfl rfl 0 (by decide) q_95 rfl rfl dX4_init_97 ?_
  refine v_iload_n X11 (pc := 100) dX4_init_100 rfl 0 rfl ?_
  refine v_bipush X11 (pc := 101) (v := 100) dX4_init_101 (by decide) ?_
  refine v_iast X11 (pc := 103) (w' := [(h0, .inr (4, [.ref y0, .ref y1, .ref y2, .ref y3, .ref y4, .ref y5, .ref y6, .int 0, .int 30, .int 6, .int 0])), (y0, .inl (x.g.2.1, 6, .inl (upd (fun _ => 0) 0 100))), (y1, .inl (x.g.2.1, 6, .inl (fun _ => 0))), (y2, .inl (x.g.2.1, 12, .inl (fun _ => 0))), (y3, .inl (x.g.2.1, 12, .inl (fun _ => 0))), (y4, .inl (x.g.2.1, 12, .inl (fun _ => 0))), (y5, .inl (x.g.2.1, 12, .inl (fun _ => 0))), (y6, .inr (1, [.ref z7, .ref z8, .ref z9, .ref z10])), (z7, .inl (x.g.2.1, 48, .inl (fun _ => 0))), (z8, .inl (x.g.2.1, 48, .inl (fun _ => 0))), (z9, .inl (x.g.2.1, 48, .inl (fun _ => 0))), (z10, .inl (x.g.2.1, 48, .inl (fun _ => 0)))]) 1 rfl (ib_in (by decide)) rfl dX4_init_103 ?_
  refine v_iinc X11 (pc := 104) (v := 1) (L2 := [(1, .int 1), (0, .ref h0)]) dX4_init_104 0 rfl (by decide) (by decide) rfl ?_
  refine v_goto X11 (pc := 107) (tgt := 87) dX4_init_107 (by decide) ?_
  refine v_iload_n X11 (pc := 87) dX4_init_87 rfl 0 rfl ?_
  refine v_aload_n X11 (pc := 88) dX4_init_88 rfl 1 rfl ?_
  refine v_get X11 (pc := 89) (v := .ref y0) uw4 0 rfl rfl 0 (by decide) q_95 rfl rfl dX4_init_89 ?_
  refine v_alen X11 (pc := 92) 1 rfl dX4_init_92 ?_
  refine v_icmpge X11 (pc := 93) (tgt := 110) dX4_init_93 (by decide) (fun c => absurd c (by decide)) (fun _ => ?_)
  refine v_aload_n X11 (pc := 96) dX4_init_96 rfl 1 rfl ?_
  refine v_get X11 (pc := 97) (v := .ref y0) uw4 0 rfl rfl 0 (by decide) q_95 rfl rfl dX4_init_97 ?_
  refine v_iload_n X11 (pc := 100) dX4_init_100 rfl 0 rfl ?_
  refine v_bipush X11 (pc := 101) (v := 100) dX4_init_101 (by decide) ?_
  refine v_iast X11 (pc := 103) (w' := [(h0, .inr (4, [.ref y0, .ref y1, .ref y2, .ref y3, .ref y4, .ref y5, .ref y6, .int 0, .int 30, .int 6, .int 0])), (y0, .inl (x.g.2.1, 6, .inl (upd (upd (fun _ => 0) 0 100) 1 100))), (y1, .inl (x.g.2.1, 6, .inl (fun _ => 0))), (y2, .inl (x.g.2.1, 12, .inl (fun _ => 0))), (y3, .inl (x.g.2.1, 12, .inl (fun _ => 0))), (y4, .inl (x.g.2.1, 12, .inl (fun _ => 0))), (y5, .inl (x.g.2.1, 12, .inl (fun _ => 0))), (y6, .inr (1, [.ref z7, .ref z8, .ref z9, .ref z10])), (z7, .inl (x.g.2.1, 48, .inl (fun _ => 0))), (z8, .inl (x.g.2.1, 48, .inl (fun _ => 0))), (z9, .inl (x.g.2.1, 48, .inl (fun _ => 0))), (z10, .inl (x.g.2.1, 48, .inl (fun _ => 0)))]) 1 rfl (ib_in (by decide)) rfl dX4_init_103 ?_
  refine v_iinc X11 (pc := 104) (v := 2) (L2 := [(1, .int 2), (0, .ref h0)]) dX4_init_104 0 rfl (by decide) (by decide) rfl ?_
  refine v_goto X11 (pc := 107) (tgt := 87) dX4_init_107 (by decide) ?_
  refine v_iload_n X11 (pc := 87) dX4_init_87 rfl 0 rfl ?_
  refine v_aload_n X11 (pc := 88) dX4_init_88 rfl 1 rfl ?_
  refine v_get X11 (pc := 89) (v := .ref y0) uw4 0 rfl rfl 0 (by decide) q_95 rfl rfl dX4_init_89 ?_
  refine v_alen X11 (pc := 92) 1 rfl dX4_init_92 ?_
  refine v_icmpge X11 (pc := 93) (tgt := 110) dX4_init_93 (by decide) (fun c => absurd c (by decide)) (fun _ => ?_)
  refine v_aload_n X11 (pc := 96) dX4_init_96 rfl 1 rfl ?_
  refine v_get X11 (pc := 97) (v := .ref y0) uw4 0 rfl rfl 0 (by decide) q_95 rfl rfl dX4_init_97 ?_
  refine v_iload_n X11 (pc := 100) dX4_init_100 rfl 0 rfl ?_
  refine v_bipush X11 (pc := 101) (v := 100) dX4_init_101 (by decide) ?_
  refine v_iast X11 (pc := 103) (w' := [(h0, .inr (4, [.ref y0, .ref y1, .ref y2, .ref y3, .ref y4, .ref y5, .ref y6, .int 0, .int 30, .int 6, .int 0])), (y0, .inl (x.g.2.1, 6, .inl (upd (upd (upd (fun _ => 0) 0 100) 1 100) 2 100))), (y1, .inl (x.g.2.1, 6, .inl (fun _ => 0))), (y2, .inl (x.g.2.1, 12, .inl (fun _ => 0))), (y3, .inl (x.g.2.1, 12, .inl (fun _ => 0))), (y4, .inl (x.g.2.1, 12, .inl (fun _ => 0))), (y5, .inl (x.g.2.1, 12, .inl (fun _ => 0))), (y6, .inr (1, [.ref z7, .ref z8, .ref z9, .ref z10])), (z7, .inl (x.g.2.1, 48, .inl (fun _ => 0))), (z8, .inl (x.g.2.1, 48, .inl (fun _ => 0))), (z9, .inl (x.g.2.1, 48, .inl (fun _ => 0))), (z10, .inl (x.g.2.1, 48, .inl (fun _ => 0)))]) 1 rfl (ib_in (by decide)) rfl dX4_init_103 ?_
  refine v_iinc X11 (pc := 104) (v := 3) (L2 := [(1, .int 3), (0, .ref h0)]) dX4_init_104 0 rfl (by decide) (by decide) rfl ?_
  refine v_goto X11 (pc := 107) (tgt := 87) dX4_init_107 (by decide) ?_
  refine v_iload_n X11 (pc := 87) dX4_init_87 rfl 0 rfl ?_
  refine v_aload_n X11 (pc := 88) dX4_init_88 rfl 1 rfl ?_
  refine v_get X11 (pc := 89) (v := .ref y0) uw4 0 rfl rfl 0 (by decide) q_95 rfl rfl dX4_init_89 ?_
  refine v_alen X11 (pc := 92) 1 rfl dX4_init_92 ?_
  refine v_icmpge X11 (pc := 93) (tgt := 110) dX4_init_93 (by decide) (fun c => absurd c (by decide)) (fun _ => ?_)
  refine v_aload_n X11 (pc := 96) dX4_init_96 rfl 1 rfl ?_
  refine v_get X11 (pc := 97) (v := .ref y0) uw4 0 rfl rfl 0 (by decide) q_95 rfl rfl dX4_init_97 ?_
  refine v_iload_n X11 (pc := 100) dX4_init_100 rfl 0 rfl ?_
  refine v_bipush X11 (pc := 101) (v := 100) dX4_init_101 (by decide) ?_
  refine v_iast X11 (pc := 103) (w' := [(h0, .inr (4, [.ref y0, .ref y1, .ref y2, .ref y3, .ref y4, .ref y5, .ref y6, .int 0, .int 30, .int 6, .int 0])), (y0, .inl (x.g.2.1, 6, .inl (upd (upd (upd (upd (fun _ => 0) 0 100) 1 100) 2 100) 3 100))), (y1, .inl (x.g.2.1, 6, .inl (fun _ => 0))), (y2, .inl (x.g.2.1, 12, .inl (fun _ => 0))), (y3, .inl (x.g.2.1, 12, .inl (fun _ => 0))), (y4, .inl (x.g.2.1, 12, .inl (fun _ => 0))), (y5, .inl (x.g.2.1, 12, .inl (fun _ => 0))), (y6, .inr (1, [.ref z7, .ref z8, .ref z9, .ref z10])), (z7, .inl (x.g.2.1, 48, .inl (fun _ => 0))), (z8, .inl (x.g.2.1, 48, .inl (fun _ => 0))), (z9, .inl (x.g.2.1, 48, .inl (fun _ => 0))), (z10, .inl (x.g.2.1, 48, .inl (fun _ => 0)))]) 1 rfl (ib_in (by decide)) rfl dX4_init_103 ?_
  refine v_iinc X11 (pc := 104) (v := 4) (L2 := [(1, .int 4), (0, .ref h0)]) dX4_init_104 0 rfl (by decide) (by decide) rfl ?_
  refine v_goto X11 (pc := 107) (tgt := 87) dX4_init_107 (by decide) ?_
  refine v_iload_n X11 (pc := 87) dX4_init_87 rfl 0 rfl ?_
  refine v_aload_n X11 (pc := 88) dX4_init_88 rfl 1 rfl ?_
  refine v_get X11 (pc := 89) (v := .ref y0) uw4 0 rfl rfl 0 (by decide) q_95 rfl rfl dX4_init_89 ?_
  refine v_alen X11 (pc := 92) 1 rfl dX4_init_92 ?_
  refine v_icmpge X11 (pc := 93) (tgt := 110) dX4_init_93 (by decide) (fun c => absurd c (by decide)) (fun _ => ?_)
  refine v_aload_n X11 (pc := 96) dX4_init_96 rfl 1 rfl ?_
  refine v_get X11 (pc := 97) (v := .ref y0) uw4 0 rfl rfl 0 (by decide) q_95 rfl rfl dX4_init_97 ?_
  refine v_iload_n X11 (pc := 100) dX4_init_100 rfl 0 rfl ?_
  refine v_bipush X11 (pc := 101) (v := 100) dX4_init_101 (by decide) ?_
  refine v_iast X11 (pc := 103) (w' := [(h0, .inr (4, [.ref y0, .ref y1, .ref y2, .ref y3, .ref y4, .ref y5, .ref y6, .int 0, .int 30, .int 6, .int 0])), (y0, .inl (x.g.2.1, 6, .inl (upd (upd (upd (upd (upd (fun _ => 0) 0 100) 1 100) 2 100) 3 100) 4 100))), (y1, .inl (x.g.2.1, 6, .inl (fun _ => 0))), (y2, .inl (x.g.2.1, 12, .inl (fun _ => 0))), (y3, .inl (x.g.2.1, 12, .inl (fun _ => 0))), (y4, .inl (x.g.2.1, 12, .inl (fun _ => 0))), (y5, .inl (x.g.2.1, 12, .inl (fun _ => 0))), (y6, .inr (1, [.ref z7, .ref z8, .ref z9, .ref z10])), (z7, .inl (x.g.2.1, 48, .inl (fun _ => 0))), (z8, .inl (x.g.2.1, 48, .inl (fun _ => 0))), (z9, .inl (x.g.2.1, 48, .inl (fun _ => 0))), (z10, .inl (x.g.2.1, 48, .inl (fun _ => 0)))]) 1 rfl (ib_in (by decide)) rfl dX4_init_103 ?_
  refine v_iinc X11 (pc := 104) (v := 5) (L2 := [(1, .int 5), (0, .ref h0)]) dX4_init_104 0 rfl (by decide) (by decide) rfl ?_
  refine v_goto X11 (pc := 107) (tgt := 87) dX4_init_107 (by decide) ?_
  refine v_iload_n X11 (pc := 87) dX4_init_87 rfl 0 rfl ?_
  refine v_aload_n X11 (pc := 88) dX4_init_88 rfl 1 rfl ?_
  refine v_get X11 (pc := 89) (v := .ref y0) uw4 0 rfl rfl 0 (by decide) q_95 rfl rfl dX4_init_89 ?_
  refine v_alen X11 (pc := 92) 1 rfl dX4_init_92 ?_
  refine v_icmpge X11 (pc := 93) (tgt := 110) dX4_init_93 (by decide) (fun c => absurd c (by decide)) (fun _ => ?_)
  refine v_aload_n X11 (pc := 96) dX4_init_96 rfl 1 rfl ?_
  refine v_get X11 (pc := 97) (v := .ref y0) uw4 0 rfl rfl 0 (by decide) q_95 rfl rfl dX4_init_97 ?_
  refine v_iload_n X11 (pc := 100) dX4_init_100 rfl 0 rfl ?_
  refine v_bipush X11 (pc := 101) (v := 100) dX4_init_101 (by decide) ?_
  refine v_iast X11 (pc := 103) (w' := [(h0, .inr (4, [.ref y0, .ref y1, .ref y2, .ref y3, .ref y4, .ref y5, .ref y6, .int 0, .int 30, .int 6, .int 0])), (y0, .inl (x.g.2.1, 6, .inl (upd (upd (upd (upd (upd (upd (fun _ => 0) 0 100) 1 100) 2 100) 3 100) 4 100) 5 100))), (y1, .inl (x.g.2.1, 6, .inl (fun _ => 0))), (y2, .inl (x.g.2.1, 12, .inl (fun _ => 0))), (y3, .inl (x.g.2.1, 12, .inl (fun _ => 0))), (y4, .inl (x.g.2.1, 12, .inl (fun _ => 0))), (y5, .inl (x.g.2.1, 12, .inl (fun _ => 0))), (y6, .inr (1, [.ref z7, .ref z8, .ref z9, .ref z10])), (z7, .inl (x.g.2.1, 48, .inl (fun _ => 0))), (z8, .inl (x.g.2.1, 48, .inl (fun _ => 0))), (z9, .inl (x.g.2.1, 48, .inl (fun _ => 0))), (z10, .inl (x.g.2.1, 48, .inl (fun _ => 0)))]) 1 rfl (ib_in (by decide)) rfl dX4_init_103 ?_
  refine v_iinc X11 (pc := 104) (v := 6) (L2 := [(1, .int 6), (0, .ref h0)]) dX4_init_104 0 rfl (by decide) (by decide) rfl ?_
  refine v_goto X11 (pc := 107) (tgt := 87) dX4_init_107 (by decide) ?_
  refine v_iload_n X11 (pc := 87) dX4_init_87 rfl 0 rfl ?_
  refine v_aload_n X11 (pc := 88) dX4_init_88 rfl 1 rfl ?_
  refine v_get X11 (pc := 89) (v := .ref y0) uw4 0 rfl rfl 0 (by decide) q_95 rfl rfl dX4_init_89 ?_
  refine v_alen X11 (pc := 92) 1 rfl dX4_init_92 ?_
  refine v_icmpge X11 (pc := 93) (tgt := 110) dX4_init_93 (by decide) (fun _ => ?_) (fun c => absurd (show _ ≤ _ by decide) c)
  refine v_perm (w2 := wSt x.g (adL [h0, y0, y1, y2, y3, y4, y5, z7, z8, z9, z10, y6]) st0) [0, 1, 2, 3, 4, 5, 6, 8, 9, 10, 11, 7] rfl rfl ?_
  exact v_cret X11 (pc := 110) (F.al (k := 11) (n := 256)) rfl rfl ⟨adL [h0, y0, y1, y2, y3, y4, y5, z7, z8, z9, z10, y6], rfl, rfl⟩ dX4_init_110
theorem cw_X4_init : CwB yX4_init cX4_init 2 none 0 := ⟨q_70, q_51, by decide, by decide, by decide +kernel⟩

set_option maxHeartbeats 4000000 in
set_option maxRecDepth 100000 in
theorem c_X2_init (l : Launch) (g : Gl) (h0 : Nat) : OkC l g yX2_init cX2_init 2 3 61 61 1340 [.ref h0] [(h0, .inr (2, [.null, .int 0, .int 0]))] (fun w1 => ∃ (a : Nat → Nat) (c : Nat → Nat → Nat), a 0 = h0 ∧ w1 = wHiR g a c (fun _ => 0) (fun _ => st0)) := by
  refine OkC.of RX2 (by decide) rfl rfl (Nat.le_of_ble_eq_true rfl) (fun x hl hg X F => ?_)
  subst hg; subst hl
  have X0 : Cx (x.al 0 0) _ _ _ _ _ := X.al (Nat.zero_le _) (Nat.zero_le _)
  show V (x.al 0 0) [(h0, .inr (2, [.null, .int 0, .int 0]))] [(0, .ref h0)] [] 0
  refine v_aload_n X0 (pc := 0) dX2_init_0 rfl 0 rfl ?_
  refine v_objInit X0 (pc := 1) q_147 q_64 q_65 (by decide) (Nat.le_of_ble_eq_true rfl) dX2_init_1 ?_
  refine v_aload_n X0 (pc := 4) dX2_init_4 rfl 0 rfl ?_
  refine v_iconst X0 (pc := 5) (v := 5) dX2_init_5 (by decide) ?_
  refine v_newq X0 (pc := 6) (N := 5) (k := 1) (n := 5) q_148 F.2.2.2.2.1 (by decide) (by decide) (Nat.le_of_ble_eq_true rfl) rfl rfl (Nat.le_trans (Nat.le_of_ble_eq_true rfl) F.2.2.2.2.2.1) (Nat.le_trans (Nat.le_of_ble_eq_true rfl) F.2.2.2.2.2.2) dX2_init_6 (fun y0 => ?_)
  have X1 := (X.al (Nat.le_trans (Nat.le_of_ble_eq_true rfl) F.2.2.2.2.2.1) (Nat.le_trans (Nat.le_of_ble_eq_true rfl) F.2.2.2.2.2.2) : Cx (x.al 1 5) _ _ _ _ _)
  show V (x.al 1 5) _ _ _ _
  refine v_putF X1 F.2.2.2.1 (pc := 9) (w' := [(h0, .inr (2, [.ref y0, .int 0, .int 0])), (y0, .inl (x.g.2.2.2, 5, .inr (.inr (.inr (.inr (fun _ => none))))))]) uw2 0 rfl rfl 0 (by decide) q_151 rfl tyX2 tyX2_ok nmX2 rfl rfl rfl rfl (Nat.le_of_ble_eq_true rfl) rfl dX2_init_9 ?_
  refine v_aload_n X1 (pc := 12) dX2_init_12 rfl 0 rfl ?_
  refine v_iconst X1 (pc := 13) (v := 0) dX2_init_13 (by decide) ?_
  refine v_put X1 (pc := 14) (w' := [(h0, .inr (2, [.ref y0, .int 0, .int 0])), (y0, .inl (x.g.2.2.2, 5, .inr (.inr (.inr (.inr (fun _ => none))))))]) uw2 0 rfl rfl 1 (by decide) q_152 rfl tyX2 tyX2_ok nmX2 rfl rfl rfl (Nat.le_of_ble_eq_true rfl) rfl dX2_init_14 ?_
  refine v_aload_n X1 (pc := 17) dX2_init_17 rfl 0 rfl ?_
  refine v_iconst X1 (pc := 18) (v := 0) dX2_init_18 (by decide) ?_
  refine v_put X1 (pc := 19) (w' := [(h0, .inr (2, [.ref y0, .int 0, .int 0])), (y0, .inl (x.g.2.2.2, 5, .inr (.inr (.inr (.inr (fun _ => none))))))]) uw2 0 rfl rfl 2 (by decide) q_153 rfl tyX2 tyX2_ok nmX2 rfl rfl rfl (Nat.le_of_ble_eq_true rfl) rfl dX2_init_19 ?_
  refine v_iconst X1 (pc := 22) (v := 0) dX2_init_22 (by decide) ?_
  refine v_istore_n X1 (pc := 23) (L2 := [(1, .int 0), (0, .ref h0)]) dX2_init_23 rfl (by decide) rfl ?_
  refine v_iload_n X1 (pc := 24) dX2_init_24 rfl 0 rfl ?_
  refine v_aload_n X1 (pc := 25) dX2_init_25 rfl 1 rfl ?_
  refine v_get X1 (pc := 26) (v := .ref y0) uw2 0 rfl rfl 0 (by decide) q_151 rfl rfl dX2_init_26 ?_
  refine v_alenR X1 (pc := 29) 1 rfl dX2_init_29 ?_
  refine v_icmpge X1 (pc := 30) (tgt := 52) dX2_init_30 (by decide) (fun c => absurd c (by decide)) (fun _ => ?_)
  refine v_aload_n X1 (pc := 33) dX2_init_33 rfl 1 rfl ?_
  refine v_get X1 (pc := 34) (v := .ref y0) uw2 0 rfl rfl 0 (by decide) q_151 rfl rfl dX2_init_34 ?_
  refine v_iload_n X1 (pc := 37) dX2_init_37 rfl 0 rfl ?_
  refine v_new X1 (pc := 38) (ci := 4) (N := 11) (fs := [.null, .null, .null, .null, .null, .null, .null, .int 0, .int 0, .int 0, .int 0]) (k := 2) (n := 16) uw4 tyX4 tyX4_ok q_148 q_67 q_51 rfl (fun j hj => by match j, hj with | 0, _ => rfl | 1, _ => rfl | 2, _ => rfl | 3, _ => rfl | 4, _ => rfl | 5, _ => rfl | 6, _ => rfl | 7, _ => rfl | 8, _ => rfl | 9, _ => rfl | 10, _ => rfl | j + 11, hj => exact absurd hj (by omega)) rfl rfl (Nat.le_trans (Nat.le_of_ble_eq_true rfl) F.2.2.2.2.2.1) (Nat.le_trans (Nat.le_of_ble_eq_true rfl) F.2.2.2.2.2.2) dX2_init_38 (fun y1 => ?_)
  have X2 := (X.al (Nat.le_trans (Nat.le_of_ble_eq_true rfl) F.2.2.2.2.2.1) (Nat.le_trans (Nat.le_of_ble_eq_true rfl) F.2.2.2.2.2.2) : Cx (x.al 2 16) _ _ _ _ _)
  show V (x.al 2 16) _ _ _ _
  refine v_dup X2 (pc := 41) dX2_init_41 rfl ?_
  refine v_callI X2 F.2.2.2.2.1 (pc := 42) (k := 13) (n := 272) (c_X4_init x.l x.g y1) cw_X4_init q_150 q_69 rfl ⟨by decide, by decide⟩ rfl rfl (Nat.le_trans (Nat.le_of_ble_eq_true rfl) F.2.2.2.2.2.1) (Nat.le_trans (Nat.le_of_ble_eq_true rfl) F.2.2.2.2.2.2) (Nat.le_of_ble_eq_true rfl) dX2_init_42 (fun w2 hw2 => ?_)
  obtain ⟨a2, ea2, rfl⟩ := hw2
  rw [← ea2]
  have X13 := (X.al (Nat.le_trans (Nat.le_of_ble_eq_true rfl) F.2.2.2.2.2.1) (Nat.le_trans (Nat.le_of_ble_eq_true rfl) F.2.2.2.2.2.2) : Cx (x.al 13 272) _ _ _ _ _)
  show V (x.al 13 272) _ _ _ _
  refine v_astq X13 (pc := 45) (w' := ([(h0, .inr (2, [.ref y0, .int 0, .int 0])), (y0, .inl (x.g.2.2.2, 5, .inr (.inr (.inr (.inr (va_up (fun _ => none) 0 (some (a2 0))))))))] ++ wSt x.g a2 st0)) 1 2 rfl rfl (ib_in (by decide)) rfl dX2_init_45 ?_
  refine v_iinc X13 (pc := 46) (v := 1) (L2 := [(1, .int 1), (0, .ref h0)]) dX2_init_46 0 rfl (by decide) (by decide) rfl ?_
  refine v_goto X13 (pc := 49) (tgt := 24) dX2_init_49 (by decide) ?_
  refine v_iload_n X13 (pc := 24) dX2_init_24 rfl 0 rfl ?_
  refine v_aload_n X13 (pc := 25) dX2_init_25 rfl 1 rfl ?_
  refine v_get X13 (pc := 26) (v := .ref y0) uw2 0 rfl rfl 0 (by decide) q_151 rfl rfl dX2_init_26 ?_
  refine v_alenR X13 (pc := 29) 1 rfl dX2_init_29 ?_
  refine v_icmpge X13 (pc := 30) (tgt := 52) dX2_init_30 (by decide) (fun c => absurd c (by decide)) (fun _ => ?_)
  refine v_aload_n X13 (pc := 33) dX2_init_33 rfl 1 rfl ?_
  refine v_get X13 (pc := 34) (v := .ref y0) uw2 0 rfl rfl 0 (by decide) q_151 rfl rfl dX2_init_34 ?_
  refine v_iload_n X13 (pc := 37) dX2_init_37 rfl 0 rfl ?_
  refine v_new X13 (pc := 38) (ci := 4) (N := 11) (fs := [.null, .null, .null, .null, .null, .null, .null, .int 0, .int 0, .int 0, .int 0]) (k := 14) (n := 283) uw4 tyX4 tyX4_ok q_148 q_67 q_51 rfl (fun j hj => by match j, hj with | 0, _ => rfl | 1, _ => rfl | 2, _ => rfl | 3, _ => rfl | 4, _ => rfl | 5, _ => rfl | 6, _ => rfl | 7, _ => rfl | 8, _ => rfl | 9, _ => rfl | 10, _ => rfl | j + 11, hj => exact absurd hj (by omega)) rfl rfl (Nat.le_trans (Nat.le_of_ble_eq_true rfl) F.2.2.2.2.2.1) (Nat.le_trans (Nat.le_of_ble_eq_true rfl) F.2.2.2.2.2.2) dX2_init_38 (fun y3 => ?_)
  have X14 := (X.al (Nat.le_trans (Nat.le_of_ble_eq_true rfl) F.2.2.2.2.2.1) (Nat.le_trans (Nat.le_of_ble_eq_true rfl) F.2.2.2.2.2.2) : Cx (x.al 14 283) _ _ _ _ _)
  show V (x.al 14 283) _ _ _ _
  refine v_dup X14 (pc := 41) dX2_init_41 rfl ?_
  refine v_callI X14 F.2.2.2.2.1 (pc := 42) (k := 25) (n := 539) (c_X4_init x.l x.g y3) cw_X4_init q_150 q_69 rfl ⟨by decide, by decide⟩ rfl rfl (Nat.le_trans (Nat.le_of_ble_eq_true rfl) F.2.2.2.2.2.1) (Nat.le_trans (Nat.le_of_ble_eq_true rfl) F.2.2.2.2.2.2) (Nat.le_of_ble_eq_true rfl) dX2_init_42 (fun w4 hw4 => ?_)
  obtain ⟨a4, ea4, rfl⟩ := hw4
  rw [← ea4]
  have X25 := (X.al (Nat.le_trans (Nat.le_of_ble_eq_true rfl) F.2.2.2.2.2.1) (Nat.le_trans (Nat.le_of_ble_eq_true rfl) F.2.2.2.2.2.2) : Cx (x.al 25 539) _ _ _ _ _)
  show V (x.al 25 539) _ _ _ _
  refine v_astq X25 (pc := 45) (w' := (([(h0, .inr (2, [.ref y0, .int 0, .int 0])), (y0, .inl (x.g.2.2.2, 5, .inr (.inr (.inr (.inr (va_up (va_up (fun _ => none) 0 (some (a2 0))) 1 (some (a4 0))))))))] ++ wSt x.g a2 st0) ++ wSt x.g a4 st0)) 1 14 rfl rfl (ib_in (by decide)) rfl dX2_init_45 ?_
  refine v_iinc X25 (pc := 46) (v := 2) (L2 := [(1, .int 2), (0, .ref h0)]) dX2_init_46 0 rfl (by decide) (by decide) rfl ?_
  refine v_goto X25 (pc := 49) (tgt := 24) dX2_init_49 (by decide) ?_
  refine v_iload_n X25 (pc := 24) dX2_init_24 rfl 0 rfl ?_
  refine v_aload_n X25 (pc := 25) dX2_init_25 rfl 1 rfl ?_
  refine v_get X25 (pc := 26) (v := .ref y0) uw2 0 rfl rfl 0 (by decide) q_151 rfl rfl dX2_init_26 ?_
  refine v_alenR X25 (pc := 29) 1 rfl dX2_init_29 ?_
  refine v_icmpge X25 (pc := 30) (tgt := 52) dX2_init_30 (by decide) (fun c => absurd c (by decide)) (fun _ => ?_)
  refine v_aload_n X25 (pc := 33) dX2_init_33 rfl 1 rfl ?_
  refine v_get X25 (pc := 34) (v := .ref y0) uw2 0 rfl rfl 0 (by decide) q_151 rfl rfl dX2_init_34 ?_
  refine v_iload_n X25 (pc := 37) dX2_init_37 rfl 0 rfl ?_
  refine v_new X25 (pc := 38) (ci := 4) (N := 11) (fs := [.null, .null, .null, .null, .null, .null, .null, .int 0, .int 0, .int 0, .int 0]) (k := 26) (n := 550) uw4 tyX4 tyX4_ok q_148 q_67 q_51 rfl (fun j hj => by match j, hj with | 0, _ => rfl | 1, _ => rfl | 2, _ => rfl | 3, _ => rfl | 4, _ => rfl | 5, _ => rfl | 6, _ => rfl | 7, _ => rfl | 8, _ => rfl | 9, _ => rfl | 10, _ => rfl | j + 11, hj => exact absurd hj (by omega)) rfl rfl (Nat.le_trans (Nat.le_of_ble_eq_true rfl) F.2.2.2.2.2.1) (Nat.le_trans (Nat.le_of_ble_eq_true rfl) F.2.2.2.2.2.2) dX2_init_38 (fun y5 => ?_)
  have X26 := (X.al (Nat.le_trans (Nat.le_of_ble_eq_true rfl) F.2.2.2.2.2.1) (Nat.le_trans (Nat.le_of_ble_eq_true rfl) F.2.2.2.2.2.2) : Cx (x.al 26 550) _ _ _ _ _)
  show V (x.al 26 550) _ _ _ _
  refine v_dup X26 (pc := 41) dX2_init_41 rfl ?_
  refine v_callI X26 F.2.2.2.2.1 (pc := 42) (k := 37) (n := 806) (c_X4_init x.l x.g y5) cw_X4_init q_150 q_69 rfl ⟨by decide, by decide⟩ rfl rfl (Nat.le_trans (Nat.le_of_ble_eq_true rfl) F.2.2.2.2.2.1) (Nat.le_trans (Nat.le_of_ble_eq_true rfl) F.2.2.2.2.2.2) (Nat.le_of_ble_eq_true rfl) dX2_init_42 (fun w6 hw6 => ?_)
  obtain ⟨a6, ea6, rfl⟩ := hw6
  rw [← ea6]
  have X37 := (X.al (Nat.le_trans (Nat.le_of_ble_eq_true rfl) F.2.2.2.2.2.1) (Nat.le_trans (Nat.le_of_ble_eq_true rfl) F.2.2.2.2.2.2) : Cx (x.al 37 806) _ _ _ _ _)
  show V (x.al 37 806) _ _ _ _
  refine v_astq X37 (pc := 45) (w' := ((([(h0, .inr (2, [.ref y0, .int 0, .int 0])), (y0, .inl (x.g.2.2.2, 5, .inr (.inr (.inr (.inr (va_up (va_up (va_up (fun _ => none) 0 (some (a2 0))) 1 (some (a4 0))) 2 (some (a6 0))))))))] ++ wSt x.g a2 st0) ++ wSt x.g a4 st0) ++ wSt x.g a6 st0)) 1 26 rfl rfl (ib_in (by decide)) rfl dX2_init_45 ?_
  refine v_iinc X37 (pc := 46) (v := 3) (L2 := [(1, .int 3), (0, .ref h0)]) dX2_init_46 0 rfl (by decide) (by decide) rfl ?_
  refine v_goto X37 (pc := 49) (tgt := 24) dX2_init_49 (by decide) ?_
  refine v_iload_n X37 (pc := 24) dX2_init_24 rfl 0 rfl ?_
  refine v_aload_n X37 (pc := 25) dX2_init_25 rfl 1 rfl ?_
  refine v_get X37 (pc := 26) (v := .ref y0) uw2 0 rfl rfl 0 (by decide) q_151 rfl rfl dX2_init_26 ?_
  refine v_alenR X37 (pc := 29) 1 rfl dX2_init_29 ?_
  refine v_icmpge X37 (pc := 30) (tgt := 52) dX2_init_30 (by decide) (fun c => absurd c (by decide)) (fun _ => ?_)
  refine v_aload_n X37 (pc := 33) dX2_init_33 rfl 1 rfl ?_
  refine v_get X37 (pc := 34) (v := .ref y0) uw2 0 rfl rfl 0 (by decide) q_151 rfl rfl dX2_init_34 ?_
  refine v_iload_n X37 (pc := 37) dX2_init_37 rfl 0 rfl ?_
  refine v_new X37 (pc := 38) (ci := 4) (N := 11) (fs := [.null, .null, .null, .null, .null, .null, .null, .int 0, .int 0, .int 0, .int 0]) (k := 38) (n := 817) uw4 tyX4 tyX4_ok q_148 q_67 q_51 rfl (fun j hj => by match j, hj with | 0, _ => rfl | 1, _ => rfl | 2, _ => rfl | 3, _ => rfl | 4, _ => rfl | 5, _ => rfl | 6, _ => rfl | 7, _ => rfl | 8, _ => rfl | 9, _ => rfl | 10, _ => rfl | j + 11, hj => exact absurd hj (by omega)) rfl rfl (Nat.le_trans (Nat.le_of_ble_eq_true rfl) F.2.2.2.2.2.1) (Nat.le_trans (Nat.le_of_ble_eq_true rfl) F.2.2.2.2.2.2) dX2_init_38 (fun y7 => ?_)
  have X38 := (X.al (Nat.le_trans (Nat.le_of_ble_eq_true rfl) F.2.2.2.2.2.1) (Nat.le_trans (Nat.le_of_ble_eq_true rfl) F.2.2.2.2.2.2) : Cx (x.al 38 817) _ _ _ _ _)
  show V (x.al 38 817) _ _ _ _
  refine v_dup X38 (pc := 41) dX2_init_41 rfl ?_
  refine v_callI X38 F.2.2.2.2.1 (pc := 42) (k := 49) (n := 1073) (c_X4_init x.l x.g y7) cw_X4_init q_150 q_69 rfl ⟨by decide, by decide⟩ rfl rfl (Nat.le_trans (Nat.le_of_ble_eq_true rfl) F.2.2.2.2.2.1) (Nat.le_trans (Nat.le_of_ble_eq_true rfl) F.2.2.2.2.2.2) (Nat.le_of_ble_eq_true rfl) dX2_init_42 (fun w8 hw8 => ?_)
  obtain ⟨a8, ea8, rfl⟩ := hw8
  rw [← ea8]
  have X49 := (X.al (Nat.le_trans (Nat.le_of_ble_eq_true rfl) F.2.2.2.2.2.1) (Nat.le_trans (Nat.le_of_ble_eq_true rfl) F.2.2.2.2.2.2) : Cx (x.al 49 1073) _ _ _ _ _)
  show V (x.al 49 1073) _ _ _ _
  refine v_astq X49 (pc := 45) (w' := (((([(h0, .inr (2, [.ref y0, .int 0, .int 0])), (y0, .inl (x.g.2.2.2, 5, .inr (.inr (.inr (.inr (va_up (va_up (va_up (va_up (fun _ => none) 0 (some (a2 0))) 1 (some (a4 0))) 2 (some (a6 0))) 3 (some (a8 0))))))))] ++ wSt x.g a2 st0) ++ wSt x.g a4 st0) ++ wSt x.g a6 st0) ++ wSt x.g a8 st0)) 1 38 rfl rfl (ib_in (by decide)) rfl dX2_init_45 ?_
  refine v_iinc X49 (pc := 46) (v := 4) (L2 := [(1, .int 4), (0, .ref h0)]) dX2_init_46 0 rfl (by decide) (by decide) rfl ?_
  refine v_goto X49 (pc := 49) (tgt := 24) dX2_init_49 (by decide) ?_
  refine v_iload_n X49 (pc := 24) dX2_init_24 rfl 0 rfl ?_
  refine v_aload_n X49 (pc := 25) dX2_init_25 rfl 1 rfl ?_
  refine v_get X49 (pc := 26) (v := .ref y0) uw2 0 rfl rfl 0 (by decide) q_151 rfl rfl dX2_init_26 ?_
  refine v_alenR X49 (pc := 29) 1 rfl dX2_init_29 ?_
  refine v_icmpge X49 (pc := 30) (tgt := 52) dX2_init_30 (by decide) (fun c => absurd c (by decide)) (fun _ => ?_)
  refine v_aload_n X49 (pc := 33) dX2_init_33 rfl 1 rfl ?_
  refine v_get X49 (pc := 34) (v := .ref y0) uw2 0 rfl rfl 0 (by decide) q_151 rfl rfl dX2_init_34 ?_
  refine v_iload_n X49 (pc := 37) dX2_init_37 rfl 0 rfl ?_
  refine v_new X49 (pc := 38) (ci := 4) (N := 11) (fs := [.null, .null, .null, .null, .null, .null, .null, .int 0, .int 0, .int 0, .int 0]) (k := 50) (n := 1084) uw4 tyX4 tyX4_ok q_148 q_67 q_51 rfl (fun j hj => by match j, hj with | 0, _ => rfl | 1, _ => rfl | 2, _ => rfl | 3, _ => rfl | 4, _ => rfl | 5, _ => rfl | 6, _ => rfl | 7, _ => rfl | 8, _ => rfl | 9, _ => rfl | 10, _ => rfl | j + 11, hj => exact absurd hj (by omega)) rfl rfl (Nat.le_trans (Nat.le_of_ble_eq_true rfl) F.2.2.2.2.2.1) (Nat.le_trans (Nat.le_of_ble_eq_true rfl) F.2.2.2.2.2.2) dX2_init_38 (fun y9 => ?_)
  have X50 := (X.al (Nat.le_trans (Nat.le_of_ble_eq_true rfl) F.2.2.2.2.2.1) (Nat.le_trans (Nat.le_of_ble_eq_true rfl) F.2.2.2.2.2.2) : Cx (x.al 50 1084) _ _ _ _ _)
  show V (x.al 50 1084) _ _ _ _
  refine v_dup X50 (pc := 41) dX2_init_41 rfl ?_
  refine v_callI X50 F.2.2.2.2.1 (pc := 42) (k := 61) (n := 1340) (c_X4_init x.l x.g y9) cw_X4_init q_150 q_69 rfl ⟨by decide, by decide⟩ rfl rfl (Nat.le_trans (Nat.le_of_ble_eq_true rfl) F.2.2.2.2.2.1) (Nat.le_trans (Nat.le_of_ble_eq_true rfl) F.2.2.2.2.2.2) (Nat.le_of_ble_eq_true rfl) dX2_init_42 (fun w10 hw10 => ?_)
  obtain ⟨a10, ea10, rfl⟩ := hw10
  rw [← ea10]
  have X61 := (X.al (Nat.le_trans (Nat.le_of_ble_eq_true rfl) F.2.2.2.2.2.1) (Nat.le_trans (Nat.le_of_ble_eq_true rfl) F.2.2.2.2.2.2) : Cx (x.al 61 1340) _ _ _ _ _)
  show V (x.al 61 1340) _ _ _ _
  refine v_astq X61 (pc := 45) (w' := ((((([(h0, .inr (2, [.ref y0, .int 0, .int 0])), (y0, .inl (x.g.2.2.2, 5, .inr (.inr (.inr (.inr (va_up (va_up (va_up (va_up (va_up (fun _ => none) 0 (some (a2 0))) 1 (some (a4 0))) 2 (some (a6 0))) 3 (some (a8 0))) 4 (some (a10 0))))))))] ++ wSt x.g a2 st0) ++ wSt x.g a4 st0) ++ wSt x.g a6 st0) ++ wSt x.g a8 st0) ++ wSt x.g a10 st0)) 1 50 rfl rfl (ib_in (by decide)) rfl dX2_init_45 ?_
  refine v_iinc X61 (pc := 46) (v := 5) (L2 := [(1, .int 5), (0, .ref h0)]) dX2_init_46 0 rfl (by decide) (by decide) rfl ?_
  refine v_goto X61 (pc := 49) (tgt := 24) dX2_init_49 (by decide) ?_
  refine v_iload_n X61 (pc := 24) dX2_init_24 rfl 0 rfl ?_
  refine v_aload_n X61 (pc := 25) dX2_init_25 rfl 1 rfl ?_
  refine v_get X61 (pc := 26) (v := .ref y0) uw2 0 rfl rfl 0 (by decide) q_151 rfl rfl dX2_init_26 ?_
  refine v_alenR X61 (pc := 29) 1 rfl dX2_init_29 ?_
  refine v_icmpge X61 (pc := 30) (tgt := 52) dX2_init_30 (by decide) (fun _ => ?_) (fun c => absurd (show _ ≤ _ by decide) c)
  refine v_perm (w2 := wHiR x.g (adL [h0, y0]) (fun j => [a2, a4, a6, a8, a10].getD j (fun _ => 0)) (fun _ => 0) (fun _ => st0)) [0, 1, 2, 3, 4, 5, 6, 7, 8, 9, 10, 11, 12, 13, 14, 15, 16, 17, 18, 19, 20, 21, 22, 23, 24, 25, 26, 27, 28, 29, 30, 31, 32, 33, 34, 35, 36, 37, 38, 39, 40, 41, 42, 43, 44, 45, 46, 47, 48, 49, 50, 51, 52, 53, 54, 55, 56, 57, 58, 59, 60, 61] rfl rfl ?_
  exact v_cret X61 (pc := 52) (F.al (k := 61) (n := 1340)) rfl rfl ⟨adL [h0, y0], fun j => [a2, a4, a6, a8, a10].getD j (fun _ => 0), rfl, rfl⟩ dX2_init_52
theorem cw_X2_init : CwB yX2_init cX2_init 2 none 0 := ⟨q_146, q_53, by decide, by decide, by decide +kernel⟩

set_option maxHeartbeats 4000000 in
set_option maxRecDepth 100000 in
theorem c_X5_init (l : Launch) (g : Gl) (h0 : Nat) : OkC l g yX5_init cX5_init 1 4 82 102 2217 [.ref h0] [(h0, .inr (5, [.null, .null, .null, .null, .null, .null, .int 0]))] (fun w1 => ∃ b : Nat → Nat → Nat, b 11 0 = h0 ∧ w1 = wHS g b 0 st0 st0 st0 (fun _ => 0) (fun _ => st0) (fun _ => 0) (fun _ _ => 0)) := by
  refine OkC.of RX5 (by decide) rfl rfl (Nat.le_of_ble_eq_true rfl) (fun x hl hg X F => ?_)
  subst hg; subst hl
  have X0 : Cx (x.al 0 0) _ _ _ _ _ := X.al (Nat.zero_le _) (Nat.zero_le _)
  show V (x.al 0 0) [(h0, .inr (5, [.null, .null, .null, .null, .null, .null, .int 0]))] [(0, .ref h0)] [] 0
  refine v_aload_n X0 (pc := 0) dX5_init_0 rfl 0 rfl ?_
  refine v_objInit X0 (pc := 1) q_63 q_64 q_65 (by decide) (Nat.le_of_ble_eq_true rfl) dX5_init_1 ?_
  refine v_aload_n X0 (pc := 4) dX5_init_4 rfl 0 rfl ?_
  refine v_new X0 (pc := 5) (ci := 4) (N := 11) (fs := [.null, .null, .null, .null, .null, .null, .null, .int 0, .int 0, .int 0, .int 0]) (k := 1) (n := 11) uw4 tyX4 tyX4_ok q_66 q_67 q_51 rfl (fun j hj => by match j, hj with | 0, _ => rfl | 1, _ => rfl | 2, _ => rfl | 3, _ => rfl | 4, _ => rfl | 5, _ => rfl | 6, _ => rfl | 7, _ => rfl | 8, _ => rfl | 9, _ => rfl | 10, _ => rfl | j + 11, hj => exact absurd hj (by omega)) rfl rfl (Nat.le_trans (Nat.le_of_ble_eq_true rfl) F.2.2.2.2.2.1) (Nat.le_trans (Nat.le_of_ble_eq_true rfl) F.2.2.2.2.2.2) dX5_init_5 (fun y0 => ?_)
  have X1 := (X.al (Nat.le_trans (Nat.le_of_ble_eq_true rfl) F.2.2.2.2.2.1) (Nat.le_trans (Nat.le_of_ble_eq_true rfl) F.2.2.2.2.2.2) : Cx (x.al 1 11) _ _ _ _ _)
  show V (x.al 1 11) _ _ _ _
  refine v_dup X1 (pc := 8) dX5_init_8 rfl ?_
  refine v_callI X1 F.2.2.2.2.1 (pc := 9) (k := 12) (n := 267) (c_X4_init x.l x.g y0) cw_X4_init q_68 q_69 rfl ⟨by decide, by decide⟩ rfl rfl (Nat.le_trans (Nat.le_of_ble_eq_true rfl) F.2.2.2.2.2.1) (Nat.le_trans (Nat.le_of_ble_eq_true rfl) F.2.2.2.2.2.2) (Nat.le_of_ble_eq_true rfl) dX5_init_9 (fun w1 hw1 => ?_)
  obtain ⟨a1, ea1, rfl⟩ := hw1
  rw [← ea1]
  have X12 := (X.al (Nat.le_trans (Nat.le_of_ble_eq_true rfl) F.2.2.2.2.2.1) (Nat.le_trans (Nat.le_of_ble_eq_true rfl) F.2.2.2.2.2.2) : Cx (x.al 12 267) _ _ _ _ _)
  show V (x.al 12 267) _ _ _ _
  refine v_putF X12 F.2.2.2.1 (pc := 12) (w' := ([(h0, .inr (5, [.ref (a1 0), .null, .null, .null, .null, .null, .int 0]))] ++ wSt x.g a1 st0)) uw5 0 rfl rfl 0 (by decide) q_201 rfl tyX5 tyX5_ok nmX5 rfl rfl rfl rfl (Nat.le_of_ble_eq_true rfl) rfl dX5_init_12 ?_
  refine v_aload_n X12 (pc := 15) dX5_init_15 rfl 0 rfl ?_
  refine v_new X12 (pc := 16) (ci := 4) (N := 11) (fs := [.null, .null, .null, .null, .null, .null, .null, .int 0, .int 0, .int 0, .int 0]) (k := 13) (n := 278) uw4 tyX4 tyX4_ok q_66 q_67 q_51 rfl (fun j hj => by match j, hj with | 0, _ => rfl | 1, _ => rfl | 2, _ => rfl | 3, _ => rfl | 4, _ => rfl | 5, _ => rfl | 6, _ => rfl | 7, _ => rfl | 8, _ => rfl | 9, _ => rfl | 10, _ => rfl | j + 11, hj => exact absurd hj (by omega)) rfl rfl (Nat.le_trans (Nat.le_of_ble_eq_true rfl) F.2.2.2.2.2.1) (Nat.le_trans (Nat.le_of_ble_eq_true rfl) F.2.2.2.2.2.2) dX5_init_16 (fun y2 => ?_)
  have X13 := (X.al (Nat.le_trans (Nat.le_of_ble_eq_true rfl) F.2.2.2.2.2.1) (Nat.le_trans (Nat.le_of_ble_eq_true rfl) F.2.2.2.2.2.2) : Cx (x.al 13 278) _ _ _ _ _)
  show V (x.al 13 278) _ _ _ _
  refine v_dup X13 (pc := 19) dX5_init_19 rfl ?_
  refine v_callI X13 F.2.2.2.2.1 (pc := 20) (k := 24) (n := 534) (c_X4_init x.l x.g y2) cw_X4_init q_68 q_69 rfl ⟨by decide, by decide⟩ rfl rfl (Nat.le_trans (Nat.le_of_ble_eq_true rfl) F.2.2.2.2.2.1) (Nat.le_trans (Nat.le_of_ble_eq_true rfl) F.2.2.2.2.2.2) (Nat.le_of_ble_eq_true rfl) dX5_init_20 (fun w3 hw3 => ?_)
  obtain ⟨a3, ea3, rfl⟩ := hw3
  rw [← ea3]
  have X24 := (X.al (Nat.le_trans (Nat.le_of_ble_eq_true rfl) F.2.2.2.2.2.1) (Nat.le_trans (Nat.le_of_ble_eq_true rfl) F.2.2.2.2.2.2) : Cx (x.al 24 534) _ _ _ _ _)
  show V (x.al 24 534) _ _ _ _
  refine v_putF X24 F.2.2.2.1 (pc := 23) (w' := (([(h0, .inr (5, [.ref (a1 0), .ref (a3 0), .null, .null, .null, .null, .int 0]))] ++ wSt x.g a1 st0) ++ wSt x.g a3 st0)) uw5 0 rfl rfl 1 (by decide) q_202 rfl tyX5 tyX5_ok nmX5 rfl rfl rfl rfl (Nat.le_of_ble_eq_true rfl) rfl dX5_init_23 ?_
  refine v_aload_n X24 (pc := 26) dX5_init_26 rfl 0 rfl ?_
  refine v_new X24 (pc := 27) (ci := 4) (N := 11) (fs := [.null, .null, .null, .null, .null, .null, .null, .int 0, .int 0, .int 0, .int 0]) (k := 25) (n := 545) uw4 tyX4 tyX4_ok q_66 q_67 q_51 rfl (fun j hj => by match j, hj with | 0, _ => rfl | 1, _ => rfl | 2, _ => rfl | 3, _ => rfl | 4, _ => rfl | 5, _ => rfl | 6, _ => rfl | 7, _ => rfl | 8, _ => rfl | 9, _ => rfl | 10, _ => rfl | j + 11, hj => exact absurd hj (by omega)) rfl rfl (Nat.le_trans (Nat.le_of_ble_eq_true rfl) F.2.2.2.2.2.1) (Nat.le_trans (Nat.le_of_ble_eq_true rfl) F.2.2.2.2.2.2) dX5_init_27 (fun y4 => ?_)
  have X25 := (X.al (Nat.le_trans (Nat.le_of_ble_eq_true rfl) F.2.2.2.2.2.1) (Nat.le_trans (Nat.le_of_ble_eq_true rfl) F.2.2.2.2.2.2) : Cx (x.al 25 545) _ _ _ _ _)
  show V (x.al 25 545) _ _ _ _
  refine v_dup X25 (pc := 30) dX5_init_30 rfl ?_
  refine v_callI X25 F.2.2.2.2.1 (pc := 31) (k := 36) (n := 801) (c_X4_init x.l x.g y4) cw_X4_init q_68 q_69 rfl ⟨by decide, by decide⟩ rfl rfl (Nat.le_trans (Nat.le_of_ble_eq_true rfl) F.2.2.2.2.2.1) (Nat.le_trans (Nat.le_of_ble_eq_true rfl) F.2.2.2.2.2.2) (Nat.le_of_ble_eq_true rfl) dX5_init_31 (fun w5 hw5 => ?_)
  obtain ⟨a5, ea5, rfl⟩ := hw5
  rw [← ea5]
  have X36 := (X.al (Nat.le_trans (Nat.le_of_ble_eq_true rfl) F.2.2.2.2.2.1) (Nat.le_trans (Nat.le_of_ble_eq_true rfl) F.2.2.2.2.2.2) : Cx (x.al 36 801) _ _ _ _ _)
  show V (x.al 36 801) _ _ _ _
  refine v_putF X36 F.2.2.2.1 (pc := 34) (w' := ((([(h0, .inr (5, [.ref (a1 0), .ref (a3 0), .ref (a5 0), .null, .null, .null, .int 0]))] ++ wSt x.g a1 st0) ++ wSt x.g a3 st0) ++ wSt x.g a5 st0)) uw5 0 rfl rfl 2 (by decide) q_203 rfl tyX5 tyX5_ok nmX5 rfl rfl rfl rfl (Nat.le_of_ble_eq_true rfl) rfl dX5_init_34 ?_
  refine v_aload_n X36 (pc := 37) dX5_init_37 rfl 0 rfl ?_
  refine v_new X36 (pc := 38) (ci := 2) (N := 3) (fs := [.null, .int 0, .int 0]) (k := 37) (n := 804) uw2 tyX2 tyX2_ok q_142 q_143 q_53 rfl (fun j hj => by match j, hj with | 0, _ => rfl | 1, _ => rfl | 2, _ => rfl | j + 3, hj => exact absurd hj (by omega)) rfl rfl (Nat.le_trans (Nat.le_of_ble_eq_true rfl) F.2.2.2.2.2.1) (Nat.le_trans (Nat.le_of_ble_eq_true rfl) F.2.2.2.2.2.2) dX5_init_38 (fun y6 => ?_)
  have X37 := (X.al (Nat.le_trans (Nat.le_of_ble_eq_true rfl) F.2.2.2.2.2.1) (Nat.le_trans (Nat.le_of_ble_eq_true rfl) F.2.2.2.2.2.2) : Cx (x.al 37 804) _ _ _ _ _)
  show V (x.al 37 804) _ _ _ _
  refine v_dup X37 (pc := 41) dX5_init_41 rfl ?_
  refine v_callI X37 F.2.2.2.2.1 (pc := 42) (k := 98) (n := 2144) (c_X2_init x.l x.g y6) cw_X2_init q_144 q_145 rfl ⟨by decide, by decide⟩ rfl rfl (Nat.le_trans (Nat.le_of_ble_eq_true rfl) F.2.2.2.2.2.1) (Nat.le_trans (Nat.le_of_ble_eq_true rfl) F.2.2.2.2.2.2) (Nat.le_of_ble_eq_true rfl) dX5_init_42 (fun w7 hw7 => ?_)
  obtain ⟨a7, c7, ea7, rfl⟩ := hw7
  rw [← ea7]
  have X98 := (X.al (Nat.le_trans (Nat.le_of_ble_eq_true rfl) F.2.2.2.2.2.1) (Nat.le_trans (Nat.le_of_ble_eq_true rfl) F.2.2.2.2.2.2) : Cx (x.al 98 2144) _ _ _ _ _)
  show V (x.al 98 2144) _ _ _ _
  refine v_putF X98 F.2.2.2.1 (pc := 45) (w' := (((([(h0, .inr (5, [.ref (a1 0), .ref (a3 0), .ref (a5 0), .ref (a7 0), .null, .null, .int 0]))] ++ wSt x.g a1 st0) ++ wSt x.g a3 st0) ++ wSt x.g a5 st0) ++ wHiR x.g a7 c7 (fun _ => 0) (fun _ => st0))) uw5 0 rfl rfl 3 (by decide) q_204 rfl tyX5 tyX5_ok nmX5 rfl rfl rfl rfl (Nat.le_of_ble_eq_true rfl) rfl dX5_init_45 ?_
  refine v_aload_n X98 (pc := 48) dX5_init_48 rfl 0 rfl ?_
  refine v_new X98 (pc := 49) (ci := 0) (N := 1) (fs := [.null]) (k := 99) (n := 2145) uw0 tyX0 tyX0_ok q_162 q_163 q_54 rfl (fun j hj => by match j, hj with | 0, _ => rfl | j + 1, hj => exact absurd hj (by omega)) rfl rfl (Nat.le_trans (Nat.le_of_ble_eq_true rfl) F.2.2.2.2.2.1) (Nat.le_trans (Nat.le_of_ble_eq_true rfl) F.2.2.2.2.2.2) dX5_init_49 (fun y8 => ?_)
  have X99 := (X.al (Nat.le_trans (Nat.le_of_ble_eq_true rfl) F.2.2.2.2.2.1) (Nat.le_trans (Nat.le_of_ble_eq_true rfl) F.2.2.2.2.2.2) : Cx (x.al 99 2145) _ _ _ _ _)
  show V (x.al 99 2145) _ _ _ _
  refine v_dup X99 (pc := 52) dX5_init_52 rfl ?_
  refine v_callIN X99 F.2.2.2.2.1 (pc := 53) (k := 100) (n := 2151) (c_X0_init x.l x.g y8) cw_X0_init k_18 q_165 rfl ⟨by decide, by decide⟩ rfl rfl (Nat.le_trans (Nat.le_of_ble_eq_true rfl) F.2.2.2.2.2.1) (Nat.le_trans (Nat.le_of_ble_eq_true rfl) F.2.2.2.2.2.2) (Nat.le_of_ble_eq_true rfl) dX5_init_53 (fun w9 hw9 => ?_)
  obtain ⟨a9, ea9, rfl⟩ := hw9
  rw [← ea9]
  have X100 := (X.al (Nat.le_trans (Nat.le_of_ble_eq_true rfl) F.2.2.2.2.2.1) (Nat.le_trans (Nat.le_of_ble_eq_true rfl) F.2.2.2.2.2.2) : Cx (x.al 100 2151) _ _ _ _ _)
  show V (x.al 100 2151) _ _ _ _
  refine v_putF X100 F.2.2.2.1 (pc := 56) (w' := ((((([(h0, .inr (5, [.ref (a1 0), .ref (a3 0), .ref (a5 0), .ref (a7 0), .ref (a9 0), .null, .int 0]))] ++ wSt x.g a1 st0) ++ wSt x.g a3 st0) ++ wSt x.g a5 st0) ++ wHiR x.g a7 c7 (fun _ => 0) (fun _ => st0)) ++ wCl x.g a9 (fun _ => 0))) uw5 0 rfl rfl 4 (by decide) q_205 rfl tyX5 tyX5_ok nmX5 rfl rfl rfl rfl (Nat.le_of_ble_eq_true rfl) rfl dX5_init_56 ?_
  refine v_aload_n X100 (pc := 59) dX5_init_59 rfl 0 rfl ?_
  refine v_new X100 (pc := 60) (ci := 3) (N := 6) (fs := [.null, .int 0, .int 0, .int 0, .int 0, .int 0]) (k := 101) (n := 2157) uw3 tyX3 tyX3_ok q_172 q_173 q_55 rfl (fun j hj => by match j, hj with | 0, _ => rfl | 1, _ => rfl | 2, _ => rfl | 3, _ => rfl | 4, _ => rfl | 5, _ => rfl | j + 6, hj => exact absurd hj (by omega)) rfl rfl (Nat.le_trans (Nat.le_of_ble_eq_true rfl) F.2.2.2.2.2.1) (Nat.le_trans (Nat.le_of_ble_eq_true rfl) F.2.2.2.2.2.2) dX5_init_60 (fun y10 => ?_)
  have X101 := (X.al (Nat.le_trans (Nat.le_of_ble_eq_true rfl) F.2.2.2.2.2.1) (Nat.le_trans (Nat.le_of_ble_eq_true rfl) F.2.2.2.2.2.2) : Cx (x.al 101 2157) _ _ _ _ _)
  show V (x.al 101 2157) _ _ _ _
  refine v_dup X101 (pc := 63) dX5_init_63 rfl ?_
  refine v_callIN X101 F.2.2.2.2.1 (pc := 64) (k := 102) (n := 2217) (c_X3_init x.l x.g y10) cw_X3_init k_19 q_175 rfl ⟨by decide, by decide⟩ rfl rfl (Nat.le_trans (Nat.le_of_ble_eq_true rfl) F.2.2.2.2.2.1) (Nat.le_trans (Nat.le_of_ble_eq_true rfl) F.2.2.2.2.2.2) (Nat.le_of_ble_eq_true rfl) dX5_init_64 (fun w11 hw11 => ?_)
  obtain ⟨a11, ea11, rfl⟩ := hw11
  rw [← ea11]
  have X102 := (X.al (Nat.le_trans (Nat.le_of_ble_eq_true rfl) F.2.2.2.2.2.1) (Nat.le_trans (Nat.le_of_ble_eq_true rfl) F.2.2.2.2.2.2) : Cx (x.al 102 2217) _ _ _ _ _)
  show V (x.al 102 2217) _ _ _ _
  refine v_putF X102 F.2.2.2.1 (pc := 67) (w' := (((((([(h0, .inr (5, [.ref (a1 0), .ref (a3 0), .ref (a5 0), .ref (a7 0), .ref (a9 0), .ref (a11 0), .int 0]))] ++ wSt x.g a1 st0) ++ wSt x.g a3 st0) ++ wSt x.g a5 st0) ++ wHiR x.g a7 c7 (fun _ => 0) (fun _ => st0)) ++ wCl x.g a9 (fun _ => 0)) ++ wSc x.g a11 (fun _ _ => 0))) uw5 0 rfl rfl 5 (by decide) q_206 rfl tyX5 tyX5_ok nmX5 rfl rfl rfl rfl (Nat.le_of_ble_eq_true rfl) rfl dX5_init_67 ?_
  refine v_aload_n X102 (pc := 70) dX5_init_70 rfl 0 rfl ?_
  refine v_iconst X102 (pc := 71) (v := 0) dX5_init_71 (by decide) ?_
  refine v_put X102 (pc := 72) (w' := (((((([(h0, .inr (5, [.ref (a1 0), .ref (a3 0), .ref (a5 0), .ref (a7 0), .ref (a9 0), .ref (a11 0), .int 0]))] ++ wSt x.g a1 st0) ++ wSt x.g a3 st0) ++ wSt x.g a5 st0) ++ wHiR x.g a7 c7 (fun _ => 0) (fun _ => st0)) ++ wCl x.g a9 (fun _ => 0)) ++ wSc x.g a11 (fun _ _ => 0))) uw5 0 rfl rfl 6 (by decide) q_207 rfl tyX5 tyX5_ok nmX5 rfl (by decide) (by decide) (Nat.le_of_ble_eq_true rfl) rfl dX5_init_72 ?_
  obtain ⟨b, eb⟩ : ∃ b : Nat → Nat → Nat, b = (fun i => match i with | 0 => a1 | 1 => a3 | 2 => a5 | 8 => a7 | 9 => a9 | 10 => a11 | 11 => (fun _ => h0) | i => c7 (i - 3)) := ⟨_, rfl⟩
  refine v_ring (f2 := fun j => some (b (j + 3) 0)) 38 rfl (fun j hj => by subst eb; match j, hj with | 0, _ => rfl | 1, _ => rfl | 2, _ => rfl | 3, _ => rfl | 4, _ => rfl | j + 5, hj => exact absurd hj (by omega)) rfl ?_
  refine v_perm (w2 := wHS x.g b 0 st0 st0 st0 (fun _ => 0) (fun _ => st0) (fun _ => 0) (fun _ _ => 0)) [0, 1, 2, 3, 4, 5, 6, 7, 8, 9, 10, 11, 12, 13, 14, 15, 16, 17, 18, 19, 20, 21, 22, 23, 24, 25, 26, 27, 28, 29, 30, 31, 32, 33, 34, 35, 36, 37, 38, 39, 40, 41, 42, 43, 44, 45, 46, 47, 48, 49, 50, 51, 52, 53, 54, 55, 56, 57, 58, 59, 60, 61, 62, 63, 64, 65, 66, 67, 68, 69, 70, 71, 72, 73, 74, 75, 76, 77, 78, 79, 80, 81, 82, 83, 84, 85, 86, 87, 88, 89, 90, 91, 92, 93, 94, 95, 96, 97, 98, 99, 100, 101, 102] rfl (by subst eb; rfl) ?_
  exact v_cret X102 (pc := 75) (F.al (k := 102) (n := 2217)) rfl rfl ⟨b, by subst eb; rfl, rfl⟩ dX5_init_75
theorem cw_X5_init : CwB yX5_init cX5_init 1 none 0 := ⟨q_62, q_50, by decide, by decide, by decide +kernel⟩

def mu0 : Blk := fun p => match p with
  | 1 => upd (upd (upd (upd (upd (upd (upd (fun _ => 0) 0 30) 1 6) 5 100) 6 100) 7 100) 8 100) 9 100
  | _ => fun _ => 0
set_option maxHeartbeats 4000000 in
set_option maxRecDepth 100000 in
theorem c_X6_init (l : Launch) (g : Gl) (h0 : Nat) : OkC l g yX6_init cX6_init 2 1 20 3 2114 [.ref h0] [(h0, .inr (6, [.null, .int 0, .int 0, .null, .int 0, .null, .int 0, .int 0, .int 0, .int 0, .int 0]))] (fun w1 => ∃ a : Nat → Nat, a 0 = h0 ∧ w1 = wM g a mu0) := by
  refine OkC.of RX6 (by decide) rfl rfl (Nat.le_of_ble_eq_true rfl) (fun x hl hg X F => ?_)
  subst hg; subst hl
  have X0 : Cx (x.al 0 0) _ _ _ _ _ := X.al (Nat.zero_le _) (Nat.zero_le _)
  show V (x.al 0 0) [(h0, .inr (6, [.null, .int 0, .int 0, .null, .int 0, .null, .int 0, .int 0, .int 0, .int 0, .int 0]))] [(0, .ref h0)] [] 0
  refine v_aload_n X0 (pc := 0) dX6_init_0 rfl 0 rfl ?_
  refine v_objInit X0 (pc := 1) q_662 q_64 q_65 (by decide) (Nat.le_of_ble_eq_true rfl) dX6_init_1 ?_
  refine v_aload_n X0 (pc := 4) dX6_init_4 rfl 0 rfl ?_
  refine v_sipush X0 (pc := 5) (v := 2048) dX6_init_5 (by decide) ?_
  refine v_newaI X0 (pc := 8) (N := 2048) (k := 1) (n := 2048) q_94 (by decide) (by decide) (Nat.le_of_ble_eq_true rfl) rfl rfl (Nat.le_trans (Nat.le_of_ble_eq_true rfl) F.2.2.2.2.2.1) (Nat.le_trans (Nat.le_of_ble_eq_true rfl) F.2.2.2.2.2.2) dX6_init_8 (fun y0 => ?_)
  have X1 := (X.al (Nat.le_trans (Nat.le_of_ble_eq_true rfl) F.2.2.2.2.2.1) (Nat.le_trans (Nat.le_of_ble_eq_true rfl) F.2.2.2.2.2.2) : Cx (x.al 1 2048) _ _ _ _ _)
  show V (x.al 1 2048) _ _ _ _
  refine v_putF X1 F.2.2.2.1 (pc := 10) (w' := [(h0, .inr (6, [.ref y0, .int 0, .int 0, .null, .int 0, .null, .int 0, .int 0, .int 0, .int 0, .int 0])), (y0, .inl (x.g.2.1, 2048, .inl (fun _ => 0)))]) uw6 0 rfl rfl 0 (by decide) q_663 rfl tyX6 tyX6_ok nmX6 rfl rfl rfl rfl (Nat.le_of_ble_eq_true rfl) rfl dX6_init_10 ?_
  refine v_aload_n X1 (pc := 13) dX6_init_13 rfl 0 rfl ?_
  refine v_bipush X1 (pc := 14) (v := 60) dX6_init_14 (by decide) ?_
  refine v_newaC X1 (pc := 16) (N := 60) (k := 2) (n := 2108) q_697 (by decide) (by decide) (Nat.le_of_ble_eq_true rfl) rfl rfl (Nat.le_trans (Nat.le_of_ble_eq_true rfl) F.2.2.2.2.2.1) (Nat.le_trans (Nat.le_of_ble_eq_true rfl) F.2.2.2.2.2.2) dX6_init_16 (fun y1 => ?_)
  have X2 := (X.al (Nat.le_trans (Nat.le_of_ble_eq_true rfl) F.2.2.2.2.2.1) (Nat.le_trans (Nat.le_of_ble_eq_true rfl) F.2.2.2.2.2.2) : Cx (x.al 2 2108) _ _ _ _ _)
  show V (x.al 2 2108) _ _ _ _
  refine v_putF X2 F.2.2.2.1 (pc := 18) (w' := [(h0, .inr (6, [.ref y0, .int 0, .int 0, .ref y1, .int 0, .null, .int 0, .int 0, .int 0, .int 0, .int 0])), (y0, .inl (x.g.2.1, 2048, .inl (fun _ => 0))), (y1, .inl (x.g.2.2.1, 60, .inl (fun _ => 0)))]) uw6 0 rfl rfl 3 (by decide) q_666 rfl tyX6 tyX6_ok nmX6 rfl rfl rfl rfl (Nat.le_of_ble_eq_true rfl) rfl dX6_init_18 ?_
  refine v_aload_n X2 (pc := 21) dX6_init_21 rfl 0 rfl ?_
  refine v_bipush X2 (pc := 22) (v := 6) dX6_init_22 (by decide) ?_
  refine v_newaI X2 (pc := 24) (N := 6) (k := 3) (n := 2114) q_94 (by decide) (by decide) (Nat.le_of_ble_eq_true rfl) rfl rfl (Nat.le_trans (Nat.le_of_ble_eq_true rfl) F.2.2.2.2.2.1) (Nat.le_trans (Nat.le_of_ble_eq_true rfl) F.2.2.2.2.2.2) dX6_init_24 (fun y2 => ?_)
  have X3 := (X.al (Nat.le_trans (Nat.le_of_ble_eq_true rfl) F.2.2.2.2.2.1) (Nat.le_trans (Nat.le_of_ble_eq_true rfl) F.2.2.2.2.2.2) : Cx (x.al 3 2114) _ _ _ _ _)
  show V (x.al 3 2114) _ _ _ _
  refine v_putF X3 F.2.2.2.1 (pc := 26) (w' := [(h0, .inr (6, [.ref y0, .int 0, .int 0, .ref y1, .int 0, .ref y2, .int 0, .int 0, .int 0, .int 0, .int 0])), (y0, .inl (x.g.2.1, 2048, .inl (fun _ => 0))), (y1, .inl (x.g.2.2.1, 60, .inl (fun _ => 0))), (y2, .inl (x.g.2.1, 6, .inl (fun _ => 0)))]) uw6 0 rfl rfl 5 (by decide) q_668 rfl tyX6 tyX6_ok nmX6 rfl rfl rfl rfl (Nat.le_of_ble_eq_true rfl) rfl dX6_init_26 ?_
  refine v_aload_n X3 (pc := 29) dX6_init_29 rfl 0 rfl ?_
  refine v_get X3 (pc := 30) (v := .ref y0) uw6 0 rfl rfl 0 (by decide) q_663 rfl rfl dX6_init_30 ?_
  refine v_iconst X3 (pc := 33) (v := 0) dX6_init_33 (by decide) ?_
  refine v_bipush X3 (pc := 34) (v := 30) dX6_init_34 (by decide) ?_
  refine v_iast X3 (pc := 36) (w' := [(h0, .inr (6, [.ref y0, .int 0, .int 0, .ref y1, .int 0, .ref y2, .int 0, .int 0, .int 0, .int 0, .int 0])), (y0, .inl (x.g.2.1, 2048, .inl (upd (fun _ => 0) 0 30))), (y1, .inl (x.g.2.2.1, 60, .inl (fun _ => 0))), (y2, .inl (x.g.2.1, 6, .inl (fun _ => 0)))]) 1 rfl (ib_in (by decide)) rfl dX6_init_36 ?_
  refine v_aload_n X3 (pc := 37) dX6_init_37 rfl 0 rfl ?_
  refine v_get X3 (pc := 38) (v := .ref y0) uw6 0 rfl rfl 0 (by decide) q_663 rfl rfl dX6_init_38 ?_
  refine v_iconst X3 (pc := 41) (v := 1) dX6_init_41 (by decide) ?_
  refine v_bipush X3 (pc := 42) (v := 6) dX6_init_42 (by decide) ?_
  refine v_iast X3 (pc := 44) (w' := [(h0, .inr (6, [.ref y0, .int 0, .int 0, .ref y1, .int 0, .ref y2, .int 0, .int 0, .int 0, .int 0, .int 0])), (y0, .inl (x.g.2.1, 2048, .inl (upd (upd (fun _ => 0) 0 30) 1 6))), (y1, .inl (x.g.2.2.1, 60, .inl (fun _ => 0))), (y2, .inl (x.g.2.1, 6, .inl (fun _ => 0)))]) 1 rfl (ib_in (by decide)) rfl dX6_init_44 ?_
  refine v_iconst X3 (pc := 45) (v := 1) dX6_init_45 (by decide) ?_
  refine v_istore_n X3 (pc := 46) (L2 := [(1, .int 1), (0, .ref h0)]) dX6_init_46 rfl (by decide) rfl ?_
  refine v_iload_n X3 (pc := 47) dX6_init_47 rfl 0 rfl ?_
  refine v_bipush X3 (pc := 48) (v := 6) dX6_init_48 (by decide) ?_
  refine v_icmpge X3 (pc := 50) (tgt := 69) dX6_init_50 (by decide) (fun c => absurd c (by decide)) (fun _ => ?_)
  refine v_aload_n X3 (pc := 53) dX6_init_53 rfl 1 rfl ?_
  refine v_get X3 (pc := 54) (v := .ref y0) uw6 0 rfl rfl 0 (by decide) q_663 rfl rfl dX6_init_54 ?_
  refine v_iconst X3 (pc := 57) (v := 4) dX6_init_57 (by decide) ?_
  refine v_iload_n X3 (pc := 58) dX6_init_58 rfl 0 rfl ?_
  refine v_iadd X3 (pc := 59) dX6_init_59 ?_
  refine v_bipush X3 (pc := 60) (v := 100) dX6_init_60 (by decide) ?_
  refine v_iast X3 (pc := 62) (w' := [(h0, .inr (6, [.ref y0, .int 0, .int 0, .ref y1, .int 0, .ref y2, .int 0, .int 0, .int 0, .int 0, .int 0])), (y0, .inl (x.g.2.1, 2048, .inl (upd (upd (upd (fun _ => 0) 0 30) 1 6) 5 100))), (y1, .inl (x.g.2.2.1, 60, .inl (fun _ => 0))), (y2, .inl (x.g.2.1, 6, .inl (fun _ => 0)))]) 1 rfl (ib_in (by decide)) rfl dX6_init_62 ?_
  refine v_iinc X3 (pc := 63) (v := 2) (L2 := [(1, .int 2), (0, .ref h0)]) dX6_init_63 0 rfl (by decide) (by decide) rfl ?_
  refine v_goto X3 (pc := 66) (tgt := 47) dX6_init_66 (by decide) ?_
  refine v_iload_n X3 (pc := 47) dX6_init_47 rfl 0 rfl ?_
  refine v_bipush X3 (pc := 48) (v := 6) dX6_init_48 (by decide) ?_
  refine v_icmpge X3 (pc := 50) (tgt := 69) dX6_init_50 (by decide) (fun c => absurd c (by decide)) (fun _ => ?_)
  refine v_aload_n X3 (pc := 53) dX6_init_53 rfl 1 rfl ?_
  refine v_get X3 (pc := 54) (v := .ref y0) uw6 0 rfl rfl 0 (by decide) q_663 rfl rfl dX6_init_54 ?_
  refine v_iconst X3 (pc := 57) (v := 4) dX6_init_57 (by decide) ?_
  refine v_iload_n X3 (pc := 58) dX6_init_58 rfl 0 rfl ?_
  refine v_iadd X3 (pc := 59) dX6_init_59 ?_
  refine v_bipush X3 (pc := 60) (v := 100) dX6_init_60 (by decide) ?_
  refine v_iast X3 (pc := 62) (w' := [(h0, .inr (6, [.ref y0, .int 0, .int 0, .ref y1, .int 0, .ref y2, .int 0, .int 0, .int 0, .int 0, .int 0])), (y0, .inl (x.g.2.1, 2048, .inl (upd (upd (upd (upd (fun _ => 0) 0 30) 1 6) 5 100) 6 100))), (y1, .inl (x.g.2.2.1, 60, .inl (fun _ => 0))), (y2, .inl (x.g.2.1, 6, .inl (fun _ => 0)))]) 1 rfl (ib_in (by decide)) rfl dX6_init_62 ?_
  refine v_iinc X3 (pc := 63) (v := 3) (L2 := [(1, .int 3), (0, .ref h0)]) dX6_init_63 0 rfl (by decide) (by decide) rfl ?_
  refine v_goto X3 (pc := 66) (tgt := 47) dX6_init_66 (by decide) ?_
  refine v_iload_n X3 (pc := 47) dX6_init_47 rfl 0 rfl ?_
  refine v_bipush X3 (pc := 48) (v := 6) dX6_init_48 (by decide) ?_
  refine v_icmpge X3 (pc := 50) (tgt := 69) dX6_init_50 (by decide) (fun c => absurd c (by decide)) (fun _ => ?_)
  refine v_aload_n X3 (pc := 53) dX6_init_53 rfl 1 rfl ?_
  refine v_get X3 (pc := 54) (v := .ref y0) uw6 0 rfl rfl 0 (by decide) q_663 rfl rfl dX6_init_54 ?_
  refine v_iconst X3 (pc := 57) (v := 4) dX6_init_57 (by decide) ?_
  refine v_iload_n X3 (pc := 58) dX6_init_58 rfl 0 rfl ?_
  refine v_iadd X3 (pc := 59) dX6_init_59 ?_
  refine v_bipush X3 (pc := 60) (v := 100) dX6_init_60 (by decide) ?_
  refine v_iast X3 (pc := 62) (w' := [(h0, .inr (6, [.ref y0, .int 0, .int 0, .ref y1, .int 0, .ref y2, .int 0, .int 0, .int 0, .int 0, .int 0])), (y0, .inl (x.g.2.1, 2048, .inl (upd (upd (upd (upd (upd (fun _ => 0) 0 30) 1 6) 5 100) 6 100) 7 100))), (y1, .inl (x.g.2.2.1, 60, .inl (fun _ => 0))), (y2, .inl (x.g.2.1, 6, .inl (fun _ => 0)))]) 1 rfl (ib_in (by decide)) rfl dX6_init_62 ?_
  refine v_iinc X3 (pc := 63) (v := 4) (L2 := [(1, .int 4), (0, .ref h0)]) dX6_init_63 0 rfl (by decide) (by decide) rfl ?_
  refine v_goto X3 (pc := 66) (tgt := 47) dX6_init_66 (by decide) ?_
  refine v_iload_n X3 (pc := 47) dX6_init_47 rfl 0 rfl ?_
  refine v_bipush X3 (pc := 48) (v := 6) dX6_init_48 (by decide) ?_
  refine v_icmpge X3 (pc := 50) (tgt := 69) dX6_init_50 (by decide) (fun c => absurd c (by decide)) (fun _ => ?_)
  refine v_aload_n X3 (pc := 53) dX6_init_53 rfl 1 rfl ?_
  refine v_get X3 (pc := 54) (v := .ref y0) uw6 0 rfl rfl 0 (by decide) q_663 rfl rfl dX6_init_54 ?_
  refine v_iconst X3 (pc := 57) (v := 4) dX6_init_57 (by decide) ?_
  refine v_iload_n X3 (pc := 58) dX6_init_58 rfl 0 rfl ?_
  refine v_iadd X3 (pc := 59) dX6_init_59 ?_
  refine v_bipush X3 (pc := 60) (v := 100) dX6_init_60 (by decide) ?_
  refine v_iast X3 (pc := 62) (w' := [(h0, .inr (6, [.ref y0, .int 0, .int 0, .ref y1, .int 0, .ref y2, .int 0, .int 0, .int 0, .int 0, .int 0])), (y0, .inl (x.g.2.1, 2048, .inl (upd (upd (upd (upd (upd (upd (fun _ => 0) 0 30) 1 6) 5 100) 6 100) 7 100) 8 100))), (y1, .inl (x.g.2.2.1, 60, .inl (fun _ => 0))), (y2, .inl (x.g.2.1, 6, .inl (fun _ => 0)))]) 1 rfl (ib_in (by decide)) rfl dX6_init_62 ?_
  refine v_iinc X3 (pc := 63) (v := 5) (L2 := [(1, .int 5), (0, .ref h0)]) dX6_init_63 0 rfl (by decide) (by decide) rfl ?_
  refine v_goto X3 (pc := 66) (tgt := 47) dX6_init_66 (by decide) ?_
  refine v_iload_n X3 (pc := 47) dX6_init_47 rfl 0 rfl ?_
  refine v_bipush X3 (pc := 48) (v := 6) dX6_init_48 (by decide) ?_
  refine v_icmpge X3 (pc := 50) (tgt := 69) dX6_init_50 (by decide) (fun c => absurd c (by decide)) (fun _ => ?_)
  refine v_aload_n X3 (pc := 53) dX6_init_53 rfl 1 rfl ?_
  refine v_get X3 (pc := 54) (v := .ref y0) uw6 0 rfl rfl 0 (by decide) q_663 rfl rfl dX6_init_54 ?_
  refine v_iconst X3 (pc := 57) (v := 4) dX6_init_57 (by decide) ?_
  refine v_iload_n X3 (pc := 58) dX6_init_58 rfl 0 rfl ?_
  refine v_iadd X3 (pc := 59) dX6_init_59 ?_
  refine v_bipush X3 (pc := 60) (v := 100) dX6_init_60 (by decide) ?_
  refine v_iast X3 (pc := 62) (w' := [(h0, .inr (6, [.ref y0, .int 0, .int 0, .ref y1, .int 0, .ref y2, .int 0, .int 0, .int 0, .int 0, .int 0])), (y0, .inl (x.g.2.1, 2048, .inl (upd (upd (upd (upd (upd (upd (upd (fun _ => 0) 0 30) 1 6) 5 100) 6 100) 7 100) 8 100) 9 100))), (y1, .inl (x.g.2.2.1, 60, .inl (fun _ => 0))), (y2, .inl (x.g.2.1, 6, .inl (fun _ => 0)))]) 1 rfl (ib_in (by decide)) rfl dX6_init_62 ?_
  refine v_iinc X3 (pc := 63) (v := 6) (L2 := [(1, .int 6), (0, .ref h0)]) dX6_init_63 0 rfl (by decide) (by decide) rfl ?_
  refine v_goto X3 (pc := 66) (tgt := 47) dX6_init_66 (by decide) ?_
  refine v_iload_n X3 (pc := 47) dX6_init_47 rfl 0 rfl ?_
  refine v_bipush X3 (pc := 48) (v := 6) dX6_init_48 (by decide) ?_
  refine v_icmpge X3 (pc := 50) (tgt := 69) dX6_init_50 (by decide) (fun _ => ?_) (fun c => absurd (show _ ≤ _ by decide) c)
  refine v_perm (w2 := wM x.g (adL [h0, y0, y1, y2]) mu0) [0, 1, 2, 3] rfl rfl ?_
  exact v_cret X3 (pc := 69) (F.al (k := 3) (n := 2114)) rfl rfl ⟨adL [h0, y0, y1, y2], rfl, rfl⟩ dX6_init_69
theorem cw_X6_init : CwB yX6_init cX6_init 2 none 0 := ⟨q_661, q_56, by decide, by decide, by decide +kernel⟩
end
