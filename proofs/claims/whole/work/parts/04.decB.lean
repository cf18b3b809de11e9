theorem dX6_init_0 : decode cX6_init 0 = .ok (.aload_n 0, 1) := by decide +kernel
theorem dX6_init_1 : decode cX6_init 1 = .ok (.invokespecial 1, 3) := by decide +kernel
theorem dX6_init_4 : decode cX6_init 4 = .ok (.aload_n 0, 1) := by decide +kernel
theorem dX6_init_5 : decode cX6_init 5 = .ok (.sipush 2048, 3) := by decide +kernel
theorem dX6_init_8 : decode cX6_init 8 = .ok (.newarray .int, 2) := by decide +kernel
theorem dX6_init_10 : decode cX6_init 10 = .ok (.putfield 7, 3) := by decide +kernel
theorem dX6_init_13 : decode cX6_init 13 = .ok (.aload_n 0, 1) := by decide +kernel
theorem dX6_init_14 : decode cX6_init 14 = .ok (.bipush 60, 2) := by decide +kernel
theorem dX6_init_16 : decode cX6_init 16 = .ok (.newarray .char, 2) := by decide +kernel
theorem dX6_init_18 : decode cX6_init 18 = .ok (.putfield 13, 3) := by decide +kernel
theorem dX6_init_21 : decode cX6_init 21 = .ok (.aload_n 0, 1) := by decide +kernel
theorem dX6_init_22 : decode cX6_init 22 = .ok (.bipush 6, 2) := by decide +kernel
theorem dX6_init_24 : decode cX6_init 24 = .ok (.newarray .int, 2) := by decide +kernel
theorem dX6_init_26 : decode cX6_init 26 = .ok (.putfield 17, 3) := by decide +kernel
theorem dX6_init_29 : decode cX6_init 29 = .ok (.aload_n 0, 1) := by decide +kernel
theorem dX6_init_30 : decode cX6_init 30 = .ok (.getfield 7, 3) := by decide +kernel
theorem dX6_init_33 : decode cX6_init 33 = .ok (.iconst 0, 1) := by decide +kernel
theorem dX6_init_34 : decode cX6_init 34 = .ok (.bipush 30, 2) := by decide +kernel
theorem dX6_init_36 : decode cX6_init 36 = .ok (.iastore, 1) := by decide +kernel
theorem dX6_init_37 : decode cX6_init 37 = .ok (.aload_n 0, 1) := by decide +kernel
theorem dX6_init_38 : decode cX6_init 38 = .ok (.getfield 7, 3) := by decide +kernel
theorem dX6_init_41 : decode cX6_init 41 = .ok (.iconst 1, 1) := by decide +kernel
theorem dX6_init_42 : decode cX6_init 42 = .ok (.bipush 6, 2) := by decide +kernel
theorem dX6_init_44 : decode cX6_init 44 = .ok (.iastore, 1) := by decide +kernel
theorem dX6_init_45 : decode cX6_init 45 = .ok (.iconst 1, 1) := by decide +kernel
theorem dX6_init_46 : decode cX6_init 46 = .ok (.istore_n 1, 1) := by decide +kernel
theorem dX6_init_47 : decode cX6_init 47 = .ok (.iload_n 1, 1) := by decide +kernel
theorem dX6_init_48 : decode cX6_init 48 = .ok (.bipush 6, 2) := by decide +kernel
theorem dX6_init_50 : decode cX6_init 50 = .ok (.if_icmp .ge 19, 3) := by decide +kernel
theorem dX6_init_53 : decode cX6_init 53 = .ok (.aload_n 0, 1) := by decide +kernel
theorem dX6_init_54 : decode cX6_init 54 = .ok (.getfield 7, 3) := by decide +kernel
theorem dX6_init_57 : decode cX6_init 57 = .ok (.iconst 4, 1) := by decide +kernel
theorem dX6_init_58 : decode cX6_init 58 = .ok (.iload_n 1, 1) := by decide +kernel
theorem dX6_init_59 : decode cX6_init 59 = .ok (.iadd, 1) := by decide +kernel
theorem dX6_init_60 : decode cX6_init 60 = .ok (.bipush 100, 2) := by decide +kernel
theorem dX6_init_62 : decode cX6_init 62 = .ok (.iastore, 1) := by decide +kernel
theorem dX6_init_63 : decode cX6_init 63 = .ok (.iinc 1 1, 3) := by decide +kernel
theorem dX6_init_66 : decode cX6_init 66 = .ok (.goto (-19), 3) := by decide +kernel
theorem dX6_init_69 : decode cX6_init 69 = .ok (.return_, 1) := by decide +kernel
theorem dX6_in_0 : decode cX6_in 0 = .ok (.iload_n 0, 1) := by decide +kernel
theorem dX6_in_1 : decode cX6_in 1 = .ok (.iload_n 1, 1) := by decide +kernel
theorem dX6_in_2 : decode cX6_in 2 = .ok (.if_icmp .lt 12, 3) := by decide +kernel
theorem dX6_in_5 : decode cX6_in 5 = .ok (.iload_n 0, 1) := by decide +kernel
theorem dX6_in_6 : decode cX6_in 6 = .ok (.iload_n 2, 1) := by decide +kernel
theorem dX6_in_7 : decode cX6_in 7 = .ok (.if_icmp .gt 7, 3) := by decide +kernel
theorem dX6_in_10 : decode cX6_in 10 = .ok (.iconst 1, 1) := by decide +kernel
theorem dX6_in_11 : decode cX6_in 11 = .ok (.goto 4, 3) := by decide +kernel
theorem dX6_in_14 : decode cX6_in 14 = .ok (.iconst 0, 1) := by decide +kernel
theorem dX6_in_15 : decode cX6_in 15 = .ok (.ireturn, 1) := by decide +kernel
theorem dX6_copies_0 : decode cX6_copies 0 = .ok (.iconst 0, 1) := by decide +kernel
theorem dX6_copies_1 : decode cX6_copies 1 = .ok (.istore_n 3, 1) := by decide +kernel
theorem dX6_copies_2 : decode cX6_copies 2 = .ok (.iload_n 3, 1) := by decide +kernel
theorem dX6_copies_3 : decode cX6_copies 3 = .ok (.sipush 256, 3) := by decide +kernel
theorem dX6_copies_6 : decode cX6_copies 6 = .ok (.if_icmp .ge 33, 3) := by decide +kernel
theorem dX6_copies_9 : decode cX6_copies 9 = .ok (.aload_n 0, 1) := by decide +kernel
theorem dX6_copies_10 : decode cX6_copies 10 = .ok (.getfield 7, 3) := by decide +kernel
theorem dX6_copies_13 : decode cX6_copies 13 = .ok (.sipush 256, 3) := by decide +kernel
theorem dX6_copies_16 : decode cX6_copies 16 = .ok (.iload_n 2, 1) := by decide +kernel
theorem dX6_copies_17 : decode cX6_copies 17 = .ok (.imul, 1) := by decide +kernel
theorem dX6_copies_18 : decode cX6_copies 18 = .ok (.iload_n 3, 1) := by decide +kernel
theorem dX6_copies_19 : decode cX6_copies 19 = .ok (.iadd, 1) := by decide +kernel
theorem dX6_copies_20 : decode cX6_copies 20 = .ok (.aload_n 0, 1) := by decide +kernel
theorem dX6_copies_21 : decode cX6_copies 21 = .ok (.getfield 7, 3) := by decide +kernel
theorem dX6_copies_24 : decode cX6_copies 24 = .ok (.sipush 256, 3) := by decide +kernel
theorem dX6_copies_27 : decode cX6_copies 27 = .ok (.iload_n 1, 1) := by decide +kernel
theorem dX6_copies_28 : decode cX6_copies 28 = .ok (.imul, 1) := by decide +kernel
theorem dX6_copies_29 : decode cX6_copies 29 = .ok (.iload_n 3, 1) := by decide +kernel
theorem dX6_copies_30 : decode cX6_copies 30 = .ok (.iadd, 1) := by decide +kernel
theorem dX6_copies_31 : decode cX6_copies 31 = .ok (.iaload, 1) := by decide +kernel
theorem dX6_copies_32 : decode cX6_copies 32 = .ok (.iastore, 1) := by decide +kernel
theorem dX6_copies_33 : decode cX6_copies 33 = .ok (.iinc 3 1, 3) := by decide +kernel
theorem dX6_copies_36 : decode cX6_copies 36 = .ok (.goto (-34), 3) := by decide +kernel
theorem dX6_copies_39 : decode cX6_copies 39 = .ok (.return_, 1) := by decide +kernel
theorem dX6_records_0 : decode cX6_records 0 = .ok (.aload_n 0, 1) := by decide +kernel
theorem dX6_records_1 : decode cX6_records 1 = .ok (.getfield 20, 3) := by decide +kernel
theorem dX6_records_4 : decode cX6_records 4 = .ok (.iconst 5, 1) := by decide +kernel
theorem dX6_records_5 : decode cX6_records 5 = .ok (.if_icmp .ne 34, 3) := by decide +kernel
theorem dX6_records_8 : decode cX6_records 8 = .ok (.iconst 1, 1) := by decide +kernel
theorem dX6_records_9 : decode cX6_records 9 = .ok (.istore_n 1, 1) := by decide +kernel
theorem dX6_records_10 : decode cX6_records 10 = .ok (.iload_n 1, 1) := by decide +kernel
theorem dX6_records_11 : decode cX6_records 11 = .ok (.iconst 5, 1) := by decide +kernel
theorem dX6_records_12 : decode cX6_records 12 = .ok (.if_icmp .ge 17, 3) := by decide +kernel
theorem dX6_records_15 : decode cX6_records 15 = .ok (.aload_n 0, 1) := by decide +kernel
theorem dX6_records_16 : decode cX6_records 16 = .ok (.iload_n 1, 1) := by decide +kernel
theorem dX6_records_17 : decode cX6_records 17 = .ok (.iconst 1, 1) := by decide +kernel
theorem dX6_records_18 : decode cX6_records 18 = .ok (.iadd, 1) := by decide +kernel
theorem dX6_records_19 : decode cX6_records 19 = .ok (.iload_n 1, 1) := by decide +kernel
theorem dX6_records_20 : decode cX6_records 20 = .ok (.invokevirtual 24, 3) := by decide +kernel
theorem dX6_records_23 : decode cX6_records 23 = .ok (.iinc 1 1, 3) := by decide +kernel
theorem dX6_records_26 : decode cX6_records 26 = .ok (.goto (-16), 3) := by decide +kernel
theorem dX6_records_29 : decode cX6_records 29 = .ok (.aload_n 0, 1) := by decide +kernel
theorem dX6_records_30 : decode cX6_records 30 = .ok (.dup, 1) := by decide +kernel
theorem dX6_records_31 : decode cX6_records 31 = .ok (.getfield 20, 3) := by decide +kernel
theorem dX6_records_34 : decode cX6_records 34 = .ok (.iconst 1, 1) := by decide +kernel
theorem dX6_records_35 : decode cX6_records 35 = .ok (.isub, 1) := by decide +kernel
theorem dX6_records_36 : decode cX6_records 36 = .ok (.putfield 20, 3) := by decide +kernel
theorem dX6_records_39 : decode cX6_records 39 = .ok (.aload_n 0, 1) := by decide +kernel
theorem dX6_records_40 : decode cX6_records 40 = .ok (.dup, 1) := by decide +kernel
theorem dX6_records_41 : decode cX6_records 41 = .ok (.getfield 20, 3) := by decide +kernel
theorem dX6_records_44 : decode cX6_records 44 = .ok (.iconst 1, 1) := by decide +kernel
theorem dX6_records_45 : decode cX6_records 45 = .ok (.iadd, 1) := by decide +kernel
theorem dX6_records_46 : decode cX6_records 46 = .ok (.putfield 20, 3) := by decide +kernel
theorem dX6_records_49 : decode cX6_records 49 = .ok (.aload_n 0, 1) := by decide +kernel
theorem dX6_records_50 : decode cX6_records 50 = .ok (.iconst 0, 1) := by decide +kernel
theorem dX6_records_51 : decode cX6_records 51 = .ok (.aload_n 0, 1) := by decide +kernel
theorem dX6_records_52 : decode cX6_records 52 = .ok (.getfield 20, 3) := by decide +kernel
theorem dX6_records_55 : decode cX6_records 55 = .ok (.invokevirtual 24, 3) := by decide +kernel
theorem dX6_records_58 : decode cX6_records 58 = .ok (.return_, 1) := by decide +kernel
theorem dX6_place_0 : decode cX6_place 0 = .ok (.iload_n 0, 1) := by decide +kernel
theorem dX6_place_1 : decode cX6_place 1 = .ok (.bipush 16, 2) := by decide +kernel
theorem dX6_place_3 : decode cX6_place 3 = .ok (.iadd, 1) := by decide +kernel
theorem dX6_place_4 : decode cX6_place 4 = .ok (.bipush 20, 2) := by decide +kernel
theorem dX6_place_6 : decode cX6_place 6 = .ok (.iload_n 1, 1) := by decide +kernel
theorem dX6_place_7 : decode cX6_place 7 = .ok (.imul, 1) := by decide +kernel
theorem dX6_place_8 : decode cX6_place 8 = .ok (.iadd, 1) := by decide +kernel
theorem dX6_place_9 : decode cX6_place 9 = .ok (.ireturn, 1) := by decide +kernel
theorem dX6_isStile_0 : decode cX6_isStile 0 = .ok (.iload_n 1, 1) := by decide +kernel
theorem dX6_isStile_1 : decode cX6_isStile 1 = .ok (.iconst 0, 1) := by decide +kernel
theorem dX6_isStile_2 : decode cX6_isStile 2 = .ok (.aload_n 0, 1) := by decide +kernel
theorem dX6_isStile_3 : decode cX6_isStile 3 = .ok (.getfield 7, 3) := by decide +kernel
theorem dX6_isStile_6 : decode cX6_isStile 6 = .ok (.iconst 3, 1) := by decide +kernel
theorem dX6_isStile_7 : decode cX6_isStile 7 = .ok (.iaload, 1) := by decide +kernel
theorem dX6_isStile_8 : decode cX6_isStile 8 = .ok (.iconst 1, 1) := by decide +kernel
theorem dX6_isStile_9 : decode cX6_isStile 9 = .ok (.isub, 1) := by decide +kernel
theorem dX6_isStile_10 : decode cX6_isStile 10 = .ok (.invokestatic 28, 3) := by decide +kernel
theorem dX6_isStile_13 : decode cX6_isStile 13 = .ok (.ireturn, 1) := by decide +kernel
theorem dX6_isHall_0 : decode cX6_isHall 0 = .ok (.iload_n 0, 1) := by decide +kernel
theorem dX6_isHall_1 : decode cX6_isHall 1 = .ok (.iconst 1, 1) := by decide +kernel
theorem dX6_isHall_2 : decode cX6_isHall 2 = .ok (.iconst 5, 1) := by decide +kernel
theorem dX6_isHall_3 : decode cX6_isHall 3 = .ok (.invokestatic 28, 3) := by decide +kernel
theorem dX6_isHall_6 : decode cX6_isHall 6 = .ok (.ireturn, 1) := by decide +kernel
theorem dX6_counted_0 : decode cX6_counted 0 = .ok (.aload_n 0, 1) := by decide +kernel
theorem dX6_counted_1 : decode cX6_counted 1 = .ok (.getfield 7, 3) := by decide +kernel
theorem dX6_counted_4 : decode cX6_counted 4 = .ok (.iload_n 1, 1) := by decide +kernel
theorem dX6_counted_5 : decode cX6_counted 5 = .ok (.iconst 4, 1) := by decide +kernel
theorem dX6_counted_6 : decode cX6_counted 6 = .ok (.iadd, 1) := by decide +kernel
theorem dX6_counted_7 : decode cX6_counted 7 = .ok (.iconst 4, 1) := by decide +kernel
theorem dX6_counted_8 : decode cX6_counted 8 = .ok (.iload_n 2, 1) := by decide +kernel
theorem dX6_counted_9 : decode cX6_counted 9 = .ok (.imul, 1) := by decide +kernel
theorem dX6_counted_10 : decode cX6_counted 10 = .ok (.iadd, 1) := by decide +kernel
theorem dX6_counted_11 : decode cX6_counted 11 = .ok (.iaload, 1) := by decide +kernel
theorem dX6_counted_12 : decode cX6_counted 12 = .ok (.ireturn, 1) := by decide +kernel
theorem dX6_apart_0 : decode cX6_apart 0 = .ok (.iload_n 0, 1) := by decide +kernel
theorem dX6_apart_1 : decode cX6_apart 1 = .ok (.iload_n 1, 1) := by decide +kernel
theorem dX6_apart_2 : decode cX6_apart 2 = .ok (.if_icmp .le 9, 3) := by decide +kernel
theorem dX6_apart_5 : decode cX6_apart 5 = .ok (.iload_n 0, 1) := by decide +kernel
theorem dX6_apart_6 : decode cX6_apart 6 = .ok (.iload_n 1, 1) := by decide +kernel
theorem dX6_apart_7 : decode cX6_apart 7 = .ok (.isub, 1) := by decide +kernel
theorem dX6_apart_8 : decode cX6_apart 8 = .ok (.goto 6, 3) := by decide +kernel
theorem dX6_apart_11 : decode cX6_apart 11 = .ok (.iload_n 1, 1) := by decide +kernel
theorem dX6_apart_12 : decode cX6_apart 12 = .ok (.iload_n 0, 1) := by decide +kernel
theorem dX6_apart_13 : decode cX6_apart 13 = .ok (.isub, 1) := by decide +kernel
theorem dX6_apart_14 : decode cX6_apart 14 = .ok (.ireturn, 1) := by decide +kernel
theorem dX6_gap_0 : decode cX6_gap 0 = .ok (.iconst 0, 1) := by decide +kernel
theorem dX6_gap_1 : decode cX6_gap 1 = .ok (.iload_n 1, 1) := by decide +kernel
theorem dX6_gap_2 : decode cX6_gap 2 = .ok (.invokestatic 32, 3) := by decide +kernel
theorem dX6_gap_5 : decode cX6_gap 5 = .ok (.istore_n 2, 1) := by decide +kernel
theorem dX6_gap_6 : decode cX6_gap 6 = .ok (.aload_n 0, 1) := by decide +kernel
theorem dX6_gap_7 : decode cX6_gap 7 = .ok (.iload_n 2, 1) := by decide +kernel
theorem dX6_gap_8 : decode cX6_gap 8 = .ok (.iconst 0, 1) := by decide +kernel
theorem dX6_gap_9 : decode cX6_gap 9 = .ok (.invokevirtual 36, 3) := by decide +kernel
theorem dX6_gap_12 : decode cX6_gap 12 = .ok (.aload_n 0, 1) := by decide +kernel
theorem dX6_gap_13 : decode cX6_gap 13 = .ok (.iload_n 2, 1) := by decide +kernel
theorem dX6_gap_14 : decode cX6_gap 14 = .ok (.iconst 3, 1) := by decide +kernel
theorem dX6_gap_15 : decode cX6_gap 15 = .ok (.invokevirtual 36, 3) := by decide +kernel
theorem dX6_gap_18 : decode cX6_gap 18 = .ok (.invokestatic 39, 3) := by decide +kernel
theorem dX6_gap_21 : decode cX6_gap 21 = .ok (.aload_n 0, 1) := by decide +kernel
theorem dX6_gap_22 : decode cX6_gap 22 = .ok (.iload_n 2, 1) := by decide +kernel
theorem dX6_gap_23 : decode cX6_gap 23 = .ok (.iconst 1, 1) := by decide +kernel
theorem dX6_gap_24 : decode cX6_gap 24 = .ok (.invokevirtual 36, 3) := by decide +kernel
theorem dX6_gap_27 : decode cX6_gap 27 = .ok (.aload_n 0, 1) := by decide +kernel
theorem dX6_gap_28 : decode cX6_gap 28 = .ok (.iload_n 2, 1) := by decide +kernel
theorem dX6_gap_29 : decode cX6_gap 29 = .ok (.iconst 2, 1) := by decide +kernel
theorem dX6_gap_30 : decode cX6_gap 30 = .ok (.invokevirtual 36, 3) := by decide +kernel
theorem dX6_gap_33 : decode cX6_gap 33 = .ok (.invokestatic 39, 3) := by decide +kernel
theorem dX6_gap_36 : decode cX6_gap 36 = .ok (.iadd, 1) := by decide +kernel
theorem dX6_gap_37 : decode cX6_gap 37 = .ok (.ireturn, 1) := by decide +kernel
theorem dX6_barred_0 : decode cX6_barred 0 = .ok (.aload_n 0, 1) := by decide +kernel
theorem dX6_barred_1 : decode cX6_barred 1 = .ok (.getfield 7, 3) := by decide +kernel
theorem dX6_barred_4 : decode cX6_barred 4 = .ok (.iload_n 1, 1) := by decide +kernel
theorem dX6_barred_5 : decode cX6_barred 5 = .ok (.iconst 2, 1) := by decide +kernel
theorem dX6_barred_6 : decode cX6_barred 6 = .ok (.iadd, 1) := by decide +kernel
theorem dX6_barred_7 : decode cX6_barred 7 = .ok (.iaload, 1) := by decide +kernel
theorem dX6_barred_8 : decode cX6_barred 8 = .ok (.istore_n 3, 1) := by decide +kernel
theorem dX6_barred_9 : decode cX6_barred 9 = .ok (.aload_n 0, 1) := by decide +kernel
theorem dX6_barred_10 : decode cX6_barred 10 = .ok (.getfield 7, 3) := by decide +kernel
theorem dX6_barred_13 : decode cX6_barred 13 = .ok (.iload_n 1, 1) := by decide +kernel
theorem dX6_barred_14 : decode cX6_barred 14 = .ok (.iconst 3, 1) := by decide +kernel
theorem dX6_barred_15 : decode cX6_barred 15 = .ok (.iadd, 1) := by decide +kernel
theorem dX6_barred_16 : decode cX6_barred 16 = .ok (.iaload, 1) := by decide +kernel
theorem dX6_barred_17 : decode cX6_barred 17 = .ok (.ifCond .le 7, 3) := by decide +kernel
theorem dX6_barred_20 : decode cX6_barred 20 = .ok (.iconst 1, 1) := by decide +kernel
theorem dX6_barred_21 : decode cX6_barred 21 = .ok (.goto 25, 3) := by decide +kernel
theorem dX6_barred_24 : decode cX6_barred 24 = .ok (.iload_n 3, 1) := by decide +kernel
theorem dX6_barred_25 : decode cX6_barred 25 = .ok (.ifCond .eq 16, 3) := by decide +kernel
theorem dX6_barred_28 : decode cX6_barred 28 = .ok (.iload_n 3, 1) := by decide +kernel
theorem dX6_barred_29 : decode cX6_barred 29 = .ok (.iload_n 2, 1) := by decide +kernel
theorem dX6_barred_30 : decode cX6_barred 30 = .ok (.ifCond .eq 7, 3) := by decide +kernel
theorem dX6_barred_33 : decode cX6_barred 33 = .ok (.iconst 1, 1) := by decide +kernel
theorem dX6_barred_34 : decode cX6_barred 34 = .ok (.goto 4, 3) := by decide +kernel
theorem dX6_barred_37 : decode cX6_barred 37 = .ok (.iconst 2, 1) := by decide +kernel
theorem dX6_barred_38 : decode cX6_barred 38 = .ok (.if_icmp .ne 7, 3) := by decide +kernel
theorem dX6_barred_41 : decode cX6_barred 41 = .ok (.iconst 0, 1) := by decide +kernel
theorem dX6_barred_42 : decode cX6_barred 42 = .ok (.goto 4, 3) := by decide +kernel
theorem dX6_barred_45 : decode cX6_barred 45 = .ok (.iconst 2, 1) := by decide +kernel
theorem dX6_barred_46 : decode cX6_barred 46 = .ok (.ireturn, 1) := by decide +kernel
theorem dX6_from_0 : decode cX6_from 0 = .ok (.iload_n 2, 1) := by decide +kernel
theorem dX6_from_1 : decode cX6_from 1 = .ok (.ifCond .eq 12, 3) := by decide +kernel
theorem dX6_from_4 : decode cX6_from 4 = .ok (.aload_n 0, 1) := by decide +kernel
theorem dX6_from_5 : decode cX6_from 5 = .ok (.getfield 7, 3) := by decide +kernel
theorem dX6_from_8 : decode cX6_from 8 = .ok (.iload_n 1, 1) := by decide +kernel
theorem dX6_from_9 : decode cX6_from 9 = .ok (.iaload, 1) := by decide +kernel
theorem dX6_from_10 : decode cX6_from 10 = .ok (.goto 11, 3) := by decide +kernel
theorem dX6_from_13 : decode cX6_from 13 = .ok (.aload_n 0, 1) := by decide +kernel
theorem dX6_from_14 : decode cX6_from 14 = .ok (.getfield 7, 3) := by decide +kernel
theorem dX6_from_17 : decode cX6_from 17 = .ok (.iload_n 1, 1) := by decide +kernel
theorem dX6_from_18 : decode cX6_from 18 = .ok (.iconst 1, 1) := by decide +kernel
theorem dX6_from_19 : decode cX6_from 19 = .ok (.iadd, 1) := by decide +kernel
theorem dX6_from_20 : decode cX6_from 20 = .ok (.iaload, 1) := by decide +kernel
theorem dX6_from_21 : decode cX6_from 21 = .ok (.ireturn, 1) := by decide +kernel
theorem dX6_to_0 : decode cX6_to 0 = .ok (.iload_n 2, 1) := by decide +kernel
theorem dX6_to_1 : decode cX6_to 1 = .ok (.ifCond .eq 14, 3) := by decide +kernel
theorem dX6_to_4 : decode cX6_to 4 = .ok (.aload_n 0, 1) := by decide +kernel
theorem dX6_to_5 : decode cX6_to 5 = .ok (.getfield 7, 3) := by decide +kernel
theorem dX6_to_8 : decode cX6_to 8 = .ok (.iload_n 1, 1) := by decide +kernel
theorem dX6_to_9 : decode cX6_to 9 = .ok (.iconst 1, 1) := by decide +kernel
theorem dX6_to_10 : decode cX6_to 10 = .ok (.iadd, 1) := by decide +kernel
theorem dX6_to_11 : decode cX6_to 11 = .ok (.iaload, 1) := by decide +kernel
theorem dX6_to_12 : decode cX6_to 12 = .ok (.goto 9, 3) := by decide +kernel
theorem dX6_to_15 : decode cX6_to 15 = .ok (.aload_n 0, 1) := by decide +kernel
theorem dX6_to_16 : decode cX6_to 16 = .ok (.getfield 7, 3) := by decide +kernel
theorem dX6_to_19 : decode cX6_to 19 = .ok (.iload_n 1, 1) := by decide +kernel
theorem dX6_to_20 : decode cX6_to 20 = .ok (.iaload, 1) := by decide +kernel
theorem dX6_to_21 : decode cX6_to 21 = .ok (.ireturn, 1) := by decide +kernel
theorem dX6_why_0 : decode cX6_why 0 = .ok (.iload_n 1, 1) := by decide +kernel
theorem dX6_why_1 : decode cX6_why 1 = .ok (.iload_n 2, 1) := by decide +kernel
theorem dX6_why_2 : decode cX6_why 2 = .ok (.invokestatic 32, 3) := by decide +kernel
theorem dX6_why_5 : decode cX6_why 5 = .ok (.istore 5, 2) := by decide +kernel
theorem dX6_why_7 : decode cX6_why 7 = .ok (.aload_n 0, 1) := by decide +kernel
theorem dX6_why_8 : decode cX6_why 8 = .ok (.iload 5, 2) := by decide +kernel
theorem dX6_why_10 : decode cX6_why 10 = .ok (.iload_n 3, 1) := by decide +kernel
theorem dX6_why_11 : decode cX6_why 11 = .ok (.invokevirtual 42, 3) := by decide +kernel
theorem dX6_why_14 : decode cX6_why 14 = .ok (.istore 6, 2) := by decide +kernel
theorem dX6_why_16 : decode cX6_why 16 = .ok (.aload_n 0, 1) := by decide +kernel
theorem dX6_why_17 : decode cX6_why 17 = .ok (.iload 5, 2) := by decide +kernel
theorem dX6_why_19 : decode cX6_why 19 = .ok (.iload_n 3, 1) := by decide +kernel
theorem dX6_why_20 : decode cX6_why 20 = .ok (.invokevirtual 46, 3) := by decide +kernel
theorem dX6_why_23 : decode cX6_why 23 = .ok (.istore 7, 2) := by decide +kernel
theorem dX6_why_25 : decode cX6_why 25 = .ok (.aload_n 0, 1) := by decide +kernel
theorem dX6_why_26 : decode cX6_why 26 = .ok (.iload 5, 2) := by decide +kernel
theorem dX6_why_28 : decode cX6_why 28 = .ok (.iload_n 3, 1) := by decide +kernel
theorem dX6_why_29 : decode cX6_why 29 = .ok (.invokevirtual 49, 3) := by decide +kernel
theorem dX6_why_32 : decode cX6_why 32 = .ok (.istore 8, 2) := by decide +kernel
theorem dX6_why_34 : decode cX6_why 34 = .ok (.iload 8, 2) := by decide +kernel
theorem dX6_why_36 : decode cX6_why 36 = .ok (.ifCond .le 6, 3) := by decide +kernel
theorem dX6_why_39 : decode cX6_why 39 = .ok (.iload 8, 2) := by decide +kernel
theorem dX6_why_41 : decode cX6_why 41 = .ok (.ireturn, 1) := by decide +kernel
theorem dX6_why_42 : decode cX6_why 42 = .ok (.iload 6, 2) := by decide +kernel
theorem dX6_why_44 : decode cX6_why 44 = .ok (.ifCond .eq 24, 3) := by decide +kernel
theorem dX6_why_47 : decode cX6_why 47 = .ok (.aload_n 0, 1) := by decide +kernel
theorem dX6_why_48 : decode cX6_why 48 = .ok (.getfield 7, 3) := by decide +kernel
theorem dX6_why_51 : decode cX6_why 51 = .ok (.iload_n 1, 1) := by decide +kernel
theorem dX6_why_52 : decode cX6_why 52 = .ok (.bipush 10, 2) := by decide +kernel
theorem dX6_why_54 : decode cX6_why 54 = .ok (.iadd, 1) := by decide +kernel
theorem dX6_why_55 : decode cX6_why 55 = .ok (.iload 6, 2) := by decide +kernel
theorem dX6_why_57 : decode cX6_why 57 = .ok (.iadd, 1) := by decide +kernel
theorem dX6_why_58 : decode cX6_why 58 = .ok (.iaload, 1) := by decide +kernel
theorem dX6_why_59 : decode cX6_why 59 = .ok (.iload 4, 2) := by decide +kernel
theorem dX6_why_61 : decode cX6_why 61 = .ok (.if_icmp .ge 7, 3) := by decide +kernel
theorem dX6_why_64 : decode cX6_why 64 = .ok (.iconst 3, 1) := by decide +kernel
theorem dX6_why_65 : decode cX6_why 65 = .ok (.goto 42, 3) := by decide +kernel
theorem dX6_why_68 : decode cX6_why 68 = .ok (.iload 7, 2) := by decide +kernel
theorem dX6_why_70 : decode cX6_why 70 = .ok (.ifCond .eq 36, 3) := by decide +kernel
theorem dX6_why_73 : decode cX6_why 73 = .ok (.aload_n 0, 1) := by decide +kernel
theorem dX6_why_74 : decode cX6_why 74 = .ok (.getfield 7, 3) := by decide +kernel
theorem dX6_why_77 : decode cX6_why 77 = .ok (.iload_n 1, 1) := by decide +kernel
theorem dX6_why_78 : decode cX6_why 78 = .ok (.bipush 10, 2) := by decide +kernel
theorem dX6_why_80 : decode cX6_why 80 = .ok (.iadd, 1) := by decide +kernel
theorem dX6_why_81 : decode cX6_why 81 = .ok (.iload 7, 2) := by decide +kernel
theorem dX6_why_83 : decode cX6_why 83 = .ok (.iadd, 1) := by decide +kernel
theorem dX6_why_84 : decode cX6_why 84 = .ok (.iaload, 1) := by decide +kernel
theorem dX6_why_85 : decode cX6_why 85 = .ok (.iload 4, 2) := by decide +kernel
theorem dX6_why_87 : decode cX6_why 87 = .ok (.iadd, 1) := by decide +kernel
theorem dX6_why_88 : decode cX6_why 88 = .ok (.aload_n 0, 1) := by decide +kernel
theorem dX6_why_89 : decode cX6_why 89 = .ok (.getfield 7, 3) := by decide +kernel
theorem dX6_why_92 : decode cX6_why 92 = .ok (.iload_n 1, 1) := by decide +kernel
theorem dX6_why_93 : decode cX6_why 93 = .ok (.iconst 4, 1) := by decide +kernel
theorem dX6_why_94 : decode cX6_why 94 = .ok (.iadd, 1) := by decide +kernel
theorem dX6_why_95 : decode cX6_why 95 = .ok (.iload 7, 2) := by decide +kernel
theorem dX6_why_97 : decode cX6_why 97 = .ok (.iadd, 1) := by decide +kernel
theorem dX6_why_98 : decode cX6_why 98 = .ok (.iaload, 1) := by decide +kernel
theorem dX6_why_99 : decode cX6_why 99 = .ok (.if_icmp .le 7, 3) := by decide +kernel
theorem dX6_why_102 : decode cX6_why 102 = .ok (.iconst 4, 1) := by decide +kernel
theorem dX6_why_103 : decode cX6_why 103 = .ok (.goto 4, 3) := by decide +kernel
theorem dX6_why_106 : decode cX6_why 106 = .ok (.iconst 0, 1) := by decide +kernel
theorem dX6_why_107 : decode cX6_why 107 = .ok (.ireturn, 1) := by decide +kernel
theorem dX6_counts_0 : decode cX6_counts 0 = .ok (.iload_n 1, 1) := by decide +kernel
theorem dX6_counts_1 : decode cX6_counts 1 = .ok (.iconst 4, 1) := by decide +kernel
theorem dX6_counts_2 : decode cX6_counts 2 = .ok (.iadd, 1) := by decide +kernel
theorem dX6_counts_3 : decode cX6_counts 3 = .ok (.iconst 4, 1) := by decide +kernel
theorem dX6_counts_4 : decode cX6_counts 4 = .ok (.iload_n 2, 1) := by decide +kernel
theorem dX6_counts_5 : decode cX6_counts 5 = .ok (.imul, 1) := by decide +kernel
theorem dX6_counts_6 : decode cX6_counts 6 = .ok (.iadd, 1) := by decide +kernel
theorem dX6_counts_7 : decode cX6_counts 7 = .ok (.istore 4, 2) := by decide +kernel
theorem dX6_counts_9 : decode cX6_counts 9 = .ok (.aload_n 0, 1) := by decide +kernel
theorem dX6_counts_10 : decode cX6_counts 10 = .ok (.getfield 7, 3) := by decide +kernel
theorem dX6_counts_13 : decode cX6_counts 13 = .ok (.iload 4, 2) := by decide +kernel
theorem dX6_counts_15 : decode cX6_counts 15 = .ok (.iconst 1, 1) := by decide +kernel
theorem dX6_counts_16 : decode cX6_counts 16 = .ok (.iadd, 1) := by decide +kernel
theorem dX6_counts_17 : decode cX6_counts 17 = .ok (.iaload, 1) := by decide +kernel
theorem dX6_counts_18 : decode cX6_counts 18 = .ok (.istore 5, 2) := by decide +kernel
theorem dX6_counts_20 : decode cX6_counts 20 = .ok (.iload 5, 2) := by decide +kernel
theorem dX6_counts_22 : decode cX6_counts 22 = .ok (.ifCond .ne 7, 3) := by decide +kernel
theorem dX6_counts_25 : decode cX6_counts 25 = .ok (.iconst 0, 1) := by decide +kernel
theorem dX6_counts_26 : decode cX6_counts 26 = .ok (.goto 30, 3) := by decide +kernel
theorem dX6_counts_29 : decode cX6_counts 29 = .ok (.aload_n 0, 1) := by decide +kernel
theorem dX6_counts_30 : decode cX6_counts 30 = .ok (.getfield 7, 3) := by decide +kernel
theorem dX6_counts_33 : decode cX6_counts 33 = .ok (.iload 4, 2) := by decide +kernel
theorem dX6_counts_35 : decode cX6_counts 35 = .ok (.iconst 2, 1) := by decide +kernel
theorem dX6_counts_36 : decode cX6_counts 36 = .ok (.iadd, 1) := by decide +kernel
theorem dX6_counts_37 : decode cX6_counts 37 = .ok (.iaload, 1) := by decide +kernel
theorem dX6_counts_38 : decode cX6_counts 38 = .ok (.iload_n 3, 1) := by decide +kernel
theorem dX6_counts_39 : decode cX6_counts 39 = .ok (.iadd, 1) := by decide +kernel
theorem dX6_counts_40 : decode cX6_counts 40 = .ok (.iload 5, 2) := by decide +kernel
theorem dX6_counts_42 : decode cX6_counts 42 = .ok (.idiv, 1) := by decide +kernel
theorem dX6_counts_43 : decode cX6_counts 43 = .ok (.aload_n 0, 1) := by decide +kernel
theorem dX6_counts_44 : decode cX6_counts 44 = .ok (.getfield 7, 3) := by decide +kernel
theorem dX6_counts_47 : decode cX6_counts 47 = .ok (.iload 4, 2) := by decide +kernel
theorem dX6_counts_49 : decode cX6_counts 49 = .ok (.iconst 2, 1) := by decide +kernel
theorem dX6_counts_50 : decode cX6_counts 50 = .ok (.iadd, 1) := by decide +kernel
theorem dX6_counts_51 : decode cX6_counts 51 = .ok (.iaload, 1) := by decide +kernel
theorem dX6_counts_52 : decode cX6_counts 52 = .ok (.iload 5, 2) := by decide +kernel
theorem dX6_counts_54 : decode cX6_counts 54 = .ok (.idiv, 1) := by decide +kernel
theorem dX6_counts_55 : decode cX6_counts 55 = .ok (.isub, 1) := by decide +kernel
theorem dX6_counts_56 : decode cX6_counts 56 = .ok (.istore 6, 2) := by decide +kernel
theorem dX6_counts_58 : decode cX6_counts 58 = .ok (.aload_n 0, 1) := by decide +kernel
theorem dX6_counts_59 : decode cX6_counts 59 = .ok (.getfield 7, 3) := by decide +kernel
theorem dX6_counts_62 : decode cX6_counts 62 = .ok (.iload 4, 2) := by decide +kernel
theorem dX6_counts_64 : decode cX6_counts 64 = .ok (.iconst 2, 1) := by decide +kernel
theorem dX6_counts_65 : decode cX6_counts 65 = .ok (.iadd, 1) := by decide +kernel
theorem dX6_counts_66 : decode cX6_counts 66 = .ok (.dup2, 1) := by decide +kernel
theorem dX6_counts_67 : decode cX6_counts 67 = .ok (.iaload, 1) := by decide +kernel
theorem dX6_counts_68 : decode cX6_counts 68 = .ok (.iload_n 3, 1) := by decide +kernel
theorem dX6_counts_69 : decode cX6_counts 69 = .ok (.iadd, 1) := by decide +kernel
theorem dX6_counts_70 : decode cX6_counts 70 = .ok (.iastore, 1) := by decide +kernel
theorem dX6_counts_71 : decode cX6_counts 71 = .ok (.aload_n 0, 1) := by decide +kernel
theorem dX6_counts_72 : decode cX6_counts 72 = .ok (.getfield 7, 3) := by decide +kernel
theorem dX6_counts_75 : decode cX6_counts 75 = .ok (.iload 4, 2) := by decide +kernel
theorem dX6_counts_77 : decode cX6_counts 77 = .ok (.iconst 3, 1) := by decide +kernel
theorem dX6_counts_78 : decode cX6_counts 78 = .ok (.iadd, 1) := by decide +kernel
theorem dX6_counts_79 : decode cX6_counts 79 = .ok (.dup2, 1) := by decide +kernel
theorem dX6_counts_80 : decode cX6_counts 80 = .ok (.iaload, 1) := by decide +kernel
theorem dX6_counts_81 : decode cX6_counts 81 = .ok (.iload 6, 2) := by decide +kernel
theorem dX6_counts_83 : decode cX6_counts 83 = .ok (.iadd, 1) := by decide +kernel
theorem dX6_counts_84 : decode cX6_counts 84 = .ok (.iastore, 1) := by decide +kernel
theorem dX6_counts_85 : decode cX6_counts 85 = .ok (.aload_n 0, 1) := by decide +kernel
theorem dX6_counts_86 : decode cX6_counts 86 = .ok (.getfield 7, 3) := by decide +kernel
theorem dX6_counts_89 : decode cX6_counts 89 = .ok (.iload 4, 2) := by decide +kernel
theorem dX6_counts_91 : decode cX6_counts 91 = .ok (.dup2, 1) := by decide +kernel
theorem dX6_counts_92 : decode cX6_counts 92 = .ok (.iaload, 1) := by decide +kernel
theorem dX6_counts_93 : decode cX6_counts 93 = .ok (.iload_n 3, 1) := by decide +kernel
theorem dX6_counts_94 : decode cX6_counts 94 = .ok (.iload 6, 2) := by decide +kernel
theorem dX6_counts_96 : decode cX6_counts 96 = .ok (.isub, 1) := by decide +kernel
theorem dX6_counts_97 : decode cX6_counts 97 = .ok (.iadd, 1) := by decide +kernel
theorem dX6_counts_98 : decode cX6_counts 98 = .ok (.iastore, 1) := by decide +kernel
theorem dX6_counts_99 : decode cX6_counts 99 = .ok (.return_, 1) := by decide +kernel
theorem dX6_passes_0 : decode cX6_passes 0 = .ok (.iload_n 1, 1) := by decide +kernel
theorem dX6_passes_1 : decode cX6_passes 1 = .ok (.iload_n 2, 1) := by decide +kernel
theorem dX6_passes_2 : decode cX6_passes 2 = .ok (.invokestatic 32, 3) := by decide +kernel
theorem dX6_passes_5 : decode cX6_passes 5 = .ok (.istore 5, 2) := by decide +kernel
theorem dX6_passes_7 : decode cX6_passes 7 = .ok (.aload_n 0, 1) := by decide +kernel
theorem dX6_passes_8 : decode cX6_passes 8 = .ok (.iload 5, 2) := by decide +kernel
theorem dX6_passes_10 : decode cX6_passes 10 = .ok (.iload_n 3, 1) := by decide +kernel
theorem dX6_passes_11 : decode cX6_passes 11 = .ok (.invokevirtual 42, 3) := by decide +kernel
theorem dX6_passes_14 : decode cX6_passes 14 = .ok (.istore 6, 2) := by decide +kernel
theorem dX6_passes_16 : decode cX6_passes 16 = .ok (.aload_n 0, 1) := by decide +kernel
theorem dX6_passes_17 : decode cX6_passes 17 = .ok (.iload 5, 2) := by decide +kernel
theorem dX6_passes_19 : decode cX6_passes 19 = .ok (.iload_n 3, 1) := by decide +kernel
theorem dX6_passes_20 : decode cX6_passes 20 = .ok (.invokevirtual 46, 3) := by decide +kernel
theorem dX6_passes_23 : decode cX6_passes 23 = .ok (.istore 7, 2) := by decide +kernel
theorem dX6_passes_25 : decode cX6_passes 25 = .ok (.aload_n 0, 1) := by decide +kernel
theorem dX6_passes_26 : decode cX6_passes 26 = .ok (.getfield 7, 3) := by decide +kernel
theorem dX6_passes_29 : decode cX6_passes 29 = .ok (.iload_n 1, 1) := by decide +kernel
theorem dX6_passes_30 : decode cX6_passes 30 = .ok (.bipush 10, 2) := by decide +kernel
theorem dX6_passes_32 : decode cX6_passes 32 = .ok (.iadd, 1) := by decide +kernel
theorem dX6_passes_33 : decode cX6_passes 33 = .ok (.iload 6, 2) := by decide +kernel
theorem dX6_passes_35 : decode cX6_passes 35 = .ok (.iadd, 1) := by decide +kernel
theorem dX6_passes_36 : decode cX6_passes 36 = .ok (.dup2, 1) := by decide +kernel
theorem dX6_passes_37 : decode cX6_passes 37 = .ok (.iaload, 1) := by decide +kernel
theorem dX6_passes_38 : decode cX6_passes 38 = .ok (.iload 6, 2) := by decide +kernel
theorem dX6_passes_40 : decode cX6_passes 40 = .ok (.ifCond .ne 7, 3) := by decide +kernel
theorem dX6_passes_43 : decode cX6_passes 43 = .ok (.iconst 0, 1) := by decide +kernel
theorem dX6_passes_44 : decode cX6_passes 44 = .ok (.goto 5, 3) := by decide +kernel
theorem dX6_passes_47 : decode cX6_passes 47 = .ok (.iload 4, 2) := by decide +kernel
theorem dX6_passes_49 : decode cX6_passes 49 = .ok (.isub, 1) := by decide +kernel
theorem dX6_passes_50 : decode cX6_passes 50 = .ok (.iastore, 1) := by decide +kernel
theorem dX6_passes_51 : decode cX6_passes 51 = .ok (.aload_n 0, 1) := by decide +kernel
theorem dX6_passes_52 : decode cX6_passes 52 = .ok (.getfield 7, 3) := by decide +kernel
theorem dX6_passes_55 : decode cX6_passes 55 = .ok (.iload_n 1, 1) := by decide +kernel
theorem dX6_passes_56 : decode cX6_passes 56 = .ok (.bipush 10, 2) := by decide +kernel
theorem dX6_passes_58 : decode cX6_passes 58 = .ok (.iadd, 1) := by decide +kernel
theorem dX6_passes_59 : decode cX6_passes 59 = .ok (.iload 7, 2) := by decide +kernel
theorem dX6_passes_61 : decode cX6_passes 61 = .ok (.iadd, 1) := by decide +kernel
theorem dX6_passes_62 : decode cX6_passes 62 = .ok (.dup2, 1) := by decide +kernel
theorem dX6_passes_63 : decode cX6_passes 63 = .ok (.iaload, 1) := by decide +kernel
theorem dX6_passes_64 : decode cX6_passes 64 = .ok (.iload 7, 2) := by decide +kernel
theorem dX6_passes_66 : decode cX6_passes 66 = .ok (.ifCond .ne 7, 3) := by decide +kernel
theorem dX6_passes_69 : decode cX6_passes 69 = .ok (.iconst 0, 1) := by decide +kernel
theorem dX6_passes_70 : decode cX6_passes 70 = .ok (.goto 5, 3) := by decide +kernel
theorem dX6_passes_73 : decode cX6_passes 73 = .ok (.iload 4, 2) := by decide +kernel
theorem dX6_passes_75 : decode cX6_passes 75 = .ok (.iadd, 1) := by decide +kernel
theorem dX6_passes_76 : decode cX6_passes 76 = .ok (.iastore, 1) := by decide +kernel
theorem dX6_passes_77 : decode cX6_passes 77 = .ok (.aload_n 0, 1) := by decide +kernel
theorem dX6_passes_78 : decode cX6_passes 78 = .ok (.iload 5, 2) := by decide +kernel
theorem dX6_passes_80 : decode cX6_passes 80 = .ok (.iload_n 3, 1) := by decide +kernel
theorem dX6_passes_81 : decode cX6_passes 81 = .ok (.ifCond .eq 7, 3) := by decide +kernel
theorem dX6_passes_84 : decode cX6_passes 84 = .ok (.iconst 0, 1) := by decide +kernel
theorem dX6_passes_85 : decode cX6_passes 85 = .ok (.goto 4, 3) := by decide +kernel
theorem dX6_passes_88 : decode cX6_passes 88 = .ok (.iconst 2, 1) := by decide +kernel
theorem dX6_passes_89 : decode cX6_passes 89 = .ok (.iload 4, 2) := by decide +kernel
theorem dX6_passes_91 : decode cX6_passes 91 = .ok (.invokevirtual 52, 3) := by decide +kernel
theorem dX6_passes_94 : decode cX6_passes 94 = .ok (.aload_n 0, 1) := by decide +kernel
theorem dX6_passes_95 : decode cX6_passes 95 = .ok (.iload 5, 2) := by decide +kernel
theorem dX6_passes_97 : decode cX6_passes 97 = .ok (.iload_n 3, 1) := by decide +kernel
theorem dX6_passes_98 : decode cX6_passes 98 = .ok (.ifCond .eq 7, 3) := by decide +kernel
theorem dX6_passes_101 : decode cX6_passes 101 = .ok (.iconst 3, 1) := by decide +kernel
theorem dX6_passes_102 : decode cX6_passes 102 = .ok (.goto 4, 3) := by decide +kernel
theorem dX6_passes_105 : decode cX6_passes 105 = .ok (.iconst 1, 1) := by decide +kernel
theorem dX6_passes_106 : decode cX6_passes 106 = .ok (.iload 4, 2) := by decide +kernel
theorem dX6_passes_108 : decode cX6_passes 108 = .ok (.invokevirtual 52, 3) := by decide +kernel
theorem dX6_passes_111 : decode cX6_passes 111 = .ok (.return_, 1) := by decide +kernel
theorem dX6_atMost_0 : decode cX6_atMost 0 = .ok (.iload_n 1, 1) := by decide +kernel
theorem dX6_atMost_1 : decode cX6_atMost 1 = .ok (.iload_n 2, 1) := by decide +kernel
theorem dX6_atMost_2 : decode cX6_atMost 2 = .ok (.invokestatic 32, 3) := by decide +kernel
theorem dX6_atMost_5 : decode cX6_atMost 5 = .ok (.istore 5, 2) := by decide +kernel
theorem dX6_atMost_7 : decode cX6_atMost 7 = .ok (.aload_n 0, 1) := by decide +kernel
theorem dX6_atMost_8 : decode cX6_atMost 8 = .ok (.iload 5, 2) := by decide +kernel
theorem dX6_atMost_10 : decode cX6_atMost 10 = .ok (.iload_n 3, 1) := by decide +kernel
theorem dX6_atMost_11 : decode cX6_atMost 11 = .ok (.invokevirtual 42, 3) := by decide +kernel
theorem dX6_atMost_14 : decode cX6_atMost 14 = .ok (.istore 6, 2) := by decide +kernel
theorem dX6_atMost_16 : decode cX6_atMost 16 = .ok (.aload_n 0, 1) := by decide +kernel
theorem dX6_atMost_17 : decode cX6_atMost 17 = .ok (.iload 5, 2) := by decide +kernel
theorem dX6_atMost_19 : decode cX6_atMost 19 = .ok (.iload_n 3, 1) := by decide +kernel
theorem dX6_atMost_20 : decode cX6_atMost 20 = .ok (.invokevirtual 46, 3) := by decide +kernel
theorem dX6_atMost_23 : decode cX6_atMost 23 = .ok (.istore 7, 2) := by decide +kernel
theorem dX6_atMost_25 : decode cX6_atMost 25 = .ok (.aload_n 0, 1) := by decide +kernel
theorem dX6_atMost_26 : decode cX6_atMost 26 = .ok (.iload 5, 2) := by decide +kernel
theorem dX6_atMost_28 : decode cX6_atMost 28 = .ok (.iload_n 3, 1) := by decide +kernel
theorem dX6_atMost_29 : decode cX6_atMost 29 = .ok (.invokevirtual 49, 3) := by decide +kernel
theorem dX6_atMost_32 : decode cX6_atMost 32 = .ok (.ifCond .le 7, 3) := by decide +kernel
theorem dX6_atMost_35 : decode cX6_atMost 35 = .ok (.iconst 0, 1) := by decide +kernel
theorem dX6_atMost_36 : decode cX6_atMost 36 = .ok (.goto 5, 3) := by decide +kernel
theorem dX6_atMost_39 : decode cX6_atMost 39 = .ok (.iload 4, 2) := by decide +kernel
theorem dX6_atMost_41 : decode cX6_atMost 41 = .ok (.istore 8, 2) := by decide +kernel
theorem dX6_atMost_43 : decode cX6_atMost 43 = .ok (.iload 6, 2) := by decide +kernel
theorem dX6_atMost_45 : decode cX6_atMost 45 = .ok (.ifCond .eq 35, 3) := by decide +kernel
theorem dX6_atMost_48 : decode cX6_atMost 48 = .ok (.aload_n 0, 1) := by decide +kernel
theorem dX6_atMost_49 : decode cX6_atMost 49 = .ok (.getfield 7, 3) := by decide +kernel
theorem dX6_atMost_52 : decode cX6_atMost 52 = .ok (.iload_n 1, 1) := by decide +kernel
theorem dX6_atMost_53 : decode cX6_atMost 53 = .ok (.bipush 10, 2) := by decide +kernel
theorem dX6_atMost_55 : decode cX6_atMost 55 = .ok (.iadd, 1) := by decide +kernel
theorem dX6_atMost_56 : decode cX6_atMost 56 = .ok (.iload 6, 2) := by decide +kernel
theorem dX6_atMost_58 : decode cX6_atMost 58 = .ok (.iadd, 1) := by decide +kernel
theorem dX6_atMost_59 : decode cX6_atMost 59 = .ok (.iaload, 1) := by decide +kernel
theorem dX6_atMost_60 : decode cX6_atMost 60 = .ok (.iload 8, 2) := by decide +kernel
theorem dX6_atMost_62 : decode cX6_atMost 62 = .ok (.if_icmp .ge 18, 3) := by decide +kernel
theorem dX6_atMost_65 : decode cX6_atMost 65 = .ok (.aload_n 0, 1) := by decide +kernel
theorem dX6_atMost_66 : decode cX6_atMost 66 = .ok (.getfield 7, 3) := by decide +kernel
theorem dX6_atMost_69 : decode cX6_atMost 69 = .ok (.iload_n 1, 1) := by decide +kernel
theorem dX6_atMost_70 : decode cX6_atMost 70 = .ok (.bipush 10, 2) := by decide +kernel
theorem dX6_atMost_72 : decode cX6_atMost 72 = .ok (.iadd, 1) := by decide +kernel
theorem dX6_atMost_73 : decode cX6_atMost 73 = .ok (.iload 6, 2) := by decide +kernel
theorem dX6_atMost_75 : decode cX6_atMost 75 = .ok (.iadd, 1) := by decide +kernel
theorem dX6_atMost_76 : decode cX6_atMost 76 = .ok (.iaload, 1) := by decide +kernel
theorem dX6_atMost_77 : decode cX6_atMost 77 = .ok (.goto 5, 3) := by decide +kernel
theorem dX6_atMost_80 : decode cX6_atMost 80 = .ok (.iload 8, 2) := by decide +kernel
theorem dX6_atMost_82 : decode cX6_atMost 82 = .ok (.istore 8, 2) := by decide +kernel
theorem dX6_atMost_84 : decode cX6_atMost 84 = .ok (.aload_n 0, 1) := by decide +kernel
theorem dX6_atMost_85 : decode cX6_atMost 85 = .ok (.getfield 7, 3) := by decide +kernel
theorem dX6_atMost_88 : decode cX6_atMost 88 = .ok (.iload_n 1, 1) := by decide +kernel
theorem dX6_atMost_89 : decode cX6_atMost 89 = .ok (.iconst 4, 1) := by decide +kernel
theorem dX6_atMost_90 : decode cX6_atMost 90 = .ok (.iadd, 1) := by decide +kernel
theorem dX6_atMost_91 : decode cX6_atMost 91 = .ok (.iload 7, 2) := by decide +kernel
theorem dX6_atMost_93 : decode cX6_atMost 93 = .ok (.iadd, 1) := by decide +kernel
theorem dX6_atMost_94 : decode cX6_atMost 94 = .ok (.iaload, 1) := by decide +kernel
theorem dX6_atMost_95 : decode cX6_atMost 95 = .ok (.aload_n 0, 1) := by decide +kernel
theorem dX6_atMost_96 : decode cX6_atMost 96 = .ok (.getfield 7, 3) := by decide +kernel
theorem dX6_atMost_99 : decode cX6_atMost 99 = .ok (.iload_n 1, 1) := by decide +kernel
theorem dX6_atMost_100 : decode cX6_atMost 100 = .ok (.bipush 10, 2) := by decide +kernel
theorem dX6_atMost_102 : decode cX6_atMost 102 = .ok (.iadd, 1) := by decide +kernel
theorem dX6_atMost_103 : decode cX6_atMost 103 = .ok (.iload 7, 2) := by decide +kernel
theorem dX6_atMost_105 : decode cX6_atMost 105 = .ok (.iadd, 1) := by decide +kernel
theorem dX6_atMost_106 : decode cX6_atMost 106 = .ok (.iaload, 1) := by decide +kernel
theorem dX6_atMost_107 : decode cX6_atMost 107 = .ok (.isub, 1) := by decide +kernel
theorem dX6_atMost_108 : decode cX6_atMost 108 = .ok (.istore 9, 2) := by decide +kernel
theorem dX6_atMost_110 : decode cX6_atMost 110 = .ok (.iload 7, 2) := by decide +kernel
theorem dX6_atMost_112 : decode cX6_atMost 112 = .ok (.ifCond .eq 15, 3) := by decide +kernel
theorem dX6_atMost_115 : decode cX6_atMost 115 = .ok (.iload 9, 2) := by decide +kernel
theorem dX6_atMost_117 : decode cX6_atMost 117 = .ok (.iload 8, 2) := by decide +kernel
theorem dX6_atMost_119 : decode cX6_atMost 119 = .ok (.if_icmp .ge 8, 3) := by decide +kernel
theorem dX6_atMost_122 : decode cX6_atMost 122 = .ok (.iload 9, 2) := by decide +kernel
theorem dX6_atMost_124 : decode cX6_atMost 124 = .ok (.goto 5, 3) := by decide +kernel
theorem dX6_atMost_127 : decode cX6_atMost 127 = .ok (.iload 8, 2) := by decide +kernel
theorem dX6_atMost_129 : decode cX6_atMost 129 = .ok (.ireturn, 1) := by decide +kernel
theorem dX6_hour_0 : decode cX6_hour 0 = .ok (.aload_n 0, 1) := by decide +kernel
theorem dX6_hour_1 : decode cX6_hour 1 = .ok (.getfield 7, 3) := by decide +kernel
theorem dX6_hour_4 : decode cX6_hour 4 = .ok (.iload_n 1, 1) := by decide +kernel
theorem dX6_hour_5 : decode cX6_hour 5 = .ok (.iconst 2, 1) := by decide +kernel
theorem dX6_hour_6 : decode cX6_hour 6 = .ok (.iadd, 1) := by decide +kernel
theorem dX6_hour_7 : decode cX6_hour 7 = .ok (.dup2, 1) := by decide +kernel
theorem dX6_hour_8 : decode cX6_hour 8 = .ok (.iaload, 1) := by decide +kernel
theorem dX6_hour_9 : decode cX6_hour 9 = .ok (.iconst 1, 1) := by decide +kernel
theorem dX6_hour_10 : decode cX6_hour 10 = .ok (.iadd, 1) := by decide +kernel
theorem dX6_hour_11 : decode cX6_hour 11 = .ok (.iastore, 1) := by decide +kernel
theorem dX6_hour_12 : decode cX6_hour 12 = .ok (.iconst 0, 1) := by decide +kernel
theorem dX6_hour_13 : decode cX6_hour 13 = .ok (.istore_n 2, 1) := by decide +kernel
theorem dX6_hour_14 : decode cX6_hour 14 = .ok (.iconst 0, 1) := by decide +kernel
theorem dX6_hour_15 : decode cX6_hour 15 = .ok (.istore_n 3, 1) := by decide +kernel
theorem dX6_hour_16 : decode cX6_hour 16 = .ok (.iload_n 3, 1) := by decide +kernel
theorem dX6_hour_17 : decode cX6_hour 17 = .ok (.aload_n 0, 1) := by decide +kernel
theorem dX6_hour_18 : decode cX6_hour 18 = .ok (.getfield 7, 3) := by decide +kernel
theorem dX6_hour_21 : decode cX6_hour 21 = .ok (.iload_n 1, 1) := by decide +kernel
theorem dX6_hour_22 : decode cX6_hour 22 = .ok (.iconst 3, 1) := by decide +kernel
theorem dX6_hour_23 : decode cX6_hour 23 = .ok (.iadd, 1) := by decide +kernel
theorem dX6_hour_24 : decode cX6_hour 24 = .ok (.iaload, 1) := by decide +kernel
theorem dX6_hour_25 : decode cX6_hour 25 = .ok (.if_icmp .ge 105, 3) := by decide +kernel
theorem dX6_hour_28 : decode cX6_hour 28 = .ok (.iload_n 1, 1) := by decide +kernel
theorem dX6_hour_29 : decode cX6_hour 29 = .ok (.iload_n 3, 1) := by decide +kernel
theorem dX6_hour_30 : decode cX6_hour 30 = .ok (.invokestatic 32, 3) := by decide +kernel
theorem dX6_hour_33 : decode cX6_hour 33 = .ok (.istore 4, 2) := by decide +kernel
theorem dX6_hour_35 : decode cX6_hour 35 = .ok (.aload_n 0, 1) := by decide +kernel
theorem dX6_hour_36 : decode cX6_hour 36 = .ok (.getfield 7, 3) := by decide +kernel
theorem dX6_hour_39 : decode cX6_hour 39 = .ok (.iload 4, 2) := by decide +kernel
theorem dX6_hour_41 : decode cX6_hour 41 = .ok (.iconst 3, 1) := by decide +kernel
theorem dX6_hour_42 : decode cX6_hour 42 = .ok (.iadd, 1) := by decide +kernel
theorem dX6_hour_43 : decode cX6_hour 43 = .ok (.iaload, 1) := by decide +kernel
theorem dX6_hour_44 : decode cX6_hour 44 = .ok (.ifCond .le 80, 3) := by decide +kernel
theorem dX6_hour_47 : decode cX6_hour 47 = .ok (.aload_n 0, 1) := by decide +kernel
theorem dX6_hour_48 : decode cX6_hour 48 = .ok (.getfield 7, 3) := by decide +kernel
theorem dX6_hour_51 : decode cX6_hour 51 = .ok (.iload 4, 2) := by decide +kernel
theorem dX6_hour_53 : decode cX6_hour 53 = .ok (.iconst 3, 1) := by decide +kernel
theorem dX6_hour_54 : decode cX6_hour 54 = .ok (.iadd, 1) := by decide +kernel
theorem dX6_hour_55 : decode cX6_hour 55 = .ok (.dup2, 1) := by decide +kernel
theorem dX6_hour_56 : decode cX6_hour 56 = .ok (.iaload, 1) := by decide +kernel
theorem dX6_hour_57 : decode cX6_hour 57 = .ok (.iconst 1, 1) := by decide +kernel
theorem dX6_hour_58 : decode cX6_hour 58 = .ok (.isub, 1) := by decide +kernel
theorem dX6_hour_59 : decode cX6_hour 59 = .ok (.iastore, 1) := by decide +kernel
theorem dX6_hour_60 : decode cX6_hour 60 = .ok (.iload_n 2, 1) := by decide +kernel
theorem dX6_hour_61 : decode cX6_hour 61 = .ok (.aload_n 0, 1) := by decide +kernel
theorem dX6_hour_62 : decode cX6_hour 62 = .ok (.getfield 7, 3) := by decide +kernel
theorem dX6_hour_65 : decode cX6_hour 65 = .ok (.iload 4, 2) := by decide +kernel
theorem dX6_hour_67 : decode cX6_hour 67 = .ok (.iconst 3, 1) := by decide +kernel
theorem dX6_hour_68 : decode cX6_hour 68 = .ok (.iadd, 1) := by decide +kernel
theorem dX6_hour_69 : decode cX6_hour 69 = .ok (.iaload, 1) := by decide +kernel
theorem dX6_hour_70 : decode cX6_hour 70 = .ok (.ifCond .ne 7, 3) := by decide +kernel
theorem dX6_hour_73 : decode cX6_hour 73 = .ok (.iconst 1, 1) := by decide +kernel
theorem dX6_hour_74 : decode cX6_hour 74 = .ok (.goto 4, 3) := by decide +kernel
theorem dX6_hour_77 : decode cX6_hour 77 = .ok (.iconst 0, 1) := by decide +kernel
theorem dX6_hour_78 : decode cX6_hour 78 = .ok (.iadd, 1) := by decide +kernel
theorem dX6_hour_79 : decode cX6_hour 79 = .ok (.istore_n 2, 1) := by decide +kernel
theorem dX6_hour_80 : decode cX6_hour 80 = .ok (.iconst 0, 1) := by decide +kernel
theorem dX6_hour_81 : decode cX6_hour 81 = .ok (.istore 5, 2) := by decide +kernel
theorem dX6_hour_83 : decode cX6_hour 83 = .ok (.iload 5, 2) := by decide +kernel
theorem dX6_hour_85 : decode cX6_hour 85 = .ok (.iconst 4, 1) := by decide +kernel
theorem dX6_hour_86 : decode cX6_hour 86 = .ok (.if_icmp .ge 38, 3) := by decide +kernel
theorem dX6_hour_89 : decode cX6_hour 89 = .ok (.aload_n 0, 1) := by decide +kernel
theorem dX6_hour_90 : decode cX6_hour 90 = .ok (.getfield 7, 3) := by decide +kernel
theorem dX6_hour_93 : decode cX6_hour 93 = .ok (.iload 4, 2) := by decide +kernel
theorem dX6_hour_95 : decode cX6_hour 95 = .ok (.iconst 3, 1) := by decide +kernel
theorem dX6_hour_96 : decode cX6_hour 96 = .ok (.iadd, 1) := by decide +kernel
theorem dX6_hour_97 : decode cX6_hour 97 = .ok (.iaload, 1) := by decide +kernel
theorem dX6_hour_98 : decode cX6_hour 98 = .ok (.ifCond .ne 26, 3) := by decide +kernel
theorem dX6_hour_101 : decode cX6_hour 101 = .ok (.aload_n 0, 1) := by decide +kernel
theorem dX6_hour_102 : decode cX6_hour 102 = .ok (.getfield 7, 3) := by decide +kernel
theorem dX6_hour_105 : decode cX6_hour 105 = .ok (.iload 4, 2) := by decide +kernel
theorem dX6_hour_107 : decode cX6_hour 107 = .ok (.iconst 4, 1) := by decide +kernel
theorem dX6_hour_108 : decode cX6_hour 108 = .ok (.iadd, 1) := by decide +kernel
theorem dX6_hour_109 : decode cX6_hour 109 = .ok (.iconst 4, 1) := by decide +kernel
theorem dX6_hour_110 : decode cX6_hour 110 = .ok (.iload 5, 2) := by decide +kernel
theorem dX6_hour_112 : decode cX6_hour 112 = .ok (.imul, 1) := by decide +kernel
theorem dX6_hour_113 : decode cX6_hour 113 = .ok (.iadd, 1) := by decide +kernel
theorem dX6_hour_114 : decode cX6_hour 114 = .ok (.iconst 1, 1) := by decide +kernel
theorem dX6_hour_115 : decode cX6_hour 115 = .ok (.iadd, 1) := by decide +kernel
theorem dX6_hour_116 : decode cX6_hour 116 = .ok (.iconst 0, 1) := by decide +kernel
theorem dX6_hour_117 : decode cX6_hour 117 = .ok (.iastore, 1) := by decide +kernel
theorem dX6_hour_118 : decode cX6_hour 118 = .ok (.iinc 5 1, 3) := by decide +kernel
theorem dX6_hour_121 : decode cX6_hour 121 = .ok (.goto (-38), 3) := by decide +kernel
theorem dX6_hour_124 : decode cX6_hour 124 = .ok (.iinc 3 1, 3) := by decide +kernel
theorem dX6_hour_127 : decode cX6_hour 127 = .ok (.goto (-111), 3) := by decide +kernel
theorem dX6_hour_130 : decode cX6_hour 130 = .ok (.iload_n 2, 1) := by decide +kernel
theorem dX6_hour_131 : decode cX6_hour 131 = .ok (.ireturn, 1) := by decide +kernel
theorem dX6_distances_0 : decode cX6_distances 0 = .ok (.iconst 0, 1) := by decide +kernel
theorem dX6_distances_1 : decode cX6_distances 1 = .ok (.istore_n 2, 1) := by decide +kernel
theorem dX6_distances_2 : decode cX6_distances 2 = .ok (.iload_n 2, 1) := by decide +kernel
theorem dX6_distances_3 : decode cX6_distances 3 = .ok (.bipush 6, 2) := by decide +kernel
theorem dX6_distances_5 : decode cX6_distances 5 = .ok (.if_icmp .ge 25, 3) := by decide +kernel
theorem dX6_distances_8 : decode cX6_distances 8 = .ok (.aload_n 0, 1) := by decide +kernel
theorem dX6_distances_9 : decode cX6_distances 9 = .ok (.getfield 17, 3) := by decide +kernel
theorem dX6_distances_12 : decode cX6_distances 12 = .ok (.iload_n 2, 1) := by decide +kernel
theorem dX6_distances_13 : decode cX6_distances 13 = .ok (.iload_n 2, 1) := by decide +kernel
theorem dX6_distances_14 : decode cX6_distances 14 = .ok (.ifCond .ne 7, 3) := by decide +kernel
theorem dX6_distances_17 : decode cX6_distances 17 = .ok (.iconst 0, 1) := by decide +kernel
theorem dX6_distances_18 : decode cX6_distances 18 = .ok (.goto 5, 3) := by decide +kernel
theorem dX6_distances_21 : decode cX6_distances 21 = .ok (.ldc 56, 2) := by decide +kernel
theorem dX6_distances_23 : decode cX6_distances 23 = .ok (.iastore, 1) := by decide +kernel
theorem dX6_distances_24 : decode cX6_distances 24 = .ok (.iinc 2 1, 3) := by decide +kernel
theorem dX6_distances_27 : decode cX6_distances 27 = .ok (.goto (-25), 3) := by decide +kernel
theorem dX6_distances_30 : decode cX6_distances 30 = .ok (.iconst 1, 1) := by decide +kernel
theorem dX6_distances_31 : decode cX6_distances 31 = .ok (.istore_n 2, 1) := by decide +kernel
theorem dX6_distances_32 : decode cX6_distances 32 = .ok (.iload_n 2, 1) := by decide +kernel
theorem dX6_distances_33 : decode cX6_distances 33 = .ok (.bipush 6, 2) := by decide +kernel
theorem dX6_distances_35 : decode cX6_distances 35 = .ok (.if_icmp .ge 125, 3) := by decide +kernel
theorem dX6_distances_38 : decode cX6_distances 38 = .ok (.iconst 0, 1) := by decide +kernel
theorem dX6_distances_39 : decode cX6_distances 39 = .ok (.istore_n 3, 1) := by decide +kernel
theorem dX6_distances_40 : decode cX6_distances 40 = .ok (.iload_n 3, 1) := by decide +kernel
theorem dX6_distances_41 : decode cX6_distances 41 = .ok (.iconst 2, 1) := by decide +kernel
theorem dX6_distances_42 : decode cX6_distances 42 = .ok (.aload_n 0, 1) := by decide +kernel
theorem dX6_distances_43 : decode cX6_distances 43 = .ok (.getfield 7, 3) := by decide +kernel
theorem dX6_distances_46 : decode cX6_distances 46 = .ok (.iload_n 1, 1) := by decide +kernel
theorem dX6_distances_47 : decode cX6_distances 47 = .ok (.iconst 3, 1) := by decide +kernel
theorem dX6_distances_48 : decode cX6_distances 48 = .ok (.iadd, 1) := by decide +kernel
theorem dX6_distances_49 : decode cX6_distances 49 = .ok (.iaload, 1) := by decide +kernel
theorem dX6_distances_50 : decode cX6_distances 50 = .ok (.imul, 1) := by decide +kernel
theorem dX6_distances_51 : decode cX6_distances 51 = .ok (.if_icmp .ge 103, 3) := by decide +kernel
theorem dX6_distances_54 : decode cX6_distances 54 = .ok (.iload_n 1, 1) := by decide +kernel
theorem dX6_distances_55 : decode cX6_distances 55 = .ok (.iload_n 3, 1) := by decide +kernel
theorem dX6_distances_56 : decode cX6_distances 56 = .ok (.iconst 2, 1) := by decide +kernel
theorem dX6_distances_57 : decode cX6_distances 57 = .ok (.idiv, 1) := by decide +kernel
theorem dX6_distances_58 : decode cX6_distances 58 = .ok (.invokestatic 32, 3) := by decide +kernel
theorem dX6_distances_61 : decode cX6_distances 61 = .ok (.istore 4, 2) := by decide +kernel
theorem dX6_distances_63 : decode cX6_distances 63 = .ok (.iload_n 3, 1) := by decide +kernel
theorem dX6_distances_64 : decode cX6_distances 64 = .ok (.iconst 2, 1) := by decide +kernel
theorem dX6_distances_65 : decode cX6_distances 65 = .ok (.irem, 1) := by decide +kernel
theorem dX6_distances_66 : decode cX6_distances 66 = .ok (.ifCond .ne 7, 3) := by decide +kernel
theorem dX6_distances_69 : decode cX6_distances 69 = .ok (.iconst 1, 1) := by decide +kernel
theorem dX6_distances_70 : decode cX6_distances 70 = .ok (.goto 4, 3) := by decide +kernel
theorem dX6_distances_73 : decode cX6_distances 73 = .ok (.iconst 0, 1) := by decide +kernel
theorem dX6_distances_74 : decode cX6_distances 74 = .ok (.istore 5, 2) := by decide +kernel
theorem dX6_distances_76 : decode cX6_distances 76 = .ok (.aload_n 0, 1) := by decide +kernel
theorem dX6_distances_77 : decode cX6_distances 77 = .ok (.iload 4, 2) := by decide +kernel
theorem dX6_distances_79 : decode cX6_distances 79 = .ok (.iload 5, 2) := by decide +kernel
theorem dX6_distances_81 : decode cX6_distances 81 = .ok (.invokevirtual 49, 3) := by decide +kernel
theorem dX6_distances_84 : decode cX6_distances 84 = .ok (.ifCond .ne 26, 3) := by decide +kernel
theorem dX6_distances_87 : decode cX6_distances 87 = .ok (.aload_n 0, 1) := by decide +kernel
theorem dX6_distances_88 : decode cX6_distances 88 = .ok (.getfield 17, 3) := by decide +kernel
theorem dX6_distances_91 : decode cX6_distances 91 = .ok (.aload_n 0, 1) := by decide +kernel
theorem dX6_distances_92 : decode cX6_distances 92 = .ok (.iload 4, 2) := by decide +kernel
theorem dX6_distances_94 : decode cX6_distances 94 = .ok (.iload 5, 2) := by decide +kernel
theorem dX6_distances_96 : decode cX6_distances 96 = .ok (.invokevirtual 46, 3) := by decide +kernel
theorem dX6_distances_99 : decode cX6_distances 99 = .ok (.iaload, 1) := by decide +kernel
theorem dX6_distances_100 : decode cX6_distances 100 = .ok (.iload_n 2, 1) := by decide +kernel
theorem dX6_distances_101 : decode cX6_distances 101 = .ok (.iconst 1, 1) := by decide +kernel
theorem dX6_distances_102 : decode cX6_distances 102 = .ok (.isub, 1) := by decide +kernel
theorem dX6_distances_103 : decode cX6_distances 103 = .ok (.if_icmp .ne 7, 3) := by decide +kernel
theorem dX6_distances_106 : decode cX6_distances 106 = .ok (.iconst 1, 1) := by decide +kernel
theorem dX6_distances_107 : decode cX6_distances 107 = .ok (.goto 4, 3) := by decide +kernel
theorem dX6_distances_110 : decode cX6_distances 110 = .ok (.iconst 0, 1) := by decide +kernel
theorem dX6_distances_111 : decode cX6_distances 111 = .ok (.istore 6, 2) := by decide +kernel
theorem dX6_distances_113 : decode cX6_distances 113 = .ok (.iload 6, 2) := by decide +kernel
theorem dX6_distances_115 : decode cX6_distances 115 = .ok (.ifCond .eq 33, 3) := by decide +kernel
theorem dX6_distances_118 : decode cX6_distances 118 = .ok (.aload_n 0, 1) := by decide +kernel
theorem dX6_distances_119 : decode cX6_distances 119 = .ok (.getfield 17, 3) := by decide +kernel
theorem dX6_distances_122 : decode cX6_distances 122 = .ok (.aload_n 0, 1) := by decide +kernel
theorem dX6_distances_123 : decode cX6_distances 123 = .ok (.iload 4, 2) := by decide +kernel
theorem dX6_distances_125 : decode cX6_distances 125 = .ok (.iload 5, 2) := by decide +kernel
theorem dX6_distances_127 : decode cX6_distances 127 = .ok (.invokevirtual 42, 3) := by decide +kernel
theorem dX6_distances_130 : decode cX6_distances 130 = .ok (.iaload, 1) := by decide +kernel
theorem dX6_distances_131 : decode cX6_distances 131 = .ok (.ifCond .ge 17, 3) := by decide +kernel
theorem dX6_distances_134 : decode cX6_distances 134 = .ok (.aload_n 0, 1) := by decide +kernel
theorem dX6_distances_135 : decode cX6_distances 135 = .ok (.getfield 17, 3) := by decide +kernel
theorem dX6_distances_138 : decode cX6_distances 138 = .ok (.aload_n 0, 1) := by decide +kernel
theorem dX6_distances_139 : decode cX6_distances 139 = .ok (.iload 4, 2) := by decide +kernel
theorem dX6_distances_141 : decode cX6_distances 141 = .ok (.iload 5, 2) := by decide +kernel
theorem dX6_distances_143 : decode cX6_distances 143 = .ok (.invokevirtual 42, 3) := by decide +kernel
theorem dX6_distances_146 : decode cX6_distances 146 = .ok (.iload_n 2, 1) := by decide +kernel
theorem dX6_distances_147 : decode cX6_distances 147 = .ok (.iastore, 1) := by decide +kernel
theorem dX6_distances_148 : decode cX6_distances 148 = .ok (.iinc 3 1, 3) := by decide +kernel
theorem dX6_distances_151 : decode cX6_distances 151 = .ok (.goto (-111), 3) := by decide +kernel
theorem dX6_distances_154 : decode cX6_distances 154 = .ok (.iinc 2 1, 3) := by decide +kernel
theorem dX6_distances_157 : decode cX6_distances 157 = .ok (.goto (-125), 3) := by decide +kernel
theorem dX6_distances_160 : decode cX6_distances 160 = .ok (.return_, 1) := by decide +kernel
theorem dX6_closes_0 : decode cX6_closes 0 = .ok (.aload_n 0, 1) := by decide +kernel
theorem dX6_closes_1 : decode cX6_closes 1 = .ok (.iload_n 1, 1) := by decide +kernel
theorem dX6_closes_2 : decode cX6_closes 2 = .ok (.invokevirtual 57, 3) := by decide +kernel
theorem dX6_closes_5 : decode cX6_closes 5 = .ok (.iconst 0, 1) := by decide +kernel
theorem dX6_closes_6 : decode cX6_closes 6 = .ok (.istore_n 2, 1) := by decide +kernel
theorem dX6_closes_7 : decode cX6_closes 7 = .ok (.iconst 0, 1) := by decide +kernel
theorem dX6_closes_8 : decode cX6_closes 8 = .ok (.istore_n 3, 1) := by decide +kernel
theorem dX6_closes_9 : decode cX6_closes 9 = .ok (.iload_n 3, 1) := by decide +kernel
theorem dX6_closes_10 : decode cX6_closes 10 = .ok (.iconst 2, 1) := by decide +kernel
theorem dX6_closes_11 : decode cX6_closes 11 = .ok (.aload_n 0, 1) := by decide +kernel
theorem dX6_closes_12 : decode cX6_closes 12 = .ok (.getfield 7, 3) := by decide +kernel
theorem dX6_closes_15 : decode cX6_closes 15 = .ok (.iload_n 1, 1) := by decide +kernel
theorem dX6_closes_16 : decode cX6_closes 16 = .ok (.iconst 3, 1) := by decide +kernel
theorem dX6_closes_17 : decode cX6_closes 17 = .ok (.iadd, 1) := by decide +kernel
theorem dX6_closes_18 : decode cX6_closes 18 = .ok (.iaload, 1) := by decide +kernel
theorem dX6_closes_19 : decode cX6_closes 19 = .ok (.imul, 1) := by decide +kernel
theorem dX6_closes_20 : decode cX6_closes 20 = .ok (.if_icmp .ge 116, 3) := by decide +kernel
theorem dX6_closes_23 : decode cX6_closes 23 = .ok (.iload_n 1, 1) := by decide +kernel
theorem dX6_closes_24 : decode cX6_closes 24 = .ok (.iload_n 3, 1) := by decide +kernel
theorem dX6_closes_25 : decode cX6_closes 25 = .ok (.iconst 2, 1) := by decide +kernel
theorem dX6_closes_26 : decode cX6_closes 26 = .ok (.idiv, 1) := by decide +kernel
theorem dX6_closes_27 : decode cX6_closes 27 = .ok (.invokestatic 32, 3) := by decide +kernel
theorem dX6_closes_30 : decode cX6_closes 30 = .ok (.istore 4, 2) := by decide +kernel
theorem dX6_closes_32 : decode cX6_closes 32 = .ok (.iload_n 3, 1) := by decide +kernel
theorem dX6_closes_33 : decode cX6_closes 33 = .ok (.iconst 2, 1) := by decide +kernel
theorem dX6_closes_34 : decode cX6_closes 34 = .ok (.irem, 1) := by decide +kernel
theorem dX6_closes_35 : decode cX6_closes 35 = .ok (.ifCond .ne 7, 3) := by decide +kernel
theorem dX6_closes_38 : decode cX6_closes 38 = .ok (.iconst 1, 1) := by decide +kernel
theorem dX6_closes_39 : decode cX6_closes 39 = .ok (.goto 4, 3) := by decide +kernel
theorem dX6_closes_42 : decode cX6_closes 42 = .ok (.iconst 0, 1) := by decide +kernel
theorem dX6_closes_43 : decode cX6_closes 43 = .ok (.istore 5, 2) := by decide +kernel
theorem dX6_closes_45 : decode cX6_closes 45 = .ok (.aload_n 0, 1) := by decide +kernel
theorem dX6_closes_46 : decode cX6_closes 46 = .ok (.getfield 17, 3) := by decide +kernel
theorem dX6_closes_49 : decode cX6_closes 49 = .ok (.aload_n 0, 1) := by decide +kernel
theorem dX6_closes_50 : decode cX6_closes 50 = .ok (.iload 4, 2) := by decide +kernel
theorem dX6_closes_52 : decode cX6_closes 52 = .ok (.iload 5, 2) := by decide +kernel
theorem dX6_closes_54 : decode cX6_closes 54 = .ok (.invokevirtual 42, 3) := by decide +kernel
theorem dX6_closes_57 : decode cX6_closes 57 = .ok (.iaload, 1) := by decide +kernel
theorem dX6_closes_58 : decode cX6_closes 58 = .ok (.istore 6, 2) := by decide +kernel
theorem dX6_closes_60 : decode cX6_closes 60 = .ok (.aload_n 0, 1) := by decide +kernel
theorem dX6_closes_61 : decode cX6_closes 61 = .ok (.getfield 17, 3) := by decide +kernel
theorem dX6_closes_64 : decode cX6_closes 64 = .ok (.aload_n 0, 1) := by decide +kernel
theorem dX6_closes_65 : decode cX6_closes 65 = .ok (.iload 4, 2) := by decide +kernel
theorem dX6_closes_67 : decode cX6_closes 67 = .ok (.iload 5, 2) := by decide +kernel
theorem dX6_closes_69 : decode cX6_closes 69 = .ok (.invokevirtual 46, 3) := by decide +kernel
theorem dX6_closes_72 : decode cX6_closes 72 = .ok (.iaload, 1) := by decide +kernel
theorem dX6_closes_73 : decode cX6_closes 73 = .ok (.istore 7, 2) := by decide +kernel
theorem dX6_closes_75 : decode cX6_closes 75 = .ok (.iload 7, 2) := by decide +kernel
theorem dX6_closes_77 : decode cX6_closes 77 = .ok (.ifCond .lt 33, 3) := by decide +kernel
theorem dX6_closes_80 : decode cX6_closes 80 = .ok (.iload 6, 2) := by decide +kernel
theorem dX6_closes_82 : decode cX6_closes 82 = .ok (.iload 7, 2) := by decide +kernel
theorem dX6_closes_84 : decode cX6_closes 84 = .ok (.iconst 1, 1) := by decide +kernel
theorem dX6_closes_85 : decode cX6_closes 85 = .ok (.iadd, 1) := by decide +kernel
theorem dX6_closes_86 : decode cX6_closes 86 = .ok (.if_icmp .ne 24, 3) := by decide +kernel
theorem dX6_closes_89 : decode cX6_closes 89 = .ok (.aload_n 0, 1) := by decide +kernel
theorem dX6_closes_90 : decode cX6_closes 90 = .ok (.iload_n 1, 1) := by decide +kernel
theorem dX6_closes_91 : decode cX6_closes 91 = .ok (.iload_n 3, 1) := by decide +kernel
theorem dX6_closes_92 : decode cX6_closes 92 = .ok (.iconst 2, 1) := by decide +kernel
theorem dX6_closes_93 : decode cX6_closes 93 = .ok (.idiv, 1) := by decide +kernel
theorem dX6_closes_94 : decode cX6_closes 94 = .ok (.iload 5, 2) := by decide +kernel
theorem dX6_closes_96 : decode cX6_closes 96 = .ok (.aload_n 0, 1) := by decide +kernel
theorem dX6_closes_97 : decode cX6_closes 97 = .ok (.getfield 7, 3) := by decide +kernel
theorem dX6_closes_100 : decode cX6_closes 100 = .ok (.iload_n 1, 1) := by decide +kernel
theorem dX6_closes_101 : decode cX6_closes 101 = .ok (.iconst 0, 1) := by decide +kernel
theorem dX6_closes_102 : decode cX6_closes 102 = .ok (.iadd, 1) := by decide +kernel
theorem dX6_closes_103 : decode cX6_closes 103 = .ok (.iaload, 1) := by decide +kernel
theorem dX6_closes_104 : decode cX6_closes 104 = .ok (.invokevirtual 61, 3) := by decide +kernel
theorem dX6_closes_107 : decode cX6_closes 107 = .ok (.goto 4, 3) := by decide +kernel
theorem dX6_closes_110 : decode cX6_closes 110 = .ok (.iconst 0, 1) := by decide +kernel
theorem dX6_closes_111 : decode cX6_closes 111 = .ok (.istore 8, 2) := by decide +kernel
theorem dX6_closes_113 : decode cX6_closes 113 = .ok (.aload_n 0, 1) := by decide +kernel
theorem dX6_closes_114 : decode cX6_closes 114 = .ok (.iload_n 1, 1) := by decide +kernel
theorem dX6_closes_115 : decode cX6_closes 115 = .ok (.iload_n 3, 1) := by decide +kernel
theorem dX6_closes_116 : decode cX6_closes 116 = .ok (.iconst 2, 1) := by decide +kernel
theorem dX6_closes_117 : decode cX6_closes 117 = .ok (.idiv, 1) := by decide +kernel
theorem dX6_closes_118 : decode cX6_closes 118 = .ok (.iload 5, 2) := by decide +kernel
theorem dX6_closes_120 : decode cX6_closes 120 = .ok (.iload 8, 2) := by decide +kernel
theorem dX6_closes_122 : decode cX6_closes 122 = .ok (.invokevirtual 65, 3) := by decide +kernel
theorem dX6_closes_125 : decode cX6_closes 125 = .ok (.iload_n 2, 1) := by decide +kernel
theorem dX6_closes_126 : decode cX6_closes 126 = .ok (.iload 8, 2) := by decide +kernel
theorem dX6_closes_128 : decode cX6_closes 128 = .ok (.iadd, 1) := by decide +kernel
theorem dX6_closes_129 : decode cX6_closes 129 = .ok (.istore_n 2, 1) := by decide +kernel
theorem dX6_closes_130 : decode cX6_closes 130 = .ok (.iinc 3 1, 3) := by decide +kernel
theorem dX6_closes_133 : decode cX6_closes 133 = .ok (.goto (-124), 3) := by decide +kernel
theorem dX6_closes_136 : decode cX6_closes 136 = .ok (.aload_n 0, 1) := by decide +kernel
theorem dX6_closes_137 : decode cX6_closes 137 = .ok (.iload_n 1, 1) := by decide +kernel
theorem dX6_closes_138 : decode cX6_closes 138 = .ok (.invokevirtual 69, 3) := by decide +kernel
theorem dX6_closes_141 : decode cX6_closes 141 = .ok (.pop, 1) := by decide +kernel
theorem dX6_closes_142 : decode cX6_closes 142 = .ok (.iload_n 2, 1) := by decide +kernel
theorem dX6_closes_143 : decode cX6_closes 143 = .ok (.ireturn, 1) := by decide +kernel
theorem dX6_people_0 : decode cX6_people 0 = .ok (.iconst 0, 1) := by decide +kernel
theorem dX6_people_1 : decode cX6_people 1 = .ok (.istore_n 2, 1) := by decide +kernel
theorem dX6_people_2 : decode cX6_people 2 = .ok (.iconst 1, 1) := by decide +kernel
theorem dX6_people_3 : decode cX6_people 3 = .ok (.istore_n 3, 1) := by decide +kernel
theorem dX6_people_4 : decode cX6_people 4 = .ok (.iload_n 3, 1) := by decide +kernel
theorem dX6_people_5 : decode cX6_people 5 = .ok (.bipush 6, 2) := by decide +kernel
theorem dX6_people_7 : decode cX6_people 7 = .ok (.if_icmp .ge 23, 3) := by decide +kernel
theorem dX6_people_10 : decode cX6_people 10 = .ok (.iload_n 2, 1) := by decide +kernel
theorem dX6_people_11 : decode cX6_people 11 = .ok (.aload_n 0, 1) := by decide +kernel
theorem dX6_people_12 : decode cX6_people 12 = .ok (.getfield 7, 3) := by decide +kernel
theorem dX6_people_15 : decode cX6_people 15 = .ok (.iload_n 1, 1) := by decide +kernel
theorem dX6_people_16 : decode cX6_people 16 = .ok (.bipush 10, 2) := by decide +kernel
theorem dX6_people_18 : decode cX6_people 18 = .ok (.iadd, 1) := by decide +kernel
theorem dX6_people_19 : decode cX6_people 19 = .ok (.iload_n 3, 1) := by decide +kernel
theorem dX6_people_20 : decode cX6_people 20 = .ok (.iadd, 1) := by decide +kernel
theorem dX6_people_21 : decode cX6_people 21 = .ok (.iaload, 1) := by decide +kernel
theorem dX6_people_22 : decode cX6_people 22 = .ok (.iadd, 1) := by decide +kernel
theorem dX6_people_23 : decode cX6_people 23 = .ok (.istore_n 2, 1) := by decide +kernel
theorem dX6_people_24 : decode cX6_people 24 = .ok (.iinc 3 1, 3) := by decide +kernel
theorem dX6_people_27 : decode cX6_people 27 = .ok (.goto (-23), 3) := by decide +kernel
theorem dX6_people_30 : decode cX6_people 30 = .ok (.iload_n 2, 1) := by decide +kernel
theorem dX6_people_31 : decode cX6_people 31 = .ok (.ireturn, 1) := by decide +kernel
theorem dX6_stile_0 : decode cX6_stile 0 = .ok (.iload_n 1, 1) := by decide +kernel
theorem dX6_stile_1 : decode cX6_stile 1 = .ok (.iconst 0, 1) := by decide +kernel
theorem dX6_stile_2 : decode cX6_stile 2 = .ok (.iconst 5, 1) := by decide +kernel
theorem dX6_stile_3 : decode cX6_stile 3 = .ok (.invokestatic 28, 3) := by decide +kernel
theorem dX6_stile_6 : decode cX6_stile 6 = .ok (.ifCond .eq 12, 3) := by decide +kernel
theorem dX6_stile_9 : decode cX6_stile 9 = .ok (.iload_n 2, 1) := by decide +kernel
theorem dX6_stile_10 : decode cX6_stile 10 = .ok (.iconst 0, 1) := by decide +kernel
theorem dX6_stile_11 : decode cX6_stile 11 = .ok (.iconst 5, 1) := by decide +kernel
theorem dX6_stile_12 : decode cX6_stile 12 = .ok (.invokestatic 28, 3) := by decide +kernel
theorem dX6_stile_15 : decode cX6_stile 15 = .ok (.ifCond .ne 6, 3) := by decide +kernel
theorem dX6_stile_18 : decode cX6_stile 18 = .ok (.ldc 73, 2) := by decide +kernel
theorem dX6_stile_20 : decode cX6_stile 20 = .ok (.ireturn, 1) := by decide +kernel
theorem dX6_stile_21 : decode cX6_stile 21 = .ok (.iload_n 1, 1) := by decide +kernel
theorem dX6_stile_22 : decode cX6_stile 22 = .ok (.iload_n 2, 1) := by decide +kernel
theorem dX6_stile_23 : decode cX6_stile 23 = .ok (.if_icmp .ne 6, 3) := by decide +kernel
theorem dX6_stile_26 : decode cX6_stile 26 = .ok (.ldc 74, 2) := by decide +kernel
theorem dX6_stile_28 : decode cX6_stile 28 = .ok (.ireturn, 1) := by decide +kernel
theorem dX6_stile_29 : decode cX6_stile 29 = .ok (.aload_n 0, 1) := by decide +kernel
theorem dX6_stile_30 : decode cX6_stile 30 = .ok (.getfield 7, 3) := by decide +kernel
theorem dX6_stile_33 : decode cX6_stile 33 = .ok (.iconst 3, 1) := by decide +kernel
theorem dX6_stile_34 : decode cX6_stile 34 = .ok (.iaload, 1) := by decide +kernel
theorem dX6_stile_35 : decode cX6_stile 35 = .ok (.bipush 12, 2) := by decide +kernel
theorem dX6_stile_37 : decode cX6_stile 37 = .ok (.if_icmp .ne 6, 3) := by decide +kernel
theorem dX6_stile_40 : decode cX6_stile 40 = .ok (.ldc 75, 2) := by decide +kernel
theorem dX6_stile_42 : decode cX6_stile 42 = .ok (.ireturn, 1) := by decide +kernel
theorem dX6_stile_43 : decode cX6_stile 43 = .ok (.aload_n 0, 1) := by decide +kernel
theorem dX6_stile_44 : decode cX6_stile 44 = .ok (.invokevirtual 76, 3) := by decide +kernel
theorem dX6_stile_47 : decode cX6_stile 47 = .ok (.iconst 0, 1) := by decide +kernel
theorem dX6_stile_48 : decode cX6_stile 48 = .ok (.aload_n 0, 1) := by decide +kernel
theorem dX6_stile_49 : decode cX6_stile 49 = .ok (.getfield 7, 3) := by decide +kernel
theorem dX6_stile_52 : decode cX6_stile 52 = .ok (.iconst 3, 1) := by decide +kernel
theorem dX6_stile_53 : decode cX6_stile 53 = .ok (.iaload, 1) := by decide +kernel
theorem dX6_stile_54 : decode cX6_stile 54 = .ok (.invokestatic 32, 3) := by decide +kernel
theorem dX6_stile_57 : decode cX6_stile 57 = .ok (.istore_n 3, 1) := by decide +kernel
theorem dX6_stile_58 : decode cX6_stile 58 = .ok (.iconst 0, 1) := by decide +kernel
theorem dX6_stile_59 : decode cX6_stile 59 = .ok (.istore 4, 2) := by decide +kernel
theorem dX6_stile_61 : decode cX6_stile 61 = .ok (.iload 4, 2) := by decide +kernel
theorem dX6_stile_63 : decode cX6_stile 63 = .ok (.bipush 20, 2) := by decide +kernel
theorem dX6_stile_65 : decode cX6_stile 65 = .ok (.if_icmp .ge 19, 3) := by decide +kernel
theorem dX6_stile_68 : decode cX6_stile 68 = .ok (.aload_n 0, 1) := by decide +kernel
theorem dX6_stile_69 : decode cX6_stile 69 = .ok (.getfield 7, 3) := by decide +kernel
theorem dX6_stile_72 : decode cX6_stile 72 = .ok (.iload_n 3, 1) := by decide +kernel
theorem dX6_stile_73 : decode cX6_stile 73 = .ok (.iload 4, 2) := by decide +kernel
theorem dX6_stile_75 : decode cX6_stile 75 = .ok (.iadd, 1) := by decide +kernel
theorem dX6_stile_76 : decode cX6_stile 76 = .ok (.iconst 0, 1) := by decide +kernel
theorem dX6_stile_77 : decode cX6_stile 77 = .ok (.iastore, 1) := by decide +kernel
theorem dX6_stile_78 : decode cX6_stile 78 = .ok (.iinc 4 1, 3) := by decide +kernel
theorem dX6_stile_81 : decode cX6_stile 81 = .ok (.goto (-20), 3) := by decide +kernel
theorem dX6_stile_84 : decode cX6_stile 84 = .ok (.aload_n 0, 1) := by decide +kernel
theorem dX6_stile_85 : decode cX6_stile 85 = .ok (.getfield 7, 3) := by decide +kernel
theorem dX6_stile_88 : decode cX6_stile 88 = .ok (.iload_n 3, 1) := by decide +kernel
theorem dX6_stile_89 : decode cX6_stile 89 = .ok (.iload_n 1, 1) := by decide +kernel
theorem dX6_stile_90 : decode cX6_stile 90 = .ok (.iastore, 1) := by decide +kernel
theorem dX6_stile_91 : decode cX6_stile 91 = .ok (.aload_n 0, 1) := by decide +kernel
theorem dX6_stile_92 : decode cX6_stile 92 = .ok (.getfield 7, 3) := by decide +kernel
theorem dX6_stile_95 : decode cX6_stile 95 = .ok (.iload_n 3, 1) := by decide +kernel
theorem dX6_stile_96 : decode cX6_stile 96 = .ok (.iconst 1, 1) := by decide +kernel
theorem dX6_stile_97 : decode cX6_stile 97 = .ok (.iadd, 1) := by decide +kernel
theorem dX6_stile_98 : decode cX6_stile 98 = .ok (.iload_n 2, 1) := by decide +kernel
theorem dX6_stile_99 : decode cX6_stile 99 = .ok (.iastore, 1) := by decide +kernel
theorem dX6_stile_100 : decode cX6_stile 100 = .ok (.aload_n 0, 1) := by decide +kernel
theorem dX6_stile_101 : decode cX6_stile 101 = .ok (.getfield 7, 3) := by decide +kernel
theorem dX6_stile_104 : decode cX6_stile 104 = .ok (.iconst 3, 1) := by decide +kernel
theorem dX6_stile_105 : decode cX6_stile 105 = .ok (.dup2, 1) := by decide +kernel
theorem dX6_stile_106 : decode cX6_stile 106 = .ok (.iaload, 1) := by decide +kernel
theorem dX6_stile_107 : decode cX6_stile 107 = .ok (.iconst 1, 1) := by decide +kernel
theorem dX6_stile_108 : decode cX6_stile 108 = .ok (.iadd, 1) := by decide +kernel
theorem dX6_stile_109 : decode cX6_stile 109 = .ok (.iastore, 1) := by decide +kernel
theorem dX6_stile_110 : decode cX6_stile 110 = .ok (.aload_n 0, 1) := by decide +kernel
theorem dX6_stile_111 : decode cX6_stile 111 = .ok (.getfield 7, 3) := by decide +kernel
theorem dX6_stile_114 : decode cX6_stile 114 = .ok (.iconst 3, 1) := by decide +kernel
theorem dX6_stile_115 : decode cX6_stile 115 = .ok (.iaload, 1) := by decide +kernel
theorem dX6_stile_116 : decode cX6_stile 116 = .ok (.iconst 1, 1) := by decide +kernel
theorem dX6_stile_117 : decode cX6_stile 117 = .ok (.isub, 1) := by decide +kernel
theorem dX6_stile_118 : decode cX6_stile 118 = .ok (.ireturn, 1) := by decide +kernel
theorem dX6_open_0 : decode cX6_open 0 = .ok (.aload_n 0, 1) := by decide +kernel
theorem dX6_open_1 : decode cX6_open 1 = .ok (.iload_n 1, 1) := by decide +kernel
theorem dX6_open_2 : decode cX6_open 2 = .ok (.invokevirtual 79, 3) := by decide +kernel
theorem dX6_open_5 : decode cX6_open 5 = .ok (.ifCond .ne 6, 3) := by decide +kernel
theorem dX6_open_8 : decode cX6_open 8 = .ok (.ldc 73, 2) := by decide +kernel
theorem dX6_open_10 : decode cX6_open 10 = .ok (.ireturn, 1) := by decide +kernel
theorem dX6_open_11 : decode cX6_open 11 = .ok (.iload_n 2, 1) := by decide +kernel
theorem dX6_open_12 : decode cX6_open 12 = .ok (.iconst 0, 1) := by decide +kernel
theorem dX6_open_13 : decode cX6_open 13 = .ok (.iconst 3, 1) := by decide +kernel
theorem dX6_open_14 : decode cX6_open 14 = .ok (.invokestatic 28, 3) := by decide +kernel
theorem dX6_open_17 : decode cX6_open 17 = .ok (.ifCond .ne 6, 3) := by decide +kernel
theorem dX6_open_20 : decode cX6_open 20 = .ok (.ldc 74, 2) := by decide +kernel
theorem dX6_open_22 : decode cX6_open 22 = .ok (.ireturn, 1) := by decide +kernel
theorem dX6_open_23 : decode cX6_open 23 = .ok (.aload_n 0, 1) := by decide +kernel
theorem dX6_open_24 : decode cX6_open 24 = .ok (.invokevirtual 76, 3) := by decide +kernel
theorem dX6_open_27 : decode cX6_open 27 = .ok (.aload_n 0, 1) := by decide +kernel
theorem dX6_open_28 : decode cX6_open 28 = .ok (.getfield 7, 3) := by decide +kernel
theorem dX6_open_31 : decode cX6_open 31 = .ok (.iconst 0, 1) := by decide +kernel
theorem dX6_open_32 : decode cX6_open 32 = .ok (.iload_n 1, 1) := by decide +kernel
theorem dX6_open_33 : decode cX6_open 33 = .ok (.invokestatic 32, 3) := by decide +kernel
theorem dX6_open_36 : decode cX6_open 36 = .ok (.iconst 2, 1) := by decide +kernel
theorem dX6_open_37 : decode cX6_open 37 = .ok (.iadd, 1) := by decide +kernel
theorem dX6_open_38 : decode cX6_open 38 = .ok (.iaload, 1) := by decide +kernel
theorem dX6_open_39 : decode cX6_open 39 = .ok (.istore_n 3, 1) := by decide +kernel
theorem dX6_open_40 : decode cX6_open 40 = .ok (.aload_n 0, 1) := by decide +kernel
theorem dX6_open_41 : decode cX6_open 41 = .ok (.getfield 7, 3) := by decide +kernel
theorem dX6_open_44 : decode cX6_open 44 = .ok (.iconst 0, 1) := by decide +kernel
theorem dX6_open_45 : decode cX6_open 45 = .ok (.iload_n 1, 1) := by decide +kernel
theorem dX6_open_46 : decode cX6_open 46 = .ok (.invokestatic 32, 3) := by decide +kernel
theorem dX6_open_49 : decode cX6_open 49 = .ok (.iconst 2, 1) := by decide +kernel
theorem dX6_open_50 : decode cX6_open 50 = .ok (.iadd, 1) := by decide +kernel
theorem dX6_open_51 : decode cX6_open 51 = .ok (.iload_n 2, 1) := by decide +kernel
theorem dX6_open_52 : decode cX6_open 52 = .ok (.iastore, 1) := by decide +kernel
theorem dX6_open_53 : decode cX6_open 53 = .ok (.iload_n 3, 1) := by decide +kernel
theorem dX6_open_54 : decode cX6_open 54 = .ok (.ireturn, 1) := by decide +kernel
theorem dX6_room_0 : decode cX6_room 0 = .ok (.iload_n 1, 1) := by decide +kernel
theorem dX6_room_1 : decode cX6_room 1 = .ok (.invokestatic 83, 3) := by decide +kernel
theorem dX6_room_4 : decode cX6_room 4 = .ok (.ifCond .ne 6, 3) := by decide +kernel
theorem dX6_room_7 : decode cX6_room 7 = .ok (.ldc 73, 2) := by decide +kernel
theorem dX6_room_9 : decode cX6_room 9 = .ok (.ireturn, 1) := by decide +kernel
theorem dX6_room_10 : decode cX6_room 10 = .ok (.iload_n 2, 1) := by decide +kernel
theorem dX6_room_11 : decode cX6_room 11 = .ok (.iconst 1, 1) := by decide +kernel
theorem dX6_room_12 : decode cX6_room 12 = .ok (.sipush 500, 3) := by decide +kernel
theorem dX6_room_15 : decode cX6_room 15 = .ok (.invokestatic 28, 3) := by decide +kernel
theorem dX6_room_18 : decode cX6_room 18 = .ok (.ifCond .ne 6, 3) := by decide +kernel
theorem dX6_room_21 : decode cX6_room 21 = .ok (.ldc 74, 2) := by decide +kernel
theorem dX6_room_23 : decode cX6_room 23 = .ok (.ireturn, 1) := by decide +kernel
theorem dX6_room_24 : decode cX6_room 24 = .ok (.aload_n 0, 1) := by decide +kernel
theorem dX6_room_25 : decode cX6_room 25 = .ok (.getfield 7, 3) := by decide +kernel
theorem dX6_room_28 : decode cX6_room 28 = .ok (.bipush 10, 2) := by decide +kernel
theorem dX6_room_30 : decode cX6_room 30 = .ok (.iload_n 1, 1) := by decide +kernel
theorem dX6_room_31 : decode cX6_room 31 = .ok (.iadd, 1) := by decide +kernel
theorem dX6_room_32 : decode cX6_room 32 = .ok (.iaload, 1) := by decide +kernel
theorem dX6_room_33 : decode cX6_room 33 = .ok (.iload_n 2, 1) := by decide +kernel
theorem dX6_room_34 : decode cX6_room 34 = .ok (.if_icmp .le 6, 3) := by decide +kernel
theorem dX6_room_37 : decode cX6_room 37 = .ok (.ldc 86, 2) := by decide +kernel
theorem dX6_room_39 : decode cX6_room 39 = .ok (.ireturn, 1) := by decide +kernel
theorem dX6_room_40 : decode cX6_room 40 = .ok (.aload_n 0, 1) := by decide +kernel
theorem dX6_room_41 : decode cX6_room 41 = .ok (.invokevirtual 76, 3) := by decide +kernel
theorem dX6_room_44 : decode cX6_room 44 = .ok (.aload_n 0, 1) := by decide +kernel
theorem dX6_room_45 : decode cX6_room 45 = .ok (.getfield 7, 3) := by decide +kernel
theorem dX6_room_48 : decode cX6_room 48 = .ok (.iconst 4, 1) := by decide +kernel
theorem dX6_room_49 : decode cX6_room 49 = .ok (.iload_n 1, 1) := by decide +kernel
theorem dX6_room_50 : decode cX6_room 50 = .ok (.iadd, 1) := by decide +kernel
theorem dX6_room_51 : decode cX6_room 51 = .ok (.iaload, 1) := by decide +kernel
theorem dX6_room_52 : decode cX6_room 52 = .ok (.istore_n 3, 1) := by decide +kernel
theorem dX6_room_53 : decode cX6_room 53 = .ok (.aload_n 0, 1) := by decide +kernel
theorem dX6_room_54 : decode cX6_room 54 = .ok (.getfield 7, 3) := by decide +kernel
theorem dX6_room_57 : decode cX6_room 57 = .ok (.iconst 4, 1) := by decide +kernel
theorem dX6_room_58 : decode cX6_room 58 = .ok (.iload_n 1, 1) := by decide +kernel
theorem dX6_room_59 : decode cX6_room 59 = .ok (.iadd, 1) := by decide +kernel
theorem dX6_room_60 : decode cX6_room 60 = .ok (.iload_n 2, 1) := by decide +kernel
theorem dX6_room_61 : decode cX6_room 61 = .ok (.iastore, 1) := by decide +kernel
theorem dX6_room_62 : decode cX6_room 62 = .ok (.iload_n 3, 1) := by decide +kernel
theorem dX6_room_63 : decode cX6_room 63 = .ok (.ireturn, 1) := by decide +kernel
theorem dX6_isSlip_0 : decode cX6_isSlip 0 = .ok (.iload_n 0, 1) := by decide +kernel
theorem dX6_isSlip_1 : decode cX6_isSlip 1 = .ok (.ifCond .eq 13, 3) := by decide +kernel
theorem dX6_isSlip_4 : decode cX6_isSlip 4 = .ok (.iload_n 0, 1) := by decide +kernel
theorem dX6_isSlip_5 : decode cX6_isSlip 5 = .ok (.iconst 2, 1) := by decide +kernel
theorem dX6_isSlip_6 : decode cX6_isSlip 6 = .ok (.bipush 9, 2) := by decide +kernel
theorem dX6_isSlip_8 : decode cX6_isSlip 8 = .ok (.invokestatic 28, 3) := by decide +kernel
theorem dX6_isSlip_11 : decode cX6_isSlip 11 = .ok (.ifCond .eq 7, 3) := by decide +kernel
theorem dX6_isSlip_14 : decode cX6_isSlip 14 = .ok (.iconst 1, 1) := by decide +kernel
theorem dX6_isSlip_15 : decode cX6_isSlip 15 = .ok (.goto 4, 3) := by decide +kernel
theorem dX6_isSlip_18 : decode cX6_isSlip 18 = .ok (.iconst 0, 1) := by decide +kernel
theorem dX6_isSlip_19 : decode cX6_isSlip 19 = .ok (.ireturn, 1) := by decide +kernel
theorem dX6_slip_0 : decode cX6_slip 0 = .ok (.aload_n 0, 1) := by decide +kernel
theorem dX6_slip_1 : decode cX6_slip 1 = .ok (.iload_n 1, 1) := by decide +kernel
theorem dX6_slip_2 : decode cX6_slip 2 = .ok (.invokevirtual 79, 3) := by decide +kernel
theorem dX6_slip_5 : decode cX6_slip 5 = .ok (.ifCond .ne 6, 3) := by decide +kernel
theorem dX6_slip_8 : decode cX6_slip 8 = .ok (.ldc 73, 2) := by decide +kernel
theorem dX6_slip_10 : decode cX6_slip 10 = .ok (.ireturn, 1) := by decide +kernel
theorem dX6_slip_11 : decode cX6_slip 11 = .ok (.iload_n 2, 1) := by decide +kernel
theorem dX6_slip_12 : decode cX6_slip 12 = .ok (.iconst 0, 1) := by decide +kernel
theorem dX6_slip_13 : decode cX6_slip 13 = .ok (.iconst 3, 1) := by decide +kernel
theorem dX6_slip_14 : decode cX6_slip 14 = .ok (.invokestatic 28, 3) := by decide +kernel
theorem dX6_slip_17 : decode cX6_slip 17 = .ok (.ifCond .eq 10, 3) := by decide +kernel
theorem dX6_slip_20 : decode cX6_slip 20 = .ok (.iload_n 3, 1) := by decide +kernel
theorem dX6_slip_21 : decode cX6_slip 21 = .ok (.invokestatic 87, 3) := by decide +kernel
theorem dX6_slip_24 : decode cX6_slip 24 = .ok (.ifCond .ne 6, 3) := by decide +kernel
theorem dX6_slip_27 : decode cX6_slip 27 = .ok (.ldc 74, 2) := by decide +kernel
theorem dX6_slip_29 : decode cX6_slip 29 = .ok (.ireturn, 1) := by decide +kernel
theorem dX6_slip_30 : decode cX6_slip 30 = .ok (.aload_n 0, 1) := by decide +kernel
theorem dX6_slip_31 : decode cX6_slip 31 = .ok (.invokevirtual 76, 3) := by decide +kernel
theorem dX6_slip_34 : decode cX6_slip 34 = .ok (.iconst 0, 1) := by decide +kernel
theorem dX6_slip_35 : decode cX6_slip 35 = .ok (.iload_n 1, 1) := by decide +kernel
theorem dX6_slip_36 : decode cX6_slip 36 = .ok (.invokestatic 32, 3) := by decide +kernel
theorem dX6_slip_39 : decode cX6_slip 39 = .ok (.iconst 4, 1) := by decide +kernel
theorem dX6_slip_40 : decode cX6_slip 40 = .ok (.iadd, 1) := by decide +kernel
theorem dX6_slip_41 : decode cX6_slip 41 = .ok (.iconst 4, 1) := by decide +kernel
theorem dX6_slip_42 : decode cX6_slip 42 = .ok (.iload_n 2, 1) := by decide +kernel
theorem dX6_slip_43 : decode cX6_slip 43 = .ok (.imul, 1) := by decide +kernel
theorem dX6_slip_44 : decode cX6_slip 44 = .ok (.iadd, 1) := by decide +kernel
theorem dX6_slip_45 : decode cX6_slip 45 = .ok (.istore 4, 2) := by decide +kernel
theorem dX6_slip_47 : decode cX6_slip 47 = .ok (.aload_n 0, 1) := by decide +kernel
theorem dX6_slip_48 : decode cX6_slip 48 = .ok (.getfield 7, 3) := by decide +kernel
theorem dX6_slip_51 : decode cX6_slip 51 = .ok (.iload 4, 2) := by decide +kernel
theorem dX6_slip_53 : decode cX6_slip 53 = .ok (.iconst 1, 1) := by decide +kernel
theorem dX6_slip_54 : decode cX6_slip 54 = .ok (.iadd, 1) := by decide +kernel
theorem dX6_slip_55 : decode cX6_slip 55 = .ok (.iaload, 1) := by decide +kernel
theorem dX6_slip_56 : decode cX6_slip 56 = .ok (.istore 5, 2) := by decide +kernel
theorem dX6_slip_58 : decode cX6_slip 58 = .ok (.aload_n 0, 1) := by decide +kernel
theorem dX6_slip_59 : decode cX6_slip 59 = .ok (.getfield 7, 3) := by decide +kernel
theorem dX6_slip_62 : decode cX6_slip 62 = .ok (.iload 4, 2) := by decide +kernel
theorem dX6_slip_64 : decode cX6_slip 64 = .ok (.iconst 1, 1) := by decide +kernel
theorem dX6_slip_65 : decode cX6_slip 65 = .ok (.iadd, 1) := by decide +kernel
theorem dX6_slip_66 : decode cX6_slip 66 = .ok (.iload_n 3, 1) := by decide +kernel
theorem dX6_slip_67 : decode cX6_slip 67 = .ok (.iastore, 1) := by decide +kernel
theorem dX6_slip_68 : decode cX6_slip 68 = .ok (.aload_n 0, 1) := by decide +kernel
theorem dX6_slip_69 : decode cX6_slip 69 = .ok (.getfield 7, 3) := by decide +kernel
theorem dX6_slip_72 : decode cX6_slip 72 = .ok (.iload 4, 2) := by decide +kernel
theorem dX6_slip_74 : decode cX6_slip 74 = .ok (.iconst 2, 1) := by decide +kernel
theorem dX6_slip_75 : decode cX6_slip 75 = .ok (.iadd, 1) := by decide +kernel
theorem dX6_slip_76 : decode cX6_slip 76 = .ok (.iconst 0, 1) := by decide +kernel
theorem dX6_slip_77 : decode cX6_slip 77 = .ok (.iastore, 1) := by decide +kernel
theorem dX6_slip_78 : decode cX6_slip 78 = .ok (.iload 5, 2) := by decide +kernel
theorem dX6_slip_80 : decode cX6_slip 80 = .ok (.ireturn, 1) := by decide +kernel
theorem dX6_wrong_0 : decode cX6_wrong 0 = .ok (.aload_n 0, 1) := by decide +kernel
theorem dX6_wrong_1 : decode cX6_wrong 1 = .ok (.iload_n 1, 1) := by decide +kernel
theorem dX6_wrong_2 : decode cX6_wrong 2 = .ok (.invokevirtual 79, 3) := by decide +kernel
theorem dX6_wrong_5 : decode cX6_wrong 5 = .ok (.ifCond .ne 6, 3) := by decide +kernel
theorem dX6_wrong_8 : decode cX6_wrong 8 = .ok (.ldc 73, 2) := by decide +kernel
theorem dX6_wrong_10 : decode cX6_wrong 10 = .ok (.ireturn, 1) := by decide +kernel
theorem dX6_wrong_11 : decode cX6_wrong 11 = .ok (.iload_n 3, 1) := by decide +kernel
theorem dX6_wrong_12 : decode cX6_wrong 12 = .ok (.iconst 1, 1) := by decide +kernel
theorem dX6_wrong_13 : decode cX6_wrong 13 = .ok (.bipush 99, 2) := by decide +kernel
theorem dX6_wrong_15 : decode cX6_wrong 15 = .ok (.invokestatic 28, 3) := by decide +kernel
theorem dX6_wrong_18 : decode cX6_wrong 18 = .ok (.ifCond .ne 6, 3) := by decide +kernel
theorem dX6_wrong_21 : decode cX6_wrong 21 = .ok (.ldc 74, 2) := by decide +kernel
theorem dX6_wrong_23 : decode cX6_wrong 23 = .ok (.ireturn, 1) := by decide +kernel
theorem dX6_wrong_24 : decode cX6_wrong 24 = .ok (.aload_n 0, 1) := by decide +kernel
theorem dX6_wrong_25 : decode cX6_wrong 25 = .ok (.iconst 0, 1) := by decide +kernel
theorem dX6_wrong_26 : decode cX6_wrong 26 = .ok (.iload_n 1, 1) := by decide +kernel
theorem dX6_wrong_27 : decode cX6_wrong 27 = .ok (.iload_n 2, 1) := by decide +kernel
theorem dX6_wrong_28 : decode cX6_wrong 28 = .ok (.iload_n 3, 1) := by decide +kernel
theorem dX6_wrong_29 : decode cX6_wrong 29 = .ok (.invokevirtual 90, 3) := by decide +kernel
theorem dX6_wrong_32 : decode cX6_wrong 32 = .ok (.istore 4, 2) := by decide +kernel
theorem dX6_wrong_34 : decode cX6_wrong 34 = .ok (.iload 4, 2) := by decide +kernel
theorem dX6_wrong_36 : decode cX6_wrong 36 = .ok (.ifCond .le 11, 3) := by decide +kernel
theorem dX6_wrong_39 : decode cX6_wrong 39 = .ok (.bipush (-10), 2) := by decide +kernel
theorem dX6_wrong_41 : decode cX6_wrong 41 = .ok (.iload 4, 2) := by decide +kernel
theorem dX6_wrong_43 : decode cX6_wrong 43 = .ok (.isub, 1) := by decide +kernel
theorem dX6_wrong_44 : decode cX6_wrong 44 = .ok (.goto 4, 3) := by decide +kernel
theorem dX6_wrong_47 : decode cX6_wrong 47 = .ok (.iconst 0, 1) := by decide +kernel
theorem dX6_wrong_48 : decode cX6_wrong 48 = .ok (.ireturn, 1) := by decide +kernel
theorem dX6_pass_0 : decode cX6_pass 0 = .ok (.aload_n 0, 1) := by decide +kernel
theorem dX6_pass_1 : decode cX6_pass 1 = .ok (.iload_n 1, 1) := by decide +kernel
theorem dX6_pass_2 : decode cX6_pass 2 = .ok (.iload_n 2, 1) := by decide +kernel
theorem dX6_pass_3 : decode cX6_pass 3 = .ok (.iload_n 3, 1) := by decide +kernel
theorem dX6_pass_4 : decode cX6_pass 4 = .ok (.invokevirtual 93, 3) := by decide +kernel
theorem dX6_pass_7 : decode cX6_pass 7 = .ok (.istore 4, 2) := by decide +kernel
theorem dX6_pass_9 : decode cX6_pass 9 = .ok (.iload 4, 2) := by decide +kernel
theorem dX6_pass_11 : decode cX6_pass 11 = .ok (.ifCond .ge 6, 3) := by decide +kernel
theorem dX6_pass_14 : decode cX6_pass 14 = .ok (.iload 4, 2) := by decide +kernel
theorem dX6_pass_16 : decode cX6_pass 16 = .ok (.ireturn, 1) := by decide +kernel
theorem dX6_pass_17 : decode cX6_pass 17 = .ok (.aload_n 0, 1) := by decide +kernel
theorem dX6_pass_18 : decode cX6_pass 18 = .ok (.invokevirtual 76, 3) := by decide +kernel
theorem dX6_pass_21 : decode cX6_pass 21 = .ok (.aload_n 0, 1) := by decide +kernel
theorem dX6_pass_22 : decode cX6_pass 22 = .ok (.iconst 0, 1) := by decide +kernel
theorem dX6_pass_23 : decode cX6_pass 23 = .ok (.iload_n 1, 1) := by decide +kernel
theorem dX6_pass_24 : decode cX6_pass 24 = .ok (.iload_n 2, 1) := by decide +kernel
theorem dX6_pass_25 : decode cX6_pass 25 = .ok (.iload_n 3, 1) := by decide +kernel
theorem dX6_pass_26 : decode cX6_pass 26 = .ok (.invokevirtual 65, 3) := by decide +kernel
theorem dX6_pass_29 : decode cX6_pass 29 = .ok (.aload_n 0, 1) := by decide +kernel
theorem dX6_pass_30 : decode cX6_pass 30 = .ok (.iload_n 1, 1) := by decide +kernel
theorem dX6_pass_31 : decode cX6_pass 31 = .ok (.invokevirtual 97, 3) := by decide +kernel
theorem dX6_pass_34 : decode cX6_pass 34 = .ok (.ireturn, 1) := by decide +kernel
theorem dX6_audits_0 : decode cX6_audits 0 = .ok (.iconst 0, 1) := by decide +kernel
theorem dX6_audits_1 : decode cX6_audits 1 = .ok (.iload_n 1, 1) := by decide +kernel
theorem dX6_audits_2 : decode cX6_audits 2 = .ok (.invokestatic 32, 3) := by decide +kernel
theorem dX6_audits_5 : decode cX6_audits 5 = .ok (.iconst 4, 1) := by decide +kernel
theorem dX6_audits_6 : decode cX6_audits 6 = .ok (.iadd, 1) := by decide +kernel
theorem dX6_audits_7 : decode cX6_audits 7 = .ok (.istore_n 2, 1) := by decide +kernel
theorem dX6_audits_8 : decode cX6_audits 8 = .ok (.aload_n 0, 1) := by decide +kernel
theorem dX6_audits_9 : decode cX6_audits 9 = .ok (.getfield 7, 3) := by decide +kernel
theorem dX6_audits_12 : decode cX6_audits 12 = .ok (.iload_n 2, 1) := by decide +kernel
theorem dX6_audits_13 : decode cX6_audits 13 = .ok (.iaload, 1) := by decide +kernel
theorem dX6_audits_14 : decode cX6_audits 14 = .ok (.aload_n 0, 1) := by decide +kernel
theorem dX6_audits_15 : decode cX6_audits 15 = .ok (.getfield 7, 3) := by decide +kernel
theorem dX6_audits_18 : decode cX6_audits 18 = .ok (.iload_n 2, 1) := by decide +kernel
theorem dX6_audits_19 : decode cX6_audits 19 = .ok (.bipush 12, 2) := by decide +kernel
theorem dX6_audits_21 : decode cX6_audits 21 = .ok (.iadd, 1) := by decide +kernel
theorem dX6_audits_22 : decode cX6_audits 22 = .ok (.iaload, 1) := by decide +kernel
theorem dX6_audits_23 : decode cX6_audits 23 = .ok (.if_icmp .le 12, 3) := by decide +kernel
theorem dX6_audits_26 : decode cX6_audits 26 = .ok (.aload_n 0, 1) := by decide +kernel
theorem dX6_audits_27 : decode cX6_audits 27 = .ok (.getfield 7, 3) := by decide +kernel
theorem dX6_audits_30 : decode cX6_audits 30 = .ok (.iload_n 2, 1) := by decide +kernel
theorem dX6_audits_31 : decode cX6_audits 31 = .ok (.iaload, 1) := by decide +kernel
theorem dX6_audits_32 : decode cX6_audits 32 = .ok (.goto 12, 3) := by decide +kernel
theorem dX6_audits_35 : decode cX6_audits 35 = .ok (.aload_n 0, 1) := by decide +kernel
theorem dX6_audits_36 : decode cX6_audits 36 = .ok (.getfield 7, 3) := by decide +kernel
theorem dX6_audits_39 : decode cX6_audits 39 = .ok (.iload_n 2, 1) := by decide +kernel
theorem dX6_audits_40 : decode cX6_audits 40 = .ok (.bipush 12, 2) := by decide +kernel
theorem dX6_audits_42 : decode cX6_audits 42 = .ok (.iadd, 1) := by decide +kernel
theorem dX6_audits_43 : decode cX6_audits 43 = .ok (.iaload, 1) := by decide +kernel
theorem dX6_audits_44 : decode cX6_audits 44 = .ok (.istore_n 3, 1) := by decide +kernel
theorem dX6_audits_45 : decode cX6_audits 45 = .ok (.aload_n 0, 1) := by decide +kernel
theorem dX6_audits_46 : decode cX6_audits 46 = .ok (.getfield 7, 3) := by decide +kernel
theorem dX6_audits_49 : decode cX6_audits 49 = .ok (.iload_n 2, 1) := by decide +kernel
theorem dX6_audits_50 : decode cX6_audits 50 = .ok (.iconst 4, 1) := by decide +kernel
theorem dX6_audits_51 : decode cX6_audits 51 = .ok (.iadd, 1) := by decide +kernel
theorem dX6_audits_52 : decode cX6_audits 52 = .ok (.iaload, 1) := by decide +kernel
theorem dX6_audits_53 : decode cX6_audits 53 = .ok (.aload_n 0, 1) := by decide +kernel
theorem dX6_audits_54 : decode cX6_audits 54 = .ok (.getfield 7, 3) := by decide +kernel
theorem dX6_audits_57 : decode cX6_audits 57 = .ok (.iload_n 2, 1) := by decide +kernel
theorem dX6_audits_58 : decode cX6_audits 58 = .ok (.bipush 8, 2) := by decide +kernel
theorem dX6_audits_60 : decode cX6_audits 60 = .ok (.iadd, 1) := by decide +kernel
theorem dX6_audits_61 : decode cX6_audits 61 = .ok (.iaload, 1) := by decide +kernel
theorem dX6_audits_62 : decode cX6_audits 62 = .ok (.if_icmp .le 14, 3) := by decide +kernel
theorem dX6_audits_65 : decode cX6_audits 65 = .ok (.aload_n 0, 1) := by decide +kernel
theorem dX6_audits_66 : decode cX6_audits 66 = .ok (.getfield 7, 3) := by decide +kernel
theorem dX6_audits_69 : decode cX6_audits 69 = .ok (.iload_n 2, 1) := by decide +kernel
theorem dX6_audits_70 : decode cX6_audits 70 = .ok (.iconst 4, 1) := by decide +kernel
theorem dX6_audits_71 : decode cX6_audits 71 = .ok (.iadd, 1) := by decide +kernel
theorem dX6_audits_72 : decode cX6_audits 72 = .ok (.iaload, 1) := by decide +kernel
theorem dX6_audits_73 : decode cX6_audits 73 = .ok (.goto 12, 3) := by decide +kernel
theorem dX6_audits_76 : decode cX6_audits 76 = .ok (.aload_n 0, 1) := by decide +kernel
theorem dX6_audits_77 : decode cX6_audits 77 = .ok (.getfield 7, 3) := by decide +kernel
theorem dX6_audits_80 : decode cX6_audits 80 = .ok (.iload_n 2, 1) := by decide +kernel
theorem dX6_audits_81 : decode cX6_audits 81 = .ok (.bipush 8, 2) := by decide +kernel
theorem dX6_audits_83 : decode cX6_audits 83 = .ok (.iadd, 1) := by decide +kernel
theorem dX6_audits_84 : decode cX6_audits 84 = .ok (.iaload, 1) := by decide +kernel
theorem dX6_audits_85 : decode cX6_audits 85 = .ok (.istore 4, 2) := by decide +kernel
theorem dX6_audits_87 : decode cX6_audits 87 = .ok (.aload_n 0, 1) := by decide +kernel
theorem dX6_audits_88 : decode cX6_audits 88 = .ok (.getfield 7, 3) := by decide +kernel
theorem dX6_audits_91 : decode cX6_audits 91 = .ok (.iload_n 2, 1) := by decide +kernel
theorem dX6_audits_92 : decode cX6_audits 92 = .ok (.iload_n 3, 1) := by decide +kernel
theorem dX6_audits_93 : decode cX6_audits 93 = .ok (.iastore, 1) := by decide +kernel
theorem dX6_audits_94 : decode cX6_audits 94 = .ok (.aload_n 0, 1) := by decide +kernel
theorem dX6_audits_95 : decode cX6_audits 95 = .ok (.getfield 7, 3) := by decide +kernel
theorem dX6_audits_98 : decode cX6_audits 98 = .ok (.iload_n 2, 1) := by decide +kernel
theorem dX6_audits_99 : decode cX6_audits 99 = .ok (.bipush 12, 2) := by decide +kernel
theorem dX6_audits_101 : decode cX6_audits 101 = .ok (.iadd, 1) := by decide +kernel
theorem dX6_audits_102 : decode cX6_audits 102 = .ok (.iload_n 3, 1) := by decide +kernel
theorem dX6_audits_103 : decode cX6_audits 103 = .ok (.iastore, 1) := by decide +kernel
theorem dX6_audits_104 : decode cX6_audits 104 = .ok (.aload_n 0, 1) := by decide +kernel
theorem dX6_audits_105 : decode cX6_audits 105 = .ok (.getfield 7, 3) := by decide +kernel
theorem dX6_audits_108 : decode cX6_audits 108 = .ok (.iload_n 2, 1) := by decide +kernel
theorem dX6_audits_109 : decode cX6_audits 109 = .ok (.iconst 4, 1) := by decide +kernel
theorem dX6_audits_110 : decode cX6_audits 110 = .ok (.iadd, 1) := by decide +kernel
theorem dX6_audits_111 : decode cX6_audits 111 = .ok (.iload 4, 2) := by decide +kernel
theorem dX6_audits_113 : decode cX6_audits 113 = .ok (.iastore, 1) := by decide +kernel
theorem dX6_audits_114 : decode cX6_audits 114 = .ok (.aload_n 0, 1) := by decide +kernel
theorem dX6_audits_115 : decode cX6_audits 115 = .ok (.getfield 7, 3) := by decide +kernel
theorem dX6_audits_118 : decode cX6_audits 118 = .ok (.iload_n 2, 1) := by decide +kernel
theorem dX6_audits_119 : decode cX6_audits 119 = .ok (.bipush 8, 2) := by decide +kernel
theorem dX6_audits_121 : decode cX6_audits 121 = .ok (.iadd, 1) := by decide +kernel
theorem dX6_audits_122 : decode cX6_audits 122 = .ok (.iload 4, 2) := by decide +kernel
theorem dX6_audits_124 : decode cX6_audits 124 = .ok (.iastore, 1) := by decide +kernel
theorem dX6_audits_125 : decode cX6_audits 125 = .ok (.return_, 1) := by decide +kernel
theorem dX6_audit_0 : decode cX6_audit 0 = .ok (.aload_n 0, 1) := by decide +kernel
theorem dX6_audit_1 : decode cX6_audit 1 = .ok (.iload_n 1, 1) := by decide +kernel
theorem dX6_audit_2 : decode cX6_audit 2 = .ok (.invokevirtual 79, 3) := by decide +kernel
theorem dX6_audit_5 : decode cX6_audit 5 = .ok (.ifCond .ne 6, 3) := by decide +kernel
theorem dX6_audit_8 : decode cX6_audit 8 = .ok (.ldc 73, 2) := by decide +kernel
theorem dX6_audit_10 : decode cX6_audit 10 = .ok (.ireturn, 1) := by decide +kernel
theorem dX6_audit_11 : decode cX6_audit 11 = .ok (.aload_n 0, 1) := by decide +kernel
theorem dX6_audit_12 : decode cX6_audit 12 = .ok (.invokevirtual 76, 3) := by decide +kernel
theorem dX6_audit_15 : decode cX6_audit 15 = .ok (.aload_n 0, 1) := by decide +kernel
theorem dX6_audit_16 : decode cX6_audit 16 = .ok (.iload_n 1, 1) := by decide +kernel
theorem dX6_audit_17 : decode cX6_audit 17 = .ok (.invokevirtual 97, 3) := by decide +kernel
theorem dX6_audit_20 : decode cX6_audit 20 = .ok (.istore_n 2, 1) := by decide +kernel
theorem dX6_audit_21 : decode cX6_audit 21 = .ok (.aload_n 0, 1) := by decide +kernel
theorem dX6_audit_22 : decode cX6_audit 22 = .ok (.iload_n 1, 1) := by decide +kernel
theorem dX6_audit_23 : decode cX6_audit 23 = .ok (.invokevirtual 100, 3) := by decide +kernel
theorem dX6_audit_26 : decode cX6_audit 26 = .ok (.iload_n 2, 1) := by decide +kernel
theorem dX6_audit_27 : decode cX6_audit 27 = .ok (.ireturn, 1) := by decide +kernel
theorem dX6_repair_0 : decode cX6_repair 0 = .ok (.aload_n 0, 1) := by decide +kernel
theorem dX6_repair_1 : decode cX6_repair 1 = .ok (.iload_n 1, 1) := by decide +kernel
theorem dX6_repair_2 : decode cX6_repair 2 = .ok (.invokevirtual 79, 3) := by decide +kernel
theorem dX6_repair_5 : decode cX6_repair 5 = .ok (.ifCond .ne 6, 3) := by decide +kernel
theorem dX6_repair_8 : decode cX6_repair 8 = .ok (.ldc 73, 2) := by decide +kernel
theorem dX6_repair_10 : decode cX6_repair 10 = .ok (.ireturn, 1) := by decide +kernel
theorem dX6_repair_11 : decode cX6_repair 11 = .ok (.aload_n 0, 1) := by decide +kernel
theorem dX6_repair_12 : decode cX6_repair 12 = .ok (.getfield 7, 3) := by decide +kernel
theorem dX6_repair_15 : decode cX6_repair 15 = .ok (.iconst 0, 1) := by decide +kernel
theorem dX6_repair_16 : decode cX6_repair 16 = .ok (.iload_n 1, 1) := by decide +kernel
theorem dX6_repair_17 : decode cX6_repair 17 = .ok (.invokestatic 32, 3) := by decide +kernel
theorem dX6_repair_20 : decode cX6_repair 20 = .ok (.iconst 3, 1) := by decide +kernel
theorem dX6_repair_21 : decode cX6_repair 21 = .ok (.iadd, 1) := by decide +kernel
theorem dX6_repair_22 : decode cX6_repair 22 = .ok (.iaload, 1) := by decide +kernel
theorem dX6_repair_23 : decode cX6_repair 23 = .ok (.ifCond .le 6, 3) := by decide +kernel
theorem dX6_repair_26 : decode cX6_repair 26 = .ok (.ldc 86, 2) := by decide +kernel
theorem dX6_repair_28 : decode cX6_repair 28 = .ok (.ireturn, 1) := by decide +kernel
theorem dX6_repair_29 : decode cX6_repair 29 = .ok (.aload_n 0, 1) := by decide +kernel
theorem dX6_repair_30 : decode cX6_repair 30 = .ok (.invokevirtual 76, 3) := by decide +kernel
theorem dX6_repair_33 : decode cX6_repair 33 = .ok (.aload_n 0, 1) := by decide +kernel
theorem dX6_repair_34 : decode cX6_repair 34 = .ok (.getfield 7, 3) := by decide +kernel
theorem dX6_repair_37 : decode cX6_repair 37 = .ok (.iconst 0, 1) := by decide +kernel
theorem dX6_repair_38 : decode cX6_repair 38 = .ok (.iload_n 1, 1) := by decide +kernel
theorem dX6_repair_39 : decode cX6_repair 39 = .ok (.invokestatic 32, 3) := by decide +kernel
theorem dX6_repair_42 : decode cX6_repair 42 = .ok (.iconst 3, 1) := by decide +kernel
theorem dX6_repair_43 : decode cX6_repair 43 = .ok (.iadd, 1) := by decide +kernel
theorem dX6_repair_44 : decode cX6_repair 44 = .ok (.aload_n 0, 1) := by decide +kernel
theorem dX6_repair_45 : decode cX6_repair 45 = .ok (.getfield 7, 3) := by decide +kernel
theorem dX6_repair_48 : decode cX6_repair 48 = .ok (.iconst 1, 1) := by decide +kernel
theorem dX6_repair_49 : decode cX6_repair 49 = .ok (.iaload, 1) := by decide +kernel
theorem dX6_repair_50 : decode cX6_repair 50 = .ok (.iastore, 1) := by decide +kernel
theorem dX6_repair_51 : decode cX6_repair 51 = .ok (.aload_n 0, 1) := by decide +kernel
theorem dX6_repair_52 : decode cX6_repair 52 = .ok (.getfield 7, 3) := by decide +kernel
theorem dX6_repair_55 : decode cX6_repair 55 = .ok (.iconst 2, 1) := by decide +kernel
theorem dX6_repair_56 : decode cX6_repair 56 = .ok (.iaload, 1) := by decide +kernel
theorem dX6_repair_57 : decode cX6_repair 57 = .ok (.aload_n 0, 1) := by decide +kernel
theorem dX6_repair_58 : decode cX6_repair 58 = .ok (.getfield 7, 3) := by decide +kernel
theorem dX6_repair_61 : decode cX6_repair 61 = .ok (.iconst 1, 1) := by decide +kernel
theorem dX6_repair_62 : decode cX6_repair 62 = .ok (.iaload, 1) := by decide +kernel
theorem dX6_repair_63 : decode cX6_repair 63 = .ok (.iadd, 1) := by decide +kernel
theorem dX6_repair_64 : decode cX6_repair 64 = .ok (.ireturn, 1) := by decide +kernel
theorem dX6_hoursPass_0 : decode cX6_hoursPass 0 = .ok (.iconst 0, 1) := by decide +kernel
theorem dX6_hoursPass_1 : decode cX6_hoursPass 1 = .ok (.istore_n 2, 1) := by decide +kernel
theorem dX6_hoursPass_2 : decode cX6_hoursPass 2 = .ok (.iconst 0, 1) := by decide +kernel
theorem dX6_hoursPass_3 : decode cX6_hoursPass 3 = .ok (.istore_n 3, 1) := by decide +kernel
theorem dX6_hoursPass_4 : decode cX6_hoursPass 4 = .ok (.iload_n 3, 1) := by decide +kernel
theorem dX6_hoursPass_5 : decode cX6_hoursPass 5 = .ok (.iload_n 1, 1) := by decide +kernel
theorem dX6_hoursPass_6 : decode cX6_hoursPass 6 = .ok (.if_icmp .ge 17, 3) := by decide +kernel
theorem dX6_hoursPass_9 : decode cX6_hoursPass 9 = .ok (.iload_n 2, 1) := by decide +kernel
theorem dX6_hoursPass_10 : decode cX6_hoursPass 10 = .ok (.aload_n 0, 1) := by decide +kernel
theorem dX6_hoursPass_11 : decode cX6_hoursPass 11 = .ok (.iconst 0, 1) := by decide +kernel
theorem dX6_hoursPass_12 : decode cX6_hoursPass 12 = .ok (.invokevirtual 69, 3) := by decide +kernel
theorem dX6_hoursPass_15 : decode cX6_hoursPass 15 = .ok (.iadd, 1) := by decide +kernel
theorem dX6_hoursPass_16 : decode cX6_hoursPass 16 = .ok (.istore_n 2, 1) := by decide +kernel
theorem dX6_hoursPass_17 : decode cX6_hoursPass 17 = .ok (.iinc 3 1, 3) := by decide +kernel
theorem dX6_hoursPass_20 : decode cX6_hoursPass 20 = .ok (.goto (-16), 3) := by decide +kernel
theorem dX6_hoursPass_23 : decode cX6_hoursPass 23 = .ok (.iload_n 2, 1) := by decide +kernel
theorem dX6_hoursPass_24 : decode cX6_hoursPass 24 = .ok (.ireturn, 1) := by decide +kernel
theorem dX6_hours_0 : decode cX6_hours 0 = .ok (.iload_n 1, 1) := by decide +kernel
theorem dX6_hours_1 : decode cX6_hours 1 = .ok (.iconst 1, 1) := by decide +kernel
theorem dX6_hours_2 : decode cX6_hours 2 = .ok (.bipush 99, 2) := by decide +kernel
theorem dX6_hours_4 : decode cX6_hours 4 = .ok (.invokestatic 28, 3) := by decide +kernel
theorem dX6_hours_7 : decode cX6_hours 7 = .ok (.ifCond .ne 6, 3) := by decide +kernel
theorem dX6_hours_10 : decode cX6_hours 10 = .ok (.ldc 74, 2) := by decide +kernel
theorem dX6_hours_12 : decode cX6_hours 12 = .ok (.ireturn, 1) := by decide +kernel
theorem dX6_hours_13 : decode cX6_hours 13 = .ok (.aload_n 0, 1) := by decide +kernel
theorem dX6_hours_14 : decode cX6_hours 14 = .ok (.invokevirtual 76, 3) := by decide +kernel
theorem dX6_hours_17 : decode cX6_hours 17 = .ok (.aload_n 0, 1) := by decide +kernel
theorem dX6_hours_18 : decode cX6_hours 18 = .ok (.iload_n 1, 1) := by decide +kernel
theorem dX6_hours_19 : decode cX6_hours 19 = .ok (.invokevirtual 103, 3) := by decide +kernel
theorem dX6_hours_22 : decode cX6_hours 22 = .ok (.ireturn, 1) := by decide +kernel
theorem dX6_close_0 : decode cX6_close 0 = .ok (.iload_n 1, 1) := by decide +kernel
theorem dX6_close_1 : decode cX6_close 1 = .ok (.iconst 1, 1) := by decide +kernel
theorem dX6_close_2 : decode cX6_close 2 = .ok (.bipush 99, 2) := by decide +kernel
theorem dX6_close_4 : decode cX6_close 4 = .ok (.invokestatic 28, 3) := by decide +kernel
theorem dX6_close_7 : decode cX6_close 7 = .ok (.ifCond .ne 6, 3) := by decide +kernel
theorem dX6_close_10 : decode cX6_close 10 = .ok (.ldc 74, 2) := by decide +kernel
theorem dX6_close_12 : decode cX6_close 12 = .ok (.ireturn, 1) := by decide +kernel
theorem dX6_close_13 : decode cX6_close 13 = .ok (.aload_n 0, 1) := by decide +kernel
theorem dX6_close_14 : decode cX6_close 14 = .ok (.invokevirtual 76, 3) := by decide +kernel
theorem dX6_close_17 : decode cX6_close 17 = .ok (.iconst 1, 1) := by decide +kernel
theorem dX6_close_18 : decode cX6_close 18 = .ok (.istore_n 2, 1) := by decide +kernel
theorem dX6_close_19 : decode cX6_close 19 = .ok (.iconst 0, 1) := by decide +kernel
theorem dX6_close_20 : decode cX6_close 20 = .ok (.istore_n 3, 1) := by decide +kernel
theorem dX6_close_21 : decode cX6_close 21 = .ok (.iload_n 3, 1) := by decide +kernel
theorem dX6_close_22 : decode cX6_close 22 = .ok (.iload_n 1, 1) := by decide +kernel
theorem dX6_close_23 : decode cX6_close 23 = .ok (.if_icmp .ge 19, 3) := by decide +kernel
theorem dX6_close_26 : decode cX6_close 26 = .ok (.iload_n 2, 1) := by decide +kernel
theorem dX6_close_27 : decode cX6_close 27 = .ok (.ifCond .le 15, 3) := by decide +kernel
theorem dX6_close_30 : decode cX6_close 30 = .ok (.aload_n 0, 1) := by decide +kernel
theorem dX6_close_31 : decode cX6_close 31 = .ok (.iconst 0, 1) := by decide +kernel
theorem dX6_close_32 : decode cX6_close 32 = .ok (.invokevirtual 106, 3) := by decide +kernel
theorem dX6_close_35 : decode cX6_close 35 = .ok (.istore_n 2, 1) := by decide +kernel
theorem dX6_close_36 : decode cX6_close 36 = .ok (.iinc 3 1, 3) := by decide +kernel
theorem dX6_close_39 : decode cX6_close 39 = .ok (.goto (-18), 3) := by decide +kernel
theorem dX6_close_42 : decode cX6_close 42 = .ok (.aload_n 0, 1) := by decide +kernel
theorem dX6_close_43 : decode cX6_close 43 = .ok (.iconst 0, 1) := by decide +kernel
theorem dX6_close_44 : decode cX6_close 44 = .ok (.invokevirtual 109, 3) := by decide +kernel
theorem dX6_close_47 : decode cX6_close 47 = .ok (.ireturn, 1) := by decide +kernel
theorem dX6_set_0 : decode cX6_set 0 = .ok (.iload_n 1, 1) := by decide +kernel
theorem dX6_set_1 : decode cX6_set 1 = .ok (.iconst 0, 1) := by decide +kernel
theorem dX6_set_2 : decode cX6_set 2 = .ok (.iconst 1, 1) := by decide +kernel
theorem dX6_set_3 : decode cX6_set 3 = .ok (.invokestatic 28, 3) := by decide +kernel
theorem dX6_set_6 : decode cX6_set 6 = .ok (.ifCond .ne 6, 3) := by decide +kernel
theorem dX6_set_9 : decode cX6_set 9 = .ok (.ldc 73, 2) := by decide +kernel
theorem dX6_set_11 : decode cX6_set 11 = .ok (.ireturn, 1) := by decide +kernel
theorem dX6_set_12 : decode cX6_set 12 = .ok (.iload_n 2, 1) := by decide +kernel
theorem dX6_set_13 : decode cX6_set 13 = .ok (.iconst 1, 1) := by decide +kernel
theorem dX6_set_14 : decode cX6_set 14 = .ok (.iload_n 1, 1) := by decide +kernel
theorem dX6_set_15 : decode cX6_set 15 = .ok (.ifCond .ne 8, 3) := by decide +kernel
theorem dX6_set_18 : decode cX6_set 18 = .ok (.bipush 99, 2) := by decide +kernel
theorem dX6_set_20 : decode cX6_set 20 = .ok (.goto 5, 3) := by decide +kernel
theorem dX6_set_23 : decode cX6_set 23 = .ok (.bipush 48, 2) := by decide +kernel
theorem dX6_set_25 : decode cX6_set 25 = .ok (.invokestatic 28, 3) := by decide +kernel
theorem dX6_set_28 : decode cX6_set 28 = .ok (.ifCond .ne 6, 3) := by decide +kernel
theorem dX6_set_31 : decode cX6_set 31 = .ok (.ldc 74, 2) := by decide +kernel
theorem dX6_set_33 : decode cX6_set 33 = .ok (.ireturn, 1) := by decide +kernel
theorem dX6_set_34 : decode cX6_set 34 = .ok (.aload_n 0, 1) := by decide +kernel
theorem dX6_set_35 : decode cX6_set 35 = .ok (.invokevirtual 76, 3) := by decide +kernel
theorem dX6_set_38 : decode cX6_set 38 = .ok (.aload_n 0, 1) := by decide +kernel
theorem dX6_set_39 : decode cX6_set 39 = .ok (.getfield 7, 3) := by decide +kernel
theorem dX6_set_42 : decode cX6_set 42 = .ok (.iload_n 1, 1) := by decide +kernel
theorem dX6_set_43 : decode cX6_set 43 = .ok (.iaload, 1) := by decide +kernel
theorem dX6_set_44 : decode cX6_set 44 = .ok (.istore_n 3, 1) := by decide +kernel
theorem dX6_set_45 : decode cX6_set 45 = .ok (.aload_n 0, 1) := by decide +kernel
theorem dX6_set_46 : decode cX6_set 46 = .ok (.getfield 7, 3) := by decide +kernel
theorem dX6_set_49 : decode cX6_set 49 = .ok (.iload_n 1, 1) := by decide +kernel
theorem dX6_set_50 : decode cX6_set 50 = .ok (.iload_n 2, 1) := by decide +kernel
theorem dX6_set_51 : decode cX6_set 51 = .ok (.iastore, 1) := by decide +kernel
theorem dX6_set_52 : decode cX6_set 52 = .ok (.iload_n 3, 1) := by decide +kernel
theorem dX6_set_53 : decode cX6_set 53 = .ok (.ireturn, 1) := by decide +kernel
theorem dX6_append_0 : decode cX6_append 0 = .ok (.iload_n 1, 1) := by decide +kernel
theorem dX6_append_1 : decode cX6_append 1 = .ok (.bipush 32, 2) := by decide +kernel
theorem dX6_append_3 : decode cX6_append 3 = .ok (.bipush 126, 2) := by decide +kernel
theorem dX6_append_5 : decode cX6_append 5 = .ok (.invokestatic 28, 3) := by decide +kernel
theorem dX6_append_8 : decode cX6_append 8 = .ok (.ifCond .ne 6, 3) := by decide +kernel
theorem dX6_append_11 : decode cX6_append 11 = .ok (.ldc 74, 2) := by decide +kernel
theorem dX6_append_13 : decode cX6_append 13 = .ok (.ireturn, 1) := by decide +kernel
theorem dX6_append_14 : decode cX6_append 14 = .ok (.aload_n 0, 1) := by decide +kernel
theorem dX6_append_15 : decode cX6_append 15 = .ok (.getfield 112, 3) := by decide +kernel
theorem dX6_append_18 : decode cX6_append 18 = .ok (.bipush 60, 2) := by decide +kernel
theorem dX6_append_20 : decode cX6_append 20 = .ok (.if_icmp .ne 6, 3) := by decide +kernel
theorem dX6_append_23 : decode cX6_append 23 = .ok (.ldc 75, 2) := by decide +kernel
theorem dX6_append_25 : decode cX6_append 25 = .ok (.ireturn, 1) := by decide +kernel
theorem dX6_append_26 : decode cX6_append 26 = .ok (.aload_n 0, 1) := by decide +kernel
theorem dX6_append_27 : decode cX6_append 27 = .ok (.getfield 13, 3) := by decide +kernel
theorem dX6_append_30 : decode cX6_append 30 = .ok (.aload_n 0, 1) := by decide +kernel
theorem dX6_append_31 : decode cX6_append 31 = .ok (.getfield 112, 3) := by decide +kernel
theorem dX6_append_34 : decode cX6_append 34 = .ok (.iload_n 1, 1) := by decide +kernel
theorem dX6_append_35 : decode cX6_append 35 = .ok (.i2c, 1) := by decide +kernel
theorem dX6_append_36 : decode cX6_append 36 = .ok (.castore, 1) := by decide +kernel
theorem dX6_append_37 : decode cX6_append 37 = .ok (.aload_n 0, 1) := by decide +kernel
theorem dX6_append_38 : decode cX6_append 38 = .ok (.dup, 1) := by decide +kernel
theorem dX6_append_39 : decode cX6_append 39 = .ok (.getfield 112, 3) := by decide +kernel
theorem dX6_append_42 : decode cX6_append 42 = .ok (.iconst 1, 1) := by decide +kernel
theorem dX6_append_43 : decode cX6_append 43 = .ok (.iadd, 1) := by decide +kernel
theorem dX6_append_44 : decode cX6_append 44 = .ok (.putfield 112, 3) := by decide +kernel
theorem dX6_append_47 : decode cX6_append 47 = .ok (.aload_n 0, 1) := by decide +kernel
theorem dX6_append_48 : decode cX6_append 48 = .ok (.getfield 112, 3) := by decide +kernel
theorem dX6_append_51 : decode cX6_append 51 = .ok (.ireturn, 1) := by decide +kernel
theorem dX6_clearText_0 : decode cX6_clearText 0 = .ok (.aload_n 0, 1) := by decide +kernel
theorem dX6_clearText_1 : decode cX6_clearText 1 = .ok (.getfield 112, 3) := by decide +kernel
theorem dX6_clearText_4 : decode cX6_clearText 4 = .ok (.istore_n 1, 1) := by decide +kernel
theorem dX6_clearText_5 : decode cX6_clearText 5 = .ok (.aload_n 0, 1) := by decide +kernel
theorem dX6_clearText_6 : decode cX6_clearText 6 = .ok (.iconst 0, 1) := by decide +kernel
theorem dX6_clearText_7 : decode cX6_clearText 7 = .ok (.putfield 112, 3) := by decide +kernel
theorem dX6_clearText_10 : decode cX6_clearText 10 = .ok (.iload_n 1, 1) := by decide +kernel
theorem dX6_clearText_11 : decode cX6_clearText 11 = .ok (.ireturn, 1) := by decide +kernel
theorem dX6_isNow_0 : decode cX6_isNow 0 = .ok (.aload_n 0, 1) := by decide +kernel
theorem dX6_isNow_1 : decode cX6_isNow 1 = .ok (.getfield 115, 3) := by decide +kernel
theorem dX6_isNow_4 : decode cX6_isNow 4 = .ok (.ifCond .ne 35, 3) := by decide +kernel
theorem dX6_isNow_7 : decode cX6_isNow 7 = .ok (.aload_n 0, 1) := by decide +kernel
theorem dX6_isNow_8 : decode cX6_isNow 8 = .ok (.getfield 119, 3) := by decide +kernel
theorem dX6_isNow_11 : decode cX6_isNow 11 = .ok (.aload_n 0, 1) := by decide +kernel
theorem dX6_isNow_12 : decode cX6_isNow 12 = .ok (.getfield 112, 3) := by decide +kernel
theorem dX6_isNow_15 : decode cX6_isNow 15 = .ok (.if_icmp .ge 24, 3) := by decide +kernel
theorem dX6_isNow_18 : decode cX6_isNow 18 = .ok (.aload_n 0, 1) := by decide +kernel
theorem dX6_isNow_19 : decode cX6_isNow 19 = .ok (.getfield 13, 3) := by decide +kernel
theorem dX6_isNow_22 : decode cX6_isNow 22 = .ok (.aload_n 0, 1) := by decide +kernel
theorem dX6_isNow_23 : decode cX6_isNow 23 = .ok (.getfield 119, 3) := by decide +kernel
theorem dX6_isNow_26 : decode cX6_isNow 26 = .ok (.caload, 1) := by decide +kernel
theorem dX6_isNow_27 : decode cX6_isNow 27 = .ok (.iload_n 1, 1) := by decide +kernel
theorem dX6_isNow_28 : decode cX6_isNow 28 = .ok (.iload_n 2, 1) := by decide +kernel
theorem dX6_isNow_29 : decode cX6_isNow 29 = .ok (.invokestatic 28, 3) := by decide +kernel
theorem dX6_isNow_32 : decode cX6_isNow 32 = .ok (.ifCond .eq 7, 3) := by decide +kernel
theorem dX6_isNow_35 : decode cX6_isNow 35 = .ok (.iconst 1, 1) := by decide +kernel
theorem dX6_isNow_36 : decode cX6_isNow 36 = .ok (.goto 4, 3) := by decide +kernel
theorem dX6_isNow_39 : decode cX6_isNow 39 = .ok (.iconst 0, 1) := by decide +kernel
theorem dX6_isNow_40 : decode cX6_isNow 40 = .ok (.ireturn, 1) := by decide +kernel
theorem dX6_readsNumber_0 : decode cX6_readsNumber 0 = .ok (.aload_n 0, 1) := by decide +kernel
theorem dX6_readsNumber_1 : decode cX6_readsNumber 1 = .ok (.aload_n 0, 1) := by decide +kernel
theorem dX6_readsNumber_2 : decode cX6_readsNumber 2 = .ok (.getfield 115, 3) := by decide +kernel
theorem dX6_readsNumber_5 : decode cX6_readsNumber 5 = .ok (.ifCond .ne 14, 3) := by decide +kernel
theorem dX6_readsNumber_8 : decode cX6_readsNumber 8 = .ok (.aload_n 0, 1) := by decide +kernel
theorem dX6_readsNumber_9 : decode cX6_readsNumber 9 = .ok (.bipush 49, 2) := by decide +kernel
theorem dX6_readsNumber_11 : decode cX6_readsNumber 11 = .ok (.bipush 57, 2) := by decide +kernel
theorem dX6_readsNumber_13 : decode cX6_readsNumber 13 = .ok (.invokevirtual 122, 3) := by decide +kernel
theorem dX6_readsNumber_16 : decode cX6_readsNumber 16 = .ok (.ifCond .ne 7, 3) := by decide +kernel
theorem dX6_readsNumber_19 : decode cX6_readsNumber 19 = .ok (.iconst 1, 1) := by decide +kernel
theorem dX6_readsNumber_20 : decode cX6_readsNumber 20 = .ok (.goto 4, 3) := by decide +kernel
theorem dX6_readsNumber_23 : decode cX6_readsNumber 23 = .ok (.iconst 0, 1) := by decide +kernel
theorem dX6_readsNumber_24 : decode cX6_readsNumber 24 = .ok (.putfield 115, 3) := by decide +kernel
theorem dX6_readsNumber_27 : decode cX6_readsNumber 27 = .ok (.aload_n 0, 1) := by decide +kernel
theorem dX6_readsNumber_28 : decode cX6_readsNumber 28 = .ok (.iconst 0, 1) := by decide +kernel
theorem dX6_readsNumber_29 : decode cX6_readsNumber 29 = .ok (.putfield 126, 3) := by decide +kernel
theorem dX6_readsNumber_32 : decode cX6_readsNumber 32 = .ok (.aload_n 0, 1) := by decide +kernel
theorem dX6_readsNumber_33 : decode cX6_readsNumber 33 = .ok (.getfield 115, 3) := by decide +kernel
theorem dX6_readsNumber_36 : decode cX6_readsNumber 36 = .ok (.ifCond .ne 74, 3) := by decide +kernel
theorem dX6_readsNumber_39 : decode cX6_readsNumber 39 = .ok (.aload_n 0, 1) := by decide +kernel
theorem dX6_readsNumber_40 : decode cX6_readsNumber 40 = .ok (.aload_n 0, 1) := by decide +kernel
theorem dX6_readsNumber_41 : decode cX6_readsNumber 41 = .ok (.getfield 13, 3) := by decide +kernel
theorem dX6_readsNumber_44 : decode cX6_readsNumber 44 = .ok (.aload_n 0, 1) := by decide +kernel
theorem dX6_readsNumber_45 : decode cX6_readsNumber 45 = .ok (.getfield 119, 3) := by decide +kernel
theorem dX6_readsNumber_48 : decode cX6_readsNumber 48 = .ok (.caload, 1) := by decide +kernel
theorem dX6_readsNumber_49 : decode cX6_readsNumber 49 = .ok (.bipush 48, 2) := by decide +kernel
theorem dX6_readsNumber_51 : decode cX6_readsNumber 51 = .ok (.isub, 1) := by decide +kernel
theorem dX6_readsNumber_52 : decode cX6_readsNumber 52 = .ok (.putfield 126, 3) := by decide +kernel
theorem dX6_readsNumber_55 : decode cX6_readsNumber 55 = .ok (.aload_n 0, 1) := by decide +kernel
theorem dX6_readsNumber_56 : decode cX6_readsNumber 56 = .ok (.dup, 1) := by decide +kernel
theorem dX6_readsNumber_57 : decode cX6_readsNumber 57 = .ok (.getfield 119, 3) := by decide +kernel
theorem dX6_readsNumber_60 : decode cX6_readsNumber 60 = .ok (.iconst 1, 1) := by decide +kernel
theorem dX6_readsNumber_61 : decode cX6_readsNumber 61 = .ok (.iadd, 1) := by decide +kernel
theorem dX6_readsNumber_62 : decode cX6_readsNumber 62 = .ok (.putfield 119, 3) := by decide +kernel
theorem dX6_readsNumber_65 : decode cX6_readsNumber 65 = .ok (.aload_n 0, 1) := by decide +kernel
theorem dX6_readsNumber_66 : decode cX6_readsNumber 66 = .ok (.bipush 48, 2) := by decide +kernel
theorem dX6_readsNumber_68 : decode cX6_readsNumber 68 = .ok (.bipush 57, 2) := by decide +kernel
theorem dX6_readsNumber_70 : decode cX6_readsNumber 70 = .ok (.invokevirtual 122, 3) := by decide +kernel
theorem dX6_readsNumber_73 : decode cX6_readsNumber 73 = .ok (.ifCond .eq 37, 3) := by decide +kernel
theorem dX6_readsNumber_76 : decode cX6_readsNumber 76 = .ok (.aload_n 0, 1) := by decide +kernel
theorem dX6_readsNumber_77 : decode cX6_readsNumber 77 = .ok (.bipush 10, 2) := by decide +kernel
theorem dX6_readsNumber_79 : decode cX6_readsNumber 79 = .ok (.aload_n 0, 1) := by decide +kernel
theorem dX6_readsNumber_80 : decode cX6_readsNumber 80 = .ok (.getfield 126, 3) := by decide +kernel
theorem dX6_readsNumber_83 : decode cX6_readsNumber 83 = .ok (.imul, 1) := by decide +kernel
theorem dX6_readsNumber_84 : decode cX6_readsNumber 84 = .ok (.aload_n 0, 1) := by decide +kernel
theorem dX6_readsNumber_85 : decode cX6_readsNumber 85 = .ok (.getfield 13, 3) := by decide +kernel
theorem dX6_readsNumber_88 : decode cX6_readsNumber 88 = .ok (.aload_n 0, 1) := by decide +kernel
theorem dX6_readsNumber_89 : decode cX6_readsNumber 89 = .ok (.getfield 119, 3) := by decide +kernel
theorem dX6_readsNumber_92 : decode cX6_readsNumber 92 = .ok (.caload, 1) := by decide +kernel
theorem dX6_readsNumber_93 : decode cX6_readsNumber 93 = .ok (.iadd, 1) := by decide +kernel
theorem dX6_readsNumber_94 : decode cX6_readsNumber 94 = .ok (.bipush 48, 2) := by decide +kernel
theorem dX6_readsNumber_96 : decode cX6_readsNumber 96 = .ok (.isub, 1) := by decide +kernel
theorem dX6_readsNumber_97 : decode cX6_readsNumber 97 = .ok (.putfield 126, 3) := by decide +kernel
theorem dX6_readsNumber_100 : decode cX6_readsNumber 100 = .ok (.aload_n 0, 1) := by decide +kernel
theorem dX6_readsNumber_101 : decode cX6_readsNumber 101 = .ok (.dup, 1) := by decide +kernel
theorem dX6_readsNumber_102 : decode cX6_readsNumber 102 = .ok (.getfield 119, 3) := by decide +kernel
theorem dX6_readsNumber_105 : decode cX6_readsNumber 105 = .ok (.iconst 1, 1) := by decide +kernel
theorem dX6_readsNumber_106 : decode cX6_readsNumber 106 = .ok (.iadd, 1) := by decide +kernel
theorem dX6_readsNumber_107 : decode cX6_readsNumber 107 = .ok (.putfield 119, 3) := by decide +kernel
theorem dX6_readsNumber_110 : decode cX6_readsNumber 110 = .ok (.return_, 1) := by decide +kernel
theorem dX6_readsOrder_0 : decode cX6_readsOrder 0 = .ok (.aload_n 0, 1) := by decide +kernel
theorem dX6_readsOrder_1 : decode cX6_readsOrder 1 = .ok (.bipush 32, 2) := by decide +kernel
theorem dX6_readsOrder_3 : decode cX6_readsOrder 3 = .ok (.putfield 129, 3) := by decide +kernel
theorem dX6_readsOrder_6 : decode cX6_readsOrder 6 = .ok (.aload_n 0, 1) := by decide +kernel
theorem dX6_readsOrder_7 : decode cX6_readsOrder 7 = .ok (.bipush 104, 2) := by decide +kernel
theorem dX6_readsOrder_9 : decode cX6_readsOrder 9 = .ok (.bipush 104, 2) := by decide +kernel
theorem dX6_readsOrder_11 : decode cX6_readsOrder 11 = .ok (.invokevirtual 122, 3) := by decide +kernel
theorem dX6_readsOrder_14 : decode cX6_readsOrder 14 = .ok (.ifCond .eq 26, 3) := by decide +kernel
theorem dX6_readsOrder_17 : decode cX6_readsOrder 17 = .ok (.aload_n 0, 1) := by decide +kernel
theorem dX6_readsOrder_18 : decode cX6_readsOrder 18 = .ok (.bipush 104, 2) := by decide +kernel
theorem dX6_readsOrder_20 : decode cX6_readsOrder 20 = .ok (.putfield 129, 3) := by decide +kernel
theorem dX6_readsOrder_23 : decode cX6_readsOrder 23 = .ok (.aload_n 0, 1) := by decide +kernel
theorem dX6_readsOrder_24 : decode cX6_readsOrder 24 = .ok (.dup, 1) := by decide +kernel
theorem dX6_readsOrder_25 : decode cX6_readsOrder 25 = .ok (.getfield 119, 3) := by decide +kernel
theorem dX6_readsOrder_28 : decode cX6_readsOrder 28 = .ok (.iconst 1, 1) := by decide +kernel
theorem dX6_readsOrder_29 : decode cX6_readsOrder 29 = .ok (.iadd, 1) := by decide +kernel
theorem dX6_readsOrder_30 : decode cX6_readsOrder 30 = .ok (.putfield 119, 3) := by decide +kernel
theorem dX6_readsOrder_33 : decode cX6_readsOrder 33 = .ok (.aload_n 0, 1) := by decide +kernel
theorem dX6_readsOrder_34 : decode cX6_readsOrder 34 = .ok (.invokevirtual 133, 3) := by decide +kernel
theorem dX6_readsOrder_37 : decode cX6_readsOrder 37 = .ok (.goto 172, 3) := by decide +kernel
theorem dX6_readsOrder_40 : decode cX6_readsOrder 40 = .ok (.aload_n 0, 1) := by decide +kernel
theorem dX6_readsOrder_41 : decode cX6_readsOrder 41 = .ok (.bipush 65, 2) := by decide +kernel
theorem dX6_readsOrder_43 : decode cX6_readsOrder 43 = .ok (.bipush 76, 2) := by decide +kernel
theorem dX6_readsOrder_45 : decode cX6_readsOrder 45 = .ok (.invokevirtual 122, 3) := by decide +kernel
theorem dX6_readsOrder_48 : decode cX6_readsOrder 48 = .ok (.ifCond .eq 156, 3) := by decide +kernel
theorem dX6_readsOrder_51 : decode cX6_readsOrder 51 = .ok (.aload_n 0, 1) := by decide +kernel
theorem dX6_readsOrder_52 : decode cX6_readsOrder 52 = .ok (.aload_n 0, 1) := by decide +kernel
theorem dX6_readsOrder_53 : decode cX6_readsOrder 53 = .ok (.getfield 13, 3) := by decide +kernel
theorem dX6_readsOrder_56 : decode cX6_readsOrder 56 = .ok (.aload_n 0, 1) := by decide +kernel
theorem dX6_readsOrder_57 : decode cX6_readsOrder 57 = .ok (.getfield 119, 3) := by decide +kernel
theorem dX6_readsOrder_60 : decode cX6_readsOrder 60 = .ok (.caload, 1) := by decide +kernel
theorem dX6_readsOrder_61 : decode cX6_readsOrder 61 = .ok (.bipush 65, 2) := by decide +kernel
theorem dX6_readsOrder_63 : decode cX6_readsOrder 63 = .ok (.isub, 1) := by decide +kernel
theorem dX6_readsOrder_64 : decode cX6_readsOrder 64 = .ok (.putfield 136, 3) := by decide +kernel
theorem dX6_readsOrder_67 : decode cX6_readsOrder 67 = .ok (.aload_n 0, 1) := by decide +kernel
theorem dX6_readsOrder_68 : decode cX6_readsOrder 68 = .ok (.dup, 1) := by decide +kernel
theorem dX6_readsOrder_69 : decode cX6_readsOrder 69 = .ok (.getfield 119, 3) := by decide +kernel
theorem dX6_readsOrder_72 : decode cX6_readsOrder 72 = .ok (.iconst 1, 1) := by decide +kernel
theorem dX6_readsOrder_73 : decode cX6_readsOrder 73 = .ok (.iadd, 1) := by decide +kernel
theorem dX6_readsOrder_74 : decode cX6_readsOrder 74 = .ok (.putfield 119, 3) := by decide +kernel
theorem dX6_readsOrder_77 : decode cX6_readsOrder 77 = .ok (.aload_n 0, 1) := by decide +kernel
theorem dX6_readsOrder_78 : decode cX6_readsOrder 78 = .ok (.bipush 62, 2) := by decide +kernel
theorem dX6_readsOrder_80 : decode cX6_readsOrder 80 = .ok (.bipush 62, 2) := by decide +kernel
theorem dX6_readsOrder_82 : decode cX6_readsOrder 82 = .ok (.invokevirtual 122, 3) := by decide +kernel
theorem dX6_readsOrder_85 : decode cX6_readsOrder 85 = .ok (.ifCond .ne 14, 3) := by decide +kernel
theorem dX6_readsOrder_88 : decode cX6_readsOrder 88 = .ok (.aload_n 0, 1) := by decide +kernel
theorem dX6_readsOrder_89 : decode cX6_readsOrder 89 = .ok (.bipush 60, 2) := by decide +kernel
theorem dX6_readsOrder_91 : decode cX6_readsOrder 91 = .ok (.bipush 60, 2) := by decide +kernel
theorem dX6_readsOrder_93 : decode cX6_readsOrder 93 = .ok (.invokevirtual 122, 3) := by decide +kernel
theorem dX6_readsOrder_96 : decode cX6_readsOrder 96 = .ok (.ifCond .eq 7, 3) := by decide +kernel
theorem dX6_readsOrder_99 : decode cX6_readsOrder 99 = .ok (.iconst 1, 1) := by decide +kernel
theorem dX6_readsOrder_100 : decode cX6_readsOrder 100 = .ok (.goto 4, 3) := by decide +kernel
theorem dX6_readsOrder_103 : decode cX6_readsOrder 103 = .ok (.iconst 0, 1) := by decide +kernel
theorem dX6_readsOrder_104 : decode cX6_readsOrder 104 = .ok (.istore_n 1, 1) := by decide +kernel
theorem dX6_readsOrder_105 : decode cX6_readsOrder 105 = .ok (.aload_n 0, 1) := by decide +kernel
theorem dX6_readsOrder_106 : decode cX6_readsOrder 106 = .ok (.aload_n 0, 1) := by decide +kernel
theorem dX6_readsOrder_107 : decode cX6_readsOrder 107 = .ok (.getfield 115, 3) := by decide +kernel
theorem dX6_readsOrder_110 : decode cX6_readsOrder 110 = .ok (.ifCond .ne 29, 3) := by decide +kernel
theorem dX6_readsOrder_113 : decode cX6_readsOrder 113 = .ok (.iload_n 1, 1) := by decide +kernel
theorem dX6_readsOrder_114 : decode cX6_readsOrder 114 = .ok (.ifCond .ne 29, 3) := by decide +kernel
theorem dX6_readsOrder_117 : decode cX6_readsOrder 117 = .ok (.aload_n 0, 1) := by decide +kernel
theorem dX6_readsOrder_118 : decode cX6_readsOrder 118 = .ok (.bipush 97, 2) := by decide +kernel
theorem dX6_readsOrder_120 : decode cX6_readsOrder 120 = .ok (.bipush 97, 2) := by decide +kernel
theorem dX6_readsOrder_122 : decode cX6_readsOrder 122 = .ok (.invokevirtual 122, 3) := by decide +kernel
theorem dX6_readsOrder_125 : decode cX6_readsOrder 125 = .ok (.ifCond .ne 18, 3) := by decide +kernel
theorem dX6_readsOrder_128 : decode cX6_readsOrder 128 = .ok (.aload_n 0, 1) := by decide +kernel
theorem dX6_readsOrder_129 : decode cX6_readsOrder 129 = .ok (.bipush 114, 2) := by decide +kernel
theorem dX6_readsOrder_131 : decode cX6_readsOrder 131 = .ok (.bipush 114, 2) := by decide +kernel
theorem dX6_readsOrder_133 : decode cX6_readsOrder 133 = .ok (.invokevirtual 122, 3) := by decide +kernel
theorem dX6_readsOrder_136 : decode cX6_readsOrder 136 = .ok (.ifCond .ne 7, 3) := by decide +kernel
theorem dX6_readsOrder_139 : decode cX6_readsOrder 139 = .ok (.iconst 1, 1) := by decide +kernel
theorem dX6_readsOrder_140 : decode cX6_readsOrder 140 = .ok (.goto 4, 3) := by decide +kernel
theorem dX6_readsOrder_143 : decode cX6_readsOrder 143 = .ok (.iconst 0, 1) := by decide +kernel
theorem dX6_readsOrder_144 : decode cX6_readsOrder 144 = .ok (.putfield 115, 3) := by decide +kernel
theorem dX6_readsOrder_147 : decode cX6_readsOrder 147 = .ok (.aload_n 0, 1) := by decide +kernel
theorem dX6_readsOrder_148 : decode cX6_readsOrder 148 = .ok (.aload_n 0, 1) := by decide +kernel
theorem dX6_readsOrder_149 : decode cX6_readsOrder 149 = .ok (.getfield 115, 3) := by decide +kernel
theorem dX6_readsOrder_152 : decode cX6_readsOrder 152 = .ok (.ifCond .eq 8, 3) := by decide +kernel
theorem dX6_readsOrder_155 : decode cX6_readsOrder 155 = .ok (.bipush 32, 2) := by decide +kernel
theorem dX6_readsOrder_157 : decode cX6_readsOrder 157 = .ok (.goto 12, 3) := by decide +kernel
theorem dX6_readsOrder_160 : decode cX6_readsOrder 160 = .ok (.aload_n 0, 1) := by decide +kernel
theorem dX6_readsOrder_161 : decode cX6_readsOrder 161 = .ok (.getfield 13, 3) := by decide +kernel
theorem dX6_readsOrder_164 : decode cX6_readsOrder 164 = .ok (.aload_n 0, 1) := by decide +kernel
theorem dX6_readsOrder_165 : decode cX6_readsOrder 165 = .ok (.getfield 119, 3) := by decide +kernel
theorem dX6_readsOrder_168 : decode cX6_readsOrder 168 = .ok (.caload, 1) := by decide +kernel
theorem dX6_readsOrder_169 : decode cX6_readsOrder 169 = .ok (.putfield 129, 3) := by decide +kernel
theorem dX6_readsOrder_172 : decode cX6_readsOrder 172 = .ok (.aload_n 0, 1) := by decide +kernel
theorem dX6_readsOrder_173 : decode cX6_readsOrder 173 = .ok (.dup, 1) := by decide +kernel
theorem dX6_readsOrder_174 : decode cX6_readsOrder 174 = .ok (.getfield 119, 3) := by decide +kernel
theorem dX6_readsOrder_177 : decode cX6_readsOrder 177 = .ok (.aload_n 0, 1) := by decide +kernel
theorem dX6_readsOrder_178 : decode cX6_readsOrder 178 = .ok (.getfield 115, 3) := by decide +kernel
theorem dX6_readsOrder_181 : decode cX6_readsOrder 181 = .ok (.ifCond .eq 7, 3) := by decide +kernel
theorem dX6_readsOrder_184 : decode cX6_readsOrder 184 = .ok (.iconst 0, 1) := by decide +kernel
theorem dX6_readsOrder_185 : decode cX6_readsOrder 185 = .ok (.goto 4, 3) := by decide +kernel
theorem dX6_readsOrder_188 : decode cX6_readsOrder 188 = .ok (.iconst 1, 1) := by decide +kernel
theorem dX6_readsOrder_189 : decode cX6_readsOrder 189 = .ok (.iadd, 1) := by decide +kernel
theorem dX6_readsOrder_190 : decode cX6_readsOrder 190 = .ok (.putfield 119, 3) := by decide +kernel
theorem dX6_readsOrder_193 : decode cX6_readsOrder 193 = .ok (.iload_n 1, 1) := by decide +kernel
theorem dX6_readsOrder_194 : decode cX6_readsOrder 194 = .ok (.ifCond .eq 7, 3) := by decide +kernel
theorem dX6_readsOrder_197 : decode cX6_readsOrder 197 = .ok (.aload_n 0, 1) := by decide +kernel
theorem dX6_readsOrder_198 : decode cX6_readsOrder 198 = .ok (.invokevirtual 133, 3) := by decide +kernel
theorem dX6_readsOrder_201 : decode cX6_readsOrder 201 = .ok (.goto 8, 3) := by decide +kernel
theorem dX6_readsOrder_204 : decode cX6_readsOrder 204 = .ok (.aload_n 0, 1) := by decide +kernel
theorem dX6_readsOrder_205 : decode cX6_readsOrder 205 = .ok (.iconst 1, 1) := by decide +kernel
theorem dX6_readsOrder_206 : decode cX6_readsOrder 206 = .ok (.putfield 115, 3) := by decide +kernel
theorem dX6_readsOrder_209 : decode cX6_readsOrder 209 = .ok (.return_, 1) := by decide +kernel
theorem dX6_faultOf_0 : decode cX6_faultOf 0 = .ok (.aload_n 0, 1) := by decide +kernel
theorem dX6_faultOf_1 : decode cX6_faultOf 1 = .ok (.iconst 0, 1) := by decide +kernel
theorem dX6_faultOf_2 : decode cX6_faultOf 2 = .ok (.putfield 119, 3) := by decide +kernel
theorem dX6_faultOf_5 : decode cX6_faultOf 5 = .ok (.aload_n 0, 1) := by decide +kernel
theorem dX6_faultOf_6 : decode cX6_faultOf 6 = .ok (.iconst 0, 1) := by decide +kernel
theorem dX6_faultOf_7 : decode cX6_faultOf 7 = .ok (.putfield 115, 3) := by decide +kernel
theorem dX6_faultOf_10 : decode cX6_faultOf 10 = .ok (.iconst 1, 1) := by decide +kernel
theorem dX6_faultOf_11 : decode cX6_faultOf 11 = .ok (.istore_n 1, 1) := by decide +kernel
theorem dX6_faultOf_12 : decode cX6_faultOf 12 = .ok (.iload_n 1, 1) := by decide +kernel
theorem dX6_faultOf_13 : decode cX6_faultOf 13 = .ok (.ifCond .eq 37, 3) := by decide +kernel
theorem dX6_faultOf_16 : decode cX6_faultOf 16 = .ok (.aload_n 0, 1) := by decide +kernel
theorem dX6_faultOf_17 : decode cX6_faultOf 17 = .ok (.invokevirtual 139, 3) := by decide +kernel
theorem dX6_faultOf_20 : decode cX6_faultOf 20 = .ok (.aload_n 0, 1) := by decide +kernel
theorem dX6_faultOf_21 : decode cX6_faultOf 21 = .ok (.bipush 44, 2) := by decide +kernel
theorem dX6_faultOf_23 : decode cX6_faultOf 23 = .ok (.bipush 44, 2) := by decide +kernel
theorem dX6_faultOf_25 : decode cX6_faultOf 25 = .ok (.invokevirtual 122, 3) := by decide +kernel
theorem dX6_faultOf_28 : decode cX6_faultOf 28 = .ok (.istore_n 1, 1) := by decide +kernel
theorem dX6_faultOf_29 : decode cX6_faultOf 29 = .ok (.aload_n 0, 1) := by decide +kernel
theorem dX6_faultOf_30 : decode cX6_faultOf 30 = .ok (.dup, 1) := by decide +kernel
theorem dX6_faultOf_31 : decode cX6_faultOf 31 = .ok (.getfield 119, 3) := by decide +kernel
theorem dX6_faultOf_34 : decode cX6_faultOf 34 = .ok (.iload_n 1, 1) := by decide +kernel
theorem dX6_faultOf_35 : decode cX6_faultOf 35 = .ok (.ifCond .eq 7, 3) := by decide +kernel
theorem dX6_faultOf_38 : decode cX6_faultOf 38 = .ok (.iconst 1, 1) := by decide +kernel
theorem dX6_faultOf_39 : decode cX6_faultOf 39 = .ok (.goto 4, 3) := by decide +kernel
theorem dX6_faultOf_42 : decode cX6_faultOf 42 = .ok (.iconst 0, 1) := by decide +kernel
theorem dX6_faultOf_43 : decode cX6_faultOf 43 = .ok (.iadd, 1) := by decide +kernel
theorem dX6_faultOf_44 : decode cX6_faultOf 44 = .ok (.putfield 119, 3) := by decide +kernel
theorem dX6_faultOf_47 : decode cX6_faultOf 47 = .ok (.goto (-35), 3) := by decide +kernel
theorem dX6_faultOf_50 : decode cX6_faultOf 50 = .ok (.aload_n 0, 1) := by decide +kernel
theorem dX6_faultOf_51 : decode cX6_faultOf 51 = .ok (.getfield 115, 3) := by decide +kernel
theorem dX6_faultOf_54 : decode cX6_faultOf 54 = .ok (.ifCond .ne 14, 3) := by decide +kernel
theorem dX6_faultOf_57 : decode cX6_faultOf 57 = .ok (.aload_n 0, 1) := by decide +kernel
theorem dX6_faultOf_58 : decode cX6_faultOf 58 = .ok (.getfield 119, 3) := by decide +kernel
theorem dX6_faultOf_61 : decode cX6_faultOf 61 = .ok (.aload_n 0, 1) := by decide +kernel
theorem dX6_faultOf_62 : decode cX6_faultOf 62 = .ok (.getfield 112, 3) := by decide +kernel
theorem dX6_faultOf_65 : decode cX6_faultOf 65 = .ok (.if_icmp .ge 10, 3) := by decide +kernel
theorem dX6_faultOf_68 : decode cX6_faultOf 68 = .ok (.aload_n 0, 1) := by decide +kernel
theorem dX6_faultOf_69 : decode cX6_faultOf 69 = .ok (.getfield 119, 3) := by decide +kernel
theorem dX6_faultOf_72 : decode cX6_faultOf 72 = .ok (.goto 5, 3) := by decide +kernel
theorem dX6_faultOf_75 : decode cX6_faultOf 75 = .ok (.ldc 56, 2) := by decide +kernel
theorem dX6_faultOf_77 : decode cX6_faultOf 77 = .ok (.ireturn, 1) := by decide +kernel
theorem dX6_fault_0 : decode cX6_fault 0 = .ok (.aload_n 0, 1) := by decide +kernel
theorem dX6_fault_1 : decode cX6_fault 1 = .ok (.invokevirtual 142, 3) := by decide +kernel
theorem dX6_fault_4 : decode cX6_fault 4 = .ok (.ireturn, 1) := by decide +kernel
theorem dX6_does_0 : decode cX6_does 0 = .ok (.aload_n 0, 1) := by decide +kernel
theorem dX6_does_1 : decode cX6_does 1 = .ok (.getfield 129, 3) := by decide +kernel
theorem dX6_does_4 : decode cX6_does 4 = .ok (.bipush 104, 2) := by decide +kernel
theorem dX6_does_6 : decode cX6_does 6 = .ok (.if_icmp .ne 14, 3) := by decide +kernel
theorem dX6_does_9 : decode cX6_does 9 = .ok (.aload_n 0, 1) := by decide +kernel
theorem dX6_does_10 : decode cX6_does 10 = .ok (.aload_n 0, 1) := by decide +kernel
theorem dX6_does_11 : decode cX6_does 11 = .ok (.getfield 126, 3) := by decide +kernel
theorem dX6_does_14 : decode cX6_does 14 = .ok (.invokevirtual 103, 3) := by decide +kernel
theorem dX6_does_17 : decode cX6_does 17 = .ok (.pop, 1) := by decide +kernel
theorem dX6_does_18 : decode cX6_does 18 = .ok (.iconst 1, 1) := by decide +kernel
theorem dX6_does_19 : decode cX6_does 19 = .ok (.ireturn, 1) := by decide +kernel
theorem dX6_does_20 : decode cX6_does 20 = .ok (.aload_n 0, 1) := by decide +kernel
theorem dX6_does_21 : decode cX6_does 21 = .ok (.aload_n 0, 1) := by decide +kernel
theorem dX6_does_22 : decode cX6_does 22 = .ok (.getfield 136, 3) := by decide +kernel
theorem dX6_does_25 : decode cX6_does 25 = .ok (.invokevirtual 79, 3) := by decide +kernel
theorem dX6_does_28 : decode cX6_does 28 = .ok (.ifCond .ne 5, 3) := by decide +kernel
theorem dX6_does_31 : decode cX6_does 31 = .ok (.iconst 0, 1) := by decide +kernel
theorem dX6_does_32 : decode cX6_does 32 = .ok (.ireturn, 1) := by decide +kernel
theorem dX6_does_33 : decode cX6_does 33 = .ok (.aload_n 0, 1) := by decide +kernel
theorem dX6_does_34 : decode cX6_does 34 = .ok (.getfield 129, 3) := by decide +kernel
theorem dX6_does_37 : decode cX6_does 37 = .ok (.bipush 97, 2) := by decide +kernel
theorem dX6_does_39 : decode cX6_does 39 = .ok (.if_icmp .ne 13, 3) := by decide +kernel
theorem dX6_does_42 : decode cX6_does 42 = .ok (.aload_n 0, 1) := by decide +kernel
theorem dX6_does_43 : decode cX6_does 43 = .ok (.aload_n 0, 1) := by decide +kernel
theorem dX6_does_44 : decode cX6_does 44 = .ok (.getfield 136, 3) := by decide +kernel
theorem dX6_does_47 : decode cX6_does 47 = .ok (.invokevirtual 100, 3) := by decide +kernel
theorem dX6_does_50 : decode cX6_does 50 = .ok (.iconst 1, 1) := by decide +kernel
theorem dX6_does_51 : decode cX6_does 51 = .ok (.ireturn, 1) := by decide +kernel
theorem dX6_does_52 : decode cX6_does 52 = .ok (.aload_n 0, 1) := by decide +kernel
theorem dX6_does_53 : decode cX6_does 53 = .ok (.getfield 129, 3) := by decide +kernel
theorem dX6_does_56 : decode cX6_does 56 = .ok (.bipush 114, 2) := by decide +kernel
theorem dX6_does_58 : decode cX6_does 58 = .ok (.if_icmp .ne 61, 3) := by decide +kernel
theorem dX6_does_61 : decode cX6_does 61 = .ok (.aload_n 0, 1) := by decide +kernel
theorem dX6_does_62 : decode cX6_does 62 = .ok (.getfield 7, 3) := by decide +kernel
theorem dX6_does_65 : decode cX6_does 65 = .ok (.iconst 0, 1) := by decide +kernel
theorem dX6_does_66 : decode cX6_does 66 = .ok (.aload_n 0, 1) := by decide +kernel
theorem dX6_does_67 : decode cX6_does 67 = .ok (.getfield 136, 3) := by decide +kernel
theorem dX6_does_70 : decode cX6_does 70 = .ok (.invokestatic 32, 3) := by decide +kernel
theorem dX6_does_73 : decode cX6_does 73 = .ok (.iconst 3, 1) := by decide +kernel
theorem dX6_does_74 : decode cX6_does 74 = .ok (.iadd, 1) := by decide +kernel
theorem dX6_does_75 : decode cX6_does 75 = .ok (.iaload, 1) := by decide +kernel
theorem dX6_does_76 : decode cX6_does 76 = .ok (.ifCond .ne 7, 3) := by decide +kernel
theorem dX6_does_79 : decode cX6_does 79 = .ok (.iconst 1, 1) := by decide +kernel
theorem dX6_does_80 : decode cX6_does 80 = .ok (.goto 4, 3) := by decide +kernel
theorem dX6_does_83 : decode cX6_does 83 = .ok (.iconst 0, 1) := by decide +kernel
theorem dX6_does_84 : decode cX6_does 84 = .ok (.istore_n 1, 1) := by decide +kernel
theorem dX6_does_85 : decode cX6_does 85 = .ok (.aload_n 0, 1) := by decide +kernel
theorem dX6_does_86 : decode cX6_does 86 = .ok (.getfield 7, 3) := by decide +kernel
theorem dX6_does_89 : decode cX6_does 89 = .ok (.iconst 0, 1) := by decide +kernel
theorem dX6_does_90 : decode cX6_does 90 = .ok (.aload_n 0, 1) := by decide +kernel
theorem dX6_does_91 : decode cX6_does 91 = .ok (.getfield 136, 3) := by decide +kernel
theorem dX6_does_94 : decode cX6_does 94 = .ok (.invokestatic 32, 3) := by decide +kernel
theorem dX6_does_97 : decode cX6_does 97 = .ok (.iconst 3, 1) := by decide +kernel
theorem dX6_does_98 : decode cX6_does 98 = .ok (.iadd, 1) := by decide +kernel
theorem dX6_does_99 : decode cX6_does 99 = .ok (.dup2, 1) := by decide +kernel
theorem dX6_does_100 : decode cX6_does 100 = .ok (.iaload, 1) := by decide +kernel
theorem dX6_does_101 : decode cX6_does 101 = .ok (.iload_n 1, 1) := by decide +kernel
theorem dX6_does_102 : decode cX6_does 102 = .ok (.ifCond .eq 12, 3) := by decide +kernel
theorem dX6_does_105 : decode cX6_does 105 = .ok (.aload_n 0, 1) := by decide +kernel
theorem dX6_does_106 : decode cX6_does 106 = .ok (.getfield 7, 3) := by decide +kernel
theorem dX6_does_109 : decode cX6_does 109 = .ok (.iconst 1, 1) := by decide +kernel
theorem dX6_does_110 : decode cX6_does 110 = .ok (.iaload, 1) := by decide +kernel
theorem dX6_does_111 : decode cX6_does 111 = .ok (.goto 4, 3) := by decide +kernel
theorem dX6_does_114 : decode cX6_does 114 = .ok (.iconst 0, 1) := by decide +kernel
theorem dX6_does_115 : decode cX6_does 115 = .ok (.iadd, 1) := by decide +kernel
theorem dX6_does_116 : decode cX6_does 116 = .ok (.iastore, 1) := by decide +kernel
theorem dX6_does_117 : decode cX6_does 117 = .ok (.iload_n 1, 1) := by decide +kernel
theorem dX6_does_118 : decode cX6_does 118 = .ok (.ireturn, 1) := by decide +kernel
theorem dX6_does_119 : decode cX6_does 119 = .ok (.aload_n 0, 1) := by decide +kernel
theorem dX6_does_120 : decode cX6_does 120 = .ok (.iconst 0, 1) := by decide +kernel
theorem dX6_does_121 : decode cX6_does 121 = .ok (.aload_n 0, 1) := by decide +kernel
theorem dX6_does_122 : decode cX6_does 122 = .ok (.getfield 136, 3) := by decide +kernel
theorem dX6_does_125 : decode cX6_does 125 = .ok (.aload_n 0, 1) := by decide +kernel
theorem dX6_does_126 : decode cX6_does 126 = .ok (.getfield 129, 3) := by decide +kernel
theorem dX6_does_129 : decode cX6_does 129 = .ok (.bipush 62, 2) := by decide +kernel
theorem dX6_does_131 : decode cX6_does 131 = .ok (.if_icmp .ne 7, 3) := by decide +kernel
theorem dX6_does_134 : decode cX6_does 134 = .ok (.iconst 1, 1) := by decide +kernel
theorem dX6_does_135 : decode cX6_does 135 = .ok (.goto 4, 3) := by decide +kernel
theorem dX6_does_138 : decode cX6_does 138 = .ok (.iconst 0, 1) := by decide +kernel
theorem dX6_does_139 : decode cX6_does 139 = .ok (.aload_n 0, 1) := by decide +kernel
theorem dX6_does_140 : decode cX6_does 140 = .ok (.getfield 126, 3) := by decide +kernel
theorem dX6_does_143 : decode cX6_does 143 = .ok (.invokevirtual 90, 3) := by decide +kernel
theorem dX6_does_146 : decode cX6_does 146 = .ok (.ifCond .ne 7, 3) := by decide +kernel
theorem dX6_does_149 : decode cX6_does 149 = .ok (.iconst 1, 1) := by decide +kernel
theorem dX6_does_150 : decode cX6_does 150 = .ok (.goto 4, 3) := by decide +kernel
theorem dX6_does_153 : decode cX6_does 153 = .ok (.iconst 0, 1) := by decide +kernel
theorem dX6_does_154 : decode cX6_does 154 = .ok (.istore_n 1, 1) := by decide +kernel
theorem dX6_does_155 : decode cX6_does 155 = .ok (.iload_n 1, 1) := by decide +kernel
theorem dX6_does_156 : decode cX6_does 156 = .ok (.ifCond .eq 30, 3) := by decide +kernel
theorem dX6_does_159 : decode cX6_does 159 = .ok (.aload_n 0, 1) := by decide +kernel
theorem dX6_does_160 : decode cX6_does 160 = .ok (.iconst 0, 1) := by decide +kernel
theorem dX6_does_161 : decode cX6_does 161 = .ok (.aload_n 0, 1) := by decide +kernel
theorem dX6_does_162 : decode cX6_does 162 = .ok (.getfield 136, 3) := by decide +kernel
theorem dX6_does_165 : decode cX6_does 165 = .ok (.aload_n 0, 1) := by decide +kernel
theorem dX6_does_166 : decode cX6_does 166 = .ok (.getfield 129, 3) := by decide +kernel
theorem dX6_does_169 : decode cX6_does 169 = .ok (.bipush 62, 2) := by decide +kernel
theorem dX6_does_171 : decode cX6_does 171 = .ok (.if_icmp .ne 7, 3) := by decide +kernel
theorem dX6_does_174 : decode cX6_does 174 = .ok (.iconst 1, 1) := by decide +kernel
theorem dX6_does_175 : decode cX6_does 175 = .ok (.goto 4, 3) := by decide +kernel
theorem dX6_does_178 : decode cX6_does 178 = .ok (.iconst 0, 1) := by decide +kernel
theorem dX6_does_179 : decode cX6_does 179 = .ok (.aload_n 0, 1) := by decide +kernel
theorem dX6_does_180 : decode cX6_does 180 = .ok (.getfield 126, 3) := by decide +kernel
theorem dX6_does_183 : decode cX6_does 183 = .ok (.invokevirtual 65, 3) := by decide +kernel
theorem dX6_does_186 : decode cX6_does 186 = .ok (.iload_n 1, 1) := by decide +kernel
theorem dX6_does_187 : decode cX6_does 187 = .ok (.ireturn, 1) := by decide +kernel
theorem dX6_run_0 : decode cX6_run 0 = .ok (.aload_n 0, 1) := by decide +kernel
theorem dX6_run_1 : decode cX6_run 1 = .ok (.invokevirtual 142, 3) := by decide +kernel
theorem dX6_run_4 : decode cX6_run 4 = .ok (.istore_n 1, 1) := by decide +kernel
theorem dX6_run_5 : decode cX6_run 5 = .ok (.iload_n 1, 1) := by decide +kernel
theorem dX6_run_6 : decode cX6_run 6 = .ok (.ldc 56, 2) := by decide +kernel
theorem dX6_run_8 : decode cX6_run 8 = .ok (.if_icmp .eq 8, 3) := by decide +kernel
theorem dX6_run_11 : decode cX6_run 11 = .ok (.bipush (-100), 2) := by decide +kernel
theorem dX6_run_13 : decode cX6_run 13 = .ok (.iload_n 1, 1) := by decide +kernel
theorem dX6_run_14 : decode cX6_run 14 = .ok (.isub, 1) := by decide +kernel
theorem dX6_run_15 : decode cX6_run 15 = .ok (.ireturn, 1) := by decide +kernel
theorem dX6_run_16 : decode cX6_run 16 = .ok (.aload_n 0, 1) := by decide +kernel
theorem dX6_run_17 : decode cX6_run 17 = .ok (.invokevirtual 76, 3) := by decide +kernel
theorem dX6_run_20 : decode cX6_run 20 = .ok (.aload_n 0, 1) := by decide +kernel
theorem dX6_run_21 : decode cX6_run 21 = .ok (.iconst 0, 1) := by decide +kernel
theorem dX6_run_22 : decode cX6_run 22 = .ok (.putfield 119, 3) := by decide +kernel
theorem dX6_run_25 : decode cX6_run 25 = .ok (.iconst 0, 1) := by decide +kernel
theorem dX6_run_26 : decode cX6_run 26 = .ok (.istore_n 2, 1) := by decide +kernel
theorem dX6_run_27 : decode cX6_run 27 = .ok (.iconst 1, 1) := by decide +kernel
theorem dX6_run_28 : decode cX6_run 28 = .ok (.istore_n 3, 1) := by decide +kernel
theorem dX6_run_29 : decode cX6_run 29 = .ok (.iload_n 3, 1) := by decide +kernel
theorem dX6_run_30 : decode cX6_run 30 = .ok (.ifCond .eq 61, 3) := by decide +kernel
theorem dX6_run_33 : decode cX6_run 33 = .ok (.aload_n 0, 1) := by decide +kernel
theorem dX6_run_34 : decode cX6_run 34 = .ok (.invokevirtual 139, 3) := by decide +kernel
theorem dX6_run_37 : decode cX6_run 37 = .ok (.aload_n 0, 1) := by decide +kernel
theorem dX6_run_38 : decode cX6_run 38 = .ok (.invokevirtual 146, 3) := by decide +kernel
theorem dX6_run_41 : decode cX6_run 41 = .ok (.istore 4, 2) := by decide +kernel
theorem dX6_run_43 : decode cX6_run 43 = .ok (.iload_n 2, 1) := by decide +kernel
theorem dX6_run_44 : decode cX6_run 44 = .ok (.iload 4, 2) := by decide +kernel
theorem dX6_run_46 : decode cX6_run 46 = .ok (.ifCond .eq 7, 3) := by decide +kernel
theorem dX6_run_49 : decode cX6_run 49 = .ok (.iconst 1, 1) := by decide +kernel
theorem dX6_run_50 : decode cX6_run 50 = .ok (.goto 4, 3) := by decide +kernel
theorem dX6_run_53 : decode cX6_run 53 = .ok (.iconst 0, 1) := by decide +kernel
theorem dX6_run_54 : decode cX6_run 54 = .ok (.iadd, 1) := by decide +kernel
theorem dX6_run_55 : decode cX6_run 55 = .ok (.istore_n 2, 1) := by decide +kernel
theorem dX6_run_56 : decode cX6_run 56 = .ok (.iload 4, 2) := by decide +kernel
theorem dX6_run_58 : decode cX6_run 58 = .ok (.ifCond .eq 18, 3) := by decide +kernel
theorem dX6_run_61 : decode cX6_run 61 = .ok (.aload_n 0, 1) := by decide +kernel
theorem dX6_run_62 : decode cX6_run 62 = .ok (.getfield 119, 3) := by decide +kernel
theorem dX6_run_65 : decode cX6_run 65 = .ok (.aload_n 0, 1) := by decide +kernel
theorem dX6_run_66 : decode cX6_run 66 = .ok (.getfield 112, 3) := by decide +kernel
theorem dX6_run_69 : decode cX6_run 69 = .ok (.if_icmp .ge 7, 3) := by decide +kernel
theorem dX6_run_72 : decode cX6_run 72 = .ok (.iconst 1, 1) := by decide +kernel
theorem dX6_run_73 : decode cX6_run 73 = .ok (.goto 4, 3) := by decide +kernel
theorem dX6_run_76 : decode cX6_run 76 = .ok (.iconst 0, 1) := by decide +kernel
theorem dX6_run_77 : decode cX6_run 77 = .ok (.istore_n 3, 1) := by decide +kernel
theorem dX6_run_78 : decode cX6_run 78 = .ok (.aload_n 0, 1) := by decide +kernel
theorem dX6_run_79 : decode cX6_run 79 = .ok (.dup, 1) := by decide +kernel
theorem dX6_run_80 : decode cX6_run 80 = .ok (.getfield 119, 3) := by decide +kernel
theorem dX6_run_83 : decode cX6_run 83 = .ok (.iconst 1, 1) := by decide +kernel
theorem dX6_run_84 : decode cX6_run 84 = .ok (.iadd, 1) := by decide +kernel
theorem dX6_run_85 : decode cX6_run 85 = .ok (.putfield 119, 3) := by decide +kernel
theorem dX6_run_88 : decode cX6_run 88 = .ok (.goto (-59), 3) := by decide +kernel
theorem dX6_run_91 : decode cX6_run 91 = .ok (.iload_n 2, 1) := by decide +kernel
theorem dX6_run_92 : decode cX6_run 92 = .ok (.ireturn, 1) := by decide +kernel
theorem dX6_undo_0 : decode cX6_undo 0 = .ok (.aload_n 0, 1) := by decide +kernel
theorem dX6_undo_1 : decode cX6_undo 1 = .ok (.getfield 20, 3) := by decide +kernel
theorem dX6_undo_4 : decode cX6_undo 4 = .ok (.ifCond .ne 6, 3) := by decide +kernel
theorem dX6_undo_7 : decode cX6_undo 7 = .ok (.ldc 56, 2) := by decide +kernel
theorem dX6_undo_9 : decode cX6_undo 9 = .ok (.ireturn, 1) := by decide +kernel
theorem dX6_undo_10 : decode cX6_undo 10 = .ok (.aload_n 0, 1) := by decide +kernel
theorem dX6_undo_11 : decode cX6_undo 11 = .ok (.aload_n 0, 1) := by decide +kernel
theorem dX6_undo_12 : decode cX6_undo 12 = .ok (.getfield 20, 3) := by decide +kernel
theorem dX6_undo_15 : decode cX6_undo 15 = .ok (.iconst 0, 1) := by decide +kernel
theorem dX6_undo_16 : decode cX6_undo 16 = .ok (.invokevirtual 24, 3) := by decide +kernel
theorem dX6_undo_19 : decode cX6_undo 19 = .ok (.aload_n 0, 1) := by decide +kernel
theorem dX6_undo_20 : decode cX6_undo 20 = .ok (.dup, 1) := by decide +kernel
theorem dX6_undo_21 : decode cX6_undo 21 = .ok (.getfield 20, 3) := by decide +kernel
theorem dX6_undo_24 : decode cX6_undo 24 = .ok (.iconst 1, 1) := by decide +kernel
theorem dX6_undo_25 : decode cX6_undo 25 = .ok (.isub, 1) := by decide +kernel
theorem dX6_undo_26 : decode cX6_undo 26 = .ok (.putfield 20, 3) := by decide +kernel
theorem dX6_undo_29 : decode cX6_undo 29 = .ok (.aload_n 0, 1) := by decide +kernel
theorem dX6_undo_30 : decode cX6_undo 30 = .ok (.getfield 20, 3) := by decide +kernel
theorem dX6_undo_33 : decode cX6_undo 33 = .ok (.ireturn, 1) := by decide +kernel
theorem dX6_save_0 : decode cX6_save 0 = .ok (.aload_n 0, 1) := by decide +kernel
theorem dX6_save_1 : decode cX6_save 1 = .ok (.iconst 0, 1) := by decide +kernel
theorem dX6_save_2 : decode cX6_save 2 = .ok (.bipush 6, 2) := by decide +kernel
theorem dX6_save_4 : decode cX6_save 4 = .ok (.invokevirtual 24, 3) := by decide +kernel
theorem dX6_save_7 : decode cX6_save 7 = .ok (.aload_n 0, 1) := by decide +kernel
theorem dX6_save_8 : decode cX6_save 8 = .ok (.iconst 1, 1) := by decide +kernel
theorem dX6_save_9 : decode cX6_save 9 = .ok (.putfield 150, 3) := by decide +kernel
theorem dX6_save_12 : decode cX6_save 12 = .ok (.aload_n 0, 1) := by decide +kernel
theorem dX6_save_13 : decode cX6_save 13 = .ok (.iconst 0, 1) := by decide +kernel
theorem dX6_save_14 : decode cX6_save 14 = .ok (.invokevirtual 109, 3) := by decide +kernel
theorem dX6_save_17 : decode cX6_save 17 = .ok (.ireturn, 1) := by decide +kernel
theorem dX6_restore_0 : decode cX6_restore 0 = .ok (.aload_n 0, 1) := by decide +kernel
theorem dX6_restore_1 : decode cX6_restore 1 = .ok (.getfield 150, 3) := by decide +kernel
theorem dX6_restore_4 : decode cX6_restore 4 = .ok (.ifCond .ne 6, 3) := by decide +kernel
theorem dX6_restore_7 : decode cX6_restore 7 = .ok (.ldc 86, 2) := by decide +kernel
theorem dX6_restore_9 : decode cX6_restore 9 = .ok (.ireturn, 1) := by decide +kernel
theorem dX6_restore_10 : decode cX6_restore 10 = .ok (.aload_n 0, 1) := by decide +kernel
theorem dX6_restore_11 : decode cX6_restore 11 = .ok (.invokevirtual 76, 3) := by decide +kernel
theorem dX6_restore_14 : decode cX6_restore 14 = .ok (.aload_n 0, 1) := by decide +kernel
theorem dX6_restore_15 : decode cX6_restore 15 = .ok (.bipush 6, 2) := by decide +kernel
theorem dX6_restore_17 : decode cX6_restore 17 = .ok (.iconst 0, 1) := by decide +kernel
theorem dX6_restore_18 : decode cX6_restore 18 = .ok (.invokevirtual 24, 3) := by decide +kernel
theorem dX6_restore_21 : decode cX6_restore 21 = .ok (.aload_n 0, 1) := by decide +kernel
theorem dX6_restore_22 : decode cX6_restore 22 = .ok (.iconst 0, 1) := by decide +kernel
theorem dX6_restore_23 : decode cX6_restore 23 = .ok (.invokevirtual 109, 3) := by decide +kernel
theorem dX6_restore_26 : decode cX6_restore 26 = .ok (.ireturn, 1) := by decide +kernel
theorem dX6_told_0 : decode cX6_told 0 = .ok (.iconst 0, 1) := by decide +kernel
theorem dX6_told_1 : decode cX6_told 1 = .ok (.istore_n 3, 1) := by decide +kernel
theorem dX6_told_2 : decode cX6_told 2 = .ok (.iconst 0, 1) := by decide +kernel
theorem dX6_told_3 : decode cX6_told 3 = .ok (.istore 4, 2) := by decide +kernel
theorem dX6_told_5 : decode cX6_told 5 = .ok (.iload 4, 2) := by decide +kernel
theorem dX6_told_7 : decode cX6_told 7 = .ok (.aload_n 0, 1) := by decide +kernel
theorem dX6_told_8 : decode cX6_told 8 = .ok (.getfield 7, 3) := by decide +kernel
theorem dX6_told_11 : decode cX6_told 11 = .ok (.iconst 3, 1) := by decide +kernel
theorem dX6_told_12 : decode cX6_told 12 = .ok (.iaload, 1) := by decide +kernel
theorem dX6_told_13 : decode cX6_told 13 = .ok (.if_icmp .ge 121, 3) := by decide +kernel
theorem dX6_told_16 : decode cX6_told 16 = .ok (.iconst 0, 1) := by decide +kernel
theorem dX6_told_17 : decode cX6_told 17 = .ok (.iload 4, 2) := by decide +kernel
theorem dX6_told_19 : decode cX6_told 19 = .ok (.invokestatic 32, 3) := by decide +kernel
theorem dX6_told_22 : decode cX6_told 22 = .ok (.istore 5, 2) := by decide +kernel
theorem dX6_told_24 : decode cX6_told 24 = .ok (.aload_n 0, 1) := by decide +kernel
theorem dX6_told_25 : decode cX6_told 25 = .ok (.getfield 7, 3) := by decide +kernel
theorem dX6_told_28 : decode cX6_told 28 = .ok (.iload 5, 2) := by decide +kernel
theorem dX6_told_30 : decode cX6_told 30 = .ok (.iaload, 1) := by decide +kernel
theorem dX6_told_31 : decode cX6_told 31 = .ok (.iload_n 1, 1) := by decide +kernel
theorem dX6_told_32 : decode cX6_told 32 = .ok (.if_icmp .ne 43, 3) := by decide +kernel
theorem dX6_told_35 : decode cX6_told 35 = .ok (.iload_n 3, 1) := by decide +kernel
theorem dX6_told_36 : decode cX6_told 36 = .ok (.iload_n 2, 1) := by decide +kernel
theorem dX6_told_37 : decode cX6_told 37 = .ok (.ifCond .eq 21, 3) := by decide +kernel
theorem dX6_told_40 : decode cX6_told 40 = .ok (.aload_n 0, 1) := by decide +kernel
theorem dX6_told_41 : decode cX6_told 41 = .ok (.iload 5, 2) := by decide +kernel
theorem dX6_told_43 : decode cX6_told 43 = .ok (.iconst 1, 1) := by decide +kernel
theorem dX6_told_44 : decode cX6_told 44 = .ok (.invokevirtual 36, 3) := by decide +kernel
theorem dX6_told_47 : decode cX6_told 47 = .ok (.aload_n 0, 1) := by decide +kernel
theorem dX6_told_48 : decode cX6_told 48 = .ok (.iload 5, 2) := by decide +kernel
theorem dX6_told_50 : decode cX6_told 50 = .ok (.iconst 0, 1) := by decide +kernel
theorem dX6_told_51 : decode cX6_told 51 = .ok (.invokevirtual 36, 3) := by decide +kernel
theorem dX6_told_54 : decode cX6_told 54 = .ok (.isub, 1) := by decide +kernel
theorem dX6_told_55 : decode cX6_told 55 = .ok (.goto 18, 3) := by decide +kernel
theorem dX6_told_58 : decode cX6_told 58 = .ok (.aload_n 0, 1) := by decide +kernel
theorem dX6_told_59 : decode cX6_told 59 = .ok (.iload 5, 2) := by decide +kernel
theorem dX6_told_61 : decode cX6_told 61 = .ok (.iconst 2, 1) := by decide +kernel
theorem dX6_told_62 : decode cX6_told 62 = .ok (.invokevirtual 36, 3) := by decide +kernel
theorem dX6_told_65 : decode cX6_told 65 = .ok (.aload_n 0, 1) := by decide +kernel
theorem dX6_told_66 : decode cX6_told 66 = .ok (.iload 5, 2) := by decide +kernel
theorem dX6_told_68 : decode cX6_told 68 = .ok (.iconst 3, 1) := by decide +kernel
theorem dX6_told_69 : decode cX6_told 69 = .ok (.invokevirtual 36, 3) := by decide +kernel
theorem dX6_told_72 : decode cX6_told 72 = .ok (.isub, 1) := by decide +kernel
theorem dX6_told_73 : decode cX6_told 73 = .ok (.iadd, 1) := by decide +kernel
theorem dX6_told_74 : decode cX6_told 74 = .ok (.istore_n 3, 1) := by decide +kernel
theorem dX6_told_75 : decode cX6_told 75 = .ok (.aload_n 0, 1) := by decide +kernel
theorem dX6_told_76 : decode cX6_told 76 = .ok (.getfield 7, 3) := by decide +kernel
theorem dX6_told_79 : decode cX6_told 79 = .ok (.iload 5, 2) := by decide +kernel
theorem dX6_told_81 : decode cX6_told 81 = .ok (.iconst 1, 1) := by decide +kernel
theorem dX6_told_82 : decode cX6_told 82 = .ok (.iadd, 1) := by decide +kernel
theorem dX6_told_83 : decode cX6_told 83 = .ok (.iaload, 1) := by decide +kernel
theorem dX6_told_84 : decode cX6_told 84 = .ok (.iload_n 1, 1) := by decide +kernel
theorem dX6_told_85 : decode cX6_told 85 = .ok (.if_icmp .ne 43, 3) := by decide +kernel
theorem dX6_told_88 : decode cX6_told 88 = .ok (.iload_n 3, 1) := by decide +kernel
theorem dX6_told_89 : decode cX6_told 89 = .ok (.iload_n 2, 1) := by decide +kernel
theorem dX6_told_90 : decode cX6_told 90 = .ok (.ifCond .eq 21, 3) := by decide +kernel
theorem dX6_told_93 : decode cX6_told 93 = .ok (.aload_n 0, 1) := by decide +kernel
theorem dX6_told_94 : decode cX6_told 94 = .ok (.iload 5, 2) := by decide +kernel
theorem dX6_told_96 : decode cX6_told 96 = .ok (.iconst 3, 1) := by decide +kernel
theorem dX6_told_97 : decode cX6_told 97 = .ok (.invokevirtual 36, 3) := by decide +kernel
theorem dX6_told_100 : decode cX6_told 100 = .ok (.aload_n 0, 1) := by decide +kernel
theorem dX6_told_101 : decode cX6_told 101 = .ok (.iload 5, 2) := by decide +kernel
theorem dX6_told_103 : decode cX6_told 103 = .ok (.iconst 2, 1) := by decide +kernel
theorem dX6_told_104 : decode cX6_told 104 = .ok (.invokevirtual 36, 3) := by decide +kernel
theorem dX6_told_107 : decode cX6_told 107 = .ok (.isub, 1) := by decide +kernel
theorem dX6_told_108 : decode cX6_told 108 = .ok (.goto 18, 3) := by decide +kernel
theorem dX6_told_111 : decode cX6_told 111 = .ok (.aload_n 0, 1) := by decide +kernel
theorem dX6_told_112 : decode cX6_told 112 = .ok (.iload 5, 2) := by decide +kernel
theorem dX6_told_114 : decode cX6_told 114 = .ok (.iconst 0, 1) := by decide +kernel
theorem dX6_told_115 : decode cX6_told 115 = .ok (.invokevirtual 36, 3) := by decide +kernel
theorem dX6_told_118 : decode cX6_told 118 = .ok (.aload_n 0, 1) := by decide +kernel
theorem dX6_told_119 : decode cX6_told 119 = .ok (.iload 5, 2) := by decide +kernel
theorem dX6_told_121 : decode cX6_told 121 = .ok (.iconst 1, 1) := by decide +kernel
theorem dX6_told_122 : decode cX6_told 122 = .ok (.invokevirtual 36, 3) := by decide +kernel
theorem dX6_told_125 : decode cX6_told 125 = .ok (.isub, 1) := by decide +kernel
theorem dX6_told_126 : decode cX6_told 126 = .ok (.iadd, 1) := by decide +kernel
theorem dX6_told_127 : decode cX6_told 127 = .ok (.istore_n 3, 1) := by decide +kernel
theorem dX6_told_128 : decode cX6_told 128 = .ok (.iinc 4 1, 3) := by decide +kernel
theorem dX6_told_131 : decode cX6_told 131 = .ok (.goto (-126), 3) := by decide +kernel
theorem dX6_told_134 : decode cX6_told 134 = .ok (.iload_n 3, 1) := by decide +kernel
theorem dX6_told_135 : decode cX6_told 135 = .ok (.ireturn, 1) := by decide +kernel
theorem dX6_stilesOf_0 : decode cX6_stilesOf 0 = .ok (.iconst 0, 1) := by decide +kernel
theorem dX6_stilesOf_1 : decode cX6_stilesOf 1 = .ok (.istore_n 2, 1) := by decide +kernel
theorem dX6_stilesOf_2 : decode cX6_stilesOf 2 = .ok (.iconst 0, 1) := by decide +kernel
theorem dX6_stilesOf_3 : decode cX6_stilesOf 3 = .ok (.istore_n 3, 1) := by decide +kernel
theorem dX6_stilesOf_4 : decode cX6_stilesOf 4 = .ok (.iload_n 3, 1) := by decide +kernel
theorem dX6_stilesOf_5 : decode cX6_stilesOf 5 = .ok (.aload_n 0, 1) := by decide +kernel
theorem dX6_stilesOf_6 : decode cX6_stilesOf 6 = .ok (.getfield 7, 3) := by decide +kernel
theorem dX6_stilesOf_9 : decode cX6_stilesOf 9 = .ok (.iconst 3, 1) := by decide +kernel
theorem dX6_stilesOf_10 : decode cX6_stilesOf 10 = .ok (.iaload, 1) := by decide +kernel
theorem dX6_stilesOf_11 : decode cX6_stilesOf 11 = .ok (.if_icmp .ge 47, 3) := by decide +kernel
theorem dX6_stilesOf_14 : decode cX6_stilesOf 14 = .ok (.iload_n 2, 1) := by decide +kernel
theorem dX6_stilesOf_15 : decode cX6_stilesOf 15 = .ok (.aload_n 0, 1) := by decide +kernel
theorem dX6_stilesOf_16 : decode cX6_stilesOf 16 = .ok (.getfield 7, 3) := by decide +kernel
theorem dX6_stilesOf_19 : decode cX6_stilesOf 19 = .ok (.iconst 0, 1) := by decide +kernel
theorem dX6_stilesOf_20 : decode cX6_stilesOf 20 = .ok (.iload_n 3, 1) := by decide +kernel
theorem dX6_stilesOf_21 : decode cX6_stilesOf 21 = .ok (.invokestatic 32, 3) := by decide +kernel
theorem dX6_stilesOf_24 : decode cX6_stilesOf 24 = .ok (.iaload, 1) := by decide +kernel
theorem dX6_stilesOf_25 : decode cX6_stilesOf 25 = .ok (.iload_n 1, 1) := by decide +kernel
theorem dX6_stilesOf_26 : decode cX6_stilesOf 26 = .ok (.if_icmp .eq 19, 3) := by decide +kernel
theorem dX6_stilesOf_29 : decode cX6_stilesOf 29 = .ok (.aload_n 0, 1) := by decide +kernel
theorem dX6_stilesOf_30 : decode cX6_stilesOf 30 = .ok (.getfield 7, 3) := by decide +kernel
theorem dX6_stilesOf_33 : decode cX6_stilesOf 33 = .ok (.iconst 0, 1) := by decide +kernel
theorem dX6_stilesOf_34 : decode cX6_stilesOf 34 = .ok (.iload_n 3, 1) := by decide +kernel
theorem dX6_stilesOf_35 : decode cX6_stilesOf 35 = .ok (.invokestatic 32, 3) := by decide +kernel
theorem dX6_stilesOf_38 : decode cX6_stilesOf 38 = .ok (.iconst 1, 1) := by decide +kernel
theorem dX6_stilesOf_39 : decode cX6_stilesOf 39 = .ok (.iadd, 1) := by decide +kernel
theorem dX6_stilesOf_40 : decode cX6_stilesOf 40 = .ok (.iaload, 1) := by decide +kernel
theorem dX6_stilesOf_41 : decode cX6_stilesOf 41 = .ok (.iload_n 1, 1) := by decide +kernel
theorem dX6_stilesOf_42 : decode cX6_stilesOf 42 = .ok (.if_icmp .ne 7, 3) := by decide +kernel
theorem dX6_stilesOf_45 : decode cX6_stilesOf 45 = .ok (.iconst 1, 1) := by decide +kernel
theorem dX6_stilesOf_46 : decode cX6_stilesOf 46 = .ok (.goto 4, 3) := by decide +kernel
theorem dX6_stilesOf_49 : decode cX6_stilesOf 49 = .ok (.iconst 0, 1) := by decide +kernel
theorem dX6_stilesOf_50 : decode cX6_stilesOf 50 = .ok (.iadd, 1) := by decide +kernel
theorem dX6_stilesOf_51 : decode cX6_stilesOf 51 = .ok (.istore_n 2, 1) := by decide +kernel
theorem dX6_stilesOf_52 : decode cX6_stilesOf 52 = .ok (.iinc 3 1, 3) := by decide +kernel
theorem dX6_stilesOf_55 : decode cX6_stilesOf 55 = .ok (.goto (-51), 3) := by decide +kernel
theorem dX6_stilesOf_58 : decode cX6_stilesOf 58 = .ok (.iload_n 2, 1) := by decide +kernel
theorem dX6_stilesOf_59 : decode cX6_stilesOf 59 = .ok (.ireturn, 1) := by decide +kernel
theorem dX6_distance_0 : decode cX6_distance 0 = .ok (.aload_n 0, 1) := by decide +kernel
theorem dX6_distance_1 : decode cX6_distance 1 = .ok (.iconst 0, 1) := by decide +kernel
theorem dX6_distance_2 : decode cX6_distance 2 = .ok (.invokevirtual 57, 3) := by decide +kernel
theorem dX6_distance_5 : decode cX6_distance 5 = .ok (.aload_n 0, 1) := by decide +kernel
theorem dX6_distance_6 : decode cX6_distance 6 = .ok (.getfield 17, 3) := by decide +kernel
theorem dX6_distance_9 : decode cX6_distance 9 = .ok (.iload_n 1, 1) := by decide +kernel
theorem dX6_distance_10 : decode cX6_distance 10 = .ok (.iaload, 1) := by decide +kernel
theorem dX6_distance_11 : decode cX6_distance 11 = .ok (.ireturn, 1) := by decide +kernel
theorem dX6_hall_0 : decode cX6_hall 0 = .ok (.iload_n 1, 1) := by decide +kernel
theorem dX6_hall_1 : decode cX6_hall 1 = .ok (.invokestatic 83, 3) := by decide +kernel
theorem dX6_hall_4 : decode cX6_hall 4 = .ok (.ifCond .ne 6, 3) := by decide +kernel
theorem dX6_hall_7 : decode cX6_hall 7 = .ok (.ldc 73, 2) := by decide +kernel
theorem dX6_hall_9 : decode cX6_hall 9 = .ok (.ireturn, 1) := by decide +kernel
theorem dX6_hall_10 : decode cX6_hall 10 = .ok (.iload_n 2, 1) := by decide +kernel
theorem dX6_hall_11 : decode cX6_hall 11 = .ok (.tableswitch 82 0 5 #[37, 46, 56, 63, 70, 76], 37) := by decide +kernel
theorem dX6_hall_48 : decode cX6_hall 48 = .ok (.aload_n 0, 1) := by decide +kernel
theorem dX6_hall_49 : decode cX6_hall 49 = .ok (.getfield 7, 3) := by decide +kernel
theorem dX6_hall_52 : decode cX6_hall 52 = .ok (.iconst 4, 1) := by decide +kernel
theorem dX6_hall_53 : decode cX6_hall 53 = .ok (.iload_n 1, 1) := by decide +kernel
theorem dX6_hall_54 : decode cX6_hall 54 = .ok (.iadd, 1) := by decide +kernel
theorem dX6_hall_55 : decode cX6_hall 55 = .ok (.iaload, 1) := by decide +kernel
theorem dX6_hall_56 : decode cX6_hall 56 = .ok (.ireturn, 1) := by decide +kernel
theorem dX6_hall_57 : decode cX6_hall 57 = .ok (.aload_n 0, 1) := by decide +kernel
theorem dX6_hall_58 : decode cX6_hall 58 = .ok (.getfield 7, 3) := by decide +kernel
theorem dX6_hall_61 : decode cX6_hall 61 = .ok (.bipush 10, 2) := by decide +kernel
theorem dX6_hall_63 : decode cX6_hall 63 = .ok (.iload_n 1, 1) := by decide +kernel
theorem dX6_hall_64 : decode cX6_hall 64 = .ok (.iadd, 1) := by decide +kernel
theorem dX6_hall_65 : decode cX6_hall 65 = .ok (.iaload, 1) := by decide +kernel
theorem dX6_hall_66 : decode cX6_hall 66 = .ok (.ireturn, 1) := by decide +kernel
theorem dX6_hall_67 : decode cX6_hall 67 = .ok (.aload_n 0, 1) := by decide +kernel
theorem dX6_hall_68 : decode cX6_hall 68 = .ok (.iload_n 1, 1) := by decide +kernel
theorem dX6_hall_69 : decode cX6_hall 69 = .ok (.iconst 1, 1) := by decide +kernel
theorem dX6_hall_70 : decode cX6_hall 70 = .ok (.invokevirtual 153, 3) := by decide +kernel
theorem dX6_hall_73 : decode cX6_hall 73 = .ok (.ireturn, 1) := by decide +kernel
theorem dX6_hall_74 : decode cX6_hall 74 = .ok (.aload_n 0, 1) := by decide +kernel
theorem dX6_hall_75 : decode cX6_hall 75 = .ok (.iload_n 1, 1) := by decide +kernel
theorem dX6_hall_76 : decode cX6_hall 76 = .ok (.iconst 0, 1) := by decide +kernel
theorem dX6_hall_77 : decode cX6_hall 77 = .ok (.invokevirtual 153, 3) := by decide +kernel
theorem dX6_hall_80 : decode cX6_hall 80 = .ok (.ireturn, 1) := by decide +kernel
theorem dX6_hall_81 : decode cX6_hall 81 = .ok (.aload_n 0, 1) := by decide +kernel
theorem dX6_hall_82 : decode cX6_hall 82 = .ok (.iload_n 1, 1) := by decide +kernel
theorem dX6_hall_83 : decode cX6_hall 83 = .ok (.invokevirtual 156, 3) := by decide +kernel
theorem dX6_hall_86 : decode cX6_hall 86 = .ok (.ireturn, 1) := by decide +kernel
theorem dX6_hall_87 : decode cX6_hall 87 = .ok (.aload_n 0, 1) := by decide +kernel
theorem dX6_hall_88 : decode cX6_hall 88 = .ok (.iload_n 1, 1) := by decide +kernel
theorem dX6_hall_89 : decode cX6_hall 89 = .ok (.invokevirtual 159, 3) := by decide +kernel
theorem dX6_hall_92 : decode cX6_hall 92 = .ok (.ireturn, 1) := by decide +kernel
theorem dX6_hall_93 : decode cX6_hall 93 = .ok (.ldc 74, 2) := by decide +kernel
theorem dX6_hall_95 : decode cX6_hall 95 = .ok (.ireturn, 1) := by decide +kernel
theorem dX6_stileOf_0 : decode cX6_stileOf 0 = .ok (.aload_n 0, 1) := by decide +kernel
theorem dX6_stileOf_1 : decode cX6_stileOf 1 = .ok (.iload_n 1, 1) := by decide +kernel
theorem dX6_stileOf_2 : decode cX6_stileOf 2 = .ok (.invokevirtual 79, 3) := by decide +kernel
theorem dX6_stileOf_5 : decode cX6_stileOf 5 = .ok (.ifCond .ne 6, 3) := by decide +kernel
theorem dX6_stileOf_8 : decode cX6_stileOf 8 = .ok (.ldc 73, 2) := by decide +kernel
theorem dX6_stileOf_10 : decode cX6_stileOf 10 = .ok (.ireturn, 1) := by decide +kernel
theorem dX6_stileOf_11 : decode cX6_stileOf 11 = .ok (.iload_n 2, 1) := by decide +kernel
theorem dX6_stileOf_12 : decode cX6_stileOf 12 = .ok (.iconst 0, 1) := by decide +kernel
theorem dX6_stileOf_13 : decode cX6_stileOf 13 = .ok (.iconst 4, 1) := by decide +kernel
theorem dX6_stileOf_14 : decode cX6_stileOf 14 = .ok (.invokestatic 28, 3) := by decide +kernel
theorem dX6_stileOf_17 : decode cX6_stileOf 17 = .ok (.ifCond .ne 8, 3) := by decide +kernel
theorem dX6_stileOf_20 : decode cX6_stileOf 20 = .ok (.ldc 74, 2) := by decide +kernel
theorem dX6_stileOf_22 : decode cX6_stileOf 22 = .ok (.goto 28, 3) := by decide +kernel
theorem dX6_stileOf_25 : decode cX6_stileOf 25 = .ok (.iload_n 2, 1) := by decide +kernel
theorem dX6_stileOf_26 : decode cX6_stileOf 26 = .ok (.iconst 4, 1) := by decide +kernel
theorem dX6_stileOf_27 : decode cX6_stileOf 27 = .ok (.if_icmp .ne 11, 3) := by decide +kernel
theorem dX6_stileOf_30 : decode cX6_stileOf 30 = .ok (.aload_n 0, 1) := by decide +kernel
theorem dX6_stileOf_31 : decode cX6_stileOf 31 = .ok (.iload_n 1, 1) := by decide +kernel
theorem dX6_stileOf_32 : decode cX6_stileOf 32 = .ok (.invokevirtual 97, 3) := by decide +kernel
theorem dX6_stileOf_35 : decode cX6_stileOf 35 = .ok (.goto 15, 3) := by decide +kernel
theorem dX6_stileOf_38 : decode cX6_stileOf 38 = .ok (.aload_n 0, 1) := by decide +kernel
theorem dX6_stileOf_39 : decode cX6_stileOf 39 = .ok (.getfield 7, 3) := by decide +kernel
theorem dX6_stileOf_42 : decode cX6_stileOf 42 = .ok (.iconst 0, 1) := by decide +kernel
theorem dX6_stileOf_43 : decode cX6_stileOf 43 = .ok (.iload_n 1, 1) := by decide +kernel
theorem dX6_stileOf_44 : decode cX6_stileOf 44 = .ok (.invokestatic 32, 3) := by decide +kernel
theorem dX6_stileOf_47 : decode cX6_stileOf 47 = .ok (.iload_n 2, 1) := by decide +kernel
theorem dX6_stileOf_48 : decode cX6_stileOf 48 = .ok (.iadd, 1) := by decide +kernel
theorem dX6_stileOf_49 : decode cX6_stileOf 49 = .ok (.iaload, 1) := by decide +kernel
theorem dX6_stileOf_50 : decode cX6_stileOf 50 = .ok (.ireturn, 1) := by decide +kernel
theorem dX6_counter_0 : decode cX6_counter 0 = .ok (.aload_n 0, 1) := by decide +kernel
theorem dX6_counter_1 : decode cX6_counter 1 = .ok (.iload_n 1, 1) := by decide +kernel
theorem dX6_counter_2 : decode cX6_counter 2 = .ok (.invokevirtual 79, 3) := by decide +kernel
theorem dX6_counter_5 : decode cX6_counter 5 = .ok (.ifCond .ne 6, 3) := by decide +kernel
theorem dX6_counter_8 : decode cX6_counter 8 = .ok (.ldc 73, 2) := by decide +kernel
theorem dX6_counter_10 : decode cX6_counter 10 = .ok (.ireturn, 1) := by decide +kernel
theorem dX6_counter_11 : decode cX6_counter 11 = .ok (.iload_n 2, 1) := by decide +kernel
theorem dX6_counter_12 : decode cX6_counter 12 = .ok (.iconst 0, 1) := by decide +kernel
theorem dX6_counter_13 : decode cX6_counter 13 = .ok (.iconst 3, 1) := by decide +kernel
theorem dX6_counter_14 : decode cX6_counter 14 = .ok (.invokestatic 28, 3) := by decide +kernel
theorem dX6_counter_17 : decode cX6_counter 17 = .ok (.ifCond .eq 12, 3) := by decide +kernel
theorem dX6_counter_20 : decode cX6_counter 20 = .ok (.iload_n 3, 1) := by decide +kernel
theorem dX6_counter_21 : decode cX6_counter 21 = .ok (.iconst 0, 1) := by decide +kernel
theorem dX6_counter_22 : decode cX6_counter 22 = .ok (.iconst 2, 1) := by decide +kernel
theorem dX6_counter_23 : decode cX6_counter 23 = .ok (.invokestatic 28, 3) := by decide +kernel
theorem dX6_counter_26 : decode cX6_counter 26 = .ok (.ifCond .ne 6, 3) := by decide +kernel
theorem dX6_counter_29 : decode cX6_counter 29 = .ok (.ldc 74, 2) := by decide +kernel
theorem dX6_counter_31 : decode cX6_counter 31 = .ok (.ireturn, 1) := by decide +kernel
theorem dX6_counter_32 : decode cX6_counter 32 = .ok (.iconst 0, 1) := by decide +kernel
theorem dX6_counter_33 : decode cX6_counter 33 = .ok (.iload_n 1, 1) := by decide +kernel
theorem dX6_counter_34 : decode cX6_counter 34 = .ok (.invokestatic 32, 3) := by decide +kernel
theorem dX6_counter_37 : decode cX6_counter 37 = .ok (.iconst 4, 1) := by decide +kernel
theorem dX6_counter_38 : decode cX6_counter 38 = .ok (.iadd, 1) := by decide +kernel
theorem dX6_counter_39 : decode cX6_counter 39 = .ok (.iconst 4, 1) := by decide +kernel
theorem dX6_counter_40 : decode cX6_counter 40 = .ok (.iload_n 2, 1) := by decide +kernel
theorem dX6_counter_41 : decode cX6_counter 41 = .ok (.imul, 1) := by decide +kernel
theorem dX6_counter_42 : decode cX6_counter 42 = .ok (.iadd, 1) := by decide +kernel
theorem dX6_counter_43 : decode cX6_counter 43 = .ok (.istore 4, 2) := by decide +kernel
theorem dX6_counter_45 : decode cX6_counter 45 = .ok (.iload_n 3, 1) := by decide +kernel
theorem dX6_counter_46 : decode cX6_counter 46 = .ok (.ifCond .ne 13, 3) := by decide +kernel
theorem dX6_counter_49 : decode cX6_counter 49 = .ok (.aload_n 0, 1) := by decide +kernel
theorem dX6_counter_50 : decode cX6_counter 50 = .ok (.getfield 7, 3) := by decide +kernel
theorem dX6_counter_53 : decode cX6_counter 53 = .ok (.iload 4, 2) := by decide +kernel
theorem dX6_counter_55 : decode cX6_counter 55 = .ok (.iaload, 1) := by decide +kernel
theorem dX6_counter_56 : decode cX6_counter 56 = .ok (.goto 29, 3) := by decide +kernel
theorem dX6_counter_59 : decode cX6_counter 59 = .ok (.iload_n 3, 1) := by decide +kernel
theorem dX6_counter_60 : decode cX6_counter 60 = .ok (.iconst 1, 1) := by decide +kernel
theorem dX6_counter_61 : decode cX6_counter 61 = .ok (.if_icmp .ne 15, 3) := by decide +kernel
theorem dX6_counter_64 : decode cX6_counter 64 = .ok (.aload_n 0, 1) := by decide +kernel
theorem dX6_counter_65 : decode cX6_counter 65 = .ok (.getfield 7, 3) := by decide +kernel
theorem dX6_counter_68 : decode cX6_counter 68 = .ok (.iload 4, 2) := by decide +kernel
theorem dX6_counter_70 : decode cX6_counter 70 = .ok (.iconst 1, 1) := by decide +kernel
theorem dX6_counter_71 : decode cX6_counter 71 = .ok (.iadd, 1) := by decide +kernel
theorem dX6_counter_72 : decode cX6_counter 72 = .ok (.iaload, 1) := by decide +kernel
theorem dX6_counter_73 : decode cX6_counter 73 = .ok (.goto 12, 3) := by decide +kernel
theorem dX6_counter_76 : decode cX6_counter 76 = .ok (.aload_n 0, 1) := by decide +kernel
theorem dX6_counter_77 : decode cX6_counter 77 = .ok (.getfield 7, 3) := by decide +kernel
theorem dX6_counter_80 : decode cX6_counter 80 = .ok (.iload 4, 2) := by decide +kernel
theorem dX6_counter_82 : decode cX6_counter 82 = .ok (.iconst 3, 1) := by decide +kernel
theorem dX6_counter_83 : decode cX6_counter 83 = .ok (.iadd, 1) := by decide +kernel
theorem dX6_counter_84 : decode cX6_counter 84 = .ok (.iaload, 1) := by decide +kernel
theorem dX6_counter_85 : decode cX6_counter 85 = .ok (.ireturn, 1) := by decide +kernel
theorem dX6_reason_0 : decode cX6_reason 0 = .ok (.aload_n 0, 1) := by decide +kernel
theorem dX6_reason_1 : decode cX6_reason 1 = .ok (.iload_n 1, 1) := by decide +kernel
theorem dX6_reason_2 : decode cX6_reason 2 = .ok (.invokevirtual 79, 3) := by decide +kernel
theorem dX6_reason_5 : decode cX6_reason 5 = .ok (.ifCond .ne 6, 3) := by decide +kernel
theorem dX6_reason_8 : decode cX6_reason 8 = .ok (.ldc 73, 2) := by decide +kernel
theorem dX6_reason_10 : decode cX6_reason 10 = .ok (.ireturn, 1) := by decide +kernel
theorem dX6_reason_11 : decode cX6_reason 11 = .ok (.iload_n 3, 1) := by decide +kernel
theorem dX6_reason_12 : decode cX6_reason 12 = .ok (.iconst 1, 1) := by decide +kernel
theorem dX6_reason_13 : decode cX6_reason 13 = .ok (.bipush 99, 2) := by decide +kernel
theorem dX6_reason_15 : decode cX6_reason 15 = .ok (.invokestatic 28, 3) := by decide +kernel
theorem dX6_reason_18 : decode cX6_reason 18 = .ok (.ifCond .eq 14, 3) := by decide +kernel
theorem dX6_reason_21 : decode cX6_reason 21 = .ok (.aload_n 0, 1) := by decide +kernel
theorem dX6_reason_22 : decode cX6_reason 22 = .ok (.iconst 0, 1) := by decide +kernel
theorem dX6_reason_23 : decode cX6_reason 23 = .ok (.iload_n 1, 1) := by decide +kernel
theorem dX6_reason_24 : decode cX6_reason 24 = .ok (.iload_n 2, 1) := by decide +kernel
theorem dX6_reason_25 : decode cX6_reason 25 = .ok (.iload_n 3, 1) := by decide +kernel
theorem dX6_reason_26 : decode cX6_reason 26 = .ok (.invokevirtual 90, 3) := by decide +kernel
theorem dX6_reason_29 : decode cX6_reason 29 = .ok (.goto 5, 3) := by decide +kernel
theorem dX6_reason_32 : decode cX6_reason 32 = .ok (.ldc 74, 2) := by decide +kernel
theorem dX6_reason_34 : decode cX6_reason 34 = .ok (.ireturn, 1) := by decide +kernel
theorem dX6_worst_0 : decode cX6_worst 0 = .ok (.iload_n 1, 1) := by decide +kernel
theorem dX6_worst_1 : decode cX6_worst 1 = .ok (.ifCond .ge 6, 3) := by decide +kernel
theorem dX6_worst_4 : decode cX6_worst 4 = .ok (.ldc 74, 2) := by decide +kernel
theorem dX6_worst_6 : decode cX6_worst 6 = .ok (.ireturn, 1) := by decide +kernel
theorem dX6_worst_7 : decode cX6_worst 7 = .ok (.ldc 56, 2) := by decide +kernel
theorem dX6_worst_9 : decode cX6_worst 9 = .ok (.istore_n 2, 1) := by decide +kernel
theorem dX6_worst_10 : decode cX6_worst 10 = .ok (.iconst 0, 1) := by decide +kernel
theorem dX6_worst_11 : decode cX6_worst 11 = .ok (.istore_n 3, 1) := by decide +kernel
theorem dX6_worst_12 : decode cX6_worst 12 = .ok (.iload_n 3, 1) := by decide +kernel
theorem dX6_worst_13 : decode cX6_worst 13 = .ok (.aload_n 0, 1) := by decide +kernel
theorem dX6_worst_14 : decode cX6_worst 14 = .ok (.getfield 7, 3) := by decide +kernel
theorem dX6_worst_17 : decode cX6_worst 17 = .ok (.iconst 3, 1) := by decide +kernel
theorem dX6_worst_18 : decode cX6_worst 18 = .ok (.iaload, 1) := by decide +kernel
theorem dX6_worst_19 : decode cX6_worst 19 = .ok (.if_icmp .ge 96, 3) := by decide +kernel
theorem dX6_worst_22 : decode cX6_worst 22 = .ok (.iconst 0, 1) := by decide +kernel
theorem dX6_worst_23 : decode cX6_worst 23 = .ok (.istore 4, 2) := by decide +kernel
theorem dX6_worst_25 : decode cX6_worst 25 = .ok (.iconst 0, 1) := by decide +kernel
theorem dX6_worst_26 : decode cX6_worst 26 = .ok (.istore 5, 2) := by decide +kernel
theorem dX6_worst_28 : decode cX6_worst 28 = .ok (.iload 5, 2) := by decide +kernel
theorem dX6_worst_30 : decode cX6_worst 30 = .ok (.aload_n 0, 1) := by decide +kernel
theorem dX6_worst_31 : decode cX6_worst 31 = .ok (.getfield 7, 3) := by decide +kernel
theorem dX6_worst_34 : decode cX6_worst 34 = .ok (.iconst 3, 1) := by decide +kernel
theorem dX6_worst_35 : decode cX6_worst 35 = .ok (.iaload, 1) := by decide +kernel
theorem dX6_worst_36 : decode cX6_worst 36 = .ok (.if_icmp .ge 53, 3) := by decide +kernel
theorem dX6_worst_39 : decode cX6_worst 39 = .ok (.iload 4, 2) := by decide +kernel
theorem dX6_worst_41 : decode cX6_worst 41 = .ok (.aload_n 0, 1) := by decide +kernel
theorem dX6_worst_42 : decode cX6_worst 42 = .ok (.iload 5, 2) := by decide +kernel
theorem dX6_worst_44 : decode cX6_worst 44 = .ok (.invokevirtual 97, 3) := by decide +kernel
theorem dX6_worst_47 : decode cX6_worst 47 = .ok (.aload_n 0, 1) := by decide +kernel
theorem dX6_worst_48 : decode cX6_worst 48 = .ok (.iload_n 3, 1) := by decide +kernel
theorem dX6_worst_49 : decode cX6_worst 49 = .ok (.invokevirtual 97, 3) := by decide +kernel
theorem dX6_worst_52 : decode cX6_worst 52 = .ok (.if_icmp .gt 23, 3) := by decide +kernel
theorem dX6_worst_55 : decode cX6_worst 55 = .ok (.aload_n 0, 1) := by decide +kernel
theorem dX6_worst_56 : decode cX6_worst 56 = .ok (.iload 5, 2) := by decide +kernel
theorem dX6_worst_58 : decode cX6_worst 58 = .ok (.invokevirtual 97, 3) := by decide +kernel
theorem dX6_worst_61 : decode cX6_worst 61 = .ok (.aload_n 0, 1) := by decide +kernel
theorem dX6_worst_62 : decode cX6_worst 62 = .ok (.iload_n 3, 1) := by decide +kernel
theorem dX6_worst_63 : decode cX6_worst 63 = .ok (.invokevirtual 97, 3) := by decide +kernel
theorem dX6_worst_66 : decode cX6_worst 66 = .ok (.if_icmp .ne 13, 3) := by decide +kernel
theorem dX6_worst_69 : decode cX6_worst 69 = .ok (.iload 5, 2) := by decide +kernel
theorem dX6_worst_71 : decode cX6_worst 71 = .ok (.iload_n 3, 1) := by decide +kernel
theorem dX6_worst_72 : decode cX6_worst 72 = .ok (.if_icmp .ge 7, 3) := by decide +kernel
theorem dX6_worst_75 : decode cX6_worst 75 = .ok (.iconst 1, 1) := by decide +kernel
theorem dX6_worst_76 : decode cX6_worst 76 = .ok (.goto 4, 3) := by decide +kernel
theorem dX6_worst_79 : decode cX6_worst 79 = .ok (.iconst 0, 1) := by decide +kernel
theorem dX6_worst_80 : decode cX6_worst 80 = .ok (.iadd, 1) := by decide +kernel
theorem dX6_worst_81 : decode cX6_worst 81 = .ok (.istore 4, 2) := by decide +kernel
theorem dX6_worst_83 : decode cX6_worst 83 = .ok (.iinc 5 1, 3) := by decide +kernel
theorem dX6_worst_86 : decode cX6_worst 86 = .ok (.goto (-58), 3) := by decide +kernel
theorem dX6_worst_89 : decode cX6_worst 89 = .ok (.iload 4, 2) := by decide +kernel
theorem dX6_worst_91 : decode cX6_worst 91 = .ok (.iload_n 1, 1) := by decide +kernel
theorem dX6_worst_92 : decode cX6_worst 92 = .ok (.if_icmp .ne 15, 3) := by decide +kernel
theorem dX6_worst_95 : decode cX6_worst 95 = .ok (.aload_n 0, 1) := by decide +kernel
theorem dX6_worst_96 : decode cX6_worst 96 = .ok (.iload_n 3, 1) := by decide +kernel
theorem dX6_worst_97 : decode cX6_worst 97 = .ok (.invokevirtual 97, 3) := by decide +kernel
theorem dX6_worst_100 : decode cX6_worst 100 = .ok (.ifCond .le 7, 3) := by decide +kernel
theorem dX6_worst_103 : decode cX6_worst 103 = .ok (.iload_n 3, 1) := by decide +kernel
theorem dX6_worst_104 : decode cX6_worst 104 = .ok (.goto 4, 3) := by decide +kernel
theorem dX6_worst_107 : decode cX6_worst 107 = .ok (.iload_n 2, 1) := by decide +kernel
theorem dX6_worst_108 : decode cX6_worst 108 = .ok (.istore_n 2, 1) := by decide +kernel
theorem dX6_worst_109 : decode cX6_worst 109 = .ok (.iinc 3 1, 3) := by decide +kernel
theorem dX6_worst_112 : decode cX6_worst 112 = .ok (.goto (-100), 3) := by decide +kernel
theorem dX6_worst_115 : decode cX6_worst 115 = .ok (.iload_n 2, 1) := by decide +kernel
theorem dX6_worst_116 : decode cX6_worst 116 = .ok (.ireturn, 1) := by decide +kernel
theorem dX6_sumOf_0 : decode cX6_sumOf 0 = .ok (.iconst 0, 1) := by decide +kernel
theorem dX6_sumOf_1 : decode cX6_sumOf 1 = .ok (.istore_n 2, 1) := by decide +kernel
theorem dX6_sumOf_2 : decode cX6_sumOf 2 = .ok (.iconst 0, 1) := by decide +kernel
theorem dX6_sumOf_3 : decode cX6_sumOf 3 = .ok (.istore_n 3, 1) := by decide +kernel
theorem dX6_sumOf_4 : decode cX6_sumOf 4 = .ok (.iload_n 3, 1) := by decide +kernel
theorem dX6_sumOf_5 : decode cX6_sumOf 5 = .ok (.aload_n 0, 1) := by decide +kernel
theorem dX6_sumOf_6 : decode cX6_sumOf 6 = .ok (.getfield 7, 3) := by decide +kernel
theorem dX6_sumOf_9 : decode cX6_sumOf 9 = .ok (.iconst 3, 1) := by decide +kernel
theorem dX6_sumOf_10 : decode cX6_sumOf 10 = .ok (.iaload, 1) := by decide +kernel
theorem dX6_sumOf_11 : decode cX6_sumOf 11 = .ok (.if_icmp .ge 107, 3) := by decide +kernel
theorem dX6_sumOf_14 : decode cX6_sumOf 14 = .ok (.iconst 0, 1) := by decide +kernel
theorem dX6_sumOf_15 : decode cX6_sumOf 15 = .ok (.iload_n 3, 1) := by decide +kernel
theorem dX6_sumOf_16 : decode cX6_sumOf 16 = .ok (.invokestatic 32, 3) := by decide +kernel
theorem dX6_sumOf_19 : decode cX6_sumOf 19 = .ok (.istore 4, 2) := by decide +kernel
theorem dX6_sumOf_21 : decode cX6_sumOf 21 = .ok (.iconst 0, 1) := by decide +kernel
theorem dX6_sumOf_22 : decode cX6_sumOf 22 = .ok (.istore 5, 2) := by decide +kernel
theorem dX6_sumOf_24 : decode cX6_sumOf 24 = .ok (.iconst 0, 1) := by decide +kernel
theorem dX6_sumOf_25 : decode cX6_sumOf 25 = .ok (.istore 6, 2) := by decide +kernel
theorem dX6_sumOf_27 : decode cX6_sumOf 27 = .ok (.iload 6, 2) := by decide +kernel
theorem dX6_sumOf_29 : decode cX6_sumOf 29 = .ok (.iconst 4, 1) := by decide +kernel
theorem dX6_sumOf_30 : decode cX6_sumOf 30 = .ok (.if_icmp .ge 38, 3) := by decide +kernel
theorem dX6_sumOf_33 : decode cX6_sumOf 33 = .ok (.iload 5, 2) := by decide +kernel
theorem dX6_sumOf_35 : decode cX6_sumOf 35 = .ok (.aload_n 0, 1) := by decide +kernel
theorem dX6_sumOf_36 : decode cX6_sumOf 36 = .ok (.getfield 7, 3) := by decide +kernel
theorem dX6_sumOf_39 : decode cX6_sumOf 39 = .ok (.iload 4, 2) := by decide +kernel
theorem dX6_sumOf_41 : decode cX6_sumOf 41 = .ok (.iconst 4, 1) := by decide +kernel
theorem dX6_sumOf_42 : decode cX6_sumOf 42 = .ok (.iadd, 1) := by decide +kernel
theorem dX6_sumOf_43 : decode cX6_sumOf 43 = .ok (.iconst 4, 1) := by decide +kernel
theorem dX6_sumOf_44 : decode cX6_sumOf 44 = .ok (.iload 6, 2) := by decide +kernel
theorem dX6_sumOf_46 : decode cX6_sumOf 46 = .ok (.imul, 1) := by decide +kernel
theorem dX6_sumOf_47 : decode cX6_sumOf 47 = .ok (.iadd, 1) := by decide +kernel
theorem dX6_sumOf_48 : decode cX6_sumOf 48 = .ok (.iconst 1, 1) := by decide +kernel
theorem dX6_sumOf_49 : decode cX6_sumOf 49 = .ok (.iadd, 1) := by decide +kernel
theorem dX6_sumOf_50 : decode cX6_sumOf 50 = .ok (.iaload, 1) := by decide +kernel
theorem dX6_sumOf_51 : decode cX6_sumOf 51 = .ok (.ifCond .le 7, 3) := by decide +kernel
theorem dX6_sumOf_54 : decode cX6_sumOf 54 = .ok (.iconst 1, 1) := by decide +kernel
theorem dX6_sumOf_55 : decode cX6_sumOf 55 = .ok (.goto 4, 3) := by decide +kernel
theorem dX6_sumOf_58 : decode cX6_sumOf 58 = .ok (.iconst 0, 1) := by decide +kernel
theorem dX6_sumOf_59 : decode cX6_sumOf 59 = .ok (.iadd, 1) := by decide +kernel
theorem dX6_sumOf_60 : decode cX6_sumOf 60 = .ok (.istore 5, 2) := by decide +kernel
theorem dX6_sumOf_62 : decode cX6_sumOf 62 = .ok (.iinc 6 1, 3) := by decide +kernel
theorem dX6_sumOf_65 : decode cX6_sumOf 65 = .ok (.goto (-38), 3) := by decide +kernel
theorem dX6_sumOf_68 : decode cX6_sumOf 68 = .ok (.iload_n 2, 1) := by decide +kernel
theorem dX6_sumOf_69 : decode cX6_sumOf 69 = .ok (.iload_n 1, 1) := by decide +kernel
theorem dX6_sumOf_70 : decode cX6_sumOf 70 = .ok (.iconst 2, 1) := by decide +kernel
theorem dX6_sumOf_71 : decode cX6_sumOf 71 = .ok (.if_icmp .ne 23, 3) := by decide +kernel
theorem dX6_sumOf_74 : decode cX6_sumOf 74 = .ok (.aload_n 0, 1) := by decide +kernel
theorem dX6_sumOf_75 : decode cX6_sumOf 75 = .ok (.getfield 7, 3) := by decide +kernel
theorem dX6_sumOf_78 : decode cX6_sumOf 78 = .ok (.iload 4, 2) := by decide +kernel
theorem dX6_sumOf_80 : decode cX6_sumOf 80 = .ok (.iconst 3, 1) := by decide +kernel
theorem dX6_sumOf_81 : decode cX6_sumOf 81 = .ok (.iadd, 1) := by decide +kernel
theorem dX6_sumOf_82 : decode cX6_sumOf 82 = .ok (.iaload, 1) := by decide +kernel
theorem dX6_sumOf_83 : decode cX6_sumOf 83 = .ok (.ifCond .le 7, 3) := by decide +kernel
theorem dX6_sumOf_86 : decode cX6_sumOf 86 = .ok (.iconst 1, 1) := by decide +kernel
theorem dX6_sumOf_87 : decode cX6_sumOf 87 = .ok (.goto 23, 3) := by decide +kernel
theorem dX6_sumOf_90 : decode cX6_sumOf 90 = .ok (.iconst 0, 1) := by decide +kernel
theorem dX6_sumOf_91 : decode cX6_sumOf 91 = .ok (.goto 19, 3) := by decide +kernel
theorem dX6_sumOf_94 : decode cX6_sumOf 94 = .ok (.iload_n 1, 1) := by decide +kernel
theorem dX6_sumOf_95 : decode cX6_sumOf 95 = .ok (.bipush 6, 2) := by decide +kernel
theorem dX6_sumOf_97 : decode cX6_sumOf 97 = .ok (.if_icmp .ne 11, 3) := by decide +kernel
theorem dX6_sumOf_100 : decode cX6_sumOf 100 = .ok (.aload_n 0, 1) := by decide +kernel
theorem dX6_sumOf_101 : decode cX6_sumOf 101 = .ok (.iload_n 3, 1) := by decide +kernel
theorem dX6_sumOf_102 : decode cX6_sumOf 102 = .ok (.invokevirtual 97, 3) := by decide +kernel
theorem dX6_sumOf_105 : decode cX6_sumOf 105 = .ok (.goto 5, 3) := by decide +kernel
theorem dX6_sumOf_108 : decode cX6_sumOf 108 = .ok (.iload 5, 2) := by decide +kernel
theorem dX6_sumOf_110 : decode cX6_sumOf 110 = .ok (.iadd, 1) := by decide +kernel
theorem dX6_sumOf_111 : decode cX6_sumOf 111 = .ok (.istore_n 2, 1) := by decide +kernel
theorem dX6_sumOf_112 : decode cX6_sumOf 112 = .ok (.iinc 3 1, 3) := by decide +kernel
theorem dX6_sumOf_115 : decode cX6_sumOf 115 = .ok (.goto (-111), 3) := by decide +kernel
theorem dX6_sumOf_118 : decode cX6_sumOf 118 = .ok (.iload_n 2, 1) := by decide +kernel
theorem dX6_sumOf_119 : decode cX6_sumOf 119 = .ok (.ireturn, 1) := by decide +kernel
theorem dX6_allTold_0 : decode cX6_allTold 0 = .ok (.iconst 0, 1) := by decide +kernel
theorem dX6_allTold_1 : decode cX6_allTold 1 = .ok (.istore_n 2, 1) := by decide +kernel
theorem dX6_allTold_2 : decode cX6_allTold 2 = .ok (.iconst 1, 1) := by decide +kernel
theorem dX6_allTold_3 : decode cX6_allTold 3 = .ok (.istore_n 3, 1) := by decide +kernel
theorem dX6_allTold_4 : decode cX6_allTold 4 = .ok (.iload_n 3, 1) := by decide +kernel
theorem dX6_allTold_5 : decode cX6_allTold 5 = .ok (.bipush 6, 2) := by decide +kernel
theorem dX6_allTold_7 : decode cX6_allTold 7 = .ok (.if_icmp .ge 18, 3) := by decide +kernel
theorem dX6_allTold_10 : decode cX6_allTold 10 = .ok (.iload_n 2, 1) := by decide +kernel
theorem dX6_allTold_11 : decode cX6_allTold 11 = .ok (.aload_n 0, 1) := by decide +kernel
theorem dX6_allTold_12 : decode cX6_allTold 12 = .ok (.iload_n 3, 1) := by decide +kernel
theorem dX6_allTold_13 : decode cX6_allTold 13 = .ok (.iload_n 1, 1) := by decide +kernel
theorem dX6_allTold_14 : decode cX6_allTold 14 = .ok (.invokevirtual 153, 3) := by decide +kernel
theorem dX6_allTold_17 : decode cX6_allTold 17 = .ok (.iadd, 1) := by decide +kernel
theorem dX6_allTold_18 : decode cX6_allTold 18 = .ok (.istore_n 2, 1) := by decide +kernel
theorem dX6_allTold_19 : decode cX6_allTold 19 = .ok (.iinc 3 1, 3) := by decide +kernel
theorem dX6_allTold_22 : decode cX6_allTold 22 = .ok (.goto (-18), 3) := by decide +kernel
theorem dX6_allTold_25 : decode cX6_allTold 25 = .ok (.iload_n 2, 1) := by decide +kernel
theorem dX6_allTold_26 : decode cX6_allTold 26 = .ok (.ireturn, 1) := by decide +kernel
theorem dX6_fullest_0 : decode cX6_fullest 0 = .ok (.iconst 1, 1) := by decide +kernel
theorem dX6_fullest_1 : decode cX6_fullest 1 = .ok (.istore_n 1, 1) := by decide +kernel
theorem dX6_fullest_2 : decode cX6_fullest 2 = .ok (.iconst 2, 1) := by decide +kernel
theorem dX6_fullest_3 : decode cX6_fullest 3 = .ok (.istore_n 2, 1) := by decide +kernel
theorem dX6_fullest_4 : decode cX6_fullest 4 = .ok (.iload_n 2, 1) := by decide +kernel
theorem dX6_fullest_5 : decode cX6_fullest 5 = .ok (.bipush 6, 2) := by decide +kernel
theorem dX6_fullest_7 : decode cX6_fullest 7 = .ok (.if_icmp .ge 54, 3) := by decide +kernel
theorem dX6_fullest_10 : decode cX6_fullest 10 = .ok (.aload_n 0, 1) := by decide +kernel
theorem dX6_fullest_11 : decode cX6_fullest 11 = .ok (.getfield 7, 3) := by decide +kernel
theorem dX6_fullest_14 : decode cX6_fullest 14 = .ok (.iconst 4, 1) := by decide +kernel
theorem dX6_fullest_15 : decode cX6_fullest 15 = .ok (.iload_n 2, 1) := by decide +kernel
theorem dX6_fullest_16 : decode cX6_fullest 16 = .ok (.iadd, 1) := by decide +kernel
theorem dX6_fullest_17 : decode cX6_fullest 17 = .ok (.iaload, 1) := by decide +kernel
theorem dX6_fullest_18 : decode cX6_fullest 18 = .ok (.aload_n 0, 1) := by decide +kernel
theorem dX6_fullest_19 : decode cX6_fullest 19 = .ok (.getfield 7, 3) := by decide +kernel
theorem dX6_fullest_22 : decode cX6_fullest 22 = .ok (.bipush 10, 2) := by decide +kernel
theorem dX6_fullest_24 : decode cX6_fullest 24 = .ok (.iload_n 2, 1) := by decide +kernel
theorem dX6_fullest_25 : decode cX6_fullest 25 = .ok (.iadd, 1) := by decide +kernel
theorem dX6_fullest_26 : decode cX6_fullest 26 = .ok (.iaload, 1) := by decide +kernel
theorem dX6_fullest_27 : decode cX6_fullest 27 = .ok (.isub, 1) := by decide +kernel
theorem dX6_fullest_28 : decode cX6_fullest 28 = .ok (.aload_n 0, 1) := by decide +kernel
theorem dX6_fullest_29 : decode cX6_fullest 29 = .ok (.getfield 7, 3) := by decide +kernel
theorem dX6_fullest_32 : decode cX6_fullest 32 = .ok (.iconst 4, 1) := by decide +kernel
theorem dX6_fullest_33 : decode cX6_fullest 33 = .ok (.iload_n 1, 1) := by decide +kernel
theorem dX6_fullest_34 : decode cX6_fullest 34 = .ok (.iadd, 1) := by decide +kernel
theorem dX6_fullest_35 : decode cX6_fullest 35 = .ok (.iaload, 1) := by decide +kernel
theorem dX6_fullest_36 : decode cX6_fullest 36 = .ok (.aload_n 0, 1) := by decide +kernel
theorem dX6_fullest_37 : decode cX6_fullest 37 = .ok (.getfield 7, 3) := by decide +kernel
theorem dX6_fullest_40 : decode cX6_fullest 40 = .ok (.bipush 10, 2) := by decide +kernel
theorem dX6_fullest_42 : decode cX6_fullest 42 = .ok (.iload_n 1, 1) := by decide +kernel
theorem dX6_fullest_43 : decode cX6_fullest 43 = .ok (.iadd, 1) := by decide +kernel
theorem dX6_fullest_44 : decode cX6_fullest 44 = .ok (.iaload, 1) := by decide +kernel
theorem dX6_fullest_45 : decode cX6_fullest 45 = .ok (.isub, 1) := by decide +kernel
theorem dX6_fullest_46 : decode cX6_fullest 46 = .ok (.if_icmp .ge 7, 3) := by decide +kernel
theorem dX6_fullest_49 : decode cX6_fullest 49 = .ok (.iload_n 2, 1) := by decide +kernel
theorem dX6_fullest_50 : decode cX6_fullest 50 = .ok (.goto 4, 3) := by decide +kernel
theorem dX6_fullest_53 : decode cX6_fullest 53 = .ok (.iload_n 1, 1) := by decide +kernel
theorem dX6_fullest_54 : decode cX6_fullest 54 = .ok (.istore_n 1, 1) := by decide +kernel
theorem dX6_fullest_55 : decode cX6_fullest 55 = .ok (.iinc 2 1, 3) := by decide +kernel
theorem dX6_fullest_58 : decode cX6_fullest 58 = .ok (.goto (-54), 3) := by decide +kernel
theorem dX6_fullest_61 : decode cX6_fullest 61 = .ok (.iload_n 1, 1) := by decide +kernel
theorem dX6_fullest_62 : decode cX6_fullest 62 = .ok (.ireturn, 1) := by decide +kernel
theorem dX6_count_0 : decode cX6_count 0 = .ok (.iload_n 1, 1) := by decide +kernel
theorem dX6_count_1 : decode cX6_count 1 = .ok (.tableswitch 134 0 12 #[67, 74, 81, 87, 93, 99, 81, 81, 105, 110, 117, 124, 129], 67) := by decide +kernel
theorem dX6_count_68 : decode cX6_count 68 = .ok (.aload_n 0, 1) := by decide +kernel
theorem dX6_count_69 : decode cX6_count 69 = .ok (.getfield 7, 3) := by decide +kernel
theorem dX6_count_72 : decode cX6_count 72 = .ok (.iconst 2, 1) := by decide +kernel
theorem dX6_count_73 : decode cX6_count 73 = .ok (.iaload, 1) := by decide +kernel
theorem dX6_count_74 : decode cX6_count 74 = .ok (.ireturn, 1) := by decide +kernel
theorem dX6_count_75 : decode cX6_count 75 = .ok (.aload_n 0, 1) := by decide +kernel
theorem dX6_count_76 : decode cX6_count 76 = .ok (.getfield 7, 3) := by decide +kernel
theorem dX6_count_79 : decode cX6_count 79 = .ok (.iconst 3, 1) := by decide +kernel
theorem dX6_count_80 : decode cX6_count 80 = .ok (.iaload, 1) := by decide +kernel
theorem dX6_count_81 : decode cX6_count 81 = .ok (.ireturn, 1) := by decide +kernel
theorem dX6_count_82 : decode cX6_count 82 = .ok (.aload_n 0, 1) := by decide +kernel
theorem dX6_count_83 : decode cX6_count 83 = .ok (.iload_n 1, 1) := by decide +kernel
theorem dX6_count_84 : decode cX6_count 84 = .ok (.invokevirtual 162, 3) := by decide +kernel
theorem dX6_count_87 : decode cX6_count 87 = .ok (.ireturn, 1) := by decide +kernel
theorem dX6_count_88 : decode cX6_count 88 = .ok (.aload_n 0, 1) := by decide +kernel
theorem dX6_count_89 : decode cX6_count 89 = .ok (.iconst 0, 1) := by decide +kernel
theorem dX6_count_90 : decode cX6_count 90 = .ok (.invokevirtual 109, 3) := by decide +kernel
theorem dX6_count_93 : decode cX6_count 93 = .ok (.ireturn, 1) := by decide +kernel
theorem dX6_count_94 : decode cX6_count 94 = .ok (.aload_n 0, 1) := by decide +kernel
theorem dX6_count_95 : decode cX6_count 95 = .ok (.iconst 1, 1) := by decide +kernel
theorem dX6_count_96 : decode cX6_count 96 = .ok (.invokevirtual 165, 3) := by decide +kernel
theorem dX6_count_99 : decode cX6_count 99 = .ok (.ireturn, 1) := by decide +kernel
theorem dX6_count_100 : decode cX6_count 100 = .ok (.aload_n 0, 1) := by decide +kernel
theorem dX6_count_101 : decode cX6_count 101 = .ok (.iconst 0, 1) := by decide +kernel
theorem dX6_count_102 : decode cX6_count 102 = .ok (.invokevirtual 165, 3) := by decide +kernel
theorem dX6_count_105 : decode cX6_count 105 = .ok (.ireturn, 1) := by decide +kernel
theorem dX6_count_106 : decode cX6_count 106 = .ok (.aload_n 0, 1) := by decide +kernel
theorem dX6_count_107 : decode cX6_count 107 = .ok (.invokevirtual 169, 3) := by decide +kernel
theorem dX6_count_110 : decode cX6_count 110 = .ok (.ireturn, 1) := by decide +kernel
theorem dX6_count_111 : decode cX6_count 111 = .ok (.aload_n 0, 1) := by decide +kernel
theorem dX6_count_112 : decode cX6_count 112 = .ok (.getfield 7, 3) := by decide +kernel
theorem dX6_count_115 : decode cX6_count 115 = .ok (.iconst 0, 1) := by decide +kernel
theorem dX6_count_116 : decode cX6_count 116 = .ok (.iaload, 1) := by decide +kernel
theorem dX6_count_117 : decode cX6_count 117 = .ok (.ireturn, 1) := by decide +kernel
theorem dX6_count_118 : decode cX6_count 118 = .ok (.aload_n 0, 1) := by decide +kernel
theorem dX6_count_119 : decode cX6_count 119 = .ok (.getfield 7, 3) := by decide +kernel
theorem dX6_count_122 : decode cX6_count 122 = .ok (.iconst 1, 1) := by decide +kernel
theorem dX6_count_123 : decode cX6_count 123 = .ok (.iaload, 1) := by decide +kernel
theorem dX6_count_124 : decode cX6_count 124 = .ok (.ireturn, 1) := by decide +kernel
theorem dX6_count_125 : decode cX6_count 125 = .ok (.aload_n 0, 1) := by decide +kernel
theorem dX6_count_126 : decode cX6_count 126 = .ok (.getfield 20, 3) := by decide +kernel
theorem dX6_count_129 : decode cX6_count 129 = .ok (.ireturn, 1) := by decide +kernel
theorem dX6_count_130 : decode cX6_count 130 = .ok (.aload_n 0, 1) := by decide +kernel
theorem dX6_count_131 : decode cX6_count 131 = .ok (.getfield 112, 3) := by decide +kernel
theorem dX6_count_134 : decode cX6_count 134 = .ok (.ireturn, 1) := by decide +kernel
theorem dX6_count_135 : decode cX6_count 135 = .ok (.ldc 74, 2) := by decide +kernel
theorem dX6_count_137 : decode cX6_count 137 = .ok (.ireturn, 1) := by decide +kernel
theorem dX6_most_0 : decode cX6_most 0 = .ok (.aload_n 0, 1) := by decide +kernel
theorem dX6_most_1 : decode cX6_most 1 = .ok (.iload_n 1, 1) := by decide +kernel
theorem dX6_most_2 : decode cX6_most 2 = .ok (.invokevirtual 79, 3) := by decide +kernel
theorem dX6_most_5 : decode cX6_most 5 = .ok (.ifCond .eq 15, 3) := by decide +kernel
theorem dX6_most_8 : decode cX6_most 8 = .ok (.aload_n 0, 1) := by decide +kernel
theorem dX6_most_9 : decode cX6_most 9 = .ok (.iconst 0, 1) := by decide +kernel
theorem dX6_most_10 : decode cX6_most 10 = .ok (.iload_n 1, 1) := by decide +kernel
theorem dX6_most_11 : decode cX6_most 11 = .ok (.iload_n 2, 1) := by decide +kernel
theorem dX6_most_12 : decode cX6_most 12 = .ok (.bipush 99, 2) := by decide +kernel
theorem dX6_most_14 : decode cX6_most 14 = .ok (.invokevirtual 61, 3) := by decide +kernel
theorem dX6_most_17 : decode cX6_most 17 = .ok (.goto 5, 3) := by decide +kernel
theorem dX6_most_20 : decode cX6_most 20 = .ok (.ldc 73, 2) := by decide +kernel
theorem dX6_most_22 : decode cX6_most 22 = .ok (.ireturn, 1) := by decide +kernel
theorem dX6_emptyIn_0 : decode cX6_emptyIn 0 = .ok (.aload_n 0, 1) := by decide +kernel
theorem dX6_emptyIn_1 : decode cX6_emptyIn 1 = .ok (.iconst 0, 1) := by decide +kernel
theorem dX6_emptyIn_2 : decode cX6_emptyIn 2 = .ok (.bipush 7, 2) := by decide +kernel
theorem dX6_emptyIn_4 : decode cX6_emptyIn 4 = .ok (.invokevirtual 24, 3) := by decide +kernel
theorem dX6_emptyIn_7 : decode cX6_emptyIn 7 = .ok (.iconst 0, 1) := by decide +kernel
theorem dX6_emptyIn_8 : decode cX6_emptyIn 8 = .ok (.istore_n 1, 1) := by decide +kernel
theorem dX6_emptyIn_9 : decode cX6_emptyIn 9 = .ok (.iload_n 1, 1) := by decide +kernel
theorem dX6_emptyIn_10 : decode cX6_emptyIn 10 = .ok (.sipush 300, 3) := by decide +kernel
theorem dX6_emptyIn_13 : decode cX6_emptyIn 13 = .ok (.if_icmp .gt 27, 3) := by decide +kernel
theorem dX6_emptyIn_16 : decode cX6_emptyIn 16 = .ok (.aload_n 0, 1) := by decide +kernel
theorem dX6_emptyIn_17 : decode cX6_emptyIn 17 = .ok (.sipush 1792, 3) := by decide +kernel
theorem dX6_emptyIn_20 : decode cX6_emptyIn 20 = .ok (.invokevirtual 109, 3) := by decide +kernel
theorem dX6_emptyIn_23 : decode cX6_emptyIn 23 = .ok (.ifCond .le 17, 3) := by decide +kernel
theorem dX6_emptyIn_26 : decode cX6_emptyIn 26 = .ok (.aload_n 0, 1) := by decide +kernel
theorem dX6_emptyIn_27 : decode cX6_emptyIn 27 = .ok (.sipush 1792, 3) := by decide +kernel
theorem dX6_emptyIn_30 : decode cX6_emptyIn 30 = .ok (.invokevirtual 106, 3) := by decide +kernel
theorem dX6_emptyIn_33 : decode cX6_emptyIn 33 = .ok (.pop, 1) := by decide +kernel
theorem dX6_emptyIn_34 : decode cX6_emptyIn 34 = .ok (.iinc 1 1, 3) := by decide +kernel
theorem dX6_emptyIn_37 : decode cX6_emptyIn 37 = .ok (.goto (-28), 3) := by decide +kernel
theorem dX6_emptyIn_40 : decode cX6_emptyIn 40 = .ok (.iload_n 1, 1) := by decide +kernel
theorem dX6_emptyIn_41 : decode cX6_emptyIn 41 = .ok (.sipush 300, 3) := by decide +kernel
theorem dX6_emptyIn_44 : decode cX6_emptyIn 44 = .ok (.if_icmp .le 8, 3) := by decide +kernel
theorem dX6_emptyIn_47 : decode cX6_emptyIn 47 = .ok (.ldc 56, 2) := by decide +kernel
theorem dX6_emptyIn_49 : decode cX6_emptyIn 49 = .ok (.goto 4, 3) := by decide +kernel
theorem dX6_emptyIn_52 : decode cX6_emptyIn 52 = .ok (.iload_n 1, 1) := by decide +kernel
theorem dX6_emptyIn_53 : decode cX6_emptyIn 53 = .ok (.ireturn, 1) := by decide +kernel
theorem dX6_leftWithout_0 : decode cX6_leftWithout 0 = .ok (.aload_n 0, 1) := by decide +kernel
theorem dX6_leftWithout_1 : decode cX6_leftWithout 1 = .ok (.iload_n 1, 1) := by decide +kernel
theorem dX6_leftWithout_2 : decode cX6_leftWithout 2 = .ok (.invokevirtual 79, 3) := by decide +kernel
theorem dX6_leftWithout_5 : decode cX6_leftWithout 5 = .ok (.ifCond .ne 6, 3) := by decide +kernel
theorem dX6_leftWithout_8 : decode cX6_leftWithout 8 = .ok (.ldc 73, 2) := by decide +kernel
theorem dX6_leftWithout_10 : decode cX6_leftWithout 10 = .ok (.ireturn, 1) := by decide +kernel
theorem dX6_leftWithout_11 : decode cX6_leftWithout 11 = .ok (.iload_n 2, 1) := by decide +kernel
theorem dX6_leftWithout_12 : decode cX6_leftWithout 12 = .ok (.iconst 1, 1) := by decide +kernel
theorem dX6_leftWithout_13 : decode cX6_leftWithout 13 = .ok (.bipush 99, 2) := by decide +kernel
theorem dX6_leftWithout_15 : decode cX6_leftWithout 15 = .ok (.invokestatic 28, 3) := by decide +kernel
theorem dX6_leftWithout_18 : decode cX6_leftWithout 18 = .ok (.ifCond .ne 6, 3) := by decide +kernel
theorem dX6_leftWithout_21 : decode cX6_leftWithout 21 = .ok (.ldc 74, 2) := by decide +kernel
theorem dX6_leftWithout_23 : decode cX6_leftWithout 23 = .ok (.ireturn, 1) := by decide +kernel
theorem dX6_leftWithout_24 : decode cX6_leftWithout 24 = .ok (.aload_n 0, 1) := by decide +kernel
theorem dX6_leftWithout_25 : decode cX6_leftWithout 25 = .ok (.iconst 0, 1) := by decide +kernel
theorem dX6_leftWithout_26 : decode cX6_leftWithout 26 = .ok (.bipush 7, 2) := by decide +kernel
theorem dX6_leftWithout_28 : decode cX6_leftWithout 28 = .ok (.invokevirtual 24, 3) := by decide +kernel
theorem dX6_leftWithout_31 : decode cX6_leftWithout 31 = .ok (.aload_n 0, 1) := by decide +kernel
theorem dX6_leftWithout_32 : decode cX6_leftWithout 32 = .ok (.getfield 7, 3) := by decide +kernel
theorem dX6_leftWithout_35 : decode cX6_leftWithout 35 = .ok (.sipush 1792, 3) := by decide +kernel
theorem dX6_leftWithout_38 : decode cX6_leftWithout 38 = .ok (.iload_n 1, 1) := by decide +kernel
theorem dX6_leftWithout_39 : decode cX6_leftWithout 39 = .ok (.invokestatic 32, 3) := by decide +kernel
theorem dX6_leftWithout_42 : decode cX6_leftWithout 42 = .ok (.iconst 2, 1) := by decide +kernel
theorem dX6_leftWithout_43 : decode cX6_leftWithout 43 = .ok (.iadd, 1) := by decide +kernel
theorem dX6_leftWithout_44 : decode cX6_leftWithout 44 = .ok (.iconst 3, 1) := by decide +kernel
theorem dX6_leftWithout_45 : decode cX6_leftWithout 45 = .ok (.iastore, 1) := by decide +kernel
theorem dX6_leftWithout_46 : decode cX6_leftWithout 46 = .ok (.iconst 0, 1) := by decide +kernel
theorem dX6_leftWithout_47 : decode cX6_leftWithout 47 = .ok (.istore_n 3, 1) := by decide +kernel
theorem dX6_leftWithout_48 : decode cX6_leftWithout 48 = .ok (.iload_n 3, 1) := by decide +kernel
theorem dX6_leftWithout_49 : decode cX6_leftWithout 49 = .ok (.iload_n 2, 1) := by decide +kernel
theorem dX6_leftWithout_50 : decode cX6_leftWithout 50 = .ok (.if_icmp .ge 17, 3) := by decide +kernel
theorem dX6_leftWithout_53 : decode cX6_leftWithout 53 = .ok (.aload_n 0, 1) := by decide +kernel
theorem dX6_leftWithout_54 : decode cX6_leftWithout 54 = .ok (.sipush 1792, 3) := by decide +kernel
theorem dX6_leftWithout_57 : decode cX6_leftWithout 57 = .ok (.invokevirtual 106, 3) := by decide +kernel
theorem dX6_leftWithout_60 : decode cX6_leftWithout 60 = .ok (.pop, 1) := by decide +kernel
theorem dX6_leftWithout_61 : decode cX6_leftWithout 61 = .ok (.iinc 3 1, 3) := by decide +kernel
theorem dX6_leftWithout_64 : decode cX6_leftWithout 64 = .ok (.goto (-16), 3) := by decide +kernel
theorem dX6_leftWithout_67 : decode cX6_leftWithout 67 = .ok (.aload_n 0, 1) := by decide +kernel
theorem dX6_leftWithout_68 : decode cX6_leftWithout 68 = .ok (.sipush 1792, 3) := by decide +kernel
theorem dX6_leftWithout_71 : decode cX6_leftWithout 71 = .ok (.invokevirtual 109, 3) := by decide +kernel
theorem dX6_leftWithout_74 : decode cX6_leftWithout 74 = .ok (.ireturn, 1) := by decide +kernel
theorem dX6_fullness_0 : decode cX6_fullness 0 = .ok (.iconst 0, 1) := by decide +kernel
theorem dX6_fullness_1 : decode cX6_fullness 1 = .ok (.istore_n 1, 1) := by decide +kernel
theorem dX6_fullness_2 : decode cX6_fullness 2 = .ok (.iconst 1, 1) := by decide +kernel
theorem dX6_fullness_3 : decode cX6_fullness 3 = .ok (.istore_n 2, 1) := by decide +kernel
theorem dX6_fullness_4 : decode cX6_fullness 4 = .ok (.iload_n 2, 1) := by decide +kernel
theorem dX6_fullness_5 : decode cX6_fullness 5 = .ok (.bipush 6, 2) := by decide +kernel
theorem dX6_fullness_7 : decode cX6_fullness 7 = .ok (.if_icmp .ge 20, 3) := by decide +kernel
theorem dX6_fullness_10 : decode cX6_fullness 10 = .ok (.iload_n 1, 1) := by decide +kernel
theorem dX6_fullness_11 : decode cX6_fullness 11 = .ok (.aload_n 0, 1) := by decide +kernel
theorem dX6_fullness_12 : decode cX6_fullness 12 = .ok (.getfield 7, 3) := by decide +kernel
theorem dX6_fullness_15 : decode cX6_fullness 15 = .ok (.iconst 4, 1) := by decide +kernel
theorem dX6_fullness_16 : decode cX6_fullness 16 = .ok (.iload_n 2, 1) := by decide +kernel
theorem dX6_fullness_17 : decode cX6_fullness 17 = .ok (.iadd, 1) := by decide +kernel
theorem dX6_fullness_18 : decode cX6_fullness 18 = .ok (.iaload, 1) := by decide +kernel
theorem dX6_fullness_19 : decode cX6_fullness 19 = .ok (.iadd, 1) := by decide +kernel
theorem dX6_fullness_20 : decode cX6_fullness 20 = .ok (.istore_n 1, 1) := by decide +kernel
theorem dX6_fullness_21 : decode cX6_fullness 21 = .ok (.iinc 2 1, 3) := by decide +kernel
theorem dX6_fullness_24 : decode cX6_fullness 24 = .ok (.goto (-20), 3) := by decide +kernel
theorem dX6_fullness_27 : decode cX6_fullness 27 = .ok (.aload_n 0, 1) := by decide +kernel
theorem dX6_fullness_28 : decode cX6_fullness 28 = .ok (.iconst 0, 1) := by decide +kernel
theorem dX6_fullness_29 : decode cX6_fullness 29 = .ok (.invokevirtual 109, 3) := by decide +kernel
theorem dX6_fullness_32 : decode cX6_fullness 32 = .ok (.i2d, 1) := by decide +kernel
theorem dX6_fullness_33 : decode cX6_fullness 33 = .ok (.iload_n 1, 1) := by decide +kernel
theorem dX6_fullness_34 : decode cX6_fullness 34 = .ok (.i2d, 1) := by decide +kernel
theorem dX6_fullness_35 : decode cX6_fullness 35 = .ok (.ddiv, 1) := by decide +kernel
theorem dX6_fullness_36 : decode cX6_fullness 36 = .ok (.dreturn, 1) := by decide +kernel
theorem dL_law_0 : decode cL_law 0 = .ok (.new 7, 3) := by decide +kernel
theorem dL_law_3 : decode cL_law 3 = .ok (.dup, 1) := by decide +kernel
theorem dL_law_4 : decode cL_law 4 = .ok (.invokespecial 9, 3) := by decide +kernel
theorem dL_law_7 : decode cL_law 7 = .ok (.astore_n 1, 1) := by decide +kernel
theorem dL_law_8 : decode cL_law 8 = .ok (.new 10, 3) := by decide +kernel
theorem dL_law_11 : decode cL_law 11 = .ok (.dup, 1) := by decide +kernel
theorem dL_law_12 : decode cL_law 12 = .ok (.invokespecial 12, 3) := by decide +kernel
theorem dL_law_15 : decode cL_law 15 = .ok (.astore_n 2, 1) := by decide +kernel
theorem dL_law_16 : decode cL_law 16 = .ok (.iconst 0, 1) := by decide +kernel
theorem dL_law_17 : decode cL_law 17 = .ok (.istore_n 3, 1) := by decide +kernel
theorem dL_law_18 : decode cL_law 18 = .ok (.iload_n 3, 1) := by decide +kernel
theorem dL_law_19 : decode cL_law 19 = .ok (.aload_n 0, 1) := by decide +kernel
theorem dL_law_20 : decode cL_law 20 = .ok (.arraylength, 1) := by decide +kernel
theorem dL_law_21 : decode cL_law 21 = .ok (.iconst 4, 1) := by decide +kernel
theorem dL_law_22 : decode cL_law 22 = .ok (.isub, 1) := by decide +kernel
theorem dL_law_23 : decode cL_law 23 = .ok (.if_icmp .gt 916, 3) := by decide +kernel
theorem dL_law_26 : decode cL_law 26 = .ok (.aload_n 0, 1) := by decide +kernel
theorem dL_law_27 : decode cL_law 27 = .ok (.iload_n 3, 1) := by decide +kernel
theorem dL_law_28 : decode cL_law 28 = .ok (.iaload, 1) := by decide +kernel
theorem dL_law_29 : decode cL_law 29 = .ok (.bipush 31, 2) := by decide +kernel
theorem dL_law_31 : decode cL_law 31 = .ok (.iand, 1) := by decide +kernel
theorem dL_law_32 : decode cL_law 32 = .ok (.tableswitch 901 0 26 #[124, 157, 190, 223, 266, 325, 348, 371, 394, 417, 450, 473, 486, 499, 512, 525, 538, 551, 584, 617, 660, 719, 742, 765, 814, 827, 860], 124) := by decide +kernel
theorem dL_law_156 : decode cL_law 156 = .ok (.aload_n 1, 1) := by decide +kernel
theorem dL_law_157 : decode cL_law 157 = .ok (.aload_n 0, 1) := by decide +kernel
theorem dL_law_158 : decode cL_law 158 = .ok (.iload_n 3, 1) := by decide +kernel
theorem dL_law_159 : decode cL_law 159 = .ok (.iconst 1, 1) := by decide +kernel
theorem dL_law_160 : decode cL_law 160 = .ok (.iadd, 1) := by decide +kernel
theorem dL_law_161 : decode cL_law 161 = .ok (.iaload, 1) := by decide +kernel
theorem dL_law_162 : decode cL_law 162 = .ok (.aload_n 0, 1) := by decide +kernel
theorem dL_law_163 : decode cL_law 163 = .ok (.iload_n 3, 1) := by decide +kernel
theorem dL_law_164 : decode cL_law 164 = .ok (.iconst 2, 1) := by decide +kernel
theorem dL_law_165 : decode cL_law 165 = .ok (.iadd, 1) := by decide +kernel
theorem dL_law_166 : decode cL_law 166 = .ok (.iaload, 1) := by decide +kernel
theorem dL_law_167 : decode cL_law 167 = .ok (.invokevirtual 13, 3) := by decide +kernel
theorem dL_law_170 : decode cL_law 170 = .ok (.aload_n 2, 1) := by decide +kernel
theorem dL_law_171 : decode cL_law 171 = .ok (.aload_n 0, 1) := by decide +kernel
theorem dL_law_172 : decode cL_law 172 = .ok (.iload_n 3, 1) := by decide +kernel
theorem dL_law_173 : decode cL_law 173 = .ok (.iconst 1, 1) := by decide +kernel
theorem dL_law_174 : decode cL_law 174 = .ok (.iadd, 1) := by decide +kernel
theorem dL_law_175 : decode cL_law 175 = .ok (.iaload, 1) := by decide +kernel
theorem dL_law_176 : decode cL_law 176 = .ok (.aload_n 0, 1) := by decide +kernel
theorem dL_law_177 : decode cL_law 177 = .ok (.iload_n 3, 1) := by decide +kernel
theorem dL_law_178 : decode cL_law 178 = .ok (.iconst 2, 1) := by decide +kernel
theorem dL_law_179 : decode cL_law 179 = .ok (.iadd, 1) := by decide +kernel
theorem dL_law_180 : decode cL_law 180 = .ok (.iaload, 1) := by decide +kernel
theorem dL_law_181 : decode cL_law 181 = .ok (.invokevirtual 17, 3) := by decide +kernel
theorem dL_law_184 : decode cL_law 184 = .ok (.if_icmp .eq 749, 3) := by decide +kernel
theorem dL_law_187 : decode cL_law 187 = .ok (.iconst 0, 1) := by decide +kernel
theorem dL_law_188 : decode cL_law 188 = .ok (.ireturn, 1) := by decide +kernel
theorem dL_law_189 : decode cL_law 189 = .ok (.aload_n 1, 1) := by decide +kernel
theorem dL_law_190 : decode cL_law 190 = .ok (.aload_n 0, 1) := by decide +kernel
theorem dL_law_191 : decode cL_law 191 = .ok (.iload_n 3, 1) := by decide +kernel
theorem dL_law_192 : decode cL_law 192 = .ok (.iconst 1, 1) := by decide +kernel
theorem dL_law_193 : decode cL_law 193 = .ok (.iadd, 1) := by decide +kernel
theorem dL_law_194 : decode cL_law 194 = .ok (.iaload, 1) := by decide +kernel
theorem dL_law_195 : decode cL_law 195 = .ok (.aload_n 0, 1) := by decide +kernel
theorem dL_law_196 : decode cL_law 196 = .ok (.iload_n 3, 1) := by decide +kernel
theorem dL_law_197 : decode cL_law 197 = .ok (.iconst 2, 1) := by decide +kernel
theorem dL_law_198 : decode cL_law 198 = .ok (.iadd, 1) := by decide +kernel
theorem dL_law_199 : decode cL_law 199 = .ok (.iaload, 1) := by decide +kernel
theorem dL_law_200 : decode cL_law 200 = .ok (.invokevirtual 18, 3) := by decide +kernel
theorem dL_law_203 : decode cL_law 203 = .ok (.aload_n 2, 1) := by decide +kernel
theorem dL_law_204 : decode cL_law 204 = .ok (.aload_n 0, 1) := by decide +kernel
theorem dL_law_205 : decode cL_law 205 = .ok (.iload_n 3, 1) := by decide +kernel
theorem dL_law_206 : decode cL_law 206 = .ok (.iconst 1, 1) := by decide +kernel
theorem dL_law_207 : decode cL_law 207 = .ok (.iadd, 1) := by decide +kernel
theorem dL_law_208 : decode cL_law 208 = .ok (.iaload, 1) := by decide +kernel
theorem dL_law_209 : decode cL_law 209 = .ok (.aload_n 0, 1) := by decide +kernel
theorem dL_law_210 : decode cL_law 210 = .ok (.iload_n 3, 1) := by decide +kernel
theorem dL_law_211 : decode cL_law 211 = .ok (.iconst 2, 1) := by decide +kernel
theorem dL_law_212 : decode cL_law 212 = .ok (.iadd, 1) := by decide +kernel
theorem dL_law_213 : decode cL_law 213 = .ok (.iaload, 1) := by decide +kernel
theorem dL_law_214 : decode cL_law 214 = .ok (.invokevirtual 21, 3) := by decide +kernel
theorem dL_law_217 : decode cL_law 217 = .ok (.if_icmp .eq 716, 3) := by decide +kernel
theorem dL_law_220 : decode cL_law 220 = .ok (.iconst 0, 1) := by decide +kernel
theorem dL_law_221 : decode cL_law 221 = .ok (.ireturn, 1) := by decide +kernel
theorem dL_law_222 : decode cL_law 222 = .ok (.aload_n 1, 1) := by decide +kernel
theorem dL_law_223 : decode cL_law 223 = .ok (.aload_n 0, 1) := by decide +kernel
theorem dL_law_224 : decode cL_law 224 = .ok (.iload_n 3, 1) := by decide +kernel
theorem dL_law_225 : decode cL_law 225 = .ok (.iconst 1, 1) := by decide +kernel
theorem dL_law_226 : decode cL_law 226 = .ok (.iadd, 1) := by decide +kernel
theorem dL_law_227 : decode cL_law 227 = .ok (.iaload, 1) := by decide +kernel
theorem dL_law_228 : decode cL_law 228 = .ok (.aload_n 0, 1) := by decide +kernel
theorem dL_law_229 : decode cL_law 229 = .ok (.iload_n 3, 1) := by decide +kernel
theorem dL_law_230 : decode cL_law 230 = .ok (.iconst 2, 1) := by decide +kernel
theorem dL_law_231 : decode cL_law 231 = .ok (.iadd, 1) := by decide +kernel
theorem dL_law_232 : decode cL_law 232 = .ok (.iaload, 1) := by decide +kernel
theorem dL_law_233 : decode cL_law 233 = .ok (.invokevirtual 22, 3) := by decide +kernel
theorem dL_law_236 : decode cL_law 236 = .ok (.aload_n 2, 1) := by decide +kernel
theorem dL_law_237 : decode cL_law 237 = .ok (.aload_n 0, 1) := by decide +kernel
theorem dL_law_238 : decode cL_law 238 = .ok (.iload_n 3, 1) := by decide +kernel
theorem dL_law_239 : decode cL_law 239 = .ok (.iconst 1, 1) := by decide +kernel
theorem dL_law_240 : decode cL_law 240 = .ok (.iadd, 1) := by decide +kernel
theorem dL_law_241 : decode cL_law 241 = .ok (.iaload, 1) := by decide +kernel
theorem dL_law_242 : decode cL_law 242 = .ok (.aload_n 0, 1) := by decide +kernel
theorem dL_law_243 : decode cL_law 243 = .ok (.iload_n 3, 1) := by decide +kernel
theorem dL_law_244 : decode cL_law 244 = .ok (.iconst 2, 1) := by decide +kernel
theorem dL_law_245 : decode cL_law 245 = .ok (.iadd, 1) := by decide +kernel
theorem dL_law_246 : decode cL_law 246 = .ok (.iaload, 1) := by decide +kernel
theorem dL_law_247 : decode cL_law 247 = .ok (.invokevirtual 25, 3) := by decide +kernel
theorem dL_law_250 : decode cL_law 250 = .ok (.if_icmp .eq 683, 3) := by decide +kernel
theorem dL_law_253 : decode cL_law 253 = .ok (.iconst 0, 1) := by decide +kernel
theorem dL_law_254 : decode cL_law 254 = .ok (.ireturn, 1) := by decide +kernel
theorem dL_law_255 : decode cL_law 255 = .ok (.aload_n 1, 1) := by decide +kernel
theorem dL_law_256 : decode cL_law 256 = .ok (.aload_n 0, 1) := by decide +kernel
theorem dL_law_257 : decode cL_law 257 = .ok (.iload_n 3, 1) := by decide +kernel
theorem dL_law_258 : decode cL_law 258 = .ok (.iconst 1, 1) := by decide +kernel
theorem dL_law_259 : decode cL_law 259 = .ok (.iadd, 1) := by decide +kernel
theorem dL_law_260 : decode cL_law 260 = .ok (.iaload, 1) := by decide +kernel
theorem dL_law_261 : decode cL_law 261 = .ok (.aload_n 0, 1) := by decide +kernel
theorem dL_law_262 : decode cL_law 262 = .ok (.iload_n 3, 1) := by decide +kernel
theorem dL_law_263 : decode cL_law 263 = .ok (.iconst 2, 1) := by decide +kernel
theorem dL_law_264 : decode cL_law 264 = .ok (.iadd, 1) := by decide +kernel
theorem dL_law_265 : decode cL_law 265 = .ok (.iaload, 1) := by decide +kernel
theorem dL_law_266 : decode cL_law 266 = .ok (.aload_n 0, 1) := by decide +kernel
theorem dL_law_267 : decode cL_law 267 = .ok (.iload_n 3, 1) := by decide +kernel
theorem dL_law_268 : decode cL_law 268 = .ok (.iconst 3, 1) := by decide +kernel
theorem dL_law_269 : decode cL_law 269 = .ok (.iadd, 1) := by decide +kernel
theorem dL_law_270 : decode cL_law 270 = .ok (.iaload, 1) := by decide +kernel
theorem dL_law_271 : decode cL_law 271 = .ok (.invokevirtual 26, 3) := by decide +kernel
theorem dL_law_274 : decode cL_law 274 = .ok (.aload_n 2, 1) := by decide +kernel
theorem dL_law_275 : decode cL_law 275 = .ok (.aload_n 0, 1) := by decide +kernel
theorem dL_law_276 : decode cL_law 276 = .ok (.iload_n 3, 1) := by decide +kernel
theorem dL_law_277 : decode cL_law 277 = .ok (.iconst 1, 1) := by decide +kernel
theorem dL_law_278 : decode cL_law 278 = .ok (.iadd, 1) := by decide +kernel
theorem dL_law_279 : decode cL_law 279 = .ok (.iaload, 1) := by decide +kernel
theorem dL_law_280 : decode cL_law 280 = .ok (.aload_n 0, 1) := by decide +kernel
theorem dL_law_281 : decode cL_law 281 = .ok (.iload_n 3, 1) := by decide +kernel
theorem dL_law_282 : decode cL_law 282 = .ok (.iconst 2, 1) := by decide +kernel
theorem dL_law_283 : decode cL_law 283 = .ok (.iadd, 1) := by decide +kernel
theorem dL_law_284 : decode cL_law 284 = .ok (.iaload, 1) := by decide +kernel
theorem dL_law_285 : decode cL_law 285 = .ok (.aload_n 0, 1) := by decide +kernel
theorem dL_law_286 : decode cL_law 286 = .ok (.iload_n 3, 1) := by decide +kernel
theorem dL_law_287 : decode cL_law 287 = .ok (.iconst 3, 1) := by decide +kernel
theorem dL_law_288 : decode cL_law 288 = .ok (.iadd, 1) := by decide +kernel
theorem dL_law_289 : decode cL_law 289 = .ok (.iaload, 1) := by decide +kernel
theorem dL_law_290 : decode cL_law 290 = .ok (.invokevirtual 30, 3) := by decide +kernel
theorem dL_law_293 : decode cL_law 293 = .ok (.if_icmp .eq 640, 3) := by decide +kernel
theorem dL_law_296 : decode cL_law 296 = .ok (.iconst 0, 1) := by decide +kernel
theorem dL_law_297 : decode cL_law 297 = .ok (.ireturn, 1) := by decide +kernel
theorem dL_law_298 : decode cL_law 298 = .ok (.aload_n 1, 1) := by decide +kernel
theorem dL_law_299 : decode cL_law 299 = .ok (.aload_n 0, 1) := by decide +kernel
theorem dL_law_300 : decode cL_law 300 = .ok (.iload_n 3, 1) := by decide +kernel
theorem dL_law_301 : decode cL_law 301 = .ok (.iconst 1, 1) := by decide +kernel
theorem dL_law_302 : decode cL_law 302 = .ok (.iadd, 1) := by decide +kernel
theorem dL_law_303 : decode cL_law 303 = .ok (.iaload, 1) := by decide +kernel
theorem dL_law_304 : decode cL_law 304 = .ok (.aload_n 0, 1) := by decide +kernel
theorem dL_law_305 : decode cL_law 305 = .ok (.iload_n 3, 1) := by decide +kernel
theorem dL_law_306 : decode cL_law 306 = .ok (.iconst 2, 1) := by decide +kernel
theorem dL_law_307 : decode cL_law 307 = .ok (.iadd, 1) := by decide +kernel
theorem dL_law_308 : decode cL_law 308 = .ok (.iaload, 1) := by decide +kernel
theorem dL_law_309 : decode cL_law 309 = .ok (.ifCond .eq 7, 3) := by decide +kernel
theorem dL_law_312 : decode cL_law 312 = .ok (.iconst 1, 1) := by decide +kernel
theorem dL_law_313 : decode cL_law 313 = .ok (.goto 4, 3) := by decide +kernel
theorem dL_law_316 : decode cL_law 316 = .ok (.iconst 0, 1) := by decide +kernel
theorem dL_law_317 : decode cL_law 317 = .ok (.aload_n 0, 1) := by decide +kernel
theorem dL_law_318 : decode cL_law 318 = .ok (.iload_n 3, 1) := by decide +kernel
theorem dL_law_319 : decode cL_law 319 = .ok (.iconst 3, 1) := by decide +kernel
theorem dL_law_320 : decode cL_law 320 = .ok (.iadd, 1) := by decide +kernel
theorem dL_law_321 : decode cL_law 321 = .ok (.iaload, 1) := by decide +kernel
theorem dL_law_322 : decode cL_law 322 = .ok (.invokevirtual 31, 3) := by decide +kernel
theorem dL_law_325 : decode cL_law 325 = .ok (.aload_n 2, 1) := by decide +kernel
theorem dL_law_326 : decode cL_law 326 = .ok (.aload_n 0, 1) := by decide +kernel
theorem dL_law_327 : decode cL_law 327 = .ok (.iload_n 3, 1) := by decide +kernel
theorem dL_law_328 : decode cL_law 328 = .ok (.iconst 1, 1) := by decide +kernel
theorem dL_law_329 : decode cL_law 329 = .ok (.iadd, 1) := by decide +kernel
theorem dL_law_330 : decode cL_law 330 = .ok (.iaload, 1) := by decide +kernel
theorem dL_law_331 : decode cL_law 331 = .ok (.aload_n 0, 1) := by decide +kernel
theorem dL_law_332 : decode cL_law 332 = .ok (.iload_n 3, 1) := by decide +kernel
theorem dL_law_333 : decode cL_law 333 = .ok (.iconst 2, 1) := by decide +kernel
theorem dL_law_334 : decode cL_law 334 = .ok (.iadd, 1) := by decide +kernel
theorem dL_law_335 : decode cL_law 335 = .ok (.iaload, 1) := by decide +kernel
theorem dL_law_336 : decode cL_law 336 = .ok (.ifCond .eq 7, 3) := by decide +kernel
theorem dL_law_339 : decode cL_law 339 = .ok (.iconst 1, 1) := by decide +kernel
theorem dL_law_340 : decode cL_law 340 = .ok (.goto 4, 3) := by decide +kernel
theorem dL_law_343 : decode cL_law 343 = .ok (.iconst 0, 1) := by decide +kernel
theorem dL_law_344 : decode cL_law 344 = .ok (.aload_n 0, 1) := by decide +kernel
theorem dL_law_345 : decode cL_law 345 = .ok (.iload_n 3, 1) := by decide +kernel
theorem dL_law_346 : decode cL_law 346 = .ok (.iconst 3, 1) := by decide +kernel
theorem dL_law_347 : decode cL_law 347 = .ok (.iadd, 1) := by decide +kernel
theorem dL_law_348 : decode cL_law 348 = .ok (.iaload, 1) := by decide +kernel
theorem dL_law_349 : decode cL_law 349 = .ok (.invokevirtual 35, 3) := by decide +kernel
theorem dL_law_352 : decode cL_law 352 = .ok (.if_icmp .eq 581, 3) := by decide +kernel
theorem dL_law_355 : decode cL_law 355 = .ok (.iconst 0, 1) := by decide +kernel
theorem dL_law_356 : decode cL_law 356 = .ok (.ireturn, 1) := by decide +kernel
theorem dL_law_357 : decode cL_law 357 = .ok (.aload_n 1, 1) := by decide +kernel
theorem dL_law_358 : decode cL_law 358 = .ok (.aload_n 0, 1) := by decide +kernel
theorem dL_law_359 : decode cL_law 359 = .ok (.iload_n 3, 1) := by decide +kernel
theorem dL_law_360 : decode cL_law 360 = .ok (.iconst 1, 1) := by decide +kernel
theorem dL_law_361 : decode cL_law 361 = .ok (.iadd, 1) := by decide +kernel
theorem dL_law_362 : decode cL_law 362 = .ok (.iaload, 1) := by decide +kernel
theorem dL_law_363 : decode cL_law 363 = .ok (.invokevirtual 36, 3) := by decide +kernel
theorem dL_law_366 : decode cL_law 366 = .ok (.aload_n 2, 1) := by decide +kernel
theorem dL_law_367 : decode cL_law 367 = .ok (.aload_n 0, 1) := by decide +kernel
theorem dL_law_368 : decode cL_law 368 = .ok (.iload_n 3, 1) := by decide +kernel
theorem dL_law_369 : decode cL_law 369 = .ok (.iconst 1, 1) := by decide +kernel
theorem dL_law_370 : decode cL_law 370 = .ok (.iadd, 1) := by decide +kernel
theorem dL_law_371 : decode cL_law 371 = .ok (.iaload, 1) := by decide +kernel
theorem dL_law_372 : decode cL_law 372 = .ok (.invokevirtual 40, 3) := by decide +kernel
theorem dL_law_375 : decode cL_law 375 = .ok (.if_icmp .eq 558, 3) := by decide +kernel
theorem dL_law_378 : decode cL_law 378 = .ok (.iconst 0, 1) := by decide +kernel
theorem dL_law_379 : decode cL_law 379 = .ok (.ireturn, 1) := by decide +kernel
theorem dL_law_380 : decode cL_law 380 = .ok (.aload_n 1, 1) := by decide +kernel
theorem dL_law_381 : decode cL_law 381 = .ok (.aload_n 0, 1) := by decide +kernel
theorem dL_law_382 : decode cL_law 382 = .ok (.iload_n 3, 1) := by decide +kernel
theorem dL_law_383 : decode cL_law 383 = .ok (.iconst 1, 1) := by decide +kernel
theorem dL_law_384 : decode cL_law 384 = .ok (.iadd, 1) := by decide +kernel
theorem dL_law_385 : decode cL_law 385 = .ok (.iaload, 1) := by decide +kernel
theorem dL_law_386 : decode cL_law 386 = .ok (.invokevirtual 41, 3) := by decide +kernel
theorem dL_law_389 : decode cL_law 389 = .ok (.aload_n 2, 1) := by decide +kernel
theorem dL_law_390 : decode cL_law 390 = .ok (.aload_n 0, 1) := by decide +kernel
theorem dL_law_391 : decode cL_law 391 = .ok (.iload_n 3, 1) := by decide +kernel
theorem dL_law_392 : decode cL_law 392 = .ok (.iconst 1, 1) := by decide +kernel
theorem dL_law_393 : decode cL_law 393 = .ok (.iadd, 1) := by decide +kernel
theorem dL_law_394 : decode cL_law 394 = .ok (.iaload, 1) := by decide +kernel
theorem dL_law_395 : decode cL_law 395 = .ok (.invokevirtual 44, 3) := by decide +kernel
theorem dL_law_398 : decode cL_law 398 = .ok (.if_icmp .eq 535, 3) := by decide +kernel
theorem dL_law_401 : decode cL_law 401 = .ok (.iconst 0, 1) := by decide +kernel
theorem dL_law_402 : decode cL_law 402 = .ok (.ireturn, 1) := by decide +kernel
theorem dL_law_403 : decode cL_law 403 = .ok (.aload_n 1, 1) := by decide +kernel
theorem dL_law_404 : decode cL_law 404 = .ok (.aload_n 0, 1) := by decide +kernel
theorem dL_law_405 : decode cL_law 405 = .ok (.iload_n 3, 1) := by decide +kernel
theorem dL_law_406 : decode cL_law 406 = .ok (.iconst 1, 1) := by decide +kernel
theorem dL_law_407 : decode cL_law 407 = .ok (.iadd, 1) := by decide +kernel
theorem dL_law_408 : decode cL_law 408 = .ok (.iaload, 1) := by decide +kernel
theorem dL_law_409 : decode cL_law 409 = .ok (.invokevirtual 45, 3) := by decide +kernel
theorem dL_law_412 : decode cL_law 412 = .ok (.aload_n 2, 1) := by decide +kernel
theorem dL_law_413 : decode cL_law 413 = .ok (.aload_n 0, 1) := by decide +kernel
theorem dL_law_414 : decode cL_law 414 = .ok (.iload_n 3, 1) := by decide +kernel
theorem dL_law_415 : decode cL_law 415 = .ok (.iconst 1, 1) := by decide +kernel
theorem dL_law_416 : decode cL_law 416 = .ok (.iadd, 1) := by decide +kernel
theorem dL_law_417 : decode cL_law 417 = .ok (.iaload, 1) := by decide +kernel
theorem dL_law_418 : decode cL_law 418 = .ok (.invokevirtual 48, 3) := by decide +kernel
theorem dL_law_421 : decode cL_law 421 = .ok (.if_icmp .eq 512, 3) := by decide +kernel
theorem dL_law_424 : decode cL_law 424 = .ok (.iconst 0, 1) := by decide +kernel
theorem dL_law_425 : decode cL_law 425 = .ok (.ireturn, 1) := by decide +kernel
theorem dL_law_426 : decode cL_law 426 = .ok (.aload_n 1, 1) := by decide +kernel
theorem dL_law_427 : decode cL_law 427 = .ok (.aload_n 0, 1) := by decide +kernel
theorem dL_law_428 : decode cL_law 428 = .ok (.iload_n 3, 1) := by decide +kernel
theorem dL_law_429 : decode cL_law 429 = .ok (.iconst 1, 1) := by decide +kernel
theorem dL_law_430 : decode cL_law 430 = .ok (.iadd, 1) := by decide +kernel
theorem dL_law_431 : decode cL_law 431 = .ok (.iaload, 1) := by decide +kernel
theorem dL_law_432 : decode cL_law 432 = .ok (.invokevirtual 49, 3) := by decide +kernel
theorem dL_law_435 : decode cL_law 435 = .ok (.aload_n 2, 1) := by decide +kernel
theorem dL_law_436 : decode cL_law 436 = .ok (.aload_n 0, 1) := by decide +kernel
theorem dL_law_437 : decode cL_law 437 = .ok (.iload_n 3, 1) := by decide +kernel
theorem dL_law_438 : decode cL_law 438 = .ok (.iconst 1, 1) := by decide +kernel
theorem dL_law_439 : decode cL_law 439 = .ok (.iadd, 1) := by decide +kernel
theorem dL_law_440 : decode cL_law 440 = .ok (.iaload, 1) := by decide +kernel
theorem dL_law_441 : decode cL_law 441 = .ok (.invokevirtual 52, 3) := by decide +kernel
theorem dL_law_444 : decode cL_law 444 = .ok (.if_icmp .eq 489, 3) := by decide +kernel
theorem dL_law_447 : decode cL_law 447 = .ok (.iconst 0, 1) := by decide +kernel
theorem dL_law_448 : decode cL_law 448 = .ok (.ireturn, 1) := by decide +kernel
theorem dL_law_449 : decode cL_law 449 = .ok (.aload_n 1, 1) := by decide +kernel
theorem dL_law_450 : decode cL_law 450 = .ok (.aload_n 0, 1) := by decide +kernel
theorem dL_law_451 : decode cL_law 451 = .ok (.iload_n 3, 1) := by decide +kernel
theorem dL_law_452 : decode cL_law 452 = .ok (.iconst 1, 1) := by decide +kernel
theorem dL_law_453 : decode cL_law 453 = .ok (.iadd, 1) := by decide +kernel
theorem dL_law_454 : decode cL_law 454 = .ok (.iaload, 1) := by decide +kernel
theorem dL_law_455 : decode cL_law 455 = .ok (.aload_n 0, 1) := by decide +kernel
theorem dL_law_456 : decode cL_law 456 = .ok (.iload_n 3, 1) := by decide +kernel
theorem dL_law_457 : decode cL_law 457 = .ok (.iconst 2, 1) := by decide +kernel
theorem dL_law_458 : decode cL_law 458 = .ok (.iadd, 1) := by decide +kernel
theorem dL_law_459 : decode cL_law 459 = .ok (.iaload, 1) := by decide +kernel
theorem dL_law_460 : decode cL_law 460 = .ok (.invokevirtual 53, 3) := by decide +kernel
theorem dL_law_463 : decode cL_law 463 = .ok (.aload_n 2, 1) := by decide +kernel
theorem dL_law_464 : decode cL_law 464 = .ok (.aload_n 0, 1) := by decide +kernel
theorem dL_law_465 : decode cL_law 465 = .ok (.iload_n 3, 1) := by decide +kernel
theorem dL_law_466 : decode cL_law 466 = .ok (.iconst 1, 1) := by decide +kernel
theorem dL_law_467 : decode cL_law 467 = .ok (.iadd, 1) := by decide +kernel
theorem dL_law_468 : decode cL_law 468 = .ok (.iaload, 1) := by decide +kernel
theorem dL_law_469 : decode cL_law 469 = .ok (.aload_n 0, 1) := by decide +kernel
theorem dL_law_470 : decode cL_law 470 = .ok (.iload_n 3, 1) := by decide +kernel
theorem dL_law_471 : decode cL_law 471 = .ok (.iconst 2, 1) := by decide +kernel
theorem dL_law_472 : decode cL_law 472 = .ok (.iadd, 1) := by decide +kernel
theorem dL_law_473 : decode cL_law 473 = .ok (.iaload, 1) := by decide +kernel
theorem dL_law_474 : decode cL_law 474 = .ok (.invokevirtual 56, 3) := by decide +kernel
theorem dL_law_477 : decode cL_law 477 = .ok (.if_icmp .eq 456, 3) := by decide +kernel
theorem dL_law_480 : decode cL_law 480 = .ok (.iconst 0, 1) := by decide +kernel
theorem dL_law_481 : decode cL_law 481 = .ok (.ireturn, 1) := by decide +kernel
theorem dL_law_482 : decode cL_law 482 = .ok (.aload_n 1, 1) := by decide +kernel
theorem dL_law_483 : decode cL_law 483 = .ok (.aload_n 0, 1) := by decide +kernel
theorem dL_law_484 : decode cL_law 484 = .ok (.iload_n 3, 1) := by decide +kernel
theorem dL_law_485 : decode cL_law 485 = .ok (.iconst 1, 1) := by decide +kernel
theorem dL_law_486 : decode cL_law 486 = .ok (.iadd, 1) := by decide +kernel
theorem dL_law_487 : decode cL_law 487 = .ok (.iaload, 1) := by decide +kernel
theorem dL_law_488 : decode cL_law 488 = .ok (.invokevirtual 57, 3) := by decide +kernel
theorem dL_law_491 : decode cL_law 491 = .ok (.aload_n 2, 1) := by decide +kernel
theorem dL_law_492 : decode cL_law 492 = .ok (.aload_n 0, 1) := by decide +kernel
theorem dL_law_493 : decode cL_law 493 = .ok (.iload_n 3, 1) := by decide +kernel
theorem dL_law_494 : decode cL_law 494 = .ok (.iconst 1, 1) := by decide +kernel
theorem dL_law_495 : decode cL_law 495 = .ok (.iadd, 1) := by decide +kernel
theorem dL_law_496 : decode cL_law 496 = .ok (.iaload, 1) := by decide +kernel
theorem dL_law_497 : decode cL_law 497 = .ok (.invokevirtual 60, 3) := by decide +kernel
theorem dL_law_500 : decode cL_law 500 = .ok (.if_icmp .eq 433, 3) := by decide +kernel
theorem dL_law_503 : decode cL_law 503 = .ok (.iconst 0, 1) := by decide +kernel
theorem dL_law_504 : decode cL_law 504 = .ok (.ireturn, 1) := by decide +kernel
theorem dL_law_505 : decode cL_law 505 = .ok (.aload_n 1, 1) := by decide +kernel
theorem dL_law_506 : decode cL_law 506 = .ok (.invokevirtual 61, 3) := by decide +kernel
theorem dL_law_509 : decode cL_law 509 = .ok (.aload_n 2, 1) := by decide +kernel
theorem dL_law_510 : decode cL_law 510 = .ok (.invokevirtual 65, 3) := by decide +kernel
theorem dL_law_513 : decode cL_law 513 = .ok (.if_icmp .eq 420, 3) := by decide +kernel
theorem dL_law_516 : decode cL_law 516 = .ok (.iconst 0, 1) := by decide +kernel
theorem dL_law_517 : decode cL_law 517 = .ok (.ireturn, 1) := by decide +kernel
theorem dL_law_518 : decode cL_law 518 = .ok (.aload_n 1, 1) := by decide +kernel
theorem dL_law_519 : decode cL_law 519 = .ok (.invokevirtual 66, 3) := by decide +kernel
theorem dL_law_522 : decode cL_law 522 = .ok (.aload_n 2, 1) := by decide +kernel
theorem dL_law_523 : decode cL_law 523 = .ok (.invokevirtual 69, 3) := by decide +kernel
theorem dL_law_526 : decode cL_law 526 = .ok (.if_icmp .eq 407, 3) := by decide +kernel
theorem dL_law_529 : decode cL_law 529 = .ok (.iconst 0, 1) := by decide +kernel
theorem dL_law_530 : decode cL_law 530 = .ok (.ireturn, 1) := by decide +kernel
theorem dL_law_531 : decode cL_law 531 = .ok (.aload_n 1, 1) := by decide +kernel
theorem dL_law_532 : decode cL_law 532 = .ok (.invokevirtual 70, 3) := by decide +kernel
theorem dL_law_535 : decode cL_law 535 = .ok (.aload_n 2, 1) := by decide +kernel
theorem dL_law_536 : decode cL_law 536 = .ok (.invokevirtual 73, 3) := by decide +kernel
theorem dL_law_539 : decode cL_law 539 = .ok (.if_icmp .eq 394, 3) := by decide +kernel
theorem dL_law_542 : decode cL_law 542 = .ok (.iconst 0, 1) := by decide +kernel
theorem dL_law_543 : decode cL_law 543 = .ok (.ireturn, 1) := by decide +kernel
theorem dL_law_544 : decode cL_law 544 = .ok (.aload_n 1, 1) := by decide +kernel
theorem dL_law_545 : decode cL_law 545 = .ok (.invokevirtual 74, 3) := by decide +kernel
theorem dL_law_548 : decode cL_law 548 = .ok (.aload_n 2, 1) := by decide +kernel
theorem dL_law_549 : decode cL_law 549 = .ok (.invokevirtual 77, 3) := by decide +kernel
theorem dL_law_552 : decode cL_law 552 = .ok (.if_icmp .eq 381, 3) := by decide +kernel
theorem dL_law_555 : decode cL_law 555 = .ok (.iconst 0, 1) := by decide +kernel
theorem dL_law_556 : decode cL_law 556 = .ok (.ireturn, 1) := by decide +kernel
theorem dL_law_557 : decode cL_law 557 = .ok (.aload_n 1, 1) := by decide +kernel
theorem dL_law_558 : decode cL_law 558 = .ok (.invokevirtual 78, 3) := by decide +kernel
theorem dL_law_561 : decode cL_law 561 = .ok (.aload_n 2, 1) := by decide +kernel
theorem dL_law_562 : decode cL_law 562 = .ok (.invokevirtual 81, 3) := by decide +kernel
theorem dL_law_565 : decode cL_law 565 = .ok (.if_icmp .eq 368, 3) := by decide +kernel
theorem dL_law_568 : decode cL_law 568 = .ok (.iconst 0, 1) := by decide +kernel
theorem dL_law_569 : decode cL_law 569 = .ok (.ireturn, 1) := by decide +kernel
theorem dL_law_570 : decode cL_law 570 = .ok (.aload_n 1, 1) := by decide +kernel
theorem dL_law_571 : decode cL_law 571 = .ok (.invokevirtual 82, 3) := by decide +kernel
theorem dL_law_574 : decode cL_law 574 = .ok (.aload_n 2, 1) := by decide +kernel
theorem dL_law_575 : decode cL_law 575 = .ok (.invokevirtual 85, 3) := by decide +kernel
theorem dL_law_578 : decode cL_law 578 = .ok (.if_icmp .eq 355, 3) := by decide +kernel
theorem dL_law_581 : decode cL_law 581 = .ok (.iconst 0, 1) := by decide +kernel
theorem dL_law_582 : decode cL_law 582 = .ok (.ireturn, 1) := by decide +kernel
theorem dL_law_583 : decode cL_law 583 = .ok (.aload_n 1, 1) := by decide +kernel
theorem dL_law_584 : decode cL_law 584 = .ok (.aload_n 0, 1) := by decide +kernel
theorem dL_law_585 : decode cL_law 585 = .ok (.iload_n 3, 1) := by decide +kernel
theorem dL_law_586 : decode cL_law 586 = .ok (.iconst 1, 1) := by decide +kernel
theorem dL_law_587 : decode cL_law 587 = .ok (.iadd, 1) := by decide +kernel
theorem dL_law_588 : decode cL_law 588 = .ok (.iaload, 1) := by decide +kernel
theorem dL_law_589 : decode cL_law 589 = .ok (.aload_n 0, 1) := by decide +kernel
theorem dL_law_590 : decode cL_law 590 = .ok (.iload_n 3, 1) := by decide +kernel
theorem dL_law_591 : decode cL_law 591 = .ok (.iconst 2, 1) := by decide +kernel
theorem dL_law_592 : decode cL_law 592 = .ok (.iadd, 1) := by decide +kernel
theorem dL_law_593 : decode cL_law 593 = .ok (.iaload, 1) := by decide +kernel
theorem dL_law_594 : decode cL_law 594 = .ok (.invokevirtual 86, 3) := by decide +kernel
theorem dL_law_597 : decode cL_law 597 = .ok (.aload_n 2, 1) := by decide +kernel
theorem dL_law_598 : decode cL_law 598 = .ok (.aload_n 0, 1) := by decide +kernel
theorem dL_law_599 : decode cL_law 599 = .ok (.iload_n 3, 1) := by decide +kernel
theorem dL_law_600 : decode cL_law 600 = .ok (.iconst 1, 1) := by decide +kernel
theorem dL_law_601 : decode cL_law 601 = .ok (.iadd, 1) := by decide +kernel
theorem dL_law_602 : decode cL_law 602 = .ok (.iaload, 1) := by decide +kernel
theorem dL_law_603 : decode cL_law 603 = .ok (.aload_n 0, 1) := by decide +kernel
theorem dL_law_604 : decode cL_law 604 = .ok (.iload_n 3, 1) := by decide +kernel
theorem dL_law_605 : decode cL_law 605 = .ok (.iconst 2, 1) := by decide +kernel
theorem dL_law_606 : decode cL_law 606 = .ok (.iadd, 1) := by decide +kernel
theorem dL_law_607 : decode cL_law 607 = .ok (.iaload, 1) := by decide +kernel
theorem dL_law_608 : decode cL_law 608 = .ok (.invokevirtual 89, 3) := by decide +kernel
theorem dL_law_611 : decode cL_law 611 = .ok (.if_icmp .eq 322, 3) := by decide +kernel
theorem dL_law_614 : decode cL_law 614 = .ok (.iconst 0, 1) := by decide +kernel
theorem dL_law_615 : decode cL_law 615 = .ok (.ireturn, 1) := by decide +kernel
theorem dL_law_616 : decode cL_law 616 = .ok (.aload_n 1, 1) := by decide +kernel
theorem dL_law_617 : decode cL_law 617 = .ok (.aload_n 0, 1) := by decide +kernel
theorem dL_law_618 : decode cL_law 618 = .ok (.iload_n 3, 1) := by decide +kernel
theorem dL_law_619 : decode cL_law 619 = .ok (.iconst 1, 1) := by decide +kernel
theorem dL_law_620 : decode cL_law 620 = .ok (.iadd, 1) := by decide +kernel
theorem dL_law_621 : decode cL_law 621 = .ok (.iaload, 1) := by decide +kernel
theorem dL_law_622 : decode cL_law 622 = .ok (.aload_n 0, 1) := by decide +kernel
theorem dL_law_623 : decode cL_law 623 = .ok (.iload_n 3, 1) := by decide +kernel
theorem dL_law_624 : decode cL_law 624 = .ok (.iconst 2, 1) := by decide +kernel
theorem dL_law_625 : decode cL_law 625 = .ok (.iadd, 1) := by decide +kernel
theorem dL_law_626 : decode cL_law 626 = .ok (.iaload, 1) := by decide +kernel
theorem dL_law_627 : decode cL_law 627 = .ok (.invokevirtual 90, 3) := by decide +kernel
theorem dL_law_630 : decode cL_law 630 = .ok (.aload_n 2, 1) := by decide +kernel
theorem dL_law_631 : decode cL_law 631 = .ok (.aload_n 0, 1) := by decide +kernel
theorem dL_law_632 : decode cL_law 632 = .ok (.iload_n 3, 1) := by decide +kernel
theorem dL_law_633 : decode cL_law 633 = .ok (.iconst 1, 1) := by decide +kernel
theorem dL_law_634 : decode cL_law 634 = .ok (.iadd, 1) := by decide +kernel
theorem dL_law_635 : decode cL_law 635 = .ok (.iaload, 1) := by decide +kernel
theorem dL_law_636 : decode cL_law 636 = .ok (.aload_n 0, 1) := by decide +kernel
theorem dL_law_637 : decode cL_law 637 = .ok (.iload_n 3, 1) := by decide +kernel
theorem dL_law_638 : decode cL_law 638 = .ok (.iconst 2, 1) := by decide +kernel
theorem dL_law_639 : decode cL_law 639 = .ok (.iadd, 1) := by decide +kernel
theorem dL_law_640 : decode cL_law 640 = .ok (.iaload, 1) := by decide +kernel
theorem dL_law_641 : decode cL_law 641 = .ok (.invokevirtual 93, 3) := by decide +kernel
theorem dL_law_644 : decode cL_law 644 = .ok (.if_icmp .eq 289, 3) := by decide +kernel
theorem dL_law_647 : decode cL_law 647 = .ok (.iconst 0, 1) := by decide +kernel
theorem dL_law_648 : decode cL_law 648 = .ok (.ireturn, 1) := by decide +kernel
theorem dL_law_649 : decode cL_law 649 = .ok (.aload_n 1, 1) := by decide +kernel
theorem dL_law_650 : decode cL_law 650 = .ok (.aload_n 0, 1) := by decide +kernel
theorem dL_law_651 : decode cL_law 651 = .ok (.iload_n 3, 1) := by decide +kernel
theorem dL_law_652 : decode cL_law 652 = .ok (.iconst 1, 1) := by decide +kernel
theorem dL_law_653 : decode cL_law 653 = .ok (.iadd, 1) := by decide +kernel
theorem dL_law_654 : decode cL_law 654 = .ok (.iaload, 1) := by decide +kernel
theorem dL_law_655 : decode cL_law 655 = .ok (.aload_n 0, 1) := by decide +kernel
theorem dL_law_656 : decode cL_law 656 = .ok (.iload_n 3, 1) := by decide +kernel
theorem dL_law_657 : decode cL_law 657 = .ok (.iconst 2, 1) := by decide +kernel
theorem dL_law_658 : decode cL_law 658 = .ok (.iadd, 1) := by decide +kernel
theorem dL_law_659 : decode cL_law 659 = .ok (.iaload, 1) := by decide +kernel
theorem dL_law_660 : decode cL_law 660 = .ok (.aload_n 0, 1) := by decide +kernel
theorem dL_law_661 : decode cL_law 661 = .ok (.iload_n 3, 1) := by decide +kernel
theorem dL_law_662 : decode cL_law 662 = .ok (.iconst 3, 1) := by decide +kernel
theorem dL_law_663 : decode cL_law 663 = .ok (.iadd, 1) := by decide +kernel
theorem dL_law_664 : decode cL_law 664 = .ok (.iaload, 1) := by decide +kernel
theorem dL_law_665 : decode cL_law 665 = .ok (.invokevirtual 94, 3) := by decide +kernel
theorem dL_law_668 : decode cL_law 668 = .ok (.aload_n 2, 1) := by decide +kernel
theorem dL_law_669 : decode cL_law 669 = .ok (.aload_n 0, 1) := by decide +kernel
theorem dL_law_670 : decode cL_law 670 = .ok (.iload_n 3, 1) := by decide +kernel
theorem dL_law_671 : decode cL_law 671 = .ok (.iconst 1, 1) := by decide +kernel
theorem dL_law_672 : decode cL_law 672 = .ok (.iadd, 1) := by decide +kernel
theorem dL_law_673 : decode cL_law 673 = .ok (.iaload, 1) := by decide +kernel
theorem dL_law_674 : decode cL_law 674 = .ok (.aload_n 0, 1) := by decide +kernel
theorem dL_law_675 : decode cL_law 675 = .ok (.iload_n 3, 1) := by decide +kernel
theorem dL_law_676 : decode cL_law 676 = .ok (.iconst 2, 1) := by decide +kernel
theorem dL_law_677 : decode cL_law 677 = .ok (.iadd, 1) := by decide +kernel
theorem dL_law_678 : decode cL_law 678 = .ok (.iaload, 1) := by decide +kernel
theorem dL_law_679 : decode cL_law 679 = .ok (.aload_n 0, 1) := by decide +kernel
theorem dL_law_680 : decode cL_law 680 = .ok (.iload_n 3, 1) := by decide +kernel
theorem dL_law_681 : decode cL_law 681 = .ok (.iconst 3, 1) := by decide +kernel
theorem dL_law_682 : decode cL_law 682 = .ok (.iadd, 1) := by decide +kernel
theorem dL_law_683 : decode cL_law 683 = .ok (.iaload, 1) := by decide +kernel
theorem dL_law_684 : decode cL_law 684 = .ok (.invokevirtual 97, 3) := by decide +kernel
theorem dL_law_687 : decode cL_law 687 = .ok (.if_icmp .eq 246, 3) := by decide +kernel
theorem dL_law_690 : decode cL_law 690 = .ok (.iconst 0, 1) := by decide +kernel
theorem dL_law_691 : decode cL_law 691 = .ok (.ireturn, 1) := by decide +kernel
theorem dL_law_692 : decode cL_law 692 = .ok (.aload_n 1, 1) := by decide +kernel
theorem dL_law_693 : decode cL_law 693 = .ok (.aload_n 0, 1) := by decide +kernel
theorem dL_law_694 : decode cL_law 694 = .ok (.iload_n 3, 1) := by decide +kernel
theorem dL_law_695 : decode cL_law 695 = .ok (.iconst 1, 1) := by decide +kernel
theorem dL_law_696 : decode cL_law 696 = .ok (.iadd, 1) := by decide +kernel
theorem dL_law_697 : decode cL_law 697 = .ok (.iaload, 1) := by decide +kernel
theorem dL_law_698 : decode cL_law 698 = .ok (.aload_n 0, 1) := by decide +kernel
theorem dL_law_699 : decode cL_law 699 = .ok (.iload_n 3, 1) := by decide +kernel
theorem dL_law_700 : decode cL_law 700 = .ok (.iconst 2, 1) := by decide +kernel
theorem dL_law_701 : decode cL_law 701 = .ok (.iadd, 1) := by decide +kernel
theorem dL_law_702 : decode cL_law 702 = .ok (.iaload, 1) := by decide +kernel
theorem dL_law_703 : decode cL_law 703 = .ok (.ifCond .eq 7, 3) := by decide +kernel
theorem dL_law_706 : decode cL_law 706 = .ok (.iconst 1, 1) := by decide +kernel
theorem dL_law_707 : decode cL_law 707 = .ok (.goto 4, 3) := by decide +kernel
theorem dL_law_710 : decode cL_law 710 = .ok (.iconst 0, 1) := by decide +kernel
theorem dL_law_711 : decode cL_law 711 = .ok (.aload_n 0, 1) := by decide +kernel
theorem dL_law_712 : decode cL_law 712 = .ok (.iload_n 3, 1) := by decide +kernel
theorem dL_law_713 : decode cL_law 713 = .ok (.iconst 3, 1) := by decide +kernel
theorem dL_law_714 : decode cL_law 714 = .ok (.iadd, 1) := by decide +kernel
theorem dL_law_715 : decode cL_law 715 = .ok (.iaload, 1) := by decide +kernel
theorem dL_law_716 : decode cL_law 716 = .ok (.invokevirtual 98, 3) := by decide +kernel
theorem dL_law_719 : decode cL_law 719 = .ok (.aload_n 2, 1) := by decide +kernel
theorem dL_law_720 : decode cL_law 720 = .ok (.aload_n 0, 1) := by decide +kernel
theorem dL_law_721 : decode cL_law 721 = .ok (.iload_n 3, 1) := by decide +kernel
theorem dL_law_722 : decode cL_law 722 = .ok (.iconst 1, 1) := by decide +kernel
theorem dL_law_723 : decode cL_law 723 = .ok (.iadd, 1) := by decide +kernel
theorem dL_law_724 : decode cL_law 724 = .ok (.iaload, 1) := by decide +kernel
theorem dL_law_725 : decode cL_law 725 = .ok (.aload_n 0, 1) := by decide +kernel
theorem dL_law_726 : decode cL_law 726 = .ok (.iload_n 3, 1) := by decide +kernel
theorem dL_law_727 : decode cL_law 727 = .ok (.iconst 2, 1) := by decide +kernel
theorem dL_law_728 : decode cL_law 728 = .ok (.iadd, 1) := by decide +kernel
theorem dL_law_729 : decode cL_law 729 = .ok (.iaload, 1) := by decide +kernel
theorem dL_law_730 : decode cL_law 730 = .ok (.ifCond .eq 7, 3) := by decide +kernel
theorem dL_law_733 : decode cL_law 733 = .ok (.iconst 1, 1) := by decide +kernel
theorem dL_law_734 : decode cL_law 734 = .ok (.goto 4, 3) := by decide +kernel
theorem dL_law_737 : decode cL_law 737 = .ok (.iconst 0, 1) := by decide +kernel
theorem dL_law_738 : decode cL_law 738 = .ok (.aload_n 0, 1) := by decide +kernel
theorem dL_law_739 : decode cL_law 739 = .ok (.iload_n 3, 1) := by decide +kernel
theorem dL_law_740 : decode cL_law 740 = .ok (.iconst 3, 1) := by decide +kernel
theorem dL_law_741 : decode cL_law 741 = .ok (.iadd, 1) := by decide +kernel
theorem dL_law_742 : decode cL_law 742 = .ok (.iaload, 1) := by decide +kernel
theorem dL_law_743 : decode cL_law 743 = .ok (.invokevirtual 101, 3) := by decide +kernel
theorem dL_law_746 : decode cL_law 746 = .ok (.if_icmp .eq 187, 3) := by decide +kernel
theorem dL_law_749 : decode cL_law 749 = .ok (.iconst 0, 1) := by decide +kernel
theorem dL_law_750 : decode cL_law 750 = .ok (.ireturn, 1) := by decide +kernel
theorem dL_law_751 : decode cL_law 751 = .ok (.aload_n 1, 1) := by decide +kernel
theorem dL_law_752 : decode cL_law 752 = .ok (.aload_n 0, 1) := by decide +kernel
theorem dL_law_753 : decode cL_law 753 = .ok (.iload_n 3, 1) := by decide +kernel
theorem dL_law_754 : decode cL_law 754 = .ok (.iconst 1, 1) := by decide +kernel
theorem dL_law_755 : decode cL_law 755 = .ok (.iadd, 1) := by decide +kernel
theorem dL_law_756 : decode cL_law 756 = .ok (.iaload, 1) := by decide +kernel
theorem dL_law_757 : decode cL_law 757 = .ok (.invokevirtual 102, 3) := by decide +kernel
theorem dL_law_760 : decode cL_law 760 = .ok (.aload_n 2, 1) := by decide +kernel
theorem dL_law_761 : decode cL_law 761 = .ok (.aload_n 0, 1) := by decide +kernel
theorem dL_law_762 : decode cL_law 762 = .ok (.iload_n 3, 1) := by decide +kernel
theorem dL_law_763 : decode cL_law 763 = .ok (.iconst 1, 1) := by decide +kernel
theorem dL_law_764 : decode cL_law 764 = .ok (.iadd, 1) := by decide +kernel
theorem dL_law_765 : decode cL_law 765 = .ok (.iaload, 1) := by decide +kernel
theorem dL_law_766 : decode cL_law 766 = .ok (.invokevirtual 105, 3) := by decide +kernel
theorem dL_law_769 : decode cL_law 769 = .ok (.if_icmp .eq 164, 3) := by decide +kernel
theorem dL_law_772 : decode cL_law 772 = .ok (.iconst 0, 1) := by decide +kernel
theorem dL_law_773 : decode cL_law 773 = .ok (.ireturn, 1) := by decide +kernel
theorem dL_law_774 : decode cL_law 774 = .ok (.aload_n 1, 1) := by decide +kernel
theorem dL_law_775 : decode cL_law 775 = .ok (.aload_n 0, 1) := by decide +kernel
theorem dL_law_776 : decode cL_law 776 = .ok (.iload_n 3, 1) := by decide +kernel
theorem dL_law_777 : decode cL_law 777 = .ok (.iconst 1, 1) := by decide +kernel
theorem dL_law_778 : decode cL_law 778 = .ok (.iadd, 1) := by decide +kernel
theorem dL_law_779 : decode cL_law 779 = .ok (.iaload, 1) := by decide +kernel
theorem dL_law_780 : decode cL_law 780 = .ok (.invokevirtual 106, 3) := by decide +kernel
theorem dL_law_783 : decode cL_law 783 = .ok (.aload_n 2, 1) := by decide +kernel
theorem dL_law_784 : decode cL_law 784 = .ok (.aload_n 0, 1) := by decide +kernel
theorem dL_law_785 : decode cL_law 785 = .ok (.iload_n 3, 1) := by decide +kernel
theorem dL_law_786 : decode cL_law 786 = .ok (.iconst 1, 1) := by decide +kernel
theorem dL_law_787 : decode cL_law 787 = .ok (.iadd, 1) := by decide +kernel
theorem dL_law_788 : decode cL_law 788 = .ok (.iaload, 1) := by decide +kernel
theorem dL_law_789 : decode cL_law 789 = .ok (.invokevirtual 109, 3) := by decide +kernel
theorem dL_law_792 : decode cL_law 792 = .ok (.if_icmp .eq 141, 3) := by decide +kernel
theorem dL_law_795 : decode cL_law 795 = .ok (.iconst 0, 1) := by decide +kernel
theorem dL_law_796 : decode cL_law 796 = .ok (.ireturn, 1) := by decide +kernel
theorem dL_law_797 : decode cL_law 797 = .ok (.aload_n 1, 1) := by decide +kernel
theorem dL_law_798 : decode cL_law 798 = .ok (.aload_n 0, 1) := by decide +kernel
theorem dL_law_799 : decode cL_law 799 = .ok (.iload_n 3, 1) := by decide +kernel
theorem dL_law_800 : decode cL_law 800 = .ok (.iconst 1, 1) := by decide +kernel
theorem dL_law_801 : decode cL_law 801 = .ok (.iadd, 1) := by decide +kernel
theorem dL_law_802 : decode cL_law 802 = .ok (.iaload, 1) := by decide +kernel
theorem dL_law_803 : decode cL_law 803 = .ok (.aload_n 0, 1) := by decide +kernel
theorem dL_law_804 : decode cL_law 804 = .ok (.iload_n 3, 1) := by decide +kernel
theorem dL_law_805 : decode cL_law 805 = .ok (.iconst 2, 1) := by decide +kernel
theorem dL_law_806 : decode cL_law 806 = .ok (.iadd, 1) := by decide +kernel
theorem dL_law_807 : decode cL_law 807 = .ok (.iaload, 1) := by decide +kernel
theorem dL_law_808 : decode cL_law 808 = .ok (.ifCond .eq 7, 3) := by decide +kernel
theorem dL_law_811 : decode cL_law 811 = .ok (.iconst 1, 1) := by decide +kernel
theorem dL_law_812 : decode cL_law 812 = .ok (.goto 4, 3) := by decide +kernel
theorem dL_law_815 : decode cL_law 815 = .ok (.iconst 0, 1) := by decide +kernel
theorem dL_law_816 : decode cL_law 816 = .ok (.invokevirtual 110, 3) := by decide +kernel
theorem dL_law_819 : decode cL_law 819 = .ok (.aload_n 2, 1) := by decide +kernel
theorem dL_law_820 : decode cL_law 820 = .ok (.aload_n 0, 1) := by decide +kernel
theorem dL_law_821 : decode cL_law 821 = .ok (.iload_n 3, 1) := by decide +kernel
theorem dL_law_822 : decode cL_law 822 = .ok (.iconst 1, 1) := by decide +kernel
theorem dL_law_823 : decode cL_law 823 = .ok (.iadd, 1) := by decide +kernel
theorem dL_law_824 : decode cL_law 824 = .ok (.iaload, 1) := by decide +kernel
theorem dL_law_825 : decode cL_law 825 = .ok (.aload_n 0, 1) := by decide +kernel
theorem dL_law_826 : decode cL_law 826 = .ok (.iload_n 3, 1) := by decide +kernel
theorem dL_law_827 : decode cL_law 827 = .ok (.iconst 2, 1) := by decide +kernel
theorem dL_law_828 : decode cL_law 828 = .ok (.iadd, 1) := by decide +kernel
theorem dL_law_829 : decode cL_law 829 = .ok (.iaload, 1) := by decide +kernel
theorem dL_law_830 : decode cL_law 830 = .ok (.ifCond .eq 7, 3) := by decide +kernel
theorem dL_law_833 : decode cL_law 833 = .ok (.iconst 1, 1) := by decide +kernel
theorem dL_law_834 : decode cL_law 834 = .ok (.goto 4, 3) := by decide +kernel
theorem dL_law_837 : decode cL_law 837 = .ok (.iconst 0, 1) := by decide +kernel
theorem dL_law_838 : decode cL_law 838 = .ok (.invokevirtual 114, 3) := by decide +kernel
theorem dL_law_841 : decode cL_law 841 = .ok (.if_icmp .eq 92, 3) := by decide +kernel
theorem dL_law_844 : decode cL_law 844 = .ok (.iconst 0, 1) := by decide +kernel
theorem dL_law_845 : decode cL_law 845 = .ok (.ireturn, 1) := by decide +kernel
theorem dL_law_846 : decode cL_law 846 = .ok (.aload_n 1, 1) := by decide +kernel
theorem dL_law_847 : decode cL_law 847 = .ok (.invokevirtual 115, 3) := by decide +kernel
theorem dL_law_850 : decode cL_law 850 = .ok (.aload_n 2, 1) := by decide +kernel
theorem dL_law_851 : decode cL_law 851 = .ok (.invokevirtual 118, 3) := by decide +kernel
theorem dL_law_854 : decode cL_law 854 = .ok (.if_icmp .eq 79, 3) := by decide +kernel
theorem dL_law_857 : decode cL_law 857 = .ok (.iconst 0, 1) := by decide +kernel
theorem dL_law_858 : decode cL_law 858 = .ok (.ireturn, 1) := by decide +kernel
theorem dL_law_859 : decode cL_law 859 = .ok (.aload_n 1, 1) := by decide +kernel
theorem dL_law_860 : decode cL_law 860 = .ok (.aload_n 0, 1) := by decide +kernel
theorem dL_law_861 : decode cL_law 861 = .ok (.iload_n 3, 1) := by decide +kernel
theorem dL_law_862 : decode cL_law 862 = .ok (.iconst 1, 1) := by decide +kernel
theorem dL_law_863 : decode cL_law 863 = .ok (.iadd, 1) := by decide +kernel
theorem dL_law_864 : decode cL_law 864 = .ok (.iaload, 1) := by decide +kernel
theorem dL_law_865 : decode cL_law 865 = .ok (.aload_n 0, 1) := by decide +kernel
theorem dL_law_866 : decode cL_law 866 = .ok (.iload_n 3, 1) := by decide +kernel
theorem dL_law_867 : decode cL_law 867 = .ok (.iconst 2, 1) := by decide +kernel
theorem dL_law_868 : decode cL_law 868 = .ok (.iadd, 1) := by decide +kernel
theorem dL_law_869 : decode cL_law 869 = .ok (.iaload, 1) := by decide +kernel
theorem dL_law_870 : decode cL_law 870 = .ok (.invokevirtual 119, 3) := by decide +kernel
theorem dL_law_873 : decode cL_law 873 = .ok (.aload_n 2, 1) := by decide +kernel
theorem dL_law_874 : decode cL_law 874 = .ok (.aload_n 0, 1) := by decide +kernel
theorem dL_law_875 : decode cL_law 875 = .ok (.iload_n 3, 1) := by decide +kernel
theorem dL_law_876 : decode cL_law 876 = .ok (.iconst 1, 1) := by decide +kernel
theorem dL_law_877 : decode cL_law 877 = .ok (.iadd, 1) := by decide +kernel
theorem dL_law_878 : decode cL_law 878 = .ok (.iaload, 1) := by decide +kernel
theorem dL_law_879 : decode cL_law 879 = .ok (.aload_n 0, 1) := by decide +kernel
theorem dL_law_880 : decode cL_law 880 = .ok (.iload_n 3, 1) := by decide +kernel
theorem dL_law_881 : decode cL_law 881 = .ok (.iconst 2, 1) := by decide +kernel
theorem dL_law_882 : decode cL_law 882 = .ok (.iadd, 1) := by decide +kernel
theorem dL_law_883 : decode cL_law 883 = .ok (.iaload, 1) := by decide +kernel
theorem dL_law_884 : decode cL_law 884 = .ok (.invokevirtual 122, 3) := by decide +kernel
theorem dL_law_887 : decode cL_law 887 = .ok (.if_icmp .eq 46, 3) := by decide +kernel
theorem dL_law_890 : decode cL_law 890 = .ok (.iconst 0, 1) := by decide +kernel
theorem dL_law_891 : decode cL_law 891 = .ok (.ireturn, 1) := by decide +kernel
theorem dL_law_892 : decode cL_law 892 = .ok (.aload_n 1, 1) := by decide +kernel
theorem dL_law_893 : decode cL_law 893 = .ok (.invokevirtual 123, 3) := by decide +kernel
theorem dL_law_896 : decode cL_law 896 = .ok (.dstore 4, 2) := by decide +kernel
theorem dL_law_898 : decode cL_law 898 = .ok (.aload_n 2, 1) := by decide +kernel
theorem dL_law_899 : decode cL_law 899 = .ok (.invokevirtual 127, 3) := by decide +kernel
theorem dL_law_902 : decode cL_law 902 = .ok (.dstore 6, 2) := by decide +kernel
theorem dL_law_904 : decode cL_law 904 = .ok (.dload 4, 2) := by decide +kernel
theorem dL_law_906 : decode cL_law 906 = .ok (.dload 6, 2) := by decide +kernel
theorem dL_law_908 : decode cL_law 908 = .ok (.dcmp .l, 1) := by decide +kernel
theorem dL_law_909 : decode cL_law 909 = .ok (.ifCond .eq 21, 3) := by decide +kernel
theorem dL_law_912 : decode cL_law 912 = .ok (.dload 4, 2) := by decide +kernel
theorem dL_law_914 : decode cL_law 914 = .ok (.dload 4, 2) := by decide +kernel
theorem dL_law_916 : decode cL_law 916 = .ok (.dcmp .l, 1) := by decide +kernel
theorem dL_law_917 : decode cL_law 917 = .ok (.ifCond .eq 11, 3) := by decide +kernel
theorem dL_law_920 : decode cL_law 920 = .ok (.dload 6, 2) := by decide +kernel
theorem dL_law_922 : decode cL_law 922 = .ok (.dload 6, 2) := by decide +kernel
theorem dL_law_924 : decode cL_law 924 = .ok (.dcmp .l, 1) := by decide +kernel
theorem dL_law_925 : decode cL_law 925 = .ok (.ifCond .ne 5, 3) := by decide +kernel
theorem dL_law_928 : decode cL_law 928 = .ok (.iconst 0, 1) := by decide +kernel
theorem dL_law_929 : decode cL_law 929 = .ok (.ireturn, 1) := by decide +kernel
theorem dL_law_930 : decode cL_law 930 = .ok (.goto 3, 3) := by decide +kernel
theorem dL_law_933 : decode cL_law 933 = .ok (.iinc 3 4, 3) := by decide +kernel
theorem dL_law_936 : decode cL_law 936 = .ok (.goto (-918), 3) := by decide +kernel
theorem dL_law_939 : decode cL_law 939 = .ok (.iconst 1, 1) := by decide +kernel
theorem dL_law_940 : decode cL_law 940 = .ok (.ireturn, 1) := by decide +kernel
