theorem dX0_init_0 : decode cX0_init 0 = .ok (.aload_n 0, 1) := by decide +kernel
theorem dX0_init_1 : decode cX0_init 1 = .ok (.invokespecial 3, 3) := by decide +kernel
theorem dX0_init_4 : decode cX0_init 4 = .ok (.aload_n 0, 1) := by decide +kernel
theorem dX0_init_5 : decode cX0_init 5 = .ok (.bipush 6, 2) := by decide +kernel
theorem dX0_init_7 : decode cX0_init 7 = .ok (.newarray .int, 2) := by decide +kernel
theorem dX0_init_9 : decode cX0_init 9 = .ok (.putfield 9, 3) := by decide +kernel
theorem dX0_init_12 : decode cX0_init 12 = .ok (.return_, 1) := by decide +kernel
theorem dX0_distanceOrNone_0 : decode cX0_distanceOrNone 0 = .ok (.aload_n 0, 1) := by decide +kernel
theorem dX0_distanceOrNone_1 : decode cX0_distanceOrNone 1 = .ok (.aload_n 1, 1) := by decide +kernel
theorem dX0_distanceOrNone_2 : decode cX0_distanceOrNone 2 = .ok (.invokevirtual 15, 3) := by decide +kernel
theorem dX0_distanceOrNone_5 : decode cX0_distanceOrNone 5 = .ok (.aload_n 0, 1) := by decide +kernel
theorem dX0_distanceOrNone_6 : decode cX0_distanceOrNone 6 = .ok (.getfield 9, 3) := by decide +kernel
theorem dX0_distanceOrNone_9 : decode cX0_distanceOrNone 9 = .ok (.iload_n 2, 1) := by decide +kernel
theorem dX0_distanceOrNone_10 : decode cX0_distanceOrNone 10 = .ok (.invokestatic 19, 3) := by decide +kernel
theorem dX0_distanceOrNone_13 : decode cX0_distanceOrNone 13 = .ok (.istore_n 3, 1) := by decide +kernel
theorem dX0_distanceOrNone_14 : decode cX0_distanceOrNone 14 = .ok (.iload_n 3, 1) := by decide +kernel
theorem dX0_distanceOrNone_15 : decode cX0_distanceOrNone 15 = .ok (.sipush 1000, 3) := by decide +kernel
theorem dX0_distanceOrNone_18 : decode cX0_distanceOrNone 18 = .ok (.if_icmp .ne 8, 3) := by decide +kernel
theorem dX0_distanceOrNone_21 : decode cX0_distanceOrNone 21 = .ok (.ldc 23, 2) := by decide +kernel
theorem dX0_distanceOrNone_23 : decode cX0_distanceOrNone 23 = .ok (.goto 4, 3) := by decide +kernel
theorem dX0_distanceOrNone_26 : decode cX0_distanceOrNone 26 = .ok (.iload_n 3, 1) := by decide +kernel
theorem dX0_distanceOrNone_27 : decode cX0_distanceOrNone 27 = .ok (.ireturn, 1) := by decide +kernel
theorem dX0_closeForAnHour_0 : decode cX0_closeForAnHour 0 = .ok (.aload_n 0, 1) := by decide +kernel
theorem dX0_closeForAnHour_1 : decode cX0_closeForAnHour 1 = .ok (.aload_n 1, 1) := by decide +kernel
theorem dX0_closeForAnHour_2 : decode cX0_closeForAnHour 2 = .ok (.invokevirtual 15, 3) := by decide +kernel
theorem dX0_closeForAnHour_5 : decode cX0_closeForAnHour 5 = .ok (.iconst 0, 1) := by decide +kernel
theorem dX0_closeForAnHour_6 : decode cX0_closeForAnHour 6 = .ok (.istore_n 2, 1) := by decide +kernel
theorem dX0_closeForAnHour_7 : decode cX0_closeForAnHour 7 = .ok (.iconst 0, 1) := by decide +kernel
theorem dX0_closeForAnHour_8 : decode cX0_closeForAnHour 8 = .ok (.istore_n 3, 1) := by decide +kernel
theorem dX0_closeForAnHour_9 : decode cX0_closeForAnHour 9 = .ok (.iload_n 3, 1) := by decide +kernel
theorem dX0_closeForAnHour_10 : decode cX0_closeForAnHour 10 = .ok (.aload_n 1, 1) := by decide +kernel
theorem dX0_closeForAnHour_11 : decode cX0_closeForAnHour 11 = .ok (.getfield 24, 3) := by decide +kernel
theorem dX0_closeForAnHour_14 : decode cX0_closeForAnHour 14 = .ok (.if_icmp .ge 29, 3) := by decide +kernel
theorem dX0_closeForAnHour_17 : decode cX0_closeForAnHour 17 = .ok (.iload_n 2, 1) := by decide +kernel
theorem dX0_closeForAnHour_18 : decode cX0_closeForAnHour 18 = .ok (.aload_n 0, 1) := by decide +kernel
theorem dX0_closeForAnHour_19 : decode cX0_closeForAnHour 19 = .ok (.aload_n 1, 1) := by decide +kernel
theorem dX0_closeForAnHour_20 : decode cX0_closeForAnHour 20 = .ok (.iload_n 3, 1) := by decide +kernel
theorem dX0_closeForAnHour_21 : decode cX0_closeForAnHour 21 = .ok (.iconst 1, 1) := by decide +kernel
theorem dX0_closeForAnHour_22 : decode cX0_closeForAnHour 22 = .ok (.invokevirtual 30, 3) := by decide +kernel
theorem dX0_closeForAnHour_25 : decode cX0_closeForAnHour 25 = .ok (.iadd, 1) := by decide +kernel
theorem dX0_closeForAnHour_26 : decode cX0_closeForAnHour 26 = .ok (.istore_n 2, 1) := by decide +kernel
theorem dX0_closeForAnHour_27 : decode cX0_closeForAnHour 27 = .ok (.iload_n 2, 1) := by decide +kernel
theorem dX0_closeForAnHour_28 : decode cX0_closeForAnHour 28 = .ok (.aload_n 0, 1) := by decide +kernel
theorem dX0_closeForAnHour_29 : decode cX0_closeForAnHour 29 = .ok (.aload_n 1, 1) := by decide +kernel
theorem dX0_closeForAnHour_30 : decode cX0_closeForAnHour 30 = .ok (.iload_n 3, 1) := by decide +kernel
theorem dX0_closeForAnHour_31 : decode cX0_closeForAnHour 31 = .ok (.iconst 0, 1) := by decide +kernel
theorem dX0_closeForAnHour_32 : decode cX0_closeForAnHour 32 = .ok (.invokevirtual 30, 3) := by decide +kernel
theorem dX0_closeForAnHour_35 : decode cX0_closeForAnHour 35 = .ok (.iadd, 1) := by decide +kernel
theorem dX0_closeForAnHour_36 : decode cX0_closeForAnHour 36 = .ok (.istore_n 2, 1) := by decide +kernel
theorem dX0_closeForAnHour_37 : decode cX0_closeForAnHour 37 = .ok (.iinc 3 1, 3) := by decide +kernel
theorem dX0_closeForAnHour_40 : decode cX0_closeForAnHour 40 = .ok (.goto (-31), 3) := by decide +kernel
theorem dX0_closeForAnHour_43 : decode cX0_closeForAnHour 43 = .ok (.aload_n 1, 1) := by decide +kernel
theorem dX0_closeForAnHour_44 : decode cX0_closeForAnHour 44 = .ok (.invokevirtual 34, 3) := by decide +kernel
theorem dX0_closeForAnHour_47 : decode cX0_closeForAnHour 47 = .ok (.pop, 1) := by decide +kernel
theorem dX0_closeForAnHour_48 : decode cX0_closeForAnHour 48 = .ok (.iload_n 2, 1) := by decide +kernel
theorem dX0_closeForAnHour_49 : decode cX0_closeForAnHour 49 = .ok (.ireturn, 1) := by decide +kernel
theorem dX0_leaveThrough_0 : decode cX0_leaveThrough 0 = .ok (.aload_n 0, 1) := by decide +kernel
theorem dX0_leaveThrough_1 : decode cX0_leaveThrough 1 = .ok (.getfield 9, 3) := by decide +kernel
theorem dX0_leaveThrough_4 : decode cX0_leaveThrough 4 = .ok (.aload_n 1, 1) := by decide +kernel
theorem dX0_leaveThrough_5 : decode cX0_leaveThrough 5 = .ok (.iload_n 2, 1) := by decide +kernel
theorem dX0_leaveThrough_6 : decode cX0_leaveThrough 6 = .ok (.iload_n 3, 1) := by decide +kernel
theorem dX0_leaveThrough_7 : decode cX0_leaveThrough 7 = .ok (.invokevirtual 38, 3) := by decide +kernel
theorem dX0_leaveThrough_10 : decode cX0_leaveThrough 10 = .ok (.invokestatic 19, 3) := by decide +kernel
theorem dX0_leaveThrough_13 : decode cX0_leaveThrough 13 = .ok (.istore 4, 2) := by decide +kernel
theorem dX0_leaveThrough_15 : decode cX0_leaveThrough 15 = .ok (.aload_n 0, 1) := by decide +kernel
theorem dX0_leaveThrough_16 : decode cX0_leaveThrough 16 = .ok (.getfield 9, 3) := by decide +kernel
theorem dX0_leaveThrough_19 : decode cX0_leaveThrough 19 = .ok (.aload_n 1, 1) := by decide +kernel
theorem dX0_leaveThrough_20 : decode cX0_leaveThrough 20 = .ok (.iload_n 2, 1) := by decide +kernel
theorem dX0_leaveThrough_21 : decode cX0_leaveThrough 21 = .ok (.iload_n 3, 1) := by decide +kernel
theorem dX0_leaveThrough_22 : decode cX0_leaveThrough 22 = .ok (.invokevirtual 42, 3) := by decide +kernel
theorem dX0_leaveThrough_25 : decode cX0_leaveThrough 25 = .ok (.invokestatic 19, 3) := by decide +kernel
theorem dX0_leaveThrough_28 : decode cX0_leaveThrough 28 = .ok (.istore 5, 2) := by decide +kernel
theorem dX0_leaveThrough_30 : decode cX0_leaveThrough 30 = .ok (.iload 4, 2) := by decide +kernel
theorem dX0_leaveThrough_32 : decode cX0_leaveThrough 32 = .ok (.iload 5, 2) := by decide +kernel
theorem dX0_leaveThrough_34 : decode cX0_leaveThrough 34 = .ok (.iconst 1, 1) := by decide +kernel
theorem dX0_leaveThrough_35 : decode cX0_leaveThrough 35 = .ok (.iadd, 1) := by decide +kernel
theorem dX0_leaveThrough_36 : decode cX0_leaveThrough 36 = .ok (.if_icmp .eq 5, 3) := by decide +kernel
theorem dX0_leaveThrough_39 : decode cX0_leaveThrough 39 = .ok (.iconst 0, 1) := by decide +kernel
theorem dX0_leaveThrough_40 : decode cX0_leaveThrough 40 = .ok (.ireturn, 1) := by decide +kernel
theorem dX0_leaveThrough_41 : decode cX0_leaveThrough 41 = .ok (.aload_n 1, 1) := by decide +kernel
theorem dX0_leaveThrough_42 : decode cX0_leaveThrough 42 = .ok (.getfield 45, 3) := by decide +kernel
theorem dX0_leaveThrough_45 : decode cX0_leaveThrough 45 = .ok (.aload_n 1, 1) := by decide +kernel
theorem dX0_leaveThrough_46 : decode cX0_leaveThrough 46 = .ok (.iload_n 2, 1) := by decide +kernel
theorem dX0_leaveThrough_47 : decode cX0_leaveThrough 47 = .ok (.iload_n 3, 1) := by decide +kernel
theorem dX0_leaveThrough_48 : decode cX0_leaveThrough 48 = .ok (.invokevirtual 48, 3) := by decide +kernel
theorem dX0_leaveThrough_51 : decode cX0_leaveThrough 51 = .ok (.invokestatic 51, 3) := by decide +kernel
theorem dX0_leaveThrough_54 : decode cX0_leaveThrough 54 = .ok (.istore 6, 2) := by decide +kernel
theorem dX0_leaveThrough_56 : decode cX0_leaveThrough 56 = .ok (.iload 6, 2) := by decide +kernel
theorem dX0_leaveThrough_58 : decode cX0_leaveThrough 58 = .ok (.ifCond .le 11, 3) := by decide +kernel
theorem dX0_leaveThrough_61 : decode cX0_leaveThrough 61 = .ok (.aload_n 1, 1) := by decide +kernel
theorem dX0_leaveThrough_62 : decode cX0_leaveThrough 62 = .ok (.iload_n 2, 1) := by decide +kernel
theorem dX0_leaveThrough_63 : decode cX0_leaveThrough 63 = .ok (.iload_n 3, 1) := by decide +kernel
theorem dX0_leaveThrough_64 : decode cX0_leaveThrough 64 = .ok (.iload 6, 2) := by decide +kernel
theorem dX0_leaveThrough_66 : decode cX0_leaveThrough 66 = .ok (.invokevirtual 57, 3) := by decide +kernel
theorem dX0_leaveThrough_69 : decode cX0_leaveThrough 69 = .ok (.iload 6, 2) := by decide +kernel
theorem dX0_leaveThrough_71 : decode cX0_leaveThrough 71 = .ok (.ireturn, 1) := by decide +kernel
theorem dX0_measureDistances_0 : decode cX0_measureDistances 0 = .ok (.iconst 0, 1) := by decide +kernel
theorem dX0_measureDistances_1 : decode cX0_measureDistances 1 = .ok (.istore_n 2, 1) := by decide +kernel
theorem dX0_measureDistances_2 : decode cX0_measureDistances 2 = .ok (.iload_n 2, 1) := by decide +kernel
theorem dX0_measureDistances_3 : decode cX0_measureDistances 3 = .ok (.bipush 6, 2) := by decide +kernel
theorem dX0_measureDistances_5 : decode cX0_measureDistances 5 = .ok (.if_icmp .ge 28, 3) := by decide +kernel
theorem dX0_measureDistances_8 : decode cX0_measureDistances 8 = .ok (.aload_n 0, 1) := by decide +kernel
theorem dX0_measureDistances_9 : decode cX0_measureDistances 9 = .ok (.getfield 9, 3) := by decide +kernel
theorem dX0_measureDistances_12 : decode cX0_measureDistances 12 = .ok (.iload_n 2, 1) := by decide +kernel
theorem dX0_measureDistances_13 : decode cX0_measureDistances 13 = .ok (.iload_n 2, 1) := by decide +kernel
theorem dX0_measureDistances_14 : decode cX0_measureDistances 14 = .ok (.ifCond .ne 7, 3) := by decide +kernel
theorem dX0_measureDistances_17 : decode cX0_measureDistances 17 = .ok (.iconst 0, 1) := by decide +kernel
theorem dX0_measureDistances_18 : decode cX0_measureDistances 18 = .ok (.goto 6, 3) := by decide +kernel
theorem dX0_measureDistances_21 : decode cX0_measureDistances 21 = .ok (.sipush 1000, 3) := by decide +kernel
theorem dX0_measureDistances_24 : decode cX0_measureDistances 24 = .ok (.invokestatic 61, 3) := by decide +kernel
theorem dX0_measureDistances_27 : decode cX0_measureDistances 27 = .ok (.iinc 2 1, 3) := by decide +kernel
theorem dX0_measureDistances_30 : decode cX0_measureDistances 30 = .ok (.goto (-28), 3) := by decide +kernel
theorem dX0_measureDistances_33 : decode cX0_measureDistances 33 = .ok (.iconst 1, 1) := by decide +kernel
theorem dX0_measureDistances_34 : decode cX0_measureDistances 34 = .ok (.istore_n 2, 1) := by decide +kernel
theorem dX0_measureDistances_35 : decode cX0_measureDistances 35 = .ok (.iconst 1, 1) := by decide +kernel
theorem dX0_measureDistances_36 : decode cX0_measureDistances 36 = .ok (.istore_n 3, 1) := by decide +kernel
theorem dX0_measureDistances_37 : decode cX0_measureDistances 37 = .ok (.iload_n 3, 1) := by decide +kernel
theorem dX0_measureDistances_38 : decode cX0_measureDistances 38 = .ok (.bipush 6, 2) := by decide +kernel
theorem dX0_measureDistances_40 : decode cX0_measureDistances 40 = .ok (.if_icmp .ge 19, 3) := by decide +kernel
theorem dX0_measureDistances_43 : decode cX0_measureDistances 43 = .ok (.iload_n 2, 1) := by decide +kernel
theorem dX0_measureDistances_44 : decode cX0_measureDistances 44 = .ok (.ifCond .eq 15, 3) := by decide +kernel
theorem dX0_measureDistances_47 : decode cX0_measureDistances 47 = .ok (.aload_n 0, 1) := by decide +kernel
theorem dX0_measureDistances_48 : decode cX0_measureDistances 48 = .ok (.aload_n 1, 1) := by decide +kernel
theorem dX0_measureDistances_49 : decode cX0_measureDistances 49 = .ok (.invokevirtual 65, 3) := by decide +kernel
theorem dX0_measureDistances_52 : decode cX0_measureDistances 52 = .ok (.istore_n 2, 1) := by decide +kernel
theorem dX0_measureDistances_53 : decode cX0_measureDistances 53 = .ok (.iinc 3 1, 3) := by decide +kernel
theorem dX0_measureDistances_56 : decode cX0_measureDistances 56 = .ok (.goto (-19), 3) := by decide +kernel
theorem dX0_measureDistances_59 : decode cX0_measureDistances 59 = .ok (.return_, 1) := by decide +kernel
theorem dX0_comeNearerByAll_0 : decode cX0_comeNearerByAll 0 = .ok (.iconst 0, 1) := by decide +kernel
theorem dX0_comeNearerByAll_1 : decode cX0_comeNearerByAll 1 = .ok (.istore_n 2, 1) := by decide +kernel
theorem dX0_comeNearerByAll_2 : decode cX0_comeNearerByAll 2 = .ok (.iconst 0, 1) := by decide +kernel
theorem dX0_comeNearerByAll_3 : decode cX0_comeNearerByAll 3 = .ok (.istore_n 3, 1) := by decide +kernel
theorem dX0_comeNearerByAll_4 : decode cX0_comeNearerByAll 4 = .ok (.iload_n 3, 1) := by decide +kernel
theorem dX0_comeNearerByAll_5 : decode cX0_comeNearerByAll 5 = .ok (.aload_n 1, 1) := by decide +kernel
theorem dX0_comeNearerByAll_6 : decode cX0_comeNearerByAll 6 = .ok (.getfield 24, 3) := by decide +kernel
theorem dX0_comeNearerByAll_9 : decode cX0_comeNearerByAll 9 = .ok (.if_icmp .ge 47, 3) := by decide +kernel
theorem dX0_comeNearerByAll_12 : decode cX0_comeNearerByAll 12 = .ok (.aload_n 0, 1) := by decide +kernel
theorem dX0_comeNearerByAll_13 : decode cX0_comeNearerByAll 13 = .ok (.aload_n 1, 1) := by decide +kernel
theorem dX0_comeNearerByAll_14 : decode cX0_comeNearerByAll 14 = .ok (.iload_n 3, 1) := by decide +kernel
theorem dX0_comeNearerByAll_15 : decode cX0_comeNearerByAll 15 = .ok (.iconst 1, 1) := by decide +kernel
theorem dX0_comeNearerByAll_16 : decode cX0_comeNearerByAll 16 = .ok (.invokevirtual 69, 3) := by decide +kernel
theorem dX0_comeNearerByAll_19 : decode cX0_comeNearerByAll 19 = .ok (.istore 4, 2) := by decide +kernel
theorem dX0_comeNearerByAll_21 : decode cX0_comeNearerByAll 21 = .ok (.aload_n 0, 1) := by decide +kernel
theorem dX0_comeNearerByAll_22 : decode cX0_comeNearerByAll 22 = .ok (.aload_n 1, 1) := by decide +kernel
theorem dX0_comeNearerByAll_23 : decode cX0_comeNearerByAll 23 = .ok (.iload_n 3, 1) := by decide +kernel
theorem dX0_comeNearerByAll_24 : decode cX0_comeNearerByAll 24 = .ok (.iconst 0, 1) := by decide +kernel
theorem dX0_comeNearerByAll_25 : decode cX0_comeNearerByAll 25 = .ok (.invokevirtual 69, 3) := by decide +kernel
theorem dX0_comeNearerByAll_28 : decode cX0_comeNearerByAll 28 = .ok (.istore 5, 2) := by decide +kernel
theorem dX0_comeNearerByAll_30 : decode cX0_comeNearerByAll 30 = .ok (.iload_n 2, 1) := by decide +kernel
theorem dX0_comeNearerByAll_31 : decode cX0_comeNearerByAll 31 = .ok (.ifCond .ne 13, 3) := by decide +kernel
theorem dX0_comeNearerByAll_34 : decode cX0_comeNearerByAll 34 = .ok (.iload 4, 2) := by decide +kernel
theorem dX0_comeNearerByAll_36 : decode cX0_comeNearerByAll 36 = .ok (.ifCond .ne 8, 3) := by decide +kernel
theorem dX0_comeNearerByAll_39 : decode cX0_comeNearerByAll 39 = .ok (.iload 5, 2) := by decide +kernel
theorem dX0_comeNearerByAll_41 : decode cX0_comeNearerByAll 41 = .ok (.ifCond .eq 7, 3) := by decide +kernel
theorem dX0_comeNearerByAll_44 : decode cX0_comeNearerByAll 44 = .ok (.iconst 1, 1) := by decide +kernel
theorem dX0_comeNearerByAll_45 : decode cX0_comeNearerByAll 45 = .ok (.goto 4, 3) := by decide +kernel
theorem dX0_comeNearerByAll_48 : decode cX0_comeNearerByAll 48 = .ok (.iconst 0, 1) := by decide +kernel
theorem dX0_comeNearerByAll_49 : decode cX0_comeNearerByAll 49 = .ok (.istore_n 2, 1) := by decide +kernel
theorem dX0_comeNearerByAll_50 : decode cX0_comeNearerByAll 50 = .ok (.iinc 3 1, 3) := by decide +kernel
theorem dX0_comeNearerByAll_53 : decode cX0_comeNearerByAll 53 = .ok (.goto (-49), 3) := by decide +kernel
theorem dX0_comeNearerByAll_56 : decode cX0_comeNearerByAll 56 = .ok (.iload_n 2, 1) := by decide +kernel
theorem dX0_comeNearerByAll_57 : decode cX0_comeNearerByAll 57 = .ok (.ireturn, 1) := by decide +kernel
theorem dX0_comeNearer_0 : decode cX0_comeNearer 0 = .ok (.aload_n 1, 1) := by decide +kernel
theorem dX0_comeNearer_1 : decode cX0_comeNearer 1 = .ok (.iload_n 2, 1) := by decide +kernel
theorem dX0_comeNearer_2 : decode cX0_comeNearer 2 = .ok (.invokevirtual 73, 3) := by decide +kernel
theorem dX0_comeNearer_5 : decode cX0_comeNearer 5 = .ok (.ifCond .ne 12, 3) := by decide +kernel
theorem dX0_comeNearer_8 : decode cX0_comeNearer 8 = .ok (.aload_n 1, 1) := by decide +kernel
theorem dX0_comeNearer_9 : decode cX0_comeNearer 9 = .ok (.iload_n 2, 1) := by decide +kernel
theorem dX0_comeNearer_10 : decode cX0_comeNearer 10 = .ok (.iload_n 3, 1) := by decide +kernel
theorem dX0_comeNearer_11 : decode cX0_comeNearer 11 = .ok (.invokevirtual 77, 3) := by decide +kernel
theorem dX0_comeNearer_14 : decode cX0_comeNearer 14 = .ok (.ifCond .ne 5, 3) := by decide +kernel
theorem dX0_comeNearer_17 : decode cX0_comeNearer 17 = .ok (.iconst 0, 1) := by decide +kernel
theorem dX0_comeNearer_18 : decode cX0_comeNearer 18 = .ok (.ireturn, 1) := by decide +kernel
theorem dX0_comeNearer_19 : decode cX0_comeNearer 19 = .ok (.aload_n 1, 1) := by decide +kernel
theorem dX0_comeNearer_20 : decode cX0_comeNearer 20 = .ok (.iload_n 2, 1) := by decide +kernel
theorem dX0_comeNearer_21 : decode cX0_comeNearer 21 = .ok (.iload_n 3, 1) := by decide +kernel
theorem dX0_comeNearer_22 : decode cX0_comeNearer 22 = .ok (.invokevirtual 38, 3) := by decide +kernel
theorem dX0_comeNearer_25 : decode cX0_comeNearer 25 = .ok (.istore 4, 2) := by decide +kernel
theorem dX0_comeNearer_27 : decode cX0_comeNearer 27 = .ok (.aload_n 0, 1) := by decide +kernel
theorem dX0_comeNearer_28 : decode cX0_comeNearer 28 = .ok (.getfield 9, 3) := by decide +kernel
theorem dX0_comeNearer_31 : decode cX0_comeNearer 31 = .ok (.aload_n 1, 1) := by decide +kernel
theorem dX0_comeNearer_32 : decode cX0_comeNearer 32 = .ok (.iload_n 2, 1) := by decide +kernel
theorem dX0_comeNearer_33 : decode cX0_comeNearer 33 = .ok (.iload_n 3, 1) := by decide +kernel
theorem dX0_comeNearer_34 : decode cX0_comeNearer 34 = .ok (.invokevirtual 42, 3) := by decide +kernel
theorem dX0_comeNearer_37 : decode cX0_comeNearer 37 = .ok (.invokestatic 19, 3) := by decide +kernel
theorem dX0_comeNearer_40 : decode cX0_comeNearer 40 = .ok (.iconst 1, 1) := by decide +kernel
theorem dX0_comeNearer_41 : decode cX0_comeNearer 41 = .ok (.iadd, 1) := by decide +kernel
theorem dX0_comeNearer_42 : decode cX0_comeNearer 42 = .ok (.istore 5, 2) := by decide +kernel
theorem dX0_comeNearer_44 : decode cX0_comeNearer 44 = .ok (.iload 5, 2) := by decide +kernel
theorem dX0_comeNearer_46 : decode cX0_comeNearer 46 = .ok (.aload_n 0, 1) := by decide +kernel
theorem dX0_comeNearer_47 : decode cX0_comeNearer 47 = .ok (.getfield 9, 3) := by decide +kernel
theorem dX0_comeNearer_50 : decode cX0_comeNearer 50 = .ok (.iload 4, 2) := by decide +kernel
theorem dX0_comeNearer_52 : decode cX0_comeNearer 52 = .ok (.invokestatic 19, 3) := by decide +kernel
theorem dX0_comeNearer_55 : decode cX0_comeNearer 55 = .ok (.if_icmp .lt 5, 3) := by decide +kernel
theorem dX0_comeNearer_58 : decode cX0_comeNearer 58 = .ok (.iconst 0, 1) := by decide +kernel
theorem dX0_comeNearer_59 : decode cX0_comeNearer 59 = .ok (.ireturn, 1) := by decide +kernel
theorem dX0_comeNearer_60 : decode cX0_comeNearer 60 = .ok (.aload_n 0, 1) := by decide +kernel
theorem dX0_comeNearer_61 : decode cX0_comeNearer 61 = .ok (.getfield 9, 3) := by decide +kernel
theorem dX0_comeNearer_64 : decode cX0_comeNearer 64 = .ok (.iload 4, 2) := by decide +kernel
theorem dX0_comeNearer_66 : decode cX0_comeNearer 66 = .ok (.iload 5, 2) := by decide +kernel
theorem dX0_comeNearer_68 : decode cX0_comeNearer 68 = .ok (.invokestatic 61, 3) := by decide +kernel
theorem dX0_comeNearer_71 : decode cX0_comeNearer 71 = .ok (.iconst 1, 1) := by decide +kernel
theorem dX0_comeNearer_72 : decode cX0_comeNearer 72 = .ok (.ireturn, 1) := by decide +kernel
theorem dX1_init_0 : decode cX1_init 0 = .ok (.aload_n 0, 1) := by decide +kernel
theorem dX1_init_1 : decode cX1_init 1 = .ok (.invokespecial 3, 3) := by decide +kernel
theorem dX1_init_4 : decode cX1_init 4 = .ok (.aload_n 0, 1) := by decide +kernel
theorem dX1_init_5 : decode cX1_init 5 = .ok (.bipush 48, 2) := by decide +kernel
theorem dX1_init_7 : decode cX1_init 7 = .ok (.newarray .int, 2) := by decide +kernel
theorem dX1_init_9 : decode cX1_init 9 = .ok (.putfield 9, 3) := by decide +kernel
theorem dX1_init_12 : decode cX1_init 12 = .ok (.aload_n 0, 1) := by decide +kernel
theorem dX1_init_13 : decode cX1_init 13 = .ok (.bipush 48, 2) := by decide +kernel
theorem dX1_init_15 : decode cX1_init 15 = .ok (.newarray .int, 2) := by decide +kernel
theorem dX1_init_17 : decode cX1_init 17 = .ok (.putfield 15, 3) := by decide +kernel
theorem dX1_init_20 : decode cX1_init 20 = .ok (.aload_n 0, 1) := by decide +kernel
theorem dX1_init_21 : decode cX1_init 21 = .ok (.bipush 48, 2) := by decide +kernel
theorem dX1_init_23 : decode cX1_init 23 = .ok (.newarray .int, 2) := by decide +kernel
theorem dX1_init_25 : decode cX1_init 25 = .ok (.putfield 18, 3) := by decide +kernel
theorem dX1_init_28 : decode cX1_init 28 = .ok (.aload_n 0, 1) := by decide +kernel
theorem dX1_init_29 : decode cX1_init 29 = .ok (.bipush 48, 2) := by decide +kernel
theorem dX1_init_31 : decode cX1_init 31 = .ok (.newarray .int, 2) := by decide +kernel
theorem dX1_init_33 : decode cX1_init 33 = .ok (.putfield 21, 3) := by decide +kernel
theorem dX1_init_36 : decode cX1_init 36 = .ok (.return_, 1) := by decide +kernel
theorem dX1_copyFrom_0 : decode cX1_copyFrom 0 = .ok (.aload_n 1, 1) := by decide +kernel
theorem dX1_copyFrom_1 : decode cX1_copyFrom 1 = .ok (.getfield 9, 3) := by decide +kernel
theorem dX1_copyFrom_4 : decode cX1_copyFrom 4 = .ok (.aload_n 0, 1) := by decide +kernel
theorem dX1_copyFrom_5 : decode cX1_copyFrom 5 = .ok (.getfield 9, 3) := by decide +kernel
theorem dX1_copyFrom_8 : decode cX1_copyFrom 8 = .ok (.invokestatic 24, 3) := by decide +kernel
theorem dX1_copyFrom_11 : decode cX1_copyFrom 11 = .ok (.aload_n 1, 1) := by decide +kernel
theorem dX1_copyFrom_12 : decode cX1_copyFrom 12 = .ok (.getfield 15, 3) := by decide +kernel
theorem dX1_copyFrom_15 : decode cX1_copyFrom 15 = .ok (.aload_n 0, 1) := by decide +kernel
theorem dX1_copyFrom_16 : decode cX1_copyFrom 16 = .ok (.getfield 15, 3) := by decide +kernel
theorem dX1_copyFrom_19 : decode cX1_copyFrom 19 = .ok (.invokestatic 24, 3) := by decide +kernel
theorem dX1_copyFrom_22 : decode cX1_copyFrom 22 = .ok (.aload_n 1, 1) := by decide +kernel
theorem dX1_copyFrom_23 : decode cX1_copyFrom 23 = .ok (.getfield 18, 3) := by decide +kernel
theorem dX1_copyFrom_26 : decode cX1_copyFrom 26 = .ok (.aload_n 0, 1) := by decide +kernel
theorem dX1_copyFrom_27 : decode cX1_copyFrom 27 = .ok (.getfield 18, 3) := by decide +kernel
theorem dX1_copyFrom_30 : decode cX1_copyFrom 30 = .ok (.invokestatic 24, 3) := by decide +kernel
theorem dX1_copyFrom_33 : decode cX1_copyFrom 33 = .ok (.aload_n 1, 1) := by decide +kernel
theorem dX1_copyFrom_34 : decode cX1_copyFrom 34 = .ok (.getfield 21, 3) := by decide +kernel
theorem dX1_copyFrom_37 : decode cX1_copyFrom 37 = .ok (.aload_n 0, 1) := by decide +kernel
theorem dX1_copyFrom_38 : decode cX1_copyFrom 38 = .ok (.getfield 21, 3) := by decide +kernel
theorem dX1_copyFrom_41 : decode cX1_copyFrom 41 = .ok (.invokestatic 24, 3) := by decide +kernel
theorem dX1_copyFrom_44 : decode cX1_copyFrom 44 = .ok (.return_, 1) := by decide +kernel
theorem dX1_beginAnew_0 : decode cX1_beginAnew 0 = .ok (.aload_n 0, 1) := by decide +kernel
theorem dX1_beginAnew_1 : decode cX1_beginAnew 1 = .ok (.getfield 15, 3) := by decide +kernel
theorem dX1_beginAnew_4 : decode cX1_beginAnew 4 = .ok (.iload_n 1, 1) := by decide +kernel
theorem dX1_beginAnew_5 : decode cX1_beginAnew 5 = .ok (.iload_n 2, 1) := by decide +kernel
theorem dX1_beginAnew_6 : decode cX1_beginAnew 6 = .ok (.invokestatic 28, 3) := by decide +kernel
theorem dX1_beginAnew_9 : decode cX1_beginAnew 9 = .ok (.aload_n 0, 1) := by decide +kernel
theorem dX1_beginAnew_10 : decode cX1_beginAnew 10 = .ok (.getfield 18, 3) := by decide +kernel
theorem dX1_beginAnew_13 : decode cX1_beginAnew 13 = .ok (.iload_n 1, 1) := by decide +kernel
theorem dX1_beginAnew_14 : decode cX1_beginAnew 14 = .ok (.iconst 0, 1) := by decide +kernel
theorem dX1_beginAnew_15 : decode cX1_beginAnew 15 = .ok (.invokestatic 28, 3) := by decide +kernel
theorem dX1_beginAnew_18 : decode cX1_beginAnew 18 = .ok (.return_, 1) := by decide +kernel
theorem dX1_seePeople_0 : decode cX1_seePeople 0 = .ok (.aload_n 0, 1) := by decide +kernel
theorem dX1_seePeople_1 : decode cX1_seePeople 1 = .ok (.getfield 15, 3) := by decide +kernel
theorem dX1_seePeople_4 : decode cX1_seePeople 4 = .ok (.iload_n 1, 1) := by decide +kernel
theorem dX1_seePeople_5 : decode cX1_seePeople 5 = .ok (.invokestatic 32, 3) := by decide +kernel
theorem dX1_seePeople_8 : decode cX1_seePeople 8 = .ok (.istore_n 3, 1) := by decide +kernel
theorem dX1_seePeople_9 : decode cX1_seePeople 9 = .ok (.iconst 0, 1) := by decide +kernel
theorem dX1_seePeople_10 : decode cX1_seePeople 10 = .ok (.istore 4, 2) := by decide +kernel
theorem dX1_seePeople_12 : decode cX1_seePeople 12 = .ok (.iload_n 3, 1) := by decide +kernel
theorem dX1_seePeople_13 : decode cX1_seePeople 13 = .ok (.ifCond .le 33, 3) := by decide +kernel
theorem dX1_seePeople_16 : decode cX1_seePeople 16 = .ok (.aload_n 0, 1) := by decide +kernel
theorem dX1_seePeople_17 : decode cX1_seePeople 17 = .ok (.getfield 18, 3) := by decide +kernel
theorem dX1_seePeople_20 : decode cX1_seePeople 20 = .ok (.iload_n 1, 1) := by decide +kernel
theorem dX1_seePeople_21 : decode cX1_seePeople 21 = .ok (.invokestatic 32, 3) := by decide +kernel
theorem dX1_seePeople_24 : decode cX1_seePeople 24 = .ok (.iload_n 2, 1) := by decide +kernel
theorem dX1_seePeople_25 : decode cX1_seePeople 25 = .ok (.iadd, 1) := by decide +kernel
theorem dX1_seePeople_26 : decode cX1_seePeople 26 = .ok (.istore 5, 2) := by decide +kernel
theorem dX1_seePeople_28 : decode cX1_seePeople 28 = .ok (.iload 5, 2) := by decide +kernel
theorem dX1_seePeople_30 : decode cX1_seePeople 30 = .ok (.iload_n 3, 1) := by decide +kernel
theorem dX1_seePeople_31 : decode cX1_seePeople 31 = .ok (.idiv, 1) := by decide +kernel
theorem dX1_seePeople_32 : decode cX1_seePeople 32 = .ok (.istore 4, 2) := by decide +kernel
theorem dX1_seePeople_34 : decode cX1_seePeople 34 = .ok (.aload_n 0, 1) := by decide +kernel
theorem dX1_seePeople_35 : decode cX1_seePeople 35 = .ok (.getfield 18, 3) := by decide +kernel
theorem dX1_seePeople_38 : decode cX1_seePeople 38 = .ok (.iload_n 1, 1) := by decide +kernel
theorem dX1_seePeople_39 : decode cX1_seePeople 39 = .ok (.iload 5, 2) := by decide +kernel
theorem dX1_seePeople_41 : decode cX1_seePeople 41 = .ok (.iload_n 3, 1) := by decide +kernel
theorem dX1_seePeople_42 : decode cX1_seePeople 42 = .ok (.irem, 1) := by decide +kernel
theorem dX1_seePeople_43 : decode cX1_seePeople 43 = .ok (.invokestatic 28, 3) := by decide +kernel
theorem dX1_seePeople_46 : decode cX1_seePeople 46 = .ok (.aload_n 0, 1) := by decide +kernel
theorem dX1_seePeople_47 : decode cX1_seePeople 47 = .ok (.getfield 9, 3) := by decide +kernel
theorem dX1_seePeople_50 : decode cX1_seePeople 50 = .ok (.iload_n 1, 1) := by decide +kernel
theorem dX1_seePeople_51 : decode cX1_seePeople 51 = .ok (.iload_n 2, 1) := by decide +kernel
theorem dX1_seePeople_52 : decode cX1_seePeople 52 = .ok (.iload 4, 2) := by decide +kernel
theorem dX1_seePeople_54 : decode cX1_seePeople 54 = .ok (.isub, 1) := by decide +kernel
theorem dX1_seePeople_55 : decode cX1_seePeople 55 = .ok (.invokestatic 36, 3) := by decide +kernel
theorem dX1_seePeople_58 : decode cX1_seePeople 58 = .ok (.aload_n 0, 1) := by decide +kernel
theorem dX1_seePeople_59 : decode cX1_seePeople 59 = .ok (.getfield 21, 3) := by decide +kernel
theorem dX1_seePeople_62 : decode cX1_seePeople 62 = .ok (.iload_n 1, 1) := by decide +kernel
theorem dX1_seePeople_63 : decode cX1_seePeople 63 = .ok (.iload 4, 2) := by decide +kernel
theorem dX1_seePeople_65 : decode cX1_seePeople 65 = .ok (.invokestatic 36, 3) := by decide +kernel
theorem dX1_seePeople_68 : decode cX1_seePeople 68 = .ok (.return_, 1) := by decide +kernel
theorem dX1_endSlips_0 : decode cX1_endSlips 0 = .ok (.iconst 0, 1) := by decide +kernel
theorem dX1_endSlips_1 : decode cX1_endSlips 1 = .ok (.istore_n 2, 1) := by decide +kernel
theorem dX1_endSlips_2 : decode cX1_endSlips 2 = .ok (.iload_n 2, 1) := by decide +kernel
theorem dX1_endSlips_3 : decode cX1_endSlips 3 = .ok (.iconst 4, 1) := by decide +kernel
theorem dX1_endSlips_4 : decode cX1_endSlips 4 = .ok (.if_icmp .ge 19, 3) := by decide +kernel
theorem dX1_endSlips_7 : decode cX1_endSlips 7 = .ok (.aload_n 0, 1) := by decide +kernel
theorem dX1_endSlips_8 : decode cX1_endSlips 8 = .ok (.iload_n 1, 1) := by decide +kernel
theorem dX1_endSlips_9 : decode cX1_endSlips 9 = .ok (.iload_n 2, 1) := by decide +kernel
theorem dX1_endSlips_10 : decode cX1_endSlips 10 = .ok (.invokestatic 39, 3) := by decide +kernel
theorem dX1_endSlips_13 : decode cX1_endSlips 13 = .ok (.iconst 0, 1) := by decide +kernel
theorem dX1_endSlips_14 : decode cX1_endSlips 14 = .ok (.invokevirtual 43, 3) := by decide +kernel
theorem dX1_endSlips_17 : decode cX1_endSlips 17 = .ok (.iinc 2 1, 3) := by decide +kernel
theorem dX1_endSlips_20 : decode cX1_endSlips 20 = .ok (.goto (-18), 3) := by decide +kernel
theorem dX1_endSlips_23 : decode cX1_endSlips 23 = .ok (.return_, 1) := by decide +kernel
theorem dX1_countOf_0 : decode cX1_countOf 0 = .ok (.aload_n 0, 1) := by decide +kernel
theorem dX1_countOf_1 : decode cX1_countOf 1 = .ok (.getfield 9, 3) := by decide +kernel
theorem dX1_countOf_4 : decode cX1_countOf 4 = .ok (.iload_n 1, 1) := by decide +kernel
theorem dX1_countOf_5 : decode cX1_countOf 5 = .ok (.iload_n 2, 1) := by decide +kernel
theorem dX1_countOf_6 : decode cX1_countOf 6 = .ok (.invokestatic 39, 3) := by decide +kernel
theorem dX1_countOf_9 : decode cX1_countOf 9 = .ok (.invokestatic 32, 3) := by decide +kernel
theorem dX1_countOf_12 : decode cX1_countOf 12 = .ok (.ireturn, 1) := by decide +kernel
theorem dX1_gapOf_0 : decode cX1_gapOf 0 = .ok (.aload_n 0, 1) := by decide +kernel
theorem dX1_gapOf_1 : decode cX1_gapOf 1 = .ok (.iload_n 1, 1) := by decide +kernel
theorem dX1_gapOf_2 : decode cX1_gapOf 2 = .ok (.iconst 0, 1) := by decide +kernel
theorem dX1_gapOf_3 : decode cX1_gapOf 3 = .ok (.invokevirtual 47, 3) := by decide +kernel
theorem dX1_gapOf_6 : decode cX1_gapOf 6 = .ok (.aload_n 0, 1) := by decide +kernel
theorem dX1_gapOf_7 : decode cX1_gapOf 7 = .ok (.iload_n 1, 1) := by decide +kernel
theorem dX1_gapOf_8 : decode cX1_gapOf 8 = .ok (.iconst 3, 1) := by decide +kernel
theorem dX1_gapOf_9 : decode cX1_gapOf 9 = .ok (.invokevirtual 47, 3) := by decide +kernel
theorem dX1_gapOf_12 : decode cX1_gapOf 12 = .ok (.isub, 1) := by decide +kernel
theorem dX1_gapOf_13 : decode cX1_gapOf 13 = .ok (.istore_n 2, 1) := by decide +kernel
theorem dX1_gapOf_14 : decode cX1_gapOf 14 = .ok (.aload_n 0, 1) := by decide +kernel
theorem dX1_gapOf_15 : decode cX1_gapOf 15 = .ok (.iload_n 1, 1) := by decide +kernel
theorem dX1_gapOf_16 : decode cX1_gapOf 16 = .ok (.iconst 1, 1) := by decide +kernel
theorem dX1_gapOf_17 : decode cX1_gapOf 17 = .ok (.invokevirtual 47, 3) := by decide +kernel
theorem dX1_gapOf_20 : decode cX1_gapOf 20 = .ok (.aload_n 0, 1) := by decide +kernel
theorem dX1_gapOf_21 : decode cX1_gapOf 21 = .ok (.iload_n 1, 1) := by decide +kernel
theorem dX1_gapOf_22 : decode cX1_gapOf 22 = .ok (.iconst 2, 1) := by decide +kernel
theorem dX1_gapOf_23 : decode cX1_gapOf 23 = .ok (.invokevirtual 47, 3) := by decide +kernel
theorem dX1_gapOf_26 : decode cX1_gapOf 26 = .ok (.isub, 1) := by decide +kernel
theorem dX1_gapOf_27 : decode cX1_gapOf 27 = .ok (.istore_n 3, 1) := by decide +kernel
theorem dX1_gapOf_28 : decode cX1_gapOf 28 = .ok (.iload_n 2, 1) := by decide +kernel
theorem dX1_gapOf_29 : decode cX1_gapOf 29 = .ok (.invokestatic 50, 3) := by decide +kernel
theorem dX1_gapOf_32 : decode cX1_gapOf 32 = .ok (.iload_n 3, 1) := by decide +kernel
theorem dX1_gapOf_33 : decode cX1_gapOf 33 = .ok (.invokestatic 50, 3) := by decide +kernel
theorem dX1_gapOf_36 : decode cX1_gapOf 36 = .ok (.iadd, 1) := by decide +kernel
theorem dX1_gapOf_37 : decode cX1_gapOf 37 = .ok (.ireturn, 1) := by decide +kernel
theorem dX1_makeAgree_0 : decode cX1_makeAgree 0 = .ok (.aload_n 0, 1) := by decide +kernel
theorem dX1_makeAgree_1 : decode cX1_makeAgree 1 = .ok (.iload_n 1, 1) := by decide +kernel
theorem dX1_makeAgree_2 : decode cX1_makeAgree 2 = .ok (.iconst 0, 1) := by decide +kernel
theorem dX1_makeAgree_3 : decode cX1_makeAgree 3 = .ok (.iconst 3, 1) := by decide +kernel
theorem dX1_makeAgree_4 : decode cX1_makeAgree 4 = .ok (.invokevirtual 56, 3) := by decide +kernel
theorem dX1_makeAgree_7 : decode cX1_makeAgree 7 = .ok (.aload_n 0, 1) := by decide +kernel
theorem dX1_makeAgree_8 : decode cX1_makeAgree 8 = .ok (.iload_n 1, 1) := by decide +kernel
theorem dX1_makeAgree_9 : decode cX1_makeAgree 9 = .ok (.iconst 1, 1) := by decide +kernel
theorem dX1_makeAgree_10 : decode cX1_makeAgree 10 = .ok (.iconst 2, 1) := by decide +kernel
theorem dX1_makeAgree_11 : decode cX1_makeAgree 11 = .ok (.invokevirtual 56, 3) := by decide +kernel
theorem dX1_makeAgree_14 : decode cX1_makeAgree 14 = .ok (.return_, 1) := by decide +kernel
theorem dX1_makePairAgree_0 : decode cX1_makePairAgree 0 = .ok (.aload_n 0, 1) := by decide +kernel
theorem dX1_makePairAgree_1 : decode cX1_makePairAgree 1 = .ok (.iload_n 1, 1) := by decide +kernel
theorem dX1_makePairAgree_2 : decode cX1_makePairAgree 2 = .ok (.iload_n 2, 1) := by decide +kernel
theorem dX1_makePairAgree_3 : decode cX1_makePairAgree 3 = .ok (.invokevirtual 47, 3) := by decide +kernel
theorem dX1_makePairAgree_6 : decode cX1_makePairAgree 6 = .ok (.aload_n 0, 1) := by decide +kernel
theorem dX1_makePairAgree_7 : decode cX1_makePairAgree 7 = .ok (.iload_n 1, 1) := by decide +kernel
theorem dX1_makePairAgree_8 : decode cX1_makePairAgree 8 = .ok (.iload_n 3, 1) := by decide +kernel
theorem dX1_makePairAgree_9 : decode cX1_makePairAgree 9 = .ok (.invokevirtual 47, 3) := by decide +kernel
theorem dX1_makePairAgree_12 : decode cX1_makePairAgree 12 = .ok (.invokestatic 60, 3) := by decide +kernel
theorem dX1_makePairAgree_15 : decode cX1_makePairAgree 15 = .ok (.istore 4, 2) := by decide +kernel
theorem dX1_makePairAgree_17 : decode cX1_makePairAgree 17 = .ok (.aload_n 0, 1) := by decide +kernel
theorem dX1_makePairAgree_18 : decode cX1_makePairAgree 18 = .ok (.getfield 9, 3) := by decide +kernel
theorem dX1_makePairAgree_21 : decode cX1_makePairAgree 21 = .ok (.iload_n 1, 1) := by decide +kernel
theorem dX1_makePairAgree_22 : decode cX1_makePairAgree 22 = .ok (.iload_n 2, 1) := by decide +kernel
theorem dX1_makePairAgree_23 : decode cX1_makePairAgree 23 = .ok (.invokestatic 39, 3) := by decide +kernel
theorem dX1_makePairAgree_26 : decode cX1_makePairAgree 26 = .ok (.iload 4, 2) := by decide +kernel
theorem dX1_makePairAgree_28 : decode cX1_makePairAgree 28 = .ok (.invokestatic 28, 3) := by decide +kernel
theorem dX1_makePairAgree_31 : decode cX1_makePairAgree 31 = .ok (.aload_n 0, 1) := by decide +kernel
theorem dX1_makePairAgree_32 : decode cX1_makePairAgree 32 = .ok (.getfield 9, 3) := by decide +kernel
theorem dX1_makePairAgree_35 : decode cX1_makePairAgree 35 = .ok (.iload_n 1, 1) := by decide +kernel
theorem dX1_makePairAgree_36 : decode cX1_makePairAgree 36 = .ok (.iload_n 3, 1) := by decide +kernel
theorem dX1_makePairAgree_37 : decode cX1_makePairAgree 37 = .ok (.invokestatic 39, 3) := by decide +kernel
theorem dX1_makePairAgree_40 : decode cX1_makePairAgree 40 = .ok (.iload 4, 2) := by decide +kernel
theorem dX1_makePairAgree_42 : decode cX1_makePairAgree 42 = .ok (.invokestatic 28, 3) := by decide +kernel
theorem dX1_makePairAgree_45 : decode cX1_makePairAgree 45 = .ok (.return_, 1) := by decide +kernel
theorem dX1_withSlip_0 : decode cX1_withSlip 0 = .ok (.iconst 0, 1) := by decide +kernel
theorem dX1_withSlip_1 : decode cX1_withSlip 1 = .ok (.istore_n 1, 1) := by decide +kernel
theorem dX1_withSlip_2 : decode cX1_withSlip 2 = .ok (.iconst 0, 1) := by decide +kernel
theorem dX1_withSlip_3 : decode cX1_withSlip 3 = .ok (.istore_n 2, 1) := by decide +kernel
theorem dX1_withSlip_4 : decode cX1_withSlip 4 = .ok (.iload_n 2, 1) := by decide +kernel
theorem dX1_withSlip_5 : decode cX1_withSlip 5 = .ok (.aload_n 0, 1) := by decide +kernel
theorem dX1_withSlip_6 : decode cX1_withSlip 6 = .ok (.getfield 15, 3) := by decide +kernel
theorem dX1_withSlip_9 : decode cX1_withSlip 9 = .ok (.arraylength, 1) := by decide +kernel
theorem dX1_withSlip_10 : decode cX1_withSlip 10 = .ok (.if_icmp .ge 23, 3) := by decide +kernel
theorem dX1_withSlip_13 : decode cX1_withSlip 13 = .ok (.aload_n 0, 1) := by decide +kernel
theorem dX1_withSlip_14 : decode cX1_withSlip 14 = .ok (.getfield 15, 3) := by decide +kernel
theorem dX1_withSlip_17 : decode cX1_withSlip 17 = .ok (.iload_n 2, 1) := by decide +kernel
theorem dX1_withSlip_18 : decode cX1_withSlip 18 = .ok (.invokestatic 32, 3) := by decide +kernel
theorem dX1_withSlip_21 : decode cX1_withSlip 21 = .ok (.ifCond .le 6, 3) := by decide +kernel
theorem dX1_withSlip_24 : decode cX1_withSlip 24 = .ok (.iinc 1 1, 3) := by decide +kernel
theorem dX1_withSlip_27 : decode cX1_withSlip 27 = .ok (.iinc 2 1, 3) := by decide +kernel
theorem dX1_withSlip_30 : decode cX1_withSlip 30 = .ok (.goto (-26), 3) := by decide +kernel
theorem dX1_withSlip_33 : decode cX1_withSlip 33 = .ok (.iload_n 1, 1) := by decide +kernel
theorem dX1_withSlip_34 : decode cX1_withSlip 34 = .ok (.ireturn, 1) := by decide +kernel
theorem dX2_init_0 : decode cX2_init 0 = .ok (.aload_n 0, 1) := by decide +kernel
theorem dX2_init_1 : decode cX2_init 1 = .ok (.invokespecial 3, 3) := by decide +kernel
theorem dX2_init_4 : decode cX2_init 4 = .ok (.aload_n 0, 1) := by decide +kernel
theorem dX2_init_5 : decode cX2_init 5 = .ok (.iconst 5, 1) := by decide +kernel
theorem dX2_init_6 : decode cX2_init 6 = .ok (.anewarray 9, 3) := by decide +kernel
theorem dX2_init_9 : decode cX2_init 9 = .ok (.putfield 11, 3) := by decide +kernel
theorem dX2_init_12 : decode cX2_init 12 = .ok (.aload_n 0, 1) := by decide +kernel
theorem dX2_init_13 : decode cX2_init 13 = .ok (.iconst 0, 1) := by decide +kernel
theorem dX2_init_14 : decode cX2_init 14 = .ok (.putfield 17, 3) := by decide +kernel
theorem dX2_init_17 : decode cX2_init 17 = .ok (.aload_n 0, 1) := by decide +kernel
theorem dX2_init_18 : decode cX2_init 18 = .ok (.iconst 0, 1) := by decide +kernel
theorem dX2_init_19 : decode cX2_init 19 = .ok (.putfield 21, 3) := by decide +kernel
theorem dX2_init_22 : decode cX2_init 22 = .ok (.iconst 0, 1) := by decide +kernel
theorem dX2_init_23 : decode cX2_init 23 = .ok (.istore_n 1, 1) := by decide +kernel
theorem dX2_init_24 : decode cX2_init 24 = .ok (.iload_n 1, 1) := by decide +kernel
theorem dX2_init_25 : decode cX2_init 25 = .ok (.aload_n 0, 1) := by decide +kernel
theorem dX2_init_26 : decode cX2_init 26 = .ok (.getfield 11, 3) := by decide +kernel
theorem dX2_init_29 : decode cX2_init 29 = .ok (.arraylength, 1) := by decide +kernel
theorem dX2_init_30 : decode cX2_init 30 = .ok (.if_icmp .ge 22, 3) := by decide +kernel
theorem dX2_init_33 : decode cX2_init 33 = .ok (.aload_n 0, 1) := by decide +kernel
theorem dX2_init_34 : decode cX2_init 34 = .ok (.getfield 11, 3) := by decide +kernel
theorem dX2_init_37 : decode cX2_init 37 = .ok (.iload_n 1, 1) := by decide +kernel
theorem dX2_init_38 : decode cX2_init 38 = .ok (.new 9, 3) := by decide +kernel
theorem dX2_init_41 : decode cX2_init 41 = .ok (.dup, 1) := by decide +kernel
theorem dX2_init_42 : decode cX2_init 42 = .ok (.invokespecial 24, 3) := by decide +kernel
theorem dX2_init_45 : decode cX2_init 45 = .ok (.aastore, 1) := by decide +kernel
theorem dX2_init_46 : decode cX2_init 46 = .ok (.iinc 1 1, 3) := by decide +kernel
theorem dX2_init_49 : decode cX2_init 49 = .ok (.goto (-25), 3) := by decide +kernel
theorem dX2_init_52 : decode cX2_init 52 = .ok (.return_, 1) := by decide +kernel
theorem dX2_keep_0 : decode cX2_keep 0 = .ok (.aload_n 0, 1) := by decide +kernel
theorem dX2_keep_1 : decode cX2_keep 1 = .ok (.aload_n 0, 1) := by decide +kernel
theorem dX2_keep_2 : decode cX2_keep 2 = .ok (.getfield 17, 3) := by decide +kernel
theorem dX2_keep_5 : decode cX2_keep 5 = .ok (.aload_n 0, 1) := by decide +kernel
theorem dX2_keep_6 : decode cX2_keep 6 = .ok (.getfield 21, 3) := by decide +kernel
theorem dX2_keep_9 : decode cX2_keep 9 = .ok (.iadd, 1) := by decide +kernel
theorem dX2_keep_10 : decode cX2_keep 10 = .ok (.iconst 5, 1) := by decide +kernel
theorem dX2_keep_11 : decode cX2_keep 11 = .ok (.irem, 1) := by decide +kernel
theorem dX2_keep_12 : decode cX2_keep 12 = .ok (.invokevirtual 25, 3) := by decide +kernel
theorem dX2_keep_15 : decode cX2_keep 15 = .ok (.astore_n 2, 1) := by decide +kernel
theorem dX2_keep_16 : decode cX2_keep 16 = .ok (.aload_n 2, 1) := by decide +kernel
theorem dX2_keep_17 : decode cX2_keep 17 = .ok (.ifnull 8, 3) := by decide +kernel
theorem dX2_keep_20 : decode cX2_keep 20 = .ok (.aload_n 2, 1) := by decide +kernel
theorem dX2_keep_21 : decode cX2_keep 21 = .ok (.aload_n 1, 1) := by decide +kernel
theorem dX2_keep_22 : decode cX2_keep 22 = .ok (.invokevirtual 29, 3) := by decide +kernel
theorem dX2_keep_25 : decode cX2_keep 25 = .ok (.aload_n 0, 1) := by decide +kernel
theorem dX2_keep_26 : decode cX2_keep 26 = .ok (.getfield 21, 3) := by decide +kernel
theorem dX2_keep_29 : decode cX2_keep 29 = .ok (.iconst 5, 1) := by decide +kernel
theorem dX2_keep_30 : decode cX2_keep 30 = .ok (.if_icmp .ge 16, 3) := by decide +kernel
theorem dX2_keep_33 : decode cX2_keep 33 = .ok (.aload_n 0, 1) := by decide +kernel
theorem dX2_keep_34 : decode cX2_keep 34 = .ok (.dup, 1) := by decide +kernel
theorem dX2_keep_35 : decode cX2_keep 35 = .ok (.getfield 21, 3) := by decide +kernel
theorem dX2_keep_38 : decode cX2_keep 38 = .ok (.iconst 1, 1) := by decide +kernel
theorem dX2_keep_39 : decode cX2_keep 39 = .ok (.iadd, 1) := by decide +kernel
theorem dX2_keep_40 : decode cX2_keep 40 = .ok (.putfield 21, 3) := by decide +kernel
theorem dX2_keep_43 : decode cX2_keep 43 = .ok (.goto 15, 3) := by decide +kernel
theorem dX2_keep_46 : decode cX2_keep 46 = .ok (.aload_n 0, 1) := by decide +kernel
theorem dX2_keep_47 : decode cX2_keep 47 = .ok (.aload_n 0, 1) := by decide +kernel
theorem dX2_keep_48 : decode cX2_keep 48 = .ok (.getfield 17, 3) := by decide +kernel
theorem dX2_keep_51 : decode cX2_keep 51 = .ok (.iconst 1, 1) := by decide +kernel
theorem dX2_keep_52 : decode cX2_keep 52 = .ok (.iadd, 1) := by decide +kernel
theorem dX2_keep_53 : decode cX2_keep 53 = .ok (.iconst 5, 1) := by decide +kernel
theorem dX2_keep_54 : decode cX2_keep 54 = .ok (.irem, 1) := by decide +kernel
theorem dX2_keep_55 : decode cX2_keep 55 = .ok (.putfield 17, 3) := by decide +kernel
theorem dX2_keep_58 : decode cX2_keep 58 = .ok (.return_, 1) := by decide +kernel
theorem dX2_takeLatest_0 : decode cX2_takeLatest 0 = .ok (.aload_n 0, 1) := by decide +kernel
theorem dX2_takeLatest_1 : decode cX2_takeLatest 1 = .ok (.getfield 21, 3) := by decide +kernel
theorem dX2_takeLatest_4 : decode cX2_takeLatest 4 = .ok (.ifCond .le 38, 3) := by decide +kernel
theorem dX2_takeLatest_7 : decode cX2_takeLatest 7 = .ok (.aload_n 0, 1) := by decide +kernel
theorem dX2_takeLatest_8 : decode cX2_takeLatest 8 = .ok (.dup, 1) := by decide +kernel
theorem dX2_takeLatest_9 : decode cX2_takeLatest 9 = .ok (.getfield 21, 3) := by decide +kernel
theorem dX2_takeLatest_12 : decode cX2_takeLatest 12 = .ok (.iconst 1, 1) := by decide +kernel
theorem dX2_takeLatest_13 : decode cX2_takeLatest 13 = .ok (.isub, 1) := by decide +kernel
theorem dX2_takeLatest_14 : decode cX2_takeLatest 14 = .ok (.putfield 21, 3) := by decide +kernel
theorem dX2_takeLatest_17 : decode cX2_takeLatest 17 = .ok (.aload_n 0, 1) := by decide +kernel
theorem dX2_takeLatest_18 : decode cX2_takeLatest 18 = .ok (.aload_n 0, 1) := by decide +kernel
theorem dX2_takeLatest_19 : decode cX2_takeLatest 19 = .ok (.getfield 17, 3) := by decide +kernel
theorem dX2_takeLatest_22 : decode cX2_takeLatest 22 = .ok (.aload_n 0, 1) := by decide +kernel
theorem dX2_takeLatest_23 : decode cX2_takeLatest 23 = .ok (.getfield 21, 3) := by decide +kernel
theorem dX2_takeLatest_26 : decode cX2_takeLatest 26 = .ok (.iadd, 1) := by decide +kernel
theorem dX2_takeLatest_27 : decode cX2_takeLatest 27 = .ok (.iconst 5, 1) := by decide +kernel
theorem dX2_takeLatest_28 : decode cX2_takeLatest 28 = .ok (.irem, 1) := by decide +kernel
theorem dX2_takeLatest_29 : decode cX2_takeLatest 29 = .ok (.invokevirtual 25, 3) := by decide +kernel
theorem dX2_takeLatest_32 : decode cX2_takeLatest 32 = .ok (.astore_n 2, 1) := by decide +kernel
theorem dX2_takeLatest_33 : decode cX2_takeLatest 33 = .ok (.aload_n 2, 1) := by decide +kernel
theorem dX2_takeLatest_34 : decode cX2_takeLatest 34 = .ok (.ifnull 8, 3) := by decide +kernel
theorem dX2_takeLatest_37 : decode cX2_takeLatest 37 = .ok (.aload_n 1, 1) := by decide +kernel
theorem dX2_takeLatest_38 : decode cX2_takeLatest 38 = .ok (.aload_n 2, 1) := by decide +kernel
theorem dX2_takeLatest_39 : decode cX2_takeLatest 39 = .ok (.invokevirtual 29, 3) := by decide +kernel
theorem dX2_takeLatest_42 : decode cX2_takeLatest 42 = .ok (.return_, 1) := by decide +kernel
theorem dX2_stateAt_0 : decode cX2_stateAt 0 = .ok (.iload_n 1, 1) := by decide +kernel
theorem dX2_stateAt_1 : decode cX2_stateAt 1 = .ok (.ifCond .lt 21, 3) := by decide +kernel
theorem dX2_stateAt_4 : decode cX2_stateAt 4 = .ok (.iload_n 1, 1) := by decide +kernel
theorem dX2_stateAt_5 : decode cX2_stateAt 5 = .ok (.aload_n 0, 1) := by decide +kernel
theorem dX2_stateAt_6 : decode cX2_stateAt 6 = .ok (.getfield 11, 3) := by decide +kernel
theorem dX2_stateAt_9 : decode cX2_stateAt 9 = .ok (.arraylength, 1) := by decide +kernel
theorem dX2_stateAt_10 : decode cX2_stateAt 10 = .ok (.if_icmp .ge 12, 3) := by decide +kernel
theorem dX2_stateAt_13 : decode cX2_stateAt 13 = .ok (.aload_n 0, 1) := by decide +kernel
theorem dX2_stateAt_14 : decode cX2_stateAt 14 = .ok (.getfield 11, 3) := by decide +kernel
theorem dX2_stateAt_17 : decode cX2_stateAt 17 = .ok (.iload_n 1, 1) := by decide +kernel
theorem dX2_stateAt_18 : decode cX2_stateAt 18 = .ok (.aaload, 1) := by decide +kernel
theorem dX2_stateAt_19 : decode cX2_stateAt 19 = .ok (.goto 4, 3) := by decide +kernel
theorem dX2_stateAt_22 : decode cX2_stateAt 22 = .ok (.aconst_null, 1) := by decide +kernel
theorem dX2_stateAt_23 : decode cX2_stateAt 23 = .ok (.areturn, 1) := by decide +kernel
theorem dX3_init_0 : decode cX3_init 0 = .ok (.aload_n 0, 1) := by decide +kernel
theorem dX3_init_1 : decode cX3_init 1 = .ok (.invokespecial 3, 3) := by decide +kernel
theorem dX3_init_4 : decode cX3_init 4 = .ok (.aload_n 0, 1) := by decide +kernel
theorem dX3_init_5 : decode cX3_init 5 = .ok (.bipush 60, 2) := by decide +kernel
theorem dX3_init_7 : decode cX3_init 7 = .ok (.newarray .int, 2) := by decide +kernel
theorem dX3_init_9 : decode cX3_init 9 = .ok (.putfield 9, 3) := by decide +kernel
theorem dX3_init_12 : decode cX3_init 12 = .ok (.aload_n 0, 1) := by decide +kernel
theorem dX3_init_13 : decode cX3_init 13 = .ok (.iconst 0, 1) := by decide +kernel
theorem dX3_init_14 : decode cX3_init 14 = .ok (.putfield 15, 3) := by decide +kernel
theorem dX3_init_17 : decode cX3_init 17 = .ok (.aload_n 0, 1) := by decide +kernel
theorem dX3_init_18 : decode cX3_init 18 = .ok (.iconst 0, 1) := by decide +kernel
theorem dX3_init_19 : decode cX3_init 19 = .ok (.putfield 19, 3) := by decide +kernel
theorem dX3_init_22 : decode cX3_init 22 = .ok (.aload_n 0, 1) := by decide +kernel
theorem dX3_init_23 : decode cX3_init 23 = .ok (.iconst 0, 1) := by decide +kernel
theorem dX3_init_24 : decode cX3_init 24 = .ok (.putfield 22, 3) := by decide +kernel
theorem dX3_init_27 : decode cX3_init 27 = .ok (.aload_n 0, 1) := by decide +kernel
theorem dX3_init_28 : decode cX3_init 28 = .ok (.iconst 0, 1) := by decide +kernel
theorem dX3_init_29 : decode cX3_init 29 = .ok (.putfield 25, 3) := by decide +kernel
theorem dX3_init_32 : decode cX3_init 32 = .ok (.aload_n 0, 1) := by decide +kernel
theorem dX3_init_33 : decode cX3_init 33 = .ok (.iconst 0, 1) := by decide +kernel
theorem dX3_init_34 : decode cX3_init 34 = .ok (.putfield 28, 3) := by decide +kernel
theorem dX3_init_37 : decode cX3_init 37 = .ok (.return_, 1) := by decide +kernel
theorem dX4_init_0 : decode cX4_init 0 = .ok (.aload_n 0, 1) := by decide +kernel
theorem dX4_init_1 : decode cX4_init 1 = .ok (.invokespecial 3, 3) := by decide +kernel
theorem dX4_init_4 : decode cX4_init 4 = .ok (.aload_n 0, 1) := by decide +kernel
theorem dX4_init_5 : decode cX4_init 5 = .ok (.bipush 6, 2) := by decide +kernel
theorem dX4_init_7 : decode cX4_init 7 = .ok (.newarray .int, 2) := by decide +kernel
theorem dX4_init_9 : decode cX4_init 9 = .ok (.putfield 9, 3) := by decide +kernel
theorem dX4_init_12 : decode cX4_init 12 = .ok (.aload_n 0, 1) := by decide +kernel
theorem dX4_init_13 : decode cX4_init 13 = .ok (.bipush 6, 2) := by decide +kernel
theorem dX4_init_15 : decode cX4_init 15 = .ok (.newarray .int, 2) := by decide +kernel
theorem dX4_init_17 : decode cX4_init 17 = .ok (.putfield 15, 3) := by decide +kernel
theorem dX4_init_20 : decode cX4_init 20 = .ok (.aload_n 0, 1) := by decide +kernel
theorem dX4_init_21 : decode cX4_init 21 = .ok (.bipush 12, 2) := by decide +kernel
theorem dX4_init_23 : decode cX4_init 23 = .ok (.newarray .int, 2) := by decide +kernel
theorem dX4_init_25 : decode cX4_init 25 = .ok (.putfield 18, 3) := by decide +kernel
theorem dX4_init_28 : decode cX4_init 28 = .ok (.aload_n 0, 1) := by decide +kernel
theorem dX4_init_29 : decode cX4_init 29 = .ok (.bipush 12, 2) := by decide +kernel
theorem dX4_init_31 : decode cX4_init 31 = .ok (.newarray .int, 2) := by decide +kernel
theorem dX4_init_33 : decode cX4_init 33 = .ok (.putfield 21, 3) := by decide +kernel
theorem dX4_init_36 : decode cX4_init 36 = .ok (.aload_n 0, 1) := by decide +kernel
theorem dX4_init_37 : decode cX4_init 37 = .ok (.bipush 12, 2) := by decide +kernel
theorem dX4_init_39 : decode cX4_init 39 = .ok (.newarray .int, 2) := by decide +kernel
theorem dX4_init_41 : decode cX4_init 41 = .ok (.putfield 24, 3) := by decide +kernel
theorem dX4_init_44 : decode cX4_init 44 = .ok (.aload_n 0, 1) := by decide +kernel
theorem dX4_init_45 : decode cX4_init 45 = .ok (.bipush 12, 2) := by decide +kernel
theorem dX4_init_47 : decode cX4_init 47 = .ok (.newarray .int, 2) := by decide +kernel
theorem dX4_init_49 : decode cX4_init 49 = .ok (.putfield 27, 3) := by decide +kernel
theorem dX4_init_52 : decode cX4_init 52 = .ok (.aload_n 0, 1) := by decide +kernel
theorem dX4_init_53 : decode cX4_init 53 = .ok (.new 30, 3) := by decide +kernel
theorem dX4_init_56 : decode cX4_init 56 = .ok (.dup, 1) := by decide +kernel
theorem dX4_init_57 : decode cX4_init 57 = .ok (.invokespecial 32, 3) := by decide +kernel
theorem dX4_init_60 : decode cX4_init 60 = .ok (.putfield 33, 3) := by decide +kernel
theorem dX4_init_63 : decode cX4_init 63 = .ok (.aload_n 0, 1) := by decide +kernel
theorem dX4_init_64 : decode cX4_init 64 = .ok (.iconst 0, 1) := by decide +kernel
theorem dX4_init_65 : decode cX4_init 65 = .ok (.putfield 37, 3) := by decide +kernel
theorem dX4_init_68 : decode cX4_init 68 = .ok (.aload_n 0, 1) := by decide +kernel
theorem dX4_init_69 : decode cX4_init 69 = .ok (.bipush 30, 2) := by decide +kernel
theorem dX4_init_71 : decode cX4_init 71 = .ok (.putfield 41, 3) := by decide +kernel
theorem dX4_init_74 : decode cX4_init 74 = .ok (.aload_n 0, 1) := by decide +kernel
theorem dX4_init_75 : decode cX4_init 75 = .ok (.bipush 6, 2) := by decide +kernel
theorem dX4_init_77 : decode cX4_init 77 = .ok (.putfield 44, 3) := by decide +kernel
theorem dX4_init_80 : decode cX4_init 80 = .ok (.aload_n 0, 1) := by decide +kernel
theorem dX4_init_81 : decode cX4_init 81 = .ok (.iconst 0, 1) := by decide +kernel
theorem dX4_init_82 : decode cX4_init 82 = .ok (.putfield 47, 3) := by decide +kernel
theorem dX4_init_85 : decode cX4_init 85 = .ok (.iconst 0, 1) := by decide +kernel
theorem dX4_init_86 : decode cX4_init 86 = .ok (.istore_n 1, 1) := by decide +kernel
theorem dX4_init_87 : decode cX4_init 87 = .ok (.iload_n 1, 1) := by decide +kernel
theorem dX4_init_88 : decode cX4_init 88 = .ok (.aload_n 0, 1) := by decide +kernel
theorem dX4_init_89 : decode cX4_init 89 = .ok (.getfield 9, 3) := by decide +kernel
theorem dX4_init_92 : decode cX4_init 92 = .ok (.arraylength, 1) := by decide +kernel
theorem dX4_init_93 : decode cX4_init 93 = .ok (.if_icmp .ge 17, 3) := by decide +kernel
theorem dX4_init_96 : decode cX4_init 96 = .ok (.aload_n 0, 1) := by decide +kernel
theorem dX4_init_97 : decode cX4_init 97 = .ok (.getfield 9, 3) := by decide +kernel
theorem dX4_init_100 : decode cX4_init 100 = .ok (.iload_n 1, 1) := by decide +kernel
theorem dX4_init_101 : decode cX4_init 101 = .ok (.bipush 100, 2) := by decide +kernel
theorem dX4_init_103 : decode cX4_init 103 = .ok (.iastore, 1) := by decide +kernel
theorem dX4_init_104 : decode cX4_init 104 = .ok (.iinc 1 1, 3) := by decide +kernel
theorem dX4_init_107 : decode cX4_init 107 = .ok (.goto (-20), 3) := by decide +kernel
theorem dX4_init_110 : decode cX4_init 110 = .ok (.return_, 1) := by decide +kernel
theorem dX4_copyFrom_0 : decode cX4_copyFrom 0 = .ok (.aload_n 1, 1) := by decide +kernel
theorem dX4_copyFrom_1 : decode cX4_copyFrom 1 = .ok (.getfield 9, 3) := by decide +kernel
theorem dX4_copyFrom_4 : decode cX4_copyFrom 4 = .ok (.aload_n 0, 1) := by decide +kernel
theorem dX4_copyFrom_5 : decode cX4_copyFrom 5 = .ok (.getfield 9, 3) := by decide +kernel
theorem dX4_copyFrom_8 : decode cX4_copyFrom 8 = .ok (.invokestatic 50, 3) := by decide +kernel
theorem dX4_copyFrom_11 : decode cX4_copyFrom 11 = .ok (.aload_n 1, 1) := by decide +kernel
theorem dX4_copyFrom_12 : decode cX4_copyFrom 12 = .ok (.getfield 15, 3) := by decide +kernel
theorem dX4_copyFrom_15 : decode cX4_copyFrom 15 = .ok (.aload_n 0, 1) := by decide +kernel
theorem dX4_copyFrom_16 : decode cX4_copyFrom 16 = .ok (.getfield 15, 3) := by decide +kernel
theorem dX4_copyFrom_19 : decode cX4_copyFrom 19 = .ok (.invokestatic 50, 3) := by decide +kernel
theorem dX4_copyFrom_22 : decode cX4_copyFrom 22 = .ok (.aload_n 1, 1) := by decide +kernel
theorem dX4_copyFrom_23 : decode cX4_copyFrom 23 = .ok (.getfield 18, 3) := by decide +kernel
theorem dX4_copyFrom_26 : decode cX4_copyFrom 26 = .ok (.aload_n 0, 1) := by decide +kernel
theorem dX4_copyFrom_27 : decode cX4_copyFrom 27 = .ok (.getfield 18, 3) := by decide +kernel
theorem dX4_copyFrom_30 : decode cX4_copyFrom 30 = .ok (.invokestatic 50, 3) := by decide +kernel
theorem dX4_copyFrom_33 : decode cX4_copyFrom 33 = .ok (.aload_n 1, 1) := by decide +kernel
theorem dX4_copyFrom_34 : decode cX4_copyFrom 34 = .ok (.getfield 21, 3) := by decide +kernel
theorem dX4_copyFrom_37 : decode cX4_copyFrom 37 = .ok (.aload_n 0, 1) := by decide +kernel
theorem dX4_copyFrom_38 : decode cX4_copyFrom 38 = .ok (.getfield 21, 3) := by decide +kernel
theorem dX4_copyFrom_41 : decode cX4_copyFrom 41 = .ok (.invokestatic 50, 3) := by decide +kernel
theorem dX4_copyFrom_44 : decode cX4_copyFrom 44 = .ok (.aload_n 1, 1) := by decide +kernel
theorem dX4_copyFrom_45 : decode cX4_copyFrom 45 = .ok (.getfield 24, 3) := by decide +kernel
theorem dX4_copyFrom_48 : decode cX4_copyFrom 48 = .ok (.aload_n 0, 1) := by decide +kernel
theorem dX4_copyFrom_49 : decode cX4_copyFrom 49 = .ok (.getfield 24, 3) := by decide +kernel
theorem dX4_copyFrom_52 : decode cX4_copyFrom 52 = .ok (.invokestatic 50, 3) := by decide +kernel
theorem dX4_copyFrom_55 : decode cX4_copyFrom 55 = .ok (.aload_n 1, 1) := by decide +kernel
theorem dX4_copyFrom_56 : decode cX4_copyFrom 56 = .ok (.getfield 27, 3) := by decide +kernel
theorem dX4_copyFrom_59 : decode cX4_copyFrom 59 = .ok (.aload_n 0, 1) := by decide +kernel
theorem dX4_copyFrom_60 : decode cX4_copyFrom 60 = .ok (.getfield 27, 3) := by decide +kernel
theorem dX4_copyFrom_63 : decode cX4_copyFrom 63 = .ok (.invokestatic 50, 3) := by decide +kernel
theorem dX4_copyFrom_66 : decode cX4_copyFrom 66 = .ok (.aload_n 0, 1) := by decide +kernel
theorem dX4_copyFrom_67 : decode cX4_copyFrom 67 = .ok (.getfield 33, 3) := by decide +kernel
theorem dX4_copyFrom_70 : decode cX4_copyFrom 70 = .ok (.aload_n 1, 1) := by decide +kernel
theorem dX4_copyFrom_71 : decode cX4_copyFrom 71 = .ok (.getfield 33, 3) := by decide +kernel
theorem dX4_copyFrom_74 : decode cX4_copyFrom 74 = .ok (.invokevirtual 54, 3) := by decide +kernel
theorem dX4_copyFrom_77 : decode cX4_copyFrom 77 = .ok (.aload_n 0, 1) := by decide +kernel
theorem dX4_copyFrom_78 : decode cX4_copyFrom 78 = .ok (.aload_n 1, 1) := by decide +kernel
theorem dX4_copyFrom_79 : decode cX4_copyFrom 79 = .ok (.getfield 37, 3) := by decide +kernel
theorem dX4_copyFrom_82 : decode cX4_copyFrom 82 = .ok (.putfield 37, 3) := by decide +kernel
theorem dX4_copyFrom_85 : decode cX4_copyFrom 85 = .ok (.aload_n 0, 1) := by decide +kernel
theorem dX4_copyFrom_86 : decode cX4_copyFrom 86 = .ok (.aload_n 1, 1) := by decide +kernel
theorem dX4_copyFrom_87 : decode cX4_copyFrom 87 = .ok (.getfield 41, 3) := by decide +kernel
theorem dX4_copyFrom_90 : decode cX4_copyFrom 90 = .ok (.putfield 41, 3) := by decide +kernel
theorem dX4_copyFrom_93 : decode cX4_copyFrom 93 = .ok (.aload_n 0, 1) := by decide +kernel
theorem dX4_copyFrom_94 : decode cX4_copyFrom 94 = .ok (.aload_n 1, 1) := by decide +kernel
theorem dX4_copyFrom_95 : decode cX4_copyFrom 95 = .ok (.getfield 44, 3) := by decide +kernel
theorem dX4_copyFrom_98 : decode cX4_copyFrom 98 = .ok (.putfield 44, 3) := by decide +kernel
theorem dX4_copyFrom_101 : decode cX4_copyFrom 101 = .ok (.aload_n 0, 1) := by decide +kernel
theorem dX4_copyFrom_102 : decode cX4_copyFrom 102 = .ok (.aload_n 1, 1) := by decide +kernel
theorem dX4_copyFrom_103 : decode cX4_copyFrom 103 = .ok (.getfield 47, 3) := by decide +kernel
theorem dX4_copyFrom_106 : decode cX4_copyFrom 106 = .ok (.putfield 47, 3) := by decide +kernel
theorem dX4_copyFrom_109 : decode cX4_copyFrom 109 = .ok (.return_, 1) := by decide +kernel
theorem dX4_hasStile_0 : decode cX4_hasStile 0 = .ok (.iload_n 1, 1) := by decide +kernel
theorem dX4_hasStile_1 : decode cX4_hasStile 1 = .ok (.ifCond .lt 15, 3) := by decide +kernel
theorem dX4_hasStile_4 : decode cX4_hasStile 4 = .ok (.iload_n 1, 1) := by decide +kernel
theorem dX4_hasStile_5 : decode cX4_hasStile 5 = .ok (.aload_n 0, 1) := by decide +kernel
theorem dX4_hasStile_6 : decode cX4_hasStile 6 = .ok (.getfield 37, 3) := by decide +kernel
theorem dX4_hasStile_9 : decode cX4_hasStile 9 = .ok (.if_icmp .ge 7, 3) := by decide +kernel
theorem dX4_hasStile_12 : decode cX4_hasStile 12 = .ok (.iconst 1, 1) := by decide +kernel
theorem dX4_hasStile_13 : decode cX4_hasStile 13 = .ok (.goto 4, 3) := by decide +kernel
theorem dX4_hasStile_16 : decode cX4_hasStile 16 = .ok (.iconst 0, 1) := by decide +kernel
theorem dX4_hasStile_17 : decode cX4_hasStile 17 = .ok (.ireturn, 1) := by decide +kernel
theorem dX4_putUp_0 : decode cX4_putUp 0 = .ok (.aload_n 0, 1) := by decide +kernel
theorem dX4_putUp_1 : decode cX4_putUp 1 = .ok (.getfield 37, 3) := by decide +kernel
theorem dX4_putUp_4 : decode cX4_putUp 4 = .ok (.istore_n 3, 1) := by decide +kernel
theorem dX4_putUp_5 : decode cX4_putUp 5 = .ok (.aload_n 0, 1) := by decide +kernel
theorem dX4_putUp_6 : decode cX4_putUp 6 = .ok (.getfield 18, 3) := by decide +kernel
theorem dX4_putUp_9 : decode cX4_putUp 9 = .ok (.iload_n 3, 1) := by decide +kernel
theorem dX4_putUp_10 : decode cX4_putUp 10 = .ok (.iload_n 1, 1) := by decide +kernel
theorem dX4_putUp_11 : decode cX4_putUp 11 = .ok (.invokestatic 58, 3) := by decide +kernel
theorem dX4_putUp_14 : decode cX4_putUp 14 = .ok (.aload_n 0, 1) := by decide +kernel
theorem dX4_putUp_15 : decode cX4_putUp 15 = .ok (.getfield 21, 3) := by decide +kernel
theorem dX4_putUp_18 : decode cX4_putUp 18 = .ok (.iload_n 3, 1) := by decide +kernel
theorem dX4_putUp_19 : decode cX4_putUp 19 = .ok (.iload_n 2, 1) := by decide +kernel
theorem dX4_putUp_20 : decode cX4_putUp 20 = .ok (.invokestatic 58, 3) := by decide +kernel
theorem dX4_putUp_23 : decode cX4_putUp 23 = .ok (.aload_n 0, 1) := by decide +kernel
theorem dX4_putUp_24 : decode cX4_putUp 24 = .ok (.iload_n 3, 1) := by decide +kernel
theorem dX4_putUp_25 : decode cX4_putUp 25 = .ok (.iconst 1, 1) := by decide +kernel
theorem dX4_putUp_26 : decode cX4_putUp 26 = .ok (.iadd, 1) := by decide +kernel
theorem dX4_putUp_27 : decode cX4_putUp 27 = .ok (.putfield 37, 3) := by decide +kernel
theorem dX4_putUp_30 : decode cX4_putUp 30 = .ok (.iload_n 3, 1) := by decide +kernel
theorem dX4_putUp_31 : decode cX4_putUp 31 = .ok (.ireturn, 1) := by decide +kernel
theorem dX4_hallBehind_0 : decode cX4_hallBehind 0 = .ok (.iload_n 2, 1) := by decide +kernel
theorem dX4_hallBehind_1 : decode cX4_hallBehind 1 = .ok (.ifCond .eq 14, 3) := by decide +kernel
theorem dX4_hallBehind_4 : decode cX4_hallBehind 4 = .ok (.aload_n 0, 1) := by decide +kernel
theorem dX4_hallBehind_5 : decode cX4_hallBehind 5 = .ok (.getfield 18, 3) := by decide +kernel
theorem dX4_hallBehind_8 : decode cX4_hallBehind 8 = .ok (.iload_n 1, 1) := by decide +kernel
theorem dX4_hallBehind_9 : decode cX4_hallBehind 9 = .ok (.invokestatic 62, 3) := by decide +kernel
theorem dX4_hallBehind_12 : decode cX4_hallBehind 12 = .ok (.goto 11, 3) := by decide +kernel
theorem dX4_hallBehind_15 : decode cX4_hallBehind 15 = .ok (.aload_n 0, 1) := by decide +kernel
theorem dX4_hallBehind_16 : decode cX4_hallBehind 16 = .ok (.getfield 21, 3) := by decide +kernel
theorem dX4_hallBehind_19 : decode cX4_hallBehind 19 = .ok (.iload_n 1, 1) := by decide +kernel
theorem dX4_hallBehind_20 : decode cX4_hallBehind 20 = .ok (.invokestatic 62, 3) := by decide +kernel
theorem dX4_hallBehind_23 : decode cX4_hallBehind 23 = .ok (.ireturn, 1) := by decide +kernel
theorem dX4_hallAhead_0 : decode cX4_hallAhead 0 = .ok (.aload_n 0, 1) := by decide +kernel
theorem dX4_hallAhead_1 : decode cX4_hallAhead 1 = .ok (.iload_n 1, 1) := by decide +kernel
theorem dX4_hallAhead_2 : decode cX4_hallAhead 2 = .ok (.iload_n 2, 1) := by decide +kernel
theorem dX4_hallAhead_3 : decode cX4_hallAhead 3 = .ok (.ifCond .ne 7, 3) := by decide +kernel
theorem dX4_hallAhead_6 : decode cX4_hallAhead 6 = .ok (.iconst 1, 1) := by decide +kernel
theorem dX4_hallAhead_7 : decode cX4_hallAhead 7 = .ok (.goto 4, 3) := by decide +kernel
theorem dX4_hallAhead_10 : decode cX4_hallAhead 10 = .ok (.iconst 0, 1) := by decide +kernel
theorem dX4_hallAhead_11 : decode cX4_hallAhead 11 = .ok (.invokevirtual 66, 3) := by decide +kernel
theorem dX4_hallAhead_14 : decode cX4_hallAhead 14 = .ok (.ireturn, 1) := by decide +kernel
theorem dX4_goes_0 : decode cX4_goes 0 = .ok (.aload_n 0, 1) := by decide +kernel
theorem dX4_goes_1 : decode cX4_goes 1 = .ok (.getfield 24, 3) := by decide +kernel
theorem dX4_goes_4 : decode cX4_goes 4 = .ok (.iload_n 1, 1) := by decide +kernel
theorem dX4_goes_5 : decode cX4_goes 5 = .ok (.invokestatic 62, 3) := by decide +kernel
theorem dX4_goes_8 : decode cX4_goes 8 = .ok (.istore_n 3, 1) := by decide +kernel
theorem dX4_goes_9 : decode cX4_goes 9 = .ok (.iload_n 3, 1) := by decide +kernel
theorem dX4_goes_10 : decode cX4_goes 10 = .ok (.ifCond .eq 16, 3) := by decide +kernel
theorem dX4_goes_13 : decode cX4_goes 13 = .ok (.iload_n 3, 1) := by decide +kernel
theorem dX4_goes_14 : decode cX4_goes 14 = .ok (.iload_n 2, 1) := by decide +kernel
theorem dX4_goes_15 : decode cX4_goes 15 = .ok (.ifCond .eq 7, 3) := by decide +kernel
theorem dX4_goes_18 : decode cX4_goes 18 = .ok (.iconst 1, 1) := by decide +kernel
theorem dX4_goes_19 : decode cX4_goes 19 = .ok (.goto 4, 3) := by decide +kernel
theorem dX4_goes_22 : decode cX4_goes 22 = .ok (.iconst 2, 1) := by decide +kernel
theorem dX4_goes_23 : decode cX4_goes 23 = .ok (.if_icmp .ne 7, 3) := by decide +kernel
theorem dX4_goes_26 : decode cX4_goes 26 = .ok (.iconst 1, 1) := by decide +kernel
theorem dX4_goes_27 : decode cX4_goes 27 = .ok (.goto 4, 3) := by decide +kernel
theorem dX4_goes_30 : decode cX4_goes 30 = .ok (.iconst 0, 1) := by decide +kernel
theorem dX4_goes_31 : decode cX4_goes 31 = .ok (.ireturn, 1) := by decide +kernel
theorem dX4_isUnderRepair_0 : decode cX4_isUnderRepair 0 = .ok (.aload_n 0, 1) := by decide +kernel
theorem dX4_isUnderRepair_1 : decode cX4_isUnderRepair 1 = .ok (.getfield 27, 3) := by decide +kernel
theorem dX4_isUnderRepair_4 : decode cX4_isUnderRepair 4 = .ok (.iload_n 1, 1) := by decide +kernel
theorem dX4_isUnderRepair_5 : decode cX4_isUnderRepair 5 = .ok (.invokestatic 62, 3) := by decide +kernel
theorem dX4_isUnderRepair_8 : decode cX4_isUnderRepair 8 = .ok (.ifCond .le 7, 3) := by decide +kernel
theorem dX4_isUnderRepair_11 : decode cX4_isUnderRepair 11 = .ok (.iconst 1, 1) := by decide +kernel
theorem dX4_isUnderRepair_12 : decode cX4_isUnderRepair 12 = .ok (.goto 4, 3) := by decide +kernel
theorem dX4_isUnderRepair_15 : decode cX4_isUnderRepair 15 = .ok (.iconst 0, 1) := by decide +kernel
theorem dX4_isUnderRepair_16 : decode cX4_isUnderRepair 16 = .ok (.ireturn, 1) := by decide +kernel
theorem dX4_whyNot_0 : decode cX4_whyNot 0 = .ok (.aload_n 0, 1) := by decide +kernel
theorem dX4_whyNot_1 : decode cX4_whyNot 1 = .ok (.iload_n 1, 1) := by decide +kernel
theorem dX4_whyNot_2 : decode cX4_whyNot 2 = .ok (.invokevirtual 70, 3) := by decide +kernel
theorem dX4_whyNot_5 : decode cX4_whyNot 5 = .ok (.ifCond .eq 5, 3) := by decide +kernel
theorem dX4_whyNot_8 : decode cX4_whyNot 8 = .ok (.iconst 1, 1) := by decide +kernel
theorem dX4_whyNot_9 : decode cX4_whyNot 9 = .ok (.ireturn, 1) := by decide +kernel
theorem dX4_whyNot_10 : decode cX4_whyNot 10 = .ok (.aload_n 0, 1) := by decide +kernel
theorem dX4_whyNot_11 : decode cX4_whyNot 11 = .ok (.iload_n 1, 1) := by decide +kernel
theorem dX4_whyNot_12 : decode cX4_whyNot 12 = .ok (.iload_n 2, 1) := by decide +kernel
theorem dX4_whyNot_13 : decode cX4_whyNot 13 = .ok (.invokevirtual 74, 3) := by decide +kernel
theorem dX4_whyNot_16 : decode cX4_whyNot 16 = .ok (.ifCond .ne 5, 3) := by decide +kernel
theorem dX4_whyNot_19 : decode cX4_whyNot 19 = .ok (.iconst 2, 1) := by decide +kernel
theorem dX4_whyNot_20 : decode cX4_whyNot 20 = .ok (.ireturn, 1) := by decide +kernel
theorem dX4_whyNot_21 : decode cX4_whyNot 21 = .ok (.iload_n 3, 1) := by decide +kernel
theorem dX4_whyNot_22 : decode cX4_whyNot 22 = .ok (.aload_n 0, 1) := by decide +kernel
theorem dX4_whyNot_23 : decode cX4_whyNot 23 = .ok (.aload_n 0, 1) := by decide +kernel
theorem dX4_whyNot_24 : decode cX4_whyNot 24 = .ok (.iload_n 1, 1) := by decide +kernel
theorem dX4_whyNot_25 : decode cX4_whyNot 25 = .ok (.iload_n 2, 1) := by decide +kernel
theorem dX4_whyNot_26 : decode cX4_whyNot 26 = .ok (.invokevirtual 66, 3) := by decide +kernel
theorem dX4_whyNot_29 : decode cX4_whyNot 29 = .ok (.invokevirtual 78, 3) := by decide +kernel
theorem dX4_whyNot_32 : decode cX4_whyNot 32 = .ok (.if_icmp .le 5, 3) := by decide +kernel
theorem dX4_whyNot_35 : decode cX4_whyNot 35 = .ok (.iconst 3, 1) := by decide +kernel
theorem dX4_whyNot_36 : decode cX4_whyNot 36 = .ok (.ireturn, 1) := by decide +kernel
theorem dX4_whyNot_37 : decode cX4_whyNot 37 = .ok (.iload_n 3, 1) := by decide +kernel
theorem dX4_whyNot_38 : decode cX4_whyNot 38 = .ok (.aload_n 0, 1) := by decide +kernel
theorem dX4_whyNot_39 : decode cX4_whyNot 39 = .ok (.aload_n 0, 1) := by decide +kernel
theorem dX4_whyNot_40 : decode cX4_whyNot 40 = .ok (.iload_n 1, 1) := by decide +kernel
theorem dX4_whyNot_41 : decode cX4_whyNot 41 = .ok (.iload_n 2, 1) := by decide +kernel
theorem dX4_whyNot_42 : decode cX4_whyNot 42 = .ok (.invokevirtual 82, 3) := by decide +kernel
theorem dX4_whyNot_45 : decode cX4_whyNot 45 = .ok (.invokevirtual 85, 3) := by decide +kernel
theorem dX4_whyNot_48 : decode cX4_whyNot 48 = .ok (.if_icmp .le 7, 3) := by decide +kernel
theorem dX4_whyNot_51 : decode cX4_whyNot 51 = .ok (.iconst 4, 1) := by decide +kernel
theorem dX4_whyNot_52 : decode cX4_whyNot 52 = .ok (.goto 4, 3) := by decide +kernel
theorem dX4_whyNot_55 : decode cX4_whyNot 55 = .ok (.iconst 0, 1) := by decide +kernel
theorem dX4_whyNot_56 : decode cX4_whyNot 56 = .ok (.ireturn, 1) := by decide +kernel
theorem dX4_mostThrough_0 : decode cX4_mostThrough 0 = .ok (.aload_n 0, 1) := by decide +kernel
theorem dX4_mostThrough_1 : decode cX4_mostThrough 1 = .ok (.iload_n 1, 1) := by decide +kernel
theorem dX4_mostThrough_2 : decode cX4_mostThrough 2 = .ok (.invokevirtual 70, 3) := by decide +kernel
theorem dX4_mostThrough_5 : decode cX4_mostThrough 5 = .ok (.ifCond .ne 12, 3) := by decide +kernel
theorem dX4_mostThrough_8 : decode cX4_mostThrough 8 = .ok (.aload_n 0, 1) := by decide +kernel
theorem dX4_mostThrough_9 : decode cX4_mostThrough 9 = .ok (.iload_n 1, 1) := by decide +kernel
theorem dX4_mostThrough_10 : decode cX4_mostThrough 10 = .ok (.iload_n 2, 1) := by decide +kernel
theorem dX4_mostThrough_11 : decode cX4_mostThrough 11 = .ok (.invokevirtual 74, 3) := by decide +kernel
theorem dX4_mostThrough_14 : decode cX4_mostThrough 14 = .ok (.ifCond .ne 5, 3) := by decide +kernel
theorem dX4_mostThrough_17 : decode cX4_mostThrough 17 = .ok (.iconst 0, 1) := by decide +kernel
theorem dX4_mostThrough_18 : decode cX4_mostThrough 18 = .ok (.ireturn, 1) := by decide +kernel
theorem dX4_mostThrough_19 : decode cX4_mostThrough 19 = .ok (.aload_n 0, 1) := by decide +kernel
theorem dX4_mostThrough_20 : decode cX4_mostThrough 20 = .ok (.aload_n 0, 1) := by decide +kernel
theorem dX4_mostThrough_21 : decode cX4_mostThrough 21 = .ok (.iload_n 1, 1) := by decide +kernel
theorem dX4_mostThrough_22 : decode cX4_mostThrough 22 = .ok (.iload_n 2, 1) := by decide +kernel
theorem dX4_mostThrough_23 : decode cX4_mostThrough 23 = .ok (.invokevirtual 66, 3) := by decide +kernel
theorem dX4_mostThrough_26 : decode cX4_mostThrough 26 = .ok (.invokevirtual 78, 3) := by decide +kernel
theorem dX4_mostThrough_29 : decode cX4_mostThrough 29 = .ok (.aload_n 0, 1) := by decide +kernel
theorem dX4_mostThrough_30 : decode cX4_mostThrough 30 = .ok (.aload_n 0, 1) := by decide +kernel
theorem dX4_mostThrough_31 : decode cX4_mostThrough 31 = .ok (.iload_n 1, 1) := by decide +kernel
theorem dX4_mostThrough_32 : decode cX4_mostThrough 32 = .ok (.iload_n 2, 1) := by decide +kernel
theorem dX4_mostThrough_33 : decode cX4_mostThrough 33 = .ok (.invokevirtual 82, 3) := by decide +kernel
theorem dX4_mostThrough_36 : decode cX4_mostThrough 36 = .ok (.invokevirtual 85, 3) := by decide +kernel
theorem dX4_mostThrough_39 : decode cX4_mostThrough 39 = .ok (.invokestatic 88, 3) := by decide +kernel
theorem dX4_mostThrough_42 : decode cX4_mostThrough 42 = .ok (.ireturn, 1) := by decide +kernel
theorem dX4_readyToLeave_0 : decode cX4_readyToLeave 0 = .ok (.iload_n 1, 1) := by decide +kernel
theorem dX4_readyToLeave_1 : decode cX4_readyToLeave 1 = .ok (.ifCond .ne 8, 3) := by decide +kernel
theorem dX4_readyToLeave_4 : decode cX4_readyToLeave 4 = .ok (.bipush 99, 2) := by decide +kernel
theorem dX4_readyToLeave_6 : decode cX4_readyToLeave 6 = .ok (.goto 16, 3) := by decide +kernel
theorem dX4_readyToLeave_9 : decode cX4_readyToLeave 9 = .ok (.bipush 99, 2) := by decide +kernel
theorem dX4_readyToLeave_11 : decode cX4_readyToLeave 11 = .ok (.aload_n 0, 1) := by decide +kernel
theorem dX4_readyToLeave_12 : decode cX4_readyToLeave 12 = .ok (.getfield 15, 3) := by decide +kernel
theorem dX4_readyToLeave_15 : decode cX4_readyToLeave 15 = .ok (.iload_n 1, 1) := by decide +kernel
theorem dX4_readyToLeave_16 : decode cX4_readyToLeave 16 = .ok (.invokestatic 62, 3) := by decide +kernel
theorem dX4_readyToLeave_19 : decode cX4_readyToLeave 19 = .ok (.invokestatic 88, 3) := by decide +kernel
theorem dX4_readyToLeave_22 : decode cX4_readyToLeave 22 = .ok (.ireturn, 1) := by decide +kernel
theorem dX4_roomLeft_0 : decode cX4_roomLeft 0 = .ok (.iload_n 1, 1) := by decide +kernel
theorem dX4_roomLeft_1 : decode cX4_roomLeft 1 = .ok (.ifCond .ne 8, 3) := by decide +kernel
theorem dX4_roomLeft_4 : decode cX4_roomLeft 4 = .ok (.bipush 99, 2) := by decide +kernel
theorem dX4_roomLeft_6 : decode cX4_roomLeft 6 = .ok (.goto 25, 3) := by decide +kernel
theorem dX4_roomLeft_9 : decode cX4_roomLeft 9 = .ok (.bipush 99, 2) := by decide +kernel
theorem dX4_roomLeft_11 : decode cX4_roomLeft 11 = .ok (.aload_n 0, 1) := by decide +kernel
theorem dX4_roomLeft_12 : decode cX4_roomLeft 12 = .ok (.getfield 9, 3) := by decide +kernel
theorem dX4_roomLeft_15 : decode cX4_roomLeft 15 = .ok (.iload_n 1, 1) := by decide +kernel
theorem dX4_roomLeft_16 : decode cX4_roomLeft 16 = .ok (.invokestatic 62, 3) := by decide +kernel
theorem dX4_roomLeft_19 : decode cX4_roomLeft 19 = .ok (.aload_n 0, 1) := by decide +kernel
theorem dX4_roomLeft_20 : decode cX4_roomLeft 20 = .ok (.getfield 15, 3) := by decide +kernel
theorem dX4_roomLeft_23 : decode cX4_roomLeft 23 = .ok (.iload_n 1, 1) := by decide +kernel
theorem dX4_roomLeft_24 : decode cX4_roomLeft 24 = .ok (.invokestatic 62, 3) := by decide +kernel
theorem dX4_roomLeft_27 : decode cX4_roomLeft 27 = .ok (.isub, 1) := by decide +kernel
theorem dX4_roomLeft_28 : decode cX4_roomLeft 28 = .ok (.invokestatic 88, 3) := by decide +kernel
theorem dX4_roomLeft_31 : decode cX4_roomLeft 31 = .ok (.ireturn, 1) := by decide +kernel
theorem dX4_letThrough_0 : decode cX4_letThrough 0 = .ok (.aload_n 0, 1) := by decide +kernel
theorem dX4_letThrough_1 : decode cX4_letThrough 1 = .ok (.aload_n 0, 1) := by decide +kernel
theorem dX4_letThrough_2 : decode cX4_letThrough 2 = .ok (.iload_n 1, 1) := by decide +kernel
theorem dX4_letThrough_3 : decode cX4_letThrough 3 = .ok (.iload_n 2, 1) := by decide +kernel
theorem dX4_letThrough_4 : decode cX4_letThrough 4 = .ok (.invokevirtual 66, 3) := by decide +kernel
theorem dX4_letThrough_7 : decode cX4_letThrough 7 = .ok (.iload_n 3, 1) := by decide +kernel
theorem dX4_letThrough_8 : decode cX4_letThrough 8 = .ok (.ineg, 1) := by decide +kernel
theorem dX4_letThrough_9 : decode cX4_letThrough 9 = .ok (.invokevirtual 94, 3) := by decide +kernel
theorem dX4_letThrough_12 : decode cX4_letThrough 12 = .ok (.aload_n 0, 1) := by decide +kernel
theorem dX4_letThrough_13 : decode cX4_letThrough 13 = .ok (.aload_n 0, 1) := by decide +kernel
theorem dX4_letThrough_14 : decode cX4_letThrough 14 = .ok (.iload_n 1, 1) := by decide +kernel
theorem dX4_letThrough_15 : decode cX4_letThrough 15 = .ok (.iload_n 2, 1) := by decide +kernel
theorem dX4_letThrough_16 : decode cX4_letThrough 16 = .ok (.invokevirtual 82, 3) := by decide +kernel
theorem dX4_letThrough_19 : decode cX4_letThrough 19 = .ok (.iload_n 3, 1) := by decide +kernel
theorem dX4_letThrough_20 : decode cX4_letThrough 20 = .ok (.invokevirtual 94, 3) := by decide +kernel
theorem dX4_letThrough_23 : decode cX4_letThrough 23 = .ok (.iload_n 2, 1) := by decide +kernel
theorem dX4_letThrough_24 : decode cX4_letThrough 24 = .ok (.ifCond .eq 7, 3) := by decide +kernel
theorem dX4_letThrough_27 : decode cX4_letThrough 27 = .ok (.iconst 0, 1) := by decide +kernel
theorem dX4_letThrough_28 : decode cX4_letThrough 28 = .ok (.goto 4, 3) := by decide +kernel
theorem dX4_letThrough_31 : decode cX4_letThrough 31 = .ok (.iconst 2, 1) := by decide +kernel
theorem dX4_letThrough_32 : decode cX4_letThrough 32 = .ok (.istore 4, 2) := by decide +kernel
theorem dX4_letThrough_34 : decode cX4_letThrough 34 = .ok (.iload_n 2, 1) := by decide +kernel
theorem dX4_letThrough_35 : decode cX4_letThrough 35 = .ok (.ifCond .eq 7, 3) := by decide +kernel
theorem dX4_letThrough_38 : decode cX4_letThrough 38 = .ok (.iconst 3, 1) := by decide +kernel
theorem dX4_letThrough_39 : decode cX4_letThrough 39 = .ok (.goto 4, 3) := by decide +kernel
theorem dX4_letThrough_42 : decode cX4_letThrough 42 = .ok (.iconst 1, 1) := by decide +kernel
theorem dX4_letThrough_43 : decode cX4_letThrough 43 = .ok (.istore 5, 2) := by decide +kernel
theorem dX4_letThrough_45 : decode cX4_letThrough 45 = .ok (.aload_n 0, 1) := by decide +kernel
theorem dX4_letThrough_46 : decode cX4_letThrough 46 = .ok (.getfield 33, 3) := by decide +kernel
theorem dX4_letThrough_49 : decode cX4_letThrough 49 = .ok (.iload_n 1, 1) := by decide +kernel
theorem dX4_letThrough_50 : decode cX4_letThrough 50 = .ok (.iload 4, 2) := by decide +kernel
theorem dX4_letThrough_52 : decode cX4_letThrough 52 = .ok (.invokestatic 98, 3) := by decide +kernel
theorem dX4_letThrough_55 : decode cX4_letThrough 55 = .ok (.iload_n 3, 1) := by decide +kernel
theorem dX4_letThrough_56 : decode cX4_letThrough 56 = .ok (.invokevirtual 101, 3) := by decide +kernel
theorem dX4_letThrough_59 : decode cX4_letThrough 59 = .ok (.aload_n 0, 1) := by decide +kernel
theorem dX4_letThrough_60 : decode cX4_letThrough 60 = .ok (.getfield 33, 3) := by decide +kernel
theorem dX4_letThrough_63 : decode cX4_letThrough 63 = .ok (.iload_n 1, 1) := by decide +kernel
theorem dX4_letThrough_64 : decode cX4_letThrough 64 = .ok (.iload 5, 2) := by decide +kernel
theorem dX4_letThrough_66 : decode cX4_letThrough 66 = .ok (.invokestatic 98, 3) := by decide +kernel
theorem dX4_letThrough_69 : decode cX4_letThrough 69 = .ok (.iload_n 3, 1) := by decide +kernel
theorem dX4_letThrough_70 : decode cX4_letThrough 70 = .ok (.invokevirtual 101, 3) := by decide +kernel
theorem dX4_letThrough_73 : decode cX4_letThrough 73 = .ok (.return_, 1) := by decide +kernel
theorem dX4_moveTo_0 : decode cX4_moveTo 0 = .ok (.iload_n 1, 1) := by decide +kernel
theorem dX4_moveTo_1 : decode cX4_moveTo 1 = .ok (.ifCond .eq 12, 3) := by decide +kernel
theorem dX4_moveTo_4 : decode cX4_moveTo 4 = .ok (.aload_n 0, 1) := by decide +kernel
theorem dX4_moveTo_5 : decode cX4_moveTo 5 = .ok (.getfield 15, 3) := by decide +kernel
theorem dX4_moveTo_8 : decode cX4_moveTo 8 = .ok (.iload_n 1, 1) := by decide +kernel
theorem dX4_moveTo_9 : decode cX4_moveTo 9 = .ok (.iload_n 2, 1) := by decide +kernel
theorem dX4_moveTo_10 : decode cX4_moveTo 10 = .ok (.invokestatic 104, 3) := by decide +kernel
theorem dX4_moveTo_13 : decode cX4_moveTo 13 = .ok (.return_, 1) := by decide +kernel
theorem dX4_beginRepair_0 : decode cX4_beginRepair 0 = .ok (.aload_n 0, 1) := by decide +kernel
theorem dX4_beginRepair_1 : decode cX4_beginRepair 1 = .ok (.getfield 27, 3) := by decide +kernel
theorem dX4_beginRepair_4 : decode cX4_beginRepair 4 = .ok (.iload_n 1, 1) := by decide +kernel
theorem dX4_beginRepair_5 : decode cX4_beginRepair 5 = .ok (.aload_n 0, 1) := by decide +kernel
theorem dX4_beginRepair_6 : decode cX4_beginRepair 6 = .ok (.getfield 44, 3) := by decide +kernel
theorem dX4_beginRepair_9 : decode cX4_beginRepair 9 = .ok (.invokestatic 58, 3) := by decide +kernel
theorem dX4_beginRepair_12 : decode cX4_beginRepair 12 = .ok (.return_, 1) := by decide +kernel
theorem dX4_letHoursPass_0 : decode cX4_letHoursPass 0 = .ok (.iconst 0, 1) := by decide +kernel
theorem dX4_letHoursPass_1 : decode cX4_letHoursPass 1 = .ok (.istore_n 2, 1) := by decide +kernel
theorem dX4_letHoursPass_2 : decode cX4_letHoursPass 2 = .ok (.iconst 0, 1) := by decide +kernel
theorem dX4_letHoursPass_3 : decode cX4_letHoursPass 3 = .ok (.istore_n 3, 1) := by decide +kernel
theorem dX4_letHoursPass_4 : decode cX4_letHoursPass 4 = .ok (.iload_n 3, 1) := by decide +kernel
theorem dX4_letHoursPass_5 : decode cX4_letHoursPass 5 = .ok (.iload_n 1, 1) := by decide +kernel
theorem dX4_letHoursPass_6 : decode cX4_letHoursPass 6 = .ok (.if_icmp .ge 16, 3) := by decide +kernel
theorem dX4_letHoursPass_9 : decode cX4_letHoursPass 9 = .ok (.iload_n 2, 1) := by decide +kernel
theorem dX4_letHoursPass_10 : decode cX4_letHoursPass 10 = .ok (.aload_n 0, 1) := by decide +kernel
theorem dX4_letHoursPass_11 : decode cX4_letHoursPass 11 = .ok (.invokevirtual 107, 3) := by decide +kernel
theorem dX4_letHoursPass_14 : decode cX4_letHoursPass 14 = .ok (.iadd, 1) := by decide +kernel
theorem dX4_letHoursPass_15 : decode cX4_letHoursPass 15 = .ok (.istore_n 2, 1) := by decide +kernel
theorem dX4_letHoursPass_16 : decode cX4_letHoursPass 16 = .ok (.iinc 3 1, 3) := by decide +kernel
theorem dX4_letHoursPass_19 : decode cX4_letHoursPass 19 = .ok (.goto (-15), 3) := by decide +kernel
theorem dX4_letHoursPass_22 : decode cX4_letHoursPass 22 = .ok (.iload_n 2, 1) := by decide +kernel
theorem dX4_letHoursPass_23 : decode cX4_letHoursPass 23 = .ok (.ireturn, 1) := by decide +kernel
theorem dX4_letHourPass_0 : decode cX4_letHourPass 0 = .ok (.iconst 0, 1) := by decide +kernel
theorem dX4_letHourPass_1 : decode cX4_letHourPass 1 = .ok (.istore_n 1, 1) := by decide +kernel
theorem dX4_letHourPass_2 : decode cX4_letHourPass 2 = .ok (.iconst 0, 1) := by decide +kernel
theorem dX4_letHourPass_3 : decode cX4_letHourPass 3 = .ok (.istore_n 2, 1) := by decide +kernel
theorem dX4_letHourPass_4 : decode cX4_letHourPass 4 = .ok (.iload_n 2, 1) := by decide +kernel
theorem dX4_letHourPass_5 : decode cX4_letHourPass 5 = .ok (.aload_n 0, 1) := by decide +kernel
theorem dX4_letHourPass_6 : decode cX4_letHourPass 6 = .ok (.getfield 37, 3) := by decide +kernel
theorem dX4_letHourPass_9 : decode cX4_letHourPass 9 = .ok (.if_icmp .ge 45, 3) := by decide +kernel
theorem dX4_letHourPass_12 : decode cX4_letHourPass 12 = .ok (.aload_n 0, 1) := by decide +kernel
theorem dX4_letHourPass_13 : decode cX4_letHourPass 13 = .ok (.iload_n 2, 1) := by decide +kernel
theorem dX4_letHourPass_14 : decode cX4_letHourPass 14 = .ok (.invokevirtual 70, 3) := by decide +kernel
theorem dX4_letHourPass_17 : decode cX4_letHourPass 17 = .ok (.ifCond .eq 31, 3) := by decide +kernel
theorem dX4_letHourPass_20 : decode cX4_letHourPass 20 = .ok (.aload_n 0, 1) := by decide +kernel
theorem dX4_letHourPass_21 : decode cX4_letHourPass 21 = .ok (.getfield 27, 3) := by decide +kernel
theorem dX4_letHourPass_24 : decode cX4_letHourPass 24 = .ok (.iload_n 2, 1) := by decide +kernel
theorem dX4_letHourPass_25 : decode cX4_letHourPass 25 = .ok (.iconst (-1), 1) := by decide +kernel
theorem dX4_letHourPass_26 : decode cX4_letHourPass 26 = .ok (.invokestatic 104, 3) := by decide +kernel
theorem dX4_letHourPass_29 : decode cX4_letHourPass 29 = .ok (.aload_n 0, 1) := by decide +kernel
theorem dX4_letHourPass_30 : decode cX4_letHourPass 30 = .ok (.iload_n 2, 1) := by decide +kernel
theorem dX4_letHourPass_31 : decode cX4_letHourPass 31 = .ok (.invokevirtual 70, 3) := by decide +kernel
theorem dX4_letHourPass_34 : decode cX4_letHourPass 34 = .ok (.ifCond .ne 14, 3) := by decide +kernel
theorem dX4_letHourPass_37 : decode cX4_letHourPass 37 = .ok (.aload_n 0, 1) := by decide +kernel
theorem dX4_letHourPass_38 : decode cX4_letHourPass 38 = .ok (.getfield 33, 3) := by decide +kernel
theorem dX4_letHourPass_41 : decode cX4_letHourPass 41 = .ok (.iload_n 2, 1) := by decide +kernel
theorem dX4_letHourPass_42 : decode cX4_letHourPass 42 = .ok (.invokevirtual 111, 3) := by decide +kernel
theorem dX4_letHourPass_45 : decode cX4_letHourPass 45 = .ok (.iinc 1 1, 3) := by decide +kernel
theorem dX4_letHourPass_48 : decode cX4_letHourPass 48 = .ok (.iinc 2 1, 3) := by decide +kernel
theorem dX4_letHourPass_51 : decode cX4_letHourPass 51 = .ok (.goto (-47), 3) := by decide +kernel
theorem dX4_letHourPass_54 : decode cX4_letHourPass 54 = .ok (.aload_n 0, 1) := by decide +kernel
theorem dX4_letHourPass_55 : decode cX4_letHourPass 55 = .ok (.dup, 1) := by decide +kernel
theorem dX4_letHourPass_56 : decode cX4_letHourPass 56 = .ok (.getfield 47, 3) := by decide +kernel
theorem dX4_letHourPass_59 : decode cX4_letHourPass 59 = .ok (.iconst 1, 1) := by decide +kernel
theorem dX4_letHourPass_60 : decode cX4_letHourPass 60 = .ok (.iadd, 1) := by decide +kernel
theorem dX4_letHourPass_61 : decode cX4_letHourPass 61 = .ok (.putfield 47, 3) := by decide +kernel
theorem dX4_letHourPass_64 : decode cX4_letHourPass 64 = .ok (.iload_n 1, 1) := by decide +kernel
theorem dX4_letHourPass_65 : decode cX4_letHourPass 65 = .ok (.ireturn, 1) := by decide +kernel
theorem dX4_toldByOwnSides_0 : decode cX4_toldByOwnSides 0 = .ok (.iconst 0, 1) := by decide +kernel
theorem dX4_toldByOwnSides_1 : decode cX4_toldByOwnSides 1 = .ok (.istore_n 2, 1) := by decide +kernel
theorem dX4_toldByOwnSides_2 : decode cX4_toldByOwnSides 2 = .ok (.iconst 0, 1) := by decide +kernel
theorem dX4_toldByOwnSides_3 : decode cX4_toldByOwnSides 3 = .ok (.istore_n 3, 1) := by decide +kernel
theorem dX4_toldByOwnSides_4 : decode cX4_toldByOwnSides 4 = .ok (.iload_n 3, 1) := by decide +kernel
theorem dX4_toldByOwnSides_5 : decode cX4_toldByOwnSides 5 = .ok (.aload_n 0, 1) := by decide +kernel
theorem dX4_toldByOwnSides_6 : decode cX4_toldByOwnSides 6 = .ok (.getfield 37, 3) := by decide +kernel
theorem dX4_toldByOwnSides_9 : decode cX4_toldByOwnSides 9 = .ok (.if_icmp .ge 52, 3) := by decide +kernel
theorem dX4_toldByOwnSides_12 : decode cX4_toldByOwnSides 12 = .ok (.aload_n 0, 1) := by decide +kernel
theorem dX4_toldByOwnSides_13 : decode cX4_toldByOwnSides 13 = .ok (.getfield 18, 3) := by decide +kernel
theorem dX4_toldByOwnSides_16 : decode cX4_toldByOwnSides 16 = .ok (.iload_n 3, 1) := by decide +kernel
theorem dX4_toldByOwnSides_17 : decode cX4_toldByOwnSides 17 = .ok (.invokestatic 62, 3) := by decide +kernel
theorem dX4_toldByOwnSides_20 : decode cX4_toldByOwnSides 20 = .ok (.iload_n 1, 1) := by decide +kernel
theorem dX4_toldByOwnSides_21 : decode cX4_toldByOwnSides 21 = .ok (.if_icmp .ne 14, 3) := by decide +kernel
theorem dX4_toldByOwnSides_24 : decode cX4_toldByOwnSides 24 = .ok (.iload_n 2, 1) := by decide +kernel
theorem dX4_toldByOwnSides_25 : decode cX4_toldByOwnSides 25 = .ok (.aload_n 0, 1) := by decide +kernel
theorem dX4_toldByOwnSides_26 : decode cX4_toldByOwnSides 26 = .ok (.iload_n 3, 1) := by decide +kernel
theorem dX4_toldByOwnSides_27 : decode cX4_toldByOwnSides 27 = .ok (.invokevirtual 115, 3) := by decide +kernel
theorem dX4_toldByOwnSides_30 : decode cX4_toldByOwnSides 30 = .ok (.iadd, 1) := by decide +kernel
theorem dX4_toldByOwnSides_31 : decode cX4_toldByOwnSides 31 = .ok (.istore_n 2, 1) := by decide +kernel
theorem dX4_toldByOwnSides_32 : decode cX4_toldByOwnSides 32 = .ok (.goto 23, 3) := by decide +kernel
theorem dX4_toldByOwnSides_35 : decode cX4_toldByOwnSides 35 = .ok (.aload_n 0, 1) := by decide +kernel
theorem dX4_toldByOwnSides_36 : decode cX4_toldByOwnSides 36 = .ok (.getfield 21, 3) := by decide +kernel
theorem dX4_toldByOwnSides_39 : decode cX4_toldByOwnSides 39 = .ok (.iload_n 3, 1) := by decide +kernel
theorem dX4_toldByOwnSides_40 : decode cX4_toldByOwnSides 40 = .ok (.invokestatic 62, 3) := by decide +kernel
theorem dX4_toldByOwnSides_43 : decode cX4_toldByOwnSides 43 = .ok (.iload_n 1, 1) := by decide +kernel
theorem dX4_toldByOwnSides_44 : decode cX4_toldByOwnSides 44 = .ok (.if_icmp .ne 11, 3) := by decide +kernel
theorem dX4_toldByOwnSides_47 : decode cX4_toldByOwnSides 47 = .ok (.iload_n 2, 1) := by decide +kernel
theorem dX4_toldByOwnSides_48 : decode cX4_toldByOwnSides 48 = .ok (.aload_n 0, 1) := by decide +kernel
theorem dX4_toldByOwnSides_49 : decode cX4_toldByOwnSides 49 = .ok (.iload_n 3, 1) := by decide +kernel
theorem dX4_toldByOwnSides_50 : decode cX4_toldByOwnSides 50 = .ok (.invokevirtual 118, 3) := by decide +kernel
theorem dX4_toldByOwnSides_53 : decode cX4_toldByOwnSides 53 = .ok (.iadd, 1) := by decide +kernel
theorem dX4_toldByOwnSides_54 : decode cX4_toldByOwnSides 54 = .ok (.istore_n 2, 1) := by decide +kernel
theorem dX4_toldByOwnSides_55 : decode cX4_toldByOwnSides 55 = .ok (.iinc 3 1, 3) := by decide +kernel
theorem dX4_toldByOwnSides_58 : decode cX4_toldByOwnSides 58 = .ok (.goto (-54), 3) := by decide +kernel
theorem dX4_toldByOwnSides_61 : decode cX4_toldByOwnSides 61 = .ok (.iload_n 2, 1) := by decide +kernel
theorem dX4_toldByOwnSides_62 : decode cX4_toldByOwnSides 62 = .ok (.ireturn, 1) := by decide +kernel
theorem dX4_toldByFarSides_0 : decode cX4_toldByFarSides 0 = .ok (.iconst 0, 1) := by decide +kernel
theorem dX4_toldByFarSides_1 : decode cX4_toldByFarSides 1 = .ok (.istore_n 2, 1) := by decide +kernel
theorem dX4_toldByFarSides_2 : decode cX4_toldByFarSides 2 = .ok (.iconst 0, 1) := by decide +kernel
theorem dX4_toldByFarSides_3 : decode cX4_toldByFarSides 3 = .ok (.istore_n 3, 1) := by decide +kernel
theorem dX4_toldByFarSides_4 : decode cX4_toldByFarSides 4 = .ok (.iload_n 3, 1) := by decide +kernel
theorem dX4_toldByFarSides_5 : decode cX4_toldByFarSides 5 = .ok (.aload_n 0, 1) := by decide +kernel
theorem dX4_toldByFarSides_6 : decode cX4_toldByFarSides 6 = .ok (.getfield 37, 3) := by decide +kernel
theorem dX4_toldByFarSides_9 : decode cX4_toldByFarSides 9 = .ok (.if_icmp .ge 52, 3) := by decide +kernel
theorem dX4_toldByFarSides_12 : decode cX4_toldByFarSides 12 = .ok (.aload_n 0, 1) := by decide +kernel
theorem dX4_toldByFarSides_13 : decode cX4_toldByFarSides 13 = .ok (.getfield 18, 3) := by decide +kernel
theorem dX4_toldByFarSides_16 : decode cX4_toldByFarSides 16 = .ok (.iload_n 3, 1) := by decide +kernel
theorem dX4_toldByFarSides_17 : decode cX4_toldByFarSides 17 = .ok (.invokestatic 62, 3) := by decide +kernel
theorem dX4_toldByFarSides_20 : decode cX4_toldByFarSides 20 = .ok (.iload_n 1, 1) := by decide +kernel
theorem dX4_toldByFarSides_21 : decode cX4_toldByFarSides 21 = .ok (.if_icmp .ne 14, 3) := by decide +kernel
theorem dX4_toldByFarSides_24 : decode cX4_toldByFarSides 24 = .ok (.iload_n 2, 1) := by decide +kernel
theorem dX4_toldByFarSides_25 : decode cX4_toldByFarSides 25 = .ok (.aload_n 0, 1) := by decide +kernel
theorem dX4_toldByFarSides_26 : decode cX4_toldByFarSides 26 = .ok (.iload_n 3, 1) := by decide +kernel
theorem dX4_toldByFarSides_27 : decode cX4_toldByFarSides 27 = .ok (.invokevirtual 118, 3) := by decide +kernel
theorem dX4_toldByFarSides_30 : decode cX4_toldByFarSides 30 = .ok (.isub, 1) := by decide +kernel
theorem dX4_toldByFarSides_31 : decode cX4_toldByFarSides 31 = .ok (.istore_n 2, 1) := by decide +kernel
theorem dX4_toldByFarSides_32 : decode cX4_toldByFarSides 32 = .ok (.goto 23, 3) := by decide +kernel
theorem dX4_toldByFarSides_35 : decode cX4_toldByFarSides 35 = .ok (.aload_n 0, 1) := by decide +kernel
theorem dX4_toldByFarSides_36 : decode cX4_toldByFarSides 36 = .ok (.getfield 21, 3) := by decide +kernel
theorem dX4_toldByFarSides_39 : decode cX4_toldByFarSides 39 = .ok (.iload_n 3, 1) := by decide +kernel
theorem dX4_toldByFarSides_40 : decode cX4_toldByFarSides 40 = .ok (.invokestatic 62, 3) := by decide +kernel
theorem dX4_toldByFarSides_43 : decode cX4_toldByFarSides 43 = .ok (.iload_n 1, 1) := by decide +kernel
theorem dX4_toldByFarSides_44 : decode cX4_toldByFarSides 44 = .ok (.if_icmp .ne 11, 3) := by decide +kernel
theorem dX4_toldByFarSides_47 : decode cX4_toldByFarSides 47 = .ok (.iload_n 2, 1) := by decide +kernel
theorem dX4_toldByFarSides_48 : decode cX4_toldByFarSides 48 = .ok (.aload_n 0, 1) := by decide +kernel
theorem dX4_toldByFarSides_49 : decode cX4_toldByFarSides 49 = .ok (.iload_n 3, 1) := by decide +kernel
theorem dX4_toldByFarSides_50 : decode cX4_toldByFarSides 50 = .ok (.invokevirtual 115, 3) := by decide +kernel
theorem dX4_toldByFarSides_53 : decode cX4_toldByFarSides 53 = .ok (.isub, 1) := by decide +kernel
theorem dX4_toldByFarSides_54 : decode cX4_toldByFarSides 54 = .ok (.istore_n 2, 1) := by decide +kernel
theorem dX4_toldByFarSides_55 : decode cX4_toldByFarSides 55 = .ok (.iinc 3 1, 3) := by decide +kernel
theorem dX4_toldByFarSides_58 : decode cX4_toldByFarSides 58 = .ok (.goto (-54), 3) := by decide +kernel
theorem dX4_toldByFarSides_61 : decode cX4_toldByFarSides 61 = .ok (.iload_n 2, 1) := by decide +kernel
theorem dX4_toldByFarSides_62 : decode cX4_toldByFarSides 62 = .ok (.ireturn, 1) := by decide +kernel
theorem dX4_toldByFirstSide_0 : decode cX4_toldByFirstSide 0 = .ok (.aload_n 0, 1) := by decide +kernel
theorem dX4_toldByFirstSide_1 : decode cX4_toldByFirstSide 1 = .ok (.getfield 33, 3) := by decide +kernel
theorem dX4_toldByFirstSide_4 : decode cX4_toldByFirstSide 4 = .ok (.iload_n 1, 1) := by decide +kernel
theorem dX4_toldByFirstSide_5 : decode cX4_toldByFirstSide 5 = .ok (.iconst 1, 1) := by decide +kernel
theorem dX4_toldByFirstSide_6 : decode cX4_toldByFirstSide 6 = .ok (.invokevirtual 121, 3) := by decide +kernel
theorem dX4_toldByFirstSide_9 : decode cX4_toldByFirstSide 9 = .ok (.aload_n 0, 1) := by decide +kernel
theorem dX4_toldByFirstSide_10 : decode cX4_toldByFirstSide 10 = .ok (.getfield 33, 3) := by decide +kernel
theorem dX4_toldByFirstSide_13 : decode cX4_toldByFirstSide 13 = .ok (.iload_n 1, 1) := by decide +kernel
theorem dX4_toldByFirstSide_14 : decode cX4_toldByFirstSide 14 = .ok (.iconst 0, 1) := by decide +kernel
theorem dX4_toldByFirstSide_15 : decode cX4_toldByFirstSide 15 = .ok (.invokevirtual 121, 3) := by decide +kernel
theorem dX4_toldByFirstSide_18 : decode cX4_toldByFirstSide 18 = .ok (.isub, 1) := by decide +kernel
theorem dX4_toldByFirstSide_19 : decode cX4_toldByFirstSide 19 = .ok (.ireturn, 1) := by decide +kernel
theorem dX4_toldBySecondSide_0 : decode cX4_toldBySecondSide 0 = .ok (.aload_n 0, 1) := by decide +kernel
theorem dX4_toldBySecondSide_1 : decode cX4_toldBySecondSide 1 = .ok (.getfield 33, 3) := by decide +kernel
theorem dX4_toldBySecondSide_4 : decode cX4_toldBySecondSide 4 = .ok (.iload_n 1, 1) := by decide +kernel
theorem dX4_toldBySecondSide_5 : decode cX4_toldBySecondSide 5 = .ok (.iconst 3, 1) := by decide +kernel
theorem dX4_toldBySecondSide_6 : decode cX4_toldBySecondSide 6 = .ok (.invokevirtual 121, 3) := by decide +kernel
theorem dX4_toldBySecondSide_9 : decode cX4_toldBySecondSide 9 = .ok (.aload_n 0, 1) := by decide +kernel
theorem dX4_toldBySecondSide_10 : decode cX4_toldBySecondSide 10 = .ok (.getfield 33, 3) := by decide +kernel
theorem dX4_toldBySecondSide_13 : decode cX4_toldBySecondSide 13 = .ok (.iload_n 1, 1) := by decide +kernel
theorem dX4_toldBySecondSide_14 : decode cX4_toldBySecondSide 14 = .ok (.iconst 2, 1) := by decide +kernel
theorem dX4_toldBySecondSide_15 : decode cX4_toldBySecondSide 15 = .ok (.invokevirtual 121, 3) := by decide +kernel
theorem dX4_toldBySecondSide_18 : decode cX4_toldBySecondSide 18 = .ok (.isub, 1) := by decide +kernel
theorem dX4_toldBySecondSide_19 : decode cX4_toldBySecondSide 19 = .ok (.ireturn, 1) := by decide +kernel
theorem dX4_toldByAllOwnSides_0 : decode cX4_toldByAllOwnSides 0 = .ok (.iconst 0, 1) := by decide +kernel
theorem dX4_toldByAllOwnSides_1 : decode cX4_toldByAllOwnSides 1 = .ok (.istore_n 1, 1) := by decide +kernel
theorem dX4_toldByAllOwnSides_2 : decode cX4_toldByAllOwnSides 2 = .ok (.iconst 1, 1) := by decide +kernel
theorem dX4_toldByAllOwnSides_3 : decode cX4_toldByAllOwnSides 3 = .ok (.istore_n 2, 1) := by decide +kernel
theorem dX4_toldByAllOwnSides_4 : decode cX4_toldByAllOwnSides 4 = .ok (.iload_n 2, 1) := by decide +kernel
theorem dX4_toldByAllOwnSides_5 : decode cX4_toldByAllOwnSides 5 = .ok (.bipush 6, 2) := by decide +kernel
theorem dX4_toldByAllOwnSides_7 : decode cX4_toldByAllOwnSides 7 = .ok (.if_icmp .ge 17, 3) := by decide +kernel
theorem dX4_toldByAllOwnSides_10 : decode cX4_toldByAllOwnSides 10 = .ok (.iload_n 1, 1) := by decide +kernel
theorem dX4_toldByAllOwnSides_11 : decode cX4_toldByAllOwnSides 11 = .ok (.aload_n 0, 1) := by decide +kernel
theorem dX4_toldByAllOwnSides_12 : decode cX4_toldByAllOwnSides 12 = .ok (.iload_n 2, 1) := by decide +kernel
theorem dX4_toldByAllOwnSides_13 : decode cX4_toldByAllOwnSides 13 = .ok (.invokevirtual 124, 3) := by decide +kernel
theorem dX4_toldByAllOwnSides_16 : decode cX4_toldByAllOwnSides 16 = .ok (.iadd, 1) := by decide +kernel
theorem dX4_toldByAllOwnSides_17 : decode cX4_toldByAllOwnSides 17 = .ok (.istore_n 1, 1) := by decide +kernel
theorem dX4_toldByAllOwnSides_18 : decode cX4_toldByAllOwnSides 18 = .ok (.iinc 2 1, 3) := by decide +kernel
theorem dX4_toldByAllOwnSides_21 : decode cX4_toldByAllOwnSides 21 = .ok (.goto (-17), 3) := by decide +kernel
theorem dX4_toldByAllOwnSides_24 : decode cX4_toldByAllOwnSides 24 = .ok (.iload_n 1, 1) := by decide +kernel
theorem dX4_toldByAllOwnSides_25 : decode cX4_toldByAllOwnSides 25 = .ok (.ireturn, 1) := by decide +kernel
theorem dX4_toldByAllFarSides_0 : decode cX4_toldByAllFarSides 0 = .ok (.iconst 0, 1) := by decide +kernel
theorem dX4_toldByAllFarSides_1 : decode cX4_toldByAllFarSides 1 = .ok (.istore_n 1, 1) := by decide +kernel
theorem dX4_toldByAllFarSides_2 : decode cX4_toldByAllFarSides 2 = .ok (.iconst 1, 1) := by decide +kernel
theorem dX4_toldByAllFarSides_3 : decode cX4_toldByAllFarSides 3 = .ok (.istore_n 2, 1) := by decide +kernel
theorem dX4_toldByAllFarSides_4 : decode cX4_toldByAllFarSides 4 = .ok (.iload_n 2, 1) := by decide +kernel
theorem dX4_toldByAllFarSides_5 : decode cX4_toldByAllFarSides 5 = .ok (.bipush 6, 2) := by decide +kernel
theorem dX4_toldByAllFarSides_7 : decode cX4_toldByAllFarSides 7 = .ok (.if_icmp .ge 17, 3) := by decide +kernel
theorem dX4_toldByAllFarSides_10 : decode cX4_toldByAllFarSides 10 = .ok (.iload_n 1, 1) := by decide +kernel
theorem dX4_toldByAllFarSides_11 : decode cX4_toldByAllFarSides 11 = .ok (.aload_n 0, 1) := by decide +kernel
theorem dX4_toldByAllFarSides_12 : decode cX4_toldByAllFarSides 12 = .ok (.iload_n 2, 1) := by decide +kernel
theorem dX4_toldByAllFarSides_13 : decode cX4_toldByAllFarSides 13 = .ok (.invokevirtual 127, 3) := by decide +kernel
theorem dX4_toldByAllFarSides_16 : decode cX4_toldByAllFarSides 16 = .ok (.iadd, 1) := by decide +kernel
theorem dX4_toldByAllFarSides_17 : decode cX4_toldByAllFarSides 17 = .ok (.istore_n 1, 1) := by decide +kernel
theorem dX4_toldByAllFarSides_18 : decode cX4_toldByAllFarSides 18 = .ok (.iinc 2 1, 3) := by decide +kernel
theorem dX4_toldByAllFarSides_21 : decode cX4_toldByAllFarSides 21 = .ok (.goto (-17), 3) := by decide +kernel
theorem dX4_toldByAllFarSides_24 : decode cX4_toldByAllFarSides 24 = .ok (.iload_n 1, 1) := by decide +kernel
theorem dX4_toldByAllFarSides_25 : decode cX4_toldByAllFarSides 25 = .ok (.ireturn, 1) := by decide +kernel
theorem dX4_peopleOfAllHalls_0 : decode cX4_peopleOfAllHalls 0 = .ok (.aload_n 0, 1) := by decide +kernel
theorem dX4_peopleOfAllHalls_1 : decode cX4_peopleOfAllHalls 1 = .ok (.getfield 15, 3) := by decide +kernel
theorem dX4_peopleOfAllHalls_4 : decode cX4_peopleOfAllHalls 4 = .ok (.invokestatic 130, 3) := by decide +kernel
theorem dX4_peopleOfAllHalls_7 : decode cX4_peopleOfAllHalls 7 = .ok (.ireturn, 1) := by decide +kernel
theorem dX4_roomsOfAllHalls_0 : decode cX4_roomsOfAllHalls 0 = .ok (.aload_n 0, 1) := by decide +kernel
theorem dX4_roomsOfAllHalls_1 : decode cX4_roomsOfAllHalls 1 = .ok (.getfield 9, 3) := by decide +kernel
theorem dX4_roomsOfAllHalls_4 : decode cX4_roomsOfAllHalls 4 = .ok (.invokestatic 130, 3) := by decide +kernel
theorem dX4_roomsOfAllHalls_7 : decode cX4_roomsOfAllHalls 7 = .ok (.ireturn, 1) := by decide +kernel
theorem dX4_sumOfAllHalls_0 : decode cX4_sumOfAllHalls 0 = .ok (.iconst 0, 1) := by decide +kernel
theorem dX4_sumOfAllHalls_1 : decode cX4_sumOfAllHalls 1 = .ok (.istore_n 1, 1) := by decide +kernel
theorem dX4_sumOfAllHalls_2 : decode cX4_sumOfAllHalls 2 = .ok (.iconst 1, 1) := by decide +kernel
theorem dX4_sumOfAllHalls_3 : decode cX4_sumOfAllHalls 3 = .ok (.istore_n 2, 1) := by decide +kernel
theorem dX4_sumOfAllHalls_4 : decode cX4_sumOfAllHalls 4 = .ok (.iload_n 2, 1) := by decide +kernel
theorem dX4_sumOfAllHalls_5 : decode cX4_sumOfAllHalls 5 = .ok (.bipush 6, 2) := by decide +kernel
theorem dX4_sumOfAllHalls_7 : decode cX4_sumOfAllHalls 7 = .ok (.if_icmp .ge 17, 3) := by decide +kernel
theorem dX4_sumOfAllHalls_10 : decode cX4_sumOfAllHalls 10 = .ok (.iload_n 1, 1) := by decide +kernel
theorem dX4_sumOfAllHalls_11 : decode cX4_sumOfAllHalls 11 = .ok (.aload_n 0, 1) := by decide +kernel
theorem dX4_sumOfAllHalls_12 : decode cX4_sumOfAllHalls 12 = .ok (.iload_n 2, 1) := by decide +kernel
theorem dX4_sumOfAllHalls_13 : decode cX4_sumOfAllHalls 13 = .ok (.invokestatic 62, 3) := by decide +kernel
theorem dX4_sumOfAllHalls_16 : decode cX4_sumOfAllHalls 16 = .ok (.iadd, 1) := by decide +kernel
theorem dX4_sumOfAllHalls_17 : decode cX4_sumOfAllHalls 17 = .ok (.istore_n 1, 1) := by decide +kernel
theorem dX4_sumOfAllHalls_18 : decode cX4_sumOfAllHalls 18 = .ok (.iinc 2 1, 3) := by decide +kernel
theorem dX4_sumOfAllHalls_21 : decode cX4_sumOfAllHalls 21 = .ok (.goto (-17), 3) := by decide +kernel
theorem dX4_sumOfAllHalls_24 : decode cX4_sumOfAllHalls 24 = .ok (.iload_n 1, 1) := by decide +kernel
theorem dX4_sumOfAllHalls_25 : decode cX4_sumOfAllHalls 25 = .ok (.ireturn, 1) := by decide +kernel
theorem dX4_fullestHall_0 : decode cX4_fullestHall 0 = .ok (.iconst 1, 1) := by decide +kernel
theorem dX4_fullestHall_1 : decode cX4_fullestHall 1 = .ok (.istore_n 1, 1) := by decide +kernel
theorem dX4_fullestHall_2 : decode cX4_fullestHall 2 = .ok (.iload_n 1, 1) := by decide +kernel
theorem dX4_fullestHall_3 : decode cX4_fullestHall 3 = .ok (.iconst 1, 1) := by decide +kernel
theorem dX4_fullestHall_4 : decode cX4_fullestHall 4 = .ok (.iadd, 1) := by decide +kernel
theorem dX4_fullestHall_5 : decode cX4_fullestHall 5 = .ok (.istore_n 2, 1) := by decide +kernel
theorem dX4_fullestHall_6 : decode cX4_fullestHall 6 = .ok (.iload_n 2, 1) := by decide +kernel
theorem dX4_fullestHall_7 : decode cX4_fullestHall 7 = .ok (.bipush 6, 2) := by decide +kernel
theorem dX4_fullestHall_9 : decode cX4_fullestHall 9 = .ok (.if_icmp .ge 50, 3) := by decide +kernel
theorem dX4_fullestHall_12 : decode cX4_fullestHall 12 = .ok (.aload_n 0, 1) := by decide +kernel
theorem dX4_fullestHall_13 : decode cX4_fullestHall 13 = .ok (.getfield 9, 3) := by decide +kernel
theorem dX4_fullestHall_16 : decode cX4_fullestHall 16 = .ok (.iload_n 2, 1) := by decide +kernel
theorem dX4_fullestHall_17 : decode cX4_fullestHall 17 = .ok (.invokestatic 62, 3) := by decide +kernel
theorem dX4_fullestHall_20 : decode cX4_fullestHall 20 = .ok (.aload_n 0, 1) := by decide +kernel
theorem dX4_fullestHall_21 : decode cX4_fullestHall 21 = .ok (.getfield 15, 3) := by decide +kernel
theorem dX4_fullestHall_24 : decode cX4_fullestHall 24 = .ok (.iload_n 2, 1) := by decide +kernel
theorem dX4_fullestHall_25 : decode cX4_fullestHall 25 = .ok (.invokestatic 62, 3) := by decide +kernel
theorem dX4_fullestHall_28 : decode cX4_fullestHall 28 = .ok (.isub, 1) := by decide +kernel
theorem dX4_fullestHall_29 : decode cX4_fullestHall 29 = .ok (.istore_n 3, 1) := by decide +kernel
theorem dX4_fullestHall_30 : decode cX4_fullestHall 30 = .ok (.iload_n 3, 1) := by decide +kernel
theorem dX4_fullestHall_31 : decode cX4_fullestHall 31 = .ok (.aload_n 0, 1) := by decide +kernel
theorem dX4_fullestHall_32 : decode cX4_fullestHall 32 = .ok (.getfield 9, 3) := by decide +kernel
theorem dX4_fullestHall_35 : decode cX4_fullestHall 35 = .ok (.iload_n 1, 1) := by decide +kernel
theorem dX4_fullestHall_36 : decode cX4_fullestHall 36 = .ok (.invokestatic 62, 3) := by decide +kernel
theorem dX4_fullestHall_39 : decode cX4_fullestHall 39 = .ok (.aload_n 0, 1) := by decide +kernel
theorem dX4_fullestHall_40 : decode cX4_fullestHall 40 = .ok (.getfield 15, 3) := by decide +kernel
theorem dX4_fullestHall_43 : decode cX4_fullestHall 43 = .ok (.iload_n 1, 1) := by decide +kernel
theorem dX4_fullestHall_44 : decode cX4_fullestHall 44 = .ok (.invokestatic 62, 3) := by decide +kernel
theorem dX4_fullestHall_47 : decode cX4_fullestHall 47 = .ok (.isub, 1) := by decide +kernel
theorem dX4_fullestHall_48 : decode cX4_fullestHall 48 = .ok (.if_icmp .ge 5, 3) := by decide +kernel
theorem dX4_fullestHall_51 : decode cX4_fullestHall 51 = .ok (.iload_n 2, 1) := by decide +kernel
theorem dX4_fullestHall_52 : decode cX4_fullestHall 52 = .ok (.istore_n 1, 1) := by decide +kernel
theorem dX4_fullestHall_53 : decode cX4_fullestHall 53 = .ok (.iinc 2 1, 3) := by decide +kernel
theorem dX4_fullestHall_56 : decode cX4_fullestHall 56 = .ok (.goto (-50), 3) := by decide +kernel
theorem dX4_fullestHall_59 : decode cX4_fullestHall 59 = .ok (.iload_n 1, 1) := by decide +kernel
theorem dX4_fullestHall_60 : decode cX4_fullestHall 60 = .ok (.ireturn, 1) := by decide +kernel
theorem dX4_stilesOfHall_0 : decode cX4_stilesOfHall 0 = .ok (.iconst 0, 1) := by decide +kernel
theorem dX4_stilesOfHall_1 : decode cX4_stilesOfHall 1 = .ok (.istore_n 2, 1) := by decide +kernel
theorem dX4_stilesOfHall_2 : decode cX4_stilesOfHall 2 = .ok (.iconst 0, 1) := by decide +kernel
theorem dX4_stilesOfHall_3 : decode cX4_stilesOfHall 3 = .ok (.istore_n 3, 1) := by decide +kernel
theorem dX4_stilesOfHall_4 : decode cX4_stilesOfHall 4 = .ok (.iload_n 3, 1) := by decide +kernel
theorem dX4_stilesOfHall_5 : decode cX4_stilesOfHall 5 = .ok (.aload_n 0, 1) := by decide +kernel
theorem dX4_stilesOfHall_6 : decode cX4_stilesOfHall 6 = .ok (.getfield 37, 3) := by decide +kernel
theorem dX4_stilesOfHall_9 : decode cX4_stilesOfHall 9 = .ok (.if_icmp .ge 36, 3) := by decide +kernel
theorem dX4_stilesOfHall_12 : decode cX4_stilesOfHall 12 = .ok (.aload_n 0, 1) := by decide +kernel
theorem dX4_stilesOfHall_13 : decode cX4_stilesOfHall 13 = .ok (.getfield 18, 3) := by decide +kernel
theorem dX4_stilesOfHall_16 : decode cX4_stilesOfHall 16 = .ok (.iload_n 3, 1) := by decide +kernel
theorem dX4_stilesOfHall_17 : decode cX4_stilesOfHall 17 = .ok (.invokestatic 62, 3) := by decide +kernel
theorem dX4_stilesOfHall_20 : decode cX4_stilesOfHall 20 = .ok (.iload_n 1, 1) := by decide +kernel
theorem dX4_stilesOfHall_21 : decode cX4_stilesOfHall 21 = .ok (.if_icmp .eq 15, 3) := by decide +kernel
theorem dX4_stilesOfHall_24 : decode cX4_stilesOfHall 24 = .ok (.aload_n 0, 1) := by decide +kernel
theorem dX4_stilesOfHall_25 : decode cX4_stilesOfHall 25 = .ok (.getfield 21, 3) := by decide +kernel
theorem dX4_stilesOfHall_28 : decode cX4_stilesOfHall 28 = .ok (.iload_n 3, 1) := by decide +kernel
theorem dX4_stilesOfHall_29 : decode cX4_stilesOfHall 29 = .ok (.invokestatic 62, 3) := by decide +kernel
theorem dX4_stilesOfHall_32 : decode cX4_stilesOfHall 32 = .ok (.iload_n 1, 1) := by decide +kernel
theorem dX4_stilesOfHall_33 : decode cX4_stilesOfHall 33 = .ok (.if_icmp .ne 6, 3) := by decide +kernel
theorem dX4_stilesOfHall_36 : decode cX4_stilesOfHall 36 = .ok (.iinc 2 1, 3) := by decide +kernel
theorem dX4_stilesOfHall_39 : decode cX4_stilesOfHall 39 = .ok (.iinc 3 1, 3) := by decide +kernel
theorem dX4_stilesOfHall_42 : decode cX4_stilesOfHall 42 = .ok (.goto (-38), 3) := by decide +kernel
theorem dX4_stilesOfHall_45 : decode cX4_stilesOfHall 45 = .ok (.iload_n 2, 1) := by decide +kernel
theorem dX4_stilesOfHall_46 : decode cX4_stilesOfHall 46 = .ok (.ireturn, 1) := by decide +kernel
theorem dX4_stilesUnderRepair_0 : decode cX4_stilesUnderRepair 0 = .ok (.iconst 0, 1) := by decide +kernel
theorem dX4_stilesUnderRepair_1 : decode cX4_stilesUnderRepair 1 = .ok (.istore_n 1, 1) := by decide +kernel
theorem dX4_stilesUnderRepair_2 : decode cX4_stilesUnderRepair 2 = .ok (.iconst 0, 1) := by decide +kernel
theorem dX4_stilesUnderRepair_3 : decode cX4_stilesUnderRepair 3 = .ok (.istore_n 2, 1) := by decide +kernel
theorem dX4_stilesUnderRepair_4 : decode cX4_stilesUnderRepair 4 = .ok (.iload_n 2, 1) := by decide +kernel
theorem dX4_stilesUnderRepair_5 : decode cX4_stilesUnderRepair 5 = .ok (.aload_n 0, 1) := by decide +kernel
theorem dX4_stilesUnderRepair_6 : decode cX4_stilesUnderRepair 6 = .ok (.getfield 37, 3) := by decide +kernel
theorem dX4_stilesUnderRepair_9 : decode cX4_stilesUnderRepair 9 = .ok (.if_icmp .ge 20, 3) := by decide +kernel
theorem dX4_stilesUnderRepair_12 : decode cX4_stilesUnderRepair 12 = .ok (.aload_n 0, 1) := by decide +kernel
theorem dX4_stilesUnderRepair_13 : decode cX4_stilesUnderRepair 13 = .ok (.iload_n 2, 1) := by decide +kernel
theorem dX4_stilesUnderRepair_14 : decode cX4_stilesUnderRepair 14 = .ok (.invokevirtual 70, 3) := by decide +kernel
theorem dX4_stilesUnderRepair_17 : decode cX4_stilesUnderRepair 17 = .ok (.ifCond .eq 6, 3) := by decide +kernel
theorem dX4_stilesUnderRepair_20 : decode cX4_stilesUnderRepair 20 = .ok (.iinc 1 1, 3) := by decide +kernel
theorem dX4_stilesUnderRepair_23 : decode cX4_stilesUnderRepair 23 = .ok (.iinc 2 1, 3) := by decide +kernel
theorem dX4_stilesUnderRepair_26 : decode cX4_stilesUnderRepair 26 = .ok (.goto (-22), 3) := by decide +kernel
theorem dX4_stilesUnderRepair_29 : decode cX4_stilesUnderRepair 29 = .ok (.iload_n 1, 1) := by decide +kernel
theorem dX4_stilesUnderRepair_30 : decode cX4_stilesUnderRepair 30 = .ok (.ireturn, 1) := by decide +kernel
theorem dX4_sumOfGaps_0 : decode cX4_sumOfGaps 0 = .ok (.iconst 0, 1) := by decide +kernel
theorem dX4_sumOfGaps_1 : decode cX4_sumOfGaps 1 = .ok (.istore_n 1, 1) := by decide +kernel
theorem dX4_sumOfGaps_2 : decode cX4_sumOfGaps 2 = .ok (.iconst 0, 1) := by decide +kernel
theorem dX4_sumOfGaps_3 : decode cX4_sumOfGaps 3 = .ok (.istore_n 2, 1) := by decide +kernel
theorem dX4_sumOfGaps_4 : decode cX4_sumOfGaps 4 = .ok (.iload_n 2, 1) := by decide +kernel
theorem dX4_sumOfGaps_5 : decode cX4_sumOfGaps 5 = .ok (.aload_n 0, 1) := by decide +kernel
theorem dX4_sumOfGaps_6 : decode cX4_sumOfGaps 6 = .ok (.getfield 37, 3) := by decide +kernel
theorem dX4_sumOfGaps_9 : decode cX4_sumOfGaps 9 = .ok (.if_icmp .ge 20, 3) := by decide +kernel
theorem dX4_sumOfGaps_12 : decode cX4_sumOfGaps 12 = .ok (.iload_n 1, 1) := by decide +kernel
theorem dX4_sumOfGaps_13 : decode cX4_sumOfGaps 13 = .ok (.aload_n 0, 1) := by decide +kernel
theorem dX4_sumOfGaps_14 : decode cX4_sumOfGaps 14 = .ok (.getfield 33, 3) := by decide +kernel
theorem dX4_sumOfGaps_17 : decode cX4_sumOfGaps 17 = .ok (.iload_n 2, 1) := by decide +kernel
theorem dX4_sumOfGaps_18 : decode cX4_sumOfGaps 18 = .ok (.invokevirtual 134, 3) := by decide +kernel
theorem dX4_sumOfGaps_21 : decode cX4_sumOfGaps 21 = .ok (.iadd, 1) := by decide +kernel
theorem dX4_sumOfGaps_22 : decode cX4_sumOfGaps 22 = .ok (.istore_n 1, 1) := by decide +kernel
theorem dX4_sumOfGaps_23 : decode cX4_sumOfGaps 23 = .ok (.iinc 2 1, 3) := by decide +kernel
theorem dX4_sumOfGaps_26 : decode cX4_sumOfGaps 26 = .ok (.goto (-22), 3) := by decide +kernel
theorem dX4_sumOfGaps_29 : decode cX4_sumOfGaps 29 = .ok (.iload_n 1, 1) := by decide +kernel
theorem dX4_sumOfGaps_30 : decode cX4_sumOfGaps 30 = .ok (.ireturn, 1) := by decide +kernel
theorem dX4_worseStiles_0 : decode cX4_worseStiles 0 = .ok (.aload_n 0, 1) := by decide +kernel
theorem dX4_worseStiles_1 : decode cX4_worseStiles 1 = .ok (.getfield 33, 3) := by decide +kernel
theorem dX4_worseStiles_4 : decode cX4_worseStiles 4 = .ok (.iload_n 1, 1) := by decide +kernel
theorem dX4_worseStiles_5 : decode cX4_worseStiles 5 = .ok (.invokevirtual 134, 3) := by decide +kernel
theorem dX4_worseStiles_8 : decode cX4_worseStiles 8 = .ok (.istore_n 2, 1) := by decide +kernel
theorem dX4_worseStiles_9 : decode cX4_worseStiles 9 = .ok (.iconst 0, 1) := by decide +kernel
theorem dX4_worseStiles_10 : decode cX4_worseStiles 10 = .ok (.istore_n 3, 1) := by decide +kernel
theorem dX4_worseStiles_11 : decode cX4_worseStiles 11 = .ok (.iconst 0, 1) := by decide +kernel
theorem dX4_worseStiles_12 : decode cX4_worseStiles 12 = .ok (.istore 4, 2) := by decide +kernel
theorem dX4_worseStiles_14 : decode cX4_worseStiles 14 = .ok (.iload 4, 2) := by decide +kernel
theorem dX4_worseStiles_16 : decode cX4_worseStiles 16 = .ok (.aload_n 0, 1) := by decide +kernel
theorem dX4_worseStiles_17 : decode cX4_worseStiles 17 = .ok (.getfield 37, 3) := by decide +kernel
theorem dX4_worseStiles_20 : decode cX4_worseStiles 20 = .ok (.if_icmp .ge 41, 3) := by decide +kernel
theorem dX4_worseStiles_23 : decode cX4_worseStiles 23 = .ok (.aload_n 0, 1) := by decide +kernel
theorem dX4_worseStiles_24 : decode cX4_worseStiles 24 = .ok (.getfield 33, 3) := by decide +kernel
theorem dX4_worseStiles_27 : decode cX4_worseStiles 27 = .ok (.iload 4, 2) := by decide +kernel
theorem dX4_worseStiles_29 : decode cX4_worseStiles 29 = .ok (.invokevirtual 134, 3) := by decide +kernel
theorem dX4_worseStiles_32 : decode cX4_worseStiles 32 = .ok (.istore 5, 2) := by decide +kernel
theorem dX4_worseStiles_34 : decode cX4_worseStiles 34 = .ok (.iload 5, 2) := by decide +kernel
theorem dX4_worseStiles_36 : decode cX4_worseStiles 36 = .ok (.iload_n 2, 1) := by decide +kernel
theorem dX4_worseStiles_37 : decode cX4_worseStiles 37 = .ok (.if_icmp .gt 15, 3) := by decide +kernel
theorem dX4_worseStiles_40 : decode cX4_worseStiles 40 = .ok (.iload 5, 2) := by decide +kernel
theorem dX4_worseStiles_42 : decode cX4_worseStiles 42 = .ok (.iload_n 2, 1) := by decide +kernel
theorem dX4_worseStiles_43 : decode cX4_worseStiles 43 = .ok (.if_icmp .ne 12, 3) := by decide +kernel
theorem dX4_worseStiles_46 : decode cX4_worseStiles 46 = .ok (.iload 4, 2) := by decide +kernel
theorem dX4_worseStiles_48 : decode cX4_worseStiles 48 = .ok (.iload_n 1, 1) := by decide +kernel
theorem dX4_worseStiles_49 : decode cX4_worseStiles 49 = .ok (.if_icmp .ge 6, 3) := by decide +kernel
theorem dX4_worseStiles_52 : decode cX4_worseStiles 52 = .ok (.iinc 3 1, 3) := by decide +kernel
theorem dX4_worseStiles_55 : decode cX4_worseStiles 55 = .ok (.iinc 4 1, 3) := by decide +kernel
theorem dX4_worseStiles_58 : decode cX4_worseStiles 58 = .ok (.goto (-44), 3) := by decide +kernel
theorem dX4_worseStiles_61 : decode cX4_worseStiles 61 = .ok (.iload_n 3, 1) := by decide +kernel
theorem dX4_worseStiles_62 : decode cX4_worseStiles 62 = .ok (.ireturn, 1) := by decide +kernel
theorem dX5_init_0 : decode cX5_init 0 = .ok (.aload_n 0, 1) := by decide +kernel
theorem dX5_init_1 : decode cX5_init 1 = .ok (.invokespecial 1, 3) := by decide +kernel
theorem dX5_init_4 : decode cX5_init 4 = .ok (.aload_n 0, 1) := by decide +kernel
theorem dX5_init_5 : decode cX5_init 5 = .ok (.new 7, 3) := by decide +kernel
theorem dX5_init_8 : decode cX5_init 8 = .ok (.dup, 1) := by decide +kernel
theorem dX5_init_9 : decode cX5_init 9 = .ok (.invokespecial 9, 3) := by decide +kernel
theorem dX5_init_12 : decode cX5_init 12 = .ok (.putfield 10, 3) := by decide +kernel
theorem dX5_init_15 : decode cX5_init 15 = .ok (.aload_n 0, 1) := by decide +kernel
theorem dX5_init_16 : decode cX5_init 16 = .ok (.new 7, 3) := by decide +kernel
theorem dX5_init_19 : decode cX5_init 19 = .ok (.dup, 1) := by decide +kernel
theorem dX5_init_20 : decode cX5_init 20 = .ok (.invokespecial 9, 3) := by decide +kernel
theorem dX5_init_23 : decode cX5_init 23 = .ok (.putfield 16, 3) := by decide +kernel
theorem dX5_init_26 : decode cX5_init 26 = .ok (.aload_n 0, 1) := by decide +kernel
theorem dX5_init_27 : decode cX5_init 27 = .ok (.new 7, 3) := by decide +kernel
theorem dX5_init_30 : decode cX5_init 30 = .ok (.dup, 1) := by decide +kernel
theorem dX5_init_31 : decode cX5_init 31 = .ok (.invokespecial 9, 3) := by decide +kernel
theorem dX5_init_34 : decode cX5_init 34 = .ok (.putfield 19, 3) := by decide +kernel
theorem dX5_init_37 : decode cX5_init 37 = .ok (.aload_n 0, 1) := by decide +kernel
theorem dX5_init_38 : decode cX5_init 38 = .ok (.new 22, 3) := by decide +kernel
theorem dX5_init_41 : decode cX5_init 41 = .ok (.dup, 1) := by decide +kernel
theorem dX5_init_42 : decode cX5_init 42 = .ok (.invokespecial 24, 3) := by decide +kernel
theorem dX5_init_45 : decode cX5_init 45 = .ok (.putfield 25, 3) := by decide +kernel
theorem dX5_init_48 : decode cX5_init 48 = .ok (.aload_n 0, 1) := by decide +kernel
theorem dX5_init_49 : decode cX5_init 49 = .ok (.new 29, 3) := by decide +kernel
theorem dX5_init_52 : decode cX5_init 52 = .ok (.dup, 1) := by decide +kernel
theorem dX5_init_53 : decode cX5_init 53 = .ok (.invokespecial 31, 3) := by decide +kernel
theorem dX5_init_56 : decode cX5_init 56 = .ok (.putfield 32, 3) := by decide +kernel
theorem dX5_init_59 : decode cX5_init 59 = .ok (.aload_n 0, 1) := by decide +kernel
theorem dX5_init_60 : decode cX5_init 60 = .ok (.new 36, 3) := by decide +kernel
theorem dX5_init_63 : decode cX5_init 63 = .ok (.dup, 1) := by decide +kernel
theorem dX5_init_64 : decode cX5_init 64 = .ok (.invokespecial 38, 3) := by decide +kernel
theorem dX5_init_67 : decode cX5_init 67 = .ok (.putfield 39, 3) := by decide +kernel
theorem dX5_init_70 : decode cX5_init 70 = .ok (.aload_n 0, 1) := by decide +kernel
theorem dX5_init_71 : decode cX5_init 71 = .ok (.iconst 0, 1) := by decide +kernel
theorem dX5_init_72 : decode cX5_init 72 = .ok (.putfield 43, 3) := by decide +kernel
theorem dX5_init_75 : decode cX5_init 75 = .ok (.return_, 1) := by decide +kernel
theorem dX5_stile_0 : decode cX5_stile 0 = .ok (.iload_n 1, 1) := by decide +kernel
theorem dX5_stile_1 : decode cX5_stile 1 = .ok (.invokestatic 47, 3) := by decide +kernel
theorem dX5_stile_4 : decode cX5_stile 4 = .ok (.ifCond .eq 10, 3) := by decide +kernel
theorem dX5_stile_7 : decode cX5_stile 7 = .ok (.iload_n 2, 1) := by decide +kernel
theorem dX5_stile_8 : decode cX5_stile 8 = .ok (.invokestatic 47, 3) := by decide +kernel
theorem dX5_stile_11 : decode cX5_stile 11 = .ok (.ifCond .ne 6, 3) := by decide +kernel
theorem dX5_stile_14 : decode cX5_stile 14 = .ok (.ldc 51, 2) := by decide +kernel
theorem dX5_stile_16 : decode cX5_stile 16 = .ok (.ireturn, 1) := by decide +kernel
theorem dX5_stile_17 : decode cX5_stile 17 = .ok (.iload_n 1, 1) := by decide +kernel
theorem dX5_stile_18 : decode cX5_stile 18 = .ok (.iload_n 2, 1) := by decide +kernel
theorem dX5_stile_19 : decode cX5_stile 19 = .ok (.if_icmp .ne 6, 3) := by decide +kernel
theorem dX5_stile_22 : decode cX5_stile 22 = .ok (.ldc 52, 2) := by decide +kernel
theorem dX5_stile_24 : decode cX5_stile 24 = .ok (.ireturn, 1) := by decide +kernel
theorem dX5_stile_25 : decode cX5_stile 25 = .ok (.aload_n 0, 1) := by decide +kernel
theorem dX5_stile_26 : decode cX5_stile 26 = .ok (.getfield 10, 3) := by decide +kernel
theorem dX5_stile_29 : decode cX5_stile 29 = .ok (.getfield 53, 3) := by decide +kernel
theorem dX5_stile_32 : decode cX5_stile 32 = .ok (.bipush 12, 2) := by decide +kernel
theorem dX5_stile_34 : decode cX5_stile 34 = .ok (.if_icmp .lt 6, 3) := by decide +kernel
theorem dX5_stile_37 : decode cX5_stile 37 = .ok (.ldc 57, 2) := by decide +kernel
theorem dX5_stile_39 : decode cX5_stile 39 = .ok (.ireturn, 1) := by decide +kernel
theorem dX5_stile_40 : decode cX5_stile 40 = .ok (.aload_n 0, 1) := by decide +kernel
theorem dX5_stile_41 : decode cX5_stile 41 = .ok (.getfield 25, 3) := by decide +kernel
theorem dX5_stile_44 : decode cX5_stile 44 = .ok (.aload_n 0, 1) := by decide +kernel
theorem dX5_stile_45 : decode cX5_stile 45 = .ok (.getfield 10, 3) := by decide +kernel
theorem dX5_stile_48 : decode cX5_stile 48 = .ok (.invokevirtual 58, 3) := by decide +kernel
theorem dX5_stile_51 : decode cX5_stile 51 = .ok (.aload_n 0, 1) := by decide +kernel
theorem dX5_stile_52 : decode cX5_stile 52 = .ok (.getfield 10, 3) := by decide +kernel
theorem dX5_stile_55 : decode cX5_stile 55 = .ok (.iload_n 1, 1) := by decide +kernel
theorem dX5_stile_56 : decode cX5_stile 56 = .ok (.iload_n 2, 1) := by decide +kernel
theorem dX5_stile_57 : decode cX5_stile 57 = .ok (.invokevirtual 62, 3) := by decide +kernel
theorem dX5_stile_60 : decode cX5_stile 60 = .ok (.ireturn, 1) := by decide +kernel
theorem dX5_open_0 : decode cX5_open 0 = .ok (.aload_n 0, 1) := by decide +kernel
theorem dX5_open_1 : decode cX5_open 1 = .ok (.getfield 10, 3) := by decide +kernel
theorem dX5_open_4 : decode cX5_open 4 = .ok (.iload_n 1, 1) := by decide +kernel
theorem dX5_open_5 : decode cX5_open 5 = .ok (.invokevirtual 66, 3) := by decide +kernel
theorem dX5_open_8 : decode cX5_open 8 = .ok (.ifCond .ne 6, 3) := by decide +kernel
theorem dX5_open_11 : decode cX5_open 11 = .ok (.ldc 51, 2) := by decide +kernel
theorem dX5_open_13 : decode cX5_open 13 = .ok (.ireturn, 1) := by decide +kernel
theorem dX5_open_14 : decode cX5_open 14 = .ok (.iload_n 2, 1) := by decide +kernel
theorem dX5_open_15 : decode cX5_open 15 = .ok (.ifCond .lt 8, 3) := by decide +kernel
theorem dX5_open_18 : decode cX5_open 18 = .ok (.iload_n 2, 1) := by decide +kernel
theorem dX5_open_19 : decode cX5_open 19 = .ok (.iconst 3, 1) := by decide +kernel
theorem dX5_open_20 : decode cX5_open 20 = .ok (.if_icmp .le 6, 3) := by decide +kernel
theorem dX5_open_23 : decode cX5_open 23 = .ok (.ldc 52, 2) := by decide +kernel
theorem dX5_open_25 : decode cX5_open 25 = .ok (.ireturn, 1) := by decide +kernel
theorem dX5_open_26 : decode cX5_open 26 = .ok (.aload_n 0, 1) := by decide +kernel
theorem dX5_open_27 : decode cX5_open 27 = .ok (.getfield 25, 3) := by decide +kernel
theorem dX5_open_30 : decode cX5_open 30 = .ok (.aload_n 0, 1) := by decide +kernel
theorem dX5_open_31 : decode cX5_open 31 = .ok (.getfield 10, 3) := by decide +kernel
theorem dX5_open_34 : decode cX5_open 34 = .ok (.invokevirtual 58, 3) := by decide +kernel
theorem dX5_open_37 : decode cX5_open 37 = .ok (.aload_n 0, 1) := by decide +kernel
theorem dX5_open_38 : decode cX5_open 38 = .ok (.getfield 10, 3) := by decide +kernel
theorem dX5_open_41 : decode cX5_open 41 = .ok (.getfield 69, 3) := by decide +kernel
theorem dX5_open_44 : decode cX5_open 44 = .ok (.iload_n 1, 1) := by decide +kernel
theorem dX5_open_45 : decode cX5_open 45 = .ok (.invokestatic 73, 3) := by decide +kernel
theorem dX5_open_48 : decode cX5_open 48 = .ok (.istore_n 3, 1) := by decide +kernel
theorem dX5_open_49 : decode cX5_open 49 = .ok (.aload_n 0, 1) := by decide +kernel
theorem dX5_open_50 : decode cX5_open 50 = .ok (.getfield 10, 3) := by decide +kernel
theorem dX5_open_53 : decode cX5_open 53 = .ok (.getfield 69, 3) := by decide +kernel
theorem dX5_open_56 : decode cX5_open 56 = .ok (.iload_n 1, 1) := by decide +kernel
theorem dX5_open_57 : decode cX5_open 57 = .ok (.iload_n 2, 1) := by decide +kernel
theorem dX5_open_58 : decode cX5_open 58 = .ok (.invokestatic 77, 3) := by decide +kernel
theorem dX5_open_61 : decode cX5_open 61 = .ok (.iload_n 3, 1) := by decide +kernel
theorem dX5_open_62 : decode cX5_open 62 = .ok (.ireturn, 1) := by decide +kernel
theorem dX5_room_0 : decode cX5_room 0 = .ok (.iload_n 1, 1) := by decide +kernel
theorem dX5_room_1 : decode cX5_room 1 = .ok (.invokestatic 81, 3) := by decide +kernel
theorem dX5_room_4 : decode cX5_room 4 = .ok (.ifCond .ne 6, 3) := by decide +kernel
theorem dX5_room_7 : decode cX5_room 7 = .ok (.ldc 51, 2) := by decide +kernel
theorem dX5_room_9 : decode cX5_room 9 = .ok (.ireturn, 1) := by decide +kernel
theorem dX5_room_10 : decode cX5_room 10 = .ok (.iload_n 2, 1) := by decide +kernel
theorem dX5_room_11 : decode cX5_room 11 = .ok (.iconst 1, 1) := by decide +kernel
theorem dX5_room_12 : decode cX5_room 12 = .ok (.if_icmp .lt 10, 3) := by decide +kernel
theorem dX5_room_15 : decode cX5_room 15 = .ok (.iload_n 2, 1) := by decide +kernel
theorem dX5_room_16 : decode cX5_room 16 = .ok (.sipush 500, 3) := by decide +kernel
theorem dX5_room_19 : decode cX5_room 19 = .ok (.if_icmp .le 6, 3) := by decide +kernel
theorem dX5_room_22 : decode cX5_room 22 = .ok (.ldc 52, 2) := by decide +kernel
theorem dX5_room_24 : decode cX5_room 24 = .ok (.ireturn, 1) := by decide +kernel
theorem dX5_room_25 : decode cX5_room 25 = .ok (.aload_n 0, 1) := by decide +kernel
theorem dX5_room_26 : decode cX5_room 26 = .ok (.getfield 10, 3) := by decide +kernel
theorem dX5_room_29 : decode cX5_room 29 = .ok (.getfield 84, 3) := by decide +kernel
theorem dX5_room_32 : decode cX5_room 32 = .ok (.iload_n 1, 1) := by decide +kernel
theorem dX5_room_33 : decode cX5_room 33 = .ok (.invokestatic 73, 3) := by decide +kernel
theorem dX5_room_36 : decode cX5_room 36 = .ok (.iload_n 2, 1) := by decide +kernel
theorem dX5_room_37 : decode cX5_room 37 = .ok (.if_icmp .le 6, 3) := by decide +kernel
theorem dX5_room_40 : decode cX5_room 40 = .ok (.ldc 87, 2) := by decide +kernel
theorem dX5_room_42 : decode cX5_room 42 = .ok (.ireturn, 1) := by decide +kernel
theorem dX5_room_43 : decode cX5_room 43 = .ok (.aload_n 0, 1) := by decide +kernel
theorem dX5_room_44 : decode cX5_room 44 = .ok (.getfield 25, 3) := by decide +kernel
theorem dX5_room_47 : decode cX5_room 47 = .ok (.aload_n 0, 1) := by decide +kernel
theorem dX5_room_48 : decode cX5_room 48 = .ok (.getfield 10, 3) := by decide +kernel
theorem dX5_room_51 : decode cX5_room 51 = .ok (.invokevirtual 58, 3) := by decide +kernel
theorem dX5_room_54 : decode cX5_room 54 = .ok (.aload_n 0, 1) := by decide +kernel
theorem dX5_room_55 : decode cX5_room 55 = .ok (.getfield 10, 3) := by decide +kernel
theorem dX5_room_58 : decode cX5_room 58 = .ok (.getfield 88, 3) := by decide +kernel
theorem dX5_room_61 : decode cX5_room 61 = .ok (.iload_n 1, 1) := by decide +kernel
theorem dX5_room_62 : decode cX5_room 62 = .ok (.invokestatic 73, 3) := by decide +kernel
theorem dX5_room_65 : decode cX5_room 65 = .ok (.istore_n 3, 1) := by decide +kernel
theorem dX5_room_66 : decode cX5_room 66 = .ok (.aload_n 0, 1) := by decide +kernel
theorem dX5_room_67 : decode cX5_room 67 = .ok (.getfield 10, 3) := by decide +kernel
theorem dX5_room_70 : decode cX5_room 70 = .ok (.getfield 88, 3) := by decide +kernel
theorem dX5_room_73 : decode cX5_room 73 = .ok (.iload_n 1, 1) := by decide +kernel
theorem dX5_room_74 : decode cX5_room 74 = .ok (.iload_n 2, 1) := by decide +kernel
theorem dX5_room_75 : decode cX5_room 75 = .ok (.invokestatic 77, 3) := by decide +kernel
theorem dX5_room_78 : decode cX5_room 78 = .ok (.iload_n 3, 1) := by decide +kernel
theorem dX5_room_79 : decode cX5_room 79 = .ok (.ireturn, 1) := by decide +kernel
theorem dX5_slip_0 : decode cX5_slip 0 = .ok (.aload_n 0, 1) := by decide +kernel
theorem dX5_slip_1 : decode cX5_slip 1 = .ok (.getfield 10, 3) := by decide +kernel
theorem dX5_slip_4 : decode cX5_slip 4 = .ok (.iload_n 1, 1) := by decide +kernel
theorem dX5_slip_5 : decode cX5_slip 5 = .ok (.invokevirtual 66, 3) := by decide +kernel
theorem dX5_slip_8 : decode cX5_slip 8 = .ok (.ifCond .ne 6, 3) := by decide +kernel
theorem dX5_slip_11 : decode cX5_slip 11 = .ok (.ldc 51, 2) := by decide +kernel
theorem dX5_slip_13 : decode cX5_slip 13 = .ok (.ireturn, 1) := by decide +kernel
theorem dX5_slip_14 : decode cX5_slip 14 = .ok (.iload_n 2, 1) := by decide +kernel
theorem dX5_slip_15 : decode cX5_slip 15 = .ok (.invokestatic 91, 3) := by decide +kernel
theorem dX5_slip_18 : decode cX5_slip 18 = .ok (.ifCond .eq 10, 3) := by decide +kernel
theorem dX5_slip_21 : decode cX5_slip 21 = .ok (.iload_n 3, 1) := by decide +kernel
theorem dX5_slip_22 : decode cX5_slip 22 = .ok (.invokestatic 94, 3) := by decide +kernel
theorem dX5_slip_25 : decode cX5_slip 25 = .ok (.ifCond .ne 6, 3) := by decide +kernel
theorem dX5_slip_28 : decode cX5_slip 28 = .ok (.ldc 52, 2) := by decide +kernel
theorem dX5_slip_30 : decode cX5_slip 30 = .ok (.ireturn, 1) := by decide +kernel
theorem dX5_slip_31 : decode cX5_slip 31 = .ok (.aload_n 0, 1) := by decide +kernel
theorem dX5_slip_32 : decode cX5_slip 32 = .ok (.getfield 25, 3) := by decide +kernel
theorem dX5_slip_35 : decode cX5_slip 35 = .ok (.aload_n 0, 1) := by decide +kernel
theorem dX5_slip_36 : decode cX5_slip 36 = .ok (.getfield 10, 3) := by decide +kernel
theorem dX5_slip_39 : decode cX5_slip 39 = .ok (.invokevirtual 58, 3) := by decide +kernel
theorem dX5_slip_42 : decode cX5_slip 42 = .ok (.iload_n 1, 1) := by decide +kernel
theorem dX5_slip_43 : decode cX5_slip 43 = .ok (.iload_n 2, 1) := by decide +kernel
theorem dX5_slip_44 : decode cX5_slip 44 = .ok (.invokestatic 97, 3) := by decide +kernel
theorem dX5_slip_47 : decode cX5_slip 47 = .ok (.istore 4, 2) := by decide +kernel
theorem dX5_slip_49 : decode cX5_slip 49 = .ok (.aload_n 0, 1) := by decide +kernel
theorem dX5_slip_50 : decode cX5_slip 50 = .ok (.getfield 10, 3) := by decide +kernel
theorem dX5_slip_53 : decode cX5_slip 53 = .ok (.getfield 100, 3) := by decide +kernel
theorem dX5_slip_56 : decode cX5_slip 56 = .ok (.getfield 104, 3) := by decide +kernel
theorem dX5_slip_59 : decode cX5_slip 59 = .ok (.iload 4, 2) := by decide +kernel
theorem dX5_slip_61 : decode cX5_slip 61 = .ok (.invokestatic 73, 3) := by decide +kernel
theorem dX5_slip_64 : decode cX5_slip 64 = .ok (.istore 5, 2) := by decide +kernel
theorem dX5_slip_66 : decode cX5_slip 66 = .ok (.aload_n 0, 1) := by decide +kernel
theorem dX5_slip_67 : decode cX5_slip 67 = .ok (.getfield 10, 3) := by decide +kernel
theorem dX5_slip_70 : decode cX5_slip 70 = .ok (.getfield 100, 3) := by decide +kernel
theorem dX5_slip_73 : decode cX5_slip 73 = .ok (.iload 4, 2) := by decide +kernel
theorem dX5_slip_75 : decode cX5_slip 75 = .ok (.iload_n 3, 1) := by decide +kernel
theorem dX5_slip_76 : decode cX5_slip 76 = .ok (.invokevirtual 109, 3) := by decide +kernel
theorem dX5_slip_79 : decode cX5_slip 79 = .ok (.iload 5, 2) := by decide +kernel
theorem dX5_slip_81 : decode cX5_slip 81 = .ok (.ireturn, 1) := by decide +kernel
theorem dX5_pass_0 : decode cX5_pass 0 = .ok (.aload_n 0, 1) := by decide +kernel
theorem dX5_pass_1 : decode cX5_pass 1 = .ok (.iload_n 1, 1) := by decide +kernel
theorem dX5_pass_2 : decode cX5_pass 2 = .ok (.iload_n 2, 1) := by decide +kernel
theorem dX5_pass_3 : decode cX5_pass 3 = .ok (.iload_n 3, 1) := by decide +kernel
theorem dX5_pass_4 : decode cX5_pass 4 = .ok (.invokevirtual 113, 3) := by decide +kernel
theorem dX5_pass_7 : decode cX5_pass 7 = .ok (.istore 4, 2) := by decide +kernel
theorem dX5_pass_9 : decode cX5_pass 9 = .ok (.iload 4, 2) := by decide +kernel
theorem dX5_pass_11 : decode cX5_pass 11 = .ok (.ifCond .eq 6, 3) := by decide +kernel
theorem dX5_pass_14 : decode cX5_pass 14 = .ok (.iload 4, 2) := by decide +kernel
theorem dX5_pass_16 : decode cX5_pass 16 = .ok (.ireturn, 1) := by decide +kernel
theorem dX5_pass_17 : decode cX5_pass 17 = .ok (.aload_n 0, 1) := by decide +kernel
theorem dX5_pass_18 : decode cX5_pass 18 = .ok (.getfield 25, 3) := by decide +kernel
theorem dX5_pass_21 : decode cX5_pass 21 = .ok (.aload_n 0, 1) := by decide +kernel
theorem dX5_pass_22 : decode cX5_pass 22 = .ok (.getfield 10, 3) := by decide +kernel
theorem dX5_pass_25 : decode cX5_pass 25 = .ok (.invokevirtual 58, 3) := by decide +kernel
theorem dX5_pass_28 : decode cX5_pass 28 = .ok (.aload_n 0, 1) := by decide +kernel
theorem dX5_pass_29 : decode cX5_pass 29 = .ok (.getfield 10, 3) := by decide +kernel
theorem dX5_pass_32 : decode cX5_pass 32 = .ok (.iload_n 1, 1) := by decide +kernel
theorem dX5_pass_33 : decode cX5_pass 33 = .ok (.iload_n 2, 1) := by decide +kernel
theorem dX5_pass_34 : decode cX5_pass 34 = .ok (.iload_n 3, 1) := by decide +kernel
theorem dX5_pass_35 : decode cX5_pass 35 = .ok (.invokevirtual 117, 3) := by decide +kernel
theorem dX5_pass_38 : decode cX5_pass 38 = .ok (.aload_n 0, 1) := by decide +kernel
theorem dX5_pass_39 : decode cX5_pass 39 = .ok (.getfield 10, 3) := by decide +kernel
theorem dX5_pass_42 : decode cX5_pass 42 = .ok (.getfield 100, 3) := by decide +kernel
theorem dX5_pass_45 : decode cX5_pass 45 = .ok (.iload_n 1, 1) := by decide +kernel
theorem dX5_pass_46 : decode cX5_pass 46 = .ok (.invokevirtual 121, 3) := by decide +kernel
theorem dX5_pass_49 : decode cX5_pass 49 = .ok (.ireturn, 1) := by decide +kernel
theorem dX5_audit_0 : decode cX5_audit 0 = .ok (.aload_n 0, 1) := by decide +kernel
theorem dX5_audit_1 : decode cX5_audit 1 = .ok (.getfield 10, 3) := by decide +kernel
theorem dX5_audit_4 : decode cX5_audit 4 = .ok (.iload_n 1, 1) := by decide +kernel
theorem dX5_audit_5 : decode cX5_audit 5 = .ok (.invokevirtual 66, 3) := by decide +kernel
theorem dX5_audit_8 : decode cX5_audit 8 = .ok (.ifCond .ne 6, 3) := by decide +kernel
theorem dX5_audit_11 : decode cX5_audit 11 = .ok (.ldc 51, 2) := by decide +kernel
theorem dX5_audit_13 : decode cX5_audit 13 = .ok (.ireturn, 1) := by decide +kernel
theorem dX5_audit_14 : decode cX5_audit 14 = .ok (.aload_n 0, 1) := by decide +kernel
theorem dX5_audit_15 : decode cX5_audit 15 = .ok (.getfield 25, 3) := by decide +kernel
theorem dX5_audit_18 : decode cX5_audit 18 = .ok (.aload_n 0, 1) := by decide +kernel
theorem dX5_audit_19 : decode cX5_audit 19 = .ok (.getfield 10, 3) := by decide +kernel
theorem dX5_audit_22 : decode cX5_audit 22 = .ok (.invokevirtual 58, 3) := by decide +kernel
theorem dX5_audit_25 : decode cX5_audit 25 = .ok (.aload_n 0, 1) := by decide +kernel
theorem dX5_audit_26 : decode cX5_audit 26 = .ok (.getfield 10, 3) := by decide +kernel
theorem dX5_audit_29 : decode cX5_audit 29 = .ok (.getfield 100, 3) := by decide +kernel
theorem dX5_audit_32 : decode cX5_audit 32 = .ok (.iload_n 1, 1) := by decide +kernel
theorem dX5_audit_33 : decode cX5_audit 33 = .ok (.invokevirtual 121, 3) := by decide +kernel
theorem dX5_audit_36 : decode cX5_audit 36 = .ok (.istore_n 2, 1) := by decide +kernel
theorem dX5_audit_37 : decode cX5_audit 37 = .ok (.aload_n 0, 1) := by decide +kernel
theorem dX5_audit_38 : decode cX5_audit 38 = .ok (.getfield 10, 3) := by decide +kernel
theorem dX5_audit_41 : decode cX5_audit 41 = .ok (.getfield 100, 3) := by decide +kernel
theorem dX5_audit_44 : decode cX5_audit 44 = .ok (.iload_n 1, 1) := by decide +kernel
theorem dX5_audit_45 : decode cX5_audit 45 = .ok (.invokevirtual 125, 3) := by decide +kernel
theorem dX5_audit_48 : decode cX5_audit 48 = .ok (.iload_n 2, 1) := by decide +kernel
theorem dX5_audit_49 : decode cX5_audit 49 = .ok (.ireturn, 1) := by decide +kernel
theorem dX5_repair_0 : decode cX5_repair 0 = .ok (.aload_n 0, 1) := by decide +kernel
theorem dX5_repair_1 : decode cX5_repair 1 = .ok (.iload_n 1, 1) := by decide +kernel
theorem dX5_repair_2 : decode cX5_repair 2 = .ok (.invokevirtual 129, 3) := by decide +kernel
theorem dX5_repair_5 : decode cX5_repair 5 = .ok (.istore_n 2, 1) := by decide +kernel
theorem dX5_repair_6 : decode cX5_repair 6 = .ok (.iload_n 2, 1) := by decide +kernel
theorem dX5_repair_7 : decode cX5_repair 7 = .ok (.ifCond .eq 5, 3) := by decide +kernel
theorem dX5_repair_10 : decode cX5_repair 10 = .ok (.iload_n 2, 1) := by decide +kernel
theorem dX5_repair_11 : decode cX5_repair 11 = .ok (.ireturn, 1) := by decide +kernel
theorem dX5_repair_12 : decode cX5_repair 12 = .ok (.aload_n 0, 1) := by decide +kernel
theorem dX5_repair_13 : decode cX5_repair 13 = .ok (.getfield 25, 3) := by decide +kernel
theorem dX5_repair_16 : decode cX5_repair 16 = .ok (.aload_n 0, 1) := by decide +kernel
theorem dX5_repair_17 : decode cX5_repair 17 = .ok (.getfield 10, 3) := by decide +kernel
theorem dX5_repair_20 : decode cX5_repair 20 = .ok (.invokevirtual 58, 3) := by decide +kernel
theorem dX5_repair_23 : decode cX5_repair 23 = .ok (.aload_n 0, 1) := by decide +kernel
theorem dX5_repair_24 : decode cX5_repair 24 = .ok (.getfield 10, 3) := by decide +kernel
theorem dX5_repair_27 : decode cX5_repair 27 = .ok (.iload_n 1, 1) := by decide +kernel
theorem dX5_repair_28 : decode cX5_repair 28 = .ok (.invokevirtual 132, 3) := by decide +kernel
theorem dX5_repair_31 : decode cX5_repair 31 = .ok (.aload_n 0, 1) := by decide +kernel
theorem dX5_repair_32 : decode cX5_repair 32 = .ok (.getfield 10, 3) := by decide +kernel
theorem dX5_repair_35 : decode cX5_repair 35 = .ok (.getfield 135, 3) := by decide +kernel
theorem dX5_repair_38 : decode cX5_repair 38 = .ok (.aload_n 0, 1) := by decide +kernel
theorem dX5_repair_39 : decode cX5_repair 39 = .ok (.getfield 10, 3) := by decide +kernel
theorem dX5_repair_42 : decode cX5_repair 42 = .ok (.getfield 138, 3) := by decide +kernel
theorem dX5_repair_45 : decode cX5_repair 45 = .ok (.iload_n 1, 1) := by decide +kernel
theorem dX5_repair_46 : decode cX5_repair 46 = .ok (.invokestatic 73, 3) := by decide +kernel
theorem dX5_repair_49 : decode cX5_repair 49 = .ok (.iadd, 1) := by decide +kernel
theorem dX5_repair_50 : decode cX5_repair 50 = .ok (.ireturn, 1) := by decide +kernel
theorem dX5_hours_0 : decode cX5_hours 0 = .ok (.iload_n 1, 1) := by decide +kernel
theorem dX5_hours_1 : decode cX5_hours 1 = .ok (.invokestatic 141, 3) := by decide +kernel
theorem dX5_hours_4 : decode cX5_hours 4 = .ok (.ifCond .ne 6, 3) := by decide +kernel
theorem dX5_hours_7 : decode cX5_hours 7 = .ok (.ldc 52, 2) := by decide +kernel
theorem dX5_hours_9 : decode cX5_hours 9 = .ok (.ireturn, 1) := by decide +kernel
theorem dX5_hours_10 : decode cX5_hours 10 = .ok (.aload_n 0, 1) := by decide +kernel
theorem dX5_hours_11 : decode cX5_hours 11 = .ok (.getfield 25, 3) := by decide +kernel
theorem dX5_hours_14 : decode cX5_hours 14 = .ok (.aload_n 0, 1) := by decide +kernel
theorem dX5_hours_15 : decode cX5_hours 15 = .ok (.getfield 10, 3) := by decide +kernel
theorem dX5_hours_18 : decode cX5_hours 18 = .ok (.invokevirtual 58, 3) := by decide +kernel
theorem dX5_hours_21 : decode cX5_hours 21 = .ok (.aload_n 0, 1) := by decide +kernel
theorem dX5_hours_22 : decode cX5_hours 22 = .ok (.getfield 10, 3) := by decide +kernel
theorem dX5_hours_25 : decode cX5_hours 25 = .ok (.iload_n 1, 1) := by decide +kernel
theorem dX5_hours_26 : decode cX5_hours 26 = .ok (.invokevirtual 144, 3) := by decide +kernel
theorem dX5_hours_29 : decode cX5_hours 29 = .ok (.ireturn, 1) := by decide +kernel
theorem dX5_close_0 : decode cX5_close 0 = .ok (.iload_n 1, 1) := by decide +kernel
theorem dX5_close_1 : decode cX5_close 1 = .ok (.invokestatic 141, 3) := by decide +kernel
theorem dX5_close_4 : decode cX5_close 4 = .ok (.ifCond .ne 6, 3) := by decide +kernel
theorem dX5_close_7 : decode cX5_close 7 = .ok (.ldc 52, 2) := by decide +kernel
theorem dX5_close_9 : decode cX5_close 9 = .ok (.ireturn, 1) := by decide +kernel
theorem dX5_close_10 : decode cX5_close 10 = .ok (.aload_n 0, 1) := by decide +kernel
theorem dX5_close_11 : decode cX5_close 11 = .ok (.getfield 25, 3) := by decide +kernel
theorem dX5_close_14 : decode cX5_close 14 = .ok (.aload_n 0, 1) := by decide +kernel
theorem dX5_close_15 : decode cX5_close 15 = .ok (.getfield 10, 3) := by decide +kernel
theorem dX5_close_18 : decode cX5_close 18 = .ok (.invokevirtual 58, 3) := by decide +kernel
theorem dX5_close_21 : decode cX5_close 21 = .ok (.iconst 1, 1) := by decide +kernel
theorem dX5_close_22 : decode cX5_close 22 = .ok (.istore_n 2, 1) := by decide +kernel
theorem dX5_close_23 : decode cX5_close 23 = .ok (.iconst 0, 1) := by decide +kernel
theorem dX5_close_24 : decode cX5_close 24 = .ok (.istore_n 3, 1) := by decide +kernel
theorem dX5_close_25 : decode cX5_close 25 = .ok (.iload_n 3, 1) := by decide +kernel
theorem dX5_close_26 : decode cX5_close 26 = .ok (.iload_n 1, 1) := by decide +kernel
theorem dX5_close_27 : decode cX5_close 27 = .ok (.if_icmp .ge 33, 3) := by decide +kernel
theorem dX5_close_30 : decode cX5_close 30 = .ok (.iload_n 2, 1) := by decide +kernel
theorem dX5_close_31 : decode cX5_close 31 = .ok (.ifCond .eq 29, 3) := by decide +kernel
theorem dX5_close_34 : decode cX5_close 34 = .ok (.aload_n 0, 1) := by decide +kernel
theorem dX5_close_35 : decode cX5_close 35 = .ok (.getfield 32, 3) := by decide +kernel
theorem dX5_close_38 : decode cX5_close 38 = .ok (.aload_n 0, 1) := by decide +kernel
theorem dX5_close_39 : decode cX5_close 39 = .ok (.getfield 10, 3) := by decide +kernel
theorem dX5_close_42 : decode cX5_close 42 = .ok (.invokevirtual 147, 3) := by decide +kernel
theorem dX5_close_45 : decode cX5_close 45 = .ok (.ifCond .le 7, 3) := by decide +kernel
theorem dX5_close_48 : decode cX5_close 48 = .ok (.iconst 1, 1) := by decide +kernel
theorem dX5_close_49 : decode cX5_close 49 = .ok (.goto 4, 3) := by decide +kernel
theorem dX5_close_52 : decode cX5_close 52 = .ok (.iconst 0, 1) := by decide +kernel
theorem dX5_close_53 : decode cX5_close 53 = .ok (.istore_n 2, 1) := by decide +kernel
theorem dX5_close_54 : decode cX5_close 54 = .ok (.iinc 3 1, 3) := by decide +kernel
theorem dX5_close_57 : decode cX5_close 57 = .ok (.goto (-32), 3) := by decide +kernel
theorem dX5_close_60 : decode cX5_close 60 = .ok (.aload_n 0, 1) := by decide +kernel
theorem dX5_close_61 : decode cX5_close 61 = .ok (.getfield 10, 3) := by decide +kernel
theorem dX5_close_64 : decode cX5_close 64 = .ok (.invokevirtual 151, 3) := by decide +kernel
theorem dX5_close_67 : decode cX5_close 67 = .ok (.ireturn, 1) := by decide +kernel
theorem dX5_set_0 : decode cX5_set 0 = .ok (.iload_n 1, 1) := by decide +kernel
theorem dX5_set_1 : decode cX5_set 1 = .ok (.ifCond .eq 11, 3) := by decide +kernel
theorem dX5_set_4 : decode cX5_set 4 = .ok (.iload_n 1, 1) := by decide +kernel
theorem dX5_set_5 : decode cX5_set 5 = .ok (.iconst 1, 1) := by decide +kernel
theorem dX5_set_6 : decode cX5_set 6 = .ok (.if_icmp .eq 6, 3) := by decide +kernel
theorem dX5_set_9 : decode cX5_set 9 = .ok (.ldc 51, 2) := by decide +kernel
theorem dX5_set_11 : decode cX5_set 11 = .ok (.ireturn, 1) := by decide +kernel
theorem dX5_set_12 : decode cX5_set 12 = .ok (.iload_n 2, 1) := by decide +kernel
theorem dX5_set_13 : decode cX5_set 13 = .ok (.iconst 1, 1) := by decide +kernel
theorem dX5_set_14 : decode cX5_set 14 = .ok (.if_icmp .lt 18, 3) := by decide +kernel
theorem dX5_set_17 : decode cX5_set 17 = .ok (.iload_n 2, 1) := by decide +kernel
theorem dX5_set_18 : decode cX5_set 18 = .ok (.iload_n 1, 1) := by decide +kernel
theorem dX5_set_19 : decode cX5_set 19 = .ok (.ifCond .ne 8, 3) := by decide +kernel
theorem dX5_set_22 : decode cX5_set 22 = .ok (.bipush 99, 2) := by decide +kernel
theorem dX5_set_24 : decode cX5_set 24 = .ok (.goto 5, 3) := by decide +kernel
theorem dX5_set_27 : decode cX5_set 27 = .ok (.bipush 48, 2) := by decide +kernel
theorem dX5_set_29 : decode cX5_set 29 = .ok (.if_icmp .le 6, 3) := by decide +kernel
theorem dX5_set_32 : decode cX5_set 32 = .ok (.ldc 52, 2) := by decide +kernel
theorem dX5_set_34 : decode cX5_set 34 = .ok (.ireturn, 1) := by decide +kernel
theorem dX5_set_35 : decode cX5_set 35 = .ok (.aload_n 0, 1) := by decide +kernel
theorem dX5_set_36 : decode cX5_set 36 = .ok (.getfield 25, 3) := by decide +kernel
theorem dX5_set_39 : decode cX5_set 39 = .ok (.aload_n 0, 1) := by decide +kernel
theorem dX5_set_40 : decode cX5_set 40 = .ok (.getfield 10, 3) := by decide +kernel
theorem dX5_set_43 : decode cX5_set 43 = .ok (.invokevirtual 58, 3) := by decide +kernel
theorem dX5_set_46 : decode cX5_set 46 = .ok (.iload_n 1, 1) := by decide +kernel
theorem dX5_set_47 : decode cX5_set 47 = .ok (.ifCond .ne 13, 3) := by decide +kernel
theorem dX5_set_50 : decode cX5_set 50 = .ok (.aload_n 0, 1) := by decide +kernel
theorem dX5_set_51 : decode cX5_set 51 = .ok (.getfield 10, 3) := by decide +kernel
theorem dX5_set_54 : decode cX5_set 54 = .ok (.getfield 155, 3) := by decide +kernel
theorem dX5_set_57 : decode cX5_set 57 = .ok (.goto 10, 3) := by decide +kernel
theorem dX5_set_60 : decode cX5_set 60 = .ok (.aload_n 0, 1) := by decide +kernel
theorem dX5_set_61 : decode cX5_set 61 = .ok (.getfield 10, 3) := by decide +kernel
theorem dX5_set_64 : decode cX5_set 64 = .ok (.getfield 158, 3) := by decide +kernel
theorem dX5_set_67 : decode cX5_set 67 = .ok (.istore_n 3, 1) := by decide +kernel
theorem dX5_set_68 : decode cX5_set 68 = .ok (.iload_n 1, 1) := by decide +kernel
theorem dX5_set_69 : decode cX5_set 69 = .ok (.ifCond .ne 14, 3) := by decide +kernel
theorem dX5_set_72 : decode cX5_set 72 = .ok (.aload_n 0, 1) := by decide +kernel
theorem dX5_set_73 : decode cX5_set 73 = .ok (.getfield 10, 3) := by decide +kernel
theorem dX5_set_76 : decode cX5_set 76 = .ok (.iload_n 2, 1) := by decide +kernel
theorem dX5_set_77 : decode cX5_set 77 = .ok (.putfield 155, 3) := by decide +kernel
theorem dX5_set_80 : decode cX5_set 80 = .ok (.goto 11, 3) := by decide +kernel
theorem dX5_set_83 : decode cX5_set 83 = .ok (.aload_n 0, 1) := by decide +kernel
theorem dX5_set_84 : decode cX5_set 84 = .ok (.getfield 10, 3) := by decide +kernel
theorem dX5_set_87 : decode cX5_set 87 = .ok (.iload_n 2, 1) := by decide +kernel
theorem dX5_set_88 : decode cX5_set 88 = .ok (.putfield 158, 3) := by decide +kernel
theorem dX5_set_91 : decode cX5_set 91 = .ok (.iload_n 3, 1) := by decide +kernel
theorem dX5_set_92 : decode cX5_set 92 = .ok (.ireturn, 1) := by decide +kernel
theorem dX5_undo_0 : decode cX5_undo 0 = .ok (.aload_n 0, 1) := by decide +kernel
theorem dX5_undo_1 : decode cX5_undo 1 = .ok (.getfield 25, 3) := by decide +kernel
theorem dX5_undo_4 : decode cX5_undo 4 = .ok (.getfield 181, 3) := by decide +kernel
theorem dX5_undo_7 : decode cX5_undo 7 = .ok (.ifCond .ne 6, 3) := by decide +kernel
theorem dX5_undo_10 : decode cX5_undo 10 = .ok (.ldc 170, 2) := by decide +kernel
theorem dX5_undo_12 : decode cX5_undo 12 = .ok (.ireturn, 1) := by decide +kernel
theorem dX5_undo_13 : decode cX5_undo 13 = .ok (.aload_n 0, 1) := by decide +kernel
theorem dX5_undo_14 : decode cX5_undo 14 = .ok (.getfield 25, 3) := by decide +kernel
theorem dX5_undo_17 : decode cX5_undo 17 = .ok (.aload_n 0, 1) := by decide +kernel
theorem dX5_undo_18 : decode cX5_undo 18 = .ok (.getfield 10, 3) := by decide +kernel
theorem dX5_undo_21 : decode cX5_undo 21 = .ok (.invokevirtual 184, 3) := by decide +kernel
theorem dX5_undo_24 : decode cX5_undo 24 = .ok (.aload_n 0, 1) := by decide +kernel
theorem dX5_undo_25 : decode cX5_undo 25 = .ok (.getfield 25, 3) := by decide +kernel
theorem dX5_undo_28 : decode cX5_undo 28 = .ok (.getfield 181, 3) := by decide +kernel
theorem dX5_undo_31 : decode cX5_undo 31 = .ok (.ireturn, 1) := by decide +kernel
theorem dX5_save_0 : decode cX5_save 0 = .ok (.aload_n 0, 1) := by decide +kernel
theorem dX5_save_1 : decode cX5_save 1 = .ok (.getfield 16, 3) := by decide +kernel
theorem dX5_save_4 : decode cX5_save 4 = .ok (.aload_n 0, 1) := by decide +kernel
theorem dX5_save_5 : decode cX5_save 5 = .ok (.getfield 10, 3) := by decide +kernel
theorem dX5_save_8 : decode cX5_save 8 = .ok (.invokevirtual 187, 3) := by decide +kernel
theorem dX5_save_11 : decode cX5_save 11 = .ok (.aload_n 0, 1) := by decide +kernel
theorem dX5_save_12 : decode cX5_save 12 = .ok (.iconst 1, 1) := by decide +kernel
theorem dX5_save_13 : decode cX5_save 13 = .ok (.putfield 43, 3) := by decide +kernel
theorem dX5_save_16 : decode cX5_save 16 = .ok (.aload_n 0, 1) := by decide +kernel
theorem dX5_save_17 : decode cX5_save 17 = .ok (.getfield 10, 3) := by decide +kernel
theorem dX5_save_20 : decode cX5_save 20 = .ok (.invokevirtual 151, 3) := by decide +kernel
theorem dX5_save_23 : decode cX5_save 23 = .ok (.ireturn, 1) := by decide +kernel
theorem dX5_restore_0 : decode cX5_restore 0 = .ok (.aload_n 0, 1) := by decide +kernel
theorem dX5_restore_1 : decode cX5_restore 1 = .ok (.getfield 43, 3) := by decide +kernel
theorem dX5_restore_4 : decode cX5_restore 4 = .ok (.ifCond .ne 6, 3) := by decide +kernel
theorem dX5_restore_7 : decode cX5_restore 7 = .ok (.ldc 87, 2) := by decide +kernel
theorem dX5_restore_9 : decode cX5_restore 9 = .ok (.ireturn, 1) := by decide +kernel
theorem dX5_restore_10 : decode cX5_restore 10 = .ok (.aload_n 0, 1) := by decide +kernel
theorem dX5_restore_11 : decode cX5_restore 11 = .ok (.getfield 25, 3) := by decide +kernel
theorem dX5_restore_14 : decode cX5_restore 14 = .ok (.aload_n 0, 1) := by decide +kernel
theorem dX5_restore_15 : decode cX5_restore 15 = .ok (.getfield 10, 3) := by decide +kernel
theorem dX5_restore_18 : decode cX5_restore 18 = .ok (.invokevirtual 58, 3) := by decide +kernel
theorem dX5_restore_21 : decode cX5_restore 21 = .ok (.aload_n 0, 1) := by decide +kernel
theorem dX5_restore_22 : decode cX5_restore 22 = .ok (.getfield 10, 3) := by decide +kernel
theorem dX5_restore_25 : decode cX5_restore 25 = .ok (.aload_n 0, 1) := by decide +kernel
theorem dX5_restore_26 : decode cX5_restore 26 = .ok (.getfield 16, 3) := by decide +kernel
theorem dX5_restore_29 : decode cX5_restore 29 = .ok (.invokevirtual 187, 3) := by decide +kernel
theorem dX5_restore_32 : decode cX5_restore 32 = .ok (.aload_n 0, 1) := by decide +kernel
theorem dX5_restore_33 : decode cX5_restore 33 = .ok (.getfield 10, 3) := by decide +kernel
theorem dX5_restore_36 : decode cX5_restore 36 = .ok (.invokevirtual 151, 3) := by decide +kernel
theorem dX5_restore_39 : decode cX5_restore 39 = .ok (.ireturn, 1) := by decide +kernel
theorem dX5_hall_0 : decode cX5_hall 0 = .ok (.iload_n 1, 1) := by decide +kernel
theorem dX5_hall_1 : decode cX5_hall 1 = .ok (.invokestatic 81, 3) := by decide +kernel
theorem dX5_hall_4 : decode cX5_hall 4 = .ok (.ifCond .ne 6, 3) := by decide +kernel
theorem dX5_hall_7 : decode cX5_hall 7 = .ok (.ldc 51, 2) := by decide +kernel
theorem dX5_hall_9 : decode cX5_hall 9 = .ok (.ireturn, 1) := by decide +kernel
theorem dX5_hall_10 : decode cX5_hall 10 = .ok (.iload_n 2, 1) := by decide +kernel
theorem dX5_hall_11 : decode cX5_hall 11 = .ok (.tableswitch 101 0 5 #[37, 49, 61, 70, 79, 92], 37) := by decide +kernel
theorem dX5_hall_48 : decode cX5_hall 48 = .ok (.aload_n 0, 1) := by decide +kernel
theorem dX5_hall_49 : decode cX5_hall 49 = .ok (.getfield 10, 3) := by decide +kernel
theorem dX5_hall_52 : decode cX5_hall 52 = .ok (.getfield 88, 3) := by decide +kernel
theorem dX5_hall_55 : decode cX5_hall 55 = .ok (.iload_n 1, 1) := by decide +kernel
theorem dX5_hall_56 : decode cX5_hall 56 = .ok (.invokestatic 73, 3) := by decide +kernel
theorem dX5_hall_59 : decode cX5_hall 59 = .ok (.ireturn, 1) := by decide +kernel
theorem dX5_hall_60 : decode cX5_hall 60 = .ok (.aload_n 0, 1) := by decide +kernel
theorem dX5_hall_61 : decode cX5_hall 61 = .ok (.getfield 10, 3) := by decide +kernel
theorem dX5_hall_64 : decode cX5_hall 64 = .ok (.getfield 84, 3) := by decide +kernel
theorem dX5_hall_67 : decode cX5_hall 67 = .ok (.iload_n 1, 1) := by decide +kernel
theorem dX5_hall_68 : decode cX5_hall 68 = .ok (.invokestatic 73, 3) := by decide +kernel
theorem dX5_hall_71 : decode cX5_hall 71 = .ok (.ireturn, 1) := by decide +kernel
theorem dX5_hall_72 : decode cX5_hall 72 = .ok (.aload_n 0, 1) := by decide +kernel
theorem dX5_hall_73 : decode cX5_hall 73 = .ok (.getfield 10, 3) := by decide +kernel
theorem dX5_hall_76 : decode cX5_hall 76 = .ok (.iload_n 1, 1) := by decide +kernel
theorem dX5_hall_77 : decode cX5_hall 77 = .ok (.invokevirtual 190, 3) := by decide +kernel
theorem dX5_hall_80 : decode cX5_hall 80 = .ok (.ireturn, 1) := by decide +kernel
theorem dX5_hall_81 : decode cX5_hall 81 = .ok (.aload_n 0, 1) := by decide +kernel
theorem dX5_hall_82 : decode cX5_hall 82 = .ok (.getfield 10, 3) := by decide +kernel
theorem dX5_hall_85 : decode cX5_hall 85 = .ok (.iload_n 1, 1) := by decide +kernel
theorem dX5_hall_86 : decode cX5_hall 86 = .ok (.invokevirtual 193, 3) := by decide +kernel
theorem dX5_hall_89 : decode cX5_hall 89 = .ok (.ireturn, 1) := by decide +kernel
theorem dX5_hall_90 : decode cX5_hall 90 = .ok (.aload_n 0, 1) := by decide +kernel
theorem dX5_hall_91 : decode cX5_hall 91 = .ok (.getfield 32, 3) := by decide +kernel
theorem dX5_hall_94 : decode cX5_hall 94 = .ok (.aload_n 0, 1) := by decide +kernel
theorem dX5_hall_95 : decode cX5_hall 95 = .ok (.getfield 10, 3) := by decide +kernel
theorem dX5_hall_98 : decode cX5_hall 98 = .ok (.iload_n 1, 1) := by decide +kernel
theorem dX5_hall_99 : decode cX5_hall 99 = .ok (.invokevirtual 196, 3) := by decide +kernel
theorem dX5_hall_102 : decode cX5_hall 102 = .ok (.ireturn, 1) := by decide +kernel
theorem dX5_hall_103 : decode cX5_hall 103 = .ok (.aload_n 0, 1) := by decide +kernel
theorem dX5_hall_104 : decode cX5_hall 104 = .ok (.getfield 10, 3) := by decide +kernel
theorem dX5_hall_107 : decode cX5_hall 107 = .ok (.iload_n 1, 1) := by decide +kernel
theorem dX5_hall_108 : decode cX5_hall 108 = .ok (.invokevirtual 200, 3) := by decide +kernel
theorem dX5_hall_111 : decode cX5_hall 111 = .ok (.ireturn, 1) := by decide +kernel
theorem dX5_hall_112 : decode cX5_hall 112 = .ok (.ldc 52, 2) := by decide +kernel
theorem dX5_hall_114 : decode cX5_hall 114 = .ok (.ireturn, 1) := by decide +kernel
theorem dX5_stileOf_0 : decode cX5_stileOf 0 = .ok (.aload_n 0, 1) := by decide +kernel
theorem dX5_stileOf_1 : decode cX5_stileOf 1 = .ok (.getfield 10, 3) := by decide +kernel
theorem dX5_stileOf_4 : decode cX5_stileOf 4 = .ok (.iload_n 1, 1) := by decide +kernel
theorem dX5_stileOf_5 : decode cX5_stileOf 5 = .ok (.invokevirtual 66, 3) := by decide +kernel
theorem dX5_stileOf_8 : decode cX5_stileOf 8 = .ok (.ifCond .ne 6, 3) := by decide +kernel
theorem dX5_stileOf_11 : decode cX5_stileOf 11 = .ok (.ldc 51, 2) := by decide +kernel
theorem dX5_stileOf_13 : decode cX5_stileOf 13 = .ok (.ireturn, 1) := by decide +kernel
theorem dX5_stileOf_14 : decode cX5_stileOf 14 = .ok (.iload_n 2, 1) := by decide +kernel
theorem dX5_stileOf_15 : decode cX5_stileOf 15 = .ok (.tableswitch 93 0 4 #[33, 45, 57, 69, 81], 33) := by decide +kernel
theorem dX5_stileOf_48 : decode cX5_stileOf 48 = .ok (.aload_n 0, 1) := by decide +kernel
theorem dX5_stileOf_49 : decode cX5_stileOf 49 = .ok (.getfield 10, 3) := by decide +kernel
theorem dX5_stileOf_52 : decode cX5_stileOf 52 = .ok (.getfield 203, 3) := by decide +kernel
theorem dX5_stileOf_55 : decode cX5_stileOf 55 = .ok (.iload_n 1, 1) := by decide +kernel
theorem dX5_stileOf_56 : decode cX5_stileOf 56 = .ok (.invokestatic 73, 3) := by decide +kernel
theorem dX5_stileOf_59 : decode cX5_stileOf 59 = .ok (.ireturn, 1) := by decide +kernel
theorem dX5_stileOf_60 : decode cX5_stileOf 60 = .ok (.aload_n 0, 1) := by decide +kernel
theorem dX5_stileOf_61 : decode cX5_stileOf 61 = .ok (.getfield 10, 3) := by decide +kernel
theorem dX5_stileOf_64 : decode cX5_stileOf 64 = .ok (.getfield 206, 3) := by decide +kernel
theorem dX5_stileOf_67 : decode cX5_stileOf 67 = .ok (.iload_n 1, 1) := by decide +kernel
theorem dX5_stileOf_68 : decode cX5_stileOf 68 = .ok (.invokestatic 73, 3) := by decide +kernel
theorem dX5_stileOf_71 : decode cX5_stileOf 71 = .ok (.ireturn, 1) := by decide +kernel
theorem dX5_stileOf_72 : decode cX5_stileOf 72 = .ok (.aload_n 0, 1) := by decide +kernel
theorem dX5_stileOf_73 : decode cX5_stileOf 73 = .ok (.getfield 10, 3) := by decide +kernel
theorem dX5_stileOf_76 : decode cX5_stileOf 76 = .ok (.getfield 69, 3) := by decide +kernel
theorem dX5_stileOf_79 : decode cX5_stileOf 79 = .ok (.iload_n 1, 1) := by decide +kernel
theorem dX5_stileOf_80 : decode cX5_stileOf 80 = .ok (.invokestatic 73, 3) := by decide +kernel
theorem dX5_stileOf_83 : decode cX5_stileOf 83 = .ok (.ireturn, 1) := by decide +kernel
theorem dX5_stileOf_84 : decode cX5_stileOf 84 = .ok (.aload_n 0, 1) := by decide +kernel
theorem dX5_stileOf_85 : decode cX5_stileOf 85 = .ok (.getfield 10, 3) := by decide +kernel
theorem dX5_stileOf_88 : decode cX5_stileOf 88 = .ok (.getfield 138, 3) := by decide +kernel
theorem dX5_stileOf_91 : decode cX5_stileOf 91 = .ok (.iload_n 1, 1) := by decide +kernel
theorem dX5_stileOf_92 : decode cX5_stileOf 92 = .ok (.invokestatic 73, 3) := by decide +kernel
theorem dX5_stileOf_95 : decode cX5_stileOf 95 = .ok (.ireturn, 1) := by decide +kernel
theorem dX5_stileOf_96 : decode cX5_stileOf 96 = .ok (.aload_n 0, 1) := by decide +kernel
theorem dX5_stileOf_97 : decode cX5_stileOf 97 = .ok (.getfield 10, 3) := by decide +kernel
theorem dX5_stileOf_100 : decode cX5_stileOf 100 = .ok (.getfield 100, 3) := by decide +kernel
theorem dX5_stileOf_103 : decode cX5_stileOf 103 = .ok (.iload_n 1, 1) := by decide +kernel
theorem dX5_stileOf_104 : decode cX5_stileOf 104 = .ok (.invokevirtual 121, 3) := by decide +kernel
theorem dX5_stileOf_107 : decode cX5_stileOf 107 = .ok (.ireturn, 1) := by decide +kernel
theorem dX5_stileOf_108 : decode cX5_stileOf 108 = .ok (.ldc 52, 2) := by decide +kernel
theorem dX5_stileOf_110 : decode cX5_stileOf 110 = .ok (.ireturn, 1) := by decide +kernel
theorem dX5_counter_0 : decode cX5_counter 0 = .ok (.aload_n 0, 1) := by decide +kernel
theorem dX5_counter_1 : decode cX5_counter 1 = .ok (.getfield 10, 3) := by decide +kernel
theorem dX5_counter_4 : decode cX5_counter 4 = .ok (.iload_n 1, 1) := by decide +kernel
theorem dX5_counter_5 : decode cX5_counter 5 = .ok (.invokevirtual 66, 3) := by decide +kernel
theorem dX5_counter_8 : decode cX5_counter 8 = .ok (.ifCond .ne 6, 3) := by decide +kernel
theorem dX5_counter_11 : decode cX5_counter 11 = .ok (.ldc 51, 2) := by decide +kernel
theorem dX5_counter_13 : decode cX5_counter 13 = .ok (.ireturn, 1) := by decide +kernel
theorem dX5_counter_14 : decode cX5_counter 14 = .ok (.iload_n 2, 1) := by decide +kernel
theorem dX5_counter_15 : decode cX5_counter 15 = .ok (.invokestatic 91, 3) := by decide +kernel
theorem dX5_counter_18 : decode cX5_counter 18 = .ok (.ifCond .ne 6, 3) := by decide +kernel
theorem dX5_counter_21 : decode cX5_counter 21 = .ok (.ldc 52, 2) := by decide +kernel
theorem dX5_counter_23 : decode cX5_counter 23 = .ok (.ireturn, 1) := by decide +kernel
theorem dX5_counter_24 : decode cX5_counter 24 = .ok (.iload_n 1, 1) := by decide +kernel
theorem dX5_counter_25 : decode cX5_counter 25 = .ok (.iload_n 2, 1) := by decide +kernel
theorem dX5_counter_26 : decode cX5_counter 26 = .ok (.invokestatic 97, 3) := by decide +kernel
theorem dX5_counter_29 : decode cX5_counter 29 = .ok (.istore 4, 2) := by decide +kernel
theorem dX5_counter_31 : decode cX5_counter 31 = .ok (.iload_n 3, 1) := by decide +kernel
theorem dX5_counter_32 : decode cX5_counter 32 = .ok (.tableswitch 76 0 2 #[28, 44, 60], 28) := by decide +kernel
theorem dX5_counter_60 : decode cX5_counter 60 = .ok (.aload_n 0, 1) := by decide +kernel
theorem dX5_counter_61 : decode cX5_counter 61 = .ok (.getfield 10, 3) := by decide +kernel
theorem dX5_counter_64 : decode cX5_counter 64 = .ok (.getfield 100, 3) := by decide +kernel
theorem dX5_counter_67 : decode cX5_counter 67 = .ok (.getfield 209, 3) := by decide +kernel
theorem dX5_counter_70 : decode cX5_counter 70 = .ok (.iload 4, 2) := by decide +kernel
theorem dX5_counter_72 : decode cX5_counter 72 = .ok (.invokestatic 73, 3) := by decide +kernel
theorem dX5_counter_75 : decode cX5_counter 75 = .ok (.ireturn, 1) := by decide +kernel
theorem dX5_counter_76 : decode cX5_counter 76 = .ok (.aload_n 0, 1) := by decide +kernel
theorem dX5_counter_77 : decode cX5_counter 77 = .ok (.getfield 10, 3) := by decide +kernel
theorem dX5_counter_80 : decode cX5_counter 80 = .ok (.getfield 100, 3) := by decide +kernel
theorem dX5_counter_83 : decode cX5_counter 83 = .ok (.getfield 104, 3) := by decide +kernel
theorem dX5_counter_86 : decode cX5_counter 86 = .ok (.iload 4, 2) := by decide +kernel
theorem dX5_counter_88 : decode cX5_counter 88 = .ok (.invokestatic 73, 3) := by decide +kernel
theorem dX5_counter_91 : decode cX5_counter 91 = .ok (.ireturn, 1) := by decide +kernel
theorem dX5_counter_92 : decode cX5_counter 92 = .ok (.aload_n 0, 1) := by decide +kernel
theorem dX5_counter_93 : decode cX5_counter 93 = .ok (.getfield 10, 3) := by decide +kernel
theorem dX5_counter_96 : decode cX5_counter 96 = .ok (.getfield 100, 3) := by decide +kernel
theorem dX5_counter_99 : decode cX5_counter 99 = .ok (.getfield 212, 3) := by decide +kernel
theorem dX5_counter_102 : decode cX5_counter 102 = .ok (.iload 4, 2) := by decide +kernel
theorem dX5_counter_104 : decode cX5_counter 104 = .ok (.invokestatic 73, 3) := by decide +kernel
theorem dX5_counter_107 : decode cX5_counter 107 = .ok (.ireturn, 1) := by decide +kernel
theorem dX5_counter_108 : decode cX5_counter 108 = .ok (.ldc 52, 2) := by decide +kernel
theorem dX5_counter_110 : decode cX5_counter 110 = .ok (.ireturn, 1) := by decide +kernel
theorem dX5_reason_0 : decode cX5_reason 0 = .ok (.aload_n 0, 1) := by decide +kernel
theorem dX5_reason_1 : decode cX5_reason 1 = .ok (.getfield 10, 3) := by decide +kernel
theorem dX5_reason_4 : decode cX5_reason 4 = .ok (.iload_n 1, 1) := by decide +kernel
theorem dX5_reason_5 : decode cX5_reason 5 = .ok (.invokevirtual 66, 3) := by decide +kernel
theorem dX5_reason_8 : decode cX5_reason 8 = .ok (.ifCond .ne 6, 3) := by decide +kernel
theorem dX5_reason_11 : decode cX5_reason 11 = .ok (.ldc 51, 2) := by decide +kernel
theorem dX5_reason_13 : decode cX5_reason 13 = .ok (.ireturn, 1) := by decide +kernel
theorem dX5_reason_14 : decode cX5_reason 14 = .ok (.iload_n 3, 1) := by decide +kernel
theorem dX5_reason_15 : decode cX5_reason 15 = .ok (.invokestatic 215, 3) := by decide +kernel
theorem dX5_reason_18 : decode cX5_reason 18 = .ok (.ifCond .ne 6, 3) := by decide +kernel
theorem dX5_reason_21 : decode cX5_reason 21 = .ok (.ldc 52, 2) := by decide +kernel
theorem dX5_reason_23 : decode cX5_reason 23 = .ok (.ireturn, 1) := by decide +kernel
theorem dX5_reason_24 : decode cX5_reason 24 = .ok (.aload_n 0, 1) := by decide +kernel
theorem dX5_reason_25 : decode cX5_reason 25 = .ok (.getfield 10, 3) := by decide +kernel
theorem dX5_reason_28 : decode cX5_reason 28 = .ok (.iload_n 1, 1) := by decide +kernel
theorem dX5_reason_29 : decode cX5_reason 29 = .ok (.iload_n 2, 1) := by decide +kernel
theorem dX5_reason_30 : decode cX5_reason 30 = .ok (.iload_n 3, 1) := by decide +kernel
theorem dX5_reason_31 : decode cX5_reason 31 = .ok (.invokevirtual 218, 3) := by decide +kernel
theorem dX5_reason_34 : decode cX5_reason 34 = .ok (.ireturn, 1) := by decide +kernel
theorem dX5_worst_0 : decode cX5_worst 0 = .ok (.iload_n 1, 1) := by decide +kernel
theorem dX5_worst_1 : decode cX5_worst 1 = .ok (.ifCond .ge 6, 3) := by decide +kernel
theorem dX5_worst_4 : decode cX5_worst 4 = .ok (.ldc 52, 2) := by decide +kernel
theorem dX5_worst_6 : decode cX5_worst 6 = .ok (.ireturn, 1) := by decide +kernel
theorem dX5_worst_7 : decode cX5_worst 7 = .ok (.iconst 0, 1) := by decide +kernel
theorem dX5_worst_8 : decode cX5_worst 8 = .ok (.istore_n 2, 1) := by decide +kernel
theorem dX5_worst_9 : decode cX5_worst 9 = .ok (.iload_n 2, 1) := by decide +kernel
theorem dX5_worst_10 : decode cX5_worst 10 = .ok (.aload_n 0, 1) := by decide +kernel
theorem dX5_worst_11 : decode cX5_worst 11 = .ok (.getfield 10, 3) := by decide +kernel
theorem dX5_worst_14 : decode cX5_worst 14 = .ok (.getfield 53, 3) := by decide +kernel
theorem dX5_worst_17 : decode cX5_worst 17 = .ok (.if_icmp .ge 37, 3) := by decide +kernel
theorem dX5_worst_20 : decode cX5_worst 20 = .ok (.aload_n 0, 1) := by decide +kernel
theorem dX5_worst_21 : decode cX5_worst 21 = .ok (.getfield 10, 3) := by decide +kernel
theorem dX5_worst_24 : decode cX5_worst 24 = .ok (.getfield 100, 3) := by decide +kernel
theorem dX5_worst_27 : decode cX5_worst 27 = .ok (.iload_n 2, 1) := by decide +kernel
theorem dX5_worst_28 : decode cX5_worst 28 = .ok (.invokevirtual 121, 3) := by decide +kernel
theorem dX5_worst_31 : decode cX5_worst 31 = .ok (.ifCond .le 17, 3) := by decide +kernel
theorem dX5_worst_34 : decode cX5_worst 34 = .ok (.aload_n 0, 1) := by decide +kernel
theorem dX5_worst_35 : decode cX5_worst 35 = .ok (.getfield 10, 3) := by decide +kernel
theorem dX5_worst_38 : decode cX5_worst 38 = .ok (.iload_n 2, 1) := by decide +kernel
theorem dX5_worst_39 : decode cX5_worst 39 = .ok (.invokevirtual 221, 3) := by decide +kernel
theorem dX5_worst_42 : decode cX5_worst 42 = .ok (.iload_n 1, 1) := by decide +kernel
theorem dX5_worst_43 : decode cX5_worst 43 = .ok (.if_icmp .ne 5, 3) := by decide +kernel
theorem dX5_worst_46 : decode cX5_worst 46 = .ok (.iload_n 2, 1) := by decide +kernel
theorem dX5_worst_47 : decode cX5_worst 47 = .ok (.ireturn, 1) := by decide +kernel
theorem dX5_worst_48 : decode cX5_worst 48 = .ok (.iinc 2 1, 3) := by decide +kernel
theorem dX5_worst_51 : decode cX5_worst 51 = .ok (.goto (-42), 3) := by decide +kernel
theorem dX5_worst_54 : decode cX5_worst 54 = .ok (.ldc 170, 2) := by decide +kernel
theorem dX5_worst_56 : decode cX5_worst 56 = .ok (.ireturn, 1) := by decide +kernel
theorem dX5_count_0 : decode cX5_count 0 = .ok (.iload_n 1, 1) := by decide +kernel
theorem dX5_count_1 : decode cX5_count 1 = .ok (.tableswitch 174 0 12 #[67, 75, 83, 91, 99, 107, 115, 123, 134, 142, 150, 158, 166], 67) := by decide +kernel
theorem dX5_count_68 : decode cX5_count 68 = .ok (.aload_n 0, 1) := by decide +kernel
theorem dX5_count_69 : decode cX5_count 69 = .ok (.getfield 10, 3) := by decide +kernel
theorem dX5_count_72 : decode cX5_count 72 = .ok (.getfield 135, 3) := by decide +kernel
theorem dX5_count_75 : decode cX5_count 75 = .ok (.ireturn, 1) := by decide +kernel
theorem dX5_count_76 : decode cX5_count 76 = .ok (.aload_n 0, 1) := by decide +kernel
theorem dX5_count_77 : decode cX5_count 77 = .ok (.getfield 10, 3) := by decide +kernel
theorem dX5_count_80 : decode cX5_count 80 = .ok (.getfield 53, 3) := by decide +kernel
theorem dX5_count_83 : decode cX5_count 83 = .ok (.ireturn, 1) := by decide +kernel
theorem dX5_count_84 : decode cX5_count 84 = .ok (.aload_n 0, 1) := by decide +kernel
theorem dX5_count_85 : decode cX5_count 85 = .ok (.getfield 10, 3) := by decide +kernel
theorem dX5_count_88 : decode cX5_count 88 = .ok (.invokevirtual 224, 3) := by decide +kernel
theorem dX5_count_91 : decode cX5_count 91 = .ok (.ireturn, 1) := by decide +kernel
theorem dX5_count_92 : decode cX5_count 92 = .ok (.aload_n 0, 1) := by decide +kernel
theorem dX5_count_93 : decode cX5_count 93 = .ok (.getfield 10, 3) := by decide +kernel
theorem dX5_count_96 : decode cX5_count 96 = .ok (.invokevirtual 151, 3) := by decide +kernel
theorem dX5_count_99 : decode cX5_count 99 = .ok (.ireturn, 1) := by decide +kernel
theorem dX5_count_100 : decode cX5_count 100 = .ok (.aload_n 0, 1) := by decide +kernel
theorem dX5_count_101 : decode cX5_count 101 = .ok (.getfield 10, 3) := by decide +kernel
theorem dX5_count_104 : decode cX5_count 104 = .ok (.invokevirtual 227, 3) := by decide +kernel
theorem dX5_count_107 : decode cX5_count 107 = .ok (.ireturn, 1) := by decide +kernel
theorem dX5_count_108 : decode cX5_count 108 = .ok (.aload_n 0, 1) := by decide +kernel
theorem dX5_count_109 : decode cX5_count 109 = .ok (.getfield 10, 3) := by decide +kernel
theorem dX5_count_112 : decode cX5_count 112 = .ok (.invokevirtual 230, 3) := by decide +kernel
theorem dX5_count_115 : decode cX5_count 115 = .ok (.ireturn, 1) := by decide +kernel
theorem dX5_count_116 : decode cX5_count 116 = .ok (.aload_n 0, 1) := by decide +kernel
theorem dX5_count_117 : decode cX5_count 117 = .ok (.getfield 10, 3) := by decide +kernel
theorem dX5_count_120 : decode cX5_count 120 = .ok (.invokevirtual 233, 3) := by decide +kernel
theorem dX5_count_123 : decode cX5_count 123 = .ok (.ireturn, 1) := by decide +kernel
theorem dX5_count_124 : decode cX5_count 124 = .ok (.aload_n 0, 1) := by decide +kernel
theorem dX5_count_125 : decode cX5_count 125 = .ok (.getfield 10, 3) := by decide +kernel
theorem dX5_count_128 : decode cX5_count 128 = .ok (.getfield 100, 3) := by decide +kernel
theorem dX5_count_131 : decode cX5_count 131 = .ok (.invokevirtual 236, 3) := by decide +kernel
theorem dX5_count_134 : decode cX5_count 134 = .ok (.ireturn, 1) := by decide +kernel
theorem dX5_count_135 : decode cX5_count 135 = .ok (.aload_n 0, 1) := by decide +kernel
theorem dX5_count_136 : decode cX5_count 136 = .ok (.getfield 10, 3) := by decide +kernel
theorem dX5_count_139 : decode cX5_count 139 = .ok (.invokevirtual 239, 3) := by decide +kernel
theorem dX5_count_142 : decode cX5_count 142 = .ok (.ireturn, 1) := by decide +kernel
theorem dX5_count_143 : decode cX5_count 143 = .ok (.aload_n 0, 1) := by decide +kernel
theorem dX5_count_144 : decode cX5_count 144 = .ok (.getfield 10, 3) := by decide +kernel
theorem dX5_count_147 : decode cX5_count 147 = .ok (.getfield 155, 3) := by decide +kernel
theorem dX5_count_150 : decode cX5_count 150 = .ok (.ireturn, 1) := by decide +kernel
theorem dX5_count_151 : decode cX5_count 151 = .ok (.aload_n 0, 1) := by decide +kernel
theorem dX5_count_152 : decode cX5_count 152 = .ok (.getfield 10, 3) := by decide +kernel
theorem dX5_count_155 : decode cX5_count 155 = .ok (.getfield 158, 3) := by decide +kernel
theorem dX5_count_158 : decode cX5_count 158 = .ok (.ireturn, 1) := by decide +kernel
theorem dX5_count_159 : decode cX5_count 159 = .ok (.aload_n 0, 1) := by decide +kernel
theorem dX5_count_160 : decode cX5_count 160 = .ok (.getfield 25, 3) := by decide +kernel
theorem dX5_count_163 : decode cX5_count 163 = .ok (.getfield 181, 3) := by decide +kernel
theorem dX5_count_166 : decode cX5_count 166 = .ok (.ireturn, 1) := by decide +kernel
theorem dX5_count_167 : decode cX5_count 167 = .ok (.aload_n 0, 1) := by decide +kernel
theorem dX5_count_168 : decode cX5_count 168 = .ok (.getfield 39, 3) := by decide +kernel
theorem dX5_count_171 : decode cX5_count 171 = .ok (.getfield 161, 3) := by decide +kernel
theorem dX5_count_174 : decode cX5_count 174 = .ok (.ireturn, 1) := by decide +kernel
theorem dX5_count_175 : decode cX5_count 175 = .ok (.ldc 52, 2) := by decide +kernel
theorem dX5_count_177 : decode cX5_count 177 = .ok (.ireturn, 1) := by decide +kernel
theorem dX5_most_0 : decode cX5_most 0 = .ok (.aload_n 0, 1) := by decide +kernel
theorem dX5_most_1 : decode cX5_most 1 = .ok (.getfield 10, 3) := by decide +kernel
theorem dX5_most_4 : decode cX5_most 4 = .ok (.iload_n 1, 1) := by decide +kernel
theorem dX5_most_5 : decode cX5_most 5 = .ok (.invokevirtual 66, 3) := by decide +kernel
theorem dX5_most_8 : decode cX5_most 8 = .ok (.ifCond .ne 6, 3) := by decide +kernel
theorem dX5_most_11 : decode cX5_most 11 = .ok (.ldc 51, 2) := by decide +kernel
theorem dX5_most_13 : decode cX5_most 13 = .ok (.ireturn, 1) := by decide +kernel
theorem dX5_most_14 : decode cX5_most 14 = .ok (.aload_n 0, 1) := by decide +kernel
theorem dX5_most_15 : decode cX5_most 15 = .ok (.getfield 10, 3) := by decide +kernel
theorem dX5_most_18 : decode cX5_most 18 = .ok (.iload_n 1, 1) := by decide +kernel
theorem dX5_most_19 : decode cX5_most 19 = .ok (.iload_n 2, 1) := by decide +kernel
theorem dX5_most_20 : decode cX5_most 20 = .ok (.invokevirtual 242, 3) := by decide +kernel
theorem dX5_most_23 : decode cX5_most 23 = .ok (.ireturn, 1) := by decide +kernel
theorem dX5_emptyIn_0 : decode cX5_emptyIn 0 = .ok (.aload_n 0, 1) := by decide +kernel
theorem dX5_emptyIn_1 : decode cX5_emptyIn 1 = .ok (.getfield 19, 3) := by decide +kernel
theorem dX5_emptyIn_4 : decode cX5_emptyIn 4 = .ok (.aload_n 0, 1) := by decide +kernel
theorem dX5_emptyIn_5 : decode cX5_emptyIn 5 = .ok (.getfield 10, 3) := by decide +kernel
theorem dX5_emptyIn_8 : decode cX5_emptyIn 8 = .ok (.invokevirtual 187, 3) := by decide +kernel
theorem dX5_emptyIn_11 : decode cX5_emptyIn 11 = .ok (.iconst 0, 1) := by decide +kernel
theorem dX5_emptyIn_12 : decode cX5_emptyIn 12 = .ok (.istore_n 1, 1) := by decide +kernel
theorem dX5_emptyIn_13 : decode cX5_emptyIn 13 = .ok (.iload_n 1, 1) := by decide +kernel
theorem dX5_emptyIn_14 : decode cX5_emptyIn 14 = .ok (.sipush 300, 3) := by decide +kernel
theorem dX5_emptyIn_17 : decode cX5_emptyIn 17 = .ok (.if_icmp .ge 58, 3) := by decide +kernel
theorem dX5_emptyIn_20 : decode cX5_emptyIn 20 = .ok (.aload_n 0, 1) := by decide +kernel
theorem dX5_emptyIn_21 : decode cX5_emptyIn 21 = .ok (.getfield 19, 3) := by decide +kernel
theorem dX5_emptyIn_24 : decode cX5_emptyIn 24 = .ok (.invokevirtual 151, 3) := by decide +kernel
theorem dX5_emptyIn_27 : decode cX5_emptyIn 27 = .ok (.ifCond .ne 5, 3) := by decide +kernel
theorem dX5_emptyIn_30 : decode cX5_emptyIn 30 = .ok (.iload_n 1, 1) := by decide +kernel
theorem dX5_emptyIn_31 : decode cX5_emptyIn 31 = .ok (.ireturn, 1) := by decide +kernel
theorem dX5_emptyIn_32 : decode cX5_emptyIn 32 = .ok (.aload_n 0, 1) := by decide +kernel
theorem dX5_emptyIn_33 : decode cX5_emptyIn 33 = .ok (.getfield 19, 3) := by decide +kernel
theorem dX5_emptyIn_36 : decode cX5_emptyIn 36 = .ok (.invokevirtual 224, 3) := by decide +kernel
theorem dX5_emptyIn_39 : decode cX5_emptyIn 39 = .ok (.ifCond .le 7, 3) := by decide +kernel
theorem dX5_emptyIn_42 : decode cX5_emptyIn 42 = .ok (.iconst 1, 1) := by decide +kernel
theorem dX5_emptyIn_43 : decode cX5_emptyIn 43 = .ok (.goto 4, 3) := by decide +kernel
theorem dX5_emptyIn_46 : decode cX5_emptyIn 46 = .ok (.iconst 0, 1) := by decide +kernel
theorem dX5_emptyIn_47 : decode cX5_emptyIn 47 = .ok (.istore_n 2, 1) := by decide +kernel
theorem dX5_emptyIn_48 : decode cX5_emptyIn 48 = .ok (.aload_n 0, 1) := by decide +kernel
theorem dX5_emptyIn_49 : decode cX5_emptyIn 49 = .ok (.getfield 32, 3) := by decide +kernel
theorem dX5_emptyIn_52 : decode cX5_emptyIn 52 = .ok (.aload_n 0, 1) := by decide +kernel
theorem dX5_emptyIn_53 : decode cX5_emptyIn 53 = .ok (.getfield 19, 3) := by decide +kernel
theorem dX5_emptyIn_56 : decode cX5_emptyIn 56 = .ok (.invokevirtual 147, 3) := by decide +kernel
theorem dX5_emptyIn_59 : decode cX5_emptyIn 59 = .ok (.ifCond .ne 10, 3) := by decide +kernel
theorem dX5_emptyIn_62 : decode cX5_emptyIn 62 = .ok (.iload_n 2, 1) := by decide +kernel
theorem dX5_emptyIn_63 : decode cX5_emptyIn 63 = .ok (.ifCond .ne 6, 3) := by decide +kernel
theorem dX5_emptyIn_66 : decode cX5_emptyIn 66 = .ok (.ldc 170, 2) := by decide +kernel
theorem dX5_emptyIn_68 : decode cX5_emptyIn 68 = .ok (.ireturn, 1) := by decide +kernel
theorem dX5_emptyIn_69 : decode cX5_emptyIn 69 = .ok (.iinc 1 1, 3) := by decide +kernel
theorem dX5_emptyIn_72 : decode cX5_emptyIn 72 = .ok (.goto (-59), 3) := by decide +kernel
theorem dX5_emptyIn_75 : decode cX5_emptyIn 75 = .ok (.aload_n 0, 1) := by decide +kernel
theorem dX5_emptyIn_76 : decode cX5_emptyIn 76 = .ok (.getfield 19, 3) := by decide +kernel
theorem dX5_emptyIn_79 : decode cX5_emptyIn 79 = .ok (.invokevirtual 151, 3) := by decide +kernel
theorem dX5_emptyIn_82 : decode cX5_emptyIn 82 = .ok (.ifCond .ne 9, 3) := by decide +kernel
theorem dX5_emptyIn_85 : decode cX5_emptyIn 85 = .ok (.sipush 300, 3) := by decide +kernel
theorem dX5_emptyIn_88 : decode cX5_emptyIn 88 = .ok (.goto 5, 3) := by decide +kernel
theorem dX5_emptyIn_91 : decode cX5_emptyIn 91 = .ok (.ldc 170, 2) := by decide +kernel
theorem dX5_emptyIn_93 : decode cX5_emptyIn 93 = .ok (.ireturn, 1) := by decide +kernel
theorem dX5_fullness_0 : decode cX5_fullness 0 = .ok (.aload_n 0, 1) := by decide +kernel
theorem dX5_fullness_1 : decode cX5_fullness 1 = .ok (.getfield 10, 3) := by decide +kernel
theorem dX5_fullness_4 : decode cX5_fullness 4 = .ok (.invokevirtual 246, 3) := by decide +kernel
theorem dX5_fullness_7 : decode cX5_fullness 7 = .ok (.istore_n 1, 1) := by decide +kernel
theorem dX5_fullness_8 : decode cX5_fullness 8 = .ok (.iload_n 1, 1) := by decide +kernel
theorem dX5_fullness_9 : decode cX5_fullness 9 = .ok (.ifCond .le 17, 3) := by decide +kernel
theorem dX5_fullness_12 : decode cX5_fullness 12 = .ok (.aload_n 0, 1) := by decide +kernel
theorem dX5_fullness_13 : decode cX5_fullness 13 = .ok (.getfield 10, 3) := by decide +kernel
theorem dX5_fullness_16 : decode cX5_fullness 16 = .ok (.invokevirtual 151, 3) := by decide +kernel
theorem dX5_fullness_19 : decode cX5_fullness 19 = .ok (.i2d, 1) := by decide +kernel
theorem dX5_fullness_20 : decode cX5_fullness 20 = .ok (.iload_n 1, 1) := by decide +kernel
theorem dX5_fullness_21 : decode cX5_fullness 21 = .ok (.i2d, 1) := by decide +kernel
theorem dX5_fullness_22 : decode cX5_fullness 22 = .ok (.ddiv, 1) := by decide +kernel
theorem dX5_fullness_23 : decode cX5_fullness 23 = .ok (.goto 4, 3) := by decide +kernel
theorem dX5_fullness_26 : decode cX5_fullness 26 = .ok (.dconst 0, 1) := by decide +kernel
theorem dX5_fullness_27 : decode cX5_fullness 27 = .ok (.dreturn, 1) := by decide +kernel
theorem dX5_passError_0 : decode cX5_passError 0 = .ok (.aload_n 0, 1) := by decide +kernel
theorem dX5_passError_1 : decode cX5_passError 1 = .ok (.getfield 10, 3) := by decide +kernel
theorem dX5_passError_4 : decode cX5_passError 4 = .ok (.iload_n 1, 1) := by decide +kernel
theorem dX5_passError_5 : decode cX5_passError 5 = .ok (.invokevirtual 66, 3) := by decide +kernel
theorem dX5_passError_8 : decode cX5_passError 8 = .ok (.ifCond .ne 6, 3) := by decide +kernel
theorem dX5_passError_11 : decode cX5_passError 11 = .ok (.ldc 51, 2) := by decide +kernel
theorem dX5_passError_13 : decode cX5_passError 13 = .ok (.ireturn, 1) := by decide +kernel
theorem dX5_passError_14 : decode cX5_passError 14 = .ok (.iload_n 3, 1) := by decide +kernel
theorem dX5_passError_15 : decode cX5_passError 15 = .ok (.invokestatic 215, 3) := by decide +kernel
theorem dX5_passError_18 : decode cX5_passError 18 = .ok (.ifCond .ne 6, 3) := by decide +kernel
theorem dX5_passError_21 : decode cX5_passError 21 = .ok (.ldc 52, 2) := by decide +kernel
theorem dX5_passError_23 : decode cX5_passError 23 = .ok (.ireturn, 1) := by decide +kernel
theorem dX5_passError_24 : decode cX5_passError 24 = .ok (.aload_n 0, 1) := by decide +kernel
theorem dX5_passError_25 : decode cX5_passError 25 = .ok (.getfield 10, 3) := by decide +kernel
theorem dX5_passError_28 : decode cX5_passError 28 = .ok (.iload_n 1, 1) := by decide +kernel
theorem dX5_passError_29 : decode cX5_passError 29 = .ok (.iload_n 2, 1) := by decide +kernel
theorem dX5_passError_30 : decode cX5_passError 30 = .ok (.iload_n 3, 1) := by decide +kernel
theorem dX5_passError_31 : decode cX5_passError 31 = .ok (.invokevirtual 218, 3) := by decide +kernel
theorem dX5_passError_34 : decode cX5_passError 34 = .ok (.istore 4, 2) := by decide +kernel
theorem dX5_passError_36 : decode cX5_passError 36 = .ok (.iload 4, 2) := by decide +kernel
theorem dX5_passError_38 : decode cX5_passError 38 = .ok (.ifCond .ne 7, 3) := by decide +kernel
theorem dX5_passError_41 : decode cX5_passError 41 = .ok (.iconst 0, 1) := by decide +kernel
theorem dX5_passError_42 : decode cX5_passError 42 = .ok (.goto 8, 3) := by decide +kernel
theorem dX5_passError_45 : decode cX5_passError 45 = .ok (.bipush (-10), 2) := by decide +kernel
theorem dX5_passError_47 : decode cX5_passError 47 = .ok (.iload 4, 2) := by decide +kernel
theorem dX5_passError_49 : decode cX5_passError 49 = .ok (.isub, 1) := by decide +kernel
theorem dX5_passError_50 : decode cX5_passError 50 = .ok (.ireturn, 1) := by decide +kernel
theorem dX5_repairError_0 : decode cX5_repairError 0 = .ok (.aload_n 0, 1) := by decide +kernel
theorem dX5_repairError_1 : decode cX5_repairError 1 = .ok (.getfield 10, 3) := by decide +kernel
theorem dX5_repairError_4 : decode cX5_repairError 4 = .ok (.iload_n 1, 1) := by decide +kernel
theorem dX5_repairError_5 : decode cX5_repairError 5 = .ok (.invokevirtual 66, 3) := by decide +kernel
theorem dX5_repairError_8 : decode cX5_repairError 8 = .ok (.ifCond .ne 6, 3) := by decide +kernel
theorem dX5_repairError_11 : decode cX5_repairError 11 = .ok (.ldc 51, 2) := by decide +kernel
theorem dX5_repairError_13 : decode cX5_repairError 13 = .ok (.ireturn, 1) := by decide +kernel
theorem dX5_repairError_14 : decode cX5_repairError 14 = .ok (.aload_n 0, 1) := by decide +kernel
theorem dX5_repairError_15 : decode cX5_repairError 15 = .ok (.getfield 10, 3) := by decide +kernel
theorem dX5_repairError_18 : decode cX5_repairError 18 = .ok (.getfield 138, 3) := by decide +kernel
theorem dX5_repairError_21 : decode cX5_repairError 21 = .ok (.iload_n 1, 1) := by decide +kernel
theorem dX5_repairError_22 : decode cX5_repairError 22 = .ok (.invokestatic 73, 3) := by decide +kernel
theorem dX5_repairError_25 : decode cX5_repairError 25 = .ok (.ifCond .le 8, 3) := by decide +kernel
theorem dX5_repairError_28 : decode cX5_repairError 28 = .ok (.ldc 87, 2) := by decide +kernel
theorem dX5_repairError_30 : decode cX5_repairError 30 = .ok (.goto 4, 3) := by decide +kernel
theorem dX5_repairError_33 : decode cX5_repairError 33 = .ok (.iconst 0, 1) := by decide +kernel
theorem dX5_repairError_34 : decode cX5_repairError 34 = .ok (.ireturn, 1) := by decide +kernel
theorem dX5_isHall_0 : decode cX5_isHall 0 = .ok (.iload_n 0, 1) := by decide +kernel
theorem dX5_isHall_1 : decode cX5_isHall 1 = .ok (.ifCond .lt 13, 3) := by decide +kernel
theorem dX5_isHall_4 : decode cX5_isHall 4 = .ok (.iload_n 0, 1) := by decide +kernel
theorem dX5_isHall_5 : decode cX5_isHall 5 = .ok (.bipush 6, 2) := by decide +kernel
theorem dX5_isHall_7 : decode cX5_isHall 7 = .ok (.if_icmp .ge 7, 3) := by decide +kernel
theorem dX5_isHall_10 : decode cX5_isHall 10 = .ok (.iconst 1, 1) := by decide +kernel
theorem dX5_isHall_11 : decode cX5_isHall 11 = .ok (.goto 4, 3) := by decide +kernel
theorem dX5_isHall_14 : decode cX5_isHall 14 = .ok (.iconst 0, 1) := by decide +kernel
theorem dX5_isHall_15 : decode cX5_isHall 15 = .ok (.ireturn, 1) := by decide +kernel
theorem dX5_isHallWithRoom_0 : decode cX5_isHallWithRoom 0 = .ok (.iload_n 0, 1) := by decide +kernel
theorem dX5_isHallWithRoom_1 : decode cX5_isHallWithRoom 1 = .ok (.invokestatic 47, 3) := by decide +kernel
theorem dX5_isHallWithRoom_4 : decode cX5_isHallWithRoom 4 = .ok (.ifCond .eq 11, 3) := by decide +kernel
theorem dX5_isHallWithRoom_7 : decode cX5_isHallWithRoom 7 = .ok (.iload_n 0, 1) := by decide +kernel
theorem dX5_isHallWithRoom_8 : decode cX5_isHallWithRoom 8 = .ok (.ifCond .eq 7, 3) := by decide +kernel
theorem dX5_isHallWithRoom_11 : decode cX5_isHallWithRoom 11 = .ok (.iconst 1, 1) := by decide +kernel
theorem dX5_isHallWithRoom_12 : decode cX5_isHallWithRoom 12 = .ok (.goto 4, 3) := by decide +kernel
theorem dX5_isHallWithRoom_15 : decode cX5_isHallWithRoom 15 = .ok (.iconst 0, 1) := by decide +kernel
theorem dX5_isHallWithRoom_16 : decode cX5_isHallWithRoom 16 = .ok (.ireturn, 1) := by decide +kernel
theorem dX5_isCounter_0 : decode cX5_isCounter 0 = .ok (.iload_n 0, 1) := by decide +kernel
theorem dX5_isCounter_1 : decode cX5_isCounter 1 = .ok (.ifCond .lt 12, 3) := by decide +kernel
theorem dX5_isCounter_4 : decode cX5_isCounter 4 = .ok (.iload_n 0, 1) := by decide +kernel
theorem dX5_isCounter_5 : decode cX5_isCounter 5 = .ok (.iconst 4, 1) := by decide +kernel
theorem dX5_isCounter_6 : decode cX5_isCounter 6 = .ok (.if_icmp .ge 7, 3) := by decide +kernel
theorem dX5_isCounter_9 : decode cX5_isCounter 9 = .ok (.iconst 1, 1) := by decide +kernel
theorem dX5_isCounter_10 : decode cX5_isCounter 10 = .ok (.goto 4, 3) := by decide +kernel
theorem dX5_isCounter_13 : decode cX5_isCounter 13 = .ok (.iconst 0, 1) := by decide +kernel
theorem dX5_isCounter_14 : decode cX5_isCounter 14 = .ok (.ireturn, 1) := by decide +kernel
theorem dX5_isSlip_0 : decode cX5_isSlip 0 = .ok (.iload_n 0, 1) := by decide +kernel
theorem dX5_isSlip_1 : decode cX5_isSlip 1 = .ok (.ifCond .eq 14, 3) := by decide +kernel
theorem dX5_isSlip_4 : decode cX5_isSlip 4 = .ok (.iload_n 0, 1) := by decide +kernel
theorem dX5_isSlip_5 : decode cX5_isSlip 5 = .ok (.iconst 2, 1) := by decide +kernel
theorem dX5_isSlip_6 : decode cX5_isSlip 6 = .ok (.if_icmp .lt 13, 3) := by decide +kernel
theorem dX5_isSlip_9 : decode cX5_isSlip 9 = .ok (.iload_n 0, 1) := by decide +kernel
theorem dX5_isSlip_10 : decode cX5_isSlip 10 = .ok (.bipush 9, 2) := by decide +kernel
theorem dX5_isSlip_12 : decode cX5_isSlip 12 = .ok (.if_icmp .gt 7, 3) := by decide +kernel
theorem dX5_isSlip_15 : decode cX5_isSlip 15 = .ok (.iconst 1, 1) := by decide +kernel
theorem dX5_isSlip_16 : decode cX5_isSlip 16 = .ok (.goto 4, 3) := by decide +kernel
theorem dX5_isSlip_19 : decode cX5_isSlip 19 = .ok (.iconst 0, 1) := by decide +kernel
theorem dX5_isSlip_20 : decode cX5_isSlip 20 = .ok (.ireturn, 1) := by decide +kernel
theorem dX5_isManyPeople_0 : decode cX5_isManyPeople 0 = .ok (.iload_n 0, 1) := by decide +kernel
theorem dX5_isManyPeople_1 : decode cX5_isManyPeople 1 = .ok (.iconst 1, 1) := by decide +kernel
theorem dX5_isManyPeople_2 : decode cX5_isManyPeople 2 = .ok (.if_icmp .lt 13, 3) := by decide +kernel
theorem dX5_isManyPeople_5 : decode cX5_isManyPeople 5 = .ok (.iload_n 0, 1) := by decide +kernel
theorem dX5_isManyPeople_6 : decode cX5_isManyPeople 6 = .ok (.bipush 99, 2) := by decide +kernel
theorem dX5_isManyPeople_8 : decode cX5_isManyPeople 8 = .ok (.if_icmp .gt 7, 3) := by decide +kernel
theorem dX5_isManyPeople_11 : decode cX5_isManyPeople 11 = .ok (.iconst 1, 1) := by decide +kernel
theorem dX5_isManyPeople_12 : decode cX5_isManyPeople 12 = .ok (.goto 4, 3) := by decide +kernel
theorem dX5_isManyPeople_15 : decode cX5_isManyPeople 15 = .ok (.iconst 0, 1) := by decide +kernel
theorem dX5_isManyPeople_16 : decode cX5_isManyPeople 16 = .ok (.ireturn, 1) := by decide +kernel
theorem dX5_isManyHours_0 : decode cX5_isManyHours 0 = .ok (.iload_n 0, 1) := by decide +kernel
theorem dX5_isManyHours_1 : decode cX5_isManyHours 1 = .ok (.iconst 1, 1) := by decide +kernel
theorem dX5_isManyHours_2 : decode cX5_isManyHours 2 = .ok (.if_icmp .lt 13, 3) := by decide +kernel
theorem dX5_isManyHours_5 : decode cX5_isManyHours 5 = .ok (.iload_n 0, 1) := by decide +kernel
theorem dX5_isManyHours_6 : decode cX5_isManyHours 6 = .ok (.bipush 99, 2) := by decide +kernel
theorem dX5_isManyHours_8 : decode cX5_isManyHours 8 = .ok (.if_icmp .gt 7, 3) := by decide +kernel
theorem dX5_isManyHours_11 : decode cX5_isManyHours 11 = .ok (.iconst 1, 1) := by decide +kernel
theorem dX5_isManyHours_12 : decode cX5_isManyHours 12 = .ok (.goto 4, 3) := by decide +kernel
theorem dX5_isManyHours_15 : decode cX5_isManyHours 15 = .ok (.iconst 0, 1) := by decide +kernel
theorem dX5_isManyHours_16 : decode cX5_isManyHours 16 = .ok (.ireturn, 1) := by decide +kernel
theorem dX5_counterIndex_0 : decode cX5_counterIndex 0 = .ok (.iload_n 0, 1) := by decide +kernel
theorem dX5_counterIndex_1 : decode cX5_counterIndex 1 = .ok (.iconst 4, 1) := by decide +kernel
theorem dX5_counterIndex_2 : decode cX5_counterIndex 2 = .ok (.imul, 1) := by decide +kernel
theorem dX5_counterIndex_3 : decode cX5_counterIndex 3 = .ok (.iload_n 1, 1) := by decide +kernel
theorem dX5_counterIndex_4 : decode cX5_counterIndex 4 = .ok (.iadd, 1) := by decide +kernel
theorem dX5_counterIndex_5 : decode cX5_counterIndex 5 = .ok (.ireturn, 1) := by decide +kernel
theorem dX5_at_0 : decode cX5_at 0 = .ok (.iload_n 1, 1) := by decide +kernel
theorem dX5_at_1 : decode cX5_at 1 = .ok (.ifCond .lt 15, 3) := by decide +kernel
theorem dX5_at_4 : decode cX5_at 4 = .ok (.iload_n 1, 1) := by decide +kernel
theorem dX5_at_5 : decode cX5_at 5 = .ok (.aload_n 0, 1) := by decide +kernel
theorem dX5_at_6 : decode cX5_at 6 = .ok (.arraylength, 1) := by decide +kernel
theorem dX5_at_7 : decode cX5_at 7 = .ok (.if_icmp .ge 9, 3) := by decide +kernel
theorem dX5_at_10 : decode cX5_at 10 = .ok (.aload_n 0, 1) := by decide +kernel
theorem dX5_at_11 : decode cX5_at 11 = .ok (.iload_n 1, 1) := by decide +kernel
theorem dX5_at_12 : decode cX5_at 12 = .ok (.iaload, 1) := by decide +kernel
theorem dX5_at_13 : decode cX5_at 13 = .ok (.goto 4, 3) := by decide +kernel
theorem dX5_at_16 : decode cX5_at 16 = .ok (.iconst 0, 1) := by decide +kernel
theorem dX5_at_17 : decode cX5_at 17 = .ok (.ireturn, 1) := by decide +kernel
theorem dX5_put_0 : decode cX5_put 0 = .ok (.iload_n 1, 1) := by decide +kernel
theorem dX5_put_1 : decode cX5_put 1 = .ok (.ifCond .lt 13, 3) := by decide +kernel
theorem dX5_put_4 : decode cX5_put 4 = .ok (.iload_n 1, 1) := by decide +kernel
theorem dX5_put_5 : decode cX5_put 5 = .ok (.aload_n 0, 1) := by decide +kernel
theorem dX5_put_6 : decode cX5_put 6 = .ok (.arraylength, 1) := by decide +kernel
theorem dX5_put_7 : decode cX5_put 7 = .ok (.if_icmp .ge 7, 3) := by decide +kernel
theorem dX5_put_10 : decode cX5_put 10 = .ok (.aload_n 0, 1) := by decide +kernel
theorem dX5_put_11 : decode cX5_put 11 = .ok (.iload_n 1, 1) := by decide +kernel
theorem dX5_put_12 : decode cX5_put 12 = .ok (.iload_n 2, 1) := by decide +kernel
theorem dX5_put_13 : decode cX5_put 13 = .ok (.iastore, 1) := by decide +kernel
theorem dX5_put_14 : decode cX5_put 14 = .ok (.return_, 1) := by decide +kernel
theorem dX5_add_0 : decode cX5_add 0 = .ok (.aload_n 0, 1) := by decide +kernel
theorem dX5_add_1 : decode cX5_add 1 = .ok (.iload_n 1, 1) := by decide +kernel
theorem dX5_add_2 : decode cX5_add 2 = .ok (.aload_n 0, 1) := by decide +kernel
theorem dX5_add_3 : decode cX5_add 3 = .ok (.iload_n 1, 1) := by decide +kernel
theorem dX5_add_4 : decode cX5_add 4 = .ok (.invokestatic 73, 3) := by decide +kernel
theorem dX5_add_7 : decode cX5_add 7 = .ok (.iload_n 2, 1) := by decide +kernel
theorem dX5_add_8 : decode cX5_add 8 = .ok (.iadd, 1) := by decide +kernel
theorem dX5_add_9 : decode cX5_add 9 = .ok (.invokestatic 77, 3) := by decide +kernel
theorem dX5_add_12 : decode cX5_add 12 = .ok (.return_, 1) := by decide +kernel
theorem dX5_copyRow_0 : decode cX5_copyRow 0 = .ok (.iconst 0, 1) := by decide +kernel
theorem dX5_copyRow_1 : decode cX5_copyRow 1 = .ok (.istore_n 2, 1) := by decide +kernel
theorem dX5_copyRow_2 : decode cX5_copyRow 2 = .ok (.iload_n 2, 1) := by decide +kernel
theorem dX5_copyRow_3 : decode cX5_copyRow 3 = .ok (.aload_n 0, 1) := by decide +kernel
theorem dX5_copyRow_4 : decode cX5_copyRow 4 = .ok (.arraylength, 1) := by decide +kernel
theorem dX5_copyRow_5 : decode cX5_copyRow 5 = .ok (.if_icmp .ge 21, 3) := by decide +kernel
theorem dX5_copyRow_8 : decode cX5_copyRow 8 = .ok (.iload_n 2, 1) := by decide +kernel
theorem dX5_copyRow_9 : decode cX5_copyRow 9 = .ok (.aload_n 1, 1) := by decide +kernel
theorem dX5_copyRow_10 : decode cX5_copyRow 10 = .ok (.arraylength, 1) := by decide +kernel
theorem dX5_copyRow_11 : decode cX5_copyRow 11 = .ok (.if_icmp .ge 15, 3) := by decide +kernel
theorem dX5_copyRow_14 : decode cX5_copyRow 14 = .ok (.aload_n 1, 1) := by decide +kernel
theorem dX5_copyRow_15 : decode cX5_copyRow 15 = .ok (.iload_n 2, 1) := by decide +kernel
theorem dX5_copyRow_16 : decode cX5_copyRow 16 = .ok (.aload_n 0, 1) := by decide +kernel
theorem dX5_copyRow_17 : decode cX5_copyRow 17 = .ok (.iload_n 2, 1) := by decide +kernel
theorem dX5_copyRow_18 : decode cX5_copyRow 18 = .ok (.iaload, 1) := by decide +kernel
theorem dX5_copyRow_19 : decode cX5_copyRow 19 = .ok (.iastore, 1) := by decide +kernel
theorem dX5_copyRow_20 : decode cX5_copyRow 20 = .ok (.iinc 2 1, 3) := by decide +kernel
theorem dX5_copyRow_23 : decode cX5_copyRow 23 = .ok (.goto (-21), 3) := by decide +kernel
theorem dX5_copyRow_26 : decode cX5_copyRow 26 = .ok (.return_, 1) := by decide +kernel
