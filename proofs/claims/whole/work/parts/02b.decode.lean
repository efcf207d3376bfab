theorem dX9_rambleOnce_56 : decode cX9_rambleOnce 56 = .ok (.getfield 86, 3) := by decide +kernel
theorem dX9_rambleOnce_59 : decode cX9_rambleOnce 59 = .ok (.iconst 1, 1) := by decide +kernel
theorem dX9_rambleOnce_60 : decode cX9_rambleOnce 60 = .ok (.iload_n 2, 1) := by decide +kernel
theorem dX9_rambleOnce_61 : decode cX9_rambleOnce 61 = .ok (.invokestatic 97, 3) := by decide +kernel
theorem dX9_rambleOnce_64 : decode cX9_rambleOnce 64 = .ok (.iadd, 1) := by decide +kernel
theorem dX9_rambleOnce_65 : decode cX9_rambleOnce 65 = .ok (.irem, 1) := by decide +kernel
theorem dX9_rambleOnce_66 : decode cX9_rambleOnce 66 = .ok (.istore_n 3, 1) := by decide +kernel
theorem dX9_rambleOnce_67 : decode cX9_rambleOnce 67 = .ok (.aload_n 0, 1) := by decide +kernel
theorem dX9_rambleOnce_68 : decode cX9_rambleOnce 68 = .ok (.getfield 17, 3) := by decide +kernel
theorem dX9_rambleOnce_71 : decode cX9_rambleOnce 71 = .ok (.iload_n 1, 1) := by decide +kernel
theorem dX9_rambleOnce_72 : decode cX9_rambleOnce 72 = .ok (.iload_n 3, 1) := by decide +kernel
theorem dX9_rambleOnce_73 : decode cX9_rambleOnce 73 = .ok (.ifCond .ne 14, 3) := by decide +kernel
theorem dX9_rambleOnce_76 : decode cX9_rambleOnce 76 = .ok (.aload_n 0, 1) := by decide +kernel
theorem dX9_rambleOnce_77 : decode cX9_rambleOnce 77 = .ok (.getfield 17, 3) := by decide +kernel
theorem dX9_rambleOnce_80 : decode cX9_rambleOnce 80 = .ok (.iload_n 1, 1) := by decide +kernel
theorem dX9_rambleOnce_81 : decode cX9_rambleOnce 81 = .ok (.invokevirtual 27, 3) := by decide +kernel
theorem dX9_rambleOnce_84 : decode cX9_rambleOnce 84 = .ok (.goto 8, 3) := by decide +kernel
theorem dX9_rambleOnce_87 : decode cX9_rambleOnce 87 = .ok (.iload_n 2, 1) := by decide +kernel
theorem dX9_rambleOnce_88 : decode cX9_rambleOnce 88 = .ok (.iload_n 3, 1) := by decide +kernel
theorem dX9_rambleOnce_89 : decode cX9_rambleOnce 89 = .ok (.invokestatic 102, 3) := by decide +kernel
theorem dX9_rambleOnce_92 : decode cX9_rambleOnce 92 = .ok (.invokevirtual 43, 3) := by decide +kernel
theorem dX9_rambleOnce_95 : decode cX9_rambleOnce 95 = .ok (.iinc 1 1, 3) := by decide +kernel
theorem dX9_rambleOnce_98 : decode cX9_rambleOnce 98 = .ok (.goto (-96), 3) := by decide +kernel
theorem dX9_rambleOnce_101 : decode cX9_rambleOnce 101 = .ok (.return_, 1) := by decide +kernel
theorem dX9_soManieth_0 : decode cX9_soManieth 0 = .ok (.iload_n 1, 1) := by decide +kernel
theorem dX9_soManieth_1 : decode cX9_soManieth 1 = .ok (.istore_n 2, 1) := by decide +kernel
theorem dX9_soManieth_2 : decode cX9_soManieth 2 = .ok (.iconst 0, 1) := by decide +kernel
theorem dX9_soManieth_3 : decode cX9_soManieth 3 = .ok (.istore_n 3, 1) := by decide +kernel
theorem dX9_soManieth_4 : decode cX9_soManieth 4 = .ok (.iload_n 3, 1) := by decide +kernel
theorem dX9_soManieth_5 : decode cX9_soManieth 5 = .ok (.bipush 7, 2) := by decide +kernel
theorem dX9_soManieth_7 : decode cX9_soManieth 7 = .ok (.if_icmp .ge 26, 3) := by decide +kernel
theorem dX9_soManieth_10 : decode cX9_soManieth 10 = .ok (.iload_n 0, 1) := by decide +kernel
theorem dX9_soManieth_11 : decode cX9_soManieth 11 = .ok (.iload_n 3, 1) := by decide +kernel
theorem dX9_soManieth_12 : decode cX9_soManieth 12 = .ok (.invokestatic 80, 3) := by decide +kernel
theorem dX9_soManieth_15 : decode cX9_soManieth 15 = .ok (.ifCond .eq 12, 3) := by decide +kernel
theorem dX9_soManieth_18 : decode cX9_soManieth 18 = .ok (.iinc 2 (-1), 3) := by decide +kernel
theorem dX9_soManieth_21 : decode cX9_soManieth 21 = .ok (.iload_n 2, 1) := by decide +kernel
theorem dX9_soManieth_22 : decode cX9_soManieth 22 = .ok (.ifCond .ne 5, 3) := by decide +kernel
theorem dX9_soManieth_25 : decode cX9_soManieth 25 = .ok (.iload_n 3, 1) := by decide +kernel
theorem dX9_soManieth_26 : decode cX9_soManieth 26 = .ok (.ireturn, 1) := by decide +kernel
theorem dX9_soManieth_27 : decode cX9_soManieth 27 = .ok (.iinc 3 1, 3) := by decide +kernel
theorem dX9_soManieth_30 : decode cX9_soManieth 30 = .ok (.goto (-26), 3) := by decide +kernel
theorem dX9_soManieth_33 : decode cX9_soManieth 33 = .ok (.iconst 0, 1) := by decide +kernel
theorem dX9_soManieth_34 : decode cX9_soManieth 34 = .ok (.ireturn, 1) := by decide +kernel
theorem dX10_all_0 : decode cX10_all 0 = .ok (.iconst 1, 1) := by decide +kernel
theorem dX10_all_1 : decode cX10_all 1 = .ok (.aload_n 0, 1) := by decide +kernel
theorem dX10_all_2 : decode cX10_all 2 = .ok (.getfield 9, 3) := by decide +kernel
theorem dX10_all_5 : decode cX10_all 5 = .ok (.iconst 1, 1) := by decide +kernel
theorem dX10_all_6 : decode cX10_all 6 = .ok (.iaload, 1) := by decide +kernel
theorem dX10_all_7 : decode cX10_all 7 = .ok (.ishl, 1) := by decide +kernel
theorem dX10_all_8 : decode cX10_all 8 = .ok (.iconst 1, 1) := by decide +kernel
theorem dX10_all_9 : decode cX10_all 9 = .ok (.isub, 1) := by decide +kernel
theorem dX10_all_10 : decode cX10_all 10 = .ok (.ireturn, 1) := by decide +kernel
theorem dX10_spread_0 : decode cX10_spread 0 = .ok (.iload_n 1, 1) := by decide +kernel
theorem dX10_spread_1 : decode cX10_spread 1 = .ok (.istore_n 3, 1) := by decide +kernel
theorem dX10_spread_2 : decode cX10_spread 2 = .ok (.iconst 0, 1) := by decide +kernel
theorem dX10_spread_3 : decode cX10_spread 3 = .ok (.istore 4, 2) := by decide +kernel
theorem dX10_spread_5 : decode cX10_spread 5 = .ok (.iload 4, 2) := by decide +kernel
theorem dX10_spread_7 : decode cX10_spread 7 = .ok (.aload_n 0, 1) := by decide +kernel
theorem dX10_spread_8 : decode cX10_spread 8 = .ok (.getfield 9, 3) := by decide +kernel
theorem dX10_spread_11 : decode cX10_spread 11 = .ok (.iconst 1, 1) := by decide +kernel
theorem dX10_spread_12 : decode cX10_spread 12 = .ok (.iaload, 1) := by decide +kernel
theorem dX10_spread_13 : decode cX10_spread 13 = .ok (.if_icmp .ge 30, 3) := by decide +kernel
theorem dX10_spread_16 : decode cX10_spread 16 = .ok (.iload_n 1, 1) := by decide +kernel
theorem dX10_spread_17 : decode cX10_spread 17 = .ok (.iload 4, 2) := by decide +kernel
theorem dX10_spread_19 : decode cX10_spread 19 = .ok (.invokestatic 15, 3) := by decide +kernel
theorem dX10_spread_22 : decode cX10_spread 22 = .ok (.ifCond .eq 15, 3) := by decide +kernel
theorem dX10_spread_25 : decode cX10_spread 25 = .ok (.iload_n 3, 1) := by decide +kernel
theorem dX10_spread_26 : decode cX10_spread 26 = .ok (.aload_n 0, 1) := by decide +kernel
theorem dX10_spread_27 : decode cX10_spread 27 = .ok (.getfield 19, 3) := by decide +kernel
theorem dX10_spread_30 : decode cX10_spread 30 = .ok (.iload 4, 2) := by decide +kernel
theorem dX10_spread_32 : decode cX10_spread 32 = .ok (.iaload, 1) := by decide +kernel
theorem dX10_spread_33 : decode cX10_spread 33 = .ok (.iload_n 2, 1) := by decide +kernel
theorem dX10_spread_34 : decode cX10_spread 34 = .ok (.iand, 1) := by decide +kernel
theorem dX10_spread_35 : decode cX10_spread 35 = .ok (.ior, 1) := by decide +kernel
theorem dX10_spread_36 : decode cX10_spread 36 = .ok (.istore_n 3, 1) := by decide +kernel
theorem dX10_spread_37 : decode cX10_spread 37 = .ok (.iinc 4 1, 3) := by decide +kernel
theorem dX10_spread_40 : decode cX10_spread 40 = .ok (.goto (-35), 3) := by decide +kernel
theorem dX10_spread_43 : decode cX10_spread 43 = .ok (.iload_n 3, 1) := by decide +kernel
theorem dX10_spread_44 : decode cX10_spread 44 = .ok (.ireturn, 1) := by decide +kernel
theorem dX10_reach_0 : decode cX10_reach 0 = .ok (.iconst 1, 1) := by decide +kernel
theorem dX10_reach_1 : decode cX10_reach 1 = .ok (.iload_n 1, 1) := by decide +kernel
theorem dX10_reach_2 : decode cX10_reach 2 = .ok (.ishl, 1) := by decide +kernel
theorem dX10_reach_3 : decode cX10_reach 3 = .ok (.istore_n 3, 1) := by decide +kernel
theorem dX10_reach_4 : decode cX10_reach 4 = .ok (.iconst 1, 1) := by decide +kernel
theorem dX10_reach_5 : decode cX10_reach 5 = .ok (.istore 4, 2) := by decide +kernel
theorem dX10_reach_7 : decode cX10_reach 7 = .ok (.iload 4, 2) := by decide +kernel
theorem dX10_reach_9 : decode cX10_reach 9 = .ok (.bipush 7, 2) := by decide +kernel
theorem dX10_reach_11 : decode cX10_reach 11 = .ok (.if_icmp .ge 16, 3) := by decide +kernel
theorem dX10_reach_14 : decode cX10_reach 14 = .ok (.aload_n 0, 1) := by decide +kernel
theorem dX10_reach_15 : decode cX10_reach 15 = .ok (.iload_n 3, 1) := by decide +kernel
theorem dX10_reach_16 : decode cX10_reach 16 = .ok (.iload_n 2, 1) := by decide +kernel
theorem dX10_reach_17 : decode cX10_reach 17 = .ok (.invokestatic 22, 3) := by decide +kernel
theorem dX10_reach_20 : decode cX10_reach 20 = .ok (.istore_n 3, 1) := by decide +kernel
theorem dX10_reach_21 : decode cX10_reach 21 = .ok (.iinc 4 1, 3) := by decide +kernel
theorem dX10_reach_24 : decode cX10_reach 24 = .ok (.goto (-17), 3) := by decide +kernel
theorem dX10_reach_27 : decode cX10_reach 27 = .ok (.iload_n 3, 1) := by decide +kernel
theorem dX10_reach_28 : decode cX10_reach 28 = .ok (.ireturn, 1) := by decide +kernel
theorem dX10_distance_0 : decode cX10_distance 0 = .ok (.iconst 1, 1) := by decide +kernel
theorem dX10_distance_1 : decode cX10_distance 1 = .ok (.iload_n 1, 1) := by decide +kernel
theorem dX10_distance_2 : decode cX10_distance 2 = .ok (.ishl, 1) := by decide +kernel
theorem dX10_distance_3 : decode cX10_distance 3 = .ok (.istore 4, 2) := by decide +kernel
theorem dX10_distance_5 : decode cX10_distance 5 = .ok (.iconst 0, 1) := by decide +kernel
theorem dX10_distance_6 : decode cX10_distance 6 = .ok (.istore 5, 2) := by decide +kernel
theorem dX10_distance_8 : decode cX10_distance 8 = .ok (.iload 5, 2) := by decide +kernel
theorem dX10_distance_10 : decode cX10_distance 10 = .ok (.bipush 7, 2) := by decide +kernel
theorem dX10_distance_12 : decode cX10_distance 12 = .ok (.if_icmp .ge 30, 3) := by decide +kernel
theorem dX10_distance_15 : decode cX10_distance 15 = .ok (.iload 4, 2) := by decide +kernel
theorem dX10_distance_17 : decode cX10_distance 17 = .ok (.iload_n 2, 1) := by decide +kernel
theorem dX10_distance_18 : decode cX10_distance 18 = .ok (.invokestatic 15, 3) := by decide +kernel
theorem dX10_distance_21 : decode cX10_distance 21 = .ok (.ifCond .eq 6, 3) := by decide +kernel
theorem dX10_distance_24 : decode cX10_distance 24 = .ok (.iload 5, 2) := by decide +kernel
theorem dX10_distance_26 : decode cX10_distance 26 = .ok (.ireturn, 1) := by decide +kernel
theorem dX10_distance_27 : decode cX10_distance 27 = .ok (.aload_n 0, 1) := by decide +kernel
theorem dX10_distance_28 : decode cX10_distance 28 = .ok (.iload 4, 2) := by decide +kernel
theorem dX10_distance_30 : decode cX10_distance 30 = .ok (.iload_n 3, 1) := by decide +kernel
theorem dX10_distance_31 : decode cX10_distance 31 = .ok (.invokestatic 22, 3) := by decide +kernel
theorem dX10_distance_34 : decode cX10_distance 34 = .ok (.istore 4, 2) := by decide +kernel
theorem dX10_distance_36 : decode cX10_distance 36 = .ok (.iinc 5 1, 3) := by decide +kernel
theorem dX10_distance_39 : decode cX10_distance 39 = .ok (.goto (-31), 3) := by decide +kernel
theorem dX10_distance_42 : decode cX10_distance 42 = .ok (.bipush (-2), 2) := by decide +kernel
theorem dX10_distance_44 : decode cX10_distance 44 = .ok (.ireturn, 1) := by decide +kernel
theorem dX10_firstStep_0 : decode cX10_firstStep 0 = .ok (.aload_n 0, 1) := by decide +kernel
theorem dX10_firstStep_1 : decode cX10_firstStep 1 = .ok (.iload_n 1, 1) := by decide +kernel
theorem dX10_firstStep_2 : decode cX10_firstStep 2 = .ok (.iload_n 2, 1) := by decide +kernel
theorem dX10_firstStep_3 : decode cX10_firstStep 3 = .ok (.aload_n 0, 1) := by decide +kernel
theorem dX10_firstStep_4 : decode cX10_firstStep 4 = .ok (.invokestatic 28, 3) := by decide +kernel
theorem dX10_firstStep_7 : decode cX10_firstStep 7 = .ok (.invokestatic 32, 3) := by decide +kernel
theorem dX10_firstStep_10 : decode cX10_firstStep 10 = .ok (.istore_n 3, 1) := by decide +kernel
theorem dX10_firstStep_11 : decode cX10_firstStep 11 = .ok (.iconst 0, 1) := by decide +kernel
theorem dX10_firstStep_12 : decode cX10_firstStep 12 = .ok (.istore 4, 2) := by decide +kernel
theorem dX10_firstStep_14 : decode cX10_firstStep 14 = .ok (.iload 4, 2) := by decide +kernel
theorem dX10_firstStep_16 : decode cX10_firstStep 16 = .ok (.aload_n 0, 1) := by decide +kernel
theorem dX10_firstStep_17 : decode cX10_firstStep 17 = .ok (.getfield 9, 3) := by decide +kernel
theorem dX10_firstStep_20 : decode cX10_firstStep 20 = .ok (.iconst 1, 1) := by decide +kernel
theorem dX10_firstStep_21 : decode cX10_firstStep 21 = .ok (.iaload, 1) := by decide +kernel
theorem dX10_firstStep_22 : decode cX10_firstStep 22 = .ok (.if_icmp .ge 47, 3) := by decide +kernel
theorem dX10_firstStep_25 : decode cX10_firstStep 25 = .ok (.iload_n 3, 1) := by decide +kernel
theorem dX10_firstStep_26 : decode cX10_firstStep 26 = .ok (.ifCond .le 43, 3) := by decide +kernel
theorem dX10_firstStep_29 : decode cX10_firstStep 29 = .ok (.aload_n 0, 1) := by decide +kernel
theorem dX10_firstStep_30 : decode cX10_firstStep 30 = .ok (.getfield 19, 3) := by decide +kernel
theorem dX10_firstStep_33 : decode cX10_firstStep 33 = .ok (.iload_n 1, 1) := by decide +kernel
theorem dX10_firstStep_34 : decode cX10_firstStep 34 = .ok (.iaload, 1) := by decide +kernel
theorem dX10_firstStep_35 : decode cX10_firstStep 35 = .ok (.iload 4, 2) := by decide +kernel
theorem dX10_firstStep_37 : decode cX10_firstStep 37 = .ok (.invokestatic 15, 3) := by decide +kernel
theorem dX10_firstStep_40 : decode cX10_firstStep 40 = .ok (.ifCond .eq 23, 3) := by decide +kernel
theorem dX10_firstStep_43 : decode cX10_firstStep 43 = .ok (.aload_n 0, 1) := by decide +kernel
theorem dX10_firstStep_44 : decode cX10_firstStep 44 = .ok (.iload 4, 2) := by decide +kernel
theorem dX10_firstStep_46 : decode cX10_firstStep 46 = .ok (.iload_n 2, 1) := by decide +kernel
theorem dX10_firstStep_47 : decode cX10_firstStep 47 = .ok (.aload_n 0, 1) := by decide +kernel
theorem dX10_firstStep_48 : decode cX10_firstStep 48 = .ok (.invokestatic 28, 3) := by decide +kernel
theorem dX10_firstStep_51 : decode cX10_firstStep 51 = .ok (.invokestatic 32, 3) := by decide +kernel
theorem dX10_firstStep_54 : decode cX10_firstStep 54 = .ok (.iload_n 3, 1) := by decide +kernel
theorem dX10_firstStep_55 : decode cX10_firstStep 55 = .ok (.iconst 1, 1) := by decide +kernel
theorem dX10_firstStep_56 : decode cX10_firstStep 56 = .ok (.isub, 1) := by decide +kernel
theorem dX10_firstStep_57 : decode cX10_firstStep 57 = .ok (.if_icmp .ne 6, 3) := by decide +kernel
theorem dX10_firstStep_60 : decode cX10_firstStep 60 = .ok (.iload 4, 2) := by decide +kernel
theorem dX10_firstStep_62 : decode cX10_firstStep 62 = .ok (.ireturn, 1) := by decide +kernel
theorem dX10_firstStep_63 : decode cX10_firstStep 63 = .ok (.iinc 4 1, 3) := by decide +kernel
theorem dX10_firstStep_66 : decode cX10_firstStep 66 = .ok (.goto (-52), 3) := by decide +kernel
theorem dX10_firstStep_69 : decode cX10_firstStep 69 = .ok (.bipush (-2), 2) := by decide +kernel
theorem dX10_firstStep_71 : decode cX10_firstStep 71 = .ok (.ireturn, 1) := by decide +kernel
theorem dX10_fewestBetween_0 : decode cX10_fewestBetween 0 = .ok (.iload_n 1, 1) := by decide +kernel
theorem dX10_fewestBetween_1 : decode cX10_fewestBetween 1 = .ok (.iload_n 2, 1) := by decide +kernel
theorem dX10_fewestBetween_2 : decode cX10_fewestBetween 2 = .ok (.if_icmp .eq 16, 3) := by decide +kernel
theorem dX10_fewestBetween_5 : decode cX10_fewestBetween 5 = .ok (.aload_n 0, 1) := by decide +kernel
theorem dX10_fewestBetween_6 : decode cX10_fewestBetween 6 = .ok (.getfield 19, 3) := by decide +kernel
theorem dX10_fewestBetween_9 : decode cX10_fewestBetween 9 = .ok (.iload_n 1, 1) := by decide +kernel
theorem dX10_fewestBetween_10 : decode cX10_fewestBetween 10 = .ok (.iaload, 1) := by decide +kernel
theorem dX10_fewestBetween_11 : decode cX10_fewestBetween 11 = .ok (.iload_n 2, 1) := by decide +kernel
theorem dX10_fewestBetween_12 : decode cX10_fewestBetween 12 = .ok (.invokestatic 15, 3) := by decide +kernel
theorem dX10_fewestBetween_15 : decode cX10_fewestBetween 15 = .ok (.ifCond .eq 6, 3) := by decide +kernel
theorem dX10_fewestBetween_18 : decode cX10_fewestBetween 18 = .ok (.bipush (-2), 2) := by decide +kernel
theorem dX10_fewestBetween_20 : decode cX10_fewestBetween 20 = .ok (.ireturn, 1) := by decide +kernel
theorem dX10_fewestBetween_21 : decode cX10_fewestBetween 21 = .ok (.iconst 1, 1) := by decide +kernel
theorem dX10_fewestBetween_22 : decode cX10_fewestBetween 22 = .ok (.iload_n 1, 1) := by decide +kernel
theorem dX10_fewestBetween_23 : decode cX10_fewestBetween 23 = .ok (.ishl, 1) := by decide +kernel
theorem dX10_fewestBetween_24 : decode cX10_fewestBetween 24 = .ok (.iconst 1, 1) := by decide +kernel
theorem dX10_fewestBetween_25 : decode cX10_fewestBetween 25 = .ok (.iload_n 2, 1) := by decide +kernel
theorem dX10_fewestBetween_26 : decode cX10_fewestBetween 26 = .ok (.ishl, 1) := by decide +kernel
theorem dX10_fewestBetween_27 : decode cX10_fewestBetween 27 = .ok (.ior, 1) := by decide +kernel
theorem dX10_fewestBetween_28 : decode cX10_fewestBetween 28 = .ok (.istore_n 3, 1) := by decide +kernel
theorem dX10_fewestBetween_29 : decode cX10_fewestBetween 29 = .ok (.bipush (-2), 2) := by decide +kernel
theorem dX10_fewestBetween_31 : decode cX10_fewestBetween 31 = .ok (.istore 4, 2) := by decide +kernel
theorem dX10_fewestBetween_33 : decode cX10_fewestBetween 33 = .ok (.bipush 8, 2) := by decide +kernel
theorem dX10_fewestBetween_35 : decode cX10_fewestBetween 35 = .ok (.istore 5, 2) := by decide +kernel
theorem dX10_fewestBetween_37 : decode cX10_fewestBetween 37 = .ok (.iconst 0, 1) := by decide +kernel
theorem dX10_fewestBetween_38 : decode cX10_fewestBetween 38 = .ok (.istore 6, 2) := by decide +kernel
theorem dX10_fewestBetween_40 : decode cX10_fewestBetween 40 = .ok (.iload 6, 2) := by decide +kernel
theorem dX10_fewestBetween_42 : decode cX10_fewestBetween 42 = .ok (.aload_n 0, 1) := by decide +kernel
theorem dX10_fewestBetween_43 : decode cX10_fewestBetween 43 = .ok (.invokestatic 28, 3) := by decide +kernel
theorem dX10_fewestBetween_46 : decode cX10_fewestBetween 46 = .ok (.if_icmp .gt 58, 3) := by decide +kernel
theorem dX10_fewestBetween_49 : decode cX10_fewestBetween 49 = .ok (.iload 6, 2) := by decide +kernel
theorem dX10_fewestBetween_51 : decode cX10_fewestBetween 51 = .ok (.iload_n 3, 1) := by decide +kernel
theorem dX10_fewestBetween_52 : decode cX10_fewestBetween 52 = .ok (.iand, 1) := by decide +kernel
theorem dX10_fewestBetween_53 : decode cX10_fewestBetween 53 = .ok (.ifCond .ne 45, 3) := by decide +kernel
theorem dX10_fewestBetween_56 : decode cX10_fewestBetween 56 = .ok (.iload 6, 2) := by decide +kernel
theorem dX10_fewestBetween_58 : decode cX10_fewestBetween 58 = .ok (.invokestatic 36, 3) := by decide +kernel
theorem dX10_fewestBetween_61 : decode cX10_fewestBetween 61 = .ok (.iload 5, 2) := by decide +kernel
theorem dX10_fewestBetween_63 : decode cX10_fewestBetween 63 = .ok (.if_icmp .ge 35, 3) := by decide +kernel
theorem dX10_fewestBetween_66 : decode cX10_fewestBetween 66 = .ok (.aload_n 0, 1) := by decide +kernel
theorem dX10_fewestBetween_67 : decode cX10_fewestBetween 67 = .ok (.iload_n 1, 1) := by decide +kernel
theorem dX10_fewestBetween_68 : decode cX10_fewestBetween 68 = .ok (.aload_n 0, 1) := by decide +kernel
theorem dX10_fewestBetween_69 : decode cX10_fewestBetween 69 = .ok (.invokestatic 28, 3) := by decide +kernel
theorem dX10_fewestBetween_72 : decode cX10_fewestBetween 72 = .ok (.iload 6, 2) := by decide +kernel
theorem dX10_fewestBetween_74 : decode cX10_fewestBetween 74 = .ok (.iconst (-1), 1) := by decide +kernel
theorem dX10_fewestBetween_75 : decode cX10_fewestBetween 75 = .ok (.ixor, 1) := by decide +kernel
theorem dX10_fewestBetween_76 : decode cX10_fewestBetween 76 = .ok (.iand, 1) := by decide +kernel
theorem dX10_fewestBetween_77 : decode cX10_fewestBetween 77 = .ok (.invokestatic 42, 3) := by decide +kernel
theorem dX10_fewestBetween_80 : decode cX10_fewestBetween 80 = .ok (.iload_n 2, 1) := by decide +kernel
theorem dX10_fewestBetween_81 : decode cX10_fewestBetween 81 = .ok (.invokestatic 15, 3) := by decide +kernel
theorem dX10_fewestBetween_84 : decode cX10_fewestBetween 84 = .ok (.ifCond .ne 14, 3) := by decide +kernel
theorem dX10_fewestBetween_87 : decode cX10_fewestBetween 87 = .ok (.iload 6, 2) := by decide +kernel
theorem dX10_fewestBetween_89 : decode cX10_fewestBetween 89 = .ok (.istore 4, 2) := by decide +kernel
theorem dX10_fewestBetween_91 : decode cX10_fewestBetween 91 = .ok (.iload 6, 2) := by decide +kernel
theorem dX10_fewestBetween_93 : decode cX10_fewestBetween 93 = .ok (.invokestatic 36, 3) := by decide +kernel
theorem dX10_fewestBetween_96 : decode cX10_fewestBetween 96 = .ok (.istore 5, 2) := by decide +kernel
theorem dX10_fewestBetween_98 : decode cX10_fewestBetween 98 = .ok (.iinc 6 1, 3) := by decide +kernel
theorem dX10_fewestBetween_101 : decode cX10_fewestBetween 101 = .ok (.goto (-61), 3) := by decide +kernel
theorem dX10_fewestBetween_104 : decode cX10_fewestBetween 104 = .ok (.iload 4, 2) := by decide +kernel
theorem dX10_fewestBetween_106 : decode cX10_fewestBetween 106 = .ok (.ireturn, 1) := by decide +kernel
theorem dX10_farthest_0 : decode cX10_farthest 0 = .ok (.iconst 0, 1) := by decide +kernel
theorem dX10_farthest_1 : decode cX10_farthest 1 = .ok (.istore_n 2, 1) := by decide +kernel
theorem dX10_farthest_2 : decode cX10_farthest 2 = .ok (.iconst 0, 1) := by decide +kernel
theorem dX10_farthest_3 : decode cX10_farthest 3 = .ok (.istore_n 3, 1) := by decide +kernel
theorem dX10_farthest_4 : decode cX10_farthest 4 = .ok (.iload_n 3, 1) := by decide +kernel
theorem dX10_farthest_5 : decode cX10_farthest 5 = .ok (.aload_n 0, 1) := by decide +kernel
theorem dX10_farthest_6 : decode cX10_farthest 6 = .ok (.getfield 9, 3) := by decide +kernel
theorem dX10_farthest_9 : decode cX10_farthest 9 = .ok (.iconst 1, 1) := by decide +kernel
theorem dX10_farthest_10 : decode cX10_farthest 10 = .ok (.iaload, 1) := by decide +kernel
theorem dX10_farthest_11 : decode cX10_farthest 11 = .ok (.if_icmp .ge 24, 3) := by decide +kernel
theorem dX10_farthest_14 : decode cX10_farthest 14 = .ok (.iload_n 2, 1) := by decide +kernel
theorem dX10_farthest_15 : decode cX10_farthest 15 = .ok (.aload_n 0, 1) := by decide +kernel
theorem dX10_farthest_16 : decode cX10_farthest 16 = .ok (.iload_n 1, 1) := by decide +kernel
theorem dX10_farthest_17 : decode cX10_farthest 17 = .ok (.iload_n 3, 1) := by decide +kernel
theorem dX10_farthest_18 : decode cX10_farthest 18 = .ok (.aload_n 0, 1) := by decide +kernel
theorem dX10_farthest_19 : decode cX10_farthest 19 = .ok (.invokestatic 28, 3) := by decide +kernel
theorem dX10_farthest_22 : decode cX10_farthest 22 = .ok (.invokestatic 32, 3) := by decide +kernel
theorem dX10_farthest_25 : decode cX10_farthest 25 = .ok (.invokestatic 45, 3) := by decide +kernel
theorem dX10_farthest_28 : decode cX10_farthest 28 = .ok (.istore_n 2, 1) := by decide +kernel
theorem dX10_farthest_29 : decode cX10_farthest 29 = .ok (.iinc 3 1, 3) := by decide +kernel
theorem dX10_farthest_32 : decode cX10_farthest 32 = .ok (.goto (-28), 3) := by decide +kernel
theorem dX10_farthest_35 : decode cX10_farthest 35 = .ok (.iload_n 2, 1) := by decide +kernel
theorem dX10_farthest_36 : decode cX10_farthest 36 = .ok (.ireturn, 1) := by decide +kernel
theorem dX10_mostCentral_0 : decode cX10_mostCentral 0 = .ok (.iconst 0, 1) := by decide +kernel
theorem dX10_mostCentral_1 : decode cX10_mostCentral 1 = .ok (.istore_n 1, 1) := by decide +kernel
theorem dX10_mostCentral_2 : decode cX10_mostCentral 2 = .ok (.iconst 1, 1) := by decide +kernel
theorem dX10_mostCentral_3 : decode cX10_mostCentral 3 = .ok (.istore_n 2, 1) := by decide +kernel
theorem dX10_mostCentral_4 : decode cX10_mostCentral 4 = .ok (.iload_n 2, 1) := by decide +kernel
theorem dX10_mostCentral_5 : decode cX10_mostCentral 5 = .ok (.aload_n 0, 1) := by decide +kernel
theorem dX10_mostCentral_6 : decode cX10_mostCentral 6 = .ok (.getfield 9, 3) := by decide +kernel
theorem dX10_mostCentral_9 : decode cX10_mostCentral 9 = .ok (.iconst 1, 1) := by decide +kernel
theorem dX10_mostCentral_10 : decode cX10_mostCentral 10 = .ok (.iaload, 1) := by decide +kernel
theorem dX10_mostCentral_11 : decode cX10_mostCentral 11 = .ok (.if_icmp .ge 24, 3) := by decide +kernel
theorem dX10_mostCentral_14 : decode cX10_mostCentral 14 = .ok (.aload_n 0, 1) := by decide +kernel
theorem dX10_mostCentral_15 : decode cX10_mostCentral 15 = .ok (.iload_n 2, 1) := by decide +kernel
theorem dX10_mostCentral_16 : decode cX10_mostCentral 16 = .ok (.invokestatic 51, 3) := by decide +kernel
theorem dX10_mostCentral_19 : decode cX10_mostCentral 19 = .ok (.aload_n 0, 1) := by decide +kernel
theorem dX10_mostCentral_20 : decode cX10_mostCentral 20 = .ok (.iload_n 1, 1) := by decide +kernel
theorem dX10_mostCentral_21 : decode cX10_mostCentral 21 = .ok (.invokestatic 51, 3) := by decide +kernel
theorem dX10_mostCentral_24 : decode cX10_mostCentral 24 = .ok (.if_icmp .ge 5, 3) := by decide +kernel
theorem dX10_mostCentral_27 : decode cX10_mostCentral 27 = .ok (.iload_n 2, 1) := by decide +kernel
theorem dX10_mostCentral_28 : decode cX10_mostCentral 28 = .ok (.istore_n 1, 1) := by decide +kernel
theorem dX10_mostCentral_29 : decode cX10_mostCentral 29 = .ok (.iinc 2 1, 3) := by decide +kernel
theorem dX10_mostCentral_32 : decode cX10_mostCentral 32 = .ok (.goto (-28), 3) := by decide +kernel
theorem dX10_mostCentral_35 : decode cX10_mostCentral 35 = .ok (.iload_n 1, 1) := by decide +kernel
theorem dX10_mostCentral_36 : decode cX10_mostCentral 36 = .ok (.ireturn, 1) := by decide +kernel
theorem dX10_partCount_0 : decode cX10_partCount 0 = .ok (.iconst 0, 1) := by decide +kernel
theorem dX10_partCount_1 : decode cX10_partCount 1 = .ok (.istore_n 1, 1) := by decide +kernel
theorem dX10_partCount_2 : decode cX10_partCount 2 = .ok (.iconst 0, 1) := by decide +kernel
theorem dX10_partCount_3 : decode cX10_partCount 3 = .ok (.istore_n 2, 1) := by decide +kernel
theorem dX10_partCount_4 : decode cX10_partCount 4 = .ok (.iconst 0, 1) := by decide +kernel
theorem dX10_partCount_5 : decode cX10_partCount 5 = .ok (.istore_n 3, 1) := by decide +kernel
theorem dX10_partCount_6 : decode cX10_partCount 6 = .ok (.iload_n 3, 1) := by decide +kernel
theorem dX10_partCount_7 : decode cX10_partCount 7 = .ok (.aload_n 0, 1) := by decide +kernel
theorem dX10_partCount_8 : decode cX10_partCount 8 = .ok (.getfield 9, 3) := by decide +kernel
theorem dX10_partCount_11 : decode cX10_partCount 11 = .ok (.iconst 1, 1) := by decide +kernel
theorem dX10_partCount_12 : decode cX10_partCount 12 = .ok (.iaload, 1) := by decide +kernel
theorem dX10_partCount_13 : decode cX10_partCount 13 = .ok (.if_icmp .ge 32, 3) := by decide +kernel
theorem dX10_partCount_16 : decode cX10_partCount 16 = .ok (.iload_n 2, 1) := by decide +kernel
theorem dX10_partCount_17 : decode cX10_partCount 17 = .ok (.iload_n 3, 1) := by decide +kernel
theorem dX10_partCount_18 : decode cX10_partCount 18 = .ok (.invokestatic 15, 3) := by decide +kernel
theorem dX10_partCount_21 : decode cX10_partCount 21 = .ok (.ifCond .ne 18, 3) := by decide +kernel
theorem dX10_partCount_24 : decode cX10_partCount 24 = .ok (.iinc 1 1, 3) := by decide +kernel
theorem dX10_partCount_27 : decode cX10_partCount 27 = .ok (.iload_n 2, 1) := by decide +kernel
theorem dX10_partCount_28 : decode cX10_partCount 28 = .ok (.aload_n 0, 1) := by decide +kernel
theorem dX10_partCount_29 : decode cX10_partCount 29 = .ok (.iload_n 3, 1) := by decide +kernel
theorem dX10_partCount_30 : decode cX10_partCount 30 = .ok (.aload_n 0, 1) := by decide +kernel
theorem dX10_partCount_31 : decode cX10_partCount 31 = .ok (.invokestatic 28, 3) := by decide +kernel
theorem dX10_partCount_34 : decode cX10_partCount 34 = .ok (.invokestatic 42, 3) := by decide +kernel
theorem dX10_partCount_37 : decode cX10_partCount 37 = .ok (.ior, 1) := by decide +kernel
theorem dX10_partCount_38 : decode cX10_partCount 38 = .ok (.istore_n 2, 1) := by decide +kernel
theorem dX10_partCount_39 : decode cX10_partCount 39 = .ok (.iinc 3 1, 3) := by decide +kernel
theorem dX10_partCount_42 : decode cX10_partCount 42 = .ok (.goto (-36), 3) := by decide +kernel
theorem dX10_partCount_45 : decode cX10_partCount 45 = .ok (.iload_n 1, 1) := by decide +kernel
theorem dX10_partCount_46 : decode cX10_partCount 46 = .ok (.ireturn, 1) := by decide +kernel
theorem dX11_init_0 : decode cX11_init 0 = .ok (.aload_n 0, 1) := by decide +kernel
theorem dX11_init_1 : decode cX11_init 1 = .ok (.invokespecial 1, 3) := by decide +kernel
theorem dX11_init_4 : decode cX11_init 4 = .ok (.aload_n 0, 1) := by decide +kernel
theorem dX11_init_5 : decode cX11_init 5 = .ok (.new 7, 3) := by decide +kernel
theorem dX11_init_8 : decode cX11_init 8 = .ok (.dup, 1) := by decide +kernel
theorem dX11_init_9 : decode cX11_init 9 = .ok (.invokespecial 9, 3) := by decide +kernel
theorem dX11_init_12 : decode cX11_init 12 = .ok (.putfield 10, 3) := by decide +kernel
theorem dX11_init_15 : decode cX11_init 15 = .ok (.aload_n 0, 1) := by decide +kernel
theorem dX11_init_16 : decode cX11_init 16 = .ok (.new 16, 3) := by decide +kernel
theorem dX11_init_19 : decode cX11_init 19 = .ok (.dup, 1) := by decide +kernel
theorem dX11_init_20 : decode cX11_init 20 = .ok (.invokespecial 18, 3) := by decide +kernel
theorem dX11_init_23 : decode cX11_init 23 = .ok (.putfield 19, 3) := by decide +kernel
theorem dX11_init_26 : decode cX11_init 26 = .ok (.aload_n 0, 1) := by decide +kernel
theorem dX11_init_27 : decode cX11_init 27 = .ok (.new 23, 3) := by decide +kernel
theorem dX11_init_30 : decode cX11_init 30 = .ok (.dup, 1) := by decide +kernel
theorem dX11_init_31 : decode cX11_init 31 = .ok (.invokespecial 25, 3) := by decide +kernel
theorem dX11_init_34 : decode cX11_init 34 = .ok (.putfield 26, 3) := by decide +kernel
theorem dX11_init_37 : decode cX11_init 37 = .ok (.aload_n 0, 1) := by decide +kernel
theorem dX11_init_38 : decode cX11_init 38 = .ok (.new 30, 3) := by decide +kernel
theorem dX11_init_41 : decode cX11_init 41 = .ok (.dup, 1) := by decide +kernel
theorem dX11_init_42 : decode cX11_init 42 = .ok (.invokespecial 32, 3) := by decide +kernel
theorem dX11_init_45 : decode cX11_init 45 = .ok (.putfield 33, 3) := by decide +kernel
theorem dX11_init_48 : decode cX11_init 48 = .ok (.aload_n 0, 1) := by decide +kernel
theorem dX11_init_49 : decode cX11_init 49 = .ok (.iconst 3, 1) := by decide +kernel
theorem dX11_init_50 : decode cX11_init 50 = .ok (.anewarray 37, 3) := by decide +kernel
theorem dX11_init_53 : decode cX11_init 53 = .ok (.putfield 39, 3) := by decide +kernel
theorem dX11_init_56 : decode cX11_init 56 = .ok (.new 43, 3) := by decide +kernel
theorem dX11_init_59 : decode cX11_init 59 = .ok (.dup, 1) := by decide +kernel
theorem dX11_init_60 : decode cX11_init 60 = .ok (.invokespecial 45, 3) := by decide +kernel
theorem dX11_init_63 : decode cX11_init 63 = .ok (.astore_n 1, 1) := by decide +kernel
theorem dX11_init_64 : decode cX11_init 64 = .ok (.aload_n 0, 1) := by decide +kernel
theorem dX11_init_65 : decode cX11_init 65 = .ok (.new 37, 3) := by decide +kernel
theorem dX11_init_68 : decode cX11_init 68 = .ok (.dup, 1) := by decide +kernel
theorem dX11_init_69 : decode cX11_init 69 = .ok (.aload_n 1, 1) := by decide +kernel
theorem dX11_init_70 : decode cX11_init 70 = .ok (.invokespecial 46, 3) := by decide +kernel
theorem dX11_init_73 : decode cX11_init 73 = .ok (.putfield 49, 3) := by decide +kernel
theorem dX11_init_76 : decode cX11_init 76 = .ok (.aload_n 0, 1) := by decide +kernel
theorem dX11_init_77 : decode cX11_init 77 = .ok (.new 37, 3) := by decide +kernel
theorem dX11_init_80 : decode cX11_init 80 = .ok (.dup, 1) := by decide +kernel
theorem dX11_init_81 : decode cX11_init 81 = .ok (.aload_n 1, 1) := by decide +kernel
theorem dX11_init_82 : decode cX11_init 82 = .ok (.invokespecial 46, 3) := by decide +kernel
theorem dX11_init_85 : decode cX11_init 85 = .ok (.putfield 53, 3) := by decide +kernel
theorem dX11_init_88 : decode cX11_init 88 = .ok (.iconst 0, 1) := by decide +kernel
theorem dX11_init_89 : decode cX11_init 89 = .ok (.istore_n 2, 1) := by decide +kernel
theorem dX11_init_90 : decode cX11_init 90 = .ok (.iload_n 2, 1) := by decide +kernel
theorem dX11_init_91 : decode cX11_init 91 = .ok (.iconst 3, 1) := by decide +kernel
theorem dX11_init_92 : decode cX11_init 92 = .ok (.if_icmp .ge 23, 3) := by decide +kernel
theorem dX11_init_95 : decode cX11_init 95 = .ok (.aload_n 0, 1) := by decide +kernel
theorem dX11_init_96 : decode cX11_init 96 = .ok (.getfield 39, 3) := by decide +kernel
theorem dX11_init_99 : decode cX11_init 99 = .ok (.iload_n 2, 1) := by decide +kernel
theorem dX11_init_100 : decode cX11_init 100 = .ok (.new 37, 3) := by decide +kernel
theorem dX11_init_103 : decode cX11_init 103 = .ok (.dup, 1) := by decide +kernel
theorem dX11_init_104 : decode cX11_init 104 = .ok (.aload_n 1, 1) := by decide +kernel
theorem dX11_init_105 : decode cX11_init 105 = .ok (.invokespecial 46, 3) := by decide +kernel
theorem dX11_init_108 : decode cX11_init 108 = .ok (.aastore, 1) := by decide +kernel
theorem dX11_init_109 : decode cX11_init 109 = .ok (.iinc 2 1, 3) := by decide +kernel
theorem dX11_init_112 : decode cX11_init 112 = .ok (.goto (-22), 3) := by decide +kernel
theorem dX11_init_115 : decode cX11_init 115 = .ok (.return_, 1) := by decide +kernel
theorem dX11_feed_0 : decode cX11_feed 0 = .ok (.aload_n 0, 1) := by decide +kernel
theorem dX11_feed_1 : decode cX11_feed 1 = .ok (.getfield 10, 3) := by decide +kernel
theorem dX11_feed_4 : decode cX11_feed 4 = .ok (.getfield 56, 3) := by decide +kernel
theorem dX11_feed_7 : decode cX11_feed 7 = .ok (.astore 6, 2) := by decide +kernel
theorem dX11_feed_9 : decode cX11_feed 9 = .ok (.aload 6, 2) := by decide +kernel
theorem dX11_feed_11 : decode cX11_feed 11 = .ok (.getfield 60, 3) := by decide +kernel
theorem dX11_feed_14 : decode cX11_feed 14 = .ok (.sipush 880, 3) := by decide +kernel
theorem dX11_feed_17 : decode cX11_feed 17 = .ok (.if_icmp .le 5, 3) := by decide +kernel
theorem dX11_feed_20 : decode cX11_feed 20 = .ok (.iconst (-1), 1) := by decide +kernel
theorem dX11_feed_21 : decode cX11_feed 21 = .ok (.ireturn, 1) := by decide +kernel
theorem dX11_feed_22 : decode cX11_feed 22 = .ok (.aload 6, 2) := by decide +kernel
theorem dX11_feed_24 : decode cX11_feed 24 = .ok (.iload_n 1, 1) := by decide +kernel
theorem dX11_feed_25 : decode cX11_feed 25 = .ok (.invokevirtual 66, 3) := by decide +kernel
theorem dX11_feed_28 : decode cX11_feed 28 = .ok (.aload 6, 2) := by decide +kernel
theorem dX11_feed_30 : decode cX11_feed 30 = .ok (.iload_n 2, 1) := by decide +kernel
theorem dX11_feed_31 : decode cX11_feed 31 = .ok (.invokevirtual 66, 3) := by decide +kernel
theorem dX11_feed_34 : decode cX11_feed 34 = .ok (.aload 6, 2) := by decide +kernel
theorem dX11_feed_36 : decode cX11_feed 36 = .ok (.iload_n 3, 1) := by decide +kernel
theorem dX11_feed_37 : decode cX11_feed 37 = .ok (.invokevirtual 66, 3) := by decide +kernel
theorem dX11_feed_40 : decode cX11_feed 40 = .ok (.aload 6, 2) := by decide +kernel
theorem dX11_feed_42 : decode cX11_feed 42 = .ok (.iload 4, 2) := by decide +kernel
theorem dX11_feed_44 : decode cX11_feed 44 = .ok (.invokevirtual 66, 3) := by decide +kernel
theorem dX11_feed_47 : decode cX11_feed 47 = .ok (.aload 6, 2) := by decide +kernel
theorem dX11_feed_49 : decode cX11_feed 49 = .ok (.iload 5, 2) := by decide +kernel
theorem dX11_feed_51 : decode cX11_feed 51 = .ok (.invokevirtual 66, 3) := by decide +kernel
theorem dX11_feed_54 : decode cX11_feed 54 = .ok (.aload 6, 2) := by decide +kernel
theorem dX11_feed_56 : decode cX11_feed 56 = .ok (.getfield 60, 3) := by decide +kernel
theorem dX11_feed_59 : decode cX11_feed 59 = .ok (.ireturn, 1) := by decide +kernel
theorem dX11_forest_0 : decode cX11_forest 0 = .ok (.iload_n 1, 1) := by decide +kernel
theorem dX11_forest_1 : decode cX11_forest 1 = .ok (.ifCond .lt 17, 3) := by decide +kernel
theorem dX11_forest_4 : decode cX11_forest 4 = .ok (.iload_n 1, 1) := by decide +kernel
theorem dX11_forest_5 : decode cX11_forest 5 = .ok (.aload_n 0, 1) := by decide +kernel
theorem dX11_forest_6 : decode cX11_forest 6 = .ok (.getfield 10, 3) := by decide +kernel
theorem dX11_forest_9 : decode cX11_forest 9 = .ok (.getfield 56, 3) := by decide +kernel
theorem dX11_forest_12 : decode cX11_forest 12 = .ok (.getfield 60, 3) := by decide +kernel
theorem dX11_forest_15 : decode cX11_forest 15 = .ok (.if_icmp .le 9, 3) := by decide +kernel
theorem dX11_forest_18 : decode cX11_forest 18 = .ok (.aload_n 0, 1) := by decide +kernel
theorem dX11_forest_19 : decode cX11_forest 19 = .ok (.iconst 2, 1) := by decide +kernel
theorem dX11_forest_20 : decode cX11_forest 20 = .ok (.invokevirtual 70, 3) := by decide +kernel
theorem dX11_forest_23 : decode cX11_forest 23 = .ok (.ireturn, 1) := by decide +kernel
theorem dX11_forest_24 : decode cX11_forest 24 = .ok (.aload_n 0, 1) := by decide +kernel
theorem dX11_forest_25 : decode cX11_forest 25 = .ok (.getfield 10, 3) := by decide +kernel
theorem dX11_forest_28 : decode cX11_forest 28 = .ok (.iload_n 1, 1) := by decide +kernel
theorem dX11_forest_29 : decode cX11_forest 29 = .ok (.invokevirtual 74, 3) := by decide +kernel
theorem dX11_forest_32 : decode cX11_forest 32 = .ok (.istore_n 2, 1) := by decide +kernel
theorem dX11_forest_33 : decode cX11_forest 33 = .ok (.aload_n 0, 1) := by decide +kernel
theorem dX11_forest_34 : decode cX11_forest 34 = .ok (.aload_n 0, 1) := by decide +kernel
theorem dX11_forest_35 : decode cX11_forest 35 = .ok (.getfield 10, 3) := by decide +kernel
theorem dX11_forest_38 : decode cX11_forest 38 = .ok (.getfield 78, 3) := by decide +kernel
theorem dX11_forest_41 : decode cX11_forest 41 = .ok (.putfield 81, 3) := by decide +kernel
theorem dX11_forest_44 : decode cX11_forest 44 = .ok (.aload_n 0, 1) := by decide +kernel
theorem dX11_forest_45 : decode cX11_forest 45 = .ok (.aload_n 0, 1) := by decide +kernel
theorem dX11_forest_46 : decode cX11_forest 46 = .ok (.getfield 10, 3) := by decide +kernel
theorem dX11_forest_49 : decode cX11_forest 49 = .ok (.getfield 84, 3) := by decide +kernel
theorem dX11_forest_52 : decode cX11_forest 52 = .ok (.putfield 87, 3) := by decide +kernel
theorem dX11_forest_55 : decode cX11_forest 55 = .ok (.aload_n 0, 1) := by decide +kernel
theorem dX11_forest_56 : decode cX11_forest 56 = .ok (.getfield 10, 3) := by decide +kernel
theorem dX11_forest_59 : decode cX11_forest 59 = .ok (.getfield 56, 3) := by decide +kernel
theorem dX11_forest_62 : decode cX11_forest 62 = .ok (.iconst 0, 1) := by decide +kernel
theorem dX11_forest_63 : decode cX11_forest 63 = .ok (.putfield 60, 3) := by decide +kernel
theorem dX11_forest_66 : decode cX11_forest 66 = .ok (.iload_n 2, 1) := by decide +kernel
theorem dX11_forest_67 : decode cX11_forest 67 = .ok (.ifCond .ne 9, 3) := by decide +kernel
theorem dX11_forest_70 : decode cX11_forest 70 = .ok (.aload_n 0, 1) := by decide +kernel
theorem dX11_forest_71 : decode cX11_forest 71 = .ok (.iconst 4, 1) := by decide +kernel
theorem dX11_forest_72 : decode cX11_forest 72 = .ok (.invokevirtual 70, 3) := by decide +kernel
theorem dX11_forest_75 : decode cX11_forest 75 = .ok (.ireturn, 1) := by decide +kernel
theorem dX11_forest_76 : decode cX11_forest 76 = .ok (.aload_n 0, 1) := by decide +kernel
theorem dX11_forest_77 : decode cX11_forest 77 = .ok (.aload_n 0, 1) := by decide +kernel
theorem dX11_forest_78 : decode cX11_forest 78 = .ok (.getfield 10, 3) := by decide +kernel
theorem dX11_forest_81 : decode cX11_forest 81 = .ok (.aload_n 0, 1) := by decide +kernel
theorem dX11_forest_82 : decode cX11_forest 82 = .ok (.getfield 49, 3) := by decide +kernel
theorem dX11_forest_85 : decode cX11_forest 85 = .ok (.invokevirtual 90, 3) := by decide +kernel
theorem dX11_forest_88 : decode cX11_forest 88 = .ok (.putfield 49, 3) := by decide +kernel
theorem dX11_forest_91 : decode cX11_forest 91 = .ok (.aload_n 0, 1) := by decide +kernel
theorem dX11_forest_92 : decode cX11_forest 92 = .ok (.getfield 53, 3) := by decide +kernel
theorem dX11_forest_95 : decode cX11_forest 95 = .ok (.aload_n 0, 1) := by decide +kernel
theorem dX11_forest_96 : decode cX11_forest 96 = .ok (.getfield 49, 3) := by decide +kernel
theorem dX11_forest_99 : decode cX11_forest 99 = .ok (.invokevirtual 94, 3) := by decide +kernel
theorem dX11_forest_102 : decode cX11_forest 102 = .ok (.aload_n 0, 1) := by decide +kernel
theorem dX11_forest_103 : decode cX11_forest 103 = .ok (.getfield 33, 3) := by decide +kernel
theorem dX11_forest_106 : decode cX11_forest 106 = .ok (.invokevirtual 98, 3) := by decide +kernel
theorem dX11_forest_109 : decode cX11_forest 109 = .ok (.aload_n 0, 1) := by decide +kernel
theorem dX11_forest_110 : decode cX11_forest 110 = .ok (.iconst 0, 1) := by decide +kernel
theorem dX11_forest_111 : decode cX11_forest 111 = .ok (.putfield 101, 3) := by decide +kernel
theorem dX11_forest_114 : decode cX11_forest 114 = .ok (.aload_n 0, 1) := by decide +kernel
theorem dX11_forest_115 : decode cX11_forest 115 = .ok (.aload_n 0, 1) := by decide +kernel
theorem dX11_forest_116 : decode cX11_forest 116 = .ok (.invokevirtual 104, 3) := by decide +kernel
theorem dX11_forest_119 : decode cX11_forest 119 = .ok (.invokevirtual 108, 3) := by decide +kernel
theorem dX11_forest_122 : decode cX11_forest 122 = .ok (.ireturn, 1) := by decide +kernel
theorem dX11_fault_0 : decode cX11_fault 0 = .ok (.aload_n 0, 1) := by decide +kernel
theorem dX11_fault_1 : decode cX11_fault 1 = .ok (.getfield 81, 3) := by decide +kernel
theorem dX11_fault_4 : decode cX11_fault 4 = .ok (.ireturn, 1) := by decide +kernel
theorem dX11_where_0 : decode cX11_where 0 = .ok (.aload_n 0, 1) := by decide +kernel
theorem dX11_where_1 : decode cX11_where 1 = .ok (.getfield 111, 3) := by decide +kernel
theorem dX11_where_4 : decode cX11_where 4 = .ok (.iconst 4, 1) := by decide +kernel
theorem dX11_where_5 : decode cX11_where 5 = .ok (.if_icmp .ne 10, 3) := by decide +kernel
theorem dX11_where_8 : decode cX11_where 8 = .ok (.aload_n 0, 1) := by decide +kernel
theorem dX11_where_9 : decode cX11_where 9 = .ok (.getfield 87, 3) := by decide +kernel
theorem dX11_where_12 : decode cX11_where 12 = .ok (.goto 4, 3) := by decide +kernel
theorem dX11_where_15 : decode cX11_where 15 = .ok (.iconst (-1), 1) := by decide +kernel
theorem dX11_where_16 : decode cX11_where 16 = .ok (.ireturn, 1) := by decide +kernel
theorem dX11_place_0 : decode cX11_place 0 = .ok (.aload_n 0, 1) := by decide +kernel
theorem dX11_place_1 : decode cX11_place 1 = .ok (.iload_n 1, 1) := by decide +kernel
theorem dX11_place_2 : decode cX11_place 2 = .ok (.invokevirtual 114, 3) := by decide +kernel
theorem dX11_place_5 : decode cX11_place 5 = .ok (.ifCond .eq 12, 3) := by decide +kernel
theorem dX11_place_8 : decode cX11_place 8 = .ok (.iload_n 2, 1) := by decide +kernel
theorem dX11_place_9 : decode cX11_place 9 = .ok (.ifCond .lt 8, 3) := by decide +kernel
theorem dX11_place_12 : decode cX11_place 12 = .ok (.iload_n 2, 1) := by decide +kernel
theorem dX11_place_13 : decode cX11_place 13 = .ok (.iconst 5, 1) := by decide +kernel
theorem dX11_place_14 : decode cX11_place 14 = .ok (.if_icmp .le 9, 3) := by decide +kernel
theorem dX11_place_17 : decode cX11_place 17 = .ok (.aload_n 0, 1) := by decide +kernel
theorem dX11_place_18 : decode cX11_place 18 = .ok (.iconst 1, 1) := by decide +kernel
theorem dX11_place_19 : decode cX11_place 19 = .ok (.invokevirtual 70, 3) := by decide +kernel
theorem dX11_place_22 : decode cX11_place 22 = .ok (.ireturn, 1) := by decide +kernel
theorem dX11_place_23 : decode cX11_place 23 = .ok (.iload_n 2, 1) := by decide +kernel
theorem dX11_place_24 : decode cX11_place 24 = .ok (.tableswitch 117 0 4 #[36, 57, 74, 91, 104], 36) := by decide +kernel
theorem dX11_place_60 : decode cX11_place 60 = .ok (.aload_n 0, 1) := by decide +kernel
theorem dX11_place_61 : decode cX11_place 61 = .ok (.aload_n 0, 1) := by decide +kernel
theorem dX11_place_62 : decode cX11_place 62 = .ok (.getfield 53, 3) := by decide +kernel
theorem dX11_place_65 : decode cX11_place 65 = .ok (.iload_n 1, 1) := by decide +kernel
theorem dX11_place_66 : decode cX11_place 66 = .ok (.invokevirtual 117, 3) := by decide +kernel
theorem dX11_place_69 : decode cX11_place 69 = .ok (.ifCond .eq 7, 3) := by decide +kernel
theorem dX11_place_72 : decode cX11_place 72 = .ok (.iconst 1, 1) := by decide +kernel
theorem dX11_place_73 : decode cX11_place 73 = .ok (.goto 4, 3) := by decide +kernel
theorem dX11_place_76 : decode cX11_place 76 = .ok (.iconst 0, 1) := by decide +kernel
theorem dX11_place_77 : decode cX11_place 77 = .ok (.invokevirtual 108, 3) := by decide +kernel
theorem dX11_place_80 : decode cX11_place 80 = .ok (.ireturn, 1) := by decide +kernel
theorem dX11_place_81 : decode cX11_place 81 = .ok (.aload_n 0, 1) := by decide +kernel
theorem dX11_place_82 : decode cX11_place 82 = .ok (.aload_n 0, 1) := by decide +kernel
theorem dX11_place_83 : decode cX11_place 83 = .ok (.getfield 53, 3) := by decide +kernel
theorem dX11_place_86 : decode cX11_place 86 = .ok (.getfield 120, 3) := by decide +kernel
theorem dX11_place_89 : decode cX11_place 89 = .ok (.getfield 124, 3) := by decide +kernel
theorem dX11_place_92 : decode cX11_place 92 = .ok (.iload_n 1, 1) := by decide +kernel
theorem dX11_place_93 : decode cX11_place 93 = .ok (.iaload, 1) := by decide +kernel
theorem dX11_place_94 : decode cX11_place 94 = .ok (.invokevirtual 108, 3) := by decide +kernel
theorem dX11_place_97 : decode cX11_place 97 = .ok (.ireturn, 1) := by decide +kernel
theorem dX11_place_98 : decode cX11_place 98 = .ok (.aload_n 0, 1) := by decide +kernel
theorem dX11_place_99 : decode cX11_place 99 = .ok (.aload_n 0, 1) := by decide +kernel
theorem dX11_place_100 : decode cX11_place 100 = .ok (.getfield 53, 3) := by decide +kernel
theorem dX11_place_103 : decode cX11_place 103 = .ok (.getfield 120, 3) := by decide +kernel
theorem dX11_place_106 : decode cX11_place 106 = .ok (.getfield 128, 3) := by decide +kernel
theorem dX11_place_109 : decode cX11_place 109 = .ok (.iload_n 1, 1) := by decide +kernel
theorem dX11_place_110 : decode cX11_place 110 = .ok (.iaload, 1) := by decide +kernel
theorem dX11_place_111 : decode cX11_place 111 = .ok (.invokevirtual 108, 3) := by decide +kernel
theorem dX11_place_114 : decode cX11_place 114 = .ok (.ireturn, 1) := by decide +kernel
theorem dX11_place_115 : decode cX11_place 115 = .ok (.aload_n 0, 1) := by decide +kernel
theorem dX11_place_116 : decode cX11_place 116 = .ok (.aload_n 0, 1) := by decide +kernel
theorem dX11_place_117 : decode cX11_place 117 = .ok (.getfield 53, 3) := by decide +kernel
theorem dX11_place_120 : decode cX11_place 120 = .ok (.iload_n 1, 1) := by decide +kernel
theorem dX11_place_121 : decode cX11_place 121 = .ok (.invokevirtual 131, 3) := by decide +kernel
theorem dX11_place_124 : decode cX11_place 124 = .ok (.invokevirtual 108, 3) := by decide +kernel
theorem dX11_place_127 : decode cX11_place 127 = .ok (.ireturn, 1) := by decide +kernel
theorem dX11_place_128 : decode cX11_place 128 = .ok (.aload_n 0, 1) := by decide +kernel
theorem dX11_place_129 : decode cX11_place 129 = .ok (.aload_n 0, 1) := by decide +kernel
theorem dX11_place_130 : decode cX11_place 130 = .ok (.getfield 53, 3) := by decide +kernel
theorem dX11_place_133 : decode cX11_place 133 = .ok (.iload_n 1, 1) := by decide +kernel
theorem dX11_place_134 : decode cX11_place 134 = .ok (.invokevirtual 134, 3) := by decide +kernel
theorem dX11_place_137 : decode cX11_place 137 = .ok (.invokevirtual 108, 3) := by decide +kernel
theorem dX11_place_140 : decode cX11_place 140 = .ok (.ireturn, 1) := by decide +kernel
theorem dX11_place_141 : decode cX11_place 141 = .ok (.aload_n 0, 1) := by decide +kernel
theorem dX11_place_142 : decode cX11_place 142 = .ok (.aload_n 0, 1) := by decide +kernel
theorem dX11_place_143 : decode cX11_place 143 = .ok (.getfield 53, 3) := by decide +kernel
theorem dX11_place_146 : decode cX11_place 146 = .ok (.iload_n 1, 1) := by decide +kernel
theorem dX11_place_147 : decode cX11_place 147 = .ok (.invokevirtual 137, 3) := by decide +kernel
theorem dX11_place_150 : decode cX11_place 150 = .ok (.ifCond .eq 7, 3) := by decide +kernel
theorem dX11_place_153 : decode cX11_place 153 = .ok (.iconst 1, 1) := by decide +kernel
theorem dX11_place_154 : decode cX11_place 154 = .ok (.goto 4, 3) := by decide +kernel
theorem dX11_place_157 : decode cX11_place 157 = .ok (.iconst 0, 1) := by decide +kernel
theorem dX11_place_158 : decode cX11_place 158 = .ok (.invokevirtual 108, 3) := by decide +kernel
theorem dX11_place_161 : decode cX11_place 161 = .ok (.ireturn, 1) := by decide +kernel
theorem dX11_man_0 : decode cX11_man 0 = .ok (.aload_n 0, 1) := by decide +kernel
theorem dX11_man_1 : decode cX11_man 1 = .ok (.iload_n 1, 1) := by decide +kernel
theorem dX11_man_2 : decode cX11_man 2 = .ok (.invokevirtual 140, 3) := by decide +kernel
theorem dX11_man_5 : decode cX11_man 5 = .ok (.ifCond .eq 12, 3) := by decide +kernel
theorem dX11_man_8 : decode cX11_man 8 = .ok (.iload_n 2, 1) := by decide +kernel
theorem dX11_man_9 : decode cX11_man 9 = .ok (.ifCond .lt 8, 3) := by decide +kernel
theorem dX11_man_12 : decode cX11_man 12 = .ok (.iload_n 2, 1) := by decide +kernel
theorem dX11_man_13 : decode cX11_man 13 = .ok (.iconst 4, 1) := by decide +kernel
theorem dX11_man_14 : decode cX11_man 14 = .ok (.if_icmp .le 9, 3) := by decide +kernel
theorem dX11_man_17 : decode cX11_man 17 = .ok (.aload_n 0, 1) := by decide +kernel
theorem dX11_man_18 : decode cX11_man 18 = .ok (.iconst 1, 1) := by decide +kernel
theorem dX11_man_19 : decode cX11_man 19 = .ok (.invokevirtual 70, 3) := by decide +kernel
theorem dX11_man_22 : decode cX11_man 22 = .ok (.ireturn, 1) := by decide +kernel
theorem dX11_man_23 : decode cX11_man 23 = .ok (.iload_n 2, 1) := by decide +kernel
theorem dX11_man_24 : decode cX11_man 24 = .ok (.tableswitch 98 0 3 #[32, 49, 62, 75], 32) := by decide +kernel
theorem dX11_man_56 : decode cX11_man 56 = .ok (.aload_n 0, 1) := by decide +kernel
theorem dX11_man_57 : decode cX11_man 57 = .ok (.aload_n 0, 1) := by decide +kernel
theorem dX11_man_58 : decode cX11_man 58 = .ok (.getfield 53, 3) := by decide +kernel
theorem dX11_man_61 : decode cX11_man 61 = .ok (.getfield 120, 3) := by decide +kernel
theorem dX11_man_64 : decode cX11_man 64 = .ok (.getfield 143, 3) := by decide +kernel
theorem dX11_man_67 : decode cX11_man 67 = .ok (.iload_n 1, 1) := by decide +kernel
theorem dX11_man_68 : decode cX11_man 68 = .ok (.iaload, 1) := by decide +kernel
theorem dX11_man_69 : decode cX11_man 69 = .ok (.invokevirtual 108, 3) := by decide +kernel
theorem dX11_man_72 : decode cX11_man 72 = .ok (.ireturn, 1) := by decide +kernel
theorem dX11_man_73 : decode cX11_man 73 = .ok (.aload_n 0, 1) := by decide +kernel
theorem dX11_man_74 : decode cX11_man 74 = .ok (.aload_n 0, 1) := by decide +kernel
theorem dX11_man_75 : decode cX11_man 75 = .ok (.getfield 53, 3) := by decide +kernel
theorem dX11_man_78 : decode cX11_man 78 = .ok (.iload_n 1, 1) := by decide +kernel
theorem dX11_man_79 : decode cX11_man 79 = .ok (.invokevirtual 146, 3) := by decide +kernel
theorem dX11_man_82 : decode cX11_man 82 = .ok (.invokevirtual 108, 3) := by decide +kernel
theorem dX11_man_85 : decode cX11_man 85 = .ok (.ireturn, 1) := by decide +kernel
theorem dX11_man_86 : decode cX11_man 86 = .ok (.aload_n 0, 1) := by decide +kernel
theorem dX11_man_87 : decode cX11_man 87 = .ok (.aload_n 0, 1) := by decide +kernel
theorem dX11_man_88 : decode cX11_man 88 = .ok (.getfield 53, 3) := by decide +kernel
theorem dX11_man_91 : decode cX11_man 91 = .ok (.iload_n 1, 1) := by decide +kernel
theorem dX11_man_92 : decode cX11_man 92 = .ok (.invokevirtual 149, 3) := by decide +kernel
theorem dX11_man_95 : decode cX11_man 95 = .ok (.invokevirtual 108, 3) := by decide +kernel
theorem dX11_man_98 : decode cX11_man 98 = .ok (.ireturn, 1) := by decide +kernel
theorem dX11_man_99 : decode cX11_man 99 = .ok (.aload_n 0, 1) := by decide +kernel
theorem dX11_man_100 : decode cX11_man 100 = .ok (.aload_n 0, 1) := by decide +kernel
theorem dX11_man_101 : decode cX11_man 101 = .ok (.getfield 53, 3) := by decide +kernel
theorem dX11_man_104 : decode cX11_man 104 = .ok (.getfield 120, 3) := by decide +kernel
theorem dX11_man_107 : decode cX11_man 107 = .ok (.aload_n 0, 1) := by decide +kernel
theorem dX11_man_108 : decode cX11_man 108 = .ok (.getfield 53, 3) := by decide +kernel
theorem dX11_man_111 : decode cX11_man 111 = .ok (.iload_n 1, 1) := by decide +kernel
theorem dX11_man_112 : decode cX11_man 112 = .ok (.invokevirtual 149, 3) := by decide +kernel
theorem dX11_man_115 : decode cX11_man 115 = .ok (.invokevirtual 152, 3) := by decide +kernel
theorem dX11_man_118 : decode cX11_man 118 = .ok (.invokevirtual 108, 3) := by decide +kernel
theorem dX11_man_121 : decode cX11_man 121 = .ok (.ireturn, 1) := by decide +kernel
theorem dX11_man_122 : decode cX11_man 122 = .ok (.aload_n 0, 1) := by decide +kernel
theorem dX11_man_123 : decode cX11_man 123 = .ok (.aload_n 0, 1) := by decide +kernel
theorem dX11_man_124 : decode cX11_man 124 = .ok (.getfield 53, 3) := by decide +kernel
theorem dX11_man_127 : decode cX11_man 127 = .ok (.getfield 120, 3) := by decide +kernel
theorem dX11_man_130 : decode cX11_man 130 = .ok (.iload_n 1, 1) := by decide +kernel
theorem dX11_man_131 : decode cX11_man 131 = .ok (.invokevirtual 155, 3) := by decide +kernel
theorem dX11_man_134 : decode cX11_man 134 = .ok (.invokevirtual 108, 3) := by decide +kernel
theorem dX11_man_137 : decode cX11_man 137 = .ok (.ireturn, 1) := by decide +kernel
theorem dX11_kill_0 : decode cX11_kill 0 = .ok (.aload_n 0, 1) := by decide +kernel
theorem dX11_kill_1 : decode cX11_kill 1 = .ok (.iload_n 1, 1) := by decide +kernel
theorem dX11_kill_2 : decode cX11_kill 2 = .ok (.invokevirtual 158, 3) := by decide +kernel
theorem dX11_kill_5 : decode cX11_kill 5 = .ok (.ifCond .eq 12, 3) := by decide +kernel
theorem dX11_kill_8 : decode cX11_kill 8 = .ok (.iload_n 2, 1) := by decide +kernel
theorem dX11_kill_9 : decode cX11_kill 9 = .ok (.ifCond .lt 8, 3) := by decide +kernel
theorem dX11_kill_12 : decode cX11_kill 12 = .ok (.iload_n 2, 1) := by decide +kernel
theorem dX11_kill_13 : decode cX11_kill 13 = .ok (.iconst 5, 1) := by decide +kernel
theorem dX11_kill_14 : decode cX11_kill 14 = .ok (.if_icmp .le 9, 3) := by decide +kernel
theorem dX11_kill_17 : decode cX11_kill 17 = .ok (.aload_n 0, 1) := by decide +kernel
theorem dX11_kill_18 : decode cX11_kill 18 = .ok (.iconst 1, 1) := by decide +kernel
theorem dX11_kill_19 : decode cX11_kill 19 = .ok (.invokevirtual 70, 3) := by decide +kernel
theorem dX11_kill_22 : decode cX11_kill 22 = .ok (.ireturn, 1) := by decide +kernel
theorem dX11_kill_23 : decode cX11_kill 23 = .ok (.iload_n 2, 1) := by decide +kernel
theorem dX11_kill_24 : decode cX11_kill 24 = .ok (.tableswitch 114 0 4 #[36, 53, 67, 84, 101], 36) := by decide +kernel
theorem dX11_kill_60 : decode cX11_kill 60 = .ok (.aload_n 0, 1) := by decide +kernel
theorem dX11_kill_61 : decode cX11_kill 61 = .ok (.aload_n 0, 1) := by decide +kernel
theorem dX11_kill_62 : decode cX11_kill 62 = .ok (.getfield 53, 3) := by decide +kernel
theorem dX11_kill_65 : decode cX11_kill 65 = .ok (.getfield 120, 3) := by decide +kernel
theorem dX11_kill_68 : decode cX11_kill 68 = .ok (.getfield 161, 3) := by decide +kernel
theorem dX11_kill_71 : decode cX11_kill 71 = .ok (.iload_n 1, 1) := by decide +kernel
theorem dX11_kill_72 : decode cX11_kill 72 = .ok (.iaload, 1) := by decide +kernel
theorem dX11_kill_73 : decode cX11_kill 73 = .ok (.invokevirtual 108, 3) := by decide +kernel
theorem dX11_kill_76 : decode cX11_kill 76 = .ok (.ireturn, 1) := by decide +kernel
theorem dX11_kill_77 : decode cX11_kill 77 = .ok (.aload_n 0, 1) := by decide +kernel
theorem dX11_kill_78 : decode cX11_kill 78 = .ok (.aload_n 0, 1) := by decide +kernel
theorem dX11_kill_79 : decode cX11_kill 79 = .ok (.getfield 53, 3) := by decide +kernel
theorem dX11_kill_82 : decode cX11_kill 82 = .ok (.getfield 164, 3) := by decide +kernel
theorem dX11_kill_85 : decode cX11_kill 85 = .ok (.iload_n 1, 1) := by decide +kernel
theorem dX11_kill_86 : decode cX11_kill 86 = .ok (.iaload, 1) := by decide +kernel
theorem dX11_kill_87 : decode cX11_kill 87 = .ok (.invokevirtual 108, 3) := by decide +kernel
theorem dX11_kill_90 : decode cX11_kill 90 = .ok (.ireturn, 1) := by decide +kernel
theorem dX11_kill_91 : decode cX11_kill 91 = .ok (.aload_n 0, 1) := by decide +kernel
theorem dX11_kill_92 : decode cX11_kill 92 = .ok (.aload_n 0, 1) := by decide +kernel
theorem dX11_kill_93 : decode cX11_kill 93 = .ok (.getfield 53, 3) := by decide +kernel
theorem dX11_kill_96 : decode cX11_kill 96 = .ok (.getfield 120, 3) := by decide +kernel
theorem dX11_kill_99 : decode cX11_kill 99 = .ok (.getfield 167, 3) := by decide +kernel
theorem dX11_kill_102 : decode cX11_kill 102 = .ok (.iload_n 1, 1) := by decide +kernel
theorem dX11_kill_103 : decode cX11_kill 103 = .ok (.iaload, 1) := by decide +kernel
theorem dX11_kill_104 : decode cX11_kill 104 = .ok (.invokevirtual 108, 3) := by decide +kernel
theorem dX11_kill_107 : decode cX11_kill 107 = .ok (.ireturn, 1) := by decide +kernel
theorem dX11_kill_108 : decode cX11_kill 108 = .ok (.aload_n 0, 1) := by decide +kernel
theorem dX11_kill_109 : decode cX11_kill 109 = .ok (.aload_n 0, 1) := by decide +kernel
theorem dX11_kill_110 : decode cX11_kill 110 = .ok (.getfield 53, 3) := by decide +kernel
theorem dX11_kill_113 : decode cX11_kill 113 = .ok (.getfield 120, 3) := by decide +kernel
theorem dX11_kill_116 : decode cX11_kill 116 = .ok (.getfield 170, 3) := by decide +kernel
theorem dX11_kill_119 : decode cX11_kill 119 = .ok (.iload_n 1, 1) := by decide +kernel
theorem dX11_kill_120 : decode cX11_kill 120 = .ok (.iaload, 1) := by decide +kernel
theorem dX11_kill_121 : decode cX11_kill 121 = .ok (.invokevirtual 108, 3) := by decide +kernel
theorem dX11_kill_124 : decode cX11_kill 124 = .ok (.ireturn, 1) := by decide +kernel
theorem dX11_kill_125 : decode cX11_kill 125 = .ok (.aload_n 0, 1) := by decide +kernel
theorem dX11_kill_126 : decode cX11_kill 126 = .ok (.aload_n 0, 1) := by decide +kernel
theorem dX11_kill_127 : decode cX11_kill 127 = .ok (.getfield 53, 3) := by decide +kernel
theorem dX11_kill_130 : decode cX11_kill 130 = .ok (.iload_n 1, 1) := by decide +kernel
theorem dX11_kill_131 : decode cX11_kill 131 = .ok (.invokevirtual 173, 3) := by decide +kernel
theorem dX11_kill_134 : decode cX11_kill 134 = .ok (.invokevirtual 108, 3) := by decide +kernel
theorem dX11_kill_137 : decode cX11_kill 137 = .ok (.ireturn, 1) := by decide +kernel
theorem dX11_kill_138 : decode cX11_kill 138 = .ok (.aload_n 0, 1) := by decide +kernel
theorem dX11_kill_139 : decode cX11_kill 139 = .ok (.aload_n 0, 1) := by decide +kernel
theorem dX11_kill_140 : decode cX11_kill 140 = .ok (.getfield 53, 3) := by decide +kernel
theorem dX11_kill_143 : decode cX11_kill 143 = .ok (.getfield 120, 3) := by decide +kernel
theorem dX11_kill_146 : decode cX11_kill 146 = .ok (.aload_n 0, 1) := by decide +kernel
theorem dX11_kill_147 : decode cX11_kill 147 = .ok (.getfield 53, 3) := by decide +kernel
theorem dX11_kill_150 : decode cX11_kill 150 = .ok (.getfield 164, 3) := by decide +kernel
theorem dX11_kill_153 : decode cX11_kill 153 = .ok (.iload_n 1, 1) := by decide +kernel
theorem dX11_kill_154 : decode cX11_kill 154 = .ok (.iaload, 1) := by decide +kernel
theorem dX11_kill_155 : decode cX11_kill 155 = .ok (.aload_n 0, 1) := by decide +kernel
theorem dX11_kill_156 : decode cX11_kill 156 = .ok (.getfield 53, 3) := by decide +kernel
theorem dX11_kill_159 : decode cX11_kill 159 = .ok (.getfield 120, 3) := by decide +kernel
theorem dX11_kill_162 : decode cX11_kill 162 = .ok (.getfield 167, 3) := by decide +kernel
theorem dX11_kill_165 : decode cX11_kill 165 = .ok (.iload_n 1, 1) := by decide +kernel
theorem dX11_kill_166 : decode cX11_kill 166 = .ok (.iaload, 1) := by decide +kernel
theorem dX11_kill_167 : decode cX11_kill 167 = .ok (.invokevirtual 176, 3) := by decide +kernel
theorem dX11_kill_170 : decode cX11_kill 170 = .ok (.invokevirtual 108, 3) := by decide +kernel
theorem dX11_kill_173 : decode cX11_kill 173 = .ok (.ireturn, 1) := by decide +kernel
theorem dX11_trail_0 : decode cX11_trail 0 = .ok (.aload_n 0, 1) := by decide +kernel
theorem dX11_trail_1 : decode cX11_trail 1 = .ok (.iload_n 1, 1) := by decide +kernel
theorem dX11_trail_2 : decode cX11_trail 2 = .ok (.invokevirtual 140, 3) := by decide +kernel
theorem dX11_trail_5 : decode cX11_trail 5 = .ok (.ifCond .ne 9, 3) := by decide +kernel
theorem dX11_trail_8 : decode cX11_trail 8 = .ok (.aload_n 0, 1) := by decide +kernel
theorem dX11_trail_9 : decode cX11_trail 9 = .ok (.iconst 1, 1) := by decide +kernel
theorem dX11_trail_10 : decode cX11_trail 10 = .ok (.invokevirtual 70, 3) := by decide +kernel
theorem dX11_trail_13 : decode cX11_trail 13 = .ok (.ireturn, 1) := by decide +kernel
theorem dX11_trail_14 : decode cX11_trail 14 = .ok (.iload_n 2, 1) := by decide +kernel
theorem dX11_trail_15 : decode cX11_trail 15 = .ok (.ifCond .lt 9, 3) := by decide +kernel
theorem dX11_trail_18 : decode cX11_trail 18 = .ok (.iload_n 2, 1) := by decide +kernel
theorem dX11_trail_19 : decode cX11_trail 19 = .ok (.bipush 8, 2) := by decide +kernel
theorem dX11_trail_21 : decode cX11_trail 21 = .ok (.if_icmp .lt 9, 3) := by decide +kernel
theorem dX11_trail_24 : decode cX11_trail 24 = .ok (.aload_n 0, 1) := by decide +kernel
theorem dX11_trail_25 : decode cX11_trail 25 = .ok (.iconst 2, 1) := by decide +kernel
theorem dX11_trail_26 : decode cX11_trail 26 = .ok (.invokevirtual 70, 3) := by decide +kernel
theorem dX11_trail_29 : decode cX11_trail 29 = .ok (.ireturn, 1) := by decide +kernel
theorem dX11_trail_30 : decode cX11_trail 30 = .ok (.aload_n 0, 1) := by decide +kernel
theorem dX11_trail_31 : decode cX11_trail 31 = .ok (.aload_n 0, 1) := by decide +kernel
theorem dX11_trail_32 : decode cX11_trail 32 = .ok (.getfield 53, 3) := by decide +kernel
theorem dX11_trail_35 : decode cX11_trail 35 = .ok (.iload_n 1, 1) := by decide +kernel
theorem dX11_trail_36 : decode cX11_trail 36 = .ok (.iload_n 2, 1) := by decide +kernel
theorem dX11_trail_37 : decode cX11_trail 37 = .ok (.invokevirtual 180, 3) := by decide +kernel
theorem dX11_trail_40 : decode cX11_trail 40 = .ok (.invokevirtual 108, 3) := by decide +kernel
theorem dX11_trail_43 : decode cX11_trail 43 = .ok (.ireturn, 1) := by decide +kernel
theorem dX11_crowded_0 : decode cX11_crowded 0 = .ok (.aload_n 0, 1) := by decide +kernel
theorem dX11_crowded_1 : decode cX11_crowded 1 = .ok (.invokevirtual 183, 3) := by decide +kernel
theorem dX11_crowded_4 : decode cX11_crowded 4 = .ok (.ifCond .ne 9, 3) := by decide +kernel
theorem dX11_crowded_7 : decode cX11_crowded 7 = .ok (.aload_n 0, 1) := by decide +kernel
theorem dX11_crowded_8 : decode cX11_crowded 8 = .ok (.iconst 1, 1) := by decide +kernel
theorem dX11_crowded_9 : decode cX11_crowded 9 = .ok (.invokevirtual 70, 3) := by decide +kernel
theorem dX11_crowded_12 : decode cX11_crowded 12 = .ok (.ireturn, 1) := by decide +kernel
theorem dX11_crowded_13 : decode cX11_crowded 13 = .ok (.aload_n 0, 1) := by decide +kernel
theorem dX11_crowded_14 : decode cX11_crowded 14 = .ok (.aload_n 0, 1) := by decide +kernel
theorem dX11_crowded_15 : decode cX11_crowded 15 = .ok (.getfield 53, 3) := by decide +kernel
theorem dX11_crowded_18 : decode cX11_crowded 18 = .ok (.invokevirtual 187, 3) := by decide +kernel
theorem dX11_crowded_21 : decode cX11_crowded 21 = .ok (.invokevirtual 108, 3) := by decide +kernel
theorem dX11_crowded_24 : decode cX11_crowded 24 = .ok (.ireturn, 1) := by decide +kernel
theorem dX11_leader_0 : decode cX11_leader 0 = .ok (.aload_n 0, 1) := by decide +kernel
theorem dX11_leader_1 : decode cX11_leader 1 = .ok (.invokevirtual 183, 3) := by decide +kernel
theorem dX11_leader_4 : decode cX11_leader 4 = .ok (.ifCond .ne 9, 3) := by decide +kernel
theorem dX11_leader_7 : decode cX11_leader 7 = .ok (.aload_n 0, 1) := by decide +kernel
theorem dX11_leader_8 : decode cX11_leader 8 = .ok (.iconst 1, 1) := by decide +kernel
theorem dX11_leader_9 : decode cX11_leader 9 = .ok (.invokevirtual 70, 3) := by decide +kernel
theorem dX11_leader_12 : decode cX11_leader 12 = .ok (.ireturn, 1) := by decide +kernel
theorem dX11_leader_13 : decode cX11_leader 13 = .ok (.aload_n 0, 1) := by decide +kernel
theorem dX11_leader_14 : decode cX11_leader 14 = .ok (.aload_n 0, 1) := by decide +kernel
theorem dX11_leader_15 : decode cX11_leader 15 = .ok (.getfield 53, 3) := by decide +kernel
theorem dX11_leader_18 : decode cX11_leader 18 = .ok (.invokevirtual 190, 3) := by decide +kernel
theorem dX11_leader_21 : decode cX11_leader 21 = .ok (.invokevirtual 108, 3) := by decide +kernel
theorem dX11_leader_24 : decode cX11_leader 24 = .ok (.ireturn, 1) := by decide +kernel
theorem dX11_near_0 : decode cX11_near 0 = .ok (.aload_n 0, 1) := by decide +kernel
theorem dX11_near_1 : decode cX11_near 1 = .ok (.iload_n 1, 1) := by decide +kernel
theorem dX11_near_2 : decode cX11_near 2 = .ok (.invokevirtual 140, 3) := by decide +kernel
theorem dX11_near_5 : decode cX11_near 5 = .ok (.ifCond .ne 9, 3) := by decide +kernel
theorem dX11_near_8 : decode cX11_near 8 = .ok (.aload_n 0, 1) := by decide +kernel
theorem dX11_near_9 : decode cX11_near 9 = .ok (.iconst 1, 1) := by decide +kernel
theorem dX11_near_10 : decode cX11_near 10 = .ok (.invokevirtual 70, 3) := by decide +kernel
theorem dX11_near_13 : decode cX11_near 13 = .ok (.ireturn, 1) := by decide +kernel
theorem dX11_near_14 : decode cX11_near 14 = .ok (.aload_n 0, 1) := by decide +kernel
theorem dX11_near_15 : decode cX11_near 15 = .ok (.aload_n 0, 1) := by decide +kernel
theorem dX11_near_16 : decode cX11_near 16 = .ok (.getfield 53, 3) := by decide +kernel
theorem dX11_near_19 : decode cX11_near 19 = .ok (.iload_n 1, 1) := by decide +kernel
theorem dX11_near_20 : decode cX11_near 20 = .ok (.invokevirtual 193, 3) := by decide +kernel
theorem dX11_near_23 : decode cX11_near 23 = .ok (.invokevirtual 108, 3) := by decide +kernel
theorem dX11_near_26 : decode cX11_near 26 = .ok (.ireturn, 1) := by decide +kernel
theorem dX11_room_0 : decode cX11_room 0 = .ok (.aload_n 0, 1) := by decide +kernel
theorem dX11_room_1 : decode cX11_room 1 = .ok (.invokevirtual 183, 3) := by decide +kernel
theorem dX11_room_4 : decode cX11_room 4 = .ok (.ifCond .ne 9, 3) := by decide +kernel
theorem dX11_room_7 : decode cX11_room 7 = .ok (.aload_n 0, 1) := by decide +kernel
theorem dX11_room_8 : decode cX11_room 8 = .ok (.iconst 1, 1) := by decide +kernel
theorem dX11_room_9 : decode cX11_room 9 = .ok (.invokevirtual 70, 3) := by decide +kernel
theorem dX11_room_12 : decode cX11_room 12 = .ok (.ireturn, 1) := by decide +kernel
theorem dX11_room_13 : decode cX11_room 13 = .ok (.aload_n 0, 1) := by decide +kernel
theorem dX11_room_14 : decode cX11_room 14 = .ok (.aload_n 0, 1) := by decide +kernel
theorem dX11_room_15 : decode cX11_room 15 = .ok (.getfield 53, 3) := by decide +kernel
theorem dX11_room_18 : decode cX11_room 18 = .ok (.invokevirtual 196, 3) := by decide +kernel
theorem dX11_room_21 : decode cX11_room 21 = .ok (.invokevirtual 108, 3) := by decide +kernel
theorem dX11_room_24 : decode cX11_room 24 = .ok (.ireturn, 1) := by decide +kernel
theorem dX11_apart_0 : decode cX11_apart 0 = .ok (.aload_n 0, 1) := by decide +kernel
theorem dX11_apart_1 : decode cX11_apart 1 = .ok (.iload_n 1, 1) := by decide +kernel
theorem dX11_apart_2 : decode cX11_apart 2 = .ok (.invokevirtual 114, 3) := by decide +kernel
theorem dX11_apart_5 : decode cX11_apart 5 = .ok (.ifCond .eq 11, 3) := by decide +kernel
theorem dX11_apart_8 : decode cX11_apart 8 = .ok (.aload_n 0, 1) := by decide +kernel
theorem dX11_apart_9 : decode cX11_apart 9 = .ok (.iload_n 2, 1) := by decide +kernel
theorem dX11_apart_10 : decode cX11_apart 10 = .ok (.invokevirtual 114, 3) := by decide +kernel
theorem dX11_apart_13 : decode cX11_apart 13 = .ok (.ifCond .ne 9, 3) := by decide +kernel
theorem dX11_apart_16 : decode cX11_apart 16 = .ok (.aload_n 0, 1) := by decide +kernel
theorem dX11_apart_17 : decode cX11_apart 17 = .ok (.iconst 1, 1) := by decide +kernel
theorem dX11_apart_18 : decode cX11_apart 18 = .ok (.invokevirtual 70, 3) := by decide +kernel
theorem dX11_apart_21 : decode cX11_apart 21 = .ok (.ireturn, 1) := by decide +kernel
theorem dX11_apart_22 : decode cX11_apart 22 = .ok (.aload_n 0, 1) := by decide +kernel
theorem dX11_apart_23 : decode cX11_apart 23 = .ok (.aload_n 0, 1) := by decide +kernel
theorem dX11_apart_24 : decode cX11_apart 24 = .ok (.getfield 53, 3) := by decide +kernel
theorem dX11_apart_27 : decode cX11_apart 27 = .ok (.getfield 120, 3) := by decide +kernel
theorem dX11_apart_30 : decode cX11_apart 30 = .ok (.iload_n 1, 1) := by decide +kernel
theorem dX11_apart_31 : decode cX11_apart 31 = .ok (.iload_n 2, 1) := by decide +kernel
theorem dX11_apart_32 : decode cX11_apart 32 = .ok (.aload_n 0, 1) := by decide +kernel
theorem dX11_apart_33 : decode cX11_apart 33 = .ok (.getfield 53, 3) := by decide +kernel
theorem dX11_apart_36 : decode cX11_apart 36 = .ok (.getfield 120, 3) := by decide +kernel
theorem dX11_apart_39 : decode cX11_apart 39 = .ok (.invokestatic 199, 3) := by decide +kernel
theorem dX11_apart_42 : decode cX11_apart 42 = .ok (.invokestatic 205, 3) := by decide +kernel
theorem dX11_apart_45 : decode cX11_apart 45 = .ok (.invokevirtual 108, 3) := by decide +kernel
theorem dX11_apart_48 : decode cX11_apart 48 = .ok (.ireturn, 1) := by decide +kernel
theorem dX11_next_0 : decode cX11_next 0 = .ok (.aload_n 0, 1) := by decide +kernel
theorem dX11_next_1 : decode cX11_next 1 = .ok (.iload_n 1, 1) := by decide +kernel
theorem dX11_next_2 : decode cX11_next 2 = .ok (.invokevirtual 140, 3) := by decide +kernel
theorem dX11_next_5 : decode cX11_next 5 = .ok (.ifCond .eq 11, 3) := by decide +kernel
theorem dX11_next_8 : decode cX11_next 8 = .ok (.aload_n 0, 1) := by decide +kernel
theorem dX11_next_9 : decode cX11_next 9 = .ok (.iload_n 2, 1) := by decide +kernel
theorem dX11_next_10 : decode cX11_next 10 = .ok (.invokevirtual 114, 3) := by decide +kernel
theorem dX11_next_13 : decode cX11_next 13 = .ok (.ifCond .ne 9, 3) := by decide +kernel
theorem dX11_next_16 : decode cX11_next 16 = .ok (.aload_n 0, 1) := by decide +kernel
theorem dX11_next_17 : decode cX11_next 17 = .ok (.iconst 1, 1) := by decide +kernel
theorem dX11_next_18 : decode cX11_next 18 = .ok (.invokevirtual 70, 3) := by decide +kernel
theorem dX11_next_21 : decode cX11_next 21 = .ok (.ireturn, 1) := by decide +kernel
theorem dX11_next_22 : decode cX11_next 22 = .ok (.aload_n 0, 1) := by decide +kernel
theorem dX11_next_23 : decode cX11_next 23 = .ok (.aload_n 0, 1) := by decide +kernel
theorem dX11_next_24 : decode cX11_next 24 = .ok (.getfield 53, 3) := by decide +kernel
theorem dX11_next_27 : decode cX11_next 27 = .ok (.getfield 120, 3) := by decide +kernel
theorem dX11_next_30 : decode cX11_next 30 = .ok (.aload_n 0, 1) := by decide +kernel
theorem dX11_next_31 : decode cX11_next 31 = .ok (.getfield 53, 3) := by decide +kernel
theorem dX11_next_34 : decode cX11_next 34 = .ok (.iload_n 1, 1) := by decide +kernel
theorem dX11_next_35 : decode cX11_next 35 = .ok (.invokevirtual 146, 3) := by decide +kernel
theorem dX11_next_38 : decode cX11_next 38 = .ok (.iload_n 2, 1) := by decide +kernel
theorem dX11_next_39 : decode cX11_next 39 = .ok (.invokestatic 209, 3) := by decide +kernel
theorem dX11_next_42 : decode cX11_next 42 = .ok (.invokevirtual 108, 3) := by decide +kernel
theorem dX11_next_45 : decode cX11_next 45 = .ok (.ireturn, 1) := by decide +kernel
theorem dX11_unseen_0 : decode cX11_unseen 0 = .ok (.aload_n 0, 1) := by decide +kernel
theorem dX11_unseen_1 : decode cX11_unseen 1 = .ok (.iload_n 1, 1) := by decide +kernel
theorem dX11_unseen_2 : decode cX11_unseen 2 = .ok (.invokevirtual 140, 3) := by decide +kernel
theorem dX11_unseen_5 : decode cX11_unseen 5 = .ok (.ifCond .eq 11, 3) := by decide +kernel
theorem dX11_unseen_8 : decode cX11_unseen 8 = .ok (.aload_n 0, 1) := by decide +kernel
theorem dX11_unseen_9 : decode cX11_unseen 9 = .ok (.iload_n 2, 1) := by decide +kernel
theorem dX11_unseen_10 : decode cX11_unseen 10 = .ok (.invokevirtual 114, 3) := by decide +kernel
theorem dX11_unseen_13 : decode cX11_unseen 13 = .ok (.ifCond .ne 9, 3) := by decide +kernel
theorem dX11_unseen_16 : decode cX11_unseen 16 = .ok (.aload_n 0, 1) := by decide +kernel
theorem dX11_unseen_17 : decode cX11_unseen 17 = .ok (.iconst 1, 1) := by decide +kernel
theorem dX11_unseen_18 : decode cX11_unseen 18 = .ok (.invokevirtual 70, 3) := by decide +kernel
theorem dX11_unseen_21 : decode cX11_unseen 21 = .ok (.ireturn, 1) := by decide +kernel
theorem dX11_unseen_22 : decode cX11_unseen 22 = .ok (.aload_n 0, 1) := by decide +kernel
theorem dX11_unseen_23 : decode cX11_unseen 23 = .ok (.aload_n 0, 1) := by decide +kernel
theorem dX11_unseen_24 : decode cX11_unseen 24 = .ok (.getfield 53, 3) := by decide +kernel
theorem dX11_unseen_27 : decode cX11_unseen 27 = .ok (.getfield 120, 3) := by decide +kernel
theorem dX11_unseen_30 : decode cX11_unseen 30 = .ok (.aload_n 0, 1) := by decide +kernel
theorem dX11_unseen_31 : decode cX11_unseen 31 = .ok (.getfield 53, 3) := by decide +kernel
theorem dX11_unseen_34 : decode cX11_unseen 34 = .ok (.iload_n 1, 1) := by decide +kernel
theorem dX11_unseen_35 : decode cX11_unseen 35 = .ok (.invokevirtual 146, 3) := by decide +kernel
theorem dX11_unseen_38 : decode cX11_unseen 38 = .ok (.iload_n 2, 1) := by decide +kernel
theorem dX11_unseen_39 : decode cX11_unseen 39 = .ok (.aload_n 0, 1) := by decide +kernel
theorem dX11_unseen_40 : decode cX11_unseen 40 = .ok (.getfield 53, 3) := by decide +kernel
theorem dX11_unseen_43 : decode cX11_unseen 43 = .ok (.iload_n 1, 1) := by decide +kernel
theorem dX11_unseen_44 : decode cX11_unseen 44 = .ok (.invokevirtual 213, 3) := by decide +kernel
theorem dX11_unseen_47 : decode cX11_unseen 47 = .ok (.invokestatic 205, 3) := by decide +kernel
theorem dX11_unseen_50 : decode cX11_unseen 50 = .ok (.invokevirtual 108, 3) := by decide +kernel
theorem dX11_unseen_53 : decode cX11_unseen 53 = .ok (.ireturn, 1) := by decide +kernel
theorem dX11_safe_0 : decode cX11_safe 0 = .ok (.aload_n 0, 1) := by decide +kernel
theorem dX11_safe_1 : decode cX11_safe 1 = .ok (.iload_n 1, 1) := by decide +kernel
theorem dX11_safe_2 : decode cX11_safe 2 = .ok (.invokevirtual 140, 3) := by decide +kernel
theorem dX11_safe_5 : decode cX11_safe 5 = .ok (.ifCond .ne 9, 3) := by decide +kernel
theorem dX11_safe_8 : decode cX11_safe 8 = .ok (.aload_n 0, 1) := by decide +kernel
theorem dX11_safe_9 : decode cX11_safe 9 = .ok (.iconst 1, 1) := by decide +kernel
theorem dX11_safe_10 : decode cX11_safe 10 = .ok (.invokevirtual 70, 3) := by decide +kernel
theorem dX11_safe_13 : decode cX11_safe 13 = .ok (.ireturn, 1) := by decide +kernel
theorem dX11_safe_14 : decode cX11_safe 14 = .ok (.aload_n 0, 1) := by decide +kernel
theorem dX11_safe_15 : decode cX11_safe 15 = .ok (.aload_n 0, 1) := by decide +kernel
theorem dX11_safe_16 : decode cX11_safe 16 = .ok (.getfield 53, 3) := by decide +kernel
theorem dX11_safe_19 : decode cX11_safe 19 = .ok (.getfield 120, 3) := by decide +kernel
theorem dX11_safe_22 : decode cX11_safe 22 = .ok (.aload_n 0, 1) := by decide +kernel
theorem dX11_safe_23 : decode cX11_safe 23 = .ok (.getfield 53, 3) := by decide +kernel
theorem dX11_safe_26 : decode cX11_safe 26 = .ok (.iload_n 1, 1) := by decide +kernel
theorem dX11_safe_27 : decode cX11_safe 27 = .ok (.invokevirtual 146, 3) := by decide +kernel
theorem dX11_safe_30 : decode cX11_safe 30 = .ok (.aload_n 0, 1) := by decide +kernel
theorem dX11_safe_31 : decode cX11_safe 31 = .ok (.getfield 53, 3) := by decide +kernel
theorem dX11_safe_34 : decode cX11_safe 34 = .ok (.iload_n 1, 1) := by decide +kernel
theorem dX11_safe_35 : decode cX11_safe 35 = .ok (.invokevirtual 213, 3) := by decide +kernel
theorem dX11_safe_38 : decode cX11_safe 38 = .ok (.invokestatic 216, 3) := by decide +kernel
theorem dX11_safe_41 : decode cX11_safe 41 = .ok (.invokevirtual 108, 3) := by decide +kernel
theorem dX11_safe_44 : decode cX11_safe 44 = .ok (.ireturn, 1) := by decide +kernel
theorem dX11_cut_0 : decode cX11_cut 0 = .ok (.aload_n 0, 1) := by decide +kernel
theorem dX11_cut_1 : decode cX11_cut 1 = .ok (.iload_n 1, 1) := by decide +kernel
theorem dX11_cut_2 : decode cX11_cut 2 = .ok (.invokevirtual 140, 3) := by decide +kernel
theorem dX11_cut_5 : decode cX11_cut 5 = .ok (.ifCond .eq 11, 3) := by decide +kernel
theorem dX11_cut_8 : decode cX11_cut 8 = .ok (.aload_n 0, 1) := by decide +kernel
theorem dX11_cut_9 : decode cX11_cut 9 = .ok (.iload_n 2, 1) := by decide +kernel
theorem dX11_cut_10 : decode cX11_cut 10 = .ok (.invokevirtual 114, 3) := by decide +kernel
theorem dX11_cut_13 : decode cX11_cut 13 = .ok (.ifCond .ne 9, 3) := by decide +kernel
theorem dX11_cut_16 : decode cX11_cut 16 = .ok (.aload_n 0, 1) := by decide +kernel
theorem dX11_cut_17 : decode cX11_cut 17 = .ok (.iconst 1, 1) := by decide +kernel
theorem dX11_cut_18 : decode cX11_cut 18 = .ok (.invokevirtual 70, 3) := by decide +kernel
theorem dX11_cut_21 : decode cX11_cut 21 = .ok (.ireturn, 1) := by decide +kernel
theorem dX11_cut_22 : decode cX11_cut 22 = .ok (.aload_n 0, 1) := by decide +kernel
theorem dX11_cut_23 : decode cX11_cut 23 = .ok (.aload_n 0, 1) := by decide +kernel
theorem dX11_cut_24 : decode cX11_cut 24 = .ok (.getfield 53, 3) := by decide +kernel
theorem dX11_cut_27 : decode cX11_cut 27 = .ok (.getfield 120, 3) := by decide +kernel
theorem dX11_cut_30 : decode cX11_cut 30 = .ok (.aload_n 0, 1) := by decide +kernel
theorem dX11_cut_31 : decode cX11_cut 31 = .ok (.getfield 53, 3) := by decide +kernel
theorem dX11_cut_34 : decode cX11_cut 34 = .ok (.iload_n 1, 1) := by decide +kernel
theorem dX11_cut_35 : decode cX11_cut 35 = .ok (.invokevirtual 146, 3) := by decide +kernel
theorem dX11_cut_38 : decode cX11_cut 38 = .ok (.iload_n 2, 1) := by decide +kernel
theorem dX11_cut_39 : decode cX11_cut 39 = .ok (.invokestatic 219, 3) := by decide +kernel
theorem dX11_cut_42 : decode cX11_cut 42 = .ok (.invokevirtual 108, 3) := by decide +kernel
theorem dX11_cut_45 : decode cX11_cut 45 = .ok (.ireturn, 1) := by decide +kernel
theorem dX11_middle_0 : decode cX11_middle 0 = .ok (.aload_n 0, 1) := by decide +kernel
theorem dX11_middle_1 : decode cX11_middle 1 = .ok (.invokevirtual 183, 3) := by decide +kernel
theorem dX11_middle_4 : decode cX11_middle 4 = .ok (.ifCond .ne 9, 3) := by decide +kernel
theorem dX11_middle_7 : decode cX11_middle 7 = .ok (.aload_n 0, 1) := by decide +kernel
theorem dX11_middle_8 : decode cX11_middle 8 = .ok (.iconst 1, 1) := by decide +kernel
theorem dX11_middle_9 : decode cX11_middle 9 = .ok (.invokevirtual 70, 3) := by decide +kernel
theorem dX11_middle_12 : decode cX11_middle 12 = .ok (.ireturn, 1) := by decide +kernel
theorem dX11_middle_13 : decode cX11_middle 13 = .ok (.aload_n 0, 1) := by decide +kernel
theorem dX11_middle_14 : decode cX11_middle 14 = .ok (.aload_n 0, 1) := by decide +kernel
theorem dX11_middle_15 : decode cX11_middle 15 = .ok (.getfield 53, 3) := by decide +kernel
theorem dX11_middle_18 : decode cX11_middle 18 = .ok (.getfield 120, 3) := by decide +kernel
theorem dX11_middle_21 : decode cX11_middle 21 = .ok (.invokestatic 222, 3) := by decide +kernel
theorem dX11_middle_24 : decode cX11_middle 24 = .ok (.invokevirtual 108, 3) := by decide +kernel
theorem dX11_middle_27 : decode cX11_middle 27 = .ok (.ireturn, 1) := by decide +kernel
theorem dX11_parts_0 : decode cX11_parts 0 = .ok (.aload_n 0, 1) := by decide +kernel
theorem dX11_parts_1 : decode cX11_parts 1 = .ok (.invokevirtual 183, 3) := by decide +kernel
theorem dX11_parts_4 : decode cX11_parts 4 = .ok (.ifCond .ne 9, 3) := by decide +kernel
theorem dX11_parts_7 : decode cX11_parts 7 = .ok (.aload_n 0, 1) := by decide +kernel
theorem dX11_parts_8 : decode cX11_parts 8 = .ok (.iconst 1, 1) := by decide +kernel
theorem dX11_parts_9 : decode cX11_parts 9 = .ok (.invokevirtual 70, 3) := by decide +kernel
theorem dX11_parts_12 : decode cX11_parts 12 = .ok (.ireturn, 1) := by decide +kernel
theorem dX11_parts_13 : decode cX11_parts 13 = .ok (.aload_n 0, 1) := by decide +kernel
theorem dX11_parts_14 : decode cX11_parts 14 = .ok (.aload_n 0, 1) := by decide +kernel
theorem dX11_parts_15 : decode cX11_parts 15 = .ok (.getfield 53, 3) := by decide +kernel
theorem dX11_parts_18 : decode cX11_parts 18 = .ok (.getfield 120, 3) := by decide +kernel
theorem dX11_parts_21 : decode cX11_parts 21 = .ok (.invokestatic 225, 3) := by decide +kernel
theorem dX11_parts_24 : decode cX11_parts 24 = .ok (.invokevirtual 108, 3) := by decide +kernel
theorem dX11_parts_27 : decode cX11_parts 27 = .ok (.ireturn, 1) := by decide +kernel
theorem dX11_follows_0 : decode cX11_follows 0 = .ok (.aload_n 0, 1) := by decide +kernel
theorem dX11_follows_1 : decode cX11_follows 1 = .ok (.iload_n 1, 1) := by decide +kernel
theorem dX11_follows_2 : decode cX11_follows 2 = .ok (.invokevirtual 158, 3) := by decide +kernel
theorem dX11_follows_5 : decode cX11_follows 5 = .ok (.ifCond .ne 9, 3) := by decide +kernel
theorem dX11_follows_8 : decode cX11_follows 8 = .ok (.aload_n 0, 1) := by decide +kernel
theorem dX11_follows_9 : decode cX11_follows 9 = .ok (.iconst 1, 1) := by decide +kernel
theorem dX11_follows_10 : decode cX11_follows 10 = .ok (.invokevirtual 70, 3) := by decide +kernel
theorem dX11_follows_13 : decode cX11_follows 13 = .ok (.ireturn, 1) := by decide +kernel
theorem dX11_follows_14 : decode cX11_follows 14 = .ok (.iload_n 3, 1) := by decide +kernel
theorem dX11_follows_15 : decode cX11_follows 15 = .ok (.ifCond .lt 18, 3) := by decide +kernel
theorem dX11_follows_18 : decode cX11_follows 18 = .ok (.iload_n 3, 1) := by decide +kernel
theorem dX11_follows_19 : decode cX11_follows 19 = .ok (.bipush 6, 2) := by decide +kernel
theorem dX11_follows_21 : decode cX11_follows 21 = .ok (.if_icmp .gt 12, 3) := by decide +kernel
theorem dX11_follows_24 : decode cX11_follows 24 = .ok (.aload_n 0, 1) := by decide +kernel
theorem dX11_follows_25 : decode cX11_follows 25 = .ok (.iload_n 2, 1) := by decide +kernel
theorem dX11_follows_26 : decode cX11_follows 26 = .ok (.iload_n 3, 1) := by decide +kernel
theorem dX11_follows_27 : decode cX11_follows 27 = .ok (.invokevirtual 228, 3) := by decide +kernel
theorem dX11_follows_30 : decode cX11_follows 30 = .ok (.ifCond .ne 9, 3) := by decide +kernel
theorem dX11_follows_33 : decode cX11_follows 33 = .ok (.aload_n 0, 1) := by decide +kernel
theorem dX11_follows_34 : decode cX11_follows 34 = .ok (.iconst 2, 1) := by decide +kernel
theorem dX11_follows_35 : decode cX11_follows 35 = .ok (.invokevirtual 70, 3) := by decide +kernel
theorem dX11_follows_38 : decode cX11_follows 38 = .ok (.ireturn, 1) := by decide +kernel
theorem dX11_follows_39 : decode cX11_follows 39 = .ok (.aload_n 0, 1) := by decide +kernel
theorem dX11_follows_40 : decode cX11_follows 40 = .ok (.getfield 19, 3) := by decide +kernel
theorem dX11_follows_43 : decode cX11_follows 43 = .ok (.aload_n 0, 1) := by decide +kernel
theorem dX11_follows_44 : decode cX11_follows 44 = .ok (.getfield 53, 3) := by decide +kernel
theorem dX11_follows_47 : decode cX11_follows 47 = .ok (.invokevirtual 232, 3) := by decide +kernel
theorem dX11_follows_50 : decode cX11_follows 50 = .ok (.aload_n 0, 1) := by decide +kernel
theorem dX11_follows_51 : decode cX11_follows 51 = .ok (.getfield 19, 3) := by decide +kernel
theorem dX11_follows_54 : decode cX11_follows 54 = .ok (.aload_n 0, 1) := by decide +kernel
theorem dX11_follows_55 : decode cX11_follows 55 = .ok (.getfield 53, 3) := by decide +kernel
theorem dX11_follows_58 : decode cX11_follows 58 = .ok (.getfield 164, 3) := by decide +kernel
theorem dX11_follows_61 : decode cX11_follows 61 = .ok (.iload_n 1, 1) := by decide +kernel
theorem dX11_follows_62 : decode cX11_follows 62 = .ok (.iaload, 1) := by decide +kernel
theorem dX11_follows_63 : decode cX11_follows 63 = .ok (.iload_n 2, 1) := by decide +kernel
theorem dX11_follows_64 : decode cX11_follows 64 = .ok (.iload_n 3, 1) := by decide +kernel
theorem dX11_follows_65 : decode cX11_follows 65 = .ok (.invokevirtual 235, 3) := by decide +kernel
theorem dX11_follows_68 : decode cX11_follows 68 = .ok (.ifCond .ne 9, 3) := by decide +kernel
theorem dX11_follows_71 : decode cX11_follows 71 = .ok (.aload_n 0, 1) := by decide +kernel
theorem dX11_follows_72 : decode cX11_follows 72 = .ok (.iconst 5, 1) := by decide +kernel
theorem dX11_follows_73 : decode cX11_follows 73 = .ok (.invokevirtual 70, 3) := by decide +kernel
theorem dX11_follows_76 : decode cX11_follows 76 = .ok (.ireturn, 1) := by decide +kernel
theorem dX11_follows_77 : decode cX11_follows 77 = .ok (.aload_n 0, 1) := by decide +kernel
theorem dX11_follows_78 : decode cX11_follows 78 = .ok (.aload_n 0, 1) := by decide +kernel
theorem dX11_follows_79 : decode cX11_follows 79 = .ok (.getfield 19, 3) := by decide +kernel
theorem dX11_follows_82 : decode cX11_follows 82 = .ok (.getfield 239, 3) := by decide +kernel
theorem dX11_follows_85 : decode cX11_follows 85 = .ok (.iload_n 1, 1) := by decide +kernel
theorem dX11_follows_86 : decode cX11_follows 86 = .ok (.invokevirtual 173, 3) := by decide +kernel
theorem dX11_follows_89 : decode cX11_follows 89 = .ok (.invokevirtual 108, 3) := by decide +kernel
theorem dX11_follows_92 : decode cX11_follows 92 = .ok (.ireturn, 1) := by decide +kernel
theorem dX11_lure_0 : decode cX11_lure 0 = .ok (.aload_n 0, 1) := by decide +kernel
theorem dX11_lure_1 : decode cX11_lure 1 = .ok (.iload_n 1, 1) := by decide +kernel
theorem dX11_lure_2 : decode cX11_lure 2 = .ok (.invokevirtual 158, 3) := by decide +kernel
theorem dX11_lure_5 : decode cX11_lure 5 = .ok (.ifCond .eq 11, 3) := by decide +kernel
theorem dX11_lure_8 : decode cX11_lure 8 = .ok (.aload_n 0, 1) := by decide +kernel
theorem dX11_lure_9 : decode cX11_lure 9 = .ok (.iload_n 2, 1) := by decide +kernel
theorem dX11_lure_10 : decode cX11_lure 10 = .ok (.invokevirtual 114, 3) := by decide +kernel
theorem dX11_lure_13 : decode cX11_lure 13 = .ok (.ifCond .ne 9, 3) := by decide +kernel
theorem dX11_lure_16 : decode cX11_lure 16 = .ok (.aload_n 0, 1) := by decide +kernel
theorem dX11_lure_17 : decode cX11_lure 17 = .ok (.iconst 1, 1) := by decide +kernel
theorem dX11_lure_18 : decode cX11_lure 18 = .ok (.invokevirtual 70, 3) := by decide +kernel
theorem dX11_lure_21 : decode cX11_lure 21 = .ok (.ireturn, 1) := by decide +kernel
theorem dX11_lure_22 : decode cX11_lure 22 = .ok (.aload_n 0, 1) := by decide +kernel
theorem dX11_lure_23 : decode cX11_lure 23 = .ok (.getfield 19, 3) := by decide +kernel
theorem dX11_lure_26 : decode cX11_lure 26 = .ok (.aload_n 0, 1) := by decide +kernel
theorem dX11_lure_27 : decode cX11_lure 27 = .ok (.getfield 53, 3) := by decide +kernel
theorem dX11_lure_30 : decode cX11_lure 30 = .ok (.invokevirtual 232, 3) := by decide +kernel
theorem dX11_lure_33 : decode cX11_lure 33 = .ok (.aload_n 0, 1) := by decide +kernel
theorem dX11_lure_34 : decode cX11_lure 34 = .ok (.aload_n 0, 1) := by decide +kernel
theorem dX11_lure_35 : decode cX11_lure 35 = .ok (.getfield 19, 3) := by decide +kernel
theorem dX11_lure_38 : decode cX11_lure 38 = .ok (.iload_n 1, 1) := by decide +kernel
theorem dX11_lure_39 : decode cX11_lure 39 = .ok (.iload_n 2, 1) := by decide +kernel
theorem dX11_lure_40 : decode cX11_lure 40 = .ok (.invokevirtual 242, 3) := by decide +kernel
theorem dX11_lure_43 : decode cX11_lure 43 = .ok (.invokevirtual 108, 3) := by decide +kernel
theorem dX11_lure_46 : decode cX11_lure 46 = .ok (.ireturn, 1) := by decide +kernel
theorem dX11_lureRow_0 : decode cX11_lureRow 0 = .ok (.aload_n 0, 1) := by decide +kernel
theorem dX11_lureRow_1 : decode cX11_lureRow 1 = .ok (.iload_n 1, 1) := by decide +kernel
theorem dX11_lureRow_2 : decode cX11_lureRow 2 = .ok (.invokevirtual 158, 3) := by decide +kernel
theorem dX11_lureRow_5 : decode cX11_lureRow 5 = .ok (.ifCond .eq 11, 3) := by decide +kernel
theorem dX11_lureRow_8 : decode cX11_lureRow 8 = .ok (.aload_n 0, 1) := by decide +kernel
theorem dX11_lureRow_9 : decode cX11_lureRow 9 = .ok (.iload_n 2, 1) := by decide +kernel
theorem dX11_lureRow_10 : decode cX11_lureRow 10 = .ok (.invokevirtual 114, 3) := by decide +kernel
theorem dX11_lureRow_13 : decode cX11_lureRow 13 = .ok (.ifCond .ne 9, 3) := by decide +kernel
theorem dX11_lureRow_16 : decode cX11_lureRow 16 = .ok (.aload_n 0, 1) := by decide +kernel
theorem dX11_lureRow_17 : decode cX11_lureRow 17 = .ok (.iconst 1, 1) := by decide +kernel
theorem dX11_lureRow_18 : decode cX11_lureRow 18 = .ok (.invokevirtual 70, 3) := by decide +kernel
theorem dX11_lureRow_21 : decode cX11_lureRow 21 = .ok (.ireturn, 1) := by decide +kernel
theorem dX11_lureRow_22 : decode cX11_lureRow 22 = .ok (.aload_n 0, 1) := by decide +kernel
theorem dX11_lureRow_23 : decode cX11_lureRow 23 = .ok (.getfield 19, 3) := by decide +kernel
theorem dX11_lureRow_26 : decode cX11_lureRow 26 = .ok (.aload_n 0, 1) := by decide +kernel
theorem dX11_lureRow_27 : decode cX11_lureRow 27 = .ok (.getfield 53, 3) := by decide +kernel
theorem dX11_lureRow_30 : decode cX11_lureRow 30 = .ok (.invokevirtual 232, 3) := by decide +kernel
theorem dX11_lureRow_33 : decode cX11_lureRow 33 = .ok (.aload_n 0, 1) := by decide +kernel
theorem dX11_lureRow_34 : decode cX11_lureRow 34 = .ok (.aload_n 0, 1) := by decide +kernel
theorem dX11_lureRow_35 : decode cX11_lureRow 35 = .ok (.getfield 19, 3) := by decide +kernel
theorem dX11_lureRow_38 : decode cX11_lureRow 38 = .ok (.iload_n 1, 1) := by decide +kernel
theorem dX11_lureRow_39 : decode cX11_lureRow 39 = .ok (.iload_n 2, 1) := by decide +kernel
theorem dX11_lureRow_40 : decode cX11_lureRow 40 = .ok (.invokevirtual 242, 3) := by decide +kernel
theorem dX11_lureRow_43 : decode cX11_lureRow 43 = .ok (.bipush (-2), 2) := by decide +kernel
theorem dX11_lureRow_45 : decode cX11_lureRow 45 = .ok (.if_icmp .ne 8, 3) := by decide +kernel
theorem dX11_lureRow_48 : decode cX11_lureRow 48 = .ok (.bipush (-2), 2) := by decide +kernel
theorem dX11_lureRow_50 : decode cX11_lureRow 50 = .ok (.goto 10, 3) := by decide +kernel
theorem dX11_lureRow_53 : decode cX11_lureRow 53 = .ok (.aload_n 0, 1) := by decide +kernel
theorem dX11_lureRow_54 : decode cX11_lureRow 54 = .ok (.getfield 19, 3) := by decide +kernel
theorem dX11_lureRow_57 : decode cX11_lureRow 57 = .ok (.getfield 245, 3) := by decide +kernel
theorem dX11_lureRow_60 : decode cX11_lureRow 60 = .ok (.invokevirtual 108, 3) := by decide +kernel
theorem dX11_lureRow_63 : decode cX11_lureRow 63 = .ok (.ireturn, 1) := by decide +kernel
theorem dX11_lures_0 : decode cX11_lures 0 = .ok (.aload_n 0, 1) := by decide +kernel
theorem dX11_lures_1 : decode cX11_lures 1 = .ok (.iload_n 1, 1) := by decide +kernel
theorem dX11_lures_2 : decode cX11_lures 2 = .ok (.invokevirtual 158, 3) := by decide +kernel
theorem dX11_lures_5 : decode cX11_lures 5 = .ok (.ifCond .ne 9, 3) := by decide +kernel
theorem dX11_lures_8 : decode cX11_lures 8 = .ok (.aload_n 0, 1) := by decide +kernel
theorem dX11_lures_9 : decode cX11_lures 9 = .ok (.iconst 1, 1) := by decide +kernel
theorem dX11_lures_10 : decode cX11_lures 10 = .ok (.invokevirtual 70, 3) := by decide +kernel
theorem dX11_lures_13 : decode cX11_lures 13 = .ok (.ireturn, 1) := by decide +kernel
theorem dX11_lures_14 : decode cX11_lures 14 = .ok (.iload_n 2, 1) := by decide +kernel
theorem dX11_lures_15 : decode cX11_lures 15 = .ok (.ifCond .lt 8, 3) := by decide +kernel
theorem dX11_lures_18 : decode cX11_lures 18 = .ok (.iload_n 2, 1) := by decide +kernel
theorem dX11_lures_19 : decode cX11_lures 19 = .ok (.iconst 5, 1) := by decide +kernel
theorem dX11_lures_20 : decode cX11_lures 20 = .ok (.if_icmp .le 9, 3) := by decide +kernel
theorem dX11_lures_23 : decode cX11_lures 23 = .ok (.aload_n 0, 1) := by decide +kernel
theorem dX11_lures_24 : decode cX11_lures 24 = .ok (.iconst 2, 1) := by decide +kernel
theorem dX11_lures_25 : decode cX11_lures 25 = .ok (.invokevirtual 70, 3) := by decide +kernel
theorem dX11_lures_28 : decode cX11_lures 28 = .ok (.ireturn, 1) := by decide +kernel
theorem dX11_lures_29 : decode cX11_lures 29 = .ok (.aload_n 0, 1) := by decide +kernel
theorem dX11_lures_30 : decode cX11_lures 30 = .ok (.getfield 19, 3) := by decide +kernel
theorem dX11_lures_33 : decode cX11_lures 33 = .ok (.aload_n 0, 1) := by decide +kernel
theorem dX11_lures_34 : decode cX11_lures 34 = .ok (.getfield 53, 3) := by decide +kernel
theorem dX11_lures_37 : decode cX11_lures 37 = .ok (.invokevirtual 232, 3) := by decide +kernel
theorem dX11_lures_40 : decode cX11_lures 40 = .ok (.aload_n 0, 1) := by decide +kernel
theorem dX11_lures_41 : decode cX11_lures 41 = .ok (.aload_n 0, 1) := by decide +kernel
theorem dX11_lures_42 : decode cX11_lures 42 = .ok (.getfield 19, 3) := by decide +kernel
theorem dX11_lures_45 : decode cX11_lures 45 = .ok (.iload_n 1, 1) := by decide +kernel
theorem dX11_lures_46 : decode cX11_lures 46 = .ok (.iload_n 2, 1) := by decide +kernel
theorem dX11_lures_47 : decode cX11_lures 47 = .ok (.invokevirtual 248, 3) := by decide +kernel
theorem dX11_lures_50 : decode cX11_lures 50 = .ok (.invokevirtual 108, 3) := by decide +kernel
theorem dX11_lures_53 : decode cX11_lures 53 = .ok (.ireturn, 1) := by decide +kernel
theorem dX11_company_0 : decode cX11_company 0 = .ok (.aload_n 0, 1) := by decide +kernel
theorem dX11_company_1 : decode cX11_company 1 = .ok (.invokevirtual 183, 3) := by decide +kernel
theorem dX11_company_4 : decode cX11_company 4 = .ok (.ifCond .ne 9, 3) := by decide +kernel
theorem dX11_company_7 : decode cX11_company 7 = .ok (.aload_n 0, 1) := by decide +kernel
theorem dX11_company_8 : decode cX11_company 8 = .ok (.iconst 1, 1) := by decide +kernel
theorem dX11_company_9 : decode cX11_company 9 = .ok (.invokevirtual 70, 3) := by decide +kernel
theorem dX11_company_12 : decode cX11_company 12 = .ok (.ireturn, 1) := by decide +kernel
theorem dX11_company_13 : decode cX11_company 13 = .ok (.iload_n 1, 1) := by decide +kernel
theorem dX11_company_14 : decode cX11_company 14 = .ok (.ifCond .lt 9, 3) := by decide +kernel
theorem dX11_company_17 : decode cX11_company 17 = .ok (.iload_n 1, 1) := by decide +kernel
theorem dX11_company_18 : decode cX11_company 18 = .ok (.bipush 7, 2) := by decide +kernel
theorem dX11_company_20 : decode cX11_company 20 = .ok (.if_icmp .le 9, 3) := by decide +kernel
theorem dX11_company_23 : decode cX11_company 23 = .ok (.aload_n 0, 1) := by decide +kernel
theorem dX11_company_24 : decode cX11_company 24 = .ok (.iconst 2, 1) := by decide +kernel
theorem dX11_company_25 : decode cX11_company 25 = .ok (.invokevirtual 70, 3) := by decide +kernel
theorem dX11_company_28 : decode cX11_company 28 = .ok (.ireturn, 1) := by decide +kernel
theorem dX11_company_29 : decode cX11_company 29 = .ok (.aload_n 0, 1) := by decide +kernel
theorem dX11_company_30 : decode cX11_company 30 = .ok (.aload_n 0, 1) := by decide +kernel
theorem dX11_company_31 : decode cX11_company 31 = .ok (.getfield 26, 3) := by decide +kernel
theorem dX11_company_34 : decode cX11_company 34 = .ok (.aload_n 0, 1) := by decide +kernel
theorem dX11_company_35 : decode cX11_company 35 = .ok (.getfield 53, 3) := by decide +kernel
theorem dX11_company_38 : decode cX11_company 38 = .ok (.iload_n 1, 1) := by decide +kernel
theorem dX11_company_39 : decode cX11_company 39 = .ok (.invokevirtual 251, 3) := by decide +kernel
theorem dX11_company_42 : decode cX11_company 42 = .ok (.invokevirtual 108, 3) := by decide +kernel
theorem dX11_company_45 : decode cX11_company 45 = .ok (.ireturn, 1) := by decide +kernel
theorem dX11_lonely_0 : decode cX11_lonely 0 = .ok (.aload_n 0, 1) := by decide +kernel
theorem dX11_lonely_1 : decode cX11_lonely 1 = .ok (.invokevirtual 183, 3) := by decide +kernel
theorem dX11_lonely_4 : decode cX11_lonely 4 = .ok (.ifCond .ne 9, 3) := by decide +kernel
theorem dX11_lonely_7 : decode cX11_lonely 7 = .ok (.aload_n 0, 1) := by decide +kernel
theorem dX11_lonely_8 : decode cX11_lonely 8 = .ok (.iconst 1, 1) := by decide +kernel
theorem dX11_lonely_9 : decode cX11_lonely 9 = .ok (.invokevirtual 70, 3) := by decide +kernel
theorem dX11_lonely_12 : decode cX11_lonely 12 = .ok (.ireturn, 1) := by decide +kernel
theorem dX11_lonely_13 : decode cX11_lonely 13 = .ok (.aload_n 0, 1) := by decide +kernel
theorem dX11_lonely_14 : decode cX11_lonely 14 = .ok (.aload_n 0, 1) := by decide +kernel
theorem dX11_lonely_15 : decode cX11_lonely 15 = .ok (.getfield 53, 3) := by decide +kernel
theorem dX11_lonely_18 : decode cX11_lonely 18 = .ok (.invokestatic 255, 3) := by decide +kernel
theorem dX11_lonely_21 : decode cX11_lonely 21 = .ok (.invokevirtual 108, 3) := by decide +kernel
theorem dX11_lonely_24 : decode cX11_lonely 24 = .ok (.ireturn, 1) := by decide +kernel
theorem dX11_owes_0 : decode cX11_owes 0 = .ok (.aload_n 0, 1) := by decide +kernel
theorem dX11_owes_1 : decode cX11_owes 1 = .ok (.iload_n 1, 1) := by decide +kernel
theorem dX11_owes_2 : decode cX11_owes 2 = .ok (.invokevirtual 140, 3) := by decide +kernel
theorem dX11_owes_5 : decode cX11_owes 5 = .ok (.ifCond .ne 9, 3) := by decide +kernel
theorem dX11_owes_8 : decode cX11_owes 8 = .ok (.aload_n 0, 1) := by decide +kernel
theorem dX11_owes_9 : decode cX11_owes 9 = .ok (.iconst 1, 1) := by decide +kernel
theorem dX11_owes_10 : decode cX11_owes 10 = .ok (.invokevirtual 70, 3) := by decide +kernel
theorem dX11_owes_13 : decode cX11_owes 13 = .ok (.ireturn, 1) := by decide +kernel
theorem dX11_owes_14 : decode cX11_owes 14 = .ok (.aload_n 0, 1) := by decide +kernel
theorem dX11_owes_15 : decode cX11_owes 15 = .ok (.aload_n 0, 1) := by decide +kernel
theorem dX11_owes_16 : decode cX11_owes 16 = .ok (.getfield 53, 3) := by decide +kernel
theorem dX11_owes_19 : decode cX11_owes 19 = .ok (.iload_n 1, 1) := by decide +kernel
theorem dX11_owes_20 : decode cX11_owes 20 = .ok (.invokestatic 259, 3) := by decide +kernel
theorem dX11_owes_23 : decode cX11_owes 23 = .ok (.invokevirtual 108, 3) := by decide +kernel
theorem dX11_owes_26 : decode cX11_owes 26 = .ok (.ireturn, 1) := by decide +kernel
theorem dX11_ring_0 : decode cX11_ring 0 = .ok (.aload_n 0, 1) := by decide +kernel
theorem dX11_ring_1 : decode cX11_ring 1 = .ok (.iload_n 1, 1) := by decide +kernel
theorem dX11_ring_2 : decode cX11_ring 2 = .ok (.invokevirtual 140, 3) := by decide +kernel
theorem dX11_ring_5 : decode cX11_ring 5 = .ok (.ifCond .ne 9, 3) := by decide +kernel
theorem dX11_ring_8 : decode cX11_ring 8 = .ok (.aload_n 0, 1) := by decide +kernel
theorem dX11_ring_9 : decode cX11_ring 9 = .ok (.iconst 1, 1) := by decide +kernel
theorem dX11_ring_10 : decode cX11_ring 10 = .ok (.invokevirtual 70, 3) := by decide +kernel
theorem dX11_ring_13 : decode cX11_ring 13 = .ok (.ireturn, 1) := by decide +kernel
theorem dX11_ring_14 : decode cX11_ring 14 = .ok (.aload_n 0, 1) := by decide +kernel
theorem dX11_ring_15 : decode cX11_ring 15 = .ok (.aload_n 0, 1) := by decide +kernel
theorem dX11_ring_16 : decode cX11_ring 16 = .ok (.getfield 53, 3) := by decide +kernel
theorem dX11_ring_19 : decode cX11_ring 19 = .ok (.iload_n 1, 1) := by decide +kernel
theorem dX11_ring_20 : decode cX11_ring 20 = .ok (.invokestatic 262, 3) := by decide +kernel
theorem dX11_ring_23 : decode cX11_ring 23 = .ok (.invokevirtual 108, 3) := by decide +kernel
theorem dX11_ring_26 : decode cX11_ring 26 = .ok (.ireturn, 1) := by decide +kernel
theorem dX11_ringAt_0 : decode cX11_ringAt 0 = .ok (.aload_n 0, 1) := by decide +kernel
theorem dX11_ringAt_1 : decode cX11_ringAt 1 = .ok (.iload_n 1, 1) := by decide +kernel
theorem dX11_ringAt_2 : decode cX11_ringAt 2 = .ok (.invokevirtual 140, 3) := by decide +kernel
theorem dX11_ringAt_5 : decode cX11_ringAt 5 = .ok (.ifCond .ne 9, 3) := by decide +kernel
theorem dX11_ringAt_8 : decode cX11_ringAt 8 = .ok (.aload_n 0, 1) := by decide +kernel
theorem dX11_ringAt_9 : decode cX11_ringAt 9 = .ok (.iconst 1, 1) := by decide +kernel
theorem dX11_ringAt_10 : decode cX11_ringAt 10 = .ok (.invokevirtual 70, 3) := by decide +kernel
theorem dX11_ringAt_13 : decode cX11_ringAt 13 = .ok (.ireturn, 1) := by decide +kernel
theorem dX11_ringAt_14 : decode cX11_ringAt 14 = .ok (.aload_n 0, 1) := by decide +kernel
theorem dX11_ringAt_15 : decode cX11_ringAt 15 = .ok (.getfield 53, 3) := by decide +kernel
theorem dX11_ringAt_18 : decode cX11_ringAt 18 = .ok (.iload_n 1, 1) := by decide +kernel
theorem dX11_ringAt_19 : decode cX11_ringAt 19 = .ok (.invokestatic 262, 3) := by decide +kernel
theorem dX11_ringAt_22 : decode cX11_ringAt 22 = .ok (.istore_n 3, 1) := by decide +kernel
theorem dX11_ringAt_23 : decode cX11_ringAt 23 = .ok (.iload_n 2, 1) := by decide +kernel
theorem dX11_ringAt_24 : decode cX11_ringAt 24 = .ok (.ifCond .lt 8, 3) := by decide +kernel
theorem dX11_ringAt_27 : decode cX11_ringAt 27 = .ok (.iload_n 2, 1) := by decide +kernel
theorem dX11_ringAt_28 : decode cX11_ringAt 28 = .ok (.iload_n 3, 1) := by decide +kernel
theorem dX11_ringAt_29 : decode cX11_ringAt 29 = .ok (.if_icmp .lt 9, 3) := by decide +kernel
theorem dX11_ringAt_32 : decode cX11_ringAt 32 = .ok (.aload_n 0, 1) := by decide +kernel
theorem dX11_ringAt_33 : decode cX11_ringAt 33 = .ok (.iconst 1, 1) := by decide +kernel
theorem dX11_ringAt_34 : decode cX11_ringAt 34 = .ok (.invokevirtual 70, 3) := by decide +kernel
theorem dX11_ringAt_37 : decode cX11_ringAt 37 = .ok (.ireturn, 1) := by decide +kernel
theorem dX11_ringAt_38 : decode cX11_ringAt 38 = .ok (.aload_n 0, 1) := by decide +kernel
theorem dX11_ringAt_39 : decode cX11_ringAt 39 = .ok (.aload_n 0, 1) := by decide +kernel
theorem dX11_ringAt_40 : decode cX11_ringAt 40 = .ok (.getfield 53, 3) := by decide +kernel
theorem dX11_ringAt_43 : decode cX11_ringAt 43 = .ok (.iload_n 1, 1) := by decide +kernel
theorem dX11_ringAt_44 : decode cX11_ringAt 44 = .ok (.iload_n 2, 1) := by decide +kernel
theorem dX11_ringAt_45 : decode cX11_ringAt 45 = .ok (.iload_n 3, 1) := by decide +kernel
theorem dX11_ringAt_46 : decode cX11_ringAt 46 = .ok (.invokestatic 265, 3) := by decide +kernel
theorem dX11_ringAt_49 : decode cX11_ringAt 49 = .ok (.invokevirtual 108, 3) := by decide +kernel
theorem dX11_ringAt_52 : decode cX11_ringAt 52 = .ok (.ireturn, 1) := by decide +kernel
theorem dX11_amends_0 : decode cX11_amends 0 = .ok (.aload_n 0, 1) := by decide +kernel
theorem dX11_amends_1 : decode cX11_amends 1 = .ok (.invokevirtual 183, 3) := by decide +kernel
theorem dX11_amends_4 : decode cX11_amends 4 = .ok (.ifCond .ne 9, 3) := by decide +kernel
theorem dX11_amends_7 : decode cX11_amends 7 = .ok (.aload_n 0, 1) := by decide +kernel
theorem dX11_amends_8 : decode cX11_amends 8 = .ok (.iconst 1, 1) := by decide +kernel
theorem dX11_amends_9 : decode cX11_amends 9 = .ok (.invokevirtual 70, 3) := by decide +kernel
theorem dX11_amends_12 : decode cX11_amends 12 = .ok (.ireturn, 1) := by decide +kernel
theorem dX11_amends_13 : decode cX11_amends 13 = .ok (.aload_n 0, 1) := by decide +kernel
theorem dX11_amends_14 : decode cX11_amends 14 = .ok (.aload_n 0, 1) := by decide +kernel
theorem dX11_amends_15 : decode cX11_amends 15 = .ok (.getfield 53, 3) := by decide +kernel
theorem dX11_amends_18 : decode cX11_amends 18 = .ok (.invokestatic 269, 3) := by decide +kernel
theorem dX11_amends_21 : decode cX11_amends 21 = .ok (.invokevirtual 108, 3) := by decide +kernel
theorem dX11_amends_24 : decode cX11_amends 24 = .ok (.ireturn, 1) := by decide +kernel
theorem dX11_robbed_0 : decode cX11_robbed 0 = .ok (.aload_n 0, 1) := by decide +kernel
theorem dX11_robbed_1 : decode cX11_robbed 1 = .ok (.invokevirtual 183, 3) := by decide +kernel
theorem dX11_robbed_4 : decode cX11_robbed 4 = .ok (.ifCond .ne 9, 3) := by decide +kernel
theorem dX11_robbed_7 : decode cX11_robbed 7 = .ok (.aload_n 0, 1) := by decide +kernel
theorem dX11_robbed_8 : decode cX11_robbed 8 = .ok (.iconst 1, 1) := by decide +kernel
theorem dX11_robbed_9 : decode cX11_robbed 9 = .ok (.invokevirtual 70, 3) := by decide +kernel
theorem dX11_robbed_12 : decode cX11_robbed 12 = .ok (.ireturn, 1) := by decide +kernel
theorem dX11_robbed_13 : decode cX11_robbed 13 = .ok (.aload_n 0, 1) := by decide +kernel
theorem dX11_robbed_14 : decode cX11_robbed 14 = .ok (.aload_n 0, 1) := by decide +kernel
theorem dX11_robbed_15 : decode cX11_robbed 15 = .ok (.getfield 53, 3) := by decide +kernel
theorem dX11_robbed_18 : decode cX11_robbed 18 = .ok (.invokestatic 272, 3) := by decide +kernel
theorem dX11_robbed_21 : decode cX11_robbed 21 = .ok (.invokevirtual 108, 3) := by decide +kernel
theorem dX11_robbed_24 : decode cX11_robbed 24 = .ok (.ireturn, 1) := by decide +kernel
theorem dX11_fits_0 : decode cX11_fits 0 = .ok (.aload_n 0, 1) := by decide +kernel
theorem dX11_fits_1 : decode cX11_fits 1 = .ok (.iload_n 1, 1) := by decide +kernel
theorem dX11_fits_2 : decode cX11_fits 2 = .ok (.invokevirtual 275, 3) := by decide +kernel
theorem dX11_fits_5 : decode cX11_fits 5 = .ok (.ifCond .ne 9, 3) := by decide +kernel
theorem dX11_fits_8 : decode cX11_fits 8 = .ok (.aload_n 0, 1) := by decide +kernel
theorem dX11_fits_9 : decode cX11_fits 9 = .ok (.iconst 1, 1) := by decide +kernel
theorem dX11_fits_10 : decode cX11_fits 10 = .ok (.invokevirtual 70, 3) := by decide +kernel
theorem dX11_fits_13 : decode cX11_fits 13 = .ok (.ireturn, 1) := by decide +kernel
theorem dX11_fits_14 : decode cX11_fits 14 = .ok (.aload_n 0, 1) := by decide +kernel
theorem dX11_fits_15 : decode cX11_fits 15 = .ok (.aload_n 0, 1) := by decide +kernel
theorem dX11_fits_16 : decode cX11_fits 16 = .ok (.getfield 49, 3) := by decide +kernel
theorem dX11_fits_19 : decode cX11_fits 19 = .ok (.iload_n 1, 1) := by decide +kernel
theorem dX11_fits_20 : decode cX11_fits 20 = .ok (.invokestatic 278, 3) := by decide +kernel
theorem dX11_fits_23 : decode cX11_fits 23 = .ok (.invokevirtual 108, 3) := by decide +kernel
theorem dX11_fits_26 : decode cX11_fits 26 = .ok (.ireturn, 1) := by decide +kernel
theorem dX11_fitAt_0 : decode cX11_fitAt 0 = .ok (.aload_n 0, 1) := by decide +kernel
theorem dX11_fitAt_1 : decode cX11_fitAt 1 = .ok (.iload_n 1, 1) := by decide +kernel
theorem dX11_fitAt_2 : decode cX11_fitAt 2 = .ok (.invokevirtual 275, 3) := by decide +kernel
theorem dX11_fitAt_5 : decode cX11_fitAt 5 = .ok (.ifCond .eq 19, 3) := by decide +kernel
theorem dX11_fitAt_8 : decode cX11_fitAt 8 = .ok (.iload_n 2, 1) := by decide +kernel
theorem dX11_fitAt_9 : decode cX11_fitAt 9 = .ok (.ifCond .lt 15, 3) := by decide +kernel
theorem dX11_fitAt_12 : decode cX11_fitAt 12 = .ok (.iload_n 2, 1) := by decide +kernel
theorem dX11_fitAt_13 : decode cX11_fitAt 13 = .ok (.aload_n 0, 1) := by decide +kernel
theorem dX11_fitAt_14 : decode cX11_fitAt 14 = .ok (.getfield 49, 3) := by decide +kernel
theorem dX11_fitAt_17 : decode cX11_fitAt 17 = .ok (.iload_n 1, 1) := by decide +kernel
theorem dX11_fitAt_18 : decode cX11_fitAt 18 = .ok (.invokestatic 278, 3) := by decide +kernel
theorem dX11_fitAt_21 : decode cX11_fitAt 21 = .ok (.if_icmp .lt 9, 3) := by decide +kernel
theorem dX11_fitAt_24 : decode cX11_fitAt 24 = .ok (.aload_n 0, 1) := by decide +kernel
theorem dX11_fitAt_25 : decode cX11_fitAt 25 = .ok (.iconst 1, 1) := by decide +kernel
theorem dX11_fitAt_26 : decode cX11_fitAt 26 = .ok (.invokevirtual 70, 3) := by decide +kernel
theorem dX11_fitAt_29 : decode cX11_fitAt 29 = .ok (.ireturn, 1) := by decide +kernel
theorem dX11_fitAt_30 : decode cX11_fitAt 30 = .ok (.aload_n 0, 1) := by decide +kernel
theorem dX11_fitAt_31 : decode cX11_fitAt 31 = .ok (.aload_n 0, 1) := by decide +kernel
theorem dX11_fitAt_32 : decode cX11_fitAt 32 = .ok (.getfield 49, 3) := by decide +kernel
theorem dX11_fitAt_35 : decode cX11_fitAt 35 = .ok (.iload_n 1, 1) := by decide +kernel
theorem dX11_fitAt_36 : decode cX11_fitAt 36 = .ok (.iload_n 2, 1) := by decide +kernel
theorem dX11_fitAt_37 : decode cX11_fitAt 37 = .ok (.invokestatic 283, 3) := by decide +kernel
theorem dX11_fitAt_40 : decode cX11_fitAt 40 = .ok (.invokevirtual 108, 3) := by decide +kernel
theorem dX11_fitAt_43 : decode cX11_fitAt 43 = .ok (.ireturn, 1) := by decide +kernel
theorem dX11_could_0 : decode cX11_could 0 = .ok (.aload_n 0, 1) := by decide +kernel
theorem dX11_could_1 : decode cX11_could 1 = .ok (.iload_n 1, 1) := by decide +kernel
theorem dX11_could_2 : decode cX11_could 2 = .ok (.invokevirtual 275, 3) := by decide +kernel
theorem dX11_could_5 : decode cX11_could 5 = .ok (.ifCond .ne 9, 3) := by decide +kernel
theorem dX11_could_8 : decode cX11_could 8 = .ok (.aload_n 0, 1) := by decide +kernel
theorem dX11_could_9 : decode cX11_could 9 = .ok (.iconst 1, 1) := by decide +kernel
theorem dX11_could_10 : decode cX11_could 10 = .ok (.invokevirtual 70, 3) := by decide +kernel
theorem dX11_could_13 : decode cX11_could 13 = .ok (.ireturn, 1) := by decide +kernel
theorem dX11_could_14 : decode cX11_could 14 = .ok (.aload_n 0, 1) := by decide +kernel
theorem dX11_could_15 : decode cX11_could 15 = .ok (.aload_n 0, 1) := by decide +kernel
theorem dX11_could_16 : decode cX11_could 16 = .ok (.getfield 49, 3) := by decide +kernel
theorem dX11_could_19 : decode cX11_could 19 = .ok (.iload_n 1, 1) := by decide +kernel
theorem dX11_could_20 : decode cX11_could 20 = .ok (.invokestatic 287, 3) := by decide +kernel
theorem dX11_could_23 : decode cX11_could 23 = .ok (.invokevirtual 108, 3) := by decide +kernel
theorem dX11_could_26 : decode cX11_could 26 = .ok (.ireturn, 1) := by decide +kernel
theorem dX11_surely_0 : decode cX11_surely 0 = .ok (.aload_n 0, 1) := by decide +kernel
theorem dX11_surely_1 : decode cX11_surely 1 = .ok (.iload_n 1, 1) := by decide +kernel
theorem dX11_surely_2 : decode cX11_surely 2 = .ok (.invokevirtual 275, 3) := by decide +kernel
theorem dX11_surely_5 : decode cX11_surely 5 = .ok (.ifCond .ne 9, 3) := by decide +kernel
theorem dX11_surely_8 : decode cX11_surely 8 = .ok (.aload_n 0, 1) := by decide +kernel
theorem dX11_surely_9 : decode cX11_surely 9 = .ok (.iconst 1, 1) := by decide +kernel
theorem dX11_surely_10 : decode cX11_surely 10 = .ok (.invokevirtual 70, 3) := by decide +kernel
theorem dX11_surely_13 : decode cX11_surely 13 = .ok (.ireturn, 1) := by decide +kernel
theorem dX11_surely_14 : decode cX11_surely 14 = .ok (.aload_n 0, 1) := by decide +kernel
theorem dX11_surely_15 : decode cX11_surely 15 = .ok (.aload_n 0, 1) := by decide +kernel
theorem dX11_surely_16 : decode cX11_surely 16 = .ok (.getfield 49, 3) := by decide +kernel
theorem dX11_surely_19 : decode cX11_surely 19 = .ok (.iload_n 1, 1) := by decide +kernel
theorem dX11_surely_20 : decode cX11_surely 20 = .ok (.invokestatic 290, 3) := by decide +kernel
theorem dX11_surely_23 : decode cX11_surely 23 = .ok (.invokevirtual 108, 3) := by decide +kernel
theorem dX11_surely_26 : decode cX11_surely 26 = .ok (.ireturn, 1) := by decide +kernel
theorem dX11_ask_0 : decode cX11_ask 0 = .ok (.aload_n 0, 1) := by decide +kernel
theorem dX11_ask_1 : decode cX11_ask 1 = .ok (.iload_n 1, 1) := by decide +kernel
theorem dX11_ask_2 : decode cX11_ask 2 = .ok (.invokevirtual 275, 3) := by decide +kernel
theorem dX11_ask_5 : decode cX11_ask 5 = .ok (.ifCond .ne 9, 3) := by decide +kernel
theorem dX11_ask_8 : decode cX11_ask 8 = .ok (.aload_n 0, 1) := by decide +kernel
theorem dX11_ask_9 : decode cX11_ask 9 = .ok (.iconst 1, 1) := by decide +kernel
theorem dX11_ask_10 : decode cX11_ask 10 = .ok (.invokevirtual 70, 3) := by decide +kernel
theorem dX11_ask_13 : decode cX11_ask 13 = .ok (.ireturn, 1) := by decide +kernel
theorem dX11_ask_14 : decode cX11_ask 14 = .ok (.aload_n 0, 1) := by decide +kernel
theorem dX11_ask_15 : decode cX11_ask 15 = .ok (.aload_n 0, 1) := by decide +kernel
theorem dX11_ask_16 : decode cX11_ask 16 = .ok (.getfield 49, 3) := by decide +kernel
theorem dX11_ask_19 : decode cX11_ask 19 = .ok (.iload_n 1, 1) := by decide +kernel
theorem dX11_ask_20 : decode cX11_ask 20 = .ok (.invokestatic 293, 3) := by decide +kernel
theorem dX11_ask_23 : decode cX11_ask 23 = .ok (.invokevirtual 108, 3) := by decide +kernel
theorem dX11_ask_26 : decode cX11_ask 26 = .ok (.ireturn, 1) := by decide +kernel
theorem dX11_askLeaves_0 : decode cX11_askLeaves 0 = .ok (.aload_n 0, 1) := by decide +kernel
theorem dX11_askLeaves_1 : decode cX11_askLeaves 1 = .ok (.iload_n 1, 1) := by decide +kernel
theorem dX11_askLeaves_2 : decode cX11_askLeaves 2 = .ok (.invokevirtual 275, 3) := by decide +kernel
theorem dX11_askLeaves_5 : decode cX11_askLeaves 5 = .ok (.ifCond .ne 9, 3) := by decide +kernel
theorem dX11_askLeaves_8 : decode cX11_askLeaves 8 = .ok (.aload_n 0, 1) := by decide +kernel
theorem dX11_askLeaves_9 : decode cX11_askLeaves 9 = .ok (.iconst 1, 1) := by decide +kernel
theorem dX11_askLeaves_10 : decode cX11_askLeaves 10 = .ok (.invokevirtual 70, 3) := by decide +kernel
theorem dX11_askLeaves_13 : decode cX11_askLeaves 13 = .ok (.ireturn, 1) := by decide +kernel
theorem dX11_askLeaves_14 : decode cX11_askLeaves 14 = .ok (.aload_n 0, 1) := by decide +kernel
theorem dX11_askLeaves_15 : decode cX11_askLeaves 15 = .ok (.getfield 49, 3) := by decide +kernel
theorem dX11_askLeaves_18 : decode cX11_askLeaves 18 = .ok (.iload_n 1, 1) := by decide +kernel
theorem dX11_askLeaves_19 : decode cX11_askLeaves 19 = .ok (.invokestatic 293, 3) := by decide +kernel
theorem dX11_askLeaves_22 : decode cX11_askLeaves 22 = .ok (.istore_n 2, 1) := by decide +kernel
theorem dX11_askLeaves_23 : decode cX11_askLeaves 23 = .ok (.aload_n 0, 1) := by decide +kernel
theorem dX11_askLeaves_24 : decode cX11_askLeaves 24 = .ok (.iload_n 2, 1) := by decide +kernel
theorem dX11_askLeaves_25 : decode cX11_askLeaves 25 = .ok (.ifCond .ge 8, 3) := by decide +kernel
theorem dX11_askLeaves_28 : decode cX11_askLeaves 28 = .ok (.bipush (-2), 2) := by decide +kernel
theorem dX11_askLeaves_30 : decode cX11_askLeaves 30 = .ok (.goto 12, 3) := by decide +kernel
theorem dX11_askLeaves_33 : decode cX11_askLeaves 33 = .ok (.aload_n 0, 1) := by decide +kernel
theorem dX11_askLeaves_34 : decode cX11_askLeaves 34 = .ok (.getfield 49, 3) := by decide +kernel
theorem dX11_askLeaves_37 : decode cX11_askLeaves 37 = .ok (.iload_n 1, 1) := by decide +kernel
theorem dX11_askLeaves_38 : decode cX11_askLeaves 38 = .ok (.iload_n 2, 1) := by decide +kernel
theorem dX11_askLeaves_39 : decode cX11_askLeaves 39 = .ok (.invokestatic 296, 3) := by decide +kernel
theorem dX11_askLeaves_42 : decode cX11_askLeaves 42 = .ok (.invokevirtual 108, 3) := by decide +kernel
theorem dX11_askLeaves_45 : decode cX11_askLeaves 45 = .ok (.ireturn, 1) := by decide +kernel
theorem dX11_edge_0 : decode cX11_edge 0 = .ok (.aload_n 0, 1) := by decide +kernel
theorem dX11_edge_1 : decode cX11_edge 1 = .ok (.iload_n 1, 1) := by decide +kernel
theorem dX11_edge_2 : decode cX11_edge 2 = .ok (.invokevirtual 299, 3) := by decide +kernel
theorem dX11_edge_5 : decode cX11_edge 5 = .ok (.ifCond .eq 6, 3) := by decide +kernel
theorem dX11_edge_8 : decode cX11_edge 8 = .ok (.bipush (-100), 2) := by decide +kernel
theorem dX11_edge_10 : decode cX11_edge 10 = .ok (.ireturn, 1) := by decide +kernel
theorem dX11_edge_11 : decode cX11_edge 11 = .ok (.aload_n 0, 1) := by decide +kernel
theorem dX11_edge_12 : decode cX11_edge 12 = .ok (.iload_n 1, 1) := by decide +kernel
theorem dX11_edge_13 : decode cX11_edge 13 = .ok (.iload_n 2, 1) := by decide +kernel
theorem dX11_edge_14 : decode cX11_edge 14 = .ok (.iload_n 3, 1) := by decide +kernel
theorem dX11_edge_15 : decode cX11_edge 15 = .ok (.iload 4, 2) := by decide +kernel
theorem dX11_edge_17 : decode cX11_edge 17 = .ok (.invokestatic 302, 3) := by decide +kernel
theorem dX11_edge_20 : decode cX11_edge 20 = .ok (.invokevirtual 108, 3) := by decide +kernel
theorem dX11_edge_23 : decode cX11_edge 23 = .ok (.ireturn, 1) := by decide +kernel
theorem dX11_rests_0 : decode cX11_rests 0 = .ok (.aload_n 0, 1) := by decide +kernel
theorem dX11_rests_1 : decode cX11_rests 1 = .ok (.iload_n 1, 1) := by decide +kernel
theorem dX11_rests_2 : decode cX11_rests 2 = .ok (.invokevirtual 299, 3) := by decide +kernel
theorem dX11_rests_5 : decode cX11_rests 5 = .ok (.ifCond .eq 5, 3) := by decide +kernel
theorem dX11_rests_8 : decode cX11_rests 8 = .ok (.iconst (-1), 1) := by decide +kernel
theorem dX11_rests_9 : decode cX11_rests 9 = .ok (.ireturn, 1) := by decide +kernel
theorem dX11_rests_10 : decode cX11_rests 10 = .ok (.aload_n 0, 1) := by decide +kernel
theorem dX11_rests_11 : decode cX11_rests 11 = .ok (.iload_n 1, 1) := by decide +kernel
theorem dX11_rests_12 : decode cX11_rests 12 = .ok (.invokestatic 308, 3) := by decide +kernel
theorem dX11_rests_15 : decode cX11_rests 15 = .ok (.invokevirtual 108, 3) := by decide +kernel
theorem dX11_rests_18 : decode cX11_rests 18 = .ok (.ireturn, 1) := by decide +kernel
theorem dX11_rest_0 : decode cX11_rest 0 = .ok (.aload_n 0, 1) := by decide +kernel
theorem dX11_rest_1 : decode cX11_rest 1 = .ok (.iload_n 1, 1) := by decide +kernel
theorem dX11_rest_2 : decode cX11_rest 2 = .ok (.invokevirtual 299, 3) := by decide +kernel
theorem dX11_rest_5 : decode cX11_rest 5 = .ok (.ifCond .eq 5, 3) := by decide +kernel
theorem dX11_rest_8 : decode cX11_rest 8 = .ok (.iconst (-1), 1) := by decide +kernel
theorem dX11_rest_9 : decode cX11_rest 9 = .ok (.ireturn, 1) := by decide +kernel
theorem dX11_rest_10 : decode cX11_rest 10 = .ok (.aload_n 0, 1) := by decide +kernel
theorem dX11_rest_11 : decode cX11_rest 11 = .ok (.iload_n 1, 1) := by decide +kernel
theorem dX11_rest_12 : decode cX11_rest 12 = .ok (.invokestatic 311, 3) := by decide +kernel
theorem dX11_rest_15 : decode cX11_rest 15 = .ok (.invokevirtual 108, 3) := by decide +kernel
theorem dX11_rest_18 : decode cX11_rest 18 = .ok (.ireturn, 1) := by decide +kernel
theorem dX11_breathes_0 : decode cX11_breathes 0 = .ok (.aload_n 0, 1) := by decide +kernel
theorem dX11_breathes_1 : decode cX11_breathes 1 = .ok (.iload_n 1, 1) := by decide +kernel
theorem dX11_breathes_2 : decode cX11_breathes 2 = .ok (.invokevirtual 158, 3) := by decide +kernel
theorem dX11_breathes_5 : decode cX11_breathes 5 = .ok (.ifCond .ne 10, 3) := by decide +kernel
theorem dX11_breathes_8 : decode cX11_breathes 8 = .ok (.aload_n 0, 1) := by decide +kernel
theorem dX11_breathes_9 : decode cX11_breathes 9 = .ok (.iconst 1, 1) := by decide +kernel
theorem dX11_breathes_10 : decode cX11_breathes 10 = .ok (.invokevirtual 70, 3) := by decide +kernel
theorem dX11_breathes_13 : decode cX11_breathes 13 = .ok (.i2l, 1) := by decide +kernel
theorem dX11_breathes_14 : decode cX11_breathes 14 = .ok (.lreturn, 1) := by decide +kernel
theorem dX11_breathes_15 : decode cX11_breathes 15 = .ok (.iload_n 2, 1) := by decide +kernel
theorem dX11_breathes_16 : decode cX11_breathes 16 = .ok (.ifCond .lt 8, 3) := by decide +kernel
theorem dX11_breathes_19 : decode cX11_breathes 19 = .ok (.iload_n 2, 1) := by decide +kernel
theorem dX11_breathes_20 : decode cX11_breathes 20 = .ok (.iconst 2, 1) := by decide +kernel
theorem dX11_breathes_21 : decode cX11_breathes 21 = .ok (.if_icmp .le 10, 3) := by decide +kernel
theorem dX11_breathes_24 : decode cX11_breathes 24 = .ok (.aload_n 0, 1) := by decide +kernel
theorem dX11_breathes_25 : decode cX11_breathes 25 = .ok (.iconst 2, 1) := by decide +kernel
theorem dX11_breathes_26 : decode cX11_breathes 26 = .ok (.invokevirtual 70, 3) := by decide +kernel
theorem dX11_breathes_29 : decode cX11_breathes 29 = .ok (.i2l, 1) := by decide +kernel
theorem dX11_breathes_30 : decode cX11_breathes 30 = .ok (.lreturn, 1) := by decide +kernel
theorem dX11_breathes_31 : decode cX11_breathes 31 = .ok (.aload_n 0, 1) := by decide +kernel
theorem dX11_breathes_32 : decode cX11_breathes 32 = .ok (.iconst 0, 1) := by decide +kernel
theorem dX11_breathes_33 : decode cX11_breathes 33 = .ok (.putfield 111, 3) := by decide +kernel
theorem dX11_breathes_36 : decode cX11_breathes 36 = .ok (.aload_n 0, 1) := by decide +kernel
theorem dX11_breathes_37 : decode cX11_breathes 37 = .ok (.getfield 53, 3) := by decide +kernel
theorem dX11_breathes_40 : decode cX11_breathes 40 = .ok (.getfield 120, 3) := by decide +kernel
theorem dX11_breathes_43 : decode cX11_breathes 43 = .ok (.getfield 314, 3) := by decide +kernel
theorem dX11_breathes_46 : decode cX11_breathes 46 = .ok (.iload_n 2, 1) := by decide +kernel
theorem dX11_breathes_47 : decode cX11_breathes 47 = .ok (.invokestatic 317, 3) := by decide +kernel
theorem dX11_breathes_50 : decode cX11_breathes 50 = .ok (.iload_n 2, 1) := by decide +kernel
theorem dX11_breathes_51 : decode cX11_breathes 51 = .ok (.invokestatic 323, 3) := by decide +kernel
theorem dX11_breathes_54 : decode cX11_breathes 54 = .ok (.iload_n 3, 1) := by decide +kernel
theorem dX11_breathes_55 : decode cX11_breathes 55 = .ok (.invokestatic 327, 3) := by decide +kernel
theorem dX11_breathes_58 : decode cX11_breathes 58 = .ok (.lreturn, 1) := by decide +kernel
theorem dX11_silent_0 : decode cX11_silent 0 = .ok (.aload_n 0, 1) := by decide +kernel
theorem dX11_silent_1 : decode cX11_silent 1 = .ok (.invokevirtual 183, 3) := by decide +kernel
theorem dX11_silent_4 : decode cX11_silent 4 = .ok (.ifCond .ne 10, 3) := by decide +kernel
theorem dX11_silent_7 : decode cX11_silent 7 = .ok (.aload_n 0, 1) := by decide +kernel
theorem dX11_silent_8 : decode cX11_silent 8 = .ok (.iconst 1, 1) := by decide +kernel
theorem dX11_silent_9 : decode cX11_silent 9 = .ok (.invokevirtual 70, 3) := by decide +kernel
theorem dX11_silent_12 : decode cX11_silent 12 = .ok (.i2l, 1) := by decide +kernel
theorem dX11_silent_13 : decode cX11_silent 13 = .ok (.lreturn, 1) := by decide +kernel
theorem dX11_silent_14 : decode cX11_silent 14 = .ok (.iload_n 1, 1) := by decide +kernel
theorem dX11_silent_15 : decode cX11_silent 15 = .ok (.ifCond .lt 8, 3) := by decide +kernel
theorem dX11_silent_18 : decode cX11_silent 18 = .ok (.iload_n 1, 1) := by decide +kernel
theorem dX11_silent_19 : decode cX11_silent 19 = .ok (.iconst 2, 1) := by decide +kernel
theorem dX11_silent_20 : decode cX11_silent 20 = .ok (.if_icmp .le 10, 3) := by decide +kernel
theorem dX11_silent_23 : decode cX11_silent 23 = .ok (.aload_n 0, 1) := by decide +kernel
theorem dX11_silent_24 : decode cX11_silent 24 = .ok (.iconst 2, 1) := by decide +kernel
theorem dX11_silent_25 : decode cX11_silent 25 = .ok (.invokevirtual 70, 3) := by decide +kernel
theorem dX11_silent_28 : decode cX11_silent 28 = .ok (.i2l, 1) := by decide +kernel
theorem dX11_silent_29 : decode cX11_silent 29 = .ok (.lreturn, 1) := by decide +kernel
theorem dX11_silent_30 : decode cX11_silent 30 = .ok (.aload_n 0, 1) := by decide +kernel
theorem dX11_silent_31 : decode cX11_silent 31 = .ok (.iconst 0, 1) := by decide +kernel
theorem dX11_silent_32 : decode cX11_silent 32 = .ok (.putfield 111, 3) := by decide +kernel
theorem dX11_silent_35 : decode cX11_silent 35 = .ok (.aload_n 0, 1) := by decide +kernel
theorem dX11_silent_36 : decode cX11_silent 36 = .ok (.getfield 53, 3) := by decide +kernel
theorem dX11_silent_39 : decode cX11_silent 39 = .ok (.getfield 120, 3) := by decide +kernel
theorem dX11_silent_42 : decode cX11_silent 42 = .ok (.getfield 314, 3) := by decide +kernel
theorem dX11_silent_45 : decode cX11_silent 45 = .ok (.iload_n 1, 1) := by decide +kernel
theorem dX11_silent_46 : decode cX11_silent 46 = .ok (.invokestatic 317, 3) := by decide +kernel
theorem dX11_silent_49 : decode cX11_silent 49 = .ok (.aload_n 0, 1) := by decide +kernel
theorem dX11_silent_50 : decode cX11_silent 50 = .ok (.invokevirtual 331, 3) := by decide +kernel
theorem dX11_silent_53 : decode cX11_silent 53 = .ok (.invokestatic 334, 3) := by decide +kernel
theorem dX11_silent_56 : decode cX11_silent 56 = .ok (.lstore_n 3, 1) := by decide +kernel
theorem dX11_silent_57 : decode cX11_silent 57 = .ok (.lload_n 3, 1) := by decide +kernel
theorem dX11_silent_58 : decode cX11_silent 58 = .ok (.iload_n 1, 1) := by decide +kernel
theorem dX11_silent_59 : decode cX11_silent 59 = .ok (.invokestatic 323, 3) := by decide +kernel
theorem dX11_silent_62 : decode cX11_silent 62 = .ok (.aload_n 0, 1) := by decide +kernel
theorem dX11_silent_63 : decode cX11_silent 63 = .ok (.invokevirtual 331, 3) := by decide +kernel
theorem dX11_silent_66 : decode cX11_silent 66 = .ok (.invokestatic 334, 3) := by decide +kernel
theorem dX11_silent_69 : decode cX11_silent 69 = .ok (.iload_n 2, 1) := by decide +kernel
theorem dX11_silent_70 : decode cX11_silent 70 = .ok (.invokestatic 327, 3) := by decide +kernel
theorem dX11_silent_73 : decode cX11_silent 73 = .ok (.lreturn, 1) := by decide +kernel
theorem dX11_mean_0 : decode cX11_mean 0 = .ok (.aload_n 0, 1) := by decide +kernel
theorem dX11_mean_1 : decode cX11_mean 1 = .ok (.invokevirtual 183, 3) := by decide +kernel
theorem dX11_mean_4 : decode cX11_mean 4 = .ok (.ifCond .ne 10, 3) := by decide +kernel
theorem dX11_mean_7 : decode cX11_mean 7 = .ok (.aload_n 0, 1) := by decide +kernel
theorem dX11_mean_8 : decode cX11_mean 8 = .ok (.iconst 1, 1) := by decide +kernel
theorem dX11_mean_9 : decode cX11_mean 9 = .ok (.invokevirtual 70, 3) := by decide +kernel
theorem dX11_mean_12 : decode cX11_mean 12 = .ok (.i2l, 1) := by decide +kernel
theorem dX11_mean_13 : decode cX11_mean 13 = .ok (.lreturn, 1) := by decide +kernel
theorem dX11_mean_14 : decode cX11_mean 14 = .ok (.iload_n 1, 1) := by decide +kernel
theorem dX11_mean_15 : decode cX11_mean 15 = .ok (.ifCond .lt 8, 3) := by decide +kernel
theorem dX11_mean_18 : decode cX11_mean 18 = .ok (.iload_n 1, 1) := by decide +kernel
theorem dX11_mean_19 : decode cX11_mean 19 = .ok (.iconst 2, 1) := by decide +kernel
theorem dX11_mean_20 : decode cX11_mean 20 = .ok (.if_icmp .le 10, 3) := by decide +kernel
theorem dX11_mean_23 : decode cX11_mean 23 = .ok (.aload_n 0, 1) := by decide +kernel
theorem dX11_mean_24 : decode cX11_mean 24 = .ok (.iconst 2, 1) := by decide +kernel
theorem dX11_mean_25 : decode cX11_mean 25 = .ok (.invokevirtual 70, 3) := by decide +kernel
theorem dX11_mean_28 : decode cX11_mean 28 = .ok (.i2l, 1) := by decide +kernel
theorem dX11_mean_29 : decode cX11_mean 29 = .ok (.lreturn, 1) := by decide +kernel
theorem dX11_mean_30 : decode cX11_mean 30 = .ok (.aload_n 0, 1) := by decide +kernel
theorem dX11_mean_31 : decode cX11_mean 31 = .ok (.iconst 0, 1) := by decide +kernel
theorem dX11_mean_32 : decode cX11_mean 32 = .ok (.putfield 111, 3) := by decide +kernel
theorem dX11_mean_35 : decode cX11_mean 35 = .ok (.aload_n 0, 1) := by decide +kernel
theorem dX11_mean_36 : decode cX11_mean 36 = .ok (.invokevirtual 338, 3) := by decide +kernel
theorem dX11_mean_39 : decode cX11_mean 39 = .ok (.i2l, 1) := by decide +kernel
theorem dX11_mean_40 : decode cX11_mean 40 = .ok (.aload_n 0, 1) := by decide +kernel
theorem dX11_mean_41 : decode cX11_mean 41 = .ok (.getfield 53, 3) := by decide +kernel
theorem dX11_mean_44 : decode cX11_mean 44 = .ok (.getfield 120, 3) := by decide +kernel
theorem dX11_mean_47 : decode cX11_mean 47 = .ok (.getfield 314, 3) := by decide +kernel
theorem dX11_mean_50 : decode cX11_mean 50 = .ok (.iload_n 1, 1) := by decide +kernel
theorem dX11_mean_51 : decode cX11_mean 51 = .ok (.invokestatic 317, 3) := by decide +kernel
theorem dX11_mean_54 : decode cX11_mean 54 = .ok (.lmul, 1) := by decide +kernel
theorem dX11_mean_55 : decode cX11_mean 55 = .ok (.lstore_n 3, 1) := by decide +kernel
theorem dX11_mean_56 : decode cX11_mean 56 = .ok (.lload_n 3, 1) := by decide +kernel
theorem dX11_mean_57 : decode cX11_mean 57 = .ok (.iload_n 1, 1) := by decide +kernel
theorem dX11_mean_58 : decode cX11_mean 58 = .ok (.invokestatic 323, 3) := by decide +kernel
theorem dX11_mean_61 : decode cX11_mean 61 = .ok (.iload_n 2, 1) := by decide +kernel
theorem dX11_mean_62 : decode cX11_mean 62 = .ok (.invokestatic 327, 3) := by decide +kernel
theorem dX11_mean_65 : decode cX11_mean 65 = .ok (.lreturn, 1) := by decide +kernel
theorem dX11_rambles_0 : decode cX11_rambles 0 = .ok (.aload_n 0, 1) := by decide +kernel
theorem dX11_rambles_1 : decode cX11_rambles 1 = .ok (.iload_n 1, 1) := by decide +kernel
theorem dX11_rambles_2 : decode cX11_rambles 2 = .ok (.invokevirtual 140, 3) := by decide +kernel
theorem dX11_rambles_5 : decode cX11_rambles 5 = .ok (.ifCond .ne 9, 3) := by decide +kernel
theorem dX11_rambles_8 : decode cX11_rambles 8 = .ok (.aload_n 0, 1) := by decide +kernel
theorem dX11_rambles_9 : decode cX11_rambles 9 = .ok (.iconst 1, 1) := by decide +kernel
theorem dX11_rambles_10 : decode cX11_rambles 10 = .ok (.invokevirtual 70, 3) := by decide +kernel
theorem dX11_rambles_13 : decode cX11_rambles 13 = .ok (.ireturn, 1) := by decide +kernel
theorem dX11_rambles_14 : decode cX11_rambles 14 = .ok (.iload_n 2, 1) := by decide +kernel
theorem dX11_rambles_15 : decode cX11_rambles 15 = .ok (.iload_n 3, 1) := by decide +kernel
theorem dX11_rambles_16 : decode cX11_rambles 16 = .ok (.invokestatic 341, 3) := by decide +kernel
theorem dX11_rambles_19 : decode cX11_rambles 19 = .ok (.ifCond .ne 9, 3) := by decide +kernel
theorem dX11_rambles_22 : decode cX11_rambles 22 = .ok (.aload_n 0, 1) := by decide +kernel
theorem dX11_rambles_23 : decode cX11_rambles 23 = .ok (.iconst 2, 1) := by decide +kernel
theorem dX11_rambles_24 : decode cX11_rambles 24 = .ok (.invokevirtual 70, 3) := by decide +kernel
theorem dX11_rambles_27 : decode cX11_rambles 27 = .ok (.ireturn, 1) := by decide +kernel
theorem dX11_rambles_28 : decode cX11_rambles 28 = .ok (.aload_n 0, 1) := by decide +kernel
theorem dX11_rambles_29 : decode cX11_rambles 29 = .ok (.getfield 19, 3) := by decide +kernel
theorem dX11_rambles_32 : decode cX11_rambles 32 = .ok (.aload_n 0, 1) := by decide +kernel
theorem dX11_rambles_33 : decode cX11_rambles 33 = .ok (.getfield 53, 3) := by decide +kernel
theorem dX11_rambles_36 : decode cX11_rambles 36 = .ok (.invokevirtual 232, 3) := by decide +kernel
theorem dX11_rambles_39 : decode cX11_rambles 39 = .ok (.aload_n 0, 1) := by decide +kernel
theorem dX11_rambles_40 : decode cX11_rambles 40 = .ok (.getfield 19, 3) := by decide +kernel
theorem dX11_rambles_43 : decode cX11_rambles 43 = .ok (.iload_n 2, 1) := by decide +kernel
theorem dX11_rambles_44 : decode cX11_rambles 44 = .ok (.iload_n 3, 1) := by decide +kernel
theorem dX11_rambles_45 : decode cX11_rambles 45 = .ok (.invokevirtual 344, 3) := by decide +kernel
theorem dX11_rambles_48 : decode cX11_rambles 48 = .ok (.aload_n 0, 1) := by decide +kernel
theorem dX11_rambles_49 : decode cX11_rambles 49 = .ok (.aload_n 0, 1) := by decide +kernel
theorem dX11_rambles_50 : decode cX11_rambles 50 = .ok (.getfield 19, 3) := by decide +kernel
theorem dX11_rambles_53 : decode cX11_rambles 53 = .ok (.getfield 239, 3) := by decide +kernel
theorem dX11_rambles_56 : decode cX11_rambles 56 = .ok (.iload_n 1, 1) := by decide +kernel
theorem dX11_rambles_57 : decode cX11_rambles 57 = .ok (.invokevirtual 146, 3) := by decide +kernel
theorem dX11_rambles_60 : decode cX11_rambles 60 = .ok (.invokevirtual 108, 3) := by decide +kernel
theorem dX11_rambles_63 : decode cX11_rambles 63 = .ok (.ireturn, 1) := by decide +kernel
theorem dX11_stands_0 : decode cX11_stands 0 = .ok (.aload_n 0, 1) := by decide +kernel
theorem dX11_stands_1 : decode cX11_stands 1 = .ok (.iload_n 1, 1) := by decide +kernel
theorem dX11_stands_2 : decode cX11_stands 2 = .ok (.invokevirtual 158, 3) := by decide +kernel
theorem dX11_stands_5 : decode cX11_stands 5 = .ok (.ifCond .ne 9, 3) := by decide +kernel
theorem dX11_stands_8 : decode cX11_stands 8 = .ok (.aload_n 0, 1) := by decide +kernel
theorem dX11_stands_9 : decode cX11_stands 9 = .ok (.iconst 1, 1) := by decide +kernel
theorem dX11_stands_10 : decode cX11_stands 10 = .ok (.invokevirtual 70, 3) := by decide +kernel
theorem dX11_stands_13 : decode cX11_stands 13 = .ok (.ireturn, 1) := by decide +kernel
theorem dX11_stands_14 : decode cX11_stands 14 = .ok (.iload_n 2, 1) := by decide +kernel
theorem dX11_stands_15 : decode cX11_stands 15 = .ok (.iload_n 3, 1) := by decide +kernel
theorem dX11_stands_16 : decode cX11_stands 16 = .ok (.invokestatic 341, 3) := by decide +kernel
theorem dX11_stands_19 : decode cX11_stands 19 = .ok (.ifCond .ne 9, 3) := by decide +kernel
theorem dX11_stands_22 : decode cX11_stands 22 = .ok (.aload_n 0, 1) := by decide +kernel
theorem dX11_stands_23 : decode cX11_stands 23 = .ok (.iconst 2, 1) := by decide +kernel
theorem dX11_stands_24 : decode cX11_stands 24 = .ok (.invokevirtual 70, 3) := by decide +kernel
theorem dX11_stands_27 : decode cX11_stands 27 = .ok (.ireturn, 1) := by decide +kernel
theorem dX11_stands_28 : decode cX11_stands 28 = .ok (.aload_n 0, 1) := by decide +kernel
theorem dX11_stands_29 : decode cX11_stands 29 = .ok (.getfield 19, 3) := by decide +kernel
theorem dX11_stands_32 : decode cX11_stands 32 = .ok (.aload_n 0, 1) := by decide +kernel
theorem dX11_stands_33 : decode cX11_stands 33 = .ok (.getfield 53, 3) := by decide +kernel
theorem dX11_stands_36 : decode cX11_stands 36 = .ok (.invokevirtual 232, 3) := by decide +kernel
theorem dX11_stands_39 : decode cX11_stands 39 = .ok (.aload_n 0, 1) := by decide +kernel
theorem dX11_stands_40 : decode cX11_stands 40 = .ok (.getfield 19, 3) := by decide +kernel
theorem dX11_stands_43 : decode cX11_stands 43 = .ok (.iload_n 2, 1) := by decide +kernel
theorem dX11_stands_44 : decode cX11_stands 44 = .ok (.iload_n 3, 1) := by decide +kernel
theorem dX11_stands_45 : decode cX11_stands 45 = .ok (.invokevirtual 344, 3) := by decide +kernel
theorem dX11_stands_48 : decode cX11_stands 48 = .ok (.aload_n 0, 1) := by decide +kernel
theorem dX11_stands_49 : decode cX11_stands 49 = .ok (.aload_n 0, 1) := by decide +kernel
theorem dX11_stands_50 : decode cX11_stands 50 = .ok (.getfield 19, 3) := by decide +kernel
theorem dX11_stands_53 : decode cX11_stands 53 = .ok (.getfield 239, 3) := by decide +kernel
theorem dX11_stands_56 : decode cX11_stands 56 = .ok (.iload_n 1, 1) := by decide +kernel
theorem dX11_stands_57 : decode cX11_stands 57 = .ok (.invokevirtual 173, 3) := by decide +kernel
theorem dX11_stands_60 : decode cX11_stands 60 = .ok (.invokevirtual 108, 3) := by decide +kernel
theorem dX11_stands_63 : decode cX11_stands 63 = .ok (.ireturn, 1) := by decide +kernel
theorem dX11_meet_0 : decode cX11_meet 0 = .ok (.aload_n 0, 1) := by decide +kernel
theorem dX11_meet_1 : decode cX11_meet 1 = .ok (.invokevirtual 183, 3) := by decide +kernel
theorem dX11_meet_4 : decode cX11_meet 4 = .ok (.ifCond .ne 9, 3) := by decide +kernel
theorem dX11_meet_7 : decode cX11_meet 7 = .ok (.aload_n 0, 1) := by decide +kernel
theorem dX11_meet_8 : decode cX11_meet 8 = .ok (.iconst 1, 1) := by decide +kernel
theorem dX11_meet_9 : decode cX11_meet 9 = .ok (.invokevirtual 70, 3) := by decide +kernel
theorem dX11_meet_12 : decode cX11_meet 12 = .ok (.ireturn, 1) := by decide +kernel
theorem dX11_meet_13 : decode cX11_meet 13 = .ok (.iload_n 1, 1) := by decide +kernel
theorem dX11_meet_14 : decode cX11_meet 14 = .ok (.iload_n 2, 1) := by decide +kernel
theorem dX11_meet_15 : decode cX11_meet 15 = .ok (.invokestatic 341, 3) := by decide +kernel
theorem dX11_meet_18 : decode cX11_meet 18 = .ok (.ifCond .ne 9, 3) := by decide +kernel
theorem dX11_meet_21 : decode cX11_meet 21 = .ok (.aload_n 0, 1) := by decide +kernel
theorem dX11_meet_22 : decode cX11_meet 22 = .ok (.iconst 2, 1) := by decide +kernel
theorem dX11_meet_23 : decode cX11_meet 23 = .ok (.invokevirtual 70, 3) := by decide +kernel
theorem dX11_meet_26 : decode cX11_meet 26 = .ok (.ireturn, 1) := by decide +kernel
theorem dX11_meet_27 : decode cX11_meet 27 = .ok (.aload_n 0, 1) := by decide +kernel
theorem dX11_meet_28 : decode cX11_meet 28 = .ok (.getfield 19, 3) := by decide +kernel
theorem dX11_meet_31 : decode cX11_meet 31 = .ok (.aload_n 0, 1) := by decide +kernel
theorem dX11_meet_32 : decode cX11_meet 32 = .ok (.getfield 53, 3) := by decide +kernel
theorem dX11_meet_35 : decode cX11_meet 35 = .ok (.invokevirtual 232, 3) := by decide +kernel
theorem dX11_meet_38 : decode cX11_meet 38 = .ok (.aload_n 0, 1) := by decide +kernel
theorem dX11_meet_39 : decode cX11_meet 39 = .ok (.aload_n 0, 1) := by decide +kernel
theorem dX11_meet_40 : decode cX11_meet 40 = .ok (.getfield 19, 3) := by decide +kernel
theorem dX11_meet_43 : decode cX11_meet 43 = .ok (.iload_n 1, 1) := by decide +kernel
theorem dX11_meet_44 : decode cX11_meet 44 = .ok (.iload_n 2, 1) := by decide +kernel
theorem dX11_meet_45 : decode cX11_meet 45 = .ok (.invokevirtual 348, 3) := by decide +kernel
theorem dX11_meet_48 : decode cX11_meet 48 = .ok (.invokevirtual 108, 3) := by decide +kernel
theorem dX11_meet_51 : decode cX11_meet 51 = .ok (.ireturn, 1) := by decide +kernel
theorem dX11_step_0 : decode cX11_step 0 = .ok (.aload_n 0, 1) := by decide +kernel
theorem dX11_step_1 : decode cX11_step 1 = .ok (.iload_n 1, 1) := by decide +kernel
theorem dX11_step_2 : decode cX11_step 2 = .ok (.invokevirtual 140, 3) := by decide +kernel
theorem dX11_step_5 : decode cX11_step 5 = .ok (.ifCond .eq 11, 3) := by decide +kernel
theorem dX11_step_8 : decode cX11_step 8 = .ok (.aload_n 0, 1) := by decide +kernel
theorem dX11_step_9 : decode cX11_step 9 = .ok (.iload_n 2, 1) := by decide +kernel
theorem dX11_step_10 : decode cX11_step 10 = .ok (.invokevirtual 114, 3) := by decide +kernel
theorem dX11_step_13 : decode cX11_step 13 = .ok (.ifCond .ne 9, 3) := by decide +kernel
theorem dX11_step_16 : decode cX11_step 16 = .ok (.aload_n 0, 1) := by decide +kernel
theorem dX11_step_17 : decode cX11_step 17 = .ok (.iconst 1, 1) := by decide +kernel
theorem dX11_step_18 : decode cX11_step 18 = .ok (.invokevirtual 70, 3) := by decide +kernel
theorem dX11_step_21 : decode cX11_step 21 = .ok (.ireturn, 1) := by decide +kernel
theorem dX11_step_22 : decode cX11_step 22 = .ok (.aload_n 0, 1) := by decide +kernel
theorem dX11_step_23 : decode cX11_step 23 = .ok (.getfield 53, 3) := by decide +kernel
theorem dX11_step_26 : decode cX11_step 26 = .ok (.iload_n 1, 1) := by decide +kernel
theorem dX11_step_27 : decode cX11_step 27 = .ok (.iload_n 2, 1) := by decide +kernel
theorem dX11_step_28 : decode cX11_step 28 = .ok (.invokevirtual 351, 3) := by decide +kernel
theorem dX11_step_31 : decode cX11_step 31 = .ok (.ifCond .ne 9, 3) := by decide +kernel
theorem dX11_step_34 : decode cX11_step 34 = .ok (.aload_n 0, 1) := by decide +kernel
theorem dX11_step_35 : decode cX11_step 35 = .ok (.iconst 5, 1) := by decide +kernel
theorem dX11_step_36 : decode cX11_step 36 = .ok (.invokevirtual 70, 3) := by decide +kernel
theorem dX11_step_39 : decode cX11_step 39 = .ok (.ireturn, 1) := by decide +kernel
theorem dX11_step_40 : decode cX11_step 40 = .ok (.aload_n 0, 1) := by decide +kernel
theorem dX11_step_41 : decode cX11_step 41 = .ok (.getfield 19, 3) := by decide +kernel
theorem dX11_step_44 : decode cX11_step 44 = .ok (.aload_n 0, 1) := by decide +kernel
theorem dX11_step_45 : decode cX11_step 45 = .ok (.getfield 53, 3) := by decide +kernel
theorem dX11_step_48 : decode cX11_step 48 = .ok (.invokevirtual 232, 3) := by decide +kernel
theorem dX11_step_51 : decode cX11_step 51 = .ok (.aload_n 0, 1) := by decide +kernel
theorem dX11_step_52 : decode cX11_step 52 = .ok (.getfield 33, 3) := by decide +kernel
theorem dX11_step_55 : decode cX11_step 55 = .ok (.iconst 0, 1) := by decide +kernel
theorem dX11_step_56 : decode cX11_step 56 = .ok (.iload_n 1, 1) := by decide +kernel
theorem dX11_step_57 : decode cX11_step 57 = .ok (.aload_n 0, 1) := by decide +kernel
theorem dX11_step_58 : decode cX11_step 58 = .ok (.getfield 53, 3) := by decide +kernel
theorem dX11_step_61 : decode cX11_step 61 = .ok (.iload_n 1, 1) := by decide +kernel
theorem dX11_step_62 : decode cX11_step 62 = .ok (.bipush 7, 2) := by decide +kernel
theorem dX11_step_64 : decode cX11_step 64 = .ok (.invokevirtual 180, 3) := by decide +kernel
theorem dX11_step_67 : decode cX11_step 67 = .ok (.invokevirtual 354, 3) := by decide +kernel
theorem dX11_step_70 : decode cX11_step 70 = .ok (.aload_n 0, 1) := by decide +kernel
theorem dX11_step_71 : decode cX11_step 71 = .ok (.getfield 53, 3) := by decide +kernel
theorem dX11_step_74 : decode cX11_step 74 = .ok (.iload_n 1, 1) := by decide +kernel
theorem dX11_step_75 : decode cX11_step 75 = .ok (.iload_n 2, 1) := by decide +kernel
theorem dX11_step_76 : decode cX11_step 76 = .ok (.invokevirtual 358, 3) := by decide +kernel
theorem dX11_step_79 : decode cX11_step 79 = .ok (.aload_n 0, 1) := by decide +kernel
theorem dX11_step_80 : decode cX11_step 80 = .ok (.getfield 53, 3) := by decide +kernel
theorem dX11_step_83 : decode cX11_step 83 = .ok (.dup, 1) := by decide +kernel
theorem dX11_step_84 : decode cX11_step 84 = .ok (.getfield 361, 3) := by decide +kernel
theorem dX11_step_87 : decode cX11_step 87 = .ok (.iconst 1, 1) := by decide +kernel
theorem dX11_step_88 : decode cX11_step 88 = .ok (.iadd, 1) := by decide +kernel
theorem dX11_step_89 : decode cX11_step 89 = .ok (.putfield 361, 3) := by decide +kernel
theorem dX11_step_92 : decode cX11_step 92 = .ok (.aload_n 0, 1) := by decide +kernel
theorem dX11_step_93 : decode cX11_step 93 = .ok (.aload_n 0, 1) := by decide +kernel
theorem dX11_step_94 : decode cX11_step 94 = .ok (.getfield 53, 3) := by decide +kernel
theorem dX11_step_97 : decode cX11_step 97 = .ok (.aload_n 0, 1) := by decide +kernel
theorem dX11_step_98 : decode cX11_step 98 = .ok (.getfield 19, 3) := by decide +kernel
theorem dX11_step_101 : decode cX11_step 101 = .ok (.getfield 239, 3) := by decide +kernel
theorem dX11_step_104 : decode cX11_step 104 = .ok (.invokevirtual 364, 3) := by decide +kernel
theorem dX11_step_107 : decode cX11_step 107 = .ok (.invokevirtual 108, 3) := by decide +kernel
theorem dX11_step_110 : decode cX11_step 110 = .ok (.ireturn, 1) := by decide +kernel
theorem dX11_take_0 : decode cX11_take 0 = .ok (.aload_n 0, 1) := by decide +kernel
theorem dX11_take_1 : decode cX11_take 1 = .ok (.iload_n 1, 1) := by decide +kernel
theorem dX11_take_2 : decode cX11_take 2 = .ok (.invokevirtual 158, 3) := by decide +kernel
theorem dX11_take_5 : decode cX11_take 5 = .ok (.ifCond .eq 11, 3) := by decide +kernel
theorem dX11_take_8 : decode cX11_take 8 = .ok (.aload_n 0, 1) := by decide +kernel
theorem dX11_take_9 : decode cX11_take 9 = .ok (.iload_n 2, 1) := by decide +kernel
theorem dX11_take_10 : decode cX11_take 10 = .ok (.invokevirtual 140, 3) := by decide +kernel
theorem dX11_take_13 : decode cX11_take 13 = .ok (.ifCond .ne 9, 3) := by decide +kernel
theorem dX11_take_16 : decode cX11_take 16 = .ok (.aload_n 0, 1) := by decide +kernel
theorem dX11_take_17 : decode cX11_take 17 = .ok (.iconst 1, 1) := by decide +kernel
theorem dX11_take_18 : decode cX11_take 18 = .ok (.invokevirtual 70, 3) := by decide +kernel
theorem dX11_take_21 : decode cX11_take 21 = .ok (.ireturn, 1) := by decide +kernel
theorem dX11_take_22 : decode cX11_take 22 = .ok (.aload_n 0, 1) := by decide +kernel
theorem dX11_take_23 : decode cX11_take 23 = .ok (.getfield 53, 3) := by decide +kernel
theorem dX11_take_26 : decode cX11_take 26 = .ok (.getfield 164, 3) := by decide +kernel
theorem dX11_take_29 : decode cX11_take 29 = .ok (.iload_n 1, 1) := by decide +kernel
theorem dX11_take_30 : decode cX11_take 30 = .ok (.iaload, 1) := by decide +kernel
theorem dX11_take_31 : decode cX11_take 31 = .ok (.iload_n 2, 1) := by decide +kernel
theorem dX11_take_32 : decode cX11_take 32 = .ok (.if_icmp .ne 9, 3) := by decide +kernel
theorem dX11_take_35 : decode cX11_take 35 = .ok (.aload_n 0, 1) := by decide +kernel
theorem dX11_take_36 : decode cX11_take 36 = .ok (.iconst 5, 1) := by decide +kernel
theorem dX11_take_37 : decode cX11_take 37 = .ok (.invokevirtual 70, 3) := by decide +kernel
theorem dX11_take_40 : decode cX11_take 40 = .ok (.ireturn, 1) := by decide +kernel
theorem dX11_take_41 : decode cX11_take 41 = .ok (.aload_n 0, 1) := by decide +kernel
theorem dX11_take_42 : decode cX11_take 42 = .ok (.getfield 33, 3) := by decide +kernel
theorem dX11_take_45 : decode cX11_take 45 = .ok (.iconst 1, 1) := by decide +kernel
theorem dX11_take_46 : decode cX11_take 46 = .ok (.iload_n 1, 1) := by decide +kernel
theorem dX11_take_47 : decode cX11_take 47 = .ok (.aload_n 0, 1) := by decide +kernel
theorem dX11_take_48 : decode cX11_take 48 = .ok (.getfield 53, 3) := by decide +kernel
theorem dX11_take_51 : decode cX11_take 51 = .ok (.getfield 164, 3) := by decide +kernel
theorem dX11_take_54 : decode cX11_take 54 = .ok (.iload_n 1, 1) := by decide +kernel
theorem dX11_take_55 : decode cX11_take 55 = .ok (.iaload, 1) := by decide +kernel
theorem dX11_take_56 : decode cX11_take 56 = .ok (.invokevirtual 354, 3) := by decide +kernel
theorem dX11_take_59 : decode cX11_take 59 = .ok (.aload_n 0, 1) := by decide +kernel
theorem dX11_take_60 : decode cX11_take 60 = .ok (.getfield 53, 3) := by decide +kernel
theorem dX11_take_63 : decode cX11_take 63 = .ok (.getfield 164, 3) := by decide +kernel
theorem dX11_take_66 : decode cX11_take 66 = .ok (.iload_n 1, 1) := by decide +kernel
theorem dX11_take_67 : decode cX11_take 67 = .ok (.iload_n 2, 1) := by decide +kernel
theorem dX11_take_68 : decode cX11_take 68 = .ok (.iastore, 1) := by decide +kernel
theorem dX11_take_69 : decode cX11_take 69 = .ok (.aload_n 0, 1) := by decide +kernel
theorem dX11_take_70 : decode cX11_take 70 = .ok (.aload_n 0, 1) := by decide +kernel
theorem dX11_take_71 : decode cX11_take 71 = .ok (.getfield 53, 3) := by decide +kernel
theorem dX11_take_74 : decode cX11_take 74 = .ok (.iload_n 1, 1) := by decide +kernel
theorem dX11_take_75 : decode cX11_take 75 = .ok (.invokevirtual 173, 3) := by decide +kernel
theorem dX11_take_78 : decode cX11_take 78 = .ok (.invokevirtual 108, 3) := by decide +kernel
theorem dX11_take_81 : decode cX11_take 81 = .ok (.ireturn, 1) := by decide +kernel
theorem dX11_light_0 : decode cX11_light 0 = .ok (.aload_n 0, 1) := by decide +kernel
theorem dX11_light_1 : decode cX11_light 1 = .ok (.iload_n 1, 1) := by decide +kernel
theorem dX11_light_2 : decode cX11_light 2 = .ok (.invokevirtual 114, 3) := by decide +kernel
theorem dX11_light_5 : decode cX11_light 5 = .ok (.ifCond .ne 9, 3) := by decide +kernel
theorem dX11_light_8 : decode cX11_light 8 = .ok (.aload_n 0, 1) := by decide +kernel
theorem dX11_light_9 : decode cX11_light 9 = .ok (.iconst 1, 1) := by decide +kernel
theorem dX11_light_10 : decode cX11_light 10 = .ok (.invokevirtual 367, 3) := by decide +kernel
theorem dX11_light_13 : decode cX11_light 13 = .ok (.ireturn, 1) := by decide +kernel
theorem dX11_light_14 : decode cX11_light 14 = .ok (.aload_n 0, 1) := by decide +kernel
theorem dX11_light_15 : decode cX11_light 15 = .ok (.getfield 53, 3) := by decide +kernel
theorem dX11_light_18 : decode cX11_light 18 = .ok (.iload_n 1, 1) := by decide +kernel
theorem dX11_light_19 : decode cX11_light 19 = .ok (.invokevirtual 117, 3) := by decide +kernel
theorem dX11_light_22 : decode cX11_light 22 = .ok (.iload_n 2, 1) := by decide +kernel
theorem dX11_light_23 : decode cX11_light 23 = .ok (.if_icmp .ne 9, 3) := by decide +kernel
theorem dX11_light_26 : decode cX11_light 26 = .ok (.aload_n 0, 1) := by decide +kernel
theorem dX11_light_27 : decode cX11_light 27 = .ok (.iconst 5, 1) := by decide +kernel
theorem dX11_light_28 : decode cX11_light 28 = .ok (.invokevirtual 367, 3) := by decide +kernel
theorem dX11_light_31 : decode cX11_light 31 = .ok (.ireturn, 1) := by decide +kernel
theorem dX11_light_32 : decode cX11_light 32 = .ok (.aload_n 0, 1) := by decide +kernel
theorem dX11_light_33 : decode cX11_light 33 = .ok (.getfield 33, 3) := by decide +kernel
theorem dX11_light_36 : decode cX11_light 36 = .ok (.iconst 2, 1) := by decide +kernel
theorem dX11_light_37 : decode cX11_light 37 = .ok (.iload_n 1, 1) := by decide +kernel
theorem dX11_light_38 : decode cX11_light 38 = .ok (.iconst 0, 1) := by decide +kernel
theorem dX11_light_39 : decode cX11_light 39 = .ok (.invokevirtual 354, 3) := by decide +kernel
theorem dX11_light_42 : decode cX11_light 42 = .ok (.aload_n 0, 1) := by decide +kernel
theorem dX11_light_43 : decode cX11_light 43 = .ok (.getfield 53, 3) := by decide +kernel
theorem dX11_light_46 : decode cX11_light 46 = .ok (.iload_n 1, 1) := by decide +kernel
theorem dX11_light_47 : decode cX11_light 47 = .ok (.invokevirtual 370, 3) := by decide +kernel
theorem dX11_light_50 : decode cX11_light 50 = .ok (.aload_n 0, 1) := by decide +kernel
theorem dX11_light_51 : decode cX11_light 51 = .ok (.iconst 0, 1) := by decide +kernel
theorem dX11_light_52 : decode cX11_light 52 = .ok (.invokevirtual 367, 3) := by decide +kernel
theorem dX11_light_55 : decode cX11_light 55 = .ok (.ireturn, 1) := by decide +kernel
theorem dX11_undo_0 : decode cX11_undo 0 = .ok (.aload_n 0, 1) := by decide +kernel
theorem dX11_undo_1 : decode cX11_undo 1 = .ok (.aload_n 0, 1) := by decide +kernel
theorem dX11_undo_2 : decode cX11_undo 2 = .ok (.getfield 33, 3) := by decide +kernel
theorem dX11_undo_5 : decode cX11_undo 5 = .ok (.aload_n 0, 1) := by decide +kernel
theorem dX11_undo_6 : decode cX11_undo 6 = .ok (.getfield 53, 3) := by decide +kernel
theorem dX11_undo_9 : decode cX11_undo 9 = .ok (.invokevirtual 373, 3) := by decide +kernel
theorem dX11_undo_12 : decode cX11_undo 12 = .ok (.ifCond .eq 7, 3) := by decide +kernel
theorem dX11_undo_15 : decode cX11_undo 15 = .ok (.iconst 0, 1) := by decide +kernel
theorem dX11_undo_16 : decode cX11_undo 16 = .ok (.goto 5, 3) := by decide +kernel
theorem dX11_undo_19 : decode cX11_undo 19 = .ok (.bipush 6, 2) := by decide +kernel
theorem dX11_undo_21 : decode cX11_undo 21 = .ok (.invokevirtual 367, 3) := by decide +kernel
theorem dX11_undo_24 : decode cX11_undo 24 = .ok (.ireturn, 1) := by decide +kernel
theorem dX11_image_0 : decode cX11_image 0 = .ok (.aload_n 0, 1) := by decide +kernel
theorem dX11_image_1 : decode cX11_image 1 = .ok (.invokevirtual 183, 3) := by decide +kernel
theorem dX11_image_4 : decode cX11_image 4 = .ok (.ifCond .ne 9, 3) := by decide +kernel
theorem dX11_image_7 : decode cX11_image 7 = .ok (.aload_n 0, 1) := by decide +kernel
theorem dX11_image_8 : decode cX11_image 8 = .ok (.iconst 1, 1) := by decide +kernel
theorem dX11_image_9 : decode cX11_image 9 = .ok (.invokevirtual 70, 3) := by decide +kernel
theorem dX11_image_12 : decode cX11_image 12 = .ok (.ireturn, 1) := by decide +kernel
theorem dX11_image_13 : decode cX11_image 13 = .ok (.aload_n 0, 1) := by decide +kernel
theorem dX11_image_14 : decode cX11_image 14 = .ok (.getfield 101, 3) := by decide +kernel
theorem dX11_image_17 : decode cX11_image 17 = .ok (.iconst 3, 1) := by decide +kernel
theorem dX11_image_18 : decode cX11_image 18 = .ok (.if_icmp .lt 9, 3) := by decide +kernel
theorem dX11_image_21 : decode cX11_image 21 = .ok (.aload_n 0, 1) := by decide +kernel
theorem dX11_image_22 : decode cX11_image 22 = .ok (.iconst 3, 1) := by decide +kernel
theorem dX11_image_23 : decode cX11_image 23 = .ok (.invokevirtual 70, 3) := by decide +kernel
theorem dX11_image_26 : decode cX11_image 26 = .ok (.ireturn, 1) := by decide +kernel
theorem dX11_image_27 : decode cX11_image 27 = .ok (.aload_n 0, 1) := by decide +kernel
theorem dX11_image_28 : decode cX11_image 28 = .ok (.getfield 39, 3) := by decide +kernel
theorem dX11_image_31 : decode cX11_image 31 = .ok (.aload_n 0, 1) := by decide +kernel
theorem dX11_image_32 : decode cX11_image 32 = .ok (.getfield 101, 3) := by decide +kernel
theorem dX11_image_35 : decode cX11_image 35 = .ok (.aaload, 1) := by decide +kernel
theorem dX11_image_36 : decode cX11_image 36 = .ok (.aload_n 0, 1) := by decide +kernel
theorem dX11_image_37 : decode cX11_image 37 = .ok (.getfield 53, 3) := by decide +kernel
theorem dX11_image_40 : decode cX11_image 40 = .ok (.invokevirtual 94, 3) := by decide +kernel
theorem dX11_image_43 : decode cX11_image 43 = .ok (.aload_n 0, 1) := by decide +kernel
theorem dX11_image_44 : decode cX11_image 44 = .ok (.dup, 1) := by decide +kernel
theorem dX11_image_45 : decode cX11_image 45 = .ok (.getfield 101, 3) := by decide +kernel
theorem dX11_image_48 : decode cX11_image 48 = .ok (.iconst 1, 1) := by decide +kernel
theorem dX11_image_49 : decode cX11_image 49 = .ok (.iadd, 1) := by decide +kernel
theorem dX11_image_50 : decode cX11_image 50 = .ok (.putfield 101, 3) := by decide +kernel
theorem dX11_image_53 : decode cX11_image 53 = .ok (.aload_n 0, 1) := by decide +kernel
theorem dX11_image_54 : decode cX11_image 54 = .ok (.aload_n 0, 1) := by decide +kernel
theorem dX11_image_55 : decode cX11_image 55 = .ok (.getfield 101, 3) := by decide +kernel
theorem dX11_image_58 : decode cX11_image 58 = .ok (.iconst 1, 1) := by decide +kernel
theorem dX11_image_59 : decode cX11_image 59 = .ok (.isub, 1) := by decide +kernel
theorem dX11_image_60 : decode cX11_image 60 = .ok (.invokevirtual 108, 3) := by decide +kernel
theorem dX11_image_63 : decode cX11_image 63 = .ok (.ireturn, 1) := by decide +kernel
theorem dX11_back_0 : decode cX11_back 0 = .ok (.iload_n 1, 1) := by decide +kernel
theorem dX11_back_1 : decode cX11_back 1 = .ok (.ifCond .lt 11, 3) := by decide +kernel
theorem dX11_back_4 : decode cX11_back 4 = .ok (.iload_n 1, 1) := by decide +kernel
theorem dX11_back_5 : decode cX11_back 5 = .ok (.aload_n 0, 1) := by decide +kernel
theorem dX11_back_6 : decode cX11_back 6 = .ok (.getfield 101, 3) := by decide +kernel
theorem dX11_back_9 : decode cX11_back 9 = .ok (.if_icmp .lt 9, 3) := by decide +kernel
theorem dX11_back_12 : decode cX11_back 12 = .ok (.aload_n 0, 1) := by decide +kernel
theorem dX11_back_13 : decode cX11_back 13 = .ok (.iconst 1, 1) := by decide +kernel
theorem dX11_back_14 : decode cX11_back 14 = .ok (.invokevirtual 367, 3) := by decide +kernel
theorem dX11_back_17 : decode cX11_back 17 = .ok (.ireturn, 1) := by decide +kernel
theorem dX11_back_18 : decode cX11_back 18 = .ok (.aload_n 0, 1) := by decide +kernel
theorem dX11_back_19 : decode cX11_back 19 = .ok (.getfield 53, 3) := by decide +kernel
theorem dX11_back_22 : decode cX11_back 22 = .ok (.aload_n 0, 1) := by decide +kernel
theorem dX11_back_23 : decode cX11_back 23 = .ok (.getfield 39, 3) := by decide +kernel
theorem dX11_back_26 : decode cX11_back 26 = .ok (.iload_n 1, 1) := by decide +kernel
theorem dX11_back_27 : decode cX11_back 27 = .ok (.aaload, 1) := by decide +kernel
theorem dX11_back_28 : decode cX11_back 28 = .ok (.invokevirtual 94, 3) := by decide +kernel
theorem dX11_back_31 : decode cX11_back 31 = .ok (.aload_n 0, 1) := by decide +kernel
theorem dX11_back_32 : decode cX11_back 32 = .ok (.getfield 33, 3) := by decide +kernel
theorem dX11_back_35 : decode cX11_back 35 = .ok (.invokevirtual 98, 3) := by decide +kernel
theorem dX11_back_38 : decode cX11_back 38 = .ok (.aload_n 0, 1) := by decide +kernel
theorem dX11_back_39 : decode cX11_back 39 = .ok (.iconst 0, 1) := by decide +kernel
theorem dX11_back_40 : decode cX11_back 40 = .ok (.invokevirtual 367, 3) := by decide +kernel
theorem dX11_back_43 : decode cX11_back 43 = .ok (.ireturn, 1) := by decide +kernel
theorem dX11_led_0 : decode cX11_led 0 = .ok (.aload_n 0, 1) := by decide +kernel
theorem dX11_led_1 : decode cX11_led 1 = .ok (.getfield 53, 3) := by decide +kernel
theorem dX11_led_4 : decode cX11_led 4 = .ok (.iload_n 1, 1) := by decide +kernel
theorem dX11_led_5 : decode cX11_led 5 = .ok (.invokevirtual 377, 3) := by decide +kernel
theorem dX11_led_8 : decode cX11_led 8 = .ok (.istore_n 2, 1) := by decide +kernel
theorem dX11_led_9 : decode cX11_led 9 = .ok (.iload_n 2, 1) := by decide +kernel
theorem dX11_led_10 : decode cX11_led 10 = .ok (.ifCond .ge 14, 3) := by decide +kernel
theorem dX11_led_13 : decode cX11_led 13 = .ok (.new 380, 3) := by decide +kernel
theorem dX11_led_16 : decode cX11_led 16 = .ok (.dup, 1) := by decide +kernel
theorem dX11_led_17 : decode cX11_led 17 = .ok (.ldc_w 382, 3) := by decide +kernel
theorem dX11_led_20 : decode cX11_led 20 = .ok (.invokespecial 384, 3) := by decide +kernel
theorem dX11_led_23 : decode cX11_led 23 = .ok (.athrow, 1) := by decide +kernel
theorem dX11_led_24 : decode cX11_led 24 = .ok (.iload_n 2, 1) := by decide +kernel
theorem dX11_led_25 : decode cX11_led 25 = .ok (.ireturn, 1) := by decide +kernel
theorem dX11_size_0 : decode cX11_size 0 = .ok (.iload_n 1, 1) := by decide +kernel
theorem dX11_size_1 : decode cX11_size 1 = .ok (.ifCond .le 22, 3) := by decide +kernel
theorem dX11_size_4 : decode cX11_size 4 = .ok (.iload_n 1, 1) := by decide +kernel
theorem dX11_size_5 : decode cX11_size 5 = .ok (.bipush 8, 2) := by decide +kernel
theorem dX11_size_7 : decode cX11_size 7 = .ok (.if_icmp .ge 16, 3) := by decide +kernel
theorem dX11_size_10 : decode cX11_size 10 = .ok (.aload_n 0, 1) := by decide +kernel
theorem dX11_size_11 : decode cX11_size 11 = .ok (.getfield 53, 3) := by decide +kernel
theorem dX11_size_14 : decode cX11_size 14 = .ok (.getfield 120, 3) := by decide +kernel
theorem dX11_size_17 : decode cX11_size 17 = .ok (.getfield 387, 3) := by decide +kernel
theorem dX11_size_20 : decode cX11_size 20 = .ok (.iload_n 1, 1) := by decide +kernel
theorem dX11_size_21 : decode cX11_size 21 = .ok (.iaload, 1) := by decide +kernel
theorem dX11_size_22 : decode cX11_size 22 = .ok (.ireturn, 1) := by decide +kernel
theorem dX11_size_23 : decode cX11_size 23 = .ok (.iload_n 1, 1) := by decide +kernel
theorem dX11_size_24 : decode cX11_size 24 = .ok (.tableswitch 107 0 11 #[64, 107, 107, 107, 107, 107, 107, 107, 75, 83, 91, 96], 64) := by decide +kernel
theorem dX11_size_88 : decode cX11_size 88 = .ok (.aload_n 0, 1) := by decide +kernel
theorem dX11_size_89 : decode cX11_size 89 = .ok (.getfield 53, 3) := by decide +kernel
theorem dX11_size_92 : decode cX11_size 92 = .ok (.getfield 120, 3) := by decide +kernel
theorem dX11_size_95 : decode cX11_size 95 = .ok (.getfield 314, 3) := by decide +kernel
theorem dX11_size_98 : decode cX11_size 98 = .ok (.ireturn, 1) := by decide +kernel
theorem dX11_size_99 : decode cX11_size 99 = .ok (.aload_n 0, 1) := by decide +kernel
theorem dX11_size_100 : decode cX11_size 100 = .ok (.getfield 53, 3) := by decide +kernel
theorem dX11_size_103 : decode cX11_size 103 = .ok (.getfield 361, 3) := by decide +kernel
theorem dX11_size_106 : decode cX11_size 106 = .ok (.ireturn, 1) := by decide +kernel
theorem dX11_size_107 : decode cX11_size 107 = .ok (.aload_n 0, 1) := by decide +kernel
theorem dX11_size_108 : decode cX11_size 108 = .ok (.getfield 33, 3) := by decide +kernel
theorem dX11_size_111 : decode cX11_size 111 = .ok (.getfield 390, 3) := by decide +kernel
theorem dX11_size_114 : decode cX11_size 114 = .ok (.ireturn, 1) := by decide +kernel
theorem dX11_size_115 : decode cX11_size 115 = .ok (.aload_n 0, 1) := by decide +kernel
theorem dX11_size_116 : decode cX11_size 116 = .ok (.getfield 101, 3) := by decide +kernel
theorem dX11_size_119 : decode cX11_size 119 = .ok (.ireturn, 1) := by decide +kernel
theorem dX11_size_120 : decode cX11_size 120 = .ok (.aload_n 0, 1) := by decide +kernel
theorem dX11_size_121 : decode cX11_size 121 = .ok (.getfield 10, 3) := by decide +kernel
theorem dX11_size_124 : decode cX11_size 124 = .ok (.getfield 56, 3) := by decide +kernel
theorem dX11_size_127 : decode cX11_size 127 = .ok (.getfield 60, 3) := by decide +kernel
theorem dX11_size_130 : decode cX11_size 130 = .ok (.ireturn, 1) := by decide +kernel
theorem dX11_size_131 : decode cX11_size 131 = .ok (.iconst (-1), 1) := by decide +kernel
theorem dX11_size_132 : decode cX11_size 132 = .ok (.ireturn, 1) := by decide +kernel
theorem dX11_trouble_0 : decode cX11_trouble 0 = .ok (.aload_n 0, 1) := by decide +kernel
theorem dX11_trouble_1 : decode cX11_trouble 1 = .ok (.getfield 111, 3) := by decide +kernel
theorem dX11_trouble_4 : decode cX11_trouble 4 = .ok (.ireturn, 1) := by decide +kernel
theorem dX11_answer_0 : decode cX11_answer 0 = .ok (.aload_n 0, 1) := by decide +kernel
theorem dX11_answer_1 : decode cX11_answer 1 = .ok (.iconst 0, 1) := by decide +kernel
theorem dX11_answer_2 : decode cX11_answer 2 = .ok (.putfield 111, 3) := by decide +kernel
theorem dX11_answer_5 : decode cX11_answer 5 = .ok (.iload_n 1, 1) := by decide +kernel
theorem dX11_answer_6 : decode cX11_answer 6 = .ok (.ireturn, 1) := by decide +kernel
theorem dX11_refuse_0 : decode cX11_refuse 0 = .ok (.aload_n 0, 1) := by decide +kernel
theorem dX11_refuse_1 : decode cX11_refuse 1 = .ok (.iload_n 1, 1) := by decide +kernel
theorem dX11_refuse_2 : decode cX11_refuse 2 = .ok (.putfield 111, 3) := by decide +kernel
theorem dX11_refuse_5 : decode cX11_refuse 5 = .ok (.iconst (-1), 1) := by decide +kernel
theorem dX11_refuse_6 : decode cX11_refuse 6 = .ok (.ireturn, 1) := by decide +kernel
theorem dX11_settle_0 : decode cX11_settle 0 = .ok (.aload_n 0, 1) := by decide +kernel
theorem dX11_settle_1 : decode cX11_settle 1 = .ok (.iload_n 1, 1) := by decide +kernel
theorem dX11_settle_2 : decode cX11_settle 2 = .ok (.putfield 111, 3) := by decide +kernel
theorem dX11_settle_5 : decode cX11_settle 5 = .ok (.iload_n 1, 1) := by decide +kernel
theorem dX11_settle_6 : decode cX11_settle 6 = .ok (.ifCond .ne 7, 3) := by decide +kernel
theorem dX11_settle_9 : decode cX11_settle 9 = .ok (.iconst 1, 1) := by decide +kernel
theorem dX11_settle_10 : decode cX11_settle 10 = .ok (.goto 4, 3) := by decide +kernel
theorem dX11_settle_13 : decode cX11_settle 13 = .ok (.iconst 0, 1) := by decide +kernel
theorem dX11_settle_14 : decode cX11_settle 14 = .ok (.ireturn, 1) := by decide +kernel
theorem dX11_places_0 : decode cX11_places 0 = .ok (.aload_n 0, 1) := by decide +kernel
theorem dX11_places_1 : decode cX11_places 1 = .ok (.getfield 53, 3) := by decide +kernel
theorem dX11_places_4 : decode cX11_places 4 = .ok (.getfield 120, 3) := by decide +kernel
theorem dX11_places_7 : decode cX11_places 7 = .ok (.getfield 387, 3) := by decide +kernel
theorem dX11_places_10 : decode cX11_places 10 = .ok (.iconst 1, 1) := by decide +kernel
theorem dX11_places_11 : decode cX11_places 11 = .ok (.iaload, 1) := by decide +kernel
theorem dX11_places_12 : decode cX11_places 12 = .ok (.ireturn, 1) := by decide +kernel
theorem dX11_men_0 : decode cX11_men 0 = .ok (.aload_n 0, 1) := by decide +kernel
theorem dX11_men_1 : decode cX11_men 1 = .ok (.getfield 53, 3) := by decide +kernel
theorem dX11_men_4 : decode cX11_men 4 = .ok (.getfield 120, 3) := by decide +kernel
theorem dX11_men_7 : decode cX11_men 7 = .ok (.getfield 387, 3) := by decide +kernel
theorem dX11_men_10 : decode cX11_men 10 = .ok (.iconst 3, 1) := by decide +kernel
theorem dX11_men_11 : decode cX11_men 11 = .ok (.iaload, 1) := by decide +kernel
theorem dX11_men_12 : decode cX11_men 12 = .ok (.ireturn, 1) := by decide +kernel
theorem dX11_kills_0 : decode cX11_kills 0 = .ok (.aload_n 0, 1) := by decide +kernel
theorem dX11_kills_1 : decode cX11_kills 1 = .ok (.getfield 53, 3) := by decide +kernel
theorem dX11_kills_4 : decode cX11_kills 4 = .ok (.getfield 120, 3) := by decide +kernel
theorem dX11_kills_7 : decode cX11_kills 7 = .ok (.getfield 387, 3) := by decide +kernel
theorem dX11_kills_10 : decode cX11_kills 10 = .ok (.iconst 4, 1) := by decide +kernel
theorem dX11_kills_11 : decode cX11_kills 11 = .ok (.iaload, 1) := by decide +kernel
theorem dX11_kills_12 : decode cX11_kills 12 = .ok (.ireturn, 1) := by decide +kernel
theorem dX11_isForest_0 : decode cX11_isForest 0 = .ok (.aload_n 0, 1) := by decide +kernel
theorem dX11_isForest_1 : decode cX11_isForest 1 = .ok (.invokevirtual 104, 3) := by decide +kernel
theorem dX11_isForest_4 : decode cX11_isForest 4 = .ok (.ifCond .le 7, 3) := by decide +kernel
theorem dX11_isForest_7 : decode cX11_isForest 7 = .ok (.iconst 1, 1) := by decide +kernel
theorem dX11_isForest_8 : decode cX11_isForest 8 = .ok (.goto 4, 3) := by decide +kernel
theorem dX11_isForest_11 : decode cX11_isForest 11 = .ok (.iconst 0, 1) := by decide +kernel
theorem dX11_isForest_12 : decode cX11_isForest 12 = .ok (.ireturn, 1) := by decide +kernel
theorem dX11_isPlace_0 : decode cX11_isPlace 0 = .ok (.iload_n 1, 1) := by decide +kernel
theorem dX11_isPlace_1 : decode cX11_isPlace 1 = .ok (.ifCond .lt 15, 3) := by decide +kernel
theorem dX11_isPlace_4 : decode cX11_isPlace 4 = .ok (.iload_n 1, 1) := by decide +kernel
theorem dX11_isPlace_5 : decode cX11_isPlace 5 = .ok (.aload_n 0, 1) := by decide +kernel
theorem dX11_isPlace_6 : decode cX11_isPlace 6 = .ok (.invokevirtual 104, 3) := by decide +kernel
theorem dX11_isPlace_9 : decode cX11_isPlace 9 = .ok (.if_icmp .ge 7, 3) := by decide +kernel
theorem dX11_isPlace_12 : decode cX11_isPlace 12 = .ok (.iconst 1, 1) := by decide +kernel
theorem dX11_isPlace_13 : decode cX11_isPlace 13 = .ok (.goto 4, 3) := by decide +kernel
theorem dX11_isPlace_16 : decode cX11_isPlace 16 = .ok (.iconst 0, 1) := by decide +kernel
theorem dX11_isPlace_17 : decode cX11_isPlace 17 = .ok (.ireturn, 1) := by decide +kernel
theorem dX11_isMan_0 : decode cX11_isMan 0 = .ok (.iload_n 1, 1) := by decide +kernel
theorem dX11_isMan_1 : decode cX11_isMan 1 = .ok (.ifCond .lt 15, 3) := by decide +kernel
theorem dX11_isMan_4 : decode cX11_isMan 4 = .ok (.iload_n 1, 1) := by decide +kernel
theorem dX11_isMan_5 : decode cX11_isMan 5 = .ok (.aload_n 0, 1) := by decide +kernel
theorem dX11_isMan_6 : decode cX11_isMan 6 = .ok (.invokevirtual 331, 3) := by decide +kernel
theorem dX11_isMan_9 : decode cX11_isMan 9 = .ok (.if_icmp .ge 7, 3) := by decide +kernel
theorem dX11_isMan_12 : decode cX11_isMan 12 = .ok (.iconst 1, 1) := by decide +kernel
theorem dX11_isMan_13 : decode cX11_isMan 13 = .ok (.goto 4, 3) := by decide +kernel
theorem dX11_isMan_16 : decode cX11_isMan 16 = .ok (.iconst 0, 1) := by decide +kernel
theorem dX11_isMan_17 : decode cX11_isMan 17 = .ok (.ireturn, 1) := by decide +kernel
theorem dX11_isKill_0 : decode cX11_isKill 0 = .ok (.iload_n 1, 1) := by decide +kernel
theorem dX11_isKill_1 : decode cX11_isKill 1 = .ok (.ifCond .lt 15, 3) := by decide +kernel
theorem dX11_isKill_4 : decode cX11_isKill 4 = .ok (.iload_n 1, 1) := by decide +kernel
theorem dX11_isKill_5 : decode cX11_isKill 5 = .ok (.aload_n 0, 1) := by decide +kernel
theorem dX11_isKill_6 : decode cX11_isKill 6 = .ok (.invokevirtual 338, 3) := by decide +kernel
theorem dX11_isKill_9 : decode cX11_isKill 9 = .ok (.if_icmp .ge 7, 3) := by decide +kernel
theorem dX11_isKill_12 : decode cX11_isKill 12 = .ok (.iconst 1, 1) := by decide +kernel
theorem dX11_isKill_13 : decode cX11_isKill 13 = .ok (.goto 4, 3) := by decide +kernel
theorem dX11_isKill_16 : decode cX11_isKill 16 = .ok (.iconst 0, 1) := by decide +kernel
theorem dX11_isKill_17 : decode cX11_isKill 17 = .ok (.ireturn, 1) := by decide +kernel
theorem dX11_isStray_0 : decode cX11_isStray 0 = .ok (.iload_n 1, 1) := by decide +kernel
theorem dX11_isStray_1 : decode cX11_isStray 1 = .ok (.ifCond .lt 23, 3) := by decide +kernel
theorem dX11_isStray_4 : decode cX11_isStray 4 = .ok (.iload_n 1, 1) := by decide +kernel
theorem dX11_isStray_5 : decode cX11_isStray 5 = .ok (.aload_n 0, 1) := by decide +kernel
theorem dX11_isStray_6 : decode cX11_isStray 6 = .ok (.getfield 49, 3) := by decide +kernel
theorem dX11_isStray_9 : decode cX11_isStray 9 = .ok (.getfield 120, 3) := by decide +kernel
theorem dX11_isStray_12 : decode cX11_isStray 12 = .ok (.getfield 387, 3) := by decide +kernel
theorem dX11_isStray_15 : decode cX11_isStray 15 = .ok (.iconst 5, 1) := by decide +kernel
theorem dX11_isStray_16 : decode cX11_isStray 16 = .ok (.iaload, 1) := by decide +kernel
theorem dX11_isStray_17 : decode cX11_isStray 17 = .ok (.if_icmp .ge 7, 3) := by decide +kernel
theorem dX11_isStray_20 : decode cX11_isStray 20 = .ok (.iconst 1, 1) := by decide +kernel
theorem dX11_isStray_21 : decode cX11_isStray 21 = .ok (.goto 4, 3) := by decide +kernel
theorem dX11_isStray_24 : decode cX11_isStray 24 = .ok (.iconst 0, 1) := by decide +kernel
theorem dX11_isStray_25 : decode cX11_isStray 25 = .ok (.ireturn, 1) := by decide +kernel
theorem dX11_isRow_0 : decode cX11_isRow 0 = .ok (.iload_n 1, 1) := by decide +kernel
theorem dX11_isRow_1 : decode cX11_isRow 1 = .ok (.ifCond .lt 12, 3) := by decide +kernel
theorem dX11_isRow_4 : decode cX11_isRow 4 = .ok (.iload_n 1, 1) := by decide +kernel
theorem dX11_isRow_5 : decode cX11_isRow 5 = .ok (.getstatic 393, 3) := by decide +kernel
theorem dX11_isRow_8 : decode cX11_isRow 8 = .ok (.iload_n 2, 1) := by decide +kernel
theorem dX11_isRow_9 : decode cX11_isRow 9 = .ok (.iaload, 1) := by decide +kernel
theorem dX11_isRow_10 : decode cX11_isRow 10 = .ok (.if_icmp .lt 5, 3) := by decide +kernel
theorem dX11_isRow_13 : decode cX11_isRow 13 = .ok (.iconst 0, 1) := by decide +kernel
theorem dX11_isRow_14 : decode cX11_isRow 14 = .ok (.ireturn, 1) := by decide +kernel
theorem dX11_isRow_15 : decode cX11_isRow 15 = .ok (.iconst 0, 1) := by decide +kernel
theorem dX11_isRow_16 : decode cX11_isRow 16 = .ok (.istore_n 3, 1) := by decide +kernel
theorem dX11_isRow_17 : decode cX11_isRow 17 = .ok (.iload_n 3, 1) := by decide +kernel
theorem dX11_isRow_18 : decode cX11_isRow 18 = .ok (.iload_n 2, 1) := by decide +kernel
theorem dX11_isRow_19 : decode cX11_isRow 19 = .ok (.if_icmp .ge 28, 3) := by decide +kernel
theorem dX11_isRow_22 : decode cX11_isRow 22 = .ok (.iload_n 1, 1) := by decide +kernel
theorem dX11_isRow_23 : decode cX11_isRow 23 = .ok (.getstatic 393, 3) := by decide +kernel
theorem dX11_isRow_26 : decode cX11_isRow 26 = .ok (.iload_n 3, 1) := by decide +kernel
theorem dX11_isRow_27 : decode cX11_isRow 27 = .ok (.iaload, 1) := by decide +kernel
theorem dX11_isRow_28 : decode cX11_isRow 28 = .ok (.idiv, 1) := by decide +kernel
theorem dX11_isRow_29 : decode cX11_isRow 29 = .ok (.bipush 10, 2) := by decide +kernel
theorem dX11_isRow_31 : decode cX11_isRow 31 = .ok (.irem, 1) := by decide +kernel
theorem dX11_isRow_32 : decode cX11_isRow 32 = .ok (.aload_n 0, 1) := by decide +kernel
theorem dX11_isRow_33 : decode cX11_isRow 33 = .ok (.invokevirtual 104, 3) := by decide +kernel
theorem dX11_isRow_36 : decode cX11_isRow 36 = .ok (.if_icmp .le 5, 3) := by decide +kernel
theorem dX11_isRow_39 : decode cX11_isRow 39 = .ok (.iconst 0, 1) := by decide +kernel
theorem dX11_isRow_40 : decode cX11_isRow 40 = .ok (.ireturn, 1) := by decide +kernel
theorem dX11_isRow_41 : decode cX11_isRow 41 = .ok (.iinc 3 1, 3) := by decide +kernel
theorem dX11_isRow_44 : decode cX11_isRow 44 = .ok (.goto (-27), 3) := by decide +kernel
theorem dX11_isRow_47 : decode cX11_isRow 47 = .ok (.iconst 1, 1) := by decide +kernel
theorem dX11_isRow_48 : decode cX11_isRow 48 = .ok (.ireturn, 1) := by decide +kernel
theorem dX11_isRamble_0 : decode cX11_isRamble 0 = .ok (.iload_n 0, 1) := by decide +kernel
theorem dX11_isRamble_1 : decode cX11_isRamble 1 = .ok (.ifCond .lt 24, 3) := by decide +kernel
theorem dX11_isRamble_4 : decode cX11_isRamble 4 = .ok (.iload_n 0, 1) := by decide +kernel
theorem dX11_isRamble_5 : decode cX11_isRamble 5 = .ok (.ldc_w 396, 3) := by decide +kernel
theorem dX11_isRamble_8 : decode cX11_isRamble 8 = .ok (.if_icmp .ge 17, 3) := by decide +kernel
theorem dX11_isRamble_11 : decode cX11_isRamble 11 = .ok (.iload_n 1, 1) := by decide +kernel
theorem dX11_isRamble_12 : decode cX11_isRamble 12 = .ok (.ifCond .lt 13, 3) := by decide +kernel
theorem dX11_isRamble_15 : decode cX11_isRamble 15 = .ok (.iload_n 1, 1) := by decide +kernel
theorem dX11_isRamble_16 : decode cX11_isRamble 16 = .ok (.bipush 60, 2) := by decide +kernel
theorem dX11_isRamble_18 : decode cX11_isRamble 18 = .ok (.if_icmp .gt 7, 3) := by decide +kernel
theorem dX11_isRamble_21 : decode cX11_isRamble 21 = .ok (.iconst 1, 1) := by decide +kernel
theorem dX11_isRamble_22 : decode cX11_isRamble 22 = .ok (.goto 4, 3) := by decide +kernel
theorem dX11_isRamble_25 : decode cX11_isRamble 25 = .ok (.iconst 0, 1) := by decide +kernel
theorem dX11_isRamble_26 : decode cX11_isRamble 26 = .ok (.ireturn, 1) := by decide +kernel
theorem dX11_refusesWorth_0 : decode cX11_refusesWorth 0 = .ok (.aload_n 0, 1) := by decide +kernel
theorem dX11_refusesWorth_1 : decode cX11_refusesWorth 1 = .ok (.invokevirtual 183, 3) := by decide +kernel
theorem dX11_refusesWorth_4 : decode cX11_refusesWorth 4 = .ok (.ifCond .ne 10, 3) := by decide +kernel
theorem dX11_refusesWorth_7 : decode cX11_refusesWorth 7 = .ok (.aload_n 0, 1) := by decide +kernel
theorem dX11_refusesWorth_8 : decode cX11_refusesWorth 8 = .ok (.iconst 1, 1) := by decide +kernel
theorem dX11_refusesWorth_9 : decode cX11_refusesWorth 9 = .ok (.putfield 111, 3) := by decide +kernel
theorem dX11_refusesWorth_12 : decode cX11_refusesWorth 12 = .ok (.iconst 1, 1) := by decide +kernel
theorem dX11_refusesWorth_13 : decode cX11_refusesWorth 13 = .ok (.ireturn, 1) := by decide +kernel
theorem dX11_refusesWorth_14 : decode cX11_refusesWorth 14 = .ok (.iload_n 1, 1) := by decide +kernel
theorem dX11_refusesWorth_15 : decode cX11_refusesWorth 15 = .ok (.ifCond .lt 9, 3) := by decide +kernel
theorem dX11_refusesWorth_18 : decode cX11_refusesWorth 18 = .ok (.iload_n 1, 1) := by decide +kernel
theorem dX11_refusesWorth_19 : decode cX11_refusesWorth 19 = .ok (.bipush 20, 2) := by decide +kernel
theorem dX11_refusesWorth_21 : decode cX11_refusesWorth 21 = .ok (.if_icmp .le 10, 3) := by decide +kernel
theorem dX11_refusesWorth_24 : decode cX11_refusesWorth 24 = .ok (.aload_n 0, 1) := by decide +kernel
theorem dX11_refusesWorth_25 : decode cX11_refusesWorth 25 = .ok (.iconst 2, 1) := by decide +kernel
theorem dX11_refusesWorth_26 : decode cX11_refusesWorth 26 = .ok (.putfield 111, 3) := by decide +kernel
theorem dX11_refusesWorth_29 : decode cX11_refusesWorth 29 = .ok (.iconst 1, 1) := by decide +kernel
theorem dX11_refusesWorth_30 : decode cX11_refusesWorth 30 = .ok (.ireturn, 1) := by decide +kernel
theorem dX11_refusesWorth_31 : decode cX11_refusesWorth 31 = .ok (.iconst 0, 1) := by decide +kernel
theorem dX11_refusesWorth_32 : decode cX11_refusesWorth 32 = .ok (.ireturn, 1) := by decide +kernel
theorem dX11_has_0 : decode cX11_has 0 = .ok (.iload_n 0, 1) := by decide +kernel
theorem dX11_has_1 : decode cX11_has 1 = .ok (.iload_n 1, 1) := by decide +kernel
theorem dX11_has_2 : decode cX11_has 2 = .ok (.ishr, 1) := by decide +kernel
theorem dX11_has_3 : decode cX11_has 3 = .ok (.iconst 1, 1) := by decide +kernel
theorem dX11_has_4 : decode cX11_has 4 = .ok (.iand, 1) := by decide +kernel
theorem dX11_has_5 : decode cX11_has 5 = .ok (.iconst 1, 1) := by decide +kernel
theorem dX11_has_6 : decode cX11_has 6 = .ok (.if_icmp .ne 7, 3) := by decide +kernel
theorem dX11_has_9 : decode cX11_has 9 = .ok (.iconst 1, 1) := by decide +kernel
theorem dX11_has_10 : decode cX11_has 10 = .ok (.goto 4, 3) := by decide +kernel
theorem dX11_has_13 : decode cX11_has 13 = .ok (.iconst 0, 1) := by decide +kernel
theorem dX11_has_14 : decode cX11_has 14 = .ok (.ireturn, 1) := by decide +kernel
theorem dX12_init_0 : decode cX12_init 0 = .ok (.aload_n 0, 1) := by decide +kernel
theorem dX12_init_1 : decode cX12_init 1 = .ok (.invokespecial 1, 3) := by decide +kernel
theorem dX12_init_4 : decode cX12_init 4 = .ok (.aload_n 0, 1) := by decide +kernel
theorem dX12_init_5 : decode cX12_init 5 = .ok (.sipush 900, 3) := by decide +kernel
theorem dX12_init_8 : decode cX12_init 8 = .ok (.newarray .int, 2) := by decide +kernel
theorem dX12_init_10 : decode cX12_init 10 = .ok (.putfield 7, 3) := by decide +kernel
theorem dX12_init_13 : decode cX12_init 13 = .ok (.aload_n 0, 1) := by decide +kernel
theorem dX12_init_14 : decode cX12_init 14 = .ok (.iconst (-1), 1) := by decide +kernel
theorem dX12_init_15 : decode cX12_init 15 = .ok (.putfield 13, 3) := by decide +kernel
theorem dX12_init_18 : decode cX12_init 18 = .ok (.aload_n 0, 1) := by decide +kernel
theorem dX12_init_19 : decode cX12_init 19 = .ok (.bipush 8, 2) := by decide +kernel
theorem dX12_init_21 : decode cX12_init 21 = .ok (.newarray .int, 2) := by decide +kernel
theorem dX12_init_23 : decode cX12_init 23 = .ok (.putfield 17, 3) := by decide +kernel
theorem dX12_init_26 : decode cX12_init 26 = .ok (.aload_n 0, 1) := by decide +kernel
theorem dX12_init_27 : decode cX12_init 27 = .ok (.sipush 241, 3) := by decide +kernel
theorem dX12_init_30 : decode cX12_init 30 = .ok (.newarray .int, 2) := by decide +kernel
theorem dX12_init_32 : decode cX12_init 32 = .ok (.putfield 20, 3) := by decide +kernel
theorem dX12_init_35 : decode cX12_init 35 = .ok (.aload_n 0, 1) := by decide +kernel
theorem dX12_init_36 : decode cX12_init 36 = .ok (.sipush 241, 3) := by decide +kernel
theorem dX12_init_39 : decode cX12_init 39 = .ok (.newarray .int, 2) := by decide +kernel
theorem dX12_init_41 : decode cX12_init 41 = .ok (.putfield 23, 3) := by decide +kernel
theorem dX12_init_44 : decode cX12_init 44 = .ok (.aload_n 0, 1) := by decide +kernel
theorem dX12_init_45 : decode cX12_init 45 = .ok (.bipush 40, 2) := by decide +kernel
theorem dX12_init_47 : decode cX12_init 47 = .ok (.newarray .int, 2) := by decide +kernel
theorem dX12_init_49 : decode cX12_init 49 = .ok (.putfield 26, 3) := by decide +kernel
theorem dX12_init_52 : decode cX12_init 52 = .ok (.aload_n 0, 1) := by decide +kernel
theorem dX12_init_53 : decode cX12_init 53 = .ok (.bipush 40, 2) := by decide +kernel
theorem dX12_init_55 : decode cX12_init 55 = .ok (.newarray .int, 2) := by decide +kernel
theorem dX12_init_57 : decode cX12_init 57 = .ok (.putfield 29, 3) := by decide +kernel
theorem dX12_init_60 : decode cX12_init 60 = .ok (.aload_n 0, 1) := by decide +kernel
theorem dX12_init_61 : decode cX12_init 61 = .ok (.bipush 40, 2) := by decide +kernel
theorem dX12_init_63 : decode cX12_init 63 = .ok (.newarray .int, 2) := by decide +kernel
theorem dX12_init_65 : decode cX12_init 65 = .ok (.putfield 32, 3) := by decide +kernel
theorem dX12_init_68 : decode cX12_init 68 = .ok (.aload_n 0, 1) := by decide +kernel
theorem dX12_init_69 : decode cX12_init 69 = .ok (.sipush 640, 3) := by decide +kernel
theorem dX12_init_72 : decode cX12_init 72 = .ok (.newarray .int, 2) := by decide +kernel
theorem dX12_init_74 : decode cX12_init 74 = .ok (.putfield 35, 3) := by decide +kernel
theorem dX12_init_77 : decode cX12_init 77 = .ok (.aload_n 0, 1) := by decide +kernel
theorem dX12_init_78 : decode cX12_init 78 = .ok (.bipush 120, 2) := by decide +kernel
theorem dX12_init_80 : decode cX12_init 80 = .ok (.newarray .int, 2) := by decide +kernel
theorem dX12_init_82 : decode cX12_init 82 = .ok (.putfield 38, 3) := by decide +kernel
theorem dX12_init_85 : decode cX12_init 85 = .ok (.aload_n 0, 1) := by decide +kernel
theorem dX12_init_86 : decode cX12_init 86 = .ok (.bipush 40, 2) := by decide +kernel
theorem dX12_init_88 : decode cX12_init 88 = .ok (.newarray .int, 2) := by decide +kernel
theorem dX12_init_90 : decode cX12_init 90 = .ok (.putfield 41, 3) := by decide +kernel
theorem dX12_init_93 : decode cX12_init 93 = .ok (.aload_n 0, 1) := by decide +kernel
theorem dX12_init_94 : decode cX12_init 94 = .ok (.sipush 240, 3) := by decide +kernel
theorem dX12_init_97 : decode cX12_init 97 = .ok (.newarray .int, 2) := by decide +kernel
theorem dX12_init_99 : decode cX12_init 99 = .ok (.putfield 44, 3) := by decide +kernel
theorem dX12_init_102 : decode cX12_init 102 = .ok (.aload_n 0, 1) := by decide +kernel
theorem dX12_init_103 : decode cX12_init 103 = .ok (.bipush 40, 2) := by decide +kernel
theorem dX12_init_105 : decode cX12_init 105 = .ok (.newarray .int, 2) := by decide +kernel
theorem dX12_init_107 : decode cX12_init 107 = .ok (.putfield 47, 3) := by decide +kernel
theorem dX12_init_110 : decode cX12_init 110 = .ok (.aload_n 0, 1) := by decide +kernel
theorem dX12_init_111 : decode cX12_init 111 = .ok (.iconst 4, 1) := by decide +kernel
theorem dX12_init_112 : decode cX12_init 112 = .ok (.newarray .int, 2) := by decide +kernel
theorem dX12_init_114 : decode cX12_init 114 = .ok (.putfield 50, 3) := by decide +kernel
theorem dX12_init_117 : decode cX12_init 117 = .ok (.aload_n 0, 1) := by decide +kernel
theorem dX12_init_118 : decode cX12_init 118 = .ok (.iconst 4, 1) := by decide +kernel
theorem dX12_init_119 : decode cX12_init 119 = .ok (.newarray .int, 2) := by decide +kernel
theorem dX12_init_121 : decode cX12_init 121 = .ok (.putfield 53, 3) := by decide +kernel
theorem dX12_init_124 : decode cX12_init 124 = .ok (.return_, 1) := by decide +kernel
theorem dX12_thrown_0 : decode cX12_thrown 0 = .ok (.aload_n 0, 1) := by decide +kernel
theorem dX12_thrown_1 : decode cX12_thrown 1 = .ok (.getfield 56, 3) := by decide +kernel
theorem dX12_thrown_4 : decode cX12_thrown 4 = .ok (.ireturn, 1) := by decide +kernel
theorem dX12_good_0 : decode cX12_good 0 = .ok (.aload_n 0, 1) := by decide +kernel
theorem dX12_good_1 : decode cX12_good 1 = .ok (.iconst 0, 1) := by decide +kernel
theorem dX12_good_2 : decode cX12_good 2 = .ok (.putfield 56, 3) := by decide +kernel
theorem dX12_good_5 : decode cX12_good 5 = .ok (.aload_n 0, 1) := by decide +kernel
theorem dX12_good_6 : decode cX12_good 6 = .ok (.iconst 0, 1) := by decide +kernel
theorem dX12_good_7 : decode cX12_good 7 = .ok (.putfield 59, 3) := by decide +kernel
theorem dX12_good_10 : decode cX12_good 10 = .ok (.return_, 1) := by decide +kernel
theorem dX12_no_0 : decode cX12_no 0 = .ok (.aload_n 0, 1) := by decide +kernel
theorem dX12_no_1 : decode cX12_no 1 = .ok (.iload_n 1, 1) := by decide +kernel
theorem dX12_no_2 : decode cX12_no 2 = .ok (.putfield 59, 3) := by decide +kernel
theorem dX12_no_5 : decode cX12_no 5 = .ok (.iconst (-1), 1) := by decide +kernel
theorem dX12_no_6 : decode cX12_no 6 = .ok (.ireturn, 1) := by decide +kernel
theorem dX12_isNot_0 : decode cX12_isNot 0 = .ok (.aload_n 0, 1) := by decide +kernel
theorem dX12_isNot_1 : decode cX12_isNot 1 = .ok (.iload_n 1, 1) := by decide +kernel
theorem dX12_isNot_2 : decode cX12_isNot 2 = .ok (.putfield 59, 3) := by decide +kernel
theorem dX12_isNot_5 : decode cX12_isNot 5 = .ok (.iconst 0, 1) := by decide +kernel
theorem dX12_isNot_6 : decode cX12_isNot 6 = .ok (.ireturn, 1) := by decide +kernel
theorem dX12_in_0 : decode cX12_in 0 = .ok (.iload_n 0, 1) := by decide +kernel
theorem dX12_in_1 : decode cX12_in 1 = .ok (.iload_n 1, 1) := by decide +kernel
theorem dX12_in_2 : decode cX12_in 2 = .ok (.if_icmp .lt 12, 3) := by decide +kernel
theorem dX12_in_5 : decode cX12_in 5 = .ok (.iload_n 0, 1) := by decide +kernel
theorem dX12_in_6 : decode cX12_in 6 = .ok (.iload_n 2, 1) := by decide +kernel
theorem dX12_in_7 : decode cX12_in 7 = .ok (.if_icmp .gt 7, 3) := by decide +kernel
theorem dX12_in_10 : decode cX12_in 10 = .ok (.iconst 1, 1) := by decide +kernel
theorem dX12_in_11 : decode cX12_in 11 = .ok (.goto 4, 3) := by decide +kernel
theorem dX12_in_14 : decode cX12_in 14 = .ok (.iconst 0, 1) := by decide +kernel
theorem dX12_in_15 : decode cX12_in 15 = .ok (.ireturn, 1) := by decide +kernel
theorem dX12_hasBit_0 : decode cX12_hasBit 0 = .ok (.iload_n 0, 1) := by decide +kernel
theorem dX12_hasBit_1 : decode cX12_hasBit 1 = .ok (.iload_n 1, 1) := by decide +kernel
theorem dX12_hasBit_2 : decode cX12_hasBit 2 = .ok (.ishr, 1) := by decide +kernel
theorem dX12_hasBit_3 : decode cX12_hasBit 3 = .ok (.iconst 1, 1) := by decide +kernel
theorem dX12_hasBit_4 : decode cX12_hasBit 4 = .ok (.iand, 1) := by decide +kernel
theorem dX12_hasBit_5 : decode cX12_hasBit 5 = .ok (.iconst 1, 1) := by decide +kernel
theorem dX12_hasBit_6 : decode cX12_hasBit 6 = .ok (.if_icmp .ne 7, 3) := by decide +kernel
theorem dX12_hasBit_9 : decode cX12_hasBit 9 = .ok (.iconst 1, 1) := by decide +kernel
theorem dX12_hasBit_10 : decode cX12_hasBit 10 = .ok (.goto 4, 3) := by decide +kernel
theorem dX12_hasBit_13 : decode cX12_hasBit 13 = .ok (.iconst 0, 1) := by decide +kernel
theorem dX12_hasBit_14 : decode cX12_hasBit 14 = .ok (.ireturn, 1) := by decide +kernel
theorem dX12_ones_0 : decode cX12_ones 0 = .ok (.iconst 0, 1) := by decide +kernel
theorem dX12_ones_1 : decode cX12_ones 1 = .ok (.istore_n 1, 1) := by decide +kernel
theorem dX12_ones_2 : decode cX12_ones 2 = .ok (.iconst 0, 1) := by decide +kernel
theorem dX12_ones_3 : decode cX12_ones 3 = .ok (.istore_n 2, 1) := by decide +kernel
theorem dX12_ones_4 : decode cX12_ones 4 = .ok (.iload_n 2, 1) := by decide +kernel
theorem dX12_ones_5 : decode cX12_ones 5 = .ok (.bipush 8, 2) := by decide +kernel
theorem dX12_ones_7 : decode cX12_ones 7 = .ok (.if_icmp .ge 17, 3) := by decide +kernel
theorem dX12_ones_10 : decode cX12_ones 10 = .ok (.iload_n 1, 1) := by decide +kernel
theorem dX12_ones_11 : decode cX12_ones 11 = .ok (.iload_n 0, 1) := by decide +kernel
theorem dX12_ones_12 : decode cX12_ones 12 = .ok (.iload_n 2, 1) := by decide +kernel
theorem dX12_ones_13 : decode cX12_ones 13 = .ok (.ishr, 1) := by decide +kernel
theorem dX12_ones_14 : decode cX12_ones 14 = .ok (.iconst 1, 1) := by decide +kernel
theorem dX12_ones_15 : decode cX12_ones 15 = .ok (.iand, 1) := by decide +kernel
theorem dX12_ones_16 : decode cX12_ones 16 = .ok (.iadd, 1) := by decide +kernel
theorem dX12_ones_17 : decode cX12_ones 17 = .ok (.istore_n 1, 1) := by decide +kernel
theorem dX12_ones_18 : decode cX12_ones 18 = .ok (.iinc 2 1, 3) := by decide +kernel
theorem dX12_ones_21 : decode cX12_ones 21 = .ok (.goto (-17), 3) := by decide +kernel
theorem dX12_ones_24 : decode cX12_ones 24 = .ok (.iload_n 1, 1) := by decide +kernel
theorem dX12_ones_25 : decode cX12_ones 25 = .ok (.ireturn, 1) := by decide +kernel
theorem dX12_copy_0 : decode cX12_copy 0 = .ok (.iconst 0, 1) := by decide +kernel
theorem dX12_copy_1 : decode cX12_copy 1 = .ok (.istore 5, 2) := by decide +kernel
theorem dX12_copy_3 : decode cX12_copy 3 = .ok (.iload 5, 2) := by decide +kernel
theorem dX12_copy_5 : decode cX12_copy 5 = .ok (.iload 4, 2) := by decide +kernel
theorem dX12_copy_7 : decode cX12_copy 7 = .ok (.if_icmp .ge 21, 3) := by decide +kernel
theorem dX12_copy_10 : decode cX12_copy 10 = .ok (.aload_n 2, 1) := by decide +kernel
theorem dX12_copy_11 : decode cX12_copy 11 = .ok (.iload_n 3, 1) := by decide +kernel
theorem dX12_copy_12 : decode cX12_copy 12 = .ok (.iload 5, 2) := by decide +kernel
theorem dX12_copy_14 : decode cX12_copy 14 = .ok (.iadd, 1) := by decide +kernel
theorem dX12_copy_15 : decode cX12_copy 15 = .ok (.aload_n 0, 1) := by decide +kernel
theorem dX12_copy_16 : decode cX12_copy 16 = .ok (.iload_n 1, 1) := by decide +kernel
theorem dX12_copy_17 : decode cX12_copy 17 = .ok (.iload 5, 2) := by decide +kernel
theorem dX12_copy_19 : decode cX12_copy 19 = .ok (.iadd, 1) := by decide +kernel
theorem dX12_copy_20 : decode cX12_copy 20 = .ok (.iaload, 1) := by decide +kernel
theorem dX12_copy_21 : decode cX12_copy 21 = .ok (.iastore, 1) := by decide +kernel
theorem dX12_copy_22 : decode cX12_copy 22 = .ok (.iinc 5 1, 3) := by decide +kernel
theorem dX12_copy_25 : decode cX12_copy 25 = .ok (.goto (-22), 3) := by decide +kernel
theorem dX12_copy_28 : decode cX12_copy 28 = .ok (.return_, 1) := by decide +kernel
theorem dX12_lowest_0 : decode cX12_lowest 0 = .ok (.lload_n 2, 1) := by decide +kernel
theorem dX12_lowest_1 : decode cX12_lowest 1 = .ok (.lstore 5, 2) := by decide +kernel
theorem dX12_lowest_3 : decode cX12_lowest 3 = .ok (.lload_n 0, 1) := by decide +kernel
theorem dX12_lowest_4 : decode cX12_lowest 4 = .ok (.lstore 7, 2) := by decide +kernel
theorem dX12_lowest_6 : decode cX12_lowest 6 = .ok (.lload 7, 2) := by decide +kernel
theorem dX12_lowest_8 : decode cX12_lowest 8 = .ok (.lconst 0, 1) := by decide +kernel
theorem dX12_lowest_9 : decode cX12_lowest 9 = .ok (.lcmp, 1) := by decide +kernel
theorem dX12_lowest_10 : decode cX12_lowest 10 = .ok (.ifCond .eq 21, 3) := by decide +kernel
theorem dX12_lowest_13 : decode cX12_lowest 13 = .ok (.lload 5, 2) := by decide +kernel
theorem dX12_lowest_15 : decode cX12_lowest 15 = .ok (.lload 7, 2) := by decide +kernel
theorem dX12_lowest_17 : decode cX12_lowest 17 = .ok (.lrem, 1) := by decide +kernel
theorem dX12_lowest_18 : decode cX12_lowest 18 = .ok (.lstore 9, 2) := by decide +kernel
theorem dX12_lowest_20 : decode cX12_lowest 20 = .ok (.lload 7, 2) := by decide +kernel
theorem dX12_lowest_22 : decode cX12_lowest 22 = .ok (.lstore 5, 2) := by decide +kernel
theorem dX12_lowest_24 : decode cX12_lowest 24 = .ok (.lload 9, 2) := by decide +kernel
theorem dX12_lowest_26 : decode cX12_lowest 26 = .ok (.lstore 7, 2) := by decide +kernel
theorem dX12_lowest_28 : decode cX12_lowest 28 = .ok (.goto (-22), 3) := by decide +kernel
theorem dX12_lowest_31 : decode cX12_lowest 31 = .ok (.iload 4, 2) := by decide +kernel
theorem dX12_lowest_33 : decode cX12_lowest 33 = .ok (.ifCond .eq 7, 3) := by decide +kernel
theorem dX12_lowest_36 : decode cX12_lowest 36 = .ok (.lload_n 2, 1) := by decide +kernel
theorem dX12_lowest_37 : decode cX12_lowest 37 = .ok (.goto 4, 3) := by decide +kernel
theorem dX12_lowest_40 : decode cX12_lowest 40 = .ok (.lload_n 0, 1) := by decide +kernel
theorem dX12_lowest_41 : decode cX12_lowest 41 = .ok (.lload 5, 2) := by decide +kernel
theorem dX12_lowest_43 : decode cX12_lowest 43 = .ok (.ldiv, 1) := by decide +kernel
theorem dX12_lowest_44 : decode cX12_lowest 44 = .ok (.lreturn, 1) := by decide +kernel
theorem dX12_power_0 : decode cX12_power 0 = .ok (.lconst 1, 1) := by decide +kernel
theorem dX12_power_1 : decode cX12_power 1 = .ok (.lstore_n 3, 1) := by decide +kernel
theorem dX12_power_2 : decode cX12_power 2 = .ok (.iconst 0, 1) := by decide +kernel
theorem dX12_power_3 : decode cX12_power 3 = .ok (.istore 5, 2) := by decide +kernel
theorem dX12_power_5 : decode cX12_power 5 = .ok (.iload 5, 2) := by decide +kernel
theorem dX12_power_7 : decode cX12_power 7 = .ok (.iload_n 2, 1) := by decide +kernel
theorem dX12_power_8 : decode cX12_power 8 = .ok (.if_icmp .ge 13, 3) := by decide +kernel
theorem dX12_power_11 : decode cX12_power 11 = .ok (.lload_n 3, 1) := by decide +kernel
theorem dX12_power_12 : decode cX12_power 12 = .ok (.lload_n 0, 1) := by decide +kernel
theorem dX12_power_13 : decode cX12_power 13 = .ok (.lmul, 1) := by decide +kernel
theorem dX12_power_14 : decode cX12_power 14 = .ok (.lstore_n 3, 1) := by decide +kernel
theorem dX12_power_15 : decode cX12_power 15 = .ok (.iinc 5 1, 3) := by decide +kernel
theorem dX12_power_18 : decode cX12_power 18 = .ok (.goto (-13), 3) := by decide +kernel
theorem dX12_power_21 : decode cX12_power 21 = .ok (.lload_n 3, 1) := by decide +kernel
theorem dX12_power_22 : decode cX12_power 22 = .ok (.lreturn, 1) := by decide +kernel
theorem dX12_feed_0 : decode cX12_feed 0 = .ok (.aload_n 0, 1) := by decide +kernel
theorem dX12_feed_1 : decode cX12_feed 1 = .ok (.iconst 0, 1) := by decide +kernel
theorem dX12_feed_2 : decode cX12_feed 2 = .ok (.putfield 56, 3) := by decide +kernel
theorem dX12_feed_5 : decode cX12_feed 5 = .ok (.aload_n 0, 1) := by decide +kernel
theorem dX12_feed_6 : decode cX12_feed 6 = .ok (.getfield 62, 3) := by decide +kernel
theorem dX12_feed_9 : decode cX12_feed 9 = .ok (.bipush 20, 2) := by decide +kernel
theorem dX12_feed_11 : decode cX12_feed 11 = .ok (.iadd, 1) := by decide +kernel
theorem dX12_feed_12 : decode cX12_feed 12 = .ok (.sipush 900, 3) := by decide +kernel
theorem dX12_feed_15 : decode cX12_feed 15 = .ok (.if_icmp .le 5, 3) := by decide +kernel
theorem dX12_feed_18 : decode cX12_feed 18 = .ok (.iconst (-1), 1) := by decide +kernel
theorem dX12_feed_19 : decode cX12_feed 19 = .ok (.ireturn, 1) := by decide +kernel
theorem dX12_feed_20 : decode cX12_feed 20 = .ok (.iconst 0, 1) := by decide +kernel
theorem dX12_feed_21 : decode cX12_feed 21 = .ok (.istore 6, 2) := by decide +kernel
theorem dX12_feed_23 : decode cX12_feed 23 = .ok (.iload 6, 2) := by decide +kernel
theorem dX12_feed_25 : decode cX12_feed 25 = .ok (.bipush 20, 2) := by decide +kernel
theorem dX12_feed_27 : decode cX12_feed 27 = .ok (.if_icmp .ge 93, 3) := by decide +kernel
theorem dX12_feed_30 : decode cX12_feed 30 = .ok (.iload 6, 2) := by decide +kernel
theorem dX12_feed_32 : decode cX12_feed 32 = .ok (.iconst 4, 1) := by decide +kernel
theorem dX12_feed_33 : decode cX12_feed 33 = .ok (.if_icmp .ge 7, 3) := by decide +kernel
theorem dX12_feed_36 : decode cX12_feed 36 = .ok (.iload_n 1, 1) := by decide +kernel
theorem dX12_feed_37 : decode cX12_feed 37 = .ok (.goto 39, 3) := by decide +kernel
theorem dX12_feed_40 : decode cX12_feed 40 = .ok (.iload 6, 2) := by decide +kernel
theorem dX12_feed_42 : decode cX12_feed 42 = .ok (.bipush 8, 2) := by decide +kernel
theorem dX12_feed_44 : decode cX12_feed 44 = .ok (.if_icmp .ge 7, 3) := by decide +kernel
theorem dX12_feed_47 : decode cX12_feed 47 = .ok (.iload_n 2, 1) := by decide +kernel
theorem dX12_feed_48 : decode cX12_feed 48 = .ok (.goto 28, 3) := by decide +kernel
theorem dX12_feed_51 : decode cX12_feed 51 = .ok (.iload 6, 2) := by decide +kernel
theorem dX12_feed_53 : decode cX12_feed 53 = .ok (.bipush 12, 2) := by decide +kernel
theorem dX12_feed_55 : decode cX12_feed 55 = .ok (.if_icmp .ge 7, 3) := by decide +kernel
theorem dX12_feed_58 : decode cX12_feed 58 = .ok (.iload_n 3, 1) := by decide +kernel
theorem dX12_feed_59 : decode cX12_feed 59 = .ok (.goto 17, 3) := by decide +kernel
theorem dX12_feed_62 : decode cX12_feed 62 = .ok (.iload 6, 2) := by decide +kernel
theorem dX12_feed_64 : decode cX12_feed 64 = .ok (.bipush 16, 2) := by decide +kernel
theorem dX12_feed_66 : decode cX12_feed 66 = .ok (.if_icmp .ge 8, 3) := by decide +kernel
theorem dX12_feed_69 : decode cX12_feed 69 = .ok (.iload 4, 2) := by decide +kernel
theorem dX12_feed_71 : decode cX12_feed 71 = .ok (.goto 5, 3) := by decide +kernel
theorem dX12_feed_74 : decode cX12_feed 74 = .ok (.iload 5, 2) := by decide +kernel
theorem dX12_feed_76 : decode cX12_feed 76 = .ok (.istore 7, 2) := by decide +kernel
theorem dX12_feed_78 : decode cX12_feed 78 = .ok (.aload_n 0, 1) := by decide +kernel
theorem dX12_feed_79 : decode cX12_feed 79 = .ok (.getfield 7, 3) := by decide +kernel
theorem dX12_feed_82 : decode cX12_feed 82 = .ok (.aload_n 0, 1) := by decide +kernel
theorem dX12_feed_83 : decode cX12_feed 83 = .ok (.getfield 62, 3) := by decide +kernel
theorem dX12_feed_86 : decode cX12_feed 86 = .ok (.iload 7, 2) := by decide +kernel
theorem dX12_feed_88 : decode cX12_feed 88 = .ok (.bipush 24, 2) := by decide +kernel
theorem dX12_feed_90 : decode cX12_feed 90 = .ok (.bipush 8, 2) := by decide +kernel
theorem dX12_feed_92 : decode cX12_feed 92 = .ok (.iload 6, 2) := by decide +kernel
theorem dX12_feed_94 : decode cX12_feed 94 = .ok (.iconst 4, 1) := by decide +kernel
theorem dX12_feed_95 : decode cX12_feed 95 = .ok (.irem, 1) := by decide +kernel
theorem dX12_feed_96 : decode cX12_feed 96 = .ok (.imul, 1) := by decide +kernel
theorem dX12_feed_97 : decode cX12_feed 97 = .ok (.isub, 1) := by decide +kernel
theorem dX12_feed_98 : decode cX12_feed 98 = .ok (.ishr, 1) := by decide +kernel
theorem dX12_feed_99 : decode cX12_feed 99 = .ok (.sipush 255, 3) := by decide +kernel
theorem dX12_feed_102 : decode cX12_feed 102 = .ok (.iand, 1) := by decide +kernel
theorem dX12_feed_103 : decode cX12_feed 103 = .ok (.iastore, 1) := by decide +kernel
theorem dX12_feed_104 : decode cX12_feed 104 = .ok (.aload_n 0, 1) := by decide +kernel
theorem dX12_feed_105 : decode cX12_feed 105 = .ok (.dup, 1) := by decide +kernel
theorem dX12_feed_106 : decode cX12_feed 106 = .ok (.getfield 62, 3) := by decide +kernel
theorem dX12_feed_109 : decode cX12_feed 109 = .ok (.iconst 1, 1) := by decide +kernel
theorem dX12_feed_110 : decode cX12_feed 110 = .ok (.iadd, 1) := by decide +kernel
theorem dX12_feed_111 : decode cX12_feed 111 = .ok (.putfield 62, 3) := by decide +kernel
theorem dX12_feed_114 : decode cX12_feed 114 = .ok (.iinc 6 1, 3) := by decide +kernel
theorem dX12_feed_117 : decode cX12_feed 117 = .ok (.goto (-94), 3) := by decide +kernel
theorem dX12_feed_120 : decode cX12_feed 120 = .ok (.aload_n 0, 1) := by decide +kernel
theorem dX12_feed_121 : decode cX12_feed 121 = .ok (.getfield 62, 3) := by decide +kernel
theorem dX12_feed_124 : decode cX12_feed 124 = .ok (.ireturn, 1) := by decide +kernel
theorem dX12_see_0 : decode cX12_see 0 = .ok (.iload_n 1, 1) := by decide +kernel
theorem dX12_see_1 : decode cX12_see 1 = .ok (.aload_n 0, 1) := by decide +kernel
theorem dX12_see_2 : decode cX12_see 2 = .ok (.getfield 65, 3) := by decide +kernel
theorem dX12_see_5 : decode cX12_see 5 = .ok (.if_icmp .ge 12, 3) := by decide +kernel
theorem dX12_see_8 : decode cX12_see 8 = .ok (.aload_n 0, 1) := by decide +kernel
theorem dX12_see_9 : decode cX12_see 9 = .ok (.getfield 7, 3) := by decide +kernel
theorem dX12_see_12 : decode cX12_see 12 = .ok (.iload_n 1, 1) := by decide +kernel
theorem dX12_see_13 : decode cX12_see 13 = .ok (.iaload, 1) := by decide +kernel
theorem dX12_see_14 : decode cX12_see 14 = .ok (.goto 4, 3) := by decide +kernel
theorem dX12_see_17 : decode cX12_see 17 = .ok (.iconst (-1), 1) := by decide +kernel
theorem dX12_see_18 : decode cX12_see 18 = .ok (.ireturn, 1) := by decide +kernel
theorem dX12_isSmall_0 : decode cX12_isSmall 0 = .ok (.iload_n 0, 1) := by decide +kernel
theorem dX12_isSmall_1 : decode cX12_isSmall 1 = .ok (.bipush 97, 2) := by decide +kernel
theorem dX12_isSmall_3 : decode cX12_isSmall 3 = .ok (.if_icmp .lt 13, 3) := by decide +kernel
theorem dX12_isSmall_6 : decode cX12_isSmall 6 = .ok (.iload_n 0, 1) := by decide +kernel
theorem dX12_isSmall_7 : decode cX12_isSmall 7 = .ok (.bipush 122, 2) := by decide +kernel
theorem dX12_isSmall_9 : decode cX12_isSmall 9 = .ok (.if_icmp .gt 7, 3) := by decide +kernel
theorem dX12_isSmall_12 : decode cX12_isSmall 12 = .ok (.iconst 1, 1) := by decide +kernel
theorem dX12_isSmall_13 : decode cX12_isSmall 13 = .ok (.goto 4, 3) := by decide +kernel
theorem dX12_isSmall_16 : decode cX12_isSmall 16 = .ok (.iconst 0, 1) := by decide +kernel
theorem dX12_isSmall_17 : decode cX12_isSmall 17 = .ok (.ireturn, 1) := by decide +kernel
theorem dX12_isDigit_0 : decode cX12_isDigit 0 = .ok (.iload_n 0, 1) := by decide +kernel
theorem dX12_isDigit_1 : decode cX12_isDigit 1 = .ok (.bipush 48, 2) := by decide +kernel
theorem dX12_isDigit_3 : decode cX12_isDigit 3 = .ok (.if_icmp .lt 13, 3) := by decide +kernel
theorem dX12_isDigit_6 : decode cX12_isDigit 6 = .ok (.iload_n 0, 1) := by decide +kernel
theorem dX12_isDigit_7 : decode cX12_isDigit 7 = .ok (.bipush 57, 2) := by decide +kernel
theorem dX12_isDigit_9 : decode cX12_isDigit 9 = .ok (.if_icmp .gt 7, 3) := by decide +kernel
theorem dX12_isDigit_12 : decode cX12_isDigit 12 = .ok (.iconst 1, 1) := by decide +kernel
theorem dX12_isDigit_13 : decode cX12_isDigit 13 = .ok (.goto 4, 3) := by decide +kernel
theorem dX12_isDigit_16 : decode cX12_isDigit 16 = .ok (.iconst 0, 1) := by decide +kernel
theorem dX12_isDigit_17 : decode cX12_isDigit 17 = .ok (.ireturn, 1) := by decide +kernel
theorem dX12_goOn_0 : decode cX12_goOn 0 = .ok (.aload_n 0, 1) := by decide +kernel
theorem dX12_goOn_1 : decode cX12_goOn 1 = .ok (.getfield 68, 3) := by decide +kernel
theorem dX12_goOn_4 : decode cX12_goOn 4 = .ok (.istore_n 1, 1) := by decide +kernel
theorem dX12_goOn_5 : decode cX12_goOn 5 = .ok (.aload_n 0, 1) := by decide +kernel
theorem dX12_goOn_6 : decode cX12_goOn 6 = .ok (.iload_n 1, 1) := by decide +kernel
theorem dX12_goOn_7 : decode cX12_goOn 7 = .ok (.invokevirtual 71, 3) := by decide +kernel
theorem dX12_goOn_10 : decode cX12_goOn 10 = .ok (.bipush 32, 2) := by decide +kernel
theorem dX12_goOn_12 : decode cX12_goOn 12 = .ok (.if_icmp .ne 9, 3) := by decide +kernel
theorem dX12_goOn_15 : decode cX12_goOn 15 = .ok (.iinc 1 1, 3) := by decide +kernel
theorem dX12_goOn_18 : decode cX12_goOn 18 = .ok (.goto (-13), 3) := by decide +kernel
theorem dX12_goOn_21 : decode cX12_goOn 21 = .ok (.aload_n 0, 1) := by decide +kernel
theorem dX12_goOn_22 : decode cX12_goOn 22 = .ok (.iload_n 1, 1) := by decide +kernel
theorem dX12_goOn_23 : decode cX12_goOn 23 = .ok (.putfield 75, 3) := by decide +kernel
theorem dX12_goOn_26 : decode cX12_goOn 26 = .ok (.aload_n 0, 1) := by decide +kernel
theorem dX12_goOn_27 : decode cX12_goOn 27 = .ok (.iload_n 1, 1) := by decide +kernel
theorem dX12_goOn_28 : decode cX12_goOn 28 = .ok (.invokevirtual 71, 3) := by decide +kernel
theorem dX12_goOn_31 : decode cX12_goOn 31 = .ok (.istore_n 2, 1) := by decide +kernel
theorem dX12_goOn_32 : decode cX12_goOn 32 = .ok (.aload_n 0, 1) := by decide +kernel
theorem dX12_goOn_33 : decode cX12_goOn 33 = .ok (.iconst 0, 1) := by decide +kernel
theorem dX12_goOn_34 : decode cX12_goOn 34 = .ok (.putfield 78, 3) := by decide +kernel
theorem dX12_goOn_37 : decode cX12_goOn 37 = .ok (.aload_n 0, 1) := by decide +kernel
theorem dX12_goOn_38 : decode cX12_goOn 38 = .ok (.iconst 0, 1) := by decide +kernel
theorem dX12_goOn_39 : decode cX12_goOn 39 = .ok (.putfield 81, 3) := by decide +kernel
theorem dX12_goOn_42 : decode cX12_goOn 42 = .ok (.iload_n 2, 1) := by decide +kernel
theorem dX12_goOn_43 : decode cX12_goOn 43 = .ok (.iconst (-1), 1) := by decide +kernel
theorem dX12_goOn_44 : decode cX12_goOn 44 = .ok (.if_icmp .ne 16, 3) := by decide +kernel
theorem dX12_goOn_47 : decode cX12_goOn 47 = .ok (.aload_n 0, 1) := by decide +kernel
theorem dX12_goOn_48 : decode cX12_goOn 48 = .ok (.iconst 0, 1) := by decide +kernel
theorem dX12_goOn_49 : decode cX12_goOn 49 = .ok (.putfield 84, 3) := by decide +kernel
theorem dX12_goOn_52 : decode cX12_goOn 52 = .ok (.aload_n 0, 1) := by decide +kernel
theorem dX12_goOn_53 : decode cX12_goOn 53 = .ok (.iload_n 1, 1) := by decide +kernel
theorem dX12_goOn_54 : decode cX12_goOn 54 = .ok (.putfield 68, 3) := by decide +kernel
theorem dX12_goOn_57 : decode cX12_goOn 57 = .ok (.goto 184, 3) := by decide +kernel
theorem dX12_goOn_60 : decode cX12_goOn 60 = .ok (.iload_n 2, 1) := by decide +kernel
theorem dX12_goOn_61 : decode cX12_goOn 61 = .ok (.invokestatic 87, 3) := by decide +kernel
theorem dX12_goOn_64 : decode cX12_goOn 64 = .ok (.ifCond .eq 79, 3) := by decide +kernel
theorem dX12_goOn_67 : decode cX12_goOn 67 = .ok (.aload_n 0, 1) := by decide +kernel
theorem dX12_goOn_68 : decode cX12_goOn 68 = .ok (.iload_n 1, 1) := by decide +kernel
theorem dX12_goOn_69 : decode cX12_goOn 69 = .ok (.invokevirtual 71, 3) := by decide +kernel
theorem dX12_goOn_72 : decode cX12_goOn 72 = .ok (.invokestatic 87, 3) := by decide +kernel
theorem dX12_goOn_75 : decode cX12_goOn 75 = .ok (.ifCond .eq 42, 3) := by decide +kernel
theorem dX12_goOn_78 : decode cX12_goOn 78 = .ok (.aload_n 0, 1) := by decide +kernel
theorem dX12_goOn_79 : decode cX12_goOn 79 = .ok (.getfield 78, 3) := by decide +kernel
theorem dX12_goOn_82 : decode cX12_goOn 82 = .ok (.bipush 8, 2) := by decide +kernel
theorem dX12_goOn_84 : decode cX12_goOn 84 = .ok (.if_icmp .ge 17, 3) := by decide +kernel
theorem dX12_goOn_87 : decode cX12_goOn 87 = .ok (.aload_n 0, 1) := by decide +kernel
theorem dX12_goOn_88 : decode cX12_goOn 88 = .ok (.getfield 17, 3) := by decide +kernel
theorem dX12_goOn_91 : decode cX12_goOn 91 = .ok (.aload_n 0, 1) := by decide +kernel
theorem dX12_goOn_92 : decode cX12_goOn 92 = .ok (.getfield 78, 3) := by decide +kernel
theorem dX12_goOn_95 : decode cX12_goOn 95 = .ok (.aload_n 0, 1) := by decide +kernel
theorem dX12_goOn_96 : decode cX12_goOn 96 = .ok (.iload_n 1, 1) := by decide +kernel
theorem dX12_goOn_97 : decode cX12_goOn 97 = .ok (.invokevirtual 71, 3) := by decide +kernel
theorem dX12_goOn_100 : decode cX12_goOn 100 = .ok (.iastore, 1) := by decide +kernel
theorem dX12_goOn_101 : decode cX12_goOn 101 = .ok (.aload_n 0, 1) := by decide +kernel
theorem dX12_goOn_102 : decode cX12_goOn 102 = .ok (.dup, 1) := by decide +kernel
theorem dX12_goOn_103 : decode cX12_goOn 103 = .ok (.getfield 78, 3) := by decide +kernel
theorem dX12_goOn_106 : decode cX12_goOn 106 = .ok (.iconst 1, 1) := by decide +kernel
theorem dX12_goOn_107 : decode cX12_goOn 107 = .ok (.iadd, 1) := by decide +kernel
theorem dX12_goOn_108 : decode cX12_goOn 108 = .ok (.putfield 78, 3) := by decide +kernel
theorem dX12_goOn_111 : decode cX12_goOn 111 = .ok (.iinc 1 1, 3) := by decide +kernel
theorem dX12_goOn_114 : decode cX12_goOn 114 = .ok (.goto (-47), 3) := by decide +kernel
theorem dX12_goOn_117 : decode cX12_goOn 117 = .ok (.aload_n 0, 1) := by decide +kernel
theorem dX12_goOn_118 : decode cX12_goOn 118 = .ok (.iload_n 1, 1) := by decide +kernel
theorem dX12_goOn_119 : decode cX12_goOn 119 = .ok (.putfield 68, 3) := by decide +kernel
theorem dX12_goOn_122 : decode cX12_goOn 122 = .ok (.aload_n 0, 1) := by decide +kernel
theorem dX12_goOn_123 : decode cX12_goOn 123 = .ok (.aload_n 0, 1) := by decide +kernel
theorem dX12_goOn_124 : decode cX12_goOn 124 = .ok (.getfield 78, 3) := by decide +kernel
theorem dX12_goOn_127 : decode cX12_goOn 127 = .ok (.bipush 8, 2) := by decide +kernel
theorem dX12_goOn_129 : decode cX12_goOn 129 = .ok (.if_icmp .le 7, 3) := by decide +kernel
theorem dX12_goOn_132 : decode cX12_goOn 132 = .ok (.iconst 1, 1) := by decide +kernel
theorem dX12_goOn_133 : decode cX12_goOn 133 = .ok (.goto 4, 3) := by decide +kernel
theorem dX12_goOn_136 : decode cX12_goOn 136 = .ok (.iconst 2, 1) := by decide +kernel
theorem dX12_goOn_137 : decode cX12_goOn 137 = .ok (.putfield 84, 3) := by decide +kernel
theorem dX12_goOn_140 : decode cX12_goOn 140 = .ok (.goto 101, 3) := by decide +kernel
theorem dX12_goOn_143 : decode cX12_goOn 143 = .ok (.iload_n 2, 1) := by decide +kernel
theorem dX12_goOn_144 : decode cX12_goOn 144 = .ok (.invokestatic 91, 3) := by decide +kernel
theorem dX12_goOn_147 : decode cX12_goOn 147 = .ok (.ifCond .eq 72, 3) := by decide +kernel
theorem dX12_goOn_150 : decode cX12_goOn 150 = .ok (.iconst 0, 1) := by decide +kernel
theorem dX12_goOn_151 : decode cX12_goOn 151 = .ok (.istore_n 3, 1) := by decide +kernel
theorem dX12_goOn_152 : decode cX12_goOn 152 = .ok (.aload_n 0, 1) := by decide +kernel
theorem dX12_goOn_153 : decode cX12_goOn 153 = .ok (.iload_n 1, 1) := by decide +kernel
theorem dX12_goOn_154 : decode cX12_goOn 154 = .ok (.invokevirtual 71, 3) := by decide +kernel
theorem dX12_goOn_157 : decode cX12_goOn 157 = .ok (.invokestatic 91, 3) := by decide +kernel
theorem dX12_goOn_160 : decode cX12_goOn 160 = .ok (.ifCond .eq 37, 3) := by decide +kernel
theorem dX12_goOn_163 : decode cX12_goOn 163 = .ok (.iload_n 3, 1) := by decide +kernel
theorem dX12_goOn_164 : decode cX12_goOn 164 = .ok (.iconst 3, 1) := by decide +kernel
theorem dX12_goOn_165 : decode cX12_goOn 165 = .ok (.if_icmp .ge 23, 3) := by decide +kernel
theorem dX12_goOn_168 : decode cX12_goOn 168 = .ok (.aload_n 0, 1) := by decide +kernel
theorem dX12_goOn_169 : decode cX12_goOn 169 = .ok (.bipush 10, 2) := by decide +kernel
theorem dX12_goOn_171 : decode cX12_goOn 171 = .ok (.aload_n 0, 1) := by decide +kernel
theorem dX12_goOn_172 : decode cX12_goOn 172 = .ok (.getfield 81, 3) := by decide +kernel
theorem dX12_goOn_175 : decode cX12_goOn 175 = .ok (.imul, 1) := by decide +kernel
theorem dX12_goOn_176 : decode cX12_goOn 176 = .ok (.aload_n 0, 1) := by decide +kernel
theorem dX12_goOn_177 : decode cX12_goOn 177 = .ok (.iload_n 1, 1) := by decide +kernel
theorem dX12_goOn_178 : decode cX12_goOn 178 = .ok (.invokevirtual 71, 3) := by decide +kernel
theorem dX12_goOn_181 : decode cX12_goOn 181 = .ok (.iadd, 1) := by decide +kernel
theorem dX12_goOn_182 : decode cX12_goOn 182 = .ok (.bipush 48, 2) := by decide +kernel
theorem dX12_goOn_184 : decode cX12_goOn 184 = .ok (.isub, 1) := by decide +kernel
theorem dX12_goOn_185 : decode cX12_goOn 185 = .ok (.putfield 81, 3) := by decide +kernel
theorem dX12_goOn_188 : decode cX12_goOn 188 = .ok (.iinc 3 1, 3) := by decide +kernel
theorem dX12_goOn_191 : decode cX12_goOn 191 = .ok (.iinc 1 1, 3) := by decide +kernel
theorem dX12_goOn_194 : decode cX12_goOn 194 = .ok (.goto (-42), 3) := by decide +kernel
theorem dX12_goOn_197 : decode cX12_goOn 197 = .ok (.aload_n 0, 1) := by decide +kernel
theorem dX12_goOn_198 : decode cX12_goOn 198 = .ok (.iload_n 1, 1) := by decide +kernel
theorem dX12_goOn_199 : decode cX12_goOn 199 = .ok (.putfield 68, 3) := by decide +kernel
theorem dX12_goOn_202 : decode cX12_goOn 202 = .ok (.aload_n 0, 1) := by decide +kernel
theorem dX12_goOn_203 : decode cX12_goOn 203 = .ok (.iload_n 3, 1) := by decide +kernel
theorem dX12_goOn_204 : decode cX12_goOn 204 = .ok (.iconst 3, 1) := by decide +kernel
theorem dX12_goOn_205 : decode cX12_goOn 205 = .ok (.if_icmp .le 7, 3) := by decide +kernel
theorem dX12_goOn_208 : decode cX12_goOn 208 = .ok (.iconst 1, 1) := by decide +kernel
theorem dX12_goOn_209 : decode cX12_goOn 209 = .ok (.goto 4, 3) := by decide +kernel
theorem dX12_goOn_212 : decode cX12_goOn 212 = .ok (.iconst 3, 1) := by decide +kernel
theorem dX12_goOn_213 : decode cX12_goOn 213 = .ok (.putfield 84, 3) := by decide +kernel
theorem dX12_goOn_216 : decode cX12_goOn 216 = .ok (.goto 25, 3) := by decide +kernel
theorem dX12_goOn_219 : decode cX12_goOn 219 = .ok (.aload_n 0, 1) := by decide +kernel
theorem dX12_goOn_220 : decode cX12_goOn 220 = .ok (.iload_n 1, 1) := by decide +kernel
theorem dX12_goOn_221 : decode cX12_goOn 221 = .ok (.iconst 1, 1) := by decide +kernel
theorem dX12_goOn_222 : decode cX12_goOn 222 = .ok (.iadd, 1) := by decide +kernel
theorem dX12_goOn_223 : decode cX12_goOn 223 = .ok (.putfield 68, 3) := by decide +kernel
theorem dX12_goOn_226 : decode cX12_goOn 226 = .ok (.aload_n 0, 1) := by decide +kernel
theorem dX12_goOn_227 : decode cX12_goOn 227 = .ok (.iload_n 2, 1) := by decide +kernel
theorem dX12_goOn_228 : decode cX12_goOn 228 = .ok (.bipush 59, 2) := by decide +kernel
theorem dX12_goOn_230 : decode cX12_goOn 230 = .ok (.if_icmp .ne 7, 3) := by decide +kernel
theorem dX12_goOn_233 : decode cX12_goOn 233 = .ok (.iload_n 2, 1) := by decide +kernel
theorem dX12_goOn_234 : decode cX12_goOn 234 = .ok (.goto 4, 3) := by decide +kernel
theorem dX12_goOn_237 : decode cX12_goOn 237 = .ok (.iconst 1, 1) := by decide +kernel
theorem dX12_goOn_238 : decode cX12_goOn 238 = .ok (.putfield 84, 3) := by decide +kernel
theorem dX12_goOn_241 : decode cX12_goOn 241 = .ok (.return_, 1) := by decide +kernel
theorem dX12_wrong_0 : decode cX12_wrong 0 = .ok (.aload_n 0, 1) := by decide +kernel
theorem dX12_wrong_1 : decode cX12_wrong 1 = .ok (.getfield 94, 3) := by decide +kernel
theorem dX12_wrong_4 : decode cX12_wrong 4 = .ok (.ifCond .eq 4, 3) := by decide +kernel
theorem dX12_wrong_7 : decode cX12_wrong 7 = .ok (.return_, 1) := by decide +kernel
theorem dX12_wrong_8 : decode cX12_wrong 8 = .ok (.aload_n 0, 1) := by decide +kernel
theorem dX12_wrong_9 : decode cX12_wrong 9 = .ok (.iconst 1, 1) := by decide +kernel
theorem dX12_wrong_10 : decode cX12_wrong 10 = .ok (.putfield 94, 3) := by decide +kernel
theorem dX12_wrong_13 : decode cX12_wrong 13 = .ok (.aload_n 0, 1) := by decide +kernel
theorem dX12_wrong_14 : decode cX12_wrong 14 = .ok (.iload_n 1, 1) := by decide +kernel
theorem dX12_wrong_15 : decode cX12_wrong 15 = .ok (.putfield 98, 3) := by decide +kernel
theorem dX12_wrong_18 : decode cX12_wrong 18 = .ok (.aload_n 0, 1) := by decide +kernel
theorem dX12_wrong_19 : decode cX12_wrong 19 = .ok (.iload_n 2, 1) := by decide +kernel
theorem dX12_wrong_20 : decode cX12_wrong 20 = .ok (.putfield 13, 3) := by decide +kernel
theorem dX12_wrong_23 : decode cX12_wrong 23 = .ok (.return_, 1) := by decide +kernel
theorem dX12_isWord_0 : decode cX12_isWord 0 = .ok (.aload_n 0, 1) := by decide +kernel
theorem dX12_isWord_1 : decode cX12_isWord 1 = .ok (.getfield 94, 3) := by decide +kernel
theorem dX12_isWord_4 : decode cX12_isWord 4 = .ok (.ifCond .ne 22, 3) := by decide +kernel
theorem dX12_isWord_7 : decode cX12_isWord 7 = .ok (.aload_n 0, 1) := by decide +kernel
theorem dX12_isWord_8 : decode cX12_isWord 8 = .ok (.getfield 84, 3) := by decide +kernel
theorem dX12_isWord_11 : decode cX12_isWord 11 = .ok (.iconst 2, 1) := by decide +kernel
theorem dX12_isWord_12 : decode cX12_isWord 12 = .ok (.if_icmp .ne 14, 3) := by decide +kernel
theorem dX12_isWord_15 : decode cX12_isWord 15 = .ok (.aload_n 0, 1) := by decide +kernel
theorem dX12_isWord_16 : decode cX12_isWord 16 = .ok (.getfield 78, 3) := by decide +kernel
theorem dX12_isWord_19 : decode cX12_isWord 19 = .ok (.aload_n 1, 1) := by decide +kernel
theorem dX12_isWord_20 : decode cX12_isWord 20 = .ok (.invokevirtual 101, 3) := by decide +kernel
theorem dX12_isWord_23 : decode cX12_isWord 23 = .ok (.if_icmp .eq 5, 3) := by decide +kernel
theorem dX12_isWord_26 : decode cX12_isWord 26 = .ok (.iconst 0, 1) := by decide +kernel
theorem dX12_isWord_27 : decode cX12_isWord 27 = .ok (.ireturn, 1) := by decide +kernel
theorem dX12_isWord_28 : decode cX12_isWord 28 = .ok (.iconst 1, 1) := by decide +kernel
theorem dX12_isWord_29 : decode cX12_isWord 29 = .ok (.istore_n 2, 1) := by decide +kernel
theorem dX12_isWord_30 : decode cX12_isWord 30 = .ok (.iconst 0, 1) := by decide +kernel
theorem dX12_isWord_31 : decode cX12_isWord 31 = .ok (.istore_n 3, 1) := by decide +kernel
theorem dX12_isWord_32 : decode cX12_isWord 32 = .ok (.iload_n 3, 1) := by decide +kernel
theorem dX12_isWord_33 : decode cX12_isWord 33 = .ok (.aload_n 0, 1) := by decide +kernel
theorem dX12_isWord_34 : decode cX12_isWord 34 = .ok (.getfield 78, 3) := by decide +kernel
theorem dX12_isWord_37 : decode cX12_isWord 37 = .ok (.if_icmp .ge 33, 3) := by decide +kernel
theorem dX12_isWord_40 : decode cX12_isWord 40 = .ok (.iload_n 2, 1) := by decide +kernel
theorem dX12_isWord_41 : decode cX12_isWord 41 = .ok (.ifCond .eq 21, 3) := by decide +kernel
theorem dX12_isWord_44 : decode cX12_isWord 44 = .ok (.aload_n 0, 1) := by decide +kernel
theorem dX12_isWord_45 : decode cX12_isWord 45 = .ok (.getfield 17, 3) := by decide +kernel
theorem dX12_isWord_48 : decode cX12_isWord 48 = .ok (.iload_n 3, 1) := by decide +kernel
theorem dX12_isWord_49 : decode cX12_isWord 49 = .ok (.iaload, 1) := by decide +kernel
theorem dX12_isWord_50 : decode cX12_isWord 50 = .ok (.aload_n 1, 1) := by decide +kernel
theorem dX12_isWord_51 : decode cX12_isWord 51 = .ok (.iload_n 3, 1) := by decide +kernel
theorem dX12_isWord_52 : decode cX12_isWord 52 = .ok (.invokevirtual 107, 3) := by decide +kernel
theorem dX12_isWord_55 : decode cX12_isWord 55 = .ok (.if_icmp .ne 7, 3) := by decide +kernel
theorem dX12_isWord_58 : decode cX12_isWord 58 = .ok (.iconst 1, 1) := by decide +kernel
theorem dX12_isWord_59 : decode cX12_isWord 59 = .ok (.goto 4, 3) := by decide +kernel
theorem dX12_isWord_62 : decode cX12_isWord 62 = .ok (.iconst 0, 1) := by decide +kernel
theorem dX12_isWord_63 : decode cX12_isWord 63 = .ok (.istore_n 2, 1) := by decide +kernel
theorem dX12_isWord_64 : decode cX12_isWord 64 = .ok (.iinc 3 1, 3) := by decide +kernel
theorem dX12_isWord_67 : decode cX12_isWord 67 = .ok (.goto (-35), 3) := by decide +kernel
theorem dX12_isWord_70 : decode cX12_isWord 70 = .ok (.iload_n 2, 1) := by decide +kernel
theorem dX12_isWord_71 : decode cX12_isWord 71 = .ok (.ireturn, 1) := by decide +kernel
theorem dX12_takesWord_0 : decode cX12_takesWord 0 = .ok (.aload_n 0, 1) := by decide +kernel
theorem dX12_takesWord_1 : decode cX12_takesWord 1 = .ok (.aload_n 1, 1) := by decide +kernel
theorem dX12_takesWord_2 : decode cX12_takesWord 2 = .ok (.invokevirtual 111, 3) := by decide +kernel
theorem dX12_takesWord_5 : decode cX12_takesWord 5 = .ok (.ifCond .ne 5, 3) := by decide +kernel
theorem dX12_takesWord_8 : decode cX12_takesWord 8 = .ok (.iconst 0, 1) := by decide +kernel
theorem dX12_takesWord_9 : decode cX12_takesWord 9 = .ok (.ireturn, 1) := by decide +kernel
theorem dX12_takesWord_10 : decode cX12_takesWord 10 = .ok (.aload_n 0, 1) := by decide +kernel
theorem dX12_takesWord_11 : decode cX12_takesWord 11 = .ok (.invokevirtual 115, 3) := by decide +kernel
theorem dX12_takesWord_14 : decode cX12_takesWord 14 = .ok (.iconst 1, 1) := by decide +kernel
theorem dX12_takesWord_15 : decode cX12_takesWord 15 = .ok (.ireturn, 1) := by decide +kernel
theorem dX12_must_0 : decode cX12_must 0 = .ok (.aload_n 0, 1) := by decide +kernel
theorem dX12_must_1 : decode cX12_must 1 = .ok (.getfield 94, 3) := by decide +kernel
theorem dX12_must_4 : decode cX12_must 4 = .ok (.ifCond .ne 20, 3) := by decide +kernel
theorem dX12_must_7 : decode cX12_must 7 = .ok (.aload_n 0, 1) := by decide +kernel
theorem dX12_must_8 : decode cX12_must 8 = .ok (.aload_n 1, 1) := by decide +kernel
theorem dX12_must_9 : decode cX12_must 9 = .ok (.invokevirtual 118, 3) := by decide +kernel
theorem dX12_must_12 : decode cX12_must 12 = .ok (.ifCond .ne 12, 3) := by decide +kernel
theorem dX12_must_15 : decode cX12_must 15 = .ok (.aload_n 0, 1) := by decide +kernel
theorem dX12_must_16 : decode cX12_must 16 = .ok (.iconst 1, 1) := by decide +kernel
theorem dX12_must_17 : decode cX12_must 17 = .ok (.aload_n 0, 1) := by decide +kernel
theorem dX12_must_18 : decode cX12_must 18 = .ok (.getfield 75, 3) := by decide +kernel
theorem dX12_must_21 : decode cX12_must 21 = .ok (.invokevirtual 121, 3) := by decide +kernel
theorem dX12_must_24 : decode cX12_must 24 = .ok (.return_, 1) := by decide +kernel
theorem dX12_mustName_0 : decode cX12_mustName 0 = .ok (.aload_n 0, 1) := by decide +kernel
theorem dX12_mustName_1 : decode cX12_mustName 1 = .ok (.getfield 84, 3) := by decide +kernel
theorem dX12_mustName_4 : decode cX12_mustName 4 = .ok (.iconst 2, 1) := by decide +kernel
theorem dX12_mustName_5 : decode cX12_mustName 5 = .ok (.if_icmp .ne 75, 3) := by decide +kernel
theorem dX12_mustName_8 : decode cX12_mustName 8 = .ok (.aload_n 0, 1) := by decide +kernel
theorem dX12_mustName_9 : decode cX12_mustName 9 = .ok (.ldc 125, 2) := by decide +kernel
theorem dX12_mustName_11 : decode cX12_mustName 11 = .ok (.invokevirtual 111, 3) := by decide +kernel
theorem dX12_mustName_14 : decode cX12_mustName 14 = .ok (.ifCond .ne 66, 3) := by decide +kernel
theorem dX12_mustName_17 : decode cX12_mustName 17 = .ok (.aload_n 0, 1) := by decide +kernel
theorem dX12_mustName_18 : decode cX12_mustName 18 = .ok (.ldc 127, 2) := by decide +kernel
theorem dX12_mustName_20 : decode cX12_mustName 20 = .ok (.invokevirtual 111, 3) := by decide +kernel
theorem dX12_mustName_23 : decode cX12_mustName 23 = .ok (.ifCond .ne 57, 3) := by decide +kernel
theorem dX12_mustName_26 : decode cX12_mustName 26 = .ok (.aload_n 0, 1) := by decide +kernel
theorem dX12_mustName_27 : decode cX12_mustName 27 = .ok (.ldc 128, 2) := by decide +kernel
theorem dX12_mustName_29 : decode cX12_mustName 29 = .ok (.invokevirtual 111, 3) := by decide +kernel
theorem dX12_mustName_32 : decode cX12_mustName 32 = .ok (.ifCond .ne 48, 3) := by decide +kernel
theorem dX12_mustName_35 : decode cX12_mustName 35 = .ok (.aload_n 0, 1) := by decide +kernel
theorem dX12_mustName_36 : decode cX12_mustName 36 = .ok (.ldc 130, 2) := by decide +kernel
theorem dX12_mustName_38 : decode cX12_mustName 38 = .ok (.invokevirtual 111, 3) := by decide +kernel
theorem dX12_mustName_41 : decode cX12_mustName 41 = .ok (.ifCond .ne 39, 3) := by decide +kernel
theorem dX12_mustName_44 : decode cX12_mustName 44 = .ok (.aload_n 0, 1) := by decide +kernel
theorem dX12_mustName_45 : decode cX12_mustName 45 = .ok (.ldc 132, 2) := by decide +kernel
theorem dX12_mustName_47 : decode cX12_mustName 47 = .ok (.invokevirtual 111, 3) := by decide +kernel
theorem dX12_mustName_50 : decode cX12_mustName 50 = .ok (.ifCond .ne 30, 3) := by decide +kernel
theorem dX12_mustName_53 : decode cX12_mustName 53 = .ok (.aload_n 0, 1) := by decide +kernel
theorem dX12_mustName_54 : decode cX12_mustName 54 = .ok (.ldc 134, 2) := by decide +kernel
theorem dX12_mustName_56 : decode cX12_mustName 56 = .ok (.invokevirtual 111, 3) := by decide +kernel
theorem dX12_mustName_59 : decode cX12_mustName 59 = .ok (.ifCond .ne 21, 3) := by decide +kernel
theorem dX12_mustName_62 : decode cX12_mustName 62 = .ok (.aload_n 0, 1) := by decide +kernel
theorem dX12_mustName_63 : decode cX12_mustName 63 = .ok (.ldc 136, 2) := by decide +kernel
theorem dX12_mustName_65 : decode cX12_mustName 65 = .ok (.invokevirtual 111, 3) := by decide +kernel
theorem dX12_mustName_68 : decode cX12_mustName 68 = .ok (.ifCond .ne 12, 3) := by decide +kernel
theorem dX12_mustName_71 : decode cX12_mustName 71 = .ok (.aload_n 0, 1) := by decide +kernel
theorem dX12_mustName_72 : decode cX12_mustName 72 = .ok (.ldc 138, 2) := by decide +kernel
theorem dX12_mustName_74 : decode cX12_mustName 74 = .ok (.invokevirtual 111, 3) := by decide +kernel
theorem dX12_mustName_77 : decode cX12_mustName 77 = .ok (.ifCond .eq 12, 3) := by decide +kernel
theorem dX12_mustName_80 : decode cX12_mustName 80 = .ok (.aload_n 0, 1) := by decide +kernel
theorem dX12_mustName_81 : decode cX12_mustName 81 = .ok (.iconst 1, 1) := by decide +kernel
theorem dX12_mustName_82 : decode cX12_mustName 82 = .ok (.aload_n 0, 1) := by decide +kernel
theorem dX12_mustName_83 : decode cX12_mustName 83 = .ok (.getfield 75, 3) := by decide +kernel
theorem dX12_mustName_86 : decode cX12_mustName 86 = .ok (.invokevirtual 121, 3) := by decide +kernel
theorem dX12_mustName_89 : decode cX12_mustName 89 = .ok (.return_, 1) := by decide +kernel
theorem dX12_find_0 : decode cX12_find 0 = .ok (.iconst 0, 1) := by decide +kernel
theorem dX12_find_1 : decode cX12_find 1 = .ok (.istore_n 1, 1) := by decide +kernel
theorem dX12_find_2 : decode cX12_find 2 = .ok (.iload_n 1, 1) := by decide +kernel
theorem dX12_find_3 : decode cX12_find 3 = .ok (.bipush 20, 2) := by decide +kernel
theorem dX12_find_5 : decode cX12_find 5 = .ok (.if_icmp .ge 98, 3) := by decide +kernel
theorem dX12_find_8 : decode cX12_find 8 = .ok (.aload_n 0, 1) := by decide +kernel
theorem dX12_find_9 : decode cX12_find 9 = .ok (.getfield 23, 3) := by decide +kernel
theorem dX12_find_12 : decode cX12_find 12 = .ok (.bipush 61, 2) := by decide +kernel
theorem dX12_find_14 : decode cX12_find 14 = .ok (.iload_n 1, 1) := by decide +kernel
theorem dX12_find_15 : decode cX12_find 15 = .ok (.iadd, 1) := by decide +kernel
theorem dX12_find_16 : decode cX12_find 16 = .ok (.iaload, 1) := by decide +kernel
theorem dX12_find_17 : decode cX12_find 17 = .ok (.ifCond .le 23, 3) := by decide +kernel
theorem dX12_find_20 : decode cX12_find 20 = .ok (.aload_n 0, 1) := by decide +kernel
theorem dX12_find_21 : decode cX12_find 21 = .ok (.getfield 23, 3) := by decide +kernel
theorem dX12_find_24 : decode cX12_find 24 = .ok (.bipush 61, 2) := by decide +kernel
theorem dX12_find_26 : decode cX12_find 26 = .ok (.iload_n 1, 1) := by decide +kernel
theorem dX12_find_27 : decode cX12_find 27 = .ok (.iadd, 1) := by decide +kernel
theorem dX12_find_28 : decode cX12_find 28 = .ok (.iaload, 1) := by decide +kernel
theorem dX12_find_29 : decode cX12_find 29 = .ok (.aload_n 0, 1) := by decide +kernel
theorem dX12_find_30 : decode cX12_find 30 = .ok (.getfield 78, 3) := by decide +kernel
theorem dX12_find_33 : decode cX12_find 33 = .ok (.if_icmp .ne 7, 3) := by decide +kernel
theorem dX12_find_36 : decode cX12_find 36 = .ok (.iconst 1, 1) := by decide +kernel
theorem dX12_find_37 : decode cX12_find 37 = .ok (.goto 4, 3) := by decide +kernel
theorem dX12_find_40 : decode cX12_find 40 = .ok (.iconst 0, 1) := by decide +kernel
theorem dX12_find_41 : decode cX12_find 41 = .ok (.istore_n 2, 1) := by decide +kernel
theorem dX12_find_42 : decode cX12_find 42 = .ok (.iconst 0, 1) := by decide +kernel
theorem dX12_find_43 : decode cX12_find 43 = .ok (.istore_n 3, 1) := by decide +kernel
theorem dX12_find_44 : decode cX12_find 44 = .ok (.iload_n 3, 1) := by decide +kernel
theorem dX12_find_45 : decode cX12_find 45 = .ok (.aload_n 0, 1) := by decide +kernel
theorem dX12_find_46 : decode cX12_find 46 = .ok (.getfield 78, 3) := by decide +kernel
theorem dX12_find_49 : decode cX12_find 49 = .ok (.if_icmp .ge 42, 3) := by decide +kernel
theorem dX12_find_52 : decode cX12_find 52 = .ok (.iload_n 2, 1) := by decide +kernel
theorem dX12_find_53 : decode cX12_find 53 = .ok (.ifCond .eq 38, 3) := by decide +kernel
theorem dX12_find_56 : decode cX12_find 56 = .ok (.aload_n 0, 1) := by decide +kernel
theorem dX12_find_57 : decode cX12_find 57 = .ok (.getfield 23, 3) := by decide +kernel
theorem dX12_find_60 : decode cX12_find 60 = .ok (.bipush 81, 2) := by decide +kernel
theorem dX12_find_62 : decode cX12_find 62 = .ok (.bipush 8, 2) := by decide +kernel
theorem dX12_find_64 : decode cX12_find 64 = .ok (.iload_n 1, 1) := by decide +kernel
theorem dX12_find_65 : decode cX12_find 65 = .ok (.imul, 1) := by decide +kernel
theorem dX12_find_66 : decode cX12_find 66 = .ok (.iadd, 1) := by decide +kernel
theorem dX12_find_67 : decode cX12_find 67 = .ok (.iload_n 3, 1) := by decide +kernel
theorem dX12_find_68 : decode cX12_find 68 = .ok (.iadd, 1) := by decide +kernel
theorem dX12_find_69 : decode cX12_find 69 = .ok (.iaload, 1) := by decide +kernel
theorem dX12_find_70 : decode cX12_find 70 = .ok (.aload_n 0, 1) := by decide +kernel
theorem dX12_find_71 : decode cX12_find 71 = .ok (.getfield 17, 3) := by decide +kernel
theorem dX12_find_74 : decode cX12_find 74 = .ok (.iload_n 3, 1) := by decide +kernel
theorem dX12_find_75 : decode cX12_find 75 = .ok (.iaload, 1) := by decide +kernel
theorem dX12_find_76 : decode cX12_find 76 = .ok (.if_icmp .ne 7, 3) := by decide +kernel
theorem dX12_find_79 : decode cX12_find 79 = .ok (.iconst 1, 1) := by decide +kernel
theorem dX12_find_80 : decode cX12_find 80 = .ok (.goto 4, 3) := by decide +kernel
theorem dX12_find_83 : decode cX12_find 83 = .ok (.iconst 0, 1) := by decide +kernel
theorem dX12_find_84 : decode cX12_find 84 = .ok (.istore_n 2, 1) := by decide +kernel
theorem dX12_find_85 : decode cX12_find 85 = .ok (.iinc 3 1, 3) := by decide +kernel
theorem dX12_find_88 : decode cX12_find 88 = .ok (.goto (-44), 3) := by decide +kernel
theorem dX12_find_91 : decode cX12_find 91 = .ok (.iload_n 2, 1) := by decide +kernel
theorem dX12_find_92 : decode cX12_find 92 = .ok (.ifCond .eq 5, 3) := by decide +kernel
theorem dX12_find_95 : decode cX12_find 95 = .ok (.iload_n 1, 1) := by decide +kernel
theorem dX12_find_96 : decode cX12_find 96 = .ok (.ireturn, 1) := by decide +kernel
theorem dX12_find_97 : decode cX12_find 97 = .ok (.iinc 1 1, 3) := by decide +kernel
theorem dX12_find_100 : decode cX12_find 100 = .ok (.goto (-98), 3) := by decide +kernel
theorem dX12_find_103 : decode cX12_find 103 = .ok (.iconst (-1), 1) := by decide +kernel
theorem dX12_find_104 : decode cX12_find 104 = .ok (.ireturn, 1) := by decide +kernel
theorem dX12_newName_0 : decode cX12_newName 0 = .ok (.aload_n 0, 1) := by decide +kernel
theorem dX12_newName_1 : decode cX12_newName 1 = .ok (.getfield 94, 3) := by decide +kernel
theorem dX12_newName_4 : decode cX12_newName 4 = .ok (.ifCond .eq 4, 3) := by decide +kernel
theorem dX12_newName_7 : decode cX12_newName 7 = .ok (.return_, 1) := by decide +kernel
theorem dX12_newName_8 : decode cX12_newName 8 = .ok (.aload_n 0, 1) := by decide +kernel
theorem dX12_newName_9 : decode cX12_newName 9 = .ok (.invokevirtual 140, 3) := by decide +kernel
theorem dX12_newName_12 : decode cX12_newName 12 = .ok (.aload_n 0, 1) := by decide +kernel
theorem dX12_newName_13 : decode cX12_newName 13 = .ok (.getfield 94, 3) := by decide +kernel
theorem dX12_newName_16 : decode cX12_newName 16 = .ok (.ifCond .ne 19, 3) := by decide +kernel
theorem dX12_newName_19 : decode cX12_newName 19 = .ok (.aload_n 0, 1) := by decide +kernel
theorem dX12_newName_20 : decode cX12_newName 20 = .ok (.invokevirtual 143, 3) := by decide +kernel
theorem dX12_newName_23 : decode cX12_newName 23 = .ok (.ifCond .lt 12, 3) := by decide +kernel
theorem dX12_newName_26 : decode cX12_newName 26 = .ok (.aload_n 0, 1) := by decide +kernel
theorem dX12_newName_27 : decode cX12_newName 27 = .ok (.iconst 3, 1) := by decide +kernel
theorem dX12_newName_28 : decode cX12_newName 28 = .ok (.aload_n 0, 1) := by decide +kernel
theorem dX12_newName_29 : decode cX12_newName 29 = .ok (.getfield 75, 3) := by decide +kernel
theorem dX12_newName_32 : decode cX12_newName 32 = .ok (.invokevirtual 121, 3) := by decide +kernel
theorem dX12_newName_35 : decode cX12_newName 35 = .ok (.aload_n 0, 1) := by decide +kernel
theorem dX12_newName_36 : decode cX12_newName 36 = .ok (.getfield 94, 3) := by decide +kernel
theorem dX12_newName_39 : decode cX12_newName 39 = .ok (.ifCond .eq 4, 3) := by decide +kernel
theorem dX12_newName_42 : decode cX12_newName 42 = .ok (.return_, 1) := by decide +kernel
theorem dX12_newName_43 : decode cX12_newName 43 = .ok (.iconst 0, 1) := by decide +kernel
theorem dX12_newName_44 : decode cX12_newName 44 = .ok (.istore_n 2, 1) := by decide +kernel
theorem dX12_newName_45 : decode cX12_newName 45 = .ok (.iload_n 2, 1) := by decide +kernel
theorem dX12_newName_46 : decode cX12_newName 46 = .ok (.aload_n 0, 1) := by decide +kernel
theorem dX12_newName_47 : decode cX12_newName 47 = .ok (.getfield 78, 3) := by decide +kernel
theorem dX12_newName_50 : decode cX12_newName 50 = .ok (.if_icmp .ge 29, 3) := by decide +kernel
theorem dX12_newName_53 : decode cX12_newName 53 = .ok (.aload_n 0, 1) := by decide +kernel
theorem dX12_newName_54 : decode cX12_newName 54 = .ok (.getfield 23, 3) := by decide +kernel
theorem dX12_newName_57 : decode cX12_newName 57 = .ok (.bipush 81, 2) := by decide +kernel
theorem dX12_newName_59 : decode cX12_newName 59 = .ok (.bipush 8, 2) := by decide +kernel
theorem dX12_newName_61 : decode cX12_newName 61 = .ok (.iload_n 1, 1) := by decide +kernel
theorem dX12_newName_62 : decode cX12_newName 62 = .ok (.imul, 1) := by decide +kernel
theorem dX12_newName_63 : decode cX12_newName 63 = .ok (.iadd, 1) := by decide +kernel
theorem dX12_newName_64 : decode cX12_newName 64 = .ok (.iload_n 2, 1) := by decide +kernel
theorem dX12_newName_65 : decode cX12_newName 65 = .ok (.iadd, 1) := by decide +kernel
theorem dX12_newName_66 : decode cX12_newName 66 = .ok (.aload_n 0, 1) := by decide +kernel
theorem dX12_newName_67 : decode cX12_newName 67 = .ok (.getfield 17, 3) := by decide +kernel
theorem dX12_newName_70 : decode cX12_newName 70 = .ok (.iload_n 2, 1) := by decide +kernel
theorem dX12_newName_71 : decode cX12_newName 71 = .ok (.iaload, 1) := by decide +kernel
theorem dX12_newName_72 : decode cX12_newName 72 = .ok (.iastore, 1) := by decide +kernel
theorem dX12_newName_73 : decode cX12_newName 73 = .ok (.iinc 2 1, 3) := by decide +kernel
theorem dX12_newName_76 : decode cX12_newName 76 = .ok (.goto (-31), 3) := by decide +kernel
theorem dX12_newName_79 : decode cX12_newName 79 = .ok (.aload_n 0, 1) := by decide +kernel
theorem dX12_newName_80 : decode cX12_newName 80 = .ok (.getfield 23, 3) := by decide +kernel
theorem dX12_newName_83 : decode cX12_newName 83 = .ok (.bipush 61, 2) := by decide +kernel
theorem dX12_newName_85 : decode cX12_newName 85 = .ok (.iload_n 1, 1) := by decide +kernel
theorem dX12_newName_86 : decode cX12_newName 86 = .ok (.iadd, 1) := by decide +kernel
theorem dX12_newName_87 : decode cX12_newName 87 = .ok (.aload_n 0, 1) := by decide +kernel
theorem dX12_newName_88 : decode cX12_newName 88 = .ok (.getfield 78, 3) := by decide +kernel
theorem dX12_newName_91 : decode cX12_newName 91 = .ok (.iastore, 1) := by decide +kernel
theorem dX12_newName_92 : decode cX12_newName 92 = .ok (.aload_n 0, 1) := by decide +kernel
theorem dX12_newName_93 : decode cX12_newName 93 = .ok (.invokevirtual 115, 3) := by decide +kernel
theorem dX12_newName_96 : decode cX12_newName 96 = .ok (.return_, 1) := by decide +kernel
theorem dX12_named_0 : decode cX12_named 0 = .ok (.aload_n 0, 1) := by decide +kernel
theorem dX12_named_1 : decode cX12_named 1 = .ok (.getfield 94, 3) := by decide +kernel
theorem dX12_named_4 : decode cX12_named 4 = .ok (.ifCond .eq 5, 3) := by decide +kernel
theorem dX12_named_7 : decode cX12_named 7 = .ok (.iconst 0, 1) := by decide +kernel
theorem dX12_named_8 : decode cX12_named 8 = .ok (.ireturn, 1) := by decide +kernel
theorem dX12_named_9 : decode cX12_named 9 = .ok (.aload_n 0, 1) := by decide +kernel
theorem dX12_named_10 : decode cX12_named 10 = .ok (.invokevirtual 140, 3) := by decide +kernel
theorem dX12_named_13 : decode cX12_named 13 = .ok (.aload_n 0, 1) := by decide +kernel
theorem dX12_named_14 : decode cX12_named 14 = .ok (.getfield 94, 3) := by decide +kernel
theorem dX12_named_17 : decode cX12_named 17 = .ok (.ifCond .eq 5, 3) := by decide +kernel
theorem dX12_named_20 : decode cX12_named 20 = .ok (.iconst 0, 1) := by decide +kernel
theorem dX12_named_21 : decode cX12_named 21 = .ok (.ireturn, 1) := by decide +kernel
theorem dX12_named_22 : decode cX12_named 22 = .ok (.aload_n 0, 1) := by decide +kernel
theorem dX12_named_23 : decode cX12_named 23 = .ok (.invokevirtual 143, 3) := by decide +kernel
theorem dX12_named_26 : decode cX12_named 26 = .ok (.istore_n 3, 1) := by decide +kernel
theorem dX12_named_27 : decode cX12_named 27 = .ok (.iload_n 3, 1) := by decide +kernel
theorem dX12_named_28 : decode cX12_named 28 = .ok (.iload_n 1, 1) := by decide +kernel
theorem dX12_named_29 : decode cX12_named 29 = .ok (.iload_n 2, 1) := by decide +kernel
theorem dX12_named_30 : decode cX12_named 30 = .ok (.invokestatic 146, 3) := by decide +kernel
theorem dX12_named_33 : decode cX12_named 33 = .ok (.ifCond .ne 12, 3) := by decide +kernel
theorem dX12_named_36 : decode cX12_named 36 = .ok (.aload_n 0, 1) := by decide +kernel
theorem dX12_named_37 : decode cX12_named 37 = .ok (.iconst 2, 1) := by decide +kernel
theorem dX12_named_38 : decode cX12_named 38 = .ok (.aload_n 0, 1) := by decide +kernel
theorem dX12_named_39 : decode cX12_named 39 = .ok (.getfield 75, 3) := by decide +kernel
theorem dX12_named_42 : decode cX12_named 42 = .ok (.invokevirtual 121, 3) := by decide +kernel
theorem dX12_named_45 : decode cX12_named 45 = .ok (.aload_n 0, 1) := by decide +kernel
theorem dX12_named_46 : decode cX12_named 46 = .ok (.getfield 94, 3) := by decide +kernel
theorem dX12_named_49 : decode cX12_named 49 = .ok (.ifCond .eq 7, 3) := by decide +kernel
theorem dX12_named_52 : decode cX12_named 52 = .ok (.iconst 0, 1) := by decide +kernel
theorem dX12_named_53 : decode cX12_named 53 = .ok (.goto 6, 3) := by decide +kernel
theorem dX12_named_56 : decode cX12_named 56 = .ok (.iload_n 3, 1) := by decide +kernel
theorem dX12_named_57 : decode cX12_named 57 = .ok (.iload_n 1, 1) := by decide +kernel
theorem dX12_named_58 : decode cX12_named 58 = .ok (.isub, 1) := by decide +kernel
theorem dX12_named_59 : decode cX12_named 59 = .ok (.ireturn, 1) := by decide +kernel
theorem dX12_placeHere_0 : decode cX12_placeHere 0 = .ok (.aload_n 0, 1) := by decide +kernel
theorem dX12_placeHere_1 : decode cX12_placeHere 1 = .ok (.iconst 0, 1) := by decide +kernel
theorem dX12_placeHere_2 : decode cX12_placeHere 2 = .ok (.bipush 6, 2) := by decide +kernel
theorem dX12_placeHere_4 : decode cX12_placeHere 4 = .ok (.invokevirtual 150, 3) := by decide +kernel
theorem dX12_placeHere_7 : decode cX12_placeHere 7 = .ok (.ireturn, 1) := by decide +kernel
theorem dX12_manHere_0 : decode cX12_manHere 0 = .ok (.aload_n 0, 1) := by decide +kernel
theorem dX12_manHere_1 : decode cX12_manHere 1 = .ok (.bipush 7, 2) := by decide +kernel
theorem dX12_manHere_3 : decode cX12_manHere 3 = .ok (.bipush 10, 2) := by decide +kernel
theorem dX12_manHere_5 : decode cX12_manHere 5 = .ok (.invokevirtual 150, 3) := by decide +kernel
theorem dX12_manHere_8 : decode cX12_manHere 8 = .ok (.ireturn, 1) := by decide +kernel
theorem dX12_pass_0 : decode cX12_pass 0 = .ok (.aload_n 0, 1) := by decide +kernel
theorem dX12_pass_1 : decode cX12_pass 1 = .ok (.getfield 94, 3) := by decide +kernel
theorem dX12_pass_4 : decode cX12_pass 4 = .ok (.ifCond .ne 7, 3) := by decide +kernel
theorem dX12_pass_7 : decode cX12_pass 7 = .ok (.aload_n 0, 1) := by decide +kernel
theorem dX12_pass_8 : decode cX12_pass 8 = .ok (.invokevirtual 115, 3) := by decide +kernel
theorem dX12_pass_11 : decode cX12_pass 11 = .ok (.return_, 1) := by decide +kernel
theorem dX12_placePassed_0 : decode cX12_placePassed 0 = .ok (.aload_n 0, 1) := by decide +kernel
theorem dX12_placePassed_1 : decode cX12_placePassed 1 = .ok (.invokevirtual 154, 3) := by decide +kernel
theorem dX12_placePassed_4 : decode cX12_placePassed 4 = .ok (.istore_n 1, 1) := by decide +kernel
theorem dX12_placePassed_5 : decode cX12_placePassed 5 = .ok (.aload_n 0, 1) := by decide +kernel
theorem dX12_placePassed_6 : decode cX12_placePassed 6 = .ok (.invokevirtual 157, 3) := by decide +kernel
theorem dX12_placePassed_9 : decode cX12_placePassed 9 = .ok (.iload_n 1, 1) := by decide +kernel
theorem dX12_placePassed_10 : decode cX12_placePassed 10 = .ok (.ireturn, 1) := by decide +kernel
theorem dX12_manPassed_0 : decode cX12_manPassed 0 = .ok (.aload_n 0, 1) := by decide +kernel
theorem dX12_manPassed_1 : decode cX12_manPassed 1 = .ok (.invokevirtual 160, 3) := by decide +kernel
theorem dX12_manPassed_4 : decode cX12_manPassed 4 = .ok (.istore_n 1, 1) := by decide +kernel
theorem dX12_manPassed_5 : decode cX12_manPassed 5 = .ok (.aload_n 0, 1) := by decide +kernel
theorem dX12_manPassed_6 : decode cX12_manPassed 6 = .ok (.invokevirtual 157, 3) := by decide +kernel
theorem dX12_manPassed_9 : decode cX12_manPassed 9 = .ok (.iload_n 1, 1) := by decide +kernel
theorem dX12_manPassed_10 : decode cX12_manPassed 10 = .ok (.ireturn, 1) := by decide +kernel
theorem dX12_after_0 : decode cX12_after 0 = .ok (.aload_n 0, 1) := by decide +kernel
theorem dX12_after_1 : decode cX12_after 1 = .ok (.aload_n 1, 1) := by decide +kernel
theorem dX12_after_2 : decode cX12_after 2 = .ok (.invokevirtual 163, 3) := by decide +kernel
theorem dX12_after_5 : decode cX12_after 5 = .ok (.aload_n 0, 1) := by decide +kernel
theorem dX12_after_6 : decode cX12_after 6 = .ok (.getfield 94, 3) := by decide +kernel
theorem dX12_after_9 : decode cX12_after 9 = .ok (.ifCond .eq 5, 3) := by decide +kernel
theorem dX12_after_12 : decode cX12_after 12 = .ok (.iload_n 2, 1) := by decide +kernel
theorem dX12_after_13 : decode cX12_after 13 = .ok (.ireturn, 1) := by decide +kernel
theorem dX12_after_14 : decode cX12_after 14 = .ok (.aload_n 0, 1) := by decide +kernel
theorem dX12_after_15 : decode cX12_after 15 = .ok (.getfield 84, 3) := by decide +kernel
theorem dX12_after_18 : decode cX12_after 18 = .ok (.iconst 3, 1) := by decide +kernel
theorem dX12_after_19 : decode cX12_after 19 = .ok (.if_icmp .eq 15, 3) := by decide +kernel
theorem dX12_after_22 : decode cX12_after 22 = .ok (.aload_n 0, 1) := by decide +kernel
theorem dX12_after_23 : decode cX12_after 23 = .ok (.iconst 1, 1) := by decide +kernel
theorem dX12_after_24 : decode cX12_after 24 = .ok (.aload_n 0, 1) := by decide +kernel
theorem dX12_after_25 : decode cX12_after 25 = .ok (.getfield 75, 3) := by decide +kernel
theorem dX12_after_28 : decode cX12_after 28 = .ok (.invokevirtual 121, 3) := by decide +kernel
theorem dX12_after_31 : decode cX12_after 31 = .ok (.goto 24, 3) := by decide +kernel
theorem dX12_after_34 : decode cX12_after 34 = .ok (.aload_n 0, 1) := by decide +kernel
theorem dX12_after_35 : decode cX12_after 35 = .ok (.getfield 81, 3) := by decide +kernel
theorem dX12_after_38 : decode cX12_after 38 = .ok (.iload_n 2, 1) := by decide +kernel
theorem dX12_after_39 : decode cX12_after 39 = .ok (.iload_n 3, 1) := by decide +kernel
theorem dX12_after_40 : decode cX12_after 40 = .ok (.invokestatic 146, 3) := by decide +kernel
theorem dX12_after_43 : decode cX12_after 43 = .ok (.ifCond .ne 12, 3) := by decide +kernel
theorem dX12_after_46 : decode cX12_after 46 = .ok (.aload_n 0, 1) := by decide +kernel
theorem dX12_after_47 : decode cX12_after 47 = .ok (.iconst 4, 1) := by decide +kernel
theorem dX12_after_48 : decode cX12_after 48 = .ok (.aload_n 0, 1) := by decide +kernel
theorem dX12_after_49 : decode cX12_after 49 = .ok (.getfield 75, 3) := by decide +kernel
theorem dX12_after_52 : decode cX12_after 52 = .ok (.invokevirtual 121, 3) := by decide +kernel
theorem dX12_after_55 : decode cX12_after 55 = .ok (.aload_n 0, 1) := by decide +kernel
theorem dX12_after_56 : decode cX12_after 56 = .ok (.getfield 94, 3) := by decide +kernel
theorem dX12_after_59 : decode cX12_after 59 = .ok (.ifCond .eq 5, 3) := by decide +kernel
theorem dX12_after_62 : decode cX12_after 62 = .ok (.iload_n 2, 1) := by decide +kernel
theorem dX12_after_63 : decode cX12_after 63 = .ok (.ireturn, 1) := by decide +kernel
theorem dX12_after_64 : decode cX12_after 64 = .ok (.aload_n 0, 1) := by decide +kernel
theorem dX12_after_65 : decode cX12_after 65 = .ok (.getfield 81, 3) := by decide +kernel
theorem dX12_after_68 : decode cX12_after 68 = .ok (.istore 4, 2) := by decide +kernel
theorem dX12_after_70 : decode cX12_after 70 = .ok (.aload_n 0, 1) := by decide +kernel
theorem dX12_after_71 : decode cX12_after 71 = .ok (.invokevirtual 115, 3) := by decide +kernel
theorem dX12_after_74 : decode cX12_after 74 = .ok (.iload 4, 2) := by decide +kernel
theorem dX12_after_76 : decode cX12_after 76 = .ok (.ireturn, 1) := by decide +kernel
theorem dX12_forest_0 : decode cX12_forest 0 = .ok (.aload_n 0, 1) := by decide +kernel
theorem dX12_forest_1 : decode cX12_forest 1 = .ok (.invokevirtual 167, 3) := by decide +kernel
theorem dX12_forest_4 : decode cX12_forest 4 = .ok (.iload_n 1, 1) := by decide +kernel
theorem dX12_forest_5 : decode cX12_forest 5 = .ok (.iconst 0, 1) := by decide +kernel
theorem dX12_forest_6 : decode cX12_forest 6 = .ok (.aload_n 0, 1) := by decide +kernel
theorem dX12_forest_7 : decode cX12_forest 7 = .ok (.getfield 62, 3) := by decide +kernel
theorem dX12_forest_10 : decode cX12_forest 10 = .ok (.invokestatic 146, 3) := by decide +kernel
theorem dX12_forest_13 : decode cX12_forest 13 = .ok (.ifCond .ne 9, 3) := by decide +kernel
theorem dX12_forest_16 : decode cX12_forest 16 = .ok (.aload_n 0, 1) := by decide +kernel
theorem dX12_forest_17 : decode cX12_forest 17 = .ok (.iconst 2, 1) := by decide +kernel
theorem dX12_forest_18 : decode cX12_forest 18 = .ok (.invokevirtual 170, 3) := by decide +kernel
theorem dX12_forest_21 : decode cX12_forest 21 = .ok (.ireturn, 1) := by decide +kernel
theorem dX12_forest_22 : decode cX12_forest 22 = .ok (.aload_n 0, 1) := by decide +kernel
theorem dX12_forest_23 : decode cX12_forest 23 = .ok (.iconst 0, 1) := by decide +kernel
theorem dX12_forest_24 : decode cX12_forest 24 = .ok (.putfield 62, 3) := by decide +kernel
theorem dX12_forest_27 : decode cX12_forest 27 = .ok (.aload_n 0, 1) := by decide +kernel
theorem dX12_forest_28 : decode cX12_forest 28 = .ok (.iconst 0, 1) := by decide +kernel
theorem dX12_forest_29 : decode cX12_forest 29 = .ok (.putfield 98, 3) := by decide +kernel
theorem dX12_forest_32 : decode cX12_forest 32 = .ok (.aload_n 0, 1) := by decide +kernel
theorem dX12_forest_33 : decode cX12_forest 33 = .ok (.iconst 0, 1) := by decide +kernel
theorem dX12_forest_34 : decode cX12_forest 34 = .ok (.putfield 94, 3) := by decide +kernel
theorem dX12_forest_37 : decode cX12_forest 37 = .ok (.iconst 0, 1) := by decide +kernel
theorem dX12_forest_38 : decode cX12_forest 38 = .ok (.istore_n 2, 1) := by decide +kernel
theorem dX12_forest_39 : decode cX12_forest 39 = .ok (.iload_n 2, 1) := by decide +kernel
theorem dX12_forest_40 : decode cX12_forest 40 = .ok (.sipush 241, 3) := by decide +kernel
theorem dX12_forest_43 : decode cX12_forest 43 = .ok (.if_icmp .ge 16, 3) := by decide +kernel
theorem dX12_forest_46 : decode cX12_forest 46 = .ok (.aload_n 0, 1) := by decide +kernel
theorem dX12_forest_47 : decode cX12_forest 47 = .ok (.getfield 23, 3) := by decide +kernel
theorem dX12_forest_50 : decode cX12_forest 50 = .ok (.iload_n 2, 1) := by decide +kernel
theorem dX12_forest_51 : decode cX12_forest 51 = .ok (.iconst 0, 1) := by decide +kernel
theorem dX12_forest_52 : decode cX12_forest 52 = .ok (.iastore, 1) := by decide +kernel
theorem dX12_forest_53 : decode cX12_forest 53 = .ok (.iinc 2 1, 3) := by decide +kernel
theorem dX12_forest_56 : decode cX12_forest 56 = .ok (.goto (-17), 3) := by decide +kernel
theorem dX12_forest_59 : decode cX12_forest 59 = .ok (.iconst 0, 1) := by decide +kernel
theorem dX12_forest_60 : decode cX12_forest 60 = .ok (.istore_n 2, 1) := by decide +kernel
theorem dX12_forest_61 : decode cX12_forest 61 = .ok (.iload_n 2, 1) := by decide +kernel
theorem dX12_forest_62 : decode cX12_forest 62 = .ok (.bipush 40, 2) := by decide +kernel
theorem dX12_forest_64 : decode cX12_forest 64 = .ok (.if_icmp .ge 16, 3) := by decide +kernel
theorem dX12_forest_67 : decode cX12_forest 67 = .ok (.aload_n 0, 1) := by decide +kernel
theorem dX12_forest_68 : decode cX12_forest 68 = .ok (.getfield 29, 3) := by decide +kernel
theorem dX12_forest_71 : decode cX12_forest 71 = .ok (.iload_n 2, 1) := by decide +kernel
theorem dX12_forest_72 : decode cX12_forest 72 = .ok (.iconst 0, 1) := by decide +kernel
theorem dX12_forest_73 : decode cX12_forest 73 = .ok (.iastore, 1) := by decide +kernel
theorem dX12_forest_74 : decode cX12_forest 74 = .ok (.iinc 2 1, 3) := by decide +kernel
theorem dX12_forest_77 : decode cX12_forest 77 = .ok (.goto (-16), 3) := by decide +kernel
theorem dX12_forest_80 : decode cX12_forest 80 = .ok (.aload_n 0, 1) := by decide +kernel
theorem dX12_forest_81 : decode cX12_forest 81 = .ok (.iload_n 1, 1) := by decide +kernel
theorem dX12_forest_82 : decode cX12_forest 82 = .ok (.putfield 65, 3) := by decide +kernel
theorem dX12_forest_85 : decode cX12_forest 85 = .ok (.aload_n 0, 1) := by decide +kernel
theorem dX12_forest_86 : decode cX12_forest 86 = .ok (.iconst 0, 1) := by decide +kernel
theorem dX12_forest_87 : decode cX12_forest 87 = .ok (.putfield 68, 3) := by decide +kernel
theorem dX12_forest_90 : decode cX12_forest 90 = .ok (.aload_n 0, 1) := by decide +kernel
theorem dX12_forest_91 : decode cX12_forest 91 = .ok (.invokevirtual 115, 3) := by decide +kernel
theorem dX12_forest_94 : decode cX12_forest 94 = .ok (.aload_n 0, 1) := by decide +kernel
theorem dX12_forest_95 : decode cX12_forest 95 = .ok (.invokevirtual 173, 3) := by decide +kernel
theorem dX12_forest_98 : decode cX12_forest 98 = .ok (.aload_n 0, 1) := by decide +kernel
theorem dX12_forest_99 : decode cX12_forest 99 = .ok (.getfield 94, 3) := by decide +kernel
theorem dX12_forest_102 : decode cX12_forest 102 = .ok (.ifCond .ne 23, 3) := by decide +kernel
theorem dX12_forest_105 : decode cX12_forest 105 = .ok (.aload_n 0, 1) := by decide +kernel
theorem dX12_forest_106 : decode cX12_forest 106 = .ok (.getfield 84, 3) := by decide +kernel
theorem dX12_forest_109 : decode cX12_forest 109 = .ok (.bipush 59, 2) := by decide +kernel
theorem dX12_forest_111 : decode cX12_forest 111 = .ok (.if_icmp .ne 14, 3) := by decide +kernel
theorem dX12_forest_114 : decode cX12_forest 114 = .ok (.aload_n 0, 1) := by decide +kernel
theorem dX12_forest_115 : decode cX12_forest 115 = .ok (.invokevirtual 115, 3) := by decide +kernel
theorem dX12_forest_118 : decode cX12_forest 118 = .ok (.aload_n 0, 1) := by decide +kernel
theorem dX12_forest_119 : decode cX12_forest 119 = .ok (.invokevirtual 173, 3) := by decide +kernel
theorem dX12_forest_122 : decode cX12_forest 122 = .ok (.goto (-24), 3) := by decide +kernel
theorem dX12_forest_125 : decode cX12_forest 125 = .ok (.aload_n 0, 1) := by decide +kernel
theorem dX12_forest_126 : decode cX12_forest 126 = .ok (.getfield 94, 3) := by decide +kernel
theorem dX12_forest_129 : decode cX12_forest 129 = .ok (.ifCond .ne 19, 3) := by decide +kernel
theorem dX12_forest_132 : decode cX12_forest 132 = .ok (.aload_n 0, 1) := by decide +kernel
theorem dX12_forest_133 : decode cX12_forest 133 = .ok (.getfield 84, 3) := by decide +kernel
theorem dX12_forest_136 : decode cX12_forest 136 = .ok (.ifCond .eq 12, 3) := by decide +kernel
theorem dX12_forest_139 : decode cX12_forest 139 = .ok (.aload_n 0, 1) := by decide +kernel
theorem dX12_forest_140 : decode cX12_forest 140 = .ok (.iconst 1, 1) := by decide +kernel
theorem dX12_forest_141 : decode cX12_forest 141 = .ok (.aload_n 0, 1) := by decide +kernel
theorem dX12_forest_142 : decode cX12_forest 142 = .ok (.getfield 75, 3) := by decide +kernel
theorem dX12_forest_145 : decode cX12_forest 145 = .ok (.invokevirtual 121, 3) := by decide +kernel
theorem dX12_forest_148 : decode cX12_forest 148 = .ok (.aload_n 0, 1) := by decide +kernel
theorem dX12_forest_149 : decode cX12_forest 149 = .ok (.getfield 94, 3) := by decide +kernel
theorem dX12_forest_152 : decode cX12_forest 152 = .ok (.ifCond .ne 32, 3) := by decide +kernel
theorem dX12_forest_155 : decode cX12_forest 155 = .ok (.aload_n 0, 1) := by decide +kernel
theorem dX12_forest_156 : decode cX12_forest 156 = .ok (.getfield 23, 3) := by decide +kernel
theorem dX12_forest_159 : decode cX12_forest 159 = .ok (.bipush 8, 2) := by decide +kernel
theorem dX12_forest_161 : decode cX12_forest 161 = .ok (.iaload, 1) := by decide +kernel
theorem dX12_forest_162 : decode cX12_forest 162 = .ok (.ifCond .eq 12, 3) := by decide +kernel
theorem dX12_forest_165 : decode cX12_forest 165 = .ok (.aload_n 0, 1) := by decide +kernel
theorem dX12_forest_166 : decode cX12_forest 166 = .ok (.getfield 23, 3) := by decide +kernel
theorem dX12_forest_169 : decode cX12_forest 169 = .ok (.iconst 1, 1) := by decide +kernel
theorem dX12_forest_170 : decode cX12_forest 170 = .ok (.iaload, 1) := by decide +kernel
theorem dX12_forest_171 : decode cX12_forest 171 = .ok (.ifCond .ne 13, 3) := by decide +kernel
theorem dX12_forest_174 : decode cX12_forest 174 = .ok (.aload_n 0, 1) := by decide +kernel
theorem dX12_forest_175 : decode cX12_forest 175 = .ok (.bipush 6, 2) := by decide +kernel
theorem dX12_forest_177 : decode cX12_forest 177 = .ok (.aload_n 0, 1) := by decide +kernel
theorem dX12_forest_178 : decode cX12_forest 178 = .ok (.getfield 75, 3) := by decide +kernel
theorem dX12_forest_181 : decode cX12_forest 181 = .ok (.invokevirtual 121, 3) := by decide +kernel
theorem dX12_forest_184 : decode cX12_forest 184 = .ok (.aload_n 0, 1) := by decide +kernel
theorem dX12_forest_185 : decode cX12_forest 185 = .ok (.getfield 94, 3) := by decide +kernel
theorem dX12_forest_188 : decode cX12_forest 188 = .ok (.ifCond .eq 9, 3) := by decide +kernel
theorem dX12_forest_191 : decode cX12_forest 191 = .ok (.aload_n 0, 1) := by decide +kernel
theorem dX12_forest_192 : decode cX12_forest 192 = .ok (.iconst 4, 1) := by decide +kernel
theorem dX12_forest_193 : decode cX12_forest 193 = .ok (.invokevirtual 170, 3) := by decide +kernel
theorem dX12_forest_196 : decode cX12_forest 196 = .ok (.ireturn, 1) := by decide +kernel
theorem dX12_forest_197 : decode cX12_forest 197 = .ok (.aload_n 0, 1) := by decide +kernel
theorem dX12_forest_198 : decode cX12_forest 198 = .ok (.getfield 23, 3) := by decide +kernel
theorem dX12_forest_201 : decode cX12_forest 201 = .ok (.iconst 0, 1) := by decide +kernel
theorem dX12_forest_202 : decode cX12_forest 202 = .ok (.aload_n 0, 1) := by decide +kernel
theorem dX12_forest_203 : decode cX12_forest 203 = .ok (.getfield 20, 3) := by decide +kernel
theorem dX12_forest_206 : decode cX12_forest 206 = .ok (.iconst 0, 1) := by decide +kernel
theorem dX12_forest_207 : decode cX12_forest 207 = .ok (.sipush 241, 3) := by decide +kernel
theorem dX12_forest_210 : decode cX12_forest 210 = .ok (.invokestatic 176, 3) := by decide +kernel
theorem dX12_forest_213 : decode cX12_forest 213 = .ok (.aload_n 0, 1) := by decide +kernel
theorem dX12_forest_214 : decode cX12_forest 214 = .ok (.getfield 29, 3) := by decide +kernel
theorem dX12_forest_217 : decode cX12_forest 217 = .ok (.iconst 0, 1) := by decide +kernel
theorem dX12_forest_218 : decode cX12_forest 218 = .ok (.aload_n 0, 1) := by decide +kernel
theorem dX12_forest_219 : decode cX12_forest 219 = .ok (.getfield 26, 3) := by decide +kernel
theorem dX12_forest_222 : decode cX12_forest 222 = .ok (.iconst 0, 1) := by decide +kernel
theorem dX12_forest_223 : decode cX12_forest 223 = .ok (.bipush 40, 2) := by decide +kernel
theorem dX12_forest_225 : decode cX12_forest 225 = .ok (.invokestatic 176, 3) := by decide +kernel
theorem dX12_forest_228 : decode cX12_forest 228 = .ok (.aload_n 0, 1) := by decide +kernel
theorem dX12_forest_229 : decode cX12_forest 229 = .ok (.getfield 29, 3) := by decide +kernel
theorem dX12_forest_232 : decode cX12_forest 232 = .ok (.iconst 0, 1) := by decide +kernel
theorem dX12_forest_233 : decode cX12_forest 233 = .ok (.aload_n 0, 1) := by decide +kernel
theorem dX12_forest_234 : decode cX12_forest 234 = .ok (.getfield 32, 3) := by decide +kernel
theorem dX12_forest_237 : decode cX12_forest 237 = .ok (.iconst 0, 1) := by decide +kernel
theorem dX12_forest_238 : decode cX12_forest 238 = .ok (.bipush 40, 2) := by decide +kernel
theorem dX12_forest_240 : decode cX12_forest 240 = .ok (.invokestatic 176, 3) := by decide +kernel
theorem dX12_forest_243 : decode cX12_forest 243 = .ok (.aload_n 0, 1) := by decide +kernel
theorem dX12_forest_244 : decode cX12_forest 244 = .ok (.iconst 1, 1) := by decide +kernel
theorem dX12_forest_245 : decode cX12_forest 245 = .ok (.putfield 180, 3) := by decide +kernel
theorem dX12_forest_248 : decode cX12_forest 248 = .ok (.aload_n 0, 1) := by decide +kernel
theorem dX12_forest_249 : decode cX12_forest 249 = .ok (.iconst 0, 1) := by decide +kernel
theorem dX12_forest_250 : decode cX12_forest 250 = .ok (.putfield 183, 3) := by decide +kernel
theorem dX12_forest_253 : decode cX12_forest 253 = .ok (.aload_n 0, 1) := by decide +kernel
theorem dX12_forest_254 : decode cX12_forest 254 = .ok (.iconst 0, 1) := by decide +kernel
theorem dX12_forest_255 : decode cX12_forest 255 = .ok (.putfield 186, 3) := by decide +kernel
theorem dX12_forest_258 : decode cX12_forest 258 = .ok (.aload_n 0, 1) := by decide +kernel
theorem dX12_forest_259 : decode cX12_forest 259 = .ok (.getfield 20, 3) := by decide +kernel
theorem dX12_forest_262 : decode cX12_forest 262 = .ok (.iconst 1, 1) := by decide +kernel
theorem dX12_forest_263 : decode cX12_forest 263 = .ok (.iaload, 1) := by decide +kernel
theorem dX12_forest_264 : decode cX12_forest 264 = .ok (.ireturn, 1) := by decide +kernel
theorem dX12_begins_0 : decode cX12_begins 0 = .ok (.aload_n 0, 1) := by decide +kernel
theorem dX12_begins_1 : decode cX12_begins 1 = .ok (.aload_n 1, 1) := by decide +kernel
theorem dX12_begins_2 : decode cX12_begins 2 = .ok (.invokevirtual 111, 3) := by decide +kernel
theorem dX12_begins_5 : decode cX12_begins 5 = .ok (.ifCond .ne 5, 3) := by decide +kernel
theorem dX12_begins_8 : decode cX12_begins 8 = .ok (.iconst 0, 1) := by decide +kernel
theorem dX12_begins_9 : decode cX12_begins 9 = .ok (.ireturn, 1) := by decide +kernel
theorem dX12_begins_10 : decode cX12_begins 10 = .ok (.iload_n 2, 1) := by decide +kernel
theorem dX12_begins_11 : decode cX12_begins 11 = .ok (.ifCond .ne 12, 3) := by decide +kernel
theorem dX12_begins_14 : decode cX12_begins 14 = .ok (.aload_n 0, 1) := by decide +kernel
theorem dX12_begins_15 : decode cX12_begins 15 = .ok (.iconst 5, 1) := by decide +kernel
theorem dX12_begins_16 : decode cX12_begins 16 = .ok (.aload_n 0, 1) := by decide +kernel
theorem dX12_begins_17 : decode cX12_begins 17 = .ok (.getfield 75, 3) := by decide +kernel
theorem dX12_begins_20 : decode cX12_begins 20 = .ok (.invokevirtual 121, 3) := by decide +kernel
theorem dX12_begins_23 : decode cX12_begins 23 = .ok (.aload_n 0, 1) := by decide +kernel
theorem dX12_begins_24 : decode cX12_begins 24 = .ok (.getfield 23, 3) := by decide +kernel
theorem dX12_begins_27 : decode cX12_begins 27 = .ok (.bipush 8, 2) := by decide +kernel
theorem dX12_begins_29 : decode cX12_begins 29 = .ok (.iaload, 1) := by decide +kernel
theorem dX12_begins_30 : decode cX12_begins 30 = .ok (.ifCond .ne 13, 3) := by decide +kernel
theorem dX12_begins_33 : decode cX12_begins 33 = .ok (.aload_n 0, 1) := by decide +kernel
theorem dX12_begins_34 : decode cX12_begins 34 = .ok (.bipush 6, 2) := by decide +kernel
theorem dX12_begins_36 : decode cX12_begins 36 = .ok (.aload_n 0, 1) := by decide +kernel
theorem dX12_begins_37 : decode cX12_begins 37 = .ok (.getfield 75, 3) := by decide +kernel
theorem dX12_begins_40 : decode cX12_begins 40 = .ok (.invokevirtual 121, 3) := by decide +kernel
theorem dX12_begins_43 : decode cX12_begins 43 = .ok (.aload_n 0, 1) := by decide +kernel
theorem dX12_begins_44 : decode cX12_begins 44 = .ok (.invokevirtual 157, 3) := by decide +kernel
theorem dX12_begins_47 : decode cX12_begins 47 = .ok (.iconst 1, 1) := by decide +kernel
theorem dX12_begins_48 : decode cX12_begins 48 = .ok (.ireturn, 1) := by decide +kernel
theorem dX12_readLine_0 : decode cX12_readLine 0 = .ok (.aload_n 0, 1) := by decide +kernel
theorem dX12_readLine_1 : decode cX12_readLine 1 = .ok (.ldc 125, 2) := by decide +kernel
theorem dX12_readLine_3 : decode cX12_readLine 3 = .ok (.invokevirtual 111, 3) := by decide +kernel
theorem dX12_readLine_6 : decode cX12_readLine 6 = .ok (.ifCond .eq 10, 3) := by decide +kernel
theorem dX12_readLine_9 : decode cX12_readLine 9 = .ok (.aload_n 0, 1) := by decide +kernel
theorem dX12_readLine_10 : decode cX12_readLine 10 = .ok (.invokevirtual 189, 3) := by decide +kernel
theorem dX12_readLine_13 : decode cX12_readLine 13 = .ok (.goto 236, 3) := by decide +kernel
theorem dX12_readLine_16 : decode cX12_readLine 16 = .ok (.aload_n 0, 1) := by decide +kernel
theorem dX12_readLine_17 : decode cX12_readLine 17 = .ok (.ldc 127, 2) := by decide +kernel
theorem dX12_readLine_19 : decode cX12_readLine 19 = .ok (.aload_n 0, 1) := by decide +kernel
theorem dX12_readLine_20 : decode cX12_readLine 20 = .ok (.getfield 23, 3) := by decide +kernel
theorem dX12_readLine_23 : decode cX12_readLine 23 = .ok (.iconst 1, 1) := by decide +kernel
theorem dX12_readLine_24 : decode cX12_readLine 24 = .ok (.iaload, 1) := by decide +kernel
theorem dX12_readLine_25 : decode cX12_readLine 25 = .ok (.bipush 7, 2) := by decide +kernel
theorem dX12_readLine_27 : decode cX12_readLine 27 = .ok (.if_icmp .ge 7, 3) := by decide +kernel
theorem dX12_readLine_30 : decode cX12_readLine 30 = .ok (.iconst 1, 1) := by decide +kernel
theorem dX12_readLine_31 : decode cX12_readLine 31 = .ok (.goto 4, 3) := by decide +kernel
theorem dX12_readLine_34 : decode cX12_readLine 34 = .ok (.iconst 0, 1) := by decide +kernel
theorem dX12_readLine_35 : decode cX12_readLine 35 = .ok (.invokevirtual 192, 3) := by decide +kernel
theorem dX12_readLine_38 : decode cX12_readLine 38 = .ok (.ifCond .eq 10, 3) := by decide +kernel
theorem dX12_readLine_41 : decode cX12_readLine 41 = .ok (.aload_n 0, 1) := by decide +kernel
theorem dX12_readLine_42 : decode cX12_readLine 42 = .ok (.invokevirtual 196, 3) := by decide +kernel
theorem dX12_readLine_45 : decode cX12_readLine 45 = .ok (.goto 204, 3) := by decide +kernel
theorem dX12_readLine_48 : decode cX12_readLine 48 = .ok (.aload_n 0, 1) := by decide +kernel
theorem dX12_readLine_49 : decode cX12_readLine 49 = .ok (.ldc 128, 2) := by decide +kernel
theorem dX12_readLine_51 : decode cX12_readLine 51 = .ok (.aload_n 0, 1) := by decide +kernel
theorem dX12_readLine_52 : decode cX12_readLine 52 = .ok (.getfield 23, 3) := by decide +kernel
theorem dX12_readLine_55 : decode cX12_readLine 55 = .ok (.iconst 2, 1) := by decide +kernel
theorem dX12_readLine_56 : decode cX12_readLine 56 = .ok (.iaload, 1) := by decide +kernel
theorem dX12_readLine_57 : decode cX12_readLine 57 = .ok (.bipush 10, 2) := by decide +kernel
theorem dX12_readLine_59 : decode cX12_readLine 59 = .ok (.if_icmp .ge 7, 3) := by decide +kernel
theorem dX12_readLine_62 : decode cX12_readLine 62 = .ok (.iconst 1, 1) := by decide +kernel
theorem dX12_readLine_63 : decode cX12_readLine 63 = .ok (.goto 4, 3) := by decide +kernel
theorem dX12_readLine_66 : decode cX12_readLine 66 = .ok (.iconst 0, 1) := by decide +kernel
theorem dX12_readLine_67 : decode cX12_readLine 67 = .ok (.invokevirtual 192, 3) := by decide +kernel
theorem dX12_readLine_70 : decode cX12_readLine 70 = .ok (.ifCond .eq 10, 3) := by decide +kernel
theorem dX12_readLine_73 : decode cX12_readLine 73 = .ok (.aload_n 0, 1) := by decide +kernel
theorem dX12_readLine_74 : decode cX12_readLine 74 = .ok (.invokevirtual 199, 3) := by decide +kernel
theorem dX12_readLine_77 : decode cX12_readLine 77 = .ok (.goto 172, 3) := by decide +kernel
theorem dX12_readLine_80 : decode cX12_readLine 80 = .ok (.aload_n 0, 1) := by decide +kernel
theorem dX12_readLine_81 : decode cX12_readLine 81 = .ok (.ldc 130, 2) := by decide +kernel
theorem dX12_readLine_83 : decode cX12_readLine 83 = .ok (.aload_n 0, 1) := by decide +kernel
theorem dX12_readLine_84 : decode cX12_readLine 84 = .ok (.getfield 23, 3) := by decide +kernel
theorem dX12_readLine_87 : decode cX12_readLine 87 = .ok (.iconst 3, 1) := by decide +kernel
theorem dX12_readLine_88 : decode cX12_readLine 88 = .ok (.iaload, 1) := by decide +kernel
theorem dX12_readLine_89 : decode cX12_readLine 89 = .ok (.iconst 4, 1) := by decide +kernel
theorem dX12_readLine_90 : decode cX12_readLine 90 = .ok (.if_icmp .ge 7, 3) := by decide +kernel
theorem dX12_readLine_93 : decode cX12_readLine 93 = .ok (.iconst 1, 1) := by decide +kernel
theorem dX12_readLine_94 : decode cX12_readLine 94 = .ok (.goto 4, 3) := by decide +kernel
theorem dX12_readLine_97 : decode cX12_readLine 97 = .ok (.iconst 0, 1) := by decide +kernel
theorem dX12_readLine_98 : decode cX12_readLine 98 = .ok (.invokevirtual 192, 3) := by decide +kernel
theorem dX12_readLine_101 : decode cX12_readLine 101 = .ok (.ifCond .eq 10, 3) := by decide +kernel
theorem dX12_readLine_104 : decode cX12_readLine 104 = .ok (.aload_n 0, 1) := by decide +kernel
theorem dX12_readLine_105 : decode cX12_readLine 105 = .ok (.invokevirtual 202, 3) := by decide +kernel
theorem dX12_readLine_108 : decode cX12_readLine 108 = .ok (.goto 141, 3) := by decide +kernel
theorem dX12_readLine_111 : decode cX12_readLine 111 = .ok (.aload_n 0, 1) := by decide +kernel
theorem dX12_readLine_112 : decode cX12_readLine 112 = .ok (.ldc 132, 2) := by decide +kernel
theorem dX12_readLine_114 : decode cX12_readLine 114 = .ok (.aload_n 0, 1) := by decide +kernel
theorem dX12_readLine_115 : decode cX12_readLine 115 = .ok (.getfield 23, 3) := by decide +kernel
theorem dX12_readLine_118 : decode cX12_readLine 118 = .ok (.bipush 6, 2) := by decide +kernel
theorem dX12_readLine_120 : decode cX12_readLine 120 = .ok (.iaload, 1) := by decide +kernel
theorem dX12_readLine_121 : decode cX12_readLine 121 = .ok (.bipush 12, 2) := by decide +kernel
theorem dX12_readLine_123 : decode cX12_readLine 123 = .ok (.if_icmp .ge 7, 3) := by decide +kernel
theorem dX12_readLine_126 : decode cX12_readLine 126 = .ok (.iconst 1, 1) := by decide +kernel
theorem dX12_readLine_127 : decode cX12_readLine 127 = .ok (.goto 4, 3) := by decide +kernel
theorem dX12_readLine_130 : decode cX12_readLine 130 = .ok (.iconst 0, 1) := by decide +kernel
theorem dX12_readLine_131 : decode cX12_readLine 131 = .ok (.invokevirtual 192, 3) := by decide +kernel
theorem dX12_readLine_134 : decode cX12_readLine 134 = .ok (.ifCond .eq 10, 3) := by decide +kernel
theorem dX12_readLine_137 : decode cX12_readLine 137 = .ok (.aload_n 0, 1) := by decide +kernel
theorem dX12_readLine_138 : decode cX12_readLine 138 = .ok (.invokevirtual 205, 3) := by decide +kernel
theorem dX12_readLine_141 : decode cX12_readLine 141 = .ok (.goto 108, 3) := by decide +kernel
theorem dX12_readLine_144 : decode cX12_readLine 144 = .ok (.aload_n 0, 1) := by decide +kernel
theorem dX12_readLine_145 : decode cX12_readLine 145 = .ok (.ldc 134, 2) := by decide +kernel
theorem dX12_readLine_147 : decode cX12_readLine 147 = .ok (.aload_n 0, 1) := by decide +kernel
theorem dX12_readLine_148 : decode cX12_readLine 148 = .ok (.getfield 23, 3) := by decide +kernel
theorem dX12_readLine_151 : decode cX12_readLine 151 = .ok (.iconst 4, 1) := by decide +kernel
theorem dX12_readLine_152 : decode cX12_readLine 152 = .ok (.iaload, 1) := by decide +kernel
theorem dX12_readLine_153 : decode cX12_readLine 153 = .ok (.bipush 6, 2) := by decide +kernel
theorem dX12_readLine_155 : decode cX12_readLine 155 = .ok (.if_icmp .ge 7, 3) := by decide +kernel
theorem dX12_readLine_158 : decode cX12_readLine 158 = .ok (.iconst 1, 1) := by decide +kernel
theorem dX12_readLine_159 : decode cX12_readLine 159 = .ok (.goto 4, 3) := by decide +kernel
theorem dX12_readLine_162 : decode cX12_readLine 162 = .ok (.iconst 0, 1) := by decide +kernel
theorem dX12_readLine_163 : decode cX12_readLine 163 = .ok (.invokevirtual 192, 3) := by decide +kernel
theorem dX12_readLine_166 : decode cX12_readLine 166 = .ok (.ifCond .eq 10, 3) := by decide +kernel
theorem dX12_readLine_169 : decode cX12_readLine 169 = .ok (.aload_n 0, 1) := by decide +kernel
theorem dX12_readLine_170 : decode cX12_readLine 170 = .ok (.invokevirtual 208, 3) := by decide +kernel
theorem dX12_readLine_173 : decode cX12_readLine 173 = .ok (.goto 76, 3) := by decide +kernel
theorem dX12_readLine_176 : decode cX12_readLine 176 = .ok (.aload_n 0, 1) := by decide +kernel
theorem dX12_readLine_177 : decode cX12_readLine 177 = .ok (.ldc 136, 2) := by decide +kernel
theorem dX12_readLine_179 : decode cX12_readLine 179 = .ok (.aload_n 0, 1) := by decide +kernel
theorem dX12_readLine_180 : decode cX12_readLine 180 = .ok (.getfield 23, 3) := by decide +kernel
theorem dX12_readLine_183 : decode cX12_readLine 183 = .ok (.bipush 7, 2) := by decide +kernel
theorem dX12_readLine_185 : decode cX12_readLine 185 = .ok (.iaload, 1) := by decide +kernel
theorem dX12_readLine_186 : decode cX12_readLine 186 = .ok (.bipush 6, 2) := by decide +kernel
theorem dX12_readLine_188 : decode cX12_readLine 188 = .ok (.if_icmp .ge 7, 3) := by decide +kernel
theorem dX12_readLine_191 : decode cX12_readLine 191 = .ok (.iconst 1, 1) := by decide +kernel
theorem dX12_readLine_192 : decode cX12_readLine 192 = .ok (.goto 4, 3) := by decide +kernel
theorem dX12_readLine_195 : decode cX12_readLine 195 = .ok (.iconst 0, 1) := by decide +kernel
theorem dX12_readLine_196 : decode cX12_readLine 196 = .ok (.invokevirtual 192, 3) := by decide +kernel
theorem dX12_readLine_199 : decode cX12_readLine 199 = .ok (.ifCond .eq 10, 3) := by decide +kernel
theorem dX12_readLine_202 : decode cX12_readLine 202 = .ok (.aload_n 0, 1) := by decide +kernel
theorem dX12_readLine_203 : decode cX12_readLine 203 = .ok (.invokevirtual 211, 3) := by decide +kernel
theorem dX12_readLine_206 : decode cX12_readLine 206 = .ok (.goto 43, 3) := by decide +kernel
theorem dX12_readLine_209 : decode cX12_readLine 209 = .ok (.aload_n 0, 1) := by decide +kernel
theorem dX12_readLine_210 : decode cX12_readLine 210 = .ok (.ldc 138, 2) := by decide +kernel
theorem dX12_readLine_212 : decode cX12_readLine 212 = .ok (.aload_n 0, 1) := by decide +kernel
theorem dX12_readLine_213 : decode cX12_readLine 213 = .ok (.getfield 23, 3) := by decide +kernel
theorem dX12_readLine_216 : decode cX12_readLine 216 = .ok (.iconst 5, 1) := by decide +kernel
theorem dX12_readLine_217 : decode cX12_readLine 217 = .ok (.iaload, 1) := by decide +kernel
theorem dX12_readLine_218 : decode cX12_readLine 218 = .ok (.iconst 3, 1) := by decide +kernel
theorem dX12_readLine_219 : decode cX12_readLine 219 = .ok (.if_icmp .ge 7, 3) := by decide +kernel
theorem dX12_readLine_222 : decode cX12_readLine 222 = .ok (.iconst 1, 1) := by decide +kernel
theorem dX12_readLine_223 : decode cX12_readLine 223 = .ok (.goto 4, 3) := by decide +kernel
theorem dX12_readLine_226 : decode cX12_readLine 226 = .ok (.iconst 0, 1) := by decide +kernel
theorem dX12_readLine_227 : decode cX12_readLine 227 = .ok (.invokevirtual 192, 3) := by decide +kernel
theorem dX12_readLine_230 : decode cX12_readLine 230 = .ok (.ifCond .eq 10, 3) := by decide +kernel
theorem dX12_readLine_233 : decode cX12_readLine 233 = .ok (.aload_n 0, 1) := by decide +kernel
theorem dX12_readLine_234 : decode cX12_readLine 234 = .ok (.invokevirtual 214, 3) := by decide +kernel
theorem dX12_readLine_237 : decode cX12_readLine 237 = .ok (.goto 12, 3) := by decide +kernel
theorem dX12_readLine_240 : decode cX12_readLine 240 = .ok (.aload_n 0, 1) := by decide +kernel
theorem dX12_readLine_241 : decode cX12_readLine 241 = .ok (.iconst 1, 1) := by decide +kernel
theorem dX12_readLine_242 : decode cX12_readLine 242 = .ok (.aload_n 0, 1) := by decide +kernel
theorem dX12_readLine_243 : decode cX12_readLine 243 = .ok (.getfield 75, 3) := by decide +kernel
theorem dX12_readLine_246 : decode cX12_readLine 246 = .ok (.invokevirtual 121, 3) := by decide +kernel
theorem dX12_readLine_249 : decode cX12_readLine 249 = .ok (.return_, 1) := by decide +kernel
theorem dX12_forestLine_0 : decode cX12_forestLine 0 = .ok (.aload_n 0, 1) := by decide +kernel
theorem dX12_forestLine_1 : decode cX12_forestLine 1 = .ok (.getfield 23, 3) := by decide +kernel
theorem dX12_forestLine_4 : decode cX12_forestLine 4 = .ok (.bipush 8, 2) := by decide +kernel
theorem dX12_forestLine_6 : decode cX12_forestLine 6 = .ok (.iaload, 1) := by decide +kernel
theorem dX12_forestLine_7 : decode cX12_forestLine 7 = .ok (.ifCond .le 12, 3) := by decide +kernel
theorem dX12_forestLine_10 : decode cX12_forestLine 10 = .ok (.aload_n 0, 1) := by decide +kernel
theorem dX12_forestLine_11 : decode cX12_forestLine 11 = .ok (.iconst 3, 1) := by decide +kernel
theorem dX12_forestLine_12 : decode cX12_forestLine 12 = .ok (.aload_n 0, 1) := by decide +kernel
theorem dX12_forestLine_13 : decode cX12_forestLine 13 = .ok (.getfield 75, 3) := by decide +kernel
theorem dX12_forestLine_16 : decode cX12_forestLine 16 = .ok (.invokevirtual 121, 3) := by decide +kernel
theorem dX12_forestLine_19 : decode cX12_forestLine 19 = .ok (.aload_n 0, 1) := by decide +kernel
theorem dX12_forestLine_20 : decode cX12_forestLine 20 = .ok (.getfield 94, 3) := by decide +kernel
theorem dX12_forestLine_23 : decode cX12_forestLine 23 = .ok (.ifCond .eq 4, 3) := by decide +kernel
theorem dX12_forestLine_26 : decode cX12_forestLine 26 = .ok (.return_, 1) := by decide +kernel
theorem dX12_forestLine_27 : decode cX12_forestLine 27 = .ok (.aload_n 0, 1) := by decide +kernel
theorem dX12_forestLine_28 : decode cX12_forestLine 28 = .ok (.invokevirtual 115, 3) := by decide +kernel
theorem dX12_forestLine_31 : decode cX12_forestLine 31 = .ok (.aload_n 0, 1) := by decide +kernel
theorem dX12_forestLine_32 : decode cX12_forestLine 32 = .ok (.getfield 23, 3) := by decide +kernel
theorem dX12_forestLine_35 : decode cX12_forestLine 35 = .ok (.iconst 0, 1) := by decide +kernel
theorem dX12_forestLine_36 : decode cX12_forestLine 36 = .ok (.aload_n 0, 1) := by decide +kernel
theorem dX12_forestLine_37 : decode cX12_forestLine 37 = .ok (.ldc 217, 2) := by decide +kernel
theorem dX12_forestLine_39 : decode cX12_forestLine 39 = .ok (.iconst 0, 1) := by decide +kernel
theorem dX12_forestLine_40 : decode cX12_forestLine 40 = .ok (.bipush 100, 2) := by decide +kernel
theorem dX12_forestLine_42 : decode cX12_forestLine 42 = .ok (.invokevirtual 219, 3) := by decide +kernel
theorem dX12_forestLine_45 : decode cX12_forestLine 45 = .ok (.iastore, 1) := by decide +kernel
theorem dX12_forestLine_46 : decode cX12_forestLine 46 = .ok (.aload_n 0, 1) := by decide +kernel
theorem dX12_forestLine_47 : decode cX12_forestLine 47 = .ok (.getfield 94, 3) := by decide +kernel
theorem dX12_forestLine_50 : decode cX12_forestLine 50 = .ok (.ifCond .ne 11, 3) := by decide +kernel
theorem dX12_forestLine_53 : decode cX12_forestLine 53 = .ok (.aload_n 0, 1) := by decide +kernel
theorem dX12_forestLine_54 : decode cX12_forestLine 54 = .ok (.getfield 23, 3) := by decide +kernel
theorem dX12_forestLine_57 : decode cX12_forestLine 57 = .ok (.bipush 8, 2) := by decide +kernel
theorem dX12_forestLine_59 : decode cX12_forestLine 59 = .ok (.iconst 1, 1) := by decide +kernel
theorem dX12_forestLine_60 : decode cX12_forestLine 60 = .ok (.iastore, 1) := by decide +kernel
theorem dX12_forestLine_61 : decode cX12_forestLine 61 = .ok (.return_, 1) := by decide +kernel
