theorem dX0_power_0 : decode cX0_power 0 = .ok (.lconst 1, 1) := by decide +kernel
theorem dX0_power_1 : decode cX0_power 1 = .ok (.lstore_n 3, 1) := by decide +kernel
theorem dX0_power_2 : decode cX0_power 2 = .ok (.iconst 0, 1) := by decide +kernel
theorem dX0_power_3 : decode cX0_power 3 = .ok (.istore 5, 2) := by decide +kernel
theorem dX0_power_5 : decode cX0_power 5 = .ok (.iload 5, 2) := by decide +kernel
theorem dX0_power_7 : decode cX0_power 7 = .ok (.iload_n 2, 1) := by decide +kernel
theorem dX0_power_8 : decode cX0_power 8 = .ok (.if_icmp .ge 13, 3) := by decide +kernel
theorem dX0_power_11 : decode cX0_power 11 = .ok (.lload_n 3, 1) := by decide +kernel
theorem dX0_power_12 : decode cX0_power 12 = .ok (.lload_n 0, 1) := by decide +kernel
theorem dX0_power_13 : decode cX0_power 13 = .ok (.lmul, 1) := by decide +kernel
theorem dX0_power_14 : decode cX0_power 14 = .ok (.lstore_n 3, 1) := by decide +kernel
theorem dX0_power_15 : decode cX0_power 15 = .ok (.iinc 5 1, 3) := by decide +kernel
theorem dX0_power_18 : decode cX0_power 18 = .ok (.goto (-13), 3) := by decide +kernel
theorem dX0_power_21 : decode cX0_power 21 = .ok (.lload_n 3, 1) := by decide +kernel
theorem dX0_power_22 : decode cX0_power 22 = .ok (.lreturn, 1) := by decide +kernel
theorem dX0_hundreds_0 : decode cX0_hundreds 0 = .ok (.ldc2_w 9, 3) := by decide +kernel
theorem dX0_hundreds_3 : decode cX0_hundreds 3 = .ok (.iload_n 0, 1) := by decide +kernel
theorem dX0_hundreds_4 : decode cX0_hundreds 4 = .ok (.invokestatic 11, 3) := by decide +kernel
theorem dX0_hundreds_7 : decode cX0_hundreds 7 = .ok (.lreturn, 1) := by decide +kernel
theorem dX0_dead_0 : decode cX0_dead 0 = .ok (.iload_n 1, 1) := by decide +kernel
theorem dX0_dead_1 : decode cX0_dead 1 = .ok (.invokestatic 17, 3) := by decide +kernel
theorem dX0_dead_4 : decode cX0_dead 4 = .ok (.bipush 100, 2) := by decide +kernel
theorem dX0_dead_6 : decode cX0_dead 6 = .ok (.iload_n 0, 1) := by decide +kernel
theorem dX0_dead_7 : decode cX0_dead 7 = .ok (.isub, 1) := by decide +kernel
theorem dX0_dead_8 : decode cX0_dead 8 = .ok (.i2l, 1) := by decide +kernel
theorem dX0_dead_9 : decode cX0_dead 9 = .ok (.iload_n 1, 1) := by decide +kernel
theorem dX0_dead_10 : decode cX0_dead 10 = .ok (.invokestatic 11, 3) := by decide +kernel
theorem dX0_dead_13 : decode cX0_dead 13 = .ok (.lsub, 1) := by decide +kernel
theorem dX0_dead_14 : decode cX0_dead 14 = .ok (.lreturn, 1) := by decide +kernel
theorem dX0_part_0 : decode cX0_part 0 = .ok (.lload_n 0, 1) := by decide +kernel
theorem dX0_part_1 : decode cX0_part 1 = .ok (.lload_n 2, 1) := by decide +kernel
theorem dX0_part_2 : decode cX0_part 2 = .ok (.invokestatic 21, 3) := by decide +kernel
theorem dX0_part_5 : decode cX0_part 5 = .ok (.lstore 5, 2) := by decide +kernel
theorem dX0_part_7 : decode cX0_part 7 = .ok (.lload 5, 2) := by decide +kernel
theorem dX0_part_9 : decode cX0_part 9 = .ok (.lconst 0, 1) := by decide +kernel
theorem dX0_part_10 : decode cX0_part 10 = .ok (.lcmp, 1) := by decide +kernel
theorem dX0_part_11 : decode cX0_part 11 = .ok (.ifCond .gt 7, 3) := by decide +kernel
theorem dX0_part_14 : decode cX0_part 14 = .ok (.ldc2_w 25, 3) := by decide +kernel
theorem dX0_part_17 : decode cX0_part 17 = .ok (.lreturn, 1) := by decide +kernel
theorem dX0_part_18 : decode cX0_part 18 = .ok (.iload 4, 2) := by decide +kernel
theorem dX0_part_20 : decode cX0_part 20 = .ok (.ifCond .eq 7, 3) := by decide +kernel
theorem dX0_part_23 : decode cX0_part 23 = .ok (.lload_n 2, 1) := by decide +kernel
theorem dX0_part_24 : decode cX0_part 24 = .ok (.goto 4, 3) := by decide +kernel
theorem dX0_part_27 : decode cX0_part 27 = .ok (.lload_n 0, 1) := by decide +kernel
theorem dX0_part_28 : decode cX0_part 28 = .ok (.lload 5, 2) := by decide +kernel
theorem dX0_part_30 : decode cX0_part 30 = .ok (.ldiv, 1) := by decide +kernel
theorem dX0_part_31 : decode cX0_part 31 = .ok (.lreturn, 1) := by decide +kernel
theorem dX0_commonDivisor_0 : decode cX0_commonDivisor 0 = .ok (.lload_n 0, 1) := by decide +kernel
theorem dX0_commonDivisor_1 : decode cX0_commonDivisor 1 = .ok (.lstore 4, 2) := by decide +kernel
theorem dX0_commonDivisor_3 : decode cX0_commonDivisor 3 = .ok (.lload_n 2, 1) := by decide +kernel
theorem dX0_commonDivisor_4 : decode cX0_commonDivisor 4 = .ok (.lstore 6, 2) := by decide +kernel
theorem dX0_commonDivisor_6 : decode cX0_commonDivisor 6 = .ok (.iconst 0, 1) := by decide +kernel
theorem dX0_commonDivisor_7 : decode cX0_commonDivisor 7 = .ok (.istore 8, 2) := by decide +kernel
theorem dX0_commonDivisor_9 : decode cX0_commonDivisor 9 = .ok (.iload 8, 2) := by decide +kernel
theorem dX0_commonDivisor_11 : decode cX0_commonDivisor 11 = .ok (.bipush 100, 2) := by decide +kernel
theorem dX0_commonDivisor_13 : decode cX0_commonDivisor 13 = .ok (.if_icmp .ge 31, 3) := by decide +kernel
theorem dX0_commonDivisor_16 : decode cX0_commonDivisor 16 = .ok (.lload 6, 2) := by decide +kernel
theorem dX0_commonDivisor_18 : decode cX0_commonDivisor 18 = .ok (.lconst 0, 1) := by decide +kernel
theorem dX0_commonDivisor_19 : decode cX0_commonDivisor 19 = .ok (.lcmp, 1) := by decide +kernel
theorem dX0_commonDivisor_20 : decode cX0_commonDivisor 20 = .ok (.ifCond .eq 24, 3) := by decide +kernel
theorem dX0_commonDivisor_23 : decode cX0_commonDivisor 23 = .ok (.lload 4, 2) := by decide +kernel
theorem dX0_commonDivisor_25 : decode cX0_commonDivisor 25 = .ok (.lload 6, 2) := by decide +kernel
theorem dX0_commonDivisor_27 : decode cX0_commonDivisor 27 = .ok (.lrem, 1) := by decide +kernel
theorem dX0_commonDivisor_28 : decode cX0_commonDivisor 28 = .ok (.lstore 9, 2) := by decide +kernel
theorem dX0_commonDivisor_30 : decode cX0_commonDivisor 30 = .ok (.lload 6, 2) := by decide +kernel
theorem dX0_commonDivisor_32 : decode cX0_commonDivisor 32 = .ok (.lstore 4, 2) := by decide +kernel
theorem dX0_commonDivisor_34 : decode cX0_commonDivisor 34 = .ok (.lload 9, 2) := by decide +kernel
theorem dX0_commonDivisor_36 : decode cX0_commonDivisor 36 = .ok (.lstore 6, 2) := by decide +kernel
theorem dX0_commonDivisor_38 : decode cX0_commonDivisor 38 = .ok (.iinc 8 1, 3) := by decide +kernel
theorem dX0_commonDivisor_41 : decode cX0_commonDivisor 41 = .ok (.goto (-32), 3) := by decide +kernel
theorem dX0_commonDivisor_44 : decode cX0_commonDivisor 44 = .ok (.lload 4, 2) := by decide +kernel
theorem dX0_commonDivisor_46 : decode cX0_commonDivisor 46 = .ok (.lreturn, 1) := by decide +kernel
theorem dX1_init_0 : decode cX1_init 0 = .ok (.aload_n 0, 1) := by decide +kernel
theorem dX1_init_1 : decode cX1_init 1 = .ok (.invokespecial 3, 3) := by decide +kernel
theorem dX1_init_4 : decode cX1_init 4 = .ok (.aload_n 0, 1) := by decide +kernel
theorem dX1_init_5 : decode cX1_init 5 = .ok (.iconst 4, 1) := by decide +kernel
theorem dX1_init_6 : decode cX1_init 6 = .ok (.newarray .int, 2) := by decide +kernel
theorem dX1_init_8 : decode cX1_init 8 = .ok (.putfield 9, 3) := by decide +kernel
theorem dX1_init_11 : decode cX1_init 11 = .ok (.return_, 1) := by decide +kernel
theorem dX1_distanceTo_0 : decode cX1_distanceTo 0 = .ok (.aload_n 0, 1) := by decide +kernel
theorem dX1_distanceTo_1 : decode cX1_distanceTo 1 = .ok (.iload_n 2, 1) := by decide +kernel
theorem dX1_distanceTo_2 : decode cX1_distanceTo 2 = .ok (.invokevirtual 15, 3) := by decide +kernel
theorem dX1_distanceTo_5 : decode cX1_distanceTo 5 = .ok (.istore_n 3, 1) := by decide +kernel
theorem dX1_distanceTo_6 : decode cX1_distanceTo 6 = .ok (.iload_n 3, 1) := by decide +kernel
theorem dX1_distanceTo_7 : decode cX1_distanceTo 7 = .ok (.ifCond .ge 6, 3) := by decide +kernel
theorem dX1_distanceTo_10 : decode cX1_distanceTo 10 = .ok (.bipush (-2), 2) := by decide +kernel
theorem dX1_distanceTo_12 : decode cX1_distanceTo 12 = .ok (.ireturn, 1) := by decide +kernel
theorem dX1_distanceTo_13 : decode cX1_distanceTo 13 = .ok (.aload_n 0, 1) := by decide +kernel
theorem dX1_distanceTo_14 : decode cX1_distanceTo 14 = .ok (.getfield 21, 3) := by decide +kernel
theorem dX1_distanceTo_17 : decode cX1_distanceTo 17 = .ok (.aload_n 0, 1) := by decide +kernel
theorem dX1_distanceTo_18 : decode cX1_distanceTo 18 = .ok (.iload_n 1, 1) := by decide +kernel
theorem dX1_distanceTo_19 : decode cX1_distanceTo 19 = .ok (.invokevirtual 25, 3) := by decide +kernel
theorem dX1_distanceTo_22 : decode cX1_distanceTo 22 = .ok (.iload_n 3, 1) := by decide +kernel
theorem dX1_distanceTo_23 : decode cX1_distanceTo 23 = .ok (.aload_n 0, 1) := by decide +kernel
theorem dX1_distanceTo_24 : decode cX1_distanceTo 24 = .ok (.getfield 21, 3) := by decide +kernel
theorem dX1_distanceTo_27 : decode cX1_distanceTo 27 = .ok (.invokestatic 28, 3) := by decide +kernel
theorem dX1_distanceTo_30 : decode cX1_distanceTo 30 = .ok (.invokestatic 34, 3) := by decide +kernel
theorem dX1_distanceTo_33 : decode cX1_distanceTo 33 = .ok (.ireturn, 1) := by decide +kernel
theorem dX1_fewestKills_0 : decode cX1_fewestKills 0 = .ok (.iconst 0, 1) := by decide +kernel
theorem dX1_fewestKills_1 : decode cX1_fewestKills 1 = .ok (.istore_n 3, 1) := by decide +kernel
theorem dX1_fewestKills_2 : decode cX1_fewestKills 2 = .ok (.iload_n 3, 1) := by decide +kernel
theorem dX1_fewestKills_3 : decode cX1_fewestKills 3 = .ok (.aload_n 1, 1) := by decide +kernel
theorem dX1_fewestKills_4 : decode cX1_fewestKills 4 = .ok (.getfield 21, 3) := by decide +kernel
theorem dX1_fewestKills_7 : decode cX1_fewestKills 7 = .ok (.getfield 38, 3) := by decide +kernel
theorem dX1_fewestKills_10 : decode cX1_fewestKills 10 = .ok (.iconst 3, 1) := by decide +kernel
theorem dX1_fewestKills_11 : decode cX1_fewestKills 11 = .ok (.iaload, 1) := by decide +kernel
theorem dX1_fewestKills_12 : decode cX1_fewestKills 12 = .ok (.if_icmp .ge 21, 3) := by decide +kernel
theorem dX1_fewestKills_15 : decode cX1_fewestKills 15 = .ok (.aload_n 0, 1) := by decide +kernel
theorem dX1_fewestKills_16 : decode cX1_fewestKills 16 = .ok (.getfield 9, 3) := by decide +kernel
theorem dX1_fewestKills_19 : decode cX1_fewestKills 19 = .ok (.iload_n 3, 1) := by decide +kernel
theorem dX1_fewestKills_20 : decode cX1_fewestKills 20 = .ok (.aload_n 1, 1) := by decide +kernel
theorem dX1_fewestKills_21 : decode cX1_fewestKills 21 = .ok (.iload_n 3, 1) := by decide +kernel
theorem dX1_fewestKills_22 : decode cX1_fewestKills 22 = .ok (.iload_n 2, 1) := by decide +kernel
theorem dX1_fewestKills_23 : decode cX1_fewestKills 23 = .ok (.invokestatic 43, 3) := by decide +kernel
theorem dX1_fewestKills_26 : decode cX1_fewestKills 26 = .ok (.iastore, 1) := by decide +kernel
theorem dX1_fewestKills_27 : decode cX1_fewestKills 27 = .ok (.iinc 3 1, 3) := by decide +kernel
theorem dX1_fewestKills_30 : decode cX1_fewestKills 30 = .ok (.goto (-28), 3) := by decide +kernel
theorem dX1_fewestKills_33 : decode cX1_fewestKills 33 = .ok (.bipush (-2), 2) := by decide +kernel
theorem dX1_fewestKills_35 : decode cX1_fewestKills 35 = .ok (.istore_n 3, 1) := by decide +kernel
theorem dX1_fewestKills_36 : decode cX1_fewestKills 36 = .ok (.bipush 7, 2) := by decide +kernel
theorem dX1_fewestKills_38 : decode cX1_fewestKills 38 = .ok (.istore 4, 2) := by decide +kernel
theorem dX1_fewestKills_40 : decode cX1_fewestKills 40 = .ok (.iconst 0, 1) := by decide +kernel
theorem dX1_fewestKills_41 : decode cX1_fewestKills 41 = .ok (.istore 5, 2) := by decide +kernel
theorem dX1_fewestKills_43 : decode cX1_fewestKills 43 = .ok (.iload 5, 2) := by decide +kernel
theorem dX1_fewestKills_45 : decode cX1_fewestKills 45 = .ok (.iconst 1, 1) := by decide +kernel
theorem dX1_fewestKills_46 : decode cX1_fewestKills 46 = .ok (.aload_n 1, 1) := by decide +kernel
theorem dX1_fewestKills_47 : decode cX1_fewestKills 47 = .ok (.getfield 21, 3) := by decide +kernel
theorem dX1_fewestKills_50 : decode cX1_fewestKills 50 = .ok (.getfield 38, 3) := by decide +kernel
theorem dX1_fewestKills_53 : decode cX1_fewestKills 53 = .ok (.iconst 4, 1) := by decide +kernel
theorem dX1_fewestKills_54 : decode cX1_fewestKills 54 = .ok (.iaload, 1) := by decide +kernel
theorem dX1_fewestKills_55 : decode cX1_fewestKills 55 = .ok (.ishl, 1) := by decide +kernel
theorem dX1_fewestKills_56 : decode cX1_fewestKills 56 = .ok (.if_icmp .ge 39, 3) := by decide +kernel
theorem dX1_fewestKills_59 : decode cX1_fewestKills 59 = .ok (.iload 5, 2) := by decide +kernel
theorem dX1_fewestKills_61 : decode cX1_fewestKills 61 = .ok (.invokestatic 47, 3) := by decide +kernel
theorem dX1_fewestKills_64 : decode cX1_fewestKills 64 = .ok (.iload 4, 2) := by decide +kernel
theorem dX1_fewestKills_66 : decode cX1_fewestKills 66 = .ok (.if_icmp .ge 23, 3) := by decide +kernel
theorem dX1_fewestKills_69 : decode cX1_fewestKills 69 = .ok (.aload_n 0, 1) := by decide +kernel
theorem dX1_fewestKills_70 : decode cX1_fewestKills 70 = .ok (.aload_n 1, 1) := by decide +kernel
theorem dX1_fewestKills_71 : decode cX1_fewestKills 71 = .ok (.iload 5, 2) := by decide +kernel
theorem dX1_fewestKills_73 : decode cX1_fewestKills 73 = .ok (.invokevirtual 52, 3) := by decide +kernel
theorem dX1_fewestKills_76 : decode cX1_fewestKills 76 = .ok (.ifCond .eq 13, 3) := by decide +kernel
theorem dX1_fewestKills_79 : decode cX1_fewestKills 79 = .ok (.iload 5, 2) := by decide +kernel
theorem dX1_fewestKills_81 : decode cX1_fewestKills 81 = .ok (.istore_n 3, 1) := by decide +kernel
theorem dX1_fewestKills_82 : decode cX1_fewestKills 82 = .ok (.iload 5, 2) := by decide +kernel
theorem dX1_fewestKills_84 : decode cX1_fewestKills 84 = .ok (.invokestatic 47, 3) := by decide +kernel
theorem dX1_fewestKills_87 : decode cX1_fewestKills 87 = .ok (.istore 4, 2) := by decide +kernel
theorem dX1_fewestKills_89 : decode cX1_fewestKills 89 = .ok (.iinc 5 1, 3) := by decide +kernel
theorem dX1_fewestKills_92 : decode cX1_fewestKills 92 = .ok (.goto (-49), 3) := by decide +kernel
theorem dX1_fewestKills_95 : decode cX1_fewestKills 95 = .ok (.iload_n 3, 1) := by decide +kernel
theorem dX1_fewestKills_96 : decode cX1_fewestKills 96 = .ok (.ireturn, 1) := by decide +kernel
theorem dX1_killsWithin_0 : decode cX1_killsWithin 0 = .ok (.iconst 0, 1) := by decide +kernel
theorem dX1_killsWithin_1 : decode cX1_killsWithin 1 = .ok (.istore_n 3, 1) := by decide +kernel
theorem dX1_killsWithin_2 : decode cX1_killsWithin 2 = .ok (.iconst 0, 1) := by decide +kernel
theorem dX1_killsWithin_3 : decode cX1_killsWithin 3 = .ok (.istore 4, 2) := by decide +kernel
theorem dX1_killsWithin_5 : decode cX1_killsWithin 5 = .ok (.iload 4, 2) := by decide +kernel
theorem dX1_killsWithin_7 : decode cX1_killsWithin 7 = .ok (.aload_n 0, 1) := by decide +kernel
theorem dX1_killsWithin_8 : decode cX1_killsWithin 8 = .ok (.getfield 21, 3) := by decide +kernel
theorem dX1_killsWithin_11 : decode cX1_killsWithin 11 = .ok (.getfield 38, 3) := by decide +kernel
theorem dX1_killsWithin_14 : decode cX1_killsWithin 14 = .ok (.iconst 4, 1) := by decide +kernel
theorem dX1_killsWithin_15 : decode cX1_killsWithin 15 = .ok (.iaload, 1) := by decide +kernel
theorem dX1_killsWithin_16 : decode cX1_killsWithin 16 = .ok (.if_icmp .ge 36, 3) := by decide +kernel
theorem dX1_killsWithin_19 : decode cX1_killsWithin 19 = .ok (.aload_n 0, 1) := by decide +kernel
theorem dX1_killsWithin_20 : decode cX1_killsWithin 20 = .ok (.iload_n 1, 1) := by decide +kernel
theorem dX1_killsWithin_21 : decode cX1_killsWithin 21 = .ok (.iload 4, 2) := by decide +kernel
theorem dX1_killsWithin_23 : decode cX1_killsWithin 23 = .ok (.invokestatic 56, 3) := by decide +kernel
theorem dX1_killsWithin_26 : decode cX1_killsWithin 26 = .ok (.istore 5, 2) := by decide +kernel
theorem dX1_killsWithin_28 : decode cX1_killsWithin 28 = .ok (.iload 5, 2) := by decide +kernel
theorem dX1_killsWithin_30 : decode cX1_killsWithin 30 = .ok (.ifCond .lt 16, 3) := by decide +kernel
theorem dX1_killsWithin_33 : decode cX1_killsWithin 33 = .ok (.iload 5, 2) := by decide +kernel
theorem dX1_killsWithin_35 : decode cX1_killsWithin 35 = .ok (.iload_n 2, 1) := by decide +kernel
theorem dX1_killsWithin_36 : decode cX1_killsWithin 36 = .ok (.if_icmp .gt 10, 3) := by decide +kernel
theorem dX1_killsWithin_39 : decode cX1_killsWithin 39 = .ok (.iload_n 3, 1) := by decide +kernel
theorem dX1_killsWithin_40 : decode cX1_killsWithin 40 = .ok (.iconst 1, 1) := by decide +kernel
theorem dX1_killsWithin_41 : decode cX1_killsWithin 41 = .ok (.iload 4, 2) := by decide +kernel
theorem dX1_killsWithin_43 : decode cX1_killsWithin 43 = .ok (.ishl, 1) := by decide +kernel
theorem dX1_killsWithin_44 : decode cX1_killsWithin 44 = .ok (.ior, 1) := by decide +kernel
theorem dX1_killsWithin_45 : decode cX1_killsWithin 45 = .ok (.istore_n 3, 1) := by decide +kernel
theorem dX1_killsWithin_46 : decode cX1_killsWithin 46 = .ok (.iinc 4 1, 3) := by decide +kernel
theorem dX1_killsWithin_49 : decode cX1_killsWithin 49 = .ok (.goto (-44), 3) := by decide +kernel
theorem dX1_killsWithin_52 : decode cX1_killsWithin 52 = .ok (.iload_n 3, 1) := by decide +kernel
theorem dX1_killsWithin_53 : decode cX1_killsWithin 53 = .ok (.ireturn, 1) := by decide +kernel
theorem dX1_isCompany_0 : decode cX1_isCompany 0 = .ok (.iconst 0, 1) := by decide +kernel
theorem dX1_isCompany_1 : decode cX1_isCompany 1 = .ok (.istore_n 3, 1) := by decide +kernel
theorem dX1_isCompany_2 : decode cX1_isCompany 2 = .ok (.iload_n 3, 1) := by decide +kernel
theorem dX1_isCompany_3 : decode cX1_isCompany 3 = .ok (.aload_n 1, 1) := by decide +kernel
theorem dX1_isCompany_4 : decode cX1_isCompany 4 = .ok (.getfield 21, 3) := by decide +kernel
theorem dX1_isCompany_7 : decode cX1_isCompany 7 = .ok (.getfield 38, 3) := by decide +kernel
theorem dX1_isCompany_10 : decode cX1_isCompany 10 = .ok (.iconst 3, 1) := by decide +kernel
theorem dX1_isCompany_11 : decode cX1_isCompany 11 = .ok (.iaload, 1) := by decide +kernel
theorem dX1_isCompany_12 : decode cX1_isCompany 12 = .ok (.if_icmp .ge 22, 3) := by decide +kernel
theorem dX1_isCompany_15 : decode cX1_isCompany 15 = .ok (.aload_n 0, 1) := by decide +kernel
theorem dX1_isCompany_16 : decode cX1_isCompany 16 = .ok (.getfield 9, 3) := by decide +kernel
theorem dX1_isCompany_19 : decode cX1_isCompany 19 = .ok (.iload_n 3, 1) := by decide +kernel
theorem dX1_isCompany_20 : decode cX1_isCompany 20 = .ok (.iaload, 1) := by decide +kernel
theorem dX1_isCompany_21 : decode cX1_isCompany 21 = .ok (.iload_n 2, 1) := by decide +kernel
theorem dX1_isCompany_22 : decode cX1_isCompany 22 = .ok (.iand, 1) := by decide +kernel
theorem dX1_isCompany_23 : decode cX1_isCompany 23 = .ok (.ifCond .ne 5, 3) := by decide +kernel
theorem dX1_isCompany_26 : decode cX1_isCompany 26 = .ok (.iconst 0, 1) := by decide +kernel
theorem dX1_isCompany_27 : decode cX1_isCompany 27 = .ok (.ireturn, 1) := by decide +kernel
theorem dX1_isCompany_28 : decode cX1_isCompany 28 = .ok (.iinc 3 1, 3) := by decide +kernel
theorem dX1_isCompany_31 : decode cX1_isCompany 31 = .ok (.goto (-29), 3) := by decide +kernel
theorem dX1_isCompany_34 : decode cX1_isCompany 34 = .ok (.iconst 1, 1) := by decide +kernel
theorem dX1_isCompany_35 : decode cX1_isCompany 35 = .ok (.ireturn, 1) := by decide +kernel
theorem dX1_loneliest_0 : decode cX1_loneliest 0 = .ok (.bipush (-2), 2) := by decide +kernel
theorem dX1_loneliest_2 : decode cX1_loneliest 2 = .ok (.istore_n 1, 1) := by decide +kernel
theorem dX1_loneliest_3 : decode cX1_loneliest 3 = .ok (.iconst (-1), 1) := by decide +kernel
theorem dX1_loneliest_4 : decode cX1_loneliest 4 = .ok (.istore_n 2, 1) := by decide +kernel
theorem dX1_loneliest_5 : decode cX1_loneliest 5 = .ok (.iconst 0, 1) := by decide +kernel
theorem dX1_loneliest_6 : decode cX1_loneliest 6 = .ok (.istore_n 3, 1) := by decide +kernel
theorem dX1_loneliest_7 : decode cX1_loneliest 7 = .ok (.iload_n 3, 1) := by decide +kernel
theorem dX1_loneliest_8 : decode cX1_loneliest 8 = .ok (.aload_n 0, 1) := by decide +kernel
theorem dX1_loneliest_9 : decode cX1_loneliest 9 = .ok (.getfield 21, 3) := by decide +kernel
theorem dX1_loneliest_12 : decode cX1_loneliest 12 = .ok (.getfield 38, 3) := by decide +kernel
theorem dX1_loneliest_15 : decode cX1_loneliest 15 = .ok (.iconst 3, 1) := by decide +kernel
theorem dX1_loneliest_16 : decode cX1_loneliest 16 = .ok (.iaload, 1) := by decide +kernel
theorem dX1_loneliest_17 : decode cX1_loneliest 17 = .ok (.if_icmp .ge 27, 3) := by decide +kernel
theorem dX1_loneliest_20 : decode cX1_loneliest 20 = .ok (.aload_n 0, 1) := by decide +kernel
theorem dX1_loneliest_21 : decode cX1_loneliest 21 = .ok (.iload_n 3, 1) := by decide +kernel
theorem dX1_loneliest_22 : decode cX1_loneliest 22 = .ok (.invokestatic 59, 3) := by decide +kernel
theorem dX1_loneliest_25 : decode cX1_loneliest 25 = .ok (.istore 4, 2) := by decide +kernel
theorem dX1_loneliest_27 : decode cX1_loneliest 27 = .ok (.iload 4, 2) := by decide +kernel
theorem dX1_loneliest_29 : decode cX1_loneliest 29 = .ok (.iload_n 2, 1) := by decide +kernel
theorem dX1_loneliest_30 : decode cX1_loneliest 30 = .ok (.if_icmp .le 8, 3) := by decide +kernel
theorem dX1_loneliest_33 : decode cX1_loneliest 33 = .ok (.iload 4, 2) := by decide +kernel
theorem dX1_loneliest_35 : decode cX1_loneliest 35 = .ok (.istore_n 2, 1) := by decide +kernel
theorem dX1_loneliest_36 : decode cX1_loneliest 36 = .ok (.iload_n 3, 1) := by decide +kernel
theorem dX1_loneliest_37 : decode cX1_loneliest 37 = .ok (.istore_n 1, 1) := by decide +kernel
theorem dX1_loneliest_38 : decode cX1_loneliest 38 = .ok (.iinc 3 1, 3) := by decide +kernel
theorem dX1_loneliest_41 : decode cX1_loneliest 41 = .ok (.goto (-34), 3) := by decide +kernel
theorem dX1_loneliest_44 : decode cX1_loneliest 44 = .ok (.iload_n 1, 1) := by decide +kernel
theorem dX1_loneliest_45 : decode cX1_loneliest 45 = .ok (.ireturn, 1) := by decide +kernel
theorem dX1_nearestTo_0 : decode cX1_nearestTo 0 = .ok (.bipush 7, 2) := by decide +kernel
theorem dX1_nearestTo_2 : decode cX1_nearestTo 2 = .ok (.istore_n 2, 1) := by decide +kernel
theorem dX1_nearestTo_3 : decode cX1_nearestTo 3 = .ok (.iconst 0, 1) := by decide +kernel
theorem dX1_nearestTo_4 : decode cX1_nearestTo 4 = .ok (.istore_n 3, 1) := by decide +kernel
theorem dX1_nearestTo_5 : decode cX1_nearestTo 5 = .ok (.iload_n 3, 1) := by decide +kernel
theorem dX1_nearestTo_6 : decode cX1_nearestTo 6 = .ok (.aload_n 0, 1) := by decide +kernel
theorem dX1_nearestTo_7 : decode cX1_nearestTo 7 = .ok (.getfield 21, 3) := by decide +kernel
theorem dX1_nearestTo_10 : decode cX1_nearestTo 10 = .ok (.getfield 38, 3) := by decide +kernel
theorem dX1_nearestTo_13 : decode cX1_nearestTo 13 = .ok (.iconst 4, 1) := by decide +kernel
theorem dX1_nearestTo_14 : decode cX1_nearestTo 14 = .ok (.iaload, 1) := by decide +kernel
theorem dX1_nearestTo_15 : decode cX1_nearestTo 15 = .ok (.if_icmp .ge 29, 3) := by decide +kernel
theorem dX1_nearestTo_18 : decode cX1_nearestTo 18 = .ok (.aload_n 0, 1) := by decide +kernel
theorem dX1_nearestTo_19 : decode cX1_nearestTo 19 = .ok (.iload_n 1, 1) := by decide +kernel
theorem dX1_nearestTo_20 : decode cX1_nearestTo 20 = .ok (.iload_n 3, 1) := by decide +kernel
theorem dX1_nearestTo_21 : decode cX1_nearestTo 21 = .ok (.invokestatic 56, 3) := by decide +kernel
theorem dX1_nearestTo_24 : decode cX1_nearestTo 24 = .ok (.istore 4, 2) := by decide +kernel
theorem dX1_nearestTo_26 : decode cX1_nearestTo 26 = .ok (.iload 4, 2) := by decide +kernel
theorem dX1_nearestTo_28 : decode cX1_nearestTo 28 = .ok (.ifCond .lt 10, 3) := by decide +kernel
theorem dX1_nearestTo_31 : decode cX1_nearestTo 31 = .ok (.iload_n 2, 1) := by decide +kernel
theorem dX1_nearestTo_32 : decode cX1_nearestTo 32 = .ok (.iload 4, 2) := by decide +kernel
theorem dX1_nearestTo_34 : decode cX1_nearestTo 34 = .ok (.invokestatic 63, 3) := by decide +kernel
theorem dX1_nearestTo_37 : decode cX1_nearestTo 37 = .ok (.istore_n 2, 1) := by decide +kernel
theorem dX1_nearestTo_38 : decode cX1_nearestTo 38 = .ok (.iinc 3 1, 3) := by decide +kernel
theorem dX1_nearestTo_41 : decode cX1_nearestTo 41 = .ok (.goto (-36), 3) := by decide +kernel
theorem dX1_nearestTo_44 : decode cX1_nearestTo 44 = .ok (.iload_n 2, 1) := by decide +kernel
theorem dX1_nearestTo_45 : decode cX1_nearestTo 45 = .ok (.ireturn, 1) := by decide +kernel
theorem dX1_creditors_0 : decode cX1_creditors 0 = .ok (.iconst 0, 1) := by decide +kernel
theorem dX1_creditors_1 : decode cX1_creditors 1 = .ok (.istore_n 2, 1) := by decide +kernel
theorem dX1_creditors_2 : decode cX1_creditors 2 = .ok (.iconst 0, 1) := by decide +kernel
theorem dX1_creditors_3 : decode cX1_creditors 3 = .ok (.istore_n 3, 1) := by decide +kernel
theorem dX1_creditors_4 : decode cX1_creditors 4 = .ok (.iload_n 3, 1) := by decide +kernel
theorem dX1_creditors_5 : decode cX1_creditors 5 = .ok (.aload_n 0, 1) := by decide +kernel
theorem dX1_creditors_6 : decode cX1_creditors 6 = .ok (.getfield 21, 3) := by decide +kernel
theorem dX1_creditors_9 : decode cX1_creditors 9 = .ok (.getfield 38, 3) := by decide +kernel
theorem dX1_creditors_12 : decode cX1_creditors 12 = .ok (.iconst 4, 1) := by decide +kernel
theorem dX1_creditors_13 : decode cX1_creditors 13 = .ok (.iaload, 1) := by decide +kernel
theorem dX1_creditors_14 : decode cX1_creditors 14 = .ok (.if_icmp .ge 46, 3) := by decide +kernel
theorem dX1_creditors_17 : decode cX1_creditors 17 = .ok (.aload_n 0, 1) := by decide +kernel
theorem dX1_creditors_18 : decode cX1_creditors 18 = .ok (.getfield 69, 3) := by decide +kernel
theorem dX1_creditors_21 : decode cX1_creditors 21 = .ok (.iload_n 3, 1) := by decide +kernel
theorem dX1_creditors_22 : decode cX1_creditors 22 = .ok (.iaload, 1) := by decide +kernel
theorem dX1_creditors_23 : decode cX1_creditors 23 = .ok (.iload_n 1, 1) := by decide +kernel
theorem dX1_creditors_24 : decode cX1_creditors 24 = .ok (.if_icmp .ne 30, 3) := by decide +kernel
theorem dX1_creditors_27 : decode cX1_creditors 27 = .ok (.aload_n 0, 1) := by decide +kernel
theorem dX1_creditors_28 : decode cX1_creditors 28 = .ok (.getfield 21, 3) := by decide +kernel
theorem dX1_creditors_31 : decode cX1_creditors 31 = .ok (.getfield 72, 3) := by decide +kernel
theorem dX1_creditors_34 : decode cX1_creditors 34 = .ok (.iload_n 3, 1) := by decide +kernel
theorem dX1_creditors_35 : decode cX1_creditors 35 = .ok (.iaload, 1) := by decide +kernel
theorem dX1_creditors_36 : decode cX1_creditors 36 = .ok (.iload_n 1, 1) := by decide +kernel
theorem dX1_creditors_37 : decode cX1_creditors 37 = .ok (.if_icmp .eq 17, 3) := by decide +kernel
theorem dX1_creditors_40 : decode cX1_creditors 40 = .ok (.iload_n 2, 1) := by decide +kernel
theorem dX1_creditors_41 : decode cX1_creditors 41 = .ok (.iconst 1, 1) := by decide +kernel
theorem dX1_creditors_42 : decode cX1_creditors 42 = .ok (.aload_n 0, 1) := by decide +kernel
theorem dX1_creditors_43 : decode cX1_creditors 43 = .ok (.getfield 21, 3) := by decide +kernel
theorem dX1_creditors_46 : decode cX1_creditors 46 = .ok (.getfield 72, 3) := by decide +kernel
theorem dX1_creditors_49 : decode cX1_creditors 49 = .ok (.iload_n 3, 1) := by decide +kernel
theorem dX1_creditors_50 : decode cX1_creditors 50 = .ok (.iaload, 1) := by decide +kernel
theorem dX1_creditors_51 : decode cX1_creditors 51 = .ok (.ishl, 1) := by decide +kernel
theorem dX1_creditors_52 : decode cX1_creditors 52 = .ok (.ior, 1) := by decide +kernel
theorem dX1_creditors_53 : decode cX1_creditors 53 = .ok (.istore_n 2, 1) := by decide +kernel
theorem dX1_creditors_54 : decode cX1_creditors 54 = .ok (.iinc 3 1, 3) := by decide +kernel
theorem dX1_creditors_57 : decode cX1_creditors 57 = .ok (.goto (-53), 3) := by decide +kernel
theorem dX1_creditors_60 : decode cX1_creditors 60 = .ok (.iload_n 2, 1) := by decide +kernel
theorem dX1_creditors_61 : decode cX1_creditors 61 = .ok (.ireturn, 1) := by decide +kernel
theorem dX1_menBehindDebts_0 : decode cX1_menBehindDebts 0 = .ok (.iconst 1, 1) := by decide +kernel
theorem dX1_menBehindDebts_1 : decode cX1_menBehindDebts 1 = .ok (.iload_n 1, 1) := by decide +kernel
theorem dX1_menBehindDebts_2 : decode cX1_menBehindDebts 2 = .ok (.ishl, 1) := by decide +kernel
theorem dX1_menBehindDebts_3 : decode cX1_menBehindDebts 3 = .ok (.istore_n 3, 1) := by decide +kernel
theorem dX1_menBehindDebts_4 : decode cX1_menBehindDebts 4 = .ok (.iconst 0, 1) := by decide +kernel
theorem dX1_menBehindDebts_5 : decode cX1_menBehindDebts 5 = .ok (.istore 4, 2) := by decide +kernel
theorem dX1_menBehindDebts_7 : decode cX1_menBehindDebts 7 = .ok (.iload 4, 2) := by decide +kernel
theorem dX1_menBehindDebts_9 : decode cX1_menBehindDebts 9 = .ok (.iload_n 2, 1) := by decide +kernel
theorem dX1_menBehindDebts_10 : decode cX1_menBehindDebts 10 = .ok (.if_icmp .ge 58, 3) := by decide +kernel
theorem dX1_menBehindDebts_13 : decode cX1_menBehindDebts 13 = .ok (.iconst 0, 1) := by decide +kernel
theorem dX1_menBehindDebts_14 : decode cX1_menBehindDebts 14 = .ok (.istore 5, 2) := by decide +kernel
theorem dX1_menBehindDebts_16 : decode cX1_menBehindDebts 16 = .ok (.iconst 0, 1) := by decide +kernel
theorem dX1_menBehindDebts_17 : decode cX1_menBehindDebts 17 = .ok (.istore 6, 2) := by decide +kernel
theorem dX1_menBehindDebts_19 : decode cX1_menBehindDebts 19 = .ok (.iload 6, 2) := by decide +kernel
theorem dX1_menBehindDebts_21 : decode cX1_menBehindDebts 21 = .ok (.aload_n 0, 1) := by decide +kernel
theorem dX1_menBehindDebts_22 : decode cX1_menBehindDebts 22 = .ok (.getfield 21, 3) := by decide +kernel
theorem dX1_menBehindDebts_25 : decode cX1_menBehindDebts 25 = .ok (.getfield 38, 3) := by decide +kernel
theorem dX1_menBehindDebts_28 : decode cX1_menBehindDebts 28 = .ok (.iconst 3, 1) := by decide +kernel
theorem dX1_menBehindDebts_29 : decode cX1_menBehindDebts 29 = .ok (.iaload, 1) := by decide +kernel
theorem dX1_menBehindDebts_30 : decode cX1_menBehindDebts 30 = .ok (.if_icmp .ge 29, 3) := by decide +kernel
theorem dX1_menBehindDebts_33 : decode cX1_menBehindDebts 33 = .ok (.iload_n 3, 1) := by decide +kernel
theorem dX1_menBehindDebts_34 : decode cX1_menBehindDebts 34 = .ok (.iload 6, 2) := by decide +kernel
theorem dX1_menBehindDebts_36 : decode cX1_menBehindDebts 36 = .ok (.invokestatic 75, 3) := by decide +kernel
theorem dX1_menBehindDebts_39 : decode cX1_menBehindDebts 39 = .ok (.ifCond .eq 14, 3) := by decide +kernel
theorem dX1_menBehindDebts_42 : decode cX1_menBehindDebts 42 = .ok (.iload 5, 2) := by decide +kernel
theorem dX1_menBehindDebts_44 : decode cX1_menBehindDebts 44 = .ok (.aload_n 0, 1) := by decide +kernel
theorem dX1_menBehindDebts_45 : decode cX1_menBehindDebts 45 = .ok (.iload 6, 2) := by decide +kernel
theorem dX1_menBehindDebts_47 : decode cX1_menBehindDebts 47 = .ok (.invokestatic 79, 3) := by decide +kernel
theorem dX1_menBehindDebts_50 : decode cX1_menBehindDebts 50 = .ok (.ior, 1) := by decide +kernel
theorem dX1_menBehindDebts_51 : decode cX1_menBehindDebts 51 = .ok (.istore 5, 2) := by decide +kernel
theorem dX1_menBehindDebts_53 : decode cX1_menBehindDebts 53 = .ok (.iinc 6 1, 3) := by decide +kernel
theorem dX1_menBehindDebts_56 : decode cX1_menBehindDebts 56 = .ok (.goto (-37), 3) := by decide +kernel
theorem dX1_menBehindDebts_59 : decode cX1_menBehindDebts 59 = .ok (.iload 5, 2) := by decide +kernel
theorem dX1_menBehindDebts_61 : decode cX1_menBehindDebts 61 = .ok (.istore_n 3, 1) := by decide +kernel
theorem dX1_menBehindDebts_62 : decode cX1_menBehindDebts 62 = .ok (.iinc 4 1, 3) := by decide +kernel
theorem dX1_menBehindDebts_65 : decode cX1_menBehindDebts 65 = .ok (.goto (-58), 3) := by decide +kernel
theorem dX1_menBehindDebts_68 : decode cX1_menBehindDebts 68 = .ok (.iload_n 3, 1) := by decide +kernel
theorem dX1_menBehindDebts_69 : decode cX1_menBehindDebts 69 = .ok (.ireturn, 1) := by decide +kernel
theorem dX1_ringLength_0 : decode cX1_ringLength 0 = .ok (.iconst 2, 1) := by decide +kernel
theorem dX1_ringLength_1 : decode cX1_ringLength 1 = .ok (.istore_n 2, 1) := by decide +kernel
theorem dX1_ringLength_2 : decode cX1_ringLength 2 = .ok (.iload_n 2, 1) := by decide +kernel
theorem dX1_ringLength_3 : decode cX1_ringLength 3 = .ok (.aload_n 0, 1) := by decide +kernel
theorem dX1_ringLength_4 : decode cX1_ringLength 4 = .ok (.getfield 21, 3) := by decide +kernel
theorem dX1_ringLength_7 : decode cX1_ringLength 7 = .ok (.getfield 38, 3) := by decide +kernel
theorem dX1_ringLength_10 : decode cX1_ringLength 10 = .ok (.iconst 3, 1) := by decide +kernel
theorem dX1_ringLength_11 : decode cX1_ringLength 11 = .ok (.iaload, 1) := by decide +kernel
theorem dX1_ringLength_12 : decode cX1_ringLength 12 = .ok (.if_icmp .gt 24, 3) := by decide +kernel
theorem dX1_ringLength_15 : decode cX1_ringLength 15 = .ok (.aload_n 0, 1) := by decide +kernel
theorem dX1_ringLength_16 : decode cX1_ringLength 16 = .ok (.iload_n 1, 1) := by decide +kernel
theorem dX1_ringLength_17 : decode cX1_ringLength 17 = .ok (.iload_n 2, 1) := by decide +kernel
theorem dX1_ringLength_18 : decode cX1_ringLength 18 = .ok (.invokestatic 82, 3) := by decide +kernel
theorem dX1_ringLength_21 : decode cX1_ringLength 21 = .ok (.iload_n 1, 1) := by decide +kernel
theorem dX1_ringLength_22 : decode cX1_ringLength 22 = .ok (.invokestatic 75, 3) := by decide +kernel
theorem dX1_ringLength_25 : decode cX1_ringLength 25 = .ok (.ifCond .eq 5, 3) := by decide +kernel
theorem dX1_ringLength_28 : decode cX1_ringLength 28 = .ok (.iload_n 2, 1) := by decide +kernel
theorem dX1_ringLength_29 : decode cX1_ringLength 29 = .ok (.ireturn, 1) := by decide +kernel
theorem dX1_ringLength_30 : decode cX1_ringLength 30 = .ok (.iinc 2 1, 3) := by decide +kernel
theorem dX1_ringLength_33 : decode cX1_ringLength 33 = .ok (.goto (-31), 3) := by decide +kernel
theorem dX1_ringLength_36 : decode cX1_ringLength 36 = .ok (.bipush (-2), 2) := by decide +kernel
theorem dX1_ringLength_38 : decode cX1_ringLength 38 = .ok (.ireturn, 1) := by decide +kernel
theorem dX1_ringMember_0 : decode cX1_ringMember 0 = .ok (.iload_n 1, 1) := by decide +kernel
theorem dX1_ringMember_1 : decode cX1_ringMember 1 = .ok (.istore 4, 2) := by decide +kernel
theorem dX1_ringMember_3 : decode cX1_ringMember 3 = .ok (.iconst 1, 1) := by decide +kernel
theorem dX1_ringMember_4 : decode cX1_ringMember 4 = .ok (.istore 5, 2) := by decide +kernel
theorem dX1_ringMember_6 : decode cX1_ringMember 6 = .ok (.iload 5, 2) := by decide +kernel
theorem dX1_ringMember_8 : decode cX1_ringMember 8 = .ok (.iload_n 2, 1) := by decide +kernel
theorem dX1_ringMember_9 : decode cX1_ringMember 9 = .ok (.if_icmp .gt 22, 3) := by decide +kernel
theorem dX1_ringMember_12 : decode cX1_ringMember 12 = .ok (.aload_n 0, 1) := by decide +kernel
theorem dX1_ringMember_13 : decode cX1_ringMember 13 = .ok (.iload 4, 2) := by decide +kernel
theorem dX1_ringMember_15 : decode cX1_ringMember 15 = .ok (.iload_n 1, 1) := by decide +kernel
theorem dX1_ringMember_16 : decode cX1_ringMember 16 = .ok (.iload_n 3, 1) := by decide +kernel
theorem dX1_ringMember_17 : decode cX1_ringMember 17 = .ok (.iload 5, 2) := by decide +kernel
theorem dX1_ringMember_19 : decode cX1_ringMember 19 = .ok (.isub, 1) := by decide +kernel
theorem dX1_ringMember_20 : decode cX1_ringMember 20 = .ok (.invokestatic 85, 3) := by decide +kernel
theorem dX1_ringMember_23 : decode cX1_ringMember 23 = .ok (.istore 4, 2) := by decide +kernel
theorem dX1_ringMember_25 : decode cX1_ringMember 25 = .ok (.iinc 5 1, 3) := by decide +kernel
theorem dX1_ringMember_28 : decode cX1_ringMember 28 = .ok (.goto (-22), 3) := by decide +kernel
theorem dX1_ringMember_31 : decode cX1_ringMember 31 = .ok (.iload 4, 2) := by decide +kernel
theorem dX1_ringMember_33 : decode cX1_ringMember 33 = .ok (.ireturn, 1) := by decide +kernel
theorem dX1_firstTowards_0 : decode cX1_firstTowards 0 = .ok (.aload_n 0, 1) := by decide +kernel
theorem dX1_firstTowards_1 : decode cX1_firstTowards 1 = .ok (.iload_n 1, 1) := by decide +kernel
theorem dX1_firstTowards_2 : decode cX1_firstTowards 2 = .ok (.invokestatic 79, 3) := by decide +kernel
theorem dX1_firstTowards_5 : decode cX1_firstTowards 5 = .ok (.istore 4, 2) := by decide +kernel
theorem dX1_firstTowards_7 : decode cX1_firstTowards 7 = .ok (.iconst 0, 1) := by decide +kernel
theorem dX1_firstTowards_8 : decode cX1_firstTowards 8 = .ok (.istore 5, 2) := by decide +kernel
theorem dX1_firstTowards_10 : decode cX1_firstTowards 10 = .ok (.iload 5, 2) := by decide +kernel
theorem dX1_firstTowards_12 : decode cX1_firstTowards 12 = .ok (.aload_n 0, 1) := by decide +kernel
theorem dX1_firstTowards_13 : decode cX1_firstTowards 13 = .ok (.getfield 21, 3) := by decide +kernel
theorem dX1_firstTowards_16 : decode cX1_firstTowards 16 = .ok (.getfield 38, 3) := by decide +kernel
theorem dX1_firstTowards_19 : decode cX1_firstTowards 19 = .ok (.iconst 3, 1) := by decide +kernel
theorem dX1_firstTowards_20 : decode cX1_firstTowards 20 = .ok (.iaload, 1) := by decide +kernel
theorem dX1_firstTowards_21 : decode cX1_firstTowards 21 = .ok (.if_icmp .ge 36, 3) := by decide +kernel
theorem dX1_firstTowards_24 : decode cX1_firstTowards 24 = .ok (.iload 4, 2) := by decide +kernel
theorem dX1_firstTowards_26 : decode cX1_firstTowards 26 = .ok (.iload 5, 2) := by decide +kernel
theorem dX1_firstTowards_28 : decode cX1_firstTowards 28 = .ok (.invokestatic 75, 3) := by decide +kernel
theorem dX1_firstTowards_31 : decode cX1_firstTowards 31 = .ok (.ifCond .eq 20, 3) := by decide +kernel
theorem dX1_firstTowards_34 : decode cX1_firstTowards 34 = .ok (.aload_n 0, 1) := by decide +kernel
theorem dX1_firstTowards_35 : decode cX1_firstTowards 35 = .ok (.iload 5, 2) := by decide +kernel
theorem dX1_firstTowards_37 : decode cX1_firstTowards 37 = .ok (.iload_n 3, 1) := by decide +kernel
theorem dX1_firstTowards_38 : decode cX1_firstTowards 38 = .ok (.invokestatic 82, 3) := by decide +kernel
theorem dX1_firstTowards_41 : decode cX1_firstTowards 41 = .ok (.iload_n 2, 1) := by decide +kernel
theorem dX1_firstTowards_42 : decode cX1_firstTowards 42 = .ok (.invokestatic 75, 3) := by decide +kernel
theorem dX1_firstTowards_45 : decode cX1_firstTowards 45 = .ok (.ifCond .eq 6, 3) := by decide +kernel
theorem dX1_firstTowards_48 : decode cX1_firstTowards 48 = .ok (.iload 5, 2) := by decide +kernel
theorem dX1_firstTowards_50 : decode cX1_firstTowards 50 = .ok (.ireturn, 1) := by decide +kernel
theorem dX1_firstTowards_51 : decode cX1_firstTowards 51 = .ok (.iinc 5 1, 3) := by decide +kernel
theorem dX1_firstTowards_54 : decode cX1_firstTowards 54 = .ok (.goto (-44), 3) := by decide +kernel
theorem dX1_firstTowards_57 : decode cX1_firstTowards 57 = .ok (.iload_n 2, 1) := by decide +kernel
theorem dX1_firstTowards_58 : decode cX1_firstTowards 58 = .ok (.ireturn, 1) := by decide +kernel
theorem dX1_killsToGiveBack_0 : decode cX1_killsToGiveBack 0 = .ok (.iconst 0, 1) := by decide +kernel
theorem dX1_killsToGiveBack_1 : decode cX1_killsToGiveBack 1 = .ok (.istore_n 1, 1) := by decide +kernel
theorem dX1_killsToGiveBack_2 : decode cX1_killsToGiveBack 2 = .ok (.iconst 0, 1) := by decide +kernel
theorem dX1_killsToGiveBack_3 : decode cX1_killsToGiveBack 3 = .ok (.istore_n 2, 1) := by decide +kernel
theorem dX1_killsToGiveBack_4 : decode cX1_killsToGiveBack 4 = .ok (.iload_n 2, 1) := by decide +kernel
theorem dX1_killsToGiveBack_5 : decode cX1_killsToGiveBack 5 = .ok (.aload_n 0, 1) := by decide +kernel
theorem dX1_killsToGiveBack_6 : decode cX1_killsToGiveBack 6 = .ok (.getfield 21, 3) := by decide +kernel
theorem dX1_killsToGiveBack_9 : decode cX1_killsToGiveBack 9 = .ok (.getfield 38, 3) := by decide +kernel
theorem dX1_killsToGiveBack_12 : decode cX1_killsToGiveBack 12 = .ok (.iconst 4, 1) := by decide +kernel
theorem dX1_killsToGiveBack_13 : decode cX1_killsToGiveBack 13 = .ok (.iaload, 1) := by decide +kernel
theorem dX1_killsToGiveBack_14 : decode cX1_killsToGiveBack 14 = .ok (.if_icmp .ge 30, 3) := by decide +kernel
theorem dX1_killsToGiveBack_17 : decode cX1_killsToGiveBack 17 = .ok (.aload_n 0, 1) := by decide +kernel
theorem dX1_killsToGiveBack_18 : decode cX1_killsToGiveBack 18 = .ok (.getfield 69, 3) := by decide +kernel
theorem dX1_killsToGiveBack_21 : decode cX1_killsToGiveBack 21 = .ok (.iload_n 2, 1) := by decide +kernel
theorem dX1_killsToGiveBack_22 : decode cX1_killsToGiveBack 22 = .ok (.iaload, 1) := by decide +kernel
theorem dX1_killsToGiveBack_23 : decode cX1_killsToGiveBack 23 = .ok (.aload_n 0, 1) := by decide +kernel
theorem dX1_killsToGiveBack_24 : decode cX1_killsToGiveBack 24 = .ok (.getfield 21, 3) := by decide +kernel
theorem dX1_killsToGiveBack_27 : decode cX1_killsToGiveBack 27 = .ok (.getfield 72, 3) := by decide +kernel
theorem dX1_killsToGiveBack_30 : decode cX1_killsToGiveBack 30 = .ok (.iload_n 2, 1) := by decide +kernel
theorem dX1_killsToGiveBack_31 : decode cX1_killsToGiveBack 31 = .ok (.iaload, 1) := by decide +kernel
theorem dX1_killsToGiveBack_32 : decode cX1_killsToGiveBack 32 = .ok (.if_icmp .eq 6, 3) := by decide +kernel
theorem dX1_killsToGiveBack_35 : decode cX1_killsToGiveBack 35 = .ok (.iinc 1 1, 3) := by decide +kernel
theorem dX1_killsToGiveBack_38 : decode cX1_killsToGiveBack 38 = .ok (.iinc 2 1, 3) := by decide +kernel
theorem dX1_killsToGiveBack_41 : decode cX1_killsToGiveBack 41 = .ok (.goto (-37), 3) := by decide +kernel
theorem dX1_killsToGiveBack_44 : decode cX1_killsToGiveBack 44 = .ok (.iload_n 1, 1) := by decide +kernel
theorem dX1_killsToGiveBack_45 : decode cX1_killsToGiveBack 45 = .ok (.ireturn, 1) := by decide +kernel
theorem dX1_mostRobbed_0 : decode cX1_mostRobbed 0 = .ok (.bipush (-2), 2) := by decide +kernel
theorem dX1_mostRobbed_2 : decode cX1_mostRobbed 2 = .ok (.istore_n 1, 1) := by decide +kernel
theorem dX1_mostRobbed_3 : decode cX1_mostRobbed 3 = .ok (.iconst (-1), 1) := by decide +kernel
theorem dX1_mostRobbed_4 : decode cX1_mostRobbed 4 = .ok (.istore_n 2, 1) := by decide +kernel
theorem dX1_mostRobbed_5 : decode cX1_mostRobbed 5 = .ok (.iconst 0, 1) := by decide +kernel
theorem dX1_mostRobbed_6 : decode cX1_mostRobbed 6 = .ok (.istore_n 3, 1) := by decide +kernel
theorem dX1_mostRobbed_7 : decode cX1_mostRobbed 7 = .ok (.iload_n 3, 1) := by decide +kernel
theorem dX1_mostRobbed_8 : decode cX1_mostRobbed 8 = .ok (.aload_n 0, 1) := by decide +kernel
theorem dX1_mostRobbed_9 : decode cX1_mostRobbed 9 = .ok (.getfield 21, 3) := by decide +kernel
theorem dX1_mostRobbed_12 : decode cX1_mostRobbed 12 = .ok (.getfield 38, 3) := by decide +kernel
theorem dX1_mostRobbed_15 : decode cX1_mostRobbed 15 = .ok (.iconst 3, 1) := by decide +kernel
theorem dX1_mostRobbed_16 : decode cX1_mostRobbed 16 = .ok (.iaload, 1) := by decide +kernel
theorem dX1_mostRobbed_17 : decode cX1_mostRobbed 17 = .ok (.if_icmp .ge 54, 3) := by decide +kernel
theorem dX1_mostRobbed_20 : decode cX1_mostRobbed 20 = .ok (.aload_n 0, 1) := by decide +kernel
theorem dX1_mostRobbed_21 : decode cX1_mostRobbed 21 = .ok (.getfield 21, 3) := by decide +kernel
theorem dX1_mostRobbed_24 : decode cX1_mostRobbed 24 = .ok (.iload_n 3, 1) := by decide +kernel
theorem dX1_mostRobbed_25 : decode cX1_mostRobbed 25 = .ok (.invokevirtual 89, 3) := by decide +kernel
theorem dX1_mostRobbed_28 : decode cX1_mostRobbed 28 = .ok (.aload_n 0, 1) := by decide +kernel
theorem dX1_mostRobbed_29 : decode cX1_mostRobbed 29 = .ok (.iload_n 3, 1) := by decide +kernel
theorem dX1_mostRobbed_30 : decode cX1_mostRobbed 30 = .ok (.invokevirtual 92, 3) := by decide +kernel
theorem dX1_mostRobbed_33 : decode cX1_mostRobbed 33 = .ok (.iconst (-1), 1) := by decide +kernel
theorem dX1_mostRobbed_34 : decode cX1_mostRobbed 34 = .ok (.ixor, 1) := by decide +kernel
theorem dX1_mostRobbed_35 : decode cX1_mostRobbed 35 = .ok (.iand, 1) := by decide +kernel
theorem dX1_mostRobbed_36 : decode cX1_mostRobbed 36 = .ok (.istore 4, 2) := by decide +kernel
theorem dX1_mostRobbed_38 : decode cX1_mostRobbed 38 = .ok (.aload_n 0, 1) := by decide +kernel
theorem dX1_mostRobbed_39 : decode cX1_mostRobbed 39 = .ok (.getfield 21, 3) := by decide +kernel
theorem dX1_mostRobbed_42 : decode cX1_mostRobbed 42 = .ok (.iload 4, 2) := by decide +kernel
theorem dX1_mostRobbed_44 : decode cX1_mostRobbed 44 = .ok (.invokevirtual 95, 3) := by decide +kernel
theorem dX1_mostRobbed_47 : decode cX1_mostRobbed 47 = .ok (.istore 5, 2) := by decide +kernel
theorem dX1_mostRobbed_49 : decode cX1_mostRobbed 49 = .ok (.iload 4, 2) := by decide +kernel
theorem dX1_mostRobbed_51 : decode cX1_mostRobbed 51 = .ok (.ifCond .eq 14, 3) := by decide +kernel
theorem dX1_mostRobbed_54 : decode cX1_mostRobbed 54 = .ok (.iload 5, 2) := by decide +kernel
theorem dX1_mostRobbed_56 : decode cX1_mostRobbed 56 = .ok (.iload_n 2, 1) := by decide +kernel
theorem dX1_mostRobbed_57 : decode cX1_mostRobbed 57 = .ok (.if_icmp .le 8, 3) := by decide +kernel
theorem dX1_mostRobbed_60 : decode cX1_mostRobbed 60 = .ok (.iload 5, 2) := by decide +kernel
theorem dX1_mostRobbed_62 : decode cX1_mostRobbed 62 = .ok (.istore_n 2, 1) := by decide +kernel
theorem dX1_mostRobbed_63 : decode cX1_mostRobbed 63 = .ok (.iload_n 3, 1) := by decide +kernel
theorem dX1_mostRobbed_64 : decode cX1_mostRobbed 64 = .ok (.istore_n 1, 1) := by decide +kernel
theorem dX1_mostRobbed_65 : decode cX1_mostRobbed 65 = .ok (.iinc 3 1, 3) := by decide +kernel
theorem dX1_mostRobbed_68 : decode cX1_mostRobbed 68 = .ok (.goto (-61), 3) := by decide +kernel
theorem dX1_mostRobbed_71 : decode cX1_mostRobbed 71 = .ok (.iload_n 1, 1) := by decide +kernel
theorem dX1_mostRobbed_72 : decode cX1_mostRobbed 72 = .ok (.ireturn, 1) := by decide +kernel
theorem dX2_gain_0 : decode cX2_gain 0 = .ok (.iload_n 1, 1) := by decide +kernel
theorem dX2_gain_1 : decode cX2_gain 1 = .ok (.ifCond .eq 18, 3) := by decide +kernel
theorem dX2_gain_4 : decode cX2_gain 4 = .ok (.iload_n 2, 1) := by decide +kernel
theorem dX2_gain_5 : decode cX2_gain 5 = .ok (.ifCond .eq 14, 3) := by decide +kernel
theorem dX2_gain_8 : decode cX2_gain 8 = .ok (.iload_n 3, 1) := by decide +kernel
theorem dX2_gain_9 : decode cX2_gain 9 = .ok (.ifCond .eq 8, 3) := by decide +kernel
theorem dX2_gain_12 : decode cX2_gain 12 = .ok (.iload_n 0, 1) := by decide +kernel
theorem dX2_gain_13 : decode cX2_gain 13 = .ok (.ineg, 1) := by decide +kernel
theorem dX2_gain_14 : decode cX2_gain 14 = .ok (.goto 4, 3) := by decide +kernel
theorem dX2_gain_17 : decode cX2_gain 17 = .ok (.iconst 3, 1) := by decide +kernel
theorem dX2_gain_18 : decode cX2_gain 18 = .ok (.ireturn, 1) := by decide +kernel
theorem dX2_gain_19 : decode cX2_gain 19 = .ok (.iload_n 1, 1) := by decide +kernel
theorem dX2_gain_20 : decode cX2_gain 20 = .ok (.ifCond .eq 13, 3) := by decide +kernel
theorem dX2_gain_23 : decode cX2_gain 23 = .ok (.iload_n 3, 1) := by decide +kernel
theorem dX2_gain_24 : decode cX2_gain 24 = .ok (.ifCond .eq 7, 3) := by decide +kernel
theorem dX2_gain_27 : decode cX2_gain 27 = .ok (.iconst 0, 1) := by decide +kernel
theorem dX2_gain_28 : decode cX2_gain 28 = .ok (.goto 4, 3) := by decide +kernel
theorem dX2_gain_31 : decode cX2_gain 31 = .ok (.iconst (-1), 1) := by decide +kernel
theorem dX2_gain_32 : decode cX2_gain 32 = .ok (.ireturn, 1) := by decide +kernel
theorem dX2_gain_33 : decode cX2_gain 33 = .ok (.iload_n 2, 1) := by decide +kernel
theorem dX2_gain_34 : decode cX2_gain 34 = .ok (.ifCond .eq 14, 3) := by decide +kernel
theorem dX2_gain_37 : decode cX2_gain 37 = .ok (.iload_n 3, 1) := by decide +kernel
theorem dX2_gain_38 : decode cX2_gain 38 = .ok (.ifCond .eq 7, 3) := by decide +kernel
theorem dX2_gain_41 : decode cX2_gain 41 = .ok (.iload_n 0, 1) := by decide +kernel
theorem dX2_gain_42 : decode cX2_gain 42 = .ok (.goto 5, 3) := by decide +kernel
theorem dX2_gain_45 : decode cX2_gain 45 = .ok (.iload_n 0, 1) := by decide +kernel
theorem dX2_gain_46 : decode cX2_gain 46 = .ok (.ineg, 1) := by decide +kernel
theorem dX2_gain_47 : decode cX2_gain 47 = .ok (.ireturn, 1) := by decide +kernel
theorem dX2_gain_48 : decode cX2_gain 48 = .ok (.iconst 0, 1) := by decide +kernel
theorem dX2_gain_49 : decode cX2_gain 49 = .ok (.ireturn, 1) := by decide +kernel
theorem dX2_isRest_0 : decode cX2_isRest 0 = .ok (.iload_n 1, 1) := by decide +kernel
theorem dX2_isRest_1 : decode cX2_isRest 1 = .ok (.iconst 2, 1) := by decide +kernel
theorem dX2_isRest_2 : decode cX2_isRest 2 = .ok (.if_icmp .lt 7, 3) := by decide +kernel
theorem dX2_isRest_5 : decode cX2_isRest 5 = .ok (.iconst 1, 1) := by decide +kernel
theorem dX2_isRest_6 : decode cX2_isRest 6 = .ok (.goto 4, 3) := by decide +kernel
theorem dX2_isRest_9 : decode cX2_isRest 9 = .ok (.iconst 0, 1) := by decide +kernel
theorem dX2_isRest_10 : decode cX2_isRest 10 = .ok (.istore_n 2, 1) := by decide +kernel
theorem dX2_isRest_11 : decode cX2_isRest 11 = .ok (.iload_n 1, 1) := by decide +kernel
theorem dX2_isRest_12 : decode cX2_isRest 12 = .ok (.iconst 2, 1) := by decide +kernel
theorem dX2_isRest_13 : decode cX2_isRest 13 = .ok (.irem, 1) := by decide +kernel
theorem dX2_isRest_14 : decode cX2_isRest 14 = .ok (.iconst 1, 1) := by decide +kernel
theorem dX2_isRest_15 : decode cX2_isRest 15 = .ok (.if_icmp .ne 7, 3) := by decide +kernel
theorem dX2_isRest_18 : decode cX2_isRest 18 = .ok (.iconst 1, 1) := by decide +kernel
theorem dX2_isRest_19 : decode cX2_isRest 19 = .ok (.goto 4, 3) := by decide +kernel
theorem dX2_isRest_22 : decode cX2_isRest 22 = .ok (.iconst 0, 1) := by decide +kernel
theorem dX2_isRest_23 : decode cX2_isRest 23 = .ok (.istore_n 3, 1) := by decide +kernel
theorem dX2_isRest_24 : decode cX2_isRest 24 = .ok (.iload_n 0, 1) := by decide +kernel
theorem dX2_isRest_25 : decode cX2_isRest 25 = .ok (.iload_n 2, 1) := by decide +kernel
theorem dX2_isRest_26 : decode cX2_isRest 26 = .ok (.iload_n 3, 1) := by decide +kernel
theorem dX2_isRest_27 : decode cX2_isRest 27 = .ok (.iconst 0, 1) := by decide +kernel
theorem dX2_isRest_28 : decode cX2_isRest 28 = .ok (.invokestatic 9, 3) := by decide +kernel
theorem dX2_isRest_31 : decode cX2_isRest 31 = .ok (.iload_n 0, 1) := by decide +kernel
theorem dX2_isRest_32 : decode cX2_isRest 32 = .ok (.iload_n 2, 1) := by decide +kernel
theorem dX2_isRest_33 : decode cX2_isRest 33 = .ok (.ifCond .ne 7, 3) := by decide +kernel
theorem dX2_isRest_36 : decode cX2_isRest 36 = .ok (.iconst 1, 1) := by decide +kernel
theorem dX2_isRest_37 : decode cX2_isRest 37 = .ok (.goto 4, 3) := by decide +kernel
theorem dX2_isRest_40 : decode cX2_isRest 40 = .ok (.iconst 0, 1) := by decide +kernel
theorem dX2_isRest_41 : decode cX2_isRest 41 = .ok (.iload_n 3, 1) := by decide +kernel
theorem dX2_isRest_42 : decode cX2_isRest 42 = .ok (.iconst 0, 1) := by decide +kernel
theorem dX2_isRest_43 : decode cX2_isRest 43 = .ok (.invokestatic 9, 3) := by decide +kernel
theorem dX2_isRest_46 : decode cX2_isRest 46 = .ok (.if_icmp .lt 32, 3) := by decide +kernel
theorem dX2_isRest_49 : decode cX2_isRest 49 = .ok (.iload_n 0, 1) := by decide +kernel
theorem dX2_isRest_50 : decode cX2_isRest 50 = .ok (.iload_n 2, 1) := by decide +kernel
theorem dX2_isRest_51 : decode cX2_isRest 51 = .ok (.iload_n 3, 1) := by decide +kernel
theorem dX2_isRest_52 : decode cX2_isRest 52 = .ok (.iconst 1, 1) := by decide +kernel
theorem dX2_isRest_53 : decode cX2_isRest 53 = .ok (.invokestatic 9, 3) := by decide +kernel
theorem dX2_isRest_56 : decode cX2_isRest 56 = .ok (.iload_n 0, 1) := by decide +kernel
theorem dX2_isRest_57 : decode cX2_isRest 57 = .ok (.iload_n 2, 1) := by decide +kernel
theorem dX2_isRest_58 : decode cX2_isRest 58 = .ok (.iload_n 3, 1) := by decide +kernel
theorem dX2_isRest_59 : decode cX2_isRest 59 = .ok (.ifCond .ne 7, 3) := by decide +kernel
theorem dX2_isRest_62 : decode cX2_isRest 62 = .ok (.iconst 1, 1) := by decide +kernel
theorem dX2_isRest_63 : decode cX2_isRest 63 = .ok (.goto 4, 3) := by decide +kernel
theorem dX2_isRest_66 : decode cX2_isRest 66 = .ok (.iconst 0, 1) := by decide +kernel
theorem dX2_isRest_67 : decode cX2_isRest 67 = .ok (.iconst 1, 1) := by decide +kernel
theorem dX2_isRest_68 : decode cX2_isRest 68 = .ok (.invokestatic 9, 3) := by decide +kernel
theorem dX2_isRest_71 : decode cX2_isRest 71 = .ok (.if_icmp .lt 7, 3) := by decide +kernel
theorem dX2_isRest_74 : decode cX2_isRest 74 = .ok (.iconst 1, 1) := by decide +kernel
theorem dX2_isRest_75 : decode cX2_isRest 75 = .ok (.goto 4, 3) := by decide +kernel
theorem dX2_isRest_78 : decode cX2_isRest 78 = .ok (.iconst 0, 1) := by decide +kernel
theorem dX2_isRest_79 : decode cX2_isRest 79 = .ok (.ireturn, 1) := by decide +kernel
theorem dX2_countRests_0 : decode cX2_countRests 0 = .ok (.iconst 0, 1) := by decide +kernel
theorem dX2_countRests_1 : decode cX2_countRests 1 = .ok (.istore_n 1, 1) := by decide +kernel
theorem dX2_countRests_2 : decode cX2_countRests 2 = .ok (.iconst 0, 1) := by decide +kernel
theorem dX2_countRests_3 : decode cX2_countRests 3 = .ok (.istore_n 2, 1) := by decide +kernel
theorem dX2_countRests_4 : decode cX2_countRests 4 = .ok (.iload_n 2, 1) := by decide +kernel
theorem dX2_countRests_5 : decode cX2_countRests 5 = .ok (.iconst 4, 1) := by decide +kernel
theorem dX2_countRests_6 : decode cX2_countRests 6 = .ok (.if_icmp .ge 20, 3) := by decide +kernel
theorem dX2_countRests_9 : decode cX2_countRests 9 = .ok (.iload_n 0, 1) := by decide +kernel
theorem dX2_countRests_10 : decode cX2_countRests 10 = .ok (.iload_n 2, 1) := by decide +kernel
theorem dX2_countRests_11 : decode cX2_countRests 11 = .ok (.invokestatic 15, 3) := by decide +kernel
theorem dX2_countRests_14 : decode cX2_countRests 14 = .ok (.ifCond .eq 6, 3) := by decide +kernel
theorem dX2_countRests_17 : decode cX2_countRests 17 = .ok (.iinc 1 1, 3) := by decide +kernel
theorem dX2_countRests_20 : decode cX2_countRests 20 = .ok (.iinc 2 1, 3) := by decide +kernel
theorem dX2_countRests_23 : decode cX2_countRests 23 = .ok (.goto (-19), 3) := by decide +kernel
theorem dX2_countRests_26 : decode cX2_countRests 26 = .ok (.iload_n 1, 1) := by decide +kernel
theorem dX2_countRests_27 : decode cX2_countRests 27 = .ok (.ireturn, 1) := by decide +kernel
theorem dX2_firstRest_0 : decode cX2_firstRest 0 = .ok (.iconst 0, 1) := by decide +kernel
theorem dX2_firstRest_1 : decode cX2_firstRest 1 = .ok (.istore_n 1, 1) := by decide +kernel
theorem dX2_firstRest_2 : decode cX2_firstRest 2 = .ok (.iload_n 1, 1) := by decide +kernel
theorem dX2_firstRest_3 : decode cX2_firstRest 3 = .ok (.iconst 4, 1) := by decide +kernel
theorem dX2_firstRest_4 : decode cX2_firstRest 4 = .ok (.if_icmp .ge 28, 3) := by decide +kernel
theorem dX2_firstRest_7 : decode cX2_firstRest 7 = .ok (.iload_n 0, 1) := by decide +kernel
theorem dX2_firstRest_8 : decode cX2_firstRest 8 = .ok (.iload_n 1, 1) := by decide +kernel
theorem dX2_firstRest_9 : decode cX2_firstRest 9 = .ok (.invokestatic 15, 3) := by decide +kernel
theorem dX2_firstRest_12 : decode cX2_firstRest 12 = .ok (.ifCond .eq 14, 3) := by decide +kernel
theorem dX2_firstRest_15 : decode cX2_firstRest 15 = .ok (.bipush 10, 2) := by decide +kernel
theorem dX2_firstRest_17 : decode cX2_firstRest 17 = .ok (.iload_n 1, 1) := by decide +kernel
theorem dX2_firstRest_18 : decode cX2_firstRest 18 = .ok (.iconst 2, 1) := by decide +kernel
theorem dX2_firstRest_19 : decode cX2_firstRest 19 = .ok (.idiv, 1) := by decide +kernel
theorem dX2_firstRest_20 : decode cX2_firstRest 20 = .ok (.imul, 1) := by decide +kernel
theorem dX2_firstRest_21 : decode cX2_firstRest 21 = .ok (.iload_n 1, 1) := by decide +kernel
theorem dX2_firstRest_22 : decode cX2_firstRest 22 = .ok (.iconst 2, 1) := by decide +kernel
theorem dX2_firstRest_23 : decode cX2_firstRest 23 = .ok (.irem, 1) := by decide +kernel
theorem dX2_firstRest_24 : decode cX2_firstRest 24 = .ok (.iadd, 1) := by decide +kernel
theorem dX2_firstRest_25 : decode cX2_firstRest 25 = .ok (.ireturn, 1) := by decide +kernel
theorem dX2_firstRest_26 : decode cX2_firstRest 26 = .ok (.iinc 1 1, 3) := by decide +kernel
theorem dX2_firstRest_29 : decode cX2_firstRest 29 = .ok (.goto (-27), 3) := by decide +kernel
theorem dX2_firstRest_32 : decode cX2_firstRest 32 = .ok (.bipush (-2), 2) := by decide +kernel
theorem dX2_firstRest_34 : decode cX2_firstRest 34 = .ok (.ireturn, 1) := by decide +kernel
theorem dX3_init_0 : decode cX3_init 0 = .ok (.aload_n 0, 1) := by decide +kernel
theorem dX3_init_1 : decode cX3_init 1 = .ok (.invokespecial 1, 3) := by decide +kernel
theorem dX3_init_4 : decode cX3_init 4 = .ok (.aload_n 0, 1) := by decide +kernel
theorem dX3_init_5 : decode cX3_init 5 = .ok (.bipush 16, 2) := by decide +kernel
theorem dX3_init_7 : decode cX3_init 7 = .ok (.newarray .int, 2) := by decide +kernel
theorem dX3_init_9 : decode cX3_init 9 = .ok (.putfield 9, 3) := by decide +kernel
theorem dX3_init_12 : decode cX3_init 12 = .ok (.aload_n 0, 1) := by decide +kernel
theorem dX3_init_13 : decode cX3_init 13 = .ok (.bipush 16, 2) := by decide +kernel
theorem dX3_init_15 : decode cX3_init 15 = .ok (.newarray .int, 2) := by decide +kernel
theorem dX3_init_17 : decode cX3_init 17 = .ok (.putfield 13, 3) := by decide +kernel
theorem dX3_init_20 : decode cX3_init 20 = .ok (.aload_n 0, 1) := by decide +kernel
theorem dX3_init_21 : decode cX3_init 21 = .ok (.bipush 16, 2) := by decide +kernel
theorem dX3_init_23 : decode cX3_init 23 = .ok (.newarray .int, 2) := by decide +kernel
theorem dX3_init_25 : decode cX3_init 25 = .ok (.putfield 16, 3) := by decide +kernel
theorem dX3_init_28 : decode cX3_init 28 = .ok (.return_, 1) := by decide +kernel
theorem dX3_forget_0 : decode cX3_forget 0 = .ok (.aload_n 0, 1) := by decide +kernel
theorem dX3_forget_1 : decode cX3_forget 1 = .ok (.iconst 0, 1) := by decide +kernel
theorem dX3_forget_2 : decode cX3_forget 2 = .ok (.putfield 19, 3) := by decide +kernel
theorem dX3_forget_5 : decode cX3_forget 5 = .ok (.return_, 1) := by decide +kernel
theorem dX3_keep_0 : decode cX3_keep 0 = .ok (.aload_n 0, 1) := by decide +kernel
theorem dX3_keep_1 : decode cX3_keep 1 = .ok (.aload_n 0, 1) := by decide +kernel
theorem dX3_keep_2 : decode cX3_keep 2 = .ok (.getfield 23, 3) := by decide +kernel
theorem dX3_keep_5 : decode cX3_keep 5 = .ok (.iconst 1, 1) := by decide +kernel
theorem dX3_keep_6 : decode cX3_keep 6 = .ok (.iadd, 1) := by decide +kernel
theorem dX3_keep_7 : decode cX3_keep 7 = .ok (.bipush 16, 2) := by decide +kernel
theorem dX3_keep_9 : decode cX3_keep 9 = .ok (.irem, 1) := by decide +kernel
theorem dX3_keep_10 : decode cX3_keep 10 = .ok (.putfield 23, 3) := by decide +kernel
theorem dX3_keep_13 : decode cX3_keep 13 = .ok (.aload_n 0, 1) := by decide +kernel
theorem dX3_keep_14 : decode cX3_keep 14 = .ok (.getfield 9, 3) := by decide +kernel
theorem dX3_keep_17 : decode cX3_keep 17 = .ok (.aload_n 0, 1) := by decide +kernel
theorem dX3_keep_18 : decode cX3_keep 18 = .ok (.getfield 23, 3) := by decide +kernel
theorem dX3_keep_21 : decode cX3_keep 21 = .ok (.iload_n 1, 1) := by decide +kernel
theorem dX3_keep_22 : decode cX3_keep 22 = .ok (.iastore, 1) := by decide +kernel
theorem dX3_keep_23 : decode cX3_keep 23 = .ok (.aload_n 0, 1) := by decide +kernel
theorem dX3_keep_24 : decode cX3_keep 24 = .ok (.getfield 13, 3) := by decide +kernel
theorem dX3_keep_27 : decode cX3_keep 27 = .ok (.aload_n 0, 1) := by decide +kernel
theorem dX3_keep_28 : decode cX3_keep 28 = .ok (.getfield 23, 3) := by decide +kernel
theorem dX3_keep_31 : decode cX3_keep 31 = .ok (.iload_n 2, 1) := by decide +kernel
theorem dX3_keep_32 : decode cX3_keep 32 = .ok (.iastore, 1) := by decide +kernel
theorem dX3_keep_33 : decode cX3_keep 33 = .ok (.aload_n 0, 1) := by decide +kernel
theorem dX3_keep_34 : decode cX3_keep 34 = .ok (.getfield 16, 3) := by decide +kernel
theorem dX3_keep_37 : decode cX3_keep 37 = .ok (.aload_n 0, 1) := by decide +kernel
theorem dX3_keep_38 : decode cX3_keep 38 = .ok (.getfield 23, 3) := by decide +kernel
theorem dX3_keep_41 : decode cX3_keep 41 = .ok (.iload_n 3, 1) := by decide +kernel
theorem dX3_keep_42 : decode cX3_keep 42 = .ok (.iastore, 1) := by decide +kernel
theorem dX3_keep_43 : decode cX3_keep 43 = .ok (.aload_n 0, 1) := by decide +kernel
theorem dX3_keep_44 : decode cX3_keep 44 = .ok (.aload_n 0, 1) := by decide +kernel
theorem dX3_keep_45 : decode cX3_keep 45 = .ok (.getfield 19, 3) := by decide +kernel
theorem dX3_keep_48 : decode cX3_keep 48 = .ok (.iconst 1, 1) := by decide +kernel
theorem dX3_keep_49 : decode cX3_keep 49 = .ok (.iadd, 1) := by decide +kernel
theorem dX3_keep_50 : decode cX3_keep 50 = .ok (.bipush 16, 2) := by decide +kernel
theorem dX3_keep_52 : decode cX3_keep 52 = .ok (.invokestatic 26, 3) := by decide +kernel
theorem dX3_keep_55 : decode cX3_keep 55 = .ok (.putfield 19, 3) := by decide +kernel
theorem dX3_keep_58 : decode cX3_keep 58 = .ok (.return_, 1) := by decide +kernel
theorem dX3_takeBack_0 : decode cX3_takeBack 0 = .ok (.aload_n 0, 1) := by decide +kernel
theorem dX3_takeBack_1 : decode cX3_takeBack 1 = .ok (.getfield 19, 3) := by decide +kernel
theorem dX3_takeBack_4 : decode cX3_takeBack 4 = .ok (.ifCond .ne 5, 3) := by decide +kernel
theorem dX3_takeBack_7 : decode cX3_takeBack 7 = .ok (.iconst 0, 1) := by decide +kernel
theorem dX3_takeBack_8 : decode cX3_takeBack 8 = .ok (.ireturn, 1) := by decide +kernel
theorem dX3_takeBack_9 : decode cX3_takeBack 9 = .ok (.aload_n 0, 1) := by decide +kernel
theorem dX3_takeBack_10 : decode cX3_takeBack 10 = .ok (.getfield 13, 3) := by decide +kernel
theorem dX3_takeBack_13 : decode cX3_takeBack 13 = .ok (.aload_n 0, 1) := by decide +kernel
theorem dX3_takeBack_14 : decode cX3_takeBack 14 = .ok (.getfield 23, 3) := by decide +kernel
theorem dX3_takeBack_17 : decode cX3_takeBack 17 = .ok (.iaload, 1) := by decide +kernel
theorem dX3_takeBack_18 : decode cX3_takeBack 18 = .ok (.istore_n 2, 1) := by decide +kernel
theorem dX3_takeBack_19 : decode cX3_takeBack 19 = .ok (.aload_n 0, 1) := by decide +kernel
theorem dX3_takeBack_20 : decode cX3_takeBack 20 = .ok (.getfield 9, 3) := by decide +kernel
theorem dX3_takeBack_23 : decode cX3_takeBack 23 = .ok (.aload_n 0, 1) := by decide +kernel
theorem dX3_takeBack_24 : decode cX3_takeBack 24 = .ok (.getfield 23, 3) := by decide +kernel
theorem dX3_takeBack_27 : decode cX3_takeBack 27 = .ok (.iaload, 1) := by decide +kernel
theorem dX3_takeBack_28 : decode cX3_takeBack 28 = .ok (.ifCond .ne 30, 3) := by decide +kernel
theorem dX3_takeBack_31 : decode cX3_takeBack 31 = .ok (.aload_n 1, 1) := by decide +kernel
theorem dX3_takeBack_32 : decode cX3_takeBack 32 = .ok (.iload_n 2, 1) := by decide +kernel
theorem dX3_takeBack_33 : decode cX3_takeBack 33 = .ok (.aload_n 0, 1) := by decide +kernel
theorem dX3_takeBack_34 : decode cX3_takeBack 34 = .ok (.getfield 16, 3) := by decide +kernel
theorem dX3_takeBack_37 : decode cX3_takeBack 37 = .ok (.aload_n 0, 1) := by decide +kernel
theorem dX3_takeBack_38 : decode cX3_takeBack 38 = .ok (.getfield 23, 3) := by decide +kernel
theorem dX3_takeBack_41 : decode cX3_takeBack 41 = .ok (.iaload, 1) := by decide +kernel
theorem dX3_takeBack_42 : decode cX3_takeBack 42 = .ok (.invokevirtual 32, 3) := by decide +kernel
theorem dX3_takeBack_45 : decode cX3_takeBack 45 = .ok (.aload_n 1, 1) := by decide +kernel
theorem dX3_takeBack_46 : decode cX3_takeBack 46 = .ok (.dup, 1) := by decide +kernel
theorem dX3_takeBack_47 : decode cX3_takeBack 47 = .ok (.getfield 38, 3) := by decide +kernel
theorem dX3_takeBack_50 : decode cX3_takeBack 50 = .ok (.iconst 1, 1) := by decide +kernel
theorem dX3_takeBack_51 : decode cX3_takeBack 51 = .ok (.isub, 1) := by decide +kernel
theorem dX3_takeBack_52 : decode cX3_takeBack 52 = .ok (.putfield 38, 3) := by decide +kernel
theorem dX3_takeBack_55 : decode cX3_takeBack 55 = .ok (.goto 39, 3) := by decide +kernel
theorem dX3_takeBack_58 : decode cX3_takeBack 58 = .ok (.aload_n 0, 1) := by decide +kernel
theorem dX3_takeBack_59 : decode cX3_takeBack 59 = .ok (.getfield 9, 3) := by decide +kernel
theorem dX3_takeBack_62 : decode cX3_takeBack 62 = .ok (.aload_n 0, 1) := by decide +kernel
theorem dX3_takeBack_63 : decode cX3_takeBack 63 = .ok (.getfield 23, 3) := by decide +kernel
theorem dX3_takeBack_66 : decode cX3_takeBack 66 = .ok (.iaload, 1) := by decide +kernel
theorem dX3_takeBack_67 : decode cX3_takeBack 67 = .ok (.iconst 1, 1) := by decide +kernel
theorem dX3_takeBack_68 : decode cX3_takeBack 68 = .ok (.if_icmp .ne 21, 3) := by decide +kernel
theorem dX3_takeBack_71 : decode cX3_takeBack 71 = .ok (.aload_n 1, 1) := by decide +kernel
theorem dX3_takeBack_72 : decode cX3_takeBack 72 = .ok (.getfield 41, 3) := by decide +kernel
theorem dX3_takeBack_75 : decode cX3_takeBack 75 = .ok (.iload_n 2, 1) := by decide +kernel
theorem dX3_takeBack_76 : decode cX3_takeBack 76 = .ok (.aload_n 0, 1) := by decide +kernel
theorem dX3_takeBack_77 : decode cX3_takeBack 77 = .ok (.getfield 16, 3) := by decide +kernel
theorem dX3_takeBack_80 : decode cX3_takeBack 80 = .ok (.aload_n 0, 1) := by decide +kernel
theorem dX3_takeBack_81 : decode cX3_takeBack 81 = .ok (.getfield 23, 3) := by decide +kernel
theorem dX3_takeBack_84 : decode cX3_takeBack 84 = .ok (.iaload, 1) := by decide +kernel
theorem dX3_takeBack_85 : decode cX3_takeBack 85 = .ok (.iastore, 1) := by decide +kernel
theorem dX3_takeBack_86 : decode cX3_takeBack 86 = .ok (.goto 8, 3) := by decide +kernel
theorem dX3_takeBack_89 : decode cX3_takeBack 89 = .ok (.aload_n 1, 1) := by decide +kernel
theorem dX3_takeBack_90 : decode cX3_takeBack 90 = .ok (.iload_n 2, 1) := by decide +kernel
theorem dX3_takeBack_91 : decode cX3_takeBack 91 = .ok (.invokevirtual 44, 3) := by decide +kernel
theorem dX3_takeBack_94 : decode cX3_takeBack 94 = .ok (.aload_n 0, 1) := by decide +kernel
theorem dX3_takeBack_95 : decode cX3_takeBack 95 = .ok (.aload_n 0, 1) := by decide +kernel
theorem dX3_takeBack_96 : decode cX3_takeBack 96 = .ok (.getfield 23, 3) := by decide +kernel
theorem dX3_takeBack_99 : decode cX3_takeBack 99 = .ok (.bipush 16, 2) := by decide +kernel
theorem dX3_takeBack_101 : decode cX3_takeBack 101 = .ok (.iadd, 1) := by decide +kernel
theorem dX3_takeBack_102 : decode cX3_takeBack 102 = .ok (.iconst 1, 1) := by decide +kernel
theorem dX3_takeBack_103 : decode cX3_takeBack 103 = .ok (.isub, 1) := by decide +kernel
theorem dX3_takeBack_104 : decode cX3_takeBack 104 = .ok (.bipush 16, 2) := by decide +kernel
theorem dX3_takeBack_106 : decode cX3_takeBack 106 = .ok (.irem, 1) := by decide +kernel
theorem dX3_takeBack_107 : decode cX3_takeBack 107 = .ok (.putfield 23, 3) := by decide +kernel
theorem dX3_takeBack_110 : decode cX3_takeBack 110 = .ok (.aload_n 0, 1) := by decide +kernel
theorem dX3_takeBack_111 : decode cX3_takeBack 111 = .ok (.dup, 1) := by decide +kernel
theorem dX3_takeBack_112 : decode cX3_takeBack 112 = .ok (.getfield 19, 3) := by decide +kernel
theorem dX3_takeBack_115 : decode cX3_takeBack 115 = .ok (.iconst 1, 1) := by decide +kernel
theorem dX3_takeBack_116 : decode cX3_takeBack 116 = .ok (.isub, 1) := by decide +kernel
theorem dX3_takeBack_117 : decode cX3_takeBack 117 = .ok (.putfield 19, 3) := by decide +kernel
theorem dX3_takeBack_120 : decode cX3_takeBack 120 = .ok (.iconst 1, 1) := by decide +kernel
theorem dX3_takeBack_121 : decode cX3_takeBack 121 = .ok (.ireturn, 1) := by decide +kernel
theorem dX4_init_0 : decode cX4_init 0 = .ok (.aload_n 0, 1) := by decide +kernel
theorem dX4_init_1 : decode cX4_init 1 = .ok (.invokespecial 3, 3) := by decide +kernel
theorem dX4_init_4 : decode cX4_init 4 = .ok (.aload_n 0, 1) := by decide +kernel
theorem dX4_init_5 : decode cX4_init 5 = .ok (.new 9, 3) := by decide +kernel
theorem dX4_init_8 : decode cX4_init 8 = .ok (.dup, 1) := by decide +kernel
theorem dX4_init_9 : decode cX4_init 9 = .ok (.invokespecial 11, 3) := by decide +kernel
theorem dX4_init_12 : decode cX4_init 12 = .ok (.putfield 12, 3) := by decide +kernel
theorem dX4_init_15 : decode cX4_init 15 = .ok (.aload_n 0, 1) := by decide +kernel
theorem dX4_init_16 : decode cX4_init 16 = .ok (.bipush 28, 2) := by decide +kernel
theorem dX4_init_18 : decode cX4_init 18 = .ok (.newarray .long, 2) := by decide +kernel
theorem dX4_init_20 : decode cX4_init 20 = .ok (.putfield 18, 3) := by decide +kernel
theorem dX4_init_23 : decode cX4_init 23 = .ok (.aload_n 0, 1) := by decide +kernel
theorem dX4_init_24 : decode cX4_init 24 = .ok (.bipush 28, 2) := by decide +kernel
theorem dX4_init_26 : decode cX4_init 26 = .ok (.newarray .int, 2) := by decide +kernel
theorem dX4_init_28 : decode cX4_init 28 = .ok (.putfield 22, 3) := by decide +kernel
theorem dX4_init_31 : decode cX4_init 31 = .ok (.aload_n 0, 1) := by decide +kernel
theorem dX4_init_32 : decode cX4_init 32 = .ok (.bipush 28, 2) := by decide +kernel
theorem dX4_init_34 : decode cX4_init 34 = .ok (.newarray .int, 2) := by decide +kernel
theorem dX4_init_36 : decode cX4_init 36 = .ok (.putfield 26, 3) := by decide +kernel
theorem dX4_init_39 : decode cX4_init 39 = .ok (.aload_n 0, 1) := by decide +kernel
theorem dX4_init_40 : decode cX4_init 40 = .ok (.new 29, 3) := by decide +kernel
theorem dX4_init_43 : decode cX4_init 43 = .ok (.dup, 1) := by decide +kernel
theorem dX4_init_44 : decode cX4_init 44 = .ok (.new 31, 3) := by decide +kernel
theorem dX4_init_47 : decode cX4_init 47 = .ok (.dup, 1) := by decide +kernel
theorem dX4_init_48 : decode cX4_init 48 = .ok (.invokespecial 33, 3) := by decide +kernel
theorem dX4_init_51 : decode cX4_init 51 = .ok (.invokespecial 34, 3) := by decide +kernel
theorem dX4_init_54 : decode cX4_init 54 = .ok (.putfield 37, 3) := by decide +kernel
theorem dX4_init_57 : decode cX4_init 57 = .ok (.iconst 0, 1) := by decide +kernel
theorem dX4_init_58 : decode cX4_init 58 = .ok (.istore_n 1, 1) := by decide +kernel
theorem dX4_init_59 : decode cX4_init 59 = .ok (.iload_n 1, 1) := by decide +kernel
theorem dX4_init_60 : decode cX4_init 60 = .ok (.bipush 8, 2) := by decide +kernel
theorem dX4_init_62 : decode cX4_init 62 = .ok (.if_icmp .ge 22, 3) := by decide +kernel
theorem dX4_init_65 : decode cX4_init 65 = .ok (.aload_n 0, 1) := by decide +kernel
theorem dX4_init_66 : decode cX4_init 66 = .ok (.getfield 18, 3) := by decide +kernel
theorem dX4_init_69 : decode cX4_init 69 = .ok (.iload_n 1, 1) := by decide +kernel
theorem dX4_init_70 : decode cX4_init 70 = .ok (.iload_n 1, 1) := by decide +kernel
theorem dX4_init_71 : decode cX4_init 71 = .ok (.invokestatic 41, 3) := by decide +kernel
theorem dX4_init_74 : decode cX4_init 74 = .ok (.invokestatic 45, 3) := by decide +kernel
theorem dX4_init_77 : decode cX4_init 77 = .ok (.lastore, 1) := by decide +kernel
theorem dX4_init_78 : decode cX4_init 78 = .ok (.iinc 1 1, 3) := by decide +kernel
theorem dX4_init_81 : decode cX4_init 81 = .ok (.goto (-22), 3) := by decide +kernel
theorem dX4_init_84 : decode cX4_init 84 = .ok (.return_, 1) := by decide +kernel
theorem dX4_exchange_0 : decode cX4_exchange 0 = .ok (.aload_n 0, 1) := by decide +kernel
theorem dX4_exchange_1 : decode cX4_exchange 1 = .ok (.getfield 37, 3) := by decide +kernel
theorem dX4_exchange_4 : decode cX4_exchange 4 = .ok (.astore_n 2, 1) := by decide +kernel
theorem dX4_exchange_5 : decode cX4_exchange 5 = .ok (.aload_n 0, 1) := by decide +kernel
theorem dX4_exchange_6 : decode cX4_exchange 6 = .ok (.aload_n 1, 1) := by decide +kernel
theorem dX4_exchange_7 : decode cX4_exchange 7 = .ok (.putfield 37, 3) := by decide +kernel
theorem dX4_exchange_10 : decode cX4_exchange 10 = .ok (.aload_n 2, 1) := by decide +kernel
theorem dX4_exchange_11 : decode cX4_exchange 11 = .ok (.areturn, 1) := by decide +kernel
theorem dX4_read_0 : decode cX4_read 0 = .ok (.aload_n 0, 1) := by decide +kernel
theorem dX4_read_1 : decode cX4_read 1 = .ok (.getfield 37, 3) := by decide +kernel
theorem dX4_read_4 : decode cX4_read 4 = .ok (.getfield 49, 3) := by decide +kernel
theorem dX4_read_7 : decode cX4_read 7 = .ok (.invokevirtual 53, 3) := by decide +kernel
theorem dX4_read_10 : decode cX4_read 10 = .ok (.aload_n 0, 1) := by decide +kernel
theorem dX4_read_11 : decode cX4_read 11 = .ok (.getfield 37, 3) := by decide +kernel
theorem dX4_read_14 : decode cX4_read 14 = .ok (.iconst 0, 1) := by decide +kernel
theorem dX4_read_15 : decode cX4_read 15 = .ok (.putfield 56, 3) := by decide +kernel
theorem dX4_read_18 : decode cX4_read 18 = .ok (.aload_n 0, 1) := by decide +kernel
theorem dX4_read_19 : decode cX4_read 19 = .ok (.getfield 37, 3) := by decide +kernel
theorem dX4_read_22 : decode cX4_read 22 = .ok (.iconst 0, 1) := by decide +kernel
theorem dX4_read_23 : decode cX4_read 23 = .ok (.putfield 60, 3) := by decide +kernel
theorem dX4_read_26 : decode cX4_read 26 = .ok (.aload_n 0, 1) := by decide +kernel
theorem dX4_read_27 : decode cX4_read 27 = .ok (.bipush 8, 2) := by decide +kernel
theorem dX4_read_29 : decode cX4_read 29 = .ok (.putfield 63, 3) := by decide +kernel
theorem dX4_read_32 : decode cX4_read 32 = .ok (.aload_n 0, 1) := by decide +kernel
theorem dX4_read_33 : decode cX4_read 33 = .ok (.iconst 0, 1) := by decide +kernel
theorem dX4_read_34 : decode cX4_read 34 = .ok (.putfield 66, 3) := by decide +kernel
theorem dX4_read_37 : decode cX4_read 37 = .ok (.aload_n 0, 1) := by decide +kernel
theorem dX4_read_38 : decode cX4_read 38 = .ok (.iconst (-1), 1) := by decide +kernel
theorem dX4_read_39 : decode cX4_read 39 = .ok (.putfield 69, 3) := by decide +kernel
theorem dX4_read_42 : decode cX4_read 42 = .ok (.aload_n 0, 1) := by decide +kernel
theorem dX4_read_43 : decode cX4_read 43 = .ok (.getfield 12, 3) := by decide +kernel
theorem dX4_read_46 : decode cX4_read 46 = .ok (.iload_n 1, 1) := by decide +kernel
theorem dX4_read_47 : decode cX4_read 47 = .ok (.invokevirtual 72, 3) := by decide +kernel
theorem dX4_read_50 : decode cX4_read 50 = .ok (.iconst 0, 1) := by decide +kernel
theorem dX4_read_51 : decode cX4_read 51 = .ok (.istore_n 2, 1) := by decide +kernel
theorem dX4_read_52 : decode cX4_read 52 = .ok (.iload_n 2, 1) := by decide +kernel
theorem dX4_read_53 : decode cX4_read 53 = .ok (.sipush 900, 3) := by decide +kernel
theorem dX4_read_56 : decode cX4_read 56 = .ok (.if_icmp .gt 108, 3) := by decide +kernel
theorem dX4_read_59 : decode cX4_read 59 = .ok (.aload_n 0, 1) := by decide +kernel
theorem dX4_read_60 : decode cX4_read 60 = .ok (.invokevirtual 76, 3) := by decide +kernel
theorem dX4_read_63 : decode cX4_read 63 = .ok (.istore_n 3, 1) := by decide +kernel
theorem dX4_read_64 : decode cX4_read 64 = .ok (.iload_n 3, 1) := by decide +kernel
theorem dX4_read_65 : decode cX4_read 65 = .ok (.ifCond .lt 11, 3) := by decide +kernel
theorem dX4_read_68 : decode cX4_read 68 = .ok (.aload_n 0, 1) := by decide +kernel
theorem dX4_read_69 : decode cX4_read 69 = .ok (.iload_n 3, 1) := by decide +kernel
theorem dX4_read_70 : decode cX4_read 70 = .ok (.invokevirtual 80, 3) := by decide +kernel
theorem dX4_read_73 : decode cX4_read 73 = .ok (.ifCond .ne 5, 3) := by decide +kernel
theorem dX4_read_76 : decode cX4_read 76 = .ok (.iconst 0, 1) := by decide +kernel
theorem dX4_read_77 : decode cX4_read 77 = .ok (.ireturn, 1) := by decide +kernel
theorem dX4_read_78 : decode cX4_read 78 = .ok (.aload_n 0, 1) := by decide +kernel
theorem dX4_read_79 : decode cX4_read 79 = .ok (.getfield 37, 3) := by decide +kernel
theorem dX4_read_82 : decode cX4_read 82 = .ok (.getfield 49, 3) := by decide +kernel
theorem dX4_read_85 : decode cX4_read 85 = .ok (.getfield 84, 3) := by decide +kernel
theorem dX4_read_88 : decode cX4_read 88 = .ok (.iload_n 3, 1) := by decide +kernel
theorem dX4_read_89 : decode cX4_read 89 = .ok (.dup2, 1) := by decide +kernel
theorem dX4_read_90 : decode cX4_read 90 = .ok (.iaload, 1) := by decide +kernel
theorem dX4_read_91 : decode cX4_read 91 = .ok (.iconst 1, 1) := by decide +kernel
theorem dX4_read_92 : decode cX4_read 92 = .ok (.iadd, 1) := by decide +kernel
theorem dX4_read_93 : decode cX4_read 93 = .ok (.iastore, 1) := by decide +kernel
theorem dX4_read_94 : decode cX4_read 94 = .ok (.aload_n 0, 1) := by decide +kernel
theorem dX4_read_95 : decode cX4_read 95 = .ok (.getfield 12, 3) := by decide +kernel
theorem dX4_read_98 : decode cX4_read 98 = .ok (.getfield 87, 3) := by decide +kernel
theorem dX4_read_101 : decode cX4_read 101 = .ok (.ifCond .ne 33, 3) := by decide +kernel
theorem dX4_read_104 : decode cX4_read 104 = .ok (.aload_n 0, 1) := by decide +kernel
theorem dX4_read_105 : decode cX4_read 105 = .ok (.getfield 37, 3) := by decide +kernel
theorem dX4_read_108 : decode cX4_read 108 = .ok (.getfield 49, 3) := by decide +kernel
theorem dX4_read_111 : decode cX4_read 111 = .ok (.getfield 84, 3) := by decide +kernel
theorem dX4_read_114 : decode cX4_read 114 = .ok (.iconst 1, 1) := by decide +kernel
theorem dX4_read_115 : decode cX4_read 115 = .ok (.iaload, 1) := by decide +kernel
theorem dX4_read_116 : decode cX4_read 116 = .ok (.ifCond .gt 12, 3) := by decide +kernel
theorem dX4_read_119 : decode cX4_read 119 = .ok (.aload_n 0, 1) := by decide +kernel
theorem dX4_read_120 : decode cX4_read 120 = .ok (.bipush 6, 2) := by decide +kernel
theorem dX4_read_122 : decode cX4_read 122 = .ok (.invokevirtual 90, 3) := by decide +kernel
theorem dX4_read_125 : decode cX4_read 125 = .ok (.ifCond .eq 7, 3) := by decide +kernel
theorem dX4_read_128 : decode cX4_read 128 = .ok (.iconst 1, 1) := by decide +kernel
theorem dX4_read_129 : decode cX4_read 129 = .ok (.goto 4, 3) := by decide +kernel
theorem dX4_read_132 : decode cX4_read 132 = .ok (.iconst 0, 1) := by decide +kernel
theorem dX4_read_133 : decode cX4_read 133 = .ok (.ireturn, 1) := by decide +kernel
theorem dX4_read_134 : decode cX4_read 134 = .ok (.aload_n 0, 1) := by decide +kernel
theorem dX4_read_135 : decode cX4_read 135 = .ok (.getfield 12, 3) := by decide +kernel
theorem dX4_read_138 : decode cX4_read 138 = .ok (.getfield 87, 3) := by decide +kernel
theorem dX4_read_141 : decode cX4_read 141 = .ok (.iconst 3, 1) := by decide +kernel
theorem dX4_read_142 : decode cX4_read 142 = .ok (.if_icmp .eq 9, 3) := by decide +kernel
theorem dX4_read_145 : decode cX4_read 145 = .ok (.aload_n 0, 1) := by decide +kernel
theorem dX4_read_146 : decode cX4_read 146 = .ok (.iconst 1, 1) := by decide +kernel
theorem dX4_read_147 : decode cX4_read 147 = .ok (.invokevirtual 90, 3) := by decide +kernel
theorem dX4_read_150 : decode cX4_read 150 = .ok (.ireturn, 1) := by decide +kernel
theorem dX4_read_151 : decode cX4_read 151 = .ok (.aload_n 0, 1) := by decide +kernel
theorem dX4_read_152 : decode cX4_read 152 = .ok (.getfield 12, 3) := by decide +kernel
theorem dX4_read_155 : decode cX4_read 155 = .ok (.invokevirtual 93, 3) := by decide +kernel
theorem dX4_read_158 : decode cX4_read 158 = .ok (.iinc 2 1, 3) := by decide +kernel
theorem dX4_read_161 : decode cX4_read 161 = .ok (.goto (-109), 3) := by decide +kernel
theorem dX4_read_164 : decode cX4_read 164 = .ok (.aload_n 0, 1) := by decide +kernel
theorem dX4_read_165 : decode cX4_read 165 = .ok (.iconst 1, 1) := by decide +kernel
theorem dX4_read_166 : decode cX4_read 166 = .ok (.invokevirtual 90, 3) := by decide +kernel
theorem dX4_read_169 : decode cX4_read 169 = .ok (.ireturn, 1) := by decide +kernel
theorem dX4_fail_0 : decode cX4_fail 0 = .ok (.aload_n 0, 1) := by decide +kernel
theorem dX4_fail_1 : decode cX4_fail 1 = .ok (.iload_n 1, 1) := by decide +kernel
theorem dX4_fail_2 : decode cX4_fail 2 = .ok (.putfield 66, 3) := by decide +kernel
theorem dX4_fail_5 : decode cX4_fail 5 = .ok (.aload_n 0, 1) := by decide +kernel
theorem dX4_fail_6 : decode cX4_fail 6 = .ok (.aload_n 0, 1) := by decide +kernel
theorem dX4_fail_7 : decode cX4_fail 7 = .ok (.getfield 12, 3) := by decide +kernel
theorem dX4_fail_10 : decode cX4_fail 10 = .ok (.getfield 96, 3) := by decide +kernel
theorem dX4_fail_13 : decode cX4_fail 13 = .ok (.putfield 69, 3) := by decide +kernel
theorem dX4_fail_16 : decode cX4_fail 16 = .ok (.iconst 0, 1) := by decide +kernel
theorem dX4_fail_17 : decode cX4_fail 17 = .ok (.ireturn, 1) := by decide +kernel
theorem dX4_failed_0 : decode cX4_failed 0 = .ok (.aload_n 0, 1) := by decide +kernel
theorem dX4_failed_1 : decode cX4_failed 1 = .ok (.iload_n 1, 1) := by decide +kernel
theorem dX4_failed_2 : decode cX4_failed 2 = .ok (.invokevirtual 90, 3) := by decide +kernel
theorem dX4_failed_5 : decode cX4_failed 5 = .ok (.pop, 1) := by decide +kernel
theorem dX4_failed_6 : decode cX4_failed 6 = .ok (.iconst (-1), 1) := by decide +kernel
theorem dX4_failed_7 : decode cX4_failed 7 = .ok (.ireturn, 1) := by decide +kernel
theorem dX4_readLineWord_0 : decode cX4_readLineWord 0 = .ok (.aload_n 0, 1) := by decide +kernel
theorem dX4_readLineWord_1 : decode cX4_readLineWord 1 = .ok (.getfield 37, 3) := by decide +kernel
theorem dX4_readLineWord_4 : decode cX4_readLineWord 4 = .ok (.getfield 49, 3) := by decide +kernel
theorem dX4_readLineWord_7 : decode cX4_readLineWord 7 = .ok (.getfield 84, 3) := by decide +kernel
theorem dX4_readLineWord_10 : decode cX4_readLineWord 10 = .ok (.astore_n 1, 1) := by decide +kernel
theorem dX4_readLineWord_11 : decode cX4_readLineWord 11 = .ok (.aload_n 0, 1) := by decide +kernel
theorem dX4_readLineWord_12 : decode cX4_readLineWord 12 = .ok (.invokevirtual 99, 3) := by decide +kernel
theorem dX4_readLineWord_15 : decode cX4_readLineWord 15 = .ok (.istore_n 2, 1) := by decide +kernel
theorem dX4_readLineWord_16 : decode cX4_readLineWord 16 = .ok (.iload_n 2, 1) := by decide +kernel
theorem dX4_readLineWord_17 : decode cX4_readLineWord 17 = .ok (.ifCond .lt 9, 3) := by decide +kernel
theorem dX4_readLineWord_20 : decode cX4_readLineWord 20 = .ok (.iload_n 2, 1) := by decide +kernel
theorem dX4_readLineWord_21 : decode cX4_readLineWord 21 = .ok (.bipush 8, 2) := by decide +kernel
theorem dX4_readLineWord_23 : decode cX4_readLineWord 23 = .ok (.if_icmp .lt 9, 3) := by decide +kernel
theorem dX4_readLineWord_26 : decode cX4_readLineWord 26 = .ok (.aload_n 0, 1) := by decide +kernel
theorem dX4_readLineWord_27 : decode cX4_readLineWord 27 = .ok (.iconst 1, 1) := by decide +kernel
theorem dX4_readLineWord_28 : decode cX4_readLineWord 28 = .ok (.invokevirtual 102, 3) := by decide +kernel
theorem dX4_readLineWord_31 : decode cX4_readLineWord 31 = .ok (.ireturn, 1) := by decide +kernel
theorem dX4_readLineWord_32 : decode cX4_readLineWord 32 = .ok (.iload_n 2, 1) := by decide +kernel
theorem dX4_readLineWord_33 : decode cX4_readLineWord 33 = .ok (.ifCond .eq 16, 3) := by decide +kernel
theorem dX4_readLineWord_36 : decode cX4_readLineWord 36 = .ok (.aload_n 1, 1) := by decide +kernel
theorem dX4_readLineWord_37 : decode cX4_readLineWord 37 = .ok (.iconst 0, 1) := by decide +kernel
theorem dX4_readLineWord_38 : decode cX4_readLineWord 38 = .ok (.iaload, 1) := by decide +kernel
theorem dX4_readLineWord_39 : decode cX4_readLineWord 39 = .ok (.ifCond .ne 10, 3) := by decide +kernel
theorem dX4_readLineWord_42 : decode cX4_readLineWord 42 = .ok (.aload_n 0, 1) := by decide +kernel
theorem dX4_readLineWord_43 : decode cX4_readLineWord 43 = .ok (.bipush 6, 2) := by decide +kernel
theorem dX4_readLineWord_45 : decode cX4_readLineWord 45 = .ok (.invokevirtual 102, 3) := by decide +kernel
theorem dX4_readLineWord_48 : decode cX4_readLineWord 48 = .ok (.ireturn, 1) := by decide +kernel
theorem dX4_readLineWord_49 : decode cX4_readLineWord 49 = .ok (.aload_n 1, 1) := by decide +kernel
theorem dX4_readLineWord_50 : decode cX4_readLineWord 50 = .ok (.iload_n 2, 1) := by decide +kernel
theorem dX4_readLineWord_51 : decode cX4_readLineWord 51 = .ok (.iaload, 1) := by decide +kernel
theorem dX4_readLineWord_52 : decode cX4_readLineWord 52 = .ok (.getstatic 106, 3) := by decide +kernel
theorem dX4_readLineWord_55 : decode cX4_readLineWord 55 = .ok (.iload_n 2, 1) := by decide +kernel
theorem dX4_readLineWord_56 : decode cX4_readLineWord 56 = .ok (.iaload, 1) := by decide +kernel
theorem dX4_readLineWord_57 : decode cX4_readLineWord 57 = .ok (.if_icmp .lt 17, 3) := by decide +kernel
theorem dX4_readLineWord_60 : decode cX4_readLineWord 60 = .ok (.aload_n 0, 1) := by decide +kernel
theorem dX4_readLineWord_61 : decode cX4_readLineWord 61 = .ok (.iload_n 2, 1) := by decide +kernel
theorem dX4_readLineWord_62 : decode cX4_readLineWord 62 = .ok (.ifCond .ne 7, 3) := by decide +kernel
theorem dX4_readLineWord_65 : decode cX4_readLineWord 65 = .ok (.iconst 3, 1) := by decide +kernel
theorem dX4_readLineWord_66 : decode cX4_readLineWord 66 = .ok (.goto 4, 3) := by decide +kernel
theorem dX4_readLineWord_69 : decode cX4_readLineWord 69 = .ok (.iconst 5, 1) := by decide +kernel
theorem dX4_readLineWord_70 : decode cX4_readLineWord 70 = .ok (.invokevirtual 102, 3) := by decide +kernel
theorem dX4_readLineWord_73 : decode cX4_readLineWord 73 = .ok (.ireturn, 1) := by decide +kernel
theorem dX4_readLineWord_74 : decode cX4_readLineWord 74 = .ok (.aload_n 0, 1) := by decide +kernel
theorem dX4_readLineWord_75 : decode cX4_readLineWord 75 = .ok (.getfield 12, 3) := by decide +kernel
theorem dX4_readLineWord_78 : decode cX4_readLineWord 78 = .ok (.invokevirtual 93, 3) := by decide +kernel
theorem dX4_readLineWord_81 : decode cX4_readLineWord 81 = .ok (.iload_n 2, 1) := by decide +kernel
theorem dX4_readLineWord_82 : decode cX4_readLineWord 82 = .ok (.ireturn, 1) := by decide +kernel
theorem dX4_readRest_0 : decode cX4_readRest 0 = .ok (.aload_n 0, 1) := by decide +kernel
theorem dX4_readRest_1 : decode cX4_readRest 1 = .ok (.getfield 37, 3) := by decide +kernel
theorem dX4_readRest_4 : decode cX4_readRest 4 = .ok (.getfield 49, 3) := by decide +kernel
theorem dX4_readRest_7 : decode cX4_readRest 7 = .ok (.getfield 84, 3) := by decide +kernel
theorem dX4_readRest_10 : decode cX4_readRest 10 = .ok (.iload_n 1, 1) := by decide +kernel
theorem dX4_readRest_11 : decode cX4_readRest 11 = .ok (.iaload, 1) := by decide +kernel
theorem dX4_readRest_12 : decode cX4_readRest 12 = .ok (.istore_n 2, 1) := by decide +kernel
theorem dX4_readRest_13 : decode cX4_readRest 13 = .ok (.iload_n 1, 1) := by decide +kernel
theorem dX4_readRest_14 : decode cX4_readRest 14 = .ok (.tableswitch 90 0 7 #[46, 51, 57, 62, 68, 74, 80, 85], 46) := by decide +kernel
theorem dX4_readRest_60 : decode cX4_readRest 60 = .ok (.aload_n 0, 1) := by decide +kernel
theorem dX4_readRest_61 : decode cX4_readRest 61 = .ok (.invokevirtual 109, 3) := by decide +kernel
theorem dX4_readRest_64 : decode cX4_readRest 64 = .ok (.ireturn, 1) := by decide +kernel
theorem dX4_readRest_65 : decode cX4_readRest 65 = .ok (.aload_n 0, 1) := by decide +kernel
theorem dX4_readRest_66 : decode cX4_readRest 66 = .ok (.iload_n 2, 1) := by decide +kernel
theorem dX4_readRest_67 : decode cX4_readRest 67 = .ok (.invokevirtual 113, 3) := by decide +kernel
theorem dX4_readRest_70 : decode cX4_readRest 70 = .ok (.ireturn, 1) := by decide +kernel
theorem dX4_readRest_71 : decode cX4_readRest 71 = .ok (.aload_n 0, 1) := by decide +kernel
theorem dX4_readRest_72 : decode cX4_readRest 72 = .ok (.invokevirtual 116, 3) := by decide +kernel
theorem dX4_readRest_75 : decode cX4_readRest 75 = .ok (.ireturn, 1) := by decide +kernel
theorem dX4_readRest_76 : decode cX4_readRest 76 = .ok (.aload_n 0, 1) := by decide +kernel
theorem dX4_readRest_77 : decode cX4_readRest 77 = .ok (.iload_n 2, 1) := by decide +kernel
theorem dX4_readRest_78 : decode cX4_readRest 78 = .ok (.invokevirtual 119, 3) := by decide +kernel
theorem dX4_readRest_81 : decode cX4_readRest 81 = .ok (.ireturn, 1) := by decide +kernel
theorem dX4_readRest_82 : decode cX4_readRest 82 = .ok (.aload_n 0, 1) := by decide +kernel
theorem dX4_readRest_83 : decode cX4_readRest 83 = .ok (.iload_n 2, 1) := by decide +kernel
theorem dX4_readRest_84 : decode cX4_readRest 84 = .ok (.invokevirtual 122, 3) := by decide +kernel
theorem dX4_readRest_87 : decode cX4_readRest 87 = .ok (.ireturn, 1) := by decide +kernel
theorem dX4_readRest_88 : decode cX4_readRest 88 = .ok (.aload_n 0, 1) := by decide +kernel
theorem dX4_readRest_89 : decode cX4_readRest 89 = .ok (.iload_n 2, 1) := by decide +kernel
theorem dX4_readRest_90 : decode cX4_readRest 90 = .ok (.invokevirtual 125, 3) := by decide +kernel
theorem dX4_readRest_93 : decode cX4_readRest 93 = .ok (.ireturn, 1) := by decide +kernel
theorem dX4_readRest_94 : decode cX4_readRest 94 = .ok (.aload_n 0, 1) := by decide +kernel
theorem dX4_readRest_95 : decode cX4_readRest 95 = .ok (.invokevirtual 128, 3) := by decide +kernel
theorem dX4_readRest_98 : decode cX4_readRest 98 = .ok (.ireturn, 1) := by decide +kernel
theorem dX4_readRest_99 : decode cX4_readRest 99 = .ok (.aload_n 0, 1) := by decide +kernel
theorem dX4_readRest_100 : decode cX4_readRest 100 = .ok (.invokevirtual 131, 3) := by decide +kernel
theorem dX4_readRest_103 : decode cX4_readRest 103 = .ok (.ireturn, 1) := by decide +kernel
theorem dX4_readRest_104 : decode cX4_readRest 104 = .ok (.aload_n 0, 1) := by decide +kernel
theorem dX4_readRest_105 : decode cX4_readRest 105 = .ok (.iconst 1, 1) := by decide +kernel
theorem dX4_readRest_106 : decode cX4_readRest 106 = .ok (.invokevirtual 90, 3) := by decide +kernel
theorem dX4_readRest_109 : decode cX4_readRest 109 = .ok (.ireturn, 1) := by decide +kernel
theorem dX4_readForest_0 : decode cX4_readForest 0 = .ok (.aload_n 0, 1) := by decide +kernel
theorem dX4_readForest_1 : decode cX4_readForest 1 = .ok (.ldc 134, 2) := by decide +kernel
theorem dX4_readForest_3 : decode cX4_readForest 3 = .ok (.invokevirtual 136, 3) := by decide +kernel
theorem dX4_readForest_6 : decode cX4_readForest 6 = .ok (.ifCond .ne 5, 3) := by decide +kernel
theorem dX4_readForest_9 : decode cX4_readForest 9 = .ok (.iconst 0, 1) := by decide +kernel
theorem dX4_readForest_10 : decode cX4_readForest 10 = .ok (.ireturn, 1) := by decide +kernel
theorem dX4_readForest_11 : decode cX4_readForest 11 = .ok (.aload_n 0, 1) := by decide +kernel
theorem dX4_readForest_12 : decode cX4_readForest 12 = .ok (.bipush 100, 2) := by decide +kernel
theorem dX4_readForest_14 : decode cX4_readForest 14 = .ok (.invokevirtual 140, 3) := by decide +kernel
theorem dX4_readForest_17 : decode cX4_readForest 17 = .ok (.istore_n 1, 1) := by decide +kernel
theorem dX4_readForest_18 : decode cX4_readForest 18 = .ok (.aload_n 0, 1) := by decide +kernel
theorem dX4_readForest_19 : decode cX4_readForest 19 = .ok (.getfield 37, 3) := by decide +kernel
theorem dX4_readForest_22 : decode cX4_readForest 22 = .ok (.getfield 49, 3) := by decide +kernel
theorem dX4_readForest_25 : decode cX4_readForest 25 = .ok (.iconst 0, 1) := by decide +kernel
theorem dX4_readForest_26 : decode cX4_readForest 26 = .ok (.iload_n 1, 1) := by decide +kernel
theorem dX4_readForest_27 : decode cX4_readForest 27 = .ok (.invokestatic 143, 3) := by decide +kernel
theorem dX4_readForest_30 : decode cX4_readForest 30 = .ok (.putfield 149, 3) := by decide +kernel
theorem dX4_readForest_33 : decode cX4_readForest 33 = .ok (.iload_n 1, 1) := by decide +kernel
theorem dX4_readForest_34 : decode cX4_readForest 34 = .ok (.ifCond .lt 7, 3) := by decide +kernel
theorem dX4_readForest_37 : decode cX4_readForest 37 = .ok (.iconst 1, 1) := by decide +kernel
theorem dX4_readForest_38 : decode cX4_readForest 38 = .ok (.goto 4, 3) := by decide +kernel
theorem dX4_readForest_41 : decode cX4_readForest 41 = .ok (.iconst 0, 1) := by decide +kernel
theorem dX4_readForest_42 : decode cX4_readForest 42 = .ok (.ireturn, 1) := by decide +kernel
theorem dX4_readPlace_0 : decode cX4_readPlace 0 = .ok (.aload_n 0, 1) := by decide +kernel
theorem dX4_readPlace_1 : decode cX4_readPlace 1 = .ok (.iconst 1, 1) := by decide +kernel
theorem dX4_readPlace_2 : decode cX4_readPlace 2 = .ok (.iload_n 1, 1) := by decide +kernel
theorem dX4_readPlace_3 : decode cX4_readPlace 3 = .ok (.invokevirtual 151, 3) := by decide +kernel
theorem dX4_readPlace_6 : decode cX4_readPlace 6 = .ok (.ifCond .ne 5, 3) := by decide +kernel
theorem dX4_readPlace_9 : decode cX4_readPlace 9 = .ok (.iconst 0, 1) := by decide +kernel
theorem dX4_readPlace_10 : decode cX4_readPlace 10 = .ok (.ireturn, 1) := by decide +kernel
theorem dX4_readPlace_11 : decode cX4_readPlace 11 = .ok (.aload_n 0, 1) := by decide +kernel
theorem dX4_readPlace_12 : decode cX4_readPlace 12 = .ok (.getfield 12, 3) := by decide +kernel
theorem dX4_readPlace_15 : decode cX4_readPlace 15 = .ok (.ldc 155, 2) := by decide +kernel
theorem dX4_readPlace_17 : decode cX4_readPlace 17 = .ok (.invokevirtual 157, 3) := by decide +kernel
theorem dX4_readPlace_20 : decode cX4_readPlace 20 = .ok (.istore_n 2, 1) := by decide +kernel
theorem dX4_readPlace_21 : decode cX4_readPlace 21 = .ok (.iload_n 2, 1) := by decide +kernel
theorem dX4_readPlace_22 : decode cX4_readPlace 22 = .ok (.ifCond .ne 21, 3) := by decide +kernel
theorem dX4_readPlace_25 : decode cX4_readPlace 25 = .ok (.aload_n 0, 1) := by decide +kernel
theorem dX4_readPlace_26 : decode cX4_readPlace 26 = .ok (.getfield 12, 3) := by decide +kernel
theorem dX4_readPlace_29 : decode cX4_readPlace 29 = .ok (.ldc 160, 2) := by decide +kernel
theorem dX4_readPlace_31 : decode cX4_readPlace 31 = .ok (.invokevirtual 157, 3) := by decide +kernel
theorem dX4_readPlace_34 : decode cX4_readPlace 34 = .ok (.ifCond .ne 9, 3) := by decide +kernel
theorem dX4_readPlace_37 : decode cX4_readPlace 37 = .ok (.aload_n 0, 1) := by decide +kernel
theorem dX4_readPlace_38 : decode cX4_readPlace 38 = .ok (.iconst 1, 1) := by decide +kernel
theorem dX4_readPlace_39 : decode cX4_readPlace 39 = .ok (.invokevirtual 90, 3) := by decide +kernel
theorem dX4_readPlace_42 : decode cX4_readPlace 42 = .ok (.ireturn, 1) := by decide +kernel
theorem dX4_readPlace_43 : decode cX4_readPlace 43 = .ok (.aload_n 0, 1) := by decide +kernel
theorem dX4_readPlace_44 : decode cX4_readPlace 44 = .ok (.getfield 12, 3) := by decide +kernel
theorem dX4_readPlace_47 : decode cX4_readPlace 47 = .ok (.invokevirtual 93, 3) := by decide +kernel
theorem dX4_readPlace_50 : decode cX4_readPlace 50 = .ok (.aload_n 0, 1) := by decide +kernel
theorem dX4_readPlace_51 : decode cX4_readPlace 51 = .ok (.ldc 162, 2) := by decide +kernel
theorem dX4_readPlace_53 : decode cX4_readPlace 53 = .ok (.invokevirtual 136, 3) := by decide +kernel
theorem dX4_readPlace_56 : decode cX4_readPlace 56 = .ok (.ifCond .ne 5, 3) := by decide +kernel
theorem dX4_readPlace_59 : decode cX4_readPlace 59 = .ok (.iconst 0, 1) := by decide +kernel
theorem dX4_readPlace_60 : decode cX4_readPlace 60 = .ok (.ireturn, 1) := by decide +kernel
theorem dX4_readPlace_61 : decode cX4_readPlace 61 = .ok (.aload_n 0, 1) := by decide +kernel
theorem dX4_readPlace_62 : decode cX4_readPlace 62 = .ok (.bipush 9, 2) := by decide +kernel
theorem dX4_readPlace_64 : decode cX4_readPlace 64 = .ok (.invokevirtual 140, 3) := by decide +kernel
theorem dX4_readPlace_67 : decode cX4_readPlace 67 = .ok (.istore_n 3, 1) := by decide +kernel
theorem dX4_readPlace_68 : decode cX4_readPlace 68 = .ok (.iload_n 3, 1) := by decide +kernel
theorem dX4_readPlace_69 : decode cX4_readPlace 69 = .ok (.ifCond .ge 5, 3) := by decide +kernel
theorem dX4_readPlace_72 : decode cX4_readPlace 72 = .ok (.iconst 0, 1) := by decide +kernel
theorem dX4_readPlace_73 : decode cX4_readPlace 73 = .ok (.ireturn, 1) := by decide +kernel
theorem dX4_readPlace_74 : decode cX4_readPlace 74 = .ok (.aload_n 0, 1) := by decide +kernel
theorem dX4_readPlace_75 : decode cX4_readPlace 75 = .ok (.getfield 37, 3) := by decide +kernel
theorem dX4_readPlace_78 : decode cX4_readPlace 78 = .ok (.getfield 49, 3) := by decide +kernel
theorem dX4_readPlace_81 : decode cX4_readPlace 81 = .ok (.getfield 164, 3) := by decide +kernel
theorem dX4_readPlace_84 : decode cX4_readPlace 84 = .ok (.iload_n 1, 1) := by decide +kernel
theorem dX4_readPlace_85 : decode cX4_readPlace 85 = .ok (.iload_n 3, 1) := by decide +kernel
theorem dX4_readPlace_86 : decode cX4_readPlace 86 = .ok (.iastore, 1) := by decide +kernel
theorem dX4_readPlace_87 : decode cX4_readPlace 87 = .ok (.iload_n 2, 1) := by decide +kernel
theorem dX4_readPlace_88 : decode cX4_readPlace 88 = .ok (.ifCond .eq 11, 3) := by decide +kernel
theorem dX4_readPlace_91 : decode cX4_readPlace 91 = .ok (.aload_n 0, 1) := by decide +kernel
theorem dX4_readPlace_92 : decode cX4_readPlace 92 = .ok (.getfield 37, 3) := by decide +kernel
theorem dX4_readPlace_95 : decode cX4_readPlace 95 = .ok (.iload_n 1, 1) := by decide +kernel
theorem dX4_readPlace_96 : decode cX4_readPlace 96 = .ok (.invokevirtual 166, 3) := by decide +kernel
theorem dX4_readPlace_99 : decode cX4_readPlace 99 = .ok (.iconst 1, 1) := by decide +kernel
theorem dX4_readPlace_100 : decode cX4_readPlace 100 = .ok (.ireturn, 1) := by decide +kernel
theorem dX4_readPath_0 : decode cX4_readPath 0 = .ok (.aload_n 0, 1) := by decide +kernel
theorem dX4_readPath_1 : decode cX4_readPath 1 = .ok (.getfield 37, 3) := by decide +kernel
theorem dX4_readPath_4 : decode cX4_readPath 4 = .ok (.getfield 49, 3) := by decide +kernel
theorem dX4_readPath_7 : decode cX4_readPath 7 = .ok (.getfield 169, 3) := by decide +kernel
theorem dX4_readPath_10 : decode cX4_readPath 10 = .ok (.astore_n 1, 1) := by decide +kernel
theorem dX4_readPath_11 : decode cX4_readPath 11 = .ok (.aload_n 0, 1) := by decide +kernel
theorem dX4_readPath_12 : decode cX4_readPath 12 = .ok (.iconst 1, 1) := by decide +kernel
theorem dX4_readPath_13 : decode cX4_readPath 13 = .ok (.invokevirtual 172, 3) := by decide +kernel
theorem dX4_readPath_16 : decode cX4_readPath 16 = .ok (.istore_n 2, 1) := by decide +kernel
theorem dX4_readPath_17 : decode cX4_readPath 17 = .ok (.iload_n 2, 1) := by decide +kernel
theorem dX4_readPath_18 : decode cX4_readPath 18 = .ok (.ifCond .ge 5, 3) := by decide +kernel
theorem dX4_readPath_21 : decode cX4_readPath 21 = .ok (.iconst 0, 1) := by decide +kernel
theorem dX4_readPath_22 : decode cX4_readPath 22 = .ok (.ireturn, 1) := by decide +kernel
theorem dX4_readPath_23 : decode cX4_readPath 23 = .ok (.aload_n 0, 1) := by decide +kernel
theorem dX4_readPath_24 : decode cX4_readPath 24 = .ok (.getfield 12, 3) := by decide +kernel
theorem dX4_readPath_27 : decode cX4_readPath 27 = .ok (.invokevirtual 93, 3) := by decide +kernel
theorem dX4_readPath_30 : decode cX4_readPath 30 = .ok (.aload_n 0, 1) := by decide +kernel
theorem dX4_readPath_31 : decode cX4_readPath 31 = .ok (.iconst 1, 1) := by decide +kernel
theorem dX4_readPath_32 : decode cX4_readPath 32 = .ok (.invokevirtual 172, 3) := by decide +kernel
theorem dX4_readPath_35 : decode cX4_readPath 35 = .ok (.istore_n 3, 1) := by decide +kernel
theorem dX4_readPath_36 : decode cX4_readPath 36 = .ok (.iload_n 3, 1) := by decide +kernel
theorem dX4_readPath_37 : decode cX4_readPath 37 = .ok (.ifCond .ge 5, 3) := by decide +kernel
theorem dX4_readPath_40 : decode cX4_readPath 40 = .ok (.iconst 0, 1) := by decide +kernel
theorem dX4_readPath_41 : decode cX4_readPath 41 = .ok (.ireturn, 1) := by decide +kernel
theorem dX4_readPath_42 : decode cX4_readPath 42 = .ok (.iload_n 3, 1) := by decide +kernel
theorem dX4_readPath_43 : decode cX4_readPath 43 = .ok (.iload_n 2, 1) := by decide +kernel
theorem dX4_readPath_44 : decode cX4_readPath 44 = .ok (.if_icmp .eq 13, 3) := by decide +kernel
theorem dX4_readPath_47 : decode cX4_readPath 47 = .ok (.aload_n 1, 1) := by decide +kernel
theorem dX4_readPath_48 : decode cX4_readPath 48 = .ok (.iload_n 2, 1) := by decide +kernel
theorem dX4_readPath_49 : decode cX4_readPath 49 = .ok (.iaload, 1) := by decide +kernel
theorem dX4_readPath_50 : decode cX4_readPath 50 = .ok (.iload_n 3, 1) := by decide +kernel
theorem dX4_readPath_51 : decode cX4_readPath 51 = .ok (.invokestatic 175, 3) := by decide +kernel
theorem dX4_readPath_54 : decode cX4_readPath 54 = .ok (.ifCond .eq 9, 3) := by decide +kernel
theorem dX4_readPath_57 : decode cX4_readPath 57 = .ok (.aload_n 0, 1) := by decide +kernel
theorem dX4_readPath_58 : decode cX4_readPath 58 = .ok (.iconst 3, 1) := by decide +kernel
theorem dX4_readPath_59 : decode cX4_readPath 59 = .ok (.invokevirtual 90, 3) := by decide +kernel
theorem dX4_readPath_62 : decode cX4_readPath 62 = .ok (.ireturn, 1) := by decide +kernel
theorem dX4_readPath_63 : decode cX4_readPath 63 = .ok (.aload_n 0, 1) := by decide +kernel
theorem dX4_readPath_64 : decode cX4_readPath 64 = .ok (.getfield 12, 3) := by decide +kernel
theorem dX4_readPath_67 : decode cX4_readPath 67 = .ok (.invokevirtual 93, 3) := by decide +kernel
theorem dX4_readPath_70 : decode cX4_readPath 70 = .ok (.aload_n 1, 1) := by decide +kernel
theorem dX4_readPath_71 : decode cX4_readPath 71 = .ok (.iload_n 2, 1) := by decide +kernel
theorem dX4_readPath_72 : decode cX4_readPath 72 = .ok (.dup2, 1) := by decide +kernel
theorem dX4_readPath_73 : decode cX4_readPath 73 = .ok (.iaload, 1) := by decide +kernel
theorem dX4_readPath_74 : decode cX4_readPath 74 = .ok (.iconst 1, 1) := by decide +kernel
theorem dX4_readPath_75 : decode cX4_readPath 75 = .ok (.iload_n 3, 1) := by decide +kernel
theorem dX4_readPath_76 : decode cX4_readPath 76 = .ok (.ishl, 1) := by decide +kernel
theorem dX4_readPath_77 : decode cX4_readPath 77 = .ok (.ior, 1) := by decide +kernel
theorem dX4_readPath_78 : decode cX4_readPath 78 = .ok (.iastore, 1) := by decide +kernel
theorem dX4_readPath_79 : decode cX4_readPath 79 = .ok (.aload_n 1, 1) := by decide +kernel
theorem dX4_readPath_80 : decode cX4_readPath 80 = .ok (.iload_n 3, 1) := by decide +kernel
theorem dX4_readPath_81 : decode cX4_readPath 81 = .ok (.dup2, 1) := by decide +kernel
theorem dX4_readPath_82 : decode cX4_readPath 82 = .ok (.iaload, 1) := by decide +kernel
theorem dX4_readPath_83 : decode cX4_readPath 83 = .ok (.iconst 1, 1) := by decide +kernel
theorem dX4_readPath_84 : decode cX4_readPath 84 = .ok (.iload_n 2, 1) := by decide +kernel
theorem dX4_readPath_85 : decode cX4_readPath 85 = .ok (.ishl, 1) := by decide +kernel
theorem dX4_readPath_86 : decode cX4_readPath 86 = .ok (.ior, 1) := by decide +kernel
theorem dX4_readPath_87 : decode cX4_readPath 87 = .ok (.iastore, 1) := by decide +kernel
theorem dX4_readPath_88 : decode cX4_readPath 88 = .ok (.iconst 1, 1) := by decide +kernel
theorem dX4_readPath_89 : decode cX4_readPath 89 = .ok (.ireturn, 1) := by decide +kernel
theorem dX4_readMan_0 : decode cX4_readMan 0 = .ok (.aload_n 0, 1) := by decide +kernel
theorem dX4_readMan_1 : decode cX4_readMan 1 = .ok (.iconst 3, 1) := by decide +kernel
theorem dX4_readMan_2 : decode cX4_readMan 2 = .ok (.iload_n 1, 1) := by decide +kernel
theorem dX4_readMan_3 : decode cX4_readMan 3 = .ok (.invokevirtual 151, 3) := by decide +kernel
theorem dX4_readMan_6 : decode cX4_readMan 6 = .ok (.ifCond .ne 5, 3) := by decide +kernel
theorem dX4_readMan_9 : decode cX4_readMan 9 = .ok (.iconst 0, 1) := by decide +kernel
theorem dX4_readMan_10 : decode cX4_readMan 10 = .ok (.ireturn, 1) := by decide +kernel
theorem dX4_readMan_11 : decode cX4_readMan 11 = .ok (.aload_n 0, 1) := by decide +kernel
theorem dX4_readMan_12 : decode cX4_readMan 12 = .ok (.invokevirtual 178, 3) := by decide +kernel
theorem dX4_readMan_15 : decode cX4_readMan 15 = .ok (.istore_n 2, 1) := by decide +kernel
theorem dX4_readMan_16 : decode cX4_readMan 16 = .ok (.iload_n 2, 1) := by decide +kernel
theorem dX4_readMan_17 : decode cX4_readMan 17 = .ok (.ifCond .ge 9, 3) := by decide +kernel
theorem dX4_readMan_20 : decode cX4_readMan 20 = .ok (.aload_n 0, 1) := by decide +kernel
theorem dX4_readMan_21 : decode cX4_readMan 21 = .ok (.iconst 1, 1) := by decide +kernel
theorem dX4_readMan_22 : decode cX4_readMan 22 = .ok (.invokevirtual 90, 3) := by decide +kernel
theorem dX4_readMan_25 : decode cX4_readMan 25 = .ok (.ireturn, 1) := by decide +kernel
theorem dX4_readMan_26 : decode cX4_readMan 26 = .ok (.aload_n 0, 1) := by decide +kernel
theorem dX4_readMan_27 : decode cX4_readMan 27 = .ok (.getfield 12, 3) := by decide +kernel
theorem dX4_readMan_30 : decode cX4_readMan 30 = .ok (.invokevirtual 93, 3) := by decide +kernel
theorem dX4_readMan_33 : decode cX4_readMan 33 = .ok (.aload_n 0, 1) := by decide +kernel
theorem dX4_readMan_34 : decode cX4_readMan 34 = .ok (.ldc 181, 2) := by decide +kernel
theorem dX4_readMan_36 : decode cX4_readMan 36 = .ok (.invokevirtual 136, 3) := by decide +kernel
theorem dX4_readMan_39 : decode cX4_readMan 39 = .ok (.ifCond .eq 11, 3) := by decide +kernel
theorem dX4_readMan_42 : decode cX4_readMan 42 = .ok (.aload_n 0, 1) := by decide +kernel
theorem dX4_readMan_43 : decode cX4_readMan 43 = .ok (.iconst 1, 1) := by decide +kernel
theorem dX4_readMan_44 : decode cX4_readMan 44 = .ok (.invokevirtual 172, 3) := by decide +kernel
theorem dX4_readMan_47 : decode cX4_readMan 47 = .ok (.goto 4, 3) := by decide +kernel
theorem dX4_readMan_50 : decode cX4_readMan 50 = .ok (.iconst (-1), 1) := by decide +kernel
theorem dX4_readMan_51 : decode cX4_readMan 51 = .ok (.istore_n 3, 1) := by decide +kernel
theorem dX4_readMan_52 : decode cX4_readMan 52 = .ok (.iload_n 3, 1) := by decide +kernel
theorem dX4_readMan_53 : decode cX4_readMan 53 = .ok (.ifCond .ge 5, 3) := by decide +kernel
theorem dX4_readMan_56 : decode cX4_readMan 56 = .ok (.iconst 0, 1) := by decide +kernel
theorem dX4_readMan_57 : decode cX4_readMan 57 = .ok (.ireturn, 1) := by decide +kernel
theorem dX4_readMan_58 : decode cX4_readMan 58 = .ok (.aload_n 0, 1) := by decide +kernel
theorem dX4_readMan_59 : decode cX4_readMan 59 = .ok (.getfield 12, 3) := by decide +kernel
theorem dX4_readMan_62 : decode cX4_readMan 62 = .ok (.invokevirtual 93, 3) := by decide +kernel
theorem dX4_readMan_65 : decode cX4_readMan 65 = .ok (.aload_n 0, 1) := by decide +kernel
theorem dX4_readMan_66 : decode cX4_readMan 66 = .ok (.getfield 37, 3) := by decide +kernel
theorem dX4_readMan_69 : decode cX4_readMan 69 = .ok (.getfield 49, 3) := by decide +kernel
theorem dX4_readMan_72 : decode cX4_readMan 72 = .ok (.getfield 183, 3) := by decide +kernel
theorem dX4_readMan_75 : decode cX4_readMan 75 = .ok (.iload_n 1, 1) := by decide +kernel
theorem dX4_readMan_76 : decode cX4_readMan 76 = .ok (.iload_n 2, 1) := by decide +kernel
theorem dX4_readMan_77 : decode cX4_readMan 77 = .ok (.iastore, 1) := by decide +kernel
theorem dX4_readMan_78 : decode cX4_readMan 78 = .ok (.aload_n 0, 1) := by decide +kernel
theorem dX4_readMan_79 : decode cX4_readMan 79 = .ok (.getfield 37, 3) := by decide +kernel
theorem dX4_readMan_82 : decode cX4_readMan 82 = .ok (.iload_n 1, 1) := by decide +kernel
theorem dX4_readMan_83 : decode cX4_readMan 83 = .ok (.iload_n 3, 1) := by decide +kernel
theorem dX4_readMan_84 : decode cX4_readMan 84 = .ok (.invokevirtual 186, 3) := by decide +kernel
theorem dX4_readMan_87 : decode cX4_readMan 87 = .ok (.iconst 1, 1) := by decide +kernel
theorem dX4_readMan_88 : decode cX4_readMan 88 = .ok (.ireturn, 1) := by decide +kernel
theorem dX4_readKill_0 : decode cX4_readKill 0 = .ok (.aload_n 0, 1) := by decide +kernel
theorem dX4_readKill_1 : decode cX4_readKill 1 = .ok (.iconst 4, 1) := by decide +kernel
theorem dX4_readKill_2 : decode cX4_readKill 2 = .ok (.iload_n 1, 1) := by decide +kernel
theorem dX4_readKill_3 : decode cX4_readKill 3 = .ok (.invokevirtual 151, 3) := by decide +kernel
theorem dX4_readKill_6 : decode cX4_readKill 6 = .ok (.ifCond .ne 5, 3) := by decide +kernel
theorem dX4_readKill_9 : decode cX4_readKill 9 = .ok (.iconst 0, 1) := by decide +kernel
theorem dX4_readKill_10 : decode cX4_readKill 10 = .ok (.ireturn, 1) := by decide +kernel
theorem dX4_readKill_11 : decode cX4_readKill 11 = .ok (.aload_n 0, 1) := by decide +kernel
theorem dX4_readKill_12 : decode cX4_readKill 12 = .ok (.ldc 190, 2) := by decide +kernel
theorem dX4_readKill_14 : decode cX4_readKill 14 = .ok (.invokevirtual 136, 3) := by decide +kernel
theorem dX4_readKill_17 : decode cX4_readKill 17 = .ok (.ifCond .eq 11, 3) := by decide +kernel
theorem dX4_readKill_20 : decode cX4_readKill 20 = .ok (.aload_n 0, 1) := by decide +kernel
theorem dX4_readKill_21 : decode cX4_readKill 21 = .ok (.iconst 3, 1) := by decide +kernel
theorem dX4_readKill_22 : decode cX4_readKill 22 = .ok (.invokevirtual 172, 3) := by decide +kernel
theorem dX4_readKill_25 : decode cX4_readKill 25 = .ok (.goto 4, 3) := by decide +kernel
theorem dX4_readKill_28 : decode cX4_readKill 28 = .ok (.iconst (-1), 1) := by decide +kernel
theorem dX4_readKill_29 : decode cX4_readKill 29 = .ok (.istore_n 2, 1) := by decide +kernel
theorem dX4_readKill_30 : decode cX4_readKill 30 = .ok (.iload_n 2, 1) := by decide +kernel
theorem dX4_readKill_31 : decode cX4_readKill 31 = .ok (.ifCond .ge 5, 3) := by decide +kernel
theorem dX4_readKill_34 : decode cX4_readKill 34 = .ok (.iconst 0, 1) := by decide +kernel
theorem dX4_readKill_35 : decode cX4_readKill 35 = .ok (.ireturn, 1) := by decide +kernel
theorem dX4_readKill_36 : decode cX4_readKill 36 = .ok (.aload_n 0, 1) := by decide +kernel
theorem dX4_readKill_37 : decode cX4_readKill 37 = .ok (.getfield 12, 3) := by decide +kernel
theorem dX4_readKill_40 : decode cX4_readKill 40 = .ok (.invokevirtual 93, 3) := by decide +kernel
theorem dX4_readKill_43 : decode cX4_readKill 43 = .ok (.aload_n 0, 1) := by decide +kernel
theorem dX4_readKill_44 : decode cX4_readKill 44 = .ok (.ldc 192, 2) := by decide +kernel
theorem dX4_readKill_46 : decode cX4_readKill 46 = .ok (.invokevirtual 136, 3) := by decide +kernel
theorem dX4_readKill_49 : decode cX4_readKill 49 = .ok (.ifCond .eq 11, 3) := by decide +kernel
theorem dX4_readKill_52 : decode cX4_readKill 52 = .ok (.aload_n 0, 1) := by decide +kernel
theorem dX4_readKill_53 : decode cX4_readKill 53 = .ok (.iconst 3, 1) := by decide +kernel
theorem dX4_readKill_54 : decode cX4_readKill 54 = .ok (.invokevirtual 140, 3) := by decide +kernel
theorem dX4_readKill_57 : decode cX4_readKill 57 = .ok (.goto 4, 3) := by decide +kernel
theorem dX4_readKill_60 : decode cX4_readKill 60 = .ok (.iconst (-1), 1) := by decide +kernel
theorem dX4_readKill_61 : decode cX4_readKill 61 = .ok (.istore_n 3, 1) := by decide +kernel
theorem dX4_readKill_62 : decode cX4_readKill 62 = .ok (.iload_n 3, 1) := by decide +kernel
theorem dX4_readKill_63 : decode cX4_readKill 63 = .ok (.ifCond .ge 5, 3) := by decide +kernel
theorem dX4_readKill_66 : decode cX4_readKill 66 = .ok (.iconst 0, 1) := by decide +kernel
theorem dX4_readKill_67 : decode cX4_readKill 67 = .ok (.ireturn, 1) := by decide +kernel
theorem dX4_readKill_68 : decode cX4_readKill 68 = .ok (.aload_n 0, 1) := by decide +kernel
theorem dX4_readKill_69 : decode cX4_readKill 69 = .ok (.ldc 194, 2) := by decide +kernel
theorem dX4_readKill_71 : decode cX4_readKill 71 = .ok (.invokevirtual 136, 3) := by decide +kernel
theorem dX4_readKill_74 : decode cX4_readKill 74 = .ok (.ifCond .eq 12, 3) := by decide +kernel
theorem dX4_readKill_77 : decode cX4_readKill 77 = .ok (.aload_n 0, 1) := by decide +kernel
theorem dX4_readKill_78 : decode cX4_readKill 78 = .ok (.bipush 20, 2) := by decide +kernel
theorem dX4_readKill_80 : decode cX4_readKill 80 = .ok (.invokevirtual 140, 3) := by decide +kernel
theorem dX4_readKill_83 : decode cX4_readKill 83 = .ok (.goto 4, 3) := by decide +kernel
theorem dX4_readKill_86 : decode cX4_readKill 86 = .ok (.iconst (-1), 1) := by decide +kernel
theorem dX4_readKill_87 : decode cX4_readKill 87 = .ok (.istore 4, 2) := by decide +kernel
theorem dX4_readKill_89 : decode cX4_readKill 89 = .ok (.iload 4, 2) := by decide +kernel
theorem dX4_readKill_91 : decode cX4_readKill 91 = .ok (.ifCond .ge 5, 3) := by decide +kernel
theorem dX4_readKill_94 : decode cX4_readKill 94 = .ok (.iconst 0, 1) := by decide +kernel
theorem dX4_readKill_95 : decode cX4_readKill 95 = .ok (.ireturn, 1) := by decide +kernel
theorem dX4_readKill_96 : decode cX4_readKill 96 = .ok (.aload_n 0, 1) := by decide +kernel
theorem dX4_readKill_97 : decode cX4_readKill 97 = .ok (.getfield 37, 3) := by decide +kernel
theorem dX4_readKill_100 : decode cX4_readKill 100 = .ok (.getfield 49, 3) := by decide +kernel
theorem dX4_readKill_103 : decode cX4_readKill 103 = .ok (.getfield 196, 3) := by decide +kernel
theorem dX4_readKill_106 : decode cX4_readKill 106 = .ok (.iload_n 1, 1) := by decide +kernel
theorem dX4_readKill_107 : decode cX4_readKill 107 = .ok (.iload_n 2, 1) := by decide +kernel
theorem dX4_readKill_108 : decode cX4_readKill 108 = .ok (.iastore, 1) := by decide +kernel
theorem dX4_readKill_109 : decode cX4_readKill 109 = .ok (.aload_n 0, 1) := by decide +kernel
theorem dX4_readKill_110 : decode cX4_readKill 110 = .ok (.getfield 37, 3) := by decide +kernel
theorem dX4_readKill_113 : decode cX4_readKill 113 = .ok (.getfield 49, 3) := by decide +kernel
theorem dX4_readKill_116 : decode cX4_readKill 116 = .ok (.getfield 199, 3) := by decide +kernel
theorem dX4_readKill_119 : decode cX4_readKill 119 = .ok (.iload_n 1, 1) := by decide +kernel
theorem dX4_readKill_120 : decode cX4_readKill 120 = .ok (.iload_n 3, 1) := by decide +kernel
theorem dX4_readKill_121 : decode cX4_readKill 121 = .ok (.iastore, 1) := by decide +kernel
theorem dX4_readKill_122 : decode cX4_readKill 122 = .ok (.aload_n 0, 1) := by decide +kernel
theorem dX4_readKill_123 : decode cX4_readKill 123 = .ok (.getfield 37, 3) := by decide +kernel
theorem dX4_readKill_126 : decode cX4_readKill 126 = .ok (.getfield 49, 3) := by decide +kernel
theorem dX4_readKill_129 : decode cX4_readKill 129 = .ok (.getfield 201, 3) := by decide +kernel
theorem dX4_readKill_132 : decode cX4_readKill 132 = .ok (.iload_n 1, 1) := by decide +kernel
theorem dX4_readKill_133 : decode cX4_readKill 133 = .ok (.iload 4, 2) := by decide +kernel
theorem dX4_readKill_135 : decode cX4_readKill 135 = .ok (.iastore, 1) := by decide +kernel
theorem dX4_readKill_136 : decode cX4_readKill 136 = .ok (.aload_n 0, 1) := by decide +kernel
theorem dX4_readKill_137 : decode cX4_readKill 137 = .ok (.getfield 37, 3) := by decide +kernel
theorem dX4_readKill_140 : decode cX4_readKill 140 = .ok (.getfield 203, 3) := by decide +kernel
theorem dX4_readKill_143 : decode cX4_readKill 143 = .ok (.iload_n 1, 1) := by decide +kernel
theorem dX4_readKill_144 : decode cX4_readKill 144 = .ok (.iload_n 2, 1) := by decide +kernel
theorem dX4_readKill_145 : decode cX4_readKill 145 = .ok (.iastore, 1) := by decide +kernel
theorem dX4_readKill_146 : decode cX4_readKill 146 = .ok (.iconst 1, 1) := by decide +kernel
theorem dX4_readKill_147 : decode cX4_readKill 147 = .ok (.ireturn, 1) := by decide +kernel
theorem dX4_readStray_0 : decode cX4_readStray 0 = .ok (.aload_n 0, 1) := by decide +kernel
theorem dX4_readStray_1 : decode cX4_readStray 1 = .ok (.iconst 5, 1) := by decide +kernel
theorem dX4_readStray_2 : decode cX4_readStray 2 = .ok (.iload_n 1, 1) := by decide +kernel
theorem dX4_readStray_3 : decode cX4_readStray 3 = .ok (.invokevirtual 151, 3) := by decide +kernel
theorem dX4_readStray_6 : decode cX4_readStray 6 = .ok (.ifCond .ne 5, 3) := by decide +kernel
theorem dX4_readStray_9 : decode cX4_readStray 9 = .ok (.iconst 0, 1) := by decide +kernel
theorem dX4_readStray_10 : decode cX4_readStray 10 = .ok (.ireturn, 1) := by decide +kernel
theorem dX4_readStray_11 : decode cX4_readStray 11 = .ok (.aload_n 0, 1) := by decide +kernel
theorem dX4_readStray_12 : decode cX4_readStray 12 = .ok (.ldc 181, 2) := by decide +kernel
theorem dX4_readStray_14 : decode cX4_readStray 14 = .ok (.invokevirtual 136, 3) := by decide +kernel
theorem dX4_readStray_17 : decode cX4_readStray 17 = .ok (.ifCond .eq 11, 3) := by decide +kernel
theorem dX4_readStray_20 : decode cX4_readStray 20 = .ok (.aload_n 0, 1) := by decide +kernel
theorem dX4_readStray_21 : decode cX4_readStray 21 = .ok (.iconst 1, 1) := by decide +kernel
theorem dX4_readStray_22 : decode cX4_readStray 22 = .ok (.invokevirtual 172, 3) := by decide +kernel
theorem dX4_readStray_25 : decode cX4_readStray 25 = .ok (.goto 4, 3) := by decide +kernel
theorem dX4_readStray_28 : decode cX4_readStray 28 = .ok (.iconst (-1), 1) := by decide +kernel
theorem dX4_readStray_29 : decode cX4_readStray 29 = .ok (.istore_n 2, 1) := by decide +kernel
theorem dX4_readStray_30 : decode cX4_readStray 30 = .ok (.iload_n 2, 1) := by decide +kernel
theorem dX4_readStray_31 : decode cX4_readStray 31 = .ok (.ifCond .ge 5, 3) := by decide +kernel
theorem dX4_readStray_34 : decode cX4_readStray 34 = .ok (.iconst 0, 1) := by decide +kernel
theorem dX4_readStray_35 : decode cX4_readStray 35 = .ok (.ireturn, 1) := by decide +kernel
theorem dX4_readStray_36 : decode cX4_readStray 36 = .ok (.aload_n 0, 1) := by decide +kernel
theorem dX4_readStray_37 : decode cX4_readStray 37 = .ok (.getfield 12, 3) := by decide +kernel
theorem dX4_readStray_40 : decode cX4_readStray 40 = .ok (.invokevirtual 93, 3) := by decide +kernel
theorem dX4_readStray_43 : decode cX4_readStray 43 = .ok (.aload_n 0, 1) := by decide +kernel
theorem dX4_readStray_44 : decode cX4_readStray 44 = .ok (.getfield 37, 3) := by decide +kernel
theorem dX4_readStray_47 : decode cX4_readStray 47 = .ok (.getfield 49, 3) := by decide +kernel
theorem dX4_readStray_50 : decode cX4_readStray 50 = .ok (.getfield 206, 3) := by decide +kernel
theorem dX4_readStray_53 : decode cX4_readStray 53 = .ok (.iload_n 1, 1) := by decide +kernel
theorem dX4_readStray_54 : decode cX4_readStray 54 = .ok (.iload_n 2, 1) := by decide +kernel
theorem dX4_readStray_55 : decode cX4_readStray 55 = .ok (.iastore, 1) := by decide +kernel
theorem dX4_readStray_56 : decode cX4_readStray 56 = .ok (.iconst 1, 1) := by decide +kernel
theorem dX4_readStray_57 : decode cX4_readStray 57 = .ok (.ireturn, 1) := by decide +kernel
theorem dX4_readWalk_0 : decode cX4_readWalk 0 = .ok (.aload_n 0, 1) := by decide +kernel
theorem dX4_readWalk_1 : decode cX4_readWalk 1 = .ok (.iconst 3, 1) := by decide +kernel
theorem dX4_readWalk_2 : decode cX4_readWalk 2 = .ok (.invokevirtual 172, 3) := by decide +kernel
theorem dX4_readWalk_5 : decode cX4_readWalk 5 = .ok (.istore_n 1, 1) := by decide +kernel
theorem dX4_readWalk_6 : decode cX4_readWalk 6 = .ok (.iload_n 1, 1) := by decide +kernel
theorem dX4_readWalk_7 : decode cX4_readWalk 7 = .ok (.ifCond .ge 5, 3) := by decide +kernel
theorem dX4_readWalk_10 : decode cX4_readWalk 10 = .ok (.iconst 0, 1) := by decide +kernel
theorem dX4_readWalk_11 : decode cX4_readWalk 11 = .ok (.ireturn, 1) := by decide +kernel
theorem dX4_readWalk_12 : decode cX4_readWalk 12 = .ok (.aload_n 0, 1) := by decide +kernel
theorem dX4_readWalk_13 : decode cX4_readWalk 13 = .ok (.getfield 12, 3) := by decide +kernel
theorem dX4_readWalk_16 : decode cX4_readWalk 16 = .ok (.invokevirtual 93, 3) := by decide +kernel
theorem dX4_readWalk_19 : decode cX4_readWalk 19 = .ok (.aload_n 0, 1) := by decide +kernel
theorem dX4_readWalk_20 : decode cX4_readWalk 20 = .ok (.iconst 1, 1) := by decide +kernel
theorem dX4_readWalk_21 : decode cX4_readWalk 21 = .ok (.invokevirtual 172, 3) := by decide +kernel
theorem dX4_readWalk_24 : decode cX4_readWalk 24 = .ok (.istore_n 2, 1) := by decide +kernel
theorem dX4_readWalk_25 : decode cX4_readWalk 25 = .ok (.iload_n 2, 1) := by decide +kernel
theorem dX4_readWalk_26 : decode cX4_readWalk 26 = .ok (.ifCond .ge 5, 3) := by decide +kernel
theorem dX4_readWalk_29 : decode cX4_readWalk 29 = .ok (.iconst 0, 1) := by decide +kernel
theorem dX4_readWalk_30 : decode cX4_readWalk 30 = .ok (.ireturn, 1) := by decide +kernel
theorem dX4_readWalk_31 : decode cX4_readWalk 31 = .ok (.aload_n 0, 1) := by decide +kernel
theorem dX4_readWalk_32 : decode cX4_readWalk 32 = .ok (.getfield 37, 3) := by decide +kernel
theorem dX4_readWalk_35 : decode cX4_readWalk 35 = .ok (.getfield 49, 3) := by decide +kernel
theorem dX4_readWalk_38 : decode cX4_readWalk 38 = .ok (.getfield 169, 3) := by decide +kernel
theorem dX4_readWalk_41 : decode cX4_readWalk 41 = .ok (.aload_n 0, 1) := by decide +kernel
theorem dX4_readWalk_42 : decode cX4_readWalk 42 = .ok (.getfield 37, 3) := by decide +kernel
theorem dX4_readWalk_45 : decode cX4_readWalk 45 = .ok (.iload_n 1, 1) := by decide +kernel
theorem dX4_readWalk_46 : decode cX4_readWalk 46 = .ok (.invokevirtual 209, 3) := by decide +kernel
theorem dX4_readWalk_49 : decode cX4_readWalk 49 = .ok (.iaload, 1) := by decide +kernel
theorem dX4_readWalk_50 : decode cX4_readWalk 50 = .ok (.iload_n 2, 1) := by decide +kernel
theorem dX4_readWalk_51 : decode cX4_readWalk 51 = .ok (.invokestatic 175, 3) := by decide +kernel
theorem dX4_readWalk_54 : decode cX4_readWalk 54 = .ok (.ifCond .ne 10, 3) := by decide +kernel
theorem dX4_readWalk_57 : decode cX4_readWalk 57 = .ok (.aload_n 0, 1) := by decide +kernel
theorem dX4_readWalk_58 : decode cX4_readWalk 58 = .ok (.bipush 7, 2) := by decide +kernel
theorem dX4_readWalk_60 : decode cX4_readWalk 60 = .ok (.invokevirtual 90, 3) := by decide +kernel
theorem dX4_readWalk_63 : decode cX4_readWalk 63 = .ok (.ireturn, 1) := by decide +kernel
theorem dX4_readWalk_64 : decode cX4_readWalk 64 = .ok (.aload_n 0, 1) := by decide +kernel
theorem dX4_readWalk_65 : decode cX4_readWalk 65 = .ok (.getfield 12, 3) := by decide +kernel
theorem dX4_readWalk_68 : decode cX4_readWalk 68 = .ok (.invokevirtual 93, 3) := by decide +kernel
theorem dX4_readWalk_71 : decode cX4_readWalk 71 = .ok (.aload_n 0, 1) := by decide +kernel
theorem dX4_readWalk_72 : decode cX4_readWalk 72 = .ok (.getfield 37, 3) := by decide +kernel
theorem dX4_readWalk_75 : decode cX4_readWalk 75 = .ok (.iload_n 1, 1) := by decide +kernel
theorem dX4_readWalk_76 : decode cX4_readWalk 76 = .ok (.iload_n 2, 1) := by decide +kernel
theorem dX4_readWalk_77 : decode cX4_readWalk 77 = .ok (.invokevirtual 211, 3) := by decide +kernel
theorem dX4_readWalk_80 : decode cX4_readWalk 80 = .ok (.iconst 1, 1) := by decide +kernel
theorem dX4_readWalk_81 : decode cX4_readWalk 81 = .ok (.ireturn, 1) := by decide +kernel
theorem dX4_readTaken_0 : decode cX4_readTaken 0 = .ok (.aload_n 0, 1) := by decide +kernel
theorem dX4_readTaken_1 : decode cX4_readTaken 1 = .ok (.iconst 4, 1) := by decide +kernel
theorem dX4_readTaken_2 : decode cX4_readTaken 2 = .ok (.invokevirtual 172, 3) := by decide +kernel
theorem dX4_readTaken_5 : decode cX4_readTaken 5 = .ok (.istore_n 1, 1) := by decide +kernel
theorem dX4_readTaken_6 : decode cX4_readTaken 6 = .ok (.iload_n 1, 1) := by decide +kernel
theorem dX4_readTaken_7 : decode cX4_readTaken 7 = .ok (.ifCond .ge 5, 3) := by decide +kernel
theorem dX4_readTaken_10 : decode cX4_readTaken 10 = .ok (.iconst 0, 1) := by decide +kernel
theorem dX4_readTaken_11 : decode cX4_readTaken 11 = .ok (.ireturn, 1) := by decide +kernel
theorem dX4_readTaken_12 : decode cX4_readTaken 12 = .ok (.aload_n 0, 1) := by decide +kernel
theorem dX4_readTaken_13 : decode cX4_readTaken 13 = .ok (.getfield 12, 3) := by decide +kernel
theorem dX4_readTaken_16 : decode cX4_readTaken 16 = .ok (.invokevirtual 93, 3) := by decide +kernel
theorem dX4_readTaken_19 : decode cX4_readTaken 19 = .ok (.aload_n 0, 1) := by decide +kernel
theorem dX4_readTaken_20 : decode cX4_readTaken 20 = .ok (.iconst 3, 1) := by decide +kernel
theorem dX4_readTaken_21 : decode cX4_readTaken 21 = .ok (.invokevirtual 172, 3) := by decide +kernel
theorem dX4_readTaken_24 : decode cX4_readTaken 24 = .ok (.istore_n 2, 1) := by decide +kernel
theorem dX4_readTaken_25 : decode cX4_readTaken 25 = .ok (.iload_n 2, 1) := by decide +kernel
theorem dX4_readTaken_26 : decode cX4_readTaken 26 = .ok (.ifCond .ge 5, 3) := by decide +kernel
theorem dX4_readTaken_29 : decode cX4_readTaken 29 = .ok (.iconst 0, 1) := by decide +kernel
theorem dX4_readTaken_30 : decode cX4_readTaken 30 = .ok (.ireturn, 1) := by decide +kernel
theorem dX4_readTaken_31 : decode cX4_readTaken 31 = .ok (.aload_n 0, 1) := by decide +kernel
theorem dX4_readTaken_32 : decode cX4_readTaken 32 = .ok (.getfield 37, 3) := by decide +kernel
theorem dX4_readTaken_35 : decode cX4_readTaken 35 = .ok (.getfield 203, 3) := by decide +kernel
theorem dX4_readTaken_38 : decode cX4_readTaken 38 = .ok (.iload_n 1, 1) := by decide +kernel
theorem dX4_readTaken_39 : decode cX4_readTaken 39 = .ok (.iaload, 1) := by decide +kernel
theorem dX4_readTaken_40 : decode cX4_readTaken 40 = .ok (.iload_n 2, 1) := by decide +kernel
theorem dX4_readTaken_41 : decode cX4_readTaken 41 = .ok (.if_icmp .ne 9, 3) := by decide +kernel
theorem dX4_readTaken_44 : decode cX4_readTaken 44 = .ok (.aload_n 0, 1) := by decide +kernel
theorem dX4_readTaken_45 : decode cX4_readTaken 45 = .ok (.iconst 3, 1) := by decide +kernel
theorem dX4_readTaken_46 : decode cX4_readTaken 46 = .ok (.invokevirtual 90, 3) := by decide +kernel
theorem dX4_readTaken_49 : decode cX4_readTaken 49 = .ok (.ireturn, 1) := by decide +kernel
theorem dX4_readTaken_50 : decode cX4_readTaken 50 = .ok (.aload_n 0, 1) := by decide +kernel
theorem dX4_readTaken_51 : decode cX4_readTaken 51 = .ok (.getfield 12, 3) := by decide +kernel
theorem dX4_readTaken_54 : decode cX4_readTaken 54 = .ok (.invokevirtual 93, 3) := by decide +kernel
theorem dX4_readTaken_57 : decode cX4_readTaken 57 = .ok (.aload_n 0, 1) := by decide +kernel
theorem dX4_readTaken_58 : decode cX4_readTaken 58 = .ok (.getfield 37, 3) := by decide +kernel
theorem dX4_readTaken_61 : decode cX4_readTaken 61 = .ok (.getfield 203, 3) := by decide +kernel
theorem dX4_readTaken_64 : decode cX4_readTaken 64 = .ok (.iload_n 1, 1) := by decide +kernel
theorem dX4_readTaken_65 : decode cX4_readTaken 65 = .ok (.iload_n 2, 1) := by decide +kernel
theorem dX4_readTaken_66 : decode cX4_readTaken 66 = .ok (.iastore, 1) := by decide +kernel
theorem dX4_readTaken_67 : decode cX4_readTaken 67 = .ok (.iconst 1, 1) := by decide +kernel
theorem dX4_readTaken_68 : decode cX4_readTaken 68 = .ok (.ireturn, 1) := by decide +kernel
theorem dX4_readWord_0 : decode cX4_readWord 0 = .ok (.aload_n 0, 1) := by decide +kernel
theorem dX4_readWord_1 : decode cX4_readWord 1 = .ok (.getfield 12, 3) := by decide +kernel
theorem dX4_readWord_4 : decode cX4_readWord 4 = .ok (.aload_n 1, 1) := by decide +kernel
theorem dX4_readWord_5 : decode cX4_readWord 5 = .ok (.invokevirtual 157, 3) := by decide +kernel
theorem dX4_readWord_8 : decode cX4_readWord 8 = .ok (.ifCond .ne 9, 3) := by decide +kernel
theorem dX4_readWord_11 : decode cX4_readWord 11 = .ok (.aload_n 0, 1) := by decide +kernel
theorem dX4_readWord_12 : decode cX4_readWord 12 = .ok (.iconst 1, 1) := by decide +kernel
theorem dX4_readWord_13 : decode cX4_readWord 13 = .ok (.invokevirtual 90, 3) := by decide +kernel
theorem dX4_readWord_16 : decode cX4_readWord 16 = .ok (.ireturn, 1) := by decide +kernel
theorem dX4_readWord_17 : decode cX4_readWord 17 = .ok (.aload_n 0, 1) := by decide +kernel
theorem dX4_readWord_18 : decode cX4_readWord 18 = .ok (.getfield 12, 3) := by decide +kernel
theorem dX4_readWord_21 : decode cX4_readWord 21 = .ok (.invokevirtual 93, 3) := by decide +kernel
theorem dX4_readWord_24 : decode cX4_readWord 24 = .ok (.iconst 1, 1) := by decide +kernel
theorem dX4_readWord_25 : decode cX4_readWord 25 = .ok (.ireturn, 1) := by decide +kernel
theorem dX4_readWhole_0 : decode cX4_readWhole 0 = .ok (.aload_n 0, 1) := by decide +kernel
theorem dX4_readWhole_1 : decode cX4_readWhole 1 = .ok (.getfield 12, 3) := by decide +kernel
theorem dX4_readWhole_4 : decode cX4_readWhole 4 = .ok (.getfield 87, 3) := by decide +kernel
theorem dX4_readWhole_7 : decode cX4_readWhole 7 = .ok (.iconst 2, 1) := by decide +kernel
theorem dX4_readWhole_8 : decode cX4_readWhole 8 = .ok (.if_icmp .eq 9, 3) := by decide +kernel
theorem dX4_readWhole_11 : decode cX4_readWhole 11 = .ok (.aload_n 0, 1) := by decide +kernel
theorem dX4_readWhole_12 : decode cX4_readWhole 12 = .ok (.iconst 1, 1) := by decide +kernel
theorem dX4_readWhole_13 : decode cX4_readWhole 13 = .ok (.invokevirtual 102, 3) := by decide +kernel
theorem dX4_readWhole_16 : decode cX4_readWhole 16 = .ok (.ireturn, 1) := by decide +kernel
theorem dX4_readWhole_17 : decode cX4_readWhole 17 = .ok (.aload_n 0, 1) := by decide +kernel
theorem dX4_readWhole_18 : decode cX4_readWhole 18 = .ok (.getfield 12, 3) := by decide +kernel
theorem dX4_readWhole_21 : decode cX4_readWhole 21 = .ok (.getfield 214, 3) := by decide +kernel
theorem dX4_readWhole_24 : decode cX4_readWhole 24 = .ok (.iload_n 1, 1) := by decide +kernel
theorem dX4_readWhole_25 : decode cX4_readWhole 25 = .ok (.if_icmp .le 9, 3) := by decide +kernel
theorem dX4_readWhole_28 : decode cX4_readWhole 28 = .ok (.aload_n 0, 1) := by decide +kernel
theorem dX4_readWhole_29 : decode cX4_readWhole 29 = .ok (.iconst 4, 1) := by decide +kernel
theorem dX4_readWhole_30 : decode cX4_readWhole 30 = .ok (.invokevirtual 102, 3) := by decide +kernel
theorem dX4_readWhole_33 : decode cX4_readWhole 33 = .ok (.ireturn, 1) := by decide +kernel
theorem dX4_readWhole_34 : decode cX4_readWhole 34 = .ok (.aload_n 0, 1) := by decide +kernel
theorem dX4_readWhole_35 : decode cX4_readWhole 35 = .ok (.getfield 12, 3) := by decide +kernel
theorem dX4_readWhole_38 : decode cX4_readWhole 38 = .ok (.getfield 214, 3) := by decide +kernel
theorem dX4_readWhole_41 : decode cX4_readWhole 41 = .ok (.istore_n 2, 1) := by decide +kernel
theorem dX4_readWhole_42 : decode cX4_readWhole 42 = .ok (.aload_n 0, 1) := by decide +kernel
theorem dX4_readWhole_43 : decode cX4_readWhole 43 = .ok (.getfield 12, 3) := by decide +kernel
theorem dX4_readWhole_46 : decode cX4_readWhole 46 = .ok (.invokevirtual 93, 3) := by decide +kernel
theorem dX4_readWhole_49 : decode cX4_readWhole 49 = .ok (.iload_n 2, 1) := by decide +kernel
theorem dX4_readWhole_50 : decode cX4_readWhole 50 = .ok (.ireturn, 1) := by decide +kernel
theorem dX4_readNewName_0 : decode cX4_readNewName 0 = .ok (.aload_n 0, 1) := by decide +kernel
theorem dX4_readNewName_1 : decode cX4_readNewName 1 = .ok (.invokevirtual 99, 3) := by decide +kernel
theorem dX4_readNewName_4 : decode cX4_readNewName 4 = .ok (.istore_n 3, 1) := by decide +kernel
theorem dX4_readNewName_5 : decode cX4_readNewName 5 = .ok (.aload_n 0, 1) := by decide +kernel
theorem dX4_readNewName_6 : decode cX4_readNewName 6 = .ok (.getfield 12, 3) := by decide +kernel
theorem dX4_readNewName_9 : decode cX4_readNewName 9 = .ok (.getfield 87, 3) := by decide +kernel
theorem dX4_readNewName_12 : decode cX4_readNewName 12 = .ok (.iconst 1, 1) := by decide +kernel
theorem dX4_readNewName_13 : decode cX4_readNewName 13 = .ok (.if_icmp .ne 13, 3) := by decide +kernel
theorem dX4_readNewName_16 : decode cX4_readNewName 16 = .ok (.iload_n 3, 1) := by decide +kernel
theorem dX4_readNewName_17 : decode cX4_readNewName 17 = .ok (.ifCond .lt 15, 3) := by decide +kernel
theorem dX4_readNewName_20 : decode cX4_readNewName 20 = .ok (.iload_n 3, 1) := by decide +kernel
theorem dX4_readNewName_21 : decode cX4_readNewName 21 = .ok (.bipush 8, 2) := by decide +kernel
theorem dX4_readNewName_23 : decode cX4_readNewName 23 = .ok (.if_icmp .ge 9, 3) := by decide +kernel
theorem dX4_readNewName_26 : decode cX4_readNewName 26 = .ok (.aload_n 0, 1) := by decide +kernel
theorem dX4_readNewName_27 : decode cX4_readNewName 27 = .ok (.iconst 1, 1) := by decide +kernel
theorem dX4_readNewName_28 : decode cX4_readNewName 28 = .ok (.invokevirtual 90, 3) := by decide +kernel
theorem dX4_readNewName_31 : decode cX4_readNewName 31 = .ok (.ireturn, 1) := by decide +kernel
theorem dX4_readNewName_32 : decode cX4_readNewName 32 = .ok (.iload_n 3, 1) := by decide +kernel
theorem dX4_readNewName_33 : decode cX4_readNewName 33 = .ok (.ifCond .ge 12, 3) := by decide +kernel
theorem dX4_readNewName_36 : decode cX4_readNewName 36 = .ok (.aload_n 0, 1) := by decide +kernel
theorem dX4_readNewName_37 : decode cX4_readNewName 37 = .ok (.getfield 63, 3) := by decide +kernel
theorem dX4_readNewName_40 : decode cX4_readNewName 40 = .ok (.bipush 28, 2) := by decide +kernel
theorem dX4_readNewName_42 : decode cX4_readNewName 42 = .ok (.if_icmp .lt 9, 3) := by decide +kernel
theorem dX4_readNewName_45 : decode cX4_readNewName 45 = .ok (.aload_n 0, 1) := by decide +kernel
theorem dX4_readNewName_46 : decode cX4_readNewName 46 = .ok (.iconst 3, 1) := by decide +kernel
theorem dX4_readNewName_47 : decode cX4_readNewName 47 = .ok (.invokevirtual 90, 3) := by decide +kernel
theorem dX4_readNewName_50 : decode cX4_readNewName 50 = .ok (.ireturn, 1) := by decide +kernel
theorem dX4_readNewName_51 : decode cX4_readNewName 51 = .ok (.aload_n 0, 1) := by decide +kernel
theorem dX4_readNewName_52 : decode cX4_readNewName 52 = .ok (.getfield 18, 3) := by decide +kernel
theorem dX4_readNewName_55 : decode cX4_readNewName 55 = .ok (.aload_n 0, 1) := by decide +kernel
theorem dX4_readNewName_56 : decode cX4_readNewName 56 = .ok (.getfield 63, 3) := by decide +kernel
theorem dX4_readNewName_59 : decode cX4_readNewName 59 = .ok (.aload_n 0, 1) := by decide +kernel
theorem dX4_readNewName_60 : decode cX4_readNewName 60 = .ok (.getfield 12, 3) := by decide +kernel
theorem dX4_readNewName_63 : decode cX4_readNewName 63 = .ok (.getfield 217, 3) := by decide +kernel
theorem dX4_readNewName_66 : decode cX4_readNewName 66 = .ok (.lastore, 1) := by decide +kernel
theorem dX4_readNewName_67 : decode cX4_readNewName 67 = .ok (.aload_n 0, 1) := by decide +kernel
theorem dX4_readNewName_68 : decode cX4_readNewName 68 = .ok (.getfield 22, 3) := by decide +kernel
theorem dX4_readNewName_71 : decode cX4_readNewName 71 = .ok (.aload_n 0, 1) := by decide +kernel
theorem dX4_readNewName_72 : decode cX4_readNewName 72 = .ok (.getfield 63, 3) := by decide +kernel
theorem dX4_readNewName_75 : decode cX4_readNewName 75 = .ok (.iload_n 1, 1) := by decide +kernel
theorem dX4_readNewName_76 : decode cX4_readNewName 76 = .ok (.iastore, 1) := by decide +kernel
theorem dX4_readNewName_77 : decode cX4_readNewName 77 = .ok (.aload_n 0, 1) := by decide +kernel
theorem dX4_readNewName_78 : decode cX4_readNewName 78 = .ok (.getfield 26, 3) := by decide +kernel
theorem dX4_readNewName_81 : decode cX4_readNewName 81 = .ok (.aload_n 0, 1) := by decide +kernel
theorem dX4_readNewName_82 : decode cX4_readNewName 82 = .ok (.getfield 63, 3) := by decide +kernel
theorem dX4_readNewName_85 : decode cX4_readNewName 85 = .ok (.iload_n 2, 1) := by decide +kernel
theorem dX4_readNewName_86 : decode cX4_readNewName 86 = .ok (.iastore, 1) := by decide +kernel
theorem dX4_readNewName_87 : decode cX4_readNewName 87 = .ok (.aload_n 0, 1) := by decide +kernel
theorem dX4_readNewName_88 : decode cX4_readNewName 88 = .ok (.dup, 1) := by decide +kernel
theorem dX4_readNewName_89 : decode cX4_readNewName 89 = .ok (.getfield 63, 3) := by decide +kernel
theorem dX4_readNewName_92 : decode cX4_readNewName 92 = .ok (.iconst 1, 1) := by decide +kernel
theorem dX4_readNewName_93 : decode cX4_readNewName 93 = .ok (.iadd, 1) := by decide +kernel
theorem dX4_readNewName_94 : decode cX4_readNewName 94 = .ok (.putfield 63, 3) := by decide +kernel
theorem dX4_readNewName_97 : decode cX4_readNewName 97 = .ok (.aload_n 0, 1) := by decide +kernel
theorem dX4_readNewName_98 : decode cX4_readNewName 98 = .ok (.getfield 12, 3) := by decide +kernel
theorem dX4_readNewName_101 : decode cX4_readNewName 101 = .ok (.invokevirtual 93, 3) := by decide +kernel
theorem dX4_readNewName_104 : decode cX4_readNewName 104 = .ok (.iconst 1, 1) := by decide +kernel
theorem dX4_readNewName_105 : decode cX4_readNewName 105 = .ok (.ireturn, 1) := by decide +kernel
theorem dX4_findName_0 : decode cX4_findName 0 = .ok (.aload_n 0, 1) := by decide +kernel
theorem dX4_findName_1 : decode cX4_findName 1 = .ok (.invokevirtual 99, 3) := by decide +kernel
theorem dX4_findName_4 : decode cX4_findName 4 = .ok (.istore_n 2, 1) := by decide +kernel
theorem dX4_findName_5 : decode cX4_findName 5 = .ok (.aload_n 0, 1) := by decide +kernel
theorem dX4_findName_6 : decode cX4_findName 6 = .ok (.getfield 12, 3) := by decide +kernel
theorem dX4_findName_9 : decode cX4_findName 9 = .ok (.getfield 87, 3) := by decide +kernel
theorem dX4_findName_12 : decode cX4_findName 12 = .ok (.iconst 1, 1) := by decide +kernel
theorem dX4_findName_13 : decode cX4_findName 13 = .ok (.if_icmp .ne 13, 3) := by decide +kernel
theorem dX4_findName_16 : decode cX4_findName 16 = .ok (.iload_n 2, 1) := by decide +kernel
theorem dX4_findName_17 : decode cX4_findName 17 = .ok (.ifCond .lt 15, 3) := by decide +kernel
theorem dX4_findName_20 : decode cX4_findName 20 = .ok (.iload_n 2, 1) := by decide +kernel
theorem dX4_findName_21 : decode cX4_findName 21 = .ok (.bipush 8, 2) := by decide +kernel
theorem dX4_findName_23 : decode cX4_findName 23 = .ok (.if_icmp .ge 9, 3) := by decide +kernel
theorem dX4_findName_26 : decode cX4_findName 26 = .ok (.aload_n 0, 1) := by decide +kernel
theorem dX4_findName_27 : decode cX4_findName 27 = .ok (.iconst 1, 1) := by decide +kernel
theorem dX4_findName_28 : decode cX4_findName 28 = .ok (.invokevirtual 102, 3) := by decide +kernel
theorem dX4_findName_31 : decode cX4_findName 31 = .ok (.ireturn, 1) := by decide +kernel
theorem dX4_findName_32 : decode cX4_findName 32 = .ok (.iload_n 2, 1) := by decide +kernel
theorem dX4_findName_33 : decode cX4_findName 33 = .ok (.ifCond .lt 13, 3) := by decide +kernel
theorem dX4_findName_36 : decode cX4_findName 36 = .ok (.aload_n 0, 1) := by decide +kernel
theorem dX4_findName_37 : decode cX4_findName 37 = .ok (.getfield 22, 3) := by decide +kernel
theorem dX4_findName_40 : decode cX4_findName 40 = .ok (.iload_n 2, 1) := by decide +kernel
theorem dX4_findName_41 : decode cX4_findName 41 = .ok (.iaload, 1) := by decide +kernel
theorem dX4_findName_42 : decode cX4_findName 42 = .ok (.iload_n 1, 1) := by decide +kernel
theorem dX4_findName_43 : decode cX4_findName 43 = .ok (.if_icmp .eq 9, 3) := by decide +kernel
theorem dX4_findName_46 : decode cX4_findName 46 = .ok (.aload_n 0, 1) := by decide +kernel
theorem dX4_findName_47 : decode cX4_findName 47 = .ok (.iconst 2, 1) := by decide +kernel
theorem dX4_findName_48 : decode cX4_findName 48 = .ok (.invokevirtual 102, 3) := by decide +kernel
theorem dX4_findName_51 : decode cX4_findName 51 = .ok (.ireturn, 1) := by decide +kernel
theorem dX4_findName_52 : decode cX4_findName 52 = .ok (.aload_n 0, 1) := by decide +kernel
theorem dX4_findName_53 : decode cX4_findName 53 = .ok (.getfield 26, 3) := by decide +kernel
theorem dX4_findName_56 : decode cX4_findName 56 = .ok (.iload_n 2, 1) := by decide +kernel
theorem dX4_findName_57 : decode cX4_findName 57 = .ok (.iaload, 1) := by decide +kernel
theorem dX4_findName_58 : decode cX4_findName 58 = .ok (.ireturn, 1) := by decide +kernel
theorem dX4_entryOfWord_0 : decode cX4_entryOfWord 0 = .ok (.iconst 0, 1) := by decide +kernel
theorem dX4_entryOfWord_1 : decode cX4_entryOfWord 1 = .ok (.istore_n 1, 1) := by decide +kernel
theorem dX4_entryOfWord_2 : decode cX4_entryOfWord 2 = .ok (.iload_n 1, 1) := by decide +kernel
theorem dX4_entryOfWord_3 : decode cX4_entryOfWord 3 = .ok (.aload_n 0, 1) := by decide +kernel
theorem dX4_entryOfWord_4 : decode cX4_entryOfWord 4 = .ok (.getfield 63, 3) := by decide +kernel
theorem dX4_entryOfWord_7 : decode cX4_entryOfWord 7 = .ok (.if_icmp .ge 39, 3) := by decide +kernel
theorem dX4_entryOfWord_10 : decode cX4_entryOfWord 10 = .ok (.aload_n 0, 1) := by decide +kernel
theorem dX4_entryOfWord_11 : decode cX4_entryOfWord 11 = .ok (.getfield 12, 3) := by decide +kernel
theorem dX4_entryOfWord_14 : decode cX4_entryOfWord 14 = .ok (.getfield 87, 3) := by decide +kernel
theorem dX4_entryOfWord_17 : decode cX4_entryOfWord 17 = .ok (.iconst 1, 1) := by decide +kernel
theorem dX4_entryOfWord_18 : decode cX4_entryOfWord 18 = .ok (.if_icmp .ne 28, 3) := by decide +kernel
theorem dX4_entryOfWord_21 : decode cX4_entryOfWord 21 = .ok (.aload_n 0, 1) := by decide +kernel
theorem dX4_entryOfWord_22 : decode cX4_entryOfWord 22 = .ok (.getfield 18, 3) := by decide +kernel
theorem dX4_entryOfWord_25 : decode cX4_entryOfWord 25 = .ok (.iload_n 1, 1) := by decide +kernel
theorem dX4_entryOfWord_26 : decode cX4_entryOfWord 26 = .ok (.laload, 1) := by decide +kernel
theorem dX4_entryOfWord_27 : decode cX4_entryOfWord 27 = .ok (.aload_n 0, 1) := by decide +kernel
theorem dX4_entryOfWord_28 : decode cX4_entryOfWord 28 = .ok (.getfield 12, 3) := by decide +kernel
theorem dX4_entryOfWord_31 : decode cX4_entryOfWord 31 = .ok (.getfield 217, 3) := by decide +kernel
theorem dX4_entryOfWord_34 : decode cX4_entryOfWord 34 = .ok (.lcmp, 1) := by decide +kernel
theorem dX4_entryOfWord_35 : decode cX4_entryOfWord 35 = .ok (.ifCond .ne 5, 3) := by decide +kernel
theorem dX4_entryOfWord_38 : decode cX4_entryOfWord 38 = .ok (.iload_n 1, 1) := by decide +kernel
theorem dX4_entryOfWord_39 : decode cX4_entryOfWord 39 = .ok (.ireturn, 1) := by decide +kernel
theorem dX4_entryOfWord_40 : decode cX4_entryOfWord 40 = .ok (.iinc 1 1, 3) := by decide +kernel
theorem dX4_entryOfWord_43 : decode cX4_entryOfWord 43 = .ok (.goto (-41), 3) := by decide +kernel
theorem dX4_entryOfWord_46 : decode cX4_entryOfWord 46 = .ok (.iconst (-1), 1) := by decide +kernel
theorem dX4_entryOfWord_47 : decode cX4_entryOfWord 47 = .ok (.ireturn, 1) := by decide +kernel
theorem dX4_kindOfWord_0 : decode cX4_kindOfWord 0 = .ok (.iconst 0, 1) := by decide +kernel
theorem dX4_kindOfWord_1 : decode cX4_kindOfWord 1 = .ok (.istore_n 1, 1) := by decide +kernel
theorem dX4_kindOfWord_2 : decode cX4_kindOfWord 2 = .ok (.iload_n 1, 1) := by decide +kernel
theorem dX4_kindOfWord_3 : decode cX4_kindOfWord 3 = .ok (.iconst 4, 1) := by decide +kernel
theorem dX4_kindOfWord_4 : decode cX4_kindOfWord 4 = .ok (.if_icmp .ge 25, 3) := by decide +kernel
theorem dX4_kindOfWord_7 : decode cX4_kindOfWord 7 = .ok (.aload_n 0, 1) := by decide +kernel
theorem dX4_kindOfWord_8 : decode cX4_kindOfWord 8 = .ok (.getfield 12, 3) := by decide +kernel
theorem dX4_kindOfWord_11 : decode cX4_kindOfWord 11 = .ok (.iload_n 1, 1) := by decide +kernel
theorem dX4_kindOfWord_12 : decode cX4_kindOfWord 12 = .ok (.invokestatic 221, 3) := by decide +kernel
theorem dX4_kindOfWord_15 : decode cX4_kindOfWord 15 = .ok (.invokevirtual 157, 3) := by decide +kernel
theorem dX4_kindOfWord_18 : decode cX4_kindOfWord 18 = .ok (.ifCond .eq 5, 3) := by decide +kernel
theorem dX4_kindOfWord_21 : decode cX4_kindOfWord 21 = .ok (.iload_n 1, 1) := by decide +kernel
theorem dX4_kindOfWord_22 : decode cX4_kindOfWord 22 = .ok (.ireturn, 1) := by decide +kernel
theorem dX4_kindOfWord_23 : decode cX4_kindOfWord 23 = .ok (.iinc 1 1, 3) := by decide +kernel
theorem dX4_kindOfWord_26 : decode cX4_kindOfWord 26 = .ok (.goto (-24), 3) := by decide +kernel
theorem dX4_kindOfWord_29 : decode cX4_kindOfWord 29 = .ok (.iconst (-1), 1) := by decide +kernel
theorem dX4_kindOfWord_30 : decode cX4_kindOfWord 30 = .ok (.ireturn, 1) := by decide +kernel
theorem dX4_lineWord_0 : decode cX4_lineWord 0 = .ok (.iload_n 0, 1) := by decide +kernel
theorem dX4_lineWord_1 : decode cX4_lineWord 1 = .ok (.tableswitch 64 0 6 #[43, 46, 49, 52, 55, 58, 61], 43) := by decide +kernel
theorem dX4_lineWord_44 : decode cX4_lineWord 44 = .ok (.ldc 224, 2) := by decide +kernel
theorem dX4_lineWord_46 : decode cX4_lineWord 46 = .ok (.areturn, 1) := by decide +kernel
theorem dX4_lineWord_47 : decode cX4_lineWord 47 = .ok (.ldc 226, 2) := by decide +kernel
theorem dX4_lineWord_49 : decode cX4_lineWord 49 = .ok (.areturn, 1) := by decide +kernel
theorem dX4_lineWord_50 : decode cX4_lineWord 50 = .ok (.ldc 228, 2) := by decide +kernel
theorem dX4_lineWord_52 : decode cX4_lineWord 52 = .ok (.areturn, 1) := by decide +kernel
theorem dX4_lineWord_53 : decode cX4_lineWord 53 = .ok (.ldc 230, 2) := by decide +kernel
theorem dX4_lineWord_55 : decode cX4_lineWord 55 = .ok (.areturn, 1) := by decide +kernel
theorem dX4_lineWord_56 : decode cX4_lineWord 56 = .ok (.ldc 232, 2) := by decide +kernel
theorem dX4_lineWord_58 : decode cX4_lineWord 58 = .ok (.areturn, 1) := by decide +kernel
theorem dX4_lineWord_59 : decode cX4_lineWord 59 = .ok (.ldc 234, 2) := by decide +kernel
theorem dX4_lineWord_61 : decode cX4_lineWord 61 = .ok (.areturn, 1) := by decide +kernel
theorem dX4_lineWord_62 : decode cX4_lineWord 62 = .ok (.ldc 236, 2) := by decide +kernel
theorem dX4_lineWord_64 : decode cX4_lineWord 64 = .ok (.areturn, 1) := by decide +kernel
theorem dX4_lineWord_65 : decode cX4_lineWord 65 = .ok (.ldc 238, 2) := by decide +kernel
theorem dX4_lineWord_67 : decode cX4_lineWord 67 = .ok (.areturn, 1) := by decide +kernel
theorem dX4_kindWord_0 : decode cX4_kindWord 0 = .ok (.iload_n 0, 1) := by decide +kernel
theorem dX4_kindWord_1 : decode cX4_kindWord 1 = .ok (.tableswitch 36 0 2 #[27, 30, 33], 27) := by decide +kernel
theorem dX4_kindWord_28 : decode cX4_kindWord 28 = .ok (.ldc 240, 2) := by decide +kernel
theorem dX4_kindWord_30 : decode cX4_kindWord 30 = .ok (.areturn, 1) := by decide +kernel
theorem dX4_kindWord_31 : decode cX4_kindWord 31 = .ok (.ldc 242, 2) := by decide +kernel
theorem dX4_kindWord_33 : decode cX4_kindWord 33 = .ok (.areturn, 1) := by decide +kernel
theorem dX4_kindWord_34 : decode cX4_kindWord 34 = .ok (.ldc 244, 2) := by decide +kernel
theorem dX4_kindWord_36 : decode cX4_kindWord 36 = .ok (.areturn, 1) := by decide +kernel
theorem dX4_kindWord_37 : decode cX4_kindWord 37 = .ok (.ldc 246, 2) := by decide +kernel
theorem dX4_kindWord_39 : decode cX4_kindWord 39 = .ok (.areturn, 1) := by decide +kernel
theorem dX5_init_0 : decode cX5_init 0 = .ok (.aload_n 0, 1) := by decide +kernel
theorem dX5_init_1 : decode cX5_init 1 = .ok (.invokespecial 3, 3) := by decide +kernel
theorem dX5_init_4 : decode cX5_init 4 = .ok (.aload_n 0, 1) := by decide +kernel
theorem dX5_init_5 : decode cX5_init 5 = .ok (.bipush 6, 2) := by decide +kernel
theorem dX5_init_7 : decode cX5_init 7 = .ok (.newarray .int, 2) := by decide +kernel
theorem dX5_init_9 : decode cX5_init 9 = .ok (.putfield 9, 3) := by decide +kernel
theorem dX5_init_12 : decode cX5_init 12 = .ok (.aload_n 0, 1) := by decide +kernel
theorem dX5_init_13 : decode cX5_init 13 = .ok (.bipush 32, 2) := by decide +kernel
theorem dX5_init_15 : decode cX5_init 15 = .ok (.newarray .int, 2) := by decide +kernel
theorem dX5_init_17 : decode cX5_init 17 = .ok (.putfield 15, 3) := by decide +kernel
theorem dX5_init_20 : decode cX5_init 20 = .ok (.aload_n 0, 1) := by decide +kernel
theorem dX5_init_21 : decode cX5_init 21 = .ok (.aload_n 1, 1) := by decide +kernel
theorem dX5_init_22 : decode cX5_init 22 = .ok (.putfield 18, 3) := by decide +kernel
theorem dX5_init_25 : decode cX5_init 25 = .ok (.return_, 1) := by decide +kernel
theorem dX5_become_0 : decode cX5_become 0 = .ok (.aload_n 0, 1) := by decide +kernel
theorem dX5_become_1 : decode cX5_become 1 = .ok (.aload_n 1, 1) := by decide +kernel
theorem dX5_become_2 : decode cX5_become 2 = .ok (.getfield 18, 3) := by decide +kernel
theorem dX5_become_5 : decode cX5_become 5 = .ok (.putfield 18, 3) := by decide +kernel
theorem dX5_become_8 : decode cX5_become 8 = .ok (.aload_n 1, 1) := by decide +kernel
theorem dX5_become_9 : decode cX5_become 9 = .ok (.getfield 9, 3) := by decide +kernel
theorem dX5_become_12 : decode cX5_become 12 = .ok (.iconst 0, 1) := by decide +kernel
theorem dX5_become_13 : decode cX5_become 13 = .ok (.aload_n 0, 1) := by decide +kernel
theorem dX5_become_14 : decode cX5_become 14 = .ok (.getfield 9, 3) := by decide +kernel
theorem dX5_become_17 : decode cX5_become 17 = .ok (.iconst 0, 1) := by decide +kernel
theorem dX5_become_18 : decode cX5_become 18 = .ok (.bipush 6, 2) := by decide +kernel
theorem dX5_become_20 : decode cX5_become 20 = .ok (.invokestatic 22, 3) := by decide +kernel
theorem dX5_become_23 : decode cX5_become 23 = .ok (.aload_n 1, 1) := by decide +kernel
theorem dX5_become_24 : decode cX5_become 24 = .ok (.getfield 15, 3) := by decide +kernel
theorem dX5_become_27 : decode cX5_become 27 = .ok (.iconst 0, 1) := by decide +kernel
theorem dX5_become_28 : decode cX5_become 28 = .ok (.aload_n 0, 1) := by decide +kernel
theorem dX5_become_29 : decode cX5_become 29 = .ok (.getfield 15, 3) := by decide +kernel
theorem dX5_become_32 : decode cX5_become 32 = .ok (.iconst 0, 1) := by decide +kernel
theorem dX5_become_33 : decode cX5_become 33 = .ok (.bipush 32, 2) := by decide +kernel
theorem dX5_become_35 : decode cX5_become 35 = .ok (.invokestatic 22, 3) := by decide +kernel
theorem dX5_become_38 : decode cX5_become 38 = .ok (.aload_n 0, 1) := by decide +kernel
theorem dX5_become_39 : decode cX5_become 39 = .ok (.aload_n 1, 1) := by decide +kernel
theorem dX5_become_40 : decode cX5_become 40 = .ok (.getfield 28, 3) := by decide +kernel
theorem dX5_become_43 : decode cX5_become 43 = .ok (.putfield 28, 3) := by decide +kernel
theorem dX5_become_46 : decode cX5_become 46 = .ok (.aload_n 0, 1) := by decide +kernel
theorem dX5_become_47 : decode cX5_become 47 = .ok (.aload_n 1, 1) := by decide +kernel
theorem dX5_become_48 : decode cX5_become 48 = .ok (.getfield 32, 3) := by decide +kernel
theorem dX5_become_51 : decode cX5_become 51 = .ok (.putfield 32, 3) := by decide +kernel
theorem dX5_become_54 : decode cX5_become 54 = .ok (.return_, 1) := by decide +kernel
theorem dX5_at_0 : decode cX5_at 0 = .ok (.aload_n 0, 1) := by decide +kernel
theorem dX5_at_1 : decode cX5_at 1 = .ok (.iload_n 1, 1) := by decide +kernel
theorem dX5_at_2 : decode cX5_at 2 = .ok (.iconst 0, 1) := by decide +kernel
theorem dX5_at_3 : decode cX5_at 3 = .ok (.invokevirtual 35, 3) := by decide +kernel
theorem dX5_at_6 : decode cX5_at 6 = .ok (.ireturn, 1) := by decide +kernel
theorem dX5_wasAt_0 : decode cX5_wasAt 0 = .ok (.aload_n 0, 1) := by decide +kernel
theorem dX5_wasAt_1 : decode cX5_wasAt 1 = .ok (.getfield 15, 3) := by decide +kernel
theorem dX5_wasAt_4 : decode cX5_wasAt 4 = .ok (.iload_n 1, 1) := by decide +kernel
theorem dX5_wasAt_5 : decode cX5_wasAt 5 = .ok (.bipush 8, 2) := by decide +kernel
theorem dX5_wasAt_7 : decode cX5_wasAt 7 = .ok (.imul, 1) := by decide +kernel
theorem dX5_wasAt_8 : decode cX5_wasAt 8 = .ok (.iload_n 2, 1) := by decide +kernel
theorem dX5_wasAt_9 : decode cX5_wasAt 9 = .ok (.iadd, 1) := by decide +kernel
theorem dX5_wasAt_10 : decode cX5_wasAt 10 = .ok (.iaload, 1) := by decide +kernel
theorem dX5_wasAt_11 : decode cX5_wasAt 11 = .ok (.ireturn, 1) := by decide +kernel
theorem dX5_settleAt_0 : decode cX5_settleAt 0 = .ok (.iconst 0, 1) := by decide +kernel
theorem dX5_settleAt_1 : decode cX5_settleAt 1 = .ok (.istore_n 3, 1) := by decide +kernel
theorem dX5_settleAt_2 : decode cX5_settleAt 2 = .ok (.iload_n 3, 1) := by decide +kernel
theorem dX5_settleAt_3 : decode cX5_settleAt 3 = .ok (.bipush 8, 2) := by decide +kernel
theorem dX5_settleAt_5 : decode cX5_settleAt 5 = .ok (.if_icmp .ge 21, 3) := by decide +kernel
theorem dX5_settleAt_8 : decode cX5_settleAt 8 = .ok (.aload_n 0, 1) := by decide +kernel
theorem dX5_settleAt_9 : decode cX5_settleAt 9 = .ok (.getfield 15, 3) := by decide +kernel
theorem dX5_settleAt_12 : decode cX5_settleAt 12 = .ok (.iload_n 1, 1) := by decide +kernel
theorem dX5_settleAt_13 : decode cX5_settleAt 13 = .ok (.bipush 8, 2) := by decide +kernel
theorem dX5_settleAt_15 : decode cX5_settleAt 15 = .ok (.imul, 1) := by decide +kernel
theorem dX5_settleAt_16 : decode cX5_settleAt 16 = .ok (.iload_n 3, 1) := by decide +kernel
theorem dX5_settleAt_17 : decode cX5_settleAt 17 = .ok (.iadd, 1) := by decide +kernel
theorem dX5_settleAt_18 : decode cX5_settleAt 18 = .ok (.iload_n 2, 1) := by decide +kernel
theorem dX5_settleAt_19 : decode cX5_settleAt 19 = .ok (.iastore, 1) := by decide +kernel
theorem dX5_settleAt_20 : decode cX5_settleAt 20 = .ok (.iinc 3 1, 3) := by decide +kernel
theorem dX5_settleAt_23 : decode cX5_settleAt 23 = .ok (.goto (-21), 3) := by decide +kernel
theorem dX5_settleAt_26 : decode cX5_settleAt 26 = .ok (.return_, 1) := by decide +kernel
theorem dX5_mayGo_0 : decode cX5_mayGo 0 = .ok (.iload_n 2, 1) := by decide +kernel
theorem dX5_mayGo_1 : decode cX5_mayGo 1 = .ok (.aload_n 0, 1) := by decide +kernel
theorem dX5_mayGo_2 : decode cX5_mayGo 2 = .ok (.iload_n 1, 1) := by decide +kernel
theorem dX5_mayGo_3 : decode cX5_mayGo 3 = .ok (.invokevirtual 39, 3) := by decide +kernel
theorem dX5_mayGo_6 : decode cX5_mayGo 6 = .ok (.if_icmp .eq 23, 3) := by decide +kernel
theorem dX5_mayGo_9 : decode cX5_mayGo 9 = .ok (.aload_n 0, 1) := by decide +kernel
theorem dX5_mayGo_10 : decode cX5_mayGo 10 = .ok (.getfield 18, 3) := by decide +kernel
theorem dX5_mayGo_13 : decode cX5_mayGo 13 = .ok (.getfield 43, 3) := by decide +kernel
theorem dX5_mayGo_16 : decode cX5_mayGo 16 = .ok (.aload_n 0, 1) := by decide +kernel
theorem dX5_mayGo_17 : decode cX5_mayGo 17 = .ok (.iload_n 1, 1) := by decide +kernel
theorem dX5_mayGo_18 : decode cX5_mayGo 18 = .ok (.invokevirtual 39, 3) := by decide +kernel
theorem dX5_mayGo_21 : decode cX5_mayGo 21 = .ok (.iaload, 1) := by decide +kernel
theorem dX5_mayGo_22 : decode cX5_mayGo 22 = .ok (.iload_n 2, 1) := by decide +kernel
theorem dX5_mayGo_23 : decode cX5_mayGo 23 = .ok (.invokestatic 48, 3) := by decide +kernel
theorem dX5_mayGo_26 : decode cX5_mayGo 26 = .ok (.ifCond .eq 7, 3) := by decide +kernel
theorem dX5_mayGo_29 : decode cX5_mayGo 29 = .ok (.iconst 1, 1) := by decide +kernel
theorem dX5_mayGo_30 : decode cX5_mayGo 30 = .ok (.goto 4, 3) := by decide +kernel
theorem dX5_mayGo_33 : decode cX5_mayGo 33 = .ok (.iconst 0, 1) := by decide +kernel
theorem dX5_mayGo_34 : decode cX5_mayGo 34 = .ok (.ireturn, 1) := by decide +kernel
theorem dX5_go_0 : decode cX5_go 0 = .ok (.bipush 7, 2) := by decide +kernel
theorem dX5_go_2 : decode cX5_go 2 = .ok (.istore_n 3, 1) := by decide +kernel
theorem dX5_go_3 : decode cX5_go 3 = .ok (.iload_n 3, 1) := by decide +kernel
theorem dX5_go_4 : decode cX5_go 4 = .ok (.ifCond .le 33, 3) := by decide +kernel
theorem dX5_go_7 : decode cX5_go 7 = .ok (.aload_n 0, 1) := by decide +kernel
theorem dX5_go_8 : decode cX5_go 8 = .ok (.getfield 15, 3) := by decide +kernel
theorem dX5_go_11 : decode cX5_go 11 = .ok (.iload_n 1, 1) := by decide +kernel
theorem dX5_go_12 : decode cX5_go 12 = .ok (.bipush 8, 2) := by decide +kernel
theorem dX5_go_14 : decode cX5_go 14 = .ok (.imul, 1) := by decide +kernel
theorem dX5_go_15 : decode cX5_go 15 = .ok (.iload_n 3, 1) := by decide +kernel
theorem dX5_go_16 : decode cX5_go 16 = .ok (.iadd, 1) := by decide +kernel
theorem dX5_go_17 : decode cX5_go 17 = .ok (.aload_n 0, 1) := by decide +kernel
theorem dX5_go_18 : decode cX5_go 18 = .ok (.getfield 15, 3) := by decide +kernel
theorem dX5_go_21 : decode cX5_go 21 = .ok (.iload_n 1, 1) := by decide +kernel
theorem dX5_go_22 : decode cX5_go 22 = .ok (.bipush 8, 2) := by decide +kernel
theorem dX5_go_24 : decode cX5_go 24 = .ok (.imul, 1) := by decide +kernel
theorem dX5_go_25 : decode cX5_go 25 = .ok (.iload_n 3, 1) := by decide +kernel
theorem dX5_go_26 : decode cX5_go 26 = .ok (.iadd, 1) := by decide +kernel
theorem dX5_go_27 : decode cX5_go 27 = .ok (.iconst 1, 1) := by decide +kernel
theorem dX5_go_28 : decode cX5_go 28 = .ok (.isub, 1) := by decide +kernel
theorem dX5_go_29 : decode cX5_go 29 = .ok (.iaload, 1) := by decide +kernel
theorem dX5_go_30 : decode cX5_go 30 = .ok (.iastore, 1) := by decide +kernel
theorem dX5_go_31 : decode cX5_go 31 = .ok (.iinc 3 (-1), 3) := by decide +kernel
theorem dX5_go_34 : decode cX5_go 34 = .ok (.goto (-31), 3) := by decide +kernel
theorem dX5_go_37 : decode cX5_go 37 = .ok (.aload_n 0, 1) := by decide +kernel
theorem dX5_go_38 : decode cX5_go 38 = .ok (.getfield 15, 3) := by decide +kernel
theorem dX5_go_41 : decode cX5_go 41 = .ok (.iload_n 1, 1) := by decide +kernel
theorem dX5_go_42 : decode cX5_go 42 = .ok (.bipush 8, 2) := by decide +kernel
theorem dX5_go_44 : decode cX5_go 44 = .ok (.imul, 1) := by decide +kernel
theorem dX5_go_45 : decode cX5_go 45 = .ok (.iload_n 2, 1) := by decide +kernel
theorem dX5_go_46 : decode cX5_go 46 = .ok (.iastore, 1) := by decide +kernel
theorem dX5_go_47 : decode cX5_go 47 = .ok (.return_, 1) := by decide +kernel
theorem dX5_goBack_0 : decode cX5_goBack 0 = .ok (.iconst 0, 1) := by decide +kernel
theorem dX5_goBack_1 : decode cX5_goBack 1 = .ok (.istore_n 3, 1) := by decide +kernel
theorem dX5_goBack_2 : decode cX5_goBack 2 = .ok (.iload_n 3, 1) := by decide +kernel
theorem dX5_goBack_3 : decode cX5_goBack 3 = .ok (.bipush 7, 2) := by decide +kernel
theorem dX5_goBack_5 : decode cX5_goBack 5 = .ok (.if_icmp .ge 33, 3) := by decide +kernel
theorem dX5_goBack_8 : decode cX5_goBack 8 = .ok (.aload_n 0, 1) := by decide +kernel
theorem dX5_goBack_9 : decode cX5_goBack 9 = .ok (.getfield 15, 3) := by decide +kernel
theorem dX5_goBack_12 : decode cX5_goBack 12 = .ok (.iload_n 1, 1) := by decide +kernel
theorem dX5_goBack_13 : decode cX5_goBack 13 = .ok (.bipush 8, 2) := by decide +kernel
theorem dX5_goBack_15 : decode cX5_goBack 15 = .ok (.imul, 1) := by decide +kernel
theorem dX5_goBack_16 : decode cX5_goBack 16 = .ok (.iload_n 3, 1) := by decide +kernel
theorem dX5_goBack_17 : decode cX5_goBack 17 = .ok (.iadd, 1) := by decide +kernel
theorem dX5_goBack_18 : decode cX5_goBack 18 = .ok (.aload_n 0, 1) := by decide +kernel
theorem dX5_goBack_19 : decode cX5_goBack 19 = .ok (.getfield 15, 3) := by decide +kernel
theorem dX5_goBack_22 : decode cX5_goBack 22 = .ok (.iload_n 1, 1) := by decide +kernel
theorem dX5_goBack_23 : decode cX5_goBack 23 = .ok (.bipush 8, 2) := by decide +kernel
theorem dX5_goBack_25 : decode cX5_goBack 25 = .ok (.imul, 1) := by decide +kernel
theorem dX5_goBack_26 : decode cX5_goBack 26 = .ok (.iload_n 3, 1) := by decide +kernel
theorem dX5_goBack_27 : decode cX5_goBack 27 = .ok (.iadd, 1) := by decide +kernel
theorem dX5_goBack_28 : decode cX5_goBack 28 = .ok (.iconst 1, 1) := by decide +kernel
theorem dX5_goBack_29 : decode cX5_goBack 29 = .ok (.iadd, 1) := by decide +kernel
theorem dX5_goBack_30 : decode cX5_goBack 30 = .ok (.iaload, 1) := by decide +kernel
theorem dX5_goBack_31 : decode cX5_goBack 31 = .ok (.iastore, 1) := by decide +kernel
theorem dX5_goBack_32 : decode cX5_goBack 32 = .ok (.iinc 3 1, 3) := by decide +kernel
theorem dX5_goBack_35 : decode cX5_goBack 35 = .ok (.goto (-33), 3) := by decide +kernel
theorem dX5_goBack_38 : decode cX5_goBack 38 = .ok (.aload_n 0, 1) := by decide +kernel
theorem dX5_goBack_39 : decode cX5_goBack 39 = .ok (.getfield 15, 3) := by decide +kernel
theorem dX5_goBack_42 : decode cX5_goBack 42 = .ok (.iload_n 1, 1) := by decide +kernel
theorem dX5_goBack_43 : decode cX5_goBack 43 = .ok (.bipush 8, 2) := by decide +kernel
theorem dX5_goBack_45 : decode cX5_goBack 45 = .ok (.imul, 1) := by decide +kernel
theorem dX5_goBack_46 : decode cX5_goBack 46 = .ok (.bipush 8, 2) := by decide +kernel
theorem dX5_goBack_48 : decode cX5_goBack 48 = .ok (.iadd, 1) := by decide +kernel
theorem dX5_goBack_49 : decode cX5_goBack 49 = .ok (.iconst 1, 1) := by decide +kernel
theorem dX5_goBack_50 : decode cX5_goBack 50 = .ok (.isub, 1) := by decide +kernel
theorem dX5_goBack_51 : decode cX5_goBack 51 = .ok (.iload_n 2, 1) := by decide +kernel
theorem dX5_goBack_52 : decode cX5_goBack 52 = .ok (.iastore, 1) := by decide +kernel
theorem dX5_goBack_53 : decode cX5_goBack 53 = .ok (.return_, 1) := by decide +kernel
theorem dX5_isLit_0 : decode cX5_isLit 0 = .ok (.aload_n 0, 1) := by decide +kernel
theorem dX5_isLit_1 : decode cX5_isLit 1 = .ok (.getfield 28, 3) := by decide +kernel
theorem dX5_isLit_4 : decode cX5_isLit 4 = .ok (.iload_n 1, 1) := by decide +kernel
theorem dX5_isLit_5 : decode cX5_isLit 5 = .ok (.invokestatic 48, 3) := by decide +kernel
theorem dX5_isLit_8 : decode cX5_isLit 8 = .ok (.ireturn, 1) := by decide +kernel
theorem dX5_turnLamp_0 : decode cX5_turnLamp 0 = .ok (.aload_n 0, 1) := by decide +kernel
theorem dX5_turnLamp_1 : decode cX5_turnLamp 1 = .ok (.dup, 1) := by decide +kernel
theorem dX5_turnLamp_2 : decode cX5_turnLamp 2 = .ok (.getfield 28, 3) := by decide +kernel
theorem dX5_turnLamp_5 : decode cX5_turnLamp 5 = .ok (.iconst 1, 1) := by decide +kernel
theorem dX5_turnLamp_6 : decode cX5_turnLamp 6 = .ok (.iload_n 1, 1) := by decide +kernel
theorem dX5_turnLamp_7 : decode cX5_turnLamp 7 = .ok (.ishl, 1) := by decide +kernel
theorem dX5_turnLamp_8 : decode cX5_turnLamp 8 = .ok (.ixor, 1) := by decide +kernel
theorem dX5_turnLamp_9 : decode cX5_turnLamp 9 = .ok (.putfield 28, 3) := by decide +kernel
theorem dX5_turnLamp_12 : decode cX5_turnLamp 12 = .ok (.return_, 1) := by decide +kernel
theorem dX5_standBehind_0 : decode cX5_standBehind 0 = .ok (.aload_n 0, 1) := by decide +kernel
theorem dX5_standBehind_1 : decode cX5_standBehind 1 = .ok (.getfield 18, 3) := by decide +kernel
theorem dX5_standBehind_4 : decode cX5_standBehind 4 = .ok (.iload_n 1, 1) := by decide +kernel
theorem dX5_standBehind_5 : decode cX5_standBehind 5 = .ok (.iload_n 2, 1) := by decide +kernel
theorem dX5_standBehind_6 : decode cX5_standBehind 6 = .ok (.invokevirtual 52, 3) := by decide +kernel
theorem dX5_standBehind_9 : decode cX5_standBehind 9 = .ok (.istore_n 3, 1) := by decide +kernel
theorem dX5_standBehind_10 : decode cX5_standBehind 10 = .ok (.iload_n 3, 1) := by decide +kernel
theorem dX5_standBehind_11 : decode cX5_standBehind 11 = .ok (.bipush 8, 2) := by decide +kernel
theorem dX5_standBehind_13 : decode cX5_standBehind 13 = .ok (.if_icmp .ge 37, 3) := by decide +kernel
theorem dX5_standBehind_16 : decode cX5_standBehind 16 = .ok (.aload_n 0, 1) := by decide +kernel
theorem dX5_standBehind_17 : decode cX5_standBehind 17 = .ok (.getfield 15, 3) := by decide +kernel
theorem dX5_standBehind_20 : decode cX5_standBehind 20 = .ok (.iload_n 1, 1) := by decide +kernel
theorem dX5_standBehind_21 : decode cX5_standBehind 21 = .ok (.bipush 8, 2) := by decide +kernel
theorem dX5_standBehind_23 : decode cX5_standBehind 23 = .ok (.imul, 1) := by decide +kernel
theorem dX5_standBehind_24 : decode cX5_standBehind 24 = .ok (.iload_n 3, 1) := by decide +kernel
theorem dX5_standBehind_25 : decode cX5_standBehind 25 = .ok (.iadd, 1) := by decide +kernel
theorem dX5_standBehind_26 : decode cX5_standBehind 26 = .ok (.iaload, 1) := by decide +kernel
theorem dX5_standBehind_27 : decode cX5_standBehind 27 = .ok (.istore 4, 2) := by decide +kernel
theorem dX5_standBehind_29 : decode cX5_standBehind 29 = .ok (.aload_n 0, 1) := by decide +kernel
theorem dX5_standBehind_30 : decode cX5_standBehind 30 = .ok (.getfield 28, 3) := by decide +kernel
theorem dX5_standBehind_33 : decode cX5_standBehind 33 = .ok (.iload 4, 2) := by decide +kernel
theorem dX5_standBehind_35 : decode cX5_standBehind 35 = .ok (.invokestatic 48, 3) := by decide +kernel
theorem dX5_standBehind_38 : decode cX5_standBehind 38 = .ok (.ifCond .ne 6, 3) := by decide +kernel
theorem dX5_standBehind_41 : decode cX5_standBehind 41 = .ok (.iload 4, 2) := by decide +kernel
theorem dX5_standBehind_43 : decode cX5_standBehind 43 = .ok (.ireturn, 1) := by decide +kernel
theorem dX5_standBehind_44 : decode cX5_standBehind 44 = .ok (.iinc 3 1, 3) := by decide +kernel
theorem dX5_standBehind_47 : decode cX5_standBehind 47 = .ok (.goto (-37), 3) := by decide +kernel
theorem dX5_standBehind_50 : decode cX5_standBehind 50 = .ok (.bipush (-2), 2) := by decide +kernel
theorem dX5_standBehind_52 : decode cX5_standBehind 52 = .ok (.ireturn, 1) := by decide +kernel
theorem dX5_standOf_0 : decode cX5_standOf 0 = .ok (.aload_n 0, 1) := by decide +kernel
theorem dX5_standOf_1 : decode cX5_standOf 1 = .ok (.aload_n 0, 1) := by decide +kernel
theorem dX5_standOf_2 : decode cX5_standOf 2 = .ok (.getfield 9, 3) := by decide +kernel
theorem dX5_standOf_5 : decode cX5_standOf 5 = .ok (.iload_n 1, 1) := by decide +kernel
theorem dX5_standOf_6 : decode cX5_standOf 6 = .ok (.iaload, 1) := by decide +kernel
theorem dX5_standOf_7 : decode cX5_standOf 7 = .ok (.aload_n 0, 1) := by decide +kernel
theorem dX5_standOf_8 : decode cX5_standOf 8 = .ok (.getfield 18, 3) := by decide +kernel
theorem dX5_standOf_11 : decode cX5_standOf 11 = .ok (.getfield 55, 3) := by decide +kernel
theorem dX5_standOf_14 : decode cX5_standOf 14 = .ok (.iload_n 1, 1) := by decide +kernel
theorem dX5_standOf_15 : decode cX5_standOf 15 = .ok (.iaload, 1) := by decide +kernel
theorem dX5_standOf_16 : decode cX5_standOf 16 = .ok (.invokevirtual 58, 3) := by decide +kernel
theorem dX5_standOf_19 : decode cX5_standOf 19 = .ok (.ireturn, 1) := by decide +kernel
theorem dX5_killsAt_0 : decode cX5_killsAt 0 = .ok (.aload_n 0, 1) := by decide +kernel
theorem dX5_killsAt_1 : decode cX5_killsAt 1 = .ok (.iconst 1, 1) := by decide +kernel
theorem dX5_killsAt_2 : decode cX5_killsAt 2 = .ok (.iload_n 1, 1) := by decide +kernel
theorem dX5_killsAt_3 : decode cX5_killsAt 3 = .ok (.ishl, 1) := by decide +kernel
theorem dX5_killsAt_4 : decode cX5_killsAt 4 = .ok (.invokevirtual 61, 3) := by decide +kernel
theorem dX5_killsAt_7 : decode cX5_killsAt 7 = .ok (.ireturn, 1) := by decide +kernel
theorem dX5_killsAround_0 : decode cX5_killsAround 0 = .ok (.aload_n 0, 1) := by decide +kernel
theorem dX5_killsAround_1 : decode cX5_killsAround 1 = .ok (.aload_n 0, 1) := by decide +kernel
theorem dX5_killsAround_2 : decode cX5_killsAround 2 = .ok (.getfield 18, 3) := by decide +kernel
theorem dX5_killsAround_5 : decode cX5_killsAround 5 = .ok (.getfield 43, 3) := by decide +kernel
theorem dX5_killsAround_8 : decode cX5_killsAround 8 = .ok (.aload_n 0, 1) := by decide +kernel
theorem dX5_killsAround_9 : decode cX5_killsAround 9 = .ok (.iload_n 1, 1) := by decide +kernel
theorem dX5_killsAround_10 : decode cX5_killsAround 10 = .ok (.invokevirtual 39, 3) := by decide +kernel
theorem dX5_killsAround_13 : decode cX5_killsAround 13 = .ok (.iaload, 1) := by decide +kernel
theorem dX5_killsAround_14 : decode cX5_killsAround 14 = .ok (.iconst 1, 1) := by decide +kernel
theorem dX5_killsAround_15 : decode cX5_killsAround 15 = .ok (.aload_n 0, 1) := by decide +kernel
theorem dX5_killsAround_16 : decode cX5_killsAround 16 = .ok (.iload_n 1, 1) := by decide +kernel
theorem dX5_killsAround_17 : decode cX5_killsAround 17 = .ok (.invokevirtual 39, 3) := by decide +kernel
theorem dX5_killsAround_20 : decode cX5_killsAround 20 = .ok (.ishl, 1) := by decide +kernel
theorem dX5_killsAround_21 : decode cX5_killsAround 21 = .ok (.ior, 1) := by decide +kernel
theorem dX5_killsAround_22 : decode cX5_killsAround 22 = .ok (.invokevirtual 61, 3) := by decide +kernel
theorem dX5_killsAround_25 : decode cX5_killsAround 25 = .ok (.ireturn, 1) := by decide +kernel
theorem dX5_killsWithin_0 : decode cX5_killsWithin 0 = .ok (.iconst 0, 1) := by decide +kernel
theorem dX5_killsWithin_1 : decode cX5_killsWithin 1 = .ok (.istore_n 2, 1) := by decide +kernel
theorem dX5_killsWithin_2 : decode cX5_killsWithin 2 = .ok (.iconst 0, 1) := by decide +kernel
theorem dX5_killsWithin_3 : decode cX5_killsWithin 3 = .ok (.istore_n 3, 1) := by decide +kernel
theorem dX5_killsWithin_4 : decode cX5_killsWithin 4 = .ok (.iload_n 3, 1) := by decide +kernel
theorem dX5_killsWithin_5 : decode cX5_killsWithin 5 = .ok (.aload_n 0, 1) := by decide +kernel
theorem dX5_killsWithin_6 : decode cX5_killsWithin 6 = .ok (.getfield 18, 3) := by decide +kernel
theorem dX5_killsWithin_9 : decode cX5_killsWithin 9 = .ok (.getfield 64, 3) := by decide +kernel
theorem dX5_killsWithin_12 : decode cX5_killsWithin 12 = .ok (.iconst 4, 1) := by decide +kernel
theorem dX5_killsWithin_13 : decode cX5_killsWithin 13 = .ok (.iaload, 1) := by decide +kernel
theorem dX5_killsWithin_14 : decode cX5_killsWithin 14 = .ok (.if_icmp .ge 36, 3) := by decide +kernel
theorem dX5_killsWithin_17 : decode cX5_killsWithin 17 = .ok (.aload_n 0, 1) := by decide +kernel
theorem dX5_killsWithin_18 : decode cX5_killsWithin 18 = .ok (.iload_n 3, 1) := by decide +kernel
theorem dX5_killsWithin_19 : decode cX5_killsWithin 19 = .ok (.invokevirtual 67, 3) := by decide +kernel
theorem dX5_killsWithin_22 : decode cX5_killsWithin 22 = .ok (.istore 4, 2) := by decide +kernel
theorem dX5_killsWithin_24 : decode cX5_killsWithin 24 = .ok (.iload 4, 2) := by decide +kernel
theorem dX5_killsWithin_26 : decode cX5_killsWithin 26 = .ok (.ifCond .lt 18, 3) := by decide +kernel
theorem dX5_killsWithin_29 : decode cX5_killsWithin 29 = .ok (.iload_n 1, 1) := by decide +kernel
theorem dX5_killsWithin_30 : decode cX5_killsWithin 30 = .ok (.iload 4, 2) := by decide +kernel
theorem dX5_killsWithin_32 : decode cX5_killsWithin 32 = .ok (.invokestatic 48, 3) := by decide +kernel
theorem dX5_killsWithin_35 : decode cX5_killsWithin 35 = .ok (.ifCond .eq 9, 3) := by decide +kernel
theorem dX5_killsWithin_38 : decode cX5_killsWithin 38 = .ok (.iload_n 2, 1) := by decide +kernel
theorem dX5_killsWithin_39 : decode cX5_killsWithin 39 = .ok (.iconst 1, 1) := by decide +kernel
theorem dX5_killsWithin_40 : decode cX5_killsWithin 40 = .ok (.iload_n 3, 1) := by decide +kernel
theorem dX5_killsWithin_41 : decode cX5_killsWithin 41 = .ok (.ishl, 1) := by decide +kernel
theorem dX5_killsWithin_42 : decode cX5_killsWithin 42 = .ok (.ior, 1) := by decide +kernel
theorem dX5_killsWithin_43 : decode cX5_killsWithin 43 = .ok (.istore_n 2, 1) := by decide +kernel
theorem dX5_killsWithin_44 : decode cX5_killsWithin 44 = .ok (.iinc 3 1, 3) := by decide +kernel
theorem dX5_killsWithin_47 : decode cX5_killsWithin 47 = .ok (.goto (-43), 3) := by decide +kernel
theorem dX5_killsWithin_50 : decode cX5_killsWithin 50 = .ok (.iload_n 2, 1) := by decide +kernel
theorem dX5_killsWithin_51 : decode cX5_killsWithin 51 = .ok (.ireturn, 1) := by decide +kernel
theorem dX5_killsElsewhereThan_0 : decode cX5_killsElsewhereThan 0 = .ok (.iconst 0, 1) := by decide +kernel
theorem dX5_killsElsewhereThan_1 : decode cX5_killsElsewhereThan 1 = .ok (.istore_n 2, 1) := by decide +kernel
theorem dX5_killsElsewhereThan_2 : decode cX5_killsElsewhereThan 2 = .ok (.iconst 0, 1) := by decide +kernel
theorem dX5_killsElsewhereThan_3 : decode cX5_killsElsewhereThan 3 = .ok (.istore_n 3, 1) := by decide +kernel
theorem dX5_killsElsewhereThan_4 : decode cX5_killsElsewhereThan 4 = .ok (.iload_n 3, 1) := by decide +kernel
theorem dX5_killsElsewhereThan_5 : decode cX5_killsElsewhereThan 5 = .ok (.aload_n 0, 1) := by decide +kernel
theorem dX5_killsElsewhereThan_6 : decode cX5_killsElsewhereThan 6 = .ok (.getfield 18, 3) := by decide +kernel
theorem dX5_killsElsewhereThan_9 : decode cX5_killsElsewhereThan 9 = .ok (.getfield 64, 3) := by decide +kernel
theorem dX5_killsElsewhereThan_12 : decode cX5_killsElsewhereThan 12 = .ok (.iconst 4, 1) := by decide +kernel
theorem dX5_killsElsewhereThan_13 : decode cX5_killsElsewhereThan 13 = .ok (.iaload, 1) := by decide +kernel
theorem dX5_killsElsewhereThan_14 : decode cX5_killsElsewhereThan 14 = .ok (.if_icmp .ge 28, 3) := by decide +kernel
theorem dX5_killsElsewhereThan_17 : decode cX5_killsElsewhereThan 17 = .ok (.aload_n 0, 1) := by decide +kernel
theorem dX5_killsElsewhereThan_18 : decode cX5_killsElsewhereThan 18 = .ok (.iload_n 3, 1) := by decide +kernel
theorem dX5_killsElsewhereThan_19 : decode cX5_killsElsewhereThan 19 = .ok (.invokevirtual 67, 3) := by decide +kernel
theorem dX5_killsElsewhereThan_22 : decode cX5_killsElsewhereThan 22 = .ok (.aload_n 1, 1) := by decide +kernel
theorem dX5_killsElsewhereThan_23 : decode cX5_killsElsewhereThan 23 = .ok (.iload_n 3, 1) := by decide +kernel
theorem dX5_killsElsewhereThan_24 : decode cX5_killsElsewhereThan 24 = .ok (.invokevirtual 67, 3) := by decide +kernel
theorem dX5_killsElsewhereThan_27 : decode cX5_killsElsewhereThan 27 = .ok (.if_icmp .eq 9, 3) := by decide +kernel
theorem dX5_killsElsewhereThan_30 : decode cX5_killsElsewhereThan 30 = .ok (.iload_n 2, 1) := by decide +kernel
theorem dX5_killsElsewhereThan_31 : decode cX5_killsElsewhereThan 31 = .ok (.iconst 1, 1) := by decide +kernel
theorem dX5_killsElsewhereThan_32 : decode cX5_killsElsewhereThan 32 = .ok (.iload_n 3, 1) := by decide +kernel
theorem dX5_killsElsewhereThan_33 : decode cX5_killsElsewhereThan 33 = .ok (.ishl, 1) := by decide +kernel
theorem dX5_killsElsewhereThan_34 : decode cX5_killsElsewhereThan 34 = .ok (.ior, 1) := by decide +kernel
theorem dX5_killsElsewhereThan_35 : decode cX5_killsElsewhereThan 35 = .ok (.istore_n 2, 1) := by decide +kernel
theorem dX5_killsElsewhereThan_36 : decode cX5_killsElsewhereThan 36 = .ok (.iinc 3 1, 3) := by decide +kernel
theorem dX5_killsElsewhereThan_39 : decode cX5_killsElsewhereThan 39 = .ok (.goto (-35), 3) := by decide +kernel
theorem dX5_killsElsewhereThan_42 : decode cX5_killsElsewhereThan 42 = .ok (.iload_n 2, 1) := by decide +kernel
theorem dX5_killsElsewhereThan_43 : decode cX5_killsElsewhereThan 43 = .ok (.ireturn, 1) := by decide +kernel
theorem dX5_soManiethNowhere_0 : decode cX5_soManiethNowhere 0 = .ok (.iload_n 1, 1) := by decide +kernel
theorem dX5_soManiethNowhere_1 : decode cX5_soManiethNowhere 1 = .ok (.istore_n 2, 1) := by decide +kernel
theorem dX5_soManiethNowhere_2 : decode cX5_soManiethNowhere 2 = .ok (.iconst 0, 1) := by decide +kernel
theorem dX5_soManiethNowhere_3 : decode cX5_soManiethNowhere 3 = .ok (.istore_n 3, 1) := by decide +kernel
theorem dX5_soManiethNowhere_4 : decode cX5_soManiethNowhere 4 = .ok (.iload_n 3, 1) := by decide +kernel
theorem dX5_soManiethNowhere_5 : decode cX5_soManiethNowhere 5 = .ok (.aload_n 0, 1) := by decide +kernel
theorem dX5_soManiethNowhere_6 : decode cX5_soManiethNowhere 6 = .ok (.getfield 18, 3) := by decide +kernel
theorem dX5_soManiethNowhere_9 : decode cX5_soManiethNowhere 9 = .ok (.getfield 64, 3) := by decide +kernel
theorem dX5_soManiethNowhere_12 : decode cX5_soManiethNowhere 12 = .ok (.iconst 4, 1) := by decide +kernel
theorem dX5_soManiethNowhere_13 : decode cX5_soManiethNowhere 13 = .ok (.iaload, 1) := by decide +kernel
theorem dX5_soManiethNowhere_14 : decode cX5_soManiethNowhere 14 = .ok (.if_icmp .ge 28, 3) := by decide +kernel
theorem dX5_soManiethNowhere_17 : decode cX5_soManiethNowhere 17 = .ok (.aload_n 0, 1) := by decide +kernel
theorem dX5_soManiethNowhere_18 : decode cX5_soManiethNowhere 18 = .ok (.iload_n 3, 1) := by decide +kernel
theorem dX5_soManiethNowhere_19 : decode cX5_soManiethNowhere 19 = .ok (.invokevirtual 67, 3) := by decide +kernel
theorem dX5_soManiethNowhere_22 : decode cX5_soManiethNowhere 22 = .ok (.bipush (-2), 2) := by decide +kernel
theorem dX5_soManiethNowhere_24 : decode cX5_soManiethNowhere 24 = .ok (.if_icmp .ne 12, 3) := by decide +kernel
theorem dX5_soManiethNowhere_27 : decode cX5_soManiethNowhere 27 = .ok (.iload_n 2, 1) := by decide +kernel
theorem dX5_soManiethNowhere_28 : decode cX5_soManiethNowhere 28 = .ok (.ifCond .ne 5, 3) := by decide +kernel
theorem dX5_soManiethNowhere_31 : decode cX5_soManiethNowhere 31 = .ok (.iload_n 3, 1) := by decide +kernel
theorem dX5_soManiethNowhere_32 : decode cX5_soManiethNowhere 32 = .ok (.ireturn, 1) := by decide +kernel
theorem dX5_soManiethNowhere_33 : decode cX5_soManiethNowhere 33 = .ok (.iinc 2 (-1), 3) := by decide +kernel
theorem dX5_soManiethNowhere_36 : decode cX5_soManiethNowhere 36 = .ok (.iinc 3 1, 3) := by decide +kernel
theorem dX5_soManiethNowhere_39 : decode cX5_soManiethNowhere 39 = .ok (.goto (-35), 3) := by decide +kernel
theorem dX5_soManiethNowhere_42 : decode cX5_soManiethNowhere 42 = .ok (.bipush (-2), 2) := by decide +kernel
theorem dX5_soManiethNowhere_44 : decode cX5_soManiethNowhere 44 = .ok (.ireturn, 1) := by decide +kernel
theorem dX5_killsBehind_0 : decode cX5_killsBehind 0 = .ok (.iconst 0, 1) := by decide +kernel
theorem dX5_killsBehind_1 : decode cX5_killsBehind 1 = .ok (.istore_n 2, 1) := by decide +kernel
theorem dX5_killsBehind_2 : decode cX5_killsBehind 2 = .ok (.iconst 0, 1) := by decide +kernel
theorem dX5_killsBehind_3 : decode cX5_killsBehind 3 = .ok (.istore_n 3, 1) := by decide +kernel
theorem dX5_killsBehind_4 : decode cX5_killsBehind 4 = .ok (.iload_n 3, 1) := by decide +kernel
theorem dX5_killsBehind_5 : decode cX5_killsBehind 5 = .ok (.aload_n 0, 1) := by decide +kernel
theorem dX5_killsBehind_6 : decode cX5_killsBehind 6 = .ok (.getfield 18, 3) := by decide +kernel
theorem dX5_killsBehind_9 : decode cX5_killsBehind 9 = .ok (.getfield 64, 3) := by decide +kernel
theorem dX5_killsBehind_12 : decode cX5_killsBehind 12 = .ok (.iconst 4, 1) := by decide +kernel
theorem dX5_killsBehind_13 : decode cX5_killsBehind 13 = .ok (.iaload, 1) := by decide +kernel
theorem dX5_killsBehind_14 : decode cX5_killsBehind 14 = .ok (.if_icmp .ge 25, 3) := by decide +kernel
theorem dX5_killsBehind_17 : decode cX5_killsBehind 17 = .ok (.aload_n 0, 1) := by decide +kernel
theorem dX5_killsBehind_18 : decode cX5_killsBehind 18 = .ok (.getfield 9, 3) := by decide +kernel
theorem dX5_killsBehind_21 : decode cX5_killsBehind 21 = .ok (.iload_n 3, 1) := by decide +kernel
theorem dX5_killsBehind_22 : decode cX5_killsBehind 22 = .ok (.iaload, 1) := by decide +kernel
theorem dX5_killsBehind_23 : decode cX5_killsBehind 23 = .ok (.iload_n 1, 1) := by decide +kernel
theorem dX5_killsBehind_24 : decode cX5_killsBehind 24 = .ok (.if_icmp .ne 9, 3) := by decide +kernel
theorem dX5_killsBehind_27 : decode cX5_killsBehind 27 = .ok (.iload_n 2, 1) := by decide +kernel
theorem dX5_killsBehind_28 : decode cX5_killsBehind 28 = .ok (.iconst 1, 1) := by decide +kernel
theorem dX5_killsBehind_29 : decode cX5_killsBehind 29 = .ok (.iload_n 3, 1) := by decide +kernel
theorem dX5_killsBehind_30 : decode cX5_killsBehind 30 = .ok (.ishl, 1) := by decide +kernel
theorem dX5_killsBehind_31 : decode cX5_killsBehind 31 = .ok (.ior, 1) := by decide +kernel
theorem dX5_killsBehind_32 : decode cX5_killsBehind 32 = .ok (.istore_n 2, 1) := by decide +kernel
theorem dX5_killsBehind_33 : decode cX5_killsBehind 33 = .ok (.iinc 3 1, 3) := by decide +kernel
theorem dX5_killsBehind_36 : decode cX5_killsBehind 36 = .ok (.goto (-32), 3) := by decide +kernel
theorem dX5_killsBehind_39 : decode cX5_killsBehind 39 = .ok (.iload_n 2, 1) := by decide +kernel
theorem dX5_killsBehind_40 : decode cX5_killsBehind 40 = .ok (.ireturn, 1) := by decide +kernel
theorem dX5_menAt_0 : decode cX5_menAt 0 = .ok (.iconst 0, 1) := by decide +kernel
theorem dX5_menAt_1 : decode cX5_menAt 1 = .ok (.istore_n 2, 1) := by decide +kernel
theorem dX5_menAt_2 : decode cX5_menAt 2 = .ok (.iconst 0, 1) := by decide +kernel
theorem dX5_menAt_3 : decode cX5_menAt 3 = .ok (.istore_n 3, 1) := by decide +kernel
theorem dX5_menAt_4 : decode cX5_menAt 4 = .ok (.iload_n 3, 1) := by decide +kernel
theorem dX5_menAt_5 : decode cX5_menAt 5 = .ok (.aload_n 0, 1) := by decide +kernel
theorem dX5_menAt_6 : decode cX5_menAt 6 = .ok (.getfield 18, 3) := by decide +kernel
theorem dX5_menAt_9 : decode cX5_menAt 9 = .ok (.getfield 64, 3) := by decide +kernel
theorem dX5_menAt_12 : decode cX5_menAt 12 = .ok (.iconst 3, 1) := by decide +kernel
theorem dX5_menAt_13 : decode cX5_menAt 13 = .ok (.iaload, 1) := by decide +kernel
theorem dX5_menAt_14 : decode cX5_menAt 14 = .ok (.if_icmp .ge 24, 3) := by decide +kernel
theorem dX5_menAt_17 : decode cX5_menAt 17 = .ok (.aload_n 0, 1) := by decide +kernel
theorem dX5_menAt_18 : decode cX5_menAt 18 = .ok (.iload_n 3, 1) := by decide +kernel
theorem dX5_menAt_19 : decode cX5_menAt 19 = .ok (.invokevirtual 39, 3) := by decide +kernel
theorem dX5_menAt_22 : decode cX5_menAt 22 = .ok (.iload_n 1, 1) := by decide +kernel
theorem dX5_menAt_23 : decode cX5_menAt 23 = .ok (.if_icmp .ne 9, 3) := by decide +kernel
theorem dX5_menAt_26 : decode cX5_menAt 26 = .ok (.iload_n 2, 1) := by decide +kernel
theorem dX5_menAt_27 : decode cX5_menAt 27 = .ok (.iconst 1, 1) := by decide +kernel
theorem dX5_menAt_28 : decode cX5_menAt 28 = .ok (.iload_n 3, 1) := by decide +kernel
theorem dX5_menAt_29 : decode cX5_menAt 29 = .ok (.ishl, 1) := by decide +kernel
theorem dX5_menAt_30 : decode cX5_menAt 30 = .ok (.ior, 1) := by decide +kernel
theorem dX5_menAt_31 : decode cX5_menAt 31 = .ok (.istore_n 2, 1) := by decide +kernel
theorem dX5_menAt_32 : decode cX5_menAt 32 = .ok (.iinc 3 1, 3) := by decide +kernel
theorem dX5_menAt_35 : decode cX5_menAt 35 = .ok (.goto (-31), 3) := by decide +kernel
theorem dX5_menAt_38 : decode cX5_menAt 38 = .ok (.iload_n 2, 1) := by decide +kernel
theorem dX5_menAt_39 : decode cX5_menAt 39 = .ok (.ireturn, 1) := by decide +kernel
theorem dX5_twoMenTogether_0 : decode cX5_twoMenTogether 0 = .ok (.iconst 0, 1) := by decide +kernel
theorem dX5_twoMenTogether_1 : decode cX5_twoMenTogether 1 = .ok (.istore_n 1, 1) := by decide +kernel
theorem dX5_twoMenTogether_2 : decode cX5_twoMenTogether 2 = .ok (.iload_n 1, 1) := by decide +kernel
theorem dX5_twoMenTogether_3 : decode cX5_twoMenTogether 3 = .ok (.aload_n 0, 1) := by decide +kernel
theorem dX5_twoMenTogether_4 : decode cX5_twoMenTogether 4 = .ok (.getfield 18, 3) := by decide +kernel
theorem dX5_twoMenTogether_7 : decode cX5_twoMenTogether 7 = .ok (.getfield 64, 3) := by decide +kernel
theorem dX5_twoMenTogether_10 : decode cX5_twoMenTogether 10 = .ok (.iconst 1, 1) := by decide +kernel
theorem dX5_twoMenTogether_11 : decode cX5_twoMenTogether 11 = .ok (.iaload, 1) := by decide +kernel
theorem dX5_twoMenTogether_12 : decode cX5_twoMenTogether 12 = .ok (.if_icmp .ge 23, 3) := by decide +kernel
theorem dX5_twoMenTogether_15 : decode cX5_twoMenTogether 15 = .ok (.aload_n 0, 1) := by decide +kernel
theorem dX5_twoMenTogether_16 : decode cX5_twoMenTogether 16 = .ok (.iload_n 1, 1) := by decide +kernel
theorem dX5_twoMenTogether_17 : decode cX5_twoMenTogether 17 = .ok (.invokevirtual 70, 3) := by decide +kernel
theorem dX5_twoMenTogether_20 : decode cX5_twoMenTogether 20 = .ok (.invokestatic 73, 3) := by decide +kernel
theorem dX5_twoMenTogether_23 : decode cX5_twoMenTogether 23 = .ok (.iconst 1, 1) := by decide +kernel
theorem dX5_twoMenTogether_24 : decode cX5_twoMenTogether 24 = .ok (.if_icmp .le 5, 3) := by decide +kernel
theorem dX5_twoMenTogether_27 : decode cX5_twoMenTogether 27 = .ok (.iconst 1, 1) := by decide +kernel
theorem dX5_twoMenTogether_28 : decode cX5_twoMenTogether 28 = .ok (.ireturn, 1) := by decide +kernel
theorem dX5_twoMenTogether_29 : decode cX5_twoMenTogether 29 = .ok (.iinc 1 1, 3) := by decide +kernel
theorem dX5_twoMenTogether_32 : decode cX5_twoMenTogether 32 = .ok (.goto (-30), 3) := by decide +kernel
theorem dX5_twoMenTogether_35 : decode cX5_twoMenTogether 35 = .ok (.iconst 0, 1) := by decide +kernel
theorem dX5_twoMenTogether_36 : decode cX5_twoMenTogether 36 = .ok (.ireturn, 1) := by decide +kernel
theorem dX5_mostFollowed_0 : decode cX5_mostFollowed 0 = .ok (.bipush (-2), 2) := by decide +kernel
theorem dX5_mostFollowed_2 : decode cX5_mostFollowed 2 = .ok (.istore_n 1, 1) := by decide +kernel
theorem dX5_mostFollowed_3 : decode cX5_mostFollowed 3 = .ok (.iconst (-1), 1) := by decide +kernel
theorem dX5_mostFollowed_4 : decode cX5_mostFollowed 4 = .ok (.istore_n 2, 1) := by decide +kernel
theorem dX5_mostFollowed_5 : decode cX5_mostFollowed 5 = .ok (.iconst 0, 1) := by decide +kernel
theorem dX5_mostFollowed_6 : decode cX5_mostFollowed 6 = .ok (.istore_n 3, 1) := by decide +kernel
theorem dX5_mostFollowed_7 : decode cX5_mostFollowed 7 = .ok (.iload_n 3, 1) := by decide +kernel
theorem dX5_mostFollowed_8 : decode cX5_mostFollowed 8 = .ok (.aload_n 0, 1) := by decide +kernel
theorem dX5_mostFollowed_9 : decode cX5_mostFollowed 9 = .ok (.getfield 18, 3) := by decide +kernel
theorem dX5_mostFollowed_12 : decode cX5_mostFollowed 12 = .ok (.getfield 64, 3) := by decide +kernel
theorem dX5_mostFollowed_15 : decode cX5_mostFollowed 15 = .ok (.iconst 3, 1) := by decide +kernel
theorem dX5_mostFollowed_16 : decode cX5_mostFollowed 16 = .ok (.iaload, 1) := by decide +kernel
theorem dX5_mostFollowed_17 : decode cX5_mostFollowed 17 = .ok (.if_icmp .ge 30, 3) := by decide +kernel
theorem dX5_mostFollowed_20 : decode cX5_mostFollowed 20 = .ok (.aload_n 0, 1) := by decide +kernel
theorem dX5_mostFollowed_21 : decode cX5_mostFollowed 21 = .ok (.iload_n 3, 1) := by decide +kernel
theorem dX5_mostFollowed_22 : decode cX5_mostFollowed 22 = .ok (.invokevirtual 78, 3) := by decide +kernel
theorem dX5_mostFollowed_25 : decode cX5_mostFollowed 25 = .ok (.invokestatic 73, 3) := by decide +kernel
theorem dX5_mostFollowed_28 : decode cX5_mostFollowed 28 = .ok (.istore 4, 2) := by decide +kernel
theorem dX5_mostFollowed_30 : decode cX5_mostFollowed 30 = .ok (.iload 4, 2) := by decide +kernel
theorem dX5_mostFollowed_32 : decode cX5_mostFollowed 32 = .ok (.iload_n 2, 1) := by decide +kernel
theorem dX5_mostFollowed_33 : decode cX5_mostFollowed 33 = .ok (.if_icmp .le 8, 3) := by decide +kernel
theorem dX5_mostFollowed_36 : decode cX5_mostFollowed 36 = .ok (.iload 4, 2) := by decide +kernel
theorem dX5_mostFollowed_38 : decode cX5_mostFollowed 38 = .ok (.istore_n 2, 1) := by decide +kernel
theorem dX5_mostFollowed_39 : decode cX5_mostFollowed 39 = .ok (.iload_n 3, 1) := by decide +kernel
theorem dX5_mostFollowed_40 : decode cX5_mostFollowed 40 = .ok (.istore_n 1, 1) := by decide +kernel
theorem dX5_mostFollowed_41 : decode cX5_mostFollowed 41 = .ok (.iinc 3 1, 3) := by decide +kernel
theorem dX5_mostFollowed_44 : decode cX5_mostFollowed 44 = .ok (.goto (-37), 3) := by decide +kernel
theorem dX5_mostFollowed_47 : decode cX5_mostFollowed 47 = .ok (.iload_n 1, 1) := by decide +kernel
theorem dX5_mostFollowed_48 : decode cX5_mostFollowed 48 = .ok (.ireturn, 1) := by decide +kernel
theorem dX5_roomAt_0 : decode cX5_roomAt 0 = .ok (.aload_n 0, 1) := by decide +kernel
theorem dX5_roomAt_1 : decode cX5_roomAt 1 = .ok (.getfield 18, 3) := by decide +kernel
theorem dX5_roomAt_4 : decode cX5_roomAt 4 = .ok (.getfield 81, 3) := by decide +kernel
theorem dX5_roomAt_7 : decode cX5_roomAt 7 = .ok (.iload_n 1, 1) := by decide +kernel
theorem dX5_roomAt_8 : decode cX5_roomAt 8 = .ok (.iaload, 1) := by decide +kernel
theorem dX5_roomAt_9 : decode cX5_roomAt 9 = .ok (.aload_n 0, 1) := by decide +kernel
theorem dX5_roomAt_10 : decode cX5_roomAt 10 = .ok (.iconst 1, 1) := by decide +kernel
theorem dX5_roomAt_11 : decode cX5_roomAt 11 = .ok (.iload_n 1, 1) := by decide +kernel
theorem dX5_roomAt_12 : decode cX5_roomAt 12 = .ok (.ishl, 1) := by decide +kernel
theorem dX5_roomAt_13 : decode cX5_roomAt 13 = .ok (.invokevirtual 61, 3) := by decide +kernel
theorem dX5_roomAt_16 : decode cX5_roomAt 16 = .ok (.invokestatic 73, 3) := by decide +kernel
theorem dX5_roomAt_19 : decode cX5_roomAt 19 = .ok (.isub, 1) := by decide +kernel
theorem dX5_roomAt_20 : decode cX5_roomAt 20 = .ok (.ireturn, 1) := by decide +kernel
theorem dX5_isCrowded_0 : decode cX5_isCrowded 0 = .ok (.aload_n 0, 1) := by decide +kernel
theorem dX5_isCrowded_1 : decode cX5_isCrowded 1 = .ok (.iload_n 1, 1) := by decide +kernel
theorem dX5_isCrowded_2 : decode cX5_isCrowded 2 = .ok (.invokevirtual 84, 3) := by decide +kernel
theorem dX5_isCrowded_5 : decode cX5_isCrowded 5 = .ok (.ifCond .ge 7, 3) := by decide +kernel
theorem dX5_isCrowded_8 : decode cX5_isCrowded 8 = .ok (.iconst 1, 1) := by decide +kernel
theorem dX5_isCrowded_9 : decode cX5_isCrowded 9 = .ok (.goto 4, 3) := by decide +kernel
theorem dX5_isCrowded_12 : decode cX5_isCrowded 12 = .ok (.iconst 0, 1) := by decide +kernel
theorem dX5_isCrowded_13 : decode cX5_isCrowded 13 = .ok (.ireturn, 1) := by decide +kernel
theorem dX5_crowdedPlaces_0 : decode cX5_crowdedPlaces 0 = .ok (.iconst 0, 1) := by decide +kernel
theorem dX5_crowdedPlaces_1 : decode cX5_crowdedPlaces 1 = .ok (.istore_n 1, 1) := by decide +kernel
theorem dX5_crowdedPlaces_2 : decode cX5_crowdedPlaces 2 = .ok (.iconst 0, 1) := by decide +kernel
theorem dX5_crowdedPlaces_3 : decode cX5_crowdedPlaces 3 = .ok (.istore_n 2, 1) := by decide +kernel
theorem dX5_crowdedPlaces_4 : decode cX5_crowdedPlaces 4 = .ok (.iload_n 2, 1) := by decide +kernel
theorem dX5_crowdedPlaces_5 : decode cX5_crowdedPlaces 5 = .ok (.aload_n 0, 1) := by decide +kernel
theorem dX5_crowdedPlaces_6 : decode cX5_crowdedPlaces 6 = .ok (.getfield 18, 3) := by decide +kernel
theorem dX5_crowdedPlaces_9 : decode cX5_crowdedPlaces 9 = .ok (.getfield 64, 3) := by decide +kernel
theorem dX5_crowdedPlaces_12 : decode cX5_crowdedPlaces 12 = .ok (.iconst 1, 1) := by decide +kernel
theorem dX5_crowdedPlaces_13 : decode cX5_crowdedPlaces 13 = .ok (.iaload, 1) := by decide +kernel
theorem dX5_crowdedPlaces_14 : decode cX5_crowdedPlaces 14 = .ok (.if_icmp .ge 23, 3) := by decide +kernel
theorem dX5_crowdedPlaces_17 : decode cX5_crowdedPlaces 17 = .ok (.aload_n 0, 1) := by decide +kernel
theorem dX5_crowdedPlaces_18 : decode cX5_crowdedPlaces 18 = .ok (.iload_n 2, 1) := by decide +kernel
theorem dX5_crowdedPlaces_19 : decode cX5_crowdedPlaces 19 = .ok (.invokevirtual 84, 3) := by decide +kernel
theorem dX5_crowdedPlaces_22 : decode cX5_crowdedPlaces 22 = .ok (.ifCond .ge 9, 3) := by decide +kernel
theorem dX5_crowdedPlaces_25 : decode cX5_crowdedPlaces 25 = .ok (.iload_n 1, 1) := by decide +kernel
theorem dX5_crowdedPlaces_26 : decode cX5_crowdedPlaces 26 = .ok (.iconst 1, 1) := by decide +kernel
theorem dX5_crowdedPlaces_27 : decode cX5_crowdedPlaces 27 = .ok (.iload_n 2, 1) := by decide +kernel
theorem dX5_crowdedPlaces_28 : decode cX5_crowdedPlaces 28 = .ok (.ishl, 1) := by decide +kernel
theorem dX5_crowdedPlaces_29 : decode cX5_crowdedPlaces 29 = .ok (.ior, 1) := by decide +kernel
theorem dX5_crowdedPlaces_30 : decode cX5_crowdedPlaces 30 = .ok (.istore_n 1, 1) := by decide +kernel
theorem dX5_crowdedPlaces_31 : decode cX5_crowdedPlaces 31 = .ok (.iinc 2 1, 3) := by decide +kernel
theorem dX5_crowdedPlaces_34 : decode cX5_crowdedPlaces 34 = .ok (.goto (-30), 3) := by decide +kernel
theorem dX5_crowdedPlaces_37 : decode cX5_crowdedPlaces 37 = .ok (.iload_n 1, 1) := by decide +kernel
theorem dX5_crowdedPlaces_38 : decode cX5_crowdedPlaces 38 = .ok (.ireturn, 1) := by decide +kernel
theorem dX5_roomLeft_0 : decode cX5_roomLeft 0 = .ok (.iconst 0, 1) := by decide +kernel
theorem dX5_roomLeft_1 : decode cX5_roomLeft 1 = .ok (.istore_n 1, 1) := by decide +kernel
theorem dX5_roomLeft_2 : decode cX5_roomLeft 2 = .ok (.iconst 0, 1) := by decide +kernel
theorem dX5_roomLeft_3 : decode cX5_roomLeft 3 = .ok (.istore_n 2, 1) := by decide +kernel
theorem dX5_roomLeft_4 : decode cX5_roomLeft 4 = .ok (.iload_n 2, 1) := by decide +kernel
theorem dX5_roomLeft_5 : decode cX5_roomLeft 5 = .ok (.aload_n 0, 1) := by decide +kernel
theorem dX5_roomLeft_6 : decode cX5_roomLeft 6 = .ok (.getfield 18, 3) := by decide +kernel
theorem dX5_roomLeft_9 : decode cX5_roomLeft 9 = .ok (.getfield 64, 3) := by decide +kernel
theorem dX5_roomLeft_12 : decode cX5_roomLeft 12 = .ok (.iconst 1, 1) := by decide +kernel
theorem dX5_roomLeft_13 : decode cX5_roomLeft 13 = .ok (.iaload, 1) := by decide +kernel
theorem dX5_roomLeft_14 : decode cX5_roomLeft 14 = .ok (.if_icmp .ge 29, 3) := by decide +kernel
theorem dX5_roomLeft_17 : decode cX5_roomLeft 17 = .ok (.aload_n 0, 1) := by decide +kernel
theorem dX5_roomLeft_18 : decode cX5_roomLeft 18 = .ok (.iload_n 2, 1) := by decide +kernel
theorem dX5_roomLeft_19 : decode cX5_roomLeft 19 = .ok (.invokevirtual 87, 3) := by decide +kernel
theorem dX5_roomLeft_22 : decode cX5_roomLeft 22 = .ok (.ifCond .ne 15, 3) := by decide +kernel
theorem dX5_roomLeft_25 : decode cX5_roomLeft 25 = .ok (.iload_n 1, 1) := by decide +kernel
theorem dX5_roomLeft_26 : decode cX5_roomLeft 26 = .ok (.iconst 0, 1) := by decide +kernel
theorem dX5_roomLeft_27 : decode cX5_roomLeft 27 = .ok (.aload_n 0, 1) := by decide +kernel
theorem dX5_roomLeft_28 : decode cX5_roomLeft 28 = .ok (.iload_n 2, 1) := by decide +kernel
theorem dX5_roomLeft_29 : decode cX5_roomLeft 29 = .ok (.invokevirtual 84, 3) := by decide +kernel
theorem dX5_roomLeft_32 : decode cX5_roomLeft 32 = .ok (.invokestatic 91, 3) := by decide +kernel
theorem dX5_roomLeft_35 : decode cX5_roomLeft 35 = .ok (.iadd, 1) := by decide +kernel
theorem dX5_roomLeft_36 : decode cX5_roomLeft 36 = .ok (.istore_n 1, 1) := by decide +kernel
theorem dX5_roomLeft_37 : decode cX5_roomLeft 37 = .ok (.iinc 2 1, 3) := by decide +kernel
theorem dX5_roomLeft_40 : decode cX5_roomLeft 40 = .ok (.goto (-36), 3) := by decide +kernel
theorem dX5_roomLeft_43 : decode cX5_roomLeft 43 = .ok (.iload_n 1, 1) := by decide +kernel
theorem dX5_roomLeft_44 : decode cX5_roomLeft 44 = .ok (.ireturn, 1) := by decide +kernel
theorem dX5_unseenPlaces_0 : decode cX5_unseenPlaces 0 = .ok (.aload_n 0, 1) := by decide +kernel
theorem dX5_unseenPlaces_1 : decode cX5_unseenPlaces 1 = .ok (.getfield 18, 3) := by decide +kernel
theorem dX5_unseenPlaces_4 : decode cX5_unseenPlaces 4 = .ok (.invokestatic 96, 3) := by decide +kernel
theorem dX5_unseenPlaces_7 : decode cX5_unseenPlaces 7 = .ok (.istore_n 2, 1) := by decide +kernel
theorem dX5_unseenPlaces_8 : decode cX5_unseenPlaces 8 = .ok (.iconst 0, 1) := by decide +kernel
theorem dX5_unseenPlaces_9 : decode cX5_unseenPlaces 9 = .ok (.istore_n 3, 1) := by decide +kernel
theorem dX5_unseenPlaces_10 : decode cX5_unseenPlaces 10 = .ok (.iload_n 3, 1) := by decide +kernel
theorem dX5_unseenPlaces_11 : decode cX5_unseenPlaces 11 = .ok (.aload_n 0, 1) := by decide +kernel
theorem dX5_unseenPlaces_12 : decode cX5_unseenPlaces 12 = .ok (.getfield 18, 3) := by decide +kernel
theorem dX5_unseenPlaces_15 : decode cX5_unseenPlaces 15 = .ok (.getfield 64, 3) := by decide +kernel
theorem dX5_unseenPlaces_18 : decode cX5_unseenPlaces 18 = .ok (.iconst 4, 1) := by decide +kernel
theorem dX5_unseenPlaces_19 : decode cX5_unseenPlaces 19 = .ok (.iaload, 1) := by decide +kernel
theorem dX5_unseenPlaces_20 : decode cX5_unseenPlaces 20 = .ok (.if_icmp .ge 40, 3) := by decide +kernel
theorem dX5_unseenPlaces_23 : decode cX5_unseenPlaces 23 = .ok (.aload_n 0, 1) := by decide +kernel
theorem dX5_unseenPlaces_24 : decode cX5_unseenPlaces 24 = .ok (.iload_n 3, 1) := by decide +kernel
theorem dX5_unseenPlaces_25 : decode cX5_unseenPlaces 25 = .ok (.invokevirtual 67, 3) := by decide +kernel
theorem dX5_unseenPlaces_28 : decode cX5_unseenPlaces 28 = .ok (.istore 4, 2) := by decide +kernel
theorem dX5_unseenPlaces_30 : decode cX5_unseenPlaces 30 = .ok (.aload_n 0, 1) := by decide +kernel
theorem dX5_unseenPlaces_31 : decode cX5_unseenPlaces 31 = .ok (.getfield 9, 3) := by decide +kernel
theorem dX5_unseenPlaces_34 : decode cX5_unseenPlaces 34 = .ok (.iload_n 3, 1) := by decide +kernel
theorem dX5_unseenPlaces_35 : decode cX5_unseenPlaces 35 = .ok (.iaload, 1) := by decide +kernel
theorem dX5_unseenPlaces_36 : decode cX5_unseenPlaces 36 = .ok (.iload_n 1, 1) := by decide +kernel
theorem dX5_unseenPlaces_37 : decode cX5_unseenPlaces 37 = .ok (.if_icmp .eq 17, 3) := by decide +kernel
theorem dX5_unseenPlaces_40 : decode cX5_unseenPlaces 40 = .ok (.iload 4, 2) := by decide +kernel
theorem dX5_unseenPlaces_42 : decode cX5_unseenPlaces 42 = .ok (.ifCond .lt 12, 3) := by decide +kernel
theorem dX5_unseenPlaces_45 : decode cX5_unseenPlaces 45 = .ok (.iload_n 2, 1) := by decide +kernel
theorem dX5_unseenPlaces_46 : decode cX5_unseenPlaces 46 = .ok (.iconst 1, 1) := by decide +kernel
theorem dX5_unseenPlaces_47 : decode cX5_unseenPlaces 47 = .ok (.iload 4, 2) := by decide +kernel
theorem dX5_unseenPlaces_49 : decode cX5_unseenPlaces 49 = .ok (.ishl, 1) := by decide +kernel
theorem dX5_unseenPlaces_50 : decode cX5_unseenPlaces 50 = .ok (.iconst (-1), 1) := by decide +kernel
theorem dX5_unseenPlaces_51 : decode cX5_unseenPlaces 51 = .ok (.ixor, 1) := by decide +kernel
theorem dX5_unseenPlaces_52 : decode cX5_unseenPlaces 52 = .ok (.iand, 1) := by decide +kernel
theorem dX5_unseenPlaces_53 : decode cX5_unseenPlaces 53 = .ok (.istore_n 2, 1) := by decide +kernel
theorem dX5_unseenPlaces_54 : decode cX5_unseenPlaces 54 = .ok (.iinc 3 1, 3) := by decide +kernel
theorem dX5_unseenPlaces_57 : decode cX5_unseenPlaces 57 = .ok (.goto (-47), 3) := by decide +kernel
theorem dX5_unseenPlaces_60 : decode cX5_unseenPlaces 60 = .ok (.iload_n 2, 1) := by decide +kernel
theorem dX5_unseenPlaces_61 : decode cX5_unseenPlaces 61 = .ok (.ireturn, 1) := by decide +kernel
theorem dX6_countOf_0 : decode cX6_countOf 0 = .ok (.iconst 0, 1) := by decide +kernel
theorem dX6_countOf_1 : decode cX6_countOf 1 = .ok (.istore_n 3, 1) := by decide +kernel
theorem dX6_countOf_2 : decode cX6_countOf 2 = .ok (.iconst 0, 1) := by decide +kernel
theorem dX6_countOf_3 : decode cX6_countOf 3 = .ok (.istore 4, 2) := by decide +kernel
theorem dX6_countOf_5 : decode cX6_countOf 5 = .ok (.iload 4, 2) := by decide +kernel
theorem dX6_countOf_7 : decode cX6_countOf 7 = .ok (.iconst 3, 1) := by decide +kernel
theorem dX6_countOf_8 : decode cX6_countOf 8 = .ok (.if_icmp .gt 31, 3) := by decide +kernel
theorem dX6_countOf_11 : decode cX6_countOf 11 = .ok (.aload_n 0, 1) := by decide +kernel
theorem dX6_countOf_12 : decode cX6_countOf 12 = .ok (.iload_n 2, 1) := by decide +kernel
theorem dX6_countOf_13 : decode cX6_countOf 13 = .ok (.iload 4, 2) := by decide +kernel
theorem dX6_countOf_15 : decode cX6_countOf 15 = .ok (.invokevirtual 9, 3) := by decide +kernel
theorem dX6_countOf_18 : decode cX6_countOf 18 = .ok (.aload_n 0, 1) := by decide +kernel
theorem dX6_countOf_19 : decode cX6_countOf 19 = .ok (.getfield 15, 3) := by decide +kernel
theorem dX6_countOf_22 : decode cX6_countOf 22 = .ok (.getfield 19, 3) := by decide +kernel
theorem dX6_countOf_25 : decode cX6_countOf 25 = .ok (.iload_n 1, 1) := by decide +kernel
theorem dX6_countOf_26 : decode cX6_countOf 26 = .ok (.iaload, 1) := by decide +kernel
theorem dX6_countOf_27 : decode cX6_countOf 27 = .ok (.if_icmp .ne 6, 3) := by decide +kernel
theorem dX6_countOf_30 : decode cX6_countOf 30 = .ok (.iinc 3 1, 3) := by decide +kernel
theorem dX6_countOf_33 : decode cX6_countOf 33 = .ok (.iinc 4 1, 3) := by decide +kernel
theorem dX6_countOf_36 : decode cX6_countOf 36 = .ok (.goto (-31), 3) := by decide +kernel
theorem dX6_countOf_39 : decode cX6_countOf 39 = .ok (.iload_n 3, 1) := by decide +kernel
theorem dX6_countOf_40 : decode cX6_countOf 40 = .ok (.ireturn, 1) := by decide +kernel
theorem dX6_countAll_0 : decode cX6_countAll 0 = .ok (.iconst 0, 1) := by decide +kernel
theorem dX6_countAll_1 : decode cX6_countAll 1 = .ok (.istore_n 2, 1) := by decide +kernel
theorem dX6_countAll_2 : decode cX6_countAll 2 = .ok (.iconst 0, 1) := by decide +kernel
theorem dX6_countAll_3 : decode cX6_countAll 3 = .ok (.istore_n 3, 1) := by decide +kernel
theorem dX6_countAll_4 : decode cX6_countAll 4 = .ok (.iload_n 3, 1) := by decide +kernel
theorem dX6_countAll_5 : decode cX6_countAll 5 = .ok (.aload_n 0, 1) := by decide +kernel
theorem dX6_countAll_6 : decode cX6_countAll 6 = .ok (.getfield 15, 3) := by decide +kernel
theorem dX6_countAll_9 : decode cX6_countAll 9 = .ok (.getfield 25, 3) := by decide +kernel
theorem dX6_countAll_12 : decode cX6_countAll 12 = .ok (.iconst 3, 1) := by decide +kernel
theorem dX6_countAll_13 : decode cX6_countAll 13 = .ok (.iaload, 1) := by decide +kernel
theorem dX6_countAll_14 : decode cX6_countAll 14 = .ok (.if_icmp .ge 18, 3) := by decide +kernel
theorem dX6_countAll_17 : decode cX6_countAll 17 = .ok (.iload_n 2, 1) := by decide +kernel
theorem dX6_countAll_18 : decode cX6_countAll 18 = .ok (.aload_n 0, 1) := by decide +kernel
theorem dX6_countAll_19 : decode cX6_countAll 19 = .ok (.iload_n 1, 1) := by decide +kernel
theorem dX6_countAll_20 : decode cX6_countAll 20 = .ok (.iload_n 3, 1) := by decide +kernel
theorem dX6_countAll_21 : decode cX6_countAll 21 = .ok (.invokestatic 28, 3) := by decide +kernel
theorem dX6_countAll_24 : decode cX6_countAll 24 = .ok (.iadd, 1) := by decide +kernel
theorem dX6_countAll_25 : decode cX6_countAll 25 = .ok (.istore_n 2, 1) := by decide +kernel
theorem dX6_countAll_26 : decode cX6_countAll 26 = .ok (.iinc 3 1, 3) := by decide +kernel
theorem dX6_countAll_29 : decode cX6_countAll 29 = .ok (.goto (-25), 3) := by decide +kernel
theorem dX6_countAll_32 : decode cX6_countAll 32 = .ok (.iload_n 2, 1) := by decide +kernel
theorem dX6_countAll_33 : decode cX6_countAll 33 = .ok (.ireturn, 1) := by decide +kernel
theorem dX6_soManieth_0 : decode cX6_soManieth 0 = .ok (.iload_n 2, 1) := by decide +kernel
theorem dX6_soManieth_1 : decode cX6_soManieth 1 = .ok (.istore_n 3, 1) := by decide +kernel
theorem dX6_soManieth_2 : decode cX6_soManieth 2 = .ok (.iconst 0, 1) := by decide +kernel
theorem dX6_soManieth_3 : decode cX6_soManieth 3 = .ok (.istore 4, 2) := by decide +kernel
theorem dX6_soManieth_5 : decode cX6_soManieth 5 = .ok (.iload 4, 2) := by decide +kernel
theorem dX6_soManieth_7 : decode cX6_soManieth 7 = .ok (.aload_n 0, 1) := by decide +kernel
theorem dX6_soManieth_8 : decode cX6_soManieth 8 = .ok (.getfield 15, 3) := by decide +kernel
theorem dX6_soManieth_11 : decode cX6_soManieth 11 = .ok (.getfield 25, 3) := by decide +kernel
theorem dX6_soManieth_14 : decode cX6_soManieth 14 = .ok (.iconst 3, 1) := by decide +kernel
theorem dX6_soManieth_15 : decode cX6_soManieth 15 = .ok (.iaload, 1) := by decide +kernel
theorem dX6_soManieth_16 : decode cX6_soManieth 16 = .ok (.if_icmp .ge 60, 3) := by decide +kernel
theorem dX6_soManieth_19 : decode cX6_soManieth 19 = .ok (.iconst 0, 1) := by decide +kernel
theorem dX6_soManieth_20 : decode cX6_soManieth 20 = .ok (.istore 5, 2) := by decide +kernel
theorem dX6_soManieth_22 : decode cX6_soManieth 22 = .ok (.iload 5, 2) := by decide +kernel
theorem dX6_soManieth_24 : decode cX6_soManieth 24 = .ok (.iconst 3, 1) := by decide +kernel
theorem dX6_soManieth_25 : decode cX6_soManieth 25 = .ok (.if_icmp .gt 45, 3) := by decide +kernel
theorem dX6_soManieth_28 : decode cX6_soManieth 28 = .ok (.aload_n 0, 1) := by decide +kernel
theorem dX6_soManieth_29 : decode cX6_soManieth 29 = .ok (.iload 4, 2) := by decide +kernel
theorem dX6_soManieth_31 : decode cX6_soManieth 31 = .ok (.iload 5, 2) := by decide +kernel
theorem dX6_soManieth_33 : decode cX6_soManieth 33 = .ok (.invokevirtual 9, 3) := by decide +kernel
theorem dX6_soManieth_36 : decode cX6_soManieth 36 = .ok (.aload_n 0, 1) := by decide +kernel
theorem dX6_soManieth_37 : decode cX6_soManieth 37 = .ok (.getfield 15, 3) := by decide +kernel
theorem dX6_soManieth_40 : decode cX6_soManieth 40 = .ok (.getfield 19, 3) := by decide +kernel
theorem dX6_soManieth_43 : decode cX6_soManieth 43 = .ok (.iload_n 1, 1) := by decide +kernel
theorem dX6_soManieth_44 : decode cX6_soManieth 44 = .ok (.iaload, 1) := by decide +kernel
theorem dX6_soManieth_45 : decode cX6_soManieth 45 = .ok (.if_icmp .ne 19, 3) := by decide +kernel
theorem dX6_soManieth_48 : decode cX6_soManieth 48 = .ok (.iload_n 3, 1) := by decide +kernel
theorem dX6_soManieth_49 : decode cX6_soManieth 49 = .ok (.ifCond .ne 12, 3) := by decide +kernel
theorem dX6_soManieth_52 : decode cX6_soManieth 52 = .ok (.bipush 10, 2) := by decide +kernel
theorem dX6_soManieth_54 : decode cX6_soManieth 54 = .ok (.iload 4, 2) := by decide +kernel
theorem dX6_soManieth_56 : decode cX6_soManieth 56 = .ok (.imul, 1) := by decide +kernel
theorem dX6_soManieth_57 : decode cX6_soManieth 57 = .ok (.iload 5, 2) := by decide +kernel
theorem dX6_soManieth_59 : decode cX6_soManieth 59 = .ok (.iadd, 1) := by decide +kernel
theorem dX6_soManieth_60 : decode cX6_soManieth 60 = .ok (.ireturn, 1) := by decide +kernel
theorem dX6_soManieth_61 : decode cX6_soManieth 61 = .ok (.iinc 3 (-1), 3) := by decide +kernel
theorem dX6_soManieth_64 : decode cX6_soManieth 64 = .ok (.iinc 5 1, 3) := by decide +kernel
theorem dX6_soManieth_67 : decode cX6_soManieth 67 = .ok (.goto (-45), 3) := by decide +kernel
theorem dX6_soManieth_70 : decode cX6_soManieth 70 = .ok (.iinc 4 1, 3) := by decide +kernel
theorem dX6_soManieth_73 : decode cX6_soManieth 73 = .ok (.goto (-68), 3) := by decide +kernel
theorem dX6_soManieth_76 : decode cX6_soManieth 76 = .ok (.iconst (-1), 1) := by decide +kernel
theorem dX6_soManieth_77 : decode cX6_soManieth 77 = .ok (.ireturn, 1) := by decide +kernel
theorem dX6_menOfFits_0 : decode cX6_menOfFits 0 = .ok (.iconst 0, 1) := by decide +kernel
theorem dX6_menOfFits_1 : decode cX6_menOfFits 1 = .ok (.istore_n 2, 1) := by decide +kernel
theorem dX6_menOfFits_2 : decode cX6_menOfFits 2 = .ok (.iconst 0, 1) := by decide +kernel
theorem dX6_menOfFits_3 : decode cX6_menOfFits 3 = .ok (.istore_n 3, 1) := by decide +kernel
theorem dX6_menOfFits_4 : decode cX6_menOfFits 4 = .ok (.iload_n 3, 1) := by decide +kernel
theorem dX6_menOfFits_5 : decode cX6_menOfFits 5 = .ok (.aload_n 0, 1) := by decide +kernel
theorem dX6_menOfFits_6 : decode cX6_menOfFits 6 = .ok (.getfield 15, 3) := by decide +kernel
theorem dX6_menOfFits_9 : decode cX6_menOfFits 9 = .ok (.getfield 25, 3) := by decide +kernel
theorem dX6_menOfFits_12 : decode cX6_menOfFits 12 = .ok (.iconst 3, 1) := by decide +kernel
theorem dX6_menOfFits_13 : decode cX6_menOfFits 13 = .ok (.iaload, 1) := by decide +kernel
theorem dX6_menOfFits_14 : decode cX6_menOfFits 14 = .ok (.if_icmp .ge 24, 3) := by decide +kernel
theorem dX6_menOfFits_17 : decode cX6_menOfFits 17 = .ok (.aload_n 0, 1) := by decide +kernel
theorem dX6_menOfFits_18 : decode cX6_menOfFits 18 = .ok (.iload_n 1, 1) := by decide +kernel
theorem dX6_menOfFits_19 : decode cX6_menOfFits 19 = .ok (.iload_n 3, 1) := by decide +kernel
theorem dX6_menOfFits_20 : decode cX6_menOfFits 20 = .ok (.invokestatic 28, 3) := by decide +kernel
theorem dX6_menOfFits_23 : decode cX6_menOfFits 23 = .ok (.ifCond .le 9, 3) := by decide +kernel
theorem dX6_menOfFits_26 : decode cX6_menOfFits 26 = .ok (.iload_n 2, 1) := by decide +kernel
theorem dX6_menOfFits_27 : decode cX6_menOfFits 27 = .ok (.iconst 1, 1) := by decide +kernel
theorem dX6_menOfFits_28 : decode cX6_menOfFits 28 = .ok (.iload_n 3, 1) := by decide +kernel
theorem dX6_menOfFits_29 : decode cX6_menOfFits 29 = .ok (.ishl, 1) := by decide +kernel
theorem dX6_menOfFits_30 : decode cX6_menOfFits 30 = .ok (.ior, 1) := by decide +kernel
theorem dX6_menOfFits_31 : decode cX6_menOfFits 31 = .ok (.istore_n 2, 1) := by decide +kernel
theorem dX6_menOfFits_32 : decode cX6_menOfFits 32 = .ok (.iinc 3 1, 3) := by decide +kernel
theorem dX6_menOfFits_35 : decode cX6_menOfFits 35 = .ok (.goto (-31), 3) := by decide +kernel
theorem dX6_menOfFits_38 : decode cX6_menOfFits 38 = .ok (.iload_n 2, 1) := by decide +kernel
theorem dX6_menOfFits_39 : decode cX6_menOfFits 39 = .ok (.ireturn, 1) := by decide +kernel
theorem dX6_onlyMan_0 : decode cX6_onlyMan 0 = .ok (.aload_n 0, 1) := by decide +kernel
theorem dX6_onlyMan_1 : decode cX6_onlyMan 1 = .ok (.iload_n 1, 1) := by decide +kernel
theorem dX6_onlyMan_2 : decode cX6_onlyMan 2 = .ok (.invokestatic 34, 3) := by decide +kernel
theorem dX6_onlyMan_5 : decode cX6_onlyMan 5 = .ok (.istore_n 2, 1) := by decide +kernel
theorem dX6_onlyMan_6 : decode cX6_onlyMan 6 = .ok (.iconst 0, 1) := by decide +kernel
theorem dX6_onlyMan_7 : decode cX6_onlyMan 7 = .ok (.istore_n 3, 1) := by decide +kernel
theorem dX6_onlyMan_8 : decode cX6_onlyMan 8 = .ok (.iload_n 3, 1) := by decide +kernel
theorem dX6_onlyMan_9 : decode cX6_onlyMan 9 = .ok (.aload_n 0, 1) := by decide +kernel
theorem dX6_onlyMan_10 : decode cX6_onlyMan 10 = .ok (.getfield 15, 3) := by decide +kernel
theorem dX6_onlyMan_13 : decode cX6_onlyMan 13 = .ok (.getfield 25, 3) := by decide +kernel
theorem dX6_onlyMan_16 : decode cX6_onlyMan 16 = .ok (.iconst 3, 1) := by decide +kernel
theorem dX6_onlyMan_17 : decode cX6_onlyMan 17 = .ok (.iaload, 1) := by decide +kernel
theorem dX6_onlyMan_18 : decode cX6_onlyMan 18 = .ok (.if_icmp .ge 18, 3) := by decide +kernel
theorem dX6_onlyMan_21 : decode cX6_onlyMan 21 = .ok (.iload_n 2, 1) := by decide +kernel
theorem dX6_onlyMan_22 : decode cX6_onlyMan 22 = .ok (.iconst 1, 1) := by decide +kernel
theorem dX6_onlyMan_23 : decode cX6_onlyMan 23 = .ok (.iload_n 3, 1) := by decide +kernel
theorem dX6_onlyMan_24 : decode cX6_onlyMan 24 = .ok (.ishl, 1) := by decide +kernel
theorem dX6_onlyMan_25 : decode cX6_onlyMan 25 = .ok (.if_icmp .ne 5, 3) := by decide +kernel
theorem dX6_onlyMan_28 : decode cX6_onlyMan 28 = .ok (.iload_n 3, 1) := by decide +kernel
theorem dX6_onlyMan_29 : decode cX6_onlyMan 29 = .ok (.ireturn, 1) := by decide +kernel
theorem dX6_onlyMan_30 : decode cX6_onlyMan 30 = .ok (.iinc 3 1, 3) := by decide +kernel
theorem dX6_onlyMan_33 : decode cX6_onlyMan 33 = .ok (.goto (-25), 3) := by decide +kernel
theorem dX6_onlyMan_36 : decode cX6_onlyMan 36 = .ok (.bipush (-2), 2) := by decide +kernel
theorem dX6_onlyMan_38 : decode cX6_onlyMan 38 = .ok (.ireturn, 1) := by decide +kernel
theorem dX6_leftBehind_0 : decode cX6_leftBehind 0 = .ok (.aload_n 0, 1) := by decide +kernel
theorem dX6_leftBehind_1 : decode cX6_leftBehind 1 = .ok (.iload_n 1, 1) := by decide +kernel
theorem dX6_leftBehind_2 : decode cX6_leftBehind 2 = .ok (.iload_n 2, 1) := by decide +kernel
theorem dX6_leftBehind_3 : decode cX6_leftBehind 3 = .ok (.invokestatic 28, 3) := by decide +kernel
theorem dX6_leftBehind_6 : decode cX6_leftBehind 6 = .ok (.istore_n 3, 1) := by decide +kernel
theorem dX6_leftBehind_7 : decode cX6_leftBehind 7 = .ok (.iload_n 3, 1) := by decide +kernel
theorem dX6_leftBehind_8 : decode cX6_leftBehind 8 = .ok (.aload_n 0, 1) := by decide +kernel
theorem dX6_leftBehind_9 : decode cX6_leftBehind 9 = .ok (.iload_n 1, 1) := by decide +kernel
theorem dX6_leftBehind_10 : decode cX6_leftBehind 10 = .ok (.invokestatic 38, 3) := by decide +kernel
theorem dX6_leftBehind_13 : decode cX6_leftBehind 13 = .ok (.iload_n 3, 1) := by decide +kernel
theorem dX6_leftBehind_14 : decode cX6_leftBehind 14 = .ok (.isub, 1) := by decide +kernel
theorem dX6_leftBehind_15 : decode cX6_leftBehind 15 = .ok (.invokestatic 41, 3) := by decide +kernel
theorem dX6_leftBehind_18 : decode cX6_leftBehind 18 = .ok (.ireturn, 1) := by decide +kernel
theorem dX6_manToAsk_0 : decode cX6_manToAsk 0 = .ok (.aload_n 0, 1) := by decide +kernel
theorem dX6_manToAsk_1 : decode cX6_manToAsk 1 = .ok (.iload_n 1, 1) := by decide +kernel
theorem dX6_manToAsk_2 : decode cX6_manToAsk 2 = .ok (.invokestatic 38, 3) := by decide +kernel
theorem dX6_manToAsk_5 : decode cX6_manToAsk 5 = .ok (.ifCond .ne 6, 3) := by decide +kernel
theorem dX6_manToAsk_8 : decode cX6_manToAsk 8 = .ok (.bipush (-2), 2) := by decide +kernel
theorem dX6_manToAsk_10 : decode cX6_manToAsk 10 = .ok (.ireturn, 1) := by decide +kernel
theorem dX6_manToAsk_11 : decode cX6_manToAsk 11 = .ok (.iconst 0, 1) := by decide +kernel
theorem dX6_manToAsk_12 : decode cX6_manToAsk 12 = .ok (.istore_n 2, 1) := by decide +kernel
theorem dX6_manToAsk_13 : decode cX6_manToAsk 13 = .ok (.iconst 1, 1) := by decide +kernel
theorem dX6_manToAsk_14 : decode cX6_manToAsk 14 = .ok (.istore_n 3, 1) := by decide +kernel
theorem dX6_manToAsk_15 : decode cX6_manToAsk 15 = .ok (.iload_n 3, 1) := by decide +kernel
theorem dX6_manToAsk_16 : decode cX6_manToAsk 16 = .ok (.aload_n 0, 1) := by decide +kernel
theorem dX6_manToAsk_17 : decode cX6_manToAsk 17 = .ok (.getfield 15, 3) := by decide +kernel
theorem dX6_manToAsk_20 : decode cX6_manToAsk 20 = .ok (.getfield 25, 3) := by decide +kernel
theorem dX6_manToAsk_23 : decode cX6_manToAsk 23 = .ok (.iconst 3, 1) := by decide +kernel
theorem dX6_manToAsk_24 : decode cX6_manToAsk 24 = .ok (.iaload, 1) := by decide +kernel
theorem dX6_manToAsk_25 : decode cX6_manToAsk 25 = .ok (.if_icmp .ge 26, 3) := by decide +kernel
theorem dX6_manToAsk_28 : decode cX6_manToAsk 28 = .ok (.aload_n 0, 1) := by decide +kernel
theorem dX6_manToAsk_29 : decode cX6_manToAsk 29 = .ok (.iload_n 1, 1) := by decide +kernel
theorem dX6_manToAsk_30 : decode cX6_manToAsk 30 = .ok (.iload_n 3, 1) := by decide +kernel
theorem dX6_manToAsk_31 : decode cX6_manToAsk 31 = .ok (.invokestatic 46, 3) := by decide +kernel
theorem dX6_manToAsk_34 : decode cX6_manToAsk 34 = .ok (.aload_n 0, 1) := by decide +kernel
theorem dX6_manToAsk_35 : decode cX6_manToAsk 35 = .ok (.iload_n 1, 1) := by decide +kernel
theorem dX6_manToAsk_36 : decode cX6_manToAsk 36 = .ok (.iload_n 2, 1) := by decide +kernel
theorem dX6_manToAsk_37 : decode cX6_manToAsk 37 = .ok (.invokestatic 46, 3) := by decide +kernel
theorem dX6_manToAsk_40 : decode cX6_manToAsk 40 = .ok (.if_icmp .ge 5, 3) := by decide +kernel
theorem dX6_manToAsk_43 : decode cX6_manToAsk 43 = .ok (.iload_n 3, 1) := by decide +kernel
theorem dX6_manToAsk_44 : decode cX6_manToAsk 44 = .ok (.istore_n 2, 1) := by decide +kernel
theorem dX6_manToAsk_45 : decode cX6_manToAsk 45 = .ok (.iinc 3 1, 3) := by decide +kernel
theorem dX6_manToAsk_48 : decode cX6_manToAsk 48 = .ok (.goto (-33), 3) := by decide +kernel
theorem dX6_manToAsk_51 : decode cX6_manToAsk 51 = .ok (.iload_n 2, 1) := by decide +kernel
theorem dX6_manToAsk_52 : decode cX6_manToAsk 52 = .ok (.ireturn, 1) := by decide +kernel
theorem dX7_init_0 : decode cX7_init 0 = .ok (.aload_n 0, 1) := by decide +kernel
theorem dX7_init_1 : decode cX7_init 1 = .ok (.invokespecial 3, 3) := by decide +kernel
theorem dX7_init_4 : decode cX7_init 4 = .ok (.aload_n 0, 1) := by decide +kernel
theorem dX7_init_5 : decode cX7_init 5 = .ok (.sipush 900, 3) := by decide +kernel
theorem dX7_init_8 : decode cX7_init 8 = .ok (.newarray .int, 2) := by decide +kernel
theorem dX7_init_10 : decode cX7_init 10 = .ok (.putfield 9, 3) := by decide +kernel
theorem dX7_init_13 : decode cX7_init 13 = .ok (.return_, 1) := by decide +kernel
theorem dX7_append_0 : decode cX7_append 0 = .ok (.bipush 24, 2) := by decide +kernel
theorem dX7_append_2 : decode cX7_append 2 = .ok (.istore_n 2, 1) := by decide +kernel
theorem dX7_append_3 : decode cX7_append 3 = .ok (.iload_n 2, 1) := by decide +kernel
theorem dX7_append_4 : decode cX7_append 4 = .ok (.ifCond .lt 45, 3) := by decide +kernel
theorem dX7_append_7 : decode cX7_append 7 = .ok (.aload_n 0, 1) := by decide +kernel
theorem dX7_append_8 : decode cX7_append 8 = .ok (.getfield 15, 3) := by decide +kernel
theorem dX7_append_11 : decode cX7_append 11 = .ok (.sipush 900, 3) := by decide +kernel
theorem dX7_append_14 : decode cX7_append 14 = .ok (.if_icmp .ge 35, 3) := by decide +kernel
theorem dX7_append_17 : decode cX7_append 17 = .ok (.aload_n 0, 1) := by decide +kernel
theorem dX7_append_18 : decode cX7_append 18 = .ok (.getfield 9, 3) := by decide +kernel
theorem dX7_append_21 : decode cX7_append 21 = .ok (.aload_n 0, 1) := by decide +kernel
theorem dX7_append_22 : decode cX7_append 22 = .ok (.getfield 15, 3) := by decide +kernel
theorem dX7_append_25 : decode cX7_append 25 = .ok (.iload_n 1, 1) := by decide +kernel
theorem dX7_append_26 : decode cX7_append 26 = .ok (.iload_n 2, 1) := by decide +kernel
theorem dX7_append_27 : decode cX7_append 27 = .ok (.ishr, 1) := by decide +kernel
theorem dX7_append_28 : decode cX7_append 28 = .ok (.sipush 255, 3) := by decide +kernel
theorem dX7_append_31 : decode cX7_append 31 = .ok (.iand, 1) := by decide +kernel
theorem dX7_append_32 : decode cX7_append 32 = .ok (.iastore, 1) := by decide +kernel
theorem dX7_append_33 : decode cX7_append 33 = .ok (.aload_n 0, 1) := by decide +kernel
theorem dX7_append_34 : decode cX7_append 34 = .ok (.dup, 1) := by decide +kernel
theorem dX7_append_35 : decode cX7_append 35 = .ok (.getfield 15, 3) := by decide +kernel
theorem dX7_append_38 : decode cX7_append 38 = .ok (.iconst 1, 1) := by decide +kernel
theorem dX7_append_39 : decode cX7_append 39 = .ok (.iadd, 1) := by decide +kernel
theorem dX7_append_40 : decode cX7_append 40 = .ok (.putfield 15, 3) := by decide +kernel
theorem dX7_append_43 : decode cX7_append 43 = .ok (.iinc 2 (-8), 3) := by decide +kernel
theorem dX7_append_46 : decode cX7_append 46 = .ok (.goto (-43), 3) := by decide +kernel
theorem dX7_append_49 : decode cX7_append 49 = .ok (.return_, 1) := by decide +kernel
theorem dX7_begin_0 : decode cX7_begin 0 = .ok (.aload_n 0, 1) := by decide +kernel
theorem dX7_begin_1 : decode cX7_begin 1 = .ok (.iconst 0, 1) := by decide +kernel
theorem dX7_begin_2 : decode cX7_begin 2 = .ok (.putfield 19, 3) := by decide +kernel
theorem dX7_begin_5 : decode cX7_begin 5 = .ok (.aload_n 0, 1) := by decide +kernel
theorem dX7_begin_6 : decode cX7_begin 6 = .ok (.iload_n 1, 1) := by decide +kernel
theorem dX7_begin_7 : decode cX7_begin 7 = .ok (.aload_n 0, 1) := by decide +kernel
theorem dX7_begin_8 : decode cX7_begin 8 = .ok (.getfield 15, 3) := by decide +kernel
theorem dX7_begin_11 : decode cX7_begin 11 = .ok (.invokestatic 22, 3) := by decide +kernel
theorem dX7_begin_14 : decode cX7_begin 14 = .ok (.putfield 28, 3) := by decide +kernel
theorem dX7_begin_17 : decode cX7_begin 17 = .ok (.aload_n 0, 1) := by decide +kernel
theorem dX7_begin_18 : decode cX7_begin 18 = .ok (.invokevirtual 31, 3) := by decide +kernel
theorem dX7_begin_21 : decode cX7_begin 21 = .ok (.return_, 1) := by decide +kernel
theorem dX7_advance_0 : decode cX7_advance 0 = .ok (.aload_n 0, 1) := by decide +kernel
theorem dX7_advance_1 : decode cX7_advance 1 = .ok (.getfield 19, 3) := by decide +kernel
theorem dX7_advance_4 : decode cX7_advance 4 = .ok (.aload_n 0, 1) := by decide +kernel
theorem dX7_advance_5 : decode cX7_advance 5 = .ok (.getfield 28, 3) := by decide +kernel
theorem dX7_advance_8 : decode cX7_advance 8 = .ok (.if_icmp .ge 30, 3) := by decide +kernel
theorem dX7_advance_11 : decode cX7_advance 11 = .ok (.aload_n 0, 1) := by decide +kernel
theorem dX7_advance_12 : decode cX7_advance 12 = .ok (.getfield 9, 3) := by decide +kernel
theorem dX7_advance_15 : decode cX7_advance 15 = .ok (.aload_n 0, 1) := by decide +kernel
theorem dX7_advance_16 : decode cX7_advance 16 = .ok (.getfield 19, 3) := by decide +kernel
theorem dX7_advance_19 : decode cX7_advance 19 = .ok (.iaload, 1) := by decide +kernel
theorem dX7_advance_20 : decode cX7_advance 20 = .ok (.bipush 32, 2) := by decide +kernel
theorem dX7_advance_22 : decode cX7_advance 22 = .ok (.if_icmp .ne 16, 3) := by decide +kernel
theorem dX7_advance_25 : decode cX7_advance 25 = .ok (.aload_n 0, 1) := by decide +kernel
theorem dX7_advance_26 : decode cX7_advance 26 = .ok (.dup, 1) := by decide +kernel
theorem dX7_advance_27 : decode cX7_advance 27 = .ok (.getfield 19, 3) := by decide +kernel
theorem dX7_advance_30 : decode cX7_advance 30 = .ok (.iconst 1, 1) := by decide +kernel
theorem dX7_advance_31 : decode cX7_advance 31 = .ok (.iadd, 1) := by decide +kernel
theorem dX7_advance_32 : decode cX7_advance 32 = .ok (.putfield 19, 3) := by decide +kernel
theorem dX7_advance_35 : decode cX7_advance 35 = .ok (.goto (-35), 3) := by decide +kernel
theorem dX7_advance_38 : decode cX7_advance 38 = .ok (.aload_n 0, 1) := by decide +kernel
theorem dX7_advance_39 : decode cX7_advance 39 = .ok (.aload_n 0, 1) := by decide +kernel
theorem dX7_advance_40 : decode cX7_advance 40 = .ok (.getfield 19, 3) := by decide +kernel
theorem dX7_advance_43 : decode cX7_advance 43 = .ok (.putfield 34, 3) := by decide +kernel
theorem dX7_advance_46 : decode cX7_advance 46 = .ok (.aload_n 0, 1) := by decide +kernel
theorem dX7_advance_47 : decode cX7_advance 47 = .ok (.lconst 0, 1) := by decide +kernel
theorem dX7_advance_48 : decode cX7_advance 48 = .ok (.putfield 37, 3) := by decide +kernel
theorem dX7_advance_51 : decode cX7_advance 51 = .ok (.aload_n 0, 1) := by decide +kernel
theorem dX7_advance_52 : decode cX7_advance 52 = .ok (.iconst 0, 1) := by decide +kernel
theorem dX7_advance_53 : decode cX7_advance 53 = .ok (.putfield 41, 3) := by decide +kernel
theorem dX7_advance_56 : decode cX7_advance 56 = .ok (.aload_n 0, 1) := by decide +kernel
theorem dX7_advance_57 : decode cX7_advance 57 = .ok (.aload_n 0, 1) := by decide +kernel
theorem dX7_advance_58 : decode cX7_advance 58 = .ok (.getfield 19, 3) := by decide +kernel
theorem dX7_advance_61 : decode cX7_advance 61 = .ok (.aload_n 0, 1) := by decide +kernel
theorem dX7_advance_62 : decode cX7_advance 62 = .ok (.getfield 28, 3) := by decide +kernel
theorem dX7_advance_65 : decode cX7_advance 65 = .ok (.if_icmp .ge 18, 3) := by decide +kernel
theorem dX7_advance_68 : decode cX7_advance 68 = .ok (.aload_n 0, 1) := by decide +kernel
theorem dX7_advance_69 : decode cX7_advance 69 = .ok (.getfield 9, 3) := by decide +kernel
theorem dX7_advance_72 : decode cX7_advance 72 = .ok (.aload_n 0, 1) := by decide +kernel
theorem dX7_advance_73 : decode cX7_advance 73 = .ok (.getfield 19, 3) := by decide +kernel
theorem dX7_advance_76 : decode cX7_advance 76 = .ok (.iaload, 1) := by decide +kernel
theorem dX7_advance_77 : decode cX7_advance 77 = .ok (.invokestatic 44, 3) := by decide +kernel
theorem dX7_advance_80 : decode cX7_advance 80 = .ok (.goto 4, 3) := by decide +kernel
theorem dX7_advance_83 : decode cX7_advance 83 = .ok (.iconst 0, 1) := by decide +kernel
theorem dX7_advance_84 : decode cX7_advance 84 = .ok (.putfield 48, 3) := by decide +kernel
theorem dX7_advance_87 : decode cX7_advance 87 = .ok (.aload_n 0, 1) := by decide +kernel
theorem dX7_advance_88 : decode cX7_advance 88 = .ok (.getfield 48, 3) := by decide +kernel
theorem dX7_advance_91 : decode cX7_advance 91 = .ok (.iconst 1, 1) := by decide +kernel
theorem dX7_advance_92 : decode cX7_advance 92 = .ok (.if_icmp .ne 8, 3) := by decide +kernel
theorem dX7_advance_95 : decode cX7_advance 95 = .ok (.bipush 8, 2) := by decide +kernel
theorem dX7_advance_97 : decode cX7_advance 97 = .ok (.goto 16, 3) := by decide +kernel
theorem dX7_advance_100 : decode cX7_advance 100 = .ok (.aload_n 0, 1) := by decide +kernel
theorem dX7_advance_101 : decode cX7_advance 101 = .ok (.getfield 48, 3) := by decide +kernel
theorem dX7_advance_104 : decode cX7_advance 104 = .ok (.iconst 2, 1) := by decide +kernel
theorem dX7_advance_105 : decode cX7_advance 105 = .ok (.if_icmp .ne 7, 3) := by decide +kernel
theorem dX7_advance_108 : decode cX7_advance 108 = .ok (.iconst 3, 1) := by decide +kernel
theorem dX7_advance_109 : decode cX7_advance 109 = .ok (.goto 4, 3) := by decide +kernel
theorem dX7_advance_112 : decode cX7_advance 112 = .ok (.iconst 1, 1) := by decide +kernel
theorem dX7_advance_113 : decode cX7_advance 113 = .ok (.istore_n 1, 1) := by decide +kernel
theorem dX7_advance_114 : decode cX7_advance 114 = .ok (.aload_n 0, 1) := by decide +kernel
theorem dX7_advance_115 : decode cX7_advance 115 = .ok (.getfield 48, 3) := by decide +kernel
theorem dX7_advance_118 : decode cX7_advance 118 = .ok (.ifCond .eq 15, 3) := by decide +kernel
theorem dX7_advance_121 : decode cX7_advance 121 = .ok (.aload_n 0, 1) := by decide +kernel
theorem dX7_advance_122 : decode cX7_advance 122 = .ok (.getfield 48, 3) := by decide +kernel
theorem dX7_advance_125 : decode cX7_advance 125 = .ok (.iconst 4, 1) := by decide +kernel
theorem dX7_advance_126 : decode cX7_advance 126 = .ok (.if_icmp .eq 7, 3) := by decide +kernel
theorem dX7_advance_129 : decode cX7_advance 129 = .ok (.iconst 1, 1) := by decide +kernel
theorem dX7_advance_130 : decode cX7_advance 130 = .ok (.goto 4, 3) := by decide +kernel
theorem dX7_advance_133 : decode cX7_advance 133 = .ok (.iconst 0, 1) := by decide +kernel
theorem dX7_advance_134 : decode cX7_advance 134 = .ok (.istore_n 2, 1) := by decide +kernel
theorem dX7_advance_135 : decode cX7_advance 135 = .ok (.iload_n 2, 1) := by decide +kernel
theorem dX7_advance_136 : decode cX7_advance 136 = .ok (.ifCond .eq 121, 3) := by decide +kernel
theorem dX7_advance_139 : decode cX7_advance 139 = .ok (.aload_n 0, 1) := by decide +kernel
theorem dX7_advance_140 : decode cX7_advance 140 = .ok (.getfield 19, 3) := by decide +kernel
theorem dX7_advance_143 : decode cX7_advance 143 = .ok (.aload_n 0, 1) := by decide +kernel
theorem dX7_advance_144 : decode cX7_advance 144 = .ok (.getfield 28, 3) := by decide +kernel
theorem dX7_advance_147 : decode cX7_advance 147 = .ok (.if_icmp .ge 110, 3) := by decide +kernel
theorem dX7_advance_150 : decode cX7_advance 150 = .ok (.aload_n 0, 1) := by decide +kernel
theorem dX7_advance_151 : decode cX7_advance 151 = .ok (.aload_n 0, 1) := by decide +kernel
theorem dX7_advance_152 : decode cX7_advance 152 = .ok (.getfield 37, 3) := by decide +kernel
theorem dX7_advance_155 : decode cX7_advance 155 = .ok (.ldc2_w 51, 3) := by decide +kernel
theorem dX7_advance_158 : decode cX7_advance 158 = .ok (.lmul, 1) := by decide +kernel
theorem dX7_advance_159 : decode cX7_advance 159 = .ok (.aload_n 0, 1) := by decide +kernel
theorem dX7_advance_160 : decode cX7_advance 160 = .ok (.getfield 9, 3) := by decide +kernel
theorem dX7_advance_163 : decode cX7_advance 163 = .ok (.aload_n 0, 1) := by decide +kernel
theorem dX7_advance_164 : decode cX7_advance 164 = .ok (.getfield 19, 3) := by decide +kernel
theorem dX7_advance_167 : decode cX7_advance 167 = .ok (.iaload, 1) := by decide +kernel
theorem dX7_advance_168 : decode cX7_advance 168 = .ok (.bipush 31, 2) := by decide +kernel
theorem dX7_advance_170 : decode cX7_advance 170 = .ok (.iand, 1) := by decide +kernel
theorem dX7_advance_171 : decode cX7_advance 171 = .ok (.i2l, 1) := by decide +kernel
theorem dX7_advance_172 : decode cX7_advance 172 = .ok (.ladd, 1) := by decide +kernel
theorem dX7_advance_173 : decode cX7_advance 173 = .ok (.putfield 37, 3) := by decide +kernel
theorem dX7_advance_176 : decode cX7_advance 176 = .ok (.aload_n 0, 1) := by decide +kernel
theorem dX7_advance_177 : decode cX7_advance 177 = .ok (.aload_n 0, 1) := by decide +kernel
theorem dX7_advance_178 : decode cX7_advance 178 = .ok (.getfield 41, 3) := by decide +kernel
theorem dX7_advance_181 : decode cX7_advance 181 = .ok (.bipush 10, 2) := by decide +kernel
theorem dX7_advance_183 : decode cX7_advance 183 = .ok (.imul, 1) := by decide +kernel
theorem dX7_advance_184 : decode cX7_advance 184 = .ok (.aload_n 0, 1) := by decide +kernel
theorem dX7_advance_185 : decode cX7_advance 185 = .ok (.getfield 9, 3) := by decide +kernel
theorem dX7_advance_188 : decode cX7_advance 188 = .ok (.aload_n 0, 1) := by decide +kernel
theorem dX7_advance_189 : decode cX7_advance 189 = .ok (.getfield 19, 3) := by decide +kernel
theorem dX7_advance_192 : decode cX7_advance 192 = .ok (.iaload, 1) := by decide +kernel
theorem dX7_advance_193 : decode cX7_advance 193 = .ok (.bipush 48, 2) := by decide +kernel
theorem dX7_advance_195 : decode cX7_advance 195 = .ok (.isub, 1) := by decide +kernel
theorem dX7_advance_196 : decode cX7_advance 196 = .ok (.iadd, 1) := by decide +kernel
theorem dX7_advance_197 : decode cX7_advance 197 = .ok (.putfield 41, 3) := by decide +kernel
theorem dX7_advance_200 : decode cX7_advance 200 = .ok (.aload_n 0, 1) := by decide +kernel
theorem dX7_advance_201 : decode cX7_advance 201 = .ok (.dup, 1) := by decide +kernel
theorem dX7_advance_202 : decode cX7_advance 202 = .ok (.getfield 19, 3) := by decide +kernel
theorem dX7_advance_205 : decode cX7_advance 205 = .ok (.iconst 1, 1) := by decide +kernel
theorem dX7_advance_206 : decode cX7_advance 206 = .ok (.iadd, 1) := by decide +kernel
theorem dX7_advance_207 : decode cX7_advance 207 = .ok (.putfield 19, 3) := by decide +kernel
theorem dX7_advance_210 : decode cX7_advance 210 = .ok (.aload_n 0, 1) := by decide +kernel
theorem dX7_advance_211 : decode cX7_advance 211 = .ok (.getfield 48, 3) := by decide +kernel
theorem dX7_advance_214 : decode cX7_advance 214 = .ok (.iconst 3, 1) := by decide +kernel
theorem dX7_advance_215 : decode cX7_advance 215 = .ok (.if_icmp .eq 37, 3) := by decide +kernel
theorem dX7_advance_218 : decode cX7_advance 218 = .ok (.aload_n 0, 1) := by decide +kernel
theorem dX7_advance_219 : decode cX7_advance 219 = .ok (.getfield 19, 3) := by decide +kernel
theorem dX7_advance_222 : decode cX7_advance 222 = .ok (.aload_n 0, 1) := by decide +kernel
theorem dX7_advance_223 : decode cX7_advance 223 = .ok (.getfield 28, 3) := by decide +kernel
theorem dX7_advance_226 : decode cX7_advance 226 = .ok (.if_icmp .ge 26, 3) := by decide +kernel
theorem dX7_advance_229 : decode cX7_advance 229 = .ok (.aload_n 0, 1) := by decide +kernel
theorem dX7_advance_230 : decode cX7_advance 230 = .ok (.getfield 9, 3) := by decide +kernel
theorem dX7_advance_233 : decode cX7_advance 233 = .ok (.aload_n 0, 1) := by decide +kernel
theorem dX7_advance_234 : decode cX7_advance 234 = .ok (.getfield 19, 3) := by decide +kernel
theorem dX7_advance_237 : decode cX7_advance 237 = .ok (.iaload, 1) := by decide +kernel
theorem dX7_advance_238 : decode cX7_advance 238 = .ok (.invokestatic 44, 3) := by decide +kernel
theorem dX7_advance_241 : decode cX7_advance 241 = .ok (.aload_n 0, 1) := by decide +kernel
theorem dX7_advance_242 : decode cX7_advance 242 = .ok (.getfield 48, 3) := by decide +kernel
theorem dX7_advance_245 : decode cX7_advance 245 = .ok (.if_icmp .ne 7, 3) := by decide +kernel
theorem dX7_advance_248 : decode cX7_advance 248 = .ok (.iconst 1, 1) := by decide +kernel
theorem dX7_advance_249 : decode cX7_advance 249 = .ok (.goto 4, 3) := by decide +kernel
theorem dX7_advance_252 : decode cX7_advance 252 = .ok (.iconst 0, 1) := by decide +kernel
theorem dX7_advance_253 : decode cX7_advance 253 = .ok (.istore_n 2, 1) := by decide +kernel
theorem dX7_advance_254 : decode cX7_advance 254 = .ok (.goto (-119), 3) := by decide +kernel
theorem dX7_advance_257 : decode cX7_advance 257 = .ok (.aload_n 0, 1) := by decide +kernel
theorem dX7_advance_258 : decode cX7_advance 258 = .ok (.getfield 19, 3) := by decide +kernel
theorem dX7_advance_261 : decode cX7_advance 261 = .ok (.aload_n 0, 1) := by decide +kernel
theorem dX7_advance_262 : decode cX7_advance 262 = .ok (.getfield 34, 3) := by decide +kernel
theorem dX7_advance_265 : decode cX7_advance 265 = .ok (.isub, 1) := by decide +kernel
theorem dX7_advance_266 : decode cX7_advance 266 = .ok (.iload_n 1, 1) := by decide +kernel
theorem dX7_advance_267 : decode cX7_advance 267 = .ok (.if_icmp .le 8, 3) := by decide +kernel
theorem dX7_advance_270 : decode cX7_advance 270 = .ok (.aload_n 0, 1) := by decide +kernel
theorem dX7_advance_271 : decode cX7_advance 271 = .ok (.iconst 4, 1) := by decide +kernel
theorem dX7_advance_272 : decode cX7_advance 272 = .ok (.putfield 48, 3) := by decide +kernel
theorem dX7_advance_275 : decode cX7_advance 275 = .ok (.return_, 1) := by decide +kernel
theorem dX7_sortOf_0 : decode cX7_sortOf 0 = .ok (.iload_n 0, 1) := by decide +kernel
theorem dX7_sortOf_1 : decode cX7_sortOf 1 = .ok (.bipush 97, 2) := by decide +kernel
theorem dX7_sortOf_3 : decode cX7_sortOf 3 = .ok (.if_icmp .lt 11, 3) := by decide +kernel
theorem dX7_sortOf_6 : decode cX7_sortOf 6 = .ok (.iload_n 0, 1) := by decide +kernel
theorem dX7_sortOf_7 : decode cX7_sortOf 7 = .ok (.bipush 122, 2) := by decide +kernel
theorem dX7_sortOf_9 : decode cX7_sortOf 9 = .ok (.if_icmp .gt 5, 3) := by decide +kernel
theorem dX7_sortOf_12 : decode cX7_sortOf 12 = .ok (.iconst 1, 1) := by decide +kernel
theorem dX7_sortOf_13 : decode cX7_sortOf 13 = .ok (.ireturn, 1) := by decide +kernel
theorem dX7_sortOf_14 : decode cX7_sortOf 14 = .ok (.iload_n 0, 1) := by decide +kernel
theorem dX7_sortOf_15 : decode cX7_sortOf 15 = .ok (.bipush 48, 2) := by decide +kernel
theorem dX7_sortOf_17 : decode cX7_sortOf 17 = .ok (.if_icmp .lt 11, 3) := by decide +kernel
theorem dX7_sortOf_20 : decode cX7_sortOf 20 = .ok (.iload_n 0, 1) := by decide +kernel
theorem dX7_sortOf_21 : decode cX7_sortOf 21 = .ok (.bipush 57, 2) := by decide +kernel
theorem dX7_sortOf_23 : decode cX7_sortOf 23 = .ok (.if_icmp .gt 5, 3) := by decide +kernel
theorem dX7_sortOf_26 : decode cX7_sortOf 26 = .ok (.iconst 2, 1) := by decide +kernel
theorem dX7_sortOf_27 : decode cX7_sortOf 27 = .ok (.ireturn, 1) := by decide +kernel
theorem dX7_sortOf_28 : decode cX7_sortOf 28 = .ok (.iload_n 0, 1) := by decide +kernel
theorem dX7_sortOf_29 : decode cX7_sortOf 29 = .ok (.bipush 59, 2) := by decide +kernel
theorem dX7_sortOf_31 : decode cX7_sortOf 31 = .ok (.if_icmp .ne 7, 3) := by decide +kernel
theorem dX7_sortOf_34 : decode cX7_sortOf 34 = .ok (.iconst 3, 1) := by decide +kernel
theorem dX7_sortOf_35 : decode cX7_sortOf 35 = .ok (.goto 4, 3) := by decide +kernel
theorem dX7_sortOf_38 : decode cX7_sortOf 38 = .ok (.iconst 4, 1) := by decide +kernel
theorem dX7_sortOf_39 : decode cX7_sortOf 39 = .ok (.ireturn, 1) := by decide +kernel
theorem dX7_codeOf_0 : decode cX7_codeOf 0 = .ok (.lconst 0, 1) := by decide +kernel
theorem dX7_codeOf_1 : decode cX7_codeOf 1 = .ok (.lstore_n 1, 1) := by decide +kernel
theorem dX7_codeOf_2 : decode cX7_codeOf 2 = .ok (.iconst 0, 1) := by decide +kernel
theorem dX7_codeOf_3 : decode cX7_codeOf 3 = .ok (.istore_n 3, 1) := by decide +kernel
theorem dX7_codeOf_4 : decode cX7_codeOf 4 = .ok (.iload_n 3, 1) := by decide +kernel
theorem dX7_codeOf_5 : decode cX7_codeOf 5 = .ok (.aload_n 0, 1) := by decide +kernel
theorem dX7_codeOf_6 : decode cX7_codeOf 6 = .ok (.invokevirtual 53, 3) := by decide +kernel
theorem dX7_codeOf_9 : decode cX7_codeOf 9 = .ok (.if_icmp .ge 25, 3) := by decide +kernel
theorem dX7_codeOf_12 : decode cX7_codeOf 12 = .ok (.lload_n 1, 1) := by decide +kernel
theorem dX7_codeOf_13 : decode cX7_codeOf 13 = .ok (.ldc2_w 51, 3) := by decide +kernel
theorem dX7_codeOf_16 : decode cX7_codeOf 16 = .ok (.lmul, 1) := by decide +kernel
theorem dX7_codeOf_17 : decode cX7_codeOf 17 = .ok (.aload_n 0, 1) := by decide +kernel
theorem dX7_codeOf_18 : decode cX7_codeOf 18 = .ok (.iload_n 3, 1) := by decide +kernel
theorem dX7_codeOf_19 : decode cX7_codeOf 19 = .ok (.invokevirtual 58, 3) := by decide +kernel
theorem dX7_codeOf_22 : decode cX7_codeOf 22 = .ok (.bipush 31, 2) := by decide +kernel
theorem dX7_codeOf_24 : decode cX7_codeOf 24 = .ok (.iand, 1) := by decide +kernel
theorem dX7_codeOf_25 : decode cX7_codeOf 25 = .ok (.i2l, 1) := by decide +kernel
theorem dX7_codeOf_26 : decode cX7_codeOf 26 = .ok (.ladd, 1) := by decide +kernel
theorem dX7_codeOf_27 : decode cX7_codeOf 27 = .ok (.lstore_n 1, 1) := by decide +kernel
theorem dX7_codeOf_28 : decode cX7_codeOf 28 = .ok (.iinc 3 1, 3) := by decide +kernel
theorem dX7_codeOf_31 : decode cX7_codeOf 31 = .ok (.goto (-27), 3) := by decide +kernel
theorem dX7_codeOf_34 : decode cX7_codeOf 34 = .ok (.lload_n 1, 1) := by decide +kernel
theorem dX7_codeOf_35 : decode cX7_codeOf 35 = .ok (.lreturn, 1) := by decide +kernel
theorem dX7_spells_0 : decode cX7_spells 0 = .ok (.aload_n 0, 1) := by decide +kernel
theorem dX7_spells_1 : decode cX7_spells 1 = .ok (.getfield 48, 3) := by decide +kernel
theorem dX7_spells_4 : decode cX7_spells 4 = .ok (.iconst 1, 1) := by decide +kernel
theorem dX7_spells_5 : decode cX7_spells 5 = .ok (.if_icmp .ne 19, 3) := by decide +kernel
theorem dX7_spells_8 : decode cX7_spells 8 = .ok (.aload_n 1, 1) := by decide +kernel
theorem dX7_spells_9 : decode cX7_spells 9 = .ok (.invokevirtual 53, 3) := by decide +kernel
theorem dX7_spells_12 : decode cX7_spells 12 = .ok (.aload_n 0, 1) := by decide +kernel
theorem dX7_spells_13 : decode cX7_spells 13 = .ok (.getfield 19, 3) := by decide +kernel
theorem dX7_spells_16 : decode cX7_spells 16 = .ok (.aload_n 0, 1) := by decide +kernel
theorem dX7_spells_17 : decode cX7_spells 17 = .ok (.getfield 34, 3) := by decide +kernel
theorem dX7_spells_20 : decode cX7_spells 20 = .ok (.isub, 1) := by decide +kernel
theorem dX7_spells_21 : decode cX7_spells 21 = .ok (.if_icmp .eq 5, 3) := by decide +kernel
theorem dX7_spells_24 : decode cX7_spells 24 = .ok (.iconst 0, 1) := by decide +kernel
theorem dX7_spells_25 : decode cX7_spells 25 = .ok (.ireturn, 1) := by decide +kernel
theorem dX7_spells_26 : decode cX7_spells 26 = .ok (.iconst 0, 1) := by decide +kernel
theorem dX7_spells_27 : decode cX7_spells 27 = .ok (.istore_n 2, 1) := by decide +kernel
theorem dX7_spells_28 : decode cX7_spells 28 = .ok (.iload_n 2, 1) := by decide +kernel
theorem dX7_spells_29 : decode cX7_spells 29 = .ok (.aload_n 1, 1) := by decide +kernel
theorem dX7_spells_30 : decode cX7_spells 30 = .ok (.invokevirtual 53, 3) := by decide +kernel
theorem dX7_spells_33 : decode cX7_spells 33 = .ok (.if_icmp .ge 30, 3) := by decide +kernel
theorem dX7_spells_36 : decode cX7_spells 36 = .ok (.aload_n 0, 1) := by decide +kernel
theorem dX7_spells_37 : decode cX7_spells 37 = .ok (.getfield 9, 3) := by decide +kernel
theorem dX7_spells_40 : decode cX7_spells 40 = .ok (.aload_n 0, 1) := by decide +kernel
theorem dX7_spells_41 : decode cX7_spells 41 = .ok (.getfield 34, 3) := by decide +kernel
theorem dX7_spells_44 : decode cX7_spells 44 = .ok (.iload_n 2, 1) := by decide +kernel
theorem dX7_spells_45 : decode cX7_spells 45 = .ok (.iadd, 1) := by decide +kernel
theorem dX7_spells_46 : decode cX7_spells 46 = .ok (.iaload, 1) := by decide +kernel
theorem dX7_spells_47 : decode cX7_spells 47 = .ok (.aload_n 1, 1) := by decide +kernel
theorem dX7_spells_48 : decode cX7_spells 48 = .ok (.iload_n 2, 1) := by decide +kernel
theorem dX7_spells_49 : decode cX7_spells 49 = .ok (.invokevirtual 58, 3) := by decide +kernel
theorem dX7_spells_52 : decode cX7_spells 52 = .ok (.if_icmp .eq 5, 3) := by decide +kernel
theorem dX7_spells_55 : decode cX7_spells 55 = .ok (.iconst 0, 1) := by decide +kernel
theorem dX7_spells_56 : decode cX7_spells 56 = .ok (.ireturn, 1) := by decide +kernel
theorem dX7_spells_57 : decode cX7_spells 57 = .ok (.iinc 2 1, 3) := by decide +kernel
theorem dX7_spells_60 : decode cX7_spells 60 = .ok (.goto (-32), 3) := by decide +kernel
theorem dX7_spells_63 : decode cX7_spells 63 = .ok (.iconst 1, 1) := by decide +kernel
theorem dX7_spells_64 : decode cX7_spells 64 = .ok (.ireturn, 1) := by decide +kernel
theorem dX8_init_0 : decode cX8_init 0 = .ok (.aload_n 0, 1) := by decide +kernel
theorem dX8_init_1 : decode cX8_init 1 = .ok (.invokespecial 3, 3) := by decide +kernel
theorem dX8_init_4 : decode cX8_init 4 = .ok (.aload_n 0, 1) := by decide +kernel
theorem dX8_init_5 : decode cX8_init 5 = .ok (.bipush 8, 2) := by decide +kernel
theorem dX8_init_7 : decode cX8_init 7 = .ok (.newarray .int, 2) := by decide +kernel
theorem dX8_init_9 : decode cX8_init 9 = .ok (.putfield 9, 3) := by decide +kernel
theorem dX8_init_12 : decode cX8_init 12 = .ok (.aload_n 0, 1) := by decide +kernel
theorem dX8_init_13 : decode cX8_init 13 = .ok (.bipush 7, 2) := by decide +kernel
theorem dX8_init_15 : decode cX8_init 15 = .ok (.newarray .int, 2) := by decide +kernel
theorem dX8_init_17 : decode cX8_init 17 = .ok (.putfield 15, 3) := by decide +kernel
theorem dX8_init_20 : decode cX8_init 20 = .ok (.aload_n 0, 1) := by decide +kernel
theorem dX8_init_21 : decode cX8_init 21 = .ok (.bipush 7, 2) := by decide +kernel
theorem dX8_init_23 : decode cX8_init 23 = .ok (.newarray .int, 2) := by decide +kernel
theorem dX8_init_25 : decode cX8_init 25 = .ok (.putfield 18, 3) := by decide +kernel
theorem dX8_init_28 : decode cX8_init 28 = .ok (.aload_n 0, 1) := by decide +kernel
theorem dX8_init_29 : decode cX8_init 29 = .ok (.iconst 4, 1) := by decide +kernel
theorem dX8_init_30 : decode cX8_init 30 = .ok (.newarray .int, 2) := by decide +kernel
theorem dX8_init_32 : decode cX8_init 32 = .ok (.putfield 21, 3) := by decide +kernel
theorem dX8_init_35 : decode cX8_init 35 = .ok (.aload_n 0, 1) := by decide +kernel
theorem dX8_init_36 : decode cX8_init 36 = .ok (.bipush 6, 2) := by decide +kernel
theorem dX8_init_38 : decode cX8_init 38 = .ok (.newarray .int, 2) := by decide +kernel
theorem dX8_init_40 : decode cX8_init 40 = .ok (.putfield 24, 3) := by decide +kernel
theorem dX8_init_43 : decode cX8_init 43 = .ok (.aload_n 0, 1) := by decide +kernel
theorem dX8_init_44 : decode cX8_init 44 = .ok (.bipush 6, 2) := by decide +kernel
theorem dX8_init_46 : decode cX8_init 46 = .ok (.newarray .int, 2) := by decide +kernel
theorem dX8_init_48 : decode cX8_init 48 = .ok (.putfield 27, 3) := by decide +kernel
theorem dX8_init_51 : decode cX8_init 51 = .ok (.aload_n 0, 1) := by decide +kernel
theorem dX8_init_52 : decode cX8_init 52 = .ok (.bipush 6, 2) := by decide +kernel
theorem dX8_init_54 : decode cX8_init 54 = .ok (.newarray .int, 2) := by decide +kernel
theorem dX8_init_56 : decode cX8_init 56 = .ok (.putfield 30, 3) := by decide +kernel
theorem dX8_init_59 : decode cX8_init 59 = .ok (.aload_n 0, 1) := by decide +kernel
theorem dX8_init_60 : decode cX8_init 60 = .ok (.iconst 3, 1) := by decide +kernel
theorem dX8_init_61 : decode cX8_init 61 = .ok (.newarray .int, 2) := by decide +kernel
theorem dX8_init_63 : decode cX8_init 63 = .ok (.putfield 33, 3) := by decide +kernel
theorem dX8_init_66 : decode cX8_init 66 = .ok (.return_, 1) := by decide +kernel
theorem dX8_clear_0 : decode cX8_clear 0 = .ok (.aload_n 0, 1) := by decide +kernel
theorem dX8_clear_1 : decode cX8_clear 1 = .ok (.iconst 0, 1) := by decide +kernel
theorem dX8_clear_2 : decode cX8_clear 2 = .ok (.putfield 36, 3) := by decide +kernel
theorem dX8_clear_5 : decode cX8_clear 5 = .ok (.iconst 0, 1) := by decide +kernel
theorem dX8_clear_6 : decode cX8_clear 6 = .ok (.istore_n 1, 1) := by decide +kernel
theorem dX8_clear_7 : decode cX8_clear 7 = .ok (.iload_n 1, 1) := by decide +kernel
theorem dX8_clear_8 : decode cX8_clear 8 = .ok (.bipush 8, 2) := by decide +kernel
theorem dX8_clear_10 : decode cX8_clear 10 = .ok (.if_icmp .ge 16, 3) := by decide +kernel
theorem dX8_clear_13 : decode cX8_clear 13 = .ok (.aload_n 0, 1) := by decide +kernel
theorem dX8_clear_14 : decode cX8_clear 14 = .ok (.getfield 9, 3) := by decide +kernel
theorem dX8_clear_17 : decode cX8_clear 17 = .ok (.iload_n 1, 1) := by decide +kernel
theorem dX8_clear_18 : decode cX8_clear 18 = .ok (.iconst 0, 1) := by decide +kernel
theorem dX8_clear_19 : decode cX8_clear 19 = .ok (.iastore, 1) := by decide +kernel
theorem dX8_clear_20 : decode cX8_clear 20 = .ok (.iinc 1 1, 3) := by decide +kernel
theorem dX8_clear_23 : decode cX8_clear 23 = .ok (.goto (-16), 3) := by decide +kernel
theorem dX8_clear_26 : decode cX8_clear 26 = .ok (.iconst 0, 1) := by decide +kernel
theorem dX8_clear_27 : decode cX8_clear 27 = .ok (.istore_n 1, 1) := by decide +kernel
theorem dX8_clear_28 : decode cX8_clear 28 = .ok (.iload_n 1, 1) := by decide +kernel
theorem dX8_clear_29 : decode cX8_clear 29 = .ok (.bipush 7, 2) := by decide +kernel
theorem dX8_clear_31 : decode cX8_clear 31 = .ok (.if_icmp .ge 16, 3) := by decide +kernel
theorem dX8_clear_34 : decode cX8_clear 34 = .ok (.aload_n 0, 1) := by decide +kernel
theorem dX8_clear_35 : decode cX8_clear 35 = .ok (.getfield 18, 3) := by decide +kernel
theorem dX8_clear_38 : decode cX8_clear 38 = .ok (.iload_n 1, 1) := by decide +kernel
theorem dX8_clear_39 : decode cX8_clear 39 = .ok (.iconst 0, 1) := by decide +kernel
theorem dX8_clear_40 : decode cX8_clear 40 = .ok (.iastore, 1) := by decide +kernel
theorem dX8_clear_41 : decode cX8_clear 41 = .ok (.iinc 1 1, 3) := by decide +kernel
theorem dX8_clear_44 : decode cX8_clear 44 = .ok (.goto (-16), 3) := by decide +kernel
theorem dX8_clear_47 : decode cX8_clear 47 = .ok (.return_, 1) := by decide +kernel
theorem dX8_stepsBehind_0 : decode cX8_stepsBehind 0 = .ok (.iload_n 2, 1) := by decide +kernel
theorem dX8_stepsBehind_1 : decode cX8_stepsBehind 1 = .ok (.getstatic 40, 3) := by decide +kernel
theorem dX8_stepsBehind_4 : decode cX8_stepsBehind 4 = .ok (.aload_n 0, 1) := by decide +kernel
theorem dX8_stepsBehind_5 : decode cX8_stepsBehind 5 = .ok (.getfield 21, 3) := by decide +kernel
theorem dX8_stepsBehind_8 : decode cX8_stepsBehind 8 = .ok (.iload_n 1, 1) := by decide +kernel
theorem dX8_stepsBehind_9 : decode cX8_stepsBehind 9 = .ok (.iaload, 1) := by decide +kernel
theorem dX8_stepsBehind_10 : decode cX8_stepsBehind 10 = .ok (.iaload, 1) := by decide +kernel
theorem dX8_stepsBehind_11 : decode cX8_stepsBehind 11 = .ok (.imul, 1) := by decide +kernel
theorem dX8_stepsBehind_12 : decode cX8_stepsBehind 12 = .ok (.getstatic 43, 3) := by decide +kernel
theorem dX8_stepsBehind_15 : decode cX8_stepsBehind 15 = .ok (.aload_n 0, 1) := by decide +kernel
theorem dX8_stepsBehind_16 : decode cX8_stepsBehind 16 = .ok (.getfield 21, 3) := by decide +kernel
theorem dX8_stepsBehind_19 : decode cX8_stepsBehind 19 = .ok (.iload_n 1, 1) := by decide +kernel
theorem dX8_stepsBehind_20 : decode cX8_stepsBehind 20 = .ok (.iaload, 1) := by decide +kernel
theorem dX8_stepsBehind_21 : decode cX8_stepsBehind 21 = .ok (.iaload, 1) := by decide +kernel
theorem dX8_stepsBehind_22 : decode cX8_stepsBehind 22 = .ok (.iadd, 1) := by decide +kernel
theorem dX8_stepsBehind_23 : decode cX8_stepsBehind 23 = .ok (.ireturn, 1) := by decide +kernel
theorem dX8_killsShotBy_0 : decode cX8_killsShotBy 0 = .ok (.iconst 0, 1) := by decide +kernel
theorem dX8_killsShotBy_1 : decode cX8_killsShotBy 1 = .ok (.istore_n 2, 1) := by decide +kernel
theorem dX8_killsShotBy_2 : decode cX8_killsShotBy 2 = .ok (.iconst 0, 1) := by decide +kernel
theorem dX8_killsShotBy_3 : decode cX8_killsShotBy 3 = .ok (.istore_n 3, 1) := by decide +kernel
theorem dX8_killsShotBy_4 : decode cX8_killsShotBy 4 = .ok (.iload_n 3, 1) := by decide +kernel
theorem dX8_killsShotBy_5 : decode cX8_killsShotBy 5 = .ok (.aload_n 0, 1) := by decide +kernel
theorem dX8_killsShotBy_6 : decode cX8_killsShotBy 6 = .ok (.getfield 9, 3) := by decide +kernel
theorem dX8_killsShotBy_9 : decode cX8_killsShotBy 9 = .ok (.iconst 4, 1) := by decide +kernel
theorem dX8_killsShotBy_10 : decode cX8_killsShotBy 10 = .ok (.iaload, 1) := by decide +kernel
theorem dX8_killsShotBy_11 : decode cX8_killsShotBy 11 = .ok (.if_icmp .ge 25, 3) := by decide +kernel
theorem dX8_killsShotBy_14 : decode cX8_killsShotBy 14 = .ok (.aload_n 0, 1) := by decide +kernel
theorem dX8_killsShotBy_15 : decode cX8_killsShotBy 15 = .ok (.getfield 24, 3) := by decide +kernel
theorem dX8_killsShotBy_18 : decode cX8_killsShotBy 18 = .ok (.iload_n 3, 1) := by decide +kernel
theorem dX8_killsShotBy_19 : decode cX8_killsShotBy 19 = .ok (.iaload, 1) := by decide +kernel
theorem dX8_killsShotBy_20 : decode cX8_killsShotBy 20 = .ok (.iload_n 1, 1) := by decide +kernel
theorem dX8_killsShotBy_21 : decode cX8_killsShotBy 21 = .ok (.if_icmp .ne 9, 3) := by decide +kernel
theorem dX8_killsShotBy_24 : decode cX8_killsShotBy 24 = .ok (.iload_n 2, 1) := by decide +kernel
theorem dX8_killsShotBy_25 : decode cX8_killsShotBy 25 = .ok (.iconst 1, 1) := by decide +kernel
theorem dX8_killsShotBy_26 : decode cX8_killsShotBy 26 = .ok (.iload_n 3, 1) := by decide +kernel
theorem dX8_killsShotBy_27 : decode cX8_killsShotBy 27 = .ok (.ishl, 1) := by decide +kernel
theorem dX8_killsShotBy_28 : decode cX8_killsShotBy 28 = .ok (.ior, 1) := by decide +kernel
theorem dX8_killsShotBy_29 : decode cX8_killsShotBy 29 = .ok (.istore_n 2, 1) := by decide +kernel
theorem dX8_killsShotBy_30 : decode cX8_killsShotBy 30 = .ok (.iinc 3 1, 3) := by decide +kernel
theorem dX8_killsShotBy_33 : decode cX8_killsShotBy 33 = .ok (.goto (-29), 3) := by decide +kernel
theorem dX8_killsShotBy_36 : decode cX8_killsShotBy 36 = .ok (.iload_n 2, 1) := by decide +kernel
theorem dX8_killsShotBy_37 : decode cX8_killsShotBy 37 = .ok (.ireturn, 1) := by decide +kernel
theorem dX8_worthOf_0 : decode cX8_worthOf 0 = .ok (.iconst 0, 1) := by decide +kernel
theorem dX8_worthOf_1 : decode cX8_worthOf 1 = .ok (.istore_n 2, 1) := by decide +kernel
theorem dX8_worthOf_2 : decode cX8_worthOf 2 = .ok (.iconst 0, 1) := by decide +kernel
theorem dX8_worthOf_3 : decode cX8_worthOf 3 = .ok (.istore_n 3, 1) := by decide +kernel
theorem dX8_worthOf_4 : decode cX8_worthOf 4 = .ok (.iload_n 3, 1) := by decide +kernel
theorem dX8_worthOf_5 : decode cX8_worthOf 5 = .ok (.aload_n 0, 1) := by decide +kernel
theorem dX8_worthOf_6 : decode cX8_worthOf 6 = .ok (.getfield 9, 3) := by decide +kernel
theorem dX8_worthOf_9 : decode cX8_worthOf 9 = .ok (.iconst 4, 1) := by decide +kernel
theorem dX8_worthOf_10 : decode cX8_worthOf 10 = .ok (.iaload, 1) := by decide +kernel
theorem dX8_worthOf_11 : decode cX8_worthOf 11 = .ok (.if_icmp .ge 26, 3) := by decide +kernel
theorem dX8_worthOf_14 : decode cX8_worthOf 14 = .ok (.iload_n 1, 1) := by decide +kernel
theorem dX8_worthOf_15 : decode cX8_worthOf 15 = .ok (.iload_n 3, 1) := by decide +kernel
theorem dX8_worthOf_16 : decode cX8_worthOf 16 = .ok (.invokestatic 46, 3) := by decide +kernel
theorem dX8_worthOf_19 : decode cX8_worthOf 19 = .ok (.ifCond .eq 12, 3) := by decide +kernel
theorem dX8_worthOf_22 : decode cX8_worthOf 22 = .ok (.iload_n 2, 1) := by decide +kernel
theorem dX8_worthOf_23 : decode cX8_worthOf 23 = .ok (.aload_n 0, 1) := by decide +kernel
theorem dX8_worthOf_24 : decode cX8_worthOf 24 = .ok (.getfield 30, 3) := by decide +kernel
theorem dX8_worthOf_27 : decode cX8_worthOf 27 = .ok (.iload_n 3, 1) := by decide +kernel
theorem dX8_worthOf_28 : decode cX8_worthOf 28 = .ok (.iaload, 1) := by decide +kernel
theorem dX8_worthOf_29 : decode cX8_worthOf 29 = .ok (.iadd, 1) := by decide +kernel
theorem dX8_worthOf_30 : decode cX8_worthOf 30 = .ok (.istore_n 2, 1) := by decide +kernel
theorem dX8_worthOf_31 : decode cX8_worthOf 31 = .ok (.iinc 3 1, 3) := by decide +kernel
theorem dX8_worthOf_34 : decode cX8_worthOf 34 = .ok (.goto (-30), 3) := by decide +kernel
theorem dX8_worthOf_37 : decode cX8_worthOf 37 = .ok (.iload_n 2, 1) := by decide +kernel
theorem dX8_worthOf_38 : decode cX8_worthOf 38 = .ok (.ireturn, 1) := by decide +kernel
theorem dX9_init_0 : decode cX9_init 0 = .ok (.aload_n 0, 1) := by decide +kernel
theorem dX9_init_1 : decode cX9_init 1 = .ok (.invokespecial 3, 3) := by decide +kernel
theorem dX9_init_4 : decode cX9_init 4 = .ok (.aload_n 0, 1) := by decide +kernel
theorem dX9_init_5 : decode cX9_init 5 = .ok (.new 9, 3) := by decide +kernel
theorem dX9_init_8 : decode cX9_init 8 = .ok (.dup, 1) := by decide +kernel
theorem dX9_init_9 : decode cX9_init 9 = .ok (.new 11, 3) := by decide +kernel
theorem dX9_init_12 : decode cX9_init 12 = .ok (.dup, 1) := by decide +kernel
theorem dX9_init_13 : decode cX9_init 13 = .ok (.invokespecial 13, 3) := by decide +kernel
theorem dX9_init_16 : decode cX9_init 16 = .ok (.invokespecial 14, 3) := by decide +kernel
theorem dX9_init_19 : decode cX9_init 19 = .ok (.putfield 17, 3) := by decide +kernel
theorem dX9_init_22 : decode cX9_init 22 = .ok (.return_, 1) := by decide +kernel
theorem dX9_begin_0 : decode cX9_begin 0 = .ok (.aload_n 0, 1) := by decide +kernel
theorem dX9_begin_1 : decode cX9_begin 1 = .ok (.getfield 17, 3) := by decide +kernel
theorem dX9_begin_4 : decode cX9_begin 4 = .ok (.aload_n 1, 1) := by decide +kernel
theorem dX9_begin_5 : decode cX9_begin 5 = .ok (.invokevirtual 23, 3) := by decide +kernel
theorem dX9_begin_8 : decode cX9_begin 8 = .ok (.return_, 1) := by decide +kernel
theorem dX9_goal_0 : decode cX9_goal 0 = .ok (.iload_n 2, 1) := by decide +kernel
theorem dX9_goal_1 : decode cX9_goal 1 = .ok (.ifCond .ne 14, 3) := by decide +kernel
theorem dX9_goal_4 : decode cX9_goal 4 = .ok (.aload_n 0, 1) := by decide +kernel
theorem dX9_goal_5 : decode cX9_goal 5 = .ok (.getfield 17, 3) := by decide +kernel
theorem dX9_goal_8 : decode cX9_goal 8 = .ok (.iload_n 1, 1) := by decide +kernel
theorem dX9_goal_9 : decode cX9_goal 9 = .ok (.invokevirtual 27, 3) := by decide +kernel
theorem dX9_goal_12 : decode cX9_goal 12 = .ok (.goto 6, 3) := by decide +kernel
theorem dX9_goal_15 : decode cX9_goal 15 = .ok (.iload_n 2, 1) := by decide +kernel
theorem dX9_goal_16 : decode cX9_goal 16 = .ok (.iconst 1, 1) := by decide +kernel
theorem dX9_goal_17 : decode cX9_goal 17 = .ok (.isub, 1) := by decide +kernel
theorem dX9_goal_18 : decode cX9_goal 18 = .ok (.ireturn, 1) := by decide +kernel
theorem dX9_walkRow_0 : decode cX9_walkRow 0 = .ok (.iload_n 3, 1) := by decide +kernel
theorem dX9_walkRow_1 : decode cX9_walkRow 1 = .ok (.iconst 1, 1) := by decide +kernel
theorem dX9_walkRow_2 : decode cX9_walkRow 2 = .ok (.isub, 1) := by decide +kernel
theorem dX9_walkRow_3 : decode cX9_walkRow 3 = .ok (.istore 4, 2) := by decide +kernel
theorem dX9_walkRow_5 : decode cX9_walkRow 5 = .ok (.iload 4, 2) := by decide +kernel
theorem dX9_walkRow_7 : decode cX9_walkRow 7 = .ok (.ifCond .lt 52, 3) := by decide +kernel
theorem dX9_walkRow_10 : decode cX9_walkRow 10 = .ok (.aload_n 0, 1) := by decide +kernel
theorem dX9_walkRow_11 : decode cX9_walkRow 11 = .ok (.iload_n 1, 1) := by decide +kernel
theorem dX9_walkRow_12 : decode cX9_walkRow 12 = .ok (.iload_n 2, 1) := by decide +kernel
theorem dX9_walkRow_13 : decode cX9_walkRow 13 = .ok (.getstatic 31, 3) := by decide +kernel
theorem dX9_walkRow_16 : decode cX9_walkRow 16 = .ok (.iload 4, 2) := by decide +kernel
theorem dX9_walkRow_18 : decode cX9_walkRow 18 = .ok (.iaload, 1) := by decide +kernel
theorem dX9_walkRow_19 : decode cX9_walkRow 19 = .ok (.idiv, 1) := by decide +kernel
theorem dX9_walkRow_20 : decode cX9_walkRow 20 = .ok (.bipush 10, 2) := by decide +kernel
theorem dX9_walkRow_22 : decode cX9_walkRow 22 = .ok (.irem, 1) := by decide +kernel
theorem dX9_walkRow_23 : decode cX9_walkRow 23 = .ok (.invokevirtual 35, 3) := by decide +kernel
theorem dX9_walkRow_26 : decode cX9_walkRow 26 = .ok (.istore 5, 2) := by decide +kernel
theorem dX9_walkRow_28 : decode cX9_walkRow 28 = .ok (.aload_n 0, 1) := by decide +kernel
theorem dX9_walkRow_29 : decode cX9_walkRow 29 = .ok (.getfield 17, 3) := by decide +kernel
theorem dX9_walkRow_32 : decode cX9_walkRow 32 = .ok (.iload_n 1, 1) := by decide +kernel
theorem dX9_walkRow_33 : decode cX9_walkRow 33 = .ok (.iload 5, 2) := by decide +kernel
theorem dX9_walkRow_35 : decode cX9_walkRow 35 = .ok (.invokevirtual 39, 3) := by decide +kernel
theorem dX9_walkRow_38 : decode cX9_walkRow 38 = .ok (.ifCond .ne 5, 3) := by decide +kernel
theorem dX9_walkRow_41 : decode cX9_walkRow 41 = .ok (.iconst 0, 1) := by decide +kernel
theorem dX9_walkRow_42 : decode cX9_walkRow 42 = .ok (.ireturn, 1) := by decide +kernel
theorem dX9_walkRow_43 : decode cX9_walkRow 43 = .ok (.aload_n 0, 1) := by decide +kernel
theorem dX9_walkRow_44 : decode cX9_walkRow 44 = .ok (.getfield 17, 3) := by decide +kernel
theorem dX9_walkRow_47 : decode cX9_walkRow 47 = .ok (.iload_n 1, 1) := by decide +kernel
theorem dX9_walkRow_48 : decode cX9_walkRow 48 = .ok (.iload 5, 2) := by decide +kernel
theorem dX9_walkRow_50 : decode cX9_walkRow 50 = .ok (.invokevirtual 43, 3) := by decide +kernel
theorem dX9_walkRow_53 : decode cX9_walkRow 53 = .ok (.iinc 4 (-1), 3) := by decide +kernel
theorem dX9_walkRow_56 : decode cX9_walkRow 56 = .ok (.goto (-51), 3) := by decide +kernel
theorem dX9_walkRow_59 : decode cX9_walkRow 59 = .ok (.iconst 1, 1) := by decide +kernel
theorem dX9_walkRow_60 : decode cX9_walkRow 60 = .ok (.ireturn, 1) := by decide +kernel
theorem dX9_stepsToLure_0 : decode cX9_stepsToLure 0 = .ok (.iconst 0, 1) := by decide +kernel
theorem dX9_stepsToLure_1 : decode cX9_stepsToLure 1 = .ok (.istore_n 3, 1) := by decide +kernel
theorem dX9_stepsToLure_2 : decode cX9_stepsToLure 2 = .ok (.iload_n 3, 1) := by decide +kernel
theorem dX9_stepsToLure_3 : decode cX9_stepsToLure 3 = .ok (.iconst 5, 1) := by decide +kernel
theorem dX9_stepsToLure_4 : decode cX9_stepsToLure 4 = .ok (.if_icmp .gt 26, 3) := by decide +kernel
theorem dX9_stepsToLure_7 : decode cX9_stepsToLure 7 = .ok (.aload_n 0, 1) := by decide +kernel
theorem dX9_stepsToLure_8 : decode cX9_stepsToLure 8 = .ok (.iconst 0, 1) := by decide +kernel
theorem dX9_stepsToLure_9 : decode cX9_stepsToLure 9 = .ok (.putfield 47, 3) := by decide +kernel
theorem dX9_stepsToLure_12 : decode cX9_stepsToLure 12 = .ok (.aload_n 0, 1) := by decide +kernel
theorem dX9_stepsToLure_13 : decode cX9_stepsToLure 13 = .ok (.iload_n 1, 1) := by decide +kernel
theorem dX9_stepsToLure_14 : decode cX9_stepsToLure 14 = .ok (.iload_n 2, 1) := by decide +kernel
theorem dX9_stepsToLure_15 : decode cX9_stepsToLure 15 = .ok (.iload_n 3, 1) := by decide +kernel
theorem dX9_stepsToLure_16 : decode cX9_stepsToLure 16 = .ok (.invokevirtual 51, 3) := by decide +kernel
theorem dX9_stepsToLure_19 : decode cX9_stepsToLure 19 = .ok (.ifCond .eq 5, 3) := by decide +kernel
theorem dX9_stepsToLure_22 : decode cX9_stepsToLure 22 = .ok (.iload_n 3, 1) := by decide +kernel
theorem dX9_stepsToLure_23 : decode cX9_stepsToLure 23 = .ok (.ireturn, 1) := by decide +kernel
theorem dX9_stepsToLure_24 : decode cX9_stepsToLure 24 = .ok (.iinc 3 1, 3) := by decide +kernel
theorem dX9_stepsToLure_27 : decode cX9_stepsToLure 27 = .ok (.goto (-25), 3) := by decide +kernel
theorem dX9_stepsToLure_30 : decode cX9_stepsToLure 30 = .ok (.bipush (-2), 2) := by decide +kernel
theorem dX9_stepsToLure_32 : decode cX9_stepsToLure 32 = .ok (.ireturn, 1) := by decide +kernel
theorem dX9_findsRow_0 : decode cX9_findsRow 0 = .ok (.iload_n 3, 1) := by decide +kernel
theorem dX9_findsRow_1 : decode cX9_findsRow 1 = .ok (.ifCond .le 8, 3) := by decide +kernel
theorem dX9_findsRow_4 : decode cX9_findsRow 4 = .ok (.iload_n 3, 1) := by decide +kernel
theorem dX9_findsRow_5 : decode cX9_findsRow 5 = .ok (.iconst 5, 1) := by decide +kernel
theorem dX9_findsRow_6 : decode cX9_findsRow 6 = .ok (.if_icmp .le 21, 3) := by decide +kernel
theorem dX9_findsRow_9 : decode cX9_findsRow 9 = .ok (.aload_n 0, 1) := by decide +kernel
theorem dX9_findsRow_10 : decode cX9_findsRow 10 = .ok (.getfield 17, 3) := by decide +kernel
theorem dX9_findsRow_13 : decode cX9_findsRow 13 = .ok (.iload_n 1, 1) := by decide +kernel
theorem dX9_findsRow_14 : decode cX9_findsRow 14 = .ok (.invokevirtual 55, 3) := by decide +kernel
theorem dX9_findsRow_17 : decode cX9_findsRow 17 = .ok (.iload_n 2, 1) := by decide +kernel
theorem dX9_findsRow_18 : decode cX9_findsRow 18 = .ok (.if_icmp .ne 7, 3) := by decide +kernel
theorem dX9_findsRow_21 : decode cX9_findsRow 21 = .ok (.iconst 1, 1) := by decide +kernel
theorem dX9_findsRow_22 : decode cX9_findsRow 22 = .ok (.goto 4, 3) := by decide +kernel
theorem dX9_findsRow_25 : decode cX9_findsRow 25 = .ok (.iconst 0, 1) := by decide +kernel
theorem dX9_findsRow_26 : decode cX9_findsRow 26 = .ok (.ireturn, 1) := by decide +kernel
theorem dX9_findsRow_27 : decode cX9_findsRow 27 = .ok (.aload_n 0, 1) := by decide +kernel
theorem dX9_findsRow_28 : decode cX9_findsRow 28 = .ok (.getfield 17, 3) := by decide +kernel
theorem dX9_findsRow_31 : decode cX9_findsRow 31 = .ok (.getfield 58, 3) := by decide +kernel
theorem dX9_findsRow_34 : decode cX9_findsRow 34 = .ok (.iload_n 1, 1) := by decide +kernel
theorem dX9_findsRow_35 : decode cX9_findsRow 35 = .ok (.iaload, 1) := by decide +kernel
theorem dX9_findsRow_36 : decode cX9_findsRow 36 = .ok (.istore 4, 2) := by decide +kernel
theorem dX9_findsRow_38 : decode cX9_findsRow 38 = .ok (.aload_n 0, 1) := by decide +kernel
theorem dX9_findsRow_39 : decode cX9_findsRow 39 = .ok (.getfield 17, 3) := by decide +kernel
theorem dX9_findsRow_42 : decode cX9_findsRow 42 = .ok (.iload 4, 2) := by decide +kernel
theorem dX9_findsRow_44 : decode cX9_findsRow 44 = .ok (.bipush 7, 2) := by decide +kernel
theorem dX9_findsRow_46 : decode cX9_findsRow 46 = .ok (.invokevirtual 61, 3) := by decide +kernel
theorem dX9_findsRow_49 : decode cX9_findsRow 49 = .ok (.istore 5, 2) := by decide +kernel
theorem dX9_findsRow_51 : decode cX9_findsRow 51 = .ok (.iconst 0, 1) := by decide +kernel
theorem dX9_findsRow_52 : decode cX9_findsRow 52 = .ok (.istore 6, 2) := by decide +kernel
theorem dX9_findsRow_54 : decode cX9_findsRow 54 = .ok (.iload 6, 2) := by decide +kernel
theorem dX9_findsRow_56 : decode cX9_findsRow 56 = .ok (.aload_n 0, 1) := by decide +kernel
theorem dX9_findsRow_57 : decode cX9_findsRow 57 = .ok (.getfield 17, 3) := by decide +kernel
theorem dX9_findsRow_60 : decode cX9_findsRow 60 = .ok (.getfield 64, 3) := by decide +kernel
theorem dX9_findsRow_63 : decode cX9_findsRow 63 = .ok (.getfield 68, 3) := by decide +kernel
theorem dX9_findsRow_66 : decode cX9_findsRow 66 = .ok (.iconst 1, 1) := by decide +kernel
theorem dX9_findsRow_67 : decode cX9_findsRow 67 = .ok (.iaload, 1) := by decide +kernel
theorem dX9_findsRow_68 : decode cX9_findsRow 68 = .ok (.if_icmp .gt 85, 3) := by decide +kernel
theorem dX9_findsRow_71 : decode cX9_findsRow 71 = .ok (.aload_n 0, 1) := by decide +kernel
theorem dX9_findsRow_72 : decode cX9_findsRow 72 = .ok (.iload 4, 2) := by decide +kernel
theorem dX9_findsRow_74 : decode cX9_findsRow 74 = .ok (.iload 6, 2) := by decide +kernel
theorem dX9_findsRow_76 : decode cX9_findsRow 76 = .ok (.invokevirtual 71, 3) := by decide +kernel
theorem dX9_findsRow_79 : decode cX9_findsRow 79 = .ok (.ifCond .eq 68, 3) := by decide +kernel
theorem dX9_findsRow_82 : decode cX9_findsRow 82 = .ok (.aload_n 0, 1) := by decide +kernel
theorem dX9_findsRow_83 : decode cX9_findsRow 83 = .ok (.getfield 17, 3) := by decide +kernel
theorem dX9_findsRow_86 : decode cX9_findsRow 86 = .ok (.iload 4, 2) := by decide +kernel
theorem dX9_findsRow_88 : decode cX9_findsRow 88 = .ok (.aload_n 0, 1) := by decide +kernel
theorem dX9_findsRow_89 : decode cX9_findsRow 89 = .ok (.iload 4, 2) := by decide +kernel
theorem dX9_findsRow_91 : decode cX9_findsRow 91 = .ok (.iload 6, 2) := by decide +kernel
theorem dX9_findsRow_93 : decode cX9_findsRow 93 = .ok (.invokevirtual 35, 3) := by decide +kernel
theorem dX9_findsRow_96 : decode cX9_findsRow 96 = .ok (.invokevirtual 43, 3) := by decide +kernel
theorem dX9_findsRow_99 : decode cX9_findsRow 99 = .ok (.aload_n 0, 1) := by decide +kernel
theorem dX9_findsRow_100 : decode cX9_findsRow 100 = .ok (.iload_n 1, 1) := by decide +kernel
theorem dX9_findsRow_101 : decode cX9_findsRow 101 = .ok (.iload_n 2, 1) := by decide +kernel
theorem dX9_findsRow_102 : decode cX9_findsRow 102 = .ok (.iload_n 3, 1) := by decide +kernel
theorem dX9_findsRow_103 : decode cX9_findsRow 103 = .ok (.iconst 1, 1) := by decide +kernel
theorem dX9_findsRow_104 : decode cX9_findsRow 104 = .ok (.isub, 1) := by decide +kernel
theorem dX9_findsRow_105 : decode cX9_findsRow 105 = .ok (.invokevirtual 51, 3) := by decide +kernel
theorem dX9_findsRow_108 : decode cX9_findsRow 108 = .ok (.istore 7, 2) := by decide +kernel
theorem dX9_findsRow_110 : decode cX9_findsRow 110 = .ok (.aload_n 0, 1) := by decide +kernel
theorem dX9_findsRow_111 : decode cX9_findsRow 111 = .ok (.getfield 17, 3) := by decide +kernel
theorem dX9_findsRow_114 : decode cX9_findsRow 114 = .ok (.iload 4, 2) := by decide +kernel
theorem dX9_findsRow_116 : decode cX9_findsRow 116 = .ok (.iload 5, 2) := by decide +kernel
theorem dX9_findsRow_118 : decode cX9_findsRow 118 = .ok (.invokevirtual 74, 3) := by decide +kernel
theorem dX9_findsRow_121 : decode cX9_findsRow 121 = .ok (.iload 7, 2) := by decide +kernel
theorem dX9_findsRow_123 : decode cX9_findsRow 123 = .ok (.ifCond .eq 24, 3) := by decide +kernel
theorem dX9_findsRow_126 : decode cX9_findsRow 126 = .ok (.aload_n 0, 1) := by decide +kernel
theorem dX9_findsRow_127 : decode cX9_findsRow 127 = .ok (.dup, 1) := by decide +kernel
theorem dX9_findsRow_128 : decode cX9_findsRow 128 = .ok (.getfield 47, 3) := by decide +kernel
theorem dX9_findsRow_131 : decode cX9_findsRow 131 = .ok (.iload 6, 2) := by decide +kernel
theorem dX9_findsRow_133 : decode cX9_findsRow 133 = .ok (.getstatic 31, 3) := by decide +kernel
theorem dX9_findsRow_136 : decode cX9_findsRow 136 = .ok (.iload_n 3, 1) := by decide +kernel
theorem dX9_findsRow_137 : decode cX9_findsRow 137 = .ok (.iconst 1, 1) := by decide +kernel
theorem dX9_findsRow_138 : decode cX9_findsRow 138 = .ok (.isub, 1) := by decide +kernel
theorem dX9_findsRow_139 : decode cX9_findsRow 139 = .ok (.iaload, 1) := by decide +kernel
theorem dX9_findsRow_140 : decode cX9_findsRow 140 = .ok (.imul, 1) := by decide +kernel
theorem dX9_findsRow_141 : decode cX9_findsRow 141 = .ok (.iadd, 1) := by decide +kernel
theorem dX9_findsRow_142 : decode cX9_findsRow 142 = .ok (.putfield 47, 3) := by decide +kernel
theorem dX9_findsRow_145 : decode cX9_findsRow 145 = .ok (.iconst 1, 1) := by decide +kernel
theorem dX9_findsRow_146 : decode cX9_findsRow 146 = .ok (.ireturn, 1) := by decide +kernel
theorem dX9_findsRow_147 : decode cX9_findsRow 147 = .ok (.iinc 6 1, 3) := by decide +kernel
theorem dX9_findsRow_150 : decode cX9_findsRow 150 = .ok (.goto (-96), 3) := by decide +kernel
theorem dX9_findsRow_153 : decode cX9_findsRow 153 = .ok (.iconst 0, 1) := by decide +kernel
theorem dX9_findsRow_154 : decode cX9_findsRow 154 = .ok (.ireturn, 1) := by decide +kernel
theorem dX9_isStep_0 : decode cX9_isStep 0 = .ok (.iload_n 2, 1) := by decide +kernel
theorem dX9_isStep_1 : decode cX9_isStep 1 = .ok (.ifCond .eq 31, 3) := by decide +kernel
theorem dX9_isStep_4 : decode cX9_isStep 4 = .ok (.aload_n 0, 1) := by decide +kernel
theorem dX9_isStep_5 : decode cX9_isStep 5 = .ok (.getfield 17, 3) := by decide +kernel
theorem dX9_isStep_8 : decode cX9_isStep 8 = .ok (.getfield 64, 3) := by decide +kernel
theorem dX9_isStep_11 : decode cX9_isStep 11 = .ok (.getfield 77, 3) := by decide +kernel
theorem dX9_isStep_14 : decode cX9_isStep 14 = .ok (.aload_n 0, 1) := by decide +kernel
theorem dX9_isStep_15 : decode cX9_isStep 15 = .ok (.getfield 17, 3) := by decide +kernel
theorem dX9_isStep_18 : decode cX9_isStep 18 = .ok (.iload_n 1, 1) := by decide +kernel
theorem dX9_isStep_19 : decode cX9_isStep 19 = .ok (.invokevirtual 27, 3) := by decide +kernel
theorem dX9_isStep_22 : decode cX9_isStep 22 = .ok (.iaload, 1) := by decide +kernel
theorem dX9_isStep_23 : decode cX9_isStep 23 = .ok (.iload_n 2, 1) := by decide +kernel
theorem dX9_isStep_24 : decode cX9_isStep 24 = .ok (.iconst 1, 1) := by decide +kernel
theorem dX9_isStep_25 : decode cX9_isStep 25 = .ok (.isub, 1) := by decide +kernel
theorem dX9_isStep_26 : decode cX9_isStep 26 = .ok (.invokestatic 80, 3) := by decide +kernel
theorem dX9_isStep_29 : decode cX9_isStep 29 = .ok (.ifCond .eq 7, 3) := by decide +kernel
theorem dX9_isStep_32 : decode cX9_isStep 32 = .ok (.iconst 1, 1) := by decide +kernel
theorem dX9_isStep_33 : decode cX9_isStep 33 = .ok (.goto 4, 3) := by decide +kernel
theorem dX9_isStep_36 : decode cX9_isStep 36 = .ok (.iconst 0, 1) := by decide +kernel
theorem dX9_isStep_37 : decode cX9_isStep 37 = .ok (.ireturn, 1) := by decide +kernel
theorem dX9_placesLured_0 : decode cX9_placesLured 0 = .ok (.aload_n 0, 1) := by decide +kernel
theorem dX9_placesLured_1 : decode cX9_placesLured 1 = .ok (.getfield 17, 3) := by decide +kernel
theorem dX9_placesLured_4 : decode cX9_placesLured 4 = .ok (.iload_n 1, 1) := by decide +kernel
theorem dX9_placesLured_5 : decode cX9_placesLured 5 = .ok (.invokevirtual 55, 3) := by decide +kernel
theorem dX9_placesLured_8 : decode cX9_placesLured 8 = .ok (.istore_n 3, 1) := by decide +kernel
theorem dX9_placesLured_9 : decode cX9_placesLured 9 = .ok (.iload_n 3, 1) := by decide +kernel
theorem dX9_placesLured_10 : decode cX9_placesLured 10 = .ok (.ifCond .lt 9, 3) := by decide +kernel
theorem dX9_placesLured_13 : decode cX9_placesLured 13 = .ok (.iconst 1, 1) := by decide +kernel
theorem dX9_placesLured_14 : decode cX9_placesLured 14 = .ok (.iload_n 3, 1) := by decide +kernel
theorem dX9_placesLured_15 : decode cX9_placesLured 15 = .ok (.ishl, 1) := by decide +kernel
theorem dX9_placesLured_16 : decode cX9_placesLured 16 = .ok (.goto 4, 3) := by decide +kernel
theorem dX9_placesLured_19 : decode cX9_placesLured 19 = .ok (.iconst 0, 1) := by decide +kernel
theorem dX9_placesLured_20 : decode cX9_placesLured 20 = .ok (.istore 4, 2) := by decide +kernel
theorem dX9_placesLured_22 : decode cX9_placesLured 22 = .ok (.iload_n 2, 1) := by decide +kernel
theorem dX9_placesLured_23 : decode cX9_placesLured 23 = .ok (.ifCond .le 8, 3) := by decide +kernel
theorem dX9_placesLured_26 : decode cX9_placesLured 26 = .ok (.iload_n 2, 1) := by decide +kernel
theorem dX9_placesLured_27 : decode cX9_placesLured 27 = .ok (.iconst 5, 1) := by decide +kernel
theorem dX9_placesLured_28 : decode cX9_placesLured 28 = .ok (.if_icmp .le 6, 3) := by decide +kernel
theorem dX9_placesLured_31 : decode cX9_placesLured 31 = .ok (.iload 4, 2) := by decide +kernel
theorem dX9_placesLured_33 : decode cX9_placesLured 33 = .ok (.ireturn, 1) := by decide +kernel
theorem dX9_placesLured_34 : decode cX9_placesLured 34 = .ok (.aload_n 0, 1) := by decide +kernel
theorem dX9_placesLured_35 : decode cX9_placesLured 35 = .ok (.getfield 17, 3) := by decide +kernel
theorem dX9_placesLured_38 : decode cX9_placesLured 38 = .ok (.getfield 58, 3) := by decide +kernel
theorem dX9_placesLured_41 : decode cX9_placesLured 41 = .ok (.iload_n 1, 1) := by decide +kernel
theorem dX9_placesLured_42 : decode cX9_placesLured 42 = .ok (.iaload, 1) := by decide +kernel
theorem dX9_placesLured_43 : decode cX9_placesLured 43 = .ok (.istore 5, 2) := by decide +kernel
theorem dX9_placesLured_45 : decode cX9_placesLured 45 = .ok (.aload_n 0, 1) := by decide +kernel
theorem dX9_placesLured_46 : decode cX9_placesLured 46 = .ok (.getfield 17, 3) := by decide +kernel
theorem dX9_placesLured_49 : decode cX9_placesLured 49 = .ok (.iload 5, 2) := by decide +kernel
theorem dX9_placesLured_51 : decode cX9_placesLured 51 = .ok (.bipush 7, 2) := by decide +kernel
theorem dX9_placesLured_53 : decode cX9_placesLured 53 = .ok (.invokevirtual 61, 3) := by decide +kernel
theorem dX9_placesLured_56 : decode cX9_placesLured 56 = .ok (.istore 6, 2) := by decide +kernel
theorem dX9_placesLured_58 : decode cX9_placesLured 58 = .ok (.iconst 0, 1) := by decide +kernel
theorem dX9_placesLured_59 : decode cX9_placesLured 59 = .ok (.istore 7, 2) := by decide +kernel
theorem dX9_placesLured_61 : decode cX9_placesLured 61 = .ok (.iload 7, 2) := by decide +kernel
theorem dX9_placesLured_63 : decode cX9_placesLured 63 = .ok (.aload_n 0, 1) := by decide +kernel
theorem dX9_placesLured_64 : decode cX9_placesLured 64 = .ok (.getfield 17, 3) := by decide +kernel
theorem dX9_placesLured_67 : decode cX9_placesLured 67 = .ok (.getfield 64, 3) := by decide +kernel
theorem dX9_placesLured_70 : decode cX9_placesLured 70 = .ok (.getfield 68, 3) := by decide +kernel
theorem dX9_placesLured_73 : decode cX9_placesLured 73 = .ok (.iconst 1, 1) := by decide +kernel
theorem dX9_placesLured_74 : decode cX9_placesLured 74 = .ok (.iaload, 1) := by decide +kernel
theorem dX9_placesLured_75 : decode cX9_placesLured 75 = .ok (.if_icmp .gt 61, 3) := by decide +kernel
theorem dX9_placesLured_78 : decode cX9_placesLured 78 = .ok (.aload_n 0, 1) := by decide +kernel
theorem dX9_placesLured_79 : decode cX9_placesLured 79 = .ok (.iload 5, 2) := by decide +kernel
theorem dX9_placesLured_81 : decode cX9_placesLured 81 = .ok (.iload 7, 2) := by decide +kernel
theorem dX9_placesLured_83 : decode cX9_placesLured 83 = .ok (.invokevirtual 71, 3) := by decide +kernel
theorem dX9_placesLured_86 : decode cX9_placesLured 86 = .ok (.ifCond .eq 44, 3) := by decide +kernel
theorem dX9_placesLured_89 : decode cX9_placesLured 89 = .ok (.aload_n 0, 1) := by decide +kernel
theorem dX9_placesLured_90 : decode cX9_placesLured 90 = .ok (.getfield 17, 3) := by decide +kernel
theorem dX9_placesLured_93 : decode cX9_placesLured 93 = .ok (.iload 5, 2) := by decide +kernel
theorem dX9_placesLured_95 : decode cX9_placesLured 95 = .ok (.aload_n 0, 1) := by decide +kernel
theorem dX9_placesLured_96 : decode cX9_placesLured 96 = .ok (.iload 5, 2) := by decide +kernel
theorem dX9_placesLured_98 : decode cX9_placesLured 98 = .ok (.iload 7, 2) := by decide +kernel
theorem dX9_placesLured_100 : decode cX9_placesLured 100 = .ok (.invokevirtual 35, 3) := by decide +kernel
theorem dX9_placesLured_103 : decode cX9_placesLured 103 = .ok (.invokevirtual 43, 3) := by decide +kernel
theorem dX9_placesLured_106 : decode cX9_placesLured 106 = .ok (.iload 4, 2) := by decide +kernel
theorem dX9_placesLured_108 : decode cX9_placesLured 108 = .ok (.aload_n 0, 1) := by decide +kernel
theorem dX9_placesLured_109 : decode cX9_placesLured 109 = .ok (.iload_n 1, 1) := by decide +kernel
theorem dX9_placesLured_110 : decode cX9_placesLured 110 = .ok (.iload_n 2, 1) := by decide +kernel
theorem dX9_placesLured_111 : decode cX9_placesLured 111 = .ok (.iconst 1, 1) := by decide +kernel
theorem dX9_placesLured_112 : decode cX9_placesLured 112 = .ok (.isub, 1) := by decide +kernel
theorem dX9_placesLured_113 : decode cX9_placesLured 113 = .ok (.invokevirtual 83, 3) := by decide +kernel
theorem dX9_placesLured_116 : decode cX9_placesLured 116 = .ok (.ior, 1) := by decide +kernel
theorem dX9_placesLured_117 : decode cX9_placesLured 117 = .ok (.istore 4, 2) := by decide +kernel
theorem dX9_placesLured_119 : decode cX9_placesLured 119 = .ok (.aload_n 0, 1) := by decide +kernel
theorem dX9_placesLured_120 : decode cX9_placesLured 120 = .ok (.getfield 17, 3) := by decide +kernel
theorem dX9_placesLured_123 : decode cX9_placesLured 123 = .ok (.iload 5, 2) := by decide +kernel
theorem dX9_placesLured_125 : decode cX9_placesLured 125 = .ok (.iload 6, 2) := by decide +kernel
theorem dX9_placesLured_127 : decode cX9_placesLured 127 = .ok (.invokevirtual 74, 3) := by decide +kernel
theorem dX9_placesLured_130 : decode cX9_placesLured 130 = .ok (.iinc 7 1, 3) := by decide +kernel
theorem dX9_placesLured_133 : decode cX9_placesLured 133 = .ok (.goto (-72), 3) := by decide +kernel
theorem dX9_placesLured_136 : decode cX9_placesLured 136 = .ok (.iload 4, 2) := by decide +kernel
theorem dX9_placesLured_138 : decode cX9_placesLured 138 = .ok (.ireturn, 1) := by decide +kernel
theorem dX9_ramble_0 : decode cX9_ramble 0 = .ok (.aload_n 0, 1) := by decide +kernel
theorem dX9_ramble_1 : decode cX9_ramble 1 = .ok (.iload_n 1, 1) := by decide +kernel
theorem dX9_ramble_2 : decode cX9_ramble 2 = .ok (.putfield 86, 3) := by decide +kernel
theorem dX9_ramble_5 : decode cX9_ramble 5 = .ok (.iconst 0, 1) := by decide +kernel
theorem dX9_ramble_6 : decode cX9_ramble 6 = .ok (.istore_n 3, 1) := by decide +kernel
theorem dX9_ramble_7 : decode cX9_ramble 7 = .ok (.iload_n 3, 1) := by decide +kernel
theorem dX9_ramble_8 : decode cX9_ramble 8 = .ok (.iload_n 2, 1) := by decide +kernel
theorem dX9_ramble_9 : decode cX9_ramble 9 = .ok (.if_icmp .ge 13, 3) := by decide +kernel
theorem dX9_ramble_12 : decode cX9_ramble 12 = .ok (.aload_n 0, 1) := by decide +kernel
theorem dX9_ramble_13 : decode cX9_ramble 13 = .ok (.invokevirtual 89, 3) := by decide +kernel
theorem dX9_ramble_16 : decode cX9_ramble 16 = .ok (.iinc 3 1, 3) := by decide +kernel
theorem dX9_ramble_19 : decode cX9_ramble 19 = .ok (.goto (-12), 3) := by decide +kernel
theorem dX9_ramble_22 : decode cX9_ramble 22 = .ok (.return_, 1) := by decide +kernel
theorem dX9_rambleUntilTwoMeet_0 : decode cX9_rambleUntilTwoMeet 0 = .ok (.aload_n 0, 1) := by decide +kernel
theorem dX9_rambleUntilTwoMeet_1 : decode cX9_rambleUntilTwoMeet 1 = .ok (.iload_n 1, 1) := by decide +kernel
theorem dX9_rambleUntilTwoMeet_2 : decode cX9_rambleUntilTwoMeet 2 = .ok (.putfield 86, 3) := by decide +kernel
theorem dX9_rambleUntilTwoMeet_5 : decode cX9_rambleUntilTwoMeet 5 = .ok (.iconst 1, 1) := by decide +kernel
theorem dX9_rambleUntilTwoMeet_6 : decode cX9_rambleUntilTwoMeet 6 = .ok (.istore_n 3, 1) := by decide +kernel
theorem dX9_rambleUntilTwoMeet_7 : decode cX9_rambleUntilTwoMeet 7 = .ok (.iload_n 3, 1) := by decide +kernel
theorem dX9_rambleUntilTwoMeet_8 : decode cX9_rambleUntilTwoMeet 8 = .ok (.iload_n 2, 1) := by decide +kernel
theorem dX9_rambleUntilTwoMeet_9 : decode cX9_rambleUntilTwoMeet 9 = .ok (.if_icmp .gt 25, 3) := by decide +kernel
theorem dX9_rambleUntilTwoMeet_12 : decode cX9_rambleUntilTwoMeet 12 = .ok (.aload_n 0, 1) := by decide +kernel
theorem dX9_rambleUntilTwoMeet_13 : decode cX9_rambleUntilTwoMeet 13 = .ok (.invokevirtual 89, 3) := by decide +kernel
theorem dX9_rambleUntilTwoMeet_16 : decode cX9_rambleUntilTwoMeet 16 = .ok (.aload_n 0, 1) := by decide +kernel
theorem dX9_rambleUntilTwoMeet_17 : decode cX9_rambleUntilTwoMeet 17 = .ok (.getfield 17, 3) := by decide +kernel
theorem dX9_rambleUntilTwoMeet_20 : decode cX9_rambleUntilTwoMeet 20 = .ok (.invokevirtual 92, 3) := by decide +kernel
theorem dX9_rambleUntilTwoMeet_23 : decode cX9_rambleUntilTwoMeet 23 = .ok (.ifCond .eq 5, 3) := by decide +kernel
theorem dX9_rambleUntilTwoMeet_26 : decode cX9_rambleUntilTwoMeet 26 = .ok (.iload_n 3, 1) := by decide +kernel
theorem dX9_rambleUntilTwoMeet_27 : decode cX9_rambleUntilTwoMeet 27 = .ok (.ireturn, 1) := by decide +kernel
theorem dX9_rambleUntilTwoMeet_28 : decode cX9_rambleUntilTwoMeet 28 = .ok (.iinc 3 1, 3) := by decide +kernel
theorem dX9_rambleUntilTwoMeet_31 : decode cX9_rambleUntilTwoMeet 31 = .ok (.goto (-24), 3) := by decide +kernel
theorem dX9_rambleUntilTwoMeet_34 : decode cX9_rambleUntilTwoMeet 34 = .ok (.bipush (-2), 2) := by decide +kernel
theorem dX9_rambleUntilTwoMeet_36 : decode cX9_rambleUntilTwoMeet 36 = .ok (.ireturn, 1) := by decide +kernel
theorem dX9_rambleOnce_0 : decode cX9_rambleOnce 0 = .ok (.iconst 0, 1) := by decide +kernel
theorem dX9_rambleOnce_1 : decode cX9_rambleOnce 1 = .ok (.istore_n 1, 1) := by decide +kernel
theorem dX9_rambleOnce_2 : decode cX9_rambleOnce 2 = .ok (.iload_n 1, 1) := by decide +kernel
theorem dX9_rambleOnce_3 : decode cX9_rambleOnce 3 = .ok (.aload_n 0, 1) := by decide +kernel
theorem dX9_rambleOnce_4 : decode cX9_rambleOnce 4 = .ok (.getfield 17, 3) := by decide +kernel
theorem dX9_rambleOnce_7 : decode cX9_rambleOnce 7 = .ok (.getfield 64, 3) := by decide +kernel
theorem dX9_rambleOnce_10 : decode cX9_rambleOnce 10 = .ok (.getfield 68, 3) := by decide +kernel
theorem dX9_rambleOnce_13 : decode cX9_rambleOnce 13 = .ok (.iconst 3, 1) := by decide +kernel
theorem dX9_rambleOnce_14 : decode cX9_rambleOnce 14 = .ok (.iaload, 1) := by decide +kernel
theorem dX9_rambleOnce_15 : decode cX9_rambleOnce 15 = .ok (.if_icmp .ge 86, 3) := by decide +kernel
theorem dX9_rambleOnce_18 : decode cX9_rambleOnce 18 = .ok (.aload_n 0, 1) := by decide +kernel
theorem dX9_rambleOnce_19 : decode cX9_rambleOnce 19 = .ok (.getfield 17, 3) := by decide +kernel
theorem dX9_rambleOnce_22 : decode cX9_rambleOnce 22 = .ok (.getfield 64, 3) := by decide +kernel
theorem dX9_rambleOnce_25 : decode cX9_rambleOnce 25 = .ok (.getfield 77, 3) := by decide +kernel
theorem dX9_rambleOnce_28 : decode cX9_rambleOnce 28 = .ok (.aload_n 0, 1) := by decide +kernel
theorem dX9_rambleOnce_29 : decode cX9_rambleOnce 29 = .ok (.getfield 17, 3) := by decide +kernel
theorem dX9_rambleOnce_32 : decode cX9_rambleOnce 32 = .ok (.iload_n 1, 1) := by decide +kernel
theorem dX9_rambleOnce_33 : decode cX9_rambleOnce 33 = .ok (.invokevirtual 27, 3) := by decide +kernel
theorem dX9_rambleOnce_36 : decode cX9_rambleOnce 36 = .ok (.iaload, 1) := by decide +kernel
theorem dX9_rambleOnce_37 : decode cX9_rambleOnce 37 = .ok (.istore_n 2, 1) := by decide +kernel
theorem dX9_rambleOnce_38 : decode cX9_rambleOnce 38 = .ok (.aload_n 0, 1) := by decide +kernel
theorem dX9_rambleOnce_39 : decode cX9_rambleOnce 39 = .ok (.bipush 75, 2) := by decide +kernel
theorem dX9_rambleOnce_41 : decode cX9_rambleOnce 41 = .ok (.aload_n 0, 1) := by decide +kernel
theorem dX9_rambleOnce_42 : decode cX9_rambleOnce 42 = .ok (.getfield 86, 3) := by decide +kernel
theorem dX9_rambleOnce_45 : decode cX9_rambleOnce 45 = .ok (.imul, 1) := by decide +kernel
theorem dX9_rambleOnce_46 : decode cX9_rambleOnce 46 = .ok (.bipush 74, 2) := by decide +kernel
theorem dX9_rambleOnce_48 : decode cX9_rambleOnce 48 = .ok (.iadd, 1) := by decide +kernel
theorem dX9_rambleOnce_49 : decode cX9_rambleOnce 49 = .ok (.ldc 96, 2) := by decide +kernel
theorem dX9_rambleOnce_51 : decode cX9_rambleOnce 51 = .ok (.irem, 1) := by decide +kernel
theorem dX9_rambleOnce_52 : decode cX9_rambleOnce 52 = .ok (.putfield 86, 3) := by decide +kernel
theorem dX9_rambleOnce_55 : decode cX9_rambleOnce 55 = .ok (.aload_n 0, 1) := by decide +kernel
