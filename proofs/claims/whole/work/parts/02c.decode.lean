theorem dX12_placeLine_0 : decode cX12_placeLine 0 = .ok (.aload_n 0, 1) := by decide +kernel
theorem dX12_placeLine_1 : decode cX12_placeLine 1 = .ok (.getfield 94, 3) := by decide +kernel
theorem dX12_placeLine_4 : decode cX12_placeLine 4 = .ok (.ifCond .eq 4, 3) := by decide +kernel
theorem dX12_placeLine_7 : decode cX12_placeLine 7 = .ok (.return_, 1) := by decide +kernel
theorem dX12_placeLine_8 : decode cX12_placeLine 8 = .ok (.aload_n 0, 1) := by decide +kernel
theorem dX12_placeLine_9 : decode cX12_placeLine 9 = .ok (.getfield 23, 3) := by decide +kernel
theorem dX12_placeLine_12 : decode cX12_placeLine 12 = .ok (.iconst 1, 1) := by decide +kernel
theorem dX12_placeLine_13 : decode cX12_placeLine 13 = .ok (.iaload, 1) := by decide +kernel
theorem dX12_placeLine_14 : decode cX12_placeLine 14 = .ok (.istore_n 1, 1) := by decide +kernel
theorem dX12_placeLine_15 : decode cX12_placeLine 15 = .ok (.aload_n 0, 1) := by decide +kernel
theorem dX12_placeLine_16 : decode cX12_placeLine 16 = .ok (.iload_n 1, 1) := by decide +kernel
theorem dX12_placeLine_17 : decode cX12_placeLine 17 = .ok (.invokevirtual 223, 3) := by decide +kernel
theorem dX12_placeLine_20 : decode cX12_placeLine 20 = .ok (.aload_n 0, 1) := by decide +kernel
theorem dX12_placeLine_21 : decode cX12_placeLine 21 = .ok (.ldc 227, 2) := by decide +kernel
theorem dX12_placeLine_23 : decode cX12_placeLine 23 = .ok (.invokevirtual 118, 3) := by decide +kernel
theorem dX12_placeLine_26 : decode cX12_placeLine 26 = .ok (.istore_n 2, 1) := by decide +kernel
theorem dX12_placeLine_27 : decode cX12_placeLine 27 = .ok (.iload_n 2, 1) := by decide +kernel
theorem dX12_placeLine_28 : decode cX12_placeLine 28 = .ok (.ifCond .ne 9, 3) := by decide +kernel
theorem dX12_placeLine_31 : decode cX12_placeLine 31 = .ok (.aload_n 0, 1) := by decide +kernel
theorem dX12_placeLine_32 : decode cX12_placeLine 32 = .ok (.ldc 229, 2) := by decide +kernel
theorem dX12_placeLine_34 : decode cX12_placeLine 34 = .ok (.invokevirtual 163, 3) := by decide +kernel
theorem dX12_placeLine_37 : decode cX12_placeLine 37 = .ok (.aload_n 0, 1) := by decide +kernel
theorem dX12_placeLine_38 : decode cX12_placeLine 38 = .ok (.getfield 23, 3) := by decide +kernel
theorem dX12_placeLine_41 : decode cX12_placeLine 41 = .ok (.bipush 9, 2) := by decide +kernel
theorem dX12_placeLine_43 : decode cX12_placeLine 43 = .ok (.iload_n 1, 1) := by decide +kernel
theorem dX12_placeLine_44 : decode cX12_placeLine 44 = .ok (.iadd, 1) := by decide +kernel
theorem dX12_placeLine_45 : decode cX12_placeLine 45 = .ok (.aload_n 0, 1) := by decide +kernel
theorem dX12_placeLine_46 : decode cX12_placeLine 46 = .ok (.ldc 231, 2) := by decide +kernel
theorem dX12_placeLine_48 : decode cX12_placeLine 48 = .ok (.iconst 0, 1) := by decide +kernel
theorem dX12_placeLine_49 : decode cX12_placeLine 49 = .ok (.bipush 9, 2) := by decide +kernel
theorem dX12_placeLine_51 : decode cX12_placeLine 51 = .ok (.invokevirtual 219, 3) := by decide +kernel
theorem dX12_placeLine_54 : decode cX12_placeLine 54 = .ok (.iastore, 1) := by decide +kernel
theorem dX12_placeLine_55 : decode cX12_placeLine 55 = .ok (.aload_n 0, 1) := by decide +kernel
theorem dX12_placeLine_56 : decode cX12_placeLine 56 = .ok (.getfield 94, 3) := by decide +kernel
theorem dX12_placeLine_59 : decode cX12_placeLine 59 = .ok (.ifCond .eq 4, 3) := by decide +kernel
theorem dX12_placeLine_62 : decode cX12_placeLine 62 = .ok (.return_, 1) := by decide +kernel
theorem dX12_placeLine_63 : decode cX12_placeLine 63 = .ok (.aload_n 0, 1) := by decide +kernel
theorem dX12_placeLine_64 : decode cX12_placeLine 64 = .ok (.getfield 29, 3) := by decide +kernel
theorem dX12_placeLine_67 : decode cX12_placeLine 67 = .ok (.bipush 38, 2) := by decide +kernel
theorem dX12_placeLine_69 : decode cX12_placeLine 69 = .ok (.dup2, 1) := by decide +kernel
theorem dX12_placeLine_70 : decode cX12_placeLine 70 = .ok (.iaload, 1) := by decide +kernel
theorem dX12_placeLine_71 : decode cX12_placeLine 71 = .ok (.iload_n 2, 1) := by decide +kernel
theorem dX12_placeLine_72 : decode cX12_placeLine 72 = .ok (.ifCond .eq 9, 3) := by decide +kernel
theorem dX12_placeLine_75 : decode cX12_placeLine 75 = .ok (.iconst 1, 1) := by decide +kernel
theorem dX12_placeLine_76 : decode cX12_placeLine 76 = .ok (.iload_n 1, 1) := by decide +kernel
theorem dX12_placeLine_77 : decode cX12_placeLine 77 = .ok (.ishl, 1) := by decide +kernel
theorem dX12_placeLine_78 : decode cX12_placeLine 78 = .ok (.goto 4, 3) := by decide +kernel
theorem dX12_placeLine_81 : decode cX12_placeLine 81 = .ok (.iconst 0, 1) := by decide +kernel
theorem dX12_placeLine_82 : decode cX12_placeLine 82 = .ok (.ior, 1) := by decide +kernel
theorem dX12_placeLine_83 : decode cX12_placeLine 83 = .ok (.iastore, 1) := by decide +kernel
theorem dX12_placeLine_84 : decode cX12_placeLine 84 = .ok (.aload_n 0, 1) := by decide +kernel
theorem dX12_placeLine_85 : decode cX12_placeLine 85 = .ok (.getfield 23, 3) := by decide +kernel
theorem dX12_placeLine_88 : decode cX12_placeLine 88 = .ok (.iconst 1, 1) := by decide +kernel
theorem dX12_placeLine_89 : decode cX12_placeLine 89 = .ok (.dup2, 1) := by decide +kernel
theorem dX12_placeLine_90 : decode cX12_placeLine 90 = .ok (.iaload, 1) := by decide +kernel
theorem dX12_placeLine_91 : decode cX12_placeLine 91 = .ok (.iconst 1, 1) := by decide +kernel
theorem dX12_placeLine_92 : decode cX12_placeLine 92 = .ok (.iadd, 1) := by decide +kernel
theorem dX12_placeLine_93 : decode cX12_placeLine 93 = .ok (.iastore, 1) := by decide +kernel
theorem dX12_placeLine_94 : decode cX12_placeLine 94 = .ok (.return_, 1) := by decide +kernel
theorem dX12_pathLine_0 : decode cX12_pathLine 0 = .ok (.aload_n 0, 1) := by decide +kernel
theorem dX12_pathLine_1 : decode cX12_pathLine 1 = .ok (.invokevirtual 233, 3) := by decide +kernel
theorem dX12_pathLine_4 : decode cX12_pathLine 4 = .ok (.istore_n 1, 1) := by decide +kernel
theorem dX12_pathLine_5 : decode cX12_pathLine 5 = .ok (.aload_n 0, 1) := by decide +kernel
theorem dX12_pathLine_6 : decode cX12_pathLine 6 = .ok (.invokevirtual 154, 3) := by decide +kernel
theorem dX12_pathLine_9 : decode cX12_pathLine 9 = .ok (.istore_n 2, 1) := by decide +kernel
theorem dX12_pathLine_10 : decode cX12_pathLine 10 = .ok (.aload_n 0, 1) := by decide +kernel
theorem dX12_pathLine_11 : decode cX12_pathLine 11 = .ok (.getfield 94, 3) := by decide +kernel
theorem dX12_pathLine_14 : decode cX12_pathLine 14 = .ok (.ifCond .ne 33, 3) := by decide +kernel
theorem dX12_pathLine_17 : decode cX12_pathLine 17 = .ok (.iload_n 1, 1) := by decide +kernel
theorem dX12_pathLine_18 : decode cX12_pathLine 18 = .ok (.iload_n 2, 1) := by decide +kernel
theorem dX12_pathLine_19 : decode cX12_pathLine 19 = .ok (.if_icmp .eq 19, 3) := by decide +kernel
theorem dX12_pathLine_22 : decode cX12_pathLine 22 = .ok (.aload_n 0, 1) := by decide +kernel
theorem dX12_pathLine_23 : decode cX12_pathLine 23 = .ok (.getfield 23, 3) := by decide +kernel
theorem dX12_pathLine_26 : decode cX12_pathLine 26 = .ok (.bipush 23, 2) := by decide +kernel
theorem dX12_pathLine_28 : decode cX12_pathLine 28 = .ok (.iload_n 1, 1) := by decide +kernel
theorem dX12_pathLine_29 : decode cX12_pathLine 29 = .ok (.iadd, 1) := by decide +kernel
theorem dX12_pathLine_30 : decode cX12_pathLine 30 = .ok (.iaload, 1) := by decide +kernel
theorem dX12_pathLine_31 : decode cX12_pathLine 31 = .ok (.iload_n 2, 1) := by decide +kernel
theorem dX12_pathLine_32 : decode cX12_pathLine 32 = .ok (.invokestatic 236, 3) := by decide +kernel
theorem dX12_pathLine_35 : decode cX12_pathLine 35 = .ok (.ifCond .eq 12, 3) := by decide +kernel
theorem dX12_pathLine_38 : decode cX12_pathLine 38 = .ok (.aload_n 0, 1) := by decide +kernel
theorem dX12_pathLine_39 : decode cX12_pathLine 39 = .ok (.iconst 3, 1) := by decide +kernel
theorem dX12_pathLine_40 : decode cX12_pathLine 40 = .ok (.aload_n 0, 1) := by decide +kernel
theorem dX12_pathLine_41 : decode cX12_pathLine 41 = .ok (.getfield 75, 3) := by decide +kernel
theorem dX12_pathLine_44 : decode cX12_pathLine 44 = .ok (.invokevirtual 121, 3) := by decide +kernel
theorem dX12_pathLine_47 : decode cX12_pathLine 47 = .ok (.aload_n 0, 1) := by decide +kernel
theorem dX12_pathLine_48 : decode cX12_pathLine 48 = .ok (.invokevirtual 157, 3) := by decide +kernel
theorem dX12_pathLine_51 : decode cX12_pathLine 51 = .ok (.aload_n 0, 1) := by decide +kernel
theorem dX12_pathLine_52 : decode cX12_pathLine 52 = .ok (.getfield 94, 3) := by decide +kernel
theorem dX12_pathLine_55 : decode cX12_pathLine 55 = .ok (.ifCond .eq 4, 3) := by decide +kernel
theorem dX12_pathLine_58 : decode cX12_pathLine 58 = .ok (.return_, 1) := by decide +kernel
theorem dX12_pathLine_59 : decode cX12_pathLine 59 = .ok (.aload_n 0, 1) := by decide +kernel
theorem dX12_pathLine_60 : decode cX12_pathLine 60 = .ok (.getfield 23, 3) := by decide +kernel
theorem dX12_pathLine_63 : decode cX12_pathLine 63 = .ok (.bipush 23, 2) := by decide +kernel
theorem dX12_pathLine_65 : decode cX12_pathLine 65 = .ok (.iload_n 1, 1) := by decide +kernel
theorem dX12_pathLine_66 : decode cX12_pathLine 66 = .ok (.iadd, 1) := by decide +kernel
theorem dX12_pathLine_67 : decode cX12_pathLine 67 = .ok (.dup2, 1) := by decide +kernel
theorem dX12_pathLine_68 : decode cX12_pathLine 68 = .ok (.iaload, 1) := by decide +kernel
theorem dX12_pathLine_69 : decode cX12_pathLine 69 = .ok (.iconst 1, 1) := by decide +kernel
theorem dX12_pathLine_70 : decode cX12_pathLine 70 = .ok (.iload_n 2, 1) := by decide +kernel
theorem dX12_pathLine_71 : decode cX12_pathLine 71 = .ok (.ishl, 1) := by decide +kernel
theorem dX12_pathLine_72 : decode cX12_pathLine 72 = .ok (.ior, 1) := by decide +kernel
theorem dX12_pathLine_73 : decode cX12_pathLine 73 = .ok (.iastore, 1) := by decide +kernel
theorem dX12_pathLine_74 : decode cX12_pathLine 74 = .ok (.aload_n 0, 1) := by decide +kernel
theorem dX12_pathLine_75 : decode cX12_pathLine 75 = .ok (.getfield 23, 3) := by decide +kernel
theorem dX12_pathLine_78 : decode cX12_pathLine 78 = .ok (.bipush 23, 2) := by decide +kernel
theorem dX12_pathLine_80 : decode cX12_pathLine 80 = .ok (.iload_n 2, 1) := by decide +kernel
theorem dX12_pathLine_81 : decode cX12_pathLine 81 = .ok (.iadd, 1) := by decide +kernel
theorem dX12_pathLine_82 : decode cX12_pathLine 82 = .ok (.dup2, 1) := by decide +kernel
theorem dX12_pathLine_83 : decode cX12_pathLine 83 = .ok (.iaload, 1) := by decide +kernel
theorem dX12_pathLine_84 : decode cX12_pathLine 84 = .ok (.iconst 1, 1) := by decide +kernel
theorem dX12_pathLine_85 : decode cX12_pathLine 85 = .ok (.iload_n 1, 1) := by decide +kernel
theorem dX12_pathLine_86 : decode cX12_pathLine 86 = .ok (.ishl, 1) := by decide +kernel
theorem dX12_pathLine_87 : decode cX12_pathLine 87 = .ok (.ior, 1) := by decide +kernel
theorem dX12_pathLine_88 : decode cX12_pathLine 88 = .ok (.iastore, 1) := by decide +kernel
theorem dX12_pathLine_89 : decode cX12_pathLine 89 = .ok (.aload_n 0, 1) := by decide +kernel
theorem dX12_pathLine_90 : decode cX12_pathLine 90 = .ok (.getfield 23, 3) := by decide +kernel
theorem dX12_pathLine_93 : decode cX12_pathLine 93 = .ok (.iconst 2, 1) := by decide +kernel
theorem dX12_pathLine_94 : decode cX12_pathLine 94 = .ok (.dup2, 1) := by decide +kernel
theorem dX12_pathLine_95 : decode cX12_pathLine 95 = .ok (.iaload, 1) := by decide +kernel
theorem dX12_pathLine_96 : decode cX12_pathLine 96 = .ok (.iconst 1, 1) := by decide +kernel
theorem dX12_pathLine_97 : decode cX12_pathLine 97 = .ok (.iadd, 1) := by decide +kernel
theorem dX12_pathLine_98 : decode cX12_pathLine 98 = .ok (.iastore, 1) := by decide +kernel
theorem dX12_pathLine_99 : decode cX12_pathLine 99 = .ok (.return_, 1) := by decide +kernel
theorem dX12_manLine_0 : decode cX12_manLine 0 = .ok (.aload_n 0, 1) := by decide +kernel
theorem dX12_manLine_1 : decode cX12_manLine 1 = .ok (.getfield 94, 3) := by decide +kernel
theorem dX12_manLine_4 : decode cX12_manLine 4 = .ok (.ifCond .eq 4, 3) := by decide +kernel
theorem dX12_manLine_7 : decode cX12_manLine 7 = .ok (.return_, 1) := by decide +kernel
theorem dX12_manLine_8 : decode cX12_manLine 8 = .ok (.aload_n 0, 1) := by decide +kernel
theorem dX12_manLine_9 : decode cX12_manLine 9 = .ok (.getfield 23, 3) := by decide +kernel
theorem dX12_manLine_12 : decode cX12_manLine 12 = .ok (.iconst 3, 1) := by decide +kernel
theorem dX12_manLine_13 : decode cX12_manLine 13 = .ok (.iaload, 1) := by decide +kernel
theorem dX12_manLine_14 : decode cX12_manLine 14 = .ok (.istore_n 1, 1) := by decide +kernel
theorem dX12_manLine_15 : decode cX12_manLine 15 = .ok (.aload_n 0, 1) := by decide +kernel
theorem dX12_manLine_16 : decode cX12_manLine 16 = .ok (.bipush 7, 2) := by decide +kernel
theorem dX12_manLine_18 : decode cX12_manLine 18 = .ok (.iload_n 1, 1) := by decide +kernel
theorem dX12_manLine_19 : decode cX12_manLine 19 = .ok (.iadd, 1) := by decide +kernel
theorem dX12_manLine_20 : decode cX12_manLine 20 = .ok (.invokevirtual 223, 3) := by decide +kernel
theorem dX12_manLine_23 : decode cX12_manLine 23 = .ok (.aload_n 0, 1) := by decide +kernel
theorem dX12_manLine_24 : decode cX12_manLine 24 = .ok (.ldc 240, 2) := by decide +kernel
theorem dX12_manLine_26 : decode cX12_manLine 26 = .ok (.invokevirtual 111, 3) := by decide +kernel
theorem dX12_manLine_29 : decode cX12_manLine 29 = .ok (.ifCond .eq 7, 3) := by decide +kernel
theorem dX12_manLine_32 : decode cX12_manLine 32 = .ok (.iconst 0, 1) := by decide +kernel
theorem dX12_manLine_33 : decode cX12_manLine 33 = .ok (.goto 43, 3) := by decide +kernel
theorem dX12_manLine_36 : decode cX12_manLine 36 = .ok (.aload_n 0, 1) := by decide +kernel
theorem dX12_manLine_37 : decode cX12_manLine 37 = .ok (.ldc 242, 2) := by decide +kernel
theorem dX12_manLine_39 : decode cX12_manLine 39 = .ok (.invokevirtual 111, 3) := by decide +kernel
theorem dX12_manLine_42 : decode cX12_manLine 42 = .ok (.ifCond .eq 7, 3) := by decide +kernel
theorem dX12_manLine_45 : decode cX12_manLine 45 = .ok (.iconst 1, 1) := by decide +kernel
theorem dX12_manLine_46 : decode cX12_manLine 46 = .ok (.goto 30, 3) := by decide +kernel
theorem dX12_manLine_49 : decode cX12_manLine 49 = .ok (.aload_n 0, 1) := by decide +kernel
theorem dX12_manLine_50 : decode cX12_manLine 50 = .ok (.ldc 244, 2) := by decide +kernel
theorem dX12_manLine_52 : decode cX12_manLine 52 = .ok (.invokevirtual 111, 3) := by decide +kernel
theorem dX12_manLine_55 : decode cX12_manLine 55 = .ok (.ifCond .eq 7, 3) := by decide +kernel
theorem dX12_manLine_58 : decode cX12_manLine 58 = .ok (.iconst 2, 1) := by decide +kernel
theorem dX12_manLine_59 : decode cX12_manLine 59 = .ok (.goto 17, 3) := by decide +kernel
theorem dX12_manLine_62 : decode cX12_manLine 62 = .ok (.aload_n 0, 1) := by decide +kernel
theorem dX12_manLine_63 : decode cX12_manLine 63 = .ok (.ldc 246, 2) := by decide +kernel
theorem dX12_manLine_65 : decode cX12_manLine 65 = .ok (.invokevirtual 111, 3) := by decide +kernel
theorem dX12_manLine_68 : decode cX12_manLine 68 = .ok (.ifCond .eq 7, 3) := by decide +kernel
theorem dX12_manLine_71 : decode cX12_manLine 71 = .ok (.iconst 3, 1) := by decide +kernel
theorem dX12_manLine_72 : decode cX12_manLine 72 = .ok (.goto 4, 3) := by decide +kernel
theorem dX12_manLine_75 : decode cX12_manLine 75 = .ok (.iconst (-1), 1) := by decide +kernel
theorem dX12_manLine_76 : decode cX12_manLine 76 = .ok (.istore_n 2, 1) := by decide +kernel
theorem dX12_manLine_77 : decode cX12_manLine 77 = .ok (.iload_n 2, 1) := by decide +kernel
theorem dX12_manLine_78 : decode cX12_manLine 78 = .ok (.ifCond .ge 12, 3) := by decide +kernel
theorem dX12_manLine_81 : decode cX12_manLine 81 = .ok (.aload_n 0, 1) := by decide +kernel
theorem dX12_manLine_82 : decode cX12_manLine 82 = .ok (.iconst 1, 1) := by decide +kernel
theorem dX12_manLine_83 : decode cX12_manLine 83 = .ok (.aload_n 0, 1) := by decide +kernel
theorem dX12_manLine_84 : decode cX12_manLine 84 = .ok (.getfield 75, 3) := by decide +kernel
theorem dX12_manLine_87 : decode cX12_manLine 87 = .ok (.invokevirtual 121, 3) := by decide +kernel
theorem dX12_manLine_90 : decode cX12_manLine 90 = .ok (.aload_n 0, 1) := by decide +kernel
theorem dX12_manLine_91 : decode cX12_manLine 91 = .ok (.invokevirtual 157, 3) := by decide +kernel
theorem dX12_manLine_94 : decode cX12_manLine 94 = .ok (.aload_n 0, 1) := by decide +kernel
theorem dX12_manLine_95 : decode cX12_manLine 95 = .ok (.ldc 248, 2) := by decide +kernel
theorem dX12_manLine_97 : decode cX12_manLine 97 = .ok (.invokevirtual 163, 3) := by decide +kernel
theorem dX12_manLine_100 : decode cX12_manLine 100 = .ok (.aload_n 0, 1) := by decide +kernel
theorem dX12_manLine_101 : decode cX12_manLine 101 = .ok (.invokevirtual 233, 3) := by decide +kernel
theorem dX12_manLine_104 : decode cX12_manLine 104 = .ok (.istore_n 3, 1) := by decide +kernel
theorem dX12_manLine_105 : decode cX12_manLine 105 = .ok (.aload_n 0, 1) := by decide +kernel
theorem dX12_manLine_106 : decode cX12_manLine 106 = .ok (.getfield 94, 3) := by decide +kernel
theorem dX12_manLine_109 : decode cX12_manLine 109 = .ok (.ifCond .eq 4, 3) := by decide +kernel
theorem dX12_manLine_112 : decode cX12_manLine 112 = .ok (.return_, 1) := by decide +kernel
theorem dX12_manLine_113 : decode cX12_manLine 113 = .ok (.aload_n 0, 1) := by decide +kernel
theorem dX12_manLine_114 : decode cX12_manLine 114 = .ok (.getfield 23, 3) := by decide +kernel
theorem dX12_manLine_117 : decode cX12_manLine 117 = .ok (.bipush 30, 2) := by decide +kernel
theorem dX12_manLine_119 : decode cX12_manLine 119 = .ok (.iload_n 1, 1) := by decide +kernel
theorem dX12_manLine_120 : decode cX12_manLine 120 = .ok (.iadd, 1) := by decide +kernel
theorem dX12_manLine_121 : decode cX12_manLine 121 = .ok (.iload_n 2, 1) := by decide +kernel
theorem dX12_manLine_122 : decode cX12_manLine 122 = .ok (.iastore, 1) := by decide +kernel
theorem dX12_manLine_123 : decode cX12_manLine 123 = .ok (.iconst 0, 1) := by decide +kernel
theorem dX12_manLine_124 : decode cX12_manLine 124 = .ok (.istore 4, 2) := by decide +kernel
theorem dX12_manLine_126 : decode cX12_manLine 126 = .ok (.iload 4, 2) := by decide +kernel
theorem dX12_manLine_128 : decode cX12_manLine 128 = .ok (.bipush 8, 2) := by decide +kernel
theorem dX12_manLine_130 : decode cX12_manLine 130 = .ok (.if_icmp .ge 22, 3) := by decide +kernel
theorem dX12_manLine_133 : decode cX12_manLine 133 = .ok (.aload_n 0, 1) := by decide +kernel
theorem dX12_manLine_134 : decode cX12_manLine 134 = .ok (.getfield 29, 3) := by decide +kernel
theorem dX12_manLine_137 : decode cX12_manLine 137 = .ok (.bipush 8, 2) := by decide +kernel
theorem dX12_manLine_139 : decode cX12_manLine 139 = .ok (.iload_n 1, 1) := by decide +kernel
theorem dX12_manLine_140 : decode cX12_manLine 140 = .ok (.imul, 1) := by decide +kernel
theorem dX12_manLine_141 : decode cX12_manLine 141 = .ok (.iload 4, 2) := by decide +kernel
theorem dX12_manLine_143 : decode cX12_manLine 143 = .ok (.iadd, 1) := by decide +kernel
theorem dX12_manLine_144 : decode cX12_manLine 144 = .ok (.iload_n 3, 1) := by decide +kernel
theorem dX12_manLine_145 : decode cX12_manLine 145 = .ok (.iastore, 1) := by decide +kernel
theorem dX12_manLine_146 : decode cX12_manLine 146 = .ok (.iinc 4 1, 3) := by decide +kernel
theorem dX12_manLine_149 : decode cX12_manLine 149 = .ok (.goto (-23), 3) := by decide +kernel
theorem dX12_manLine_152 : decode cX12_manLine 152 = .ok (.aload_n 0, 1) := by decide +kernel
theorem dX12_manLine_153 : decode cX12_manLine 153 = .ok (.getfield 23, 3) := by decide +kernel
theorem dX12_manLine_156 : decode cX12_manLine 156 = .ok (.iconst 3, 1) := by decide +kernel
theorem dX12_manLine_157 : decode cX12_manLine 157 = .ok (.dup2, 1) := by decide +kernel
theorem dX12_manLine_158 : decode cX12_manLine 158 = .ok (.iaload, 1) := by decide +kernel
theorem dX12_manLine_159 : decode cX12_manLine 159 = .ok (.iconst 1, 1) := by decide +kernel
theorem dX12_manLine_160 : decode cX12_manLine 160 = .ok (.iadd, 1) := by decide +kernel
theorem dX12_manLine_161 : decode cX12_manLine 161 = .ok (.iastore, 1) := by decide +kernel
theorem dX12_manLine_162 : decode cX12_manLine 162 = .ok (.return_, 1) := by decide +kernel
theorem dX12_stepOf_0 : decode cX12_stepOf 0 = .ok (.bipush 7, 2) := by decide +kernel
theorem dX12_stepOf_2 : decode cX12_stepOf 2 = .ok (.istore_n 3, 1) := by decide +kernel
theorem dX12_stepOf_3 : decode cX12_stepOf 3 = .ok (.iload_n 3, 1) := by decide +kernel
theorem dX12_stepOf_4 : decode cX12_stepOf 4 = .ok (.ifCond .le 27, 3) := by decide +kernel
theorem dX12_stepOf_7 : decode cX12_stepOf 7 = .ok (.aload_n 0, 1) := by decide +kernel
theorem dX12_stepOf_8 : decode cX12_stepOf 8 = .ok (.bipush 8, 2) := by decide +kernel
theorem dX12_stepOf_10 : decode cX12_stepOf 10 = .ok (.iload_n 1, 1) := by decide +kernel
theorem dX12_stepOf_11 : decode cX12_stepOf 11 = .ok (.imul, 1) := by decide +kernel
theorem dX12_stepOf_12 : decode cX12_stepOf 12 = .ok (.iload_n 3, 1) := by decide +kernel
theorem dX12_stepOf_13 : decode cX12_stepOf 13 = .ok (.iadd, 1) := by decide +kernel
theorem dX12_stepOf_14 : decode cX12_stepOf 14 = .ok (.aload_n 0, 1) := by decide +kernel
theorem dX12_stepOf_15 : decode cX12_stepOf 15 = .ok (.bipush 8, 2) := by decide +kernel
theorem dX12_stepOf_17 : decode cX12_stepOf 17 = .ok (.iload_n 1, 1) := by decide +kernel
theorem dX12_stepOf_18 : decode cX12_stepOf 18 = .ok (.imul, 1) := by decide +kernel
theorem dX12_stepOf_19 : decode cX12_stepOf 19 = .ok (.iload_n 3, 1) := by decide +kernel
theorem dX12_stepOf_20 : decode cX12_stepOf 20 = .ok (.iadd, 1) := by decide +kernel
theorem dX12_stepOf_21 : decode cX12_stepOf 21 = .ok (.iconst 1, 1) := by decide +kernel
theorem dX12_stepOf_22 : decode cX12_stepOf 22 = .ok (.isub, 1) := by decide +kernel
theorem dX12_stepOf_23 : decode cX12_stepOf 23 = .ok (.iaload, 1) := by decide +kernel
theorem dX12_stepOf_24 : decode cX12_stepOf 24 = .ok (.iastore, 1) := by decide +kernel
theorem dX12_stepOf_25 : decode cX12_stepOf 25 = .ok (.iinc 3 (-1), 3) := by decide +kernel
theorem dX12_stepOf_28 : decode cX12_stepOf 28 = .ok (.goto (-25), 3) := by decide +kernel
theorem dX12_stepOf_31 : decode cX12_stepOf 31 = .ok (.aload_n 0, 1) := by decide +kernel
theorem dX12_stepOf_32 : decode cX12_stepOf 32 = .ok (.bipush 8, 2) := by decide +kernel
theorem dX12_stepOf_34 : decode cX12_stepOf 34 = .ok (.iload_n 1, 1) := by decide +kernel
theorem dX12_stepOf_35 : decode cX12_stepOf 35 = .ok (.imul, 1) := by decide +kernel
theorem dX12_stepOf_36 : decode cX12_stepOf 36 = .ok (.iload_n 2, 1) := by decide +kernel
theorem dX12_stepOf_37 : decode cX12_stepOf 37 = .ok (.iastore, 1) := by decide +kernel
theorem dX12_stepOf_38 : decode cX12_stepOf 38 = .ok (.return_, 1) := by decide +kernel
theorem dX12_walkLine_0 : decode cX12_walkLine 0 = .ok (.aload_n 0, 1) := by decide +kernel
theorem dX12_walkLine_1 : decode cX12_walkLine 1 = .ok (.invokevirtual 249, 3) := by decide +kernel
theorem dX12_walkLine_4 : decode cX12_walkLine 4 = .ok (.istore_n 1, 1) := by decide +kernel
theorem dX12_walkLine_5 : decode cX12_walkLine 5 = .ok (.aload_n 0, 1) := by decide +kernel
theorem dX12_walkLine_6 : decode cX12_walkLine 6 = .ok (.invokevirtual 154, 3) := by decide +kernel
theorem dX12_walkLine_9 : decode cX12_walkLine 9 = .ok (.istore_n 2, 1) := by decide +kernel
theorem dX12_walkLine_10 : decode cX12_walkLine 10 = .ok (.aload_n 0, 1) := by decide +kernel
theorem dX12_walkLine_11 : decode cX12_walkLine 11 = .ok (.getfield 94, 3) := by decide +kernel
theorem dX12_walkLine_14 : decode cX12_walkLine 14 = .ok (.ifCond .ne 37, 3) := by decide +kernel
theorem dX12_walkLine_17 : decode cX12_walkLine 17 = .ok (.aload_n 0, 1) := by decide +kernel
theorem dX12_walkLine_18 : decode cX12_walkLine 18 = .ok (.getfield 23, 3) := by decide +kernel
theorem dX12_walkLine_21 : decode cX12_walkLine 21 = .ok (.bipush 23, 2) := by decide +kernel
theorem dX12_walkLine_23 : decode cX12_walkLine 23 = .ok (.aload_n 0, 1) := by decide +kernel
theorem dX12_walkLine_24 : decode cX12_walkLine 24 = .ok (.getfield 29, 3) := by decide +kernel
theorem dX12_walkLine_27 : decode cX12_walkLine 27 = .ok (.bipush 8, 2) := by decide +kernel
theorem dX12_walkLine_29 : decode cX12_walkLine 29 = .ok (.iload_n 1, 1) := by decide +kernel
theorem dX12_walkLine_30 : decode cX12_walkLine 30 = .ok (.imul, 1) := by decide +kernel
theorem dX12_walkLine_31 : decode cX12_walkLine 31 = .ok (.iaload, 1) := by decide +kernel
theorem dX12_walkLine_32 : decode cX12_walkLine 32 = .ok (.iadd, 1) := by decide +kernel
theorem dX12_walkLine_33 : decode cX12_walkLine 33 = .ok (.iaload, 1) := by decide +kernel
theorem dX12_walkLine_34 : decode cX12_walkLine 34 = .ok (.iload_n 2, 1) := by decide +kernel
theorem dX12_walkLine_35 : decode cX12_walkLine 35 = .ok (.invokestatic 236, 3) := by decide +kernel
theorem dX12_walkLine_38 : decode cX12_walkLine 38 = .ok (.ifCond .ne 13, 3) := by decide +kernel
theorem dX12_walkLine_41 : decode cX12_walkLine 41 = .ok (.aload_n 0, 1) := by decide +kernel
theorem dX12_walkLine_42 : decode cX12_walkLine 42 = .ok (.bipush 7, 2) := by decide +kernel
theorem dX12_walkLine_44 : decode cX12_walkLine 44 = .ok (.aload_n 0, 1) := by decide +kernel
theorem dX12_walkLine_45 : decode cX12_walkLine 45 = .ok (.getfield 75, 3) := by decide +kernel
theorem dX12_walkLine_48 : decode cX12_walkLine 48 = .ok (.invokevirtual 121, 3) := by decide +kernel
theorem dX12_walkLine_51 : decode cX12_walkLine 51 = .ok (.aload_n 0, 1) := by decide +kernel
theorem dX12_walkLine_52 : decode cX12_walkLine 52 = .ok (.invokevirtual 157, 3) := by decide +kernel
theorem dX12_walkLine_55 : decode cX12_walkLine 55 = .ok (.aload_n 0, 1) := by decide +kernel
theorem dX12_walkLine_56 : decode cX12_walkLine 56 = .ok (.getfield 94, 3) := by decide +kernel
theorem dX12_walkLine_59 : decode cX12_walkLine 59 = .ok (.ifCond .eq 4, 3) := by decide +kernel
theorem dX12_walkLine_62 : decode cX12_walkLine 62 = .ok (.return_, 1) := by decide +kernel
theorem dX12_walkLine_63 : decode cX12_walkLine 63 = .ok (.aload_n 0, 1) := by decide +kernel
theorem dX12_walkLine_64 : decode cX12_walkLine 64 = .ok (.getfield 29, 3) := by decide +kernel
theorem dX12_walkLine_67 : decode cX12_walkLine 67 = .ok (.iload_n 1, 1) := by decide +kernel
theorem dX12_walkLine_68 : decode cX12_walkLine 68 = .ok (.iload_n 2, 1) := by decide +kernel
theorem dX12_walkLine_69 : decode cX12_walkLine 69 = .ok (.invokestatic 252, 3) := by decide +kernel
theorem dX12_walkLine_72 : decode cX12_walkLine 72 = .ok (.aload_n 0, 1) := by decide +kernel
theorem dX12_walkLine_73 : decode cX12_walkLine 73 = .ok (.getfield 23, 3) := by decide +kernel
theorem dX12_walkLine_76 : decode cX12_walkLine 76 = .ok (.bipush 6, 2) := by decide +kernel
theorem dX12_walkLine_78 : decode cX12_walkLine 78 = .ok (.dup2, 1) := by decide +kernel
theorem dX12_walkLine_79 : decode cX12_walkLine 79 = .ok (.iaload, 1) := by decide +kernel
theorem dX12_walkLine_80 : decode cX12_walkLine 80 = .ok (.iconst 1, 1) := by decide +kernel
theorem dX12_walkLine_81 : decode cX12_walkLine 81 = .ok (.iadd, 1) := by decide +kernel
theorem dX12_walkLine_82 : decode cX12_walkLine 82 = .ok (.iastore, 1) := by decide +kernel
theorem dX12_walkLine_83 : decode cX12_walkLine 83 = .ok (.return_, 1) := by decide +kernel
theorem dX12_killLine_0 : decode cX12_killLine 0 = .ok (.aload_n 0, 1) := by decide +kernel
theorem dX12_killLine_1 : decode cX12_killLine 1 = .ok (.getfield 94, 3) := by decide +kernel
theorem dX12_killLine_4 : decode cX12_killLine 4 = .ok (.ifCond .eq 4, 3) := by decide +kernel
theorem dX12_killLine_7 : decode cX12_killLine 7 = .ok (.return_, 1) := by decide +kernel
theorem dX12_killLine_8 : decode cX12_killLine 8 = .ok (.aload_n 0, 1) := by decide +kernel
theorem dX12_killLine_9 : decode cX12_killLine 9 = .ok (.getfield 23, 3) := by decide +kernel
theorem dX12_killLine_12 : decode cX12_killLine 12 = .ok (.iconst 4, 1) := by decide +kernel
theorem dX12_killLine_13 : decode cX12_killLine 13 = .ok (.iaload, 1) := by decide +kernel
theorem dX12_killLine_14 : decode cX12_killLine 14 = .ok (.istore_n 1, 1) := by decide +kernel
theorem dX12_killLine_15 : decode cX12_killLine 15 = .ok (.aload_n 0, 1) := by decide +kernel
theorem dX12_killLine_16 : decode cX12_killLine 16 = .ok (.bipush 11, 2) := by decide +kernel
theorem dX12_killLine_18 : decode cX12_killLine 18 = .ok (.iload_n 1, 1) := by decide +kernel
theorem dX12_killLine_19 : decode cX12_killLine 19 = .ok (.iadd, 1) := by decide +kernel
theorem dX12_killLine_20 : decode cX12_killLine 20 = .ok (.invokevirtual 223, 3) := by decide +kernel
theorem dX12_killLine_23 : decode cX12_killLine 23 = .ok (.aload_n 0, 1) := by decide +kernel
theorem dX12_killLine_24 : decode cX12_killLine 24 = .ok (.ldc_w 256, 3) := by decide +kernel
theorem dX12_killLine_27 : decode cX12_killLine 27 = .ok (.invokevirtual 163, 3) := by decide +kernel
theorem dX12_killLine_30 : decode cX12_killLine 30 = .ok (.aload_n 0, 1) := by decide +kernel
theorem dX12_killLine_31 : decode cX12_killLine 31 = .ok (.invokevirtual 249, 3) := by decide +kernel
theorem dX12_killLine_34 : decode cX12_killLine 34 = .ok (.istore_n 2, 1) := by decide +kernel
theorem dX12_killLine_35 : decode cX12_killLine 35 = .ok (.aload_n 0, 1) := by decide +kernel
theorem dX12_killLine_36 : decode cX12_killLine 36 = .ok (.getfield 23, 3) := by decide +kernel
theorem dX12_killLine_39 : decode cX12_killLine 39 = .ok (.bipush 34, 2) := by decide +kernel
theorem dX12_killLine_41 : decode cX12_killLine 41 = .ok (.iconst 4, 1) := by decide +kernel
theorem dX12_killLine_42 : decode cX12_killLine 42 = .ok (.iload_n 1, 1) := by decide +kernel
theorem dX12_killLine_43 : decode cX12_killLine 43 = .ok (.imul, 1) := by decide +kernel
theorem dX12_killLine_44 : decode cX12_killLine 44 = .ok (.iadd, 1) := by decide +kernel
theorem dX12_killLine_45 : decode cX12_killLine 45 = .ok (.iload_n 2, 1) := by decide +kernel
theorem dX12_killLine_46 : decode cX12_killLine 46 = .ok (.iastore, 1) := by decide +kernel
theorem dX12_killLine_47 : decode cX12_killLine 47 = .ok (.aload_n 0, 1) := by decide +kernel
theorem dX12_killLine_48 : decode cX12_killLine 48 = .ok (.getfield 23, 3) := by decide +kernel
theorem dX12_killLine_51 : decode cX12_killLine 51 = .ok (.bipush 34, 2) := by decide +kernel
theorem dX12_killLine_53 : decode cX12_killLine 53 = .ok (.iconst 4, 1) := by decide +kernel
theorem dX12_killLine_54 : decode cX12_killLine 54 = .ok (.iload_n 1, 1) := by decide +kernel
theorem dX12_killLine_55 : decode cX12_killLine 55 = .ok (.imul, 1) := by decide +kernel
theorem dX12_killLine_56 : decode cX12_killLine 56 = .ok (.iadd, 1) := by decide +kernel
theorem dX12_killLine_57 : decode cX12_killLine 57 = .ok (.iconst 1, 1) := by decide +kernel
theorem dX12_killLine_58 : decode cX12_killLine 58 = .ok (.iadd, 1) := by decide +kernel
theorem dX12_killLine_59 : decode cX12_killLine 59 = .ok (.aload_n 0, 1) := by decide +kernel
theorem dX12_killLine_60 : decode cX12_killLine 60 = .ok (.ldc_w 258, 3) := by decide +kernel
theorem dX12_killLine_63 : decode cX12_killLine 63 = .ok (.iconst 0, 1) := by decide +kernel
theorem dX12_killLine_64 : decode cX12_killLine 64 = .ok (.iconst 3, 1) := by decide +kernel
theorem dX12_killLine_65 : decode cX12_killLine 65 = .ok (.invokevirtual 219, 3) := by decide +kernel
theorem dX12_killLine_68 : decode cX12_killLine 68 = .ok (.iastore, 1) := by decide +kernel
theorem dX12_killLine_69 : decode cX12_killLine 69 = .ok (.aload_n 0, 1) := by decide +kernel
theorem dX12_killLine_70 : decode cX12_killLine 70 = .ok (.getfield 23, 3) := by decide +kernel
theorem dX12_killLine_73 : decode cX12_killLine 73 = .ok (.bipush 34, 2) := by decide +kernel
theorem dX12_killLine_75 : decode cX12_killLine 75 = .ok (.iconst 4, 1) := by decide +kernel
theorem dX12_killLine_76 : decode cX12_killLine 76 = .ok (.iload_n 1, 1) := by decide +kernel
theorem dX12_killLine_77 : decode cX12_killLine 77 = .ok (.imul, 1) := by decide +kernel
theorem dX12_killLine_78 : decode cX12_killLine 78 = .ok (.iadd, 1) := by decide +kernel
theorem dX12_killLine_79 : decode cX12_killLine 79 = .ok (.iconst 2, 1) := by decide +kernel
theorem dX12_killLine_80 : decode cX12_killLine 80 = .ok (.iadd, 1) := by decide +kernel
theorem dX12_killLine_81 : decode cX12_killLine 81 = .ok (.aload_n 0, 1) := by decide +kernel
theorem dX12_killLine_82 : decode cX12_killLine 82 = .ok (.ldc_w 260, 3) := by decide +kernel
theorem dX12_killLine_85 : decode cX12_killLine 85 = .ok (.iconst 0, 1) := by decide +kernel
theorem dX12_killLine_86 : decode cX12_killLine 86 = .ok (.bipush 20, 2) := by decide +kernel
theorem dX12_killLine_88 : decode cX12_killLine 88 = .ok (.invokevirtual 219, 3) := by decide +kernel
theorem dX12_killLine_91 : decode cX12_killLine 91 = .ok (.iastore, 1) := by decide +kernel
theorem dX12_killLine_92 : decode cX12_killLine 92 = .ok (.aload_n 0, 1) := by decide +kernel
theorem dX12_killLine_93 : decode cX12_killLine 93 = .ok (.getfield 94, 3) := by decide +kernel
theorem dX12_killLine_96 : decode cX12_killLine 96 = .ok (.ifCond .eq 4, 3) := by decide +kernel
theorem dX12_killLine_99 : decode cX12_killLine 99 = .ok (.return_, 1) := by decide +kernel
theorem dX12_killLine_100 : decode cX12_killLine 100 = .ok (.aload_n 0, 1) := by decide +kernel
theorem dX12_killLine_101 : decode cX12_killLine 101 = .ok (.getfield 29, 3) := by decide +kernel
theorem dX12_killLine_104 : decode cX12_killLine 104 = .ok (.bipush 32, 2) := by decide +kernel
theorem dX12_killLine_106 : decode cX12_killLine 106 = .ok (.iload_n 1, 1) := by decide +kernel
theorem dX12_killLine_107 : decode cX12_killLine 107 = .ok (.iadd, 1) := by decide +kernel
theorem dX12_killLine_108 : decode cX12_killLine 108 = .ok (.iload_n 2, 1) := by decide +kernel
theorem dX12_killLine_109 : decode cX12_killLine 109 = .ok (.iastore, 1) := by decide +kernel
theorem dX12_killLine_110 : decode cX12_killLine 110 = .ok (.aload_n 0, 1) := by decide +kernel
theorem dX12_killLine_111 : decode cX12_killLine 111 = .ok (.getfield 23, 3) := by decide +kernel
theorem dX12_killLine_114 : decode cX12_killLine 114 = .ok (.iconst 4, 1) := by decide +kernel
theorem dX12_killLine_115 : decode cX12_killLine 115 = .ok (.dup2, 1) := by decide +kernel
theorem dX12_killLine_116 : decode cX12_killLine 116 = .ok (.iaload, 1) := by decide +kernel
theorem dX12_killLine_117 : decode cX12_killLine 117 = .ok (.iconst 1, 1) := by decide +kernel
theorem dX12_killLine_118 : decode cX12_killLine 118 = .ok (.iadd, 1) := by decide +kernel
theorem dX12_killLine_119 : decode cX12_killLine 119 = .ok (.iastore, 1) := by decide +kernel
theorem dX12_killLine_120 : decode cX12_killLine 120 = .ok (.return_, 1) := by decide +kernel
theorem dX12_takenLine_0 : decode cX12_takenLine 0 = .ok (.aload_n 0, 1) := by decide +kernel
theorem dX12_takenLine_1 : decode cX12_takenLine 1 = .ok (.bipush 11, 2) := by decide +kernel
theorem dX12_takenLine_3 : decode cX12_takenLine 3 = .ok (.bipush 16, 2) := by decide +kernel
theorem dX12_takenLine_5 : decode cX12_takenLine 5 = .ok (.invokevirtual 150, 3) := by decide +kernel
theorem dX12_takenLine_8 : decode cX12_takenLine 8 = .ok (.istore_n 1, 1) := by decide +kernel
theorem dX12_takenLine_9 : decode cX12_takenLine 9 = .ok (.aload_n 0, 1) := by decide +kernel
theorem dX12_takenLine_10 : decode cX12_takenLine 10 = .ok (.invokevirtual 157, 3) := by decide +kernel
theorem dX12_takenLine_13 : decode cX12_takenLine 13 = .ok (.aload_n 0, 1) := by decide +kernel
theorem dX12_takenLine_14 : decode cX12_takenLine 14 = .ok (.invokevirtual 160, 3) := by decide +kernel
theorem dX12_takenLine_17 : decode cX12_takenLine 17 = .ok (.istore_n 2, 1) := by decide +kernel
theorem dX12_takenLine_18 : decode cX12_takenLine 18 = .ok (.aload_n 0, 1) := by decide +kernel
theorem dX12_takenLine_19 : decode cX12_takenLine 19 = .ok (.getfield 94, 3) := by decide +kernel
theorem dX12_takenLine_22 : decode cX12_takenLine 22 = .ok (.ifCond .ne 25, 3) := by decide +kernel
theorem dX12_takenLine_25 : decode cX12_takenLine 25 = .ok (.aload_n 0, 1) := by decide +kernel
theorem dX12_takenLine_26 : decode cX12_takenLine 26 = .ok (.getfield 29, 3) := by decide +kernel
theorem dX12_takenLine_29 : decode cX12_takenLine 29 = .ok (.bipush 32, 2) := by decide +kernel
theorem dX12_takenLine_31 : decode cX12_takenLine 31 = .ok (.iload_n 1, 1) := by decide +kernel
theorem dX12_takenLine_32 : decode cX12_takenLine 32 = .ok (.iadd, 1) := by decide +kernel
theorem dX12_takenLine_33 : decode cX12_takenLine 33 = .ok (.iaload, 1) := by decide +kernel
theorem dX12_takenLine_34 : decode cX12_takenLine 34 = .ok (.iload_n 2, 1) := by decide +kernel
theorem dX12_takenLine_35 : decode cX12_takenLine 35 = .ok (.if_icmp .ne 12, 3) := by decide +kernel
theorem dX12_takenLine_38 : decode cX12_takenLine 38 = .ok (.aload_n 0, 1) := by decide +kernel
theorem dX12_takenLine_39 : decode cX12_takenLine 39 = .ok (.iconst 3, 1) := by decide +kernel
theorem dX12_takenLine_40 : decode cX12_takenLine 40 = .ok (.aload_n 0, 1) := by decide +kernel
theorem dX12_takenLine_41 : decode cX12_takenLine 41 = .ok (.getfield 75, 3) := by decide +kernel
theorem dX12_takenLine_44 : decode cX12_takenLine 44 = .ok (.invokevirtual 121, 3) := by decide +kernel
theorem dX12_takenLine_47 : decode cX12_takenLine 47 = .ok (.aload_n 0, 1) := by decide +kernel
theorem dX12_takenLine_48 : decode cX12_takenLine 48 = .ok (.invokevirtual 157, 3) := by decide +kernel
theorem dX12_takenLine_51 : decode cX12_takenLine 51 = .ok (.aload_n 0, 1) := by decide +kernel
theorem dX12_takenLine_52 : decode cX12_takenLine 52 = .ok (.getfield 94, 3) := by decide +kernel
theorem dX12_takenLine_55 : decode cX12_takenLine 55 = .ok (.ifCond .eq 4, 3) := by decide +kernel
theorem dX12_takenLine_58 : decode cX12_takenLine 58 = .ok (.return_, 1) := by decide +kernel
theorem dX12_takenLine_59 : decode cX12_takenLine 59 = .ok (.aload_n 0, 1) := by decide +kernel
theorem dX12_takenLine_60 : decode cX12_takenLine 60 = .ok (.getfield 29, 3) := by decide +kernel
theorem dX12_takenLine_63 : decode cX12_takenLine 63 = .ok (.bipush 32, 2) := by decide +kernel
theorem dX12_takenLine_65 : decode cX12_takenLine 65 = .ok (.iload_n 1, 1) := by decide +kernel
theorem dX12_takenLine_66 : decode cX12_takenLine 66 = .ok (.iadd, 1) := by decide +kernel
theorem dX12_takenLine_67 : decode cX12_takenLine 67 = .ok (.iload_n 2, 1) := by decide +kernel
theorem dX12_takenLine_68 : decode cX12_takenLine 68 = .ok (.iastore, 1) := by decide +kernel
theorem dX12_takenLine_69 : decode cX12_takenLine 69 = .ok (.aload_n 0, 1) := by decide +kernel
theorem dX12_takenLine_70 : decode cX12_takenLine 70 = .ok (.getfield 23, 3) := by decide +kernel
theorem dX12_takenLine_73 : decode cX12_takenLine 73 = .ok (.bipush 7, 2) := by decide +kernel
theorem dX12_takenLine_75 : decode cX12_takenLine 75 = .ok (.dup2, 1) := by decide +kernel
theorem dX12_takenLine_76 : decode cX12_takenLine 76 = .ok (.iaload, 1) := by decide +kernel
theorem dX12_takenLine_77 : decode cX12_takenLine 77 = .ok (.iconst 1, 1) := by decide +kernel
theorem dX12_takenLine_78 : decode cX12_takenLine 78 = .ok (.iadd, 1) := by decide +kernel
theorem dX12_takenLine_79 : decode cX12_takenLine 79 = .ok (.iastore, 1) := by decide +kernel
theorem dX12_takenLine_80 : decode cX12_takenLine 80 = .ok (.return_, 1) := by decide +kernel
theorem dX12_strayLine_0 : decode cX12_strayLine 0 = .ok (.aload_n 0, 1) := by decide +kernel
theorem dX12_strayLine_1 : decode cX12_strayLine 1 = .ok (.getfield 94, 3) := by decide +kernel
theorem dX12_strayLine_4 : decode cX12_strayLine 4 = .ok (.ifCond .eq 4, 3) := by decide +kernel
theorem dX12_strayLine_7 : decode cX12_strayLine 7 = .ok (.return_, 1) := by decide +kernel
theorem dX12_strayLine_8 : decode cX12_strayLine 8 = .ok (.aload_n 0, 1) := by decide +kernel
theorem dX12_strayLine_9 : decode cX12_strayLine 9 = .ok (.bipush 17, 2) := by decide +kernel
theorem dX12_strayLine_11 : decode cX12_strayLine 11 = .ok (.aload_n 0, 1) := by decide +kernel
theorem dX12_strayLine_12 : decode cX12_strayLine 12 = .ok (.getfield 23, 3) := by decide +kernel
theorem dX12_strayLine_15 : decode cX12_strayLine 15 = .ok (.iconst 5, 1) := by decide +kernel
theorem dX12_strayLine_16 : decode cX12_strayLine 16 = .ok (.iaload, 1) := by decide +kernel
theorem dX12_strayLine_17 : decode cX12_strayLine 17 = .ok (.iadd, 1) := by decide +kernel
theorem dX12_strayLine_18 : decode cX12_strayLine 18 = .ok (.invokevirtual 223, 3) := by decide +kernel
theorem dX12_strayLine_21 : decode cX12_strayLine 21 = .ok (.aload_n 0, 1) := by decide +kernel
theorem dX12_strayLine_22 : decode cX12_strayLine 22 = .ok (.ldc 248, 2) := by decide +kernel
theorem dX12_strayLine_24 : decode cX12_strayLine 24 = .ok (.invokevirtual 163, 3) := by decide +kernel
theorem dX12_strayLine_27 : decode cX12_strayLine 27 = .ok (.aload_n 0, 1) := by decide +kernel
theorem dX12_strayLine_28 : decode cX12_strayLine 28 = .ok (.invokevirtual 233, 3) := by decide +kernel
theorem dX12_strayLine_31 : decode cX12_strayLine 31 = .ok (.istore_n 1, 1) := by decide +kernel
theorem dX12_strayLine_32 : decode cX12_strayLine 32 = .ok (.aload_n 0, 1) := by decide +kernel
theorem dX12_strayLine_33 : decode cX12_strayLine 33 = .ok (.getfield 94, 3) := by decide +kernel
theorem dX12_strayLine_36 : decode cX12_strayLine 36 = .ok (.ifCond .eq 4, 3) := by decide +kernel
theorem dX12_strayLine_39 : decode cX12_strayLine 39 = .ok (.return_, 1) := by decide +kernel
theorem dX12_strayLine_40 : decode cX12_strayLine 40 = .ok (.aload_n 0, 1) := by decide +kernel
theorem dX12_strayLine_41 : decode cX12_strayLine 41 = .ok (.getfield 23, 3) := by decide +kernel
theorem dX12_strayLine_44 : decode cX12_strayLine 44 = .ok (.bipush 58, 2) := by decide +kernel
theorem dX12_strayLine_46 : decode cX12_strayLine 46 = .ok (.aload_n 0, 1) := by decide +kernel
theorem dX12_strayLine_47 : decode cX12_strayLine 47 = .ok (.getfield 23, 3) := by decide +kernel
theorem dX12_strayLine_50 : decode cX12_strayLine 50 = .ok (.iconst 5, 1) := by decide +kernel
theorem dX12_strayLine_51 : decode cX12_strayLine 51 = .ok (.iaload, 1) := by decide +kernel
theorem dX12_strayLine_52 : decode cX12_strayLine 52 = .ok (.iadd, 1) := by decide +kernel
theorem dX12_strayLine_53 : decode cX12_strayLine 53 = .ok (.iload_n 1, 1) := by decide +kernel
theorem dX12_strayLine_54 : decode cX12_strayLine 54 = .ok (.iastore, 1) := by decide +kernel
theorem dX12_strayLine_55 : decode cX12_strayLine 55 = .ok (.aload_n 0, 1) := by decide +kernel
theorem dX12_strayLine_56 : decode cX12_strayLine 56 = .ok (.getfield 23, 3) := by decide +kernel
theorem dX12_strayLine_59 : decode cX12_strayLine 59 = .ok (.iconst 5, 1) := by decide +kernel
theorem dX12_strayLine_60 : decode cX12_strayLine 60 = .ok (.dup2, 1) := by decide +kernel
theorem dX12_strayLine_61 : decode cX12_strayLine 61 = .ok (.iaload, 1) := by decide +kernel
theorem dX12_strayLine_62 : decode cX12_strayLine 62 = .ok (.iconst 1, 1) := by decide +kernel
theorem dX12_strayLine_63 : decode cX12_strayLine 63 = .ok (.iadd, 1) := by decide +kernel
theorem dX12_strayLine_64 : decode cX12_strayLine 64 = .ok (.iastore, 1) := by decide +kernel
theorem dX12_strayLine_65 : decode cX12_strayLine 65 = .ok (.return_, 1) := by decide +kernel
theorem dX12_fault_0 : decode cX12_fault 0 = .ok (.aload_n 0, 1) := by decide +kernel
theorem dX12_fault_1 : decode cX12_fault 1 = .ok (.iconst 0, 1) := by decide +kernel
theorem dX12_fault_2 : decode cX12_fault 2 = .ok (.putfield 56, 3) := by decide +kernel
theorem dX12_fault_5 : decode cX12_fault 5 = .ok (.aload_n 0, 1) := by decide +kernel
theorem dX12_fault_6 : decode cX12_fault 6 = .ok (.getfield 98, 3) := by decide +kernel
theorem dX12_fault_9 : decode cX12_fault 9 = .ok (.ireturn, 1) := by decide +kernel
theorem dX12_where_0 : decode cX12_where 0 = .ok (.aload_n 0, 1) := by decide +kernel
theorem dX12_where_1 : decode cX12_where 1 = .ok (.iconst 0, 1) := by decide +kernel
theorem dX12_where_2 : decode cX12_where 2 = .ok (.putfield 56, 3) := by decide +kernel
theorem dX12_where_5 : decode cX12_where 5 = .ok (.aload_n 0, 1) := by decide +kernel
theorem dX12_where_6 : decode cX12_where 6 = .ok (.getfield 59, 3) := by decide +kernel
theorem dX12_where_9 : decode cX12_where 9 = .ok (.iconst 4, 1) := by decide +kernel
theorem dX12_where_10 : decode cX12_where 10 = .ok (.if_icmp .ne 10, 3) := by decide +kernel
theorem dX12_where_13 : decode cX12_where 13 = .ok (.aload_n 0, 1) := by decide +kernel
theorem dX12_where_14 : decode cX12_where 14 = .ok (.getfield 13, 3) := by decide +kernel
theorem dX12_where_17 : decode cX12_where 17 = .ok (.goto 4, 3) := by decide +kernel
theorem dX12_where_20 : decode cX12_where 20 = .ok (.iconst (-1), 1) := by decide +kernel
theorem dX12_where_21 : decode cX12_where 21 = .ok (.ireturn, 1) := by decide +kernel
theorem dX12_isPlace_0 : decode cX12_isPlace 0 = .ok (.aload_n 0, 1) := by decide +kernel
theorem dX12_isPlace_1 : decode cX12_isPlace 1 = .ok (.getfield 180, 3) := by decide +kernel
theorem dX12_isPlace_4 : decode cX12_isPlace 4 = .ok (.ifCond .eq 23, 3) := by decide +kernel
theorem dX12_isPlace_7 : decode cX12_isPlace 7 = .ok (.iload_n 1, 1) := by decide +kernel
theorem dX12_isPlace_8 : decode cX12_isPlace 8 = .ok (.iconst 0, 1) := by decide +kernel
theorem dX12_isPlace_9 : decode cX12_isPlace 9 = .ok (.aload_n 0, 1) := by decide +kernel
theorem dX12_isPlace_10 : decode cX12_isPlace 10 = .ok (.getfield 20, 3) := by decide +kernel
theorem dX12_isPlace_13 : decode cX12_isPlace 13 = .ok (.iconst 1, 1) := by decide +kernel
theorem dX12_isPlace_14 : decode cX12_isPlace 14 = .ok (.iaload, 1) := by decide +kernel
theorem dX12_isPlace_15 : decode cX12_isPlace 15 = .ok (.iconst 1, 1) := by decide +kernel
theorem dX12_isPlace_16 : decode cX12_isPlace 16 = .ok (.isub, 1) := by decide +kernel
theorem dX12_isPlace_17 : decode cX12_isPlace 17 = .ok (.invokestatic 146, 3) := by decide +kernel
theorem dX12_isPlace_20 : decode cX12_isPlace 20 = .ok (.ifCond .eq 7, 3) := by decide +kernel
theorem dX12_isPlace_23 : decode cX12_isPlace 23 = .ok (.iconst 1, 1) := by decide +kernel
theorem dX12_isPlace_24 : decode cX12_isPlace 24 = .ok (.goto 4, 3) := by decide +kernel
theorem dX12_isPlace_27 : decode cX12_isPlace 27 = .ok (.iconst 0, 1) := by decide +kernel
theorem dX12_isPlace_28 : decode cX12_isPlace 28 = .ok (.ireturn, 1) := by decide +kernel
theorem dX12_isMan_0 : decode cX12_isMan 0 = .ok (.aload_n 0, 1) := by decide +kernel
theorem dX12_isMan_1 : decode cX12_isMan 1 = .ok (.getfield 180, 3) := by decide +kernel
theorem dX12_isMan_4 : decode cX12_isMan 4 = .ok (.ifCond .eq 23, 3) := by decide +kernel
theorem dX12_isMan_7 : decode cX12_isMan 7 = .ok (.iload_n 1, 1) := by decide +kernel
theorem dX12_isMan_8 : decode cX12_isMan 8 = .ok (.iconst 0, 1) := by decide +kernel
theorem dX12_isMan_9 : decode cX12_isMan 9 = .ok (.aload_n 0, 1) := by decide +kernel
theorem dX12_isMan_10 : decode cX12_isMan 10 = .ok (.getfield 20, 3) := by decide +kernel
theorem dX12_isMan_13 : decode cX12_isMan 13 = .ok (.iconst 3, 1) := by decide +kernel
theorem dX12_isMan_14 : decode cX12_isMan 14 = .ok (.iaload, 1) := by decide +kernel
theorem dX12_isMan_15 : decode cX12_isMan 15 = .ok (.iconst 1, 1) := by decide +kernel
theorem dX12_isMan_16 : decode cX12_isMan 16 = .ok (.isub, 1) := by decide +kernel
theorem dX12_isMan_17 : decode cX12_isMan 17 = .ok (.invokestatic 146, 3) := by decide +kernel
theorem dX12_isMan_20 : decode cX12_isMan 20 = .ok (.ifCond .eq 7, 3) := by decide +kernel
theorem dX12_isMan_23 : decode cX12_isMan 23 = .ok (.iconst 1, 1) := by decide +kernel
theorem dX12_isMan_24 : decode cX12_isMan 24 = .ok (.goto 4, 3) := by decide +kernel
theorem dX12_isMan_27 : decode cX12_isMan 27 = .ok (.iconst 0, 1) := by decide +kernel
theorem dX12_isMan_28 : decode cX12_isMan 28 = .ok (.ireturn, 1) := by decide +kernel
theorem dX12_isKill_0 : decode cX12_isKill 0 = .ok (.aload_n 0, 1) := by decide +kernel
theorem dX12_isKill_1 : decode cX12_isKill 1 = .ok (.getfield 180, 3) := by decide +kernel
theorem dX12_isKill_4 : decode cX12_isKill 4 = .ok (.ifCond .eq 23, 3) := by decide +kernel
theorem dX12_isKill_7 : decode cX12_isKill 7 = .ok (.iload_n 1, 1) := by decide +kernel
theorem dX12_isKill_8 : decode cX12_isKill 8 = .ok (.iconst 0, 1) := by decide +kernel
theorem dX12_isKill_9 : decode cX12_isKill 9 = .ok (.aload_n 0, 1) := by decide +kernel
theorem dX12_isKill_10 : decode cX12_isKill 10 = .ok (.getfield 20, 3) := by decide +kernel
theorem dX12_isKill_13 : decode cX12_isKill 13 = .ok (.iconst 4, 1) := by decide +kernel
theorem dX12_isKill_14 : decode cX12_isKill 14 = .ok (.iaload, 1) := by decide +kernel
theorem dX12_isKill_15 : decode cX12_isKill 15 = .ok (.iconst 1, 1) := by decide +kernel
theorem dX12_isKill_16 : decode cX12_isKill 16 = .ok (.isub, 1) := by decide +kernel
theorem dX12_isKill_17 : decode cX12_isKill 17 = .ok (.invokestatic 146, 3) := by decide +kernel
theorem dX12_isKill_20 : decode cX12_isKill 20 = .ok (.ifCond .eq 7, 3) := by decide +kernel
theorem dX12_isKill_23 : decode cX12_isKill 23 = .ok (.iconst 1, 1) := by decide +kernel
theorem dX12_isKill_24 : decode cX12_isKill 24 = .ok (.goto 4, 3) := by decide +kernel
theorem dX12_isKill_27 : decode cX12_isKill 27 = .ok (.iconst 0, 1) := by decide +kernel
theorem dX12_isKill_28 : decode cX12_isKill 28 = .ok (.ireturn, 1) := by decide +kernel
theorem dX12_behindOf_0 : decode cX12_behindOf 0 = .ok (.aload_n 0, 1) := by decide +kernel
theorem dX12_behindOf_1 : decode cX12_behindOf 1 = .ok (.getfield 20, 3) := by decide +kernel
theorem dX12_behindOf_4 : decode cX12_behindOf 4 = .ok (.bipush 30, 2) := by decide +kernel
theorem dX12_behindOf_6 : decode cX12_behindOf 6 = .ok (.iload_n 1, 1) := by decide +kernel
theorem dX12_behindOf_7 : decode cX12_behindOf 7 = .ok (.iadd, 1) := by decide +kernel
theorem dX12_behindOf_8 : decode cX12_behindOf 8 = .ok (.iaload, 1) := by decide +kernel
theorem dX12_behindOf_9 : decode cX12_behindOf 9 = .ok (.iconst 2, 1) := by decide +kernel
theorem dX12_behindOf_10 : decode cX12_behindOf 10 = .ok (.if_icmp .ne 9, 3) := by decide +kernel
theorem dX12_behindOf_13 : decode cX12_behindOf 13 = .ok (.iconst 2, 1) := by decide +kernel
theorem dX12_behindOf_14 : decode cX12_behindOf 14 = .ok (.iload_n 2, 1) := by decide +kernel
theorem dX12_behindOf_15 : decode cX12_behindOf 15 = .ok (.imul, 1) := by decide +kernel
theorem dX12_behindOf_16 : decode cX12_behindOf 16 = .ok (.goto 40, 3) := by decide +kernel
theorem dX12_behindOf_19 : decode cX12_behindOf 19 = .ok (.aload_n 0, 1) := by decide +kernel
theorem dX12_behindOf_20 : decode cX12_behindOf 20 = .ok (.getfield 20, 3) := by decide +kernel
theorem dX12_behindOf_23 : decode cX12_behindOf 23 = .ok (.bipush 30, 2) := by decide +kernel
theorem dX12_behindOf_25 : decode cX12_behindOf 25 = .ok (.iload_n 1, 1) := by decide +kernel
theorem dX12_behindOf_26 : decode cX12_behindOf 26 = .ok (.iadd, 1) := by decide +kernel
theorem dX12_behindOf_27 : decode cX12_behindOf 27 = .ok (.iaload, 1) := by decide +kernel
theorem dX12_behindOf_28 : decode cX12_behindOf 28 = .ok (.iconst 1, 1) := by decide +kernel
theorem dX12_behindOf_29 : decode cX12_behindOf 29 = .ok (.if_icmp .ne 9, 3) := by decide +kernel
theorem dX12_behindOf_32 : decode cX12_behindOf 32 = .ok (.iload_n 2, 1) := by decide +kernel
theorem dX12_behindOf_33 : decode cX12_behindOf 33 = .ok (.iconst 1, 1) := by decide +kernel
theorem dX12_behindOf_34 : decode cX12_behindOf 34 = .ok (.iadd, 1) := by decide +kernel
theorem dX12_behindOf_35 : decode cX12_behindOf 35 = .ok (.goto 21, 3) := by decide +kernel
theorem dX12_behindOf_38 : decode cX12_behindOf 38 = .ok (.aload_n 0, 1) := by decide +kernel
theorem dX12_behindOf_39 : decode cX12_behindOf 39 = .ok (.getfield 20, 3) := by decide +kernel
theorem dX12_behindOf_42 : decode cX12_behindOf 42 = .ok (.bipush 30, 2) := by decide +kernel
theorem dX12_behindOf_44 : decode cX12_behindOf 44 = .ok (.iload_n 1, 1) := by decide +kernel
theorem dX12_behindOf_45 : decode cX12_behindOf 45 = .ok (.iadd, 1) := by decide +kernel
theorem dX12_behindOf_46 : decode cX12_behindOf 46 = .ok (.iaload, 1) := by decide +kernel
theorem dX12_behindOf_47 : decode cX12_behindOf 47 = .ok (.iconst 3, 1) := by decide +kernel
theorem dX12_behindOf_48 : decode cX12_behindOf 48 = .ok (.if_icmp .ne 7, 3) := by decide +kernel
theorem dX12_behindOf_51 : decode cX12_behindOf 51 = .ok (.iconst 0, 1) := by decide +kernel
theorem dX12_behindOf_52 : decode cX12_behindOf 52 = .ok (.goto 4, 3) := by decide +kernel
theorem dX12_behindOf_55 : decode cX12_behindOf 55 = .ok (.iload_n 2, 1) := by decide +kernel
theorem dX12_behindOf_56 : decode cX12_behindOf 56 = .ok (.ireturn, 1) := by decide +kernel
theorem dX12_darkBehind_0 : decode cX12_darkBehind 0 = .ok (.iload_n 2, 1) := by decide +kernel
theorem dX12_darkBehind_1 : decode cX12_darkBehind 1 = .ok (.istore_n 3, 1) := by decide +kernel
theorem dX12_darkBehind_2 : decode cX12_darkBehind 2 = .ok (.iload_n 3, 1) := by decide +kernel
theorem dX12_darkBehind_3 : decode cX12_darkBehind 3 = .ok (.bipush 8, 2) := by decide +kernel
theorem dX12_darkBehind_5 : decode cX12_darkBehind 5 = .ok (.if_icmp .ge 36, 3) := by decide +kernel
theorem dX12_darkBehind_8 : decode cX12_darkBehind 8 = .ok (.aload_n 0, 1) := by decide +kernel
theorem dX12_darkBehind_9 : decode cX12_darkBehind 9 = .ok (.bipush 38, 2) := by decide +kernel
theorem dX12_darkBehind_11 : decode cX12_darkBehind 11 = .ok (.iaload, 1) := by decide +kernel
theorem dX12_darkBehind_12 : decode cX12_darkBehind 12 = .ok (.aload_n 0, 1) := by decide +kernel
theorem dX12_darkBehind_13 : decode cX12_darkBehind 13 = .ok (.bipush 8, 2) := by decide +kernel
theorem dX12_darkBehind_15 : decode cX12_darkBehind 15 = .ok (.iload_n 1, 1) := by decide +kernel
theorem dX12_darkBehind_16 : decode cX12_darkBehind 16 = .ok (.imul, 1) := by decide +kernel
theorem dX12_darkBehind_17 : decode cX12_darkBehind 17 = .ok (.iload_n 3, 1) := by decide +kernel
theorem dX12_darkBehind_18 : decode cX12_darkBehind 18 = .ok (.iadd, 1) := by decide +kernel
theorem dX12_darkBehind_19 : decode cX12_darkBehind 19 = .ok (.iaload, 1) := by decide +kernel
theorem dX12_darkBehind_20 : decode cX12_darkBehind 20 = .ok (.invokestatic 236, 3) := by decide +kernel
theorem dX12_darkBehind_23 : decode cX12_darkBehind 23 = .ok (.ifCond .ne 12, 3) := by decide +kernel
theorem dX12_darkBehind_26 : decode cX12_darkBehind 26 = .ok (.aload_n 0, 1) := by decide +kernel
theorem dX12_darkBehind_27 : decode cX12_darkBehind 27 = .ok (.bipush 8, 2) := by decide +kernel
theorem dX12_darkBehind_29 : decode cX12_darkBehind 29 = .ok (.iload_n 1, 1) := by decide +kernel
theorem dX12_darkBehind_30 : decode cX12_darkBehind 30 = .ok (.imul, 1) := by decide +kernel
theorem dX12_darkBehind_31 : decode cX12_darkBehind 31 = .ok (.iload_n 3, 1) := by decide +kernel
theorem dX12_darkBehind_32 : decode cX12_darkBehind 32 = .ok (.iadd, 1) := by decide +kernel
theorem dX12_darkBehind_33 : decode cX12_darkBehind 33 = .ok (.iaload, 1) := by decide +kernel
theorem dX12_darkBehind_34 : decode cX12_darkBehind 34 = .ok (.ireturn, 1) := by decide +kernel
theorem dX12_darkBehind_35 : decode cX12_darkBehind 35 = .ok (.iinc 3 1, 3) := by decide +kernel
theorem dX12_darkBehind_38 : decode cX12_darkBehind 38 = .ok (.goto (-36), 3) := by decide +kernel
theorem dX12_darkBehind_41 : decode cX12_darkBehind 41 = .ok (.bipush (-2), 2) := by decide +kernel
theorem dX12_darkBehind_43 : decode cX12_darkBehind 43 = .ok (.ireturn, 1) := by decide +kernel
theorem dX12_standsOf_0 : decode cX12_standsOf 0 = .ok (.aload_n 1, 1) := by decide +kernel
theorem dX12_standsOf_1 : decode cX12_standsOf 1 = .ok (.bipush 32, 2) := by decide +kernel
theorem dX12_standsOf_3 : decode cX12_standsOf 3 = .ok (.iload_n 2, 1) := by decide +kernel
theorem dX12_standsOf_4 : decode cX12_standsOf 4 = .ok (.iadd, 1) := by decide +kernel
theorem dX12_standsOf_5 : decode cX12_standsOf 5 = .ok (.iaload, 1) := by decide +kernel
theorem dX12_standsOf_6 : decode cX12_standsOf 6 = .ok (.istore_n 3, 1) := by decide +kernel
theorem dX12_standsOf_7 : decode cX12_standsOf 7 = .ok (.aload_n 1, 1) := by decide +kernel
theorem dX12_standsOf_8 : decode cX12_standsOf 8 = .ok (.iload_n 3, 1) := by decide +kernel
theorem dX12_standsOf_9 : decode cX12_standsOf 9 = .ok (.aload_n 0, 1) := by decide +kernel
theorem dX12_standsOf_10 : decode cX12_standsOf 10 = .ok (.iload_n 3, 1) := by decide +kernel
theorem dX12_standsOf_11 : decode cX12_standsOf 11 = .ok (.aload_n 0, 1) := by decide +kernel
theorem dX12_standsOf_12 : decode cX12_standsOf 12 = .ok (.getfield 20, 3) := by decide +kernel
theorem dX12_standsOf_15 : decode cX12_standsOf 15 = .ok (.bipush 34, 2) := by decide +kernel
theorem dX12_standsOf_17 : decode cX12_standsOf 17 = .ok (.iconst 4, 1) := by decide +kernel
theorem dX12_standsOf_18 : decode cX12_standsOf 18 = .ok (.iload_n 2, 1) := by decide +kernel
theorem dX12_standsOf_19 : decode cX12_standsOf 19 = .ok (.imul, 1) := by decide +kernel
theorem dX12_standsOf_20 : decode cX12_standsOf 20 = .ok (.iadd, 1) := by decide +kernel
theorem dX12_standsOf_21 : decode cX12_standsOf 21 = .ok (.iconst 1, 1) := by decide +kernel
theorem dX12_standsOf_22 : decode cX12_standsOf 22 = .ok (.iadd, 1) := by decide +kernel
theorem dX12_standsOf_23 : decode cX12_standsOf 23 = .ok (.iaload, 1) := by decide +kernel
theorem dX12_standsOf_24 : decode cX12_standsOf 24 = .ok (.invokevirtual 262, 3) := by decide +kernel
theorem dX12_standsOf_27 : decode cX12_standsOf 27 = .ok (.invokestatic 265, 3) := by decide +kernel
theorem dX12_standsOf_30 : decode cX12_standsOf 30 = .ok (.ireturn, 1) := by decide +kernel
theorem dX12_killsAt_0 : decode cX12_killsAt 0 = .ok (.iconst 0, 1) := by decide +kernel
theorem dX12_killsAt_1 : decode cX12_killsAt 1 = .ok (.istore_n 2, 1) := by decide +kernel
theorem dX12_killsAt_2 : decode cX12_killsAt 2 = .ok (.iconst 0, 1) := by decide +kernel
theorem dX12_killsAt_3 : decode cX12_killsAt 3 = .ok (.istore_n 3, 1) := by decide +kernel
theorem dX12_killsAt_4 : decode cX12_killsAt 4 = .ok (.iload_n 3, 1) := by decide +kernel
theorem dX12_killsAt_5 : decode cX12_killsAt 5 = .ok (.aload_n 0, 1) := by decide +kernel
theorem dX12_killsAt_6 : decode cX12_killsAt 6 = .ok (.getfield 20, 3) := by decide +kernel
theorem dX12_killsAt_9 : decode cX12_killsAt 9 = .ok (.iconst 4, 1) := by decide +kernel
theorem dX12_killsAt_10 : decode cX12_killsAt 10 = .ok (.iaload, 1) := by decide +kernel
theorem dX12_killsAt_11 : decode cX12_killsAt 11 = .ok (.if_icmp .ge 32, 3) := by decide +kernel
theorem dX12_killsAt_14 : decode cX12_killsAt 14 = .ok (.iload_n 2, 1) := by decide +kernel
theorem dX12_killsAt_15 : decode cX12_killsAt 15 = .ok (.aload_n 0, 1) := by decide +kernel
theorem dX12_killsAt_16 : decode cX12_killsAt 16 = .ok (.aload_n 0, 1) := by decide +kernel
theorem dX12_killsAt_17 : decode cX12_killsAt 17 = .ok (.getfield 32, 3) := by decide +kernel
theorem dX12_killsAt_20 : decode cX12_killsAt 20 = .ok (.iload_n 3, 1) := by decide +kernel
theorem dX12_killsAt_21 : decode cX12_killsAt 21 = .ok (.invokevirtual 269, 3) := by decide +kernel
theorem dX12_killsAt_24 : decode cX12_killsAt 24 = .ok (.iload_n 1, 1) := by decide +kernel
theorem dX12_killsAt_25 : decode cX12_killsAt 25 = .ok (.if_icmp .ne 9, 3) := by decide +kernel
theorem dX12_killsAt_28 : decode cX12_killsAt 28 = .ok (.iconst 1, 1) := by decide +kernel
theorem dX12_killsAt_29 : decode cX12_killsAt 29 = .ok (.iload_n 3, 1) := by decide +kernel
theorem dX12_killsAt_30 : decode cX12_killsAt 30 = .ok (.ishl, 1) := by decide +kernel
theorem dX12_killsAt_31 : decode cX12_killsAt 31 = .ok (.goto 4, 3) := by decide +kernel
theorem dX12_killsAt_34 : decode cX12_killsAt 34 = .ok (.iconst 0, 1) := by decide +kernel
theorem dX12_killsAt_35 : decode cX12_killsAt 35 = .ok (.ior, 1) := by decide +kernel
theorem dX12_killsAt_36 : decode cX12_killsAt 36 = .ok (.istore_n 2, 1) := by decide +kernel
theorem dX12_killsAt_37 : decode cX12_killsAt 37 = .ok (.iinc 3 1, 3) := by decide +kernel
theorem dX12_killsAt_40 : decode cX12_killsAt 40 = .ok (.goto (-36), 3) := by decide +kernel
theorem dX12_killsAt_43 : decode cX12_killsAt 43 = .ok (.iload_n 2, 1) := by decide +kernel
theorem dX12_killsAt_44 : decode cX12_killsAt 44 = .ok (.ireturn, 1) := by decide +kernel
theorem dX12_isCrowded_0 : decode cX12_isCrowded 0 = .ok (.aload_n 0, 1) := by decide +kernel
theorem dX12_isCrowded_1 : decode cX12_isCrowded 1 = .ok (.iload_n 1, 1) := by decide +kernel
theorem dX12_isCrowded_2 : decode cX12_isCrowded 2 = .ok (.invokevirtual 273, 3) := by decide +kernel
theorem dX12_isCrowded_5 : decode cX12_isCrowded 5 = .ok (.invokestatic 276, 3) := by decide +kernel
theorem dX12_isCrowded_8 : decode cX12_isCrowded 8 = .ok (.aload_n 0, 1) := by decide +kernel
theorem dX12_isCrowded_9 : decode cX12_isCrowded 9 = .ok (.getfield 20, 3) := by decide +kernel
theorem dX12_isCrowded_12 : decode cX12_isCrowded 12 = .ok (.bipush 9, 2) := by decide +kernel
theorem dX12_isCrowded_14 : decode cX12_isCrowded 14 = .ok (.iload_n 1, 1) := by decide +kernel
theorem dX12_isCrowded_15 : decode cX12_isCrowded 15 = .ok (.iadd, 1) := by decide +kernel
theorem dX12_isCrowded_16 : decode cX12_isCrowded 16 = .ok (.iaload, 1) := by decide +kernel
theorem dX12_isCrowded_17 : decode cX12_isCrowded 17 = .ok (.if_icmp .le 7, 3) := by decide +kernel
theorem dX12_isCrowded_20 : decode cX12_isCrowded 20 = .ok (.iconst 1, 1) := by decide +kernel
theorem dX12_isCrowded_21 : decode cX12_isCrowded 21 = .ok (.goto 4, 3) := by decide +kernel
theorem dX12_isCrowded_24 : decode cX12_isCrowded 24 = .ok (.iconst 0, 1) := by decide +kernel
theorem dX12_isCrowded_25 : decode cX12_isCrowded 25 = .ok (.ireturn, 1) := by decide +kernel
theorem dX12_followersOf_0 : decode cX12_followersOf 0 = .ok (.iconst 0, 1) := by decide +kernel
theorem dX12_followersOf_1 : decode cX12_followersOf 1 = .ok (.istore_n 2, 1) := by decide +kernel
theorem dX12_followersOf_2 : decode cX12_followersOf 2 = .ok (.iconst 0, 1) := by decide +kernel
theorem dX12_followersOf_3 : decode cX12_followersOf 3 = .ok (.istore_n 3, 1) := by decide +kernel
theorem dX12_followersOf_4 : decode cX12_followersOf 4 = .ok (.iload_n 3, 1) := by decide +kernel
theorem dX12_followersOf_5 : decode cX12_followersOf 5 = .ok (.aload_n 0, 1) := by decide +kernel
theorem dX12_followersOf_6 : decode cX12_followersOf 6 = .ok (.getfield 20, 3) := by decide +kernel
theorem dX12_followersOf_9 : decode cX12_followersOf 9 = .ok (.iconst 4, 1) := by decide +kernel
theorem dX12_followersOf_10 : decode cX12_followersOf 10 = .ok (.iaload, 1) := by decide +kernel
theorem dX12_followersOf_11 : decode cX12_followersOf 11 = .ok (.if_icmp .ge 32, 3) := by decide +kernel
theorem dX12_followersOf_14 : decode cX12_followersOf 14 = .ok (.iload_n 2, 1) := by decide +kernel
theorem dX12_followersOf_15 : decode cX12_followersOf 15 = .ok (.aload_n 0, 1) := by decide +kernel
theorem dX12_followersOf_16 : decode cX12_followersOf 16 = .ok (.getfield 32, 3) := by decide +kernel
theorem dX12_followersOf_19 : decode cX12_followersOf 19 = .ok (.bipush 32, 2) := by decide +kernel
theorem dX12_followersOf_21 : decode cX12_followersOf 21 = .ok (.iload_n 3, 1) := by decide +kernel
theorem dX12_followersOf_22 : decode cX12_followersOf 22 = .ok (.iadd, 1) := by decide +kernel
theorem dX12_followersOf_23 : decode cX12_followersOf 23 = .ok (.iaload, 1) := by decide +kernel
theorem dX12_followersOf_24 : decode cX12_followersOf 24 = .ok (.iload_n 1, 1) := by decide +kernel
theorem dX12_followersOf_25 : decode cX12_followersOf 25 = .ok (.if_icmp .ne 9, 3) := by decide +kernel
theorem dX12_followersOf_28 : decode cX12_followersOf 28 = .ok (.iconst 1, 1) := by decide +kernel
theorem dX12_followersOf_29 : decode cX12_followersOf 29 = .ok (.iload_n 3, 1) := by decide +kernel
theorem dX12_followersOf_30 : decode cX12_followersOf 30 = .ok (.ishl, 1) := by decide +kernel
theorem dX12_followersOf_31 : decode cX12_followersOf 31 = .ok (.goto 4, 3) := by decide +kernel
theorem dX12_followersOf_34 : decode cX12_followersOf 34 = .ok (.iconst 0, 1) := by decide +kernel
theorem dX12_followersOf_35 : decode cX12_followersOf 35 = .ok (.ior, 1) := by decide +kernel
theorem dX12_followersOf_36 : decode cX12_followersOf 36 = .ok (.istore_n 2, 1) := by decide +kernel
theorem dX12_followersOf_37 : decode cX12_followersOf 37 = .ok (.iinc 3 1, 3) := by decide +kernel
theorem dX12_followersOf_40 : decode cX12_followersOf 40 = .ok (.goto (-36), 3) := by decide +kernel
theorem dX12_followersOf_43 : decode cX12_followersOf 43 = .ok (.iload_n 2, 1) := by decide +kernel
theorem dX12_followersOf_44 : decode cX12_followersOf 44 = .ok (.ireturn, 1) := by decide +kernel
theorem dX12_shotBy_0 : decode cX12_shotBy 0 = .ok (.iconst 0, 1) := by decide +kernel
theorem dX12_shotBy_1 : decode cX12_shotBy 1 = .ok (.istore_n 2, 1) := by decide +kernel
theorem dX12_shotBy_2 : decode cX12_shotBy 2 = .ok (.iconst 0, 1) := by decide +kernel
theorem dX12_shotBy_3 : decode cX12_shotBy 3 = .ok (.istore_n 3, 1) := by decide +kernel
theorem dX12_shotBy_4 : decode cX12_shotBy 4 = .ok (.iload_n 3, 1) := by decide +kernel
theorem dX12_shotBy_5 : decode cX12_shotBy 5 = .ok (.aload_n 0, 1) := by decide +kernel
theorem dX12_shotBy_6 : decode cX12_shotBy 6 = .ok (.getfield 20, 3) := by decide +kernel
theorem dX12_shotBy_9 : decode cX12_shotBy 9 = .ok (.iconst 4, 1) := by decide +kernel
theorem dX12_shotBy_10 : decode cX12_shotBy 10 = .ok (.iaload, 1) := by decide +kernel
theorem dX12_shotBy_11 : decode cX12_shotBy 11 = .ok (.if_icmp .ge 34, 3) := by decide +kernel
theorem dX12_shotBy_14 : decode cX12_shotBy 14 = .ok (.iload_n 2, 1) := by decide +kernel
theorem dX12_shotBy_15 : decode cX12_shotBy 15 = .ok (.aload_n 0, 1) := by decide +kernel
theorem dX12_shotBy_16 : decode cX12_shotBy 16 = .ok (.getfield 20, 3) := by decide +kernel
theorem dX12_shotBy_19 : decode cX12_shotBy 19 = .ok (.bipush 34, 2) := by decide +kernel
theorem dX12_shotBy_21 : decode cX12_shotBy 21 = .ok (.iconst 4, 1) := by decide +kernel
theorem dX12_shotBy_22 : decode cX12_shotBy 22 = .ok (.iload_n 3, 1) := by decide +kernel
theorem dX12_shotBy_23 : decode cX12_shotBy 23 = .ok (.imul, 1) := by decide +kernel
theorem dX12_shotBy_24 : decode cX12_shotBy 24 = .ok (.iadd, 1) := by decide +kernel
theorem dX12_shotBy_25 : decode cX12_shotBy 25 = .ok (.iaload, 1) := by decide +kernel
theorem dX12_shotBy_26 : decode cX12_shotBy 26 = .ok (.iload_n 1, 1) := by decide +kernel
theorem dX12_shotBy_27 : decode cX12_shotBy 27 = .ok (.if_icmp .ne 9, 3) := by decide +kernel
theorem dX12_shotBy_30 : decode cX12_shotBy 30 = .ok (.iconst 1, 1) := by decide +kernel
theorem dX12_shotBy_31 : decode cX12_shotBy 31 = .ok (.iload_n 3, 1) := by decide +kernel
theorem dX12_shotBy_32 : decode cX12_shotBy 32 = .ok (.ishl, 1) := by decide +kernel
theorem dX12_shotBy_33 : decode cX12_shotBy 33 = .ok (.goto 4, 3) := by decide +kernel
theorem dX12_shotBy_36 : decode cX12_shotBy 36 = .ok (.iconst 0, 1) := by decide +kernel
theorem dX12_shotBy_37 : decode cX12_shotBy 37 = .ok (.ior, 1) := by decide +kernel
theorem dX12_shotBy_38 : decode cX12_shotBy 38 = .ok (.istore_n 2, 1) := by decide +kernel
theorem dX12_shotBy_39 : decode cX12_shotBy 39 = .ok (.iinc 3 1, 3) := by decide +kernel
theorem dX12_shotBy_42 : decode cX12_shotBy 42 = .ok (.goto (-38), 3) := by decide +kernel
theorem dX12_shotBy_45 : decode cX12_shotBy 45 = .ok (.iload_n 2, 1) := by decide +kernel
theorem dX12_shotBy_46 : decode cX12_shotBy 46 = .ok (.ireturn, 1) := by decide +kernel
theorem dX12_worthOf_0 : decode cX12_worthOf 0 = .ok (.iconst 0, 1) := by decide +kernel
theorem dX12_worthOf_1 : decode cX12_worthOf 1 = .ok (.istore_n 2, 1) := by decide +kernel
theorem dX12_worthOf_2 : decode cX12_worthOf 2 = .ok (.iconst 0, 1) := by decide +kernel
theorem dX12_worthOf_3 : decode cX12_worthOf 3 = .ok (.istore_n 3, 1) := by decide +kernel
theorem dX12_worthOf_4 : decode cX12_worthOf 4 = .ok (.iload_n 3, 1) := by decide +kernel
theorem dX12_worthOf_5 : decode cX12_worthOf 5 = .ok (.aload_n 0, 1) := by decide +kernel
theorem dX12_worthOf_6 : decode cX12_worthOf 6 = .ok (.getfield 20, 3) := by decide +kernel
theorem dX12_worthOf_9 : decode cX12_worthOf 9 = .ok (.iconst 4, 1) := by decide +kernel
theorem dX12_worthOf_10 : decode cX12_worthOf 10 = .ok (.iaload, 1) := by decide +kernel
theorem dX12_worthOf_11 : decode cX12_worthOf 11 = .ok (.if_icmp .ge 37, 3) := by decide +kernel
theorem dX12_worthOf_14 : decode cX12_worthOf 14 = .ok (.iload_n 2, 1) := by decide +kernel
theorem dX12_worthOf_15 : decode cX12_worthOf 15 = .ok (.iload_n 1, 1) := by decide +kernel
theorem dX12_worthOf_16 : decode cX12_worthOf 16 = .ok (.iload_n 3, 1) := by decide +kernel
theorem dX12_worthOf_17 : decode cX12_worthOf 17 = .ok (.invokestatic 236, 3) := by decide +kernel
theorem dX12_worthOf_20 : decode cX12_worthOf 20 = .ok (.ifCond .eq 19, 3) := by decide +kernel
theorem dX12_worthOf_23 : decode cX12_worthOf 23 = .ok (.aload_n 0, 1) := by decide +kernel
theorem dX12_worthOf_24 : decode cX12_worthOf 24 = .ok (.getfield 20, 3) := by decide +kernel
theorem dX12_worthOf_27 : decode cX12_worthOf 27 = .ok (.bipush 34, 2) := by decide +kernel
theorem dX12_worthOf_29 : decode cX12_worthOf 29 = .ok (.iconst 4, 1) := by decide +kernel
theorem dX12_worthOf_30 : decode cX12_worthOf 30 = .ok (.iload_n 3, 1) := by decide +kernel
theorem dX12_worthOf_31 : decode cX12_worthOf 31 = .ok (.imul, 1) := by decide +kernel
theorem dX12_worthOf_32 : decode cX12_worthOf 32 = .ok (.iadd, 1) := by decide +kernel
theorem dX12_worthOf_33 : decode cX12_worthOf 33 = .ok (.iconst 2, 1) := by decide +kernel
theorem dX12_worthOf_34 : decode cX12_worthOf 34 = .ok (.iadd, 1) := by decide +kernel
theorem dX12_worthOf_35 : decode cX12_worthOf 35 = .ok (.iaload, 1) := by decide +kernel
theorem dX12_worthOf_36 : decode cX12_worthOf 36 = .ok (.goto 4, 3) := by decide +kernel
theorem dX12_worthOf_39 : decode cX12_worthOf 39 = .ok (.iconst 0, 1) := by decide +kernel
theorem dX12_worthOf_40 : decode cX12_worthOf 40 = .ok (.iadd, 1) := by decide +kernel
theorem dX12_worthOf_41 : decode cX12_worthOf 41 = .ok (.istore_n 2, 1) := by decide +kernel
theorem dX12_worthOf_42 : decode cX12_worthOf 42 = .ok (.iinc 3 1, 3) := by decide +kernel
theorem dX12_worthOf_45 : decode cX12_worthOf 45 = .ok (.goto (-41), 3) := by decide +kernel
theorem dX12_worthOf_48 : decode cX12_worthOf 48 = .ok (.iload_n 2, 1) := by decide +kernel
theorem dX12_worthOf_49 : decode cX12_worthOf 49 = .ok (.ireturn, 1) := by decide +kernel
theorem dX12_menAt_0 : decode cX12_menAt 0 = .ok (.iconst 0, 1) := by decide +kernel
theorem dX12_menAt_1 : decode cX12_menAt 1 = .ok (.istore_n 2, 1) := by decide +kernel
theorem dX12_menAt_2 : decode cX12_menAt 2 = .ok (.iconst 0, 1) := by decide +kernel
theorem dX12_menAt_3 : decode cX12_menAt 3 = .ok (.istore_n 3, 1) := by decide +kernel
theorem dX12_menAt_4 : decode cX12_menAt 4 = .ok (.iload_n 3, 1) := by decide +kernel
theorem dX12_menAt_5 : decode cX12_menAt 5 = .ok (.aload_n 0, 1) := by decide +kernel
theorem dX12_menAt_6 : decode cX12_menAt 6 = .ok (.getfield 20, 3) := by decide +kernel
theorem dX12_menAt_9 : decode cX12_menAt 9 = .ok (.iconst 3, 1) := by decide +kernel
theorem dX12_menAt_10 : decode cX12_menAt 10 = .ok (.iaload, 1) := by decide +kernel
theorem dX12_menAt_11 : decode cX12_menAt 11 = .ok (.if_icmp .ge 32, 3) := by decide +kernel
theorem dX12_menAt_14 : decode cX12_menAt 14 = .ok (.iload_n 2, 1) := by decide +kernel
theorem dX12_menAt_15 : decode cX12_menAt 15 = .ok (.aload_n 0, 1) := by decide +kernel
theorem dX12_menAt_16 : decode cX12_menAt 16 = .ok (.getfield 32, 3) := by decide +kernel
theorem dX12_menAt_19 : decode cX12_menAt 19 = .ok (.bipush 8, 2) := by decide +kernel
theorem dX12_menAt_21 : decode cX12_menAt 21 = .ok (.iload_n 3, 1) := by decide +kernel
theorem dX12_menAt_22 : decode cX12_menAt 22 = .ok (.imul, 1) := by decide +kernel
theorem dX12_menAt_23 : decode cX12_menAt 23 = .ok (.iaload, 1) := by decide +kernel
theorem dX12_menAt_24 : decode cX12_menAt 24 = .ok (.iload_n 1, 1) := by decide +kernel
theorem dX12_menAt_25 : decode cX12_menAt 25 = .ok (.if_icmp .ne 9, 3) := by decide +kernel
theorem dX12_menAt_28 : decode cX12_menAt 28 = .ok (.iconst 1, 1) := by decide +kernel
theorem dX12_menAt_29 : decode cX12_menAt 29 = .ok (.iload_n 3, 1) := by decide +kernel
theorem dX12_menAt_30 : decode cX12_menAt 30 = .ok (.ishl, 1) := by decide +kernel
theorem dX12_menAt_31 : decode cX12_menAt 31 = .ok (.goto 4, 3) := by decide +kernel
theorem dX12_menAt_34 : decode cX12_menAt 34 = .ok (.iconst 0, 1) := by decide +kernel
theorem dX12_menAt_35 : decode cX12_menAt 35 = .ok (.ior, 1) := by decide +kernel
theorem dX12_menAt_36 : decode cX12_menAt 36 = .ok (.istore_n 2, 1) := by decide +kernel
theorem dX12_menAt_37 : decode cX12_menAt 37 = .ok (.iinc 3 1, 3) := by decide +kernel
theorem dX12_menAt_40 : decode cX12_menAt 40 = .ok (.goto (-36), 3) := by decide +kernel
theorem dX12_menAt_43 : decode cX12_menAt 43 = .ok (.iload_n 2, 1) := by decide +kernel
theorem dX12_menAt_44 : decode cX12_menAt 44 = .ok (.ireturn, 1) := by decide +kernel
theorem dX12_place_0 : decode cX12_place 0 = .ok (.aload_n 0, 1) := by decide +kernel
theorem dX12_place_1 : decode cX12_place 1 = .ok (.invokevirtual 167, 3) := by decide +kernel
theorem dX12_place_4 : decode cX12_place 4 = .ok (.aload_n 0, 1) := by decide +kernel
theorem dX12_place_5 : decode cX12_place 5 = .ok (.iload_n 1, 1) := by decide +kernel
theorem dX12_place_6 : decode cX12_place 6 = .ok (.invokevirtual 279, 3) := by decide +kernel
theorem dX12_place_9 : decode cX12_place 9 = .ok (.ifCond .eq 12, 3) := by decide +kernel
theorem dX12_place_12 : decode cX12_place 12 = .ok (.iload_n 2, 1) := by decide +kernel
theorem dX12_place_13 : decode cX12_place 13 = .ok (.iconst 0, 1) := by decide +kernel
theorem dX12_place_14 : decode cX12_place 14 = .ok (.iconst 5, 1) := by decide +kernel
theorem dX12_place_15 : decode cX12_place 15 = .ok (.invokestatic 146, 3) := by decide +kernel
theorem dX12_place_18 : decode cX12_place 18 = .ok (.ifCond .ne 9, 3) := by decide +kernel
theorem dX12_place_21 : decode cX12_place 21 = .ok (.aload_n 0, 1) := by decide +kernel
theorem dX12_place_22 : decode cX12_place 22 = .ok (.iconst 1, 1) := by decide +kernel
theorem dX12_place_23 : decode cX12_place 23 = .ok (.invokevirtual 170, 3) := by decide +kernel
theorem dX12_place_26 : decode cX12_place 26 = .ok (.ireturn, 1) := by decide +kernel
theorem dX12_place_27 : decode cX12_place 27 = .ok (.iload_n 2, 1) := by decide +kernel
theorem dX12_place_28 : decode cX12_place 28 = .ok (.tableswitch 80 0 4 #[36, 48, 58, 68, 74], 36) := by decide +kernel
theorem dX12_place_64 : decode cX12_place 64 = .ok (.aload_n 0, 1) := by decide +kernel
theorem dX12_place_65 : decode cX12_place 65 = .ok (.getfield 32, 3) := by decide +kernel
theorem dX12_place_68 : decode cX12_place 68 = .ok (.bipush 38, 2) := by decide +kernel
theorem dX12_place_70 : decode cX12_place 70 = .ok (.iaload, 1) := by decide +kernel
theorem dX12_place_71 : decode cX12_place 71 = .ok (.iload_n 1, 1) := by decide +kernel
theorem dX12_place_72 : decode cX12_place 72 = .ok (.ishr, 1) := by decide +kernel
theorem dX12_place_73 : decode cX12_place 73 = .ok (.iconst 1, 1) := by decide +kernel
theorem dX12_place_74 : decode cX12_place 74 = .ok (.iand, 1) := by decide +kernel
theorem dX12_place_75 : decode cX12_place 75 = .ok (.ireturn, 1) := by decide +kernel
theorem dX12_place_76 : decode cX12_place 76 = .ok (.aload_n 0, 1) := by decide +kernel
theorem dX12_place_77 : decode cX12_place 77 = .ok (.getfield 20, 3) := by decide +kernel
theorem dX12_place_80 : decode cX12_place 80 = .ok (.bipush 9, 2) := by decide +kernel
theorem dX12_place_82 : decode cX12_place 82 = .ok (.iload_n 1, 1) := by decide +kernel
theorem dX12_place_83 : decode cX12_place 83 = .ok (.iadd, 1) := by decide +kernel
theorem dX12_place_84 : decode cX12_place 84 = .ok (.iaload, 1) := by decide +kernel
theorem dX12_place_85 : decode cX12_place 85 = .ok (.ireturn, 1) := by decide +kernel
theorem dX12_place_86 : decode cX12_place 86 = .ok (.aload_n 0, 1) := by decide +kernel
theorem dX12_place_87 : decode cX12_place 87 = .ok (.getfield 20, 3) := by decide +kernel
theorem dX12_place_90 : decode cX12_place 90 = .ok (.bipush 23, 2) := by decide +kernel
theorem dX12_place_92 : decode cX12_place 92 = .ok (.iload_n 1, 1) := by decide +kernel
theorem dX12_place_93 : decode cX12_place 93 = .ok (.iadd, 1) := by decide +kernel
theorem dX12_place_94 : decode cX12_place 94 = .ok (.iaload, 1) := by decide +kernel
theorem dX12_place_95 : decode cX12_place 95 = .ok (.ireturn, 1) := by decide +kernel
theorem dX12_place_96 : decode cX12_place 96 = .ok (.aload_n 0, 1) := by decide +kernel
theorem dX12_place_97 : decode cX12_place 97 = .ok (.iload_n 1, 1) := by decide +kernel
theorem dX12_place_98 : decode cX12_place 98 = .ok (.invokevirtual 282, 3) := by decide +kernel
theorem dX12_place_101 : decode cX12_place 101 = .ok (.ireturn, 1) := by decide +kernel
theorem dX12_place_102 : decode cX12_place 102 = .ok (.aload_n 0, 1) := by decide +kernel
theorem dX12_place_103 : decode cX12_place 103 = .ok (.iload_n 1, 1) := by decide +kernel
theorem dX12_place_104 : decode cX12_place 104 = .ok (.invokevirtual 273, 3) := by decide +kernel
theorem dX12_place_107 : decode cX12_place 107 = .ok (.ireturn, 1) := by decide +kernel
theorem dX12_place_108 : decode cX12_place 108 = .ok (.aload_n 0, 1) := by decide +kernel
theorem dX12_place_109 : decode cX12_place 109 = .ok (.iload_n 1, 1) := by decide +kernel
theorem dX12_place_110 : decode cX12_place 110 = .ok (.invokevirtual 285, 3) := by decide +kernel
theorem dX12_place_113 : decode cX12_place 113 = .ok (.ifCond .eq 7, 3) := by decide +kernel
theorem dX12_place_116 : decode cX12_place 116 = .ok (.iconst 1, 1) := by decide +kernel
theorem dX12_place_117 : decode cX12_place 117 = .ok (.goto 4, 3) := by decide +kernel
theorem dX12_place_120 : decode cX12_place 120 = .ok (.iconst 0, 1) := by decide +kernel
theorem dX12_place_121 : decode cX12_place 121 = .ok (.ireturn, 1) := by decide +kernel
theorem dX12_man_0 : decode cX12_man 0 = .ok (.aload_n 0, 1) := by decide +kernel
theorem dX12_man_1 : decode cX12_man 1 = .ok (.invokevirtual 167, 3) := by decide +kernel
theorem dX12_man_4 : decode cX12_man 4 = .ok (.aload_n 0, 1) := by decide +kernel
theorem dX12_man_5 : decode cX12_man 5 = .ok (.iload_n 1, 1) := by decide +kernel
theorem dX12_man_6 : decode cX12_man 6 = .ok (.invokevirtual 288, 3) := by decide +kernel
theorem dX12_man_9 : decode cX12_man 9 = .ok (.ifCond .eq 12, 3) := by decide +kernel
theorem dX12_man_12 : decode cX12_man 12 = .ok (.iload_n 2, 1) := by decide +kernel
theorem dX12_man_13 : decode cX12_man 13 = .ok (.iconst 0, 1) := by decide +kernel
theorem dX12_man_14 : decode cX12_man 14 = .ok (.iconst 4, 1) := by decide +kernel
theorem dX12_man_15 : decode cX12_man 15 = .ok (.invokestatic 146, 3) := by decide +kernel
theorem dX12_man_18 : decode cX12_man 18 = .ok (.ifCond .ne 9, 3) := by decide +kernel
theorem dX12_man_21 : decode cX12_man 21 = .ok (.aload_n 0, 1) := by decide +kernel
theorem dX12_man_22 : decode cX12_man 22 = .ok (.iconst 1, 1) := by decide +kernel
theorem dX12_man_23 : decode cX12_man 23 = .ok (.invokevirtual 170, 3) := by decide +kernel
theorem dX12_man_26 : decode cX12_man 26 = .ok (.ireturn, 1) := by decide +kernel
theorem dX12_man_27 : decode cX12_man 27 = .ok (.iload_n 2, 1) := by decide +kernel
theorem dX12_man_28 : decode cX12_man 28 = .ok (.tableswitch 68 0 3 #[32, 42, 52, 58], 32) := by decide +kernel
theorem dX12_man_60 : decode cX12_man 60 = .ok (.aload_n 0, 1) := by decide +kernel
theorem dX12_man_61 : decode cX12_man 61 = .ok (.getfield 20, 3) := by decide +kernel
theorem dX12_man_64 : decode cX12_man 64 = .ok (.bipush 30, 2) := by decide +kernel
theorem dX12_man_66 : decode cX12_man 66 = .ok (.iload_n 1, 1) := by decide +kernel
theorem dX12_man_67 : decode cX12_man 67 = .ok (.iadd, 1) := by decide +kernel
theorem dX12_man_68 : decode cX12_man 68 = .ok (.iaload, 1) := by decide +kernel
theorem dX12_man_69 : decode cX12_man 69 = .ok (.ireturn, 1) := by decide +kernel
theorem dX12_man_70 : decode cX12_man 70 = .ok (.aload_n 0, 1) := by decide +kernel
theorem dX12_man_71 : decode cX12_man 71 = .ok (.getfield 32, 3) := by decide +kernel
theorem dX12_man_74 : decode cX12_man 74 = .ok (.bipush 8, 2) := by decide +kernel
theorem dX12_man_76 : decode cX12_man 76 = .ok (.iload_n 1, 1) := by decide +kernel
theorem dX12_man_77 : decode cX12_man 77 = .ok (.imul, 1) := by decide +kernel
theorem dX12_man_78 : decode cX12_man 78 = .ok (.iaload, 1) := by decide +kernel
theorem dX12_man_79 : decode cX12_man 79 = .ok (.ireturn, 1) := by decide +kernel
theorem dX12_man_80 : decode cX12_man 80 = .ok (.aload_n 0, 1) := by decide +kernel
theorem dX12_man_81 : decode cX12_man 81 = .ok (.iload_n 1, 1) := by decide +kernel
theorem dX12_man_82 : decode cX12_man 82 = .ok (.invokevirtual 291, 3) := by decide +kernel
theorem dX12_man_85 : decode cX12_man 85 = .ok (.ireturn, 1) := by decide +kernel
theorem dX12_man_86 : decode cX12_man 86 = .ok (.aload_n 0, 1) := by decide +kernel
theorem dX12_man_87 : decode cX12_man 87 = .ok (.aload_n 0, 1) := by decide +kernel
theorem dX12_man_88 : decode cX12_man 88 = .ok (.iload_n 1, 1) := by decide +kernel
theorem dX12_man_89 : decode cX12_man 89 = .ok (.invokevirtual 291, 3) := by decide +kernel
theorem dX12_man_92 : decode cX12_man 92 = .ok (.invokevirtual 294, 3) := by decide +kernel
theorem dX12_man_95 : decode cX12_man 95 = .ok (.ireturn, 1) := by decide +kernel
theorem dX12_man_96 : decode cX12_man 96 = .ok (.aload_n 0, 1) := by decide +kernel
theorem dX12_man_97 : decode cX12_man 97 = .ok (.iload_n 1, 1) := by decide +kernel
theorem dX12_man_98 : decode cX12_man 98 = .ok (.invokevirtual 297, 3) := by decide +kernel
theorem dX12_man_101 : decode cX12_man 101 = .ok (.ireturn, 1) := by decide +kernel
theorem dX12_kill_0 : decode cX12_kill 0 = .ok (.aload_n 0, 1) := by decide +kernel
theorem dX12_kill_1 : decode cX12_kill 1 = .ok (.invokevirtual 167, 3) := by decide +kernel
theorem dX12_kill_4 : decode cX12_kill 4 = .ok (.aload_n 0, 1) := by decide +kernel
theorem dX12_kill_5 : decode cX12_kill 5 = .ok (.iload_n 1, 1) := by decide +kernel
theorem dX12_kill_6 : decode cX12_kill 6 = .ok (.invokevirtual 300, 3) := by decide +kernel
theorem dX12_kill_9 : decode cX12_kill 9 = .ok (.ifCond .eq 12, 3) := by decide +kernel
theorem dX12_kill_12 : decode cX12_kill 12 = .ok (.iload_n 2, 1) := by decide +kernel
theorem dX12_kill_13 : decode cX12_kill 13 = .ok (.iconst 0, 1) := by decide +kernel
theorem dX12_kill_14 : decode cX12_kill 14 = .ok (.iconst 5, 1) := by decide +kernel
theorem dX12_kill_15 : decode cX12_kill 15 = .ok (.invokestatic 146, 3) := by decide +kernel
theorem dX12_kill_18 : decode cX12_kill 18 = .ok (.ifCond .ne 9, 3) := by decide +kernel
theorem dX12_kill_21 : decode cX12_kill 21 = .ok (.aload_n 0, 1) := by decide +kernel
theorem dX12_kill_22 : decode cX12_kill 22 = .ok (.iconst 1, 1) := by decide +kernel
theorem dX12_kill_23 : decode cX12_kill 23 = .ok (.invokevirtual 170, 3) := by decide +kernel
theorem dX12_kill_26 : decode cX12_kill 26 = .ok (.ireturn, 1) := by decide +kernel
theorem dX12_kill_27 : decode cX12_kill 27 = .ok (.iload_n 2, 1) := by decide +kernel
theorem dX12_kill_28 : decode cX12_kill 28 = .ok (.tableswitch 96 0 4 #[36, 48, 58, 72, 86], 36) := by decide +kernel
theorem dX12_kill_64 : decode cX12_kill 64 = .ok (.aload_n 0, 1) := by decide +kernel
theorem dX12_kill_65 : decode cX12_kill 65 = .ok (.getfield 20, 3) := by decide +kernel
theorem dX12_kill_68 : decode cX12_kill 68 = .ok (.bipush 34, 2) := by decide +kernel
theorem dX12_kill_70 : decode cX12_kill 70 = .ok (.iconst 4, 1) := by decide +kernel
theorem dX12_kill_71 : decode cX12_kill 71 = .ok (.iload_n 1, 1) := by decide +kernel
theorem dX12_kill_72 : decode cX12_kill 72 = .ok (.imul, 1) := by decide +kernel
theorem dX12_kill_73 : decode cX12_kill 73 = .ok (.iadd, 1) := by decide +kernel
theorem dX12_kill_74 : decode cX12_kill 74 = .ok (.iaload, 1) := by decide +kernel
theorem dX12_kill_75 : decode cX12_kill 75 = .ok (.ireturn, 1) := by decide +kernel
theorem dX12_kill_76 : decode cX12_kill 76 = .ok (.aload_n 0, 1) := by decide +kernel
theorem dX12_kill_77 : decode cX12_kill 77 = .ok (.getfield 32, 3) := by decide +kernel
theorem dX12_kill_80 : decode cX12_kill 80 = .ok (.bipush 32, 2) := by decide +kernel
theorem dX12_kill_82 : decode cX12_kill 82 = .ok (.iload_n 1, 1) := by decide +kernel
theorem dX12_kill_83 : decode cX12_kill 83 = .ok (.iadd, 1) := by decide +kernel
theorem dX12_kill_84 : decode cX12_kill 84 = .ok (.iaload, 1) := by decide +kernel
theorem dX12_kill_85 : decode cX12_kill 85 = .ok (.ireturn, 1) := by decide +kernel
theorem dX12_kill_86 : decode cX12_kill 86 = .ok (.aload_n 0, 1) := by decide +kernel
theorem dX12_kill_87 : decode cX12_kill 87 = .ok (.getfield 20, 3) := by decide +kernel
theorem dX12_kill_90 : decode cX12_kill 90 = .ok (.bipush 34, 2) := by decide +kernel
theorem dX12_kill_92 : decode cX12_kill 92 = .ok (.iconst 4, 1) := by decide +kernel
theorem dX12_kill_93 : decode cX12_kill 93 = .ok (.iload_n 1, 1) := by decide +kernel
theorem dX12_kill_94 : decode cX12_kill 94 = .ok (.imul, 1) := by decide +kernel
theorem dX12_kill_95 : decode cX12_kill 95 = .ok (.iadd, 1) := by decide +kernel
theorem dX12_kill_96 : decode cX12_kill 96 = .ok (.iconst 1, 1) := by decide +kernel
theorem dX12_kill_97 : decode cX12_kill 97 = .ok (.iadd, 1) := by decide +kernel
theorem dX12_kill_98 : decode cX12_kill 98 = .ok (.iaload, 1) := by decide +kernel
theorem dX12_kill_99 : decode cX12_kill 99 = .ok (.ireturn, 1) := by decide +kernel
theorem dX12_kill_100 : decode cX12_kill 100 = .ok (.aload_n 0, 1) := by decide +kernel
theorem dX12_kill_101 : decode cX12_kill 101 = .ok (.getfield 20, 3) := by decide +kernel
theorem dX12_kill_104 : decode cX12_kill 104 = .ok (.bipush 34, 2) := by decide +kernel
theorem dX12_kill_106 : decode cX12_kill 106 = .ok (.iconst 4, 1) := by decide +kernel
theorem dX12_kill_107 : decode cX12_kill 107 = .ok (.iload_n 1, 1) := by decide +kernel
theorem dX12_kill_108 : decode cX12_kill 108 = .ok (.imul, 1) := by decide +kernel
theorem dX12_kill_109 : decode cX12_kill 109 = .ok (.iadd, 1) := by decide +kernel
theorem dX12_kill_110 : decode cX12_kill 110 = .ok (.iconst 2, 1) := by decide +kernel
theorem dX12_kill_111 : decode cX12_kill 111 = .ok (.iadd, 1) := by decide +kernel
theorem dX12_kill_112 : decode cX12_kill 112 = .ok (.iaload, 1) := by decide +kernel
theorem dX12_kill_113 : decode cX12_kill 113 = .ok (.ireturn, 1) := by decide +kernel
theorem dX12_kill_114 : decode cX12_kill 114 = .ok (.aload_n 0, 1) := by decide +kernel
theorem dX12_kill_115 : decode cX12_kill 115 = .ok (.aload_n 0, 1) := by decide +kernel
theorem dX12_kill_116 : decode cX12_kill 116 = .ok (.getfield 32, 3) := by decide +kernel
theorem dX12_kill_119 : decode cX12_kill 119 = .ok (.iload_n 1, 1) := by decide +kernel
theorem dX12_kill_120 : decode cX12_kill 120 = .ok (.invokevirtual 269, 3) := by decide +kernel
theorem dX12_kill_123 : decode cX12_kill 123 = .ok (.ireturn, 1) := by decide +kernel
theorem dX12_kill_124 : decode cX12_kill 124 = .ok (.aload_n 0, 1) := by decide +kernel
theorem dX12_kill_125 : decode cX12_kill 125 = .ok (.aload_n 0, 1) := by decide +kernel
theorem dX12_kill_126 : decode cX12_kill 126 = .ok (.getfield 32, 3) := by decide +kernel
theorem dX12_kill_129 : decode cX12_kill 129 = .ok (.bipush 32, 2) := by decide +kernel
theorem dX12_kill_131 : decode cX12_kill 131 = .ok (.iload_n 1, 1) := by decide +kernel
theorem dX12_kill_132 : decode cX12_kill 132 = .ok (.iadd, 1) := by decide +kernel
theorem dX12_kill_133 : decode cX12_kill 133 = .ok (.iaload, 1) := by decide +kernel
theorem dX12_kill_134 : decode cX12_kill 134 = .ok (.aload_n 0, 1) := by decide +kernel
theorem dX12_kill_135 : decode cX12_kill 135 = .ok (.getfield 20, 3) := by decide +kernel
theorem dX12_kill_138 : decode cX12_kill 138 = .ok (.bipush 34, 2) := by decide +kernel
theorem dX12_kill_140 : decode cX12_kill 140 = .ok (.iconst 4, 1) := by decide +kernel
theorem dX12_kill_141 : decode cX12_kill 141 = .ok (.iload_n 1, 1) := by decide +kernel
theorem dX12_kill_142 : decode cX12_kill 142 = .ok (.imul, 1) := by decide +kernel
theorem dX12_kill_143 : decode cX12_kill 143 = .ok (.iadd, 1) := by decide +kernel
theorem dX12_kill_144 : decode cX12_kill 144 = .ok (.iconst 1, 1) := by decide +kernel
theorem dX12_kill_145 : decode cX12_kill 145 = .ok (.iadd, 1) := by decide +kernel
theorem dX12_kill_146 : decode cX12_kill 146 = .ok (.iaload, 1) := by decide +kernel
theorem dX12_kill_147 : decode cX12_kill 147 = .ok (.invokevirtual 262, 3) := by decide +kernel
theorem dX12_kill_150 : decode cX12_kill 150 = .ok (.ireturn, 1) := by decide +kernel
theorem dX12_why_0 : decode cX12_why 0 = .ok (.iload_n 1, 1) := by decide +kernel
theorem dX12_why_1 : decode cX12_why 1 = .ok (.ifCond .ne 7, 3) := by decide +kernel
theorem dX12_why_4 : decode cX12_why 4 = .ok (.iconst 1, 1) := by decide +kernel
theorem dX12_why_5 : decode cX12_why 5 = .ok (.goto 12, 3) := by decide +kernel
theorem dX12_why_8 : decode cX12_why 8 = .ok (.iload_n 2, 1) := by decide +kernel
theorem dX12_why_9 : decode cX12_why 9 = .ok (.ifCond .eq 7, 3) := by decide +kernel
theorem dX12_why_12 : decode cX12_why 12 = .ok (.iconst 0, 1) := by decide +kernel
theorem dX12_why_13 : decode cX12_why 13 = .ok (.goto 4, 3) := by decide +kernel
theorem dX12_why_16 : decode cX12_why 16 = .ok (.iconst 2, 1) := by decide +kernel
theorem dX12_why_17 : decode cX12_why 17 = .ok (.ireturn, 1) := by decide +kernel
theorem dX12_trail_0 : decode cX12_trail 0 = .ok (.aload_n 0, 1) := by decide +kernel
theorem dX12_trail_1 : decode cX12_trail 1 = .ok (.invokevirtual 167, 3) := by decide +kernel
theorem dX12_trail_4 : decode cX12_trail 4 = .ok (.aload_n 0, 1) := by decide +kernel
theorem dX12_trail_5 : decode cX12_trail 5 = .ok (.aload_n 0, 1) := by decide +kernel
theorem dX12_trail_6 : decode cX12_trail 6 = .ok (.iload_n 1, 1) := by decide +kernel
theorem dX12_trail_7 : decode cX12_trail 7 = .ok (.invokevirtual 288, 3) := by decide +kernel
theorem dX12_trail_10 : decode cX12_trail 10 = .ok (.iload_n 2, 1) := by decide +kernel
theorem dX12_trail_11 : decode cX12_trail 11 = .ok (.iconst 0, 1) := by decide +kernel
theorem dX12_trail_12 : decode cX12_trail 12 = .ok (.bipush 7, 2) := by decide +kernel
theorem dX12_trail_14 : decode cX12_trail 14 = .ok (.invokestatic 146, 3) := by decide +kernel
theorem dX12_trail_17 : decode cX12_trail 17 = .ok (.invokevirtual 303, 3) := by decide +kernel
theorem dX12_trail_20 : decode cX12_trail 20 = .ok (.istore_n 3, 1) := by decide +kernel
theorem dX12_trail_21 : decode cX12_trail 21 = .ok (.iload_n 3, 1) := by decide +kernel
theorem dX12_trail_22 : decode cX12_trail 22 = .ok (.ifCond .eq 11, 3) := by decide +kernel
theorem dX12_trail_25 : decode cX12_trail 25 = .ok (.aload_n 0, 1) := by decide +kernel
theorem dX12_trail_26 : decode cX12_trail 26 = .ok (.iload_n 3, 1) := by decide +kernel
theorem dX12_trail_27 : decode cX12_trail 27 = .ok (.invokevirtual 170, 3) := by decide +kernel
theorem dX12_trail_30 : decode cX12_trail 30 = .ok (.goto 14, 3) := by decide +kernel
theorem dX12_trail_33 : decode cX12_trail 33 = .ok (.aload_n 0, 1) := by decide +kernel
theorem dX12_trail_34 : decode cX12_trail 34 = .ok (.getfield 32, 3) := by decide +kernel
theorem dX12_trail_37 : decode cX12_trail 37 = .ok (.bipush 8, 2) := by decide +kernel
theorem dX12_trail_39 : decode cX12_trail 39 = .ok (.iload_n 1, 1) := by decide +kernel
theorem dX12_trail_40 : decode cX12_trail 40 = .ok (.imul, 1) := by decide +kernel
theorem dX12_trail_41 : decode cX12_trail 41 = .ok (.iload_n 2, 1) := by decide +kernel
theorem dX12_trail_42 : decode cX12_trail 42 = .ok (.iadd, 1) := by decide +kernel
theorem dX12_trail_43 : decode cX12_trail 43 = .ok (.iaload, 1) := by decide +kernel
theorem dX12_trail_44 : decode cX12_trail 44 = .ok (.ireturn, 1) := by decide +kernel
theorem dX12_crowded_0 : decode cX12_crowded 0 = .ok (.aload_n 0, 1) := by decide +kernel
theorem dX12_crowded_1 : decode cX12_crowded 1 = .ok (.invokevirtual 167, 3) := by decide +kernel
theorem dX12_crowded_4 : decode cX12_crowded 4 = .ok (.aload_n 0, 1) := by decide +kernel
theorem dX12_crowded_5 : decode cX12_crowded 5 = .ok (.getfield 180, 3) := by decide +kernel
theorem dX12_crowded_8 : decode cX12_crowded 8 = .ok (.ifCond .ne 9, 3) := by decide +kernel
theorem dX12_crowded_11 : decode cX12_crowded 11 = .ok (.aload_n 0, 1) := by decide +kernel
theorem dX12_crowded_12 : decode cX12_crowded 12 = .ok (.iconst 1, 1) := by decide +kernel
theorem dX12_crowded_13 : decode cX12_crowded 13 = .ok (.invokevirtual 170, 3) := by decide +kernel
theorem dX12_crowded_16 : decode cX12_crowded 16 = .ok (.ireturn, 1) := by decide +kernel
theorem dX12_crowded_17 : decode cX12_crowded 17 = .ok (.iconst 0, 1) := by decide +kernel
theorem dX12_crowded_18 : decode cX12_crowded 18 = .ok (.istore_n 1, 1) := by decide +kernel
theorem dX12_crowded_19 : decode cX12_crowded 19 = .ok (.iconst 0, 1) := by decide +kernel
theorem dX12_crowded_20 : decode cX12_crowded 20 = .ok (.istore_n 2, 1) := by decide +kernel
theorem dX12_crowded_21 : decode cX12_crowded 21 = .ok (.iload_n 2, 1) := by decide +kernel
theorem dX12_crowded_22 : decode cX12_crowded 22 = .ok (.aload_n 0, 1) := by decide +kernel
theorem dX12_crowded_23 : decode cX12_crowded 23 = .ok (.getfield 20, 3) := by decide +kernel
theorem dX12_crowded_26 : decode cX12_crowded 26 = .ok (.iconst 1, 1) := by decide +kernel
theorem dX12_crowded_27 : decode cX12_crowded 27 = .ok (.iaload, 1) := by decide +kernel
theorem dX12_crowded_28 : decode cX12_crowded 28 = .ok (.if_icmp .ge 27, 3) := by decide +kernel
theorem dX12_crowded_31 : decode cX12_crowded 31 = .ok (.iload_n 1, 1) := by decide +kernel
theorem dX12_crowded_32 : decode cX12_crowded 32 = .ok (.aload_n 0, 1) := by decide +kernel
theorem dX12_crowded_33 : decode cX12_crowded 33 = .ok (.iload_n 2, 1) := by decide +kernel
theorem dX12_crowded_34 : decode cX12_crowded 34 = .ok (.invokevirtual 285, 3) := by decide +kernel
theorem dX12_crowded_37 : decode cX12_crowded 37 = .ok (.ifCond .eq 9, 3) := by decide +kernel
theorem dX12_crowded_40 : decode cX12_crowded 40 = .ok (.iconst 1, 1) := by decide +kernel
theorem dX12_crowded_41 : decode cX12_crowded 41 = .ok (.iload_n 2, 1) := by decide +kernel
theorem dX12_crowded_42 : decode cX12_crowded 42 = .ok (.ishl, 1) := by decide +kernel
theorem dX12_crowded_43 : decode cX12_crowded 43 = .ok (.goto 4, 3) := by decide +kernel
theorem dX12_crowded_46 : decode cX12_crowded 46 = .ok (.iconst 0, 1) := by decide +kernel
theorem dX12_crowded_47 : decode cX12_crowded 47 = .ok (.ior, 1) := by decide +kernel
theorem dX12_crowded_48 : decode cX12_crowded 48 = .ok (.istore_n 1, 1) := by decide +kernel
theorem dX12_crowded_49 : decode cX12_crowded 49 = .ok (.iinc 2 1, 3) := by decide +kernel
theorem dX12_crowded_52 : decode cX12_crowded 52 = .ok (.goto (-31), 3) := by decide +kernel
theorem dX12_crowded_55 : decode cX12_crowded 55 = .ok (.iload_n 1, 1) := by decide +kernel
theorem dX12_crowded_56 : decode cX12_crowded 56 = .ok (.ireturn, 1) := by decide +kernel
theorem dX12_leader_0 : decode cX12_leader 0 = .ok (.aload_n 0, 1) := by decide +kernel
theorem dX12_leader_1 : decode cX12_leader 1 = .ok (.invokevirtual 167, 3) := by decide +kernel
theorem dX12_leader_4 : decode cX12_leader 4 = .ok (.aload_n 0, 1) := by decide +kernel
theorem dX12_leader_5 : decode cX12_leader 5 = .ok (.getfield 180, 3) := by decide +kernel
theorem dX12_leader_8 : decode cX12_leader 8 = .ok (.ifCond .ne 9, 3) := by decide +kernel
theorem dX12_leader_11 : decode cX12_leader 11 = .ok (.aload_n 0, 1) := by decide +kernel
theorem dX12_leader_12 : decode cX12_leader 12 = .ok (.iconst 1, 1) := by decide +kernel
theorem dX12_leader_13 : decode cX12_leader 13 = .ok (.invokevirtual 170, 3) := by decide +kernel
theorem dX12_leader_16 : decode cX12_leader 16 = .ok (.ireturn, 1) := by decide +kernel
theorem dX12_leader_17 : decode cX12_leader 17 = .ok (.bipush (-2), 2) := by decide +kernel
theorem dX12_leader_19 : decode cX12_leader 19 = .ok (.istore_n 1, 1) := by decide +kernel
theorem dX12_leader_20 : decode cX12_leader 20 = .ok (.iconst 0, 1) := by decide +kernel
theorem dX12_leader_21 : decode cX12_leader 21 = .ok (.istore_n 2, 1) := by decide +kernel
theorem dX12_leader_22 : decode cX12_leader 22 = .ok (.iload_n 2, 1) := by decide +kernel
theorem dX12_leader_23 : decode cX12_leader 23 = .ok (.aload_n 0, 1) := by decide +kernel
theorem dX12_leader_24 : decode cX12_leader 24 = .ok (.getfield 20, 3) := by decide +kernel
theorem dX12_leader_27 : decode cX12_leader 27 = .ok (.iconst 3, 1) := by decide +kernel
theorem dX12_leader_28 : decode cX12_leader 28 = .ok (.iaload, 1) := by decide +kernel
theorem dX12_leader_29 : decode cX12_leader 29 = .ok (.if_icmp .ge 34, 3) := by decide +kernel
theorem dX12_leader_32 : decode cX12_leader 32 = .ok (.iload_n 1, 1) := by decide +kernel
theorem dX12_leader_33 : decode cX12_leader 33 = .ok (.ifCond .lt 22, 3) := by decide +kernel
theorem dX12_leader_36 : decode cX12_leader 36 = .ok (.aload_n 0, 1) := by decide +kernel
theorem dX12_leader_37 : decode cX12_leader 37 = .ok (.iload_n 2, 1) := by decide +kernel
theorem dX12_leader_38 : decode cX12_leader 38 = .ok (.invokevirtual 291, 3) := by decide +kernel
theorem dX12_leader_41 : decode cX12_leader 41 = .ok (.invokestatic 276, 3) := by decide +kernel
theorem dX12_leader_44 : decode cX12_leader 44 = .ok (.aload_n 0, 1) := by decide +kernel
theorem dX12_leader_45 : decode cX12_leader 45 = .ok (.iload_n 1, 1) := by decide +kernel
theorem dX12_leader_46 : decode cX12_leader 46 = .ok (.invokevirtual 291, 3) := by decide +kernel
theorem dX12_leader_49 : decode cX12_leader 49 = .ok (.invokestatic 276, 3) := by decide +kernel
theorem dX12_leader_52 : decode cX12_leader 52 = .ok (.if_icmp .le 5, 3) := by decide +kernel
theorem dX12_leader_55 : decode cX12_leader 55 = .ok (.iload_n 2, 1) := by decide +kernel
theorem dX12_leader_56 : decode cX12_leader 56 = .ok (.istore_n 1, 1) := by decide +kernel
theorem dX12_leader_57 : decode cX12_leader 57 = .ok (.iinc 2 1, 3) := by decide +kernel
theorem dX12_leader_60 : decode cX12_leader 60 = .ok (.goto (-38), 3) := by decide +kernel
theorem dX12_leader_63 : decode cX12_leader 63 = .ok (.iload_n 1, 1) := by decide +kernel
theorem dX12_leader_64 : decode cX12_leader 64 = .ok (.ireturn, 1) := by decide +kernel
theorem dX12_near_0 : decode cX12_near 0 = .ok (.aload_n 0, 1) := by decide +kernel
theorem dX12_near_1 : decode cX12_near 1 = .ok (.invokevirtual 167, 3) := by decide +kernel
theorem dX12_near_4 : decode cX12_near 4 = .ok (.aload_n 0, 1) := by decide +kernel
theorem dX12_near_5 : decode cX12_near 5 = .ok (.iload_n 1, 1) := by decide +kernel
theorem dX12_near_6 : decode cX12_near 6 = .ok (.invokevirtual 288, 3) := by decide +kernel
theorem dX12_near_9 : decode cX12_near 9 = .ok (.ifCond .ne 9, 3) := by decide +kernel
theorem dX12_near_12 : decode cX12_near 12 = .ok (.aload_n 0, 1) := by decide +kernel
theorem dX12_near_13 : decode cX12_near 13 = .ok (.iconst 1, 1) := by decide +kernel
theorem dX12_near_14 : decode cX12_near 14 = .ok (.invokevirtual 170, 3) := by decide +kernel
theorem dX12_near_17 : decode cX12_near 17 = .ok (.ireturn, 1) := by decide +kernel
theorem dX12_near_18 : decode cX12_near 18 = .ok (.iconst 0, 1) := by decide +kernel
theorem dX12_near_19 : decode cX12_near 19 = .ok (.istore_n 2, 1) := by decide +kernel
theorem dX12_near_20 : decode cX12_near 20 = .ok (.aload_n 0, 1) := by decide +kernel
theorem dX12_near_21 : decode cX12_near 21 = .ok (.getfield 20, 3) := by decide +kernel
theorem dX12_near_24 : decode cX12_near 24 = .ok (.bipush 23, 2) := by decide +kernel
theorem dX12_near_26 : decode cX12_near 26 = .ok (.aload_n 0, 1) := by decide +kernel
theorem dX12_near_27 : decode cX12_near 27 = .ok (.getfield 32, 3) := by decide +kernel
theorem dX12_near_30 : decode cX12_near 30 = .ok (.bipush 8, 2) := by decide +kernel
theorem dX12_near_32 : decode cX12_near 32 = .ok (.iload_n 1, 1) := by decide +kernel
theorem dX12_near_33 : decode cX12_near 33 = .ok (.imul, 1) := by decide +kernel
theorem dX12_near_34 : decode cX12_near 34 = .ok (.iaload, 1) := by decide +kernel
theorem dX12_near_35 : decode cX12_near 35 = .ok (.iadd, 1) := by decide +kernel
theorem dX12_near_36 : decode cX12_near 36 = .ok (.iaload, 1) := by decide +kernel
theorem dX12_near_37 : decode cX12_near 37 = .ok (.iconst 1, 1) := by decide +kernel
theorem dX12_near_38 : decode cX12_near 38 = .ok (.aload_n 0, 1) := by decide +kernel
theorem dX12_near_39 : decode cX12_near 39 = .ok (.getfield 32, 3) := by decide +kernel
theorem dX12_near_42 : decode cX12_near 42 = .ok (.bipush 8, 2) := by decide +kernel
theorem dX12_near_44 : decode cX12_near 44 = .ok (.iload_n 1, 1) := by decide +kernel
theorem dX12_near_45 : decode cX12_near 45 = .ok (.imul, 1) := by decide +kernel
theorem dX12_near_46 : decode cX12_near 46 = .ok (.iaload, 1) := by decide +kernel
theorem dX12_near_47 : decode cX12_near 47 = .ok (.ishl, 1) := by decide +kernel
theorem dX12_near_48 : decode cX12_near 48 = .ok (.ior, 1) := by decide +kernel
theorem dX12_near_49 : decode cX12_near 49 = .ok (.istore_n 3, 1) := by decide +kernel
theorem dX12_near_50 : decode cX12_near 50 = .ok (.iconst 0, 1) := by decide +kernel
theorem dX12_near_51 : decode cX12_near 51 = .ok (.istore 4, 2) := by decide +kernel
theorem dX12_near_53 : decode cX12_near 53 = .ok (.iload 4, 2) := by decide +kernel
theorem dX12_near_55 : decode cX12_near 55 = .ok (.aload_n 0, 1) := by decide +kernel
theorem dX12_near_56 : decode cX12_near 56 = .ok (.getfield 20, 3) := by decide +kernel
theorem dX12_near_59 : decode cX12_near 59 = .ok (.iconst 1, 1) := by decide +kernel
theorem dX12_near_60 : decode cX12_near 60 = .ok (.iaload, 1) := by decide +kernel
theorem dX12_near_61 : decode cX12_near 61 = .ok (.if_icmp .ge 31, 3) := by decide +kernel
theorem dX12_near_64 : decode cX12_near 64 = .ok (.iload_n 2, 1) := by decide +kernel
theorem dX12_near_65 : decode cX12_near 65 = .ok (.iload_n 3, 1) := by decide +kernel
theorem dX12_near_66 : decode cX12_near 66 = .ok (.iload 4, 2) := by decide +kernel
theorem dX12_near_68 : decode cX12_near 68 = .ok (.invokestatic 236, 3) := by decide +kernel
theorem dX12_near_71 : decode cX12_near 71 = .ok (.ifCond .eq 12, 3) := by decide +kernel
theorem dX12_near_74 : decode cX12_near 74 = .ok (.aload_n 0, 1) := by decide +kernel
theorem dX12_near_75 : decode cX12_near 75 = .ok (.iload 4, 2) := by decide +kernel
theorem dX12_near_77 : decode cX12_near 77 = .ok (.invokevirtual 273, 3) := by decide +kernel
theorem dX12_near_80 : decode cX12_near 80 = .ok (.goto 4, 3) := by decide +kernel
theorem dX12_near_83 : decode cX12_near 83 = .ok (.iconst 0, 1) := by decide +kernel
theorem dX12_near_84 : decode cX12_near 84 = .ok (.ior, 1) := by decide +kernel
theorem dX12_near_85 : decode cX12_near 85 = .ok (.istore_n 2, 1) := by decide +kernel
theorem dX12_near_86 : decode cX12_near 86 = .ok (.iinc 4 1, 3) := by decide +kernel
theorem dX12_near_89 : decode cX12_near 89 = .ok (.goto (-36), 3) := by decide +kernel
theorem dX12_near_92 : decode cX12_near 92 = .ok (.iload_n 2, 1) := by decide +kernel
theorem dX12_near_93 : decode cX12_near 93 = .ok (.ireturn, 1) := by decide +kernel
theorem dX12_room_0 : decode cX12_room 0 = .ok (.aload_n 0, 1) := by decide +kernel
theorem dX12_room_1 : decode cX12_room 1 = .ok (.invokevirtual 167, 3) := by decide +kernel
theorem dX12_room_4 : decode cX12_room 4 = .ok (.aload_n 0, 1) := by decide +kernel
theorem dX12_room_5 : decode cX12_room 5 = .ok (.getfield 180, 3) := by decide +kernel
theorem dX12_room_8 : decode cX12_room 8 = .ok (.ifCond .ne 9, 3) := by decide +kernel
theorem dX12_room_11 : decode cX12_room 11 = .ok (.aload_n 0, 1) := by decide +kernel
theorem dX12_room_12 : decode cX12_room 12 = .ok (.iconst 1, 1) := by decide +kernel
theorem dX12_room_13 : decode cX12_room 13 = .ok (.invokevirtual 170, 3) := by decide +kernel
theorem dX12_room_16 : decode cX12_room 16 = .ok (.ireturn, 1) := by decide +kernel
theorem dX12_room_17 : decode cX12_room 17 = .ok (.iconst 0, 1) := by decide +kernel
theorem dX12_room_18 : decode cX12_room 18 = .ok (.istore_n 1, 1) := by decide +kernel
theorem dX12_room_19 : decode cX12_room 19 = .ok (.iconst 0, 1) := by decide +kernel
theorem dX12_room_20 : decode cX12_room 20 = .ok (.istore_n 2, 1) := by decide +kernel
theorem dX12_room_21 : decode cX12_room 21 = .ok (.iload_n 2, 1) := by decide +kernel
theorem dX12_room_22 : decode cX12_room 22 = .ok (.aload_n 0, 1) := by decide +kernel
theorem dX12_room_23 : decode cX12_room 23 = .ok (.getfield 20, 3) := by decide +kernel
theorem dX12_room_26 : decode cX12_room 26 = .ok (.iconst 1, 1) := by decide +kernel
theorem dX12_room_27 : decode cX12_room 27 = .ok (.iaload, 1) := by decide +kernel
theorem dX12_room_28 : decode cX12_room 28 = .ok (.if_icmp .ge 56, 3) := by decide +kernel
theorem dX12_room_31 : decode cX12_room 31 = .ok (.iload_n 1, 1) := by decide +kernel
theorem dX12_room_32 : decode cX12_room 32 = .ok (.aload_n 0, 1) := by decide +kernel
theorem dX12_room_33 : decode cX12_room 33 = .ok (.getfield 32, 3) := by decide +kernel
theorem dX12_room_36 : decode cX12_room 36 = .ok (.bipush 38, 2) := by decide +kernel
theorem dX12_room_38 : decode cX12_room 38 = .ok (.iaload, 1) := by decide +kernel
theorem dX12_room_39 : decode cX12_room 39 = .ok (.iload_n 2, 1) := by decide +kernel
theorem dX12_room_40 : decode cX12_room 40 = .ok (.invokestatic 236, 3) := by decide +kernel
theorem dX12_room_43 : decode cX12_room 43 = .ok (.ifCond .ne 11, 3) := by decide +kernel
theorem dX12_room_46 : decode cX12_room 46 = .ok (.aload_n 0, 1) := by decide +kernel
theorem dX12_room_47 : decode cX12_room 47 = .ok (.iload_n 2, 1) := by decide +kernel
theorem dX12_room_48 : decode cX12_room 48 = .ok (.invokevirtual 285, 3) := by decide +kernel
theorem dX12_room_51 : decode cX12_room 51 = .ok (.ifCond .eq 7, 3) := by decide +kernel
theorem dX12_room_54 : decode cX12_room 54 = .ok (.iconst 0, 1) := by decide +kernel
theorem dX12_room_55 : decode cX12_room 55 = .ok (.goto 21, 3) := by decide +kernel
theorem dX12_room_58 : decode cX12_room 58 = .ok (.aload_n 0, 1) := by decide +kernel
theorem dX12_room_59 : decode cX12_room 59 = .ok (.getfield 20, 3) := by decide +kernel
theorem dX12_room_62 : decode cX12_room 62 = .ok (.bipush 9, 2) := by decide +kernel
theorem dX12_room_64 : decode cX12_room 64 = .ok (.iload_n 2, 1) := by decide +kernel
theorem dX12_room_65 : decode cX12_room 65 = .ok (.iadd, 1) := by decide +kernel
theorem dX12_room_66 : decode cX12_room 66 = .ok (.iaload, 1) := by decide +kernel
theorem dX12_room_67 : decode cX12_room 67 = .ok (.aload_n 0, 1) := by decide +kernel
theorem dX12_room_68 : decode cX12_room 68 = .ok (.iload_n 2, 1) := by decide +kernel
theorem dX12_room_69 : decode cX12_room 69 = .ok (.invokevirtual 273, 3) := by decide +kernel
theorem dX12_room_72 : decode cX12_room 72 = .ok (.invokestatic 276, 3) := by decide +kernel
theorem dX12_room_75 : decode cX12_room 75 = .ok (.isub, 1) := by decide +kernel
theorem dX12_room_76 : decode cX12_room 76 = .ok (.iadd, 1) := by decide +kernel
theorem dX12_room_77 : decode cX12_room 77 = .ok (.istore_n 1, 1) := by decide +kernel
theorem dX12_room_78 : decode cX12_room 78 = .ok (.iinc 2 1, 3) := by decide +kernel
theorem dX12_room_81 : decode cX12_room 81 = .ok (.goto (-60), 3) := by decide +kernel
theorem dX12_room_84 : decode cX12_room 84 = .ok (.iload_n 1, 1) := by decide +kernel
theorem dX12_room_85 : decode cX12_room 85 = .ok (.ireturn, 1) := by decide +kernel
theorem dX12_spread_0 : decode cX12_spread 0 = .ok (.iload_n 1, 1) := by decide +kernel
theorem dX12_spread_1 : decode cX12_spread 1 = .ok (.istore_n 3, 1) := by decide +kernel
theorem dX12_spread_2 : decode cX12_spread 2 = .ok (.iconst 0, 1) := by decide +kernel
theorem dX12_spread_3 : decode cX12_spread 3 = .ok (.istore 4, 2) := by decide +kernel
theorem dX12_spread_5 : decode cX12_spread 5 = .ok (.iload 4, 2) := by decide +kernel
theorem dX12_spread_7 : decode cX12_spread 7 = .ok (.aload_n 0, 1) := by decide +kernel
theorem dX12_spread_8 : decode cX12_spread 8 = .ok (.getfield 20, 3) := by decide +kernel
theorem dX12_spread_11 : decode cX12_spread 11 = .ok (.iconst 1, 1) := by decide +kernel
theorem dX12_spread_12 : decode cX12_spread 12 = .ok (.iaload, 1) := by decide +kernel
theorem dX12_spread_13 : decode cX12_spread 13 = .ok (.if_icmp .ge 39, 3) := by decide +kernel
theorem dX12_spread_16 : decode cX12_spread 16 = .ok (.iload_n 3, 1) := by decide +kernel
theorem dX12_spread_17 : decode cX12_spread 17 = .ok (.iload_n 1, 1) := by decide +kernel
theorem dX12_spread_18 : decode cX12_spread 18 = .ok (.iload 4, 2) := by decide +kernel
theorem dX12_spread_20 : decode cX12_spread 20 = .ok (.invokestatic 236, 3) := by decide +kernel
theorem dX12_spread_23 : decode cX12_spread 23 = .ok (.ifCond .eq 20, 3) := by decide +kernel
theorem dX12_spread_26 : decode cX12_spread 26 = .ok (.aload_n 0, 1) := by decide +kernel
theorem dX12_spread_27 : decode cX12_spread 27 = .ok (.getfield 20, 3) := by decide +kernel
theorem dX12_spread_30 : decode cX12_spread 30 = .ok (.bipush 23, 2) := by decide +kernel
theorem dX12_spread_32 : decode cX12_spread 32 = .ok (.iload 4, 2) := by decide +kernel
theorem dX12_spread_34 : decode cX12_spread 34 = .ok (.iadd, 1) := by decide +kernel
theorem dX12_spread_35 : decode cX12_spread 35 = .ok (.iaload, 1) := by decide +kernel
theorem dX12_spread_36 : decode cX12_spread 36 = .ok (.iload_n 2, 1) := by decide +kernel
theorem dX12_spread_37 : decode cX12_spread 37 = .ok (.iconst (-1), 1) := by decide +kernel
theorem dX12_spread_38 : decode cX12_spread 38 = .ok (.ixor, 1) := by decide +kernel
theorem dX12_spread_39 : decode cX12_spread 39 = .ok (.iand, 1) := by decide +kernel
theorem dX12_spread_40 : decode cX12_spread 40 = .ok (.goto 4, 3) := by decide +kernel
theorem dX12_spread_43 : decode cX12_spread 43 = .ok (.iconst 0, 1) := by decide +kernel
theorem dX12_spread_44 : decode cX12_spread 44 = .ok (.ior, 1) := by decide +kernel
theorem dX12_spread_45 : decode cX12_spread 45 = .ok (.istore_n 3, 1) := by decide +kernel
theorem dX12_spread_46 : decode cX12_spread 46 = .ok (.iinc 4 1, 3) := by decide +kernel
theorem dX12_spread_49 : decode cX12_spread 49 = .ok (.goto (-44), 3) := by decide +kernel
theorem dX12_spread_52 : decode cX12_spread 52 = .ok (.iload_n 3, 1) := by decide +kernel
theorem dX12_spread_53 : decode cX12_spread 53 = .ok (.ireturn, 1) := by decide +kernel
theorem dX12_stepsTo_0 : decode cX12_stepsTo 0 = .ok (.iconst 1, 1) := by decide +kernel
theorem dX12_stepsTo_1 : decode cX12_stepsTo 1 = .ok (.iload_n 1, 1) := by decide +kernel
theorem dX12_stepsTo_2 : decode cX12_stepsTo 2 = .ok (.ishl, 1) := by decide +kernel
theorem dX12_stepsTo_3 : decode cX12_stepsTo 3 = .ok (.istore 4, 2) := by decide +kernel
theorem dX12_stepsTo_5 : decode cX12_stepsTo 5 = .ok (.iconst 0, 1) := by decide +kernel
theorem dX12_stepsTo_6 : decode cX12_stepsTo 6 = .ok (.istore 5, 2) := by decide +kernel
theorem dX12_stepsTo_8 : decode cX12_stepsTo 8 = .ok (.iload 5, 2) := by decide +kernel
theorem dX12_stepsTo_10 : decode cX12_stepsTo 10 = .ok (.bipush 7, 2) := by decide +kernel
theorem dX12_stepsTo_12 : decode cX12_stepsTo 12 = .ok (.if_icmp .gt 30, 3) := by decide +kernel
theorem dX12_stepsTo_15 : decode cX12_stepsTo 15 = .ok (.iload 4, 2) := by decide +kernel
theorem dX12_stepsTo_17 : decode cX12_stepsTo 17 = .ok (.iload_n 2, 1) := by decide +kernel
theorem dX12_stepsTo_18 : decode cX12_stepsTo 18 = .ok (.invokestatic 236, 3) := by decide +kernel
theorem dX12_stepsTo_21 : decode cX12_stepsTo 21 = .ok (.ifCond .eq 6, 3) := by decide +kernel
theorem dX12_stepsTo_24 : decode cX12_stepsTo 24 = .ok (.iload 5, 2) := by decide +kernel
theorem dX12_stepsTo_26 : decode cX12_stepsTo 26 = .ok (.ireturn, 1) := by decide +kernel
theorem dX12_stepsTo_27 : decode cX12_stepsTo 27 = .ok (.aload_n 0, 1) := by decide +kernel
theorem dX12_stepsTo_28 : decode cX12_stepsTo 28 = .ok (.iload 4, 2) := by decide +kernel
theorem dX12_stepsTo_30 : decode cX12_stepsTo 30 = .ok (.iload_n 3, 1) := by decide +kernel
theorem dX12_stepsTo_31 : decode cX12_stepsTo 31 = .ok (.invokevirtual 307, 3) := by decide +kernel
theorem dX12_stepsTo_34 : decode cX12_stepsTo 34 = .ok (.istore 4, 2) := by decide +kernel
theorem dX12_stepsTo_36 : decode cX12_stepsTo 36 = .ok (.iinc 5 1, 3) := by decide +kernel
theorem dX12_stepsTo_39 : decode cX12_stepsTo 39 = .ok (.goto (-31), 3) := by decide +kernel
theorem dX12_stepsTo_42 : decode cX12_stepsTo 42 = .ok (.bipush (-2), 2) := by decide +kernel
theorem dX12_stepsTo_44 : decode cX12_stepsTo 44 = .ok (.ireturn, 1) := by decide +kernel
theorem dX12_reachOf_0 : decode cX12_reachOf 0 = .ok (.iconst 1, 1) := by decide +kernel
theorem dX12_reachOf_1 : decode cX12_reachOf 1 = .ok (.iload_n 1, 1) := by decide +kernel
theorem dX12_reachOf_2 : decode cX12_reachOf 2 = .ok (.ishl, 1) := by decide +kernel
theorem dX12_reachOf_3 : decode cX12_reachOf 3 = .ok (.istore_n 3, 1) := by decide +kernel
theorem dX12_reachOf_4 : decode cX12_reachOf 4 = .ok (.iconst 0, 1) := by decide +kernel
theorem dX12_reachOf_5 : decode cX12_reachOf 5 = .ok (.istore 4, 2) := by decide +kernel
theorem dX12_reachOf_7 : decode cX12_reachOf 7 = .ok (.iload 4, 2) := by decide +kernel
theorem dX12_reachOf_9 : decode cX12_reachOf 9 = .ok (.bipush 7, 2) := by decide +kernel
theorem dX12_reachOf_11 : decode cX12_reachOf 11 = .ok (.if_icmp .ge 16, 3) := by decide +kernel
theorem dX12_reachOf_14 : decode cX12_reachOf 14 = .ok (.aload_n 0, 1) := by decide +kernel
theorem dX12_reachOf_15 : decode cX12_reachOf 15 = .ok (.iload_n 3, 1) := by decide +kernel
theorem dX12_reachOf_16 : decode cX12_reachOf 16 = .ok (.iload_n 2, 1) := by decide +kernel
theorem dX12_reachOf_17 : decode cX12_reachOf 17 = .ok (.invokevirtual 307, 3) := by decide +kernel
theorem dX12_reachOf_20 : decode cX12_reachOf 20 = .ok (.istore_n 3, 1) := by decide +kernel
theorem dX12_reachOf_21 : decode cX12_reachOf 21 = .ok (.iinc 4 1, 3) := by decide +kernel
theorem dX12_reachOf_24 : decode cX12_reachOf 24 = .ok (.goto (-17), 3) := by decide +kernel
theorem dX12_reachOf_27 : decode cX12_reachOf 27 = .ok (.iload_n 3, 1) := by decide +kernel
theorem dX12_reachOf_28 : decode cX12_reachOf 28 = .ok (.ireturn, 1) := by decide +kernel
theorem dX12_apart_0 : decode cX12_apart 0 = .ok (.aload_n 0, 1) := by decide +kernel
theorem dX12_apart_1 : decode cX12_apart 1 = .ok (.invokevirtual 167, 3) := by decide +kernel
theorem dX12_apart_4 : decode cX12_apart 4 = .ok (.aload_n 0, 1) := by decide +kernel
theorem dX12_apart_5 : decode cX12_apart 5 = .ok (.iload_n 1, 1) := by decide +kernel
theorem dX12_apart_6 : decode cX12_apart 6 = .ok (.invokevirtual 279, 3) := by decide +kernel
theorem dX12_apart_9 : decode cX12_apart 9 = .ok (.ifCond .eq 21, 3) := by decide +kernel
theorem dX12_apart_12 : decode cX12_apart 12 = .ok (.aload_n 0, 1) := by decide +kernel
theorem dX12_apart_13 : decode cX12_apart 13 = .ok (.iload_n 2, 1) := by decide +kernel
theorem dX12_apart_14 : decode cX12_apart 14 = .ok (.invokevirtual 279, 3) := by decide +kernel
theorem dX12_apart_17 : decode cX12_apart 17 = .ok (.ifCond .eq 13, 3) := by decide +kernel
theorem dX12_apart_20 : decode cX12_apart 20 = .ok (.aload_n 0, 1) := by decide +kernel
theorem dX12_apart_21 : decode cX12_apart 21 = .ok (.iload_n 1, 1) := by decide +kernel
theorem dX12_apart_22 : decode cX12_apart 22 = .ok (.iload_n 2, 1) := by decide +kernel
theorem dX12_apart_23 : decode cX12_apart 23 = .ok (.iconst 0, 1) := by decide +kernel
theorem dX12_apart_24 : decode cX12_apart 24 = .ok (.invokevirtual 310, 3) := by decide +kernel
theorem dX12_apart_27 : decode cX12_apart 27 = .ok (.goto 8, 3) := by decide +kernel
theorem dX12_apart_30 : decode cX12_apart 30 = .ok (.aload_n 0, 1) := by decide +kernel
theorem dX12_apart_31 : decode cX12_apart 31 = .ok (.iconst 1, 1) := by decide +kernel
theorem dX12_apart_32 : decode cX12_apart 32 = .ok (.invokevirtual 170, 3) := by decide +kernel
theorem dX12_apart_35 : decode cX12_apart 35 = .ok (.ireturn, 1) := by decide +kernel
theorem dX12_next_0 : decode cX12_next 0 = .ok (.aload_n 0, 1) := by decide +kernel
theorem dX12_next_1 : decode cX12_next 1 = .ok (.invokevirtual 167, 3) := by decide +kernel
theorem dX12_next_4 : decode cX12_next 4 = .ok (.aload_n 0, 1) := by decide +kernel
theorem dX12_next_5 : decode cX12_next 5 = .ok (.iload_n 1, 1) := by decide +kernel
theorem dX12_next_6 : decode cX12_next 6 = .ok (.invokevirtual 288, 3) := by decide +kernel
theorem dX12_next_9 : decode cX12_next 9 = .ok (.ifCond .eq 11, 3) := by decide +kernel
theorem dX12_next_12 : decode cX12_next 12 = .ok (.aload_n 0, 1) := by decide +kernel
theorem dX12_next_13 : decode cX12_next 13 = .ok (.iload_n 2, 1) := by decide +kernel
theorem dX12_next_14 : decode cX12_next 14 = .ok (.invokevirtual 279, 3) := by decide +kernel
theorem dX12_next_17 : decode cX12_next 17 = .ok (.ifCond .ne 9, 3) := by decide +kernel
theorem dX12_next_20 : decode cX12_next 20 = .ok (.aload_n 0, 1) := by decide +kernel
theorem dX12_next_21 : decode cX12_next 21 = .ok (.iconst 1, 1) := by decide +kernel
theorem dX12_next_22 : decode cX12_next 22 = .ok (.invokevirtual 170, 3) := by decide +kernel
theorem dX12_next_25 : decode cX12_next 25 = .ok (.ireturn, 1) := by decide +kernel
theorem dX12_next_26 : decode cX12_next 26 = .ok (.aload_n 0, 1) := by decide +kernel
theorem dX12_next_27 : decode cX12_next 27 = .ok (.getfield 32, 3) := by decide +kernel
theorem dX12_next_30 : decode cX12_next 30 = .ok (.bipush 8, 2) := by decide +kernel
theorem dX12_next_32 : decode cX12_next 32 = .ok (.iload_n 1, 1) := by decide +kernel
theorem dX12_next_33 : decode cX12_next 33 = .ok (.imul, 1) := by decide +kernel
theorem dX12_next_34 : decode cX12_next 34 = .ok (.iaload, 1) := by decide +kernel
theorem dX12_next_35 : decode cX12_next 35 = .ok (.istore_n 3, 1) := by decide +kernel
theorem dX12_next_36 : decode cX12_next 36 = .ok (.aload_n 0, 1) := by decide +kernel
theorem dX12_next_37 : decode cX12_next 37 = .ok (.iload_n 3, 1) := by decide +kernel
theorem dX12_next_38 : decode cX12_next 38 = .ok (.iload_n 2, 1) := by decide +kernel
theorem dX12_next_39 : decode cX12_next 39 = .ok (.iconst 0, 1) := by decide +kernel
theorem dX12_next_40 : decode cX12_next 40 = .ok (.invokevirtual 310, 3) := by decide +kernel
theorem dX12_next_43 : decode cX12_next 43 = .ok (.istore 4, 2) := by decide +kernel
theorem dX12_next_45 : decode cX12_next 45 = .ok (.iconst 0, 1) := by decide +kernel
theorem dX12_next_46 : decode cX12_next 46 = .ok (.istore 5, 2) := by decide +kernel
theorem dX12_next_48 : decode cX12_next 48 = .ok (.iload 5, 2) := by decide +kernel
theorem dX12_next_50 : decode cX12_next 50 = .ok (.aload_n 0, 1) := by decide +kernel
theorem dX12_next_51 : decode cX12_next 51 = .ok (.getfield 20, 3) := by decide +kernel
theorem dX12_next_54 : decode cX12_next 54 = .ok (.iconst 1, 1) := by decide +kernel
theorem dX12_next_55 : decode cX12_next 55 = .ok (.iaload, 1) := by decide +kernel
theorem dX12_next_56 : decode cX12_next 56 = .ok (.if_icmp .ge 49, 3) := by decide +kernel
theorem dX12_next_59 : decode cX12_next 59 = .ok (.iload 4, 2) := by decide +kernel
theorem dX12_next_61 : decode cX12_next 61 = .ok (.ifCond .le 38, 3) := by decide +kernel
theorem dX12_next_64 : decode cX12_next 64 = .ok (.aload_n 0, 1) := by decide +kernel
theorem dX12_next_65 : decode cX12_next 65 = .ok (.getfield 20, 3) := by decide +kernel
theorem dX12_next_68 : decode cX12_next 68 = .ok (.bipush 23, 2) := by decide +kernel
theorem dX12_next_70 : decode cX12_next 70 = .ok (.iload_n 3, 1) := by decide +kernel
theorem dX12_next_71 : decode cX12_next 71 = .ok (.iadd, 1) := by decide +kernel
theorem dX12_next_72 : decode cX12_next 72 = .ok (.iaload, 1) := by decide +kernel
theorem dX12_next_73 : decode cX12_next 73 = .ok (.iload 5, 2) := by decide +kernel
theorem dX12_next_75 : decode cX12_next 75 = .ok (.invokestatic 236, 3) := by decide +kernel
theorem dX12_next_78 : decode cX12_next 78 = .ok (.ifCond .eq 21, 3) := by decide +kernel
theorem dX12_next_81 : decode cX12_next 81 = .ok (.aload_n 0, 1) := by decide +kernel
theorem dX12_next_82 : decode cX12_next 82 = .ok (.iload 5, 2) := by decide +kernel
theorem dX12_next_84 : decode cX12_next 84 = .ok (.iload_n 2, 1) := by decide +kernel
theorem dX12_next_85 : decode cX12_next 85 = .ok (.iconst 0, 1) := by decide +kernel
theorem dX12_next_86 : decode cX12_next 86 = .ok (.invokevirtual 310, 3) := by decide +kernel
theorem dX12_next_89 : decode cX12_next 89 = .ok (.iload 4, 2) := by decide +kernel
theorem dX12_next_91 : decode cX12_next 91 = .ok (.iconst 1, 1) := by decide +kernel
theorem dX12_next_92 : decode cX12_next 92 = .ok (.isub, 1) := by decide +kernel
theorem dX12_next_93 : decode cX12_next 93 = .ok (.if_icmp .ne 6, 3) := by decide +kernel
theorem dX12_next_96 : decode cX12_next 96 = .ok (.iload 5, 2) := by decide +kernel
theorem dX12_next_98 : decode cX12_next 98 = .ok (.ireturn, 1) := by decide +kernel
theorem dX12_next_99 : decode cX12_next 99 = .ok (.iinc 5 1, 3) := by decide +kernel
theorem dX12_next_102 : decode cX12_next 102 = .ok (.goto (-54), 3) := by decide +kernel
theorem dX12_next_105 : decode cX12_next 105 = .ok (.bipush (-2), 2) := by decide +kernel
theorem dX12_next_107 : decode cX12_next 107 = .ok (.ireturn, 1) := by decide +kernel
theorem dX12_seenBy_0 : decode cX12_seenBy 0 = .ok (.iconst 0, 1) := by decide +kernel
theorem dX12_seenBy_1 : decode cX12_seenBy 1 = .ok (.istore_n 2, 1) := by decide +kernel
theorem dX12_seenBy_2 : decode cX12_seenBy 2 = .ok (.iconst 0, 1) := by decide +kernel
theorem dX12_seenBy_3 : decode cX12_seenBy 3 = .ok (.istore_n 3, 1) := by decide +kernel
theorem dX12_seenBy_4 : decode cX12_seenBy 4 = .ok (.iload_n 3, 1) := by decide +kernel
theorem dX12_seenBy_5 : decode cX12_seenBy 5 = .ok (.aload_n 0, 1) := by decide +kernel
theorem dX12_seenBy_6 : decode cX12_seenBy 6 = .ok (.getfield 20, 3) := by decide +kernel
theorem dX12_seenBy_9 : decode cX12_seenBy 9 = .ok (.iconst 4, 1) := by decide +kernel
theorem dX12_seenBy_10 : decode cX12_seenBy 10 = .ok (.iaload, 1) := by decide +kernel
theorem dX12_seenBy_11 : decode cX12_seenBy 11 = .ok (.if_icmp .ge 49, 3) := by decide +kernel
theorem dX12_seenBy_14 : decode cX12_seenBy 14 = .ok (.aload_n 0, 1) := by decide +kernel
theorem dX12_seenBy_15 : decode cX12_seenBy 15 = .ok (.aload_n 0, 1) := by decide +kernel
theorem dX12_seenBy_16 : decode cX12_seenBy 16 = .ok (.getfield 32, 3) := by decide +kernel
theorem dX12_seenBy_19 : decode cX12_seenBy 19 = .ok (.iload_n 3, 1) := by decide +kernel
theorem dX12_seenBy_20 : decode cX12_seenBy 20 = .ok (.invokevirtual 269, 3) := by decide +kernel
theorem dX12_seenBy_23 : decode cX12_seenBy 23 = .ok (.istore 4, 2) := by decide +kernel
theorem dX12_seenBy_25 : decode cX12_seenBy 25 = .ok (.iload_n 2, 1) := by decide +kernel
theorem dX12_seenBy_26 : decode cX12_seenBy 26 = .ok (.aload_n 0, 1) := by decide +kernel
theorem dX12_seenBy_27 : decode cX12_seenBy 27 = .ok (.getfield 32, 3) := by decide +kernel
theorem dX12_seenBy_30 : decode cX12_seenBy 30 = .ok (.bipush 32, 2) := by decide +kernel
theorem dX12_seenBy_32 : decode cX12_seenBy 32 = .ok (.iload_n 3, 1) := by decide +kernel
theorem dX12_seenBy_33 : decode cX12_seenBy 33 = .ok (.iadd, 1) := by decide +kernel
theorem dX12_seenBy_34 : decode cX12_seenBy 34 = .ok (.iaload, 1) := by decide +kernel
theorem dX12_seenBy_35 : decode cX12_seenBy 35 = .ok (.iload_n 1, 1) := by decide +kernel
theorem dX12_seenBy_36 : decode cX12_seenBy 36 = .ok (.if_icmp .eq 15, 3) := by decide +kernel
theorem dX12_seenBy_39 : decode cX12_seenBy 39 = .ok (.iload 4, 2) := by decide +kernel
theorem dX12_seenBy_41 : decode cX12_seenBy 41 = .ok (.ifCond .lt 10, 3) := by decide +kernel
theorem dX12_seenBy_44 : decode cX12_seenBy 44 = .ok (.iconst 1, 1) := by decide +kernel
theorem dX12_seenBy_45 : decode cX12_seenBy 45 = .ok (.iload 4, 2) := by decide +kernel
theorem dX12_seenBy_47 : decode cX12_seenBy 47 = .ok (.ishl, 1) := by decide +kernel
theorem dX12_seenBy_48 : decode cX12_seenBy 48 = .ok (.goto 4, 3) := by decide +kernel
theorem dX12_seenBy_51 : decode cX12_seenBy 51 = .ok (.iconst 0, 1) := by decide +kernel
theorem dX12_seenBy_52 : decode cX12_seenBy 52 = .ok (.ior, 1) := by decide +kernel
theorem dX12_seenBy_53 : decode cX12_seenBy 53 = .ok (.istore_n 2, 1) := by decide +kernel
theorem dX12_seenBy_54 : decode cX12_seenBy 54 = .ok (.iinc 3 1, 3) := by decide +kernel
theorem dX12_seenBy_57 : decode cX12_seenBy 57 = .ok (.goto (-53), 3) := by decide +kernel
theorem dX12_seenBy_60 : decode cX12_seenBy 60 = .ok (.iload_n 2, 1) := by decide +kernel
theorem dX12_seenBy_61 : decode cX12_seenBy 61 = .ok (.ireturn, 1) := by decide +kernel
theorem dX12_unseen_0 : decode cX12_unseen 0 = .ok (.aload_n 0, 1) := by decide +kernel
theorem dX12_unseen_1 : decode cX12_unseen 1 = .ok (.invokevirtual 167, 3) := by decide +kernel
theorem dX12_unseen_4 : decode cX12_unseen 4 = .ok (.aload_n 0, 1) := by decide +kernel
theorem dX12_unseen_5 : decode cX12_unseen 5 = .ok (.iload_n 1, 1) := by decide +kernel
theorem dX12_unseen_6 : decode cX12_unseen 6 = .ok (.invokevirtual 288, 3) := by decide +kernel
theorem dX12_unseen_9 : decode cX12_unseen 9 = .ok (.ifCond .eq 33, 3) := by decide +kernel
theorem dX12_unseen_12 : decode cX12_unseen 12 = .ok (.aload_n 0, 1) := by decide +kernel
theorem dX12_unseen_13 : decode cX12_unseen 13 = .ok (.iload_n 2, 1) := by decide +kernel
theorem dX12_unseen_14 : decode cX12_unseen 14 = .ok (.invokevirtual 279, 3) := by decide +kernel
theorem dX12_unseen_17 : decode cX12_unseen 17 = .ok (.ifCond .eq 25, 3) := by decide +kernel
theorem dX12_unseen_20 : decode cX12_unseen 20 = .ok (.aload_n 0, 1) := by decide +kernel
theorem dX12_unseen_21 : decode cX12_unseen 21 = .ok (.aload_n 0, 1) := by decide +kernel
theorem dX12_unseen_22 : decode cX12_unseen 22 = .ok (.getfield 32, 3) := by decide +kernel
theorem dX12_unseen_25 : decode cX12_unseen 25 = .ok (.bipush 8, 2) := by decide +kernel
theorem dX12_unseen_27 : decode cX12_unseen 27 = .ok (.iload_n 1, 1) := by decide +kernel
theorem dX12_unseen_28 : decode cX12_unseen 28 = .ok (.imul, 1) := by decide +kernel
theorem dX12_unseen_29 : decode cX12_unseen 29 = .ok (.iaload, 1) := by decide +kernel
theorem dX12_unseen_30 : decode cX12_unseen 30 = .ok (.iload_n 2, 1) := by decide +kernel
theorem dX12_unseen_31 : decode cX12_unseen 31 = .ok (.aload_n 0, 1) := by decide +kernel
theorem dX12_unseen_32 : decode cX12_unseen 32 = .ok (.iload_n 1, 1) := by decide +kernel
theorem dX12_unseen_33 : decode cX12_unseen 33 = .ok (.invokevirtual 314, 3) := by decide +kernel
theorem dX12_unseen_36 : decode cX12_unseen 36 = .ok (.invokevirtual 310, 3) := by decide +kernel
theorem dX12_unseen_39 : decode cX12_unseen 39 = .ok (.goto 8, 3) := by decide +kernel
theorem dX12_unseen_42 : decode cX12_unseen 42 = .ok (.aload_n 0, 1) := by decide +kernel
theorem dX12_unseen_43 : decode cX12_unseen 43 = .ok (.iconst 1, 1) := by decide +kernel
theorem dX12_unseen_44 : decode cX12_unseen 44 = .ok (.invokevirtual 170, 3) := by decide +kernel
theorem dX12_unseen_47 : decode cX12_unseen 47 = .ok (.ireturn, 1) := by decide +kernel
theorem dX12_safe_0 : decode cX12_safe 0 = .ok (.aload_n 0, 1) := by decide +kernel
theorem dX12_safe_1 : decode cX12_safe 1 = .ok (.invokevirtual 167, 3) := by decide +kernel
theorem dX12_safe_4 : decode cX12_safe 4 = .ok (.aload_n 0, 1) := by decide +kernel
theorem dX12_safe_5 : decode cX12_safe 5 = .ok (.iload_n 1, 1) := by decide +kernel
theorem dX12_safe_6 : decode cX12_safe 6 = .ok (.invokevirtual 288, 3) := by decide +kernel
theorem dX12_safe_9 : decode cX12_safe 9 = .ok (.ifCond .eq 24, 3) := by decide +kernel
theorem dX12_safe_12 : decode cX12_safe 12 = .ok (.aload_n 0, 1) := by decide +kernel
theorem dX12_safe_13 : decode cX12_safe 13 = .ok (.aload_n 0, 1) := by decide +kernel
theorem dX12_safe_14 : decode cX12_safe 14 = .ok (.getfield 32, 3) := by decide +kernel
theorem dX12_safe_17 : decode cX12_safe 17 = .ok (.bipush 8, 2) := by decide +kernel
theorem dX12_safe_19 : decode cX12_safe 19 = .ok (.iload_n 1, 1) := by decide +kernel
theorem dX12_safe_20 : decode cX12_safe 20 = .ok (.imul, 1) := by decide +kernel
theorem dX12_safe_21 : decode cX12_safe 21 = .ok (.iaload, 1) := by decide +kernel
theorem dX12_safe_22 : decode cX12_safe 22 = .ok (.aload_n 0, 1) := by decide +kernel
theorem dX12_safe_23 : decode cX12_safe 23 = .ok (.iload_n 1, 1) := by decide +kernel
theorem dX12_safe_24 : decode cX12_safe 24 = .ok (.invokevirtual 314, 3) := by decide +kernel
theorem dX12_safe_27 : decode cX12_safe 27 = .ok (.invokevirtual 317, 3) := by decide +kernel
theorem dX12_safe_30 : decode cX12_safe 30 = .ok (.goto 8, 3) := by decide +kernel
theorem dX12_safe_33 : decode cX12_safe 33 = .ok (.aload_n 0, 1) := by decide +kernel
theorem dX12_safe_34 : decode cX12_safe 34 = .ok (.iconst 1, 1) := by decide +kernel
theorem dX12_safe_35 : decode cX12_safe 35 = .ok (.invokevirtual 170, 3) := by decide +kernel
theorem dX12_safe_38 : decode cX12_safe 38 = .ok (.ireturn, 1) := by decide +kernel
theorem dX12_cut_0 : decode cX12_cut 0 = .ok (.aload_n 0, 1) := by decide +kernel
theorem dX12_cut_1 : decode cX12_cut 1 = .ok (.invokevirtual 167, 3) := by decide +kernel
theorem dX12_cut_4 : decode cX12_cut 4 = .ok (.aload_n 0, 1) := by decide +kernel
theorem dX12_cut_5 : decode cX12_cut 5 = .ok (.iload_n 1, 1) := by decide +kernel
theorem dX12_cut_6 : decode cX12_cut 6 = .ok (.invokevirtual 288, 3) := by decide +kernel
theorem dX12_cut_9 : decode cX12_cut 9 = .ok (.ifCond .eq 11, 3) := by decide +kernel
theorem dX12_cut_12 : decode cX12_cut 12 = .ok (.aload_n 0, 1) := by decide +kernel
theorem dX12_cut_13 : decode cX12_cut 13 = .ok (.iload_n 2, 1) := by decide +kernel
theorem dX12_cut_14 : decode cX12_cut 14 = .ok (.invokevirtual 279, 3) := by decide +kernel
theorem dX12_cut_17 : decode cX12_cut 17 = .ok (.ifCond .ne 9, 3) := by decide +kernel
theorem dX12_cut_20 : decode cX12_cut 20 = .ok (.aload_n 0, 1) := by decide +kernel
theorem dX12_cut_21 : decode cX12_cut 21 = .ok (.iconst 1, 1) := by decide +kernel
theorem dX12_cut_22 : decode cX12_cut 22 = .ok (.invokevirtual 170, 3) := by decide +kernel
theorem dX12_cut_25 : decode cX12_cut 25 = .ok (.ireturn, 1) := by decide +kernel
theorem dX12_cut_26 : decode cX12_cut 26 = .ok (.aload_n 0, 1) := by decide +kernel
theorem dX12_cut_27 : decode cX12_cut 27 = .ok (.getfield 32, 3) := by decide +kernel
theorem dX12_cut_30 : decode cX12_cut 30 = .ok (.bipush 8, 2) := by decide +kernel
theorem dX12_cut_32 : decode cX12_cut 32 = .ok (.iload_n 1, 1) := by decide +kernel
theorem dX12_cut_33 : decode cX12_cut 33 = .ok (.imul, 1) := by decide +kernel
theorem dX12_cut_34 : decode cX12_cut 34 = .ok (.iaload, 1) := by decide +kernel
theorem dX12_cut_35 : decode cX12_cut 35 = .ok (.istore_n 3, 1) := by decide +kernel
theorem dX12_cut_36 : decode cX12_cut 36 = .ok (.bipush (-2), 2) := by decide +kernel
theorem dX12_cut_38 : decode cX12_cut 38 = .ok (.istore 4, 2) := by decide +kernel
theorem dX12_cut_40 : decode cX12_cut 40 = .ok (.iconst 0, 1) := by decide +kernel
theorem dX12_cut_41 : decode cX12_cut 41 = .ok (.istore 5, 2) := by decide +kernel
theorem dX12_cut_43 : decode cX12_cut 43 = .ok (.iload 5, 2) := by decide +kernel
theorem dX12_cut_45 : decode cX12_cut 45 = .ok (.iconst 1, 1) := by decide +kernel
theorem dX12_cut_46 : decode cX12_cut 46 = .ok (.aload_n 0, 1) := by decide +kernel
theorem dX12_cut_47 : decode cX12_cut 47 = .ok (.getfield 20, 3) := by decide +kernel
theorem dX12_cut_50 : decode cX12_cut 50 = .ok (.iconst 1, 1) := by decide +kernel
theorem dX12_cut_51 : decode cX12_cut 51 = .ok (.iaload, 1) := by decide +kernel
theorem dX12_cut_52 : decode cX12_cut 52 = .ok (.ishl, 1) := by decide +kernel
theorem dX12_cut_53 : decode cX12_cut 53 = .ok (.if_icmp .ge 63, 3) := by decide +kernel
theorem dX12_cut_56 : decode cX12_cut 56 = .ok (.iload 5, 2) := by decide +kernel
theorem dX12_cut_58 : decode cX12_cut 58 = .ok (.iload_n 3, 1) := by decide +kernel
theorem dX12_cut_59 : decode cX12_cut 59 = .ok (.invokestatic 236, 3) := by decide +kernel
theorem dX12_cut_62 : decode cX12_cut 62 = .ok (.ifCond .ne 48, 3) := by decide +kernel
theorem dX12_cut_65 : decode cX12_cut 65 = .ok (.iload 5, 2) := by decide +kernel
theorem dX12_cut_67 : decode cX12_cut 67 = .ok (.iload_n 2, 1) := by decide +kernel
theorem dX12_cut_68 : decode cX12_cut 68 = .ok (.invokestatic 236, 3) := by decide +kernel
theorem dX12_cut_71 : decode cX12_cut 71 = .ok (.ifCond .ne 39, 3) := by decide +kernel
theorem dX12_cut_74 : decode cX12_cut 74 = .ok (.iload 4, 2) := by decide +kernel
theorem dX12_cut_76 : decode cX12_cut 76 = .ok (.ifCond .lt 19, 3) := by decide +kernel
theorem dX12_cut_79 : decode cX12_cut 79 = .ok (.iload 5, 2) := by decide +kernel
theorem dX12_cut_81 : decode cX12_cut 81 = .ok (.invokestatic 276, 3) := by decide +kernel
theorem dX12_cut_84 : decode cX12_cut 84 = .ok (.iload 4, 2) := by decide +kernel
theorem dX12_cut_86 : decode cX12_cut 86 = .ok (.invokestatic 276, 3) := by decide +kernel
theorem dX12_cut_89 : decode cX12_cut 89 = .ok (.if_icmp .lt 6, 3) := by decide +kernel
theorem dX12_cut_92 : decode cX12_cut 92 = .ok (.goto 18, 3) := by decide +kernel
theorem dX12_cut_95 : decode cX12_cut 95 = .ok (.aload_n 0, 1) := by decide +kernel
theorem dX12_cut_96 : decode cX12_cut 96 = .ok (.iload_n 3, 1) := by decide +kernel
theorem dX12_cut_97 : decode cX12_cut 97 = .ok (.iload_n 2, 1) := by decide +kernel
theorem dX12_cut_98 : decode cX12_cut 98 = .ok (.iload 5, 2) := by decide +kernel
theorem dX12_cut_100 : decode cX12_cut 100 = .ok (.invokevirtual 310, 3) := by decide +kernel
theorem dX12_cut_103 : decode cX12_cut 103 = .ok (.ifCond .ge 7, 3) := by decide +kernel
theorem dX12_cut_106 : decode cX12_cut 106 = .ok (.iload 5, 2) := by decide +kernel
theorem dX12_cut_108 : decode cX12_cut 108 = .ok (.istore 4, 2) := by decide +kernel
theorem dX12_cut_110 : decode cX12_cut 110 = .ok (.iinc 5 1, 3) := by decide +kernel
theorem dX12_cut_113 : decode cX12_cut 113 = .ok (.goto (-70), 3) := by decide +kernel
theorem dX12_cut_116 : decode cX12_cut 116 = .ok (.iload 4, 2) := by decide +kernel
theorem dX12_cut_118 : decode cX12_cut 118 = .ok (.ireturn, 1) := by decide +kernel
theorem dX12_farthestOf_0 : decode cX12_farthestOf 0 = .ok (.iconst 0, 1) := by decide +kernel
theorem dX12_farthestOf_1 : decode cX12_farthestOf 1 = .ok (.istore_n 2, 1) := by decide +kernel
theorem dX12_farthestOf_2 : decode cX12_farthestOf 2 = .ok (.iconst 0, 1) := by decide +kernel
theorem dX12_farthestOf_3 : decode cX12_farthestOf 3 = .ok (.istore_n 3, 1) := by decide +kernel
theorem dX12_farthestOf_4 : decode cX12_farthestOf 4 = .ok (.iload_n 3, 1) := by decide +kernel
theorem dX12_farthestOf_5 : decode cX12_farthestOf 5 = .ok (.aload_n 0, 1) := by decide +kernel
theorem dX12_farthestOf_6 : decode cX12_farthestOf 6 = .ok (.getfield 20, 3) := by decide +kernel
theorem dX12_farthestOf_9 : decode cX12_farthestOf 9 = .ok (.iconst 1, 1) := by decide +kernel
theorem dX12_farthestOf_10 : decode cX12_farthestOf 10 = .ok (.iaload, 1) := by decide +kernel
theorem dX12_farthestOf_11 : decode cX12_farthestOf 11 = .ok (.if_icmp .ge 32, 3) := by decide +kernel
theorem dX12_farthestOf_14 : decode cX12_farthestOf 14 = .ok (.aload_n 0, 1) := by decide +kernel
theorem dX12_farthestOf_15 : decode cX12_farthestOf 15 = .ok (.iload_n 1, 1) := by decide +kernel
theorem dX12_farthestOf_16 : decode cX12_farthestOf 16 = .ok (.iload_n 3, 1) := by decide +kernel
theorem dX12_farthestOf_17 : decode cX12_farthestOf 17 = .ok (.iconst 0, 1) := by decide +kernel
theorem dX12_farthestOf_18 : decode cX12_farthestOf 18 = .ok (.invokevirtual 310, 3) := by decide +kernel
theorem dX12_farthestOf_21 : decode cX12_farthestOf 21 = .ok (.iload_n 2, 1) := by decide +kernel
theorem dX12_farthestOf_22 : decode cX12_farthestOf 22 = .ok (.if_icmp .le 13, 3) := by decide +kernel
theorem dX12_farthestOf_25 : decode cX12_farthestOf 25 = .ok (.aload_n 0, 1) := by decide +kernel
theorem dX12_farthestOf_26 : decode cX12_farthestOf 26 = .ok (.iload_n 1, 1) := by decide +kernel
theorem dX12_farthestOf_27 : decode cX12_farthestOf 27 = .ok (.iload_n 3, 1) := by decide +kernel
theorem dX12_farthestOf_28 : decode cX12_farthestOf 28 = .ok (.iconst 0, 1) := by decide +kernel
theorem dX12_farthestOf_29 : decode cX12_farthestOf 29 = .ok (.invokevirtual 310, 3) := by decide +kernel
theorem dX12_farthestOf_32 : decode cX12_farthestOf 32 = .ok (.goto 4, 3) := by decide +kernel
theorem dX12_farthestOf_35 : decode cX12_farthestOf 35 = .ok (.iload_n 2, 1) := by decide +kernel
theorem dX12_farthestOf_36 : decode cX12_farthestOf 36 = .ok (.istore_n 2, 1) := by decide +kernel
theorem dX12_farthestOf_37 : decode cX12_farthestOf 37 = .ok (.iinc 3 1, 3) := by decide +kernel
theorem dX12_farthestOf_40 : decode cX12_farthestOf 40 = .ok (.goto (-36), 3) := by decide +kernel
theorem dX12_farthestOf_43 : decode cX12_farthestOf 43 = .ok (.iload_n 2, 1) := by decide +kernel
theorem dX12_farthestOf_44 : decode cX12_farthestOf 44 = .ok (.ireturn, 1) := by decide +kernel
theorem dX12_middle_0 : decode cX12_middle 0 = .ok (.aload_n 0, 1) := by decide +kernel
theorem dX12_middle_1 : decode cX12_middle 1 = .ok (.invokevirtual 167, 3) := by decide +kernel
theorem dX12_middle_4 : decode cX12_middle 4 = .ok (.aload_n 0, 1) := by decide +kernel
theorem dX12_middle_5 : decode cX12_middle 5 = .ok (.getfield 180, 3) := by decide +kernel
theorem dX12_middle_8 : decode cX12_middle 8 = .ok (.ifCond .ne 9, 3) := by decide +kernel
theorem dX12_middle_11 : decode cX12_middle 11 = .ok (.aload_n 0, 1) := by decide +kernel
theorem dX12_middle_12 : decode cX12_middle 12 = .ok (.iconst 1, 1) := by decide +kernel
theorem dX12_middle_13 : decode cX12_middle 13 = .ok (.invokevirtual 170, 3) := by decide +kernel
theorem dX12_middle_16 : decode cX12_middle 16 = .ok (.ireturn, 1) := by decide +kernel
theorem dX12_middle_17 : decode cX12_middle 17 = .ok (.iconst 0, 1) := by decide +kernel
theorem dX12_middle_18 : decode cX12_middle 18 = .ok (.istore_n 1, 1) := by decide +kernel
theorem dX12_middle_19 : decode cX12_middle 19 = .ok (.iconst 1, 1) := by decide +kernel
theorem dX12_middle_20 : decode cX12_middle 20 = .ok (.istore_n 2, 1) := by decide +kernel
theorem dX12_middle_21 : decode cX12_middle 21 = .ok (.iload_n 2, 1) := by decide +kernel
theorem dX12_middle_22 : decode cX12_middle 22 = .ok (.aload_n 0, 1) := by decide +kernel
theorem dX12_middle_23 : decode cX12_middle 23 = .ok (.getfield 20, 3) := by decide +kernel
theorem dX12_middle_26 : decode cX12_middle 26 = .ok (.iconst 1, 1) := by decide +kernel
theorem dX12_middle_27 : decode cX12_middle 27 = .ok (.iaload, 1) := by decide +kernel
theorem dX12_middle_28 : decode cX12_middle 28 = .ok (.if_icmp .ge 24, 3) := by decide +kernel
theorem dX12_middle_31 : decode cX12_middle 31 = .ok (.aload_n 0, 1) := by decide +kernel
theorem dX12_middle_32 : decode cX12_middle 32 = .ok (.iload_n 2, 1) := by decide +kernel
theorem dX12_middle_33 : decode cX12_middle 33 = .ok (.invokevirtual 320, 3) := by decide +kernel
theorem dX12_middle_36 : decode cX12_middle 36 = .ok (.aload_n 0, 1) := by decide +kernel
theorem dX12_middle_37 : decode cX12_middle 37 = .ok (.iload_n 1, 1) := by decide +kernel
theorem dX12_middle_38 : decode cX12_middle 38 = .ok (.invokevirtual 320, 3) := by decide +kernel
theorem dX12_middle_41 : decode cX12_middle 41 = .ok (.if_icmp .ge 5, 3) := by decide +kernel
theorem dX12_middle_44 : decode cX12_middle 44 = .ok (.iload_n 2, 1) := by decide +kernel
theorem dX12_middle_45 : decode cX12_middle 45 = .ok (.istore_n 1, 1) := by decide +kernel
theorem dX12_middle_46 : decode cX12_middle 46 = .ok (.iinc 2 1, 3) := by decide +kernel
theorem dX12_middle_49 : decode cX12_middle 49 = .ok (.goto (-28), 3) := by decide +kernel
theorem dX12_middle_52 : decode cX12_middle 52 = .ok (.iload_n 1, 1) := by decide +kernel
theorem dX12_middle_53 : decode cX12_middle 53 = .ok (.ireturn, 1) := by decide +kernel
theorem dX12_parts_0 : decode cX12_parts 0 = .ok (.aload_n 0, 1) := by decide +kernel
theorem dX12_parts_1 : decode cX12_parts 1 = .ok (.invokevirtual 167, 3) := by decide +kernel
theorem dX12_parts_4 : decode cX12_parts 4 = .ok (.aload_n 0, 1) := by decide +kernel
theorem dX12_parts_5 : decode cX12_parts 5 = .ok (.getfield 180, 3) := by decide +kernel
theorem dX12_parts_8 : decode cX12_parts 8 = .ok (.ifCond .ne 9, 3) := by decide +kernel
theorem dX12_parts_11 : decode cX12_parts 11 = .ok (.aload_n 0, 1) := by decide +kernel
theorem dX12_parts_12 : decode cX12_parts 12 = .ok (.iconst 1, 1) := by decide +kernel
theorem dX12_parts_13 : decode cX12_parts 13 = .ok (.invokevirtual 170, 3) := by decide +kernel
theorem dX12_parts_16 : decode cX12_parts 16 = .ok (.ireturn, 1) := by decide +kernel
theorem dX12_parts_17 : decode cX12_parts 17 = .ok (.iconst 0, 1) := by decide +kernel
theorem dX12_parts_18 : decode cX12_parts 18 = .ok (.istore_n 1, 1) := by decide +kernel
theorem dX12_parts_19 : decode cX12_parts 19 = .ok (.iconst 0, 1) := by decide +kernel
theorem dX12_parts_20 : decode cX12_parts 20 = .ok (.istore_n 2, 1) := by decide +kernel
theorem dX12_parts_21 : decode cX12_parts 21 = .ok (.iconst 0, 1) := by decide +kernel
theorem dX12_parts_22 : decode cX12_parts 22 = .ok (.istore_n 3, 1) := by decide +kernel
theorem dX12_parts_23 : decode cX12_parts 23 = .ok (.iload_n 3, 1) := by decide +kernel
theorem dX12_parts_24 : decode cX12_parts 24 = .ok (.aload_n 0, 1) := by decide +kernel
theorem dX12_parts_25 : decode cX12_parts 25 = .ok (.getfield 20, 3) := by decide +kernel
theorem dX12_parts_28 : decode cX12_parts 28 = .ok (.iconst 1, 1) := by decide +kernel
theorem dX12_parts_29 : decode cX12_parts 29 = .ok (.iaload, 1) := by decide +kernel
theorem dX12_parts_30 : decode cX12_parts 30 = .ok (.if_icmp .ge 34, 3) := by decide +kernel
theorem dX12_parts_33 : decode cX12_parts 33 = .ok (.iload_n 1, 1) := by decide +kernel
theorem dX12_parts_34 : decode cX12_parts 34 = .ok (.iload_n 2, 1) := by decide +kernel
theorem dX12_parts_35 : decode cX12_parts 35 = .ok (.iload_n 3, 1) := by decide +kernel
theorem dX12_parts_36 : decode cX12_parts 36 = .ok (.invokestatic 236, 3) := by decide +kernel
theorem dX12_parts_39 : decode cX12_parts 39 = .ok (.ifCond .eq 7, 3) := by decide +kernel
theorem dX12_parts_42 : decode cX12_parts 42 = .ok (.iconst 0, 1) := by decide +kernel
theorem dX12_parts_43 : decode cX12_parts 43 = .ok (.goto 4, 3) := by decide +kernel
theorem dX12_parts_46 : decode cX12_parts 46 = .ok (.iconst 1, 1) := by decide +kernel
theorem dX12_parts_47 : decode cX12_parts 47 = .ok (.iadd, 1) := by decide +kernel
theorem dX12_parts_48 : decode cX12_parts 48 = .ok (.istore_n 1, 1) := by decide +kernel
theorem dX12_parts_49 : decode cX12_parts 49 = .ok (.iload_n 2, 1) := by decide +kernel
theorem dX12_parts_50 : decode cX12_parts 50 = .ok (.aload_n 0, 1) := by decide +kernel
theorem dX12_parts_51 : decode cX12_parts 51 = .ok (.iload_n 3, 1) := by decide +kernel
theorem dX12_parts_52 : decode cX12_parts 52 = .ok (.iconst 0, 1) := by decide +kernel
theorem dX12_parts_53 : decode cX12_parts 53 = .ok (.invokevirtual 317, 3) := by decide +kernel
theorem dX12_parts_56 : decode cX12_parts 56 = .ok (.ior, 1) := by decide +kernel
theorem dX12_parts_57 : decode cX12_parts 57 = .ok (.istore_n 2, 1) := by decide +kernel
theorem dX12_parts_58 : decode cX12_parts 58 = .ok (.iinc 3 1, 3) := by decide +kernel
theorem dX12_parts_61 : decode cX12_parts 61 = .ok (.goto (-38), 3) := by decide +kernel
theorem dX12_parts_64 : decode cX12_parts 64 = .ok (.iload_n 1, 1) := by decide +kernel
theorem dX12_parts_65 : decode cX12_parts 65 = .ok (.ireturn, 1) := by decide +kernel
theorem dX12_follows_0 : decode cX12_follows 0 = .ok (.aload_n 0, 1) := by decide +kernel
theorem dX12_follows_1 : decode cX12_follows 1 = .ok (.invokevirtual 167, 3) := by decide +kernel
theorem dX12_follows_4 : decode cX12_follows 4 = .ok (.aload_n 0, 1) := by decide +kernel
theorem dX12_follows_5 : decode cX12_follows 5 = .ok (.iload_n 1, 1) := by decide +kernel
theorem dX12_follows_6 : decode cX12_follows 6 = .ok (.invokevirtual 300, 3) := by decide +kernel
theorem dX12_follows_9 : decode cX12_follows 9 = .ok (.ifCond .ne 9, 3) := by decide +kernel
theorem dX12_follows_12 : decode cX12_follows 12 = .ok (.aload_n 0, 1) := by decide +kernel
theorem dX12_follows_13 : decode cX12_follows 13 = .ok (.iconst 1, 1) := by decide +kernel
theorem dX12_follows_14 : decode cX12_follows 14 = .ok (.invokevirtual 170, 3) := by decide +kernel
theorem dX12_follows_17 : decode cX12_follows 17 = .ok (.ireturn, 1) := by decide +kernel
theorem dX12_follows_18 : decode cX12_follows 18 = .ok (.iload_n 3, 1) := by decide +kernel
theorem dX12_follows_19 : decode cX12_follows 19 = .ok (.iconst 0, 1) := by decide +kernel
theorem dX12_follows_20 : decode cX12_follows 20 = .ok (.bipush 6, 2) := by decide +kernel
theorem dX12_follows_22 : decode cX12_follows 22 = .ok (.invokestatic 146, 3) := by decide +kernel
theorem dX12_follows_25 : decode cX12_follows 25 = .ok (.ifCond .eq 7, 3) := by decide +kernel
theorem dX12_follows_28 : decode cX12_follows 28 = .ok (.iload_n 2, 1) := by decide +kernel
theorem dX12_follows_29 : decode cX12_follows 29 = .ok (.ifCond .ge 9, 3) := by decide +kernel
theorem dX12_follows_32 : decode cX12_follows 32 = .ok (.aload_n 0, 1) := by decide +kernel
theorem dX12_follows_33 : decode cX12_follows 33 = .ok (.iconst 2, 1) := by decide +kernel
theorem dX12_follows_34 : decode cX12_follows 34 = .ok (.invokevirtual 170, 3) := by decide +kernel
theorem dX12_follows_37 : decode cX12_follows 37 = .ok (.ireturn, 1) := by decide +kernel
theorem dX12_follows_38 : decode cX12_follows 38 = .ok (.iconst 1, 1) := by decide +kernel
theorem dX12_follows_39 : decode cX12_follows 39 = .ok (.istore 4, 2) := by decide +kernel
theorem dX12_follows_41 : decode cX12_follows 41 = .ok (.iload_n 2, 1) := by decide +kernel
theorem dX12_follows_42 : decode cX12_follows 42 = .ok (.istore 5, 2) := by decide +kernel
theorem dX12_follows_44 : decode cX12_follows 44 = .ok (.iconst 1, 1) := by decide +kernel
theorem dX12_follows_45 : decode cX12_follows 45 = .ok (.istore 6, 2) := by decide +kernel
theorem dX12_follows_47 : decode cX12_follows 47 = .ok (.iconst 0, 1) := by decide +kernel
theorem dX12_follows_48 : decode cX12_follows 48 = .ok (.istore 7, 2) := by decide +kernel
theorem dX12_follows_50 : decode cX12_follows 50 = .ok (.iload 7, 2) := by decide +kernel
theorem dX12_follows_52 : decode cX12_follows 52 = .ok (.iload_n 3, 1) := by decide +kernel
theorem dX12_follows_53 : decode cX12_follows 53 = .ok (.if_icmp .ge 49, 3) := by decide +kernel
theorem dX12_follows_56 : decode cX12_follows 56 = .ok (.iload 6, 2) := by decide +kernel
theorem dX12_follows_58 : decode cX12_follows 58 = .ok (.ifCond .eq 21, 3) := by decide +kernel
theorem dX12_follows_61 : decode cX12_follows 61 = .ok (.iload 5, 2) := by decide +kernel
theorem dX12_follows_63 : decode cX12_follows 63 = .ok (.bipush 10, 2) := by decide +kernel
theorem dX12_follows_65 : decode cX12_follows 65 = .ok (.irem, 1) := by decide +kernel
theorem dX12_follows_66 : decode cX12_follows 66 = .ok (.aload_n 0, 1) := by decide +kernel
theorem dX12_follows_67 : decode cX12_follows 67 = .ok (.getfield 20, 3) := by decide +kernel
theorem dX12_follows_70 : decode cX12_follows 70 = .ok (.iconst 1, 1) := by decide +kernel
theorem dX12_follows_71 : decode cX12_follows 71 = .ok (.iaload, 1) := by decide +kernel
theorem dX12_follows_72 : decode cX12_follows 72 = .ok (.if_icmp .gt 7, 3) := by decide +kernel
theorem dX12_follows_75 : decode cX12_follows 75 = .ok (.iconst 1, 1) := by decide +kernel
theorem dX12_follows_76 : decode cX12_follows 76 = .ok (.goto 4, 3) := by decide +kernel
theorem dX12_follows_79 : decode cX12_follows 79 = .ok (.iconst 0, 1) := by decide +kernel
theorem dX12_follows_80 : decode cX12_follows 80 = .ok (.istore 6, 2) := by decide +kernel
theorem dX12_follows_82 : decode cX12_follows 82 = .ok (.iload 5, 2) := by decide +kernel
theorem dX12_follows_84 : decode cX12_follows 84 = .ok (.bipush 10, 2) := by decide +kernel
theorem dX12_follows_86 : decode cX12_follows 86 = .ok (.idiv, 1) := by decide +kernel
theorem dX12_follows_87 : decode cX12_follows 87 = .ok (.istore 5, 2) := by decide +kernel
theorem dX12_follows_89 : decode cX12_follows 89 = .ok (.iload 4, 2) := by decide +kernel
theorem dX12_follows_91 : decode cX12_follows 91 = .ok (.bipush 10, 2) := by decide +kernel
theorem dX12_follows_93 : decode cX12_follows 93 = .ok (.imul, 1) := by decide +kernel
theorem dX12_follows_94 : decode cX12_follows 94 = .ok (.istore 4, 2) := by decide +kernel
theorem dX12_follows_96 : decode cX12_follows 96 = .ok (.iinc 7 1, 3) := by decide +kernel
theorem dX12_follows_99 : decode cX12_follows 99 = .ok (.goto (-49), 3) := by decide +kernel
theorem dX12_follows_102 : decode cX12_follows 102 = .ok (.iload 6, 2) := by decide +kernel
theorem dX12_follows_104 : decode cX12_follows 104 = .ok (.ifCond .eq 8, 3) := by decide +kernel
theorem dX12_follows_107 : decode cX12_follows 107 = .ok (.iload 5, 2) := by decide +kernel
theorem dX12_follows_109 : decode cX12_follows 109 = .ok (.ifCond .le 9, 3) := by decide +kernel
theorem dX12_follows_112 : decode cX12_follows 112 = .ok (.aload_n 0, 1) := by decide +kernel
theorem dX12_follows_113 : decode cX12_follows 113 = .ok (.iconst 2, 1) := by decide +kernel
theorem dX12_follows_114 : decode cX12_follows 114 = .ok (.invokevirtual 170, 3) := by decide +kernel
theorem dX12_follows_117 : decode cX12_follows 117 = .ok (.ireturn, 1) := by decide +kernel
theorem dX12_follows_118 : decode cX12_follows 118 = .ok (.aload_n 0, 1) := by decide +kernel
theorem dX12_follows_119 : decode cX12_follows 119 = .ok (.getfield 32, 3) := by decide +kernel
theorem dX12_follows_122 : decode cX12_follows 122 = .ok (.iconst 0, 1) := by decide +kernel
theorem dX12_follows_123 : decode cX12_follows 123 = .ok (.aload_n 0, 1) := by decide +kernel
theorem dX12_follows_124 : decode cX12_follows 124 = .ok (.getfield 41, 3) := by decide +kernel
theorem dX12_follows_127 : decode cX12_follows 127 = .ok (.iconst 0, 1) := by decide +kernel
theorem dX12_follows_128 : decode cX12_follows 128 = .ok (.bipush 40, 2) := by decide +kernel
theorem dX12_follows_130 : decode cX12_follows 130 = .ok (.invokestatic 176, 3) := by decide +kernel
theorem dX12_follows_133 : decode cX12_follows 133 = .ok (.aload_n 0, 1) := by decide +kernel
theorem dX12_follows_134 : decode cX12_follows 134 = .ok (.getfield 32, 3) := by decide +kernel
theorem dX12_follows_137 : decode cX12_follows 137 = .ok (.bipush 32, 2) := by decide +kernel
theorem dX12_follows_139 : decode cX12_follows 139 = .ok (.iload_n 1, 1) := by decide +kernel
theorem dX12_follows_140 : decode cX12_follows 140 = .ok (.iadd, 1) := by decide +kernel
theorem dX12_follows_141 : decode cX12_follows 141 = .ok (.iaload, 1) := by decide +kernel
theorem dX12_follows_142 : decode cX12_follows 142 = .ok (.istore 7, 2) := by decide +kernel
theorem dX12_follows_144 : decode cX12_follows 144 = .ok (.iconst 0, 1) := by decide +kernel
theorem dX12_follows_145 : decode cX12_follows 145 = .ok (.istore 8, 2) := by decide +kernel
theorem dX12_follows_147 : decode cX12_follows 147 = .ok (.iload 8, 2) := by decide +kernel
theorem dX12_follows_149 : decode cX12_follows 149 = .ok (.iload_n 3, 1) := by decide +kernel
theorem dX12_follows_150 : decode cX12_follows 150 = .ok (.if_icmp .ge 96, 3) := by decide +kernel
theorem dX12_follows_153 : decode cX12_follows 153 = .ok (.iload 4, 2) := by decide +kernel
theorem dX12_follows_155 : decode cX12_follows 155 = .ok (.bipush 10, 2) := by decide +kernel
theorem dX12_follows_157 : decode cX12_follows 157 = .ok (.idiv, 1) := by decide +kernel
theorem dX12_follows_158 : decode cX12_follows 158 = .ok (.istore 4, 2) := by decide +kernel
theorem dX12_follows_160 : decode cX12_follows 160 = .ok (.aload_n 0, 1) := by decide +kernel
theorem dX12_follows_161 : decode cX12_follows 161 = .ok (.getfield 41, 3) := by decide +kernel
theorem dX12_follows_164 : decode cX12_follows 164 = .ok (.bipush 8, 2) := by decide +kernel
theorem dX12_follows_166 : decode cX12_follows 166 = .ok (.iload 7, 2) := by decide +kernel
theorem dX12_follows_168 : decode cX12_follows 168 = .ok (.imul, 1) := by decide +kernel
theorem dX12_follows_169 : decode cX12_follows 169 = .ok (.iaload, 1) := by decide +kernel
theorem dX12_follows_170 : decode cX12_follows 170 = .ok (.istore 9, 2) := by decide +kernel
theorem dX12_follows_172 : decode cX12_follows 172 = .ok (.iload_n 2, 1) := by decide +kernel
theorem dX12_follows_173 : decode cX12_follows 173 = .ok (.iload 4, 2) := by decide +kernel
theorem dX12_follows_175 : decode cX12_follows 175 = .ok (.idiv, 1) := by decide +kernel
theorem dX12_follows_176 : decode cX12_follows 176 = .ok (.bipush 10, 2) := by decide +kernel
theorem dX12_follows_178 : decode cX12_follows 178 = .ok (.irem, 1) := by decide +kernel
theorem dX12_follows_179 : decode cX12_follows 179 = .ok (.ifCond .ne 8, 3) := by decide +kernel
theorem dX12_follows_182 : decode cX12_follows 182 = .ok (.iload 9, 2) := by decide +kernel
theorem dX12_follows_184 : decode cX12_follows 184 = .ok (.goto 12, 3) := by decide +kernel
theorem dX12_follows_187 : decode cX12_follows 187 = .ok (.iload_n 2, 1) := by decide +kernel
theorem dX12_follows_188 : decode cX12_follows 188 = .ok (.iload 4, 2) := by decide +kernel
theorem dX12_follows_190 : decode cX12_follows 190 = .ok (.idiv, 1) := by decide +kernel
theorem dX12_follows_191 : decode cX12_follows 191 = .ok (.bipush 10, 2) := by decide +kernel
theorem dX12_follows_193 : decode cX12_follows 193 = .ok (.irem, 1) := by decide +kernel
theorem dX12_follows_194 : decode cX12_follows 194 = .ok (.iconst 1, 1) := by decide +kernel
theorem dX12_follows_195 : decode cX12_follows 195 = .ok (.isub, 1) := by decide +kernel
theorem dX12_follows_196 : decode cX12_follows 196 = .ok (.istore 10, 2) := by decide +kernel
theorem dX12_follows_198 : decode cX12_follows 198 = .ok (.iload 10, 2) := by decide +kernel
theorem dX12_follows_200 : decode cX12_follows 200 = .ok (.iload 9, 2) := by decide +kernel
theorem dX12_follows_202 : decode cX12_follows 202 = .ok (.if_icmp .eq 27, 3) := by decide +kernel
theorem dX12_follows_205 : decode cX12_follows 205 = .ok (.aload_n 0, 1) := by decide +kernel
theorem dX12_follows_206 : decode cX12_follows 206 = .ok (.getfield 20, 3) := by decide +kernel
theorem dX12_follows_209 : decode cX12_follows 209 = .ok (.bipush 23, 2) := by decide +kernel
theorem dX12_follows_211 : decode cX12_follows 211 = .ok (.iload 9, 2) := by decide +kernel
theorem dX12_follows_213 : decode cX12_follows 213 = .ok (.iadd, 1) := by decide +kernel
theorem dX12_follows_214 : decode cX12_follows 214 = .ok (.iaload, 1) := by decide +kernel
theorem dX12_follows_215 : decode cX12_follows 215 = .ok (.iload 10, 2) := by decide +kernel
theorem dX12_follows_217 : decode cX12_follows 217 = .ok (.invokestatic 236, 3) := by decide +kernel
theorem dX12_follows_220 : decode cX12_follows 220 = .ok (.ifCond .ne 9, 3) := by decide +kernel
theorem dX12_follows_223 : decode cX12_follows 223 = .ok (.aload_n 0, 1) := by decide +kernel
theorem dX12_follows_224 : decode cX12_follows 224 = .ok (.iconst 5, 1) := by decide +kernel
theorem dX12_follows_225 : decode cX12_follows 225 = .ok (.invokevirtual 170, 3) := by decide +kernel
theorem dX12_follows_228 : decode cX12_follows 228 = .ok (.ireturn, 1) := by decide +kernel
theorem dX12_follows_229 : decode cX12_follows 229 = .ok (.aload_n 0, 1) := by decide +kernel
theorem dX12_follows_230 : decode cX12_follows 230 = .ok (.getfield 41, 3) := by decide +kernel
theorem dX12_follows_233 : decode cX12_follows 233 = .ok (.iload 7, 2) := by decide +kernel
theorem dX12_follows_235 : decode cX12_follows 235 = .ok (.iload 10, 2) := by decide +kernel
theorem dX12_follows_237 : decode cX12_follows 237 = .ok (.invokestatic 252, 3) := by decide +kernel
theorem dX12_follows_240 : decode cX12_follows 240 = .ok (.iinc 8 1, 3) := by decide +kernel
theorem dX12_follows_243 : decode cX12_follows 243 = .ok (.goto (-96), 3) := by decide +kernel
theorem dX12_follows_246 : decode cX12_follows 246 = .ok (.aload_n 0, 1) := by decide +kernel
theorem dX12_follows_247 : decode cX12_follows 247 = .ok (.aload_n 0, 1) := by decide +kernel
theorem dX12_follows_248 : decode cX12_follows 248 = .ok (.getfield 41, 3) := by decide +kernel
theorem dX12_follows_251 : decode cX12_follows 251 = .ok (.iload_n 1, 1) := by decide +kernel
theorem dX12_follows_252 : decode cX12_follows 252 = .ok (.invokevirtual 269, 3) := by decide +kernel
theorem dX12_follows_255 : decode cX12_follows 255 = .ok (.ireturn, 1) := by decide +kernel
theorem dX12_lureFrom_0 : decode cX12_lureFrom 0 = .ok (.aload_n 0, 1) := by decide +kernel
theorem dX12_lureFrom_1 : decode cX12_lureFrom 1 = .ok (.getfield 44, 3) := by decide +kernel
theorem dX12_lureFrom_4 : decode cX12_lureFrom 4 = .ok (.bipush 40, 2) := by decide +kernel
theorem dX12_lureFrom_6 : decode cX12_lureFrom 6 = .ok (.iload_n 3, 1) := by decide +kernel
theorem dX12_lureFrom_7 : decode cX12_lureFrom 7 = .ok (.imul, 1) := by decide +kernel
theorem dX12_lureFrom_8 : decode cX12_lureFrom 8 = .ok (.aload_n 0, 1) := by decide +kernel
theorem dX12_lureFrom_9 : decode cX12_lureFrom 9 = .ok (.getfield 47, 3) := by decide +kernel
theorem dX12_lureFrom_12 : decode cX12_lureFrom 12 = .ok (.iconst 0, 1) := by decide +kernel
theorem dX12_lureFrom_13 : decode cX12_lureFrom 13 = .ok (.bipush 40, 2) := by decide +kernel
theorem dX12_lureFrom_15 : decode cX12_lureFrom 15 = .ok (.invokestatic 176, 3) := by decide +kernel
theorem dX12_lureFrom_18 : decode cX12_lureFrom 18 = .ok (.iload 4, 2) := by decide +kernel
theorem dX12_lureFrom_20 : decode cX12_lureFrom 20 = .ok (.ifCond .ne 23, 3) := by decide +kernel
theorem dX12_lureFrom_23 : decode cX12_lureFrom 23 = .ok (.aload_n 0, 1) := by decide +kernel
theorem dX12_lureFrom_24 : decode cX12_lureFrom 24 = .ok (.aload_n 0, 1) := by decide +kernel
theorem dX12_lureFrom_25 : decode cX12_lureFrom 25 = .ok (.getfield 47, 3) := by decide +kernel
theorem dX12_lureFrom_28 : decode cX12_lureFrom 28 = .ok (.iload_n 1, 1) := by decide +kernel
theorem dX12_lureFrom_29 : decode cX12_lureFrom 29 = .ok (.invokevirtual 269, 3) := by decide +kernel
theorem dX12_lureFrom_32 : decode cX12_lureFrom 32 = .ok (.iload_n 2, 1) := by decide +kernel
theorem dX12_lureFrom_33 : decode cX12_lureFrom 33 = .ok (.if_icmp .ne 7, 3) := by decide +kernel
theorem dX12_lureFrom_36 : decode cX12_lureFrom 36 = .ok (.iconst 0, 1) := by decide +kernel
theorem dX12_lureFrom_37 : decode cX12_lureFrom 37 = .ok (.goto 5, 3) := by decide +kernel
theorem dX12_lureFrom_40 : decode cX12_lureFrom 40 = .ok (.bipush (-2), 2) := by decide +kernel
theorem dX12_lureFrom_42 : decode cX12_lureFrom 42 = .ok (.ireturn, 1) := by decide +kernel
theorem dX12_lureFrom_43 : decode cX12_lureFrom 43 = .ok (.aload_n 0, 1) := by decide +kernel
theorem dX12_lureFrom_44 : decode cX12_lureFrom 44 = .ok (.getfield 32, 3) := by decide +kernel
theorem dX12_lureFrom_47 : decode cX12_lureFrom 47 = .ok (.bipush 32, 2) := by decide +kernel
theorem dX12_lureFrom_49 : decode cX12_lureFrom 49 = .ok (.iload_n 1, 1) := by decide +kernel
theorem dX12_lureFrom_50 : decode cX12_lureFrom 50 = .ok (.iadd, 1) := by decide +kernel
theorem dX12_lureFrom_51 : decode cX12_lureFrom 51 = .ok (.iaload, 1) := by decide +kernel
theorem dX12_lureFrom_52 : decode cX12_lureFrom 52 = .ok (.istore 5, 2) := by decide +kernel
theorem dX12_lureFrom_54 : decode cX12_lureFrom 54 = .ok (.aload_n 0, 1) := by decide +kernel
theorem dX12_lureFrom_55 : decode cX12_lureFrom 55 = .ok (.getfield 47, 3) := by decide +kernel
theorem dX12_lureFrom_58 : decode cX12_lureFrom 58 = .ok (.bipush 8, 2) := by decide +kernel
theorem dX12_lureFrom_60 : decode cX12_lureFrom 60 = .ok (.iload 5, 2) := by decide +kernel
theorem dX12_lureFrom_62 : decode cX12_lureFrom 62 = .ok (.imul, 1) := by decide +kernel
theorem dX12_lureFrom_63 : decode cX12_lureFrom 63 = .ok (.iaload, 1) := by decide +kernel
theorem dX12_lureFrom_64 : decode cX12_lureFrom 64 = .ok (.istore 6, 2) := by decide +kernel
theorem dX12_lureFrom_66 : decode cX12_lureFrom 66 = .ok (.iconst 1, 1) := by decide +kernel
theorem dX12_lureFrom_67 : decode cX12_lureFrom 67 = .ok (.istore 7, 2) := by decide +kernel
theorem dX12_lureFrom_69 : decode cX12_lureFrom 69 = .ok (.iconst 1, 1) := by decide +kernel
theorem dX12_lureFrom_70 : decode cX12_lureFrom 70 = .ok (.istore 8, 2) := by decide +kernel
theorem dX12_lureFrom_72 : decode cX12_lureFrom 72 = .ok (.iload 8, 2) := by decide +kernel
theorem dX12_lureFrom_74 : decode cX12_lureFrom 74 = .ok (.iload 4, 2) := by decide +kernel
theorem dX12_lureFrom_76 : decode cX12_lureFrom 76 = .ok (.if_icmp .ge 16, 3) := by decide +kernel
theorem dX12_lureFrom_79 : decode cX12_lureFrom 79 = .ok (.iload 7, 2) := by decide +kernel
theorem dX12_lureFrom_81 : decode cX12_lureFrom 81 = .ok (.bipush 10, 2) := by decide +kernel
theorem dX12_lureFrom_83 : decode cX12_lureFrom 83 = .ok (.imul, 1) := by decide +kernel
theorem dX12_lureFrom_84 : decode cX12_lureFrom 84 = .ok (.istore 7, 2) := by decide +kernel
theorem dX12_lureFrom_86 : decode cX12_lureFrom 86 = .ok (.iinc 8 1, 3) := by decide +kernel
theorem dX12_lureFrom_89 : decode cX12_lureFrom 89 = .ok (.goto (-17), 3) := by decide +kernel
theorem dX12_lureFrom_92 : decode cX12_lureFrom 92 = .ok (.iconst 0, 1) := by decide +kernel
theorem dX12_lureFrom_93 : decode cX12_lureFrom 93 = .ok (.istore 8, 2) := by decide +kernel
theorem dX12_lureFrom_95 : decode cX12_lureFrom 95 = .ok (.iload 8, 2) := by decide +kernel
theorem dX12_lureFrom_97 : decode cX12_lureFrom 97 = .ok (.aload_n 0, 1) := by decide +kernel
theorem dX12_lureFrom_98 : decode cX12_lureFrom 98 = .ok (.getfield 20, 3) := by decide +kernel
theorem dX12_lureFrom_101 : decode cX12_lureFrom 101 = .ok (.iconst 1, 1) := by decide +kernel
theorem dX12_lureFrom_102 : decode cX12_lureFrom 102 = .ok (.iaload, 1) := by decide +kernel
theorem dX12_lureFrom_103 : decode cX12_lureFrom 103 = .ok (.if_icmp .gt 127, 3) := by decide +kernel
theorem dX12_lureFrom_106 : decode cX12_lureFrom 106 = .ok (.iload 8, 2) := by decide +kernel
theorem dX12_lureFrom_108 : decode cX12_lureFrom 108 = .ok (.ifCond .le 26, 3) := by decide +kernel
theorem dX12_lureFrom_111 : decode cX12_lureFrom 111 = .ok (.aload_n 0, 1) := by decide +kernel
theorem dX12_lureFrom_112 : decode cX12_lureFrom 112 = .ok (.getfield 20, 3) := by decide +kernel
theorem dX12_lureFrom_115 : decode cX12_lureFrom 115 = .ok (.bipush 23, 2) := by decide +kernel
theorem dX12_lureFrom_117 : decode cX12_lureFrom 117 = .ok (.iload 6, 2) := by decide +kernel
theorem dX12_lureFrom_119 : decode cX12_lureFrom 119 = .ok (.iadd, 1) := by decide +kernel
theorem dX12_lureFrom_120 : decode cX12_lureFrom 120 = .ok (.iaload, 1) := by decide +kernel
theorem dX12_lureFrom_121 : decode cX12_lureFrom 121 = .ok (.iload 8, 2) := by decide +kernel
theorem dX12_lureFrom_123 : decode cX12_lureFrom 123 = .ok (.iconst 1, 1) := by decide +kernel
theorem dX12_lureFrom_124 : decode cX12_lureFrom 124 = .ok (.isub, 1) := by decide +kernel
theorem dX12_lureFrom_125 : decode cX12_lureFrom 125 = .ok (.invokestatic 236, 3) := by decide +kernel
theorem dX12_lureFrom_128 : decode cX12_lureFrom 128 = .ok (.ifCond .ne 6, 3) := by decide +kernel
theorem dX12_lureFrom_131 : decode cX12_lureFrom 131 = .ok (.goto 93, 3) := by decide +kernel
theorem dX12_lureFrom_134 : decode cX12_lureFrom 134 = .ok (.aload_n 0, 1) := by decide +kernel
theorem dX12_lureFrom_135 : decode cX12_lureFrom 135 = .ok (.getfield 44, 3) := by decide +kernel
theorem dX12_lureFrom_138 : decode cX12_lureFrom 138 = .ok (.bipush 40, 2) := by decide +kernel
theorem dX12_lureFrom_140 : decode cX12_lureFrom 140 = .ok (.iload_n 3, 1) := by decide +kernel
theorem dX12_lureFrom_141 : decode cX12_lureFrom 141 = .ok (.imul, 1) := by decide +kernel
theorem dX12_lureFrom_142 : decode cX12_lureFrom 142 = .ok (.aload_n 0, 1) := by decide +kernel
theorem dX12_lureFrom_143 : decode cX12_lureFrom 143 = .ok (.getfield 47, 3) := by decide +kernel
theorem dX12_lureFrom_146 : decode cX12_lureFrom 146 = .ok (.iconst 0, 1) := by decide +kernel
theorem dX12_lureFrom_147 : decode cX12_lureFrom 147 = .ok (.bipush 40, 2) := by decide +kernel
theorem dX12_lureFrom_149 : decode cX12_lureFrom 149 = .ok (.invokestatic 176, 3) := by decide +kernel
theorem dX12_lureFrom_152 : decode cX12_lureFrom 152 = .ok (.aload_n 0, 1) := by decide +kernel
theorem dX12_lureFrom_153 : decode cX12_lureFrom 153 = .ok (.getfield 47, 3) := by decide +kernel
theorem dX12_lureFrom_156 : decode cX12_lureFrom 156 = .ok (.iload 5, 2) := by decide +kernel
theorem dX12_lureFrom_158 : decode cX12_lureFrom 158 = .ok (.iload 8, 2) := by decide +kernel
theorem dX12_lureFrom_160 : decode cX12_lureFrom 160 = .ok (.ifCond .ne 8, 3) := by decide +kernel
theorem dX12_lureFrom_163 : decode cX12_lureFrom 163 = .ok (.iload 6, 2) := by decide +kernel
theorem dX12_lureFrom_165 : decode cX12_lureFrom 165 = .ok (.goto 7, 3) := by decide +kernel
theorem dX12_lureFrom_168 : decode cX12_lureFrom 168 = .ok (.iload 8, 2) := by decide +kernel
theorem dX12_lureFrom_170 : decode cX12_lureFrom 170 = .ok (.iconst 1, 1) := by decide +kernel
theorem dX12_lureFrom_171 : decode cX12_lureFrom 171 = .ok (.isub, 1) := by decide +kernel
theorem dX12_lureFrom_172 : decode cX12_lureFrom 172 = .ok (.invokestatic 252, 3) := by decide +kernel
theorem dX12_lureFrom_175 : decode cX12_lureFrom 175 = .ok (.aload_n 0, 1) := by decide +kernel
theorem dX12_lureFrom_176 : decode cX12_lureFrom 176 = .ok (.getfield 47, 3) := by decide +kernel
theorem dX12_lureFrom_179 : decode cX12_lureFrom 179 = .ok (.iconst 0, 1) := by decide +kernel
theorem dX12_lureFrom_180 : decode cX12_lureFrom 180 = .ok (.aload_n 0, 1) := by decide +kernel
theorem dX12_lureFrom_181 : decode cX12_lureFrom 181 = .ok (.getfield 44, 3) := by decide +kernel
theorem dX12_lureFrom_184 : decode cX12_lureFrom 184 = .ok (.bipush 40, 2) := by decide +kernel
theorem dX12_lureFrom_186 : decode cX12_lureFrom 186 = .ok (.iload_n 3, 1) := by decide +kernel
theorem dX12_lureFrom_187 : decode cX12_lureFrom 187 = .ok (.iconst 1, 1) := by decide +kernel
theorem dX12_lureFrom_188 : decode cX12_lureFrom 188 = .ok (.iadd, 1) := by decide +kernel
theorem dX12_lureFrom_189 : decode cX12_lureFrom 189 = .ok (.imul, 1) := by decide +kernel
theorem dX12_lureFrom_190 : decode cX12_lureFrom 190 = .ok (.bipush 40, 2) := by decide +kernel
theorem dX12_lureFrom_192 : decode cX12_lureFrom 192 = .ok (.invokestatic 176, 3) := by decide +kernel
theorem dX12_lureFrom_195 : decode cX12_lureFrom 195 = .ok (.aload_n 0, 1) := by decide +kernel
theorem dX12_lureFrom_196 : decode cX12_lureFrom 196 = .ok (.iload_n 1, 1) := by decide +kernel
theorem dX12_lureFrom_197 : decode cX12_lureFrom 197 = .ok (.iload_n 2, 1) := by decide +kernel
theorem dX12_lureFrom_198 : decode cX12_lureFrom 198 = .ok (.iload_n 3, 1) := by decide +kernel
theorem dX12_lureFrom_199 : decode cX12_lureFrom 199 = .ok (.iconst 1, 1) := by decide +kernel
theorem dX12_lureFrom_200 : decode cX12_lureFrom 200 = .ok (.iadd, 1) := by decide +kernel
theorem dX12_lureFrom_201 : decode cX12_lureFrom 201 = .ok (.iload 4, 2) := by decide +kernel
theorem dX12_lureFrom_203 : decode cX12_lureFrom 203 = .ok (.iconst 1, 1) := by decide +kernel
theorem dX12_lureFrom_204 : decode cX12_lureFrom 204 = .ok (.isub, 1) := by decide +kernel
theorem dX12_lureFrom_205 : decode cX12_lureFrom 205 = .ok (.invokevirtual 323, 3) := by decide +kernel
theorem dX12_lureFrom_208 : decode cX12_lureFrom 208 = .ok (.istore 9, 2) := by decide +kernel
theorem dX12_lureFrom_210 : decode cX12_lureFrom 210 = .ok (.iload 9, 2) := by decide +kernel
theorem dX12_lureFrom_212 : decode cX12_lureFrom 212 = .ok (.ifCond .lt 12, 3) := by decide +kernel
theorem dX12_lureFrom_215 : decode cX12_lureFrom 215 = .ok (.iload 7, 2) := by decide +kernel
theorem dX12_lureFrom_217 : decode cX12_lureFrom 217 = .ok (.iload 8, 2) := by decide +kernel
theorem dX12_lureFrom_219 : decode cX12_lureFrom 219 = .ok (.imul, 1) := by decide +kernel
theorem dX12_lureFrom_220 : decode cX12_lureFrom 220 = .ok (.iload 9, 2) := by decide +kernel
theorem dX12_lureFrom_222 : decode cX12_lureFrom 222 = .ok (.iadd, 1) := by decide +kernel
theorem dX12_lureFrom_223 : decode cX12_lureFrom 223 = .ok (.ireturn, 1) := by decide +kernel
theorem dX12_lureFrom_224 : decode cX12_lureFrom 224 = .ok (.iinc 8 1, 3) := by decide +kernel
theorem dX12_lureFrom_227 : decode cX12_lureFrom 227 = .ok (.goto (-132), 3) := by decide +kernel
theorem dX12_lureFrom_230 : decode cX12_lureFrom 230 = .ok (.bipush (-2), 2) := by decide +kernel
theorem dX12_lureFrom_232 : decode cX12_lureFrom 232 = .ok (.ireturn, 1) := by decide +kernel
theorem dX12_lureOf_0 : decode cX12_lureOf 0 = .ok (.aload_n 0, 1) := by decide +kernel
theorem dX12_lureOf_1 : decode cX12_lureOf 1 = .ok (.getfield 32, 3) := by decide +kernel
theorem dX12_lureOf_4 : decode cX12_lureOf 4 = .ok (.iconst 0, 1) := by decide +kernel
theorem dX12_lureOf_5 : decode cX12_lureOf 5 = .ok (.aload_n 0, 1) := by decide +kernel
theorem dX12_lureOf_6 : decode cX12_lureOf 6 = .ok (.getfield 44, 3) := by decide +kernel
theorem dX12_lureOf_9 : decode cX12_lureOf 9 = .ok (.iconst 0, 1) := by decide +kernel
theorem dX12_lureOf_10 : decode cX12_lureOf 10 = .ok (.bipush 40, 2) := by decide +kernel
theorem dX12_lureOf_12 : decode cX12_lureOf 12 = .ok (.invokestatic 176, 3) := by decide +kernel
theorem dX12_lureOf_15 : decode cX12_lureOf 15 = .ok (.aload_n 0, 1) := by decide +kernel
theorem dX12_lureOf_16 : decode cX12_lureOf 16 = .ok (.iconst 0, 1) := by decide +kernel
theorem dX12_lureOf_17 : decode cX12_lureOf 17 = .ok (.putfield 327, 3) := by decide +kernel
theorem dX12_lureOf_20 : decode cX12_lureOf 20 = .ok (.aload_n 0, 1) := by decide +kernel
theorem dX12_lureOf_21 : decode cX12_lureOf 21 = .ok (.getfield 327, 3) := by decide +kernel
theorem dX12_lureOf_24 : decode cX12_lureOf 24 = .ok (.iconst 5, 1) := by decide +kernel
theorem dX12_lureOf_25 : decode cX12_lureOf 25 = .ok (.if_icmp .gt 34, 3) := by decide +kernel
theorem dX12_lureOf_28 : decode cX12_lureOf 28 = .ok (.aload_n 0, 1) := by decide +kernel
theorem dX12_lureOf_29 : decode cX12_lureOf 29 = .ok (.iload_n 1, 1) := by decide +kernel
theorem dX12_lureOf_30 : decode cX12_lureOf 30 = .ok (.iload_n 2, 1) := by decide +kernel
theorem dX12_lureOf_31 : decode cX12_lureOf 31 = .ok (.iconst 0, 1) := by decide +kernel
theorem dX12_lureOf_32 : decode cX12_lureOf 32 = .ok (.aload_n 0, 1) := by decide +kernel
theorem dX12_lureOf_33 : decode cX12_lureOf 33 = .ok (.getfield 327, 3) := by decide +kernel
theorem dX12_lureOf_36 : decode cX12_lureOf 36 = .ok (.invokevirtual 323, 3) := by decide +kernel
theorem dX12_lureOf_39 : decode cX12_lureOf 39 = .ok (.istore_n 3, 1) := by decide +kernel
theorem dX12_lureOf_40 : decode cX12_lureOf 40 = .ok (.iload_n 3, 1) := by decide +kernel
theorem dX12_lureOf_41 : decode cX12_lureOf 41 = .ok (.ifCond .lt 5, 3) := by decide +kernel
theorem dX12_lureOf_44 : decode cX12_lureOf 44 = .ok (.iload_n 3, 1) := by decide +kernel
theorem dX12_lureOf_45 : decode cX12_lureOf 45 = .ok (.ireturn, 1) := by decide +kernel
theorem dX12_lureOf_46 : decode cX12_lureOf 46 = .ok (.aload_n 0, 1) := by decide +kernel
theorem dX12_lureOf_47 : decode cX12_lureOf 47 = .ok (.dup, 1) := by decide +kernel
theorem dX12_lureOf_48 : decode cX12_lureOf 48 = .ok (.getfield 327, 3) := by decide +kernel
theorem dX12_lureOf_51 : decode cX12_lureOf 51 = .ok (.iconst 1, 1) := by decide +kernel
theorem dX12_lureOf_52 : decode cX12_lureOf 52 = .ok (.iadd, 1) := by decide +kernel
theorem dX12_lureOf_53 : decode cX12_lureOf 53 = .ok (.putfield 327, 3) := by decide +kernel
theorem dX12_lureOf_56 : decode cX12_lureOf 56 = .ok (.goto (-36), 3) := by decide +kernel
theorem dX12_lureOf_59 : decode cX12_lureOf 59 = .ok (.bipush (-2), 2) := by decide +kernel
theorem dX12_lureOf_61 : decode cX12_lureOf 61 = .ok (.ireturn, 1) := by decide +kernel
theorem dX12_lure_0 : decode cX12_lure 0 = .ok (.aload_n 0, 1) := by decide +kernel
theorem dX12_lure_1 : decode cX12_lure 1 = .ok (.invokevirtual 167, 3) := by decide +kernel
theorem dX12_lure_4 : decode cX12_lure 4 = .ok (.aload_n 0, 1) := by decide +kernel
theorem dX12_lure_5 : decode cX12_lure 5 = .ok (.iload_n 1, 1) := by decide +kernel
theorem dX12_lure_6 : decode cX12_lure 6 = .ok (.invokevirtual 300, 3) := by decide +kernel
theorem dX12_lure_9 : decode cX12_lure 9 = .ok (.ifCond .eq 11, 3) := by decide +kernel
theorem dX12_lure_12 : decode cX12_lure 12 = .ok (.aload_n 0, 1) := by decide +kernel
theorem dX12_lure_13 : decode cX12_lure 13 = .ok (.iload_n 2, 1) := by decide +kernel
theorem dX12_lure_14 : decode cX12_lure 14 = .ok (.invokevirtual 279, 3) := by decide +kernel
theorem dX12_lure_17 : decode cX12_lure 17 = .ok (.ifCond .ne 9, 3) := by decide +kernel
theorem dX12_lure_20 : decode cX12_lure 20 = .ok (.aload_n 0, 1) := by decide +kernel
theorem dX12_lure_21 : decode cX12_lure 21 = .ok (.iconst 1, 1) := by decide +kernel
theorem dX12_lure_22 : decode cX12_lure 22 = .ok (.invokevirtual 170, 3) := by decide +kernel
theorem dX12_lure_25 : decode cX12_lure 25 = .ok (.ireturn, 1) := by decide +kernel
theorem dX12_lure_26 : decode cX12_lure 26 = .ok (.aload_n 0, 1) := by decide +kernel
theorem dX12_lure_27 : decode cX12_lure 27 = .ok (.iload_n 1, 1) := by decide +kernel
theorem dX12_lure_28 : decode cX12_lure 28 = .ok (.iload_n 2, 1) := by decide +kernel
theorem dX12_lure_29 : decode cX12_lure 29 = .ok (.invokevirtual 330, 3) := by decide +kernel
theorem dX12_lure_32 : decode cX12_lure 32 = .ok (.ifCond .ge 8, 3) := by decide +kernel
theorem dX12_lure_35 : decode cX12_lure 35 = .ok (.bipush (-2), 2) := by decide +kernel
theorem dX12_lure_37 : decode cX12_lure 37 = .ok (.goto 7, 3) := by decide +kernel
theorem dX12_lure_40 : decode cX12_lure 40 = .ok (.aload_n 0, 1) := by decide +kernel
theorem dX12_lure_41 : decode cX12_lure 41 = .ok (.getfield 327, 3) := by decide +kernel
theorem dX12_lure_44 : decode cX12_lure 44 = .ok (.ireturn, 1) := by decide +kernel
theorem dX12_lureRow_0 : decode cX12_lureRow 0 = .ok (.aload_n 0, 1) := by decide +kernel
theorem dX12_lureRow_1 : decode cX12_lureRow 1 = .ok (.invokevirtual 167, 3) := by decide +kernel
theorem dX12_lureRow_4 : decode cX12_lureRow 4 = .ok (.aload_n 0, 1) := by decide +kernel
theorem dX12_lureRow_5 : decode cX12_lureRow 5 = .ok (.iload_n 1, 1) := by decide +kernel
theorem dX12_lureRow_6 : decode cX12_lureRow 6 = .ok (.invokevirtual 300, 3) := by decide +kernel
theorem dX12_lureRow_9 : decode cX12_lureRow 9 = .ok (.ifCond .eq 20, 3) := by decide +kernel
theorem dX12_lureRow_12 : decode cX12_lureRow 12 = .ok (.aload_n 0, 1) := by decide +kernel
theorem dX12_lureRow_13 : decode cX12_lureRow 13 = .ok (.iload_n 2, 1) := by decide +kernel
theorem dX12_lureRow_14 : decode cX12_lureRow 14 = .ok (.invokevirtual 279, 3) := by decide +kernel
theorem dX12_lureRow_17 : decode cX12_lureRow 17 = .ok (.ifCond .eq 12, 3) := by decide +kernel
theorem dX12_lureRow_20 : decode cX12_lureRow 20 = .ok (.aload_n 0, 1) := by decide +kernel
theorem dX12_lureRow_21 : decode cX12_lureRow 21 = .ok (.iload_n 1, 1) := by decide +kernel
theorem dX12_lureRow_22 : decode cX12_lureRow 22 = .ok (.iload_n 2, 1) := by decide +kernel
theorem dX12_lureRow_23 : decode cX12_lureRow 23 = .ok (.invokevirtual 330, 3) := by decide +kernel
theorem dX12_lureRow_26 : decode cX12_lureRow 26 = .ok (.goto 8, 3) := by decide +kernel
theorem dX12_lureRow_29 : decode cX12_lureRow 29 = .ok (.aload_n 0, 1) := by decide +kernel
theorem dX12_lureRow_30 : decode cX12_lureRow 30 = .ok (.iconst 1, 1) := by decide +kernel
theorem dX12_lureRow_31 : decode cX12_lureRow 31 = .ok (.invokevirtual 170, 3) := by decide +kernel
theorem dX12_lureRow_34 : decode cX12_lureRow 34 = .ok (.ireturn, 1) := by decide +kernel
theorem dX12_lures_0 : decode cX12_lures 0 = .ok (.aload_n 0, 1) := by decide +kernel
theorem dX12_lures_1 : decode cX12_lures 1 = .ok (.invokevirtual 167, 3) := by decide +kernel
theorem dX12_lures_4 : decode cX12_lures 4 = .ok (.aload_n 0, 1) := by decide +kernel
theorem dX12_lures_5 : decode cX12_lures 5 = .ok (.aload_n 0, 1) := by decide +kernel
theorem dX12_lures_6 : decode cX12_lures 6 = .ok (.iload_n 1, 1) := by decide +kernel
theorem dX12_lures_7 : decode cX12_lures 7 = .ok (.invokevirtual 300, 3) := by decide +kernel
theorem dX12_lures_10 : decode cX12_lures 10 = .ok (.iload_n 2, 1) := by decide +kernel
theorem dX12_lures_11 : decode cX12_lures 11 = .ok (.iconst 0, 1) := by decide +kernel
theorem dX12_lures_12 : decode cX12_lures 12 = .ok (.iconst 5, 1) := by decide +kernel
theorem dX12_lures_13 : decode cX12_lures 13 = .ok (.invokestatic 146, 3) := by decide +kernel
theorem dX12_lures_16 : decode cX12_lures 16 = .ok (.invokevirtual 303, 3) := by decide +kernel
theorem dX12_lures_19 : decode cX12_lures 19 = .ok (.istore_n 3, 1) := by decide +kernel
theorem dX12_lures_20 : decode cX12_lures 20 = .ok (.iload_n 3, 1) := by decide +kernel
theorem dX12_lures_21 : decode cX12_lures 21 = .ok (.ifCond .eq 9, 3) := by decide +kernel
theorem dX12_lures_24 : decode cX12_lures 24 = .ok (.aload_n 0, 1) := by decide +kernel
theorem dX12_lures_25 : decode cX12_lures 25 = .ok (.iload_n 3, 1) := by decide +kernel
theorem dX12_lures_26 : decode cX12_lures 26 = .ok (.invokevirtual 170, 3) := by decide +kernel
theorem dX12_lures_29 : decode cX12_lures 29 = .ok (.ireturn, 1) := by decide +kernel
theorem dX12_lures_30 : decode cX12_lures 30 = .ok (.iconst 0, 1) := by decide +kernel
theorem dX12_lures_31 : decode cX12_lures 31 = .ok (.istore 4, 2) := by decide +kernel
theorem dX12_lures_33 : decode cX12_lures 33 = .ok (.iconst 0, 1) := by decide +kernel
theorem dX12_lures_34 : decode cX12_lures 34 = .ok (.istore 5, 2) := by decide +kernel
theorem dX12_lures_36 : decode cX12_lures 36 = .ok (.iload 5, 2) := by decide +kernel
theorem dX12_lures_38 : decode cX12_lures 38 = .ok (.aload_n 0, 1) := by decide +kernel
theorem dX12_lures_39 : decode cX12_lures 39 = .ok (.getfield 20, 3) := by decide +kernel
theorem dX12_lures_42 : decode cX12_lures 42 = .ok (.iconst 1, 1) := by decide +kernel
theorem dX12_lures_43 : decode cX12_lures 43 = .ok (.iaload, 1) := by decide +kernel
theorem dX12_lures_44 : decode cX12_lures 44 = .ok (.if_icmp .ge 40, 3) := by decide +kernel
theorem dX12_lures_47 : decode cX12_lures 47 = .ok (.iload 4, 2) := by decide +kernel
theorem dX12_lures_49 : decode cX12_lures 49 = .ok (.aload_n 0, 1) := by decide +kernel
theorem dX12_lures_50 : decode cX12_lures 50 = .ok (.iload_n 1, 1) := by decide +kernel
theorem dX12_lures_51 : decode cX12_lures 51 = .ok (.iload 5, 2) := by decide +kernel
theorem dX12_lures_53 : decode cX12_lures 53 = .ok (.invokevirtual 330, 3) := by decide +kernel
theorem dX12_lures_56 : decode cX12_lures 56 = .ok (.ifCond .lt 18, 3) := by decide +kernel
theorem dX12_lures_59 : decode cX12_lures 59 = .ok (.aload_n 0, 1) := by decide +kernel
theorem dX12_lures_60 : decode cX12_lures 60 = .ok (.getfield 327, 3) := by decide +kernel
theorem dX12_lures_63 : decode cX12_lures 63 = .ok (.iload_n 2, 1) := by decide +kernel
theorem dX12_lures_64 : decode cX12_lures 64 = .ok (.if_icmp .gt 10, 3) := by decide +kernel
theorem dX12_lures_67 : decode cX12_lures 67 = .ok (.iconst 1, 1) := by decide +kernel
theorem dX12_lures_68 : decode cX12_lures 68 = .ok (.iload 5, 2) := by decide +kernel
theorem dX12_lures_70 : decode cX12_lures 70 = .ok (.ishl, 1) := by decide +kernel
theorem dX12_lures_71 : decode cX12_lures 71 = .ok (.goto 4, 3) := by decide +kernel
theorem dX12_lures_74 : decode cX12_lures 74 = .ok (.iconst 0, 1) := by decide +kernel
theorem dX12_lures_75 : decode cX12_lures 75 = .ok (.ior, 1) := by decide +kernel
theorem dX12_lures_76 : decode cX12_lures 76 = .ok (.istore 4, 2) := by decide +kernel
theorem dX12_lures_78 : decode cX12_lures 78 = .ok (.iinc 5 1, 3) := by decide +kernel
theorem dX12_lures_81 : decode cX12_lures 81 = .ok (.goto (-45), 3) := by decide +kernel
theorem dX12_lures_84 : decode cX12_lures 84 = .ok (.iload 4, 2) := by decide +kernel
theorem dX12_lures_86 : decode cX12_lures 86 = .ok (.ireturn, 1) := by decide +kernel
theorem dX12_farOf_0 : decode cX12_farOf 0 = .ok (.aload_n 0, 1) := by decide +kernel
theorem dX12_farOf_1 : decode cX12_farOf 1 = .ok (.aload_n 0, 1) := by decide +kernel
theorem dX12_farOf_2 : decode cX12_farOf 2 = .ok (.getfield 32, 3) := by decide +kernel
theorem dX12_farOf_5 : decode cX12_farOf 5 = .ok (.iload_n 2, 1) := by decide +kernel
theorem dX12_farOf_6 : decode cX12_farOf 6 = .ok (.invokevirtual 269, 3) := by decide +kernel
theorem dX12_farOf_9 : decode cX12_farOf 9 = .ok (.istore_n 3, 1) := by decide +kernel
theorem dX12_farOf_10 : decode cX12_farOf 10 = .ok (.iload_n 3, 1) := by decide +kernel
theorem dX12_farOf_11 : decode cX12_farOf 11 = .ok (.ifCond .ge 8, 3) := by decide +kernel
theorem dX12_farOf_14 : decode cX12_farOf 14 = .ok (.bipush (-2), 2) := by decide +kernel
theorem dX12_farOf_16 : decode cX12_farOf 16 = .ok (.goto 18, 3) := by decide +kernel
theorem dX12_farOf_19 : decode cX12_farOf 19 = .ok (.aload_n 0, 1) := by decide +kernel
theorem dX12_farOf_20 : decode cX12_farOf 20 = .ok (.aload_n 0, 1) := by decide +kernel
theorem dX12_farOf_21 : decode cX12_farOf 21 = .ok (.getfield 32, 3) := by decide +kernel
theorem dX12_farOf_24 : decode cX12_farOf 24 = .ok (.bipush 8, 2) := by decide +kernel
theorem dX12_farOf_26 : decode cX12_farOf 26 = .ok (.iload_n 1, 1) := by decide +kernel
theorem dX12_farOf_27 : decode cX12_farOf 27 = .ok (.imul, 1) := by decide +kernel
theorem dX12_farOf_28 : decode cX12_farOf 28 = .ok (.iaload, 1) := by decide +kernel
theorem dX12_farOf_29 : decode cX12_farOf 29 = .ok (.iload_n 3, 1) := by decide +kernel
theorem dX12_farOf_30 : decode cX12_farOf 30 = .ok (.iconst 0, 1) := by decide +kernel
theorem dX12_farOf_31 : decode cX12_farOf 31 = .ok (.invokevirtual 310, 3) := by decide +kernel
theorem dX12_farOf_34 : decode cX12_farOf 34 = .ok (.istore 4, 2) := by decide +kernel
theorem dX12_farOf_36 : decode cX12_farOf 36 = .ok (.iload 4, 2) := by decide +kernel
theorem dX12_farOf_38 : decode cX12_farOf 38 = .ok (.ifCond .ge 9, 3) := by decide +kernel
theorem dX12_farOf_41 : decode cX12_farOf 41 = .ok (.ldc_w 333, 3) := by decide +kernel
theorem dX12_farOf_44 : decode cX12_farOf 44 = .ok (.goto 5, 3) := by decide +kernel
theorem dX12_farOf_47 : decode cX12_farOf 47 = .ok (.iload 4, 2) := by decide +kernel
theorem dX12_farOf_49 : decode cX12_farOf 49 = .ok (.ireturn, 1) := by decide +kernel
theorem dX12_isCompany_0 : decode cX12_isCompany 0 = .ok (.iconst 0, 1) := by decide +kernel
theorem dX12_isCompany_1 : decode cX12_isCompany 1 = .ok (.istore_n 3, 1) := by decide +kernel
theorem dX12_isCompany_2 : decode cX12_isCompany 2 = .ok (.iload_n 3, 1) := by decide +kernel
theorem dX12_isCompany_3 : decode cX12_isCompany 3 = .ok (.aload_n 0, 1) := by decide +kernel
theorem dX12_isCompany_4 : decode cX12_isCompany 4 = .ok (.getfield 20, 3) := by decide +kernel
theorem dX12_isCompany_7 : decode cX12_isCompany 7 = .ok (.iconst 3, 1) := by decide +kernel
theorem dX12_isCompany_8 : decode cX12_isCompany 8 = .ok (.iaload, 1) := by decide +kernel
theorem dX12_isCompany_9 : decode cX12_isCompany 9 = .ok (.if_icmp .ge 71, 3) := by decide +kernel
theorem dX12_isCompany_12 : decode cX12_isCompany 12 = .ok (.iconst 0, 1) := by decide +kernel
theorem dX12_isCompany_13 : decode cX12_isCompany 13 = .ok (.istore 4, 2) := by decide +kernel
theorem dX12_isCompany_15 : decode cX12_isCompany 15 = .ok (.iconst 0, 1) := by decide +kernel
theorem dX12_isCompany_16 : decode cX12_isCompany 16 = .ok (.istore 5, 2) := by decide +kernel
theorem dX12_isCompany_18 : decode cX12_isCompany 18 = .ok (.iload 5, 2) := by decide +kernel
theorem dX12_isCompany_20 : decode cX12_isCompany 20 = .ok (.aload_n 0, 1) := by decide +kernel
theorem dX12_isCompany_21 : decode cX12_isCompany 21 = .ok (.getfield 20, 3) := by decide +kernel
theorem dX12_isCompany_24 : decode cX12_isCompany 24 = .ok (.iconst 4, 1) := by decide +kernel
theorem dX12_isCompany_25 : decode cX12_isCompany 25 = .ok (.iaload, 1) := by decide +kernel
theorem dX12_isCompany_26 : decode cX12_isCompany 26 = .ok (.if_icmp .ge 41, 3) := by decide +kernel
theorem dX12_isCompany_29 : decode cX12_isCompany 29 = .ok (.iload 4, 2) := by decide +kernel
theorem dX12_isCompany_31 : decode cX12_isCompany 31 = .ok (.ifCond .ne 23, 3) := by decide +kernel
theorem dX12_isCompany_34 : decode cX12_isCompany 34 = .ok (.iload_n 1, 1) := by decide +kernel
theorem dX12_isCompany_35 : decode cX12_isCompany 35 = .ok (.iload 5, 2) := by decide +kernel
theorem dX12_isCompany_37 : decode cX12_isCompany 37 = .ok (.invokestatic 236, 3) := by decide +kernel
theorem dX12_isCompany_40 : decode cX12_isCompany 40 = .ok (.ifCond .eq 18, 3) := by decide +kernel
theorem dX12_isCompany_43 : decode cX12_isCompany 43 = .ok (.aload_n 0, 1) := by decide +kernel
theorem dX12_isCompany_44 : decode cX12_isCompany 44 = .ok (.iload_n 3, 1) := by decide +kernel
theorem dX12_isCompany_45 : decode cX12_isCompany 45 = .ok (.iload 5, 2) := by decide +kernel
theorem dX12_isCompany_47 : decode cX12_isCompany 47 = .ok (.invokevirtual 334, 3) := by decide +kernel
theorem dX12_isCompany_50 : decode cX12_isCompany 50 = .ok (.iload_n 2, 1) := by decide +kernel
theorem dX12_isCompany_51 : decode cX12_isCompany 51 = .ok (.if_icmp .gt 7, 3) := by decide +kernel
theorem dX12_isCompany_54 : decode cX12_isCompany 54 = .ok (.iconst 1, 1) := by decide +kernel
theorem dX12_isCompany_55 : decode cX12_isCompany 55 = .ok (.goto 4, 3) := by decide +kernel
theorem dX12_isCompany_58 : decode cX12_isCompany 58 = .ok (.iconst 0, 1) := by decide +kernel
theorem dX12_isCompany_59 : decode cX12_isCompany 59 = .ok (.istore 4, 2) := by decide +kernel
theorem dX12_isCompany_61 : decode cX12_isCompany 61 = .ok (.iinc 5 1, 3) := by decide +kernel
theorem dX12_isCompany_64 : decode cX12_isCompany 64 = .ok (.goto (-46), 3) := by decide +kernel
theorem dX12_isCompany_67 : decode cX12_isCompany 67 = .ok (.iload 4, 2) := by decide +kernel
theorem dX12_isCompany_69 : decode cX12_isCompany 69 = .ok (.ifCond .ne 5, 3) := by decide +kernel
theorem dX12_isCompany_72 : decode cX12_isCompany 72 = .ok (.iconst 0, 1) := by decide +kernel
theorem dX12_isCompany_73 : decode cX12_isCompany 73 = .ok (.ireturn, 1) := by decide +kernel
theorem dX12_isCompany_74 : decode cX12_isCompany 74 = .ok (.iinc 3 1, 3) := by decide +kernel
theorem dX12_isCompany_77 : decode cX12_isCompany 77 = .ok (.goto (-75), 3) := by decide +kernel
theorem dX12_isCompany_80 : decode cX12_isCompany 80 = .ok (.iconst 1, 1) := by decide +kernel
theorem dX12_isCompany_81 : decode cX12_isCompany 81 = .ok (.ireturn, 1) := by decide +kernel
theorem dX12_company_0 : decode cX12_company 0 = .ok (.aload_n 0, 1) := by decide +kernel
theorem dX12_company_1 : decode cX12_company 1 = .ok (.invokevirtual 167, 3) := by decide +kernel
theorem dX12_company_4 : decode cX12_company 4 = .ok (.aload_n 0, 1) := by decide +kernel
theorem dX12_company_5 : decode cX12_company 5 = .ok (.aload_n 0, 1) := by decide +kernel
theorem dX12_company_6 : decode cX12_company 6 = .ok (.getfield 180, 3) := by decide +kernel
theorem dX12_company_9 : decode cX12_company 9 = .ok (.iload_n 1, 1) := by decide +kernel
theorem dX12_company_10 : decode cX12_company 10 = .ok (.iconst 0, 1) := by decide +kernel
theorem dX12_company_11 : decode cX12_company 11 = .ok (.bipush 7, 2) := by decide +kernel
theorem dX12_company_13 : decode cX12_company 13 = .ok (.invokestatic 146, 3) := by decide +kernel
theorem dX12_company_16 : decode cX12_company 16 = .ok (.invokevirtual 303, 3) := by decide +kernel
theorem dX12_company_19 : decode cX12_company 19 = .ok (.istore_n 2, 1) := by decide +kernel
theorem dX12_company_20 : decode cX12_company 20 = .ok (.iload_n 2, 1) := by decide +kernel
theorem dX12_company_21 : decode cX12_company 21 = .ok (.ifCond .eq 9, 3) := by decide +kernel
theorem dX12_company_24 : decode cX12_company 24 = .ok (.aload_n 0, 1) := by decide +kernel
theorem dX12_company_25 : decode cX12_company 25 = .ok (.iload_n 2, 1) := by decide +kernel
theorem dX12_company_26 : decode cX12_company 26 = .ok (.invokevirtual 170, 3) := by decide +kernel
theorem dX12_company_29 : decode cX12_company 29 = .ok (.ireturn, 1) := by decide +kernel
theorem dX12_company_30 : decode cX12_company 30 = .ok (.bipush (-2), 2) := by decide +kernel
theorem dX12_company_32 : decode cX12_company 32 = .ok (.istore_n 3, 1) := by decide +kernel
theorem dX12_company_33 : decode cX12_company 33 = .ok (.iconst 0, 1) := by decide +kernel
theorem dX12_company_34 : decode cX12_company 34 = .ok (.istore 4, 2) := by decide +kernel
theorem dX12_company_36 : decode cX12_company 36 = .ok (.iload 4, 2) := by decide +kernel
theorem dX12_company_38 : decode cX12_company 38 = .ok (.iconst 1, 1) := by decide +kernel
theorem dX12_company_39 : decode cX12_company 39 = .ok (.aload_n 0, 1) := by decide +kernel
theorem dX12_company_40 : decode cX12_company 40 = .ok (.getfield 20, 3) := by decide +kernel
theorem dX12_company_43 : decode cX12_company 43 = .ok (.iconst 4, 1) := by decide +kernel
theorem dX12_company_44 : decode cX12_company 44 = .ok (.iaload, 1) := by decide +kernel
theorem dX12_company_45 : decode cX12_company 45 = .ok (.ishl, 1) := by decide +kernel
theorem dX12_company_46 : decode cX12_company 46 = .ok (.if_icmp .ge 38, 3) := by decide +kernel
theorem dX12_company_49 : decode cX12_company 49 = .ok (.iload_n 3, 1) := by decide +kernel
theorem dX12_company_50 : decode cX12_company 50 = .ok (.ifCond .lt 15, 3) := by decide +kernel
theorem dX12_company_53 : decode cX12_company 53 = .ok (.iload 4, 2) := by decide +kernel
theorem dX12_company_55 : decode cX12_company 55 = .ok (.invokestatic 276, 3) := by decide +kernel
theorem dX12_company_58 : decode cX12_company 58 = .ok (.iload_n 3, 1) := by decide +kernel
theorem dX12_company_59 : decode cX12_company 59 = .ok (.invokestatic 276, 3) := by decide +kernel
theorem dX12_company_62 : decode cX12_company 62 = .ok (.if_icmp .ge 16, 3) := by decide +kernel
theorem dX12_company_65 : decode cX12_company 65 = .ok (.aload_n 0, 1) := by decide +kernel
theorem dX12_company_66 : decode cX12_company 66 = .ok (.iload 4, 2) := by decide +kernel
theorem dX12_company_68 : decode cX12_company 68 = .ok (.iload_n 1, 1) := by decide +kernel
theorem dX12_company_69 : decode cX12_company 69 = .ok (.invokevirtual 337, 3) := by decide +kernel
theorem dX12_company_72 : decode cX12_company 72 = .ok (.ifCond .eq 6, 3) := by decide +kernel
theorem dX12_company_75 : decode cX12_company 75 = .ok (.iload 4, 2) := by decide +kernel
theorem dX12_company_77 : decode cX12_company 77 = .ok (.istore_n 3, 1) := by decide +kernel
theorem dX12_company_78 : decode cX12_company 78 = .ok (.iinc 4 1, 3) := by decide +kernel
theorem dX12_company_81 : decode cX12_company 81 = .ok (.goto (-45), 3) := by decide +kernel
theorem dX12_company_84 : decode cX12_company 84 = .ok (.iload_n 3, 1) := by decide +kernel
theorem dX12_company_85 : decode cX12_company 85 = .ok (.ireturn, 1) := by decide +kernel
theorem dX12_nearestOf_0 : decode cX12_nearestOf 0 = .ok (.ldc_w 333, 3) := by decide +kernel
theorem dX12_nearestOf_3 : decode cX12_nearestOf 3 = .ok (.istore_n 2, 1) := by decide +kernel
theorem dX12_nearestOf_4 : decode cX12_nearestOf 4 = .ok (.iconst 0, 1) := by decide +kernel
theorem dX12_nearestOf_5 : decode cX12_nearestOf 5 = .ok (.istore_n 3, 1) := by decide +kernel
theorem dX12_nearestOf_6 : decode cX12_nearestOf 6 = .ok (.iload_n 3, 1) := by decide +kernel
theorem dX12_nearestOf_7 : decode cX12_nearestOf 7 = .ok (.aload_n 0, 1) := by decide +kernel
theorem dX12_nearestOf_8 : decode cX12_nearestOf 8 = .ok (.getfield 20, 3) := by decide +kernel
theorem dX12_nearestOf_11 : decode cX12_nearestOf 11 = .ok (.iconst 4, 1) := by decide +kernel
theorem dX12_nearestOf_12 : decode cX12_nearestOf 12 = .ok (.iaload, 1) := by decide +kernel
theorem dX12_nearestOf_13 : decode cX12_nearestOf 13 = .ok (.if_icmp .ge 30, 3) := by decide +kernel
theorem dX12_nearestOf_16 : decode cX12_nearestOf 16 = .ok (.aload_n 0, 1) := by decide +kernel
theorem dX12_nearestOf_17 : decode cX12_nearestOf 17 = .ok (.iload_n 1, 1) := by decide +kernel
theorem dX12_nearestOf_18 : decode cX12_nearestOf 18 = .ok (.iload_n 3, 1) := by decide +kernel
theorem dX12_nearestOf_19 : decode cX12_nearestOf 19 = .ok (.invokevirtual 334, 3) := by decide +kernel
theorem dX12_nearestOf_22 : decode cX12_nearestOf 22 = .ok (.iload_n 2, 1) := by decide +kernel
theorem dX12_nearestOf_23 : decode cX12_nearestOf 23 = .ok (.if_icmp .ge 12, 3) := by decide +kernel
theorem dX12_nearestOf_26 : decode cX12_nearestOf 26 = .ok (.aload_n 0, 1) := by decide +kernel
theorem dX12_nearestOf_27 : decode cX12_nearestOf 27 = .ok (.iload_n 1, 1) := by decide +kernel
theorem dX12_nearestOf_28 : decode cX12_nearestOf 28 = .ok (.iload_n 3, 1) := by decide +kernel
theorem dX12_nearestOf_29 : decode cX12_nearestOf 29 = .ok (.invokevirtual 334, 3) := by decide +kernel
theorem dX12_nearestOf_32 : decode cX12_nearestOf 32 = .ok (.goto 4, 3) := by decide +kernel
theorem dX12_nearestOf_35 : decode cX12_nearestOf 35 = .ok (.iload_n 2, 1) := by decide +kernel
theorem dX12_nearestOf_36 : decode cX12_nearestOf 36 = .ok (.istore_n 2, 1) := by decide +kernel
theorem dX12_nearestOf_37 : decode cX12_nearestOf 37 = .ok (.iinc 3 1, 3) := by decide +kernel
theorem dX12_nearestOf_40 : decode cX12_nearestOf 40 = .ok (.goto (-34), 3) := by decide +kernel
theorem dX12_nearestOf_43 : decode cX12_nearestOf 43 = .ok (.iload_n 2, 1) := by decide +kernel
theorem dX12_nearestOf_44 : decode cX12_nearestOf 44 = .ok (.ireturn, 1) := by decide +kernel
theorem dX12_lonely_0 : decode cX12_lonely 0 = .ok (.aload_n 0, 1) := by decide +kernel
theorem dX12_lonely_1 : decode cX12_lonely 1 = .ok (.invokevirtual 167, 3) := by decide +kernel
theorem dX12_lonely_4 : decode cX12_lonely 4 = .ok (.aload_n 0, 1) := by decide +kernel
theorem dX12_lonely_5 : decode cX12_lonely 5 = .ok (.getfield 180, 3) := by decide +kernel
theorem dX12_lonely_8 : decode cX12_lonely 8 = .ok (.ifCond .ne 9, 3) := by decide +kernel
theorem dX12_lonely_11 : decode cX12_lonely 11 = .ok (.aload_n 0, 1) := by decide +kernel
theorem dX12_lonely_12 : decode cX12_lonely 12 = .ok (.iconst 1, 1) := by decide +kernel
theorem dX12_lonely_13 : decode cX12_lonely 13 = .ok (.invokevirtual 170, 3) := by decide +kernel
theorem dX12_lonely_16 : decode cX12_lonely 16 = .ok (.ireturn, 1) := by decide +kernel
theorem dX12_lonely_17 : decode cX12_lonely 17 = .ok (.bipush (-2), 2) := by decide +kernel
theorem dX12_lonely_19 : decode cX12_lonely 19 = .ok (.istore_n 1, 1) := by decide +kernel
theorem dX12_lonely_20 : decode cX12_lonely 20 = .ok (.iconst 0, 1) := by decide +kernel
theorem dX12_lonely_21 : decode cX12_lonely 21 = .ok (.istore_n 2, 1) := by decide +kernel
theorem dX12_lonely_22 : decode cX12_lonely 22 = .ok (.iload_n 2, 1) := by decide +kernel
theorem dX12_lonely_23 : decode cX12_lonely 23 = .ok (.aload_n 0, 1) := by decide +kernel
theorem dX12_lonely_24 : decode cX12_lonely 24 = .ok (.getfield 20, 3) := by decide +kernel
theorem dX12_lonely_27 : decode cX12_lonely 27 = .ok (.iconst 3, 1) := by decide +kernel
theorem dX12_lonely_28 : decode cX12_lonely 28 = .ok (.iaload, 1) := by decide +kernel
theorem dX12_lonely_29 : decode cX12_lonely 29 = .ok (.if_icmp .ge 28, 3) := by decide +kernel
theorem dX12_lonely_32 : decode cX12_lonely 32 = .ok (.iload_n 1, 1) := by decide +kernel
theorem dX12_lonely_33 : decode cX12_lonely 33 = .ok (.ifCond .lt 16, 3) := by decide +kernel
theorem dX12_lonely_36 : decode cX12_lonely 36 = .ok (.aload_n 0, 1) := by decide +kernel
theorem dX12_lonely_37 : decode cX12_lonely 37 = .ok (.iload_n 2, 1) := by decide +kernel
theorem dX12_lonely_38 : decode cX12_lonely 38 = .ok (.invokevirtual 340, 3) := by decide +kernel
theorem dX12_lonely_41 : decode cX12_lonely 41 = .ok (.aload_n 0, 1) := by decide +kernel
theorem dX12_lonely_42 : decode cX12_lonely 42 = .ok (.iload_n 1, 1) := by decide +kernel
theorem dX12_lonely_43 : decode cX12_lonely 43 = .ok (.invokevirtual 340, 3) := by decide +kernel
theorem dX12_lonely_46 : decode cX12_lonely 46 = .ok (.if_icmp .le 5, 3) := by decide +kernel
theorem dX12_lonely_49 : decode cX12_lonely 49 = .ok (.iload_n 2, 1) := by decide +kernel
theorem dX12_lonely_50 : decode cX12_lonely 50 = .ok (.istore_n 1, 1) := by decide +kernel
theorem dX12_lonely_51 : decode cX12_lonely 51 = .ok (.iinc 2 1, 3) := by decide +kernel
theorem dX12_lonely_54 : decode cX12_lonely 54 = .ok (.goto (-32), 3) := by decide +kernel
theorem dX12_lonely_57 : decode cX12_lonely 57 = .ok (.iload_n 1, 1) := by decide +kernel
theorem dX12_lonely_58 : decode cX12_lonely 58 = .ok (.ireturn, 1) := by decide +kernel
theorem dX12_owesOf_0 : decode cX12_owesOf 0 = .ok (.iconst 0, 1) := by decide +kernel
theorem dX12_owesOf_1 : decode cX12_owesOf 1 = .ok (.istore_n 2, 1) := by decide +kernel
theorem dX12_owesOf_2 : decode cX12_owesOf 2 = .ok (.iconst 0, 1) := by decide +kernel
theorem dX12_owesOf_3 : decode cX12_owesOf 3 = .ok (.istore_n 3, 1) := by decide +kernel
theorem dX12_owesOf_4 : decode cX12_owesOf 4 = .ok (.iload_n 3, 1) := by decide +kernel
theorem dX12_owesOf_5 : decode cX12_owesOf 5 = .ok (.aload_n 0, 1) := by decide +kernel
theorem dX12_owesOf_6 : decode cX12_owesOf 6 = .ok (.getfield 20, 3) := by decide +kernel
theorem dX12_owesOf_9 : decode cX12_owesOf 9 = .ok (.iconst 4, 1) := by decide +kernel
theorem dX12_owesOf_10 : decode cX12_owesOf 10 = .ok (.iaload, 1) := by decide +kernel
theorem dX12_owesOf_11 : decode cX12_owesOf 11 = .ok (.if_icmp .ge 57, 3) := by decide +kernel
theorem dX12_owesOf_14 : decode cX12_owesOf 14 = .ok (.iload_n 2, 1) := by decide +kernel
theorem dX12_owesOf_15 : decode cX12_owesOf 15 = .ok (.aload_n 0, 1) := by decide +kernel
theorem dX12_owesOf_16 : decode cX12_owesOf 16 = .ok (.getfield 32, 3) := by decide +kernel
theorem dX12_owesOf_19 : decode cX12_owesOf 19 = .ok (.bipush 32, 2) := by decide +kernel
theorem dX12_owesOf_21 : decode cX12_owesOf 21 = .ok (.iload_n 3, 1) := by decide +kernel
theorem dX12_owesOf_22 : decode cX12_owesOf 22 = .ok (.iadd, 1) := by decide +kernel
theorem dX12_owesOf_23 : decode cX12_owesOf 23 = .ok (.iaload, 1) := by decide +kernel
theorem dX12_owesOf_24 : decode cX12_owesOf 24 = .ok (.iload_n 1, 1) := by decide +kernel
theorem dX12_owesOf_25 : decode cX12_owesOf 25 = .ok (.if_icmp .ne 34, 3) := by decide +kernel
theorem dX12_owesOf_28 : decode cX12_owesOf 28 = .ok (.aload_n 0, 1) := by decide +kernel
theorem dX12_owesOf_29 : decode cX12_owesOf 29 = .ok (.getfield 20, 3) := by decide +kernel
theorem dX12_owesOf_32 : decode cX12_owesOf 32 = .ok (.bipush 34, 2) := by decide +kernel
theorem dX12_owesOf_34 : decode cX12_owesOf 34 = .ok (.iconst 4, 1) := by decide +kernel
theorem dX12_owesOf_35 : decode cX12_owesOf 35 = .ok (.iload_n 3, 1) := by decide +kernel
theorem dX12_owesOf_36 : decode cX12_owesOf 36 = .ok (.imul, 1) := by decide +kernel
theorem dX12_owesOf_37 : decode cX12_owesOf 37 = .ok (.iadd, 1) := by decide +kernel
theorem dX12_owesOf_38 : decode cX12_owesOf 38 = .ok (.iaload, 1) := by decide +kernel
theorem dX12_owesOf_39 : decode cX12_owesOf 39 = .ok (.iload_n 1, 1) := by decide +kernel
theorem dX12_owesOf_40 : decode cX12_owesOf 40 = .ok (.if_icmp .eq 19, 3) := by decide +kernel
theorem dX12_owesOf_43 : decode cX12_owesOf 43 = .ok (.iconst 1, 1) := by decide +kernel
theorem dX12_owesOf_44 : decode cX12_owesOf 44 = .ok (.aload_n 0, 1) := by decide +kernel
theorem dX12_owesOf_45 : decode cX12_owesOf 45 = .ok (.getfield 20, 3) := by decide +kernel
theorem dX12_owesOf_48 : decode cX12_owesOf 48 = .ok (.bipush 34, 2) := by decide +kernel
theorem dX12_owesOf_50 : decode cX12_owesOf 50 = .ok (.iconst 4, 1) := by decide +kernel
theorem dX12_owesOf_51 : decode cX12_owesOf 51 = .ok (.iload_n 3, 1) := by decide +kernel
theorem dX12_owesOf_52 : decode cX12_owesOf 52 = .ok (.imul, 1) := by decide +kernel
theorem dX12_owesOf_53 : decode cX12_owesOf 53 = .ok (.iadd, 1) := by decide +kernel
theorem dX12_owesOf_54 : decode cX12_owesOf 54 = .ok (.iaload, 1) := by decide +kernel
theorem dX12_owesOf_55 : decode cX12_owesOf 55 = .ok (.ishl, 1) := by decide +kernel
theorem dX12_owesOf_56 : decode cX12_owesOf 56 = .ok (.goto 4, 3) := by decide +kernel
theorem dX12_owesOf_59 : decode cX12_owesOf 59 = .ok (.iconst 0, 1) := by decide +kernel
theorem dX12_owesOf_60 : decode cX12_owesOf 60 = .ok (.ior, 1) := by decide +kernel
theorem dX12_owesOf_61 : decode cX12_owesOf 61 = .ok (.istore_n 2, 1) := by decide +kernel
theorem dX12_owesOf_62 : decode cX12_owesOf 62 = .ok (.iinc 3 1, 3) := by decide +kernel
theorem dX12_owesOf_65 : decode cX12_owesOf 65 = .ok (.goto (-61), 3) := by decide +kernel
theorem dX12_owesOf_68 : decode cX12_owesOf 68 = .ok (.iload_n 2, 1) := by decide +kernel
theorem dX12_owesOf_69 : decode cX12_owesOf 69 = .ok (.ireturn, 1) := by decide +kernel
theorem dX12_owes_0 : decode cX12_owes 0 = .ok (.aload_n 0, 1) := by decide +kernel
theorem dX12_owes_1 : decode cX12_owes 1 = .ok (.invokevirtual 167, 3) := by decide +kernel
theorem dX12_owes_4 : decode cX12_owes 4 = .ok (.aload_n 0, 1) := by decide +kernel
theorem dX12_owes_5 : decode cX12_owes 5 = .ok (.iload_n 1, 1) := by decide +kernel
theorem dX12_owes_6 : decode cX12_owes 6 = .ok (.invokevirtual 288, 3) := by decide +kernel
theorem dX12_owes_9 : decode cX12_owes 9 = .ok (.ifCond .eq 11, 3) := by decide +kernel
theorem dX12_owes_12 : decode cX12_owes 12 = .ok (.aload_n 0, 1) := by decide +kernel
theorem dX12_owes_13 : decode cX12_owes 13 = .ok (.iload_n 1, 1) := by decide +kernel
theorem dX12_owes_14 : decode cX12_owes 14 = .ok (.invokevirtual 343, 3) := by decide +kernel
theorem dX12_owes_17 : decode cX12_owes 17 = .ok (.goto 8, 3) := by decide +kernel
theorem dX12_owes_20 : decode cX12_owes 20 = .ok (.aload_n 0, 1) := by decide +kernel
theorem dX12_owes_21 : decode cX12_owes 21 = .ok (.iconst 1, 1) := by decide +kernel
theorem dX12_owes_22 : decode cX12_owes 22 = .ok (.invokevirtual 170, 3) := by decide +kernel
theorem dX12_owes_25 : decode cX12_owes 25 = .ok (.ireturn, 1) := by decide +kernel
theorem dX12_tryRing_0 : decode cX12_tryRing 0 = .ok (.iload_n 1, 1) := by decide +kernel
theorem dX12_tryRing_1 : decode cX12_tryRing 1 = .ok (.iconst 2, 1) := by decide +kernel
theorem dX12_tryRing_2 : decode cX12_tryRing 2 = .ok (.if_icmp .lt 54, 3) := by decide +kernel
theorem dX12_tryRing_5 : decode cX12_tryRing 5 = .ok (.iload_n 1, 1) := by decide +kernel
theorem dX12_tryRing_6 : decode cX12_tryRing 6 = .ok (.aload_n 0, 1) := by decide +kernel
theorem dX12_tryRing_7 : decode cX12_tryRing 7 = .ok (.getfield 346, 3) := by decide +kernel
theorem dX12_tryRing_10 : decode cX12_tryRing 10 = .ok (.if_icmp .ge 46, 3) := by decide +kernel
theorem dX12_tryRing_13 : decode cX12_tryRing 13 = .ok (.aload_n 0, 1) := by decide +kernel
theorem dX12_tryRing_14 : decode cX12_tryRing 14 = .ok (.aload_n 0, 1) := by decide +kernel
theorem dX12_tryRing_15 : decode cX12_tryRing 15 = .ok (.getfield 50, 3) := by decide +kernel
theorem dX12_tryRing_18 : decode cX12_tryRing 18 = .ok (.iload_n 1, 1) := by decide +kernel
theorem dX12_tryRing_19 : decode cX12_tryRing 19 = .ok (.iconst 1, 1) := by decide +kernel
theorem dX12_tryRing_20 : decode cX12_tryRing 20 = .ok (.isub, 1) := by decide +kernel
theorem dX12_tryRing_21 : decode cX12_tryRing 21 = .ok (.iaload, 1) := by decide +kernel
theorem dX12_tryRing_22 : decode cX12_tryRing 22 = .ok (.invokevirtual 343, 3) := by decide +kernel
theorem dX12_tryRing_25 : decode cX12_tryRing 25 = .ok (.aload_n 0, 1) := by decide +kernel
theorem dX12_tryRing_26 : decode cX12_tryRing 26 = .ok (.getfield 50, 3) := by decide +kernel
theorem dX12_tryRing_29 : decode cX12_tryRing 29 = .ok (.iconst 0, 1) := by decide +kernel
theorem dX12_tryRing_30 : decode cX12_tryRing 30 = .ok (.iaload, 1) := by decide +kernel
theorem dX12_tryRing_31 : decode cX12_tryRing 31 = .ok (.invokestatic 236, 3) := by decide +kernel
theorem dX12_tryRing_34 : decode cX12_tryRing 34 = .ok (.ifCond .eq 22, 3) := by decide +kernel
theorem dX12_tryRing_37 : decode cX12_tryRing 37 = .ok (.aload_n 0, 1) := by decide +kernel
theorem dX12_tryRing_38 : decode cX12_tryRing 38 = .ok (.iload_n 1, 1) := by decide +kernel
theorem dX12_tryRing_39 : decode cX12_tryRing 39 = .ok (.putfield 346, 3) := by decide +kernel
theorem dX12_tryRing_42 : decode cX12_tryRing 42 = .ok (.aload_n 0, 1) := by decide +kernel
theorem dX12_tryRing_43 : decode cX12_tryRing 43 = .ok (.getfield 50, 3) := by decide +kernel
theorem dX12_tryRing_46 : decode cX12_tryRing 46 = .ok (.iconst 0, 1) := by decide +kernel
theorem dX12_tryRing_47 : decode cX12_tryRing 47 = .ok (.aload_n 0, 1) := by decide +kernel
theorem dX12_tryRing_48 : decode cX12_tryRing 48 = .ok (.getfield 53, 3) := by decide +kernel
theorem dX12_tryRing_51 : decode cX12_tryRing 51 = .ok (.iconst 0, 1) := by decide +kernel
theorem dX12_tryRing_52 : decode cX12_tryRing 52 = .ok (.iconst 4, 1) := by decide +kernel
theorem dX12_tryRing_53 : decode cX12_tryRing 53 = .ok (.invokestatic 176, 3) := by decide +kernel
theorem dX12_tryRing_56 : decode cX12_tryRing 56 = .ok (.iconst 0, 1) := by decide +kernel
theorem dX12_tryRing_57 : decode cX12_tryRing 57 = .ok (.istore_n 3, 1) := by decide +kernel
theorem dX12_tryRing_58 : decode cX12_tryRing 58 = .ok (.iload_n 3, 1) := by decide +kernel
theorem dX12_tryRing_59 : decode cX12_tryRing 59 = .ok (.aload_n 0, 1) := by decide +kernel
theorem dX12_tryRing_60 : decode cX12_tryRing 60 = .ok (.getfield 20, 3) := by decide +kernel
theorem dX12_tryRing_63 : decode cX12_tryRing 63 = .ok (.iconst 3, 1) := by decide +kernel
theorem dX12_tryRing_64 : decode cX12_tryRing 64 = .ok (.iaload, 1) := by decide +kernel
theorem dX12_tryRing_65 : decode cX12_tryRing 65 = .ok (.if_icmp .ge 58, 3) := by decide +kernel
theorem dX12_tryRing_68 : decode cX12_tryRing 68 = .ok (.iload_n 2, 1) := by decide +kernel
theorem dX12_tryRing_69 : decode cX12_tryRing 69 = .ok (.iload_n 3, 1) := by decide +kernel
theorem dX12_tryRing_70 : decode cX12_tryRing 70 = .ok (.invokestatic 236, 3) := by decide +kernel
theorem dX12_tryRing_73 : decode cX12_tryRing 73 = .ok (.ifCond .ne 44, 3) := by decide +kernel
theorem dX12_tryRing_76 : decode cX12_tryRing 76 = .ok (.aload_n 0, 1) := by decide +kernel
theorem dX12_tryRing_77 : decode cX12_tryRing 77 = .ok (.aload_n 0, 1) := by decide +kernel
theorem dX12_tryRing_78 : decode cX12_tryRing 78 = .ok (.getfield 50, 3) := by decide +kernel
theorem dX12_tryRing_81 : decode cX12_tryRing 81 = .ok (.iload_n 1, 1) := by decide +kernel
theorem dX12_tryRing_82 : decode cX12_tryRing 82 = .ok (.iconst 1, 1) := by decide +kernel
theorem dX12_tryRing_83 : decode cX12_tryRing 83 = .ok (.isub, 1) := by decide +kernel
theorem dX12_tryRing_84 : decode cX12_tryRing 84 = .ok (.iaload, 1) := by decide +kernel
theorem dX12_tryRing_85 : decode cX12_tryRing 85 = .ok (.invokevirtual 343, 3) := by decide +kernel
theorem dX12_tryRing_88 : decode cX12_tryRing 88 = .ok (.iload_n 3, 1) := by decide +kernel
theorem dX12_tryRing_89 : decode cX12_tryRing 89 = .ok (.invokestatic 236, 3) := by decide +kernel
theorem dX12_tryRing_92 : decode cX12_tryRing 92 = .ok (.ifCond .ne 6, 3) := by decide +kernel
theorem dX12_tryRing_95 : decode cX12_tryRing 95 = .ok (.goto 22, 3) := by decide +kernel
theorem dX12_tryRing_98 : decode cX12_tryRing 98 = .ok (.aload_n 0, 1) := by decide +kernel
theorem dX12_tryRing_99 : decode cX12_tryRing 99 = .ok (.getfield 50, 3) := by decide +kernel
theorem dX12_tryRing_102 : decode cX12_tryRing 102 = .ok (.iload_n 1, 1) := by decide +kernel
theorem dX12_tryRing_103 : decode cX12_tryRing 103 = .ok (.iload_n 3, 1) := by decide +kernel
theorem dX12_tryRing_104 : decode cX12_tryRing 104 = .ok (.iastore, 1) := by decide +kernel
theorem dX12_tryRing_105 : decode cX12_tryRing 105 = .ok (.aload_n 0, 1) := by decide +kernel
theorem dX12_tryRing_106 : decode cX12_tryRing 106 = .ok (.iload_n 1, 1) := by decide +kernel
theorem dX12_tryRing_107 : decode cX12_tryRing 107 = .ok (.iconst 1, 1) := by decide +kernel
theorem dX12_tryRing_108 : decode cX12_tryRing 108 = .ok (.iadd, 1) := by decide +kernel
theorem dX12_tryRing_109 : decode cX12_tryRing 109 = .ok (.iload_n 2, 1) := by decide +kernel
theorem dX12_tryRing_110 : decode cX12_tryRing 110 = .ok (.iconst 1, 1) := by decide +kernel
theorem dX12_tryRing_111 : decode cX12_tryRing 111 = .ok (.iload_n 3, 1) := by decide +kernel
theorem dX12_tryRing_112 : decode cX12_tryRing 112 = .ok (.ishl, 1) := by decide +kernel
theorem dX12_tryRing_113 : decode cX12_tryRing 113 = .ok (.ior, 1) := by decide +kernel
theorem dX12_tryRing_114 : decode cX12_tryRing 114 = .ok (.invokevirtual 349, 3) := by decide +kernel
theorem dX12_tryRing_117 : decode cX12_tryRing 117 = .ok (.iinc 3 1, 3) := by decide +kernel
theorem dX12_tryRing_120 : decode cX12_tryRing 120 = .ok (.goto (-62), 3) := by decide +kernel
theorem dX12_tryRing_123 : decode cX12_tryRing 123 = .ok (.return_, 1) := by decide +kernel
theorem dX12_seekRing_0 : decode cX12_seekRing 0 = .ok (.aload_n 0, 1) := by decide +kernel
theorem dX12_seekRing_1 : decode cX12_seekRing 1 = .ok (.ldc_w 333, 3) := by decide +kernel
theorem dX12_seekRing_4 : decode cX12_seekRing 4 = .ok (.putfield 346, 3) := by decide +kernel
theorem dX12_seekRing_7 : decode cX12_seekRing 7 = .ok (.aload_n 0, 1) := by decide +kernel
theorem dX12_seekRing_8 : decode cX12_seekRing 8 = .ok (.getfield 50, 3) := by decide +kernel
theorem dX12_seekRing_11 : decode cX12_seekRing 11 = .ok (.iconst 0, 1) := by decide +kernel
theorem dX12_seekRing_12 : decode cX12_seekRing 12 = .ok (.iload_n 1, 1) := by decide +kernel
theorem dX12_seekRing_13 : decode cX12_seekRing 13 = .ok (.iastore, 1) := by decide +kernel
theorem dX12_seekRing_14 : decode cX12_seekRing 14 = .ok (.aload_n 0, 1) := by decide +kernel
theorem dX12_seekRing_15 : decode cX12_seekRing 15 = .ok (.iconst 1, 1) := by decide +kernel
theorem dX12_seekRing_16 : decode cX12_seekRing 16 = .ok (.iconst 1, 1) := by decide +kernel
theorem dX12_seekRing_17 : decode cX12_seekRing 17 = .ok (.iload_n 1, 1) := by decide +kernel
theorem dX12_seekRing_18 : decode cX12_seekRing 18 = .ok (.ishl, 1) := by decide +kernel
theorem dX12_seekRing_19 : decode cX12_seekRing 19 = .ok (.invokevirtual 349, 3) := by decide +kernel
theorem dX12_seekRing_22 : decode cX12_seekRing 22 = .ok (.aload_n 0, 1) := by decide +kernel
theorem dX12_seekRing_23 : decode cX12_seekRing 23 = .ok (.getfield 346, 3) := by decide +kernel
theorem dX12_seekRing_26 : decode cX12_seekRing 26 = .ok (.ldc_w 333, 3) := by decide +kernel
theorem dX12_seekRing_29 : decode cX12_seekRing 29 = .ok (.if_icmp .ge 7, 3) := by decide +kernel
theorem dX12_seekRing_32 : decode cX12_seekRing 32 = .ok (.iconst 1, 1) := by decide +kernel
theorem dX12_seekRing_33 : decode cX12_seekRing 33 = .ok (.goto 4, 3) := by decide +kernel
theorem dX12_seekRing_36 : decode cX12_seekRing 36 = .ok (.iconst 0, 1) := by decide +kernel
theorem dX12_seekRing_37 : decode cX12_seekRing 37 = .ok (.ireturn, 1) := by decide +kernel
theorem dX12_ring_0 : decode cX12_ring 0 = .ok (.aload_n 0, 1) := by decide +kernel
theorem dX12_ring_1 : decode cX12_ring 1 = .ok (.invokevirtual 167, 3) := by decide +kernel
theorem dX12_ring_4 : decode cX12_ring 4 = .ok (.aload_n 0, 1) := by decide +kernel
theorem dX12_ring_5 : decode cX12_ring 5 = .ok (.iload_n 1, 1) := by decide +kernel
theorem dX12_ring_6 : decode cX12_ring 6 = .ok (.invokevirtual 288, 3) := by decide +kernel
theorem dX12_ring_9 : decode cX12_ring 9 = .ok (.ifCond .ne 9, 3) := by decide +kernel
theorem dX12_ring_12 : decode cX12_ring 12 = .ok (.aload_n 0, 1) := by decide +kernel
theorem dX12_ring_13 : decode cX12_ring 13 = .ok (.iconst 1, 1) := by decide +kernel
theorem dX12_ring_14 : decode cX12_ring 14 = .ok (.invokevirtual 170, 3) := by decide +kernel
theorem dX12_ring_17 : decode cX12_ring 17 = .ok (.ireturn, 1) := by decide +kernel
theorem dX12_ring_18 : decode cX12_ring 18 = .ok (.aload_n 0, 1) := by decide +kernel
theorem dX12_ring_19 : decode cX12_ring 19 = .ok (.iload_n 1, 1) := by decide +kernel
theorem dX12_ring_20 : decode cX12_ring 20 = .ok (.invokevirtual 352, 3) := by decide +kernel
theorem dX12_ring_23 : decode cX12_ring 23 = .ok (.ifCond .eq 10, 3) := by decide +kernel
theorem dX12_ring_26 : decode cX12_ring 26 = .ok (.aload_n 0, 1) := by decide +kernel
theorem dX12_ring_27 : decode cX12_ring 27 = .ok (.getfield 346, 3) := by decide +kernel
theorem dX12_ring_30 : decode cX12_ring 30 = .ok (.goto 5, 3) := by decide +kernel
theorem dX12_ring_33 : decode cX12_ring 33 = .ok (.bipush (-2), 2) := by decide +kernel
theorem dX12_ring_35 : decode cX12_ring 35 = .ok (.ireturn, 1) := by decide +kernel
theorem dX12_ringAt_0 : decode cX12_ringAt 0 = .ok (.aload_n 0, 1) := by decide +kernel
theorem dX12_ringAt_1 : decode cX12_ringAt 1 = .ok (.invokevirtual 167, 3) := by decide +kernel
theorem dX12_ringAt_4 : decode cX12_ringAt 4 = .ok (.aload_n 0, 1) := by decide +kernel
theorem dX12_ringAt_5 : decode cX12_ringAt 5 = .ok (.iload_n 1, 1) := by decide +kernel
theorem dX12_ringAt_6 : decode cX12_ringAt 6 = .ok (.invokevirtual 288, 3) := by decide +kernel
theorem dX12_ringAt_9 : decode cX12_ringAt 9 = .ok (.ifCond .eq 25, 3) := by decide +kernel
theorem dX12_ringAt_12 : decode cX12_ringAt 12 = .ok (.aload_n 0, 1) := by decide +kernel
theorem dX12_ringAt_13 : decode cX12_ringAt 13 = .ok (.iload_n 1, 1) := by decide +kernel
theorem dX12_ringAt_14 : decode cX12_ringAt 14 = .ok (.invokevirtual 352, 3) := by decide +kernel
theorem dX12_ringAt_17 : decode cX12_ringAt 17 = .ok (.ifCond .eq 17, 3) := by decide +kernel
theorem dX12_ringAt_20 : decode cX12_ringAt 20 = .ok (.iload_n 2, 1) := by decide +kernel
theorem dX12_ringAt_21 : decode cX12_ringAt 21 = .ok (.iconst 0, 1) := by decide +kernel
theorem dX12_ringAt_22 : decode cX12_ringAt 22 = .ok (.aload_n 0, 1) := by decide +kernel
theorem dX12_ringAt_23 : decode cX12_ringAt 23 = .ok (.getfield 346, 3) := by decide +kernel
theorem dX12_ringAt_26 : decode cX12_ringAt 26 = .ok (.iconst 1, 1) := by decide +kernel
theorem dX12_ringAt_27 : decode cX12_ringAt 27 = .ok (.isub, 1) := by decide +kernel
theorem dX12_ringAt_28 : decode cX12_ringAt 28 = .ok (.invokestatic 146, 3) := by decide +kernel
theorem dX12_ringAt_31 : decode cX12_ringAt 31 = .ok (.ifCond .ne 9, 3) := by decide +kernel
theorem dX12_ringAt_34 : decode cX12_ringAt 34 = .ok (.aload_n 0, 1) := by decide +kernel
theorem dX12_ringAt_35 : decode cX12_ringAt 35 = .ok (.iconst 1, 1) := by decide +kernel
theorem dX12_ringAt_36 : decode cX12_ringAt 36 = .ok (.invokevirtual 170, 3) := by decide +kernel
theorem dX12_ringAt_39 : decode cX12_ringAt 39 = .ok (.ireturn, 1) := by decide +kernel
theorem dX12_ringAt_40 : decode cX12_ringAt 40 = .ok (.aload_n 0, 1) := by decide +kernel
theorem dX12_ringAt_41 : decode cX12_ringAt 41 = .ok (.getfield 53, 3) := by decide +kernel
theorem dX12_ringAt_44 : decode cX12_ringAt 44 = .ok (.iload_n 2, 1) := by decide +kernel
theorem dX12_ringAt_45 : decode cX12_ringAt 45 = .ok (.iaload, 1) := by decide +kernel
theorem dX12_ringAt_46 : decode cX12_ringAt 46 = .ok (.ireturn, 1) := by decide +kernel
theorem dX12_amends_0 : decode cX12_amends 0 = .ok (.aload_n 0, 1) := by decide +kernel
theorem dX12_amends_1 : decode cX12_amends 1 = .ok (.invokevirtual 167, 3) := by decide +kernel
theorem dX12_amends_4 : decode cX12_amends 4 = .ok (.aload_n 0, 1) := by decide +kernel
theorem dX12_amends_5 : decode cX12_amends 5 = .ok (.getfield 180, 3) := by decide +kernel
theorem dX12_amends_8 : decode cX12_amends 8 = .ok (.ifCond .ne 9, 3) := by decide +kernel
theorem dX12_amends_11 : decode cX12_amends 11 = .ok (.aload_n 0, 1) := by decide +kernel
theorem dX12_amends_12 : decode cX12_amends 12 = .ok (.iconst 1, 1) := by decide +kernel
theorem dX12_amends_13 : decode cX12_amends 13 = .ok (.invokevirtual 170, 3) := by decide +kernel
theorem dX12_amends_16 : decode cX12_amends 16 = .ok (.ireturn, 1) := by decide +kernel
theorem dX12_amends_17 : decode cX12_amends 17 = .ok (.iconst 0, 1) := by decide +kernel
theorem dX12_amends_18 : decode cX12_amends 18 = .ok (.istore_n 1, 1) := by decide +kernel
theorem dX12_amends_19 : decode cX12_amends 19 = .ok (.iconst 0, 1) := by decide +kernel
theorem dX12_amends_20 : decode cX12_amends 20 = .ok (.istore_n 2, 1) := by decide +kernel
theorem dX12_amends_21 : decode cX12_amends 21 = .ok (.iload_n 2, 1) := by decide +kernel
theorem dX12_amends_22 : decode cX12_amends 22 = .ok (.aload_n 0, 1) := by decide +kernel
theorem dX12_amends_23 : decode cX12_amends 23 = .ok (.getfield 20, 3) := by decide +kernel
theorem dX12_amends_26 : decode cX12_amends 26 = .ok (.iconst 4, 1) := by decide +kernel
theorem dX12_amends_27 : decode cX12_amends 27 = .ok (.iaload, 1) := by decide +kernel
theorem dX12_amends_28 : decode cX12_amends 28 = .ok (.if_icmp .ge 40, 3) := by decide +kernel
theorem dX12_amends_31 : decode cX12_amends 31 = .ok (.iload_n 1, 1) := by decide +kernel
theorem dX12_amends_32 : decode cX12_amends 32 = .ok (.aload_n 0, 1) := by decide +kernel
theorem dX12_amends_33 : decode cX12_amends 33 = .ok (.getfield 32, 3) := by decide +kernel
theorem dX12_amends_36 : decode cX12_amends 36 = .ok (.bipush 32, 2) := by decide +kernel
theorem dX12_amends_38 : decode cX12_amends 38 = .ok (.iload_n 2, 1) := by decide +kernel
theorem dX12_amends_39 : decode cX12_amends 39 = .ok (.iadd, 1) := by decide +kernel
theorem dX12_amends_40 : decode cX12_amends 40 = .ok (.iaload, 1) := by decide +kernel
theorem dX12_amends_41 : decode cX12_amends 41 = .ok (.aload_n 0, 1) := by decide +kernel
theorem dX12_amends_42 : decode cX12_amends 42 = .ok (.getfield 20, 3) := by decide +kernel
theorem dX12_amends_45 : decode cX12_amends 45 = .ok (.bipush 34, 2) := by decide +kernel
theorem dX12_amends_47 : decode cX12_amends 47 = .ok (.iconst 4, 1) := by decide +kernel
theorem dX12_amends_48 : decode cX12_amends 48 = .ok (.iload_n 2, 1) := by decide +kernel
theorem dX12_amends_49 : decode cX12_amends 49 = .ok (.imul, 1) := by decide +kernel
theorem dX12_amends_50 : decode cX12_amends 50 = .ok (.iadd, 1) := by decide +kernel
theorem dX12_amends_51 : decode cX12_amends 51 = .ok (.iaload, 1) := by decide +kernel
theorem dX12_amends_52 : decode cX12_amends 52 = .ok (.if_icmp .ne 7, 3) := by decide +kernel
theorem dX12_amends_55 : decode cX12_amends 55 = .ok (.iconst 0, 1) := by decide +kernel
theorem dX12_amends_56 : decode cX12_amends 56 = .ok (.goto 4, 3) := by decide +kernel
theorem dX12_amends_59 : decode cX12_amends 59 = .ok (.iconst 1, 1) := by decide +kernel
theorem dX12_amends_60 : decode cX12_amends 60 = .ok (.iadd, 1) := by decide +kernel
theorem dX12_amends_61 : decode cX12_amends 61 = .ok (.istore_n 1, 1) := by decide +kernel
theorem dX12_amends_62 : decode cX12_amends 62 = .ok (.iinc 2 1, 3) := by decide +kernel
theorem dX12_amends_65 : decode cX12_amends 65 = .ok (.goto (-44), 3) := by decide +kernel
theorem dX12_amends_68 : decode cX12_amends 68 = .ok (.iload_n 1, 1) := by decide +kernel
theorem dX12_amends_69 : decode cX12_amends 69 = .ok (.ireturn, 1) := by decide +kernel
theorem dX12_robbed_0 : decode cX12_robbed 0 = .ok (.aload_n 0, 1) := by decide +kernel
theorem dX12_robbed_1 : decode cX12_robbed 1 = .ok (.invokevirtual 167, 3) := by decide +kernel
theorem dX12_robbed_4 : decode cX12_robbed 4 = .ok (.aload_n 0, 1) := by decide +kernel
theorem dX12_robbed_5 : decode cX12_robbed 5 = .ok (.getfield 180, 3) := by decide +kernel
theorem dX12_robbed_8 : decode cX12_robbed 8 = .ok (.ifCond .ne 9, 3) := by decide +kernel
theorem dX12_robbed_11 : decode cX12_robbed 11 = .ok (.aload_n 0, 1) := by decide +kernel
theorem dX12_robbed_12 : decode cX12_robbed 12 = .ok (.iconst 1, 1) := by decide +kernel
theorem dX12_robbed_13 : decode cX12_robbed 13 = .ok (.invokevirtual 170, 3) := by decide +kernel
theorem dX12_robbed_16 : decode cX12_robbed 16 = .ok (.ireturn, 1) := by decide +kernel
theorem dX12_robbed_17 : decode cX12_robbed 17 = .ok (.bipush (-2), 2) := by decide +kernel
theorem dX12_robbed_19 : decode cX12_robbed 19 = .ok (.istore_n 1, 1) := by decide +kernel
theorem dX12_robbed_20 : decode cX12_robbed 20 = .ok (.iconst (-1), 1) := by decide +kernel
theorem dX12_robbed_21 : decode cX12_robbed 21 = .ok (.istore_n 2, 1) := by decide +kernel
theorem dX12_robbed_22 : decode cX12_robbed 22 = .ok (.iconst 0, 1) := by decide +kernel
theorem dX12_robbed_23 : decode cX12_robbed 23 = .ok (.istore_n 3, 1) := by decide +kernel
theorem dX12_robbed_24 : decode cX12_robbed 24 = .ok (.iload_n 3, 1) := by decide +kernel
theorem dX12_robbed_25 : decode cX12_robbed 25 = .ok (.aload_n 0, 1) := by decide +kernel
theorem dX12_robbed_26 : decode cX12_robbed 26 = .ok (.getfield 20, 3) := by decide +kernel
theorem dX12_robbed_29 : decode cX12_robbed 29 = .ok (.iconst 3, 1) := by decide +kernel
theorem dX12_robbed_30 : decode cX12_robbed 30 = .ok (.iaload, 1) := by decide +kernel
theorem dX12_robbed_31 : decode cX12_robbed 31 = .ok (.if_icmp .ge 51, 3) := by decide +kernel
theorem dX12_robbed_34 : decode cX12_robbed 34 = .ok (.aload_n 0, 1) := by decide +kernel
theorem dX12_robbed_35 : decode cX12_robbed 35 = .ok (.iload_n 3, 1) := by decide +kernel
theorem dX12_robbed_36 : decode cX12_robbed 36 = .ok (.invokevirtual 297, 3) := by decide +kernel
theorem dX12_robbed_39 : decode cX12_robbed 39 = .ok (.aload_n 0, 1) := by decide +kernel
theorem dX12_robbed_40 : decode cX12_robbed 40 = .ok (.iload_n 3, 1) := by decide +kernel
theorem dX12_robbed_41 : decode cX12_robbed 41 = .ok (.invokevirtual 291, 3) := by decide +kernel
theorem dX12_robbed_44 : decode cX12_robbed 44 = .ok (.iconst (-1), 1) := by decide +kernel
theorem dX12_robbed_45 : decode cX12_robbed 45 = .ok (.ixor, 1) := by decide +kernel
theorem dX12_robbed_46 : decode cX12_robbed 46 = .ok (.iand, 1) := by decide +kernel
theorem dX12_robbed_47 : decode cX12_robbed 47 = .ok (.istore 4, 2) := by decide +kernel
theorem dX12_robbed_49 : decode cX12_robbed 49 = .ok (.iload 4, 2) := by decide +kernel
theorem dX12_robbed_51 : decode cX12_robbed 51 = .ok (.ifCond .eq 25, 3) := by decide +kernel
theorem dX12_robbed_54 : decode cX12_robbed 54 = .ok (.aload_n 0, 1) := by decide +kernel
theorem dX12_robbed_55 : decode cX12_robbed 55 = .ok (.iload 4, 2) := by decide +kernel
theorem dX12_robbed_57 : decode cX12_robbed 57 = .ok (.invokevirtual 294, 3) := by decide +kernel
theorem dX12_robbed_60 : decode cX12_robbed 60 = .ok (.iload_n 2, 1) := by decide +kernel
theorem dX12_robbed_61 : decode cX12_robbed 61 = .ok (.if_icmp .gt 6, 3) := by decide +kernel
theorem dX12_robbed_64 : decode cX12_robbed 64 = .ok (.goto 12, 3) := by decide +kernel
theorem dX12_robbed_67 : decode cX12_robbed 67 = .ok (.iload_n 3, 1) := by decide +kernel
theorem dX12_robbed_68 : decode cX12_robbed 68 = .ok (.istore_n 1, 1) := by decide +kernel
theorem dX12_robbed_69 : decode cX12_robbed 69 = .ok (.aload_n 0, 1) := by decide +kernel
theorem dX12_robbed_70 : decode cX12_robbed 70 = .ok (.iload 4, 2) := by decide +kernel
theorem dX12_robbed_72 : decode cX12_robbed 72 = .ok (.invokevirtual 294, 3) := by decide +kernel
theorem dX12_robbed_75 : decode cX12_robbed 75 = .ok (.istore_n 2, 1) := by decide +kernel
theorem dX12_robbed_76 : decode cX12_robbed 76 = .ok (.iinc 3 1, 3) := by decide +kernel
theorem dX12_robbed_79 : decode cX12_robbed 79 = .ok (.goto (-55), 3) := by decide +kernel
theorem dX12_robbed_82 : decode cX12_robbed 82 = .ok (.iload_n 1, 1) := by decide +kernel
theorem dX12_robbed_83 : decode cX12_robbed 83 = .ok (.ireturn, 1) := by decide +kernel
theorem dX12_isStray_0 : decode cX12_isStray 0 = .ok (.aload_n 0, 1) := by decide +kernel
theorem dX12_isStray_1 : decode cX12_isStray 1 = .ok (.getfield 180, 3) := by decide +kernel
theorem dX12_isStray_4 : decode cX12_isStray 4 = .ok (.ifCond .eq 23, 3) := by decide +kernel
theorem dX12_isStray_7 : decode cX12_isStray 7 = .ok (.iload_n 1, 1) := by decide +kernel
theorem dX12_isStray_8 : decode cX12_isStray 8 = .ok (.iconst 0, 1) := by decide +kernel
theorem dX12_isStray_9 : decode cX12_isStray 9 = .ok (.aload_n 0, 1) := by decide +kernel
theorem dX12_isStray_10 : decode cX12_isStray 10 = .ok (.getfield 20, 3) := by decide +kernel
theorem dX12_isStray_13 : decode cX12_isStray 13 = .ok (.iconst 5, 1) := by decide +kernel
theorem dX12_isStray_14 : decode cX12_isStray 14 = .ok (.iaload, 1) := by decide +kernel
theorem dX12_isStray_15 : decode cX12_isStray 15 = .ok (.iconst 1, 1) := by decide +kernel
theorem dX12_isStray_16 : decode cX12_isStray 16 = .ok (.isub, 1) := by decide +kernel
theorem dX12_isStray_17 : decode cX12_isStray 17 = .ok (.invokestatic 146, 3) := by decide +kernel
theorem dX12_isStray_20 : decode cX12_isStray 20 = .ok (.ifCond .eq 7, 3) := by decide +kernel
theorem dX12_isStray_23 : decode cX12_isStray 23 = .ok (.iconst 1, 1) := by decide +kernel
theorem dX12_isStray_24 : decode cX12_isStray 24 = .ok (.goto 4, 3) := by decide +kernel
theorem dX12_isStray_27 : decode cX12_isStray 27 = .ok (.iconst 0, 1) := by decide +kernel
theorem dX12_isStray_28 : decode cX12_isStray 28 = .ok (.ireturn, 1) := by decide +kernel
theorem dX12_doesFit_0 : decode cX12_doesFit 0 = .ok (.aload_n 0, 1) := by decide +kernel
theorem dX12_doesFit_1 : decode cX12_doesFit 1 = .ok (.getfield 26, 3) := by decide +kernel
theorem dX12_doesFit_4 : decode cX12_doesFit 4 = .ok (.iload_n 2, 1) := by decide +kernel
theorem dX12_doesFit_5 : decode cX12_doesFit 5 = .ok (.aload_n 0, 1) := by decide +kernel
theorem dX12_doesFit_6 : decode cX12_doesFit 6 = .ok (.iload_n 2, 1) := by decide +kernel
theorem dX12_doesFit_7 : decode cX12_doesFit 7 = .ok (.iload_n 3, 1) := by decide +kernel
theorem dX12_doesFit_8 : decode cX12_doesFit 8 = .ok (.invokevirtual 262, 3) := by decide +kernel
theorem dX12_doesFit_11 : decode cX12_doesFit 11 = .ok (.invokestatic 265, 3) := by decide +kernel
theorem dX12_doesFit_14 : decode cX12_doesFit 14 = .ok (.aload_n 0, 1) := by decide +kernel
theorem dX12_doesFit_15 : decode cX12_doesFit 15 = .ok (.getfield 20, 3) := by decide +kernel
theorem dX12_doesFit_18 : decode cX12_doesFit 18 = .ok (.bipush 58, 2) := by decide +kernel
theorem dX12_doesFit_20 : decode cX12_doesFit 20 = .ok (.iload_n 1, 1) := by decide +kernel
theorem dX12_doesFit_21 : decode cX12_doesFit 21 = .ok (.iadd, 1) := by decide +kernel
theorem dX12_doesFit_22 : decode cX12_doesFit 22 = .ok (.iaload, 1) := by decide +kernel
theorem dX12_doesFit_23 : decode cX12_doesFit 23 = .ok (.if_icmp .ne 7, 3) := by decide +kernel
theorem dX12_doesFit_26 : decode cX12_doesFit 26 = .ok (.iconst 1, 1) := by decide +kernel
theorem dX12_doesFit_27 : decode cX12_doesFit 27 = .ok (.goto 4, 3) := by decide +kernel
theorem dX12_doesFit_30 : decode cX12_doesFit 30 = .ok (.iconst 0, 1) := by decide +kernel
theorem dX12_doesFit_31 : decode cX12_doesFit 31 = .ok (.ireturn, 1) := by decide +kernel
theorem dX12_fitting_0 : decode cX12_fitting 0 = .ok (.iconst 0, 1) := by decide +kernel
theorem dX12_fitting_1 : decode cX12_fitting 1 = .ok (.istore_n 3, 1) := by decide +kernel
theorem dX12_fitting_2 : decode cX12_fitting 2 = .ok (.iconst 0, 1) := by decide +kernel
theorem dX12_fitting_3 : decode cX12_fitting 3 = .ok (.istore 4, 2) := by decide +kernel
theorem dX12_fitting_5 : decode cX12_fitting 5 = .ok (.iload 4, 2) := by decide +kernel
theorem dX12_fitting_7 : decode cX12_fitting 7 = .ok (.aload_n 0, 1) := by decide +kernel
theorem dX12_fitting_8 : decode cX12_fitting 8 = .ok (.getfield 20, 3) := by decide +kernel
theorem dX12_fitting_11 : decode cX12_fitting 11 = .ok (.iconst 3, 1) := by decide +kernel
theorem dX12_fitting_12 : decode cX12_fitting 12 = .ok (.iaload, 1) := by decide +kernel
theorem dX12_fitting_13 : decode cX12_fitting 13 = .ok (.if_icmp .ge 54, 3) := by decide +kernel
theorem dX12_fitting_16 : decode cX12_fitting 16 = .ok (.iconst 0, 1) := by decide +kernel
theorem dX12_fitting_17 : decode cX12_fitting 17 = .ok (.istore 5, 2) := by decide +kernel
theorem dX12_fitting_19 : decode cX12_fitting 19 = .ok (.iload 5, 2) := by decide +kernel
theorem dX12_fitting_21 : decode cX12_fitting 21 = .ok (.iconst 4, 1) := by decide +kernel
theorem dX12_fitting_22 : decode cX12_fitting 22 = .ok (.if_icmp .ge 39, 3) := by decide +kernel
theorem dX12_fitting_25 : decode cX12_fitting 25 = .ok (.iload_n 3, 1) := by decide +kernel
theorem dX12_fitting_26 : decode cX12_fitting 26 = .ok (.iload_n 2, 1) := by decide +kernel
theorem dX12_fitting_27 : decode cX12_fitting 27 = .ok (.ifCond .lt 9, 3) := by decide +kernel
theorem dX12_fitting_30 : decode cX12_fitting 30 = .ok (.iload 4, 2) := by decide +kernel
theorem dX12_fitting_32 : decode cX12_fitting 32 = .ok (.iload_n 2, 1) := by decide +kernel
theorem dX12_fitting_33 : decode cX12_fitting 33 = .ok (.if_icmp .ne 19, 3) := by decide +kernel
theorem dX12_fitting_36 : decode cX12_fitting 36 = .ok (.aload_n 0, 1) := by decide +kernel
theorem dX12_fitting_37 : decode cX12_fitting 37 = .ok (.iload_n 1, 1) := by decide +kernel
theorem dX12_fitting_38 : decode cX12_fitting 38 = .ok (.iload 4, 2) := by decide +kernel
theorem dX12_fitting_40 : decode cX12_fitting 40 = .ok (.iload 5, 2) := by decide +kernel
theorem dX12_fitting_42 : decode cX12_fitting 42 = .ok (.invokevirtual 355, 3) := by decide +kernel
theorem dX12_fitting_45 : decode cX12_fitting 45 = .ok (.ifCond .eq 7, 3) := by decide +kernel
theorem dX12_fitting_48 : decode cX12_fitting 48 = .ok (.iconst 1, 1) := by decide +kernel
theorem dX12_fitting_49 : decode cX12_fitting 49 = .ok (.goto 4, 3) := by decide +kernel
theorem dX12_fitting_52 : decode cX12_fitting 52 = .ok (.iconst 0, 1) := by decide +kernel
theorem dX12_fitting_53 : decode cX12_fitting 53 = .ok (.iadd, 1) := by decide +kernel
theorem dX12_fitting_54 : decode cX12_fitting 54 = .ok (.istore_n 3, 1) := by decide +kernel
theorem dX12_fitting_55 : decode cX12_fitting 55 = .ok (.iinc 5 1, 3) := by decide +kernel
theorem dX12_fitting_58 : decode cX12_fitting 58 = .ok (.goto (-39), 3) := by decide +kernel
theorem dX12_fitting_61 : decode cX12_fitting 61 = .ok (.iinc 4 1, 3) := by decide +kernel
theorem dX12_fitting_64 : decode cX12_fitting 64 = .ok (.goto (-59), 3) := by decide +kernel
theorem dX12_fitting_67 : decode cX12_fitting 67 = .ok (.iload_n 3, 1) := by decide +kernel
theorem dX12_fitting_68 : decode cX12_fitting 68 = .ok (.ireturn, 1) := by decide +kernel
theorem dX12_fits_0 : decode cX12_fits 0 = .ok (.aload_n 0, 1) := by decide +kernel
theorem dX12_fits_1 : decode cX12_fits 1 = .ok (.invokevirtual 167, 3) := by decide +kernel
theorem dX12_fits_4 : decode cX12_fits 4 = .ok (.aload_n 0, 1) := by decide +kernel
theorem dX12_fits_5 : decode cX12_fits 5 = .ok (.iload_n 1, 1) := by decide +kernel
theorem dX12_fits_6 : decode cX12_fits 6 = .ok (.invokevirtual 358, 3) := by decide +kernel
theorem dX12_fits_9 : decode cX12_fits 9 = .ok (.ifCond .eq 12, 3) := by decide +kernel
theorem dX12_fits_12 : decode cX12_fits 12 = .ok (.aload_n 0, 1) := by decide +kernel
theorem dX12_fits_13 : decode cX12_fits 13 = .ok (.iload_n 1, 1) := by decide +kernel
theorem dX12_fits_14 : decode cX12_fits 14 = .ok (.iconst (-1), 1) := by decide +kernel
theorem dX12_fits_15 : decode cX12_fits 15 = .ok (.invokevirtual 361, 3) := by decide +kernel
theorem dX12_fits_18 : decode cX12_fits 18 = .ok (.goto 8, 3) := by decide +kernel
theorem dX12_fits_21 : decode cX12_fits 21 = .ok (.aload_n 0, 1) := by decide +kernel
theorem dX12_fits_22 : decode cX12_fits 22 = .ok (.iconst 1, 1) := by decide +kernel
theorem dX12_fits_23 : decode cX12_fits 23 = .ok (.invokevirtual 170, 3) := by decide +kernel
theorem dX12_fits_26 : decode cX12_fits 26 = .ok (.ireturn, 1) := by decide +kernel
theorem dX12_fitAt_0 : decode cX12_fitAt 0 = .ok (.aload_n 0, 1) := by decide +kernel
theorem dX12_fitAt_1 : decode cX12_fitAt 1 = .ok (.invokevirtual 167, 3) := by decide +kernel
theorem dX12_fitAt_4 : decode cX12_fitAt 4 = .ok (.aload_n 0, 1) := by decide +kernel
theorem dX12_fitAt_5 : decode cX12_fitAt 5 = .ok (.iload_n 1, 1) := by decide +kernel
theorem dX12_fitAt_6 : decode cX12_fitAt 6 = .ok (.invokevirtual 358, 3) := by decide +kernel
theorem dX12_fitAt_9 : decode cX12_fitAt 9 = .ok (.ifCond .ne 9, 3) := by decide +kernel
theorem dX12_fitAt_12 : decode cX12_fitAt 12 = .ok (.aload_n 0, 1) := by decide +kernel
theorem dX12_fitAt_13 : decode cX12_fitAt 13 = .ok (.iconst 1, 1) := by decide +kernel
theorem dX12_fitAt_14 : decode cX12_fitAt 14 = .ok (.invokevirtual 170, 3) := by decide +kernel
theorem dX12_fitAt_17 : decode cX12_fitAt 17 = .ok (.ireturn, 1) := by decide +kernel
theorem dX12_fitAt_18 : decode cX12_fitAt 18 = .ok (.iconst 0, 1) := by decide +kernel
theorem dX12_fitAt_19 : decode cX12_fitAt 19 = .ok (.istore_n 3, 1) := by decide +kernel
theorem dX12_fitAt_20 : decode cX12_fitAt 20 = .ok (.iconst 0, 1) := by decide +kernel
theorem dX12_fitAt_21 : decode cX12_fitAt 21 = .ok (.istore 4, 2) := by decide +kernel
theorem dX12_fitAt_23 : decode cX12_fitAt 23 = .ok (.iload 4, 2) := by decide +kernel
theorem dX12_fitAt_25 : decode cX12_fitAt 25 = .ok (.iconst 4, 1) := by decide +kernel
theorem dX12_fitAt_26 : decode cX12_fitAt 26 = .ok (.aload_n 0, 1) := by decide +kernel
theorem dX12_fitAt_27 : decode cX12_fitAt 27 = .ok (.getfield 20, 3) := by decide +kernel
theorem dX12_fitAt_30 : decode cX12_fitAt 30 = .ok (.iconst 3, 1) := by decide +kernel
theorem dX12_fitAt_31 : decode cX12_fitAt 31 = .ok (.iaload, 1) := by decide +kernel
theorem dX12_fitAt_32 : decode cX12_fitAt 32 = .ok (.imul, 1) := by decide +kernel
theorem dX12_fitAt_33 : decode cX12_fitAt 33 = .ok (.if_icmp .ge 49, 3) := by decide +kernel
theorem dX12_fitAt_36 : decode cX12_fitAt 36 = .ok (.aload_n 0, 1) := by decide +kernel
theorem dX12_fitAt_37 : decode cX12_fitAt 37 = .ok (.iload_n 1, 1) := by decide +kernel
theorem dX12_fitAt_38 : decode cX12_fitAt 38 = .ok (.iload 4, 2) := by decide +kernel
theorem dX12_fitAt_40 : decode cX12_fitAt 40 = .ok (.iconst 4, 1) := by decide +kernel
theorem dX12_fitAt_41 : decode cX12_fitAt 41 = .ok (.idiv, 1) := by decide +kernel
theorem dX12_fitAt_42 : decode cX12_fitAt 42 = .ok (.iload 4, 2) := by decide +kernel
theorem dX12_fitAt_44 : decode cX12_fitAt 44 = .ok (.iconst 4, 1) := by decide +kernel
theorem dX12_fitAt_45 : decode cX12_fitAt 45 = .ok (.irem, 1) := by decide +kernel
theorem dX12_fitAt_46 : decode cX12_fitAt 46 = .ok (.invokevirtual 355, 3) := by decide +kernel
theorem dX12_fitAt_49 : decode cX12_fitAt 49 = .ok (.ifCond .ne 6, 3) := by decide +kernel
theorem dX12_fitAt_52 : decode cX12_fitAt 52 = .ok (.goto 24, 3) := by decide +kernel
theorem dX12_fitAt_55 : decode cX12_fitAt 55 = .ok (.iload_n 3, 1) := by decide +kernel
theorem dX12_fitAt_56 : decode cX12_fitAt 56 = .ok (.iload_n 2, 1) := by decide +kernel
theorem dX12_fitAt_57 : decode cX12_fitAt 57 = .ok (.if_icmp .ne 16, 3) := by decide +kernel
theorem dX12_fitAt_60 : decode cX12_fitAt 60 = .ok (.bipush 10, 2) := by decide +kernel
theorem dX12_fitAt_62 : decode cX12_fitAt 62 = .ok (.iload 4, 2) := by decide +kernel
theorem dX12_fitAt_64 : decode cX12_fitAt 64 = .ok (.iconst 4, 1) := by decide +kernel
theorem dX12_fitAt_65 : decode cX12_fitAt 65 = .ok (.idiv, 1) := by decide +kernel
theorem dX12_fitAt_66 : decode cX12_fitAt 66 = .ok (.imul, 1) := by decide +kernel
theorem dX12_fitAt_67 : decode cX12_fitAt 67 = .ok (.iload 4, 2) := by decide +kernel
theorem dX12_fitAt_69 : decode cX12_fitAt 69 = .ok (.iconst 4, 1) := by decide +kernel
theorem dX12_fitAt_70 : decode cX12_fitAt 70 = .ok (.irem, 1) := by decide +kernel
theorem dX12_fitAt_71 : decode cX12_fitAt 71 = .ok (.iadd, 1) := by decide +kernel
theorem dX12_fitAt_72 : decode cX12_fitAt 72 = .ok (.ireturn, 1) := by decide +kernel
theorem dX12_fitAt_73 : decode cX12_fitAt 73 = .ok (.iinc 3 1, 3) := by decide +kernel
theorem dX12_fitAt_76 : decode cX12_fitAt 76 = .ok (.iinc 4 1, 3) := by decide +kernel
theorem dX12_fitAt_79 : decode cX12_fitAt 79 = .ok (.goto (-56), 3) := by decide +kernel
theorem dX12_fitAt_82 : decode cX12_fitAt 82 = .ok (.aload_n 0, 1) := by decide +kernel
theorem dX12_fitAt_83 : decode cX12_fitAt 83 = .ok (.iconst 1, 1) := by decide +kernel
theorem dX12_fitAt_84 : decode cX12_fitAt 84 = .ok (.invokevirtual 170, 3) := by decide +kernel
theorem dX12_fitAt_87 : decode cX12_fitAt 87 = .ok (.ireturn, 1) := by decide +kernel
theorem dX12_could_0 : decode cX12_could 0 = .ok (.aload_n 0, 1) := by decide +kernel
theorem dX12_could_1 : decode cX12_could 1 = .ok (.invokevirtual 167, 3) := by decide +kernel
theorem dX12_could_4 : decode cX12_could 4 = .ok (.aload_n 0, 1) := by decide +kernel
theorem dX12_could_5 : decode cX12_could 5 = .ok (.iload_n 1, 1) := by decide +kernel
theorem dX12_could_6 : decode cX12_could 6 = .ok (.invokevirtual 358, 3) := by decide +kernel
theorem dX12_could_9 : decode cX12_could 9 = .ok (.ifCond .ne 9, 3) := by decide +kernel
theorem dX12_could_12 : decode cX12_could 12 = .ok (.aload_n 0, 1) := by decide +kernel
theorem dX12_could_13 : decode cX12_could 13 = .ok (.iconst 1, 1) := by decide +kernel
theorem dX12_could_14 : decode cX12_could 14 = .ok (.invokevirtual 170, 3) := by decide +kernel
theorem dX12_could_17 : decode cX12_could 17 = .ok (.ireturn, 1) := by decide +kernel
theorem dX12_could_18 : decode cX12_could 18 = .ok (.iconst 0, 1) := by decide +kernel
theorem dX12_could_19 : decode cX12_could 19 = .ok (.istore_n 2, 1) := by decide +kernel
theorem dX12_could_20 : decode cX12_could 20 = .ok (.iconst 0, 1) := by decide +kernel
theorem dX12_could_21 : decode cX12_could 21 = .ok (.istore_n 3, 1) := by decide +kernel
theorem dX12_could_22 : decode cX12_could 22 = .ok (.iload_n 3, 1) := by decide +kernel
theorem dX12_could_23 : decode cX12_could 23 = .ok (.aload_n 0, 1) := by decide +kernel
theorem dX12_could_24 : decode cX12_could 24 = .ok (.getfield 20, 3) := by decide +kernel
theorem dX12_could_27 : decode cX12_could 27 = .ok (.iconst 3, 1) := by decide +kernel
theorem dX12_could_28 : decode cX12_could 28 = .ok (.iaload, 1) := by decide +kernel
theorem dX12_could_29 : decode cX12_could 29 = .ok (.if_icmp .ge 28, 3) := by decide +kernel
theorem dX12_could_32 : decode cX12_could 32 = .ok (.iload_n 2, 1) := by decide +kernel
theorem dX12_could_33 : decode cX12_could 33 = .ok (.aload_n 0, 1) := by decide +kernel
theorem dX12_could_34 : decode cX12_could 34 = .ok (.iload_n 1, 1) := by decide +kernel
theorem dX12_could_35 : decode cX12_could 35 = .ok (.iload_n 3, 1) := by decide +kernel
theorem dX12_could_36 : decode cX12_could 36 = .ok (.invokevirtual 361, 3) := by decide +kernel
theorem dX12_could_39 : decode cX12_could 39 = .ok (.ifCond .le 9, 3) := by decide +kernel
theorem dX12_could_42 : decode cX12_could 42 = .ok (.iconst 1, 1) := by decide +kernel
theorem dX12_could_43 : decode cX12_could 43 = .ok (.iload_n 3, 1) := by decide +kernel
theorem dX12_could_44 : decode cX12_could 44 = .ok (.ishl, 1) := by decide +kernel
theorem dX12_could_45 : decode cX12_could 45 = .ok (.goto 4, 3) := by decide +kernel
theorem dX12_could_48 : decode cX12_could 48 = .ok (.iconst 0, 1) := by decide +kernel
theorem dX12_could_49 : decode cX12_could 49 = .ok (.ior, 1) := by decide +kernel
theorem dX12_could_50 : decode cX12_could 50 = .ok (.istore_n 2, 1) := by decide +kernel
theorem dX12_could_51 : decode cX12_could 51 = .ok (.iinc 3 1, 3) := by decide +kernel
theorem dX12_could_54 : decode cX12_could 54 = .ok (.goto (-32), 3) := by decide +kernel
theorem dX12_could_57 : decode cX12_could 57 = .ok (.iload_n 2, 1) := by decide +kernel
theorem dX12_could_58 : decode cX12_could 58 = .ok (.ireturn, 1) := by decide +kernel
theorem dX12_surely_0 : decode cX12_surely 0 = .ok (.aload_n 0, 1) := by decide +kernel
theorem dX12_surely_1 : decode cX12_surely 1 = .ok (.invokevirtual 167, 3) := by decide +kernel
theorem dX12_surely_4 : decode cX12_surely 4 = .ok (.aload_n 0, 1) := by decide +kernel
theorem dX12_surely_5 : decode cX12_surely 5 = .ok (.iload_n 1, 1) := by decide +kernel
theorem dX12_surely_6 : decode cX12_surely 6 = .ok (.invokevirtual 358, 3) := by decide +kernel
theorem dX12_surely_9 : decode cX12_surely 9 = .ok (.ifCond .ne 9, 3) := by decide +kernel
theorem dX12_surely_12 : decode cX12_surely 12 = .ok (.aload_n 0, 1) := by decide +kernel
theorem dX12_surely_13 : decode cX12_surely 13 = .ok (.iconst 1, 1) := by decide +kernel
theorem dX12_surely_14 : decode cX12_surely 14 = .ok (.invokevirtual 170, 3) := by decide +kernel
theorem dX12_surely_17 : decode cX12_surely 17 = .ok (.ireturn, 1) := by decide +kernel
theorem dX12_surely_18 : decode cX12_surely 18 = .ok (.iconst 0, 1) := by decide +kernel
theorem dX12_surely_19 : decode cX12_surely 19 = .ok (.istore_n 2, 1) := by decide +kernel
theorem dX12_surely_20 : decode cX12_surely 20 = .ok (.iload_n 2, 1) := by decide +kernel
theorem dX12_surely_21 : decode cX12_surely 21 = .ok (.aload_n 0, 1) := by decide +kernel
theorem dX12_surely_22 : decode cX12_surely 22 = .ok (.getfield 20, 3) := by decide +kernel
theorem dX12_surely_25 : decode cX12_surely 25 = .ok (.iconst 3, 1) := by decide +kernel
theorem dX12_surely_26 : decode cX12_surely 26 = .ok (.iaload, 1) := by decide +kernel
theorem dX12_surely_27 : decode cX12_surely 27 = .ok (.if_icmp .ge 35, 3) := by decide +kernel
theorem dX12_surely_30 : decode cX12_surely 30 = .ok (.aload_n 0, 1) := by decide +kernel
theorem dX12_surely_31 : decode cX12_surely 31 = .ok (.iload_n 1, 1) := by decide +kernel
theorem dX12_surely_32 : decode cX12_surely 32 = .ok (.iload_n 2, 1) := by decide +kernel
theorem dX12_surely_33 : decode cX12_surely 33 = .ok (.invokevirtual 361, 3) := by decide +kernel
theorem dX12_surely_36 : decode cX12_surely 36 = .ok (.ifCond .le 20, 3) := by decide +kernel
theorem dX12_surely_39 : decode cX12_surely 39 = .ok (.aload_n 0, 1) := by decide +kernel
theorem dX12_surely_40 : decode cX12_surely 40 = .ok (.iload_n 1, 1) := by decide +kernel
theorem dX12_surely_41 : decode cX12_surely 41 = .ok (.iload_n 2, 1) := by decide +kernel
theorem dX12_surely_42 : decode cX12_surely 42 = .ok (.invokevirtual 361, 3) := by decide +kernel
theorem dX12_surely_45 : decode cX12_surely 45 = .ok (.aload_n 0, 1) := by decide +kernel
theorem dX12_surely_46 : decode cX12_surely 46 = .ok (.iload_n 1, 1) := by decide +kernel
theorem dX12_surely_47 : decode cX12_surely 47 = .ok (.iconst (-1), 1) := by decide +kernel
theorem dX12_surely_48 : decode cX12_surely 48 = .ok (.invokevirtual 361, 3) := by decide +kernel
theorem dX12_surely_51 : decode cX12_surely 51 = .ok (.if_icmp .ne 5, 3) := by decide +kernel
theorem dX12_surely_54 : decode cX12_surely 54 = .ok (.iload_n 2, 1) := by decide +kernel
theorem dX12_surely_55 : decode cX12_surely 55 = .ok (.ireturn, 1) := by decide +kernel
theorem dX12_surely_56 : decode cX12_surely 56 = .ok (.iinc 2 1, 3) := by decide +kernel
theorem dX12_surely_59 : decode cX12_surely 59 = .ok (.goto (-39), 3) := by decide +kernel
theorem dX12_surely_62 : decode cX12_surely 62 = .ok (.bipush (-2), 2) := by decide +kernel
theorem dX12_surely_64 : decode cX12_surely 64 = .ok (.ireturn, 1) := by decide +kernel
theorem dX12_leavesOf_0 : decode cX12_leavesOf 0 = .ok (.aload_n 0, 1) := by decide +kernel
theorem dX12_leavesOf_1 : decode cX12_leavesOf 1 = .ok (.iload_n 1, 1) := by decide +kernel
theorem dX12_leavesOf_2 : decode cX12_leavesOf 2 = .ok (.iload_n 2, 1) := by decide +kernel
theorem dX12_leavesOf_3 : decode cX12_leavesOf 3 = .ok (.invokevirtual 361, 3) := by decide +kernel
theorem dX12_leavesOf_6 : decode cX12_leavesOf 6 = .ok (.istore_n 3, 1) := by decide +kernel
theorem dX12_leavesOf_7 : decode cX12_leavesOf 7 = .ok (.aload_n 0, 1) := by decide +kernel
theorem dX12_leavesOf_8 : decode cX12_leavesOf 8 = .ok (.iload_n 1, 1) := by decide +kernel
theorem dX12_leavesOf_9 : decode cX12_leavesOf 9 = .ok (.iconst (-1), 1) := by decide +kernel
theorem dX12_leavesOf_10 : decode cX12_leavesOf 10 = .ok (.invokevirtual 361, 3) := by decide +kernel
theorem dX12_leavesOf_13 : decode cX12_leavesOf 13 = .ok (.iload_n 3, 1) := by decide +kernel
theorem dX12_leavesOf_14 : decode cX12_leavesOf 14 = .ok (.isub, 1) := by decide +kernel
theorem dX12_leavesOf_15 : decode cX12_leavesOf 15 = .ok (.istore 4, 2) := by decide +kernel
theorem dX12_leavesOf_17 : decode cX12_leavesOf 17 = .ok (.iload_n 3, 1) := by decide +kernel
theorem dX12_leavesOf_18 : decode cX12_leavesOf 18 = .ok (.iload 4, 2) := by decide +kernel
theorem dX12_leavesOf_20 : decode cX12_leavesOf 20 = .ok (.if_icmp .le 7, 3) := by decide +kernel
theorem dX12_leavesOf_23 : decode cX12_leavesOf 23 = .ok (.iload_n 3, 1) := by decide +kernel
theorem dX12_leavesOf_24 : decode cX12_leavesOf 24 = .ok (.goto 5, 3) := by decide +kernel
theorem dX12_leavesOf_27 : decode cX12_leavesOf 27 = .ok (.iload 4, 2) := by decide +kernel
theorem dX12_leavesOf_29 : decode cX12_leavesOf 29 = .ok (.ireturn, 1) := by decide +kernel
theorem dX12_askOf_0 : decode cX12_askOf 0 = .ok (.bipush (-2), 2) := by decide +kernel
theorem dX12_askOf_2 : decode cX12_askOf 2 = .ok (.istore_n 2, 1) := by decide +kernel
theorem dX12_askOf_3 : decode cX12_askOf 3 = .ok (.iconst 0, 1) := by decide +kernel
theorem dX12_askOf_4 : decode cX12_askOf 4 = .ok (.istore_n 3, 1) := by decide +kernel
theorem dX12_askOf_5 : decode cX12_askOf 5 = .ok (.iload_n 3, 1) := by decide +kernel
theorem dX12_askOf_6 : decode cX12_askOf 6 = .ok (.aload_n 0, 1) := by decide +kernel
theorem dX12_askOf_7 : decode cX12_askOf 7 = .ok (.getfield 20, 3) := by decide +kernel
theorem dX12_askOf_10 : decode cX12_askOf 10 = .ok (.iconst 3, 1) := by decide +kernel
theorem dX12_askOf_11 : decode cX12_askOf 11 = .ok (.iaload, 1) := by decide +kernel
theorem dX12_askOf_12 : decode cX12_askOf 12 = .ok (.if_icmp .ge 39, 3) := by decide +kernel
theorem dX12_askOf_15 : decode cX12_askOf 15 = .ok (.aload_n 0, 1) := by decide +kernel
theorem dX12_askOf_16 : decode cX12_askOf 16 = .ok (.iload_n 1, 1) := by decide +kernel
theorem dX12_askOf_17 : decode cX12_askOf 17 = .ok (.iconst (-1), 1) := by decide +kernel
theorem dX12_askOf_18 : decode cX12_askOf 18 = .ok (.invokevirtual 361, 3) := by decide +kernel
theorem dX12_askOf_21 : decode cX12_askOf 21 = .ok (.ifCond .le 30, 3) := by decide +kernel
theorem dX12_askOf_24 : decode cX12_askOf 24 = .ok (.iload_n 2, 1) := by decide +kernel
theorem dX12_askOf_25 : decode cX12_askOf 25 = .ok (.ifCond .lt 18, 3) := by decide +kernel
theorem dX12_askOf_28 : decode cX12_askOf 28 = .ok (.aload_n 0, 1) := by decide +kernel
theorem dX12_askOf_29 : decode cX12_askOf 29 = .ok (.iload_n 1, 1) := by decide +kernel
theorem dX12_askOf_30 : decode cX12_askOf 30 = .ok (.iload_n 3, 1) := by decide +kernel
theorem dX12_askOf_31 : decode cX12_askOf 31 = .ok (.invokevirtual 364, 3) := by decide +kernel
theorem dX12_askOf_34 : decode cX12_askOf 34 = .ok (.aload_n 0, 1) := by decide +kernel
theorem dX12_askOf_35 : decode cX12_askOf 35 = .ok (.iload_n 1, 1) := by decide +kernel
theorem dX12_askOf_36 : decode cX12_askOf 36 = .ok (.iload_n 2, 1) := by decide +kernel
theorem dX12_askOf_37 : decode cX12_askOf 37 = .ok (.invokevirtual 364, 3) := by decide +kernel
theorem dX12_askOf_40 : decode cX12_askOf 40 = .ok (.if_icmp .ge 5, 3) := by decide +kernel
theorem dX12_askOf_43 : decode cX12_askOf 43 = .ok (.iload_n 3, 1) := by decide +kernel
theorem dX12_askOf_44 : decode cX12_askOf 44 = .ok (.istore_n 2, 1) := by decide +kernel
theorem dX12_askOf_45 : decode cX12_askOf 45 = .ok (.iinc 3 1, 3) := by decide +kernel
theorem dX12_askOf_48 : decode cX12_askOf 48 = .ok (.goto (-43), 3) := by decide +kernel
theorem dX12_askOf_51 : decode cX12_askOf 51 = .ok (.iload_n 2, 1) := by decide +kernel
theorem dX12_askOf_52 : decode cX12_askOf 52 = .ok (.ireturn, 1) := by decide +kernel
theorem dX12_ask_0 : decode cX12_ask 0 = .ok (.aload_n 0, 1) := by decide +kernel
theorem dX12_ask_1 : decode cX12_ask 1 = .ok (.invokevirtual 167, 3) := by decide +kernel
theorem dX12_ask_4 : decode cX12_ask 4 = .ok (.aload_n 0, 1) := by decide +kernel
theorem dX12_ask_5 : decode cX12_ask 5 = .ok (.iload_n 1, 1) := by decide +kernel
theorem dX12_ask_6 : decode cX12_ask 6 = .ok (.invokevirtual 358, 3) := by decide +kernel
theorem dX12_ask_9 : decode cX12_ask 9 = .ok (.ifCond .eq 11, 3) := by decide +kernel
theorem dX12_ask_12 : decode cX12_ask 12 = .ok (.aload_n 0, 1) := by decide +kernel
theorem dX12_ask_13 : decode cX12_ask 13 = .ok (.iload_n 1, 1) := by decide +kernel
theorem dX12_ask_14 : decode cX12_ask 14 = .ok (.invokevirtual 367, 3) := by decide +kernel
theorem dX12_ask_17 : decode cX12_ask 17 = .ok (.goto 8, 3) := by decide +kernel
theorem dX12_ask_20 : decode cX12_ask 20 = .ok (.aload_n 0, 1) := by decide +kernel
theorem dX12_ask_21 : decode cX12_ask 21 = .ok (.iconst 1, 1) := by decide +kernel
theorem dX12_ask_22 : decode cX12_ask 22 = .ok (.invokevirtual 170, 3) := by decide +kernel
theorem dX12_ask_25 : decode cX12_ask 25 = .ok (.ireturn, 1) := by decide +kernel
theorem dX12_askLeaves_0 : decode cX12_askLeaves 0 = .ok (.aload_n 0, 1) := by decide +kernel
theorem dX12_askLeaves_1 : decode cX12_askLeaves 1 = .ok (.invokevirtual 167, 3) := by decide +kernel
theorem dX12_askLeaves_4 : decode cX12_askLeaves 4 = .ok (.aload_n 0, 1) := by decide +kernel
theorem dX12_askLeaves_5 : decode cX12_askLeaves 5 = .ok (.iload_n 1, 1) := by decide +kernel
theorem dX12_askLeaves_6 : decode cX12_askLeaves 6 = .ok (.invokevirtual 358, 3) := by decide +kernel
theorem dX12_askLeaves_9 : decode cX12_askLeaves 9 = .ok (.ifCond .ne 9, 3) := by decide +kernel
theorem dX12_askLeaves_12 : decode cX12_askLeaves 12 = .ok (.aload_n 0, 1) := by decide +kernel
theorem dX12_askLeaves_13 : decode cX12_askLeaves 13 = .ok (.iconst 1, 1) := by decide +kernel
theorem dX12_askLeaves_14 : decode cX12_askLeaves 14 = .ok (.invokevirtual 170, 3) := by decide +kernel
theorem dX12_askLeaves_17 : decode cX12_askLeaves 17 = .ok (.ireturn, 1) := by decide +kernel
theorem dX12_askLeaves_18 : decode cX12_askLeaves 18 = .ok (.aload_n 0, 1) := by decide +kernel
theorem dX12_askLeaves_19 : decode cX12_askLeaves 19 = .ok (.iload_n 1, 1) := by decide +kernel
theorem dX12_askLeaves_20 : decode cX12_askLeaves 20 = .ok (.invokevirtual 367, 3) := by decide +kernel
theorem dX12_askLeaves_23 : decode cX12_askLeaves 23 = .ok (.istore_n 2, 1) := by decide +kernel
theorem dX12_askLeaves_24 : decode cX12_askLeaves 24 = .ok (.iload_n 2, 1) := by decide +kernel
theorem dX12_askLeaves_25 : decode cX12_askLeaves 25 = .ok (.ifCond .ge 8, 3) := by decide +kernel
theorem dX12_askLeaves_28 : decode cX12_askLeaves 28 = .ok (.bipush (-2), 2) := by decide +kernel
theorem dX12_askLeaves_30 : decode cX12_askLeaves 30 = .ok (.goto 9, 3) := by decide +kernel
theorem dX12_askLeaves_33 : decode cX12_askLeaves 33 = .ok (.aload_n 0, 1) := by decide +kernel
theorem dX12_askLeaves_34 : decode cX12_askLeaves 34 = .ok (.iload_n 1, 1) := by decide +kernel
theorem dX12_askLeaves_35 : decode cX12_askLeaves 35 = .ok (.iload_n 2, 1) := by decide +kernel
theorem dX12_askLeaves_36 : decode cX12_askLeaves 36 = .ok (.invokevirtual 364, 3) := by decide +kernel
theorem dX12_askLeaves_39 : decode cX12_askLeaves 39 = .ok (.ireturn, 1) := by decide +kernel
theorem dX12_keepers_0 : decode cX12_keepers 0 = .ok (.iload_n 1, 1) := by decide +kernel
theorem dX12_keepers_1 : decode cX12_keepers 1 = .ok (.ifCond .eq 15, 3) := by decide +kernel
theorem dX12_keepers_4 : decode cX12_keepers 4 = .ok (.iload_n 2, 1) := by decide +kernel
theorem dX12_keepers_5 : decode cX12_keepers 5 = .ok (.ifCond .eq 7, 3) := by decide +kernel
theorem dX12_keepers_8 : decode cX12_keepers 8 = .ok (.iconst 3, 1) := by decide +kernel
theorem dX12_keepers_9 : decode cX12_keepers 9 = .ok (.goto 17, 3) := by decide +kernel
theorem dX12_keepers_12 : decode cX12_keepers 12 = .ok (.iconst (-1), 1) := by decide +kernel
theorem dX12_keepers_13 : decode cX12_keepers 13 = .ok (.goto 13, 3) := by decide +kernel
theorem dX12_keepers_16 : decode cX12_keepers 16 = .ok (.iload_n 2, 1) := by decide +kernel
theorem dX12_keepers_17 : decode cX12_keepers 17 = .ok (.ifCond .eq 8, 3) := by decide +kernel
theorem dX12_keepers_20 : decode cX12_keepers 20 = .ok (.iload_n 0, 1) := by decide +kernel
theorem dX12_keepers_21 : decode cX12_keepers 21 = .ok (.ineg, 1) := by decide +kernel
theorem dX12_keepers_22 : decode cX12_keepers 22 = .ok (.goto 4, 3) := by decide +kernel
theorem dX12_keepers_25 : decode cX12_keepers 25 = .ok (.iconst 0, 1) := by decide +kernel
theorem dX12_keepers_26 : decode cX12_keepers 26 = .ok (.ireturn, 1) := by decide +kernel
theorem dX12_poachers_0 : decode cX12_poachers 0 = .ok (.iload_n 2, 1) := by decide +kernel
theorem dX12_poachers_1 : decode cX12_poachers 1 = .ok (.ifCond .ne 7, 3) := by decide +kernel
theorem dX12_poachers_4 : decode cX12_poachers 4 = .ok (.iconst 0, 1) := by decide +kernel
theorem dX12_poachers_5 : decode cX12_poachers 5 = .ok (.goto 13, 3) := by decide +kernel
theorem dX12_poachers_8 : decode cX12_poachers 8 = .ok (.iload_n 1, 1) := by decide +kernel
theorem dX12_poachers_9 : decode cX12_poachers 9 = .ok (.ifCond .eq 8, 3) := by decide +kernel
theorem dX12_poachers_12 : decode cX12_poachers 12 = .ok (.iload_n 0, 1) := by decide +kernel
theorem dX12_poachers_13 : decode cX12_poachers 13 = .ok (.ineg, 1) := by decide +kernel
theorem dX12_poachers_14 : decode cX12_poachers 14 = .ok (.goto 4, 3) := by decide +kernel
theorem dX12_poachers_17 : decode cX12_poachers 17 = .ok (.iload_n 0, 1) := by decide +kernel
theorem dX12_poachers_18 : decode cX12_poachers 18 = .ok (.ireturn, 1) := by decide +kernel
theorem dX12_edge_0 : decode cX12_edge 0 = .ok (.aload_n 0, 1) := by decide +kernel
theorem dX12_edge_1 : decode cX12_edge 1 = .ok (.invokevirtual 167, 3) := by decide +kernel
theorem dX12_edge_4 : decode cX12_edge 4 = .ok (.aload_n 0, 1) := by decide +kernel
theorem dX12_edge_5 : decode cX12_edge 5 = .ok (.aload_n 0, 1) := by decide +kernel
theorem dX12_edge_6 : decode cX12_edge 6 = .ok (.getfield 180, 3) := by decide +kernel
theorem dX12_edge_9 : decode cX12_edge 9 = .ok (.iload_n 1, 1) := by decide +kernel
theorem dX12_edge_10 : decode cX12_edge 10 = .ok (.iconst 0, 1) := by decide +kernel
theorem dX12_edge_11 : decode cX12_edge 11 = .ok (.bipush 20, 2) := by decide +kernel
theorem dX12_edge_13 : decode cX12_edge 13 = .ok (.invokestatic 146, 3) := by decide +kernel
theorem dX12_edge_16 : decode cX12_edge 16 = .ok (.invokevirtual 303, 3) := by decide +kernel
theorem dX12_edge_19 : decode cX12_edge 19 = .ok (.istore 5, 2) := by decide +kernel
theorem dX12_edge_21 : decode cX12_edge 21 = .ok (.iload 5, 2) := by decide +kernel
theorem dX12_edge_23 : decode cX12_edge 23 = .ok (.ifCond .ne 24, 3) := by decide +kernel
theorem dX12_edge_26 : decode cX12_edge 26 = .ok (.iload 4, 2) := by decide +kernel
theorem dX12_edge_28 : decode cX12_edge 28 = .ok (.ifCond .eq 12, 3) := by decide +kernel
theorem dX12_edge_31 : decode cX12_edge 31 = .ok (.iload_n 1, 1) := by decide +kernel
theorem dX12_edge_32 : decode cX12_edge 32 = .ok (.iload_n 2, 1) := by decide +kernel
theorem dX12_edge_33 : decode cX12_edge 33 = .ok (.iload_n 3, 1) := by decide +kernel
theorem dX12_edge_34 : decode cX12_edge 34 = .ok (.invokestatic 370, 3) := by decide +kernel
theorem dX12_edge_37 : decode cX12_edge 37 = .ok (.goto 9, 3) := by decide +kernel
theorem dX12_edge_40 : decode cX12_edge 40 = .ok (.iload_n 1, 1) := by decide +kernel
theorem dX12_edge_41 : decode cX12_edge 41 = .ok (.iload_n 2, 1) := by decide +kernel
theorem dX12_edge_42 : decode cX12_edge 42 = .ok (.iload_n 3, 1) := by decide +kernel
theorem dX12_edge_43 : decode cX12_edge 43 = .ok (.invokestatic 374, 3) := by decide +kernel
theorem dX12_edge_46 : decode cX12_edge 46 = .ok (.ireturn, 1) := by decide +kernel
theorem dX12_edge_47 : decode cX12_edge 47 = .ok (.aload_n 0, 1) := by decide +kernel
theorem dX12_edge_48 : decode cX12_edge 48 = .ok (.iload 5, 2) := by decide +kernel
theorem dX12_edge_50 : decode cX12_edge 50 = .ok (.putfield 59, 3) := by decide +kernel
theorem dX12_edge_53 : decode cX12_edge 53 = .ok (.bipush (-100), 2) := by decide +kernel
theorem dX12_edge_55 : decode cX12_edge 55 = .ok (.ireturn, 1) := by decide +kernel
theorem dX12_isRest_0 : decode cX12_isRest 0 = .ok (.iload_n 0, 1) := by decide +kernel
theorem dX12_isRest_1 : decode cX12_isRest 1 = .ok (.iload_n 1, 1) := by decide +kernel
theorem dX12_isRest_2 : decode cX12_isRest 2 = .ok (.ifCond .ne 7, 3) := by decide +kernel
theorem dX12_isRest_5 : decode cX12_isRest 5 = .ok (.iconst 1, 1) := by decide +kernel
theorem dX12_isRest_6 : decode cX12_isRest 6 = .ok (.goto 4, 3) := by decide +kernel
theorem dX12_isRest_9 : decode cX12_isRest 9 = .ok (.iconst 0, 1) := by decide +kernel
theorem dX12_isRest_10 : decode cX12_isRest 10 = .ok (.iload_n 2, 1) := by decide +kernel
theorem dX12_isRest_11 : decode cX12_isRest 11 = .ok (.invokestatic 374, 3) := by decide +kernel
theorem dX12_isRest_14 : decode cX12_isRest 14 = .ok (.iload_n 0, 1) := by decide +kernel
theorem dX12_isRest_15 : decode cX12_isRest 15 = .ok (.iload_n 1, 1) := by decide +kernel
theorem dX12_isRest_16 : decode cX12_isRest 16 = .ok (.iload_n 2, 1) := by decide +kernel
theorem dX12_isRest_17 : decode cX12_isRest 17 = .ok (.invokestatic 374, 3) := by decide +kernel
theorem dX12_isRest_20 : decode cX12_isRest 20 = .ok (.if_icmp .gt 30, 3) := by decide +kernel
theorem dX12_isRest_23 : decode cX12_isRest 23 = .ok (.iload_n 0, 1) := by decide +kernel
theorem dX12_isRest_24 : decode cX12_isRest 24 = .ok (.iload_n 1, 1) := by decide +kernel
theorem dX12_isRest_25 : decode cX12_isRest 25 = .ok (.iload_n 2, 1) := by decide +kernel
theorem dX12_isRest_26 : decode cX12_isRest 26 = .ok (.ifCond .ne 7, 3) := by decide +kernel
theorem dX12_isRest_29 : decode cX12_isRest 29 = .ok (.iconst 1, 1) := by decide +kernel
theorem dX12_isRest_30 : decode cX12_isRest 30 = .ok (.goto 4, 3) := by decide +kernel
theorem dX12_isRest_33 : decode cX12_isRest 33 = .ok (.iconst 0, 1) := by decide +kernel
theorem dX12_isRest_34 : decode cX12_isRest 34 = .ok (.invokestatic 370, 3) := by decide +kernel
theorem dX12_isRest_37 : decode cX12_isRest 37 = .ok (.iload_n 0, 1) := by decide +kernel
theorem dX12_isRest_38 : decode cX12_isRest 38 = .ok (.iload_n 1, 1) := by decide +kernel
theorem dX12_isRest_39 : decode cX12_isRest 39 = .ok (.iload_n 2, 1) := by decide +kernel
theorem dX12_isRest_40 : decode cX12_isRest 40 = .ok (.invokestatic 370, 3) := by decide +kernel
theorem dX12_isRest_43 : decode cX12_isRest 43 = .ok (.if_icmp .gt 7, 3) := by decide +kernel
theorem dX12_isRest_46 : decode cX12_isRest 46 = .ok (.iconst 1, 1) := by decide +kernel
theorem dX12_isRest_47 : decode cX12_isRest 47 = .ok (.goto 4, 3) := by decide +kernel
theorem dX12_isRest_50 : decode cX12_isRest 50 = .ok (.iconst 0, 1) := by decide +kernel
theorem dX12_isRest_51 : decode cX12_isRest 51 = .ok (.ireturn, 1) := by decide +kernel
theorem dX12_seekRests_0 : decode cX12_seekRests 0 = .ok (.iconst 0, 1) := by decide +kernel
theorem dX12_seekRests_1 : decode cX12_seekRests 1 = .ok (.istore_n 2, 1) := by decide +kernel
theorem dX12_seekRests_2 : decode cX12_seekRests 2 = .ok (.aload_n 0, 1) := by decide +kernel
theorem dX12_seekRests_3 : decode cX12_seekRests 3 = .ok (.bipush (-2), 2) := by decide +kernel
theorem dX12_seekRests_5 : decode cX12_seekRests 5 = .ok (.putfield 377, 3) := by decide +kernel
theorem dX12_seekRests_8 : decode cX12_seekRests 8 = .ok (.iconst 0, 1) := by decide +kernel
theorem dX12_seekRests_9 : decode cX12_seekRests 9 = .ok (.istore_n 3, 1) := by decide +kernel
theorem dX12_seekRests_10 : decode cX12_seekRests 10 = .ok (.iload_n 3, 1) := by decide +kernel
theorem dX12_seekRests_11 : decode cX12_seekRests 11 = .ok (.iconst 4, 1) := by decide +kernel
theorem dX12_seekRests_12 : decode cX12_seekRests 12 = .ok (.if_icmp .ge 62, 3) := by decide +kernel
theorem dX12_seekRests_15 : decode cX12_seekRests 15 = .ok (.iload_n 1, 1) := by decide +kernel
theorem dX12_seekRests_16 : decode cX12_seekRests 16 = .ok (.iload_n 3, 1) := by decide +kernel
theorem dX12_seekRests_17 : decode cX12_seekRests 17 = .ok (.iconst 1, 1) := by decide +kernel
theorem dX12_seekRests_18 : decode cX12_seekRests 18 = .ok (.if_icmp .le 7, 3) := by decide +kernel
theorem dX12_seekRests_21 : decode cX12_seekRests 21 = .ok (.iconst 1, 1) := by decide +kernel
theorem dX12_seekRests_22 : decode cX12_seekRests 22 = .ok (.goto 4, 3) := by decide +kernel
theorem dX12_seekRests_25 : decode cX12_seekRests 25 = .ok (.iconst 0, 1) := by decide +kernel
theorem dX12_seekRests_26 : decode cX12_seekRests 26 = .ok (.iload_n 3, 1) := by decide +kernel
theorem dX12_seekRests_27 : decode cX12_seekRests 27 = .ok (.iconst 2, 1) := by decide +kernel
theorem dX12_seekRests_28 : decode cX12_seekRests 28 = .ok (.irem, 1) := by decide +kernel
theorem dX12_seekRests_29 : decode cX12_seekRests 29 = .ok (.iconst 1, 1) := by decide +kernel
theorem dX12_seekRests_30 : decode cX12_seekRests 30 = .ok (.if_icmp .ne 7, 3) := by decide +kernel
theorem dX12_seekRests_33 : decode cX12_seekRests 33 = .ok (.iconst 1, 1) := by decide +kernel
theorem dX12_seekRests_34 : decode cX12_seekRests 34 = .ok (.goto 4, 3) := by decide +kernel
theorem dX12_seekRests_37 : decode cX12_seekRests 37 = .ok (.iconst 0, 1) := by decide +kernel
theorem dX12_seekRests_38 : decode cX12_seekRests 38 = .ok (.invokestatic 380, 3) := by decide +kernel
theorem dX12_seekRests_41 : decode cX12_seekRests 41 = .ok (.ifCond .ne 6, 3) := by decide +kernel
theorem dX12_seekRests_44 : decode cX12_seekRests 44 = .ok (.goto 24, 3) := by decide +kernel
theorem dX12_seekRests_47 : decode cX12_seekRests 47 = .ok (.iload_n 2, 1) := by decide +kernel
theorem dX12_seekRests_48 : decode cX12_seekRests 48 = .ok (.ifCond .ne 17, 3) := by decide +kernel
theorem dX12_seekRests_51 : decode cX12_seekRests 51 = .ok (.aload_n 0, 1) := by decide +kernel
theorem dX12_seekRests_52 : decode cX12_seekRests 52 = .ok (.bipush 10, 2) := by decide +kernel
theorem dX12_seekRests_54 : decode cX12_seekRests 54 = .ok (.iload_n 3, 1) := by decide +kernel
theorem dX12_seekRests_55 : decode cX12_seekRests 55 = .ok (.iconst 2, 1) := by decide +kernel
theorem dX12_seekRests_56 : decode cX12_seekRests 56 = .ok (.idiv, 1) := by decide +kernel
theorem dX12_seekRests_57 : decode cX12_seekRests 57 = .ok (.imul, 1) := by decide +kernel
theorem dX12_seekRests_58 : decode cX12_seekRests 58 = .ok (.iload_n 3, 1) := by decide +kernel
theorem dX12_seekRests_59 : decode cX12_seekRests 59 = .ok (.iconst 2, 1) := by decide +kernel
theorem dX12_seekRests_60 : decode cX12_seekRests 60 = .ok (.irem, 1) := by decide +kernel
theorem dX12_seekRests_61 : decode cX12_seekRests 61 = .ok (.iadd, 1) := by decide +kernel
theorem dX12_seekRests_62 : decode cX12_seekRests 62 = .ok (.putfield 377, 3) := by decide +kernel
theorem dX12_seekRests_65 : decode cX12_seekRests 65 = .ok (.iinc 2 1, 3) := by decide +kernel
theorem dX12_seekRests_68 : decode cX12_seekRests 68 = .ok (.iinc 3 1, 3) := by decide +kernel
theorem dX12_seekRests_71 : decode cX12_seekRests 71 = .ok (.goto (-61), 3) := by decide +kernel
theorem dX12_seekRests_74 : decode cX12_seekRests 74 = .ok (.iload_n 2, 1) := by decide +kernel
theorem dX12_seekRests_75 : decode cX12_seekRests 75 = .ok (.ireturn, 1) := by decide +kernel
theorem dX12_rests_0 : decode cX12_rests 0 = .ok (.aload_n 0, 1) := by decide +kernel
theorem dX12_rests_1 : decode cX12_rests 1 = .ok (.invokevirtual 167, 3) := by decide +kernel
theorem dX12_rests_4 : decode cX12_rests 4 = .ok (.aload_n 0, 1) := by decide +kernel
theorem dX12_rests_5 : decode cX12_rests 5 = .ok (.aload_n 0, 1) := by decide +kernel
theorem dX12_rests_6 : decode cX12_rests 6 = .ok (.getfield 180, 3) := by decide +kernel
theorem dX12_rests_9 : decode cX12_rests 9 = .ok (.iload_n 1, 1) := by decide +kernel
theorem dX12_rests_10 : decode cX12_rests 10 = .ok (.iconst 0, 1) := by decide +kernel
theorem dX12_rests_11 : decode cX12_rests 11 = .ok (.bipush 20, 2) := by decide +kernel
theorem dX12_rests_13 : decode cX12_rests 13 = .ok (.invokestatic 146, 3) := by decide +kernel
theorem dX12_rests_16 : decode cX12_rests 16 = .ok (.invokevirtual 303, 3) := by decide +kernel
theorem dX12_rests_19 : decode cX12_rests 19 = .ok (.istore_n 2, 1) := by decide +kernel
theorem dX12_rests_20 : decode cX12_rests 20 = .ok (.iload_n 2, 1) := by decide +kernel
theorem dX12_rests_21 : decode cX12_rests 21 = .ok (.ifCond .eq 11, 3) := by decide +kernel
theorem dX12_rests_24 : decode cX12_rests 24 = .ok (.aload_n 0, 1) := by decide +kernel
theorem dX12_rests_25 : decode cX12_rests 25 = .ok (.iload_n 2, 1) := by decide +kernel
theorem dX12_rests_26 : decode cX12_rests 26 = .ok (.invokevirtual 170, 3) := by decide +kernel
theorem dX12_rests_29 : decode cX12_rests 29 = .ok (.goto 8, 3) := by decide +kernel
theorem dX12_rests_32 : decode cX12_rests 32 = .ok (.aload_n 0, 1) := by decide +kernel
theorem dX12_rests_33 : decode cX12_rests 33 = .ok (.iload_n 1, 1) := by decide +kernel
theorem dX12_rests_34 : decode cX12_rests 34 = .ok (.invokevirtual 384, 3) := by decide +kernel
theorem dX12_rests_37 : decode cX12_rests 37 = .ok (.ireturn, 1) := by decide +kernel
theorem dX12_rest_0 : decode cX12_rest 0 = .ok (.aload_n 0, 1) := by decide +kernel
theorem dX12_rest_1 : decode cX12_rest 1 = .ok (.invokevirtual 167, 3) := by decide +kernel
theorem dX12_rest_4 : decode cX12_rest 4 = .ok (.aload_n 0, 1) := by decide +kernel
theorem dX12_rest_5 : decode cX12_rest 5 = .ok (.aload_n 0, 1) := by decide +kernel
theorem dX12_rest_6 : decode cX12_rest 6 = .ok (.getfield 180, 3) := by decide +kernel
theorem dX12_rest_9 : decode cX12_rest 9 = .ok (.iload_n 1, 1) := by decide +kernel
theorem dX12_rest_10 : decode cX12_rest 10 = .ok (.iconst 0, 1) := by decide +kernel
theorem dX12_rest_11 : decode cX12_rest 11 = .ok (.bipush 20, 2) := by decide +kernel
theorem dX12_rest_13 : decode cX12_rest 13 = .ok (.invokestatic 146, 3) := by decide +kernel
theorem dX12_rest_16 : decode cX12_rest 16 = .ok (.invokevirtual 303, 3) := by decide +kernel
theorem dX12_rest_19 : decode cX12_rest 19 = .ok (.istore_n 2, 1) := by decide +kernel
theorem dX12_rest_20 : decode cX12_rest 20 = .ok (.iload_n 2, 1) := by decide +kernel
theorem dX12_rest_21 : decode cX12_rest 21 = .ok (.ifCond .eq 9, 3) := by decide +kernel
theorem dX12_rest_24 : decode cX12_rest 24 = .ok (.aload_n 0, 1) := by decide +kernel
theorem dX12_rest_25 : decode cX12_rest 25 = .ok (.iload_n 2, 1) := by decide +kernel
theorem dX12_rest_26 : decode cX12_rest 26 = .ok (.invokevirtual 170, 3) := by decide +kernel
theorem dX12_rest_29 : decode cX12_rest 29 = .ok (.ireturn, 1) := by decide +kernel
theorem dX12_rest_30 : decode cX12_rest 30 = .ok (.aload_n 0, 1) := by decide +kernel
theorem dX12_rest_31 : decode cX12_rest 31 = .ok (.iload_n 1, 1) := by decide +kernel
theorem dX12_rest_32 : decode cX12_rest 32 = .ok (.invokevirtual 384, 3) := by decide +kernel
theorem dX12_rest_35 : decode cX12_rest 35 = .ok (.pop, 1) := by decide +kernel
theorem dX12_rest_36 : decode cX12_rest 36 = .ok (.aload_n 0, 1) := by decide +kernel
theorem dX12_rest_37 : decode cX12_rest 37 = .ok (.getfield 377, 3) := by decide +kernel
theorem dX12_rest_40 : decode cX12_rest 40 = .ok (.ireturn, 1) := by decide +kernel
theorem dX12_deadBy_0 : decode cX12_deadBy 0 = .ok (.ldc2_w 387, 3) := by decide +kernel
theorem dX12_deadBy_3 : decode cX12_deadBy 3 = .ok (.iload_n 1, 1) := by decide +kernel
theorem dX12_deadBy_4 : decode cX12_deadBy 4 = .ok (.invokestatic 389, 3) := by decide +kernel
theorem dX12_deadBy_7 : decode cX12_deadBy 7 = .ok (.bipush 100, 2) := by decide +kernel
theorem dX12_deadBy_9 : decode cX12_deadBy 9 = .ok (.aload_n 0, 1) := by decide +kernel
theorem dX12_deadBy_10 : decode cX12_deadBy 10 = .ok (.getfield 20, 3) := by decide +kernel
theorem dX12_deadBy_13 : decode cX12_deadBy 13 = .ok (.iconst 0, 1) := by decide +kernel
theorem dX12_deadBy_14 : decode cX12_deadBy 14 = .ok (.iaload, 1) := by decide +kernel
theorem dX12_deadBy_15 : decode cX12_deadBy 15 = .ok (.isub, 1) := by decide +kernel
theorem dX12_deadBy_16 : decode cX12_deadBy 16 = .ok (.i2l, 1) := by decide +kernel
theorem dX12_deadBy_17 : decode cX12_deadBy 17 = .ok (.iload_n 1, 1) := by decide +kernel
theorem dX12_deadBy_18 : decode cX12_deadBy 18 = .ok (.invokestatic 389, 3) := by decide +kernel
theorem dX12_deadBy_21 : decode cX12_deadBy 21 = .ok (.lsub, 1) := by decide +kernel
theorem dX12_deadBy_22 : decode cX12_deadBy 22 = .ok (.lreturn, 1) := by decide +kernel
theorem dX12_breathes_0 : decode cX12_breathes 0 = .ok (.aload_n 0, 1) := by decide +kernel
theorem dX12_breathes_1 : decode cX12_breathes 1 = .ok (.invokevirtual 167, 3) := by decide +kernel
theorem dX12_breathes_4 : decode cX12_breathes 4 = .ok (.aload_n 0, 1) := by decide +kernel
theorem dX12_breathes_5 : decode cX12_breathes 5 = .ok (.aload_n 0, 1) := by decide +kernel
theorem dX12_breathes_6 : decode cX12_breathes 6 = .ok (.iload_n 1, 1) := by decide +kernel
theorem dX12_breathes_7 : decode cX12_breathes 7 = .ok (.invokevirtual 300, 3) := by decide +kernel
theorem dX12_breathes_10 : decode cX12_breathes 10 = .ok (.iload_n 2, 1) := by decide +kernel
theorem dX12_breathes_11 : decode cX12_breathes 11 = .ok (.iconst 0, 1) := by decide +kernel
theorem dX12_breathes_12 : decode cX12_breathes 12 = .ok (.iconst 2, 1) := by decide +kernel
theorem dX12_breathes_13 : decode cX12_breathes 13 = .ok (.invokestatic 146, 3) := by decide +kernel
theorem dX12_breathes_16 : decode cX12_breathes 16 = .ok (.invokevirtual 303, 3) := by decide +kernel
theorem dX12_breathes_19 : decode cX12_breathes 19 = .ok (.istore 4, 2) := by decide +kernel
theorem dX12_breathes_21 : decode cX12_breathes 21 = .ok (.iload 4, 2) := by decide +kernel
theorem dX12_breathes_23 : decode cX12_breathes 23 = .ok (.ifCond .eq 13, 3) := by decide +kernel
theorem dX12_breathes_26 : decode cX12_breathes 26 = .ok (.aload_n 0, 1) := by decide +kernel
theorem dX12_breathes_27 : decode cX12_breathes 27 = .ok (.iload 4, 2) := by decide +kernel
theorem dX12_breathes_29 : decode cX12_breathes 29 = .ok (.invokevirtual 170, 3) := by decide +kernel
theorem dX12_breathes_32 : decode cX12_breathes 32 = .ok (.i2l, 1) := by decide +kernel
theorem dX12_breathes_33 : decode cX12_breathes 33 = .ok (.goto 19, 3) := by decide +kernel
theorem dX12_breathes_36 : decode cX12_breathes 36 = .ok (.aload_n 0, 1) := by decide +kernel
theorem dX12_breathes_37 : decode cX12_breathes 37 = .ok (.iload_n 2, 1) := by decide +kernel
theorem dX12_breathes_38 : decode cX12_breathes 38 = .ok (.invokevirtual 393, 3) := by decide +kernel
theorem dX12_breathes_41 : decode cX12_breathes 41 = .ok (.ldc2_w 387, 3) := by decide +kernel
theorem dX12_breathes_44 : decode cX12_breathes 44 = .ok (.iload_n 2, 1) := by decide +kernel
theorem dX12_breathes_45 : decode cX12_breathes 45 = .ok (.invokestatic 389, 3) := by decide +kernel
theorem dX12_breathes_48 : decode cX12_breathes 48 = .ok (.iload_n 3, 1) := by decide +kernel
theorem dX12_breathes_49 : decode cX12_breathes 49 = .ok (.invokestatic 397, 3) := by decide +kernel
theorem dX12_breathes_52 : decode cX12_breathes 52 = .ok (.lreturn, 1) := by decide +kernel
theorem dX12_silent_0 : decode cX12_silent 0 = .ok (.aload_n 0, 1) := by decide +kernel
theorem dX12_silent_1 : decode cX12_silent 1 = .ok (.invokevirtual 167, 3) := by decide +kernel
theorem dX12_silent_4 : decode cX12_silent 4 = .ok (.aload_n 0, 1) := by decide +kernel
theorem dX12_silent_5 : decode cX12_silent 5 = .ok (.aload_n 0, 1) := by decide +kernel
theorem dX12_silent_6 : decode cX12_silent 6 = .ok (.getfield 180, 3) := by decide +kernel
theorem dX12_silent_9 : decode cX12_silent 9 = .ok (.iload_n 1, 1) := by decide +kernel
theorem dX12_silent_10 : decode cX12_silent 10 = .ok (.iconst 0, 1) := by decide +kernel
theorem dX12_silent_11 : decode cX12_silent 11 = .ok (.iconst 2, 1) := by decide +kernel
theorem dX12_silent_12 : decode cX12_silent 12 = .ok (.invokestatic 146, 3) := by decide +kernel
theorem dX12_silent_15 : decode cX12_silent 15 = .ok (.invokevirtual 303, 3) := by decide +kernel
theorem dX12_silent_18 : decode cX12_silent 18 = .ok (.istore_n 3, 1) := by decide +kernel
theorem dX12_silent_19 : decode cX12_silent 19 = .ok (.iload_n 3, 1) := by decide +kernel
theorem dX12_silent_20 : decode cX12_silent 20 = .ok (.ifCond .eq 12, 3) := by decide +kernel
theorem dX12_silent_23 : decode cX12_silent 23 = .ok (.aload_n 0, 1) := by decide +kernel
theorem dX12_silent_24 : decode cX12_silent 24 = .ok (.iload_n 3, 1) := by decide +kernel
theorem dX12_silent_25 : decode cX12_silent 25 = .ok (.invokevirtual 170, 3) := by decide +kernel
