theorem dX0_init_0 : decode cX0_init 0 = .ok (.aload_n 0, 1) := by decide +kernel
theorem dX0_init_1 : decode cX0_init 1 = .ok (.invokespecial 3, 3) := by decide +kernel
theorem dX0_init_4 : decode cX0_init 4 = .ok (.aload_n 0, 1) := by decide +kernel
theorem dX0_init_5 : decode cX0_init 5 = .ok (.new 9, 3) := by decide +kernel
theorem dX0_init_8 : decode cX0_init 8 = .ok (.dup, 1) := by decide +kernel
theorem dX0_init_9 : decode cX0_init 9 = .ok (.bipush 8, 2) := by decide +kernel
theorem dX0_init_11 : decode cX0_init 11 = .ok (.invokespecial 11, 3) := by decide +kernel
theorem dX0_init_14 : decode cX0_init 14 = .ok (.putfield 14, 3) := by decide +kernel
theorem dX0_init_17 : decode cX0_init 17 = .ok (.aload_n 0, 1) := by decide +kernel
theorem dX0_init_18 : decode cX0_init 18 = .ok (.bipush 8, 2) := by decide +kernel
theorem dX0_init_20 : decode cX0_init 20 = .ok (.newarray .int, 2) := by decide +kernel
theorem dX0_init_22 : decode cX0_init 22 = .ok (.putfield 20, 3) := by decide +kernel
theorem dX0_init_25 : decode cX0_init 25 = .ok (.aload_n 0, 1) := by decide +kernel
theorem dX0_init_26 : decode cX0_init 26 = .ok (.bipush 8, 2) := by decide +kernel
theorem dX0_init_28 : decode cX0_init 28 = .ok (.newarray .int, 2) := by decide +kernel
theorem dX0_init_30 : decode cX0_init 30 = .ok (.putfield 24, 3) := by decide +kernel
theorem dX0_init_33 : decode cX0_init 33 = .ok (.aload_n 0, 1) := by decide +kernel
theorem dX0_init_34 : decode cX0_init 34 = .ok (.bipush 8, 2) := by decide +kernel
theorem dX0_init_36 : decode cX0_init 36 = .ok (.newarray .int, 2) := by decide +kernel
theorem dX0_init_38 : decode cX0_init 38 = .ok (.putfield 27, 3) := by decide +kernel
theorem dX0_init_41 : decode cX0_init 41 = .ok (.aload_n 0, 1) := by decide +kernel
theorem dX0_init_42 : decode cX0_init 42 = .ok (.bipush 8, 2) := by decide +kernel
theorem dX0_init_44 : decode cX0_init 44 = .ok (.newarray .int, 2) := by decide +kernel
theorem dX0_init_46 : decode cX0_init 46 = .ok (.putfield 30, 3) := by decide +kernel
theorem dX0_init_49 : decode cX0_init 49 = .ok (.aload_n 0, 1) := by decide +kernel
theorem dX0_init_50 : decode cX0_init 50 = .ok (.bipush 8, 2) := by decide +kernel
theorem dX0_init_52 : decode cX0_init 52 = .ok (.newarray .int, 2) := by decide +kernel
theorem dX0_init_54 : decode cX0_init 54 = .ok (.putfield 33, 3) := by decide +kernel
theorem dX0_init_57 : decode cX0_init 57 = .ok (.aload_n 0, 1) := by decide +kernel
theorem dX0_init_58 : decode cX0_init 58 = .ok (.bipush 8, 2) := by decide +kernel
theorem dX0_init_60 : decode cX0_init 60 = .ok (.newarray .int, 2) := by decide +kernel
theorem dX0_init_62 : decode cX0_init 62 = .ok (.putfield 36, 3) := by decide +kernel
theorem dX0_init_65 : decode cX0_init 65 = .ok (.aload_n 0, 1) := by decide +kernel
theorem dX0_init_66 : decode cX0_init 66 = .ok (.new 39, 3) := by decide +kernel
theorem dX0_init_69 : decode cX0_init 69 = .ok (.dup, 1) := by decide +kernel
theorem dX0_init_70 : decode cX0_init 70 = .ok (.bipush 8, 2) := by decide +kernel
theorem dX0_init_72 : decode cX0_init 72 = .ok (.invokespecial 41, 3) := by decide +kernel
theorem dX0_init_75 : decode cX0_init 75 = .ok (.putfield 42, 3) := by decide +kernel
theorem dX0_init_78 : decode cX0_init 78 = .ok (.aload_n 0, 1) := by decide +kernel
theorem dX0_init_79 : decode cX0_init 79 = .ok (.aload_n 1, 1) := by decide +kernel
theorem dX0_init_80 : decode cX0_init 80 = .ok (.putfield 46, 3) := by decide +kernel
theorem dX0_init_83 : decode cX0_init 83 = .ok (.aload_n 0, 1) := by decide +kernel
theorem dX0_init_84 : decode cX0_init 84 = .ok (.aload_n 2, 1) := by decide +kernel
theorem dX0_init_85 : decode cX0_init 85 = .ok (.putfield 50, 3) := by decide +kernel
theorem dX0_init_88 : decode cX0_init 88 = .ok (.return_, 1) := by decide +kernel
theorem dX0_findRepair_0 : decode cX0_findRepair 0 = .ok (.aload_n 0, 1) := by decide +kernel
theorem dX0_findRepair_1 : decode cX0_findRepair 1 = .ok (.getfield 46, 3) := by decide +kernel
theorem dX0_findRepair_4 : decode cX0_findRepair 4 = .ok (.getfield 54, 3) := by decide +kernel
theorem dX0_findRepair_7 : decode cX0_findRepair 7 = .ok (.iload_n 1, 1) := by decide +kernel
theorem dX0_findRepair_8 : decode cX0_findRepair 8 = .ok (.iaload, 1) := by decide +kernel
theorem dX0_findRepair_9 : decode cX0_findRepair 9 = .ok (.istore 4, 2) := by decide +kernel
theorem dX0_findRepair_11 : decode cX0_findRepair 11 = .ok (.aload_n 0, 1) := by decide +kernel
theorem dX0_findRepair_12 : decode cX0_findRepair 12 = .ok (.getfield 50, 3) := by decide +kernel
theorem dX0_findRepair_15 : decode cX0_findRepair 15 = .ok (.iload_n 1, 1) := by decide +kernel
theorem dX0_findRepair_16 : decode cX0_findRepair 16 = .ok (.iload_n 3, 1) := by decide +kernel
theorem dX0_findRepair_17 : decode cX0_findRepair 17 = .ok (.iload 4, 2) := by decide +kernel
theorem dX0_findRepair_19 : decode cX0_findRepair 19 = .ok (.iconst 1, 1) := by decide +kernel
theorem dX0_findRepair_20 : decode cX0_findRepair 20 = .ok (.iload_n 2, 1) := by decide +kernel
theorem dX0_findRepair_21 : decode cX0_findRepair 21 = .ok (.ishl, 1) := by decide +kernel
theorem dX0_findRepair_22 : decode cX0_findRepair 22 = .ok (.iconst (-1), 1) := by decide +kernel
theorem dX0_findRepair_23 : decode cX0_findRepair 23 = .ok (.ixor, 1) := by decide +kernel
theorem dX0_findRepair_24 : decode cX0_findRepair 24 = .ok (.iand, 1) := by decide +kernel
theorem dX0_findRepair_25 : decode cX0_findRepair 25 = .ok (.aload_n 0, 1) := by decide +kernel
theorem dX0_findRepair_26 : decode cX0_findRepair 26 = .ok (.getfield 14, 3) := by decide +kernel
theorem dX0_findRepair_29 : decode cX0_findRepair 29 = .ok (.invokevirtual 59, 3) := by decide +kernel
theorem dX0_findRepair_32 : decode cX0_findRepair 32 = .ok (.ifCond .eq 17, 3) := by decide +kernel
theorem dX0_findRepair_35 : decode cX0_findRepair 35 = .ok (.aload_n 0, 1) := by decide +kernel
theorem dX0_findRepair_36 : decode cX0_findRepair 36 = .ok (.iload 4, 2) := by decide +kernel
theorem dX0_findRepair_38 : decode cX0_findRepair 38 = .ok (.iconst 0, 1) := by decide +kernel
theorem dX0_findRepair_39 : decode cX0_findRepair 39 = .ok (.invokevirtual 65, 3) := by decide +kernel
theorem dX0_findRepair_42 : decode cX0_findRepair 42 = .ok (.ifCond .eq 7, 3) := by decide +kernel
theorem dX0_findRepair_45 : decode cX0_findRepair 45 = .ok (.iconst 1, 1) := by decide +kernel
theorem dX0_findRepair_46 : decode cX0_findRepair 46 = .ok (.goto 4, 3) := by decide +kernel
theorem dX0_findRepair_49 : decode cX0_findRepair 49 = .ok (.iconst 0, 1) := by decide +kernel
theorem dX0_findRepair_50 : decode cX0_findRepair 50 = .ok (.ireturn, 1) := by decide +kernel
theorem dX0_findBrief_0 : decode cX0_findBrief 0 = .ok (.aload_n 0, 1) := by decide +kernel
theorem dX0_findBrief_1 : decode cX0_findBrief 1 = .ok (.getfield 14, 3) := by decide +kernel
theorem dX0_findBrief_4 : decode cX0_findBrief 4 = .ok (.aload_n 1, 1) := by decide +kernel
theorem dX0_findBrief_5 : decode cX0_findBrief 5 = .ok (.invokevirtual 69, 3) := by decide +kernel
theorem dX0_findBrief_8 : decode cX0_findBrief 8 = .ok (.aload_n 0, 1) := by decide +kernel
theorem dX0_findBrief_9 : decode cX0_findBrief 9 = .ok (.getfield 14, 3) := by decide +kernel
theorem dX0_findBrief_12 : decode cX0_findBrief 12 = .ok (.getfield 73, 3) := by decide +kernel
theorem dX0_findBrief_15 : decode cX0_findBrief 15 = .ok (.ifCond .le 32, 3) := by decide +kernel
theorem dX0_findBrief_18 : decode cX0_findBrief 18 = .ok (.aload_n 0, 1) := by decide +kernel
theorem dX0_findBrief_19 : decode cX0_findBrief 19 = .ok (.aload_n 0, 1) := by decide +kernel
theorem dX0_findBrief_20 : decode cX0_findBrief 20 = .ok (.getfield 46, 3) := by decide +kernel
theorem dX0_findBrief_23 : decode cX0_findBrief 23 = .ok (.getfield 54, 3) := by decide +kernel
theorem dX0_findBrief_26 : decode cX0_findBrief 26 = .ok (.aload_n 0, 1) := by decide +kernel
theorem dX0_findBrief_27 : decode cX0_findBrief 27 = .ok (.getfield 14, 3) := by decide +kernel
theorem dX0_findBrief_30 : decode cX0_findBrief 30 = .ok (.getfield 77, 3) := by decide +kernel
theorem dX0_findBrief_33 : decode cX0_findBrief 33 = .ok (.iconst 0, 1) := by decide +kernel
theorem dX0_findBrief_34 : decode cX0_findBrief 34 = .ok (.iaload, 1) := by decide +kernel
theorem dX0_findBrief_35 : decode cX0_findBrief 35 = .ok (.iaload, 1) := by decide +kernel
theorem dX0_findBrief_36 : decode cX0_findBrief 36 = .ok (.iconst 1, 1) := by decide +kernel
theorem dX0_findBrief_37 : decode cX0_findBrief 37 = .ok (.invokevirtual 65, 3) := by decide +kernel
theorem dX0_findBrief_40 : decode cX0_findBrief 40 = .ok (.ifCond .eq 7, 3) := by decide +kernel
theorem dX0_findBrief_43 : decode cX0_findBrief 43 = .ok (.iconst 1, 1) := by decide +kernel
theorem dX0_findBrief_44 : decode cX0_findBrief 44 = .ok (.goto 4, 3) := by decide +kernel
theorem dX0_findBrief_47 : decode cX0_findBrief 47 = .ok (.iconst 0, 1) := by decide +kernel
theorem dX0_findBrief_48 : decode cX0_findBrief 48 = .ok (.ireturn, 1) := by decide +kernel
theorem dX0_shorten_0 : decode cX0_shorten 0 = .ok (.iconst 0, 1) := by decide +kernel
theorem dX0_shorten_1 : decode cX0_shorten 1 = .ok (.istore_n 3, 1) := by decide +kernel
theorem dX0_shorten_2 : decode cX0_shorten 2 = .ok (.iload_n 3, 1) := by decide +kernel
theorem dX0_shorten_3 : decode cX0_shorten 3 = .ok (.aload_n 0, 1) := by decide +kernel
theorem dX0_shorten_4 : decode cX0_shorten 4 = .ok (.getfield 14, 3) := by decide +kernel
theorem dX0_shorten_7 : decode cX0_shorten 7 = .ok (.getfield 73, 3) := by decide +kernel
theorem dX0_shorten_10 : decode cX0_shorten 10 = .ok (.if_icmp .ge 78, 3) := by decide +kernel
theorem dX0_shorten_13 : decode cX0_shorten 13 = .ok (.aload_n 0, 1) := by decide +kernel
theorem dX0_shorten_14 : decode cX0_shorten 14 = .ok (.getfield 50, 3) := by decide +kernel
theorem dX0_shorten_17 : decode cX0_shorten 17 = .ok (.aload_n 0, 1) := by decide +kernel
theorem dX0_shorten_18 : decode cX0_shorten 18 = .ok (.getfield 14, 3) := by decide +kernel
theorem dX0_shorten_21 : decode cX0_shorten 21 = .ok (.getfield 77, 3) := by decide +kernel
theorem dX0_shorten_24 : decode cX0_shorten 24 = .ok (.iload_n 3, 1) := by decide +kernel
theorem dX0_shorten_25 : decode cX0_shorten 25 = .ok (.iaload, 1) := by decide +kernel
theorem dX0_shorten_26 : decode cX0_shorten 26 = .ok (.iconst 0, 1) := by decide +kernel
theorem dX0_shorten_27 : decode cX0_shorten 27 = .ok (.iload_n 1, 1) := by decide +kernel
theorem dX0_shorten_28 : decode cX0_shorten 28 = .ok (.invokevirtual 80, 3) := by decide +kernel
theorem dX0_shorten_31 : decode cX0_shorten 31 = .ok (.aload_n 0, 1) := by decide +kernel
theorem dX0_shorten_32 : decode cX0_shorten 32 = .ok (.getfield 20, 3) := by decide +kernel
theorem dX0_shorten_35 : decode cX0_shorten 35 = .ok (.iload_n 3, 1) := by decide +kernel
theorem dX0_shorten_36 : decode cX0_shorten 36 = .ok (.aload_n 0, 1) := by decide +kernel
theorem dX0_shorten_37 : decode cX0_shorten 37 = .ok (.iload_n 3, 1) := by decide +kernel
theorem dX0_shorten_38 : decode cX0_shorten 38 = .ok (.invokevirtual 84, 3) := by decide +kernel
theorem dX0_shorten_41 : decode cX0_shorten 41 = .ok (.iastore, 1) := by decide +kernel
theorem dX0_shorten_42 : decode cX0_shorten 42 = .ok (.aload_n 0, 1) := by decide +kernel
theorem dX0_shorten_43 : decode cX0_shorten 43 = .ok (.getfield 24, 3) := by decide +kernel
theorem dX0_shorten_46 : decode cX0_shorten 46 = .ok (.iload_n 3, 1) := by decide +kernel
theorem dX0_shorten_47 : decode cX0_shorten 47 = .ok (.iload_n 3, 1) := by decide +kernel
theorem dX0_shorten_48 : decode cX0_shorten 48 = .ok (.iastore, 1) := by decide +kernel
theorem dX0_shorten_49 : decode cX0_shorten 49 = .ok (.iload_n 2, 1) := by decide +kernel
theorem dX0_shorten_50 : decode cX0_shorten 50 = .ok (.ifCond .eq 32, 3) := by decide +kernel
theorem dX0_shorten_53 : decode cX0_shorten 53 = .ok (.aload_n 0, 1) := by decide +kernel
theorem dX0_shorten_54 : decode cX0_shorten 54 = .ok (.getfield 50, 3) := by decide +kernel
theorem dX0_shorten_57 : decode cX0_shorten 57 = .ok (.aload_n 0, 1) := by decide +kernel
theorem dX0_shorten_58 : decode cX0_shorten 58 = .ok (.getfield 14, 3) := by decide +kernel
theorem dX0_shorten_61 : decode cX0_shorten 61 = .ok (.getfield 77, 3) := by decide +kernel
theorem dX0_shorten_64 : decode cX0_shorten 64 = .ok (.iload_n 3, 1) := by decide +kernel
theorem dX0_shorten_65 : decode cX0_shorten 65 = .ok (.iaload, 1) := by decide +kernel
theorem dX0_shorten_66 : decode cX0_shorten 66 = .ok (.iconst 1, 1) := by decide +kernel
theorem dX0_shorten_67 : decode cX0_shorten 67 = .ok (.iload_n 1, 1) := by decide +kernel
theorem dX0_shorten_68 : decode cX0_shorten 68 = .ok (.invokevirtual 80, 3) := by decide +kernel
theorem dX0_shorten_71 : decode cX0_shorten 71 = .ok (.aload_n 0, 1) := by decide +kernel
theorem dX0_shorten_72 : decode cX0_shorten 72 = .ok (.getfield 24, 3) := by decide +kernel
theorem dX0_shorten_75 : decode cX0_shorten 75 = .ok (.iload_n 3, 1) := by decide +kernel
theorem dX0_shorten_76 : decode cX0_shorten 76 = .ok (.aload_n 0, 1) := by decide +kernel
theorem dX0_shorten_77 : decode cX0_shorten 77 = .ok (.iload_n 3, 1) := by decide +kernel
theorem dX0_shorten_78 : decode cX0_shorten 78 = .ok (.invokevirtual 84, 3) := by decide +kernel
theorem dX0_shorten_81 : decode cX0_shorten 81 = .ok (.iastore, 1) := by decide +kernel
theorem dX0_shorten_82 : decode cX0_shorten 82 = .ok (.iinc 3 1, 3) := by decide +kernel
theorem dX0_shorten_85 : decode cX0_shorten 85 = .ok (.goto (-83), 3) := by decide +kernel
theorem dX0_shorten_88 : decode cX0_shorten 88 = .ok (.aload_n 0, 1) := by decide +kernel
theorem dX0_shorten_89 : decode cX0_shorten 89 = .ok (.getfield 14, 3) := by decide +kernel
theorem dX0_shorten_92 : decode cX0_shorten 92 = .ok (.getfield 73, 3) := by decide +kernel
theorem dX0_shorten_95 : decode cX0_shorten 95 = .ok (.iconst 1, 1) := by decide +kernel
theorem dX0_shorten_96 : decode cX0_shorten 96 = .ok (.isub, 1) := by decide +kernel
theorem dX0_shorten_97 : decode cX0_shorten 97 = .ok (.istore_n 3, 1) := by decide +kernel
theorem dX0_shorten_98 : decode cX0_shorten 98 = .ok (.aload_n 0, 1) := by decide +kernel
theorem dX0_shorten_99 : decode cX0_shorten 99 = .ok (.getfield 30, 3) := by decide +kernel
theorem dX0_shorten_102 : decode cX0_shorten 102 = .ok (.iload_n 3, 1) := by decide +kernel
theorem dX0_shorten_103 : decode cX0_shorten 103 = .ok (.iconst 0, 1) := by decide +kernel
theorem dX0_shorten_104 : decode cX0_shorten 104 = .ok (.iastore, 1) := by decide +kernel
theorem dX0_shorten_105 : decode cX0_shorten 105 = .ok (.iload_n 3, 1) := by decide +kernel
theorem dX0_shorten_106 : decode cX0_shorten 106 = .ok (.iconst 1, 1) := by decide +kernel
theorem dX0_shorten_107 : decode cX0_shorten 107 = .ok (.isub, 1) := by decide +kernel
theorem dX0_shorten_108 : decode cX0_shorten 108 = .ok (.istore 4, 2) := by decide +kernel
theorem dX0_shorten_110 : decode cX0_shorten 110 = .ok (.iload 4, 2) := by decide +kernel
theorem dX0_shorten_112 : decode cX0_shorten 112 = .ok (.ifCond .lt 49, 3) := by decide +kernel
theorem dX0_shorten_115 : decode cX0_shorten 115 = .ok (.aload_n 0, 1) := by decide +kernel
theorem dX0_shorten_116 : decode cX0_shorten 116 = .ok (.getfield 27, 3) := by decide +kernel
theorem dX0_shorten_119 : decode cX0_shorten 119 = .ok (.iload 4, 2) := by decide +kernel
theorem dX0_shorten_121 : decode cX0_shorten 121 = .ok (.aload_n 0, 1) := by decide +kernel
theorem dX0_shorten_122 : decode cX0_shorten 122 = .ok (.iload_n 1, 1) := by decide +kernel
theorem dX0_shorten_123 : decode cX0_shorten 123 = .ok (.aload_n 0, 1) := by decide +kernel
theorem dX0_shorten_124 : decode cX0_shorten 124 = .ok (.getfield 14, 3) := by decide +kernel
theorem dX0_shorten_127 : decode cX0_shorten 127 = .ok (.getfield 77, 3) := by decide +kernel
theorem dX0_shorten_130 : decode cX0_shorten 130 = .ok (.iload 4, 2) := by decide +kernel
theorem dX0_shorten_132 : decode cX0_shorten 132 = .ok (.iaload, 1) := by decide +kernel
theorem dX0_shorten_133 : decode cX0_shorten 133 = .ok (.aload_n 0, 1) := by decide +kernel
theorem dX0_shorten_134 : decode cX0_shorten 134 = .ok (.getfield 14, 3) := by decide +kernel
theorem dX0_shorten_137 : decode cX0_shorten 137 = .ok (.getfield 77, 3) := by decide +kernel
theorem dX0_shorten_140 : decode cX0_shorten 140 = .ok (.iload 4, 2) := by decide +kernel
theorem dX0_shorten_142 : decode cX0_shorten 142 = .ok (.iconst 1, 1) := by decide +kernel
theorem dX0_shorten_143 : decode cX0_shorten 143 = .ok (.iadd, 1) := by decide +kernel
theorem dX0_shorten_144 : decode cX0_shorten 144 = .ok (.iaload, 1) := by decide +kernel
theorem dX0_shorten_145 : decode cX0_shorten 145 = .ok (.invokevirtual 88, 3) := by decide +kernel
theorem dX0_shorten_148 : decode cX0_shorten 148 = .ok (.iastore, 1) := by decide +kernel
theorem dX0_shorten_149 : decode cX0_shorten 149 = .ok (.aload_n 0, 1) := by decide +kernel
theorem dX0_shorten_150 : decode cX0_shorten 150 = .ok (.iload 4, 2) := by decide +kernel
theorem dX0_shorten_152 : decode cX0_shorten 152 = .ok (.invokevirtual 92, 3) := by decide +kernel
theorem dX0_shorten_155 : decode cX0_shorten 155 = .ok (.iinc 4 (-1), 3) := by decide +kernel
theorem dX0_shorten_158 : decode cX0_shorten 158 = .ok (.goto (-48), 3) := by decide +kernel
theorem dX0_shorten_161 : decode cX0_shorten 161 = .ok (.aload_n 0, 1) := by decide +kernel
theorem dX0_shorten_162 : decode cX0_shorten 162 = .ok (.getfield 30, 3) := by decide +kernel
theorem dX0_shorten_165 : decode cX0_shorten 165 = .ok (.iconst 0, 1) := by decide +kernel
theorem dX0_shorten_166 : decode cX0_shorten 166 = .ok (.iaload, 1) := by decide +kernel
theorem dX0_shorten_167 : decode cX0_shorten 167 = .ok (.sipush 1000, 3) := by decide +kernel
theorem dX0_shorten_170 : decode cX0_shorten 170 = .ok (.if_icmp .lt 5, 3) := by decide +kernel
theorem dX0_shorten_173 : decode cX0_shorten 173 = .ok (.iconst 0, 1) := by decide +kernel
theorem dX0_shorten_174 : decode cX0_shorten 174 = .ok (.ireturn, 1) := by decide +kernel
theorem dX0_shorten_175 : decode cX0_shorten 175 = .ok (.aload_n 0, 1) := by decide +kernel
theorem dX0_shorten_176 : decode cX0_shorten 176 = .ok (.invokevirtual 95, 3) := by decide +kernel
theorem dX0_shorten_179 : decode cX0_shorten 179 = .ok (.iconst 1, 1) := by decide +kernel
theorem dX0_shorten_180 : decode cX0_shorten 180 = .ok (.ireturn, 1) := by decide +kernel
theorem dX0_followedFrom_0 : decode cX0_followedFrom 0 = .ok (.iload_n 1, 1) := by decide +kernel
theorem dX0_followedFrom_1 : decode cX0_followedFrom 1 = .ok (.istore_n 2, 1) := by decide +kernel
theorem dX0_followedFrom_2 : decode cX0_followedFrom 2 = .ok (.iload_n 2, 1) := by decide +kernel
theorem dX0_followedFrom_3 : decode cX0_followedFrom 3 = .ok (.ifCond .le 39, 3) := by decide +kernel
theorem dX0_followedFrom_6 : decode cX0_followedFrom 6 = .ok (.aload_n 0, 1) := by decide +kernel
theorem dX0_followedFrom_7 : decode cX0_followedFrom 7 = .ok (.getfield 50, 3) := by decide +kernel
theorem dX0_followedFrom_10 : decode cX0_followedFrom 10 = .ok (.aload_n 0, 1) := by decide +kernel
theorem dX0_followedFrom_11 : decode cX0_followedFrom 11 = .ok (.getfield 14, 3) := by decide +kernel
theorem dX0_followedFrom_14 : decode cX0_followedFrom 14 = .ok (.getfield 77, 3) := by decide +kernel
theorem dX0_followedFrom_17 : decode cX0_followedFrom 17 = .ok (.iload_n 2, 1) := by decide +kernel
theorem dX0_followedFrom_18 : decode cX0_followedFrom 18 = .ok (.iconst 1, 1) := by decide +kernel
theorem dX0_followedFrom_19 : decode cX0_followedFrom 19 = .ok (.isub, 1) := by decide +kernel
theorem dX0_followedFrom_20 : decode cX0_followedFrom 20 = .ok (.iaload, 1) := by decide +kernel
theorem dX0_followedFrom_21 : decode cX0_followedFrom 21 = .ok (.invokevirtual 98, 3) := by decide +kernel
theorem dX0_followedFrom_24 : decode cX0_followedFrom 24 = .ok (.aload_n 0, 1) := by decide +kernel
theorem dX0_followedFrom_25 : decode cX0_followedFrom 25 = .ok (.getfield 14, 3) := by decide +kernel
theorem dX0_followedFrom_28 : decode cX0_followedFrom 28 = .ok (.getfield 77, 3) := by decide +kernel
theorem dX0_followedFrom_31 : decode cX0_followedFrom 31 = .ok (.iload_n 2, 1) := by decide +kernel
theorem dX0_followedFrom_32 : decode cX0_followedFrom 32 = .ok (.iaload, 1) := by decide +kernel
theorem dX0_followedFrom_33 : decode cX0_followedFrom 33 = .ok (.if_icmp .ne 9, 3) := by decide +kernel
theorem dX0_followedFrom_36 : decode cX0_followedFrom 36 = .ok (.iinc 2 (-1), 3) := by decide +kernel
theorem dX0_followedFrom_39 : decode cX0_followedFrom 39 = .ok (.goto (-37), 3) := by decide +kernel
theorem dX0_followedFrom_42 : decode cX0_followedFrom 42 = .ok (.iload_n 2, 1) := by decide +kernel
theorem dX0_followedFrom_43 : decode cX0_followedFrom 43 = .ok (.ireturn, 1) := by decide +kernel
theorem dX0_chooseFirst_0 : decode cX0_chooseFirst 0 = .ok (.aload_n 0, 1) := by decide +kernel
theorem dX0_chooseFirst_1 : decode cX0_chooseFirst 1 = .ok (.getfield 30, 3) := by decide +kernel
theorem dX0_chooseFirst_4 : decode cX0_chooseFirst 4 = .ok (.iload_n 1, 1) := by decide +kernel
theorem dX0_chooseFirst_5 : decode cX0_chooseFirst 5 = .ok (.sipush 1000, 3) := by decide +kernel
theorem dX0_chooseFirst_8 : decode cX0_chooseFirst 8 = .ok (.iastore, 1) := by decide +kernel
theorem dX0_chooseFirst_9 : decode cX0_chooseFirst 9 = .ok (.aload_n 0, 1) := by decide +kernel
theorem dX0_chooseFirst_10 : decode cX0_chooseFirst 10 = .ok (.getfield 14, 3) := by decide +kernel
theorem dX0_chooseFirst_13 : decode cX0_chooseFirst 13 = .ok (.getfield 73, 3) := by decide +kernel
theorem dX0_chooseFirst_16 : decode cX0_chooseFirst 16 = .ok (.iconst 1, 1) := by decide +kernel
theorem dX0_chooseFirst_17 : decode cX0_chooseFirst 17 = .ok (.isub, 1) := by decide +kernel
theorem dX0_chooseFirst_18 : decode cX0_chooseFirst 18 = .ok (.istore_n 2, 1) := by decide +kernel
theorem dX0_chooseFirst_19 : decode cX0_chooseFirst 19 = .ok (.iload_n 2, 1) := by decide +kernel
theorem dX0_chooseFirst_20 : decode cX0_chooseFirst 20 = .ok (.iload_n 1, 1) := by decide +kernel
theorem dX0_chooseFirst_21 : decode cX0_chooseFirst 21 = .ok (.if_icmp .le 66, 3) := by decide +kernel
theorem dX0_chooseFirst_24 : decode cX0_chooseFirst 24 = .ok (.aload_n 0, 1) := by decide +kernel
theorem dX0_chooseFirst_25 : decode cX0_chooseFirst 25 = .ok (.iload_n 1, 1) := by decide +kernel
theorem dX0_chooseFirst_26 : decode cX0_chooseFirst 26 = .ok (.iload_n 2, 1) := by decide +kernel
theorem dX0_chooseFirst_27 : decode cX0_chooseFirst 27 = .ok (.invokevirtual 101, 3) := by decide +kernel
theorem dX0_chooseFirst_30 : decode cX0_chooseFirst 30 = .ok (.istore_n 3, 1) := by decide +kernel
theorem dX0_chooseFirst_31 : decode cX0_chooseFirst 31 = .ok (.iload_n 3, 1) := by decide +kernel
theorem dX0_chooseFirst_32 : decode cX0_chooseFirst 32 = .ok (.iconst (-1), 1) := by decide +kernel
theorem dX0_chooseFirst_33 : decode cX0_chooseFirst 33 = .ok (.if_icmp .eq 48, 3) := by decide +kernel
theorem dX0_chooseFirst_36 : decode cX0_chooseFirst 36 = .ok (.aload_n 0, 1) := by decide +kernel
theorem dX0_chooseFirst_37 : decode cX0_chooseFirst 37 = .ok (.getfield 30, 3) := by decide +kernel
theorem dX0_chooseFirst_40 : decode cX0_chooseFirst 40 = .ok (.iload_n 2, 1) := by decide +kernel
theorem dX0_chooseFirst_41 : decode cX0_chooseFirst 41 = .ok (.iaload, 1) := by decide +kernel
theorem dX0_chooseFirst_42 : decode cX0_chooseFirst 42 = .ok (.iconst 1, 1) := by decide +kernel
theorem dX0_chooseFirst_43 : decode cX0_chooseFirst 43 = .ok (.iadd, 1) := by decide +kernel
theorem dX0_chooseFirst_44 : decode cX0_chooseFirst 44 = .ok (.aload_n 0, 1) := by decide +kernel
theorem dX0_chooseFirst_45 : decode cX0_chooseFirst 45 = .ok (.getfield 30, 3) := by decide +kernel
theorem dX0_chooseFirst_48 : decode cX0_chooseFirst 48 = .ok (.iload_n 1, 1) := by decide +kernel
theorem dX0_chooseFirst_49 : decode cX0_chooseFirst 49 = .ok (.iaload, 1) := by decide +kernel
theorem dX0_chooseFirst_50 : decode cX0_chooseFirst 50 = .ok (.if_icmp .ge 31, 3) := by decide +kernel
theorem dX0_chooseFirst_53 : decode cX0_chooseFirst 53 = .ok (.aload_n 0, 1) := by decide +kernel
theorem dX0_chooseFirst_54 : decode cX0_chooseFirst 54 = .ok (.getfield 30, 3) := by decide +kernel
theorem dX0_chooseFirst_57 : decode cX0_chooseFirst 57 = .ok (.iload_n 1, 1) := by decide +kernel
theorem dX0_chooseFirst_58 : decode cX0_chooseFirst 58 = .ok (.aload_n 0, 1) := by decide +kernel
theorem dX0_chooseFirst_59 : decode cX0_chooseFirst 59 = .ok (.getfield 30, 3) := by decide +kernel
theorem dX0_chooseFirst_62 : decode cX0_chooseFirst 62 = .ok (.iload_n 2, 1) := by decide +kernel
theorem dX0_chooseFirst_63 : decode cX0_chooseFirst 63 = .ok (.iaload, 1) := by decide +kernel
theorem dX0_chooseFirst_64 : decode cX0_chooseFirst 64 = .ok (.iconst 1, 1) := by decide +kernel
theorem dX0_chooseFirst_65 : decode cX0_chooseFirst 65 = .ok (.iadd, 1) := by decide +kernel
theorem dX0_chooseFirst_66 : decode cX0_chooseFirst 66 = .ok (.iastore, 1) := by decide +kernel
theorem dX0_chooseFirst_67 : decode cX0_chooseFirst 67 = .ok (.aload_n 0, 1) := by decide +kernel
theorem dX0_chooseFirst_68 : decode cX0_chooseFirst 68 = .ok (.getfield 33, 3) := by decide +kernel
theorem dX0_chooseFirst_71 : decode cX0_chooseFirst 71 = .ok (.iload_n 1, 1) := by decide +kernel
theorem dX0_chooseFirst_72 : decode cX0_chooseFirst 72 = .ok (.iload_n 2, 1) := by decide +kernel
theorem dX0_chooseFirst_73 : decode cX0_chooseFirst 73 = .ok (.iastore, 1) := by decide +kernel
theorem dX0_chooseFirst_74 : decode cX0_chooseFirst 74 = .ok (.aload_n 0, 1) := by decide +kernel
theorem dX0_chooseFirst_75 : decode cX0_chooseFirst 75 = .ok (.getfield 36, 3) := by decide +kernel
theorem dX0_chooseFirst_78 : decode cX0_chooseFirst 78 = .ok (.iload_n 1, 1) := by decide +kernel
theorem dX0_chooseFirst_79 : decode cX0_chooseFirst 79 = .ok (.iload_n 3, 1) := by decide +kernel
theorem dX0_chooseFirst_80 : decode cX0_chooseFirst 80 = .ok (.iastore, 1) := by decide +kernel
theorem dX0_chooseFirst_81 : decode cX0_chooseFirst 81 = .ok (.iinc 2 (-1), 3) := by decide +kernel
theorem dX0_chooseFirst_84 : decode cX0_chooseFirst 84 = .ok (.goto (-65), 3) := by decide +kernel
theorem dX0_chooseFirst_87 : decode cX0_chooseFirst 87 = .ok (.return_, 1) := by decide +kernel
theorem dX0_lowestKind_0 : decode cX0_lowestKind 0 = .ok (.aload_n 0, 1) := by decide +kernel
theorem dX0_lowestKind_1 : decode cX0_lowestKind 1 = .ok (.getfield 20, 3) := by decide +kernel
theorem dX0_lowestKind_4 : decode cX0_lowestKind 4 = .ok (.iload_n 2, 1) := by decide +kernel
theorem dX0_lowestKind_5 : decode cX0_lowestKind 5 = .ok (.iaload, 1) := by decide +kernel
theorem dX0_lowestKind_6 : decode cX0_lowestKind 6 = .ok (.iload_n 1, 1) := by decide +kernel
theorem dX0_lowestKind_7 : decode cX0_lowestKind 7 = .ok (.if_icmp .gt 5, 3) := by decide +kernel
theorem dX0_lowestKind_10 : decode cX0_lowestKind 10 = .ok (.iconst 0, 1) := by decide +kernel
theorem dX0_lowestKind_11 : decode cX0_lowestKind 11 = .ok (.ireturn, 1) := by decide +kernel
theorem dX0_lowestKind_12 : decode cX0_lowestKind 12 = .ok (.aload_n 0, 1) := by decide +kernel
theorem dX0_lowestKind_13 : decode cX0_lowestKind 13 = .ok (.getfield 24, 3) := by decide +kernel
theorem dX0_lowestKind_16 : decode cX0_lowestKind 16 = .ok (.iload_n 2, 1) := by decide +kernel
theorem dX0_lowestKind_17 : decode cX0_lowestKind 17 = .ok (.iaload, 1) := by decide +kernel
theorem dX0_lowestKind_18 : decode cX0_lowestKind 18 = .ok (.iload_n 1, 1) := by decide +kernel
theorem dX0_lowestKind_19 : decode cX0_lowestKind 19 = .ok (.if_icmp .gt 5, 3) := by decide +kernel
theorem dX0_lowestKind_22 : decode cX0_lowestKind 22 = .ok (.iconst 1, 1) := by decide +kernel
theorem dX0_lowestKind_23 : decode cX0_lowestKind 23 = .ok (.ireturn, 1) := by decide +kernel
theorem dX0_lowestKind_24 : decode cX0_lowestKind 24 = .ok (.iload_n 2, 1) := by decide +kernel
theorem dX0_lowestKind_25 : decode cX0_lowestKind 25 = .ok (.iload_n 1, 1) := by decide +kernel
theorem dX0_lowestKind_26 : decode cX0_lowestKind 26 = .ok (.iconst 1, 1) := by decide +kernel
theorem dX0_lowestKind_27 : decode cX0_lowestKind 27 = .ok (.iadd, 1) := by decide +kernel
theorem dX0_lowestKind_28 : decode cX0_lowestKind 28 = .ok (.if_icmp .ne 17, 3) := by decide +kernel
theorem dX0_lowestKind_31 : decode cX0_lowestKind 31 = .ok (.aload_n 0, 1) := by decide +kernel
theorem dX0_lowestKind_32 : decode cX0_lowestKind 32 = .ok (.getfield 27, 3) := by decide +kernel
theorem dX0_lowestKind_35 : decode cX0_lowestKind 35 = .ok (.iload_n 1, 1) := by decide +kernel
theorem dX0_lowestKind_36 : decode cX0_lowestKind 36 = .ok (.iaload, 1) := by decide +kernel
theorem dX0_lowestKind_37 : decode cX0_lowestKind 37 = .ok (.iconst (-1), 1) := by decide +kernel
theorem dX0_lowestKind_38 : decode cX0_lowestKind 38 = .ok (.if_icmp .eq 7, 3) := by decide +kernel
theorem dX0_lowestKind_41 : decode cX0_lowestKind 41 = .ok (.iconst 2, 1) := by decide +kernel
theorem dX0_lowestKind_42 : decode cX0_lowestKind 42 = .ok (.goto 4, 3) := by decide +kernel
theorem dX0_lowestKind_45 : decode cX0_lowestKind 45 = .ok (.iconst (-1), 1) := by decide +kernel
theorem dX0_lowestKind_46 : decode cX0_lowestKind 46 = .ok (.ireturn, 1) := by decide +kernel
theorem dX0_linkIn_0 : decode cX0_linkIn 0 = .ok (.aload_n 0, 1) := by decide +kernel
theorem dX0_linkIn_1 : decode cX0_linkIn 1 = .ok (.getfield 46, 3) := by decide +kernel
theorem dX0_linkIn_4 : decode cX0_linkIn 4 = .ok (.iload_n 2, 1) := by decide +kernel
theorem dX0_linkIn_5 : decode cX0_linkIn 5 = .ok (.iload_n 3, 1) := by decide +kernel
theorem dX0_linkIn_6 : decode cX0_linkIn 6 = .ok (.invokevirtual 105, 3) := by decide +kernel
theorem dX0_linkIn_9 : decode cX0_linkIn 9 = .ok (.istore 4, 2) := by decide +kernel
theorem dX0_linkIn_11 : decode cX0_linkIn 11 = .ok (.iload 4, 2) := by decide +kernel
theorem dX0_linkIn_13 : decode cX0_linkIn 13 = .ok (.iconst (-1), 1) := by decide +kernel
theorem dX0_linkIn_14 : decode cX0_linkIn 14 = .ok (.if_icmp .eq 18, 3) := by decide +kernel
theorem dX0_linkIn_17 : decode cX0_linkIn 17 = .ok (.iload_n 1, 1) := by decide +kernel
theorem dX0_linkIn_18 : decode cX0_linkIn 18 = .ok (.iload 4, 2) := by decide +kernel
theorem dX0_linkIn_20 : decode cX0_linkIn 20 = .ok (.ishr, 1) := by decide +kernel
theorem dX0_linkIn_21 : decode cX0_linkIn 21 = .ok (.iconst 1, 1) := by decide +kernel
theorem dX0_linkIn_22 : decode cX0_linkIn 22 = .ok (.iand, 1) := by decide +kernel
theorem dX0_linkIn_23 : decode cX0_linkIn 23 = .ok (.iconst 1, 1) := by decide +kernel
theorem dX0_linkIn_24 : decode cX0_linkIn 24 = .ok (.if_icmp .ne 8, 3) := by decide +kernel
theorem dX0_linkIn_27 : decode cX0_linkIn 27 = .ok (.iload 4, 2) := by decide +kernel
theorem dX0_linkIn_29 : decode cX0_linkIn 29 = .ok (.goto 4, 3) := by decide +kernel
theorem dX0_linkIn_32 : decode cX0_linkIn 32 = .ok (.iconst (-1), 1) := by decide +kernel
theorem dX0_linkIn_33 : decode cX0_linkIn 33 = .ok (.ireturn, 1) := by decide +kernel
theorem dX0_writeFound_0 : decode cX0_writeFound 0 = .ok (.aload_n 0, 1) := by decide +kernel
theorem dX0_writeFound_1 : decode cX0_writeFound 1 = .ok (.getfield 42, 3) := by decide +kernel
theorem dX0_writeFound_4 : decode cX0_writeFound 4 = .ok (.iconst 0, 1) := by decide +kernel
theorem dX0_writeFound_5 : decode cX0_writeFound 5 = .ok (.putfield 108, 3) := by decide +kernel
theorem dX0_writeFound_8 : decode cX0_writeFound 8 = .ok (.iconst 0, 1) := by decide +kernel
theorem dX0_writeFound_9 : decode cX0_writeFound 9 = .ok (.istore_n 1, 1) := by decide +kernel
theorem dX0_writeFound_10 : decode cX0_writeFound 10 = .ok (.iconst 0, 1) := by decide +kernel
theorem dX0_writeFound_11 : decode cX0_writeFound 11 = .ok (.istore_n 2, 1) := by decide +kernel
theorem dX0_writeFound_12 : decode cX0_writeFound 12 = .ok (.iload_n 2, 1) := by decide +kernel
theorem dX0_writeFound_13 : decode cX0_writeFound 13 = .ok (.bipush 8, 2) := by decide +kernel
theorem dX0_writeFound_15 : decode cX0_writeFound 15 = .ok (.if_icmp .ge 85, 3) := by decide +kernel
theorem dX0_writeFound_18 : decode cX0_writeFound 18 = .ok (.iload_n 1, 1) := by decide +kernel
theorem dX0_writeFound_19 : decode cX0_writeFound 19 = .ok (.aload_n 0, 1) := by decide +kernel
theorem dX0_writeFound_20 : decode cX0_writeFound 20 = .ok (.getfield 14, 3) := by decide +kernel
theorem dX0_writeFound_23 : decode cX0_writeFound 23 = .ok (.getfield 73, 3) := by decide +kernel
theorem dX0_writeFound_26 : decode cX0_writeFound 26 = .ok (.iconst 1, 1) := by decide +kernel
theorem dX0_writeFound_27 : decode cX0_writeFound 27 = .ok (.isub, 1) := by decide +kernel
theorem dX0_writeFound_28 : decode cX0_writeFound 28 = .ok (.if_icmp .ge 72, 3) := by decide +kernel
theorem dX0_writeFound_31 : decode cX0_writeFound 31 = .ok (.aload_n 0, 1) := by decide +kernel
theorem dX0_writeFound_32 : decode cX0_writeFound 32 = .ok (.getfield 36, 3) := by decide +kernel
theorem dX0_writeFound_35 : decode cX0_writeFound 35 = .ok (.iload_n 1, 1) := by decide +kernel
theorem dX0_writeFound_36 : decode cX0_writeFound 36 = .ok (.iaload, 1) := by decide +kernel
theorem dX0_writeFound_37 : decode cX0_writeFound 37 = .ok (.iconst 2, 1) := by decide +kernel
theorem dX0_writeFound_38 : decode cX0_writeFound 38 = .ok (.if_icmp .ne 7, 3) := by decide +kernel
theorem dX0_writeFound_41 : decode cX0_writeFound 41 = .ok (.iconst 1, 1) := by decide +kernel
theorem dX0_writeFound_42 : decode cX0_writeFound 42 = .ok (.goto 4, 3) := by decide +kernel
theorem dX0_writeFound_45 : decode cX0_writeFound 45 = .ok (.iconst 0, 1) := by decide +kernel
theorem dX0_writeFound_46 : decode cX0_writeFound 46 = .ok (.istore_n 3, 1) := by decide +kernel
theorem dX0_writeFound_47 : decode cX0_writeFound 47 = .ok (.aload_n 0, 1) := by decide +kernel
theorem dX0_writeFound_48 : decode cX0_writeFound 48 = .ok (.getfield 42, 3) := by decide +kernel
theorem dX0_writeFound_51 : decode cX0_writeFound 51 = .ok (.aload_n 0, 1) := by decide +kernel
theorem dX0_writeFound_52 : decode cX0_writeFound 52 = .ok (.getfield 36, 3) := by decide +kernel
theorem dX0_writeFound_55 : decode cX0_writeFound 55 = .ok (.iload_n 1, 1) := by decide +kernel
theorem dX0_writeFound_56 : decode cX0_writeFound 56 = .ok (.iaload, 1) := by decide +kernel
theorem dX0_writeFound_57 : decode cX0_writeFound 57 = .ok (.iload_n 3, 1) := by decide +kernel
theorem dX0_writeFound_58 : decode cX0_writeFound 58 = .ok (.ifCond .eq 12, 3) := by decide +kernel
theorem dX0_writeFound_61 : decode cX0_writeFound 61 = .ok (.aload_n 0, 1) := by decide +kernel
theorem dX0_writeFound_62 : decode cX0_writeFound 62 = .ok (.getfield 27, 3) := by decide +kernel
theorem dX0_writeFound_65 : decode cX0_writeFound 65 = .ok (.iload_n 1, 1) := by decide +kernel
theorem dX0_writeFound_66 : decode cX0_writeFound 66 = .ok (.iaload, 1) := by decide +kernel
theorem dX0_writeFound_67 : decode cX0_writeFound 67 = .ok (.goto 17, 3) := by decide +kernel
theorem dX0_writeFound_70 : decode cX0_writeFound 70 = .ok (.aload_n 0, 1) := by decide +kernel
theorem dX0_writeFound_71 : decode cX0_writeFound 71 = .ok (.getfield 14, 3) := by decide +kernel
theorem dX0_writeFound_74 : decode cX0_writeFound 74 = .ok (.getfield 77, 3) := by decide +kernel
theorem dX0_writeFound_77 : decode cX0_writeFound 77 = .ok (.aload_n 0, 1) := by decide +kernel
theorem dX0_writeFound_78 : decode cX0_writeFound 78 = .ok (.getfield 33, 3) := by decide +kernel
theorem dX0_writeFound_81 : decode cX0_writeFound 81 = .ok (.iload_n 1, 1) := by decide +kernel
theorem dX0_writeFound_82 : decode cX0_writeFound 82 = .ok (.iaload, 1) := by decide +kernel
theorem dX0_writeFound_83 : decode cX0_writeFound 83 = .ok (.iaload, 1) := by decide +kernel
theorem dX0_writeFound_84 : decode cX0_writeFound 84 = .ok (.invokevirtual 111, 3) := by decide +kernel
theorem dX0_writeFound_87 : decode cX0_writeFound 87 = .ok (.aload_n 0, 1) := by decide +kernel
theorem dX0_writeFound_88 : decode cX0_writeFound 88 = .ok (.getfield 33, 3) := by decide +kernel
theorem dX0_writeFound_91 : decode cX0_writeFound 91 = .ok (.iload_n 1, 1) := by decide +kernel
theorem dX0_writeFound_92 : decode cX0_writeFound 92 = .ok (.iaload, 1) := by decide +kernel
theorem dX0_writeFound_93 : decode cX0_writeFound 93 = .ok (.istore_n 1, 1) := by decide +kernel
theorem dX0_writeFound_94 : decode cX0_writeFound 94 = .ok (.iinc 2 1, 3) := by decide +kernel
theorem dX0_writeFound_97 : decode cX0_writeFound 97 = .ok (.goto (-85), 3) := by decide +kernel
theorem dX0_writeFound_100 : decode cX0_writeFound 100 = .ok (.return_, 1) := by decide +kernel
theorem dX1_init_0 : decode cX1_init 0 = .ok (.aload_n 0, 1) := by decide +kernel
theorem dX1_init_1 : decode cX1_init 1 = .ok (.invokespecial 3, 3) := by decide +kernel
theorem dX1_init_4 : decode cX1_init 4 = .ok (.aload_n 0, 1) := by decide +kernel
theorem dX1_init_5 : decode cX1_init 5 = .ok (.new 9, 3) := by decide +kernel
theorem dX1_init_8 : decode cX1_init 8 = .ok (.dup, 1) := by decide +kernel
theorem dX1_init_9 : decode cX1_init 9 = .ok (.bipush 16, 2) := by decide +kernel
theorem dX1_init_11 : decode cX1_init 11 = .ok (.invokespecial 11, 3) := by decide +kernel
theorem dX1_init_14 : decode cX1_init 14 = .ok (.putfield 14, 3) := by decide +kernel
theorem dX1_init_17 : decode cX1_init 17 = .ok (.aload_n 0, 1) := by decide +kernel
theorem dX1_init_18 : decode cX1_init 18 = .ok (.new 20, 3) := by decide +kernel
theorem dX1_init_21 : decode cX1_init 21 = .ok (.dup, 1) := by decide +kernel
theorem dX1_init_22 : decode cX1_init 22 = .ok (.bipush 21, 2) := by decide +kernel
theorem dX1_init_24 : decode cX1_init 24 = .ok (.invokespecial 22, 3) := by decide +kernel
theorem dX1_init_27 : decode cX1_init 27 = .ok (.putfield 23, 3) := by decide +kernel
theorem dX1_init_30 : decode cX1_init 30 = .ok (.aload_n 0, 1) := by decide +kernel
theorem dX1_init_31 : decode cX1_init 31 = .ok (.iconst 0, 1) := by decide +kernel
theorem dX1_init_32 : decode cX1_init 32 = .ok (.putfield 27, 3) := by decide +kernel
theorem dX1_init_35 : decode cX1_init 35 = .ok (.aload_n 0, 1) := by decide +kernel
theorem dX1_init_36 : decode cX1_init 36 = .ok (.iconst 0, 1) := by decide +kernel
theorem dX1_init_37 : decode cX1_init 37 = .ok (.putfield 31, 3) := by decide +kernel
theorem dX1_init_40 : decode cX1_init 40 = .ok (.aload_n 0, 1) := by decide +kernel
theorem dX1_init_41 : decode cX1_init 41 = .ok (.iconst 0, 1) := by decide +kernel
theorem dX1_init_42 : decode cX1_init 42 = .ok (.putfield 34, 3) := by decide +kernel
theorem dX1_init_45 : decode cX1_init 45 = .ok (.aload_n 0, 1) := by decide +kernel
theorem dX1_init_46 : decode cX1_init 46 = .ok (.iconst 0, 1) := by decide +kernel
theorem dX1_init_47 : decode cX1_init 47 = .ok (.putfield 37, 3) := by decide +kernel
theorem dX1_init_50 : decode cX1_init 50 = .ok (.aload_n 0, 1) := by decide +kernel
theorem dX1_init_51 : decode cX1_init 51 = .ok (.iconst 0, 1) := by decide +kernel
theorem dX1_init_52 : decode cX1_init 52 = .ok (.putfield 40, 3) := by decide +kernel
theorem dX1_init_55 : decode cX1_init 55 = .ok (.aload_n 0, 1) := by decide +kernel
theorem dX1_init_56 : decode cX1_init 56 = .ok (.iconst 0, 1) := by decide +kernel
theorem dX1_init_57 : decode cX1_init 57 = .ok (.putfield 43, 3) := by decide +kernel
theorem dX1_init_60 : decode cX1_init 60 = .ok (.aload_n 0, 1) := by decide +kernel
theorem dX1_init_61 : decode cX1_init 61 = .ok (.aload_n 1, 1) := by decide +kernel
theorem dX1_init_62 : decode cX1_init 62 = .ok (.putfield 47, 3) := by decide +kernel
theorem dX1_init_65 : decode cX1_init 65 = .ok (.aload_n 0, 1) := by decide +kernel
theorem dX1_init_66 : decode cX1_init 66 = .ok (.aload_n 2, 1) := by decide +kernel
theorem dX1_init_67 : decode cX1_init 67 = .ok (.putfield 51, 3) := by decide +kernel
theorem dX1_init_70 : decode cX1_init 70 = .ok (.aload_n 0, 1) := by decide +kernel
theorem dX1_init_71 : decode cX1_init 71 = .ok (.aload_n 3, 1) := by decide +kernel
theorem dX1_init_72 : decode cX1_init 72 = .ok (.putfield 55, 3) := by decide +kernel
theorem dX1_init_75 : decode cX1_init 75 = .ok (.return_, 1) := by decide +kernel
theorem dX1_forgetAll_0 : decode cX1_forgetAll 0 = .ok (.aload_n 0, 1) := by decide +kernel
theorem dX1_forgetAll_1 : decode cX1_forgetAll 1 = .ok (.iconst 0, 1) := by decide +kernel
theorem dX1_forgetAll_2 : decode cX1_forgetAll 2 = .ok (.putfield 31, 3) := by decide +kernel
theorem dX1_forgetAll_5 : decode cX1_forgetAll 5 = .ok (.aload_n 0, 1) := by decide +kernel
theorem dX1_forgetAll_6 : decode cX1_forgetAll 6 = .ok (.iconst 0, 1) := by decide +kernel
theorem dX1_forgetAll_7 : decode cX1_forgetAll 7 = .ok (.putfield 34, 3) := by decide +kernel
theorem dX1_forgetAll_10 : decode cX1_forgetAll 10 = .ok (.aload_n 0, 1) := by decide +kernel
theorem dX1_forgetAll_11 : decode cX1_forgetAll 11 = .ok (.iconst 0, 1) := by decide +kernel
theorem dX1_forgetAll_12 : decode cX1_forgetAll 12 = .ok (.putfield 37, 3) := by decide +kernel
theorem dX1_forgetAll_15 : decode cX1_forgetAll 15 = .ok (.aload_n 0, 1) := by decide +kernel
theorem dX1_forgetAll_16 : decode cX1_forgetAll 16 = .ok (.iconst 0, 1) := by decide +kernel
theorem dX1_forgetAll_17 : decode cX1_forgetAll 17 = .ok (.putfield 40, 3) := by decide +kernel
theorem dX1_forgetAll_20 : decode cX1_forgetAll 20 = .ok (.aload_n 0, 1) := by decide +kernel
theorem dX1_forgetAll_21 : decode cX1_forgetAll 21 = .ok (.iconst 0, 1) := by decide +kernel
theorem dX1_forgetAll_22 : decode cX1_forgetAll 22 = .ok (.putfield 43, 3) := by decide +kernel
theorem dX1_forgetAll_25 : decode cX1_forgetAll 25 = .ok (.aload_n 0, 1) := by decide +kernel
theorem dX1_forgetAll_26 : decode cX1_forgetAll 26 = .ok (.getfield 23, 3) := by decide +kernel
theorem dX1_forgetAll_29 : decode cX1_forgetAll 29 = .ok (.iconst 0, 1) := by decide +kernel
theorem dX1_forgetAll_30 : decode cX1_forgetAll 30 = .ok (.putfield 59, 3) := by decide +kernel
theorem dX1_forgetAll_33 : decode cX1_forgetAll 33 = .ok (.return_, 1) := by decide +kernel
theorem dX1_hops_0 : decode cX1_hops 0 = .ok (.aload_n 0, 1) := by decide +kernel
theorem dX1_hops_1 : decode cX1_hops 1 = .ok (.getfield 23, 3) := by decide +kernel
theorem dX1_hops_4 : decode cX1_hops 4 = .ok (.getfield 59, 3) := by decide +kernel
theorem dX1_hops_7 : decode cX1_hops 7 = .ok (.iconst 1, 1) := by decide +kernel
theorem dX1_hops_8 : decode cX1_hops 8 = .ok (.isub, 1) := by decide +kernel
theorem dX1_hops_9 : decode cX1_hops 9 = .ok (.ireturn, 1) := by decide +kernel
theorem dX1_tally_0 : decode cX1_tally 0 = .ok (.iload_n 1, 1) := by decide +kernel
theorem dX1_tally_1 : decode cX1_tally 1 = .ok (.tableswitch 85 6 13 #[47, 52, 57, 62, 67, 85, 85, 72], 47) := by decide +kernel
theorem dX1_tally_48 : decode cX1_tally 48 = .ok (.aload_n 0, 1) := by decide +kernel
theorem dX1_tally_49 : decode cX1_tally 49 = .ok (.getfield 27, 3) := by decide +kernel
theorem dX1_tally_52 : decode cX1_tally 52 = .ok (.ireturn, 1) := by decide +kernel
theorem dX1_tally_53 : decode cX1_tally 53 = .ok (.aload_n 0, 1) := by decide +kernel
theorem dX1_tally_54 : decode cX1_tally 54 = .ok (.getfield 31, 3) := by decide +kernel
theorem dX1_tally_57 : decode cX1_tally 57 = .ok (.ireturn, 1) := by decide +kernel
theorem dX1_tally_58 : decode cX1_tally 58 = .ok (.aload_n 0, 1) := by decide +kernel
theorem dX1_tally_59 : decode cX1_tally 59 = .ok (.getfield 34, 3) := by decide +kernel
theorem dX1_tally_62 : decode cX1_tally 62 = .ok (.ireturn, 1) := by decide +kernel
theorem dX1_tally_63 : decode cX1_tally 63 = .ok (.aload_n 0, 1) := by decide +kernel
theorem dX1_tally_64 : decode cX1_tally 64 = .ok (.getfield 37, 3) := by decide +kernel
theorem dX1_tally_67 : decode cX1_tally 67 = .ok (.ireturn, 1) := by decide +kernel
theorem dX1_tally_68 : decode cX1_tally 68 = .ok (.aload_n 0, 1) := by decide +kernel
theorem dX1_tally_69 : decode cX1_tally 69 = .ok (.getfield 40, 3) := by decide +kernel
theorem dX1_tally_72 : decode cX1_tally 72 = .ok (.ireturn, 1) := by decide +kernel
theorem dX1_tally_73 : decode cX1_tally 73 = .ok (.aload_n 0, 1) := by decide +kernel
theorem dX1_tally_74 : decode cX1_tally 74 = .ok (.getfield 43, 3) := by decide +kernel
theorem dX1_tally_77 : decode cX1_tally 77 = .ok (.ifCond .eq 7, 3) := by decide +kernel
theorem dX1_tally_80 : decode cX1_tally 80 = .ok (.iconst 1, 1) := by decide +kernel
theorem dX1_tally_81 : decode cX1_tally 81 = .ok (.goto 4, 3) := by decide +kernel
theorem dX1_tally_84 : decode cX1_tally 84 = .ok (.iconst 0, 1) := by decide +kernel
theorem dX1_tally_85 : decode cX1_tally 85 = .ok (.ireturn, 1) := by decide +kernel
theorem dX1_tally_86 : decode cX1_tally 86 = .ok (.bipush (-3), 2) := by decide +kernel
theorem dX1_tally_88 : decode cX1_tally 88 = .ok (.ireturn, 1) := by decide +kernel
theorem dX1_start_0 : decode cX1_start 0 = .ok (.aload_n 0, 1) := by decide +kernel
theorem dX1_start_1 : decode cX1_start 1 = .ok (.getfield 14, 3) := by decide +kernel
theorem dX1_start_4 : decode cX1_start 4 = .ok (.iconst 0, 1) := by decide +kernel
theorem dX1_start_5 : decode cX1_start 5 = .ok (.putfield 62, 3) := by decide +kernel
theorem dX1_start_8 : decode cX1_start 8 = .ok (.aload_n 0, 1) := by decide +kernel
theorem dX1_start_9 : decode cX1_start 9 = .ok (.getfield 14, 3) := by decide +kernel
theorem dX1_start_12 : decode cX1_start 12 = .ok (.aload_n 2, 1) := by decide +kernel
theorem dX1_start_13 : decode cX1_start 13 = .ok (.invokevirtual 65, 3) := by decide +kernel
theorem dX1_start_16 : decode cX1_start 16 = .ok (.aload_n 0, 1) := by decide +kernel
theorem dX1_start_17 : decode cX1_start 17 = .ok (.getfield 23, 3) := by decide +kernel
theorem dX1_start_20 : decode cX1_start 20 = .ok (.iconst 0, 1) := by decide +kernel
theorem dX1_start_21 : decode cX1_start 21 = .ok (.putfield 59, 3) := by decide +kernel
theorem dX1_start_24 : decode cX1_start 24 = .ok (.aload_n 0, 1) := by decide +kernel
theorem dX1_start_25 : decode cX1_start 25 = .ok (.getfield 23, 3) := by decide +kernel
theorem dX1_start_28 : decode cX1_start 28 = .ok (.iload_n 1, 1) := by decide +kernel
theorem dX1_start_29 : decode cX1_start 29 = .ok (.invokevirtual 69, 3) := by decide +kernel
theorem dX1_start_32 : decode cX1_start 32 = .ok (.aload_n 0, 1) := by decide +kernel
theorem dX1_start_33 : decode cX1_start 33 = .ok (.iconst 0, 1) := by decide +kernel
theorem dX1_start_34 : decode cX1_start 34 = .ok (.putfield 43, 3) := by decide +kernel
theorem dX1_start_37 : decode cX1_start 37 = .ok (.aload_n 0, 1) := by decide +kernel
theorem dX1_start_38 : decode cX1_start 38 = .ok (.dup, 1) := by decide +kernel
theorem dX1_start_39 : decode cX1_start 39 = .ok (.getfield 31, 3) := by decide +kernel
theorem dX1_start_42 : decode cX1_start 42 = .ok (.iconst 1, 1) := by decide +kernel
theorem dX1_start_43 : decode cX1_start 43 = .ok (.iadd, 1) := by decide +kernel
theorem dX1_start_44 : decode cX1_start 44 = .ok (.putfield 31, 3) := by decide +kernel
theorem dX1_start_47 : decode cX1_start 47 = .ok (.return_, 1) := by decide +kernel
theorem dX1_noteEnd_0 : decode cX1_noteEnd 0 = .ok (.iload_n 1, 1) := by decide +kernel
theorem dX1_noteEnd_1 : decode cX1_noteEnd 1 = .ok (.ifCond .lt 16, 3) := by decide +kernel
theorem dX1_noteEnd_4 : decode cX1_noteEnd 4 = .ok (.aload_n 0, 1) := by decide +kernel
theorem dX1_noteEnd_5 : decode cX1_noteEnd 5 = .ok (.dup, 1) := by decide +kernel
theorem dX1_noteEnd_6 : decode cX1_noteEnd 6 = .ok (.getfield 34, 3) := by decide +kernel
theorem dX1_noteEnd_9 : decode cX1_noteEnd 9 = .ok (.iconst 1, 1) := by decide +kernel
theorem dX1_noteEnd_10 : decode cX1_noteEnd 10 = .ok (.iadd, 1) := by decide +kernel
theorem dX1_noteEnd_11 : decode cX1_noteEnd 11 = .ok (.putfield 34, 3) := by decide +kernel
theorem dX1_noteEnd_14 : decode cX1_noteEnd 14 = .ok (.goto 13, 3) := by decide +kernel
theorem dX1_noteEnd_17 : decode cX1_noteEnd 17 = .ok (.aload_n 0, 1) := by decide +kernel
theorem dX1_noteEnd_18 : decode cX1_noteEnd 18 = .ok (.dup, 1) := by decide +kernel
theorem dX1_noteEnd_19 : decode cX1_noteEnd 19 = .ok (.getfield 40, 3) := by decide +kernel
theorem dX1_noteEnd_22 : decode cX1_noteEnd 22 = .ok (.iconst 1, 1) := by decide +kernel
theorem dX1_noteEnd_23 : decode cX1_noteEnd 23 = .ok (.iadd, 1) := by decide +kernel
theorem dX1_noteEnd_24 : decode cX1_noteEnd 24 = .ok (.putfield 40, 3) := by decide +kernel
theorem dX1_noteEnd_27 : decode cX1_noteEnd 27 = .ok (.return_, 1) := by decide +kernel
theorem dX1_carry_0 : decode cX1_carry 0 = .ok (.iload_n 1, 1) := by decide +kernel
theorem dX1_carry_1 : decode cX1_carry 1 = .ok (.istore_n 2, 1) := by decide +kernel
theorem dX1_carry_2 : decode cX1_carry 2 = .ok (.iconst 0, 1) := by decide +kernel
theorem dX1_carry_3 : decode cX1_carry 3 = .ok (.istore_n 3, 1) := by decide +kernel
theorem dX1_carry_4 : decode cX1_carry 4 = .ok (.iload_n 3, 1) := by decide +kernel
theorem dX1_carry_5 : decode cX1_carry 5 = .ok (.bipush 22, 2) := by decide +kernel
theorem dX1_carry_7 : decode cX1_carry 7 = .ok (.if_icmp .ge 89, 3) := by decide +kernel
theorem dX1_carry_10 : decode cX1_carry 10 = .ok (.aload_n 0, 1) := by decide +kernel
theorem dX1_carry_11 : decode cX1_carry 11 = .ok (.iload_n 2, 1) := by decide +kernel
theorem dX1_carry_12 : decode cX1_carry 12 = .ok (.invokevirtual 72, 3) := by decide +kernel
theorem dX1_carry_15 : decode cX1_carry 15 = .ok (.aload_n 0, 1) := by decide +kernel
theorem dX1_carry_16 : decode cX1_carry 16 = .ok (.getfield 14, 3) := by decide +kernel
theorem dX1_carry_19 : decode cX1_carry 19 = .ok (.getfield 62, 3) := by decide +kernel
theorem dX1_carry_22 : decode cX1_carry 22 = .ok (.ifCond .ne 5, 3) := by decide +kernel
theorem dX1_carry_25 : decode cX1_carry 25 = .ok (.iload_n 2, 1) := by decide +kernel
theorem dX1_carry_26 : decode cX1_carry 26 = .ok (.ireturn, 1) := by decide +kernel
theorem dX1_carry_27 : decode cX1_carry 27 = .ok (.aload_n 0, 1) := by decide +kernel
theorem dX1_carry_28 : decode cX1_carry 28 = .ok (.invokevirtual 75, 3) := by decide +kernel
theorem dX1_carry_31 : decode cX1_carry 31 = .ok (.bipush 20, 2) := by decide +kernel
theorem dX1_carry_33 : decode cX1_carry 33 = .ok (.if_icmp .lt 6, 3) := by decide +kernel
theorem dX1_carry_36 : decode cX1_carry 36 = .ok (.bipush (-14), 2) := by decide +kernel
theorem dX1_carry_38 : decode cX1_carry 38 = .ok (.ireturn, 1) := by decide +kernel
theorem dX1_carry_39 : decode cX1_carry 39 = .ok (.aload_n 0, 1) := by decide +kernel
theorem dX1_carry_40 : decode cX1_carry 40 = .ok (.iload_n 2, 1) := by decide +kernel
theorem dX1_carry_41 : decode cX1_carry 41 = .ok (.invokevirtual 79, 3) := by decide +kernel
theorem dX1_carry_44 : decode cX1_carry 44 = .ok (.istore 4, 2) := by decide +kernel
theorem dX1_carry_46 : decode cX1_carry 46 = .ok (.iload 4, 2) := by decide +kernel
theorem dX1_carry_48 : decode cX1_carry 48 = .ok (.ifCond .ge 6, 3) := by decide +kernel
theorem dX1_carry_51 : decode cX1_carry 51 = .ok (.iload 4, 2) := by decide +kernel
theorem dX1_carry_53 : decode cX1_carry 53 = .ok (.ireturn, 1) := by decide +kernel
theorem dX1_carry_54 : decode cX1_carry 54 = .ok (.aload_n 0, 1) := by decide +kernel
theorem dX1_carry_55 : decode cX1_carry 55 = .ok (.getfield 47, 3) := by decide +kernel
theorem dX1_carry_58 : decode cX1_carry 58 = .ok (.iload 4, 2) := by decide +kernel
theorem dX1_carry_60 : decode cX1_carry 60 = .ok (.invokevirtual 83, 3) := by decide +kernel
theorem dX1_carry_63 : decode cX1_carry 63 = .ok (.ifCond .eq 14, 3) := by decide +kernel
theorem dX1_carry_66 : decode cX1_carry 66 = .ok (.aload_n 0, 1) := by decide +kernel
theorem dX1_carry_67 : decode cX1_carry 67 = .ok (.iload 4, 2) := by decide +kernel
theorem dX1_carry_69 : decode cX1_carry 69 = .ok (.iload_n 2, 1) := by decide +kernel
theorem dX1_carry_70 : decode cX1_carry 70 = .ok (.invokevirtual 89, 3) := by decide +kernel
theorem dX1_carry_73 : decode cX1_carry 73 = .ok (.istore_n 2, 1) := by decide +kernel
theorem dX1_carry_74 : decode cX1_carry 74 = .ok (.goto 16, 3) := by decide +kernel
theorem dX1_carry_77 : decode cX1_carry 77 = .ok (.aload_n 0, 1) := by decide +kernel
theorem dX1_carry_78 : decode cX1_carry 78 = .ok (.iload_n 2, 1) := by decide +kernel
theorem dX1_carry_79 : decode cX1_carry 79 = .ok (.iload 4, 2) := by decide +kernel
theorem dX1_carry_81 : decode cX1_carry 81 = .ok (.invokevirtual 93, 3) := by decide +kernel
theorem dX1_carry_84 : decode cX1_carry 84 = .ok (.ifCond .ne 6, 3) := by decide +kernel
theorem dX1_carry_87 : decode cX1_carry 87 = .ok (.bipush (-12), 2) := by decide +kernel
theorem dX1_carry_89 : decode cX1_carry 89 = .ok (.ireturn, 1) := by decide +kernel
theorem dX1_carry_90 : decode cX1_carry 90 = .ok (.iinc 3 1, 3) := by decide +kernel
theorem dX1_carry_93 : decode cX1_carry 93 = .ok (.goto (-89), 3) := by decide +kernel
theorem dX1_carry_96 : decode cX1_carry 96 = .ok (.bipush (-14), 2) := by decide +kernel
theorem dX1_carry_98 : decode cX1_carry 98 = .ok (.ireturn, 1) := by decide +kernel
theorem dX1_takeOffReached_0 : decode cX1_takeOffReached 0 = .ok (.aload_n 0, 1) := by decide +kernel
theorem dX1_takeOffReached_1 : decode cX1_takeOffReached 1 = .ok (.getfield 14, 3) := by decide +kernel
theorem dX1_takeOffReached_4 : decode cX1_takeOffReached 4 = .ok (.getfield 62, 3) := by decide +kernel
theorem dX1_takeOffReached_7 : decode cX1_takeOffReached 7 = .ok (.istore_n 2, 1) := by decide +kernel
theorem dX1_takeOffReached_8 : decode cX1_takeOffReached 8 = .ok (.iload_n 2, 1) := by decide +kernel
theorem dX1_takeOffReached_9 : decode cX1_takeOffReached 9 = .ok (.ifCond .le 27, 3) := by decide +kernel
theorem dX1_takeOffReached_12 : decode cX1_takeOffReached 12 = .ok (.aload_n 0, 1) := by decide +kernel
theorem dX1_takeOffReached_13 : decode cX1_takeOffReached 13 = .ok (.getfield 14, 3) := by decide +kernel
theorem dX1_takeOffReached_16 : decode cX1_takeOffReached 16 = .ok (.iload_n 1, 1) := by decide +kernel
theorem dX1_takeOffReached_17 : decode cX1_takeOffReached 17 = .ok (.invokevirtual 97, 3) := by decide +kernel
theorem dX1_takeOffReached_20 : decode cX1_takeOffReached 20 = .ok (.ifCond .eq 16, 3) := by decide +kernel
theorem dX1_takeOffReached_23 : decode cX1_takeOffReached 23 = .ok (.aload_n 0, 1) := by decide +kernel
theorem dX1_takeOffReached_24 : decode cX1_takeOffReached 24 = .ok (.getfield 14, 3) := by decide +kernel
theorem dX1_takeOffReached_27 : decode cX1_takeOffReached 27 = .ok (.invokevirtual 100, 3) := by decide +kernel
theorem dX1_takeOffReached_30 : decode cX1_takeOffReached 30 = .ok (.iinc 2 (-1), 3) := by decide +kernel
theorem dX1_takeOffReached_33 : decode cX1_takeOffReached 33 = .ok (.goto (-25), 3) := by decide +kernel
theorem dX1_takeOffReached_36 : decode cX1_takeOffReached 36 = .ok (.return_, 1) := by decide +kernel
theorem dX1_linkAhead_0 : decode cX1_linkAhead 0 = .ok (.aload_n 0, 1) := by decide +kernel
theorem dX1_linkAhead_1 : decode cX1_linkAhead 1 = .ok (.getfield 14, 3) := by decide +kernel
theorem dX1_linkAhead_4 : decode cX1_linkAhead 4 = .ok (.invokevirtual 103, 3) := by decide +kernel
theorem dX1_linkAhead_7 : decode cX1_linkAhead 7 = .ok (.istore_n 2, 1) := by decide +kernel
theorem dX1_linkAhead_8 : decode cX1_linkAhead 8 = .ok (.aload_n 0, 1) := by decide +kernel
theorem dX1_linkAhead_9 : decode cX1_linkAhead 9 = .ok (.getfield 14, 3) := by decide +kernel
theorem dX1_linkAhead_12 : decode cX1_linkAhead 12 = .ok (.invokevirtual 106, 3) := by decide +kernel
theorem dX1_linkAhead_15 : decode cX1_linkAhead 15 = .ok (.iconst 2, 1) := by decide +kernel
theorem dX1_linkAhead_16 : decode cX1_linkAhead 16 = .ok (.if_icmp .ne 23, 3) := by decide +kernel
theorem dX1_linkAhead_19 : decode cX1_linkAhead 19 = .ok (.aload_n 0, 1) := by decide +kernel
theorem dX1_linkAhead_20 : decode cX1_linkAhead 20 = .ok (.getfield 47, 3) := by decide +kernel
theorem dX1_linkAhead_23 : decode cX1_linkAhead 23 = .ok (.iload_n 2, 1) := by decide +kernel
theorem dX1_linkAhead_24 : decode cX1_linkAhead 24 = .ok (.iload_n 1, 1) := by decide +kernel
theorem dX1_linkAhead_25 : decode cX1_linkAhead 25 = .ok (.invokevirtual 109, 3) := by decide +kernel
theorem dX1_linkAhead_28 : decode cX1_linkAhead 28 = .ok (.iconst (-1), 1) := by decide +kernel
theorem dX1_linkAhead_29 : decode cX1_linkAhead 29 = .ok (.if_icmp .ne 8, 3) := by decide +kernel
theorem dX1_linkAhead_32 : decode cX1_linkAhead 32 = .ok (.bipush (-13), 2) := by decide +kernel
theorem dX1_linkAhead_34 : decode cX1_linkAhead 34 = .ok (.goto 4, 3) := by decide +kernel
theorem dX1_linkAhead_37 : decode cX1_linkAhead 37 = .ok (.iload_n 2, 1) := by decide +kernel
theorem dX1_linkAhead_38 : decode cX1_linkAhead 38 = .ok (.ireturn, 1) := by decide +kernel
theorem dX1_linkAhead_39 : decode cX1_linkAhead 39 = .ok (.aload_n 0, 1) := by decide +kernel
theorem dX1_linkAhead_40 : decode cX1_linkAhead 40 = .ok (.getfield 51, 3) := by decide +kernel
theorem dX1_linkAhead_43 : decode cX1_linkAhead 43 = .ok (.iload_n 2, 1) := by decide +kernel
theorem dX1_linkAhead_44 : decode cX1_linkAhead 44 = .ok (.aload_n 0, 1) := by decide +kernel
theorem dX1_linkAhead_45 : decode cX1_linkAhead 45 = .ok (.getfield 14, 3) := by decide +kernel
theorem dX1_linkAhead_48 : decode cX1_linkAhead 48 = .ok (.invokevirtual 106, 3) := by decide +kernel
theorem dX1_linkAhead_51 : decode cX1_linkAhead 51 = .ok (.aload_n 0, 1) := by decide +kernel
theorem dX1_linkAhead_52 : decode cX1_linkAhead 52 = .ok (.getfield 47, 3) := by decide +kernel
theorem dX1_linkAhead_55 : decode cX1_linkAhead 55 = .ok (.getfield 112, 3) := by decide +kernel
theorem dX1_linkAhead_58 : decode cX1_linkAhead 58 = .ok (.iload_n 1, 1) := by decide +kernel
theorem dX1_linkAhead_59 : decode cX1_linkAhead 59 = .ok (.iaload, 1) := by decide +kernel
theorem dX1_linkAhead_60 : decode cX1_linkAhead 60 = .ok (.invokevirtual 116, 3) := by decide +kernel
theorem dX1_linkAhead_63 : decode cX1_linkAhead 63 = .ok (.aload_n 0, 1) := by decide +kernel
theorem dX1_linkAhead_64 : decode cX1_linkAhead 64 = .ok (.getfield 51, 3) := by decide +kernel
theorem dX1_linkAhead_67 : decode cX1_linkAhead 67 = .ok (.iload_n 1, 1) := by decide +kernel
theorem dX1_linkAhead_68 : decode cX1_linkAhead 68 = .ok (.invokevirtual 122, 3) := by decide +kernel
theorem dX1_linkAhead_71 : decode cX1_linkAhead 71 = .ok (.istore_n 3, 1) := by decide +kernel
theorem dX1_linkAhead_72 : decode cX1_linkAhead 72 = .ok (.iload_n 3, 1) := by decide +kernel
theorem dX1_linkAhead_73 : decode cX1_linkAhead 73 = .ok (.iconst (-1), 1) := by decide +kernel
theorem dX1_linkAhead_74 : decode cX1_linkAhead 74 = .ok (.if_icmp .ne 8, 3) := by decide +kernel
theorem dX1_linkAhead_77 : decode cX1_linkAhead 77 = .ok (.bipush (-11), 2) := by decide +kernel
theorem dX1_linkAhead_79 : decode cX1_linkAhead 79 = .ok (.goto 4, 3) := by decide +kernel
theorem dX1_linkAhead_82 : decode cX1_linkAhead 82 = .ok (.iload_n 3, 1) := by decide +kernel
theorem dX1_linkAhead_83 : decode cX1_linkAhead 83 = .ok (.ireturn, 1) := by decide +kernel
theorem dX1_crossLink_0 : decode cX1_crossLink 0 = .ok (.aload_n 0, 1) := by decide +kernel
theorem dX1_crossLink_1 : decode cX1_crossLink 1 = .ok (.getfield 14, 3) := by decide +kernel
theorem dX1_crossLink_4 : decode cX1_crossLink 4 = .ok (.invokevirtual 106, 3) := by decide +kernel
theorem dX1_crossLink_7 : decode cX1_crossLink 7 = .ok (.iconst 2, 1) := by decide +kernel
theorem dX1_crossLink_8 : decode cX1_crossLink 8 = .ok (.if_icmp .ne 10, 3) := by decide +kernel
theorem dX1_crossLink_11 : decode cX1_crossLink 11 = .ok (.aload_n 0, 1) := by decide +kernel
theorem dX1_crossLink_12 : decode cX1_crossLink 12 = .ok (.getfield 14, 3) := by decide +kernel
theorem dX1_crossLink_15 : decode cX1_crossLink 15 = .ok (.invokevirtual 100, 3) := by decide +kernel
theorem dX1_crossLink_18 : decode cX1_crossLink 18 = .ok (.aload_n 0, 1) := by decide +kernel
theorem dX1_crossLink_19 : decode cX1_crossLink 19 = .ok (.getfield 47, 3) := by decide +kernel
theorem dX1_crossLink_22 : decode cX1_crossLink 22 = .ok (.iload_n 1, 1) := by decide +kernel
theorem dX1_crossLink_23 : decode cX1_crossLink 23 = .ok (.iload_n 2, 1) := by decide +kernel
theorem dX1_crossLink_24 : decode cX1_crossLink 24 = .ok (.invokevirtual 109, 3) := by decide +kernel
theorem dX1_crossLink_27 : decode cX1_crossLink 27 = .ok (.istore_n 3, 1) := by decide +kernel
theorem dX1_crossLink_28 : decode cX1_crossLink 28 = .ok (.aload_n 0, 1) := by decide +kernel
theorem dX1_crossLink_29 : decode cX1_crossLink 29 = .ok (.getfield 47, 3) := by decide +kernel
theorem dX1_crossLink_32 : decode cX1_crossLink 32 = .ok (.getfield 123, 3) := by decide +kernel
theorem dX1_crossLink_35 : decode cX1_crossLink 35 = .ok (.iload_n 1, 1) := by decide +kernel
theorem dX1_crossLink_36 : decode cX1_crossLink 36 = .ok (.dup2, 1) := by decide +kernel
theorem dX1_crossLink_37 : decode cX1_crossLink 37 = .ok (.iaload, 1) := by decide +kernel
theorem dX1_crossLink_38 : decode cX1_crossLink 38 = .ok (.iconst 1, 1) := by decide +kernel
theorem dX1_crossLink_39 : decode cX1_crossLink 39 = .ok (.iadd, 1) := by decide +kernel
theorem dX1_crossLink_40 : decode cX1_crossLink 40 = .ok (.iastore, 1) := by decide +kernel
theorem dX1_crossLink_41 : decode cX1_crossLink 41 = .ok (.aload_n 0, 1) := by decide +kernel
theorem dX1_crossLink_42 : decode cX1_crossLink 42 = .ok (.getfield 23, 3) := by decide +kernel
theorem dX1_crossLink_45 : decode cX1_crossLink 45 = .ok (.iload_n 3, 1) := by decide +kernel
theorem dX1_crossLink_46 : decode cX1_crossLink 46 = .ok (.invokevirtual 69, 3) := by decide +kernel
theorem dX1_crossLink_49 : decode cX1_crossLink 49 = .ok (.iload_n 3, 1) := by decide +kernel
theorem dX1_crossLink_50 : decode cX1_crossLink 50 = .ok (.ireturn, 1) := by decide +kernel
theorem dX1_mend_0 : decode cX1_mend 0 = .ok (.aload_n 0, 1) := by decide +kernel
theorem dX1_mend_1 : decode cX1_mend 1 = .ok (.getfield 27, 3) := by decide +kernel
theorem dX1_mend_4 : decode cX1_mend 4 = .ok (.ifCond .eq 10, 3) := by decide +kernel
theorem dX1_mend_7 : decode cX1_mend 7 = .ok (.aload_n 0, 1) := by decide +kernel
theorem dX1_mend_8 : decode cX1_mend 8 = .ok (.getfield 43, 3) := by decide +kernel
theorem dX1_mend_11 : decode cX1_mend 11 = .ok (.ifCond .eq 5, 3) := by decide +kernel
theorem dX1_mend_14 : decode cX1_mend 14 = .ok (.iconst 0, 1) := by decide +kernel
theorem dX1_mend_15 : decode cX1_mend 15 = .ok (.ireturn, 1) := by decide +kernel
theorem dX1_mend_16 : decode cX1_mend 16 = .ok (.aload_n 0, 1) := by decide +kernel
theorem dX1_mend_17 : decode cX1_mend 17 = .ok (.getfield 14, 3) := by decide +kernel
theorem dX1_mend_20 : decode cX1_mend 20 = .ok (.invokevirtual 106, 3) := by decide +kernel
theorem dX1_mend_23 : decode cX1_mend 23 = .ok (.iconst 2, 1) := by decide +kernel
theorem dX1_mend_24 : decode cX1_mend 24 = .ok (.if_icmp .ne 7, 3) := by decide +kernel
theorem dX1_mend_27 : decode cX1_mend 27 = .ok (.iconst 1, 1) := by decide +kernel
theorem dX1_mend_28 : decode cX1_mend 28 = .ok (.goto 4, 3) := by decide +kernel
theorem dX1_mend_31 : decode cX1_mend 31 = .ok (.iconst 0, 1) := by decide +kernel
theorem dX1_mend_32 : decode cX1_mend 32 = .ok (.istore_n 3, 1) := by decide +kernel
theorem dX1_mend_33 : decode cX1_mend 33 = .ok (.iload_n 3, 1) := by decide +kernel
theorem dX1_mend_34 : decode cX1_mend 34 = .ok (.ifCond .eq 15, 3) := by decide +kernel
theorem dX1_mend_37 : decode cX1_mend 37 = .ok (.aload_n 0, 1) := by decide +kernel
theorem dX1_mend_38 : decode cX1_mend 38 = .ok (.getfield 47, 3) := by decide +kernel
theorem dX1_mend_41 : decode cX1_mend 41 = .ok (.iload_n 2, 1) := by decide +kernel
theorem dX1_mend_42 : decode cX1_mend 42 = .ok (.iload_n 1, 1) := by decide +kernel
theorem dX1_mend_43 : decode cX1_mend 43 = .ok (.invokevirtual 109, 3) := by decide +kernel
theorem dX1_mend_46 : decode cX1_mend 46 = .ok (.goto 10, 3) := by decide +kernel
theorem dX1_mend_49 : decode cX1_mend 49 = .ok (.aload_n 0, 1) := by decide +kernel
theorem dX1_mend_50 : decode cX1_mend 50 = .ok (.getfield 14, 3) := by decide +kernel
theorem dX1_mend_53 : decode cX1_mend 53 = .ok (.invokevirtual 103, 3) := by decide +kernel
theorem dX1_mend_56 : decode cX1_mend 56 = .ok (.istore 4, 2) := by decide +kernel
theorem dX1_mend_58 : decode cX1_mend 58 = .ok (.aload_n 0, 1) := by decide +kernel
theorem dX1_mend_59 : decode cX1_mend 59 = .ok (.getfield 55, 3) := by decide +kernel
theorem dX1_mend_62 : decode cX1_mend 62 = .ok (.iload_n 1, 1) := by decide +kernel
theorem dX1_mend_63 : decode cX1_mend 63 = .ok (.iload_n 2, 1) := by decide +kernel
theorem dX1_mend_64 : decode cX1_mend 64 = .ok (.iload 4, 2) := by decide +kernel
theorem dX1_mend_66 : decode cX1_mend 66 = .ok (.invokevirtual 126, 3) := by decide +kernel
theorem dX1_mend_69 : decode cX1_mend 69 = .ok (.ifCond .ne 5, 3) := by decide +kernel
theorem dX1_mend_72 : decode cX1_mend 72 = .ok (.iconst 0, 1) := by decide +kernel
theorem dX1_mend_73 : decode cX1_mend 73 = .ok (.ireturn, 1) := by decide +kernel
theorem dX1_mend_74 : decode cX1_mend 74 = .ok (.iload_n 3, 1) := by decide +kernel
theorem dX1_mend_75 : decode cX1_mend 75 = .ok (.ifCond .eq 10, 3) := by decide +kernel
theorem dX1_mend_78 : decode cX1_mend 78 = .ok (.aload_n 0, 1) := by decide +kernel
theorem dX1_mend_79 : decode cX1_mend 79 = .ok (.getfield 14, 3) := by decide +kernel
theorem dX1_mend_82 : decode cX1_mend 82 = .ok (.invokevirtual 100, 3) := by decide +kernel
theorem dX1_mend_85 : decode cX1_mend 85 = .ok (.aload_n 0, 1) := by decide +kernel
theorem dX1_mend_86 : decode cX1_mend 86 = .ok (.getfield 14, 3) := by decide +kernel
theorem dX1_mend_89 : decode cX1_mend 89 = .ok (.aload_n 0, 1) := by decide +kernel
theorem dX1_mend_90 : decode cX1_mend 90 = .ok (.getfield 55, 3) := by decide +kernel
theorem dX1_mend_93 : decode cX1_mend 93 = .ok (.getfield 132, 3) := by decide +kernel
theorem dX1_mend_96 : decode cX1_mend 96 = .ok (.invokevirtual 65, 3) := by decide +kernel
theorem dX1_mend_99 : decode cX1_mend 99 = .ok (.aload_n 0, 1) := by decide +kernel
theorem dX1_mend_100 : decode cX1_mend 100 = .ok (.iconst 1, 1) := by decide +kernel
theorem dX1_mend_101 : decode cX1_mend 101 = .ok (.putfield 43, 3) := by decide +kernel
theorem dX1_mend_104 : decode cX1_mend 104 = .ok (.aload_n 0, 1) := by decide +kernel
theorem dX1_mend_105 : decode cX1_mend 105 = .ok (.dup, 1) := by decide +kernel
theorem dX1_mend_106 : decode cX1_mend 106 = .ok (.getfield 37, 3) := by decide +kernel
theorem dX1_mend_109 : decode cX1_mend 109 = .ok (.iconst 1, 1) := by decide +kernel
theorem dX1_mend_110 : decode cX1_mend 110 = .ok (.iadd, 1) := by decide +kernel
theorem dX1_mend_111 : decode cX1_mend 111 = .ok (.putfield 37, 3) := by decide +kernel
theorem dX1_mend_114 : decode cX1_mend 114 = .ok (.iconst 1, 1) := by decide +kernel
theorem dX1_mend_115 : decode cX1_mend 115 = .ok (.ireturn, 1) := by decide +kernel
theorem dX2_init_0 : decode cX2_init 0 = .ok (.aload_n 0, 1) := by decide +kernel
theorem dX2_init_1 : decode cX2_init 1 = .ok (.invokespecial 3, 3) := by decide +kernel
theorem dX2_init_4 : decode cX2_init 4 = .ok (.aload_n 0, 1) := by decide +kernel
theorem dX2_init_5 : decode cX2_init 5 = .ok (.iconst 2, 1) := by decide +kernel
theorem dX2_init_6 : decode cX2_init 6 = .ok (.putfield 9, 3) := by decide +kernel
theorem dX2_init_9 : decode cX2_init 9 = .ok (.aload_n 0, 1) := by decide +kernel
theorem dX2_init_10 : decode cX2_init 10 = .ok (.iconst 0, 1) := by decide +kernel
theorem dX2_init_11 : decode cX2_init 11 = .ok (.putfield 15, 3) := by decide +kernel
theorem dX2_init_14 : decode cX2_init 14 = .ok (.aload_n 0, 1) := by decide +kernel
theorem dX2_init_15 : decode cX2_init 15 = .ok (.iconst 0, 1) := by decide +kernel
theorem dX2_init_16 : decode cX2_init 16 = .ok (.putfield 18, 3) := by decide +kernel
theorem dX2_init_19 : decode cX2_init 19 = .ok (.aload_n 0, 1) := by decide +kernel
theorem dX2_init_20 : decode cX2_init 20 = .ok (.bipush 14, 2) := by decide +kernel
theorem dX2_init_22 : decode cX2_init 22 = .ok (.newarray .int, 2) := by decide +kernel
theorem dX2_init_24 : decode cX2_init 24 = .ok (.putfield 21, 3) := by decide +kernel
theorem dX2_init_27 : decode cX2_init 27 = .ok (.aload_n 0, 1) := by decide +kernel
theorem dX2_init_28 : decode cX2_init 28 = .ok (.bipush 14, 2) := by decide +kernel
theorem dX2_init_30 : decode cX2_init 30 = .ok (.newarray .int, 2) := by decide +kernel
theorem dX2_init_32 : decode cX2_init 32 = .ok (.putfield 25, 3) := by decide +kernel
theorem dX2_init_35 : decode cX2_init 35 = .ok (.aload_n 0, 1) := by decide +kernel
theorem dX2_init_36 : decode cX2_init 36 = .ok (.bipush 14, 2) := by decide +kernel
theorem dX2_init_38 : decode cX2_init 38 = .ok (.newarray .int, 2) := by decide +kernel
theorem dX2_init_40 : decode cX2_init 40 = .ok (.putfield 28, 3) := by decide +kernel
theorem dX2_init_43 : decode cX2_init 43 = .ok (.aload_n 0, 1) := by decide +kernel
theorem dX2_init_44 : decode cX2_init 44 = .ok (.bipush 14, 2) := by decide +kernel
theorem dX2_init_46 : decode cX2_init 46 = .ok (.newarray .int, 2) := by decide +kernel
theorem dX2_init_48 : decode cX2_init 48 = .ok (.putfield 31, 3) := by decide +kernel
theorem dX2_init_51 : decode cX2_init 51 = .ok (.aload_n 0, 1) := by decide +kernel
theorem dX2_init_52 : decode cX2_init 52 = .ok (.bipush 14, 2) := by decide +kernel
theorem dX2_init_54 : decode cX2_init 54 = .ok (.newarray .int, 2) := by decide +kernel
theorem dX2_init_56 : decode cX2_init 56 = .ok (.putfield 34, 3) := by decide +kernel
theorem dX2_init_59 : decode cX2_init 59 = .ok (.aload_n 0, 1) := by decide +kernel
theorem dX2_init_60 : decode cX2_init 60 = .ok (.bipush 8, 2) := by decide +kernel
theorem dX2_init_62 : decode cX2_init 62 = .ok (.newarray .int, 2) := by decide +kernel
theorem dX2_init_64 : decode cX2_init 64 = .ok (.putfield 37, 3) := by decide +kernel
theorem dX2_init_67 : decode cX2_init 67 = .ok (.return_, 1) := by decide +kernel
theorem dX2_pairOf_0 : decode cX2_pairOf 0 = .ok (.lconst 1, 1) := by decide +kernel
theorem dX2_pairOf_1 : decode cX2_pairOf 1 = .ok (.iload_n 0, 1) := by decide +kernel
theorem dX2_pairOf_2 : decode cX2_pairOf 2 = .ok (.iload_n 1, 1) := by decide +kernel
theorem dX2_pairOf_3 : decode cX2_pairOf 3 = .ok (.invokestatic 40, 3) := by decide +kernel
theorem dX2_pairOf_6 : decode cX2_pairOf 6 = .ok (.bipush 8, 2) := by decide +kernel
theorem dX2_pairOf_8 : decode cX2_pairOf 8 = .ok (.imul, 1) := by decide +kernel
theorem dX2_pairOf_9 : decode cX2_pairOf 9 = .ok (.iload_n 0, 1) := by decide +kernel
theorem dX2_pairOf_10 : decode cX2_pairOf 10 = .ok (.iload_n 1, 1) := by decide +kernel
theorem dX2_pairOf_11 : decode cX2_pairOf 11 = .ok (.invokestatic 46, 3) := by decide +kernel
theorem dX2_pairOf_14 : decode cX2_pairOf 14 = .ok (.iadd, 1) := by decide +kernel
theorem dX2_pairOf_15 : decode cX2_pairOf 15 = .ok (.lshl, 1) := by decide +kernel
theorem dX2_pairOf_16 : decode cX2_pairOf 16 = .ok (.lreturn, 1) := by decide +kernel
theorem dX2_pairsWithLinks_0 : decode cX2_pairsWithLinks 0 = .ok (.lconst 0, 1) := by decide +kernel
theorem dX2_pairsWithLinks_1 : decode cX2_pairsWithLinks 1 = .ok (.lstore_n 1, 1) := by decide +kernel
theorem dX2_pairsWithLinks_2 : decode cX2_pairsWithLinks 2 = .ok (.iconst 0, 1) := by decide +kernel
theorem dX2_pairsWithLinks_3 : decode cX2_pairsWithLinks 3 = .ok (.istore_n 3, 1) := by decide +kernel
theorem dX2_pairsWithLinks_4 : decode cX2_pairsWithLinks 4 = .ok (.iload_n 3, 1) := by decide +kernel
theorem dX2_pairsWithLinks_5 : decode cX2_pairsWithLinks 5 = .ok (.aload_n 0, 1) := by decide +kernel
theorem dX2_pairsWithLinks_6 : decode cX2_pairsWithLinks 6 = .ok (.getfield 15, 3) := by decide +kernel
theorem dX2_pairsWithLinks_9 : decode cX2_pairsWithLinks 9 = .ok (.if_icmp .ge 27, 3) := by decide +kernel
theorem dX2_pairsWithLinks_12 : decode cX2_pairsWithLinks 12 = .ok (.lload_n 1, 1) := by decide +kernel
theorem dX2_pairsWithLinks_13 : decode cX2_pairsWithLinks 13 = .ok (.aload_n 0, 1) := by decide +kernel
theorem dX2_pairsWithLinks_14 : decode cX2_pairsWithLinks 14 = .ok (.getfield 21, 3) := by decide +kernel
theorem dX2_pairsWithLinks_17 : decode cX2_pairsWithLinks 17 = .ok (.iload_n 3, 1) := by decide +kernel
theorem dX2_pairsWithLinks_18 : decode cX2_pairsWithLinks 18 = .ok (.iaload, 1) := by decide +kernel
theorem dX2_pairsWithLinks_19 : decode cX2_pairsWithLinks 19 = .ok (.aload_n 0, 1) := by decide +kernel
theorem dX2_pairsWithLinks_20 : decode cX2_pairsWithLinks 20 = .ok (.getfield 25, 3) := by decide +kernel
theorem dX2_pairsWithLinks_23 : decode cX2_pairsWithLinks 23 = .ok (.iload_n 3, 1) := by decide +kernel
theorem dX2_pairsWithLinks_24 : decode cX2_pairsWithLinks 24 = .ok (.iaload, 1) := by decide +kernel
theorem dX2_pairsWithLinks_25 : decode cX2_pairsWithLinks 25 = .ok (.invokestatic 49, 3) := by decide +kernel
theorem dX2_pairsWithLinks_28 : decode cX2_pairsWithLinks 28 = .ok (.lor, 1) := by decide +kernel
theorem dX2_pairsWithLinks_29 : decode cX2_pairsWithLinks 29 = .ok (.lstore_n 1, 1) := by decide +kernel
theorem dX2_pairsWithLinks_30 : decode cX2_pairsWithLinks 30 = .ok (.iinc 3 1, 3) := by decide +kernel
theorem dX2_pairsWithLinks_33 : decode cX2_pairsWithLinks 33 = .ok (.goto (-29), 3) := by decide +kernel
theorem dX2_pairsWithLinks_36 : decode cX2_pairsWithLinks 36 = .ok (.lload_n 1, 1) := by decide +kernel
theorem dX2_pairsWithLinks_37 : decode cX2_pairsWithLinks 37 = .ok (.lreturn, 1) := by decide +kernel
theorem dX2_hasNode_0 : decode cX2_hasNode 0 = .ok (.iload_n 1, 1) := by decide +kernel
theorem dX2_hasNode_1 : decode cX2_hasNode 1 = .ok (.ifCond .lt 15, 3) := by decide +kernel
theorem dX2_hasNode_4 : decode cX2_hasNode 4 = .ok (.iload_n 1, 1) := by decide +kernel
theorem dX2_hasNode_5 : decode cX2_hasNode 5 = .ok (.aload_n 0, 1) := by decide +kernel
theorem dX2_hasNode_6 : decode cX2_hasNode 6 = .ok (.getfield 9, 3) := by decide +kernel
theorem dX2_hasNode_9 : decode cX2_hasNode 9 = .ok (.if_icmp .ge 7, 3) := by decide +kernel
theorem dX2_hasNode_12 : decode cX2_hasNode 12 = .ok (.iconst 1, 1) := by decide +kernel
theorem dX2_hasNode_13 : decode cX2_hasNode 13 = .ok (.goto 4, 3) := by decide +kernel
theorem dX2_hasNode_16 : decode cX2_hasNode 16 = .ok (.iconst 0, 1) := by decide +kernel
theorem dX2_hasNode_17 : decode cX2_hasNode 17 = .ok (.ireturn, 1) := by decide +kernel
theorem dX2_hasLink_0 : decode cX2_hasLink 0 = .ok (.iload_n 1, 1) := by decide +kernel
theorem dX2_hasLink_1 : decode cX2_hasLink 1 = .ok (.ifCond .lt 15, 3) := by decide +kernel
theorem dX2_hasLink_4 : decode cX2_hasLink 4 = .ok (.iload_n 1, 1) := by decide +kernel
theorem dX2_hasLink_5 : decode cX2_hasLink 5 = .ok (.aload_n 0, 1) := by decide +kernel
theorem dX2_hasLink_6 : decode cX2_hasLink 6 = .ok (.getfield 15, 3) := by decide +kernel
theorem dX2_hasLink_9 : decode cX2_hasLink 9 = .ok (.if_icmp .ge 7, 3) := by decide +kernel
theorem dX2_hasLink_12 : decode cX2_hasLink 12 = .ok (.iconst 1, 1) := by decide +kernel
theorem dX2_hasLink_13 : decode cX2_hasLink 13 = .ok (.goto 4, 3) := by decide +kernel
theorem dX2_hasLink_16 : decode cX2_hasLink 16 = .ok (.iconst 0, 1) := by decide +kernel
theorem dX2_hasLink_17 : decode cX2_hasLink 17 = .ok (.ireturn, 1) := by decide +kernel
theorem dX2_isUp_0 : decode cX2_isUp 0 = .ok (.aload_n 0, 1) := by decide +kernel
theorem dX2_isUp_1 : decode cX2_isUp 1 = .ok (.getfield 18, 3) := by decide +kernel
theorem dX2_isUp_4 : decode cX2_isUp 4 = .ok (.iload_n 1, 1) := by decide +kernel
theorem dX2_isUp_5 : decode cX2_isUp 5 = .ok (.ishr, 1) := by decide +kernel
theorem dX2_isUp_6 : decode cX2_isUp 6 = .ok (.iconst 1, 1) := by decide +kernel
theorem dX2_isUp_7 : decode cX2_isUp 7 = .ok (.iand, 1) := by decide +kernel
theorem dX2_isUp_8 : decode cX2_isUp 8 = .ok (.iconst 1, 1) := by decide +kernel
theorem dX2_isUp_9 : decode cX2_isUp 9 = .ok (.if_icmp .ne 7, 3) := by decide +kernel
theorem dX2_isUp_12 : decode cX2_isUp 12 = .ok (.iconst 1, 1) := by decide +kernel
theorem dX2_isUp_13 : decode cX2_isUp 13 = .ok (.goto 4, 3) := by decide +kernel
theorem dX2_isUp_16 : decode cX2_isUp 16 = .ok (.iconst 0, 1) := by decide +kernel
theorem dX2_isUp_17 : decode cX2_isUp 17 = .ok (.ireturn, 1) := by decide +kernel
theorem dX2_otherEnd_0 : decode cX2_otherEnd 0 = .ok (.aload_n 0, 1) := by decide +kernel
theorem dX2_otherEnd_1 : decode cX2_otherEnd 1 = .ok (.iload_n 1, 1) := by decide +kernel
theorem dX2_otherEnd_2 : decode cX2_otherEnd 2 = .ok (.invokevirtual 53, 3) := by decide +kernel
theorem dX2_otherEnd_5 : decode cX2_otherEnd 5 = .ok (.ifCond .ne 5, 3) := by decide +kernel
theorem dX2_otherEnd_8 : decode cX2_otherEnd 8 = .ok (.iconst (-1), 1) := by decide +kernel
theorem dX2_otherEnd_9 : decode cX2_otherEnd 9 = .ok (.ireturn, 1) := by decide +kernel
theorem dX2_otherEnd_10 : decode cX2_otherEnd 10 = .ok (.aload_n 0, 1) := by decide +kernel
theorem dX2_otherEnd_11 : decode cX2_otherEnd 11 = .ok (.getfield 21, 3) := by decide +kernel
theorem dX2_otherEnd_14 : decode cX2_otherEnd 14 = .ok (.iload_n 1, 1) := by decide +kernel
theorem dX2_otherEnd_15 : decode cX2_otherEnd 15 = .ok (.iaload, 1) := by decide +kernel
theorem dX2_otherEnd_16 : decode cX2_otherEnd 16 = .ok (.iload_n 2, 1) := by decide +kernel
theorem dX2_otherEnd_17 : decode cX2_otherEnd 17 = .ok (.if_icmp .ne 10, 3) := by decide +kernel
theorem dX2_otherEnd_20 : decode cX2_otherEnd 20 = .ok (.aload_n 0, 1) := by decide +kernel
theorem dX2_otherEnd_21 : decode cX2_otherEnd 21 = .ok (.getfield 25, 3) := by decide +kernel
theorem dX2_otherEnd_24 : decode cX2_otherEnd 24 = .ok (.iload_n 1, 1) := by decide +kernel
theorem dX2_otherEnd_25 : decode cX2_otherEnd 25 = .ok (.iaload, 1) := by decide +kernel
theorem dX2_otherEnd_26 : decode cX2_otherEnd 26 = .ok (.ireturn, 1) := by decide +kernel
theorem dX2_otherEnd_27 : decode cX2_otherEnd 27 = .ok (.aload_n 0, 1) := by decide +kernel
theorem dX2_otherEnd_28 : decode cX2_otherEnd 28 = .ok (.getfield 25, 3) := by decide +kernel
theorem dX2_otherEnd_31 : decode cX2_otherEnd 31 = .ok (.iload_n 1, 1) := by decide +kernel
theorem dX2_otherEnd_32 : decode cX2_otherEnd 32 = .ok (.iaload, 1) := by decide +kernel
theorem dX2_otherEnd_33 : decode cX2_otherEnd 33 = .ok (.iload_n 2, 1) := by decide +kernel
theorem dX2_otherEnd_34 : decode cX2_otherEnd 34 = .ok (.if_icmp .ne 12, 3) := by decide +kernel
theorem dX2_otherEnd_37 : decode cX2_otherEnd 37 = .ok (.aload_n 0, 1) := by decide +kernel
theorem dX2_otherEnd_38 : decode cX2_otherEnd 38 = .ok (.getfield 21, 3) := by decide +kernel
theorem dX2_otherEnd_41 : decode cX2_otherEnd 41 = .ok (.iload_n 1, 1) := by decide +kernel
theorem dX2_otherEnd_42 : decode cX2_otherEnd 42 = .ok (.iaload, 1) := by decide +kernel
theorem dX2_otherEnd_43 : decode cX2_otherEnd 43 = .ok (.goto 4, 3) := by decide +kernel
theorem dX2_otherEnd_46 : decode cX2_otherEnd 46 = .ok (.iconst (-1), 1) := by decide +kernel
theorem dX2_otherEnd_47 : decode cX2_otherEnd 47 = .ok (.ireturn, 1) := by decide +kernel
theorem dX2_linkBetween_0 : decode cX2_linkBetween 0 = .ok (.iconst 0, 1) := by decide +kernel
theorem dX2_linkBetween_1 : decode cX2_linkBetween 1 = .ok (.istore_n 3, 1) := by decide +kernel
theorem dX2_linkBetween_2 : decode cX2_linkBetween 2 = .ok (.iload_n 3, 1) := by decide +kernel
theorem dX2_linkBetween_3 : decode cX2_linkBetween 3 = .ok (.aload_n 0, 1) := by decide +kernel
theorem dX2_linkBetween_4 : decode cX2_linkBetween 4 = .ok (.getfield 15, 3) := by decide +kernel
theorem dX2_linkBetween_7 : decode cX2_linkBetween 7 = .ok (.if_icmp .ge 51, 3) := by decide +kernel
theorem dX2_linkBetween_10 : decode cX2_linkBetween 10 = .ok (.aload_n 0, 1) := by decide +kernel
theorem dX2_linkBetween_11 : decode cX2_linkBetween 11 = .ok (.getfield 21, 3) := by decide +kernel
theorem dX2_linkBetween_14 : decode cX2_linkBetween 14 = .ok (.iload_n 3, 1) := by decide +kernel
theorem dX2_linkBetween_15 : decode cX2_linkBetween 15 = .ok (.iaload, 1) := by decide +kernel
theorem dX2_linkBetween_16 : decode cX2_linkBetween 16 = .ok (.iload_n 1, 1) := by decide +kernel
theorem dX2_linkBetween_17 : decode cX2_linkBetween 17 = .ok (.if_icmp .ne 13, 3) := by decide +kernel
theorem dX2_linkBetween_20 : decode cX2_linkBetween 20 = .ok (.aload_n 0, 1) := by decide +kernel
theorem dX2_linkBetween_21 : decode cX2_linkBetween 21 = .ok (.getfield 25, 3) := by decide +kernel
theorem dX2_linkBetween_24 : decode cX2_linkBetween 24 = .ok (.iload_n 3, 1) := by decide +kernel
theorem dX2_linkBetween_25 : decode cX2_linkBetween 25 = .ok (.iaload, 1) := by decide +kernel
theorem dX2_linkBetween_26 : decode cX2_linkBetween 26 = .ok (.iload_n 2, 1) := by decide +kernel
theorem dX2_linkBetween_27 : decode cX2_linkBetween 27 = .ok (.if_icmp .eq 23, 3) := by decide +kernel
theorem dX2_linkBetween_30 : decode cX2_linkBetween 30 = .ok (.aload_n 0, 1) := by decide +kernel
theorem dX2_linkBetween_31 : decode cX2_linkBetween 31 = .ok (.getfield 21, 3) := by decide +kernel
theorem dX2_linkBetween_34 : decode cX2_linkBetween 34 = .ok (.iload_n 3, 1) := by decide +kernel
theorem dX2_linkBetween_35 : decode cX2_linkBetween 35 = .ok (.iaload, 1) := by decide +kernel
theorem dX2_linkBetween_36 : decode cX2_linkBetween 36 = .ok (.iload_n 2, 1) := by decide +kernel
theorem dX2_linkBetween_37 : decode cX2_linkBetween 37 = .ok (.if_icmp .ne 15, 3) := by decide +kernel
theorem dX2_linkBetween_40 : decode cX2_linkBetween 40 = .ok (.aload_n 0, 1) := by decide +kernel
theorem dX2_linkBetween_41 : decode cX2_linkBetween 41 = .ok (.getfield 25, 3) := by decide +kernel
theorem dX2_linkBetween_44 : decode cX2_linkBetween 44 = .ok (.iload_n 3, 1) := by decide +kernel
theorem dX2_linkBetween_45 : decode cX2_linkBetween 45 = .ok (.iaload, 1) := by decide +kernel
theorem dX2_linkBetween_46 : decode cX2_linkBetween 46 = .ok (.iload_n 1, 1) := by decide +kernel
theorem dX2_linkBetween_47 : decode cX2_linkBetween 47 = .ok (.if_icmp .ne 5, 3) := by decide +kernel
theorem dX2_linkBetween_50 : decode cX2_linkBetween 50 = .ok (.iload_n 3, 1) := by decide +kernel
theorem dX2_linkBetween_51 : decode cX2_linkBetween 51 = .ok (.ireturn, 1) := by decide +kernel
theorem dX2_linkBetween_52 : decode cX2_linkBetween 52 = .ok (.iinc 3 1, 3) := by decide +kernel
theorem dX2_linkBetween_55 : decode cX2_linkBetween 55 = .ok (.goto (-53), 3) := by decide +kernel
theorem dX2_linkBetween_58 : decode cX2_linkBetween 58 = .ok (.iconst (-1), 1) := by decide +kernel
theorem dX2_linkBetween_59 : decode cX2_linkBetween 59 = .ok (.ireturn, 1) := by decide +kernel
theorem dX2_behind_0 : decode cX2_behind 0 = .ok (.iconst 0, 1) := by decide +kernel
theorem dX2_behind_1 : decode cX2_behind 1 = .ok (.istore_n 1, 1) := by decide +kernel
theorem dX2_behind_2 : decode cX2_behind 2 = .ok (.iconst 0, 1) := by decide +kernel
theorem dX2_behind_3 : decode cX2_behind 3 = .ok (.istore_n 2, 1) := by decide +kernel
theorem dX2_behind_4 : decode cX2_behind 4 = .ok (.iload_n 2, 1) := by decide +kernel
theorem dX2_behind_5 : decode cX2_behind 5 = .ok (.aload_n 0, 1) := by decide +kernel
theorem dX2_behind_6 : decode cX2_behind 6 = .ok (.getfield 9, 3) := by decide +kernel
theorem dX2_behind_9 : decode cX2_behind 9 = .ok (.if_icmp .ge 28, 3) := by decide +kernel
theorem dX2_behind_12 : decode cX2_behind 12 = .ok (.aload_n 0, 1) := by decide +kernel
theorem dX2_behind_13 : decode cX2_behind 13 = .ok (.getfield 37, 3) := by decide +kernel
theorem dX2_behind_16 : decode cX2_behind 16 = .ok (.iload_n 2, 1) := by decide +kernel
theorem dX2_behind_17 : decode cX2_behind 17 = .ok (.iaload, 1) := by decide +kernel
theorem dX2_behind_18 : decode cX2_behind 18 = .ok (.aload_n 0, 1) := by decide +kernel
theorem dX2_behind_19 : decode cX2_behind 19 = .ok (.getfield 18, 3) := by decide +kernel
theorem dX2_behind_22 : decode cX2_behind 22 = .ok (.if_icmp .eq 9, 3) := by decide +kernel
theorem dX2_behind_25 : decode cX2_behind 25 = .ok (.iload_n 1, 1) := by decide +kernel
theorem dX2_behind_26 : decode cX2_behind 26 = .ok (.iconst 1, 1) := by decide +kernel
theorem dX2_behind_27 : decode cX2_behind 27 = .ok (.iload_n 2, 1) := by decide +kernel
theorem dX2_behind_28 : decode cX2_behind 28 = .ok (.ishl, 1) := by decide +kernel
theorem dX2_behind_29 : decode cX2_behind 29 = .ok (.ior, 1) := by decide +kernel
theorem dX2_behind_30 : decode cX2_behind 30 = .ok (.istore_n 1, 1) := by decide +kernel
theorem dX2_behind_31 : decode cX2_behind 31 = .ok (.iinc 2 1, 3) := by decide +kernel
theorem dX2_behind_34 : decode cX2_behind 34 = .ok (.goto (-30), 3) := by decide +kernel
theorem dX2_behind_37 : decode cX2_behind 37 = .ok (.iload_n 1, 1) := by decide +kernel
theorem dX2_behind_38 : decode cX2_behind 38 = .ok (.ireturn, 1) := by decide +kernel
theorem dX2_startAnew_0 : decode cX2_startAnew 0 = .ok (.aload_n 0, 1) := by decide +kernel
theorem dX2_startAnew_1 : decode cX2_startAnew 1 = .ok (.iload_n 1, 1) := by decide +kernel
theorem dX2_startAnew_2 : decode cX2_startAnew 2 = .ok (.putfield 9, 3) := by decide +kernel
theorem dX2_startAnew_5 : decode cX2_startAnew 5 = .ok (.aload_n 0, 1) := by decide +kernel
theorem dX2_startAnew_6 : decode cX2_startAnew 6 = .ok (.iconst 0, 1) := by decide +kernel
theorem dX2_startAnew_7 : decode cX2_startAnew 7 = .ok (.putfield 15, 3) := by decide +kernel
theorem dX2_startAnew_10 : decode cX2_startAnew 10 = .ok (.aload_n 0, 1) := by decide +kernel
theorem dX2_startAnew_11 : decode cX2_startAnew 11 = .ok (.iconst 0, 1) := by decide +kernel
theorem dX2_startAnew_12 : decode cX2_startAnew 12 = .ok (.putfield 18, 3) := by decide +kernel
theorem dX2_startAnew_15 : decode cX2_startAnew 15 = .ok (.aload_n 0, 1) := by decide +kernel
theorem dX2_startAnew_16 : decode cX2_startAnew 16 = .ok (.getfield 37, 3) := by decide +kernel
theorem dX2_startAnew_19 : decode cX2_startAnew 19 = .ok (.iconst 0, 1) := by decide +kernel
theorem dX2_startAnew_20 : decode cX2_startAnew 20 = .ok (.invokestatic 57, 3) := by decide +kernel
theorem dX2_startAnew_23 : decode cX2_startAnew 23 = .ok (.return_, 1) := by decide +kernel
theorem dX2_putLink_0 : decode cX2_putLink 0 = .ok (.aload_n 0, 1) := by decide +kernel
theorem dX2_putLink_1 : decode cX2_putLink 1 = .ok (.iload_n 1, 1) := by decide +kernel
theorem dX2_putLink_2 : decode cX2_putLink 2 = .ok (.iload_n 2, 1) := by decide +kernel
theorem dX2_putLink_3 : decode cX2_putLink 3 = .ok (.invokevirtual 63, 3) := by decide +kernel
theorem dX2_putLink_6 : decode cX2_putLink 6 = .ok (.istore 5, 2) := by decide +kernel
theorem dX2_putLink_8 : decode cX2_putLink 8 = .ok (.iload 5, 2) := by decide +kernel
theorem dX2_putLink_10 : decode cX2_putLink 10 = .ok (.iconst (-1), 1) := by decide +kernel
theorem dX2_putLink_11 : decode cX2_putLink 11 = .ok (.if_icmp .ne 11, 3) := by decide +kernel
theorem dX2_putLink_14 : decode cX2_putLink 14 = .ok (.aload_n 0, 1) := by decide +kernel
theorem dX2_putLink_15 : decode cX2_putLink 15 = .ok (.iload_n 1, 1) := by decide +kernel
theorem dX2_putLink_16 : decode cX2_putLink 16 = .ok (.iload_n 2, 1) := by decide +kernel
theorem dX2_putLink_17 : decode cX2_putLink 17 = .ok (.invokevirtual 66, 3) := by decide +kernel
theorem dX2_putLink_20 : decode cX2_putLink 20 = .ok (.istore 5, 2) := by decide +kernel
theorem dX2_putLink_22 : decode cX2_putLink 22 = .ok (.iload 5, 2) := by decide +kernel
theorem dX2_putLink_24 : decode cX2_putLink 24 = .ok (.iconst (-1), 1) := by decide +kernel
theorem dX2_putLink_25 : decode cX2_putLink 25 = .ok (.if_icmp .eq 20, 3) := by decide +kernel
theorem dX2_putLink_28 : decode cX2_putLink 28 = .ok (.aload_n 0, 1) := by decide +kernel
theorem dX2_putLink_29 : decode cX2_putLink 29 = .ok (.getfield 28, 3) := by decide +kernel
theorem dX2_putLink_32 : decode cX2_putLink 32 = .ok (.iload 5, 2) := by decide +kernel
theorem dX2_putLink_34 : decode cX2_putLink 34 = .ok (.iload_n 3, 1) := by decide +kernel
theorem dX2_putLink_35 : decode cX2_putLink 35 = .ok (.iastore, 1) := by decide +kernel
theorem dX2_putLink_36 : decode cX2_putLink 36 = .ok (.aload_n 0, 1) := by decide +kernel
theorem dX2_putLink_37 : decode cX2_putLink 37 = .ok (.getfield 31, 3) := by decide +kernel
theorem dX2_putLink_40 : decode cX2_putLink 40 = .ok (.iload 5, 2) := by decide +kernel
theorem dX2_putLink_42 : decode cX2_putLink 42 = .ok (.iload 4, 2) := by decide +kernel
theorem dX2_putLink_44 : decode cX2_putLink 44 = .ok (.iastore, 1) := by decide +kernel
theorem dX2_putLink_45 : decode cX2_putLink 45 = .ok (.return_, 1) := by decide +kernel
theorem dX2_addLink_0 : decode cX2_addLink 0 = .ok (.aload_n 0, 1) := by decide +kernel
theorem dX2_addLink_1 : decode cX2_addLink 1 = .ok (.getfield 15, 3) := by decide +kernel
theorem dX2_addLink_4 : decode cX2_addLink 4 = .ok (.bipush 14, 2) := by decide +kernel
theorem dX2_addLink_6 : decode cX2_addLink 6 = .ok (.if_icmp .lt 5, 3) := by decide +kernel
theorem dX2_addLink_9 : decode cX2_addLink 9 = .ok (.iconst (-1), 1) := by decide +kernel
theorem dX2_addLink_10 : decode cX2_addLink 10 = .ok (.ireturn, 1) := by decide +kernel
theorem dX2_addLink_11 : decode cX2_addLink 11 = .ok (.aload_n 0, 1) := by decide +kernel
theorem dX2_addLink_12 : decode cX2_addLink 12 = .ok (.getfield 15, 3) := by decide +kernel
theorem dX2_addLink_15 : decode cX2_addLink 15 = .ok (.istore_n 3, 1) := by decide +kernel
theorem dX2_addLink_16 : decode cX2_addLink 16 = .ok (.aload_n 0, 1) := by decide +kernel
theorem dX2_addLink_17 : decode cX2_addLink 17 = .ok (.getfield 21, 3) := by decide +kernel
theorem dX2_addLink_20 : decode cX2_addLink 20 = .ok (.iload_n 3, 1) := by decide +kernel
theorem dX2_addLink_21 : decode cX2_addLink 21 = .ok (.iload_n 1, 1) := by decide +kernel
theorem dX2_addLink_22 : decode cX2_addLink 22 = .ok (.iload_n 2, 1) := by decide +kernel
theorem dX2_addLink_23 : decode cX2_addLink 23 = .ok (.invokestatic 40, 3) := by decide +kernel
theorem dX2_addLink_26 : decode cX2_addLink 26 = .ok (.iastore, 1) := by decide +kernel
theorem dX2_addLink_27 : decode cX2_addLink 27 = .ok (.aload_n 0, 1) := by decide +kernel
theorem dX2_addLink_28 : decode cX2_addLink 28 = .ok (.getfield 25, 3) := by decide +kernel
theorem dX2_addLink_31 : decode cX2_addLink 31 = .ok (.iload_n 3, 1) := by decide +kernel
theorem dX2_addLink_32 : decode cX2_addLink 32 = .ok (.iload_n 1, 1) := by decide +kernel
theorem dX2_addLink_33 : decode cX2_addLink 33 = .ok (.iload_n 2, 1) := by decide +kernel
theorem dX2_addLink_34 : decode cX2_addLink 34 = .ok (.invokestatic 46, 3) := by decide +kernel
theorem dX2_addLink_37 : decode cX2_addLink 37 = .ok (.iastore, 1) := by decide +kernel
theorem dX2_addLink_38 : decode cX2_addLink 38 = .ok (.aload_n 0, 1) := by decide +kernel
theorem dX2_addLink_39 : decode cX2_addLink 39 = .ok (.dup, 1) := by decide +kernel
theorem dX2_addLink_40 : decode cX2_addLink 40 = .ok (.getfield 18, 3) := by decide +kernel
theorem dX2_addLink_43 : decode cX2_addLink 43 = .ok (.iconst 1, 1) := by decide +kernel
theorem dX2_addLink_44 : decode cX2_addLink 44 = .ok (.iload_n 3, 1) := by decide +kernel
theorem dX2_addLink_45 : decode cX2_addLink 45 = .ok (.ishl, 1) := by decide +kernel
theorem dX2_addLink_46 : decode cX2_addLink 46 = .ok (.ior, 1) := by decide +kernel
theorem dX2_addLink_47 : decode cX2_addLink 47 = .ok (.putfield 18, 3) := by decide +kernel
theorem dX2_addLink_50 : decode cX2_addLink 50 = .ok (.iconst 0, 1) := by decide +kernel
theorem dX2_addLink_51 : decode cX2_addLink 51 = .ok (.istore 4, 2) := by decide +kernel
theorem dX2_addLink_53 : decode cX2_addLink 53 = .ok (.iload 4, 2) := by decide +kernel
theorem dX2_addLink_55 : decode cX2_addLink 55 = .ok (.aload_n 0, 1) := by decide +kernel
theorem dX2_addLink_56 : decode cX2_addLink 56 = .ok (.getfield 9, 3) := by decide +kernel
theorem dX2_addLink_59 : decode cX2_addLink 59 = .ok (.if_icmp .ge 22, 3) := by decide +kernel
theorem dX2_addLink_62 : decode cX2_addLink 62 = .ok (.aload_n 0, 1) := by decide +kernel
theorem dX2_addLink_63 : decode cX2_addLink 63 = .ok (.getfield 37, 3) := by decide +kernel
theorem dX2_addLink_66 : decode cX2_addLink 66 = .ok (.iload 4, 2) := by decide +kernel
theorem dX2_addLink_68 : decode cX2_addLink 68 = .ok (.dup2, 1) := by decide +kernel
theorem dX2_addLink_69 : decode cX2_addLink 69 = .ok (.iaload, 1) := by decide +kernel
theorem dX2_addLink_70 : decode cX2_addLink 70 = .ok (.iconst 1, 1) := by decide +kernel
theorem dX2_addLink_71 : decode cX2_addLink 71 = .ok (.iload_n 3, 1) := by decide +kernel
theorem dX2_addLink_72 : decode cX2_addLink 72 = .ok (.ishl, 1) := by decide +kernel
theorem dX2_addLink_73 : decode cX2_addLink 73 = .ok (.ior, 1) := by decide +kernel
theorem dX2_addLink_74 : decode cX2_addLink 74 = .ok (.iastore, 1) := by decide +kernel
theorem dX2_addLink_75 : decode cX2_addLink 75 = .ok (.iinc 4 1, 3) := by decide +kernel
theorem dX2_addLink_78 : decode cX2_addLink 78 = .ok (.goto (-25), 3) := by decide +kernel
theorem dX2_addLink_81 : decode cX2_addLink 81 = .ok (.aload_n 0, 1) := by decide +kernel
theorem dX2_addLink_82 : decode cX2_addLink 82 = .ok (.dup, 1) := by decide +kernel
theorem dX2_addLink_83 : decode cX2_addLink 83 = .ok (.getfield 15, 3) := by decide +kernel
theorem dX2_addLink_86 : decode cX2_addLink 86 = .ok (.iconst 1, 1) := by decide +kernel
theorem dX2_addLink_87 : decode cX2_addLink 87 = .ok (.iadd, 1) := by decide +kernel
theorem dX2_addLink_88 : decode cX2_addLink 88 = .ok (.putfield 15, 3) := by decide +kernel
theorem dX2_addLink_91 : decode cX2_addLink 91 = .ok (.iload_n 3, 1) := by decide +kernel
theorem dX2_addLink_92 : decode cX2_addLink 92 = .ok (.ireturn, 1) := by decide +kernel
theorem dX3_init_0 : decode cX3_init 0 = .ok (.aload_n 0, 1) := by decide +kernel
theorem dX3_init_1 : decode cX3_init 1 = .ok (.invokespecial 3, 3) := by decide +kernel
theorem dX3_init_4 : decode cX3_init 4 = .ok (.aload_n 0, 1) := by decide +kernel
theorem dX3_init_5 : decode cX3_init 5 = .ok (.bipush 8, 2) := by decide +kernel
theorem dX3_init_7 : decode cX3_init 7 = .ok (.newarray .int, 2) := by decide +kernel
theorem dX3_init_9 : decode cX3_init 9 = .ok (.putfield 9, 3) := by decide +kernel
theorem dX3_init_12 : decode cX3_init 12 = .ok (.aload_n 0, 1) := by decide +kernel
theorem dX3_init_13 : decode cX3_init 13 = .ok (.bipush 8, 2) := by decide +kernel
theorem dX3_init_15 : decode cX3_init 15 = .ok (.newarray .int, 2) := by decide +kernel
theorem dX3_init_17 : decode cX3_init 17 = .ok (.putfield 15, 3) := by decide +kernel
theorem dX3_init_20 : decode cX3_init 20 = .ok (.aload_n 0, 1) := by decide +kernel
theorem dX3_init_21 : decode cX3_init 21 = .ok (.bipush 8, 2) := by decide +kernel
theorem dX3_init_23 : decode cX3_init 23 = .ok (.newarray .int, 2) := by decide +kernel
theorem dX3_init_25 : decode cX3_init 25 = .ok (.putfield 18, 3) := by decide +kernel
theorem dX3_init_28 : decode cX3_init 28 = .ok (.aload_n 0, 1) := by decide +kernel
theorem dX3_init_29 : decode cX3_init 29 = .ok (.bipush 8, 2) := by decide +kernel
theorem dX3_init_31 : decode cX3_init 31 = .ok (.newarray .int, 2) := by decide +kernel
theorem dX3_init_33 : decode cX3_init 33 = .ok (.putfield 21, 3) := by decide +kernel
theorem dX3_init_36 : decode cX3_init 36 = .ok (.aload_n 0, 1) := by decide +kernel
theorem dX3_init_37 : decode cX3_init 37 = .ok (.iconst 0, 1) := by decide +kernel
theorem dX3_init_38 : decode cX3_init 38 = .ok (.putfield 24, 3) := by decide +kernel
theorem dX3_init_41 : decode cX3_init 41 = .ok (.aload_n 0, 1) := by decide +kernel
theorem dX3_init_42 : decode cX3_init 42 = .ok (.iconst 0, 1) := by decide +kernel
theorem dX3_init_43 : decode cX3_init 43 = .ok (.putfield 28, 3) := by decide +kernel
theorem dX3_init_46 : decode cX3_init 46 = .ok (.aload_n 0, 1) := by decide +kernel
theorem dX3_init_47 : decode cX3_init 47 = .ok (.aload_n 1, 1) := by decide +kernel
theorem dX3_init_48 : decode cX3_init 48 = .ok (.putfield 31, 3) := by decide +kernel
theorem dX3_init_51 : decode cX3_init 51 = .ok (.return_, 1) := by decide +kernel
theorem dX3_keepUp_0 : decode cX3_keepUp 0 = .ok (.aload_n 0, 1) := by decide +kernel
theorem dX3_keepUp_1 : decode cX3_keepUp 1 = .ok (.iconst 0, 1) := by decide +kernel
theorem dX3_keepUp_2 : decode cX3_keepUp 2 = .ok (.iconst 0, 1) := by decide +kernel
theorem dX3_keepUp_3 : decode cX3_keepUp 3 = .ok (.aload_n 0, 1) := by decide +kernel
theorem dX3_keepUp_4 : decode cX3_keepUp 4 = .ok (.getfield 31, 3) := by decide +kernel
theorem dX3_keepUp_7 : decode cX3_keepUp 7 = .ok (.getfield 35, 3) := by decide +kernel
theorem dX3_keepUp_10 : decode cX3_keepUp 10 = .ok (.iconst 0, 1) := by decide +kernel
theorem dX3_keepUp_11 : decode cX3_keepUp 11 = .ok (.invokevirtual 40, 3) := by decide +kernel
theorem dX3_keepUp_14 : decode cX3_keepUp 14 = .ok (.return_, 1) := by decide +kernel
theorem dX3_keepPrices_0 : decode cX3_keepPrices 0 = .ok (.aload_n 0, 1) := by decide +kernel
theorem dX3_keepPrices_1 : decode cX3_keepPrices 1 = .ok (.iconst 1, 1) := by decide +kernel
theorem dX3_keepPrices_2 : decode cX3_keepPrices 2 = .ok (.iload_n 1, 1) := by decide +kernel
theorem dX3_keepPrices_3 : decode cX3_keepPrices 3 = .ok (.aload_n 0, 1) := by decide +kernel
theorem dX3_keepPrices_4 : decode cX3_keepPrices 4 = .ok (.getfield 31, 3) := by decide +kernel
theorem dX3_keepPrices_7 : decode cX3_keepPrices 7 = .ok (.getfield 44, 3) := by decide +kernel
theorem dX3_keepPrices_10 : decode cX3_keepPrices 10 = .ok (.iload_n 1, 1) := by decide +kernel
theorem dX3_keepPrices_11 : decode cX3_keepPrices 11 = .ok (.iaload, 1) := by decide +kernel
theorem dX3_keepPrices_12 : decode cX3_keepPrices 12 = .ok (.aload_n 0, 1) := by decide +kernel
theorem dX3_keepPrices_13 : decode cX3_keepPrices 13 = .ok (.getfield 31, 3) := by decide +kernel
theorem dX3_keepPrices_16 : decode cX3_keepPrices 16 = .ok (.getfield 47, 3) := by decide +kernel
theorem dX3_keepPrices_19 : decode cX3_keepPrices 19 = .ok (.iload_n 1, 1) := by decide +kernel
theorem dX3_keepPrices_20 : decode cX3_keepPrices 20 = .ok (.iaload, 1) := by decide +kernel
theorem dX3_keepPrices_21 : decode cX3_keepPrices 21 = .ok (.invokevirtual 40, 3) := by decide +kernel
theorem dX3_keepPrices_24 : decode cX3_keepPrices 24 = .ok (.return_, 1) := by decide +kernel
theorem dX3_keepSeen_0 : decode cX3_keepSeen 0 = .ok (.aload_n 0, 1) := by decide +kernel
theorem dX3_keepSeen_1 : decode cX3_keepSeen 1 = .ok (.iconst 2, 1) := by decide +kernel
theorem dX3_keepSeen_2 : decode cX3_keepSeen 2 = .ok (.iload_n 1, 1) := by decide +kernel
theorem dX3_keepSeen_3 : decode cX3_keepSeen 3 = .ok (.aload_n 0, 1) := by decide +kernel
theorem dX3_keepSeen_4 : decode cX3_keepSeen 4 = .ok (.getfield 31, 3) := by decide +kernel
theorem dX3_keepSeen_7 : decode cX3_keepSeen 7 = .ok (.getfield 50, 3) := by decide +kernel
theorem dX3_keepSeen_10 : decode cX3_keepSeen 10 = .ok (.iload_n 1, 1) := by decide +kernel
theorem dX3_keepSeen_11 : decode cX3_keepSeen 11 = .ok (.iaload, 1) := by decide +kernel
theorem dX3_keepSeen_12 : decode cX3_keepSeen 12 = .ok (.iconst 0, 1) := by decide +kernel
theorem dX3_keepSeen_13 : decode cX3_keepSeen 13 = .ok (.invokevirtual 40, 3) := by decide +kernel
theorem dX3_keepSeen_16 : decode cX3_keepSeen 16 = .ok (.return_, 1) := by decide +kernel
theorem dX3_keep_0 : decode cX3_keep 0 = .ok (.aload_n 0, 1) := by decide +kernel
theorem dX3_keep_1 : decode cX3_keep 1 = .ok (.getfield 9, 3) := by decide +kernel
theorem dX3_keep_4 : decode cX3_keep 4 = .ok (.aload_n 0, 1) := by decide +kernel
theorem dX3_keep_5 : decode cX3_keep 5 = .ok (.getfield 24, 3) := by decide +kernel
theorem dX3_keep_8 : decode cX3_keep 8 = .ok (.iload_n 1, 1) := by decide +kernel
theorem dX3_keep_9 : decode cX3_keep 9 = .ok (.iastore, 1) := by decide +kernel
theorem dX3_keep_10 : decode cX3_keep 10 = .ok (.aload_n 0, 1) := by decide +kernel
theorem dX3_keep_11 : decode cX3_keep 11 = .ok (.getfield 15, 3) := by decide +kernel
theorem dX3_keep_14 : decode cX3_keep 14 = .ok (.aload_n 0, 1) := by decide +kernel
theorem dX3_keep_15 : decode cX3_keep 15 = .ok (.getfield 24, 3) := by decide +kernel
theorem dX3_keep_18 : decode cX3_keep 18 = .ok (.iload_n 2, 1) := by decide +kernel
theorem dX3_keep_19 : decode cX3_keep 19 = .ok (.iastore, 1) := by decide +kernel
theorem dX3_keep_20 : decode cX3_keep 20 = .ok (.aload_n 0, 1) := by decide +kernel
theorem dX3_keep_21 : decode cX3_keep 21 = .ok (.getfield 18, 3) := by decide +kernel
theorem dX3_keep_24 : decode cX3_keep 24 = .ok (.aload_n 0, 1) := by decide +kernel
theorem dX3_keep_25 : decode cX3_keep 25 = .ok (.getfield 24, 3) := by decide +kernel
theorem dX3_keep_28 : decode cX3_keep 28 = .ok (.iload_n 3, 1) := by decide +kernel
theorem dX3_keep_29 : decode cX3_keep 29 = .ok (.iastore, 1) := by decide +kernel
theorem dX3_keep_30 : decode cX3_keep 30 = .ok (.aload_n 0, 1) := by decide +kernel
theorem dX3_keep_31 : decode cX3_keep 31 = .ok (.getfield 21, 3) := by decide +kernel
theorem dX3_keep_34 : decode cX3_keep 34 = .ok (.aload_n 0, 1) := by decide +kernel
theorem dX3_keep_35 : decode cX3_keep 35 = .ok (.getfield 24, 3) := by decide +kernel
theorem dX3_keep_38 : decode cX3_keep 38 = .ok (.iload 4, 2) := by decide +kernel
theorem dX3_keep_40 : decode cX3_keep 40 = .ok (.iastore, 1) := by decide +kernel
theorem dX3_keep_41 : decode cX3_keep 41 = .ok (.aload_n 0, 1) := by decide +kernel
theorem dX3_keep_42 : decode cX3_keep 42 = .ok (.aload_n 0, 1) := by decide +kernel
theorem dX3_keep_43 : decode cX3_keep 43 = .ok (.getfield 24, 3) := by decide +kernel
theorem dX3_keep_46 : decode cX3_keep 46 = .ok (.iconst 1, 1) := by decide +kernel
theorem dX3_keep_47 : decode cX3_keep 47 = .ok (.iadd, 1) := by decide +kernel
theorem dX3_keep_48 : decode cX3_keep 48 = .ok (.bipush 8, 2) := by decide +kernel
theorem dX3_keep_50 : decode cX3_keep 50 = .ok (.if_icmp .ge 12, 3) := by decide +kernel
theorem dX3_keep_53 : decode cX3_keep 53 = .ok (.aload_n 0, 1) := by decide +kernel
theorem dX3_keep_54 : decode cX3_keep 54 = .ok (.getfield 24, 3) := by decide +kernel
theorem dX3_keep_57 : decode cX3_keep 57 = .ok (.iconst 1, 1) := by decide +kernel
theorem dX3_keep_58 : decode cX3_keep 58 = .ok (.iadd, 1) := by decide +kernel
theorem dX3_keep_59 : decode cX3_keep 59 = .ok (.goto 4, 3) := by decide +kernel
theorem dX3_keep_62 : decode cX3_keep 62 = .ok (.iconst 0, 1) := by decide +kernel
theorem dX3_keep_63 : decode cX3_keep 63 = .ok (.putfield 24, 3) := by decide +kernel
theorem dX3_keep_66 : decode cX3_keep 66 = .ok (.aload_n 0, 1) := by decide +kernel
theorem dX3_keep_67 : decode cX3_keep 67 = .ok (.aload_n 0, 1) := by decide +kernel
theorem dX3_keep_68 : decode cX3_keep 68 = .ok (.getfield 28, 3) := by decide +kernel
theorem dX3_keep_71 : decode cX3_keep 71 = .ok (.iconst 1, 1) := by decide +kernel
theorem dX3_keep_72 : decode cX3_keep 72 = .ok (.iadd, 1) := by decide +kernel
theorem dX3_keep_73 : decode cX3_keep 73 = .ok (.bipush 8, 2) := by decide +kernel
theorem dX3_keep_75 : decode cX3_keep 75 = .ok (.invokestatic 53, 3) := by decide +kernel
theorem dX3_keep_78 : decode cX3_keep 78 = .ok (.putfield 28, 3) := by decide +kernel
theorem dX3_keep_81 : decode cX3_keep 81 = .ok (.return_, 1) := by decide +kernel
theorem dX3_takeBack_0 : decode cX3_takeBack 0 = .ok (.aload_n 0, 1) := by decide +kernel
theorem dX3_takeBack_1 : decode cX3_takeBack 1 = .ok (.aload_n 0, 1) := by decide +kernel
theorem dX3_takeBack_2 : decode cX3_takeBack 2 = .ok (.getfield 24, 3) := by decide +kernel
theorem dX3_takeBack_5 : decode cX3_takeBack 5 = .ok (.ifCond .le 12, 3) := by decide +kernel
theorem dX3_takeBack_8 : decode cX3_takeBack 8 = .ok (.aload_n 0, 1) := by decide +kernel
theorem dX3_takeBack_9 : decode cX3_takeBack 9 = .ok (.getfield 24, 3) := by decide +kernel
theorem dX3_takeBack_12 : decode cX3_takeBack 12 = .ok (.iconst 1, 1) := by decide +kernel
theorem dX3_takeBack_13 : decode cX3_takeBack 13 = .ok (.isub, 1) := by decide +kernel
theorem dX3_takeBack_14 : decode cX3_takeBack 14 = .ok (.goto 5, 3) := by decide +kernel
theorem dX3_takeBack_17 : decode cX3_takeBack 17 = .ok (.bipush 7, 2) := by decide +kernel
theorem dX3_takeBack_19 : decode cX3_takeBack 19 = .ok (.putfield 24, 3) := by decide +kernel
theorem dX3_takeBack_22 : decode cX3_takeBack 22 = .ok (.aload_n 0, 1) := by decide +kernel
theorem dX3_takeBack_23 : decode cX3_takeBack 23 = .ok (.dup, 1) := by decide +kernel
theorem dX3_takeBack_24 : decode cX3_takeBack 24 = .ok (.getfield 28, 3) := by decide +kernel
theorem dX3_takeBack_27 : decode cX3_takeBack 27 = .ok (.iconst 1, 1) := by decide +kernel
theorem dX3_takeBack_28 : decode cX3_takeBack 28 = .ok (.isub, 1) := by decide +kernel
theorem dX3_takeBack_29 : decode cX3_takeBack 29 = .ok (.putfield 28, 3) := by decide +kernel
theorem dX3_takeBack_32 : decode cX3_takeBack 32 = .ok (.aload_n 0, 1) := by decide +kernel
theorem dX3_takeBack_33 : decode cX3_takeBack 33 = .ok (.getfield 15, 3) := by decide +kernel
theorem dX3_takeBack_36 : decode cX3_takeBack 36 = .ok (.aload_n 0, 1) := by decide +kernel
theorem dX3_takeBack_37 : decode cX3_takeBack 37 = .ok (.getfield 24, 3) := by decide +kernel
theorem dX3_takeBack_40 : decode cX3_takeBack 40 = .ok (.iaload, 1) := by decide +kernel
theorem dX3_takeBack_41 : decode cX3_takeBack 41 = .ok (.istore_n 1, 1) := by decide +kernel
theorem dX3_takeBack_42 : decode cX3_takeBack 42 = .ok (.aload_n 0, 1) := by decide +kernel
theorem dX3_takeBack_43 : decode cX3_takeBack 43 = .ok (.getfield 9, 3) := by decide +kernel
theorem dX3_takeBack_46 : decode cX3_takeBack 46 = .ok (.aload_n 0, 1) := by decide +kernel
theorem dX3_takeBack_47 : decode cX3_takeBack 47 = .ok (.getfield 24, 3) := by decide +kernel
theorem dX3_takeBack_50 : decode cX3_takeBack 50 = .ok (.iaload, 1) := by decide +kernel
theorem dX3_takeBack_51 : decode cX3_takeBack 51 = .ok (.ifCond .ne 22, 3) := by decide +kernel
theorem dX3_takeBack_54 : decode cX3_takeBack 54 = .ok (.aload_n 0, 1) := by decide +kernel
theorem dX3_takeBack_55 : decode cX3_takeBack 55 = .ok (.getfield 31, 3) := by decide +kernel
theorem dX3_takeBack_58 : decode cX3_takeBack 58 = .ok (.aload_n 0, 1) := by decide +kernel
theorem dX3_takeBack_59 : decode cX3_takeBack 59 = .ok (.getfield 18, 3) := by decide +kernel
theorem dX3_takeBack_62 : decode cX3_takeBack 62 = .ok (.aload_n 0, 1) := by decide +kernel
theorem dX3_takeBack_63 : decode cX3_takeBack 63 = .ok (.getfield 24, 3) := by decide +kernel
theorem dX3_takeBack_66 : decode cX3_takeBack 66 = .ok (.iaload, 1) := by decide +kernel
theorem dX3_takeBack_67 : decode cX3_takeBack 67 = .ok (.putfield 35, 3) := by decide +kernel
theorem dX3_takeBack_70 : decode cX3_takeBack 70 = .ok (.goto 73, 3) := by decide +kernel
theorem dX3_takeBack_73 : decode cX3_takeBack 73 = .ok (.aload_n 0, 1) := by decide +kernel
theorem dX3_takeBack_74 : decode cX3_takeBack 74 = .ok (.getfield 9, 3) := by decide +kernel
theorem dX3_takeBack_77 : decode cX3_takeBack 77 = .ok (.aload_n 0, 1) := by decide +kernel
theorem dX3_takeBack_78 : decode cX3_takeBack 78 = .ok (.getfield 24, 3) := by decide +kernel
theorem dX3_takeBack_81 : decode cX3_takeBack 81 = .ok (.iaload, 1) := by decide +kernel
theorem dX3_takeBack_82 : decode cX3_takeBack 82 = .ok (.iconst 1, 1) := by decide +kernel
theorem dX3_takeBack_83 : decode cX3_takeBack 83 = .ok (.if_icmp .ne 42, 3) := by decide +kernel
theorem dX3_takeBack_86 : decode cX3_takeBack 86 = .ok (.aload_n 0, 1) := by decide +kernel
theorem dX3_takeBack_87 : decode cX3_takeBack 87 = .ok (.getfield 31, 3) := by decide +kernel
theorem dX3_takeBack_90 : decode cX3_takeBack 90 = .ok (.getfield 44, 3) := by decide +kernel
theorem dX3_takeBack_93 : decode cX3_takeBack 93 = .ok (.iload_n 1, 1) := by decide +kernel
theorem dX3_takeBack_94 : decode cX3_takeBack 94 = .ok (.aload_n 0, 1) := by decide +kernel
theorem dX3_takeBack_95 : decode cX3_takeBack 95 = .ok (.getfield 18, 3) := by decide +kernel
theorem dX3_takeBack_98 : decode cX3_takeBack 98 = .ok (.aload_n 0, 1) := by decide +kernel
theorem dX3_takeBack_99 : decode cX3_takeBack 99 = .ok (.getfield 24, 3) := by decide +kernel
theorem dX3_takeBack_102 : decode cX3_takeBack 102 = .ok (.iaload, 1) := by decide +kernel
theorem dX3_takeBack_103 : decode cX3_takeBack 103 = .ok (.iastore, 1) := by decide +kernel
theorem dX3_takeBack_104 : decode cX3_takeBack 104 = .ok (.aload_n 0, 1) := by decide +kernel
theorem dX3_takeBack_105 : decode cX3_takeBack 105 = .ok (.getfield 31, 3) := by decide +kernel
theorem dX3_takeBack_108 : decode cX3_takeBack 108 = .ok (.getfield 47, 3) := by decide +kernel
theorem dX3_takeBack_111 : decode cX3_takeBack 111 = .ok (.iload_n 1, 1) := by decide +kernel
theorem dX3_takeBack_112 : decode cX3_takeBack 112 = .ok (.aload_n 0, 1) := by decide +kernel
theorem dX3_takeBack_113 : decode cX3_takeBack 113 = .ok (.getfield 21, 3) := by decide +kernel
theorem dX3_takeBack_116 : decode cX3_takeBack 116 = .ok (.aload_n 0, 1) := by decide +kernel
theorem dX3_takeBack_117 : decode cX3_takeBack 117 = .ok (.getfield 24, 3) := by decide +kernel
theorem dX3_takeBack_120 : decode cX3_takeBack 120 = .ok (.iaload, 1) := by decide +kernel
theorem dX3_takeBack_121 : decode cX3_takeBack 121 = .ok (.iastore, 1) := by decide +kernel
theorem dX3_takeBack_122 : decode cX3_takeBack 122 = .ok (.goto 21, 3) := by decide +kernel
theorem dX3_takeBack_125 : decode cX3_takeBack 125 = .ok (.aload_n 0, 1) := by decide +kernel
theorem dX3_takeBack_126 : decode cX3_takeBack 126 = .ok (.getfield 31, 3) := by decide +kernel
theorem dX3_takeBack_129 : decode cX3_takeBack 129 = .ok (.getfield 50, 3) := by decide +kernel
theorem dX3_takeBack_132 : decode cX3_takeBack 132 = .ok (.iload_n 1, 1) := by decide +kernel
theorem dX3_takeBack_133 : decode cX3_takeBack 133 = .ok (.aload_n 0, 1) := by decide +kernel
theorem dX3_takeBack_134 : decode cX3_takeBack 134 = .ok (.getfield 18, 3) := by decide +kernel
theorem dX3_takeBack_137 : decode cX3_takeBack 137 = .ok (.aload_n 0, 1) := by decide +kernel
theorem dX3_takeBack_138 : decode cX3_takeBack 138 = .ok (.getfield 24, 3) := by decide +kernel
theorem dX3_takeBack_141 : decode cX3_takeBack 141 = .ok (.iaload, 1) := by decide +kernel
theorem dX3_takeBack_142 : decode cX3_takeBack 142 = .ok (.iastore, 1) := by decide +kernel
theorem dX3_takeBack_143 : decode cX3_takeBack 143 = .ok (.return_, 1) := by decide +kernel
theorem dX4_init_0 : decode cX4_init 0 = .ok (.aload_n 0, 1) := by decide +kernel
theorem dX4_init_1 : decode cX4_init 1 = .ok (.invokespecial 3, 3) := by decide +kernel
theorem dX4_init_4 : decode cX4_init 4 = .ok (.aload_n 0, 1) := by decide +kernel
theorem dX4_init_5 : decode cX4_init 5 = .ok (.bipush 64, 2) := by decide +kernel
theorem dX4_init_7 : decode cX4_init 7 = .ok (.newarray .int, 2) := by decide +kernel
theorem dX4_init_9 : decode cX4_init 9 = .ok (.putfield 9, 3) := by decide +kernel
theorem dX4_init_12 : decode cX4_init 12 = .ok (.aload_n 0, 1) := by decide +kernel
theorem dX4_init_13 : decode cX4_init 13 = .ok (.bipush 64, 2) := by decide +kernel
theorem dX4_init_15 : decode cX4_init 15 = .ok (.newarray .int, 2) := by decide +kernel
theorem dX4_init_17 : decode cX4_init 17 = .ok (.putfield 15, 3) := by decide +kernel
theorem dX4_init_20 : decode cX4_init 20 = .ok (.aload_n 0, 1) := by decide +kernel
theorem dX4_init_21 : decode cX4_init 21 = .ok (.sipush 256, 3) := by decide +kernel
theorem dX4_init_24 : decode cX4_init 24 = .ok (.newarray .boolean, 2) := by decide +kernel
theorem dX4_init_26 : decode cX4_init 26 = .ok (.putfield 18, 3) := by decide +kernel
theorem dX4_init_29 : decode cX4_init 29 = .ok (.aload_n 0, 1) := by decide +kernel
theorem dX4_init_30 : decode cX4_init 30 = .ok (.new 22, 3) := by decide +kernel
theorem dX4_init_33 : decode cX4_init 33 = .ok (.dup, 1) := by decide +kernel
theorem dX4_init_34 : decode cX4_init 34 = .ok (.bipush 8, 2) := by decide +kernel
theorem dX4_init_36 : decode cX4_init 36 = .ok (.invokespecial 24, 3) := by decide +kernel
theorem dX4_init_39 : decode cX4_init 39 = .ok (.putfield 27, 3) := by decide +kernel
theorem dX4_init_42 : decode cX4_init 42 = .ok (.aload_n 0, 1) := by decide +kernel
theorem dX4_init_43 : decode cX4_init 43 = .ok (.aload_n 1, 1) := by decide +kernel
theorem dX4_init_44 : decode cX4_init 44 = .ok (.putfield 31, 3) := by decide +kernel
theorem dX4_init_47 : decode cX4_init 47 = .ok (.aload_n 0, 1) := by decide +kernel
theorem dX4_init_48 : decode cX4_init 48 = .ok (.aload_n 2, 1) := by decide +kernel
theorem dX4_init_49 : decode cX4_init 49 = .ok (.putfield 35, 3) := by decide +kernel
theorem dX4_init_52 : decode cX4_init 52 = .ok (.return_, 1) := by decide +kernel
theorem dX4_lookAround_0 : decode cX4_lookAround 0 = .ok (.iconst 0, 1) := by decide +kernel
theorem dX4_lookAround_1 : decode cX4_lookAround 1 = .ok (.istore_n 1, 1) := by decide +kernel
theorem dX4_lookAround_2 : decode cX4_lookAround 2 = .ok (.iload_n 1, 1) := by decide +kernel
theorem dX4_lookAround_3 : decode cX4_lookAround 3 = .ok (.aload_n 0, 1) := by decide +kernel
theorem dX4_lookAround_4 : decode cX4_lookAround 4 = .ok (.getfield 31, 3) := by decide +kernel
theorem dX4_lookAround_7 : decode cX4_lookAround 7 = .ok (.getfield 39, 3) := by decide +kernel
theorem dX4_lookAround_10 : decode cX4_lookAround 10 = .ok (.if_icmp .ge 14, 3) := by decide +kernel
theorem dX4_lookAround_13 : decode cX4_lookAround 13 = .ok (.aload_n 0, 1) := by decide +kernel
theorem dX4_lookAround_14 : decode cX4_lookAround 14 = .ok (.iload_n 1, 1) := by decide +kernel
theorem dX4_lookAround_15 : decode cX4_lookAround 15 = .ok (.invokevirtual 45, 3) := by decide +kernel
theorem dX4_lookAround_18 : decode cX4_lookAround 18 = .ok (.iinc 1 1, 3) := by decide +kernel
theorem dX4_lookAround_21 : decode cX4_lookAround 21 = .ok (.goto (-19), 3) := by decide +kernel
theorem dX4_lookAround_24 : decode cX4_lookAround 24 = .ok (.return_, 1) := by decide +kernel
theorem dX4_lookTowards_0 : decode cX4_lookTowards 0 = .ok (.iload_n 1, 1) := by decide +kernel
theorem dX4_lookTowards_1 : decode cX4_lookTowards 1 = .ok (.bipush 8, 2) := by decide +kernel
theorem dX4_lookTowards_3 : decode cX4_lookTowards 3 = .ok (.imul, 1) := by decide +kernel
theorem dX4_lookTowards_4 : decode cX4_lookTowards 4 = .ok (.istore_n 2, 1) := by decide +kernel
theorem dX4_lookTowards_5 : decode cX4_lookTowards 5 = .ok (.aload_n 0, 1) := by decide +kernel
theorem dX4_lookTowards_6 : decode cX4_lookTowards 6 = .ok (.getfield 35, 3) := by decide +kernel
theorem dX4_lookTowards_9 : decode cX4_lookTowards 9 = .ok (.iload_n 1, 1) := by decide +kernel
theorem dX4_lookTowards_10 : decode cX4_lookTowards 10 = .ok (.iconst 0, 1) := by decide +kernel
theorem dX4_lookTowards_11 : decode cX4_lookTowards 11 = .ok (.aload_n 0, 1) := by decide +kernel
theorem dX4_lookTowards_12 : decode cX4_lookTowards 12 = .ok (.getfield 31, 3) := by decide +kernel
theorem dX4_lookTowards_15 : decode cX4_lookTowards 15 = .ok (.getfield 48, 3) := by decide +kernel
theorem dX4_lookTowards_18 : decode cX4_lookTowards 18 = .ok (.invokevirtual 51, 3) := by decide +kernel
theorem dX4_lookTowards_21 : decode cX4_lookTowards 21 = .ok (.iconst 0, 1) := by decide +kernel
theorem dX4_lookTowards_22 : decode cX4_lookTowards 22 = .ok (.istore_n 3, 1) := by decide +kernel
theorem dX4_lookTowards_23 : decode cX4_lookTowards 23 = .ok (.iload_n 3, 1) := by decide +kernel
theorem dX4_lookTowards_24 : decode cX4_lookTowards 24 = .ok (.aload_n 0, 1) := by decide +kernel
theorem dX4_lookTowards_25 : decode cX4_lookTowards 25 = .ok (.getfield 31, 3) := by decide +kernel
theorem dX4_lookTowards_28 : decode cX4_lookTowards 28 = .ok (.getfield 39, 3) := by decide +kernel
theorem dX4_lookTowards_31 : decode cX4_lookTowards 31 = .ok (.if_icmp .ge 25, 3) := by decide +kernel
theorem dX4_lookTowards_34 : decode cX4_lookTowards 34 = .ok (.aload_n 0, 1) := by decide +kernel
theorem dX4_lookTowards_35 : decode cX4_lookTowards 35 = .ok (.getfield 15, 3) := by decide +kernel
theorem dX4_lookTowards_38 : decode cX4_lookTowards 38 = .ok (.iload_n 2, 1) := by decide +kernel
theorem dX4_lookTowards_39 : decode cX4_lookTowards 39 = .ok (.iload_n 3, 1) := by decide +kernel
theorem dX4_lookTowards_40 : decode cX4_lookTowards 40 = .ok (.iadd, 1) := by decide +kernel
theorem dX4_lookTowards_41 : decode cX4_lookTowards 41 = .ok (.aload_n 0, 1) := by decide +kernel
theorem dX4_lookTowards_42 : decode cX4_lookTowards 42 = .ok (.getfield 35, 3) := by decide +kernel
theorem dX4_lookTowards_45 : decode cX4_lookTowards 45 = .ok (.iload_n 3, 1) := by decide +kernel
theorem dX4_lookTowards_46 : decode cX4_lookTowards 46 = .ok (.invokevirtual 57, 3) := by decide +kernel
theorem dX4_lookTowards_49 : decode cX4_lookTowards 49 = .ok (.iastore, 1) := by decide +kernel
theorem dX4_lookTowards_50 : decode cX4_lookTowards 50 = .ok (.iinc 3 1, 3) := by decide +kernel
theorem dX4_lookTowards_53 : decode cX4_lookTowards 53 = .ok (.goto (-30), 3) := by decide +kernel
theorem dX4_lookTowards_56 : decode cX4_lookTowards 56 = .ok (.iconst 0, 1) := by decide +kernel
theorem dX4_lookTowards_57 : decode cX4_lookTowards 57 = .ok (.istore_n 3, 1) := by decide +kernel
theorem dX4_lookTowards_58 : decode cX4_lookTowards 58 = .ok (.iload_n 3, 1) := by decide +kernel
theorem dX4_lookTowards_59 : decode cX4_lookTowards 59 = .ok (.aload_n 0, 1) := by decide +kernel
theorem dX4_lookTowards_60 : decode cX4_lookTowards 60 = .ok (.getfield 31, 3) := by decide +kernel
theorem dX4_lookTowards_63 : decode cX4_lookTowards 63 = .ok (.getfield 39, 3) := by decide +kernel
theorem dX4_lookTowards_66 : decode cX4_lookTowards 66 = .ok (.if_icmp .ge 78, 3) := by decide +kernel
theorem dX4_lookTowards_69 : decode cX4_lookTowards 69 = .ok (.aload_n 0, 1) := by decide +kernel
theorem dX4_lookTowards_70 : decode cX4_lookTowards 70 = .ok (.getfield 9, 3) := by decide +kernel
theorem dX4_lookTowards_73 : decode cX4_lookTowards 73 = .ok (.iload_n 2, 1) := by decide +kernel
theorem dX4_lookTowards_74 : decode cX4_lookTowards 74 = .ok (.iload_n 3, 1) := by decide +kernel
theorem dX4_lookTowards_75 : decode cX4_lookTowards 75 = .ok (.iadd, 1) := by decide +kernel
theorem dX4_lookTowards_76 : decode cX4_lookTowards 76 = .ok (.aload_n 0, 1) := by decide +kernel
theorem dX4_lookTowards_77 : decode cX4_lookTowards 77 = .ok (.getfield 15, 3) := by decide +kernel
theorem dX4_lookTowards_80 : decode cX4_lookTowards 80 = .ok (.iload_n 2, 1) := by decide +kernel
theorem dX4_lookTowards_81 : decode cX4_lookTowards 81 = .ok (.iload_n 3, 1) := by decide +kernel
theorem dX4_lookTowards_82 : decode cX4_lookTowards 82 = .ok (.iadd, 1) := by decide +kernel
theorem dX4_lookTowards_83 : decode cX4_lookTowards 83 = .ok (.iaload, 1) := by decide +kernel
theorem dX4_lookTowards_84 : decode cX4_lookTowards 84 = .ok (.iastore, 1) := by decide +kernel
theorem dX4_lookTowards_85 : decode cX4_lookTowards 85 = .ok (.aload_n 0, 1) := by decide +kernel
theorem dX4_lookTowards_86 : decode cX4_lookTowards 86 = .ok (.getfield 31, 3) := by decide +kernel
theorem dX4_lookTowards_89 : decode cX4_lookTowards 89 = .ok (.getfield 61, 3) := by decide +kernel
theorem dX4_lookTowards_92 : decode cX4_lookTowards 92 = .ok (.iload_n 3, 1) := by decide +kernel
theorem dX4_lookTowards_93 : decode cX4_lookTowards 93 = .ok (.iaload, 1) := by decide +kernel
theorem dX4_lookTowards_94 : decode cX4_lookTowards 94 = .ok (.aload_n 0, 1) := by decide +kernel
theorem dX4_lookTowards_95 : decode cX4_lookTowards 95 = .ok (.getfield 31, 3) := by decide +kernel
theorem dX4_lookTowards_98 : decode cX4_lookTowards 98 = .ok (.getfield 48, 3) := by decide +kernel
theorem dX4_lookTowards_101 : decode cX4_lookTowards 101 = .ok (.if_icmp .eq 37, 3) := by decide +kernel
theorem dX4_lookTowards_104 : decode cX4_lookTowards 104 = .ok (.aload_n 0, 1) := by decide +kernel
theorem dX4_lookTowards_105 : decode cX4_lookTowards 105 = .ok (.getfield 35, 3) := by decide +kernel
theorem dX4_lookTowards_108 : decode cX4_lookTowards 108 = .ok (.iload_n 1, 1) := by decide +kernel
theorem dX4_lookTowards_109 : decode cX4_lookTowards 109 = .ok (.iconst 0, 1) := by decide +kernel
theorem dX4_lookTowards_110 : decode cX4_lookTowards 110 = .ok (.aload_n 0, 1) := by decide +kernel
theorem dX4_lookTowards_111 : decode cX4_lookTowards 111 = .ok (.getfield 31, 3) := by decide +kernel
theorem dX4_lookTowards_114 : decode cX4_lookTowards 114 = .ok (.getfield 61, 3) := by decide +kernel
theorem dX4_lookTowards_117 : decode cX4_lookTowards 117 = .ok (.iload_n 3, 1) := by decide +kernel
theorem dX4_lookTowards_118 : decode cX4_lookTowards 118 = .ok (.iaload, 1) := by decide +kernel
theorem dX4_lookTowards_119 : decode cX4_lookTowards 119 = .ok (.invokevirtual 51, 3) := by decide +kernel
theorem dX4_lookTowards_122 : decode cX4_lookTowards 122 = .ok (.aload_n 0, 1) := by decide +kernel
theorem dX4_lookTowards_123 : decode cX4_lookTowards 123 = .ok (.getfield 9, 3) := by decide +kernel
theorem dX4_lookTowards_126 : decode cX4_lookTowards 126 = .ok (.iload_n 2, 1) := by decide +kernel
theorem dX4_lookTowards_127 : decode cX4_lookTowards 127 = .ok (.iload_n 3, 1) := by decide +kernel
theorem dX4_lookTowards_128 : decode cX4_lookTowards 128 = .ok (.iadd, 1) := by decide +kernel
theorem dX4_lookTowards_129 : decode cX4_lookTowards 129 = .ok (.aload_n 0, 1) := by decide +kernel
theorem dX4_lookTowards_130 : decode cX4_lookTowards 130 = .ok (.getfield 35, 3) := by decide +kernel
theorem dX4_lookTowards_133 : decode cX4_lookTowards 133 = .ok (.iload_n 3, 1) := by decide +kernel
theorem dX4_lookTowards_134 : decode cX4_lookTowards 134 = .ok (.invokevirtual 57, 3) := by decide +kernel
theorem dX4_lookTowards_137 : decode cX4_lookTowards 137 = .ok (.iastore, 1) := by decide +kernel
theorem dX4_lookTowards_138 : decode cX4_lookTowards 138 = .ok (.iinc 3 1, 3) := by decide +kernel
theorem dX4_lookTowards_141 : decode cX4_lookTowards 141 = .ok (.goto (-83), 3) := by decide +kernel
theorem dX4_lookTowards_144 : decode cX4_lookTowards 144 = .ok (.return_, 1) := by decide +kernel
theorem dX4_hasRings_0 : decode cX4_hasRings 0 = .ok (.iconst 0, 1) := by decide +kernel
theorem dX4_hasRings_1 : decode cX4_hasRings 1 = .ok (.istore_n 2, 1) := by decide +kernel
theorem dX4_hasRings_2 : decode cX4_hasRings 2 = .ok (.iload_n 2, 1) := by decide +kernel
theorem dX4_hasRings_3 : decode cX4_hasRings 3 = .ok (.aload_n 0, 1) := by decide +kernel
theorem dX4_hasRings_4 : decode cX4_hasRings 4 = .ok (.getfield 31, 3) := by decide +kernel
theorem dX4_hasRings_7 : decode cX4_hasRings 7 = .ok (.getfield 39, 3) := by decide +kernel
theorem dX4_hasRings_10 : decode cX4_hasRings 10 = .ok (.if_icmp .ge 20, 3) := by decide +kernel
theorem dX4_hasRings_13 : decode cX4_hasRings 13 = .ok (.aload_n 0, 1) := by decide +kernel
theorem dX4_hasRings_14 : decode cX4_hasRings 14 = .ok (.iload_n 2, 1) := by decide +kernel
theorem dX4_hasRings_15 : decode cX4_hasRings 15 = .ok (.iload_n 1, 1) := by decide +kernel
theorem dX4_hasRings_16 : decode cX4_hasRings 16 = .ok (.invokevirtual 64, 3) := by decide +kernel
theorem dX4_hasRings_19 : decode cX4_hasRings 19 = .ok (.ifCond .eq 5, 3) := by decide +kernel
theorem dX4_hasRings_22 : decode cX4_hasRings 22 = .ok (.iconst 1, 1) := by decide +kernel
theorem dX4_hasRings_23 : decode cX4_hasRings 23 = .ok (.ireturn, 1) := by decide +kernel
theorem dX4_hasRings_24 : decode cX4_hasRings 24 = .ok (.iinc 2 1, 3) := by decide +kernel
theorem dX4_hasRings_27 : decode cX4_hasRings 27 = .ok (.goto (-25), 3) := by decide +kernel
theorem dX4_hasRings_30 : decode cX4_hasRings 30 = .ok (.iconst 0, 1) := by decide +kernel
theorem dX4_hasRings_31 : decode cX4_hasRings 31 = .ok (.ireturn, 1) := by decide +kernel
theorem dX4_ringsOf_0 : decode cX4_ringsOf 0 = .ok (.iconst 0, 1) := by decide +kernel
theorem dX4_ringsOf_1 : decode cX4_ringsOf 1 = .ok (.istore_n 3, 1) := by decide +kernel
theorem dX4_ringsOf_2 : decode cX4_ringsOf 2 = .ok (.iconst 0, 1) := by decide +kernel
theorem dX4_ringsOf_3 : decode cX4_ringsOf 3 = .ok (.istore 4, 2) := by decide +kernel
theorem dX4_ringsOf_5 : decode cX4_ringsOf 5 = .ok (.iload 4, 2) := by decide +kernel
theorem dX4_ringsOf_7 : decode cX4_ringsOf 7 = .ok (.aload_n 0, 1) := by decide +kernel
theorem dX4_ringsOf_8 : decode cX4_ringsOf 8 = .ok (.getfield 31, 3) := by decide +kernel
theorem dX4_ringsOf_11 : decode cX4_ringsOf 11 = .ok (.getfield 39, 3) := by decide +kernel
theorem dX4_ringsOf_14 : decode cX4_ringsOf 14 = .ok (.if_icmp .ge 27, 3) := by decide +kernel
theorem dX4_ringsOf_17 : decode cX4_ringsOf 17 = .ok (.aload_n 0, 1) := by decide +kernel
theorem dX4_ringsOf_18 : decode cX4_ringsOf 18 = .ok (.iload 4, 2) := by decide +kernel
theorem dX4_ringsOf_20 : decode cX4_ringsOf 20 = .ok (.iload_n 1, 1) := by decide +kernel
theorem dX4_ringsOf_21 : decode cX4_ringsOf 21 = .ok (.iload_n 2, 1) := by decide +kernel
theorem dX4_ringsOf_22 : decode cX4_ringsOf 22 = .ok (.invokevirtual 68, 3) := by decide +kernel
theorem dX4_ringsOf_25 : decode cX4_ringsOf 25 = .ok (.ifCond .eq 10, 3) := by decide +kernel
theorem dX4_ringsOf_28 : decode cX4_ringsOf 28 = .ok (.iload_n 3, 1) := by decide +kernel
theorem dX4_ringsOf_29 : decode cX4_ringsOf 29 = .ok (.iconst 1, 1) := by decide +kernel
theorem dX4_ringsOf_30 : decode cX4_ringsOf 30 = .ok (.iload 4, 2) := by decide +kernel
theorem dX4_ringsOf_32 : decode cX4_ringsOf 32 = .ok (.ishl, 1) := by decide +kernel
theorem dX4_ringsOf_33 : decode cX4_ringsOf 33 = .ok (.ior, 1) := by decide +kernel
theorem dX4_ringsOf_34 : decode cX4_ringsOf 34 = .ok (.istore_n 3, 1) := by decide +kernel
theorem dX4_ringsOf_35 : decode cX4_ringsOf 35 = .ok (.iinc 4 1, 3) := by decide +kernel
theorem dX4_ringsOf_38 : decode cX4_ringsOf 38 = .ok (.goto (-33), 3) := by decide +kernel
theorem dX4_ringsOf_41 : decode cX4_ringsOf 41 = .ok (.iload_n 3, 1) := by decide +kernel
theorem dX4_ringsOf_42 : decode cX4_ringsOf 42 = .ok (.ireturn, 1) := by decide +kernel
theorem dX4_goesRound_0 : decode cX4_goesRound 0 = .ok (.iload_n 1, 1) := by decide +kernel
theorem dX4_goesRound_1 : decode cX4_goesRound 1 = .ok (.istore 4, 2) := by decide +kernel
theorem dX4_goesRound_3 : decode cX4_goesRound 3 = .ok (.iconst 0, 1) := by decide +kernel
theorem dX4_goesRound_4 : decode cX4_goesRound 4 = .ok (.istore 5, 2) := by decide +kernel
theorem dX4_goesRound_6 : decode cX4_goesRound 6 = .ok (.iload 5, 2) := by decide +kernel
theorem dX4_goesRound_8 : decode cX4_goesRound 8 = .ok (.aload_n 0, 1) := by decide +kernel
theorem dX4_goesRound_9 : decode cX4_goesRound 9 = .ok (.getfield 31, 3) := by decide +kernel
theorem dX4_goesRound_12 : decode cX4_goesRound 12 = .ok (.getfield 39, 3) := by decide +kernel
theorem dX4_goesRound_15 : decode cX4_goesRound 15 = .ok (.if_icmp .ge 59, 3) := by decide +kernel
theorem dX4_goesRound_18 : decode cX4_goesRound 18 = .ok (.iload 4, 2) := by decide +kernel
theorem dX4_goesRound_20 : decode cX4_goesRound 20 = .ok (.iload_n 2, 1) := by decide +kernel
theorem dX4_goesRound_21 : decode cX4_goesRound 21 = .ok (.if_icmp .eq 53, 3) := by decide +kernel
theorem dX4_goesRound_24 : decode cX4_goesRound 24 = .ok (.iload 4, 2) := by decide +kernel
theorem dX4_goesRound_26 : decode cX4_goesRound 26 = .ok (.iconst (-1), 1) := by decide +kernel
theorem dX4_goesRound_27 : decode cX4_goesRound 27 = .ok (.if_icmp .eq 47, 3) := by decide +kernel
theorem dX4_goesRound_30 : decode cX4_goesRound 30 = .ok (.iload_n 2, 1) := by decide +kernel
theorem dX4_goesRound_31 : decode cX4_goesRound 31 = .ok (.bipush 8, 2) := by decide +kernel
theorem dX4_goesRound_33 : decode cX4_goesRound 33 = .ok (.imul, 1) := by decide +kernel
theorem dX4_goesRound_34 : decode cX4_goesRound 34 = .ok (.iload 4, 2) := by decide +kernel
theorem dX4_goesRound_36 : decode cX4_goesRound 36 = .ok (.iadd, 1) := by decide +kernel
theorem dX4_goesRound_37 : decode cX4_goesRound 37 = .ok (.istore 6, 2) := by decide +kernel
theorem dX4_goesRound_39 : decode cX4_goesRound 39 = .ok (.iload_n 3, 1) := by decide +kernel
theorem dX4_goesRound_40 : decode cX4_goesRound 40 = .ok (.iload 4, 2) := by decide +kernel
theorem dX4_goesRound_42 : decode cX4_goesRound 42 = .ok (.ishr, 1) := by decide +kernel
theorem dX4_goesRound_43 : decode cX4_goesRound 43 = .ok (.iconst 1, 1) := by decide +kernel
theorem dX4_goesRound_44 : decode cX4_goesRound 44 = .ok (.iand, 1) := by decide +kernel
theorem dX4_goesRound_45 : decode cX4_goesRound 45 = .ok (.iconst 1, 1) := by decide +kernel
theorem dX4_goesRound_46 : decode cX4_goesRound 46 = .ok (.if_icmp .ne 13, 3) := by decide +kernel
theorem dX4_goesRound_49 : decode cX4_goesRound 49 = .ok (.aload_n 0, 1) := by decide +kernel
theorem dX4_goesRound_50 : decode cX4_goesRound 50 = .ok (.getfield 15, 3) := by decide +kernel
theorem dX4_goesRound_53 : decode cX4_goesRound 53 = .ok (.iload 6, 2) := by decide +kernel
theorem dX4_goesRound_55 : decode cX4_goesRound 55 = .ok (.iaload, 1) := by decide +kernel
theorem dX4_goesRound_56 : decode cX4_goesRound 56 = .ok (.goto 10, 3) := by decide +kernel
theorem dX4_goesRound_59 : decode cX4_goesRound 59 = .ok (.aload_n 0, 1) := by decide +kernel
theorem dX4_goesRound_60 : decode cX4_goesRound 60 = .ok (.getfield 9, 3) := by decide +kernel
theorem dX4_goesRound_63 : decode cX4_goesRound 63 = .ok (.iload 6, 2) := by decide +kernel
theorem dX4_goesRound_65 : decode cX4_goesRound 65 = .ok (.iaload, 1) := by decide +kernel
theorem dX4_goesRound_66 : decode cX4_goesRound 66 = .ok (.istore 4, 2) := by decide +kernel
theorem dX4_goesRound_68 : decode cX4_goesRound 68 = .ok (.iinc 5 1, 3) := by decide +kernel
theorem dX4_goesRound_71 : decode cX4_goesRound 71 = .ok (.goto (-65), 3) := by decide +kernel
theorem dX4_goesRound_74 : decode cX4_goesRound 74 = .ok (.iload 4, 2) := by decide +kernel
theorem dX4_goesRound_76 : decode cX4_goesRound 76 = .ok (.iload_n 2, 1) := by decide +kernel
theorem dX4_goesRound_77 : decode cX4_goesRound 77 = .ok (.if_icmp .eq 13, 3) := by decide +kernel
theorem dX4_goesRound_80 : decode cX4_goesRound 80 = .ok (.iload 4, 2) := by decide +kernel
theorem dX4_goesRound_82 : decode cX4_goesRound 82 = .ok (.iconst (-1), 1) := by decide +kernel
theorem dX4_goesRound_83 : decode cX4_goesRound 83 = .ok (.if_icmp .eq 7, 3) := by decide +kernel
theorem dX4_goesRound_86 : decode cX4_goesRound 86 = .ok (.iconst 1, 1) := by decide +kernel
theorem dX4_goesRound_87 : decode cX4_goesRound 87 = .ok (.goto 4, 3) := by decide +kernel
theorem dX4_goesRound_90 : decode cX4_goesRound 90 = .ok (.iconst 0, 1) := by decide +kernel
theorem dX4_goesRound_91 : decode cX4_goesRound 91 = .ok (.ireturn, 1) := by decide +kernel
theorem dX4_findOrder_0 : decode cX4_findOrder 0 = .ok (.aload_n 0, 1) := by decide +kernel
theorem dX4_findOrder_1 : decode cX4_findOrder 1 = .ok (.getfield 31, 3) := by decide +kernel
theorem dX4_findOrder_4 : decode cX4_findOrder 4 = .ok (.invokevirtual 72, 3) := by decide +kernel
theorem dX4_findOrder_7 : decode cX4_findOrder 7 = .ok (.istore_n 1, 1) := by decide +kernel
theorem dX4_findOrder_8 : decode cX4_findOrder 8 = .ok (.iconst 0, 1) := by decide +kernel
theorem dX4_findOrder_9 : decode cX4_findOrder 9 = .ok (.istore_n 2, 1) := by decide +kernel
theorem dX4_findOrder_10 : decode cX4_findOrder 10 = .ok (.aload_n 0, 1) := by decide +kernel
theorem dX4_findOrder_11 : decode cX4_findOrder 11 = .ok (.invokevirtual 76, 3) := by decide +kernel
theorem dX4_findOrder_14 : decode cX4_findOrder 14 = .ok (.aload_n 0, 1) := by decide +kernel
theorem dX4_findOrder_15 : decode cX4_findOrder 15 = .ok (.getfield 27, 3) := by decide +kernel
theorem dX4_findOrder_18 : decode cX4_findOrder 18 = .ok (.iconst 0, 1) := by decide +kernel
theorem dX4_findOrder_19 : decode cX4_findOrder 19 = .ok (.putfield 79, 3) := by decide +kernel
theorem dX4_findOrder_22 : decode cX4_findOrder 22 = .ok (.iconst 0, 1) := by decide +kernel
theorem dX4_findOrder_23 : decode cX4_findOrder 23 = .ok (.istore_n 3, 1) := by decide +kernel
theorem dX4_findOrder_24 : decode cX4_findOrder 24 = .ok (.iload_n 3, 1) := by decide +kernel
theorem dX4_findOrder_25 : decode cX4_findOrder 25 = .ok (.aload_n 0, 1) := by decide +kernel
theorem dX4_findOrder_26 : decode cX4_findOrder 26 = .ok (.getfield 18, 3) := by decide +kernel
theorem dX4_findOrder_29 : decode cX4_findOrder 29 = .ok (.arraylength, 1) := by decide +kernel
theorem dX4_findOrder_30 : decode cX4_findOrder 30 = .ok (.if_icmp .ge 16, 3) := by decide +kernel
theorem dX4_findOrder_33 : decode cX4_findOrder 33 = .ok (.aload_n 0, 1) := by decide +kernel
theorem dX4_findOrder_34 : decode cX4_findOrder 34 = .ok (.getfield 18, 3) := by decide +kernel
theorem dX4_findOrder_37 : decode cX4_findOrder 37 = .ok (.iload_n 3, 1) := by decide +kernel
theorem dX4_findOrder_38 : decode cX4_findOrder 38 = .ok (.iconst 0, 1) := by decide +kernel
theorem dX4_findOrder_39 : decode cX4_findOrder 39 = .ok (.bastore, 1) := by decide +kernel
theorem dX4_findOrder_40 : decode cX4_findOrder 40 = .ok (.iinc 3 1, 3) := by decide +kernel
theorem dX4_findOrder_43 : decode cX4_findOrder 43 = .ok (.goto (-19), 3) := by decide +kernel
theorem dX4_findOrder_46 : decode cX4_findOrder 46 = .ok (.iconst 0, 1) := by decide +kernel
theorem dX4_findOrder_47 : decode cX4_findOrder 47 = .ok (.istore_n 3, 1) := by decide +kernel
theorem dX4_findOrder_48 : decode cX4_findOrder 48 = .ok (.iload_n 3, 1) := by decide +kernel
theorem dX4_findOrder_49 : decode cX4_findOrder 49 = .ok (.sipush 512, 3) := by decide +kernel
theorem dX4_findOrder_52 : decode cX4_findOrder 52 = .ok (.if_icmp .ge 96, 3) := by decide +kernel
theorem dX4_findOrder_55 : decode cX4_findOrder 55 = .ok (.iload_n 2, 1) := by decide +kernel
theorem dX4_findOrder_56 : decode cX4_findOrder 56 = .ok (.iload_n 1, 1) := by decide +kernel
theorem dX4_findOrder_57 : decode cX4_findOrder 57 = .ok (.if_icmp .eq 91, 3) := by decide +kernel
theorem dX4_findOrder_60 : decode cX4_findOrder 60 = .ok (.aload_n 0, 1) := by decide +kernel
theorem dX4_findOrder_61 : decode cX4_findOrder 61 = .ok (.iload_n 1, 1) := by decide +kernel
theorem dX4_findOrder_62 : decode cX4_findOrder 62 = .ok (.iload_n 2, 1) := by decide +kernel
theorem dX4_findOrder_63 : decode cX4_findOrder 63 = .ok (.invokevirtual 82, 3) := by decide +kernel
theorem dX4_findOrder_66 : decode cX4_findOrder 66 = .ok (.istore 4, 2) := by decide +kernel
theorem dX4_findOrder_68 : decode cX4_findOrder 68 = .ok (.iload 4, 2) := by decide +kernel
theorem dX4_findOrder_70 : decode cX4_findOrder 70 = .ok (.iconst (-1), 1) := by decide +kernel
theorem dX4_findOrder_71 : decode cX4_findOrder 71 = .ok (.if_icmp .eq 22, 3) := by decide +kernel
theorem dX4_findOrder_74 : decode cX4_findOrder 74 = .ok (.aload_n 0, 1) := by decide +kernel
theorem dX4_findOrder_75 : decode cX4_findOrder 75 = .ok (.getfield 27, 3) := by decide +kernel
theorem dX4_findOrder_78 : decode cX4_findOrder 78 = .ok (.iload 4, 2) := by decide +kernel
theorem dX4_findOrder_80 : decode cX4_findOrder 80 = .ok (.invokevirtual 85, 3) := by decide +kernel
theorem dX4_findOrder_83 : decode cX4_findOrder 83 = .ok (.iload_n 2, 1) := by decide +kernel
theorem dX4_findOrder_84 : decode cX4_findOrder 84 = .ok (.iconst 1, 1) := by decide +kernel
theorem dX4_findOrder_85 : decode cX4_findOrder 85 = .ok (.iload 4, 2) := by decide +kernel
theorem dX4_findOrder_87 : decode cX4_findOrder 87 = .ok (.ishl, 1) := by decide +kernel
theorem dX4_findOrder_88 : decode cX4_findOrder 88 = .ok (.ior, 1) := by decide +kernel
theorem dX4_findOrder_89 : decode cX4_findOrder 89 = .ok (.istore_n 2, 1) := by decide +kernel
theorem dX4_findOrder_90 : decode cX4_findOrder 90 = .ok (.goto 52, 3) := by decide +kernel
theorem dX4_findOrder_93 : decode cX4_findOrder 93 = .ok (.aload_n 0, 1) := by decide +kernel
theorem dX4_findOrder_94 : decode cX4_findOrder 94 = .ok (.getfield 27, 3) := by decide +kernel
theorem dX4_findOrder_97 : decode cX4_findOrder 97 = .ok (.getfield 79, 3) := by decide +kernel
theorem dX4_findOrder_100 : decode cX4_findOrder 100 = .ok (.ifCond .le 40, 3) := by decide +kernel
theorem dX4_findOrder_103 : decode cX4_findOrder 103 = .ok (.aload_n 0, 1) := by decide +kernel
theorem dX4_findOrder_104 : decode cX4_findOrder 104 = .ok (.getfield 18, 3) := by decide +kernel
theorem dX4_findOrder_107 : decode cX4_findOrder 107 = .ok (.iload_n 2, 1) := by decide +kernel
theorem dX4_findOrder_108 : decode cX4_findOrder 108 = .ok (.iconst 1, 1) := by decide +kernel
theorem dX4_findOrder_109 : decode cX4_findOrder 109 = .ok (.bastore, 1) := by decide +kernel
theorem dX4_findOrder_110 : decode cX4_findOrder 110 = .ok (.iload_n 2, 1) := by decide +kernel
theorem dX4_findOrder_111 : decode cX4_findOrder 111 = .ok (.iconst 1, 1) := by decide +kernel
theorem dX4_findOrder_112 : decode cX4_findOrder 112 = .ok (.aload_n 0, 1) := by decide +kernel
theorem dX4_findOrder_113 : decode cX4_findOrder 113 = .ok (.getfield 27, 3) := by decide +kernel
theorem dX4_findOrder_116 : decode cX4_findOrder 116 = .ok (.invokevirtual 88, 3) := by decide +kernel
theorem dX4_findOrder_119 : decode cX4_findOrder 119 = .ok (.ishl, 1) := by decide +kernel
theorem dX4_findOrder_120 : decode cX4_findOrder 120 = .ok (.iconst (-1), 1) := by decide +kernel
theorem dX4_findOrder_121 : decode cX4_findOrder 121 = .ok (.ixor, 1) := by decide +kernel
theorem dX4_findOrder_122 : decode cX4_findOrder 122 = .ok (.iand, 1) := by decide +kernel
theorem dX4_findOrder_123 : decode cX4_findOrder 123 = .ok (.istore_n 2, 1) := by decide +kernel
theorem dX4_findOrder_124 : decode cX4_findOrder 124 = .ok (.aload_n 0, 1) := by decide +kernel
theorem dX4_findOrder_125 : decode cX4_findOrder 125 = .ok (.getfield 27, 3) := by decide +kernel
theorem dX4_findOrder_128 : decode cX4_findOrder 128 = .ok (.dup, 1) := by decide +kernel
theorem dX4_findOrder_129 : decode cX4_findOrder 129 = .ok (.getfield 79, 3) := by decide +kernel
theorem dX4_findOrder_132 : decode cX4_findOrder 132 = .ok (.iconst 1, 1) := by decide +kernel
theorem dX4_findOrder_133 : decode cX4_findOrder 133 = .ok (.isub, 1) := by decide +kernel
theorem dX4_findOrder_134 : decode cX4_findOrder 134 = .ok (.putfield 79, 3) := by decide +kernel
theorem dX4_findOrder_137 : decode cX4_findOrder 137 = .ok (.goto 5, 3) := by decide +kernel
theorem dX4_findOrder_140 : decode cX4_findOrder 140 = .ok (.iconst 0, 1) := by decide +kernel
theorem dX4_findOrder_141 : decode cX4_findOrder 141 = .ok (.ireturn, 1) := by decide +kernel
theorem dX4_findOrder_142 : decode cX4_findOrder 142 = .ok (.iinc 3 1, 3) := by decide +kernel
theorem dX4_findOrder_145 : decode cX4_findOrder 145 = .ok (.goto (-97), 3) := by decide +kernel
theorem dX4_findOrder_148 : decode cX4_findOrder 148 = .ok (.iload_n 2, 1) := by decide +kernel
theorem dX4_findOrder_149 : decode cX4_findOrder 149 = .ok (.iload_n 1, 1) := by decide +kernel
theorem dX4_findOrder_150 : decode cX4_findOrder 150 = .ok (.if_icmp .ne 7, 3) := by decide +kernel
theorem dX4_findOrder_153 : decode cX4_findOrder 153 = .ok (.iconst 1, 1) := by decide +kernel
theorem dX4_findOrder_154 : decode cX4_findOrder 154 = .ok (.goto 4, 3) := by decide +kernel
theorem dX4_findOrder_157 : decode cX4_findOrder 157 = .ok (.iconst 0, 1) := by decide +kernel
theorem dX4_findOrder_158 : decode cX4_findOrder 158 = .ok (.ireturn, 1) := by decide +kernel
theorem dX4_firstToLearn_0 : decode cX4_firstToLearn 0 = .ok (.iconst 0, 1) := by decide +kernel
theorem dX4_firstToLearn_1 : decode cX4_firstToLearn 1 = .ok (.istore_n 3, 1) := by decide +kernel
theorem dX4_firstToLearn_2 : decode cX4_firstToLearn 2 = .ok (.iload_n 3, 1) := by decide +kernel
theorem dX4_firstToLearn_3 : decode cX4_firstToLearn 3 = .ok (.aload_n 0, 1) := by decide +kernel
theorem dX4_firstToLearn_4 : decode cX4_firstToLearn 4 = .ok (.getfield 31, 3) := by decide +kernel
theorem dX4_firstToLearn_7 : decode cX4_firstToLearn 7 = .ok (.getfield 39, 3) := by decide +kernel
theorem dX4_firstToLearn_10 : decode cX4_firstToLearn 10 = .ok (.if_icmp .ge 60, 3) := by decide +kernel
theorem dX4_firstToLearn_13 : decode cX4_firstToLearn 13 = .ok (.iload_n 2, 1) := by decide +kernel
theorem dX4_firstToLearn_14 : decode cX4_firstToLearn 14 = .ok (.iconst 1, 1) := by decide +kernel
theorem dX4_firstToLearn_15 : decode cX4_firstToLearn 15 = .ok (.iload_n 3, 1) := by decide +kernel
theorem dX4_firstToLearn_16 : decode cX4_firstToLearn 16 = .ok (.ishl, 1) := by decide +kernel
theorem dX4_firstToLearn_17 : decode cX4_firstToLearn 17 = .ok (.ior, 1) := by decide +kernel
theorem dX4_firstToLearn_18 : decode cX4_firstToLearn 18 = .ok (.istore 4, 2) := by decide +kernel
theorem dX4_firstToLearn_20 : decode cX4_firstToLearn 20 = .ok (.iload_n 1, 1) := by decide +kernel
theorem dX4_firstToLearn_21 : decode cX4_firstToLearn 21 = .ok (.iload_n 3, 1) := by decide +kernel
theorem dX4_firstToLearn_22 : decode cX4_firstToLearn 22 = .ok (.ishr, 1) := by decide +kernel
theorem dX4_firstToLearn_23 : decode cX4_firstToLearn 23 = .ok (.iconst 1, 1) := by decide +kernel
theorem dX4_firstToLearn_24 : decode cX4_firstToLearn 24 = .ok (.iand, 1) := by decide +kernel
theorem dX4_firstToLearn_25 : decode cX4_firstToLearn 25 = .ok (.iconst 1, 1) := by decide +kernel
theorem dX4_firstToLearn_26 : decode cX4_firstToLearn 26 = .ok (.if_icmp .ne 38, 3) := by decide +kernel
theorem dX4_firstToLearn_29 : decode cX4_firstToLearn 29 = .ok (.iload 4, 2) := by decide +kernel
theorem dX4_firstToLearn_31 : decode cX4_firstToLearn 31 = .ok (.iload_n 2, 1) := by decide +kernel
theorem dX4_firstToLearn_32 : decode cX4_firstToLearn 32 = .ok (.if_icmp .eq 32, 3) := by decide +kernel
theorem dX4_firstToLearn_35 : decode cX4_firstToLearn 35 = .ok (.aload_n 0, 1) := by decide +kernel
theorem dX4_firstToLearn_36 : decode cX4_firstToLearn 36 = .ok (.getfield 18, 3) := by decide +kernel
theorem dX4_firstToLearn_39 : decode cX4_firstToLearn 39 = .ok (.iload 4, 2) := by decide +kernel
theorem dX4_firstToLearn_41 : decode cX4_firstToLearn 41 = .ok (.baload, 1) := by decide +kernel
theorem dX4_firstToLearn_42 : decode cX4_firstToLearn 42 = .ok (.ifCond .ne 22, 3) := by decide +kernel
theorem dX4_firstToLearn_45 : decode cX4_firstToLearn 45 = .ok (.aload_n 0, 1) := by decide +kernel
theorem dX4_firstToLearn_46 : decode cX4_firstToLearn 46 = .ok (.iload 4, 2) := by decide +kernel
theorem dX4_firstToLearn_48 : decode cX4_firstToLearn 48 = .ok (.invokevirtual 91, 3) := by decide +kernel
theorem dX4_firstToLearn_51 : decode cX4_firstToLearn 51 = .ok (.ifCond .ne 5, 3) := by decide +kernel
theorem dX4_firstToLearn_54 : decode cX4_firstToLearn 54 = .ok (.iload_n 3, 1) := by decide +kernel
theorem dX4_firstToLearn_55 : decode cX4_firstToLearn 55 = .ok (.ireturn, 1) := by decide +kernel
theorem dX4_firstToLearn_56 : decode cX4_firstToLearn 56 = .ok (.aload_n 0, 1) := by decide +kernel
theorem dX4_firstToLearn_57 : decode cX4_firstToLearn 57 = .ok (.getfield 18, 3) := by decide +kernel
theorem dX4_firstToLearn_60 : decode cX4_firstToLearn 60 = .ok (.iload 4, 2) := by decide +kernel
theorem dX4_firstToLearn_62 : decode cX4_firstToLearn 62 = .ok (.iconst 1, 1) := by decide +kernel
theorem dX4_firstToLearn_63 : decode cX4_firstToLearn 63 = .ok (.bastore, 1) := by decide +kernel
theorem dX4_firstToLearn_64 : decode cX4_firstToLearn 64 = .ok (.iinc 3 1, 3) := by decide +kernel
theorem dX4_firstToLearn_67 : decode cX4_firstToLearn 67 = .ok (.goto (-65), 3) := by decide +kernel
theorem dX4_firstToLearn_70 : decode cX4_firstToLearn 70 = .ok (.iconst (-1), 1) := by decide +kernel
theorem dX4_firstToLearn_71 : decode cX4_firstToLearn 71 = .ok (.ireturn, 1) := by decide +kernel
theorem dX5_init_0 : decode cX5_init 0 = .ok (.aload_n 0, 1) := by decide +kernel
theorem dX5_init_1 : decode cX5_init 1 = .ok (.invokespecial 3, 3) := by decide +kernel
theorem dX5_init_4 : decode cX5_init 4 = .ok (.aload_n 0, 1) := by decide +kernel
theorem dX5_init_5 : decode cX5_init 5 = .ok (.bipush 8, 2) := by decide +kernel
theorem dX5_init_7 : decode cX5_init 7 = .ok (.newarray .int, 2) := by decide +kernel
theorem dX5_init_9 : decode cX5_init 9 = .ok (.putfield 9, 3) := by decide +kernel
theorem dX5_init_12 : decode cX5_init 12 = .ok (.aload_n 0, 1) := by decide +kernel
theorem dX5_init_13 : decode cX5_init 13 = .ok (.bipush 8, 2) := by decide +kernel
theorem dX5_init_15 : decode cX5_init 15 = .ok (.newarray .int, 2) := by decide +kernel
theorem dX5_init_17 : decode cX5_init 17 = .ok (.putfield 15, 3) := by decide +kernel
theorem dX5_init_20 : decode cX5_init 20 = .ok (.aload_n 0, 1) := by decide +kernel
theorem dX5_init_21 : decode cX5_init 21 = .ok (.bipush 8, 2) := by decide +kernel
theorem dX5_init_23 : decode cX5_init 23 = .ok (.newarray .int, 2) := by decide +kernel
theorem dX5_init_25 : decode cX5_init 25 = .ok (.putfield 18, 3) := by decide +kernel
theorem dX5_init_28 : decode cX5_init 28 = .ok (.aload_n 0, 1) := by decide +kernel
theorem dX5_init_29 : decode cX5_init 29 = .ok (.aload_n 1, 1) := by decide +kernel
theorem dX5_init_30 : decode cX5_init 30 = .ok (.putfield 21, 3) := by decide +kernel
theorem dX5_init_33 : decode cX5_init 33 = .ok (.return_, 1) := by decide +kernel
theorem dX5_measure_0 : decode cX5_measure 0 = .ok (.iload_n 2, 1) := by decide +kernel
theorem dX5_measure_1 : decode cX5_measure 1 = .ok (.ifCond .ne 13, 3) := by decide +kernel
theorem dX5_measure_4 : decode cX5_measure 4 = .ok (.aload_n 0, 1) := by decide +kernel
theorem dX5_measure_5 : decode cX5_measure 5 = .ok (.getfield 21, 3) := by decide +kernel
theorem dX5_measure_8 : decode cX5_measure 8 = .ok (.getfield 25, 3) := by decide +kernel
theorem dX5_measure_11 : decode cX5_measure 11 = .ok (.goto 10, 3) := by decide +kernel
theorem dX5_measure_14 : decode cX5_measure 14 = .ok (.aload_n 0, 1) := by decide +kernel
theorem dX5_measure_15 : decode cX5_measure 15 = .ok (.getfield 21, 3) := by decide +kernel
theorem dX5_measure_18 : decode cX5_measure 18 = .ok (.getfield 30, 3) := by decide +kernel
theorem dX5_measure_21 : decode cX5_measure 21 = .ok (.astore 4, 2) := by decide +kernel
theorem dX5_measure_23 : decode cX5_measure 23 = .ok (.aload_n 0, 1) := by decide +kernel
theorem dX5_measure_24 : decode cX5_measure 24 = .ok (.iload_n 1, 1) := by decide +kernel
theorem dX5_measure_25 : decode cX5_measure 25 = .ok (.invokevirtual 33, 3) := by decide +kernel
theorem dX5_measure_28 : decode cX5_measure 28 = .ok (.iconst 1, 1) := by decide +kernel
theorem dX5_measure_29 : decode cX5_measure 29 = .ok (.istore 5, 2) := by decide +kernel
theorem dX5_measure_31 : decode cX5_measure 31 = .ok (.iload 5, 2) := by decide +kernel
theorem dX5_measure_33 : decode cX5_measure 33 = .ok (.aload_n 0, 1) := by decide +kernel
theorem dX5_measure_34 : decode cX5_measure 34 = .ok (.getfield 21, 3) := by decide +kernel
theorem dX5_measure_37 : decode cX5_measure 37 = .ok (.getfield 37, 3) := by decide +kernel
theorem dX5_measure_40 : decode cX5_measure 40 = .ok (.if_icmp .ge 98, 3) := by decide +kernel
theorem dX5_measure_43 : decode cX5_measure 43 = .ok (.iconst 0, 1) := by decide +kernel
theorem dX5_measure_44 : decode cX5_measure 44 = .ok (.istore 6, 2) := by decide +kernel
theorem dX5_measure_46 : decode cX5_measure 46 = .ok (.iload 6, 2) := by decide +kernel
theorem dX5_measure_48 : decode cX5_measure 48 = .ok (.aload_n 0, 1) := by decide +kernel
theorem dX5_measure_49 : decode cX5_measure 49 = .ok (.getfield 21, 3) := by decide +kernel
theorem dX5_measure_52 : decode cX5_measure 52 = .ok (.getfield 41, 3) := by decide +kernel
theorem dX5_measure_55 : decode cX5_measure 55 = .ok (.if_icmp .ge 77, 3) := by decide +kernel
theorem dX5_measure_58 : decode cX5_measure 58 = .ok (.iload_n 3, 1) := by decide +kernel
theorem dX5_measure_59 : decode cX5_measure 59 = .ok (.iload 6, 2) := by decide +kernel
theorem dX5_measure_61 : decode cX5_measure 61 = .ok (.ishr, 1) := by decide +kernel
theorem dX5_measure_62 : decode cX5_measure 62 = .ok (.iconst 1, 1) := by decide +kernel
theorem dX5_measure_63 : decode cX5_measure 63 = .ok (.iand, 1) := by decide +kernel
theorem dX5_measure_64 : decode cX5_measure 64 = .ok (.iconst 1, 1) := by decide +kernel
theorem dX5_measure_65 : decode cX5_measure 65 = .ok (.if_icmp .ne 61, 3) := by decide +kernel
theorem dX5_measure_68 : decode cX5_measure 68 = .ok (.aload_n 0, 1) := by decide +kernel
theorem dX5_measure_69 : decode cX5_measure 69 = .ok (.aload_n 0, 1) := by decide +kernel
theorem dX5_measure_70 : decode cX5_measure 70 = .ok (.getfield 21, 3) := by decide +kernel
theorem dX5_measure_73 : decode cX5_measure 73 = .ok (.getfield 44, 3) := by decide +kernel
theorem dX5_measure_76 : decode cX5_measure 76 = .ok (.iload 6, 2) := by decide +kernel
theorem dX5_measure_78 : decode cX5_measure 78 = .ok (.iaload, 1) := by decide +kernel
theorem dX5_measure_79 : decode cX5_measure 79 = .ok (.aload_n 0, 1) := by decide +kernel
theorem dX5_measure_80 : decode cX5_measure 80 = .ok (.getfield 21, 3) := by decide +kernel
theorem dX5_measure_83 : decode cX5_measure 83 = .ok (.getfield 47, 3) := by decide +kernel
theorem dX5_measure_86 : decode cX5_measure 86 = .ok (.iload 6, 2) := by decide +kernel
theorem dX5_measure_88 : decode cX5_measure 88 = .ok (.iaload, 1) := by decide +kernel
theorem dX5_measure_89 : decode cX5_measure 89 = .ok (.aload 4, 2) := by decide +kernel
theorem dX5_measure_91 : decode cX5_measure 91 = .ok (.iload 6, 2) := by decide +kernel
theorem dX5_measure_93 : decode cX5_measure 93 = .ok (.iaload, 1) := by decide +kernel
theorem dX5_measure_94 : decode cX5_measure 94 = .ok (.invokevirtual 50, 3) := by decide +kernel
theorem dX5_measure_97 : decode cX5_measure 97 = .ok (.aload_n 0, 1) := by decide +kernel
theorem dX5_measure_98 : decode cX5_measure 98 = .ok (.aload_n 0, 1) := by decide +kernel
theorem dX5_measure_99 : decode cX5_measure 99 = .ok (.getfield 21, 3) := by decide +kernel
theorem dX5_measure_102 : decode cX5_measure 102 = .ok (.getfield 47, 3) := by decide +kernel
theorem dX5_measure_105 : decode cX5_measure 105 = .ok (.iload 6, 2) := by decide +kernel
theorem dX5_measure_107 : decode cX5_measure 107 = .ok (.iaload, 1) := by decide +kernel
theorem dX5_measure_108 : decode cX5_measure 108 = .ok (.aload_n 0, 1) := by decide +kernel
theorem dX5_measure_109 : decode cX5_measure 109 = .ok (.getfield 21, 3) := by decide +kernel
theorem dX5_measure_112 : decode cX5_measure 112 = .ok (.getfield 44, 3) := by decide +kernel
theorem dX5_measure_115 : decode cX5_measure 115 = .ok (.iload 6, 2) := by decide +kernel
theorem dX5_measure_117 : decode cX5_measure 117 = .ok (.iaload, 1) := by decide +kernel
theorem dX5_measure_118 : decode cX5_measure 118 = .ok (.aload 4, 2) := by decide +kernel
theorem dX5_measure_120 : decode cX5_measure 120 = .ok (.iload 6, 2) := by decide +kernel
theorem dX5_measure_122 : decode cX5_measure 122 = .ok (.iaload, 1) := by decide +kernel
theorem dX5_measure_123 : decode cX5_measure 123 = .ok (.invokevirtual 50, 3) := by decide +kernel
theorem dX5_measure_126 : decode cX5_measure 126 = .ok (.iinc 6 1, 3) := by decide +kernel
theorem dX5_measure_129 : decode cX5_measure 129 = .ok (.goto (-83), 3) := by decide +kernel
theorem dX5_measure_132 : decode cX5_measure 132 = .ok (.iinc 5 1, 3) := by decide +kernel
theorem dX5_measure_135 : decode cX5_measure 135 = .ok (.goto (-104), 3) := by decide +kernel
theorem dX5_measure_138 : decode cX5_measure 138 = .ok (.iconst 0, 1) := by decide +kernel
theorem dX5_measure_139 : decode cX5_measure 139 = .ok (.istore 5, 2) := by decide +kernel
theorem dX5_measure_141 : decode cX5_measure 141 = .ok (.iload 5, 2) := by decide +kernel
theorem dX5_measure_143 : decode cX5_measure 143 = .ok (.aload_n 0, 1) := by decide +kernel
theorem dX5_measure_144 : decode cX5_measure 144 = .ok (.getfield 21, 3) := by decide +kernel
theorem dX5_measure_147 : decode cX5_measure 147 = .ok (.getfield 41, 3) := by decide +kernel
theorem dX5_measure_150 : decode cX5_measure 150 = .ok (.if_icmp .ge 81, 3) := by decide +kernel
theorem dX5_measure_153 : decode cX5_measure 153 = .ok (.iload_n 3, 1) := by decide +kernel
theorem dX5_measure_154 : decode cX5_measure 154 = .ok (.iload 5, 2) := by decide +kernel
theorem dX5_measure_156 : decode cX5_measure 156 = .ok (.ishr, 1) := by decide +kernel
theorem dX5_measure_157 : decode cX5_measure 157 = .ok (.iconst 1, 1) := by decide +kernel
theorem dX5_measure_158 : decode cX5_measure 158 = .ok (.iand, 1) := by decide +kernel
theorem dX5_measure_159 : decode cX5_measure 159 = .ok (.iconst 1, 1) := by decide +kernel
theorem dX5_measure_160 : decode cX5_measure 160 = .ok (.if_icmp .ne 65, 3) := by decide +kernel
theorem dX5_measure_163 : decode cX5_measure 163 = .ok (.aload_n 0, 1) := by decide +kernel
theorem dX5_measure_164 : decode cX5_measure 164 = .ok (.aload_n 0, 1) := by decide +kernel
theorem dX5_measure_165 : decode cX5_measure 165 = .ok (.getfield 21, 3) := by decide +kernel
theorem dX5_measure_168 : decode cX5_measure 168 = .ok (.getfield 44, 3) := by decide +kernel
theorem dX5_measure_171 : decode cX5_measure 171 = .ok (.iload 5, 2) := by decide +kernel
theorem dX5_measure_173 : decode cX5_measure 173 = .ok (.iaload, 1) := by decide +kernel
theorem dX5_measure_174 : decode cX5_measure 174 = .ok (.aload_n 0, 1) := by decide +kernel
theorem dX5_measure_175 : decode cX5_measure 175 = .ok (.getfield 21, 3) := by decide +kernel
theorem dX5_measure_178 : decode cX5_measure 178 = .ok (.getfield 47, 3) := by decide +kernel
theorem dX5_measure_181 : decode cX5_measure 181 = .ok (.iload 5, 2) := by decide +kernel
theorem dX5_measure_183 : decode cX5_measure 183 = .ok (.iaload, 1) := by decide +kernel
theorem dX5_measure_184 : decode cX5_measure 184 = .ok (.iload 5, 2) := by decide +kernel
theorem dX5_measure_186 : decode cX5_measure 186 = .ok (.aload 4, 2) := by decide +kernel
theorem dX5_measure_188 : decode cX5_measure 188 = .ok (.iload 5, 2) := by decide +kernel
theorem dX5_measure_190 : decode cX5_measure 190 = .ok (.iaload, 1) := by decide +kernel
theorem dX5_measure_191 : decode cX5_measure 191 = .ok (.invokevirtual 54, 3) := by decide +kernel
theorem dX5_measure_194 : decode cX5_measure 194 = .ok (.aload_n 0, 1) := by decide +kernel
theorem dX5_measure_195 : decode cX5_measure 195 = .ok (.aload_n 0, 1) := by decide +kernel
theorem dX5_measure_196 : decode cX5_measure 196 = .ok (.getfield 21, 3) := by decide +kernel
theorem dX5_measure_199 : decode cX5_measure 199 = .ok (.getfield 47, 3) := by decide +kernel
theorem dX5_measure_202 : decode cX5_measure 202 = .ok (.iload 5, 2) := by decide +kernel
theorem dX5_measure_204 : decode cX5_measure 204 = .ok (.iaload, 1) := by decide +kernel
theorem dX5_measure_205 : decode cX5_measure 205 = .ok (.aload_n 0, 1) := by decide +kernel
theorem dX5_measure_206 : decode cX5_measure 206 = .ok (.getfield 21, 3) := by decide +kernel
theorem dX5_measure_209 : decode cX5_measure 209 = .ok (.getfield 44, 3) := by decide +kernel
theorem dX5_measure_212 : decode cX5_measure 212 = .ok (.iload 5, 2) := by decide +kernel
theorem dX5_measure_214 : decode cX5_measure 214 = .ok (.iaload, 1) := by decide +kernel
theorem dX5_measure_215 : decode cX5_measure 215 = .ok (.iload 5, 2) := by decide +kernel
theorem dX5_measure_217 : decode cX5_measure 217 = .ok (.aload 4, 2) := by decide +kernel
theorem dX5_measure_219 : decode cX5_measure 219 = .ok (.iload 5, 2) := by decide +kernel
theorem dX5_measure_221 : decode cX5_measure 221 = .ok (.iaload, 1) := by decide +kernel
theorem dX5_measure_222 : decode cX5_measure 222 = .ok (.invokevirtual 54, 3) := by decide +kernel
theorem dX5_measure_225 : decode cX5_measure 225 = .ok (.iinc 5 1, 3) := by decide +kernel
theorem dX5_measure_228 : decode cX5_measure 228 = .ok (.goto (-87), 3) := by decide +kernel
theorem dX5_measure_231 : decode cX5_measure 231 = .ok (.return_, 1) := by decide +kernel
theorem dX5_startFrom_0 : decode cX5_startFrom 0 = .ok (.iconst 0, 1) := by decide +kernel
theorem dX5_startFrom_1 : decode cX5_startFrom 1 = .ok (.istore_n 2, 1) := by decide +kernel
theorem dX5_startFrom_2 : decode cX5_startFrom 2 = .ok (.iload_n 2, 1) := by decide +kernel
theorem dX5_startFrom_3 : decode cX5_startFrom 3 = .ok (.bipush 8, 2) := by decide +kernel
theorem dX5_startFrom_5 : decode cX5_startFrom 5 = .ok (.if_icmp .ge 41, 3) := by decide +kernel
theorem dX5_startFrom_8 : decode cX5_startFrom 8 = .ok (.aload_n 0, 1) := by decide +kernel
theorem dX5_startFrom_9 : decode cX5_startFrom 9 = .ok (.getfield 9, 3) := by decide +kernel
theorem dX5_startFrom_12 : decode cX5_startFrom 12 = .ok (.iload_n 2, 1) := by decide +kernel
theorem dX5_startFrom_13 : decode cX5_startFrom 13 = .ok (.iload_n 2, 1) := by decide +kernel
theorem dX5_startFrom_14 : decode cX5_startFrom 14 = .ok (.iload_n 1, 1) := by decide +kernel
theorem dX5_startFrom_15 : decode cX5_startFrom 15 = .ok (.if_icmp .ne 7, 3) := by decide +kernel
theorem dX5_startFrom_18 : decode cX5_startFrom 18 = .ok (.iconst 0, 1) := by decide +kernel
theorem dX5_startFrom_19 : decode cX5_startFrom 19 = .ok (.goto 6, 3) := by decide +kernel
theorem dX5_startFrom_22 : decode cX5_startFrom 22 = .ok (.sipush 1000, 3) := by decide +kernel
theorem dX5_startFrom_25 : decode cX5_startFrom 25 = .ok (.iastore, 1) := by decide +kernel
theorem dX5_startFrom_26 : decode cX5_startFrom 26 = .ok (.aload_n 0, 1) := by decide +kernel
theorem dX5_startFrom_27 : decode cX5_startFrom 27 = .ok (.getfield 15, 3) := by decide +kernel
theorem dX5_startFrom_30 : decode cX5_startFrom 30 = .ok (.iload_n 2, 1) := by decide +kernel
theorem dX5_startFrom_31 : decode cX5_startFrom 31 = .ok (.iconst (-1), 1) := by decide +kernel
theorem dX5_startFrom_32 : decode cX5_startFrom 32 = .ok (.iastore, 1) := by decide +kernel
theorem dX5_startFrom_33 : decode cX5_startFrom 33 = .ok (.aload_n 0, 1) := by decide +kernel
theorem dX5_startFrom_34 : decode cX5_startFrom 34 = .ok (.getfield 18, 3) := by decide +kernel
theorem dX5_startFrom_37 : decode cX5_startFrom 37 = .ok (.iload_n 2, 1) := by decide +kernel
theorem dX5_startFrom_38 : decode cX5_startFrom 38 = .ok (.iconst (-1), 1) := by decide +kernel
theorem dX5_startFrom_39 : decode cX5_startFrom 39 = .ok (.iastore, 1) := by decide +kernel
theorem dX5_startFrom_40 : decode cX5_startFrom 40 = .ok (.iinc 2 1, 3) := by decide +kernel
theorem dX5_startFrom_43 : decode cX5_startFrom 43 = .ok (.goto (-41), 3) := by decide +kernel
theorem dX5_startFrom_46 : decode cX5_startFrom 46 = .ok (.return_, 1) := by decide +kernel
theorem dX5_shorten_0 : decode cX5_shorten 0 = .ok (.aload_n 0, 1) := by decide +kernel
theorem dX5_shorten_1 : decode cX5_shorten 1 = .ok (.getfield 9, 3) := by decide +kernel
theorem dX5_shorten_4 : decode cX5_shorten 4 = .ok (.iload_n 2, 1) := by decide +kernel
theorem dX5_shorten_5 : decode cX5_shorten 5 = .ok (.iaload, 1) := by decide +kernel
theorem dX5_shorten_6 : decode cX5_shorten 6 = .ok (.iload_n 3, 1) := by decide +kernel
theorem dX5_shorten_7 : decode cX5_shorten 7 = .ok (.iadd, 1) := by decide +kernel
theorem dX5_shorten_8 : decode cX5_shorten 8 = .ok (.aload_n 0, 1) := by decide +kernel
theorem dX5_shorten_9 : decode cX5_shorten 9 = .ok (.getfield 9, 3) := by decide +kernel
theorem dX5_shorten_12 : decode cX5_shorten 12 = .ok (.iload_n 1, 1) := by decide +kernel
theorem dX5_shorten_13 : decode cX5_shorten 13 = .ok (.iaload, 1) := by decide +kernel
theorem dX5_shorten_14 : decode cX5_shorten 14 = .ok (.if_icmp .ge 17, 3) := by decide +kernel
theorem dX5_shorten_17 : decode cX5_shorten 17 = .ok (.aload_n 0, 1) := by decide +kernel
theorem dX5_shorten_18 : decode cX5_shorten 18 = .ok (.getfield 9, 3) := by decide +kernel
theorem dX5_shorten_21 : decode cX5_shorten 21 = .ok (.iload_n 1, 1) := by decide +kernel
theorem dX5_shorten_22 : decode cX5_shorten 22 = .ok (.aload_n 0, 1) := by decide +kernel
theorem dX5_shorten_23 : decode cX5_shorten 23 = .ok (.getfield 9, 3) := by decide +kernel
theorem dX5_shorten_26 : decode cX5_shorten 26 = .ok (.iload_n 2, 1) := by decide +kernel
theorem dX5_shorten_27 : decode cX5_shorten 27 = .ok (.iaload, 1) := by decide +kernel
theorem dX5_shorten_28 : decode cX5_shorten 28 = .ok (.iload_n 3, 1) := by decide +kernel
theorem dX5_shorten_29 : decode cX5_shorten 29 = .ok (.iadd, 1) := by decide +kernel
theorem dX5_shorten_30 : decode cX5_shorten 30 = .ok (.iastore, 1) := by decide +kernel
theorem dX5_shorten_31 : decode cX5_shorten 31 = .ok (.return_, 1) := by decide +kernel
theorem dX5_leadOn_0 : decode cX5_leadOn 0 = .ok (.aload_n 0, 1) := by decide +kernel
theorem dX5_leadOn_1 : decode cX5_leadOn 1 = .ok (.getfield 9, 3) := by decide +kernel
theorem dX5_leadOn_4 : decode cX5_leadOn 4 = .ok (.iload_n 2, 1) := by decide +kernel
theorem dX5_leadOn_5 : decode cX5_leadOn 5 = .ok (.iaload, 1) := by decide +kernel
theorem dX5_leadOn_6 : decode cX5_leadOn 6 = .ok (.iload 4, 2) := by decide +kernel
theorem dX5_leadOn_8 : decode cX5_leadOn 8 = .ok (.iadd, 1) := by decide +kernel
theorem dX5_leadOn_9 : decode cX5_leadOn 9 = .ok (.aload_n 0, 1) := by decide +kernel
theorem dX5_leadOn_10 : decode cX5_leadOn 10 = .ok (.getfield 9, 3) := by decide +kernel
theorem dX5_leadOn_13 : decode cX5_leadOn 13 = .ok (.iload_n 1, 1) := by decide +kernel
theorem dX5_leadOn_14 : decode cX5_leadOn 14 = .ok (.iaload, 1) := by decide +kernel
theorem dX5_leadOn_15 : decode cX5_leadOn 15 = .ok (.if_icmp .ne 7, 3) := by decide +kernel
theorem dX5_leadOn_18 : decode cX5_leadOn 18 = .ok (.iconst 1, 1) := by decide +kernel
theorem dX5_leadOn_19 : decode cX5_leadOn 19 = .ok (.goto 4, 3) := by decide +kernel
theorem dX5_leadOn_22 : decode cX5_leadOn 22 = .ok (.iconst 0, 1) := by decide +kernel
theorem dX5_leadOn_23 : decode cX5_leadOn 23 = .ok (.istore 5, 2) := by decide +kernel
theorem dX5_leadOn_25 : decode cX5_leadOn 25 = .ok (.iload 5, 2) := by decide +kernel
theorem dX5_leadOn_27 : decode cX5_leadOn 27 = .ok (.ifCond .eq 37, 3) := by decide +kernel
theorem dX5_leadOn_30 : decode cX5_leadOn 30 = .ok (.aload_n 0, 1) := by decide +kernel
theorem dX5_leadOn_31 : decode cX5_leadOn 31 = .ok (.getfield 15, 3) := by decide +kernel
theorem dX5_leadOn_34 : decode cX5_leadOn 34 = .ok (.iload_n 1, 1) := by decide +kernel
theorem dX5_leadOn_35 : decode cX5_leadOn 35 = .ok (.iaload, 1) := by decide +kernel
theorem dX5_leadOn_36 : decode cX5_leadOn 36 = .ok (.iconst (-1), 1) := by decide +kernel
theorem dX5_leadOn_37 : decode cX5_leadOn 37 = .ok (.if_icmp .eq 13, 3) := by decide +kernel
theorem dX5_leadOn_40 : decode cX5_leadOn 40 = .ok (.iload_n 2, 1) := by decide +kernel
theorem dX5_leadOn_41 : decode cX5_leadOn 41 = .ok (.aload_n 0, 1) := by decide +kernel
theorem dX5_leadOn_42 : decode cX5_leadOn 42 = .ok (.getfield 15, 3) := by decide +kernel
theorem dX5_leadOn_45 : decode cX5_leadOn 45 = .ok (.iload_n 1, 1) := by decide +kernel
theorem dX5_leadOn_46 : decode cX5_leadOn 46 = .ok (.iaload, 1) := by decide +kernel
theorem dX5_leadOn_47 : decode cX5_leadOn 47 = .ok (.if_icmp .ge 17, 3) := by decide +kernel
theorem dX5_leadOn_50 : decode cX5_leadOn 50 = .ok (.aload_n 0, 1) := by decide +kernel
theorem dX5_leadOn_51 : decode cX5_leadOn 51 = .ok (.getfield 15, 3) := by decide +kernel
theorem dX5_leadOn_54 : decode cX5_leadOn 54 = .ok (.iload_n 1, 1) := by decide +kernel
theorem dX5_leadOn_55 : decode cX5_leadOn 55 = .ok (.iload_n 2, 1) := by decide +kernel
theorem dX5_leadOn_56 : decode cX5_leadOn 56 = .ok (.iastore, 1) := by decide +kernel
theorem dX5_leadOn_57 : decode cX5_leadOn 57 = .ok (.aload_n 0, 1) := by decide +kernel
theorem dX5_leadOn_58 : decode cX5_leadOn 58 = .ok (.getfield 18, 3) := by decide +kernel
theorem dX5_leadOn_61 : decode cX5_leadOn 61 = .ok (.iload_n 1, 1) := by decide +kernel
theorem dX5_leadOn_62 : decode cX5_leadOn 62 = .ok (.iload_n 3, 1) := by decide +kernel
theorem dX5_leadOn_63 : decode cX5_leadOn 63 = .ok (.iastore, 1) := by decide +kernel
theorem dX5_leadOn_64 : decode cX5_leadOn 64 = .ok (.return_, 1) := by decide +kernel
theorem dX5_sumFrom_0 : decode cX5_sumFrom 0 = .ok (.iload_n 1, 1) := by decide +kernel
theorem dX5_sumFrom_1 : decode cX5_sumFrom 1 = .ok (.ifCond .lt 30, 3) := by decide +kernel
theorem dX5_sumFrom_4 : decode cX5_sumFrom 4 = .ok (.iload_n 1, 1) := by decide +kernel
theorem dX5_sumFrom_5 : decode cX5_sumFrom 5 = .ok (.bipush 8, 2) := by decide +kernel
theorem dX5_sumFrom_7 : decode cX5_sumFrom 7 = .ok (.if_icmp .ge 24, 3) := by decide +kernel
theorem dX5_sumFrom_10 : decode cX5_sumFrom 10 = .ok (.aload_n 0, 1) := by decide +kernel
theorem dX5_sumFrom_11 : decode cX5_sumFrom 11 = .ok (.getfield 9, 3) := by decide +kernel
theorem dX5_sumFrom_14 : decode cX5_sumFrom 14 = .ok (.iload_n 1, 1) := by decide +kernel
theorem dX5_sumFrom_15 : decode cX5_sumFrom 15 = .ok (.iaload, 1) := by decide +kernel
theorem dX5_sumFrom_16 : decode cX5_sumFrom 16 = .ok (.sipush 1000, 3) := by decide +kernel
theorem dX5_sumFrom_19 : decode cX5_sumFrom 19 = .ok (.if_icmp .ge 12, 3) := by decide +kernel
theorem dX5_sumFrom_22 : decode cX5_sumFrom 22 = .ok (.aload_n 0, 1) := by decide +kernel
theorem dX5_sumFrom_23 : decode cX5_sumFrom 23 = .ok (.getfield 9, 3) := by decide +kernel
theorem dX5_sumFrom_26 : decode cX5_sumFrom 26 = .ok (.iload_n 1, 1) := by decide +kernel
theorem dX5_sumFrom_27 : decode cX5_sumFrom 27 = .ok (.iaload, 1) := by decide +kernel
theorem dX5_sumFrom_28 : decode cX5_sumFrom 28 = .ok (.goto 4, 3) := by decide +kernel
theorem dX5_sumFrom_31 : decode cX5_sumFrom 31 = .ok (.iconst (-1), 1) := by decide +kernel
theorem dX5_sumFrom_32 : decode cX5_sumFrom 32 = .ok (.ireturn, 1) := by decide +kernel
theorem dX5_nodeAhead_0 : decode cX5_nodeAhead 0 = .ok (.iload_n 1, 1) := by decide +kernel
theorem dX5_nodeAhead_1 : decode cX5_nodeAhead 1 = .ok (.ifCond .lt 18, 3) := by decide +kernel
theorem dX5_nodeAhead_4 : decode cX5_nodeAhead 4 = .ok (.iload_n 1, 1) := by decide +kernel
theorem dX5_nodeAhead_5 : decode cX5_nodeAhead 5 = .ok (.bipush 8, 2) := by decide +kernel
theorem dX5_nodeAhead_7 : decode cX5_nodeAhead 7 = .ok (.if_icmp .ge 12, 3) := by decide +kernel
theorem dX5_nodeAhead_10 : decode cX5_nodeAhead 10 = .ok (.aload_n 0, 1) := by decide +kernel
theorem dX5_nodeAhead_11 : decode cX5_nodeAhead 11 = .ok (.getfield 15, 3) := by decide +kernel
theorem dX5_nodeAhead_14 : decode cX5_nodeAhead 14 = .ok (.iload_n 1, 1) := by decide +kernel
theorem dX5_nodeAhead_15 : decode cX5_nodeAhead 15 = .ok (.iaload, 1) := by decide +kernel
theorem dX5_nodeAhead_16 : decode cX5_nodeAhead 16 = .ok (.goto 4, 3) := by decide +kernel
theorem dX5_nodeAhead_19 : decode cX5_nodeAhead 19 = .ok (.iconst (-1), 1) := by decide +kernel
theorem dX5_nodeAhead_20 : decode cX5_nodeAhead 20 = .ok (.ireturn, 1) := by decide +kernel
theorem dX5_linkAhead_0 : decode cX5_linkAhead 0 = .ok (.iload_n 1, 1) := by decide +kernel
theorem dX5_linkAhead_1 : decode cX5_linkAhead 1 = .ok (.ifCond .lt 18, 3) := by decide +kernel
theorem dX5_linkAhead_4 : decode cX5_linkAhead 4 = .ok (.iload_n 1, 1) := by decide +kernel
theorem dX5_linkAhead_5 : decode cX5_linkAhead 5 = .ok (.bipush 8, 2) := by decide +kernel
theorem dX5_linkAhead_7 : decode cX5_linkAhead 7 = .ok (.if_icmp .ge 12, 3) := by decide +kernel
theorem dX5_linkAhead_10 : decode cX5_linkAhead 10 = .ok (.aload_n 0, 1) := by decide +kernel
theorem dX5_linkAhead_11 : decode cX5_linkAhead 11 = .ok (.getfield 18, 3) := by decide +kernel
theorem dX5_linkAhead_14 : decode cX5_linkAhead 14 = .ok (.iload_n 1, 1) := by decide +kernel
theorem dX5_linkAhead_15 : decode cX5_linkAhead 15 = .ok (.iaload, 1) := by decide +kernel
theorem dX5_linkAhead_16 : decode cX5_linkAhead 16 = .ok (.goto 4, 3) := by decide +kernel
theorem dX5_linkAhead_19 : decode cX5_linkAhead 19 = .ok (.iconst (-1), 1) := by decide +kernel
theorem dX5_linkAhead_20 : decode cX5_linkAhead 20 = .ok (.ireturn, 1) := by decide +kernel
theorem dX5_walkSpares_0 : decode cX5_walkSpares 0 = .ok (.aload_n 0, 1) := by decide +kernel
theorem dX5_walkSpares_1 : decode cX5_walkSpares 1 = .ok (.iload_n 2, 1) := by decide +kernel
theorem dX5_walkSpares_2 : decode cX5_walkSpares 2 = .ok (.iconst 0, 1) := by decide +kernel
theorem dX5_walkSpares_3 : decode cX5_walkSpares 3 = .ok (.iload_n 3, 1) := by decide +kernel
theorem dX5_walkSpares_4 : decode cX5_walkSpares 4 = .ok (.invokevirtual 58, 3) := by decide +kernel
theorem dX5_walkSpares_7 : decode cX5_walkSpares 7 = .ok (.iload_n 1, 1) := by decide +kernel
theorem dX5_walkSpares_8 : decode cX5_walkSpares 8 = .ok (.istore 5, 2) := by decide +kernel
theorem dX5_walkSpares_10 : decode cX5_walkSpares 10 = .ok (.iconst 0, 1) := by decide +kernel
theorem dX5_walkSpares_11 : decode cX5_walkSpares 11 = .ok (.istore 6, 2) := by decide +kernel
theorem dX5_walkSpares_13 : decode cX5_walkSpares 13 = .ok (.iload 6, 2) := by decide +kernel
theorem dX5_walkSpares_15 : decode cX5_walkSpares 15 = .ok (.bipush 8, 2) := by decide +kernel
theorem dX5_walkSpares_17 : decode cX5_walkSpares 17 = .ok (.if_icmp .ge 49, 3) := by decide +kernel
theorem dX5_walkSpares_20 : decode cX5_walkSpares 20 = .ok (.iload 5, 2) := by decide +kernel
theorem dX5_walkSpares_22 : decode cX5_walkSpares 22 = .ok (.iload_n 2, 1) := by decide +kernel
theorem dX5_walkSpares_23 : decode cX5_walkSpares 23 = .ok (.if_icmp .eq 43, 3) := by decide +kernel
theorem dX5_walkSpares_26 : decode cX5_walkSpares 26 = .ok (.aload_n 0, 1) := by decide +kernel
theorem dX5_walkSpares_27 : decode cX5_walkSpares 27 = .ok (.getfield 15, 3) := by decide +kernel
theorem dX5_walkSpares_30 : decode cX5_walkSpares 30 = .ok (.iload 5, 2) := by decide +kernel
theorem dX5_walkSpares_32 : decode cX5_walkSpares 32 = .ok (.iaload, 1) := by decide +kernel
theorem dX5_walkSpares_33 : decode cX5_walkSpares 33 = .ok (.iconst (-1), 1) := by decide +kernel
theorem dX5_walkSpares_34 : decode cX5_walkSpares 34 = .ok (.if_icmp .eq 15, 3) := by decide +kernel
theorem dX5_walkSpares_37 : decode cX5_walkSpares 37 = .ok (.aload_n 0, 1) := by decide +kernel
theorem dX5_walkSpares_38 : decode cX5_walkSpares 38 = .ok (.getfield 18, 3) := by decide +kernel
theorem dX5_walkSpares_41 : decode cX5_walkSpares 41 = .ok (.iload 5, 2) := by decide +kernel
theorem dX5_walkSpares_43 : decode cX5_walkSpares 43 = .ok (.iaload, 1) := by decide +kernel
theorem dX5_walkSpares_44 : decode cX5_walkSpares 44 = .ok (.iload 4, 2) := by decide +kernel
theorem dX5_walkSpares_46 : decode cX5_walkSpares 46 = .ok (.if_icmp .ne 5, 3) := by decide +kernel
theorem dX5_walkSpares_49 : decode cX5_walkSpares 49 = .ok (.iconst 0, 1) := by decide +kernel
theorem dX5_walkSpares_50 : decode cX5_walkSpares 50 = .ok (.ireturn, 1) := by decide +kernel
theorem dX5_walkSpares_51 : decode cX5_walkSpares 51 = .ok (.aload_n 0, 1) := by decide +kernel
theorem dX5_walkSpares_52 : decode cX5_walkSpares 52 = .ok (.getfield 15, 3) := by decide +kernel
theorem dX5_walkSpares_55 : decode cX5_walkSpares 55 = .ok (.iload 5, 2) := by decide +kernel
theorem dX5_walkSpares_57 : decode cX5_walkSpares 57 = .ok (.iaload, 1) := by decide +kernel
theorem dX5_walkSpares_58 : decode cX5_walkSpares 58 = .ok (.istore 5, 2) := by decide +kernel
theorem dX5_walkSpares_60 : decode cX5_walkSpares 60 = .ok (.iinc 6 1, 3) := by decide +kernel
theorem dX5_walkSpares_63 : decode cX5_walkSpares 63 = .ok (.goto (-50), 3) := by decide +kernel
theorem dX5_walkSpares_66 : decode cX5_walkSpares 66 = .ok (.iload 5, 2) := by decide +kernel
theorem dX5_walkSpares_68 : decode cX5_walkSpares 68 = .ok (.iload_n 2, 1) := by decide +kernel
theorem dX5_walkSpares_69 : decode cX5_walkSpares 69 = .ok (.if_icmp .ne 7, 3) := by decide +kernel
theorem dX5_walkSpares_72 : decode cX5_walkSpares 72 = .ok (.iconst 1, 1) := by decide +kernel
theorem dX5_walkSpares_73 : decode cX5_walkSpares 73 = .ok (.goto 4, 3) := by decide +kernel
theorem dX5_walkSpares_76 : decode cX5_walkSpares 76 = .ok (.iconst 0, 1) := by decide +kernel
theorem dX5_walkSpares_77 : decode cX5_walkSpares 77 = .ok (.ireturn, 1) := by decide +kernel
theorem dX5_findWalk_0 : decode cX5_findWalk 0 = .ok (.aload_n 0, 1) := by decide +kernel
theorem dX5_findWalk_1 : decode cX5_findWalk 1 = .ok (.iload_n 2, 1) := by decide +kernel
theorem dX5_findWalk_2 : decode cX5_findWalk 2 = .ok (.iconst 0, 1) := by decide +kernel
theorem dX5_findWalk_3 : decode cX5_findWalk 3 = .ok (.iload_n 3, 1) := by decide +kernel
theorem dX5_findWalk_4 : decode cX5_findWalk 4 = .ok (.invokevirtual 58, 3) := by decide +kernel
theorem dX5_findWalk_7 : decode cX5_findWalk 7 = .ok (.aload 4, 2) := by decide +kernel
theorem dX5_findWalk_9 : decode cX5_findWalk 9 = .ok (.iconst 0, 1) := by decide +kernel
theorem dX5_findWalk_10 : decode cX5_findWalk 10 = .ok (.putfield 61, 3) := by decide +kernel
theorem dX5_findWalk_13 : decode cX5_findWalk 13 = .ok (.aload 4, 2) := by decide +kernel
theorem dX5_findWalk_15 : decode cX5_findWalk 15 = .ok (.iload_n 1, 1) := by decide +kernel
theorem dX5_findWalk_16 : decode cX5_findWalk 16 = .ok (.invokevirtual 66, 3) := by decide +kernel
theorem dX5_findWalk_19 : decode cX5_findWalk 19 = .ok (.iload_n 1, 1) := by decide +kernel
theorem dX5_findWalk_20 : decode cX5_findWalk 20 = .ok (.istore 5, 2) := by decide +kernel
theorem dX5_findWalk_22 : decode cX5_findWalk 22 = .ok (.iconst 0, 1) := by decide +kernel
theorem dX5_findWalk_23 : decode cX5_findWalk 23 = .ok (.istore 6, 2) := by decide +kernel
theorem dX5_findWalk_25 : decode cX5_findWalk 25 = .ok (.iload 6, 2) := by decide +kernel
theorem dX5_findWalk_27 : decode cX5_findWalk 27 = .ok (.bipush 8, 2) := by decide +kernel
theorem dX5_findWalk_29 : decode cX5_findWalk 29 = .ok (.if_icmp .ge 44, 3) := by decide +kernel
theorem dX5_findWalk_32 : decode cX5_findWalk 32 = .ok (.iload 5, 2) := by decide +kernel
theorem dX5_findWalk_34 : decode cX5_findWalk 34 = .ok (.iload_n 2, 1) := by decide +kernel
theorem dX5_findWalk_35 : decode cX5_findWalk 35 = .ok (.if_icmp .eq 38, 3) := by decide +kernel
theorem dX5_findWalk_38 : decode cX5_findWalk 38 = .ok (.aload_n 0, 1) := by decide +kernel
theorem dX5_findWalk_39 : decode cX5_findWalk 39 = .ok (.getfield 15, 3) := by decide +kernel
theorem dX5_findWalk_42 : decode cX5_findWalk 42 = .ok (.iload 5, 2) := by decide +kernel
theorem dX5_findWalk_44 : decode cX5_findWalk 44 = .ok (.iaload, 1) := by decide +kernel
theorem dX5_findWalk_45 : decode cX5_findWalk 45 = .ok (.iconst (-1), 1) := by decide +kernel
theorem dX5_findWalk_46 : decode cX5_findWalk 46 = .ok (.if_icmp .ne 5, 3) := by decide +kernel
theorem dX5_findWalk_49 : decode cX5_findWalk 49 = .ok (.iconst 0, 1) := by decide +kernel
theorem dX5_findWalk_50 : decode cX5_findWalk 50 = .ok (.ireturn, 1) := by decide +kernel
theorem dX5_findWalk_51 : decode cX5_findWalk 51 = .ok (.aload_n 0, 1) := by decide +kernel
theorem dX5_findWalk_52 : decode cX5_findWalk 52 = .ok (.getfield 15, 3) := by decide +kernel
theorem dX5_findWalk_55 : decode cX5_findWalk 55 = .ok (.iload 5, 2) := by decide +kernel
theorem dX5_findWalk_57 : decode cX5_findWalk 57 = .ok (.iaload, 1) := by decide +kernel
theorem dX5_findWalk_58 : decode cX5_findWalk 58 = .ok (.istore 5, 2) := by decide +kernel
theorem dX5_findWalk_60 : decode cX5_findWalk 60 = .ok (.aload 4, 2) := by decide +kernel
theorem dX5_findWalk_62 : decode cX5_findWalk 62 = .ok (.iload 5, 2) := by decide +kernel
theorem dX5_findWalk_64 : decode cX5_findWalk 64 = .ok (.invokevirtual 66, 3) := by decide +kernel
theorem dX5_findWalk_67 : decode cX5_findWalk 67 = .ok (.iinc 6 1, 3) := by decide +kernel
theorem dX5_findWalk_70 : decode cX5_findWalk 70 = .ok (.goto (-45), 3) := by decide +kernel
theorem dX5_findWalk_73 : decode cX5_findWalk 73 = .ok (.iload 5, 2) := by decide +kernel
theorem dX5_findWalk_75 : decode cX5_findWalk 75 = .ok (.iload_n 2, 1) := by decide +kernel
theorem dX5_findWalk_76 : decode cX5_findWalk 76 = .ok (.if_icmp .ne 7, 3) := by decide +kernel
theorem dX5_findWalk_79 : decode cX5_findWalk 79 = .ok (.iconst 1, 1) := by decide +kernel
theorem dX5_findWalk_80 : decode cX5_findWalk 80 = .ok (.goto 4, 3) := by decide +kernel
theorem dX5_findWalk_83 : decode cX5_findWalk 83 = .ok (.iconst 0, 1) := by decide +kernel
theorem dX5_findWalk_84 : decode cX5_findWalk 84 = .ok (.ireturn, 1) := by decide +kernel
theorem dX6_init_0 : decode cX6_init 0 = .ok (.aload_n 0, 1) := by decide +kernel
theorem dX6_init_1 : decode cX6_init 1 = .ok (.invokespecial 3, 3) := by decide +kernel
theorem dX6_init_4 : decode cX6_init 4 = .ok (.aload_n 0, 1) := by decide +kernel
theorem dX6_init_5 : decode cX6_init 5 = .ok (.iconst 0, 1) := by decide +kernel
theorem dX6_init_6 : decode cX6_init 6 = .ok (.putfield 9, 3) := by decide +kernel
theorem dX6_init_9 : decode cX6_init 9 = .ok (.aload_n 0, 1) := by decide +kernel
theorem dX6_init_10 : decode cX6_init 10 = .ok (.iload_n 1, 1) := by decide +kernel
theorem dX6_init_11 : decode cX6_init 11 = .ok (.iconst 0, 1) := by decide +kernel
theorem dX6_init_12 : decode cX6_init 12 = .ok (.invokestatic 15, 3) := by decide +kernel
theorem dX6_init_15 : decode cX6_init 15 = .ok (.newarray .int, 2) := by decide +kernel
theorem dX6_init_17 : decode cX6_init 17 = .ok (.putfield 21, 3) := by decide +kernel
theorem dX6_init_20 : decode cX6_init 20 = .ok (.return_, 1) := by decide +kernel
theorem dX6_put_0 : decode cX6_put 0 = .ok (.aload_n 0, 1) := by decide +kernel
theorem dX6_put_1 : decode cX6_put 1 = .ok (.getfield 9, 3) := by decide +kernel
theorem dX6_put_4 : decode cX6_put 4 = .ok (.aload_n 0, 1) := by decide +kernel
theorem dX6_put_5 : decode cX6_put 5 = .ok (.getfield 21, 3) := by decide +kernel
theorem dX6_put_8 : decode cX6_put 8 = .ok (.arraylength, 1) := by decide +kernel
theorem dX6_put_9 : decode cX6_put 9 = .ok (.if_icmp .ge 23, 3) := by decide +kernel
theorem dX6_put_12 : decode cX6_put 12 = .ok (.aload_n 0, 1) := by decide +kernel
theorem dX6_put_13 : decode cX6_put 13 = .ok (.getfield 21, 3) := by decide +kernel
theorem dX6_put_16 : decode cX6_put 16 = .ok (.aload_n 0, 1) := by decide +kernel
theorem dX6_put_17 : decode cX6_put 17 = .ok (.getfield 9, 3) := by decide +kernel
theorem dX6_put_20 : decode cX6_put 20 = .ok (.iload_n 1, 1) := by decide +kernel
theorem dX6_put_21 : decode cX6_put 21 = .ok (.iastore, 1) := by decide +kernel
theorem dX6_put_22 : decode cX6_put 22 = .ok (.aload_n 0, 1) := by decide +kernel
theorem dX6_put_23 : decode cX6_put 23 = .ok (.dup, 1) := by decide +kernel
theorem dX6_put_24 : decode cX6_put 24 = .ok (.getfield 9, 3) := by decide +kernel
theorem dX6_put_27 : decode cX6_put 27 = .ok (.iconst 1, 1) := by decide +kernel
theorem dX6_put_28 : decode cX6_put 28 = .ok (.iadd, 1) := by decide +kernel
theorem dX6_put_29 : decode cX6_put 29 = .ok (.putfield 9, 3) := by decide +kernel
theorem dX6_put_32 : decode cX6_put 32 = .ok (.return_, 1) := by decide +kernel
theorem dX6_last_0 : decode cX6_last 0 = .ok (.aload_n 0, 1) := by decide +kernel
theorem dX6_last_1 : decode cX6_last 1 = .ok (.getfield 9, 3) := by decide +kernel
theorem dX6_last_4 : decode cX6_last 4 = .ok (.ifCond .ne 7, 3) := by decide +kernel
theorem dX6_last_7 : decode cX6_last 7 = .ok (.iconst (-1), 1) := by decide +kernel
theorem dX6_last_8 : decode cX6_last 8 = .ok (.goto 14, 3) := by decide +kernel
theorem dX6_last_11 : decode cX6_last 11 = .ok (.aload_n 0, 1) := by decide +kernel
theorem dX6_last_12 : decode cX6_last 12 = .ok (.getfield 21, 3) := by decide +kernel
theorem dX6_last_15 : decode cX6_last 15 = .ok (.aload_n 0, 1) := by decide +kernel
theorem dX6_last_16 : decode cX6_last 16 = .ok (.getfield 9, 3) := by decide +kernel
theorem dX6_last_19 : decode cX6_last 19 = .ok (.iconst 1, 1) := by decide +kernel
theorem dX6_last_20 : decode cX6_last 20 = .ok (.isub, 1) := by decide +kernel
theorem dX6_last_21 : decode cX6_last 21 = .ok (.iaload, 1) := by decide +kernel
theorem dX6_last_22 : decode cX6_last 22 = .ok (.ireturn, 1) := by decide +kernel
theorem dX6_has_0 : decode cX6_has 0 = .ok (.iconst 0, 1) := by decide +kernel
theorem dX6_has_1 : decode cX6_has 1 = .ok (.istore_n 2, 1) := by decide +kernel
theorem dX6_has_2 : decode cX6_has 2 = .ok (.iload_n 2, 1) := by decide +kernel
theorem dX6_has_3 : decode cX6_has 3 = .ok (.aload_n 0, 1) := by decide +kernel
theorem dX6_has_4 : decode cX6_has 4 = .ok (.getfield 9, 3) := by decide +kernel
theorem dX6_has_7 : decode cX6_has 7 = .ok (.if_icmp .ge 21, 3) := by decide +kernel
theorem dX6_has_10 : decode cX6_has 10 = .ok (.aload_n 0, 1) := by decide +kernel
theorem dX6_has_11 : decode cX6_has 11 = .ok (.getfield 21, 3) := by decide +kernel
theorem dX6_has_14 : decode cX6_has 14 = .ok (.iload_n 2, 1) := by decide +kernel
theorem dX6_has_15 : decode cX6_has 15 = .ok (.iaload, 1) := by decide +kernel
theorem dX6_has_16 : decode cX6_has 16 = .ok (.iload_n 1, 1) := by decide +kernel
theorem dX6_has_17 : decode cX6_has 17 = .ok (.if_icmp .ne 5, 3) := by decide +kernel
theorem dX6_has_20 : decode cX6_has 20 = .ok (.iconst 1, 1) := by decide +kernel
theorem dX6_has_21 : decode cX6_has 21 = .ok (.ireturn, 1) := by decide +kernel
theorem dX6_has_22 : decode cX6_has 22 = .ok (.iinc 2 1, 3) := by decide +kernel
theorem dX6_has_25 : decode cX6_has 25 = .ok (.goto (-23), 3) := by decide +kernel
theorem dX6_has_28 : decode cX6_has 28 = .ok (.iconst 0, 1) := by decide +kernel
theorem dX6_has_29 : decode cX6_has 29 = .ok (.ireturn, 1) := by decide +kernel
theorem dX6_takeOver_0 : decode cX6_takeOver 0 = .ok (.aload_n 0, 1) := by decide +kernel
theorem dX6_takeOver_1 : decode cX6_takeOver 1 = .ok (.iconst 0, 1) := by decide +kernel
theorem dX6_takeOver_2 : decode cX6_takeOver 2 = .ok (.putfield 9, 3) := by decide +kernel
theorem dX6_takeOver_5 : decode cX6_takeOver 5 = .ok (.iconst 0, 1) := by decide +kernel
theorem dX6_takeOver_6 : decode cX6_takeOver 6 = .ok (.istore_n 2, 1) := by decide +kernel
theorem dX6_takeOver_7 : decode cX6_takeOver 7 = .ok (.iload_n 2, 1) := by decide +kernel
theorem dX6_takeOver_8 : decode cX6_takeOver 8 = .ok (.aload_n 1, 1) := by decide +kernel
theorem dX6_takeOver_9 : decode cX6_takeOver 9 = .ok (.getfield 9, 3) := by decide +kernel
theorem dX6_takeOver_12 : decode cX6_takeOver 12 = .ok (.if_icmp .ge 19, 3) := by decide +kernel
theorem dX6_takeOver_15 : decode cX6_takeOver 15 = .ok (.aload_n 0, 1) := by decide +kernel
theorem dX6_takeOver_16 : decode cX6_takeOver 16 = .ok (.aload_n 1, 1) := by decide +kernel
theorem dX6_takeOver_17 : decode cX6_takeOver 17 = .ok (.getfield 21, 3) := by decide +kernel
theorem dX6_takeOver_20 : decode cX6_takeOver 20 = .ok (.iload_n 2, 1) := by decide +kernel
theorem dX6_takeOver_21 : decode cX6_takeOver 21 = .ok (.iaload, 1) := by decide +kernel
theorem dX6_takeOver_22 : decode cX6_takeOver 22 = .ok (.invokevirtual 25, 3) := by decide +kernel
theorem dX6_takeOver_25 : decode cX6_takeOver 25 = .ok (.iinc 2 1, 3) := by decide +kernel
theorem dX6_takeOver_28 : decode cX6_takeOver 28 = .ok (.goto (-21), 3) := by decide +kernel
theorem dX6_takeOver_31 : decode cX6_takeOver 31 = .ok (.return_, 1) := by decide +kernel
theorem dX6_told_0 : decode cX6_told 0 = .ok (.iload_n 1, 1) := by decide +kernel
theorem dX6_told_1 : decode cX6_told 1 = .ok (.iconst (-1), 1) := by decide +kernel
theorem dX6_told_2 : decode cX6_told 2 = .ok (.if_icmp .ne 8, 3) := by decide +kernel
theorem dX6_told_5 : decode cX6_told 5 = .ok (.aload_n 0, 1) := by decide +kernel
theorem dX6_told_6 : decode cX6_told 6 = .ok (.getfield 9, 3) := by decide +kernel
theorem dX6_told_9 : decode cX6_told 9 = .ok (.ireturn, 1) := by decide +kernel
theorem dX6_told_10 : decode cX6_told 10 = .ok (.iload_n 1, 1) := by decide +kernel
theorem dX6_told_11 : decode cX6_told 11 = .ok (.ifCond .lt 20, 3) := by decide +kernel
theorem dX6_told_14 : decode cX6_told 14 = .ok (.iload_n 1, 1) := by decide +kernel
theorem dX6_told_15 : decode cX6_told 15 = .ok (.aload_n 0, 1) := by decide +kernel
theorem dX6_told_16 : decode cX6_told 16 = .ok (.getfield 9, 3) := by decide +kernel
theorem dX6_told_19 : decode cX6_told 19 = .ok (.if_icmp .ge 12, 3) := by decide +kernel
theorem dX6_told_22 : decode cX6_told 22 = .ok (.aload_n 0, 1) := by decide +kernel
theorem dX6_told_23 : decode cX6_told 23 = .ok (.getfield 21, 3) := by decide +kernel
theorem dX6_told_26 : decode cX6_told 26 = .ok (.iload_n 1, 1) := by decide +kernel
theorem dX6_told_27 : decode cX6_told 27 = .ok (.iaload, 1) := by decide +kernel
theorem dX6_told_28 : decode cX6_told 28 = .ok (.goto 4, 3) := by decide +kernel
theorem dX6_told_31 : decode cX6_told 31 = .ok (.iconst (-1), 1) := by decide +kernel
theorem dX6_told_32 : decode cX6_told 32 = .ok (.ireturn, 1) := by decide +kernel
theorem dX7_init_0 : decode cX7_init 0 = .ok (.aload_n 0, 1) := by decide +kernel
theorem dX7_init_1 : decode cX7_init 1 = .ok (.invokespecial 3, 3) := by decide +kernel
theorem dX7_init_4 : decode cX7_init 4 = .ok (.aload_n 0, 1) := by decide +kernel
theorem dX7_init_5 : decode cX7_init 5 = .ok (.iconst 0, 1) := by decide +kernel
theorem dX7_init_6 : decode cX7_init 6 = .ok (.putfield 9, 3) := by decide +kernel
theorem dX7_init_9 : decode cX7_init 9 = .ok (.aload_n 0, 1) := by decide +kernel
theorem dX7_init_10 : decode cX7_init 10 = .ok (.iload_n 1, 1) := by decide +kernel
theorem dX7_init_11 : decode cX7_init 11 = .ok (.iconst 0, 1) := by decide +kernel
theorem dX7_init_12 : decode cX7_init 12 = .ok (.invokestatic 15, 3) := by decide +kernel
theorem dX7_init_15 : decode cX7_init 15 = .ok (.newarray .int, 2) := by decide +kernel
theorem dX7_init_17 : decode cX7_init 17 = .ok (.putfield 21, 3) := by decide +kernel
theorem dX7_init_20 : decode cX7_init 20 = .ok (.aload_n 0, 1) := by decide +kernel
theorem dX7_init_21 : decode cX7_init 21 = .ok (.iload_n 1, 1) := by decide +kernel
theorem dX7_init_22 : decode cX7_init 22 = .ok (.iconst 0, 1) := by decide +kernel
theorem dX7_init_23 : decode cX7_init 23 = .ok (.invokestatic 15, 3) := by decide +kernel
theorem dX7_init_26 : decode cX7_init 26 = .ok (.newarray .int, 2) := by decide +kernel
theorem dX7_init_28 : decode cX7_init 28 = .ok (.putfield 25, 3) := by decide +kernel
theorem dX7_init_31 : decode cX7_init 31 = .ok (.return_, 1) := by decide +kernel
theorem dX7_put_0 : decode cX7_put 0 = .ok (.aload_n 0, 1) := by decide +kernel
theorem dX7_put_1 : decode cX7_put 1 = .ok (.getfield 9, 3) := by decide +kernel
theorem dX7_put_4 : decode cX7_put 4 = .ok (.aload_n 0, 1) := by decide +kernel
theorem dX7_put_5 : decode cX7_put 5 = .ok (.getfield 21, 3) := by decide +kernel
theorem dX7_put_8 : decode cX7_put 8 = .ok (.arraylength, 1) := by decide +kernel
theorem dX7_put_9 : decode cX7_put 9 = .ok (.if_icmp .ge 33, 3) := by decide +kernel
theorem dX7_put_12 : decode cX7_put 12 = .ok (.aload_n 0, 1) := by decide +kernel
theorem dX7_put_13 : decode cX7_put 13 = .ok (.getfield 21, 3) := by decide +kernel
theorem dX7_put_16 : decode cX7_put 16 = .ok (.aload_n 0, 1) := by decide +kernel
theorem dX7_put_17 : decode cX7_put 17 = .ok (.getfield 9, 3) := by decide +kernel
theorem dX7_put_20 : decode cX7_put 20 = .ok (.iload_n 1, 1) := by decide +kernel
theorem dX7_put_21 : decode cX7_put 21 = .ok (.iastore, 1) := by decide +kernel
theorem dX7_put_22 : decode cX7_put 22 = .ok (.aload_n 0, 1) := by decide +kernel
theorem dX7_put_23 : decode cX7_put 23 = .ok (.getfield 25, 3) := by decide +kernel
theorem dX7_put_26 : decode cX7_put 26 = .ok (.aload_n 0, 1) := by decide +kernel
theorem dX7_put_27 : decode cX7_put 27 = .ok (.getfield 9, 3) := by decide +kernel
theorem dX7_put_30 : decode cX7_put 30 = .ok (.iload_n 2, 1) := by decide +kernel
theorem dX7_put_31 : decode cX7_put 31 = .ok (.iastore, 1) := by decide +kernel
theorem dX7_put_32 : decode cX7_put 32 = .ok (.aload_n 0, 1) := by decide +kernel
theorem dX7_put_33 : decode cX7_put 33 = .ok (.dup, 1) := by decide +kernel
theorem dX7_put_34 : decode cX7_put 34 = .ok (.getfield 9, 3) := by decide +kernel
theorem dX7_put_37 : decode cX7_put 37 = .ok (.iconst 1, 1) := by decide +kernel
theorem dX7_put_38 : decode cX7_put 38 = .ok (.iadd, 1) := by decide +kernel
theorem dX7_put_39 : decode cX7_put 39 = .ok (.putfield 9, 3) := by decide +kernel
theorem dX7_put_42 : decode cX7_put 42 = .ok (.return_, 1) := by decide +kernel
theorem dX7_putOnTop_0 : decode cX7_putOnTop 0 = .ok (.aload_n 1, 1) := by decide +kernel
theorem dX7_putOnTop_1 : decode cX7_putOnTop 1 = .ok (.getfield 9, 3) := by decide +kernel
theorem dX7_putOnTop_4 : decode cX7_putOnTop 4 = .ok (.iconst 1, 1) := by decide +kernel
theorem dX7_putOnTop_5 : decode cX7_putOnTop 5 = .ok (.isub, 1) := by decide +kernel
theorem dX7_putOnTop_6 : decode cX7_putOnTop 6 = .ok (.istore_n 2, 1) := by decide +kernel
theorem dX7_putOnTop_7 : decode cX7_putOnTop 7 = .ok (.iload_n 2, 1) := by decide +kernel
theorem dX7_putOnTop_8 : decode cX7_putOnTop 8 = .ok (.ifCond .lt 25, 3) := by decide +kernel
theorem dX7_putOnTop_11 : decode cX7_putOnTop 11 = .ok (.aload_n 0, 1) := by decide +kernel
theorem dX7_putOnTop_12 : decode cX7_putOnTop 12 = .ok (.aload_n 1, 1) := by decide +kernel
theorem dX7_putOnTop_13 : decode cX7_putOnTop 13 = .ok (.getfield 21, 3) := by decide +kernel
theorem dX7_putOnTop_16 : decode cX7_putOnTop 16 = .ok (.iload_n 2, 1) := by decide +kernel
theorem dX7_putOnTop_17 : decode cX7_putOnTop 17 = .ok (.iaload, 1) := by decide +kernel
theorem dX7_putOnTop_18 : decode cX7_putOnTop 18 = .ok (.aload_n 1, 1) := by decide +kernel
theorem dX7_putOnTop_19 : decode cX7_putOnTop 19 = .ok (.getfield 25, 3) := by decide +kernel
theorem dX7_putOnTop_22 : decode cX7_putOnTop 22 = .ok (.iload_n 2, 1) := by decide +kernel
theorem dX7_putOnTop_23 : decode cX7_putOnTop 23 = .ok (.iaload, 1) := by decide +kernel
theorem dX7_putOnTop_24 : decode cX7_putOnTop 24 = .ok (.invokevirtual 28, 3) := by decide +kernel
theorem dX7_putOnTop_27 : decode cX7_putOnTop 27 = .ok (.iinc 2 (-1), 3) := by decide +kernel
theorem dX7_putOnTop_30 : decode cX7_putOnTop 30 = .ok (.goto (-23), 3) := by decide +kernel
theorem dX7_putOnTop_33 : decode cX7_putOnTop 33 = .ok (.return_, 1) := by decide +kernel
theorem dX7_topKind_0 : decode cX7_topKind 0 = .ok (.aload_n 0, 1) := by decide +kernel
theorem dX7_topKind_1 : decode cX7_topKind 1 = .ok (.getfield 9, 3) := by decide +kernel
theorem dX7_topKind_4 : decode cX7_topKind 4 = .ok (.ifCond .ne 7, 3) := by decide +kernel
theorem dX7_topKind_7 : decode cX7_topKind 7 = .ok (.iconst (-1), 1) := by decide +kernel
theorem dX7_topKind_8 : decode cX7_topKind 8 = .ok (.goto 14, 3) := by decide +kernel
theorem dX7_topKind_11 : decode cX7_topKind 11 = .ok (.aload_n 0, 1) := by decide +kernel
theorem dX7_topKind_12 : decode cX7_topKind 12 = .ok (.getfield 21, 3) := by decide +kernel
theorem dX7_topKind_15 : decode cX7_topKind 15 = .ok (.aload_n 0, 1) := by decide +kernel
theorem dX7_topKind_16 : decode cX7_topKind 16 = .ok (.getfield 9, 3) := by decide +kernel
theorem dX7_topKind_19 : decode cX7_topKind 19 = .ok (.iconst 1, 1) := by decide +kernel
theorem dX7_topKind_20 : decode cX7_topKind 20 = .ok (.isub, 1) := by decide +kernel
theorem dX7_topKind_21 : decode cX7_topKind 21 = .ok (.iaload, 1) := by decide +kernel
theorem dX7_topKind_22 : decode cX7_topKind 22 = .ok (.ireturn, 1) := by decide +kernel
theorem dX7_topWhat_0 : decode cX7_topWhat 0 = .ok (.aload_n 0, 1) := by decide +kernel
theorem dX7_topWhat_1 : decode cX7_topWhat 1 = .ok (.getfield 9, 3) := by decide +kernel
theorem dX7_topWhat_4 : decode cX7_topWhat 4 = .ok (.ifCond .ne 7, 3) := by decide +kernel
theorem dX7_topWhat_7 : decode cX7_topWhat 7 = .ok (.iconst (-1), 1) := by decide +kernel
theorem dX7_topWhat_8 : decode cX7_topWhat 8 = .ok (.goto 14, 3) := by decide +kernel
theorem dX7_topWhat_11 : decode cX7_topWhat 11 = .ok (.aload_n 0, 1) := by decide +kernel
theorem dX7_topWhat_12 : decode cX7_topWhat 12 = .ok (.getfield 25, 3) := by decide +kernel
theorem dX7_topWhat_15 : decode cX7_topWhat 15 = .ok (.aload_n 0, 1) := by decide +kernel
theorem dX7_topWhat_16 : decode cX7_topWhat 16 = .ok (.getfield 9, 3) := by decide +kernel
theorem dX7_topWhat_19 : decode cX7_topWhat 19 = .ok (.iconst 1, 1) := by decide +kernel
theorem dX7_topWhat_20 : decode cX7_topWhat 20 = .ok (.isub, 1) := by decide +kernel
theorem dX7_topWhat_21 : decode cX7_topWhat 21 = .ok (.iaload, 1) := by decide +kernel
theorem dX7_topWhat_22 : decode cX7_topWhat 22 = .ok (.ireturn, 1) := by decide +kernel
theorem dX7_isTopTo_0 : decode cX7_isTopTo 0 = .ok (.aload_n 0, 1) := by decide +kernel
theorem dX7_isTopTo_1 : decode cX7_isTopTo 1 = .ok (.getfield 9, 3) := by decide +kernel
theorem dX7_isTopTo_4 : decode cX7_isTopTo 4 = .ok (.ifCond .le 37, 3) := by decide +kernel
theorem dX7_isTopTo_7 : decode cX7_isTopTo 7 = .ok (.aload_n 0, 1) := by decide +kernel
theorem dX7_isTopTo_8 : decode cX7_isTopTo 8 = .ok (.getfield 21, 3) := by decide +kernel
theorem dX7_isTopTo_11 : decode cX7_isTopTo 11 = .ok (.aload_n 0, 1) := by decide +kernel
theorem dX7_isTopTo_12 : decode cX7_isTopTo 12 = .ok (.getfield 9, 3) := by decide +kernel
theorem dX7_isTopTo_15 : decode cX7_isTopTo 15 = .ok (.iconst 1, 1) := by decide +kernel
theorem dX7_isTopTo_16 : decode cX7_isTopTo 16 = .ok (.isub, 1) := by decide +kernel
theorem dX7_isTopTo_17 : decode cX7_isTopTo 17 = .ok (.iaload, 1) := by decide +kernel
theorem dX7_isTopTo_18 : decode cX7_isTopTo 18 = .ok (.iconst 2, 1) := by decide +kernel
theorem dX7_isTopTo_19 : decode cX7_isTopTo 19 = .ok (.if_icmp .eq 22, 3) := by decide +kernel
theorem dX7_isTopTo_22 : decode cX7_isTopTo 22 = .ok (.aload_n 0, 1) := by decide +kernel
theorem dX7_isTopTo_23 : decode cX7_isTopTo 23 = .ok (.getfield 25, 3) := by decide +kernel
theorem dX7_isTopTo_26 : decode cX7_isTopTo 26 = .ok (.aload_n 0, 1) := by decide +kernel
theorem dX7_isTopTo_27 : decode cX7_isTopTo 27 = .ok (.getfield 9, 3) := by decide +kernel
theorem dX7_isTopTo_30 : decode cX7_isTopTo 30 = .ok (.iconst 1, 1) := by decide +kernel
theorem dX7_isTopTo_31 : decode cX7_isTopTo 31 = .ok (.isub, 1) := by decide +kernel
theorem dX7_isTopTo_32 : decode cX7_isTopTo 32 = .ok (.iaload, 1) := by decide +kernel
theorem dX7_isTopTo_33 : decode cX7_isTopTo 33 = .ok (.iload_n 1, 1) := by decide +kernel
theorem dX7_isTopTo_34 : decode cX7_isTopTo 34 = .ok (.if_icmp .ne 7, 3) := by decide +kernel
theorem dX7_isTopTo_37 : decode cX7_isTopTo 37 = .ok (.iconst 1, 1) := by decide +kernel
theorem dX7_isTopTo_38 : decode cX7_isTopTo 38 = .ok (.goto 4, 3) := by decide +kernel
theorem dX7_isTopTo_41 : decode cX7_isTopTo 41 = .ok (.iconst 0, 1) := by decide +kernel
theorem dX7_isTopTo_42 : decode cX7_isTopTo 42 = .ok (.ireturn, 1) := by decide +kernel
theorem dX7_dropTop_0 : decode cX7_dropTop 0 = .ok (.aload_n 0, 1) := by decide +kernel
theorem dX7_dropTop_1 : decode cX7_dropTop 1 = .ok (.getfield 9, 3) := by decide +kernel
theorem dX7_dropTop_4 : decode cX7_dropTop 4 = .ok (.ifCond .le 13, 3) := by decide +kernel
theorem dX7_dropTop_7 : decode cX7_dropTop 7 = .ok (.aload_n 0, 1) := by decide +kernel
theorem dX7_dropTop_8 : decode cX7_dropTop 8 = .ok (.dup, 1) := by decide +kernel
theorem dX7_dropTop_9 : decode cX7_dropTop 9 = .ok (.getfield 9, 3) := by decide +kernel
theorem dX7_dropTop_12 : decode cX7_dropTop 12 = .ok (.iconst 1, 1) := by decide +kernel
theorem dX7_dropTop_13 : decode cX7_dropTop 13 = .ok (.isub, 1) := by decide +kernel
theorem dX7_dropTop_14 : decode cX7_dropTop 14 = .ok (.putfield 9, 3) := by decide +kernel
theorem dX7_dropTop_17 : decode cX7_dropTop 17 = .ok (.return_, 1) := by decide +kernel
theorem dX7_told_0 : decode cX7_told 0 = .ok (.iload_n 1, 1) := by decide +kernel
theorem dX7_told_1 : decode cX7_told 1 = .ok (.iconst (-1), 1) := by decide +kernel
theorem dX7_told_2 : decode cX7_told 2 = .ok (.if_icmp .ne 8, 3) := by decide +kernel
theorem dX7_told_5 : decode cX7_told 5 = .ok (.aload_n 0, 1) := by decide +kernel
theorem dX7_told_6 : decode cX7_told 6 = .ok (.getfield 9, 3) := by decide +kernel
theorem dX7_told_9 : decode cX7_told 9 = .ok (.ireturn, 1) := by decide +kernel
theorem dX7_told_10 : decode cX7_told 10 = .ok (.iload_n 1, 1) := by decide +kernel
theorem dX7_told_11 : decode cX7_told 11 = .ok (.ifCond .lt 30, 3) := by decide +kernel
theorem dX7_told_14 : decode cX7_told 14 = .ok (.iload_n 1, 1) := by decide +kernel
theorem dX7_told_15 : decode cX7_told 15 = .ok (.aload_n 0, 1) := by decide +kernel
theorem dX7_told_16 : decode cX7_told 16 = .ok (.getfield 9, 3) := by decide +kernel
theorem dX7_told_19 : decode cX7_told 19 = .ok (.if_icmp .ge 22, 3) := by decide +kernel
theorem dX7_told_22 : decode cX7_told 22 = .ok (.bipush 100, 2) := by decide +kernel
theorem dX7_told_24 : decode cX7_told 24 = .ok (.aload_n 0, 1) := by decide +kernel
theorem dX7_told_25 : decode cX7_told 25 = .ok (.getfield 21, 3) := by decide +kernel
theorem dX7_told_28 : decode cX7_told 28 = .ok (.iload_n 1, 1) := by decide +kernel
theorem dX7_told_29 : decode cX7_told 29 = .ok (.iaload, 1) := by decide +kernel
theorem dX7_told_30 : decode cX7_told 30 = .ok (.imul, 1) := by decide +kernel
theorem dX7_told_31 : decode cX7_told 31 = .ok (.aload_n 0, 1) := by decide +kernel
theorem dX7_told_32 : decode cX7_told 32 = .ok (.getfield 25, 3) := by decide +kernel
theorem dX7_told_35 : decode cX7_told 35 = .ok (.iload_n 1, 1) := by decide +kernel
theorem dX7_told_36 : decode cX7_told 36 = .ok (.iaload, 1) := by decide +kernel
theorem dX7_told_37 : decode cX7_told 37 = .ok (.iadd, 1) := by decide +kernel
theorem dX7_told_38 : decode cX7_told 38 = .ok (.goto 4, 3) := by decide +kernel
theorem dX7_told_41 : decode cX7_told 41 = .ok (.iconst (-1), 1) := by decide +kernel
theorem dX7_told_42 : decode cX7_told 42 = .ok (.ireturn, 1) := by decide +kernel
theorem dX8_init_0 : decode cX8_init 0 = .ok (.aload_n 0, 1) := by decide +kernel
theorem dX8_init_1 : decode cX8_init 1 = .ok (.invokespecial 3, 3) := by decide +kernel
theorem dX8_init_4 : decode cX8_init 4 = .ok (.aload_n 0, 1) := by decide +kernel
theorem dX8_init_5 : decode cX8_init 5 = .ok (.sipush 200, 3) := by decide +kernel
theorem dX8_init_8 : decode cX8_init 8 = .ok (.newarray .int, 2) := by decide +kernel
theorem dX8_init_10 : decode cX8_init 10 = .ok (.putfield 9, 3) := by decide +kernel
theorem dX8_init_13 : decode cX8_init 13 = .ok (.aload_n 0, 1) := by decide +kernel
theorem dX8_init_14 : decode cX8_init 14 = .ok (.iconst 0, 1) := by decide +kernel
theorem dX8_init_15 : decode cX8_init 15 = .ok (.putfield 15, 3) := by decide +kernel
theorem dX8_init_18 : decode cX8_init 18 = .ok (.aload_n 0, 1) := by decide +kernel
theorem dX8_init_19 : decode cX8_init 19 = .ok (.iconst 0, 1) := by decide +kernel
theorem dX8_init_20 : decode cX8_init 20 = .ok (.putfield 19, 3) := by decide +kernel
theorem dX8_init_23 : decode cX8_init 23 = .ok (.aload_n 0, 1) := by decide +kernel
theorem dX8_init_24 : decode cX8_init 24 = .ok (.bipush 96, 2) := by decide +kernel
theorem dX8_init_26 : decode cX8_init 26 = .ok (.newarray .int, 2) := by decide +kernel
theorem dX8_init_28 : decode cX8_init 28 = .ok (.putfield 22, 3) := by decide +kernel
theorem dX8_init_31 : decode cX8_init 31 = .ok (.aload_n 0, 1) := by decide +kernel
theorem dX8_init_32 : decode cX8_init 32 = .ok (.iconst 0, 1) := by decide +kernel
theorem dX8_init_33 : decode cX8_init 33 = .ok (.putfield 25, 3) := by decide +kernel
theorem dX8_init_36 : decode cX8_init 36 = .ok (.aload_n 0, 1) := by decide +kernel
theorem dX8_init_37 : decode cX8_init 37 = .ok (.iconst 0, 1) := by decide +kernel
theorem dX8_init_38 : decode cX8_init 38 = .ok (.putfield 28, 3) := by decide +kernel
theorem dX8_init_41 : decode cX8_init 41 = .ok (.aload_n 0, 1) := by decide +kernel
theorem dX8_init_42 : decode cX8_init 42 = .ok (.iconst 0, 1) := by decide +kernel
theorem dX8_init_43 : decode cX8_init 43 = .ok (.putfield 31, 3) := by decide +kernel
theorem dX8_init_46 : decode cX8_init 46 = .ok (.aload_n 0, 1) := by decide +kernel
theorem dX8_init_47 : decode cX8_init 47 = .ok (.lconst 0, 1) := by decide +kernel
theorem dX8_init_48 : decode cX8_init 48 = .ok (.putfield 34, 3) := by decide +kernel
theorem dX8_init_51 : decode cX8_init 51 = .ok (.aload_n 0, 1) := by decide +kernel
theorem dX8_init_52 : decode cX8_init 52 = .ok (.aload_n 1, 1) := by decide +kernel
theorem dX8_init_53 : decode cX8_init 53 = .ok (.putfield 38, 3) := by decide +kernel
theorem dX8_init_56 : decode cX8_init 56 = .ok (.return_, 1) := by decide +kernel
theorem dX8_addLetter_0 : decode cX8_addLetter 0 = .ok (.aload_n 0, 1) := by decide +kernel
theorem dX8_addLetter_1 : decode cX8_addLetter 1 = .ok (.getfield 15, 3) := by decide +kernel
theorem dX8_addLetter_4 : decode cX8_addLetter 4 = .ok (.sipush 200, 3) := by decide +kernel
theorem dX8_addLetter_7 : decode cX8_addLetter 7 = .ok (.if_icmp .ge 23, 3) := by decide +kernel
theorem dX8_addLetter_10 : decode cX8_addLetter 10 = .ok (.aload_n 0, 1) := by decide +kernel
theorem dX8_addLetter_11 : decode cX8_addLetter 11 = .ok (.getfield 9, 3) := by decide +kernel
theorem dX8_addLetter_14 : decode cX8_addLetter 14 = .ok (.aload_n 0, 1) := by decide +kernel
theorem dX8_addLetter_15 : decode cX8_addLetter 15 = .ok (.getfield 15, 3) := by decide +kernel
theorem dX8_addLetter_18 : decode cX8_addLetter 18 = .ok (.iload_n 1, 1) := by decide +kernel
theorem dX8_addLetter_19 : decode cX8_addLetter 19 = .ok (.iastore, 1) := by decide +kernel
theorem dX8_addLetter_20 : decode cX8_addLetter 20 = .ok (.aload_n 0, 1) := by decide +kernel
theorem dX8_addLetter_21 : decode cX8_addLetter 21 = .ok (.dup, 1) := by decide +kernel
theorem dX8_addLetter_22 : decode cX8_addLetter 22 = .ok (.getfield 15, 3) := by decide +kernel
theorem dX8_addLetter_25 : decode cX8_addLetter 25 = .ok (.iconst 1, 1) := by decide +kernel
theorem dX8_addLetter_26 : decode cX8_addLetter 26 = .ok (.iadd, 1) := by decide +kernel
theorem dX8_addLetter_27 : decode cX8_addLetter 27 = .ok (.putfield 15, 3) := by decide +kernel
theorem dX8_addLetter_30 : decode cX8_addLetter 30 = .ok (.return_, 1) := by decide +kernel
theorem dX8_tellsNodes_0 : decode cX8_tellsNodes 0 = .ok (.aload_n 0, 1) := by decide +kernel
theorem dX8_tellsNodes_1 : decode cX8_tellsNodes 1 = .ok (.iload_n 1, 1) := by decide +kernel
theorem dX8_tellsNodes_2 : decode cX8_tellsNodes 2 = .ok (.iconst 1, 1) := by decide +kernel
theorem dX8_tellsNodes_3 : decode cX8_tellsNodes 3 = .ok (.invokevirtual 42, 3) := by decide +kernel
theorem dX8_tellsNodes_6 : decode cX8_tellsNodes 6 = .ok (.iconst (-1), 1) := by decide +kernel
theorem dX8_tellsNodes_7 : decode cX8_tellsNodes 7 = .ok (.if_icmp .ne 7, 3) := by decide +kernel
theorem dX8_tellsNodes_10 : decode cX8_tellsNodes 10 = .ok (.iconst 1, 1) := by decide +kernel
theorem dX8_tellsNodes_11 : decode cX8_tellsNodes 11 = .ok (.goto 4, 3) := by decide +kernel
theorem dX8_tellsNodes_14 : decode cX8_tellsNodes 14 = .ok (.iconst 0, 1) := by decide +kernel
theorem dX8_tellsNodes_15 : decode cX8_tellsNodes 15 = .ok (.ireturn, 1) := by decide +kernel
theorem dX8_told_0 : decode cX8_told 0 = .ok (.aload_n 0, 1) := by decide +kernel
theorem dX8_told_1 : decode cX8_told 1 = .ok (.getfield 22, 3) := by decide +kernel
theorem dX8_told_4 : decode cX8_told 4 = .ok (.iload_n 1, 1) := by decide +kernel
theorem dX8_told_5 : decode cX8_told 5 = .ok (.iconst 4, 1) := by decide +kernel
theorem dX8_told_6 : decode cX8_told 6 = .ok (.imul, 1) := by decide +kernel
theorem dX8_told_7 : decode cX8_told 7 = .ok (.iload_n 2, 1) := by decide +kernel
theorem dX8_told_8 : decode cX8_told 8 = .ok (.iadd, 1) := by decide +kernel
theorem dX8_told_9 : decode cX8_told 9 = .ok (.iaload, 1) := by decide +kernel
theorem dX8_told_10 : decode cX8_told 10 = .ok (.ireturn, 1) := by decide +kernel
theorem dX8_findFault_0 : decode cX8_findFault 0 = .ok (.aload_n 0, 1) := by decide +kernel
theorem dX8_findFault_1 : decode cX8_findFault 1 = .ok (.aload_n 0, 1) := by decide +kernel
theorem dX8_findFault_2 : decode cX8_findFault 2 = .ok (.getfield 38, 3) := by decide +kernel
theorem dX8_findFault_5 : decode cX8_findFault 5 = .ok (.getfield 46, 3) := by decide +kernel
theorem dX8_findFault_8 : decode cX8_findFault 8 = .ok (.putfield 31, 3) := by decide +kernel
theorem dX8_findFault_11 : decode cX8_findFault 11 = .ok (.aload_n 0, 1) := by decide +kernel
theorem dX8_findFault_12 : decode cX8_findFault 12 = .ok (.aload_n 0, 1) := by decide +kernel
theorem dX8_findFault_13 : decode cX8_findFault 13 = .ok (.getfield 38, 3) := by decide +kernel
theorem dX8_findFault_16 : decode cX8_findFault 16 = .ok (.invokevirtual 49, 3) := by decide +kernel
theorem dX8_findFault_19 : decode cX8_findFault 19 = .ok (.putfield 34, 3) := by decide +kernel
theorem dX8_findFault_22 : decode cX8_findFault 22 = .ok (.aload_n 0, 1) := by decide +kernel
theorem dX8_findFault_23 : decode cX8_findFault 23 = .ok (.iconst 0, 1) := by decide +kernel
theorem dX8_findFault_24 : decode cX8_findFault 24 = .ok (.putfield 28, 3) := by decide +kernel
theorem dX8_findFault_27 : decode cX8_findFault 27 = .ok (.aload_n 0, 1) := by decide +kernel
theorem dX8_findFault_28 : decode cX8_findFault 28 = .ok (.iconst 0, 1) := by decide +kernel
theorem dX8_findFault_29 : decode cX8_findFault 29 = .ok (.putfield 19, 3) := by decide +kernel
theorem dX8_findFault_32 : decode cX8_findFault 32 = .ok (.iconst 0, 1) := by decide +kernel
theorem dX8_findFault_33 : decode cX8_findFault 33 = .ok (.istore_n 1, 1) := by decide +kernel
theorem dX8_findFault_34 : decode cX8_findFault 34 = .ok (.iload_n 1, 1) := by decide +kernel
theorem dX8_findFault_35 : decode cX8_findFault 35 = .ok (.bipush 24, 2) := by decide +kernel
theorem dX8_findFault_37 : decode cX8_findFault 37 = .ok (.if_icmp .ge 59, 3) := by decide +kernel
theorem dX8_findFault_40 : decode cX8_findFault 40 = .ok (.iload_n 1, 1) := by decide +kernel
theorem dX8_findFault_41 : decode cX8_findFault 41 = .ok (.ifCond .le 12, 3) := by decide +kernel
theorem dX8_findFault_44 : decode cX8_findFault 44 = .ok (.aload_n 0, 1) := by decide +kernel
theorem dX8_findFault_45 : decode cX8_findFault 45 = .ok (.bipush 59, 2) := by decide +kernel
theorem dX8_findFault_47 : decode cX8_findFault 47 = .ok (.invokevirtual 53, 3) := by decide +kernel
theorem dX8_findFault_50 : decode cX8_findFault 50 = .ok (.ifCond .eq 11, 3) := by decide +kernel
theorem dX8_findFault_53 : decode cX8_findFault 53 = .ok (.aload_n 0, 1) := by decide +kernel
theorem dX8_findFault_54 : decode cX8_findFault 54 = .ok (.iload_n 1, 1) := by decide +kernel
theorem dX8_findFault_55 : decode cX8_findFault 55 = .ok (.invokevirtual 57, 3) := by decide +kernel
theorem dX8_findFault_58 : decode cX8_findFault 58 = .ok (.ifCond .ne 8, 3) := by decide +kernel
theorem dX8_findFault_61 : decode cX8_findFault 61 = .ok (.aload_n 0, 1) := by decide +kernel
theorem dX8_findFault_62 : decode cX8_findFault 62 = .ok (.getfield 25, 3) := by decide +kernel
theorem dX8_findFault_65 : decode cX8_findFault 65 = .ok (.ireturn, 1) := by decide +kernel
theorem dX8_findFault_66 : decode cX8_findFault 66 = .ok (.aload_n 0, 1) := by decide +kernel
theorem dX8_findFault_67 : decode cX8_findFault 67 = .ok (.iload_n 1, 1) := by decide +kernel
theorem dX8_findFault_68 : decode cX8_findFault 68 = .ok (.iconst 1, 1) := by decide +kernel
theorem dX8_findFault_69 : decode cX8_findFault 69 = .ok (.iadd, 1) := by decide +kernel
theorem dX8_findFault_70 : decode cX8_findFault 70 = .ok (.putfield 19, 3) := by decide +kernel
theorem dX8_findFault_73 : decode cX8_findFault 73 = .ok (.aload_n 0, 1) := by decide +kernel
theorem dX8_findFault_74 : decode cX8_findFault 74 = .ok (.aload_n 0, 1) := by decide +kernel
theorem dX8_findFault_75 : decode cX8_findFault 75 = .ok (.getfield 28, 3) := by decide +kernel
theorem dX8_findFault_78 : decode cX8_findFault 78 = .ok (.invokevirtual 61, 3) := by decide +kernel
theorem dX8_findFault_81 : decode cX8_findFault 81 = .ok (.aload_n 0, 1) := by decide +kernel
theorem dX8_findFault_82 : decode cX8_findFault 82 = .ok (.getfield 15, 3) := by decide +kernel
theorem dX8_findFault_85 : decode cX8_findFault 85 = .ok (.if_icmp .lt 5, 3) := by decide +kernel
theorem dX8_findFault_88 : decode cX8_findFault 88 = .ok (.iconst (-1), 1) := by decide +kernel
theorem dX8_findFault_89 : decode cX8_findFault 89 = .ok (.ireturn, 1) := by decide +kernel
theorem dX8_findFault_90 : decode cX8_findFault 90 = .ok (.iinc 1 1, 3) := by decide +kernel
theorem dX8_findFault_93 : decode cX8_findFault 93 = .ok (.goto (-59), 3) := by decide +kernel
theorem dX8_findFault_96 : decode cX8_findFault 96 = .ok (.aload_n 0, 1) := by decide +kernel
theorem dX8_findFault_97 : decode cX8_findFault 97 = .ok (.invokevirtual 65, 3) := by decide +kernel
theorem dX8_findFault_100 : decode cX8_findFault 100 = .ok (.aload_n 0, 1) := by decide +kernel
theorem dX8_findFault_101 : decode cX8_findFault 101 = .ok (.getfield 25, 3) := by decide +kernel
theorem dX8_findFault_104 : decode cX8_findFault 104 = .ok (.ireturn, 1) := by decide +kernel
theorem dX8_readClause_0 : decode cX8_readClause 0 = .ok (.aload_n 0, 1) := by decide +kernel
theorem dX8_readClause_1 : decode cX8_readClause 1 = .ok (.invokevirtual 65, 3) := by decide +kernel
theorem dX8_readClause_4 : decode cX8_readClause 4 = .ok (.aload_n 0, 1) := by decide +kernel
theorem dX8_readClause_5 : decode cX8_readClause 5 = .ok (.ldc 68, 2) := by decide +kernel
theorem dX8_readClause_7 : decode cX8_readClause 7 = .ok (.invokevirtual 69, 3) := by decide +kernel
theorem dX8_readClause_10 : decode cX8_readClause 10 = .ok (.ifCond .eq 9, 3) := by decide +kernel
theorem dX8_readClause_13 : decode cX8_readClause 13 = .ok (.aload_n 0, 1) := by decide +kernel
theorem dX8_readClause_14 : decode cX8_readClause 14 = .ok (.iload_n 1, 1) := by decide +kernel
theorem dX8_readClause_15 : decode cX8_readClause 15 = .ok (.invokevirtual 73, 3) := by decide +kernel
theorem dX8_readClause_18 : decode cX8_readClause 18 = .ok (.ireturn, 1) := by decide +kernel
theorem dX8_readClause_19 : decode cX8_readClause 19 = .ok (.aload_n 0, 1) := by decide +kernel
theorem dX8_readClause_20 : decode cX8_readClause 20 = .ok (.ldc 76, 2) := by decide +kernel
theorem dX8_readClause_22 : decode cX8_readClause 22 = .ok (.invokevirtual 69, 3) := by decide +kernel
theorem dX8_readClause_25 : decode cX8_readClause 25 = .ok (.ifCond .eq 15, 3) := by decide +kernel
theorem dX8_readClause_28 : decode cX8_readClause 28 = .ok (.aload_n 0, 1) := by decide +kernel
theorem dX8_readClause_29 : decode cX8_readClause 29 = .ok (.iload_n 1, 1) := by decide +kernel
theorem dX8_readClause_30 : decode cX8_readClause 30 = .ok (.invokevirtual 78, 3) := by decide +kernel
theorem dX8_readClause_33 : decode cX8_readClause 33 = .ok (.ifCond .eq 7, 3) := by decide +kernel
theorem dX8_readClause_36 : decode cX8_readClause 36 = .ok (.iconst 1, 1) := by decide +kernel
theorem dX8_readClause_37 : decode cX8_readClause 37 = .ok (.goto 4, 3) := by decide +kernel
theorem dX8_readClause_40 : decode cX8_readClause 40 = .ok (.iconst 0, 1) := by decide +kernel
theorem dX8_readClause_41 : decode cX8_readClause 41 = .ok (.ireturn, 1) := by decide +kernel
theorem dX8_readNodes_0 : decode cX8_readNodes 0 = .ok (.aload_n 0, 1) := by decide +kernel
theorem dX8_readNodes_1 : decode cX8_readNodes 1 = .ok (.iconst 2, 1) := by decide +kernel
theorem dX8_readNodes_2 : decode cX8_readNodes 2 = .ok (.bipush 8, 2) := by decide +kernel
theorem dX8_readNodes_4 : decode cX8_readNodes 4 = .ok (.invokevirtual 81, 3) := by decide +kernel
theorem dX8_readNodes_7 : decode cX8_readNodes 7 = .ok (.istore_n 2, 1) := by decide +kernel
theorem dX8_readNodes_8 : decode cX8_readNodes 8 = .ok (.iload_n 2, 1) := by decide +kernel
theorem dX8_readNodes_9 : decode cX8_readNodes 9 = .ok (.iconst (-1), 1) := by decide +kernel
theorem dX8_readNodes_10 : decode cX8_readNodes 10 = .ok (.if_icmp .ne 5, 3) := by decide +kernel
theorem dX8_readNodes_13 : decode cX8_readNodes 13 = .ok (.iconst 0, 1) := by decide +kernel
theorem dX8_readNodes_14 : decode cX8_readNodes 14 = .ok (.ireturn, 1) := by decide +kernel
theorem dX8_readNodes_15 : decode cX8_readNodes 15 = .ok (.aload_n 0, 1) := by decide +kernel
theorem dX8_readNodes_16 : decode cX8_readNodes 16 = .ok (.iload_n 2, 1) := by decide +kernel
theorem dX8_readNodes_17 : decode cX8_readNodes 17 = .ok (.putfield 31, 3) := by decide +kernel
theorem dX8_readNodes_20 : decode cX8_readNodes 20 = .ok (.aload_n 0, 1) := by decide +kernel
theorem dX8_readNodes_21 : decode cX8_readNodes 21 = .ok (.lconst 0, 1) := by decide +kernel
theorem dX8_readNodes_22 : decode cX8_readNodes 22 = .ok (.putfield 34, 3) := by decide +kernel
theorem dX8_readNodes_25 : decode cX8_readNodes 25 = .ok (.aload_n 0, 1) := by decide +kernel
theorem dX8_readNodes_26 : decode cX8_readNodes 26 = .ok (.iload_n 1, 1) := by decide +kernel
theorem dX8_readNodes_27 : decode cX8_readNodes 27 = .ok (.iload_n 2, 1) := by decide +kernel
theorem dX8_readNodes_28 : decode cX8_readNodes 28 = .ok (.iconst (-1), 1) := by decide +kernel
theorem dX8_readNodes_29 : decode cX8_readNodes 29 = .ok (.iconst (-1), 1) := by decide +kernel
theorem dX8_readNodes_30 : decode cX8_readNodes 30 = .ok (.iconst (-1), 1) := by decide +kernel
theorem dX8_readNodes_31 : decode cX8_readNodes 31 = .ok (.invokevirtual 84, 3) := by decide +kernel
theorem dX8_readNodes_34 : decode cX8_readNodes 34 = .ok (.iconst 1, 1) := by decide +kernel
theorem dX8_readNodes_35 : decode cX8_readNodes 35 = .ok (.ireturn, 1) := by decide +kernel
theorem dX8_readLink_0 : decode cX8_readLink 0 = .ok (.aload_n 0, 1) := by decide +kernel
theorem dX8_readLink_1 : decode cX8_readLink 1 = .ok (.iconst 0, 1) := by decide +kernel
theorem dX8_readLink_2 : decode cX8_readLink 2 = .ok (.aload_n 0, 1) := by decide +kernel
theorem dX8_readLink_3 : decode cX8_readLink 3 = .ok (.getfield 31, 3) := by decide +kernel
theorem dX8_readLink_6 : decode cX8_readLink 6 = .ok (.iconst 1, 1) := by decide +kernel
theorem dX8_readLink_7 : decode cX8_readLink 7 = .ok (.isub, 1) := by decide +kernel
theorem dX8_readLink_8 : decode cX8_readLink 8 = .ok (.invokevirtual 81, 3) := by decide +kernel
theorem dX8_readLink_11 : decode cX8_readLink 11 = .ok (.istore_n 2, 1) := by decide +kernel
theorem dX8_readLink_12 : decode cX8_readLink 12 = .ok (.iload_n 2, 1) := by decide +kernel
theorem dX8_readLink_13 : decode cX8_readLink 13 = .ok (.iconst (-1), 1) := by decide +kernel
theorem dX8_readLink_14 : decode cX8_readLink 14 = .ok (.if_icmp .ne 5, 3) := by decide +kernel
theorem dX8_readLink_17 : decode cX8_readLink 17 = .ok (.iconst 0, 1) := by decide +kernel
theorem dX8_readLink_18 : decode cX8_readLink 18 = .ok (.ireturn, 1) := by decide +kernel
theorem dX8_readLink_19 : decode cX8_readLink 19 = .ok (.aload_n 0, 1) := by decide +kernel
theorem dX8_readLink_20 : decode cX8_readLink 20 = .ok (.iconst 0, 1) := by decide +kernel
theorem dX8_readLink_21 : decode cX8_readLink 21 = .ok (.aload_n 0, 1) := by decide +kernel
theorem dX8_readLink_22 : decode cX8_readLink 22 = .ok (.getfield 31, 3) := by decide +kernel
theorem dX8_readLink_25 : decode cX8_readLink 25 = .ok (.iconst 1, 1) := by decide +kernel
theorem dX8_readLink_26 : decode cX8_readLink 26 = .ok (.isub, 1) := by decide +kernel
theorem dX8_readLink_27 : decode cX8_readLink 27 = .ok (.invokevirtual 81, 3) := by decide +kernel
theorem dX8_readLink_30 : decode cX8_readLink 30 = .ok (.istore_n 3, 1) := by decide +kernel
theorem dX8_readLink_31 : decode cX8_readLink 31 = .ok (.iload_n 3, 1) := by decide +kernel
theorem dX8_readLink_32 : decode cX8_readLink 32 = .ok (.iconst (-1), 1) := by decide +kernel
theorem dX8_readLink_33 : decode cX8_readLink 33 = .ok (.if_icmp .eq 20, 3) := by decide +kernel
theorem dX8_readLink_36 : decode cX8_readLink 36 = .ok (.iload_n 3, 1) := by decide +kernel
theorem dX8_readLink_37 : decode cX8_readLink 37 = .ok (.iload_n 2, 1) := by decide +kernel
theorem dX8_readLink_38 : decode cX8_readLink 38 = .ok (.if_icmp .eq 15, 3) := by decide +kernel
theorem dX8_readLink_41 : decode cX8_readLink 41 = .ok (.aload_n 0, 1) := by decide +kernel
theorem dX8_readLink_42 : decode cX8_readLink 42 = .ok (.iload_n 2, 1) := by decide +kernel
theorem dX8_readLink_43 : decode cX8_readLink 43 = .ok (.iload_n 3, 1) := by decide +kernel
theorem dX8_readLink_44 : decode cX8_readLink 44 = .ok (.invokestatic 88, 3) := by decide +kernel
theorem dX8_readLink_47 : decode cX8_readLink 47 = .ok (.invokevirtual 92, 3) := by decide +kernel
theorem dX8_readLink_50 : decode cX8_readLink 50 = .ok (.ifCond .eq 5, 3) := by decide +kernel
theorem dX8_readLink_53 : decode cX8_readLink 53 = .ok (.iconst 0, 1) := by decide +kernel
theorem dX8_readLink_54 : decode cX8_readLink 54 = .ok (.ireturn, 1) := by decide +kernel
theorem dX8_readLink_55 : decode cX8_readLink 55 = .ok (.aload_n 0, 1) := by decide +kernel
theorem dX8_readLink_56 : decode cX8_readLink 56 = .ok (.iconst 1, 1) := by decide +kernel
theorem dX8_readLink_57 : decode cX8_readLink 57 = .ok (.bipush 9, 2) := by decide +kernel
theorem dX8_readLink_59 : decode cX8_readLink 59 = .ok (.invokevirtual 81, 3) := by decide +kernel
theorem dX8_readLink_62 : decode cX8_readLink 62 = .ok (.istore 4, 2) := by decide +kernel
theorem dX8_readLink_64 : decode cX8_readLink 64 = .ok (.iload 4, 2) := by decide +kernel
theorem dX8_readLink_66 : decode cX8_readLink 66 = .ok (.iconst (-1), 1) := by decide +kernel
theorem dX8_readLink_67 : decode cX8_readLink 67 = .ok (.if_icmp .ne 5, 3) := by decide +kernel
theorem dX8_readLink_70 : decode cX8_readLink 70 = .ok (.iconst 0, 1) := by decide +kernel
theorem dX8_readLink_71 : decode cX8_readLink 71 = .ok (.ireturn, 1) := by decide +kernel
theorem dX8_readLink_72 : decode cX8_readLink 72 = .ok (.aload_n 0, 1) := by decide +kernel
theorem dX8_readLink_73 : decode cX8_readLink 73 = .ok (.iconst 1, 1) := by decide +kernel
theorem dX8_readLink_74 : decode cX8_readLink 74 = .ok (.bipush 9, 2) := by decide +kernel
theorem dX8_readLink_76 : decode cX8_readLink 76 = .ok (.invokevirtual 81, 3) := by decide +kernel
theorem dX8_readLink_79 : decode cX8_readLink 79 = .ok (.istore 5, 2) := by decide +kernel
theorem dX8_readLink_81 : decode cX8_readLink 81 = .ok (.iload 5, 2) := by decide +kernel
theorem dX8_readLink_83 : decode cX8_readLink 83 = .ok (.iconst (-1), 1) := by decide +kernel
theorem dX8_readLink_84 : decode cX8_readLink 84 = .ok (.if_icmp .ne 5, 3) := by decide +kernel
theorem dX8_readLink_87 : decode cX8_readLink 87 = .ok (.iconst 0, 1) := by decide +kernel
theorem dX8_readLink_88 : decode cX8_readLink 88 = .ok (.ireturn, 1) := by decide +kernel
theorem dX8_readLink_89 : decode cX8_readLink 89 = .ok (.aload_n 0, 1) := by decide +kernel
theorem dX8_readLink_90 : decode cX8_readLink 90 = .ok (.dup, 1) := by decide +kernel
theorem dX8_readLink_91 : decode cX8_readLink 91 = .ok (.getfield 34, 3) := by decide +kernel
theorem dX8_readLink_94 : decode cX8_readLink 94 = .ok (.iload_n 2, 1) := by decide +kernel
theorem dX8_readLink_95 : decode cX8_readLink 95 = .ok (.iload_n 3, 1) := by decide +kernel
theorem dX8_readLink_96 : decode cX8_readLink 96 = .ok (.invokestatic 88, 3) := by decide +kernel
theorem dX8_readLink_99 : decode cX8_readLink 99 = .ok (.lor, 1) := by decide +kernel
theorem dX8_readLink_100 : decode cX8_readLink 100 = .ok (.putfield 34, 3) := by decide +kernel
theorem dX8_readLink_103 : decode cX8_readLink 103 = .ok (.aload_n 0, 1) := by decide +kernel
theorem dX8_readLink_104 : decode cX8_readLink 104 = .ok (.iload_n 1, 1) := by decide +kernel
theorem dX8_readLink_105 : decode cX8_readLink 105 = .ok (.iload_n 2, 1) := by decide +kernel
theorem dX8_readLink_106 : decode cX8_readLink 106 = .ok (.iload_n 3, 1) := by decide +kernel
theorem dX8_readLink_107 : decode cX8_readLink 107 = .ok (.iload 4, 2) := by decide +kernel
theorem dX8_readLink_109 : decode cX8_readLink 109 = .ok (.iload 5, 2) := by decide +kernel
theorem dX8_readLink_111 : decode cX8_readLink 111 = .ok (.invokevirtual 84, 3) := by decide +kernel
theorem dX8_readLink_114 : decode cX8_readLink 114 = .ok (.iconst 1, 1) := by decide +kernel
theorem dX8_readLink_115 : decode cX8_readLink 115 = .ok (.ireturn, 1) := by decide +kernel
theorem dX8_isTooMany_0 : decode cX8_isTooMany 0 = .ok (.aload_n 0, 1) := by decide +kernel
theorem dX8_isTooMany_1 : decode cX8_isTooMany 1 = .ok (.getfield 34, 3) := by decide +kernel
theorem dX8_isTooMany_4 : decode cX8_isTooMany 4 = .ok (.lload_n 1, 1) := by decide +kernel
theorem dX8_isTooMany_5 : decode cX8_isTooMany 5 = .ok (.land, 1) := by decide +kernel
theorem dX8_isTooMany_6 : decode cX8_isTooMany 6 = .ok (.lconst 0, 1) := by decide +kernel
theorem dX8_isTooMany_7 : decode cX8_isTooMany 7 = .ok (.lcmp, 1) := by decide +kernel
theorem dX8_isTooMany_8 : decode cX8_isTooMany 8 = .ok (.ifCond .ne 19, 3) := by decide +kernel
theorem dX8_isTooMany_11 : decode cX8_isTooMany 11 = .ok (.aload_n 0, 1) := by decide +kernel
theorem dX8_isTooMany_12 : decode cX8_isTooMany 12 = .ok (.getfield 34, 3) := by decide +kernel
theorem dX8_isTooMany_15 : decode cX8_isTooMany 15 = .ok (.invokestatic 96, 3) := by decide +kernel
theorem dX8_isTooMany_18 : decode cX8_isTooMany 18 = .ok (.bipush 14, 2) := by decide +kernel
theorem dX8_isTooMany_20 : decode cX8_isTooMany 20 = .ok (.if_icmp .lt 7, 3) := by decide +kernel
theorem dX8_isTooMany_23 : decode cX8_isTooMany 23 = .ok (.iconst 1, 1) := by decide +kernel
theorem dX8_isTooMany_24 : decode cX8_isTooMany 24 = .ok (.goto 4, 3) := by decide +kernel
theorem dX8_isTooMany_27 : decode cX8_isTooMany 27 = .ok (.iconst 0, 1) := by decide +kernel
theorem dX8_isTooMany_28 : decode cX8_isTooMany 28 = .ok (.ireturn, 1) := by decide +kernel
theorem dX8_keep_0 : decode cX8_keep 0 = .ok (.iload_n 1, 1) := by decide +kernel
theorem dX8_keep_1 : decode cX8_keep 1 = .ok (.iconst 4, 1) := by decide +kernel
theorem dX8_keep_2 : decode cX8_keep 2 = .ok (.imul, 1) := by decide +kernel
theorem dX8_keep_3 : decode cX8_keep 3 = .ok (.istore 6, 2) := by decide +kernel
theorem dX8_keep_5 : decode cX8_keep 5 = .ok (.aload_n 0, 1) := by decide +kernel
theorem dX8_keep_6 : decode cX8_keep 6 = .ok (.getfield 22, 3) := by decide +kernel
theorem dX8_keep_9 : decode cX8_keep 9 = .ok (.iload 6, 2) := by decide +kernel
theorem dX8_keep_11 : decode cX8_keep 11 = .ok (.iload_n 2, 1) := by decide +kernel
theorem dX8_keep_12 : decode cX8_keep 12 = .ok (.iastore, 1) := by decide +kernel
theorem dX8_keep_13 : decode cX8_keep 13 = .ok (.aload_n 0, 1) := by decide +kernel
theorem dX8_keep_14 : decode cX8_keep 14 = .ok (.getfield 22, 3) := by decide +kernel
theorem dX8_keep_17 : decode cX8_keep 17 = .ok (.iload 6, 2) := by decide +kernel
theorem dX8_keep_19 : decode cX8_keep 19 = .ok (.iconst 1, 1) := by decide +kernel
theorem dX8_keep_20 : decode cX8_keep 20 = .ok (.iadd, 1) := by decide +kernel
theorem dX8_keep_21 : decode cX8_keep 21 = .ok (.iload_n 3, 1) := by decide +kernel
theorem dX8_keep_22 : decode cX8_keep 22 = .ok (.iastore, 1) := by decide +kernel
theorem dX8_keep_23 : decode cX8_keep 23 = .ok (.aload_n 0, 1) := by decide +kernel
theorem dX8_keep_24 : decode cX8_keep 24 = .ok (.getfield 22, 3) := by decide +kernel
theorem dX8_keep_27 : decode cX8_keep 27 = .ok (.iload 6, 2) := by decide +kernel
theorem dX8_keep_29 : decode cX8_keep 29 = .ok (.iconst 2, 1) := by decide +kernel
theorem dX8_keep_30 : decode cX8_keep 30 = .ok (.iadd, 1) := by decide +kernel
theorem dX8_keep_31 : decode cX8_keep 31 = .ok (.iload 4, 2) := by decide +kernel
theorem dX8_keep_33 : decode cX8_keep 33 = .ok (.iastore, 1) := by decide +kernel
theorem dX8_keep_34 : decode cX8_keep 34 = .ok (.aload_n 0, 1) := by decide +kernel
theorem dX8_keep_35 : decode cX8_keep 35 = .ok (.getfield 22, 3) := by decide +kernel
theorem dX8_keep_38 : decode cX8_keep 38 = .ok (.iload 6, 2) := by decide +kernel
theorem dX8_keep_40 : decode cX8_keep 40 = .ok (.iconst 3, 1) := by decide +kernel
theorem dX8_keep_41 : decode cX8_keep 41 = .ok (.iadd, 1) := by decide +kernel
theorem dX8_keep_42 : decode cX8_keep 42 = .ok (.iload 5, 2) := by decide +kernel
theorem dX8_keep_44 : decode cX8_keep 44 = .ok (.iastore, 1) := by decide +kernel
theorem dX8_keep_45 : decode cX8_keep 45 = .ok (.return_, 1) := by decide +kernel
theorem dX8_readSign_0 : decode cX8_readSign 0 = .ok (.aload_n 0, 1) := by decide +kernel
theorem dX8_readSign_1 : decode cX8_readSign 1 = .ok (.invokevirtual 65, 3) := by decide +kernel
theorem dX8_readSign_4 : decode cX8_readSign 4 = .ok (.aload_n 0, 1) := by decide +kernel
theorem dX8_readSign_5 : decode cX8_readSign 5 = .ok (.getfield 28, 3) := by decide +kernel
theorem dX8_readSign_8 : decode cX8_readSign 8 = .ok (.aload_n 0, 1) := by decide +kernel
theorem dX8_readSign_9 : decode cX8_readSign 9 = .ok (.getfield 25, 3) := by decide +kernel
theorem dX8_readSign_12 : decode cX8_readSign 12 = .ok (.isub, 1) := by decide +kernel
theorem dX8_readSign_13 : decode cX8_readSign 13 = .ok (.iconst 1, 1) := by decide +kernel
theorem dX8_readSign_14 : decode cX8_readSign 14 = .ok (.if_icmp .ne 20, 3) := by decide +kernel
theorem dX8_readSign_17 : decode cX8_readSign 17 = .ok (.aload_n 0, 1) := by decide +kernel
theorem dX8_readSign_18 : decode cX8_readSign 18 = .ok (.getfield 9, 3) := by decide +kernel
theorem dX8_readSign_21 : decode cX8_readSign 21 = .ok (.aload_n 0, 1) := by decide +kernel
theorem dX8_readSign_22 : decode cX8_readSign 22 = .ok (.getfield 25, 3) := by decide +kernel
theorem dX8_readSign_25 : decode cX8_readSign 25 = .ok (.iaload, 1) := by decide +kernel
theorem dX8_readSign_26 : decode cX8_readSign 26 = .ok (.iload_n 1, 1) := by decide +kernel
theorem dX8_readSign_27 : decode cX8_readSign 27 = .ok (.if_icmp .ne 7, 3) := by decide +kernel
theorem dX8_readSign_30 : decode cX8_readSign 30 = .ok (.iconst 1, 1) := by decide +kernel
theorem dX8_readSign_31 : decode cX8_readSign 31 = .ok (.goto 4, 3) := by decide +kernel
theorem dX8_readSign_34 : decode cX8_readSign 34 = .ok (.iconst 0, 1) := by decide +kernel
theorem dX8_readSign_35 : decode cX8_readSign 35 = .ok (.ireturn, 1) := by decide +kernel
theorem dX8_readNumber_0 : decode cX8_readNumber 0 = .ok (.aload_n 0, 1) := by decide +kernel
theorem dX8_readNumber_1 : decode cX8_readNumber 1 = .ok (.invokevirtual 65, 3) := by decide +kernel
theorem dX8_readNumber_4 : decode cX8_readNumber 4 = .ok (.aload_n 0, 1) := by decide +kernel
theorem dX8_readNumber_5 : decode cX8_readNumber 5 = .ok (.getfield 28, 3) := by decide +kernel
theorem dX8_readNumber_8 : decode cX8_readNumber 8 = .ok (.aload_n 0, 1) := by decide +kernel
theorem dX8_readNumber_9 : decode cX8_readNumber 9 = .ok (.getfield 25, 3) := by decide +kernel
theorem dX8_readNumber_12 : decode cX8_readNumber 12 = .ok (.isub, 1) := by decide +kernel
theorem dX8_readNumber_13 : decode cX8_readNumber 13 = .ok (.iconst 1, 1) := by decide +kernel
theorem dX8_readNumber_14 : decode cX8_readNumber 14 = .ok (.if_icmp .eq 5, 3) := by decide +kernel
theorem dX8_readNumber_17 : decode cX8_readNumber 17 = .ok (.iconst (-1), 1) := by decide +kernel
theorem dX8_readNumber_18 : decode cX8_readNumber 18 = .ok (.ireturn, 1) := by decide +kernel
theorem dX8_readNumber_19 : decode cX8_readNumber 19 = .ok (.aload_n 0, 1) := by decide +kernel
theorem dX8_readNumber_20 : decode cX8_readNumber 20 = .ok (.getfield 9, 3) := by decide +kernel
theorem dX8_readNumber_23 : decode cX8_readNumber 23 = .ok (.aload_n 0, 1) := by decide +kernel
theorem dX8_readNumber_24 : decode cX8_readNumber 24 = .ok (.getfield 25, 3) := by decide +kernel
theorem dX8_readNumber_27 : decode cX8_readNumber 27 = .ok (.iaload, 1) := by decide +kernel
theorem dX8_readNumber_28 : decode cX8_readNumber 28 = .ok (.bipush 48, 2) := by decide +kernel
theorem dX8_readNumber_30 : decode cX8_readNumber 30 = .ok (.isub, 1) := by decide +kernel
theorem dX8_readNumber_31 : decode cX8_readNumber 31 = .ok (.istore_n 3, 1) := by decide +kernel
theorem dX8_readNumber_32 : decode cX8_readNumber 32 = .ok (.iload_n 3, 1) := by decide +kernel
theorem dX8_readNumber_33 : decode cX8_readNumber 33 = .ok (.iload_n 1, 1) := by decide +kernel
theorem dX8_readNumber_34 : decode cX8_readNumber 34 = .ok (.if_icmp .lt 12, 3) := by decide +kernel
theorem dX8_readNumber_37 : decode cX8_readNumber 37 = .ok (.iload_n 3, 1) := by decide +kernel
theorem dX8_readNumber_38 : decode cX8_readNumber 38 = .ok (.iload_n 2, 1) := by decide +kernel
theorem dX8_readNumber_39 : decode cX8_readNumber 39 = .ok (.if_icmp .gt 7, 3) := by decide +kernel
theorem dX8_readNumber_42 : decode cX8_readNumber 42 = .ok (.iload_n 3, 1) := by decide +kernel
theorem dX8_readNumber_43 : decode cX8_readNumber 43 = .ok (.goto 4, 3) := by decide +kernel
theorem dX8_readNumber_46 : decode cX8_readNumber 46 = .ok (.iconst (-1), 1) := by decide +kernel
theorem dX8_readNumber_47 : decode cX8_readNumber 47 = .ok (.ireturn, 1) := by decide +kernel
theorem dX8_isWord_0 : decode cX8_isWord 0 = .ok (.aload_n 0, 1) := by decide +kernel
theorem dX8_isWord_1 : decode cX8_isWord 1 = .ok (.getfield 28, 3) := by decide +kernel
theorem dX8_isWord_4 : decode cX8_isWord 4 = .ok (.aload_n 0, 1) := by decide +kernel
theorem dX8_isWord_5 : decode cX8_isWord 5 = .ok (.getfield 25, 3) := by decide +kernel
theorem dX8_isWord_8 : decode cX8_isWord 8 = .ok (.isub, 1) := by decide +kernel
theorem dX8_isWord_9 : decode cX8_isWord 9 = .ok (.aload_n 1, 1) := by decide +kernel
theorem dX8_isWord_10 : decode cX8_isWord 10 = .ok (.invokevirtual 102, 3) := by decide +kernel
theorem dX8_isWord_13 : decode cX8_isWord 13 = .ok (.if_icmp .eq 5, 3) := by decide +kernel
theorem dX8_isWord_16 : decode cX8_isWord 16 = .ok (.iconst 0, 1) := by decide +kernel
theorem dX8_isWord_17 : decode cX8_isWord 17 = .ok (.ireturn, 1) := by decide +kernel
theorem dX8_isWord_18 : decode cX8_isWord 18 = .ok (.iconst 0, 1) := by decide +kernel
theorem dX8_isWord_19 : decode cX8_isWord 19 = .ok (.istore_n 2, 1) := by decide +kernel
theorem dX8_isWord_20 : decode cX8_isWord 20 = .ok (.iload_n 2, 1) := by decide +kernel
theorem dX8_isWord_21 : decode cX8_isWord 21 = .ok (.aload_n 1, 1) := by decide +kernel
theorem dX8_isWord_22 : decode cX8_isWord 22 = .ok (.invokevirtual 102, 3) := by decide +kernel
theorem dX8_isWord_25 : decode cX8_isWord 25 = .ok (.if_icmp .ge 30, 3) := by decide +kernel
theorem dX8_isWord_28 : decode cX8_isWord 28 = .ok (.aload_n 0, 1) := by decide +kernel
theorem dX8_isWord_29 : decode cX8_isWord 29 = .ok (.getfield 9, 3) := by decide +kernel
theorem dX8_isWord_32 : decode cX8_isWord 32 = .ok (.aload_n 0, 1) := by decide +kernel
theorem dX8_isWord_33 : decode cX8_isWord 33 = .ok (.getfield 25, 3) := by decide +kernel
theorem dX8_isWord_36 : decode cX8_isWord 36 = .ok (.iload_n 2, 1) := by decide +kernel
theorem dX8_isWord_37 : decode cX8_isWord 37 = .ok (.iadd, 1) := by decide +kernel
theorem dX8_isWord_38 : decode cX8_isWord 38 = .ok (.iaload, 1) := by decide +kernel
theorem dX8_isWord_39 : decode cX8_isWord 39 = .ok (.aload_n 1, 1) := by decide +kernel
theorem dX8_isWord_40 : decode cX8_isWord 40 = .ok (.iload_n 2, 1) := by decide +kernel
theorem dX8_isWord_41 : decode cX8_isWord 41 = .ok (.invokevirtual 107, 3) := by decide +kernel
theorem dX8_isWord_44 : decode cX8_isWord 44 = .ok (.if_icmp .eq 5, 3) := by decide +kernel
theorem dX8_isWord_47 : decode cX8_isWord 47 = .ok (.iconst 0, 1) := by decide +kernel
theorem dX8_isWord_48 : decode cX8_isWord 48 = .ok (.ireturn, 1) := by decide +kernel
theorem dX8_isWord_49 : decode cX8_isWord 49 = .ok (.iinc 2 1, 3) := by decide +kernel
theorem dX8_isWord_52 : decode cX8_isWord 52 = .ok (.goto (-32), 3) := by decide +kernel
theorem dX8_isWord_55 : decode cX8_isWord 55 = .ok (.iconst 1, 1) := by decide +kernel
theorem dX8_isWord_56 : decode cX8_isWord 56 = .ok (.ireturn, 1) := by decide +kernel
theorem dX8_readToken_0 : decode cX8_readToken 0 = .ok (.aload_n 0, 1) := by decide +kernel
theorem dX8_readToken_1 : decode cX8_readToken 1 = .ok (.aload_n 0, 1) := by decide +kernel
theorem dX8_readToken_2 : decode cX8_readToken 2 = .ok (.aload_n 0, 1) := by decide +kernel
theorem dX8_readToken_3 : decode cX8_readToken 3 = .ok (.getfield 28, 3) := by decide +kernel
theorem dX8_readToken_6 : decode cX8_readToken 6 = .ok (.invokevirtual 61, 3) := by decide +kernel
theorem dX8_readToken_9 : decode cX8_readToken 9 = .ok (.putfield 25, 3) := by decide +kernel
theorem dX8_readToken_12 : decode cX8_readToken 12 = .ok (.aload_n 0, 1) := by decide +kernel
theorem dX8_readToken_13 : decode cX8_readToken 13 = .ok (.aload_n 0, 1) := by decide +kernel
theorem dX8_readToken_14 : decode cX8_readToken 14 = .ok (.getfield 25, 3) := by decide +kernel
theorem dX8_readToken_17 : decode cX8_readToken 17 = .ok (.putfield 28, 3) := by decide +kernel
theorem dX8_readToken_20 : decode cX8_readToken 20 = .ok (.aload_n 0, 1) := by decide +kernel
theorem dX8_readToken_21 : decode cX8_readToken 21 = .ok (.getfield 25, 3) := by decide +kernel
theorem dX8_readToken_24 : decode cX8_readToken 24 = .ok (.aload_n 0, 1) := by decide +kernel
theorem dX8_readToken_25 : decode cX8_readToken 25 = .ok (.getfield 15, 3) := by decide +kernel
theorem dX8_readToken_28 : decode cX8_readToken 28 = .ok (.if_icmp .lt 4, 3) := by decide +kernel
theorem dX8_readToken_31 : decode cX8_readToken 31 = .ok (.return_, 1) := by decide +kernel
theorem dX8_readToken_32 : decode cX8_readToken 32 = .ok (.aload_n 0, 1) := by decide +kernel
theorem dX8_readToken_33 : decode cX8_readToken 33 = .ok (.getfield 9, 3) := by decide +kernel
theorem dX8_readToken_36 : decode cX8_readToken 36 = .ok (.aload_n 0, 1) := by decide +kernel
theorem dX8_readToken_37 : decode cX8_readToken 37 = .ok (.getfield 25, 3) := by decide +kernel
theorem dX8_readToken_40 : decode cX8_readToken 40 = .ok (.iaload, 1) := by decide +kernel
theorem dX8_readToken_41 : decode cX8_readToken 41 = .ok (.invokestatic 111, 3) := by decide +kernel
theorem dX8_readToken_44 : decode cX8_readToken 44 = .ok (.istore_n 1, 1) := by decide +kernel
theorem dX8_readToken_45 : decode cX8_readToken 45 = .ok (.aload_n 0, 1) := by decide +kernel
theorem dX8_readToken_46 : decode cX8_readToken 46 = .ok (.dup, 1) := by decide +kernel
theorem dX8_readToken_47 : decode cX8_readToken 47 = .ok (.getfield 28, 3) := by decide +kernel
theorem dX8_readToken_50 : decode cX8_readToken 50 = .ok (.iconst 1, 1) := by decide +kernel
theorem dX8_readToken_51 : decode cX8_readToken 51 = .ok (.iadd, 1) := by decide +kernel
theorem dX8_readToken_52 : decode cX8_readToken 52 = .ok (.putfield 28, 3) := by decide +kernel
theorem dX8_readToken_55 : decode cX8_readToken 55 = .ok (.iload_n 1, 1) := by decide +kernel
theorem dX8_readToken_56 : decode cX8_readToken 56 = .ok (.ifCond .eq 43, 3) := by decide +kernel
theorem dX8_readToken_59 : decode cX8_readToken 59 = .ok (.aload_n 0, 1) := by decide +kernel
theorem dX8_readToken_60 : decode cX8_readToken 60 = .ok (.getfield 28, 3) := by decide +kernel
theorem dX8_readToken_63 : decode cX8_readToken 63 = .ok (.aload_n 0, 1) := by decide +kernel
theorem dX8_readToken_64 : decode cX8_readToken 64 = .ok (.getfield 15, 3) := by decide +kernel
theorem dX8_readToken_67 : decode cX8_readToken 67 = .ok (.if_icmp .ge 32, 3) := by decide +kernel
theorem dX8_readToken_70 : decode cX8_readToken 70 = .ok (.aload_n 0, 1) := by decide +kernel
theorem dX8_readToken_71 : decode cX8_readToken 71 = .ok (.getfield 9, 3) := by decide +kernel
theorem dX8_readToken_74 : decode cX8_readToken 74 = .ok (.aload_n 0, 1) := by decide +kernel
theorem dX8_readToken_75 : decode cX8_readToken 75 = .ok (.getfield 28, 3) := by decide +kernel
theorem dX8_readToken_78 : decode cX8_readToken 78 = .ok (.iaload, 1) := by decide +kernel
theorem dX8_readToken_79 : decode cX8_readToken 79 = .ok (.invokestatic 111, 3) := by decide +kernel
theorem dX8_readToken_82 : decode cX8_readToken 82 = .ok (.iload_n 1, 1) := by decide +kernel
theorem dX8_readToken_83 : decode cX8_readToken 83 = .ok (.if_icmp .ne 16, 3) := by decide +kernel
theorem dX8_readToken_86 : decode cX8_readToken 86 = .ok (.aload_n 0, 1) := by decide +kernel
theorem dX8_readToken_87 : decode cX8_readToken 87 = .ok (.dup, 1) := by decide +kernel
theorem dX8_readToken_88 : decode cX8_readToken 88 = .ok (.getfield 28, 3) := by decide +kernel
theorem dX8_readToken_91 : decode cX8_readToken 91 = .ok (.iconst 1, 1) := by decide +kernel
theorem dX8_readToken_92 : decode cX8_readToken 92 = .ok (.iadd, 1) := by decide +kernel
theorem dX8_readToken_93 : decode cX8_readToken 93 = .ok (.putfield 28, 3) := by decide +kernel
theorem dX8_readToken_96 : decode cX8_readToken 96 = .ok (.goto (-41), 3) := by decide +kernel
theorem dX8_readToken_99 : decode cX8_readToken 99 = .ok (.return_, 1) := by decide +kernel
theorem dX8_skipBlanks_0 : decode cX8_skipBlanks 0 = .ok (.iload_n 1, 1) := by decide +kernel
theorem dX8_skipBlanks_1 : decode cX8_skipBlanks 1 = .ok (.istore_n 2, 1) := by decide +kernel
theorem dX8_skipBlanks_2 : decode cX8_skipBlanks 2 = .ok (.iload_n 2, 1) := by decide +kernel
theorem dX8_skipBlanks_3 : decode cX8_skipBlanks 3 = .ok (.aload_n 0, 1) := by decide +kernel
theorem dX8_skipBlanks_4 : decode cX8_skipBlanks 4 = .ok (.getfield 15, 3) := by decide +kernel
theorem dX8_skipBlanks_7 : decode cX8_skipBlanks 7 = .ok (.if_icmp .ge 20, 3) := by decide +kernel
theorem dX8_skipBlanks_10 : decode cX8_skipBlanks 10 = .ok (.aload_n 0, 1) := by decide +kernel
theorem dX8_skipBlanks_11 : decode cX8_skipBlanks 11 = .ok (.getfield 9, 3) := by decide +kernel
theorem dX8_skipBlanks_14 : decode cX8_skipBlanks 14 = .ok (.iload_n 2, 1) := by decide +kernel
theorem dX8_skipBlanks_15 : decode cX8_skipBlanks 15 = .ok (.iaload, 1) := by decide +kernel
theorem dX8_skipBlanks_16 : decode cX8_skipBlanks 16 = .ok (.bipush 32, 2) := by decide +kernel
theorem dX8_skipBlanks_18 : decode cX8_skipBlanks 18 = .ok (.if_icmp .ne 9, 3) := by decide +kernel
theorem dX8_skipBlanks_21 : decode cX8_skipBlanks 21 = .ok (.iinc 2 1, 3) := by decide +kernel
theorem dX8_skipBlanks_24 : decode cX8_skipBlanks 24 = .ok (.goto (-22), 3) := by decide +kernel
theorem dX8_skipBlanks_27 : decode cX8_skipBlanks 27 = .ok (.iload_n 2, 1) := by decide +kernel
theorem dX8_skipBlanks_28 : decode cX8_skipBlanks 28 = .ok (.ireturn, 1) := by decide +kernel
theorem dX8_rowOf_0 : decode cX8_rowOf 0 = .ok (.iload_n 0, 1) := by decide +kernel
theorem dX8_rowOf_1 : decode cX8_rowOf 1 = .ok (.bipush 97, 2) := by decide +kernel
theorem dX8_rowOf_3 : decode cX8_rowOf 3 = .ok (.if_icmp .lt 11, 3) := by decide +kernel
theorem dX8_rowOf_6 : decode cX8_rowOf 6 = .ok (.iload_n 0, 1) := by decide +kernel
theorem dX8_rowOf_7 : decode cX8_rowOf 7 = .ok (.bipush 122, 2) := by decide +kernel
theorem dX8_rowOf_9 : decode cX8_rowOf 9 = .ok (.if_icmp .gt 5, 3) := by decide +kernel
theorem dX8_rowOf_12 : decode cX8_rowOf 12 = .ok (.iconst 1, 1) := by decide +kernel
theorem dX8_rowOf_13 : decode cX8_rowOf 13 = .ok (.ireturn, 1) := by decide +kernel
theorem dX8_rowOf_14 : decode cX8_rowOf 14 = .ok (.iload_n 0, 1) := by decide +kernel
theorem dX8_rowOf_15 : decode cX8_rowOf 15 = .ok (.bipush 48, 2) := by decide +kernel
theorem dX8_rowOf_17 : decode cX8_rowOf 17 = .ok (.if_icmp .lt 13, 3) := by decide +kernel
theorem dX8_rowOf_20 : decode cX8_rowOf 20 = .ok (.iload_n 0, 1) := by decide +kernel
theorem dX8_rowOf_21 : decode cX8_rowOf 21 = .ok (.bipush 57, 2) := by decide +kernel
theorem dX8_rowOf_23 : decode cX8_rowOf 23 = .ok (.if_icmp .gt 7, 3) := by decide +kernel
theorem dX8_rowOf_26 : decode cX8_rowOf 26 = .ok (.iconst 2, 1) := by decide +kernel
theorem dX8_rowOf_27 : decode cX8_rowOf 27 = .ok (.goto 4, 3) := by decide +kernel
theorem dX8_rowOf_30 : decode cX8_rowOf 30 = .ok (.iconst 0, 1) := by decide +kernel
theorem dX8_rowOf_31 : decode cX8_rowOf 31 = .ok (.ireturn, 1) := by decide +kernel
theorem dX9_init_0 : decode cX9_init 0 = .ok (.aload_n 0, 1) := by decide +kernel
theorem dX9_init_1 : decode cX9_init 1 = .ok (.invokespecial 1, 3) := by decide +kernel
theorem dX9_init_4 : decode cX9_init 4 = .ok (.aload_n 0, 1) := by decide +kernel
theorem dX9_init_5 : decode cX9_init 5 = .ok (.new 7, 3) := by decide +kernel
theorem dX9_init_8 : decode cX9_init 8 = .ok (.dup, 1) := by decide +kernel
theorem dX9_init_9 : decode cX9_init 9 = .ok (.invokespecial 9, 3) := by decide +kernel
theorem dX9_init_12 : decode cX9_init 12 = .ok (.putfield 10, 3) := by decide +kernel
theorem dX9_init_15 : decode cX9_init 15 = .ok (.aload_n 0, 1) := by decide +kernel
theorem dX9_init_16 : decode cX9_init 16 = .ok (.new 16, 3) := by decide +kernel
theorem dX9_init_19 : decode cX9_init 19 = .ok (.dup, 1) := by decide +kernel
theorem dX9_init_20 : decode cX9_init 20 = .ok (.aload_n 0, 1) := by decide +kernel
theorem dX9_init_21 : decode cX9_init 21 = .ok (.getfield 10, 3) := by decide +kernel
theorem dX9_init_24 : decode cX9_init 24 = .ok (.invokespecial 18, 3) := by decide +kernel
theorem dX9_init_27 : decode cX9_init 27 = .ok (.putfield 21, 3) := by decide +kernel
theorem dX9_init_30 : decode cX9_init 30 = .ok (.aload_n 0, 1) := by decide +kernel
theorem dX9_init_31 : decode cX9_init 31 = .ok (.new 25, 3) := by decide +kernel
theorem dX9_init_34 : decode cX9_init 34 = .ok (.dup, 1) := by decide +kernel
theorem dX9_init_35 : decode cX9_init 35 = .ok (.aload_n 0, 1) := by decide +kernel
theorem dX9_init_36 : decode cX9_init 36 = .ok (.getfield 10, 3) := by decide +kernel
theorem dX9_init_39 : decode cX9_init 39 = .ok (.invokespecial 27, 3) := by decide +kernel
theorem dX9_init_42 : decode cX9_init 42 = .ok (.putfield 28, 3) := by decide +kernel
theorem dX9_init_45 : decode cX9_init 45 = .ok (.aload_n 0, 1) := by decide +kernel
theorem dX9_init_46 : decode cX9_init 46 = .ok (.new 32, 3) := by decide +kernel
theorem dX9_init_49 : decode cX9_init 49 = .ok (.dup, 1) := by decide +kernel
theorem dX9_init_50 : decode cX9_init 50 = .ok (.aload_n 0, 1) := by decide +kernel
theorem dX9_init_51 : decode cX9_init 51 = .ok (.getfield 10, 3) := by decide +kernel
theorem dX9_init_54 : decode cX9_init 54 = .ok (.invokespecial 34, 3) := by decide +kernel
theorem dX9_init_57 : decode cX9_init 57 = .ok (.putfield 35, 3) := by decide +kernel
theorem dX9_init_60 : decode cX9_init 60 = .ok (.aload_n 0, 1) := by decide +kernel
theorem dX9_init_61 : decode cX9_init 61 = .ok (.new 39, 3) := by decide +kernel
theorem dX9_init_64 : decode cX9_init 64 = .ok (.dup, 1) := by decide +kernel
theorem dX9_init_65 : decode cX9_init 65 = .ok (.aload_n 0, 1) := by decide +kernel
theorem dX9_init_66 : decode cX9_init 66 = .ok (.getfield 10, 3) := by decide +kernel
theorem dX9_init_69 : decode cX9_init 69 = .ok (.aload_n 0, 1) := by decide +kernel
theorem dX9_init_70 : decode cX9_init 70 = .ok (.getfield 35, 3) := by decide +kernel
theorem dX9_init_73 : decode cX9_init 73 = .ok (.invokespecial 41, 3) := by decide +kernel
theorem dX9_init_76 : decode cX9_init 76 = .ok (.putfield 44, 3) := by decide +kernel
theorem dX9_init_79 : decode cX9_init 79 = .ok (.aload_n 0, 1) := by decide +kernel
theorem dX9_init_80 : decode cX9_init 80 = .ok (.new 48, 3) := by decide +kernel
theorem dX9_init_83 : decode cX9_init 83 = .ok (.dup, 1) := by decide +kernel
theorem dX9_init_84 : decode cX9_init 84 = .ok (.bipush 8, 2) := by decide +kernel
theorem dX9_init_86 : decode cX9_init 86 = .ok (.invokespecial 50, 3) := by decide +kernel
theorem dX9_init_89 : decode cX9_init 89 = .ok (.putfield 53, 3) := by decide +kernel
theorem dX9_init_92 : decode cX9_init 92 = .ok (.aload_n 0, 1) := by decide +kernel
theorem dX9_init_93 : decode cX9_init 93 = .ok (.new 57, 3) := by decide +kernel
theorem dX9_init_96 : decode cX9_init 96 = .ok (.dup, 1) := by decide +kernel
theorem dX9_init_97 : decode cX9_init 97 = .ok (.bipush 8, 2) := by decide +kernel
theorem dX9_init_99 : decode cX9_init 99 = .ok (.invokespecial 59, 3) := by decide +kernel
theorem dX9_init_102 : decode cX9_init 102 = .ok (.putfield 60, 3) := by decide +kernel
theorem dX9_init_105 : decode cX9_init 105 = .ok (.aload_n 0, 1) := by decide +kernel
theorem dX9_init_106 : decode cX9_init 106 = .ok (.new 64, 3) := by decide +kernel
theorem dX9_init_109 : decode cX9_init 109 = .ok (.dup, 1) := by decide +kernel
theorem dX9_init_110 : decode cX9_init 110 = .ok (.aload_n 0, 1) := by decide +kernel
theorem dX9_init_111 : decode cX9_init 111 = .ok (.getfield 10, 3) := by decide +kernel
theorem dX9_init_114 : decode cX9_init 114 = .ok (.aload_n 0, 1) := by decide +kernel
theorem dX9_init_115 : decode cX9_init 115 = .ok (.getfield 35, 3) := by decide +kernel
theorem dX9_init_118 : decode cX9_init 118 = .ok (.invokespecial 66, 3) := by decide +kernel
theorem dX9_init_121 : decode cX9_init 121 = .ok (.putfield 67, 3) := by decide +kernel
theorem dX9_init_124 : decode cX9_init 124 = .ok (.aload_n 0, 1) := by decide +kernel
theorem dX9_init_125 : decode cX9_init 125 = .ok (.new 71, 3) := by decide +kernel
theorem dX9_init_128 : decode cX9_init 128 = .ok (.dup, 1) := by decide +kernel
theorem dX9_init_129 : decode cX9_init 129 = .ok (.aload_n 0, 1) := by decide +kernel
theorem dX9_init_130 : decode cX9_init 130 = .ok (.getfield 10, 3) := by decide +kernel
theorem dX9_init_133 : decode cX9_init 133 = .ok (.aload_n 0, 1) := by decide +kernel
theorem dX9_init_134 : decode cX9_init 134 = .ok (.getfield 35, 3) := by decide +kernel
theorem dX9_init_137 : decode cX9_init 137 = .ok (.aload_n 0, 1) := by decide +kernel
theorem dX9_init_138 : decode cX9_init 138 = .ok (.getfield 67, 3) := by decide +kernel
theorem dX9_init_141 : decode cX9_init 141 = .ok (.invokespecial 73, 3) := by decide +kernel
theorem dX9_init_144 : decode cX9_init 144 = .ok (.putfield 76, 3) := by decide +kernel
theorem dX9_init_147 : decode cX9_init 147 = .ok (.return_, 1) := by decide +kernel
theorem dX9_write_0 : decode cX9_write 0 = .ok (.iload_n 1, 1) := by decide +kernel
theorem dX9_write_1 : decode cX9_write 1 = .ok (.ifCond .lt 10, 3) := by decide +kernel
theorem dX9_write_4 : decode cX9_write 4 = .ok (.iload_n 1, 1) := by decide +kernel
theorem dX9_write_5 : decode cX9_write 5 = .ok (.sipush 255, 3) := by decide +kernel
theorem dX9_write_8 : decode cX9_write 8 = .ok (.if_icmp .le 6, 3) := by decide +kernel
theorem dX9_write_11 : decode cX9_write 11 = .ok (.bipush (-3), 2) := by decide +kernel
theorem dX9_write_13 : decode cX9_write 13 = .ok (.ireturn, 1) := by decide +kernel
theorem dX9_write_14 : decode cX9_write 14 = .ok (.aload_n 0, 1) := by decide +kernel
theorem dX9_write_15 : decode cX9_write 15 = .ok (.getfield 21, 3) := by decide +kernel
theorem dX9_write_18 : decode cX9_write 18 = .ok (.getfield 80, 3) := by decide +kernel
theorem dX9_write_21 : decode cX9_write 21 = .ok (.sipush 200, 3) := by decide +kernel
theorem dX9_write_24 : decode cX9_write 24 = .ok (.if_icmp .lt 6, 3) := by decide +kernel
theorem dX9_write_27 : decode cX9_write 27 = .ok (.bipush (-5), 2) := by decide +kernel
theorem dX9_write_29 : decode cX9_write 29 = .ok (.ireturn, 1) := by decide +kernel
theorem dX9_write_30 : decode cX9_write 30 = .ok (.aload_n 0, 1) := by decide +kernel
theorem dX9_write_31 : decode cX9_write 31 = .ok (.getfield 21, 3) := by decide +kernel
theorem dX9_write_34 : decode cX9_write 34 = .ok (.iload_n 1, 1) := by decide +kernel
theorem dX9_write_35 : decode cX9_write 35 = .ok (.invokevirtual 84, 3) := by decide +kernel
theorem dX9_write_38 : decode cX9_write 38 = .ok (.aload_n 0, 1) := by decide +kernel
theorem dX9_write_39 : decode cX9_write 39 = .ok (.getfield 21, 3) := by decide +kernel
theorem dX9_write_42 : decode cX9_write 42 = .ok (.getfield 80, 3) := by decide +kernel
theorem dX9_write_45 : decode cX9_write 45 = .ok (.ireturn, 1) := by decide +kernel
theorem dX9_erase_0 : decode cX9_erase 0 = .ok (.aload_n 0, 1) := by decide +kernel
theorem dX9_erase_1 : decode cX9_erase 1 = .ok (.getfield 21, 3) := by decide +kernel
theorem dX9_erase_4 : decode cX9_erase 4 = .ok (.getfield 80, 3) := by decide +kernel
theorem dX9_erase_7 : decode cX9_erase 7 = .ok (.istore_n 1, 1) := by decide +kernel
theorem dX9_erase_8 : decode cX9_erase 8 = .ok (.aload_n 0, 1) := by decide +kernel
theorem dX9_erase_9 : decode cX9_erase 9 = .ok (.getfield 21, 3) := by decide +kernel
theorem dX9_erase_12 : decode cX9_erase 12 = .ok (.iconst 0, 1) := by decide +kernel
theorem dX9_erase_13 : decode cX9_erase 13 = .ok (.putfield 80, 3) := by decide +kernel
theorem dX9_erase_16 : decode cX9_erase 16 = .ok (.iload_n 1, 1) := by decide +kernel
theorem dX9_erase_17 : decode cX9_erase 17 = .ok (.ireturn, 1) := by decide +kernel
theorem dX9_fault_0 : decode cX9_fault 0 = .ok (.aload_n 0, 1) := by decide +kernel
theorem dX9_fault_1 : decode cX9_fault 1 = .ok (.getfield 21, 3) := by decide +kernel
theorem dX9_fault_4 : decode cX9_fault 4 = .ok (.invokevirtual 87, 3) := by decide +kernel
theorem dX9_fault_7 : decode cX9_fault 7 = .ok (.ireturn, 1) := by decide +kernel
theorem dX9_tell_0 : decode cX9_tell 0 = .ok (.aload_n 0, 1) := by decide +kernel
theorem dX9_tell_1 : decode cX9_tell 1 = .ok (.getfield 21, 3) := by decide +kernel
theorem dX9_tell_4 : decode cX9_tell 4 = .ok (.invokevirtual 87, 3) := by decide +kernel
theorem dX9_tell_7 : decode cX9_tell 7 = .ok (.iconst (-1), 1) := by decide +kernel
theorem dX9_tell_8 : decode cX9_tell 8 = .ok (.if_icmp .eq 6, 3) := by decide +kernel
theorem dX9_tell_11 : decode cX9_tell 11 = .ok (.bipush (-4), 2) := by decide +kernel
theorem dX9_tell_13 : decode cX9_tell 13 = .ok (.ireturn, 1) := by decide +kernel
theorem dX9_tell_14 : decode cX9_tell 14 = .ok (.iconst 0, 1) := by decide +kernel
theorem dX9_tell_15 : decode cX9_tell 15 = .ok (.istore_n 1, 1) := by decide +kernel
theorem dX9_tell_16 : decode cX9_tell 16 = .ok (.iload_n 1, 1) := by decide +kernel
theorem dX9_tell_17 : decode cX9_tell 17 = .ok (.aload_n 0, 1) := by decide +kernel
theorem dX9_tell_18 : decode cX9_tell 18 = .ok (.getfield 21, 3) := by decide +kernel
theorem dX9_tell_21 : decode cX9_tell 21 = .ok (.getfield 91, 3) := by decide +kernel
theorem dX9_tell_24 : decode cX9_tell 24 = .ok (.if_icmp .ge 14, 3) := by decide +kernel
theorem dX9_tell_27 : decode cX9_tell 27 = .ok (.aload_n 0, 1) := by decide +kernel
theorem dX9_tell_28 : decode cX9_tell 28 = .ok (.iload_n 1, 1) := by decide +kernel
theorem dX9_tell_29 : decode cX9_tell 29 = .ok (.invokevirtual 94, 3) := by decide +kernel
theorem dX9_tell_32 : decode cX9_tell 32 = .ok (.iinc 1 1, 3) := by decide +kernel
theorem dX9_tell_35 : decode cX9_tell 35 = .ok (.goto (-19), 3) := by decide +kernel
theorem dX9_tell_38 : decode cX9_tell 38 = .ok (.aload_n 0, 1) := by decide +kernel
theorem dX9_tell_39 : decode cX9_tell 39 = .ok (.getfield 28, 3) := by decide +kernel
theorem dX9_tell_42 : decode cX9_tell 42 = .ok (.iconst 0, 1) := by decide +kernel
theorem dX9_tell_43 : decode cX9_tell 43 = .ok (.putfield 97, 3) := by decide +kernel
theorem dX9_tell_46 : decode cX9_tell 46 = .ok (.aload_n 0, 1) := by decide +kernel
theorem dX9_tell_47 : decode cX9_tell 47 = .ok (.getfield 76, 3) := by decide +kernel
theorem dX9_tell_50 : decode cX9_tell 50 = .ok (.invokevirtual 100, 3) := by decide +kernel
theorem dX9_tell_53 : decode cX9_tell 53 = .ok (.aload_n 0, 1) := by decide +kernel
theorem dX9_tell_54 : decode cX9_tell 54 = .ok (.getfield 10, 3) := by decide +kernel
theorem dX9_tell_57 : decode cX9_tell 57 = .ok (.getfield 103, 3) := by decide +kernel
theorem dX9_tell_60 : decode cX9_tell 60 = .ok (.iconst 0, 1) := by decide +kernel
theorem dX9_tell_61 : decode cX9_tell 61 = .ok (.invokestatic 107, 3) := by decide +kernel
theorem dX9_tell_64 : decode cX9_tell 64 = .ok (.aload_n 0, 1) := by decide +kernel
theorem dX9_tell_65 : decode cX9_tell 65 = .ok (.getfield 21, 3) := by decide +kernel
theorem dX9_tell_68 : decode cX9_tell 68 = .ok (.iconst 0, 1) := by decide +kernel
theorem dX9_tell_69 : decode cX9_tell 69 = .ok (.putfield 80, 3) := by decide +kernel
theorem dX9_tell_72 : decode cX9_tell 72 = .ok (.aload_n 0, 1) := by decide +kernel
theorem dX9_tell_73 : decode cX9_tell 73 = .ok (.getfield 21, 3) := by decide +kernel
theorem dX9_tell_76 : decode cX9_tell 76 = .ok (.getfield 91, 3) := by decide +kernel
theorem dX9_tell_79 : decode cX9_tell 79 = .ok (.ireturn, 1) := by decide +kernel
theorem dX9_doClause_0 : decode cX9_doClause 0 = .ok (.aload_n 0, 1) := by decide +kernel
theorem dX9_doClause_1 : decode cX9_doClause 1 = .ok (.getfield 21, 3) := by decide +kernel
theorem dX9_doClause_4 : decode cX9_doClause 4 = .ok (.iload_n 1, 1) := by decide +kernel
theorem dX9_doClause_5 : decode cX9_doClause 5 = .ok (.invokevirtual 113, 3) := by decide +kernel
theorem dX9_doClause_8 : decode cX9_doClause 8 = .ok (.ifCond .eq 46, 3) := by decide +kernel
theorem dX9_doClause_11 : decode cX9_doClause 11 = .ok (.aload_n 0, 1) := by decide +kernel
theorem dX9_doClause_12 : decode cX9_doClause 12 = .ok (.getfield 10, 3) := by decide +kernel
theorem dX9_doClause_15 : decode cX9_doClause 15 = .ok (.aload_n 0, 1) := by decide +kernel
theorem dX9_doClause_16 : decode cX9_doClause 16 = .ok (.getfield 21, 3) := by decide +kernel
theorem dX9_doClause_19 : decode cX9_doClause 19 = .ok (.iload_n 1, 1) := by decide +kernel
theorem dX9_doClause_20 : decode cX9_doClause 20 = .ok (.iconst 0, 1) := by decide +kernel
theorem dX9_doClause_21 : decode cX9_doClause 21 = .ok (.invokevirtual 117, 3) := by decide +kernel
theorem dX9_doClause_24 : decode cX9_doClause 24 = .ok (.invokevirtual 121, 3) := by decide +kernel
theorem dX9_doClause_27 : decode cX9_doClause 27 = .ok (.aload_n 0, 1) := by decide +kernel
theorem dX9_doClause_28 : decode cX9_doClause 28 = .ok (.getfield 53, 3) := by decide +kernel
theorem dX9_doClause_31 : decode cX9_doClause 31 = .ok (.iconst 0, 1) := by decide +kernel
theorem dX9_doClause_32 : decode cX9_doClause 32 = .ok (.putfield 124, 3) := by decide +kernel
theorem dX9_doClause_35 : decode cX9_doClause 35 = .ok (.aload_n 0, 1) := by decide +kernel
theorem dX9_doClause_36 : decode cX9_doClause 36 = .ok (.getfield 60, 3) := by decide +kernel
theorem dX9_doClause_39 : decode cX9_doClause 39 = .ok (.iconst 0, 1) := by decide +kernel
theorem dX9_doClause_40 : decode cX9_doClause 40 = .ok (.putfield 125, 3) := by decide +kernel
theorem dX9_doClause_43 : decode cX9_doClause 43 = .ok (.aload_n 0, 1) := by decide +kernel
theorem dX9_doClause_44 : decode cX9_doClause 44 = .ok (.getfield 76, 3) := by decide +kernel
theorem dX9_doClause_47 : decode cX9_doClause 47 = .ok (.iconst 0, 1) := by decide +kernel
theorem dX9_doClause_48 : decode cX9_doClause 48 = .ok (.putfield 126, 3) := by decide +kernel
theorem dX9_doClause_51 : decode cX9_doClause 51 = .ok (.goto 46, 3) := by decide +kernel
theorem dX9_doClause_54 : decode cX9_doClause 54 = .ok (.aload_n 0, 1) := by decide +kernel
theorem dX9_doClause_55 : decode cX9_doClause 55 = .ok (.getfield 10, 3) := by decide +kernel
theorem dX9_doClause_58 : decode cX9_doClause 58 = .ok (.aload_n 0, 1) := by decide +kernel
theorem dX9_doClause_59 : decode cX9_doClause 59 = .ok (.getfield 21, 3) := by decide +kernel
theorem dX9_doClause_62 : decode cX9_doClause 62 = .ok (.iload_n 1, 1) := by decide +kernel
theorem dX9_doClause_63 : decode cX9_doClause 63 = .ok (.iconst 0, 1) := by decide +kernel
theorem dX9_doClause_64 : decode cX9_doClause 64 = .ok (.invokevirtual 117, 3) := by decide +kernel
theorem dX9_doClause_67 : decode cX9_doClause 67 = .ok (.aload_n 0, 1) := by decide +kernel
theorem dX9_doClause_68 : decode cX9_doClause 68 = .ok (.getfield 21, 3) := by decide +kernel
theorem dX9_doClause_71 : decode cX9_doClause 71 = .ok (.iload_n 1, 1) := by decide +kernel
theorem dX9_doClause_72 : decode cX9_doClause 72 = .ok (.iconst 1, 1) := by decide +kernel
theorem dX9_doClause_73 : decode cX9_doClause 73 = .ok (.invokevirtual 117, 3) := by decide +kernel
theorem dX9_doClause_76 : decode cX9_doClause 76 = .ok (.aload_n 0, 1) := by decide +kernel
theorem dX9_doClause_77 : decode cX9_doClause 77 = .ok (.getfield 21, 3) := by decide +kernel
theorem dX9_doClause_80 : decode cX9_doClause 80 = .ok (.iload_n 1, 1) := by decide +kernel
theorem dX9_doClause_81 : decode cX9_doClause 81 = .ok (.iconst 2, 1) := by decide +kernel
theorem dX9_doClause_82 : decode cX9_doClause 82 = .ok (.invokevirtual 117, 3) := by decide +kernel
theorem dX9_doClause_85 : decode cX9_doClause 85 = .ok (.aload_n 0, 1) := by decide +kernel
theorem dX9_doClause_86 : decode cX9_doClause 86 = .ok (.getfield 21, 3) := by decide +kernel
theorem dX9_doClause_89 : decode cX9_doClause 89 = .ok (.iload_n 1, 1) := by decide +kernel
theorem dX9_doClause_90 : decode cX9_doClause 90 = .ok (.iconst 3, 1) := by decide +kernel
theorem dX9_doClause_91 : decode cX9_doClause 91 = .ok (.invokevirtual 117, 3) := by decide +kernel
theorem dX9_doClause_94 : decode cX9_doClause 94 = .ok (.invokevirtual 129, 3) := by decide +kernel
theorem dX9_doClause_97 : decode cX9_doClause 97 = .ok (.return_, 1) := by decide +kernel
theorem dX9_link_0 : decode cX9_link 0 = .ok (.aload_n 0, 1) := by decide +kernel
theorem dX9_link_1 : decode cX9_link 1 = .ok (.getfield 10, 3) := by decide +kernel
theorem dX9_link_4 : decode cX9_link 4 = .ok (.iload_n 1, 1) := by decide +kernel
theorem dX9_link_5 : decode cX9_link 5 = .ok (.invokevirtual 133, 3) := by decide +kernel
theorem dX9_link_8 : decode cX9_link 8 = .ok (.ifCond .ne 6, 3) := by decide +kernel
theorem dX9_link_11 : decode cX9_link 11 = .ok (.bipush (-2), 2) := by decide +kernel
theorem dX9_link_13 : decode cX9_link 13 = .ok (.ireturn, 1) := by decide +kernel
theorem dX9_link_14 : decode cX9_link 14 = .ok (.iload_n 2, 1) := by decide +kernel
theorem dX9_link_15 : decode cX9_link 15 = .ok (.tableswitch 104 0 5 #[37, 47, 57, 67, 77, 94], 37) := by decide +kernel
theorem dX9_link_52 : decode cX9_link 52 = .ok (.aload_n 0, 1) := by decide +kernel
theorem dX9_link_53 : decode cX9_link 53 = .ok (.getfield 10, 3) := by decide +kernel
theorem dX9_link_56 : decode cX9_link 56 = .ok (.getfield 136, 3) := by decide +kernel
theorem dX9_link_59 : decode cX9_link 59 = .ok (.iload_n 1, 1) := by decide +kernel
theorem dX9_link_60 : decode cX9_link 60 = .ok (.iaload, 1) := by decide +kernel
theorem dX9_link_61 : decode cX9_link 61 = .ok (.ireturn, 1) := by decide +kernel
theorem dX9_link_62 : decode cX9_link 62 = .ok (.aload_n 0, 1) := by decide +kernel
theorem dX9_link_63 : decode cX9_link 63 = .ok (.getfield 10, 3) := by decide +kernel
theorem dX9_link_66 : decode cX9_link 66 = .ok (.getfield 139, 3) := by decide +kernel
theorem dX9_link_69 : decode cX9_link 69 = .ok (.iload_n 1, 1) := by decide +kernel
theorem dX9_link_70 : decode cX9_link 70 = .ok (.iaload, 1) := by decide +kernel
theorem dX9_link_71 : decode cX9_link 71 = .ok (.ireturn, 1) := by decide +kernel
theorem dX9_link_72 : decode cX9_link 72 = .ok (.aload_n 0, 1) := by decide +kernel
theorem dX9_link_73 : decode cX9_link 73 = .ok (.getfield 10, 3) := by decide +kernel
theorem dX9_link_76 : decode cX9_link 76 = .ok (.getfield 142, 3) := by decide +kernel
theorem dX9_link_79 : decode cX9_link 79 = .ok (.iload_n 1, 1) := by decide +kernel
theorem dX9_link_80 : decode cX9_link 80 = .ok (.iaload, 1) := by decide +kernel
theorem dX9_link_81 : decode cX9_link 81 = .ok (.ireturn, 1) := by decide +kernel
theorem dX9_link_82 : decode cX9_link 82 = .ok (.aload_n 0, 1) := by decide +kernel
theorem dX9_link_83 : decode cX9_link 83 = .ok (.getfield 10, 3) := by decide +kernel
theorem dX9_link_86 : decode cX9_link 86 = .ok (.getfield 145, 3) := by decide +kernel
theorem dX9_link_89 : decode cX9_link 89 = .ok (.iload_n 1, 1) := by decide +kernel
theorem dX9_link_90 : decode cX9_link 90 = .ok (.iaload, 1) := by decide +kernel
theorem dX9_link_91 : decode cX9_link 91 = .ok (.ireturn, 1) := by decide +kernel
theorem dX9_link_92 : decode cX9_link 92 = .ok (.aload_n 0, 1) := by decide +kernel
theorem dX9_link_93 : decode cX9_link 93 = .ok (.getfield 10, 3) := by decide +kernel
theorem dX9_link_96 : decode cX9_link 96 = .ok (.iload_n 1, 1) := by decide +kernel
theorem dX9_link_97 : decode cX9_link 97 = .ok (.invokevirtual 148, 3) := by decide +kernel
theorem dX9_link_100 : decode cX9_link 100 = .ok (.ifCond .eq 7, 3) := by decide +kernel
theorem dX9_link_103 : decode cX9_link 103 = .ok (.iconst 1, 1) := by decide +kernel
theorem dX9_link_104 : decode cX9_link 104 = .ok (.goto 4, 3) := by decide +kernel
theorem dX9_link_107 : decode cX9_link 107 = .ok (.iconst 0, 1) := by decide +kernel
theorem dX9_link_108 : decode cX9_link 108 = .ok (.ireturn, 1) := by decide +kernel
theorem dX9_link_109 : decode cX9_link 109 = .ok (.aload_n 0, 1) := by decide +kernel
theorem dX9_link_110 : decode cX9_link 110 = .ok (.getfield 10, 3) := by decide +kernel
theorem dX9_link_113 : decode cX9_link 113 = .ok (.getfield 103, 3) := by decide +kernel
theorem dX9_link_116 : decode cX9_link 116 = .ok (.iload_n 1, 1) := by decide +kernel
theorem dX9_link_117 : decode cX9_link 117 = .ok (.iaload, 1) := by decide +kernel
theorem dX9_link_118 : decode cX9_link 118 = .ok (.ireturn, 1) := by decide +kernel
theorem dX9_link_119 : decode cX9_link 119 = .ok (.bipush (-3), 2) := by decide +kernel
theorem dX9_link_121 : decode cX9_link 121 = .ok (.ireturn, 1) := by decide +kernel
theorem dX9_fail_0 : decode cX9_fail 0 = .ok (.aload_n 0, 1) := by decide +kernel
theorem dX9_fail_1 : decode cX9_fail 1 = .ok (.getfield 10, 3) := by decide +kernel
theorem dX9_fail_4 : decode cX9_fail 4 = .ok (.iload_n 1, 1) := by decide +kernel
theorem dX9_fail_5 : decode cX9_fail 5 = .ok (.invokevirtual 133, 3) := by decide +kernel
theorem dX9_fail_8 : decode cX9_fail 8 = .ok (.ifCond .ne 6, 3) := by decide +kernel
theorem dX9_fail_11 : decode cX9_fail 11 = .ok (.bipush (-2), 2) := by decide +kernel
theorem dX9_fail_13 : decode cX9_fail 13 = .ok (.ireturn, 1) := by decide +kernel
theorem dX9_fail_14 : decode cX9_fail 14 = .ok (.aload_n 0, 1) := by decide +kernel
theorem dX9_fail_15 : decode cX9_fail 15 = .ok (.getfield 10, 3) := by decide +kernel
theorem dX9_fail_18 : decode cX9_fail 18 = .ok (.iload_n 1, 1) := by decide +kernel
theorem dX9_fail_19 : decode cX9_fail 19 = .ok (.invokevirtual 148, 3) := by decide +kernel
theorem dX9_fail_22 : decode cX9_fail 22 = .ok (.ifCond .eq 11, 3) := by decide +kernel
theorem dX9_fail_25 : decode cX9_fail 25 = .ok (.aload_n 0, 1) := by decide +kernel
theorem dX9_fail_26 : decode cX9_fail 26 = .ok (.iload_n 1, 1) := by decide +kernel
theorem dX9_fail_27 : decode cX9_fail 27 = .ok (.invokevirtual 151, 3) := by decide +kernel
theorem dX9_fail_30 : decode cX9_fail 30 = .ok (.goto 5, 3) := by decide +kernel
theorem dX9_fail_33 : decode cX9_fail 33 = .ok (.bipush (-4), 2) := by decide +kernel
theorem dX9_fail_35 : decode cX9_fail 35 = .ok (.ireturn, 1) := by decide +kernel
theorem dX9_heal_0 : decode cX9_heal 0 = .ok (.aload_n 0, 1) := by decide +kernel
theorem dX9_heal_1 : decode cX9_heal 1 = .ok (.getfield 10, 3) := by decide +kernel
theorem dX9_heal_4 : decode cX9_heal 4 = .ok (.iload_n 1, 1) := by decide +kernel
theorem dX9_heal_5 : decode cX9_heal 5 = .ok (.invokevirtual 133, 3) := by decide +kernel
theorem dX9_heal_8 : decode cX9_heal 8 = .ok (.ifCond .ne 6, 3) := by decide +kernel
theorem dX9_heal_11 : decode cX9_heal 11 = .ok (.bipush (-2), 2) := by decide +kernel
theorem dX9_heal_13 : decode cX9_heal 13 = .ok (.ireturn, 1) := by decide +kernel
theorem dX9_heal_14 : decode cX9_heal 14 = .ok (.aload_n 0, 1) := by decide +kernel
theorem dX9_heal_15 : decode cX9_heal 15 = .ok (.getfield 10, 3) := by decide +kernel
theorem dX9_heal_18 : decode cX9_heal 18 = .ok (.iload_n 1, 1) := by decide +kernel
theorem dX9_heal_19 : decode cX9_heal 19 = .ok (.invokevirtual 148, 3) := by decide +kernel
theorem dX9_heal_22 : decode cX9_heal 22 = .ok (.ifCond .eq 8, 3) := by decide +kernel
theorem dX9_heal_25 : decode cX9_heal 25 = .ok (.bipush (-4), 2) := by decide +kernel
theorem dX9_heal_27 : decode cX9_heal 27 = .ok (.goto 8, 3) := by decide +kernel
theorem dX9_heal_30 : decode cX9_heal 30 = .ok (.aload_n 0, 1) := by decide +kernel
theorem dX9_heal_31 : decode cX9_heal 31 = .ok (.iload_n 1, 1) := by decide +kernel
theorem dX9_heal_32 : decode cX9_heal 32 = .ok (.invokevirtual 151, 3) := by decide +kernel
theorem dX9_heal_35 : decode cX9_heal 35 = .ok (.ireturn, 1) := by decide +kernel
theorem dX9_turn_0 : decode cX9_turn 0 = .ok (.aload_n 0, 1) := by decide +kernel
theorem dX9_turn_1 : decode cX9_turn 1 = .ok (.getfield 28, 3) := by decide +kernel
theorem dX9_turn_4 : decode cX9_turn 4 = .ok (.invokevirtual 155, 3) := by decide +kernel
theorem dX9_turn_7 : decode cX9_turn 7 = .ok (.aload_n 0, 1) := by decide +kernel
theorem dX9_turn_8 : decode cX9_turn 8 = .ok (.getfield 10, 3) := by decide +kernel
theorem dX9_turn_11 : decode cX9_turn 11 = .ok (.dup, 1) := by decide +kernel
theorem dX9_turn_12 : decode cX9_turn 12 = .ok (.getfield 158, 3) := by decide +kernel
theorem dX9_turn_15 : decode cX9_turn 15 = .ok (.iconst 1, 1) := by decide +kernel
theorem dX9_turn_16 : decode cX9_turn 16 = .ok (.iload_n 1, 1) := by decide +kernel
theorem dX9_turn_17 : decode cX9_turn 17 = .ok (.ishl, 1) := by decide +kernel
theorem dX9_turn_18 : decode cX9_turn 18 = .ok (.ixor, 1) := by decide +kernel
theorem dX9_turn_19 : decode cX9_turn 19 = .ok (.putfield 158, 3) := by decide +kernel
theorem dX9_turn_22 : decode cX9_turn 22 = .ok (.aload_n 0, 1) := by decide +kernel
theorem dX9_turn_23 : decode cX9_turn 23 = .ok (.getfield 10, 3) := by decide +kernel
theorem dX9_turn_26 : decode cX9_turn 26 = .ok (.getfield 158, 3) := by decide +kernel
theorem dX9_turn_29 : decode cX9_turn 29 = .ok (.invokestatic 161, 3) := by decide +kernel
theorem dX9_turn_32 : decode cX9_turn 32 = .ok (.ireturn, 1) := by decide +kernel
theorem dX9_tune_0 : decode cX9_tune 0 = .ok (.aload_n 0, 1) := by decide +kernel
theorem dX9_tune_1 : decode cX9_tune 1 = .ok (.getfield 10, 3) := by decide +kernel
theorem dX9_tune_4 : decode cX9_tune 4 = .ok (.iload_n 1, 1) := by decide +kernel
theorem dX9_tune_5 : decode cX9_tune 5 = .ok (.invokevirtual 133, 3) := by decide +kernel
theorem dX9_tune_8 : decode cX9_tune 8 = .ok (.ifCond .ne 6, 3) := by decide +kernel
theorem dX9_tune_11 : decode cX9_tune 11 = .ok (.bipush (-2), 2) := by decide +kernel
theorem dX9_tune_13 : decode cX9_tune 13 = .ok (.ireturn, 1) := by decide +kernel
theorem dX9_tune_14 : decode cX9_tune 14 = .ok (.iload_n 2, 1) := by decide +kernel
theorem dX9_tune_15 : decode cX9_tune 15 = .ok (.iconst 1, 1) := by decide +kernel
theorem dX9_tune_16 : decode cX9_tune 16 = .ok (.if_icmp .lt 20, 3) := by decide +kernel
theorem dX9_tune_19 : decode cX9_tune 19 = .ok (.iload_n 2, 1) := by decide +kernel
theorem dX9_tune_20 : decode cX9_tune 20 = .ok (.bipush 9, 2) := by decide +kernel
theorem dX9_tune_22 : decode cX9_tune 22 = .ok (.if_icmp .gt 14, 3) := by decide +kernel
theorem dX9_tune_25 : decode cX9_tune 25 = .ok (.iload_n 3, 1) := by decide +kernel
theorem dX9_tune_26 : decode cX9_tune 26 = .ok (.iconst 1, 1) := by decide +kernel
theorem dX9_tune_27 : decode cX9_tune 27 = .ok (.if_icmp .lt 9, 3) := by decide +kernel
theorem dX9_tune_30 : decode cX9_tune 30 = .ok (.iload_n 3, 1) := by decide +kernel
theorem dX9_tune_31 : decode cX9_tune 31 = .ok (.bipush 9, 2) := by decide +kernel
theorem dX9_tune_33 : decode cX9_tune 33 = .ok (.if_icmp .le 6, 3) := by decide +kernel
theorem dX9_tune_36 : decode cX9_tune 36 = .ok (.bipush (-3), 2) := by decide +kernel
theorem dX9_tune_38 : decode cX9_tune 38 = .ok (.ireturn, 1) := by decide +kernel
theorem dX9_tune_39 : decode cX9_tune 39 = .ok (.aload_n 0, 1) := by decide +kernel
theorem dX9_tune_40 : decode cX9_tune 40 = .ok (.getfield 10, 3) := by decide +kernel
theorem dX9_tune_43 : decode cX9_tune 43 = .ok (.getfield 142, 3) := by decide +kernel
theorem dX9_tune_46 : decode cX9_tune 46 = .ok (.iload_n 1, 1) := by decide +kernel
theorem dX9_tune_47 : decode cX9_tune 47 = .ok (.iaload, 1) := by decide +kernel
theorem dX9_tune_48 : decode cX9_tune 48 = .ok (.istore 4, 2) := by decide +kernel
theorem dX9_tune_50 : decode cX9_tune 50 = .ok (.aload_n 0, 1) := by decide +kernel
theorem dX9_tune_51 : decode cX9_tune 51 = .ok (.getfield 28, 3) := by decide +kernel
theorem dX9_tune_54 : decode cX9_tune 54 = .ok (.iload_n 1, 1) := by decide +kernel
theorem dX9_tune_55 : decode cX9_tune 55 = .ok (.invokevirtual 166, 3) := by decide +kernel
theorem dX9_tune_58 : decode cX9_tune 58 = .ok (.aload_n 0, 1) := by decide +kernel
theorem dX9_tune_59 : decode cX9_tune 59 = .ok (.getfield 10, 3) := by decide +kernel
theorem dX9_tune_62 : decode cX9_tune 62 = .ok (.getfield 142, 3) := by decide +kernel
theorem dX9_tune_65 : decode cX9_tune 65 = .ok (.iload_n 1, 1) := by decide +kernel
theorem dX9_tune_66 : decode cX9_tune 66 = .ok (.iload_n 2, 1) := by decide +kernel
theorem dX9_tune_67 : decode cX9_tune 67 = .ok (.iastore, 1) := by decide +kernel
theorem dX9_tune_68 : decode cX9_tune 68 = .ok (.aload_n 0, 1) := by decide +kernel
theorem dX9_tune_69 : decode cX9_tune 69 = .ok (.getfield 10, 3) := by decide +kernel
theorem dX9_tune_72 : decode cX9_tune 72 = .ok (.getfield 145, 3) := by decide +kernel
theorem dX9_tune_75 : decode cX9_tune 75 = .ok (.iload_n 1, 1) := by decide +kernel
theorem dX9_tune_76 : decode cX9_tune 76 = .ok (.iload_n 3, 1) := by decide +kernel
theorem dX9_tune_77 : decode cX9_tune 77 = .ok (.iastore, 1) := by decide +kernel
theorem dX9_tune_78 : decode cX9_tune 78 = .ok (.iload 4, 2) := by decide +kernel
theorem dX9_tune_80 : decode cX9_tune 80 = .ok (.ireturn, 1) := by decide +kernel
theorem dX9_learn_0 : decode cX9_learn 0 = .ok (.aload_n 0, 1) := by decide +kernel
theorem dX9_learn_1 : decode cX9_learn 1 = .ok (.getfield 10, 3) := by decide +kernel
theorem dX9_learn_4 : decode cX9_learn 4 = .ok (.iload_n 1, 1) := by decide +kernel
theorem dX9_learn_5 : decode cX9_learn 5 = .ok (.invokevirtual 169, 3) := by decide +kernel
theorem dX9_learn_8 : decode cX9_learn 8 = .ok (.ifCond .ne 6, 3) := by decide +kernel
theorem dX9_learn_11 : decode cX9_learn 11 = .ok (.bipush (-2), 2) := by decide +kernel
theorem dX9_learn_13 : decode cX9_learn 13 = .ok (.ireturn, 1) := by decide +kernel
theorem dX9_learn_14 : decode cX9_learn 14 = .ok (.aload_n 0, 1) := by decide +kernel
theorem dX9_learn_15 : decode cX9_learn 15 = .ok (.getfield 10, 3) := by decide +kernel
theorem dX9_learn_18 : decode cX9_learn 18 = .ok (.getfield 172, 3) := by decide +kernel
theorem dX9_learn_21 : decode cX9_learn 21 = .ok (.iload_n 1, 1) := by decide +kernel
theorem dX9_learn_22 : decode cX9_learn 22 = .ok (.iaload, 1) := by decide +kernel
theorem dX9_learn_23 : decode cX9_learn 23 = .ok (.aload_n 0, 1) := by decide +kernel
theorem dX9_learn_24 : decode cX9_learn 24 = .ok (.getfield 10, 3) := by decide +kernel
theorem dX9_learn_27 : decode cX9_learn 27 = .ok (.getfield 158, 3) := by decide +kernel
theorem dX9_learn_30 : decode cX9_learn 30 = .ok (.ixor, 1) := by decide +kernel
theorem dX9_learn_31 : decode cX9_learn 31 = .ok (.invokestatic 161, 3) := by decide +kernel
theorem dX9_learn_34 : decode cX9_learn 34 = .ok (.istore_n 2, 1) := by decide +kernel
theorem dX9_learn_35 : decode cX9_learn 35 = .ok (.aload_n 0, 1) := by decide +kernel
theorem dX9_learn_36 : decode cX9_learn 36 = .ok (.getfield 28, 3) := by decide +kernel
theorem dX9_learn_39 : decode cX9_learn 39 = .ok (.iload_n 1, 1) := by decide +kernel
theorem dX9_learn_40 : decode cX9_learn 40 = .ok (.invokevirtual 175, 3) := by decide +kernel
theorem dX9_learn_43 : decode cX9_learn 43 = .ok (.aload_n 0, 1) := by decide +kernel
theorem dX9_learn_44 : decode cX9_learn 44 = .ok (.getfield 10, 3) := by decide +kernel
theorem dX9_learn_47 : decode cX9_learn 47 = .ok (.getfield 172, 3) := by decide +kernel
theorem dX9_learn_50 : decode cX9_learn 50 = .ok (.iload_n 1, 1) := by decide +kernel
theorem dX9_learn_51 : decode cX9_learn 51 = .ok (.aload_n 0, 1) := by decide +kernel
theorem dX9_learn_52 : decode cX9_learn 52 = .ok (.getfield 10, 3) := by decide +kernel
theorem dX9_learn_55 : decode cX9_learn 55 = .ok (.getfield 158, 3) := by decide +kernel
theorem dX9_learn_58 : decode cX9_learn 58 = .ok (.iastore, 1) := by decide +kernel
theorem dX9_learn_59 : decode cX9_learn 59 = .ok (.iload_n 2, 1) := by decide +kernel
theorem dX9_learn_60 : decode cX9_learn 60 = .ok (.ireturn, 1) := by decide +kernel
theorem dX9_undo_0 : decode cX9_undo 0 = .ok (.aload_n 0, 1) := by decide +kernel
theorem dX9_undo_1 : decode cX9_undo 1 = .ok (.getfield 28, 3) := by decide +kernel
theorem dX9_undo_4 : decode cX9_undo 4 = .ok (.getfield 97, 3) := by decide +kernel
theorem dX9_undo_7 : decode cX9_undo 7 = .ok (.ifCond .ne 6, 3) := by decide +kernel
theorem dX9_undo_10 : decode cX9_undo 10 = .ok (.bipush (-4), 2) := by decide +kernel
theorem dX9_undo_12 : decode cX9_undo 12 = .ok (.ireturn, 1) := by decide +kernel
theorem dX9_undo_13 : decode cX9_undo 13 = .ok (.aload_n 0, 1) := by decide +kernel
theorem dX9_undo_14 : decode cX9_undo 14 = .ok (.getfield 28, 3) := by decide +kernel
theorem dX9_undo_17 : decode cX9_undo 17 = .ok (.invokevirtual 178, 3) := by decide +kernel
theorem dX9_undo_20 : decode cX9_undo 20 = .ok (.aload_n 0, 1) := by decide +kernel
theorem dX9_undo_21 : decode cX9_undo 21 = .ok (.getfield 28, 3) := by decide +kernel
theorem dX9_undo_24 : decode cX9_undo 24 = .ok (.getfield 97, 3) := by decide +kernel
theorem dX9_undo_27 : decode cX9_undo 27 = .ok (.ireturn, 1) := by decide +kernel
theorem dX9_seen_0 : decode cX9_seen 0 = .ok (.aload_n 0, 1) := by decide +kernel
theorem dX9_seen_1 : decode cX9_seen 1 = .ok (.getfield 10, 3) := by decide +kernel
theorem dX9_seen_4 : decode cX9_seen 4 = .ok (.iload_n 1, 1) := by decide +kernel
theorem dX9_seen_5 : decode cX9_seen 5 = .ok (.invokevirtual 169, 3) := by decide +kernel
theorem dX9_seen_8 : decode cX9_seen 8 = .ok (.ifCond .eq 15, 3) := by decide +kernel
theorem dX9_seen_11 : decode cX9_seen 11 = .ok (.aload_n 0, 1) := by decide +kernel
theorem dX9_seen_12 : decode cX9_seen 12 = .ok (.getfield 10, 3) := by decide +kernel
theorem dX9_seen_15 : decode cX9_seen 15 = .ok (.getfield 172, 3) := by decide +kernel
theorem dX9_seen_18 : decode cX9_seen 18 = .ok (.iload_n 1, 1) := by decide +kernel
theorem dX9_seen_19 : decode cX9_seen 19 = .ok (.iaload, 1) := by decide +kernel
theorem dX9_seen_20 : decode cX9_seen 20 = .ok (.goto 5, 3) := by decide +kernel
theorem dX9_seen_23 : decode cX9_seen 23 = .ok (.bipush (-2), 2) := by decide +kernel
theorem dX9_seen_25 : decode cX9_seen 25 = .ok (.ireturn, 1) := by decide +kernel
theorem dX9_next_0 : decode cX9_next 0 = .ok (.aload_n 0, 1) := by decide +kernel
theorem dX9_next_1 : decode cX9_next 1 = .ok (.getfield 10, 3) := by decide +kernel
theorem dX9_next_4 : decode cX9_next 4 = .ok (.iload_n 1, 1) := by decide +kernel
theorem dX9_next_5 : decode cX9_next 5 = .ok (.invokevirtual 169, 3) := by decide +kernel
theorem dX9_next_8 : decode cX9_next 8 = .ok (.ifCond .eq 14, 3) := by decide +kernel
theorem dX9_next_11 : decode cX9_next 11 = .ok (.aload_n 0, 1) := by decide +kernel
theorem dX9_next_12 : decode cX9_next 12 = .ok (.getfield 10, 3) := by decide +kernel
theorem dX9_next_15 : decode cX9_next 15 = .ok (.iload_n 2, 1) := by decide +kernel
theorem dX9_next_16 : decode cX9_next 16 = .ok (.invokevirtual 169, 3) := by decide +kernel
theorem dX9_next_19 : decode cX9_next 19 = .ok (.ifCond .ne 6, 3) := by decide +kernel
theorem dX9_next_22 : decode cX9_next 22 = .ok (.bipush (-2), 2) := by decide +kernel
theorem dX9_next_24 : decode cX9_next 24 = .ok (.ireturn, 1) := by decide +kernel
theorem dX9_next_25 : decode cX9_next 25 = .ok (.iload_n 3, 1) := by decide +kernel
theorem dX9_next_26 : decode cX9_next 26 = .ok (.ifCond .eq 11, 3) := by decide +kernel
theorem dX9_next_29 : decode cX9_next 29 = .ok (.iload_n 3, 1) := by decide +kernel
theorem dX9_next_30 : decode cX9_next 30 = .ok (.iconst 1, 1) := by decide +kernel
theorem dX9_next_31 : decode cX9_next 31 = .ok (.if_icmp .eq 6, 3) := by decide +kernel
theorem dX9_next_34 : decode cX9_next 34 = .ok (.bipush (-3), 2) := by decide +kernel
theorem dX9_next_36 : decode cX9_next 36 = .ok (.ireturn, 1) := by decide +kernel
theorem dX9_next_37 : decode cX9_next 37 = .ok (.aload_n 0, 1) := by decide +kernel
theorem dX9_next_38 : decode cX9_next 38 = .ok (.getfield 35, 3) := by decide +kernel
theorem dX9_next_41 : decode cX9_next 41 = .ok (.iload_n 2, 1) := by decide +kernel
theorem dX9_next_42 : decode cX9_next 42 = .ok (.iload_n 3, 1) := by decide +kernel
theorem dX9_next_43 : decode cX9_next 43 = .ok (.aload_n 0, 1) := by decide +kernel
theorem dX9_next_44 : decode cX9_next 44 = .ok (.getfield 10, 3) := by decide +kernel
theorem dX9_next_47 : decode cX9_next 47 = .ok (.getfield 172, 3) := by decide +kernel
theorem dX9_next_50 : decode cX9_next 50 = .ok (.iload_n 1, 1) := by decide +kernel
theorem dX9_next_51 : decode cX9_next 51 = .ok (.iaload, 1) := by decide +kernel
theorem dX9_next_52 : decode cX9_next 52 = .ok (.invokevirtual 181, 3) := by decide +kernel
theorem dX9_next_55 : decode cX9_next 55 = .ok (.aload_n 0, 1) := by decide +kernel
theorem dX9_next_56 : decode cX9_next 56 = .ok (.getfield 35, 3) := by decide +kernel
theorem dX9_next_59 : decode cX9_next 59 = .ok (.iload_n 1, 1) := by decide +kernel
theorem dX9_next_60 : decode cX9_next 60 = .ok (.invokevirtual 185, 3) := by decide +kernel
theorem dX9_next_63 : decode cX9_next 63 = .ok (.ireturn, 1) := by decide +kernel
theorem dX9_far_0 : decode cX9_far 0 = .ok (.aload_n 0, 1) := by decide +kernel
theorem dX9_far_1 : decode cX9_far 1 = .ok (.getfield 10, 3) := by decide +kernel
theorem dX9_far_4 : decode cX9_far 4 = .ok (.iload_n 1, 1) := by decide +kernel
theorem dX9_far_5 : decode cX9_far 5 = .ok (.invokevirtual 169, 3) := by decide +kernel
theorem dX9_far_8 : decode cX9_far 8 = .ok (.ifCond .eq 14, 3) := by decide +kernel
theorem dX9_far_11 : decode cX9_far 11 = .ok (.aload_n 0, 1) := by decide +kernel
theorem dX9_far_12 : decode cX9_far 12 = .ok (.getfield 10, 3) := by decide +kernel
theorem dX9_far_15 : decode cX9_far 15 = .ok (.iload_n 2, 1) := by decide +kernel
theorem dX9_far_16 : decode cX9_far 16 = .ok (.invokevirtual 169, 3) := by decide +kernel
theorem dX9_far_19 : decode cX9_far 19 = .ok (.ifCond .ne 6, 3) := by decide +kernel
theorem dX9_far_22 : decode cX9_far 22 = .ok (.bipush (-2), 2) := by decide +kernel
theorem dX9_far_24 : decode cX9_far 24 = .ok (.ireturn, 1) := by decide +kernel
theorem dX9_far_25 : decode cX9_far 25 = .ok (.iload_n 3, 1) := by decide +kernel
theorem dX9_far_26 : decode cX9_far 26 = .ok (.ifCond .eq 11, 3) := by decide +kernel
theorem dX9_far_29 : decode cX9_far 29 = .ok (.iload_n 3, 1) := by decide +kernel
theorem dX9_far_30 : decode cX9_far 30 = .ok (.iconst 1, 1) := by decide +kernel
theorem dX9_far_31 : decode cX9_far 31 = .ok (.if_icmp .eq 6, 3) := by decide +kernel
theorem dX9_far_34 : decode cX9_far 34 = .ok (.bipush (-3), 2) := by decide +kernel
theorem dX9_far_36 : decode cX9_far 36 = .ok (.ireturn, 1) := by decide +kernel
theorem dX9_far_37 : decode cX9_far 37 = .ok (.aload_n 0, 1) := by decide +kernel
theorem dX9_far_38 : decode cX9_far 38 = .ok (.getfield 35, 3) := by decide +kernel
theorem dX9_far_41 : decode cX9_far 41 = .ok (.iload_n 2, 1) := by decide +kernel
theorem dX9_far_42 : decode cX9_far 42 = .ok (.iload_n 3, 1) := by decide +kernel
theorem dX9_far_43 : decode cX9_far 43 = .ok (.aload_n 0, 1) := by decide +kernel
theorem dX9_far_44 : decode cX9_far 44 = .ok (.getfield 10, 3) := by decide +kernel
theorem dX9_far_47 : decode cX9_far 47 = .ok (.getfield 172, 3) := by decide +kernel
theorem dX9_far_50 : decode cX9_far 50 = .ok (.iload_n 1, 1) := by decide +kernel
theorem dX9_far_51 : decode cX9_far 51 = .ok (.iaload, 1) := by decide +kernel
theorem dX9_far_52 : decode cX9_far 52 = .ok (.invokevirtual 181, 3) := by decide +kernel
theorem dX9_far_55 : decode cX9_far 55 = .ok (.aload_n 0, 1) := by decide +kernel
theorem dX9_far_56 : decode cX9_far 56 = .ok (.getfield 35, 3) := by decide +kernel
theorem dX9_far_59 : decode cX9_far 59 = .ok (.iload_n 1, 1) := by decide +kernel
theorem dX9_far_60 : decode cX9_far 60 = .ok (.invokevirtual 188, 3) := by decide +kernel
theorem dX9_far_63 : decode cX9_far 63 = .ok (.ireturn, 1) := by decide +kernel
theorem dX9_space_0 : decode cX9_space 0 = .ok (.aload_n 0, 1) := by decide +kernel
theorem dX9_space_1 : decode cX9_space 1 = .ok (.getfield 10, 3) := by decide +kernel
theorem dX9_space_4 : decode cX9_space 4 = .ok (.iload_n 1, 1) := by decide +kernel
theorem dX9_space_5 : decode cX9_space 5 = .ok (.invokevirtual 169, 3) := by decide +kernel
theorem dX9_space_8 : decode cX9_space 8 = .ok (.ifCond .eq 14, 3) := by decide +kernel
theorem dX9_space_11 : decode cX9_space 11 = .ok (.aload_n 0, 1) := by decide +kernel
theorem dX9_space_12 : decode cX9_space 12 = .ok (.getfield 10, 3) := by decide +kernel
theorem dX9_space_15 : decode cX9_space 15 = .ok (.iload_n 2, 1) := by decide +kernel
theorem dX9_space_16 : decode cX9_space 16 = .ok (.invokevirtual 133, 3) := by decide +kernel
theorem dX9_space_19 : decode cX9_space 19 = .ok (.ifCond .ne 6, 3) := by decide +kernel
theorem dX9_space_22 : decode cX9_space 22 = .ok (.bipush (-2), 2) := by decide +kernel
theorem dX9_space_24 : decode cX9_space 24 = .ok (.ireturn, 1) := by decide +kernel
theorem dX9_space_25 : decode cX9_space 25 = .ok (.iload_n 3, 1) := by decide +kernel
theorem dX9_space_26 : decode cX9_space 26 = .ok (.ifCond .eq 11, 3) := by decide +kernel
theorem dX9_space_29 : decode cX9_space 29 = .ok (.iload_n 3, 1) := by decide +kernel
theorem dX9_space_30 : decode cX9_space 30 = .ok (.iconst 1, 1) := by decide +kernel
theorem dX9_space_31 : decode cX9_space 31 = .ok (.if_icmp .eq 6, 3) := by decide +kernel
theorem dX9_space_34 : decode cX9_space 34 = .ok (.bipush (-3), 2) := by decide +kernel
theorem dX9_space_36 : decode cX9_space 36 = .ok (.ireturn, 1) := by decide +kernel
theorem dX9_space_37 : decode cX9_space 37 = .ok (.iconst 0, 1) := by decide +kernel
theorem dX9_space_38 : decode cX9_space 38 = .ok (.istore 4, 2) := by decide +kernel
theorem dX9_space_40 : decode cX9_space 40 = .ok (.iconst 0, 1) := by decide +kernel
theorem dX9_space_41 : decode cX9_space 41 = .ok (.istore 5, 2) := by decide +kernel
theorem dX9_space_43 : decode cX9_space 43 = .ok (.iload 5, 2) := by decide +kernel
theorem dX9_space_45 : decode cX9_space 45 = .ok (.aload_n 0, 1) := by decide +kernel
theorem dX9_space_46 : decode cX9_space 46 = .ok (.getfield 10, 3) := by decide +kernel
theorem dX9_space_49 : decode cX9_space 49 = .ok (.getfield 191, 3) := by decide +kernel
theorem dX9_space_52 : decode cX9_space 52 = .ok (.if_icmp .ge 66, 3) := by decide +kernel
theorem dX9_space_55 : decode cX9_space 55 = .ok (.iload_n 3, 1) := by decide +kernel
theorem dX9_space_56 : decode cX9_space 56 = .ok (.ifCond .ne 7, 3) := by decide +kernel
theorem dX9_space_59 : decode cX9_space 59 = .ok (.iload_n 1, 1) := by decide +kernel
theorem dX9_space_60 : decode cX9_space 60 = .ok (.goto 5, 3) := by decide +kernel
theorem dX9_space_63 : decode cX9_space 63 = .ok (.iload 5, 2) := by decide +kernel
theorem dX9_space_65 : decode cX9_space 65 = .ok (.istore 6, 2) := by decide +kernel
theorem dX9_space_67 : decode cX9_space 67 = .ok (.iload_n 3, 1) := by decide +kernel
theorem dX9_space_68 : decode cX9_space 68 = .ok (.ifCond .ne 8, 3) := by decide +kernel
theorem dX9_space_71 : decode cX9_space 71 = .ok (.iload 5, 2) := by decide +kernel
theorem dX9_space_73 : decode cX9_space 73 = .ok (.goto 4, 3) := by decide +kernel
theorem dX9_space_76 : decode cX9_space 76 = .ok (.iload_n 1, 1) := by decide +kernel
theorem dX9_space_77 : decode cX9_space 77 = .ok (.istore 7, 2) := by decide +kernel
theorem dX9_space_79 : decode cX9_space 79 = .ok (.aload_n 0, 1) := by decide +kernel
theorem dX9_space_80 : decode cX9_space 80 = .ok (.getfield 35, 3) := by decide +kernel
theorem dX9_space_83 : decode cX9_space 83 = .ok (.iload 6, 2) := by decide +kernel
theorem dX9_space_85 : decode cX9_space 85 = .ok (.iload 7, 2) := by decide +kernel
theorem dX9_space_87 : decode cX9_space 87 = .ok (.aload_n 0, 1) := by decide +kernel
theorem dX9_space_88 : decode cX9_space 88 = .ok (.getfield 10, 3) := by decide +kernel
theorem dX9_space_91 : decode cX9_space 91 = .ok (.getfield 172, 3) := by decide +kernel
theorem dX9_space_94 : decode cX9_space 94 = .ok (.iload_n 1, 1) := by decide +kernel
theorem dX9_space_95 : decode cX9_space 95 = .ok (.iaload, 1) := by decide +kernel
theorem dX9_space_96 : decode cX9_space 96 = .ok (.iload_n 2, 1) := by decide +kernel
theorem dX9_space_97 : decode cX9_space 97 = .ok (.invokevirtual 194, 3) := by decide +kernel
theorem dX9_space_100 : decode cX9_space 100 = .ok (.ifCond .eq 12, 3) := by decide +kernel
theorem dX9_space_103 : decode cX9_space 103 = .ok (.iload 4, 2) := by decide +kernel
theorem dX9_space_105 : decode cX9_space 105 = .ok (.iconst 1, 1) := by decide +kernel
theorem dX9_space_106 : decode cX9_space 106 = .ok (.iload 5, 2) := by decide +kernel
theorem dX9_space_108 : decode cX9_space 108 = .ok (.ishl, 1) := by decide +kernel
theorem dX9_space_109 : decode cX9_space 109 = .ok (.ior, 1) := by decide +kernel
theorem dX9_space_110 : decode cX9_space 110 = .ok (.istore 4, 2) := by decide +kernel
theorem dX9_space_112 : decode cX9_space 112 = .ok (.iinc 5 1, 3) := by decide +kernel
theorem dX9_space_115 : decode cX9_space 115 = .ok (.goto (-72), 3) := by decide +kernel
theorem dX9_space_118 : decode cX9_space 118 = .ok (.iload 4, 2) := by decide +kernel
theorem dX9_space_120 : decode cX9_space 120 = .ok (.ireturn, 1) := by decide +kernel
theorem dX9_rings_0 : decode cX9_rings 0 = .ok (.aload_n 0, 1) := by decide +kernel
theorem dX9_rings_1 : decode cX9_rings 1 = .ok (.getfield 10, 3) := by decide +kernel
theorem dX9_rings_4 : decode cX9_rings 4 = .ok (.iload_n 1, 1) := by decide +kernel
theorem dX9_rings_5 : decode cX9_rings 5 = .ok (.invokevirtual 169, 3) := by decide +kernel
theorem dX9_rings_8 : decode cX9_rings 8 = .ok (.ifCond .ne 6, 3) := by decide +kernel
theorem dX9_rings_11 : decode cX9_rings 11 = .ok (.bipush (-2), 2) := by decide +kernel
theorem dX9_rings_13 : decode cX9_rings 13 = .ok (.ireturn, 1) := by decide +kernel
theorem dX9_rings_14 : decode cX9_rings 14 = .ok (.aload_n 0, 1) := by decide +kernel
theorem dX9_rings_15 : decode cX9_rings 15 = .ok (.getfield 44, 3) := by decide +kernel
theorem dX9_rings_18 : decode cX9_rings 18 = .ok (.iload_n 1, 1) := by decide +kernel
theorem dX9_rings_19 : decode cX9_rings 19 = .ok (.invokevirtual 198, 3) := by decide +kernel
theorem dX9_rings_22 : decode cX9_rings 22 = .ok (.aload_n 0, 1) := by decide +kernel
theorem dX9_rings_23 : decode cX9_rings 23 = .ok (.getfield 44, 3) := by decide +kernel
theorem dX9_rings_26 : decode cX9_rings 26 = .ok (.iload_n 1, 1) := by decide +kernel
theorem dX9_rings_27 : decode cX9_rings 27 = .ok (.iconst 0, 1) := by decide +kernel
theorem dX9_rings_28 : decode cX9_rings 28 = .ok (.invokevirtual 201, 3) := by decide +kernel
theorem dX9_rings_31 : decode cX9_rings 31 = .ok (.ireturn, 1) := by decide +kernel
theorem dX9_safe_0 : decode cX9_safe 0 = .ok (.aload_n 0, 1) := by decide +kernel
theorem dX9_safe_1 : decode cX9_safe 1 = .ok (.getfield 10, 3) := by decide +kernel
theorem dX9_safe_4 : decode cX9_safe 4 = .ok (.iload_n 1, 1) := by decide +kernel
theorem dX9_safe_5 : decode cX9_safe 5 = .ok (.invokevirtual 169, 3) := by decide +kernel
theorem dX9_safe_8 : decode cX9_safe 8 = .ok (.ifCond .ne 6, 3) := by decide +kernel
theorem dX9_safe_11 : decode cX9_safe 11 = .ok (.bipush (-2), 2) := by decide +kernel
theorem dX9_safe_13 : decode cX9_safe 13 = .ok (.ireturn, 1) := by decide +kernel
theorem dX9_safe_14 : decode cX9_safe 14 = .ok (.aload_n 0, 1) := by decide +kernel
theorem dX9_safe_15 : decode cX9_safe 15 = .ok (.getfield 44, 3) := by decide +kernel
theorem dX9_safe_18 : decode cX9_safe 18 = .ok (.invokevirtual 204, 3) := by decide +kernel
theorem dX9_safe_21 : decode cX9_safe 21 = .ok (.aload_n 0, 1) := by decide +kernel
theorem dX9_safe_22 : decode cX9_safe 22 = .ok (.getfield 44, 3) := by decide +kernel
theorem dX9_safe_25 : decode cX9_safe 25 = .ok (.iconst 1, 1) := by decide +kernel
theorem dX9_safe_26 : decode cX9_safe 26 = .ok (.iload_n 1, 1) := by decide +kernel
theorem dX9_safe_27 : decode cX9_safe 27 = .ok (.ishl, 1) := by decide +kernel
theorem dX9_safe_28 : decode cX9_safe 28 = .ok (.invokevirtual 207, 3) := by decide +kernel
theorem dX9_safe_31 : decode cX9_safe 31 = .ok (.ifCond .eq 7, 3) := by decide +kernel
theorem dX9_safe_34 : decode cX9_safe 34 = .ok (.iconst 0, 1) := by decide +kernel
theorem dX9_safe_35 : decode cX9_safe 35 = .ok (.goto 4, 3) := by decide +kernel
theorem dX9_safe_38 : decode cX9_safe 38 = .ok (.iconst 1, 1) := by decide +kernel
theorem dX9_safe_39 : decode cX9_safe 39 = .ok (.ireturn, 1) := by decide +kernel
theorem dX9_order_0 : decode cX9_order 0 = .ok (.iload_n 1, 1) := by decide +kernel
theorem dX9_order_1 : decode cX9_order 1 = .ok (.iconst (-1), 1) := by decide +kernel
theorem dX9_order_2 : decode cX9_order 2 = .ok (.if_icmp .ge 6, 3) := by decide +kernel
theorem dX9_order_5 : decode cX9_order 5 = .ok (.bipush (-3), 2) := by decide +kernel
theorem dX9_order_7 : decode cX9_order 7 = .ok (.ireturn, 1) := by decide +kernel
theorem dX9_order_8 : decode cX9_order 8 = .ok (.aload_n 0, 1) := by decide +kernel
theorem dX9_order_9 : decode cX9_order 9 = .ok (.getfield 44, 3) := by decide +kernel
theorem dX9_order_12 : decode cX9_order 12 = .ok (.invokevirtual 210, 3) := by decide +kernel
theorem dX9_order_15 : decode cX9_order 15 = .ok (.ifCond .eq 17, 3) := by decide +kernel
theorem dX9_order_18 : decode cX9_order 18 = .ok (.aload_n 0, 1) := by decide +kernel
theorem dX9_order_19 : decode cX9_order 19 = .ok (.getfield 44, 3) := by decide +kernel
theorem dX9_order_22 : decode cX9_order 22 = .ok (.getfield 214, 3) := by decide +kernel
theorem dX9_order_25 : decode cX9_order 25 = .ok (.iload_n 1, 1) := by decide +kernel
theorem dX9_order_26 : decode cX9_order 26 = .ok (.invokevirtual 217, 3) := by decide +kernel
theorem dX9_order_29 : decode cX9_order 29 = .ok (.goto 5, 3) := by decide +kernel
theorem dX9_order_32 : decode cX9_order 32 = .ok (.bipush (-4), 2) := by decide +kernel
theorem dX9_order_34 : decode cX9_order 34 = .ok (.ireturn, 1) := by decide +kernel
theorem dX9_push_0 : decode cX9_push 0 = .ok (.iload_n 1, 1) := by decide +kernel
theorem dX9_push_1 : decode cX9_push 1 = .ok (.ifCond .lt 8, 3) := by decide +kernel
theorem dX9_push_4 : decode cX9_push 4 = .ok (.iload_n 1, 1) := by decide +kernel
theorem dX9_push_5 : decode cX9_push 5 = .ok (.iconst 2, 1) := by decide +kernel
theorem dX9_push_6 : decode cX9_push 6 = .ok (.if_icmp .le 6, 3) := by decide +kernel
theorem dX9_push_9 : decode cX9_push 9 = .ok (.bipush (-3), 2) := by decide +kernel
theorem dX9_push_11 : decode cX9_push 11 = .ok (.ireturn, 1) := by decide +kernel
theorem dX9_push_12 : decode cX9_push 12 = .ok (.iload_n 1, 1) := by decide +kernel
theorem dX9_push_13 : decode cX9_push 13 = .ok (.iconst 2, 1) := by decide +kernel
theorem dX9_push_14 : decode cX9_push 14 = .ok (.if_icmp .ne 17, 3) := by decide +kernel
theorem dX9_push_17 : decode cX9_push 17 = .ok (.aload_n 0, 1) := by decide +kernel
theorem dX9_push_18 : decode cX9_push 18 = .ok (.getfield 10, 3) := by decide +kernel
theorem dX9_push_21 : decode cX9_push 21 = .ok (.iload_n 2, 1) := by decide +kernel
theorem dX9_push_22 : decode cX9_push 22 = .ok (.invokevirtual 133, 3) := by decide +kernel
theorem dX9_push_25 : decode cX9_push 25 = .ok (.ifCond .ne 20, 3) := by decide +kernel
theorem dX9_push_28 : decode cX9_push 28 = .ok (.goto 14, 3) := by decide +kernel
theorem dX9_push_31 : decode cX9_push 31 = .ok (.aload_n 0, 1) := by decide +kernel
theorem dX9_push_32 : decode cX9_push 32 = .ok (.getfield 10, 3) := by decide +kernel
theorem dX9_push_35 : decode cX9_push 35 = .ok (.iload_n 2, 1) := by decide +kernel
theorem dX9_push_36 : decode cX9_push 36 = .ok (.invokevirtual 169, 3) := by decide +kernel
theorem dX9_push_39 : decode cX9_push 39 = .ok (.ifCond .ne 6, 3) := by decide +kernel
theorem dX9_push_42 : decode cX9_push 42 = .ok (.bipush (-2), 2) := by decide +kernel
theorem dX9_push_44 : decode cX9_push 44 = .ok (.ireturn, 1) := by decide +kernel
theorem dX9_push_45 : decode cX9_push 45 = .ok (.aload_n 0, 1) := by decide +kernel
theorem dX9_push_46 : decode cX9_push 46 = .ok (.getfield 53, 3) := by decide +kernel
theorem dX9_push_49 : decode cX9_push 49 = .ok (.getfield 124, 3) := by decide +kernel
theorem dX9_push_52 : decode cX9_push 52 = .ok (.bipush 8, 2) := by decide +kernel
theorem dX9_push_54 : decode cX9_push 54 = .ok (.if_icmp .lt 6, 3) := by decide +kernel
theorem dX9_push_57 : decode cX9_push 57 = .ok (.bipush (-5), 2) := by decide +kernel
theorem dX9_push_59 : decode cX9_push 59 = .ok (.ireturn, 1) := by decide +kernel
theorem dX9_push_60 : decode cX9_push 60 = .ok (.aload_n 0, 1) := by decide +kernel
theorem dX9_push_61 : decode cX9_push 61 = .ok (.getfield 53, 3) := by decide +kernel
theorem dX9_push_64 : decode cX9_push 64 = .ok (.iload_n 1, 1) := by decide +kernel
theorem dX9_push_65 : decode cX9_push 65 = .ok (.iload_n 2, 1) := by decide +kernel
theorem dX9_push_66 : decode cX9_push 66 = .ok (.invokevirtual 219, 3) := by decide +kernel
theorem dX9_push_69 : decode cX9_push 69 = .ok (.aload_n 0, 1) := by decide +kernel
theorem dX9_push_70 : decode cX9_push 70 = .ok (.getfield 53, 3) := by decide +kernel
theorem dX9_push_73 : decode cX9_push 73 = .ok (.getfield 124, 3) := by decide +kernel
theorem dX9_push_76 : decode cX9_push 76 = .ok (.ireturn, 1) := by decide +kernel
theorem dX9_clear_0 : decode cX9_clear 0 = .ok (.aload_n 0, 1) := by decide +kernel
theorem dX9_clear_1 : decode cX9_clear 1 = .ok (.getfield 53, 3) := by decide +kernel
theorem dX9_clear_4 : decode cX9_clear 4 = .ok (.getfield 124, 3) := by decide +kernel
theorem dX9_clear_7 : decode cX9_clear 7 = .ok (.istore_n 1, 1) := by decide +kernel
theorem dX9_clear_8 : decode cX9_clear 8 = .ok (.aload_n 0, 1) := by decide +kernel
theorem dX9_clear_9 : decode cX9_clear 9 = .ok (.getfield 53, 3) := by decide +kernel
theorem dX9_clear_12 : decode cX9_clear 12 = .ok (.iconst 0, 1) := by decide +kernel
theorem dX9_clear_13 : decode cX9_clear 13 = .ok (.putfield 124, 3) := by decide +kernel
theorem dX9_clear_16 : decode cX9_clear 16 = .ok (.iload_n 1, 1) := by decide +kernel
theorem dX9_clear_17 : decode cX9_clear 17 = .ok (.ireturn, 1) := by decide +kernel
theorem dX9_segment_0 : decode cX9_segment 0 = .ok (.iload_n 1, 1) := by decide +kernel
theorem dX9_segment_1 : decode cX9_segment 1 = .ok (.ifCond .lt 14, 3) := by decide +kernel
theorem dX9_segment_4 : decode cX9_segment 4 = .ok (.iload_n 1, 1) := by decide +kernel
theorem dX9_segment_5 : decode cX9_segment 5 = .ok (.aload_n 0, 1) := by decide +kernel
theorem dX9_segment_6 : decode cX9_segment 6 = .ok (.getfield 53, 3) := by decide +kernel
theorem dX9_segment_9 : decode cX9_segment 9 = .ok (.getfield 124, 3) := by decide +kernel
theorem dX9_segment_12 : decode cX9_segment 12 = .ok (.if_icmp .lt 6, 3) := by decide +kernel
theorem dX9_segment_15 : decode cX9_segment 15 = .ok (.bipush (-2), 2) := by decide +kernel
theorem dX9_segment_17 : decode cX9_segment 17 = .ok (.ireturn, 1) := by decide +kernel
theorem dX9_segment_18 : decode cX9_segment 18 = .ok (.iload_n 2, 1) := by decide +kernel
theorem dX9_segment_19 : decode cX9_segment 19 = .ok (.ifCond .eq 11, 3) := by decide +kernel
theorem dX9_segment_22 : decode cX9_segment 22 = .ok (.iload_n 2, 1) := by decide +kernel
theorem dX9_segment_23 : decode cX9_segment 23 = .ok (.iconst 1, 1) := by decide +kernel
theorem dX9_segment_24 : decode cX9_segment 24 = .ok (.if_icmp .eq 6, 3) := by decide +kernel
theorem dX9_segment_27 : decode cX9_segment 27 = .ok (.bipush (-3), 2) := by decide +kernel
theorem dX9_segment_29 : decode cX9_segment 29 = .ok (.ireturn, 1) := by decide +kernel
theorem dX9_segment_30 : decode cX9_segment 30 = .ok (.iload_n 2, 1) := by decide +kernel
theorem dX9_segment_31 : decode cX9_segment 31 = .ok (.ifCond .ne 15, 3) := by decide +kernel
theorem dX9_segment_34 : decode cX9_segment 34 = .ok (.aload_n 0, 1) := by decide +kernel
theorem dX9_segment_35 : decode cX9_segment 35 = .ok (.getfield 53, 3) := by decide +kernel
theorem dX9_segment_38 : decode cX9_segment 38 = .ok (.getfield 223, 3) := by decide +kernel
theorem dX9_segment_41 : decode cX9_segment 41 = .ok (.iload_n 1, 1) := by decide +kernel
theorem dX9_segment_42 : decode cX9_segment 42 = .ok (.iaload, 1) := by decide +kernel
theorem dX9_segment_43 : decode cX9_segment 43 = .ok (.goto 12, 3) := by decide +kernel
theorem dX9_segment_46 : decode cX9_segment 46 = .ok (.aload_n 0, 1) := by decide +kernel
theorem dX9_segment_47 : decode cX9_segment 47 = .ok (.getfield 53, 3) := by decide +kernel
theorem dX9_segment_50 : decode cX9_segment 50 = .ok (.getfield 226, 3) := by decide +kernel
theorem dX9_segment_53 : decode cX9_segment 53 = .ok (.iload_n 1, 1) := by decide +kernel
theorem dX9_segment_54 : decode cX9_segment 54 = .ok (.iaload, 1) := by decide +kernel
theorem dX9_segment_55 : decode cX9_segment 55 = .ok (.ireturn, 1) := by decide +kernel
theorem dX9_repair_0 : decode cX9_repair 0 = .ok (.aload_n 0, 1) := by decide +kernel
theorem dX9_repair_1 : decode cX9_repair 1 = .ok (.getfield 10, 3) := by decide +kernel
theorem dX9_repair_4 : decode cX9_repair 4 = .ok (.iload_n 1, 1) := by decide +kernel
theorem dX9_repair_5 : decode cX9_repair 5 = .ok (.invokevirtual 169, 3) := by decide +kernel
theorem dX9_repair_8 : decode cX9_repair 8 = .ok (.ifCond .eq 30, 3) := by decide +kernel
theorem dX9_repair_11 : decode cX9_repair 11 = .ok (.aload_n 0, 1) := by decide +kernel
theorem dX9_repair_12 : decode cX9_repair 12 = .ok (.getfield 10, 3) := by decide +kernel
theorem dX9_repair_15 : decode cX9_repair 15 = .ok (.iload_n 2, 1) := by decide +kernel
theorem dX9_repair_16 : decode cX9_repair 16 = .ok (.invokevirtual 133, 3) := by decide +kernel
theorem dX9_repair_19 : decode cX9_repair 19 = .ok (.ifCond .eq 19, 3) := by decide +kernel
theorem dX9_repair_22 : decode cX9_repair 22 = .ok (.aload_n 0, 1) := by decide +kernel
theorem dX9_repair_23 : decode cX9_repair 23 = .ok (.getfield 10, 3) := by decide +kernel
theorem dX9_repair_26 : decode cX9_repair 26 = .ok (.iload_n 3, 1) := by decide +kernel
theorem dX9_repair_27 : decode cX9_repair 27 = .ok (.invokevirtual 169, 3) := by decide +kernel
theorem dX9_repair_30 : decode cX9_repair 30 = .ok (.ifCond .eq 8, 3) := by decide +kernel
theorem dX9_repair_33 : decode cX9_repair 33 = .ok (.iload_n 3, 1) := by decide +kernel
theorem dX9_repair_34 : decode cX9_repair 34 = .ok (.iload_n 1, 1) := by decide +kernel
theorem dX9_repair_35 : decode cX9_repair 35 = .ok (.if_icmp .ne 6, 3) := by decide +kernel
theorem dX9_repair_38 : decode cX9_repair 38 = .ok (.bipush (-2), 2) := by decide +kernel
theorem dX9_repair_40 : decode cX9_repair 40 = .ok (.ireturn, 1) := by decide +kernel
theorem dX9_repair_41 : decode cX9_repair 41 = .ok (.iload 4, 2) := by decide +kernel
theorem dX9_repair_43 : decode cX9_repair 43 = .ok (.iconst (-1), 1) := by decide +kernel
theorem dX9_repair_44 : decode cX9_repair 44 = .ok (.if_icmp .ge 6, 3) := by decide +kernel
theorem dX9_repair_47 : decode cX9_repair 47 = .ok (.bipush (-3), 2) := by decide +kernel
theorem dX9_repair_49 : decode cX9_repair 49 = .ok (.ireturn, 1) := by decide +kernel
theorem dX9_repair_50 : decode cX9_repair 50 = .ok (.aload_n 0, 1) := by decide +kernel
theorem dX9_repair_51 : decode cX9_repair 51 = .ok (.getfield 67, 3) := by decide +kernel
theorem dX9_repair_54 : decode cX9_repair 54 = .ok (.iload_n 1, 1) := by decide +kernel
theorem dX9_repair_55 : decode cX9_repair 55 = .ok (.iload_n 2, 1) := by decide +kernel
theorem dX9_repair_56 : decode cX9_repair 56 = .ok (.iload_n 3, 1) := by decide +kernel
theorem dX9_repair_57 : decode cX9_repair 57 = .ok (.invokevirtual 229, 3) := by decide +kernel
theorem dX9_repair_60 : decode cX9_repair 60 = .ok (.ifCond .eq 18, 3) := by decide +kernel
theorem dX9_repair_63 : decode cX9_repair 63 = .ok (.aload_n 0, 1) := by decide +kernel
theorem dX9_repair_64 : decode cX9_repair 64 = .ok (.getfield 67, 3) := by decide +kernel
theorem dX9_repair_67 : decode cX9_repair 67 = .ok (.getfield 233, 3) := by decide +kernel
theorem dX9_repair_70 : decode cX9_repair 70 = .ok (.iload 4, 2) := by decide +kernel
theorem dX9_repair_72 : decode cX9_repair 72 = .ok (.invokevirtual 236, 3) := by decide +kernel
theorem dX9_repair_75 : decode cX9_repair 75 = .ok (.goto 5, 3) := by decide +kernel
theorem dX9_repair_78 : decode cX9_repair 78 = .ok (.bipush (-4), 2) := by decide +kernel
theorem dX9_repair_80 : decode cX9_repair 80 = .ok (.ireturn, 1) := by decide +kernel
theorem dX9_trace_0 : decode cX9_trace 0 = .ok (.aload_n 0, 1) := by decide +kernel
theorem dX9_trace_1 : decode cX9_trace 1 = .ok (.getfield 10, 3) := by decide +kernel
theorem dX9_trace_4 : decode cX9_trace 4 = .ok (.iload_n 1, 1) := by decide +kernel
theorem dX9_trace_5 : decode cX9_trace 5 = .ok (.invokevirtual 169, 3) := by decide +kernel
theorem dX9_trace_8 : decode cX9_trace 8 = .ok (.ifCond .ne 6, 3) := by decide +kernel
theorem dX9_trace_11 : decode cX9_trace 11 = .ok (.bipush (-2), 2) := by decide +kernel
theorem dX9_trace_13 : decode cX9_trace 13 = .ok (.ireturn, 1) := by decide +kernel
theorem dX9_trace_14 : decode cX9_trace 14 = .ok (.aload_n 0, 1) := by decide +kernel
theorem dX9_trace_15 : decode cX9_trace 15 = .ok (.getfield 60, 3) := by decide +kernel
theorem dX9_trace_18 : decode cX9_trace 18 = .ok (.invokevirtual 237, 3) := by decide +kernel
theorem dX9_trace_21 : decode cX9_trace 21 = .ok (.istore_n 2, 1) := by decide +kernel
theorem dX9_trace_22 : decode cX9_trace 22 = .ok (.aload_n 0, 1) := by decide +kernel
theorem dX9_trace_23 : decode cX9_trace 23 = .ok (.getfield 60, 3) := by decide +kernel
theorem dX9_trace_26 : decode cX9_trace 26 = .ok (.iload_n 1, 1) := by decide +kernel
theorem dX9_trace_27 : decode cX9_trace 27 = .ok (.invokevirtual 240, 3) := by decide +kernel
theorem dX9_trace_30 : decode cX9_trace 30 = .ok (.ifCond .ne 21, 3) := by decide +kernel
theorem dX9_trace_33 : decode cX9_trace 33 = .ok (.iload_n 2, 1) := by decide +kernel
theorem dX9_trace_34 : decode cX9_trace 34 = .ok (.iconst (-1), 1) := by decide +kernel
theorem dX9_trace_35 : decode cX9_trace 35 = .ok (.if_icmp .eq 19, 3) := by decide +kernel
theorem dX9_trace_38 : decode cX9_trace 38 = .ok (.aload_n 0, 1) := by decide +kernel
theorem dX9_trace_39 : decode cX9_trace 39 = .ok (.getfield 10, 3) := by decide +kernel
theorem dX9_trace_42 : decode cX9_trace 42 = .ok (.iload_n 2, 1) := by decide +kernel
theorem dX9_trace_43 : decode cX9_trace 43 = .ok (.iload_n 1, 1) := by decide +kernel
theorem dX9_trace_44 : decode cX9_trace 44 = .ok (.invokevirtual 243, 3) := by decide +kernel
theorem dX9_trace_47 : decode cX9_trace 47 = .ok (.iconst (-1), 1) := by decide +kernel
theorem dX9_trace_48 : decode cX9_trace 48 = .ok (.if_icmp .ne 6, 3) := by decide +kernel
theorem dX9_trace_51 : decode cX9_trace 51 = .ok (.bipush (-4), 2) := by decide +kernel
theorem dX9_trace_53 : decode cX9_trace 53 = .ok (.ireturn, 1) := by decide +kernel
theorem dX9_trace_54 : decode cX9_trace 54 = .ok (.aload_n 0, 1) := by decide +kernel
theorem dX9_trace_55 : decode cX9_trace 55 = .ok (.getfield 60, 3) := by decide +kernel
theorem dX9_trace_58 : decode cX9_trace 58 = .ok (.getfield 125, 3) := by decide +kernel
theorem dX9_trace_61 : decode cX9_trace 61 = .ok (.bipush 8, 2) := by decide +kernel
theorem dX9_trace_63 : decode cX9_trace 63 = .ok (.if_icmp .lt 6, 3) := by decide +kernel
theorem dX9_trace_66 : decode cX9_trace 66 = .ok (.bipush (-5), 2) := by decide +kernel
theorem dX9_trace_68 : decode cX9_trace 68 = .ok (.ireturn, 1) := by decide +kernel
theorem dX9_trace_69 : decode cX9_trace 69 = .ok (.aload_n 0, 1) := by decide +kernel
theorem dX9_trace_70 : decode cX9_trace 70 = .ok (.getfield 60, 3) := by decide +kernel
theorem dX9_trace_73 : decode cX9_trace 73 = .ok (.iload_n 1, 1) := by decide +kernel
theorem dX9_trace_74 : decode cX9_trace 74 = .ok (.invokevirtual 246, 3) := by decide +kernel
theorem dX9_trace_77 : decode cX9_trace 77 = .ok (.aload_n 0, 1) := by decide +kernel
theorem dX9_trace_78 : decode cX9_trace 78 = .ok (.getfield 60, 3) := by decide +kernel
theorem dX9_trace_81 : decode cX9_trace 81 = .ok (.getfield 125, 3) := by decide +kernel
theorem dX9_trace_84 : decode cX9_trace 84 = .ok (.ireturn, 1) := by decide +kernel
theorem dX9_untrace_0 : decode cX9_untrace 0 = .ok (.aload_n 0, 1) := by decide +kernel
theorem dX9_untrace_1 : decode cX9_untrace 1 = .ok (.getfield 60, 3) := by decide +kernel
theorem dX9_untrace_4 : decode cX9_untrace 4 = .ok (.getfield 125, 3) := by decide +kernel
theorem dX9_untrace_7 : decode cX9_untrace 7 = .ok (.istore_n 1, 1) := by decide +kernel
theorem dX9_untrace_8 : decode cX9_untrace 8 = .ok (.aload_n 0, 1) := by decide +kernel
theorem dX9_untrace_9 : decode cX9_untrace 9 = .ok (.getfield 60, 3) := by decide +kernel
theorem dX9_untrace_12 : decode cX9_untrace 12 = .ok (.iconst 0, 1) := by decide +kernel
theorem dX9_untrace_13 : decode cX9_untrace 13 = .ok (.putfield 125, 3) := by decide +kernel
theorem dX9_untrace_16 : decode cX9_untrace 16 = .ok (.iload_n 1, 1) := by decide +kernel
theorem dX9_untrace_17 : decode cX9_untrace 17 = .ok (.ireturn, 1) := by decide +kernel
theorem dX9_brief_0 : decode cX9_brief 0 = .ok (.iload_n 1, 1) := by decide +kernel
theorem dX9_brief_1 : decode cX9_brief 1 = .ok (.iconst (-1), 1) := by decide +kernel
theorem dX9_brief_2 : decode cX9_brief 2 = .ok (.if_icmp .ge 6, 3) := by decide +kernel
theorem dX9_brief_5 : decode cX9_brief 5 = .ok (.bipush (-3), 2) := by decide +kernel
theorem dX9_brief_7 : decode cX9_brief 7 = .ok (.ireturn, 1) := by decide +kernel
theorem dX9_brief_8 : decode cX9_brief 8 = .ok (.aload_n 0, 1) := by decide +kernel
theorem dX9_brief_9 : decode cX9_brief 9 = .ok (.getfield 67, 3) := by decide +kernel
theorem dX9_brief_12 : decode cX9_brief 12 = .ok (.aload_n 0, 1) := by decide +kernel
theorem dX9_brief_13 : decode cX9_brief 13 = .ok (.getfield 60, 3) := by decide +kernel
theorem dX9_brief_16 : decode cX9_brief 16 = .ok (.invokevirtual 248, 3) := by decide +kernel
theorem dX9_brief_19 : decode cX9_brief 19 = .ok (.ifCond .eq 17, 3) := by decide +kernel
theorem dX9_brief_22 : decode cX9_brief 22 = .ok (.aload_n 0, 1) := by decide +kernel
theorem dX9_brief_23 : decode cX9_brief 23 = .ok (.getfield 67, 3) := by decide +kernel
theorem dX9_brief_26 : decode cX9_brief 26 = .ok (.getfield 233, 3) := by decide +kernel
theorem dX9_brief_29 : decode cX9_brief 29 = .ok (.iload_n 1, 1) := by decide +kernel
theorem dX9_brief_30 : decode cX9_brief 30 = .ok (.invokevirtual 236, 3) := by decide +kernel
theorem dX9_brief_33 : decode cX9_brief 33 = .ok (.goto 5, 3) := by decide +kernel
theorem dX9_brief_36 : decode cX9_brief 36 = .ok (.bipush (-4), 2) := by decide +kernel
theorem dX9_brief_38 : decode cX9_brief 38 = .ok (.ireturn, 1) := by decide +kernel
theorem dX9_protect_0 : decode cX9_protect 0 = .ok (.iload_n 1, 1) := by decide +kernel
theorem dX9_protect_1 : decode cX9_protect 1 = .ok (.ifCond .eq 11, 3) := by decide +kernel
theorem dX9_protect_4 : decode cX9_protect 4 = .ok (.iload_n 1, 1) := by decide +kernel
theorem dX9_protect_5 : decode cX9_protect 5 = .ok (.iconst 1, 1) := by decide +kernel
theorem dX9_protect_6 : decode cX9_protect 6 = .ok (.if_icmp .eq 6, 3) := by decide +kernel
theorem dX9_protect_9 : decode cX9_protect 9 = .ok (.bipush (-3), 2) := by decide +kernel
theorem dX9_protect_11 : decode cX9_protect 11 = .ok (.ireturn, 1) := by decide +kernel
theorem dX9_protect_12 : decode cX9_protect 12 = .ok (.aload_n 0, 1) := by decide +kernel
theorem dX9_protect_13 : decode cX9_protect 13 = .ok (.getfield 76, 3) := by decide +kernel
theorem dX9_protect_16 : decode cX9_protect 16 = .ok (.getfield 126, 3) := by decide +kernel
theorem dX9_protect_19 : decode cX9_protect 19 = .ok (.istore_n 2, 1) := by decide +kernel
theorem dX9_protect_20 : decode cX9_protect 20 = .ok (.aload_n 0, 1) := by decide +kernel
theorem dX9_protect_21 : decode cX9_protect 21 = .ok (.getfield 76, 3) := by decide +kernel
theorem dX9_protect_24 : decode cX9_protect 24 = .ok (.iload_n 1, 1) := by decide +kernel
theorem dX9_protect_25 : decode cX9_protect 25 = .ok (.putfield 126, 3) := by decide +kernel
theorem dX9_protect_28 : decode cX9_protect 28 = .ok (.iload_n 2, 1) := by decide +kernel
theorem dX9_protect_29 : decode cX9_protect 29 = .ok (.ireturn, 1) := by decide +kernel
theorem dX9_send_0 : decode cX9_send 0 = .ok (.aload_n 0, 1) := by decide +kernel
theorem dX9_send_1 : decode cX9_send 1 = .ok (.getfield 10, 3) := by decide +kernel
theorem dX9_send_4 : decode cX9_send 4 = .ok (.iload_n 1, 1) := by decide +kernel
theorem dX9_send_5 : decode cX9_send 5 = .ok (.invokevirtual 169, 3) := by decide +kernel
theorem dX9_send_8 : decode cX9_send 8 = .ok (.ifCond .ne 6, 3) := by decide +kernel
theorem dX9_send_11 : decode cX9_send 11 = .ok (.bipush (-2), 2) := by decide +kernel
theorem dX9_send_13 : decode cX9_send 13 = .ok (.ireturn, 1) := by decide +kernel
theorem dX9_send_14 : decode cX9_send 14 = .ok (.aload_n 0, 1) := by decide +kernel
theorem dX9_send_15 : decode cX9_send 15 = .ok (.getfield 76, 3) := by decide +kernel
theorem dX9_send_18 : decode cX9_send 18 = .ok (.iload_n 1, 1) := by decide +kernel
theorem dX9_send_19 : decode cX9_send 19 = .ok (.aload_n 0, 1) := by decide +kernel
theorem dX9_send_20 : decode cX9_send 20 = .ok (.getfield 53, 3) := by decide +kernel
theorem dX9_send_23 : decode cX9_send 23 = .ok (.invokevirtual 256, 3) := by decide +kernel
theorem dX9_send_26 : decode cX9_send 26 = .ok (.aload_n 0, 1) := by decide +kernel
theorem dX9_send_27 : decode cX9_send 27 = .ok (.getfield 76, 3) := by decide +kernel
theorem dX9_send_30 : decode cX9_send 30 = .ok (.iload_n 1, 1) := by decide +kernel
theorem dX9_send_31 : decode cX9_send 31 = .ok (.invokevirtual 260, 3) := by decide +kernel
theorem dX9_send_34 : decode cX9_send 34 = .ok (.istore_n 2, 1) := by decide +kernel
theorem dX9_send_35 : decode cX9_send 35 = .ok (.aload_n 0, 1) := by decide +kernel
theorem dX9_send_36 : decode cX9_send 36 = .ok (.getfield 76, 3) := by decide +kernel
theorem dX9_send_39 : decode cX9_send 39 = .ok (.iload_n 2, 1) := by decide +kernel
theorem dX9_send_40 : decode cX9_send 40 = .ok (.invokevirtual 263, 3) := by decide +kernel
theorem dX9_send_43 : decode cX9_send 43 = .ok (.iload_n 2, 1) := by decide +kernel
theorem dX9_send_44 : decode cX9_send 44 = .ok (.ireturn, 1) := by decide +kernel
theorem dX9_way_0 : decode cX9_way 0 = .ok (.iload_n 1, 1) := by decide +kernel
theorem dX9_way_1 : decode cX9_way 1 = .ok (.iconst (-1), 1) := by decide +kernel
theorem dX9_way_2 : decode cX9_way 2 = .ok (.if_icmp .ge 6, 3) := by decide +kernel
theorem dX9_way_5 : decode cX9_way 5 = .ok (.bipush (-3), 2) := by decide +kernel
theorem dX9_way_7 : decode cX9_way 7 = .ok (.ireturn, 1) := by decide +kernel
theorem dX9_way_8 : decode cX9_way 8 = .ok (.aload_n 0, 1) := by decide +kernel
theorem dX9_way_9 : decode cX9_way 9 = .ok (.getfield 76, 3) := by decide +kernel
theorem dX9_way_12 : decode cX9_way 12 = .ok (.getfield 266, 3) := by decide +kernel
theorem dX9_way_15 : decode cX9_way 15 = .ok (.ifCond .ne 5, 3) := by decide +kernel
theorem dX9_way_18 : decode cX9_way 18 = .ok (.iconst (-1), 1) := by decide +kernel
theorem dX9_way_19 : decode cX9_way 19 = .ok (.ireturn, 1) := by decide +kernel
theorem dX9_way_20 : decode cX9_way 20 = .ok (.iload_n 1, 1) := by decide +kernel
theorem dX9_way_21 : decode cX9_way 21 = .ok (.iconst (-1), 1) := by decide +kernel
theorem dX9_way_22 : decode cX9_way 22 = .ok (.if_icmp .ne 13, 3) := by decide +kernel
theorem dX9_way_25 : decode cX9_way 25 = .ok (.aload_n 0, 1) := by decide +kernel
theorem dX9_way_26 : decode cX9_way 26 = .ok (.getfield 76, 3) := by decide +kernel
theorem dX9_way_29 : decode cX9_way 29 = .ok (.invokevirtual 269, 3) := by decide +kernel
theorem dX9_way_32 : decode cX9_way 32 = .ok (.goto 14, 3) := by decide +kernel
theorem dX9_way_35 : decode cX9_way 35 = .ok (.aload_n 0, 1) := by decide +kernel
theorem dX9_way_36 : decode cX9_way 36 = .ok (.getfield 76, 3) := by decide +kernel
theorem dX9_way_39 : decode cX9_way 39 = .ok (.getfield 272, 3) := by decide +kernel
theorem dX9_way_42 : decode cX9_way 42 = .ok (.iload_n 1, 1) := by decide +kernel
theorem dX9_way_43 : decode cX9_way 43 = .ok (.invokevirtual 217, 3) := by decide +kernel
theorem dX9_way_46 : decode cX9_way 46 = .ok (.ireturn, 1) := by decide +kernel
theorem dX9_count_0 : decode cX9_count 0 = .ok (.iload_n 1, 1) := by decide +kernel
theorem dX9_count_1 : decode cX9_count 1 = .ok (.tableswitch 137 0 12 #[67, 75, 83, 94, 105, 113, 137, 137, 137, 137, 137, 121, 129], 67) := by decide +kernel
theorem dX9_count_68 : decode cX9_count 68 = .ok (.aload_n 0, 1) := by decide +kernel
theorem dX9_count_69 : decode cX9_count 69 = .ok (.getfield 10, 3) := by decide +kernel
theorem dX9_count_72 : decode cX9_count 72 = .ok (.getfield 191, 3) := by decide +kernel
theorem dX9_count_75 : decode cX9_count 75 = .ok (.ireturn, 1) := by decide +kernel
theorem dX9_count_76 : decode cX9_count 76 = .ok (.aload_n 0, 1) := by decide +kernel
theorem dX9_count_77 : decode cX9_count 77 = .ok (.getfield 10, 3) := by decide +kernel
theorem dX9_count_80 : decode cX9_count 80 = .ok (.getfield 275, 3) := by decide +kernel
theorem dX9_count_83 : decode cX9_count 83 = .ok (.ireturn, 1) := by decide +kernel
theorem dX9_count_84 : decode cX9_count 84 = .ok (.aload_n 0, 1) := by decide +kernel
theorem dX9_count_85 : decode cX9_count 85 = .ok (.getfield 10, 3) := by decide +kernel
theorem dX9_count_88 : decode cX9_count 88 = .ok (.getfield 158, 3) := by decide +kernel
theorem dX9_count_91 : decode cX9_count 91 = .ok (.invokestatic 161, 3) := by decide +kernel
theorem dX9_count_94 : decode cX9_count 94 = .ok (.ireturn, 1) := by decide +kernel
theorem dX9_count_95 : decode cX9_count 95 = .ok (.aload_n 0, 1) := by decide +kernel
theorem dX9_count_96 : decode cX9_count 96 = .ok (.getfield 10, 3) := by decide +kernel
theorem dX9_count_99 : decode cX9_count 99 = .ok (.invokevirtual 278, 3) := by decide +kernel
theorem dX9_count_102 : decode cX9_count 102 = .ok (.invokestatic 161, 3) := by decide +kernel
theorem dX9_count_105 : decode cX9_count 105 = .ok (.ireturn, 1) := by decide +kernel
theorem dX9_count_106 : decode cX9_count 106 = .ok (.aload_n 0, 1) := by decide +kernel
theorem dX9_count_107 : decode cX9_count 107 = .ok (.getfield 53, 3) := by decide +kernel
theorem dX9_count_110 : decode cX9_count 110 = .ok (.getfield 124, 3) := by decide +kernel
theorem dX9_count_113 : decode cX9_count 113 = .ok (.ireturn, 1) := by decide +kernel
theorem dX9_count_114 : decode cX9_count 114 = .ok (.aload_n 0, 1) := by decide +kernel
theorem dX9_count_115 : decode cX9_count 115 = .ok (.getfield 60, 3) := by decide +kernel
theorem dX9_count_118 : decode cX9_count 118 = .ok (.getfield 125, 3) := by decide +kernel
theorem dX9_count_121 : decode cX9_count 121 = .ok (.ireturn, 1) := by decide +kernel
theorem dX9_count_122 : decode cX9_count 122 = .ok (.aload_n 0, 1) := by decide +kernel
theorem dX9_count_123 : decode cX9_count 123 = .ok (.getfield 28, 3) := by decide +kernel
theorem dX9_count_126 : decode cX9_count 126 = .ok (.getfield 97, 3) := by decide +kernel
theorem dX9_count_129 : decode cX9_count 129 = .ok (.ireturn, 1) := by decide +kernel
theorem dX9_count_130 : decode cX9_count 130 = .ok (.aload_n 0, 1) := by decide +kernel
theorem dX9_count_131 : decode cX9_count 131 = .ok (.getfield 21, 3) := by decide +kernel
theorem dX9_count_134 : decode cX9_count 134 = .ok (.getfield 80, 3) := by decide +kernel
theorem dX9_count_137 : decode cX9_count 137 = .ok (.ireturn, 1) := by decide +kernel
theorem dX9_count_138 : decode cX9_count 138 = .ok (.aload_n 0, 1) := by decide +kernel
theorem dX9_count_139 : decode cX9_count 139 = .ok (.getfield 76, 3) := by decide +kernel
theorem dX9_count_142 : decode cX9_count 142 = .ok (.iload_n 1, 1) := by decide +kernel
theorem dX9_count_143 : decode cX9_count 143 = .ok (.invokevirtual 281, 3) := by decide +kernel
theorem dX9_count_146 : decode cX9_count 146 = .ok (.ireturn, 1) := by decide +kernel
theorem dJ6_bitCount_0f7a4_0 : decode cJ6_bitCount_0f7a4 0 = .ok (.iload_n 0, 1) := by decide +kernel
theorem dJ6_bitCount_0f7a4_1 : decode cJ6_bitCount_0f7a4 1 = .ok (.iload_n 0, 1) := by decide +kernel
theorem dJ6_bitCount_0f7a4_2 : decode cJ6_bitCount_0f7a4 2 = .ok (.iconst 1, 1) := by decide +kernel
theorem dJ6_bitCount_0f7a4_3 : decode cJ6_bitCount_0f7a4 3 = .ok (.iushr, 1) := by decide +kernel
theorem dJ6_bitCount_0f7a4_4 : decode cJ6_bitCount_0f7a4 4 = .ok (.ldc_w 265, 3) := by decide +kernel
theorem dJ6_bitCount_0f7a4_7 : decode cJ6_bitCount_0f7a4 7 = .ok (.iand, 1) := by decide +kernel
theorem dJ6_bitCount_0f7a4_8 : decode cJ6_bitCount_0f7a4 8 = .ok (.isub, 1) := by decide +kernel
theorem dJ6_bitCount_0f7a4_9 : decode cJ6_bitCount_0f7a4 9 = .ok (.istore_n 0, 1) := by decide +kernel
theorem dJ6_bitCount_0f7a4_10 : decode cJ6_bitCount_0f7a4 10 = .ok (.iload_n 0, 1) := by decide +kernel
theorem dJ6_bitCount_0f7a4_11 : decode cJ6_bitCount_0f7a4 11 = .ok (.ldc_w 266, 3) := by decide +kernel
theorem dJ6_bitCount_0f7a4_14 : decode cJ6_bitCount_0f7a4 14 = .ok (.iand, 1) := by decide +kernel
theorem dJ6_bitCount_0f7a4_15 : decode cJ6_bitCount_0f7a4 15 = .ok (.iload_n 0, 1) := by decide +kernel
theorem dJ6_bitCount_0f7a4_16 : decode cJ6_bitCount_0f7a4 16 = .ok (.iconst 2, 1) := by decide +kernel
theorem dJ6_bitCount_0f7a4_17 : decode cJ6_bitCount_0f7a4 17 = .ok (.iushr, 1) := by decide +kernel
theorem dJ6_bitCount_0f7a4_18 : decode cJ6_bitCount_0f7a4 18 = .ok (.ldc_w 266, 3) := by decide +kernel
theorem dJ6_bitCount_0f7a4_21 : decode cJ6_bitCount_0f7a4 21 = .ok (.iand, 1) := by decide +kernel
theorem dJ6_bitCount_0f7a4_22 : decode cJ6_bitCount_0f7a4 22 = .ok (.iadd, 1) := by decide +kernel
theorem dJ6_bitCount_0f7a4_23 : decode cJ6_bitCount_0f7a4 23 = .ok (.istore_n 0, 1) := by decide +kernel
theorem dJ6_bitCount_0f7a4_24 : decode cJ6_bitCount_0f7a4 24 = .ok (.iload_n 0, 1) := by decide +kernel
theorem dJ6_bitCount_0f7a4_25 : decode cJ6_bitCount_0f7a4 25 = .ok (.iload_n 0, 1) := by decide +kernel
theorem dJ6_bitCount_0f7a4_26 : decode cJ6_bitCount_0f7a4 26 = .ok (.iconst 4, 1) := by decide +kernel
theorem dJ6_bitCount_0f7a4_27 : decode cJ6_bitCount_0f7a4 27 = .ok (.iushr, 1) := by decide +kernel
theorem dJ6_bitCount_0f7a4_28 : decode cJ6_bitCount_0f7a4 28 = .ok (.iadd, 1) := by decide +kernel
theorem dJ6_bitCount_0f7a4_29 : decode cJ6_bitCount_0f7a4 29 = .ok (.ldc_w 267, 3) := by decide +kernel
theorem dJ6_bitCount_0f7a4_32 : decode cJ6_bitCount_0f7a4 32 = .ok (.iand, 1) := by decide +kernel
theorem dJ6_bitCount_0f7a4_33 : decode cJ6_bitCount_0f7a4 33 = .ok (.istore_n 0, 1) := by decide +kernel
theorem dJ6_bitCount_0f7a4_34 : decode cJ6_bitCount_0f7a4 34 = .ok (.iload_n 0, 1) := by decide +kernel
theorem dJ6_bitCount_0f7a4_35 : decode cJ6_bitCount_0f7a4 35 = .ok (.iload_n 0, 1) := by decide +kernel
theorem dJ6_bitCount_0f7a4_36 : decode cJ6_bitCount_0f7a4 36 = .ok (.bipush 8, 2) := by decide +kernel
theorem dJ6_bitCount_0f7a4_38 : decode cJ6_bitCount_0f7a4 38 = .ok (.iushr, 1) := by decide +kernel
theorem dJ6_bitCount_0f7a4_39 : decode cJ6_bitCount_0f7a4 39 = .ok (.iadd, 1) := by decide +kernel
theorem dJ6_bitCount_0f7a4_40 : decode cJ6_bitCount_0f7a4 40 = .ok (.istore_n 0, 1) := by decide +kernel
theorem dJ6_bitCount_0f7a4_41 : decode cJ6_bitCount_0f7a4 41 = .ok (.iload_n 0, 1) := by decide +kernel
theorem dJ6_bitCount_0f7a4_42 : decode cJ6_bitCount_0f7a4 42 = .ok (.iload_n 0, 1) := by decide +kernel
theorem dJ6_bitCount_0f7a4_43 : decode cJ6_bitCount_0f7a4 43 = .ok (.bipush 16, 2) := by decide +kernel
theorem dJ6_bitCount_0f7a4_45 : decode cJ6_bitCount_0f7a4 45 = .ok (.iushr, 1) := by decide +kernel
theorem dJ6_bitCount_0f7a4_46 : decode cJ6_bitCount_0f7a4 46 = .ok (.iadd, 1) := by decide +kernel
theorem dJ6_bitCount_0f7a4_47 : decode cJ6_bitCount_0f7a4 47 = .ok (.istore_n 0, 1) := by decide +kernel
theorem dJ6_bitCount_0f7a4_48 : decode cJ6_bitCount_0f7a4 48 = .ok (.iload_n 0, 1) := by decide +kernel
theorem dJ6_bitCount_0f7a4_49 : decode cJ6_bitCount_0f7a4 49 = .ok (.bipush 63, 2) := by decide +kernel
theorem dJ6_bitCount_0f7a4_51 : decode cJ6_bitCount_0f7a4 51 = .ok (.iand, 1) := by decide +kernel
theorem dJ6_bitCount_0f7a4_52 : decode cJ6_bitCount_0f7a4 52 = .ok (.ireturn, 1) := by decide +kernel
theorem dJ13_bitCount_95d88_0 : decode cJ13_bitCount_95d88 0 = .ok (.lload_n 0, 1) := by decide +kernel
theorem dJ13_bitCount_95d88_1 : decode cJ13_bitCount_95d88 1 = .ok (.lload_n 0, 1) := by decide +kernel
theorem dJ13_bitCount_95d88_2 : decode cJ13_bitCount_95d88 2 = .ok (.iconst 1, 1) := by decide +kernel
theorem dJ13_bitCount_95d88_3 : decode cJ13_bitCount_95d88 3 = .ok (.lushr, 1) := by decide +kernel
theorem dJ13_bitCount_95d88_4 : decode cJ13_bitCount_95d88 4 = .ok (.ldc2_w 314, 3) := by decide +kernel
theorem dJ13_bitCount_95d88_7 : decode cJ13_bitCount_95d88 7 = .ok (.land, 1) := by decide +kernel
theorem dJ13_bitCount_95d88_8 : decode cJ13_bitCount_95d88 8 = .ok (.lsub, 1) := by decide +kernel
theorem dJ13_bitCount_95d88_9 : decode cJ13_bitCount_95d88 9 = .ok (.lstore_n 0, 1) := by decide +kernel
theorem dJ13_bitCount_95d88_10 : decode cJ13_bitCount_95d88 10 = .ok (.lload_n 0, 1) := by decide +kernel
theorem dJ13_bitCount_95d88_11 : decode cJ13_bitCount_95d88 11 = .ok (.ldc2_w 316, 3) := by decide +kernel
theorem dJ13_bitCount_95d88_14 : decode cJ13_bitCount_95d88 14 = .ok (.land, 1) := by decide +kernel
theorem dJ13_bitCount_95d88_15 : decode cJ13_bitCount_95d88 15 = .ok (.lload_n 0, 1) := by decide +kernel
theorem dJ13_bitCount_95d88_16 : decode cJ13_bitCount_95d88 16 = .ok (.iconst 2, 1) := by decide +kernel
theorem dJ13_bitCount_95d88_17 : decode cJ13_bitCount_95d88 17 = .ok (.lushr, 1) := by decide +kernel
theorem dJ13_bitCount_95d88_18 : decode cJ13_bitCount_95d88 18 = .ok (.ldc2_w 316, 3) := by decide +kernel
theorem dJ13_bitCount_95d88_21 : decode cJ13_bitCount_95d88 21 = .ok (.land, 1) := by decide +kernel
theorem dJ13_bitCount_95d88_22 : decode cJ13_bitCount_95d88 22 = .ok (.ladd, 1) := by decide +kernel
theorem dJ13_bitCount_95d88_23 : decode cJ13_bitCount_95d88 23 = .ok (.lstore_n 0, 1) := by decide +kernel
theorem dJ13_bitCount_95d88_24 : decode cJ13_bitCount_95d88 24 = .ok (.lload_n 0, 1) := by decide +kernel
theorem dJ13_bitCount_95d88_25 : decode cJ13_bitCount_95d88 25 = .ok (.lload_n 0, 1) := by decide +kernel
theorem dJ13_bitCount_95d88_26 : decode cJ13_bitCount_95d88 26 = .ok (.iconst 4, 1) := by decide +kernel
theorem dJ13_bitCount_95d88_27 : decode cJ13_bitCount_95d88 27 = .ok (.lushr, 1) := by decide +kernel
theorem dJ13_bitCount_95d88_28 : decode cJ13_bitCount_95d88 28 = .ok (.ladd, 1) := by decide +kernel
theorem dJ13_bitCount_95d88_29 : decode cJ13_bitCount_95d88 29 = .ok (.ldc2_w 318, 3) := by decide +kernel
theorem dJ13_bitCount_95d88_32 : decode cJ13_bitCount_95d88 32 = .ok (.land, 1) := by decide +kernel
theorem dJ13_bitCount_95d88_33 : decode cJ13_bitCount_95d88 33 = .ok (.lstore_n 0, 1) := by decide +kernel
theorem dJ13_bitCount_95d88_34 : decode cJ13_bitCount_95d88 34 = .ok (.lload_n 0, 1) := by decide +kernel
theorem dJ13_bitCount_95d88_35 : decode cJ13_bitCount_95d88 35 = .ok (.lload_n 0, 1) := by decide +kernel
theorem dJ13_bitCount_95d88_36 : decode cJ13_bitCount_95d88 36 = .ok (.bipush 8, 2) := by decide +kernel
theorem dJ13_bitCount_95d88_38 : decode cJ13_bitCount_95d88 38 = .ok (.lushr, 1) := by decide +kernel
theorem dJ13_bitCount_95d88_39 : decode cJ13_bitCount_95d88 39 = .ok (.ladd, 1) := by decide +kernel
theorem dJ13_bitCount_95d88_40 : decode cJ13_bitCount_95d88 40 = .ok (.lstore_n 0, 1) := by decide +kernel
theorem dJ13_bitCount_95d88_41 : decode cJ13_bitCount_95d88 41 = .ok (.lload_n 0, 1) := by decide +kernel
theorem dJ13_bitCount_95d88_42 : decode cJ13_bitCount_95d88 42 = .ok (.lload_n 0, 1) := by decide +kernel
theorem dJ13_bitCount_95d88_43 : decode cJ13_bitCount_95d88 43 = .ok (.bipush 16, 2) := by decide +kernel
theorem dJ13_bitCount_95d88_45 : decode cJ13_bitCount_95d88 45 = .ok (.lushr, 1) := by decide +kernel
theorem dJ13_bitCount_95d88_46 : decode cJ13_bitCount_95d88 46 = .ok (.ladd, 1) := by decide +kernel
theorem dJ13_bitCount_95d88_47 : decode cJ13_bitCount_95d88 47 = .ok (.lstore_n 0, 1) := by decide +kernel
theorem dJ13_bitCount_95d88_48 : decode cJ13_bitCount_95d88 48 = .ok (.lload_n 0, 1) := by decide +kernel
theorem dJ13_bitCount_95d88_49 : decode cJ13_bitCount_95d88 49 = .ok (.lload_n 0, 1) := by decide +kernel
theorem dJ13_bitCount_95d88_50 : decode cJ13_bitCount_95d88 50 = .ok (.bipush 32, 2) := by decide +kernel
theorem dJ13_bitCount_95d88_52 : decode cJ13_bitCount_95d88 52 = .ok (.lushr, 1) := by decide +kernel
theorem dJ13_bitCount_95d88_53 : decode cJ13_bitCount_95d88 53 = .ok (.ladd, 1) := by decide +kernel
theorem dJ13_bitCount_95d88_54 : decode cJ13_bitCount_95d88 54 = .ok (.lstore_n 0, 1) := by decide +kernel
theorem dJ13_bitCount_95d88_55 : decode cJ13_bitCount_95d88 55 = .ok (.lload_n 0, 1) := by decide +kernel
theorem dJ13_bitCount_95d88_56 : decode cJ13_bitCount_95d88 56 = .ok (.l2i, 1) := by decide +kernel
theorem dJ13_bitCount_95d88_57 : decode cJ13_bitCount_95d88 57 = .ok (.bipush 127, 2) := by decide +kernel
theorem dJ13_bitCount_95d88_59 : decode cJ13_bitCount_95d88 59 = .ok (.iand, 1) := by decide +kernel
theorem dJ13_bitCount_95d88_60 : decode cJ13_bitCount_95d88 60 = .ok (.ireturn, 1) := by decide +kernel
theorem dJ9_max_7cf53_0 : decode cJ9_max_7cf53 0 = .ok (.iload_n 0, 1) := by decide +kernel
theorem dJ9_max_7cf53_1 : decode cJ9_max_7cf53 1 = .ok (.iload_n 1, 1) := by decide +kernel
theorem dJ9_max_7cf53_2 : decode cJ9_max_7cf53 2 = .ok (.if_icmp .lt 7, 3) := by decide +kernel
theorem dJ9_max_7cf53_5 : decode cJ9_max_7cf53 5 = .ok (.iload_n 0, 1) := by decide +kernel
theorem dJ9_max_7cf53_6 : decode cJ9_max_7cf53 6 = .ok (.goto 4, 3) := by decide +kernel
theorem dJ9_max_7cf53_9 : decode cJ9_max_7cf53 9 = .ok (.iload_n 1, 1) := by decide +kernel
theorem dJ9_max_7cf53_10 : decode cJ9_max_7cf53 10 = .ok (.ireturn, 1) := by decide +kernel
theorem dJ9_min_7cf53_0 : decode cJ9_min_7cf53 0 = .ok (.iload_n 0, 1) := by decide +kernel
theorem dJ9_min_7cf53_1 : decode cJ9_min_7cf53 1 = .ok (.iload_n 1, 1) := by decide +kernel
theorem dJ9_min_7cf53_2 : decode cJ9_min_7cf53 2 = .ok (.if_icmp .gt 7, 3) := by decide +kernel
theorem dJ9_min_7cf53_5 : decode cJ9_min_7cf53 5 = .ok (.iload_n 0, 1) := by decide +kernel
theorem dJ9_min_7cf53_6 : decode cJ9_min_7cf53 6 = .ok (.goto 4, 3) := by decide +kernel
theorem dJ9_min_7cf53_9 : decode cJ9_min_7cf53 9 = .ok (.iload_n 1, 1) := by decide +kernel
theorem dJ9_min_7cf53_10 : decode cJ9_min_7cf53 10 = .ok (.ireturn, 1) := by decide +kernel
theorem dJ0_length_8abf5_0 : decode cJ0_length_8abf5 0 = .ok (.aload_n 0, 1) := by decide +kernel
theorem dJ0_length_8abf5_1 : decode cJ0_length_8abf5 1 = .ok (.getfield 9, 3) := by decide +kernel
theorem dJ0_length_8abf5_4 : decode cJ0_length_8abf5 4 = .ok (.arraylength, 1) := by decide +kernel
theorem dJ0_length_8abf5_5 : decode cJ0_length_8abf5 5 = .ok (.aload_n 0, 1) := by decide +kernel
theorem dJ0_length_8abf5_6 : decode cJ0_length_8abf5 6 = .ok (.invokevirtual 335, 3) := by decide +kernel
theorem dJ0_length_8abf5_9 : decode cJ0_length_8abf5 9 = .ok (.ishr, 1) := by decide +kernel
theorem dJ0_length_8abf5_10 : decode cJ0_length_8abf5 10 = .ok (.ireturn, 1) := by decide +kernel
theorem dJ0_charAt_5068e_0 : decode cJ0_charAt_5068e 0 = .ok (.aload_n 0, 1) := by decide +kernel
theorem dJ0_charAt_5068e_1 : decode cJ0_charAt_5068e 1 = .ok (.invokevirtual 492, 3) := by decide +kernel
theorem dJ0_charAt_5068e_4 : decode cJ0_charAt_5068e 4 = .ok (.ifCond .eq 12, 3) := by decide +kernel
theorem dJ0_charAt_5068e_7 : decode cJ0_charAt_5068e 7 = .ok (.aload_n 0, 1) := by decide +kernel
theorem dJ0_charAt_5068e_8 : decode cJ0_charAt_5068e 8 = .ok (.getfield 9, 3) := by decide +kernel
theorem dJ0_charAt_5068e_11 : decode cJ0_charAt_5068e 11 = .ok (.iload_n 1, 1) := by decide +kernel
theorem dJ0_charAt_5068e_12 : decode cJ0_charAt_5068e 12 = .ok (.invokestatic 495, 3) := by decide +kernel
theorem dJ0_charAt_5068e_15 : decode cJ0_charAt_5068e 15 = .ok (.ireturn, 1) := by decide +kernel
theorem dJ0_charAt_5068e_16 : decode cJ0_charAt_5068e 16 = .ok (.aload_n 0, 1) := by decide +kernel
theorem dJ0_charAt_5068e_17 : decode cJ0_charAt_5068e 17 = .ok (.getfield 9, 3) := by decide +kernel
theorem dJ0_charAt_5068e_20 : decode cJ0_charAt_5068e 20 = .ok (.iload_n 1, 1) := by decide +kernel
theorem dJ0_charAt_5068e_21 : decode cJ0_charAt_5068e 21 = .ok (.invokestatic 498, 3) := by decide +kernel
theorem dJ0_charAt_5068e_24 : decode cJ0_charAt_5068e 24 = .ok (.ireturn, 1) := by decide +kernel
theorem dJ0_coder_7d493_0 : decode cJ0_coder_7d493 0 = .ok (.getstatic 38, 3) := by decide +kernel
theorem dJ0_coder_7d493_3 : decode cJ0_coder_7d493 3 = .ok (.ifCond .eq 10, 3) := by decide +kernel
theorem dJ0_coder_7d493_6 : decode cJ0_coder_7d493 6 = .ok (.aload_n 0, 1) := by decide +kernel
theorem dJ0_coder_7d493_7 : decode cJ0_coder_7d493 7 = .ok (.getfield 15, 3) := by decide +kernel
theorem dJ0_coder_7d493_10 : decode cJ0_coder_7d493 10 = .ok (.goto 4, 3) := by decide +kernel
theorem dJ0_coder_7d493_13 : decode cJ0_coder_7d493 13 = .ok (.iconst 1, 1) := by decide +kernel
theorem dJ0_coder_7d493_14 : decode cJ0_coder_7d493 14 = .ok (.ireturn, 1) := by decide +kernel
theorem dJ0_isLatin1_aae02_0 : decode cJ0_isLatin1_aae02 0 = .ok (.getstatic 38, 3) := by decide +kernel
theorem dJ0_isLatin1_aae02_3 : decode cJ0_isLatin1_aae02 3 = .ok (.ifCond .eq 14, 3) := by decide +kernel
theorem dJ0_isLatin1_aae02_6 : decode cJ0_isLatin1_aae02 6 = .ok (.aload_n 0, 1) := by decide +kernel
theorem dJ0_isLatin1_aae02_7 : decode cJ0_isLatin1_aae02 7 = .ok (.getfield 15, 3) := by decide +kernel
theorem dJ0_isLatin1_aae02_10 : decode cJ0_isLatin1_aae02 10 = .ok (.ifCond .ne 7, 3) := by decide +kernel
theorem dJ0_isLatin1_aae02_13 : decode cJ0_isLatin1_aae02 13 = .ok (.iconst 1, 1) := by decide +kernel
theorem dJ0_isLatin1_aae02_14 : decode cJ0_isLatin1_aae02 14 = .ok (.goto 4, 3) := by decide +kernel
theorem dJ0_isLatin1_aae02_17 : decode cJ0_isLatin1_aae02 17 = .ok (.iconst 0, 1) := by decide +kernel
theorem dJ0_isLatin1_aae02_18 : decode cJ0_isLatin1_aae02 18 = .ok (.ireturn, 1) := by decide +kernel
theorem dJ0_checkIndex_df160_0 : decode cJ0_checkIndex_df160 0 = .ok (.iload_n 0, 1) := by decide +kernel
theorem dJ0_checkIndex_df160_1 : decode cJ0_checkIndex_df160 1 = .ok (.iload_n 1, 1) := by decide +kernel
theorem dJ0_checkIndex_df160_2 : decode cJ0_checkIndex_df160 2 = .ok (.getstatic 1053, 3) := by decide +kernel
theorem dJ0_checkIndex_df160_5 : decode cJ0_checkIndex_df160 5 = .ok (.invokestatic 1059, 3) := by decide +kernel
theorem dJ0_checkIndex_df160_8 : decode cJ0_checkIndex_df160 8 = .ok (.pop, 1) := by decide +kernel
theorem dJ0_checkIndex_df160_9 : decode cJ0_checkIndex_df160 9 = .ok (.return_, 1) := by decide +kernel
theorem dJ1_charAt_3b067_0 : decode cJ1_charAt_3b067 0 = .ok (.iload_n 1, 1) := by decide +kernel
theorem dJ1_charAt_3b067_1 : decode cJ1_charAt_3b067 1 = .ok (.aload_n 0, 1) := by decide +kernel
theorem dJ1_charAt_3b067_2 : decode cJ1_charAt_3b067 2 = .ok (.arraylength, 1) := by decide +kernel
theorem dJ1_charAt_3b067_3 : decode cJ1_charAt_3b067 3 = .ok (.invokestatic 9, 3) := by decide +kernel
theorem dJ1_charAt_3b067_6 : decode cJ1_charAt_3b067 6 = .ok (.aload_n 0, 1) := by decide +kernel
theorem dJ1_charAt_3b067_7 : decode cJ1_charAt_3b067 7 = .ok (.iload_n 1, 1) := by decide +kernel
theorem dJ1_charAt_3b067_8 : decode cJ1_charAt_3b067 8 = .ok (.baload, 1) := by decide +kernel
theorem dJ1_charAt_3b067_9 : decode cJ1_charAt_3b067 9 = .ok (.sipush 255, 3) := by decide +kernel
theorem dJ1_charAt_3b067_12 : decode cJ1_charAt_3b067 12 = .ok (.iand, 1) := by decide +kernel
theorem dJ1_charAt_3b067_13 : decode cJ1_charAt_3b067 13 = .ok (.i2c, 1) := by decide +kernel
theorem dJ1_charAt_3b067_14 : decode cJ1_charAt_3b067 14 = .ok (.ireturn, 1) := by decide +kernel
theorem dJ2_getChar_3b067_0 : decode cJ2_getChar_3b067 0 = .ok (.getstatic 44, 3) := by decide +kernel
theorem dJ2_getChar_3b067_3 : decode cJ2_getChar_3b067 3 = .ok (.ifCond .ne 25, 3) := by decide +kernel
theorem dJ2_getChar_3b067_6 : decode cJ2_getChar_3b067 6 = .ok (.iload_n 1, 1) := by decide +kernel
theorem dJ2_getChar_3b067_7 : decode cJ2_getChar_3b067 7 = .ok (.ifCond .lt 11, 3) := by decide +kernel
theorem dJ2_getChar_3b067_10 : decode cJ2_getChar_3b067 10 = .ok (.iload_n 1, 1) := by decide +kernel
theorem dJ2_getChar_3b067_11 : decode cJ2_getChar_3b067 11 = .ok (.aload_n 0, 1) := by decide +kernel
theorem dJ2_getChar_3b067_12 : decode cJ2_getChar_3b067 12 = .ok (.invokestatic 48, 3) := by decide +kernel
theorem dJ2_getChar_3b067_15 : decode cJ2_getChar_3b067 15 = .ok (.if_icmp .lt 13, 3) := by decide +kernel
theorem dJ2_getChar_3b067_18 : decode cJ2_getChar_3b067 18 = .ok (.new 52, 3) := by decide +kernel
theorem dJ2_getChar_3b067_21 : decode cJ2_getChar_3b067 21 = .ok (.dup, 1) := by decide +kernel
theorem dJ2_getChar_3b067_22 : decode cJ2_getChar_3b067 22 = .ok (.ldc 54, 2) := by decide +kernel
theorem dJ2_getChar_3b067_24 : decode cJ2_getChar_3b067 24 = .ok (.invokespecial 56, 3) := by decide +kernel
theorem dJ2_getChar_3b067_27 : decode cJ2_getChar_3b067 27 = .ok (.athrow, 1) := by decide +kernel
theorem dJ2_getChar_3b067_28 : decode cJ2_getChar_3b067 28 = .ok (.iload_n 1, 1) := by decide +kernel
theorem dJ2_getChar_3b067_29 : decode cJ2_getChar_3b067 29 = .ok (.iconst 1, 1) := by decide +kernel
theorem dJ2_getChar_3b067_30 : decode cJ2_getChar_3b067 30 = .ok (.ishl, 1) := by decide +kernel
theorem dJ2_getChar_3b067_31 : decode cJ2_getChar_3b067 31 = .ok (.istore_n 1, 1) := by decide +kernel
theorem dJ2_getChar_3b067_32 : decode cJ2_getChar_3b067 32 = .ok (.aload_n 0, 1) := by decide +kernel
theorem dJ2_getChar_3b067_33 : decode cJ2_getChar_3b067 33 = .ok (.iload_n 1, 1) := by decide +kernel
theorem dJ2_getChar_3b067_34 : decode cJ2_getChar_3b067 34 = .ok (.iinc 1 1, 3) := by decide +kernel
theorem dJ2_getChar_3b067_37 : decode cJ2_getChar_3b067 37 = .ok (.baload, 1) := by decide +kernel
theorem dJ2_getChar_3b067_38 : decode cJ2_getChar_3b067 38 = .ok (.sipush 255, 3) := by decide +kernel
theorem dJ2_getChar_3b067_41 : decode cJ2_getChar_3b067 41 = .ok (.iand, 1) := by decide +kernel
theorem dJ2_getChar_3b067_42 : decode cJ2_getChar_3b067 42 = .ok (.getstatic 59, 3) := by decide +kernel
theorem dJ2_getChar_3b067_45 : decode cJ2_getChar_3b067 45 = .ok (.ishl, 1) := by decide +kernel
theorem dJ2_getChar_3b067_46 : decode cJ2_getChar_3b067 46 = .ok (.aload_n 0, 1) := by decide +kernel
theorem dJ2_getChar_3b067_47 : decode cJ2_getChar_3b067 47 = .ok (.iload_n 1, 1) := by decide +kernel
theorem dJ2_getChar_3b067_48 : decode cJ2_getChar_3b067 48 = .ok (.baload, 1) := by decide +kernel
theorem dJ2_getChar_3b067_49 : decode cJ2_getChar_3b067 49 = .ok (.sipush 255, 3) := by decide +kernel
theorem dJ2_getChar_3b067_52 : decode cJ2_getChar_3b067 52 = .ok (.iand, 1) := by decide +kernel
theorem dJ2_getChar_3b067_53 : decode cJ2_getChar_3b067 53 = .ok (.getstatic 63, 3) := by decide +kernel
theorem dJ2_getChar_3b067_56 : decode cJ2_getChar_3b067 56 = .ok (.ishl, 1) := by decide +kernel
theorem dJ2_getChar_3b067_57 : decode cJ2_getChar_3b067 57 = .ok (.ior, 1) := by decide +kernel
theorem dJ2_getChar_3b067_58 : decode cJ2_getChar_3b067 58 = .ok (.i2c, 1) := by decide +kernel
theorem dJ2_getChar_3b067_59 : decode cJ2_getChar_3b067 59 = .ok (.ireturn, 1) := by decide +kernel
theorem dJ2_length_9d52b_0 : decode cJ2_length_9d52b 0 = .ok (.aload_n 0, 1) := by decide +kernel
theorem dJ2_length_9d52b_1 : decode cJ2_length_9d52b 1 = .ok (.arraylength, 1) := by decide +kernel
theorem dJ2_length_9d52b_2 : decode cJ2_length_9d52b 2 = .ok (.iconst 1, 1) := by decide +kernel
theorem dJ2_length_9d52b_3 : decode cJ2_length_9d52b 3 = .ok (.ishr, 1) := by decide +kernel
theorem dJ2_length_9d52b_4 : decode cJ2_length_9d52b 4 = .ok (.ireturn, 1) := by decide +kernel
theorem dJ2_charAt_3b067_0 : decode cJ2_charAt_3b067 0 = .ok (.iload_n 1, 1) := by decide +kernel
theorem dJ2_charAt_3b067_1 : decode cJ2_charAt_3b067 1 = .ok (.aload_n 0, 1) := by decide +kernel
theorem dJ2_charAt_3b067_2 : decode cJ2_charAt_3b067 2 = .ok (.invokestatic 67, 3) := by decide +kernel
theorem dJ2_charAt_3b067_5 : decode cJ2_charAt_3b067 5 = .ok (.aload_n 0, 1) := by decide +kernel
theorem dJ2_charAt_3b067_6 : decode cJ2_charAt_3b067 6 = .ok (.iload_n 1, 1) := by decide +kernel
theorem dJ2_charAt_3b067_7 : decode cJ2_charAt_3b067 7 = .ok (.invokestatic 71, 3) := by decide +kernel
theorem dJ2_charAt_3b067_10 : decode cJ2_charAt_3b067 10 = .ok (.ireturn, 1) := by decide +kernel
theorem dJ2_checkIndex_2214a_0 : decode cJ2_checkIndex_2214a 0 = .ok (.iload_n 0, 1) := by decide +kernel
theorem dJ2_checkIndex_2214a_1 : decode cJ2_checkIndex_2214a 1 = .ok (.aload_n 1, 1) := by decide +kernel
theorem dJ2_checkIndex_2214a_2 : decode cJ2_checkIndex_2214a 2 = .ok (.invokestatic 48, 3) := by decide +kernel
theorem dJ2_checkIndex_2214a_5 : decode cJ2_checkIndex_2214a 5 = .ok (.invokestatic 414, 3) := by decide +kernel
theorem dJ2_checkIndex_2214a_8 : decode cJ2_checkIndex_2214a 8 = .ok (.return_, 1) := by decide +kernel
theorem dJ7_fill_53178_0 : decode cJ7_fill_53178 0 = .ok (.iconst 0, 1) := by decide +kernel
theorem dJ7_fill_53178_1 : decode cJ7_fill_53178 1 = .ok (.istore_n 2, 1) := by decide +kernel
theorem dJ7_fill_53178_2 : decode cJ7_fill_53178 2 = .ok (.aload_n 0, 1) := by decide +kernel
theorem dJ7_fill_53178_3 : decode cJ7_fill_53178 3 = .ok (.arraylength, 1) := by decide +kernel
theorem dJ7_fill_53178_4 : decode cJ7_fill_53178 4 = .ok (.istore_n 3, 1) := by decide +kernel
theorem dJ7_fill_53178_5 : decode cJ7_fill_53178 5 = .ok (.iload_n 2, 1) := by decide +kernel
theorem dJ7_fill_53178_6 : decode cJ7_fill_53178 6 = .ok (.iload_n 3, 1) := by decide +kernel
theorem dJ7_fill_53178_7 : decode cJ7_fill_53178 7 = .ok (.if_icmp .ge 13, 3) := by decide +kernel
theorem dJ7_fill_53178_10 : decode cJ7_fill_53178 10 = .ok (.aload_n 0, 1) := by decide +kernel
theorem dJ7_fill_53178_11 : decode cJ7_fill_53178 11 = .ok (.iload_n 2, 1) := by decide +kernel
theorem dJ7_fill_53178_12 : decode cJ7_fill_53178 12 = .ok (.iload_n 1, 1) := by decide +kernel
theorem dJ7_fill_53178_13 : decode cJ7_fill_53178 13 = .ok (.iastore, 1) := by decide +kernel
theorem dJ7_fill_53178_14 : decode cJ7_fill_53178 14 = .ok (.iinc 2 1, 3) := by decide +kernel
theorem dJ7_fill_53178_17 : decode cJ7_fill_53178 17 = .ok (.goto (-12), 3) := by decide +kernel
theorem dJ7_fill_53178_20 : decode cJ7_fill_53178 20 = .ok (.return_, 1) := by decide +kernel
theorem dJ3_checkIndex_8e157_0 : decode cJ3_checkIndex_8e157 0 = .ok (.iload_n 0, 1) := by decide +kernel
theorem dJ3_checkIndex_8e157_1 : decode cJ3_checkIndex_8e157 1 = .ok (.ifCond .lt 8, 3) := by decide +kernel
theorem dJ3_checkIndex_8e157_4 : decode cJ3_checkIndex_8e157 4 = .ok (.iload_n 0, 1) := by decide +kernel
theorem dJ3_checkIndex_8e157_5 : decode cJ3_checkIndex_8e157 5 = .ok (.iload_n 1, 1) := by decide +kernel
theorem dJ3_checkIndex_8e157_6 : decode cJ3_checkIndex_8e157 6 = .ok (.if_icmp .lt 10, 3) := by decide +kernel
theorem dJ3_checkIndex_8e157_9 : decode cJ3_checkIndex_8e157 9 = .ok (.aload_n 2, 1) := by decide +kernel
theorem dJ3_checkIndex_8e157_10 : decode cJ3_checkIndex_8e157 10 = .ok (.iload_n 0, 1) := by decide +kernel
theorem dJ3_checkIndex_8e157_11 : decode cJ3_checkIndex_8e157 11 = .ok (.iload_n 1, 1) := by decide +kernel
theorem dJ3_checkIndex_8e157_12 : decode cJ3_checkIndex_8e157 12 = .ok (.invokestatic 95, 3) := by decide +kernel
theorem dJ3_checkIndex_8e157_15 : decode cJ3_checkIndex_8e157 15 = .ok (.athrow, 1) := by decide +kernel
theorem dJ3_checkIndex_8e157_16 : decode cJ3_checkIndex_8e157 16 = .ok (.iload_n 0, 1) := by decide +kernel
theorem dJ3_checkIndex_8e157_17 : decode cJ3_checkIndex_8e157 17 = .ok (.ireturn, 1) := by decide +kernel
theorem dL_part_0 : decode cL_part 0 = .ok (.iload_n 0, 1) := by decide +kernel
theorem dL_part_1 : decode cL_part 1 = .ok (.ldc 7, 2) := by decide +kernel
theorem dL_part_3 : decode cL_part 3 = .ok (.iand, 1) := by decide +kernel
theorem dL_part_4 : decode cL_part 4 = .ok (.iload_n 1, 1) := by decide +kernel
theorem dL_part_5 : decode cL_part 5 = .ok (.irem, 1) := by decide +kernel
theorem dL_part_6 : decode cL_part 6 = .ok (.ireturn, 1) := by decide +kernel
theorem dL_cell_0 : decode cL_cell 0 = .ok (.aload_n 0, 1) := by decide +kernel
theorem dL_cell_1 : decode cL_cell 1 = .ok (.arraylength, 1) := by decide +kernel
theorem dL_cell_2 : decode cL_cell 2 = .ok (.ifCond .ne 13, 3) := by decide +kernel
theorem dL_cell_5 : decode cL_cell 5 = .ok (.sipush 7919, 3) := by decide +kernel
theorem dL_cell_8 : decode cL_cell 8 = .ok (.iload_n 1, 1) := by decide +kernel
theorem dL_cell_9 : decode cL_cell 9 = .ok (.imul, 1) := by decide +kernel
theorem dL_cell_10 : decode cL_cell 10 = .ok (.iconst 3, 1) := by decide +kernel
theorem dL_cell_11 : decode cL_cell 11 = .ok (.iadd, 1) := by decide +kernel
theorem dL_cell_12 : decode cL_cell 12 = .ok (.goto 27, 3) := by decide +kernel
theorem dL_cell_15 : decode cL_cell 15 = .ok (.aload_n 0, 1) := by decide +kernel
theorem dL_cell_16 : decode cL_cell 16 = .ok (.iload_n 1, 1) := by decide +kernel
theorem dL_cell_17 : decode cL_cell 17 = .ok (.aload_n 0, 1) := by decide +kernel
theorem dL_cell_18 : decode cL_cell 18 = .ok (.arraylength, 1) := by decide +kernel
theorem dL_cell_19 : decode cL_cell 19 = .ok (.irem, 1) := by decide +kernel
theorem dL_cell_20 : decode cL_cell 20 = .ok (.iaload, 1) := by decide +kernel
theorem dL_cell_21 : decode cL_cell 21 = .ok (.iload_n 1, 1) := by decide +kernel
theorem dL_cell_22 : decode cL_cell 22 = .ok (.bipush 7, 2) := by decide +kernel
theorem dL_cell_24 : decode cL_cell 24 = .ok (.irem, 1) := by decide +kernel
theorem dL_cell_25 : decode cL_cell 25 = .ok (.ishr, 1) := by decide +kernel
theorem dL_cell_26 : decode cL_cell 26 = .ok (.iload_n 1, 1) := by decide +kernel
theorem dL_cell_27 : decode cL_cell 27 = .ok (.aload_n 0, 1) := by decide +kernel
theorem dL_cell_28 : decode cL_cell 28 = .ok (.arraylength, 1) := by decide +kernel
theorem dL_cell_29 : decode cL_cell 29 = .ok (.idiv, 1) := by decide +kernel
theorem dL_cell_30 : decode cL_cell 30 = .ok (.bipush 31, 2) := by decide +kernel
theorem dL_cell_32 : decode cL_cell 32 = .ok (.imul, 1) := by decide +kernel
theorem dL_cell_33 : decode cL_cell 33 = .ok (.ixor, 1) := by decide +kernel
theorem dL_cell_34 : decode cL_cell 34 = .ok (.iload_n 1, 1) := by decide +kernel
theorem dL_cell_35 : decode cL_cell 35 = .ok (.ldc 8, 2) := by decide +kernel
theorem dL_cell_37 : decode cL_cell 37 = .ok (.imul, 1) := by decide +kernel
theorem dL_cell_38 : decode cL_cell 38 = .ok (.ixor, 1) := by decide +kernel
theorem dL_cell_39 : decode cL_cell 39 = .ok (.ireturn, 1) := by decide +kernel
theorem dL_nets_0 : decode cL_nets 0 = .ok (.iconst 2, 1) := by decide +kernel
theorem dL_nets_1 : decode cL_nets 1 = .ok (.aload_n 2, 1) := by decide +kernel
theorem dL_nets_2 : decode cL_nets 2 = .ok (.iload_n 3, 1) := by decide +kernel
theorem dL_nets_3 : decode cL_nets 3 = .ok (.invokestatic 9, 3) := by decide +kernel
theorem dL_nets_6 : decode cL_nets 6 = .ok (.bipush 7, 2) := by decide +kernel
theorem dL_nets_8 : decode cL_nets 8 = .ok (.invokestatic 15, 3) := by decide +kernel
theorem dL_nets_11 : decode cL_nets 11 = .ok (.iadd, 1) := by decide +kernel
theorem dL_nets_12 : decode cL_nets 12 = .ok (.istore 4, 2) := by decide +kernel
theorem dL_nets_14 : decode cL_nets 14 = .ok (.aload_n 2, 1) := by decide +kernel
theorem dL_nets_15 : decode cL_nets 15 = .ok (.iload_n 3, 1) := by decide +kernel
theorem dL_nets_16 : decode cL_nets 16 = .ok (.invokestatic 9, 3) := by decide +kernel
theorem dL_nets_19 : decode cL_nets 19 = .ok (.iconst 3, 1) := by decide +kernel
theorem dL_nets_20 : decode cL_nets 20 = .ok (.ishr, 1) := by decide +kernel
theorem dL_nets_21 : decode cL_nets 21 = .ok (.bipush 15, 2) := by decide +kernel
theorem dL_nets_23 : decode cL_nets 23 = .ok (.invokestatic 15, 3) := by decide +kernel
theorem dL_nets_26 : decode cL_nets 26 = .ok (.istore 5, 2) := by decide +kernel
theorem dL_nets_28 : decode cL_nets 28 = .ok (.aload_n 1, 1) := by decide +kernel
theorem dL_nets_29 : decode cL_nets 29 = .ok (.iconst 0, 1) := by decide +kernel
theorem dL_nets_30 : decode cL_nets 30 = .ok (.iload 4, 2) := by decide +kernel
theorem dL_nets_32 : decode cL_nets 32 = .ok (.iastore, 1) := by decide +kernel
theorem dL_nets_33 : decode cL_nets 33 = .ok (.aload_n 1, 1) := by decide +kernel
theorem dL_nets_34 : decode cL_nets 34 = .ok (.iconst 1, 1) := by decide +kernel
theorem dL_nets_35 : decode cL_nets 35 = .ok (.iconst 0, 1) := by decide +kernel
theorem dL_nets_36 : decode cL_nets 36 = .ok (.iastore, 1) := by decide +kernel
theorem dL_nets_37 : decode cL_nets 37 = .ok (.aload_n 0, 1) := by decide +kernel
theorem dL_nets_38 : decode cL_nets 38 = .ok (.invokevirtual 19, 3) := by decide +kernel
theorem dL_nets_41 : decode cL_nets 41 = .ok (.pop, 1) := by decide +kernel
theorem dL_nets_42 : decode cL_nets 42 = .ok (.aload_n 0, 1) := by decide +kernel
theorem dL_nets_43 : decode cL_nets 43 = .ok (.bipush 110, 2) := by decide +kernel
theorem dL_nets_45 : decode cL_nets 45 = .ok (.bipush 111, 2) := by decide +kernel
theorem dL_nets_47 : decode cL_nets 47 = .ok (.bipush 100, 2) := by decide +kernel
theorem dL_nets_49 : decode cL_nets 49 = .ok (.bipush 101, 2) := by decide +kernel
theorem dL_nets_51 : decode cL_nets 51 = .ok (.invokestatic 25, 3) := by decide +kernel
theorem dL_nets_54 : decode cL_nets 54 = .ok (.aload_n 0, 1) := by decide +kernel
theorem dL_nets_55 : decode cL_nets 55 = .ok (.bipush 115, 2) := by decide +kernel
theorem dL_nets_57 : decode cL_nets 57 = .ok (.bipush 48, 2) := by decide +kernel
theorem dL_nets_59 : decode cL_nets 59 = .ok (.iload 4, 2) := by decide +kernel
theorem dL_nets_61 : decode cL_nets 61 = .ok (.iadd, 1) := by decide +kernel
theorem dL_nets_62 : decode cL_nets 62 = .ok (.bipush 32, 2) := by decide +kernel
theorem dL_nets_64 : decode cL_nets 64 = .ok (.bipush 32, 2) := by decide +kernel
theorem dL_nets_66 : decode cL_nets 66 = .ok (.invokestatic 25, 3) := by decide +kernel
theorem dL_nets_69 : decode cL_nets 69 = .ok (.iconst 0, 1) := by decide +kernel
theorem dL_nets_70 : decode cL_nets 70 = .ok (.istore 6, 2) := by decide +kernel
theorem dL_nets_72 : decode cL_nets 72 = .ok (.iload 6, 2) := by decide +kernel
theorem dL_nets_74 : decode cL_nets 74 = .ok (.iload 5, 2) := by decide +kernel
theorem dL_nets_76 : decode cL_nets 76 = .ok (.if_icmp .ge 271, 3) := by decide +kernel
theorem dL_nets_79 : decode cL_nets 79 = .ok (.aload_n 2, 1) := by decide +kernel
theorem dL_nets_80 : decode cL_nets 80 = .ok (.iload_n 3, 1) := by decide +kernel
theorem dL_nets_81 : decode cL_nets 81 = .ok (.iconst 1, 1) := by decide +kernel
theorem dL_nets_82 : decode cL_nets 82 = .ok (.iadd, 1) := by decide +kernel
theorem dL_nets_83 : decode cL_nets 83 = .ok (.iload 6, 2) := by decide +kernel
theorem dL_nets_85 : decode cL_nets 85 = .ok (.iadd, 1) := by decide +kernel
theorem dL_nets_86 : decode cL_nets 86 = .ok (.invokestatic 9, 3) := by decide +kernel
theorem dL_nets_89 : decode cL_nets 89 = .ok (.istore 7, 2) := by decide +kernel
theorem dL_nets_91 : decode cL_nets 91 = .ok (.iload 7, 2) := by decide +kernel
theorem dL_nets_93 : decode cL_nets 93 = .ok (.iload 4, 2) := by decide +kernel
theorem dL_nets_95 : decode cL_nets 95 = .ok (.invokestatic 15, 3) := by decide +kernel
theorem dL_nets_98 : decode cL_nets 98 = .ok (.istore 8, 2) := by decide +kernel
theorem dL_nets_100 : decode cL_nets 100 = .ok (.iload 7, 2) := by decide +kernel
theorem dL_nets_102 : decode cL_nets 102 = .ok (.iconst 3, 1) := by decide +kernel
theorem dL_nets_103 : decode cL_nets 103 = .ok (.ishr, 1) := by decide +kernel
theorem dL_nets_104 : decode cL_nets 104 = .ok (.iload 4, 2) := by decide +kernel
theorem dL_nets_106 : decode cL_nets 106 = .ok (.invokestatic 15, 3) := by decide +kernel
theorem dL_nets_109 : decode cL_nets 109 = .ok (.istore 9, 2) := by decide +kernel
theorem dL_nets_111 : decode cL_nets 111 = .ok (.iload 7, 2) := by decide +kernel
theorem dL_nets_113 : decode cL_nets 113 = .ok (.bipush 6, 2) := by decide +kernel
theorem dL_nets_115 : decode cL_nets 115 = .ok (.ishr, 1) := by decide +kernel
theorem dL_nets_116 : decode cL_nets 116 = .ok (.iconst 3, 1) := by decide +kernel
theorem dL_nets_117 : decode cL_nets 117 = .ok (.invokestatic 15, 3) := by decide +kernel
theorem dL_nets_120 : decode cL_nets 120 = .ok (.ifCond .le 12, 3) := by decide +kernel
theorem dL_nets_123 : decode cL_nets 123 = .ok (.iload 8, 2) := by decide +kernel
theorem dL_nets_125 : decode cL_nets 125 = .ok (.iconst 1, 1) := by decide +kernel
theorem dL_nets_126 : decode cL_nets 126 = .ok (.iadd, 1) := by decide +kernel
theorem dL_nets_127 : decode cL_nets 127 = .ok (.iload 4, 2) := by decide +kernel
theorem dL_nets_129 : decode cL_nets 129 = .ok (.irem, 1) := by decide +kernel
theorem dL_nets_130 : decode cL_nets 130 = .ok (.istore 9, 2) := by decide +kernel
theorem dL_nets_132 : decode cL_nets 132 = .ok (.iconst 1, 1) := by decide +kernel
theorem dL_nets_133 : decode cL_nets 133 = .ok (.iload 7, 2) := by decide +kernel
theorem dL_nets_135 : decode cL_nets 135 = .ok (.bipush 9, 2) := by decide +kernel
theorem dL_nets_137 : decode cL_nets 137 = .ok (.ishr, 1) := by decide +kernel
theorem dL_nets_138 : decode cL_nets 138 = .ok (.iload 7, 2) := by decide +kernel
theorem dL_nets_140 : decode cL_nets 140 = .ok (.bipush 20, 2) := by decide +kernel
theorem dL_nets_142 : decode cL_nets 142 = .ok (.ishr, 1) := by decide +kernel
theorem dL_nets_143 : decode cL_nets 143 = .ok (.iconst 2, 1) := by decide +kernel
theorem dL_nets_144 : decode cL_nets 144 = .ok (.invokestatic 15, 3) := by decide +kernel
theorem dL_nets_147 : decode cL_nets 147 = .ok (.ifCond .ne 8, 3) := by decide +kernel
theorem dL_nets_150 : decode cL_nets 150 = .ok (.bipush 9, 2) := by decide +kernel
theorem dL_nets_152 : decode cL_nets 152 = .ok (.goto 4, 3) := by decide +kernel
theorem dL_nets_155 : decode cL_nets 155 = .ok (.iconst 3, 1) := by decide +kernel
theorem dL_nets_156 : decode cL_nets 156 = .ok (.invokestatic 15, 3) := by decide +kernel
theorem dL_nets_159 : decode cL_nets 159 = .ok (.iadd, 1) := by decide +kernel
theorem dL_nets_160 : decode cL_nets 160 = .ok (.istore 10, 2) := by decide +kernel
theorem dL_nets_162 : decode cL_nets 162 = .ok (.iconst 1, 1) := by decide +kernel
theorem dL_nets_163 : decode cL_nets 163 = .ok (.iload 7, 2) := by decide +kernel
theorem dL_nets_165 : decode cL_nets 165 = .ok (.bipush 13, 2) := by decide +kernel
theorem dL_nets_167 : decode cL_nets 167 = .ok (.ishr, 1) := by decide +kernel
theorem dL_nets_168 : decode cL_nets 168 = .ok (.iload 7, 2) := by decide +kernel
theorem dL_nets_170 : decode cL_nets 170 = .ok (.bipush 21, 2) := by decide +kernel
theorem dL_nets_172 : decode cL_nets 172 = .ok (.ishr, 1) := by decide +kernel
theorem dL_nets_173 : decode cL_nets 173 = .ok (.iconst 2, 1) := by decide +kernel
theorem dL_nets_174 : decode cL_nets 174 = .ok (.invokestatic 15, 3) := by decide +kernel
theorem dL_nets_177 : decode cL_nets 177 = .ok (.ifCond .ne 8, 3) := by decide +kernel
theorem dL_nets_180 : decode cL_nets 180 = .ok (.bipush 9, 2) := by decide +kernel
theorem dL_nets_182 : decode cL_nets 182 = .ok (.goto 4, 3) := by decide +kernel
theorem dL_nets_185 : decode cL_nets 185 = .ok (.iconst 3, 1) := by decide +kernel
theorem dL_nets_186 : decode cL_nets 186 = .ok (.invokestatic 15, 3) := by decide +kernel
theorem dL_nets_189 : decode cL_nets 189 = .ok (.iadd, 1) := by decide +kernel
theorem dL_nets_190 : decode cL_nets 190 = .ok (.istore 11, 2) := by decide +kernel
theorem dL_nets_192 : decode cL_nets 192 = .ok (.iload 8, 2) := by decide +kernel
theorem dL_nets_194 : decode cL_nets 194 = .ok (.iload 9, 2) := by decide +kernel
theorem dL_nets_196 : decode cL_nets 196 = .ok (.if_icmp .ne 6, 3) := by decide +kernel
theorem dL_nets_199 : decode cL_nets 199 = .ok (.goto 142, 3) := by decide +kernel
theorem dL_nets_202 : decode cL_nets 202 = .ok (.aload_n 0, 1) := by decide +kernel
theorem dL_nets_203 : decode cL_nets 203 = .ok (.bipush 59, 2) := by decide +kernel
theorem dL_nets_205 : decode cL_nets 205 = .ok (.bipush 108, 2) := by decide +kernel
theorem dL_nets_207 : decode cL_nets 207 = .ok (.bipush 105, 2) := by decide +kernel
theorem dL_nets_209 : decode cL_nets 209 = .ok (.bipush 110, 2) := by decide +kernel
theorem dL_nets_211 : decode cL_nets 211 = .ok (.invokestatic 25, 3) := by decide +kernel
theorem dL_nets_214 : decode cL_nets 214 = .ok (.aload_n 0, 1) := by decide +kernel
theorem dL_nets_215 : decode cL_nets 215 = .ok (.bipush 107, 2) := by decide +kernel
theorem dL_nets_217 : decode cL_nets 217 = .ok (.bipush 48, 2) := by decide +kernel
theorem dL_nets_219 : decode cL_nets 219 = .ok (.iload 8, 2) := by decide +kernel
theorem dL_nets_221 : decode cL_nets 221 = .ok (.iadd, 1) := by decide +kernel
theorem dL_nets_222 : decode cL_nets 222 = .ok (.bipush 32, 2) := by decide +kernel
theorem dL_nets_224 : decode cL_nets 224 = .ok (.bipush 48, 2) := by decide +kernel
theorem dL_nets_226 : decode cL_nets 226 = .ok (.iload 9, 2) := by decide +kernel
theorem dL_nets_228 : decode cL_nets 228 = .ok (.iadd, 1) := by decide +kernel
theorem dL_nets_229 : decode cL_nets 229 = .ok (.invokestatic 25, 3) := by decide +kernel
theorem dL_nets_232 : decode cL_nets 232 = .ok (.aload_n 0, 1) := by decide +kernel
theorem dL_nets_233 : decode cL_nets 233 = .ok (.bipush 32, 2) := by decide +kernel
theorem dL_nets_235 : decode cL_nets 235 = .ok (.bipush 48, 2) := by decide +kernel
theorem dL_nets_237 : decode cL_nets 237 = .ok (.iload 10, 2) := by decide +kernel
theorem dL_nets_239 : decode cL_nets 239 = .ok (.iadd, 1) := by decide +kernel
theorem dL_nets_240 : decode cL_nets 240 = .ok (.bipush 32, 2) := by decide +kernel
theorem dL_nets_242 : decode cL_nets 242 = .ok (.bipush 48, 2) := by decide +kernel
theorem dL_nets_244 : decode cL_nets 244 = .ok (.iload 11, 2) := by decide +kernel
theorem dL_nets_246 : decode cL_nets 246 = .ok (.iadd, 1) := by decide +kernel
theorem dL_nets_247 : decode cL_nets 247 = .ok (.invokestatic 25, 3) := by decide +kernel
theorem dL_nets_250 : decode cL_nets 250 = .ok (.aload_n 1, 1) := by decide +kernel
theorem dL_nets_251 : decode cL_nets 251 = .ok (.iload 8, 2) := by decide +kernel
theorem dL_nets_253 : decode cL_nets 253 = .ok (.iload 9, 2) := by decide +kernel
theorem dL_nets_255 : decode cL_nets 255 = .ok (.invokestatic 29, 3) := by decide +kernel
theorem dL_nets_258 : decode cL_nets 258 = .ok (.istore 12, 2) := by decide +kernel
theorem dL_nets_260 : decode cL_nets 260 = .ok (.iload 12, 2) := by decide +kernel
theorem dL_nets_262 : decode cL_nets 262 = .ok (.ifCond .ge 59, 3) := by decide +kernel
theorem dL_nets_265 : decode cL_nets 265 = .ok (.aload_n 1, 1) := by decide +kernel
theorem dL_nets_266 : decode cL_nets 266 = .ok (.iconst 1, 1) := by decide +kernel
theorem dL_nets_267 : decode cL_nets 267 = .ok (.iaload, 1) := by decide +kernel
theorem dL_nets_268 : decode cL_nets 268 = .ok (.istore 12, 2) := by decide +kernel
theorem dL_nets_270 : decode cL_nets 270 = .ok (.aload_n 1, 1) := by decide +kernel
theorem dL_nets_271 : decode cL_nets 271 = .ok (.iconst 1, 1) := by decide +kernel
theorem dL_nets_272 : decode cL_nets 272 = .ok (.dup2, 1) := by decide +kernel
theorem dL_nets_273 : decode cL_nets 273 = .ok (.iaload, 1) := by decide +kernel
theorem dL_nets_274 : decode cL_nets 274 = .ok (.iconst 1, 1) := by decide +kernel
theorem dL_nets_275 : decode cL_nets 275 = .ok (.iadd, 1) := by decide +kernel
theorem dL_nets_276 : decode cL_nets 276 = .ok (.iastore, 1) := by decide +kernel
theorem dL_nets_277 : decode cL_nets 277 = .ok (.aload_n 1, 1) := by decide +kernel
theorem dL_nets_278 : decode cL_nets 278 = .ok (.iconst 2, 1) := by decide +kernel
theorem dL_nets_279 : decode cL_nets 279 = .ok (.iconst 4, 1) := by decide +kernel
theorem dL_nets_280 : decode cL_nets 280 = .ok (.iload 12, 2) := by decide +kernel
theorem dL_nets_282 : decode cL_nets 282 = .ok (.imul, 1) := by decide +kernel
theorem dL_nets_283 : decode cL_nets 283 = .ok (.iadd, 1) := by decide +kernel
theorem dL_nets_284 : decode cL_nets 284 = .ok (.iload 8, 2) := by decide +kernel
theorem dL_nets_286 : decode cL_nets 286 = .ok (.iload 9, 2) := by decide +kernel
theorem dL_nets_288 : decode cL_nets 288 = .ok (.if_icmp .ge 8, 3) := by decide +kernel
theorem dL_nets_291 : decode cL_nets 291 = .ok (.iload 8, 2) := by decide +kernel
theorem dL_nets_293 : decode cL_nets 293 = .ok (.goto 5, 3) := by decide +kernel
theorem dL_nets_296 : decode cL_nets 296 = .ok (.iload 9, 2) := by decide +kernel
theorem dL_nets_298 : decode cL_nets 298 = .ok (.iastore, 1) := by decide +kernel
theorem dL_nets_299 : decode cL_nets 299 = .ok (.aload_n 1, 1) := by decide +kernel
theorem dL_nets_300 : decode cL_nets 300 = .ok (.iconst 3, 1) := by decide +kernel
theorem dL_nets_301 : decode cL_nets 301 = .ok (.iconst 4, 1) := by decide +kernel
theorem dL_nets_302 : decode cL_nets 302 = .ok (.iload 12, 2) := by decide +kernel
theorem dL_nets_304 : decode cL_nets 304 = .ok (.imul, 1) := by decide +kernel
theorem dL_nets_305 : decode cL_nets 305 = .ok (.iadd, 1) := by decide +kernel
theorem dL_nets_306 : decode cL_nets 306 = .ok (.iload 8, 2) := by decide +kernel
theorem dL_nets_308 : decode cL_nets 308 = .ok (.iload 9, 2) := by decide +kernel
theorem dL_nets_310 : decode cL_nets 310 = .ok (.if_icmp .ge 8, 3) := by decide +kernel
theorem dL_nets_313 : decode cL_nets 313 = .ok (.iload 9, 2) := by decide +kernel
theorem dL_nets_315 : decode cL_nets 315 = .ok (.goto 5, 3) := by decide +kernel
theorem dL_nets_318 : decode cL_nets 318 = .ok (.iload 8, 2) := by decide +kernel
theorem dL_nets_320 : decode cL_nets 320 = .ok (.iastore, 1) := by decide +kernel
theorem dL_nets_321 : decode cL_nets 321 = .ok (.aload_n 1, 1) := by decide +kernel
theorem dL_nets_322 : decode cL_nets 322 = .ok (.iconst 4, 1) := by decide +kernel
theorem dL_nets_323 : decode cL_nets 323 = .ok (.iconst 4, 1) := by decide +kernel
theorem dL_nets_324 : decode cL_nets 324 = .ok (.iload 12, 2) := by decide +kernel
theorem dL_nets_326 : decode cL_nets 326 = .ok (.imul, 1) := by decide +kernel
theorem dL_nets_327 : decode cL_nets 327 = .ok (.iadd, 1) := by decide +kernel
theorem dL_nets_328 : decode cL_nets 328 = .ok (.iload 10, 2) := by decide +kernel
theorem dL_nets_330 : decode cL_nets 330 = .ok (.iastore, 1) := by decide +kernel
theorem dL_nets_331 : decode cL_nets 331 = .ok (.aload_n 1, 1) := by decide +kernel
theorem dL_nets_332 : decode cL_nets 332 = .ok (.iconst 5, 1) := by decide +kernel
theorem dL_nets_333 : decode cL_nets 333 = .ok (.iconst 4, 1) := by decide +kernel
theorem dL_nets_334 : decode cL_nets 334 = .ok (.iload 12, 2) := by decide +kernel
theorem dL_nets_336 : decode cL_nets 336 = .ok (.imul, 1) := by decide +kernel
theorem dL_nets_337 : decode cL_nets 337 = .ok (.iadd, 1) := by decide +kernel
theorem dL_nets_338 : decode cL_nets 338 = .ok (.iload 11, 2) := by decide +kernel
theorem dL_nets_340 : decode cL_nets 340 = .ok (.iastore, 1) := by decide +kernel
theorem dL_nets_341 : decode cL_nets 341 = .ok (.iinc 6 1, 3) := by decide +kernel
theorem dL_nets_344 : decode cL_nets 344 = .ok (.goto (-272), 3) := by decide +kernel
theorem dL_nets_347 : decode cL_nets 347 = .ok (.aload_n 0, 1) := by decide +kernel
theorem dL_nets_348 : decode cL_nets 348 = .ok (.invokevirtual 33, 3) := by decide +kernel
theorem dL_nets_351 : decode cL_nets 351 = .ok (.iconst (-1), 1) := by decide +kernel
theorem dL_nets_352 : decode cL_nets 352 = .ok (.if_icmp .ne 63, 3) := by decide +kernel
theorem dL_nets_355 : decode cL_nets 355 = .ok (.aload_n 0, 1) := by decide +kernel
theorem dL_nets_356 : decode cL_nets 356 = .ok (.invokevirtual 36, 3) := by decide +kernel
theorem dL_nets_359 : decode cL_nets 359 = .ok (.ifCond .le 56, 3) := by decide +kernel
theorem dL_nets_362 : decode cL_nets 362 = .ok (.aload_n 0, 1) := by decide +kernel
theorem dL_nets_363 : decode cL_nets 363 = .ok (.iconst 0, 1) := by decide +kernel
theorem dL_nets_364 : decode cL_nets 364 = .ok (.invokevirtual 39, 3) := by decide +kernel
theorem dL_nets_367 : decode cL_nets 367 = .ok (.iload 4, 2) := by decide +kernel
theorem dL_nets_369 : decode cL_nets 369 = .ok (.if_icmp .ne 46, 3) := by decide +kernel
theorem dL_nets_372 : decode cL_nets 372 = .ok (.aload_n 0, 1) := by decide +kernel
theorem dL_nets_373 : decode cL_nets 373 = .ok (.iconst 1, 1) := by decide +kernel
theorem dL_nets_374 : decode cL_nets 374 = .ok (.invokevirtual 39, 3) := by decide +kernel
theorem dL_nets_377 : decode cL_nets 377 = .ok (.aload_n 1, 1) := by decide +kernel
theorem dL_nets_378 : decode cL_nets 378 = .ok (.iconst 1, 1) := by decide +kernel
theorem dL_nets_379 : decode cL_nets 379 = .ok (.iaload, 1) := by decide +kernel
theorem dL_nets_380 : decode cL_nets 380 = .ok (.if_icmp .ne 35, 3) := by decide +kernel
theorem dL_nets_383 : decode cL_nets 383 = .ok (.aload_n 0, 1) := by decide +kernel
theorem dL_nets_384 : decode cL_nets 384 = .ok (.iconst 2, 1) := by decide +kernel
theorem dL_nets_385 : decode cL_nets 385 = .ok (.invokevirtual 39, 3) := by decide +kernel
theorem dL_nets_388 : decode cL_nets 388 = .ok (.aload_n 1, 1) := by decide +kernel
theorem dL_nets_389 : decode cL_nets 389 = .ok (.iconst 1, 1) := by decide +kernel
theorem dL_nets_390 : decode cL_nets 390 = .ok (.iaload, 1) := by decide +kernel
theorem dL_nets_391 : decode cL_nets 391 = .ok (.if_icmp .ne 24, 3) := by decide +kernel
theorem dL_nets_394 : decode cL_nets 394 = .ok (.aload_n 0, 1) := by decide +kernel
theorem dL_nets_395 : decode cL_nets 395 = .ok (.iconst 3, 1) := by decide +kernel
theorem dL_nets_396 : decode cL_nets 396 = .ok (.invokevirtual 39, 3) := by decide +kernel
theorem dL_nets_399 : decode cL_nets 399 = .ok (.ifCond .ne 16, 3) := by decide +kernel
theorem dL_nets_402 : decode cL_nets 402 = .ok (.aload_n 0, 1) := by decide +kernel
theorem dL_nets_403 : decode cL_nets 403 = .ok (.bipush 12, 2) := by decide +kernel
theorem dL_nets_405 : decode cL_nets 405 = .ok (.invokevirtual 39, 3) := by decide +kernel
theorem dL_nets_408 : decode cL_nets 408 = .ok (.ifCond .ne 7, 3) := by decide +kernel
theorem dL_nets_411 : decode cL_nets 411 = .ok (.iconst 1, 1) := by decide +kernel
theorem dL_nets_412 : decode cL_nets 412 = .ok (.goto 4, 3) := by decide +kernel
theorem dL_nets_415 : decode cL_nets 415 = .ok (.iconst 0, 1) := by decide +kernel
theorem dL_nets_416 : decode cL_nets 416 = .ok (.ireturn, 1) := by decide +kernel
theorem dL_says_0 : decode cL_says 0 = .ok (.aload_n 0, 1) := by decide +kernel
theorem dL_says_1 : decode cL_says 1 = .ok (.iload_n 1, 1) := by decide +kernel
theorem dL_says_2 : decode cL_says 2 = .ok (.invokevirtual 43, 3) := by decide +kernel
theorem dL_says_5 : decode cL_says 5 = .ok (.pop, 1) := by decide +kernel
theorem dL_says_6 : decode cL_says 6 = .ok (.aload_n 0, 1) := by decide +kernel
theorem dL_says_7 : decode cL_says 7 = .ok (.iload_n 2, 1) := by decide +kernel
theorem dL_says_8 : decode cL_says 8 = .ok (.invokevirtual 43, 3) := by decide +kernel
theorem dL_says_11 : decode cL_says 11 = .ok (.pop, 1) := by decide +kernel
theorem dL_says_12 : decode cL_says 12 = .ok (.aload_n 0, 1) := by decide +kernel
theorem dL_says_13 : decode cL_says 13 = .ok (.iload_n 3, 1) := by decide +kernel
theorem dL_says_14 : decode cL_says 14 = .ok (.invokevirtual 43, 3) := by decide +kernel
theorem dL_says_17 : decode cL_says 17 = .ok (.pop, 1) := by decide +kernel
theorem dL_says_18 : decode cL_says 18 = .ok (.aload_n 0, 1) := by decide +kernel
theorem dL_says_19 : decode cL_says 19 = .ok (.iload 4, 2) := by decide +kernel
theorem dL_says_21 : decode cL_says 21 = .ok (.invokevirtual 43, 3) := by decide +kernel
theorem dL_says_24 : decode cL_says 24 = .ok (.pop, 1) := by decide +kernel
theorem dL_says_25 : decode cL_says 25 = .ok (.return_, 1) := by decide +kernel
theorem dL_linkOf_0 : decode cL_linkOf 0 = .ok (.iconst 0, 1) := by decide +kernel
theorem dL_linkOf_1 : decode cL_linkOf 1 = .ok (.istore_n 3, 1) := by decide +kernel
theorem dL_linkOf_2 : decode cL_linkOf 2 = .ok (.iload_n 3, 1) := by decide +kernel
theorem dL_linkOf_3 : decode cL_linkOf 3 = .ok (.aload_n 0, 1) := by decide +kernel
theorem dL_linkOf_4 : decode cL_linkOf 4 = .ok (.iconst 1, 1) := by decide +kernel
theorem dL_linkOf_5 : decode cL_linkOf 5 = .ok (.iaload, 1) := by decide +kernel
theorem dL_linkOf_6 : decode cL_linkOf 6 = .ok (.if_icmp .ge 55, 3) := by decide +kernel
theorem dL_linkOf_9 : decode cL_linkOf 9 = .ok (.aload_n 0, 1) := by decide +kernel
theorem dL_linkOf_10 : decode cL_linkOf 10 = .ok (.iconst 2, 1) := by decide +kernel
theorem dL_linkOf_11 : decode cL_linkOf 11 = .ok (.iconst 4, 1) := by decide +kernel
theorem dL_linkOf_12 : decode cL_linkOf 12 = .ok (.iload_n 3, 1) := by decide +kernel
theorem dL_linkOf_13 : decode cL_linkOf 13 = .ok (.imul, 1) := by decide +kernel
theorem dL_linkOf_14 : decode cL_linkOf 14 = .ok (.iadd, 1) := by decide +kernel
theorem dL_linkOf_15 : decode cL_linkOf 15 = .ok (.iaload, 1) := by decide +kernel
theorem dL_linkOf_16 : decode cL_linkOf 16 = .ok (.iload_n 1, 1) := by decide +kernel
theorem dL_linkOf_17 : decode cL_linkOf 17 = .ok (.if_icmp .ne 14, 3) := by decide +kernel
theorem dL_linkOf_20 : decode cL_linkOf 20 = .ok (.aload_n 0, 1) := by decide +kernel
theorem dL_linkOf_21 : decode cL_linkOf 21 = .ok (.iconst 3, 1) := by decide +kernel
theorem dL_linkOf_22 : decode cL_linkOf 22 = .ok (.iconst 4, 1) := by decide +kernel
theorem dL_linkOf_23 : decode cL_linkOf 23 = .ok (.iload_n 3, 1) := by decide +kernel
theorem dL_linkOf_24 : decode cL_linkOf 24 = .ok (.imul, 1) := by decide +kernel
theorem dL_linkOf_25 : decode cL_linkOf 25 = .ok (.iadd, 1) := by decide +kernel
theorem dL_linkOf_26 : decode cL_linkOf 26 = .ok (.iaload, 1) := by decide +kernel
theorem dL_linkOf_27 : decode cL_linkOf 27 = .ok (.iload_n 2, 1) := by decide +kernel
theorem dL_linkOf_28 : decode cL_linkOf 28 = .ok (.if_icmp .eq 25, 3) := by decide +kernel
theorem dL_linkOf_31 : decode cL_linkOf 31 = .ok (.aload_n 0, 1) := by decide +kernel
theorem dL_linkOf_32 : decode cL_linkOf 32 = .ok (.iconst 2, 1) := by decide +kernel
theorem dL_linkOf_33 : decode cL_linkOf 33 = .ok (.iconst 4, 1) := by decide +kernel
theorem dL_linkOf_34 : decode cL_linkOf 34 = .ok (.iload_n 3, 1) := by decide +kernel
theorem dL_linkOf_35 : decode cL_linkOf 35 = .ok (.imul, 1) := by decide +kernel
theorem dL_linkOf_36 : decode cL_linkOf 36 = .ok (.iadd, 1) := by decide +kernel
theorem dL_linkOf_37 : decode cL_linkOf 37 = .ok (.iaload, 1) := by decide +kernel
theorem dL_linkOf_38 : decode cL_linkOf 38 = .ok (.iload_n 2, 1) := by decide +kernel
theorem dL_linkOf_39 : decode cL_linkOf 39 = .ok (.if_icmp .ne 16, 3) := by decide +kernel
theorem dL_linkOf_42 : decode cL_linkOf 42 = .ok (.aload_n 0, 1) := by decide +kernel
theorem dL_linkOf_43 : decode cL_linkOf 43 = .ok (.iconst 3, 1) := by decide +kernel
theorem dL_linkOf_44 : decode cL_linkOf 44 = .ok (.iconst 4, 1) := by decide +kernel
theorem dL_linkOf_45 : decode cL_linkOf 45 = .ok (.iload_n 3, 1) := by decide +kernel
theorem dL_linkOf_46 : decode cL_linkOf 46 = .ok (.imul, 1) := by decide +kernel
theorem dL_linkOf_47 : decode cL_linkOf 47 = .ok (.iadd, 1) := by decide +kernel
theorem dL_linkOf_48 : decode cL_linkOf 48 = .ok (.iaload, 1) := by decide +kernel
theorem dL_linkOf_49 : decode cL_linkOf 49 = .ok (.iload_n 1, 1) := by decide +kernel
theorem dL_linkOf_50 : decode cL_linkOf 50 = .ok (.if_icmp .ne 5, 3) := by decide +kernel
theorem dL_linkOf_53 : decode cL_linkOf 53 = .ok (.iload_n 3, 1) := by decide +kernel
theorem dL_linkOf_54 : decode cL_linkOf 54 = .ok (.ireturn, 1) := by decide +kernel
theorem dL_linkOf_55 : decode cL_linkOf 55 = .ok (.iinc 3 1, 3) := by decide +kernel
theorem dL_linkOf_58 : decode cL_linkOf 58 = .ok (.goto (-56), 3) := by decide +kernel
theorem dL_linkOf_61 : decode cL_linkOf 61 = .ok (.iconst (-1), 1) := by decide +kernel
theorem dL_linkOf_62 : decode cL_linkOf 62 = .ok (.ireturn, 1) := by decide +kernel
theorem dL_whole_0 : decode cL_whole 0 = .ok (.ldc2_w 50, 3) := by decide +kernel
theorem dL_whole_3 : decode cL_whole 3 = .ok (.lstore_n 1, 1) := by decide +kernel
theorem dL_whole_4 : decode cL_whole 4 = .ok (.iconst 0, 1) := by decide +kernel
theorem dL_whole_5 : decode cL_whole 5 = .ok (.istore_n 3, 1) := by decide +kernel
theorem dL_whole_6 : decode cL_whole 6 = .ok (.iload_n 3, 1) := by decide +kernel
theorem dL_whole_7 : decode cL_whole 7 = .ok (.bipush 11, 2) := by decide +kernel
theorem dL_whole_9 : decode cL_whole 9 = .ok (.if_icmp .ge 22, 3) := by decide +kernel
theorem dL_whole_12 : decode cL_whole 12 = .ok (.ldc2_w 50, 3) := by decide +kernel
theorem dL_whole_15 : decode cL_whole 15 = .ok (.lload_n 1, 1) := by decide +kernel
theorem dL_whole_16 : decode cL_whole 16 = .ok (.lmul, 1) := by decide +kernel
theorem dL_whole_17 : decode cL_whole 17 = .ok (.aload_n 0, 1) := by decide +kernel
theorem dL_whole_18 : decode cL_whole 18 = .ok (.iload_n 3, 1) := by decide +kernel
theorem dL_whole_19 : decode cL_whole 19 = .ok (.invokevirtual 39, 3) := by decide +kernel
theorem dL_whole_22 : decode cL_whole 22 = .ok (.i2l, 1) := by decide +kernel
theorem dL_whole_23 : decode cL_whole 23 = .ok (.ladd, 1) := by decide +kernel
theorem dL_whole_24 : decode cL_whole 24 = .ok (.lstore_n 1, 1) := by decide +kernel
theorem dL_whole_25 : decode cL_whole 25 = .ok (.iinc 3 1, 3) := by decide +kernel
theorem dL_whole_28 : decode cL_whole 28 = .ok (.goto (-22), 3) := by decide +kernel
theorem dL_whole_31 : decode cL_whole 31 = .ok (.iconst 0, 1) := by decide +kernel
theorem dL_whole_32 : decode cL_whole 32 = .ok (.istore_n 3, 1) := by decide +kernel
theorem dL_whole_33 : decode cL_whole 33 = .ok (.iload_n 3, 1) := by decide +kernel
theorem dL_whole_34 : decode cL_whole 34 = .ok (.aload_n 0, 1) := by decide +kernel
theorem dL_whole_35 : decode cL_whole 35 = .ok (.iconst 1, 1) := by decide +kernel
theorem dL_whole_36 : decode cL_whole 36 = .ok (.invokevirtual 39, 3) := by decide +kernel
theorem dL_whole_39 : decode cL_whole 39 = .ok (.if_icmp .ge 40, 3) := by decide +kernel
theorem dL_whole_42 : decode cL_whole 42 = .ok (.iconst 0, 1) := by decide +kernel
theorem dL_whole_43 : decode cL_whole 43 = .ok (.istore 4, 2) := by decide +kernel
theorem dL_whole_45 : decode cL_whole 45 = .ok (.iload 4, 2) := by decide +kernel
theorem dL_whole_47 : decode cL_whole 47 = .ok (.bipush 6, 2) := by decide +kernel
theorem dL_whole_49 : decode cL_whole 49 = .ok (.if_icmp .ge 24, 3) := by decide +kernel
theorem dL_whole_52 : decode cL_whole 52 = .ok (.ldc2_w 50, 3) := by decide +kernel
theorem dL_whole_55 : decode cL_whole 55 = .ok (.lload_n 1, 1) := by decide +kernel
theorem dL_whole_56 : decode cL_whole 56 = .ok (.lmul, 1) := by decide +kernel
theorem dL_whole_57 : decode cL_whole 57 = .ok (.aload_n 0, 1) := by decide +kernel
theorem dL_whole_58 : decode cL_whole 58 = .ok (.iload_n 3, 1) := by decide +kernel
theorem dL_whole_59 : decode cL_whole 59 = .ok (.iload 4, 2) := by decide +kernel
theorem dL_whole_61 : decode cL_whole 61 = .ok (.invokevirtual 52, 3) := by decide +kernel
theorem dL_whole_64 : decode cL_whole 64 = .ok (.i2l, 1) := by decide +kernel
theorem dL_whole_65 : decode cL_whole 65 = .ok (.ladd, 1) := by decide +kernel
theorem dL_whole_66 : decode cL_whole 66 = .ok (.lstore_n 1, 1) := by decide +kernel
theorem dL_whole_67 : decode cL_whole 67 = .ok (.iinc 4 1, 3) := by decide +kernel
theorem dL_whole_70 : decode cL_whole 70 = .ok (.goto (-25), 3) := by decide +kernel
theorem dL_whole_73 : decode cL_whole 73 = .ok (.iinc 3 1, 3) := by decide +kernel
theorem dL_whole_76 : decode cL_whole 76 = .ok (.goto (-43), 3) := by decide +kernel
theorem dL_whole_79 : decode cL_whole 79 = .ok (.iconst 0, 1) := by decide +kernel
theorem dL_whole_80 : decode cL_whole 80 = .ok (.istore_n 3, 1) := by decide +kernel
theorem dL_whole_81 : decode cL_whole 81 = .ok (.iload_n 3, 1) := by decide +kernel
theorem dL_whole_82 : decode cL_whole 82 = .ok (.aload_n 0, 1) := by decide +kernel
theorem dL_whole_83 : decode cL_whole 83 = .ok (.iconst 0, 1) := by decide +kernel
theorem dL_whole_84 : decode cL_whole 84 = .ok (.invokevirtual 39, 3) := by decide +kernel
theorem dL_whole_87 : decode cL_whole 87 = .ok (.if_icmp .ge 22, 3) := by decide +kernel
theorem dL_whole_90 : decode cL_whole 90 = .ok (.ldc2_w 50, 3) := by decide +kernel
theorem dL_whole_93 : decode cL_whole 93 = .ok (.lload_n 1, 1) := by decide +kernel
theorem dL_whole_94 : decode cL_whole 94 = .ok (.lmul, 1) := by decide +kernel
theorem dL_whole_95 : decode cL_whole 95 = .ok (.aload_n 0, 1) := by decide +kernel
theorem dL_whole_96 : decode cL_whole 96 = .ok (.iload_n 3, 1) := by decide +kernel
theorem dL_whole_97 : decode cL_whole 97 = .ok (.invokevirtual 55, 3) := by decide +kernel
theorem dL_whole_100 : decode cL_whole 100 = .ok (.i2l, 1) := by decide +kernel
theorem dL_whole_101 : decode cL_whole 101 = .ok (.ladd, 1) := by decide +kernel
theorem dL_whole_102 : decode cL_whole 102 = .ok (.lstore_n 1, 1) := by decide +kernel
theorem dL_whole_103 : decode cL_whole 103 = .ok (.iinc 3 1, 3) := by decide +kernel
theorem dL_whole_106 : decode cL_whole 106 = .ok (.goto (-25), 3) := by decide +kernel
theorem dL_whole_109 : decode cL_whole 109 = .ok (.iconst 0, 1) := by decide +kernel
theorem dL_whole_110 : decode cL_whole 110 = .ok (.istore_n 3, 1) := by decide +kernel
theorem dL_whole_111 : decode cL_whole 111 = .ok (.iload_n 3, 1) := by decide +kernel
theorem dL_whole_112 : decode cL_whole 112 = .ok (.aload_n 0, 1) := by decide +kernel
theorem dL_whole_113 : decode cL_whole 113 = .ok (.iconst 4, 1) := by decide +kernel
theorem dL_whole_114 : decode cL_whole 114 = .ok (.invokevirtual 39, 3) := by decide +kernel
theorem dL_whole_117 : decode cL_whole 117 = .ok (.if_icmp .ge 35, 3) := by decide +kernel
theorem dL_whole_120 : decode cL_whole 120 = .ok (.ldc2_w 50, 3) := by decide +kernel
theorem dL_whole_123 : decode cL_whole 123 = .ok (.lload_n 1, 1) := by decide +kernel
theorem dL_whole_124 : decode cL_whole 124 = .ok (.lmul, 1) := by decide +kernel
theorem dL_whole_125 : decode cL_whole 125 = .ok (.ldc2_w 58, 3) := by decide +kernel
theorem dL_whole_128 : decode cL_whole 128 = .ok (.aload_n 0, 1) := by decide +kernel
theorem dL_whole_129 : decode cL_whole 129 = .ok (.iload_n 3, 1) := by decide +kernel
theorem dL_whole_130 : decode cL_whole 130 = .ok (.iconst 0, 1) := by decide +kernel
theorem dL_whole_131 : decode cL_whole 131 = .ok (.invokevirtual 60, 3) := by decide +kernel
theorem dL_whole_134 : decode cL_whole 134 = .ok (.i2l, 1) := by decide +kernel
theorem dL_whole_135 : decode cL_whole 135 = .ok (.lmul, 1) := by decide +kernel
theorem dL_whole_136 : decode cL_whole 136 = .ok (.ladd, 1) := by decide +kernel
theorem dL_whole_137 : decode cL_whole 137 = .ok (.aload_n 0, 1) := by decide +kernel
theorem dL_whole_138 : decode cL_whole 138 = .ok (.iload_n 3, 1) := by decide +kernel
theorem dL_whole_139 : decode cL_whole 139 = .ok (.iconst 1, 1) := by decide +kernel
theorem dL_whole_140 : decode cL_whole 140 = .ok (.invokevirtual 60, 3) := by decide +kernel
theorem dL_whole_143 : decode cL_whole 143 = .ok (.i2l, 1) := by decide +kernel
theorem dL_whole_144 : decode cL_whole 144 = .ok (.ladd, 1) := by decide +kernel
theorem dL_whole_145 : decode cL_whole 145 = .ok (.lstore_n 1, 1) := by decide +kernel
theorem dL_whole_146 : decode cL_whole 146 = .ok (.iinc 3 1, 3) := by decide +kernel
theorem dL_whole_149 : decode cL_whole 149 = .ok (.goto (-38), 3) := by decide +kernel
theorem dL_whole_152 : decode cL_whole 152 = .ok (.ldc2_w 50, 3) := by decide +kernel
theorem dL_whole_155 : decode cL_whole 155 = .ok (.lload_n 1, 1) := by decide +kernel
theorem dL_whole_156 : decode cL_whole 156 = .ok (.lmul, 1) := by decide +kernel
theorem dL_whole_157 : decode cL_whole 157 = .ok (.aload_n 0, 1) := by decide +kernel
theorem dL_whole_158 : decode cL_whole 158 = .ok (.iconst 0, 1) := by decide +kernel
theorem dL_whole_159 : decode cL_whole 159 = .ok (.invokevirtual 63, 3) := by decide +kernel
theorem dL_whole_162 : decode cL_whole 162 = .ok (.i2l, 1) := by decide +kernel
theorem dL_whole_163 : decode cL_whole 163 = .ok (.ladd, 1) := by decide +kernel
theorem dL_whole_164 : decode cL_whole 164 = .ok (.ldc2_w 66, 3) := by decide +kernel
theorem dL_whole_167 : decode cL_whole 167 = .ok (.aload_n 0, 1) := by decide +kernel
theorem dL_whole_168 : decode cL_whole 168 = .ok (.iconst (-1), 1) := by decide +kernel
theorem dL_whole_169 : decode cL_whole 169 = .ok (.invokevirtual 63, 3) := by decide +kernel
theorem dL_whole_172 : decode cL_whole 172 = .ok (.i2l, 1) := by decide +kernel
theorem dL_whole_173 : decode cL_whole 173 = .ok (.lmul, 1) := by decide +kernel
theorem dL_whole_174 : decode cL_whole 174 = .ok (.ladd, 1) := by decide +kernel
theorem dL_whole_175 : decode cL_whole 175 = .ok (.lreturn, 1) := by decide +kernel
theorem dL_faults_0 : decode cL_faults 0 = .ok (.aload_n 0, 1) := by decide +kernel
theorem dL_faults_1 : decode cL_faults 1 = .ok (.invokestatic 68, 3) := by decide +kernel
theorem dL_faults_4 : decode cL_faults 4 = .ok (.lstore_n 1, 1) := by decide +kernel
theorem dL_faults_5 : decode cL_faults 5 = .ok (.aload_n 0, 1) := by decide +kernel
theorem dL_faults_6 : decode cL_faults 6 = .ok (.bipush 11, 2) := by decide +kernel
theorem dL_faults_8 : decode cL_faults 8 = .ok (.invokevirtual 39, 3) := by decide +kernel
theorem dL_faults_11 : decode cL_faults 11 = .ok (.istore_n 3, 1) := by decide +kernel
theorem dL_faults_12 : decode cL_faults 12 = .ok (.aload_n 0, 1) := by decide +kernel
theorem dL_faults_13 : decode cL_faults 13 = .ok (.invokevirtual 19, 3) := by decide +kernel
theorem dL_faults_16 : decode cL_faults 16 = .ok (.pop, 1) := by decide +kernel
theorem dL_faults_17 : decode cL_faults 17 = .ok (.aload_n 0, 1) := by decide +kernel
theorem dL_faults_18 : decode cL_faults 18 = .ok (.invokevirtual 33, 3) := by decide +kernel
theorem dL_faults_21 : decode cL_faults 21 = .ok (.ifCond .ne 16, 3) := by decide +kernel
theorem dL_faults_24 : decode cL_faults 24 = .ok (.aload_n 0, 1) := by decide +kernel
theorem dL_faults_25 : decode cL_faults 25 = .ok (.invokevirtual 36, 3) := by decide +kernel
theorem dL_faults_28 : decode cL_faults 28 = .ok (.bipush (-4), 2) := by decide +kernel
theorem dL_faults_30 : decode cL_faults 30 = .ok (.if_icmp .ne 7, 3) := by decide +kernel
theorem dL_faults_33 : decode cL_faults 33 = .ok (.iconst 1, 1) := by decide +kernel
theorem dL_faults_34 : decode cL_faults 34 = .ok (.goto 4, 3) := by decide +kernel
theorem dL_faults_37 : decode cL_faults 37 = .ok (.iconst 0, 1) := by decide +kernel
theorem dL_faults_38 : decode cL_faults 38 = .ok (.istore 4, 2) := by decide +kernel
theorem dL_faults_40 : decode cL_faults 40 = .ok (.aload_n 0, 1) := by decide +kernel
theorem dL_faults_41 : decode cL_faults 41 = .ok (.bipush 110, 2) := by decide +kernel
theorem dL_faults_43 : decode cL_faults 43 = .ok (.bipush 111, 2) := by decide +kernel
theorem dL_faults_45 : decode cL_faults 45 = .ok (.bipush 100, 2) := by decide +kernel
theorem dL_faults_47 : decode cL_faults 47 = .ok (.bipush 101, 2) := by decide +kernel
theorem dL_faults_49 : decode cL_faults 49 = .ok (.invokestatic 25, 3) := by decide +kernel
theorem dL_faults_52 : decode cL_faults 52 = .ok (.aload_n 0, 1) := by decide +kernel
theorem dL_faults_53 : decode cL_faults 53 = .ok (.bipush 115, 2) := by decide +kernel
theorem dL_faults_55 : decode cL_faults 55 = .ok (.bipush 32, 2) := by decide +kernel
theorem dL_faults_57 : decode cL_faults 57 = .ok (.bipush 49, 2) := by decide +kernel
theorem dL_faults_59 : decode cL_faults 59 = .ok (.bipush 32, 2) := by decide +kernel
theorem dL_faults_61 : decode cL_faults 61 = .ok (.invokestatic 25, 3) := by decide +kernel
theorem dL_faults_64 : decode cL_faults 64 = .ok (.iload 4, 2) := by decide +kernel
theorem dL_faults_66 : decode cL_faults 66 = .ok (.ifCond .eq 25, 3) := by decide +kernel
theorem dL_faults_69 : decode cL_faults 69 = .ok (.aload_n 0, 1) := by decide +kernel
theorem dL_faults_70 : decode cL_faults 70 = .ok (.invokevirtual 33, 3) := by decide +kernel
theorem dL_faults_73 : decode cL_faults 73 = .ok (.bipush 6, 2) := by decide +kernel
theorem dL_faults_75 : decode cL_faults 75 = .ok (.if_icmp .ne 16, 3) := by decide +kernel
theorem dL_faults_78 : decode cL_faults 78 = .ok (.aload_n 0, 1) := by decide +kernel
theorem dL_faults_79 : decode cL_faults 79 = .ok (.invokevirtual 19, 3) := by decide +kernel
theorem dL_faults_82 : decode cL_faults 82 = .ok (.bipush 8, 2) := by decide +kernel
theorem dL_faults_84 : decode cL_faults 84 = .ok (.if_icmp .ne 7, 3) := by decide +kernel
theorem dL_faults_87 : decode cL_faults 87 = .ok (.iconst 1, 1) := by decide +kernel
theorem dL_faults_88 : decode cL_faults 88 = .ok (.goto 4, 3) := by decide +kernel
theorem dL_faults_91 : decode cL_faults 91 = .ok (.iconst 0, 1) := by decide +kernel
theorem dL_faults_92 : decode cL_faults 92 = .ok (.istore 4, 2) := by decide +kernel
theorem dL_faults_94 : decode cL_faults 94 = .ok (.aload_n 0, 1) := by decide +kernel
theorem dL_faults_95 : decode cL_faults 95 = .ok (.bipush 110, 2) := by decide +kernel
theorem dL_faults_97 : decode cL_faults 97 = .ok (.bipush 111, 2) := by decide +kernel
theorem dL_faults_99 : decode cL_faults 99 = .ok (.bipush 100, 2) := by decide +kernel
theorem dL_faults_101 : decode cL_faults 101 = .ok (.bipush 101, 2) := by decide +kernel
theorem dL_faults_103 : decode cL_faults 103 = .ok (.invokestatic 25, 3) := by decide +kernel
theorem dL_faults_106 : decode cL_faults 106 = .ok (.aload_n 0, 1) := by decide +kernel
theorem dL_faults_107 : decode cL_faults 107 = .ok (.bipush 115, 2) := by decide +kernel
theorem dL_faults_109 : decode cL_faults 109 = .ok (.bipush 48, 2) := by decide +kernel
theorem dL_faults_111 : decode cL_faults 111 = .ok (.bipush 56, 2) := by decide +kernel
theorem dL_faults_113 : decode cL_faults 113 = .ok (.bipush 32, 2) := by decide +kernel
theorem dL_faults_115 : decode cL_faults 115 = .ok (.invokestatic 25, 3) := by decide +kernel
theorem dL_faults_118 : decode cL_faults 118 = .ok (.iload 4, 2) := by decide +kernel
theorem dL_faults_120 : decode cL_faults 120 = .ok (.ifCond .eq 24, 3) := by decide +kernel
theorem dL_faults_123 : decode cL_faults 123 = .ok (.aload_n 0, 1) := by decide +kernel
theorem dL_faults_124 : decode cL_faults 124 = .ok (.invokevirtual 33, 3) := by decide +kernel
theorem dL_faults_127 : decode cL_faults 127 = .ok (.iconst 5, 1) := by decide +kernel
theorem dL_faults_128 : decode cL_faults 128 = .ok (.if_icmp .ne 16, 3) := by decide +kernel
theorem dL_faults_131 : decode cL_faults 131 = .ok (.aload_n 0, 1) := by decide +kernel
theorem dL_faults_132 : decode cL_faults 132 = .ok (.invokevirtual 19, 3) := by decide +kernel
theorem dL_faults_135 : decode cL_faults 135 = .ok (.bipush 8, 2) := by decide +kernel
theorem dL_faults_137 : decode cL_faults 137 = .ok (.if_icmp .ne 7, 3) := by decide +kernel
theorem dL_faults_140 : decode cL_faults 140 = .ok (.iconst 1, 1) := by decide +kernel
theorem dL_faults_141 : decode cL_faults 141 = .ok (.goto 4, 3) := by decide +kernel
theorem dL_faults_144 : decode cL_faults 144 = .ok (.iconst 0, 1) := by decide +kernel
theorem dL_faults_145 : decode cL_faults 145 = .ok (.istore 4, 2) := by decide +kernel
theorem dL_faults_147 : decode cL_faults 147 = .ok (.aload_n 0, 1) := by decide +kernel
theorem dL_faults_148 : decode cL_faults 148 = .ok (.bipush 110, 2) := by decide +kernel
theorem dL_faults_150 : decode cL_faults 150 = .ok (.bipush 111, 2) := by decide +kernel
theorem dL_faults_152 : decode cL_faults 152 = .ok (.bipush 100, 2) := by decide +kernel
theorem dL_faults_154 : decode cL_faults 154 = .ok (.bipush 101, 2) := by decide +kernel
theorem dL_faults_156 : decode cL_faults 156 = .ok (.invokestatic 25, 3) := by decide +kernel
theorem dL_faults_159 : decode cL_faults 159 = .ok (.aload_n 0, 1) := by decide +kernel
theorem dL_faults_160 : decode cL_faults 160 = .ok (.bipush 115, 2) := by decide +kernel
theorem dL_faults_162 : decode cL_faults 162 = .ok (.bipush 51, 2) := by decide +kernel
theorem dL_faults_164 : decode cL_faults 164 = .ok (.bipush 59, 2) := by decide +kernel
theorem dL_faults_166 : decode cL_faults 166 = .ok (.bipush 32, 2) := by decide +kernel
theorem dL_faults_168 : decode cL_faults 168 = .ok (.invokestatic 25, 3) := by decide +kernel
theorem dL_faults_171 : decode cL_faults 171 = .ok (.aload_n 0, 1) := by decide +kernel
theorem dL_faults_172 : decode cL_faults 172 = .ok (.bipush 108, 2) := by decide +kernel
theorem dL_faults_174 : decode cL_faults 174 = .ok (.bipush 105, 2) := by decide +kernel
theorem dL_faults_176 : decode cL_faults 176 = .ok (.bipush 110, 2) := by decide +kernel
theorem dL_faults_178 : decode cL_faults 178 = .ok (.bipush 107, 2) := by decide +kernel
theorem dL_faults_180 : decode cL_faults 180 = .ok (.invokestatic 25, 3) := by decide +kernel
theorem dL_faults_183 : decode cL_faults 183 = .ok (.aload_n 0, 1) := by decide +kernel
theorem dL_faults_184 : decode cL_faults 184 = .ok (.bipush 48, 2) := by decide +kernel
theorem dL_faults_186 : decode cL_faults 186 = .ok (.bipush 32, 2) := by decide +kernel
theorem dL_faults_188 : decode cL_faults 188 = .ok (.bipush 48, 2) := by decide +kernel
theorem dL_faults_190 : decode cL_faults 190 = .ok (.bipush 32, 2) := by decide +kernel
theorem dL_faults_192 : decode cL_faults 192 = .ok (.invokestatic 25, 3) := by decide +kernel
theorem dL_faults_195 : decode cL_faults 195 = .ok (.iload 4, 2) := by decide +kernel
theorem dL_faults_197 : decode cL_faults 197 = .ok (.ifCond .eq 16, 3) := by decide +kernel
theorem dL_faults_200 : decode cL_faults 200 = .ok (.aload_n 0, 1) := by decide +kernel
theorem dL_faults_201 : decode cL_faults 201 = .ok (.invokevirtual 33, 3) := by decide +kernel
theorem dL_faults_204 : decode cL_faults 204 = .ok (.bipush 14, 2) := by decide +kernel
theorem dL_faults_206 : decode cL_faults 206 = .ok (.if_icmp .ne 7, 3) := by decide +kernel
theorem dL_faults_209 : decode cL_faults 209 = .ok (.iconst 1, 1) := by decide +kernel
theorem dL_faults_210 : decode cL_faults 210 = .ok (.goto 4, 3) := by decide +kernel
theorem dL_faults_213 : decode cL_faults 213 = .ok (.iconst 0, 1) := by decide +kernel
theorem dL_faults_214 : decode cL_faults 214 = .ok (.istore 4, 2) := by decide +kernel
theorem dL_faults_216 : decode cL_faults 216 = .ok (.aload_n 0, 1) := by decide +kernel
theorem dL_faults_217 : decode cL_faults 217 = .ok (.invokevirtual 19, 3) := by decide +kernel
theorem dL_faults_220 : decode cL_faults 220 = .ok (.pop, 1) := by decide +kernel
theorem dL_faults_221 : decode cL_faults 221 = .ok (.aload_n 0, 1) := by decide +kernel
theorem dL_faults_222 : decode cL_faults 222 = .ok (.bipush 110, 2) := by decide +kernel
theorem dL_faults_224 : decode cL_faults 224 = .ok (.bipush 111, 2) := by decide +kernel
theorem dL_faults_226 : decode cL_faults 226 = .ok (.bipush 100, 2) := by decide +kernel
theorem dL_faults_228 : decode cL_faults 228 = .ok (.bipush 101, 2) := by decide +kernel
theorem dL_faults_230 : decode cL_faults 230 = .ok (.invokestatic 25, 3) := by decide +kernel
theorem dL_faults_233 : decode cL_faults 233 = .ok (.aload_n 0, 1) := by decide +kernel
theorem dL_faults_234 : decode cL_faults 234 = .ok (.bipush 115, 2) := by decide +kernel
theorem dL_faults_236 : decode cL_faults 236 = .ok (.bipush 51, 2) := by decide +kernel
theorem dL_faults_238 : decode cL_faults 238 = .ok (.bipush 59, 2) := by decide +kernel
theorem dL_faults_240 : decode cL_faults 240 = .ok (.bipush 32, 2) := by decide +kernel
theorem dL_faults_242 : decode cL_faults 242 = .ok (.invokestatic 25, 3) := by decide +kernel
theorem dL_faults_245 : decode cL_faults 245 = .ok (.aload_n 0, 1) := by decide +kernel
theorem dL_faults_246 : decode cL_faults 246 = .ok (.bipush 108, 2) := by decide +kernel
theorem dL_faults_248 : decode cL_faults 248 = .ok (.bipush 105, 2) := by decide +kernel
theorem dL_faults_250 : decode cL_faults 250 = .ok (.bipush 110, 2) := by decide +kernel
theorem dL_faults_252 : decode cL_faults 252 = .ok (.bipush 107, 2) := by decide +kernel
theorem dL_faults_254 : decode cL_faults 254 = .ok (.invokestatic 25, 3) := by decide +kernel
theorem dL_faults_257 : decode cL_faults 257 = .ok (.aload_n 0, 1) := by decide +kernel
theorem dL_faults_258 : decode cL_faults 258 = .ok (.bipush 51, 2) := by decide +kernel
theorem dL_faults_260 : decode cL_faults 260 = .ok (.bipush 32, 2) := by decide +kernel
theorem dL_faults_262 : decode cL_faults 262 = .ok (.bipush 48, 2) := by decide +kernel
theorem dL_faults_264 : decode cL_faults 264 = .ok (.bipush 32, 2) := by decide +kernel
theorem dL_faults_266 : decode cL_faults 266 = .ok (.invokestatic 25, 3) := by decide +kernel
theorem dL_faults_269 : decode cL_faults 269 = .ok (.iload 4, 2) := by decide +kernel
theorem dL_faults_271 : decode cL_faults 271 = .ok (.ifCond .eq 25, 3) := by decide +kernel
theorem dL_faults_274 : decode cL_faults 274 = .ok (.aload_n 0, 1) := by decide +kernel
theorem dL_faults_275 : decode cL_faults 275 = .ok (.invokevirtual 33, 3) := by decide +kernel
theorem dL_faults_278 : decode cL_faults 278 = .ok (.bipush 12, 2) := by decide +kernel
theorem dL_faults_280 : decode cL_faults 280 = .ok (.if_icmp .ne 16, 3) := by decide +kernel
theorem dL_faults_283 : decode cL_faults 283 = .ok (.aload_n 0, 1) := by decide +kernel
theorem dL_faults_284 : decode cL_faults 284 = .ok (.invokevirtual 19, 3) := by decide +kernel
theorem dL_faults_287 : decode cL_faults 287 = .ok (.bipush 16, 2) := by decide +kernel
theorem dL_faults_289 : decode cL_faults 289 = .ok (.if_icmp .ne 7, 3) := by decide +kernel
theorem dL_faults_292 : decode cL_faults 292 = .ok (.iconst 1, 1) := by decide +kernel
theorem dL_faults_293 : decode cL_faults 293 = .ok (.goto 4, 3) := by decide +kernel
theorem dL_faults_296 : decode cL_faults 296 = .ok (.iconst 0, 1) := by decide +kernel
theorem dL_faults_297 : decode cL_faults 297 = .ok (.istore 4, 2) := by decide +kernel
theorem dL_faults_299 : decode cL_faults 299 = .ok (.aload_n 0, 1) := by decide +kernel
theorem dL_faults_300 : decode cL_faults 300 = .ok (.bipush 110, 2) := by decide +kernel
theorem dL_faults_302 : decode cL_faults 302 = .ok (.bipush 111, 2) := by decide +kernel
theorem dL_faults_304 : decode cL_faults 304 = .ok (.bipush 100, 2) := by decide +kernel
theorem dL_faults_306 : decode cL_faults 306 = .ok (.bipush 101, 2) := by decide +kernel
theorem dL_faults_308 : decode cL_faults 308 = .ok (.invokestatic 25, 3) := by decide +kernel
theorem dL_faults_311 : decode cL_faults 311 = .ok (.aload_n 0, 1) := by decide +kernel
theorem dL_faults_312 : decode cL_faults 312 = .ok (.bipush 115, 2) := by decide +kernel
theorem dL_faults_314 : decode cL_faults 314 = .ok (.bipush 51, 2) := by decide +kernel
theorem dL_faults_316 : decode cL_faults 316 = .ok (.bipush 59, 2) := by decide +kernel
theorem dL_faults_318 : decode cL_faults 318 = .ok (.bipush 32, 2) := by decide +kernel
theorem dL_faults_320 : decode cL_faults 320 = .ok (.invokestatic 25, 3) := by decide +kernel
theorem dL_faults_323 : decode cL_faults 323 = .ok (.aload_n 0, 1) := by decide +kernel
theorem dL_faults_324 : decode cL_faults 324 = .ok (.bipush 108, 2) := by decide +kernel
theorem dL_faults_326 : decode cL_faults 326 = .ok (.bipush 105, 2) := by decide +kernel
theorem dL_faults_328 : decode cL_faults 328 = .ok (.bipush 110, 2) := by decide +kernel
theorem dL_faults_330 : decode cL_faults 330 = .ok (.bipush 107, 2) := by decide +kernel
theorem dL_faults_332 : decode cL_faults 332 = .ok (.invokestatic 25, 3) := by decide +kernel
theorem dL_faults_335 : decode cL_faults 335 = .ok (.aload_n 0, 1) := by decide +kernel
theorem dL_faults_336 : decode cL_faults 336 = .ok (.bipush 50, 2) := by decide +kernel
theorem dL_faults_338 : decode cL_faults 338 = .ok (.bipush 32, 2) := by decide +kernel
theorem dL_faults_340 : decode cL_faults 340 = .ok (.bipush 49, 2) := by decide +kernel
theorem dL_faults_342 : decode cL_faults 342 = .ok (.bipush 32, 2) := by decide +kernel
theorem dL_faults_344 : decode cL_faults 344 = .ok (.invokestatic 25, 3) := by decide +kernel
theorem dL_faults_347 : decode cL_faults 347 = .ok (.iload 4, 2) := by decide +kernel
theorem dL_faults_349 : decode cL_faults 349 = .ok (.ifCond .eq 16, 3) := by decide +kernel
theorem dL_faults_352 : decode cL_faults 352 = .ok (.aload_n 0, 1) := by decide +kernel
theorem dL_faults_353 : decode cL_faults 353 = .ok (.invokevirtual 33, 3) := by decide +kernel
theorem dL_faults_356 : decode cL_faults 356 = .ok (.bipush 16, 2) := by decide +kernel
theorem dL_faults_358 : decode cL_faults 358 = .ok (.if_icmp .ne 7, 3) := by decide +kernel
theorem dL_faults_361 : decode cL_faults 361 = .ok (.iconst 1, 1) := by decide +kernel
theorem dL_faults_362 : decode cL_faults 362 = .ok (.goto 4, 3) := by decide +kernel
theorem dL_faults_365 : decode cL_faults 365 = .ok (.iconst 0, 1) := by decide +kernel
theorem dL_faults_366 : decode cL_faults 366 = .ok (.istore 4, 2) := by decide +kernel
theorem dL_faults_368 : decode cL_faults 368 = .ok (.aload_n 0, 1) := by decide +kernel
theorem dL_faults_369 : decode cL_faults 369 = .ok (.bipush 48, 2) := by decide +kernel
theorem dL_faults_371 : decode cL_faults 371 = .ok (.bipush 32, 2) := by decide +kernel
theorem dL_faults_373 : decode cL_faults 373 = .ok (.bipush 49, 2) := by decide +kernel
theorem dL_faults_375 : decode cL_faults 375 = .ok (.bipush 32, 2) := by decide +kernel
theorem dL_faults_377 : decode cL_faults 377 = .ok (.invokestatic 25, 3) := by decide +kernel
theorem dL_faults_380 : decode cL_faults 380 = .ok (.iload 4, 2) := by decide +kernel
theorem dL_faults_382 : decode cL_faults 382 = .ok (.ifCond .eq 25, 3) := by decide +kernel
theorem dL_faults_385 : decode cL_faults 385 = .ok (.aload_n 0, 1) := by decide +kernel
theorem dL_faults_386 : decode cL_faults 386 = .ok (.invokevirtual 33, 3) := by decide +kernel
theorem dL_faults_389 : decode cL_faults 389 = .ok (.bipush 16, 2) := by decide +kernel
theorem dL_faults_391 : decode cL_faults 391 = .ok (.if_icmp .ne 16, 3) := by decide +kernel
theorem dL_faults_394 : decode cL_faults 394 = .ok (.aload_n 0, 1) := by decide +kernel
theorem dL_faults_395 : decode cL_faults 395 = .ok (.invokevirtual 19, 3) := by decide +kernel
theorem dL_faults_398 : decode cL_faults 398 = .ok (.bipush 20, 2) := by decide +kernel
theorem dL_faults_400 : decode cL_faults 400 = .ok (.if_icmp .ne 7, 3) := by decide +kernel
theorem dL_faults_403 : decode cL_faults 403 = .ok (.iconst 1, 1) := by decide +kernel
theorem dL_faults_404 : decode cL_faults 404 = .ok (.goto 4, 3) := by decide +kernel
theorem dL_faults_407 : decode cL_faults 407 = .ok (.iconst 0, 1) := by decide +kernel
theorem dL_faults_408 : decode cL_faults 408 = .ok (.istore 4, 2) := by decide +kernel
theorem dL_faults_410 : decode cL_faults 410 = .ok (.aload_n 0, 1) := by decide +kernel
theorem dL_faults_411 : decode cL_faults 411 = .ok (.bipush 110, 2) := by decide +kernel
theorem dL_faults_413 : decode cL_faults 413 = .ok (.bipush 111, 2) := by decide +kernel
theorem dL_faults_415 : decode cL_faults 415 = .ok (.bipush 100, 2) := by decide +kernel
theorem dL_faults_417 : decode cL_faults 417 = .ok (.bipush 101, 2) := by decide +kernel
theorem dL_faults_419 : decode cL_faults 419 = .ok (.invokestatic 25, 3) := by decide +kernel
theorem dL_faults_422 : decode cL_faults 422 = .ok (.aload_n 0, 1) := by decide +kernel
theorem dL_faults_423 : decode cL_faults 423 = .ok (.bipush 115, 2) := by decide +kernel
theorem dL_faults_425 : decode cL_faults 425 = .ok (.bipush 51, 2) := by decide +kernel
theorem dL_faults_427 : decode cL_faults 427 = .ok (.bipush 46, 2) := by decide +kernel
theorem dL_faults_429 : decode cL_faults 429 = .ok (.bipush 32, 2) := by decide +kernel
theorem dL_faults_431 : decode cL_faults 431 = .ok (.invokestatic 25, 3) := by decide +kernel
theorem dL_faults_434 : decode cL_faults 434 = .ok (.iload 4, 2) := by decide +kernel
theorem dL_faults_436 : decode cL_faults 436 = .ok (.ifCond .eq 25, 3) := by decide +kernel
theorem dL_faults_439 : decode cL_faults 439 = .ok (.aload_n 0, 1) := by decide +kernel
theorem dL_faults_440 : decode cL_faults 440 = .ok (.invokevirtual 33, 3) := by decide +kernel
theorem dL_faults_443 : decode cL_faults 443 = .ok (.bipush 6, 2) := by decide +kernel
theorem dL_faults_445 : decode cL_faults 445 = .ok (.if_icmp .ne 16, 3) := by decide +kernel
theorem dL_faults_448 : decode cL_faults 448 = .ok (.aload_n 0, 1) := by decide +kernel
theorem dL_faults_449 : decode cL_faults 449 = .ok (.invokevirtual 19, 3) := by decide +kernel
theorem dL_faults_452 : decode cL_faults 452 = .ok (.bipush 8, 2) := by decide +kernel
theorem dL_faults_454 : decode cL_faults 454 = .ok (.if_icmp .ne 7, 3) := by decide +kernel
theorem dL_faults_457 : decode cL_faults 457 = .ok (.iconst 1, 1) := by decide +kernel
theorem dL_faults_458 : decode cL_faults 458 = .ok (.goto 4, 3) := by decide +kernel
theorem dL_faults_461 : decode cL_faults 461 = .ok (.iconst 0, 1) := by decide +kernel
theorem dL_faults_462 : decode cL_faults 462 = .ok (.istore 4, 2) := by decide +kernel
theorem dL_faults_464 : decode cL_faults 464 = .ok (.aload_n 0, 1) := by decide +kernel
theorem dL_faults_465 : decode cL_faults 465 = .ok (.bipush 110, 2) := by decide +kernel
theorem dL_faults_467 : decode cL_faults 467 = .ok (.bipush 111, 2) := by decide +kernel
theorem dL_faults_469 : decode cL_faults 469 = .ok (.bipush 100, 2) := by decide +kernel
theorem dL_faults_471 : decode cL_faults 471 = .ok (.bipush 101, 2) := by decide +kernel
theorem dL_faults_473 : decode cL_faults 473 = .ok (.invokestatic 25, 3) := by decide +kernel
theorem dL_faults_476 : decode cL_faults 476 = .ok (.aload_n 0, 1) := by decide +kernel
theorem dL_faults_477 : decode cL_faults 477 = .ok (.bipush 51, 2) := by decide +kernel
theorem dL_faults_479 : decode cL_faults 479 = .ok (.bipush 32, 2) := by decide +kernel
theorem dL_faults_481 : decode cL_faults 481 = .ok (.bipush 32, 2) := by decide +kernel
theorem dL_faults_483 : decode cL_faults 483 = .ok (.bipush 32, 2) := by decide +kernel
theorem dL_faults_485 : decode cL_faults 485 = .ok (.invokestatic 25, 3) := by decide +kernel
theorem dL_faults_488 : decode cL_faults 488 = .ok (.iload 4, 2) := by decide +kernel
theorem dL_faults_490 : decode cL_faults 490 = .ok (.ifCond .eq 23, 3) := by decide +kernel
theorem dL_faults_493 : decode cL_faults 493 = .ok (.aload_n 0, 1) := by decide +kernel
theorem dL_faults_494 : decode cL_faults 494 = .ok (.invokevirtual 33, 3) := by decide +kernel
theorem dL_faults_497 : decode cL_faults 497 = .ok (.ifCond .ne 16, 3) := by decide +kernel
theorem dL_faults_500 : decode cL_faults 500 = .ok (.aload_n 0, 1) := by decide +kernel
theorem dL_faults_501 : decode cL_faults 501 = .ok (.invokevirtual 19, 3) := by decide +kernel
theorem dL_faults_504 : decode cL_faults 504 = .ok (.bipush 8, 2) := by decide +kernel
theorem dL_faults_506 : decode cL_faults 506 = .ok (.if_icmp .ne 7, 3) := by decide +kernel
theorem dL_faults_509 : decode cL_faults 509 = .ok (.iconst 1, 1) := by decide +kernel
theorem dL_faults_510 : decode cL_faults 510 = .ok (.goto 4, 3) := by decide +kernel
theorem dL_faults_513 : decode cL_faults 513 = .ok (.iconst 0, 1) := by decide +kernel
theorem dL_faults_514 : decode cL_faults 514 = .ok (.istore 4, 2) := by decide +kernel
theorem dL_faults_516 : decode cL_faults 516 = .ok (.aload_n 0, 1) := by decide +kernel
theorem dL_faults_517 : decode cL_faults 517 = .ok (.bipush 110, 2) := by decide +kernel
theorem dL_faults_519 : decode cL_faults 519 = .ok (.bipush 111, 2) := by decide +kernel
theorem dL_faults_521 : decode cL_faults 521 = .ok (.bipush 100, 2) := by decide +kernel
theorem dL_faults_523 : decode cL_faults 523 = .ok (.bipush 101, 2) := by decide +kernel
theorem dL_faults_525 : decode cL_faults 525 = .ok (.invokestatic 25, 3) := by decide +kernel
theorem dL_faults_528 : decode cL_faults 528 = .ok (.aload_n 0, 1) := by decide +kernel
theorem dL_faults_529 : decode cL_faults 529 = .ok (.bipush 115, 2) := by decide +kernel
theorem dL_faults_531 : decode cL_faults 531 = .ok (.bipush 56, 2) := by decide +kernel
theorem dL_faults_533 : decode cL_faults 533 = .ok (.bipush 32, 2) := by decide +kernel
theorem dL_faults_535 : decode cL_faults 535 = .ok (.bipush 32, 2) := by decide +kernel
theorem dL_faults_537 : decode cL_faults 537 = .ok (.invokestatic 25, 3) := by decide +kernel
theorem dL_faults_540 : decode cL_faults 540 = .ok (.iconst 0, 1) := by decide +kernel
theorem dL_faults_541 : decode cL_faults 541 = .ok (.istore 5, 2) := by decide +kernel
theorem dL_faults_543 : decode cL_faults 543 = .ok (.iload 5, 2) := by decide +kernel
theorem dL_faults_545 : decode cL_faults 545 = .ok (.bipush 14, 2) := by decide +kernel
theorem dL_faults_547 : decode cL_faults 547 = .ok (.if_icmp .ge 76, 3) := by decide +kernel
theorem dL_faults_550 : decode cL_faults 550 = .ok (.aload_n 0, 1) := by decide +kernel
theorem dL_faults_551 : decode cL_faults 551 = .ok (.bipush 59, 2) := by decide +kernel
theorem dL_faults_553 : decode cL_faults 553 = .ok (.bipush 108, 2) := by decide +kernel
theorem dL_faults_555 : decode cL_faults 555 = .ok (.bipush 105, 2) := by decide +kernel
theorem dL_faults_557 : decode cL_faults 557 = .ok (.bipush 110, 2) := by decide +kernel
theorem dL_faults_559 : decode cL_faults 559 = .ok (.invokestatic 25, 3) := by decide +kernel
theorem dL_faults_562 : decode cL_faults 562 = .ok (.aload_n 0, 1) := by decide +kernel
theorem dL_faults_563 : decode cL_faults 563 = .ok (.bipush 107, 2) := by decide +kernel
theorem dL_faults_565 : decode cL_faults 565 = .ok (.bipush 48, 2) := by decide +kernel
theorem dL_faults_567 : decode cL_faults 567 = .ok (.iload 5, 2) := by decide +kernel
theorem dL_faults_569 : decode cL_faults 569 = .ok (.bipush 7, 2) := by decide +kernel
theorem dL_faults_571 : decode cL_faults 571 = .ok (.if_icmp .ge 7, 3) := by decide +kernel
theorem dL_faults_574 : decode cL_faults 574 = .ok (.iconst 0, 1) := by decide +kernel
theorem dL_faults_575 : decode cL_faults 575 = .ok (.goto 4, 3) := by decide +kernel
theorem dL_faults_578 : decode cL_faults 578 = .ok (.iconst 1, 1) := by decide +kernel
theorem dL_faults_579 : decode cL_faults 579 = .ok (.iadd, 1) := by decide +kernel
theorem dL_faults_580 : decode cL_faults 580 = .ok (.bipush 32, 2) := by decide +kernel
theorem dL_faults_582 : decode cL_faults 582 = .ok (.iload 5, 2) := by decide +kernel
theorem dL_faults_584 : decode cL_faults 584 = .ok (.bipush 7, 2) := by decide +kernel
theorem dL_faults_586 : decode cL_faults 586 = .ok (.if_icmp .ge 11, 3) := by decide +kernel
theorem dL_faults_589 : decode cL_faults 589 = .ok (.bipush 49, 2) := by decide +kernel
theorem dL_faults_591 : decode cL_faults 591 = .ok (.iload 5, 2) := by decide +kernel
theorem dL_faults_593 : decode cL_faults 593 = .ok (.iadd, 1) := by decide +kernel
theorem dL_faults_594 : decode cL_faults 594 = .ok (.goto 8, 3) := by decide +kernel
theorem dL_faults_597 : decode cL_faults 597 = .ok (.bipush 43, 2) := by decide +kernel
theorem dL_faults_599 : decode cL_faults 599 = .ok (.iload 5, 2) := by decide +kernel
theorem dL_faults_601 : decode cL_faults 601 = .ok (.iadd, 1) := by decide +kernel
theorem dL_faults_602 : decode cL_faults 602 = .ok (.invokestatic 25, 3) := by decide +kernel
theorem dL_faults_605 : decode cL_faults 605 = .ok (.aload_n 0, 1) := by decide +kernel
theorem dL_faults_606 : decode cL_faults 606 = .ok (.bipush 32, 2) := by decide +kernel
theorem dL_faults_608 : decode cL_faults 608 = .ok (.bipush 49, 2) := by decide +kernel
theorem dL_faults_610 : decode cL_faults 610 = .ok (.bipush 32, 2) := by decide +kernel
theorem dL_faults_612 : decode cL_faults 612 = .ok (.bipush 49, 2) := by decide +kernel
theorem dL_faults_614 : decode cL_faults 614 = .ok (.invokestatic 25, 3) := by decide +kernel
theorem dL_faults_617 : decode cL_faults 617 = .ok (.iinc 5 1, 3) := by decide +kernel
theorem dL_faults_620 : decode cL_faults 620 = .ok (.goto (-77), 3) := by decide +kernel
theorem dL_faults_623 : decode cL_faults 623 = .ok (.iload 4, 2) := by decide +kernel
theorem dL_faults_625 : decode cL_faults 625 = .ok (.ifCond .eq 29, 3) := by decide +kernel
theorem dL_faults_628 : decode cL_faults 628 = .ok (.aload_n 0, 1) := by decide +kernel
theorem dL_faults_629 : decode cL_faults 629 = .ok (.bipush 12, 2) := by decide +kernel
theorem dL_faults_631 : decode cL_faults 631 = .ok (.invokevirtual 39, 3) := by decide +kernel
theorem dL_faults_634 : decode cL_faults 634 = .ok (.sipush 176, 3) := by decide +kernel
theorem dL_faults_637 : decode cL_faults 637 = .ok (.if_icmp .ne 17, 3) := by decide +kernel
theorem dL_faults_640 : decode cL_faults 640 = .ok (.aload_n 0, 1) := by decide +kernel
theorem dL_faults_641 : decode cL_faults 641 = .ok (.invokevirtual 33, 3) := by decide +kernel
theorem dL_faults_644 : decode cL_faults 644 = .ok (.sipush 171, 3) := by decide +kernel
theorem dL_faults_647 : decode cL_faults 647 = .ok (.if_icmp .ne 7, 3) := by decide +kernel
theorem dL_faults_650 : decode cL_faults 650 = .ok (.iconst 1, 1) := by decide +kernel
theorem dL_faults_651 : decode cL_faults 651 = .ok (.goto 4, 3) := by decide +kernel
theorem dL_faults_654 : decode cL_faults 654 = .ok (.iconst 0, 1) := by decide +kernel
theorem dL_faults_655 : decode cL_faults 655 = .ok (.istore 4, 2) := by decide +kernel
theorem dL_faults_657 : decode cL_faults 657 = .ok (.aload_n 0, 1) := by decide +kernel
theorem dL_faults_658 : decode cL_faults 658 = .ok (.invokevirtual 19, 3) := by decide +kernel
theorem dL_faults_661 : decode cL_faults 661 = .ok (.pop, 1) := by decide +kernel
theorem dL_faults_662 : decode cL_faults 662 = .ok (.iload 4, 2) := by decide +kernel
theorem dL_faults_664 : decode cL_faults 664 = .ok (.ifCond .eq 48, 3) := by decide +kernel
theorem dL_faults_667 : decode cL_faults 667 = .ok (.aload_n 0, 1) := by decide +kernel
theorem dL_faults_668 : decode cL_faults 668 = .ok (.sipush 256, 3) := by decide +kernel
theorem dL_faults_671 : decode cL_faults 671 = .ok (.invokevirtual 43, 3) := by decide +kernel
theorem dL_faults_674 : decode cL_faults 674 = .ok (.bipush (-3), 2) := by decide +kernel
theorem dL_faults_676 : decode cL_faults 676 = .ok (.if_icmp .ne 36, 3) := by decide +kernel
theorem dL_faults_679 : decode cL_faults 679 = .ok (.aload_n 0, 1) := by decide +kernel
theorem dL_faults_680 : decode cL_faults 680 = .ok (.iconst (-1), 1) := by decide +kernel
theorem dL_faults_681 : decode cL_faults 681 = .ok (.invokevirtual 43, 3) := by decide +kernel
theorem dL_faults_684 : decode cL_faults 684 = .ok (.bipush (-3), 2) := by decide +kernel
theorem dL_faults_686 : decode cL_faults 686 = .ok (.if_icmp .ne 26, 3) := by decide +kernel
theorem dL_faults_689 : decode cL_faults 689 = .ok (.aload_n 0, 1) := by decide +kernel
theorem dL_faults_690 : decode cL_faults 690 = .ok (.invokestatic 68, 3) := by decide +kernel
theorem dL_faults_693 : decode cL_faults 693 = .ok (.lload_n 1, 1) := by decide +kernel
theorem dL_faults_694 : decode cL_faults 694 = .ok (.lcmp, 1) := by decide +kernel
theorem dL_faults_695 : decode cL_faults 695 = .ok (.ifCond .ne 17, 3) := by decide +kernel
theorem dL_faults_698 : decode cL_faults 698 = .ok (.aload_n 0, 1) := by decide +kernel
theorem dL_faults_699 : decode cL_faults 699 = .ok (.bipush 11, 2) := by decide +kernel
theorem dL_faults_701 : decode cL_faults 701 = .ok (.invokevirtual 39, 3) := by decide +kernel
theorem dL_faults_704 : decode cL_faults 704 = .ok (.iload_n 3, 1) := by decide +kernel
theorem dL_faults_705 : decode cL_faults 705 = .ok (.if_icmp .ne 7, 3) := by decide +kernel
theorem dL_faults_708 : decode cL_faults 708 = .ok (.iconst 1, 1) := by decide +kernel
theorem dL_faults_709 : decode cL_faults 709 = .ok (.goto 4, 3) := by decide +kernel
theorem dL_faults_712 : decode cL_faults 712 = .ok (.iconst 0, 1) := by decide +kernel
theorem dL_faults_713 : decode cL_faults 713 = .ok (.ireturn, 1) := by decide +kernel
theorem dL_most_0 : decode cL_most 0 = .ok (.aload_n 0, 1) := by decide +kernel
theorem dL_most_1 : decode cL_most 1 = .ok (.invokevirtual 19, 3) := by decide +kernel
theorem dL_most_4 : decode cL_most 4 = .ok (.pop, 1) := by decide +kernel
theorem dL_most_5 : decode cL_most 5 = .ok (.aload_n 0, 1) := by decide +kernel
theorem dL_most_6 : decode cL_most 6 = .ok (.bipush 110, 2) := by decide +kernel
theorem dL_most_8 : decode cL_most 8 = .ok (.bipush 111, 2) := by decide +kernel
theorem dL_most_10 : decode cL_most 10 = .ok (.bipush 100, 2) := by decide +kernel
theorem dL_most_12 : decode cL_most 12 = .ok (.bipush 101, 2) := by decide +kernel
theorem dL_most_14 : decode cL_most 14 = .ok (.invokestatic 25, 3) := by decide +kernel
theorem dL_most_17 : decode cL_most 17 = .ok (.aload_n 0, 1) := by decide +kernel
theorem dL_most_18 : decode cL_most 18 = .ok (.bipush 115, 2) := by decide +kernel
theorem dL_most_20 : decode cL_most 20 = .ok (.bipush 56, 2) := by decide +kernel
theorem dL_most_22 : decode cL_most 22 = .ok (.bipush 32, 2) := by decide +kernel
theorem dL_most_24 : decode cL_most 24 = .ok (.bipush 32, 2) := by decide +kernel
theorem dL_most_26 : decode cL_most 26 = .ok (.invokestatic 25, 3) := by decide +kernel
theorem dL_most_29 : decode cL_most 29 = .ok (.iconst 0, 1) := by decide +kernel
theorem dL_most_30 : decode cL_most 30 = .ok (.istore_n 1, 1) := by decide +kernel
theorem dL_most_31 : decode cL_most 31 = .ok (.iload_n 1, 1) := by decide +kernel
theorem dL_most_32 : decode cL_most 32 = .ok (.bipush 14, 2) := by decide +kernel
theorem dL_most_34 : decode cL_most 34 = .ok (.if_icmp .ge 94, 3) := by decide +kernel
theorem dL_most_37 : decode cL_most 37 = .ok (.aload_n 0, 1) := by decide +kernel
theorem dL_most_38 : decode cL_most 38 = .ok (.bipush 59, 2) := by decide +kernel
theorem dL_most_40 : decode cL_most 40 = .ok (.bipush 108, 2) := by decide +kernel
theorem dL_most_42 : decode cL_most 42 = .ok (.bipush 105, 2) := by decide +kernel
theorem dL_most_44 : decode cL_most 44 = .ok (.bipush 110, 2) := by decide +kernel
theorem dL_most_46 : decode cL_most 46 = .ok (.invokestatic 25, 3) := by decide +kernel
theorem dL_most_49 : decode cL_most 49 = .ok (.aload_n 0, 1) := by decide +kernel
theorem dL_most_50 : decode cL_most 50 = .ok (.bipush 107, 2) := by decide +kernel
theorem dL_most_52 : decode cL_most 52 = .ok (.bipush 48, 2) := by decide +kernel
theorem dL_most_54 : decode cL_most 54 = .ok (.iload_n 1, 1) := by decide +kernel
theorem dL_most_55 : decode cL_most 55 = .ok (.bipush 7, 2) := by decide +kernel
theorem dL_most_57 : decode cL_most 57 = .ok (.if_icmp .ge 7, 3) := by decide +kernel
theorem dL_most_60 : decode cL_most 60 = .ok (.iconst 0, 1) := by decide +kernel
theorem dL_most_61 : decode cL_most 61 = .ok (.goto 4, 3) := by decide +kernel
theorem dL_most_64 : decode cL_most 64 = .ok (.iconst 1, 1) := by decide +kernel
theorem dL_most_65 : decode cL_most 65 = .ok (.iadd, 1) := by decide +kernel
theorem dL_most_66 : decode cL_most 66 = .ok (.bipush 32, 2) := by decide +kernel
theorem dL_most_68 : decode cL_most 68 = .ok (.iload_n 1, 1) := by decide +kernel
theorem dL_most_69 : decode cL_most 69 = .ok (.bipush 7, 2) := by decide +kernel
theorem dL_most_71 : decode cL_most 71 = .ok (.if_icmp .ge 10, 3) := by decide +kernel
theorem dL_most_74 : decode cL_most 74 = .ok (.bipush 49, 2) := by decide +kernel
theorem dL_most_76 : decode cL_most 76 = .ok (.iload_n 1, 1) := by decide +kernel
theorem dL_most_77 : decode cL_most 77 = .ok (.iadd, 1) := by decide +kernel
theorem dL_most_78 : decode cL_most 78 = .ok (.goto 18, 3) := by decide +kernel
theorem dL_most_81 : decode cL_most 81 = .ok (.iload_n 1, 1) := by decide +kernel
theorem dL_most_82 : decode cL_most 82 = .ok (.bipush 13, 2) := by decide +kernel
theorem dL_most_84 : decode cL_most 84 = .ok (.if_icmp .ge 10, 3) := by decide +kernel
theorem dL_most_87 : decode cL_most 87 = .ok (.bipush 43, 2) := by decide +kernel
theorem dL_most_89 : decode cL_most 89 = .ok (.iload_n 1, 1) := by decide +kernel
theorem dL_most_90 : decode cL_most 90 = .ok (.iadd, 1) := by decide +kernel
theorem dL_most_91 : decode cL_most 91 = .ok (.goto 5, 3) := by decide +kernel
theorem dL_most_94 : decode cL_most 94 = .ok (.bipush 48, 2) := by decide +kernel
theorem dL_most_96 : decode cL_most 96 = .ok (.invokestatic 25, 3) := by decide +kernel
theorem dL_most_99 : decode cL_most 99 = .ok (.aload_n 0, 1) := by decide +kernel
theorem dL_most_100 : decode cL_most 100 = .ok (.bipush 32, 2) := by decide +kernel
theorem dL_most_102 : decode cL_most 102 = .ok (.iload_n 1, 1) := by decide +kernel
theorem dL_most_103 : decode cL_most 103 = .ok (.bipush 13, 2) := by decide +kernel
theorem dL_most_105 : decode cL_most 105 = .ok (.if_icmp .ge 8, 3) := by decide +kernel
theorem dL_most_108 : decode cL_most 108 = .ok (.bipush 49, 2) := by decide +kernel
theorem dL_most_110 : decode cL_most 110 = .ok (.goto 5, 3) := by decide +kernel
theorem dL_most_113 : decode cL_most 113 = .ok (.bipush 53, 2) := by decide +kernel
theorem dL_most_115 : decode cL_most 115 = .ok (.bipush 32, 2) := by decide +kernel
theorem dL_most_117 : decode cL_most 117 = .ok (.bipush 50, 2) := by decide +kernel
theorem dL_most_119 : decode cL_most 119 = .ok (.invokestatic 25, 3) := by decide +kernel
theorem dL_most_122 : decode cL_most 122 = .ok (.iinc 1 1, 3) := by decide +kernel
theorem dL_most_125 : decode cL_most 125 = .ok (.goto (-94), 3) := by decide +kernel
theorem dL_most_128 : decode cL_most 128 = .ok (.aload_n 0, 1) := by decide +kernel
theorem dL_most_129 : decode cL_most 129 = .ok (.invokevirtual 33, 3) := by decide +kernel
theorem dL_most_132 : decode cL_most 132 = .ok (.iconst (-1), 1) := by decide +kernel
theorem dL_most_133 : decode cL_most 133 = .ok (.if_icmp .ne 42, 3) := by decide +kernel
theorem dL_most_136 : decode cL_most 136 = .ok (.aload_n 0, 1) := by decide +kernel
theorem dL_most_137 : decode cL_most 137 = .ok (.invokevirtual 36, 3) := by decide +kernel
theorem dL_most_140 : decode cL_most 140 = .ok (.bipush 15, 2) := by decide +kernel
theorem dL_most_142 : decode cL_most 142 = .ok (.if_icmp .ne 33, 3) := by decide +kernel
theorem dL_most_145 : decode cL_most 145 = .ok (.aload_n 0, 1) := by decide +kernel
theorem dL_most_146 : decode cL_most 146 = .ok (.iconst 1, 1) := by decide +kernel
theorem dL_most_147 : decode cL_most 147 = .ok (.invokevirtual 39, 3) := by decide +kernel
theorem dL_most_150 : decode cL_most 150 = .ok (.bipush 13, 2) := by decide +kernel
theorem dL_most_152 : decode cL_most 152 = .ok (.if_icmp .ne 23, 3) := by decide +kernel
theorem dL_most_155 : decode cL_most 155 = .ok (.aload_n 0, 1) := by decide +kernel
theorem dL_most_156 : decode cL_most 156 = .ok (.iconst 0, 1) := by decide +kernel
theorem dL_most_157 : decode cL_most 157 = .ok (.iconst 2, 1) := by decide +kernel
theorem dL_most_158 : decode cL_most 158 = .ok (.invokevirtual 52, 3) := by decide +kernel
theorem dL_most_161 : decode cL_most 161 = .ok (.iconst 5, 1) := by decide +kernel
theorem dL_most_162 : decode cL_most 162 = .ok (.if_icmp .ne 13, 3) := by decide +kernel
theorem dL_most_165 : decode cL_most 165 = .ok (.aload_n 0, 1) := by decide +kernel
theorem dL_most_166 : decode cL_most 166 = .ok (.iconst 1, 1) := by decide +kernel
theorem dL_most_167 : decode cL_most 167 = .ok (.iconst 2, 1) := by decide +kernel
theorem dL_most_168 : decode cL_most 168 = .ok (.invokevirtual 52, 3) := by decide +kernel
theorem dL_most_171 : decode cL_most 171 = .ok (.iconst 1, 1) := by decide +kernel
theorem dL_most_172 : decode cL_most 172 = .ok (.if_icmp .eq 5, 3) := by decide +kernel
theorem dL_most_175 : decode cL_most 175 = .ok (.iconst 0, 1) := by decide +kernel
theorem dL_most_176 : decode cL_most 176 = .ok (.ireturn, 1) := by decide +kernel
theorem dL_most_177 : decode cL_most 177 = .ok (.aload_n 0, 1) := by decide +kernel
theorem dL_most_178 : decode cL_most 178 = .ok (.bipush 108, 2) := by decide +kernel
theorem dL_most_180 : decode cL_most 180 = .ok (.bipush 105, 2) := by decide +kernel
theorem dL_most_182 : decode cL_most 182 = .ok (.bipush 110, 2) := by decide +kernel
theorem dL_most_184 : decode cL_most 184 = .ok (.bipush 107, 2) := by decide +kernel
theorem dL_most_186 : decode cL_most 186 = .ok (.invokestatic 25, 3) := by decide +kernel
theorem dL_most_189 : decode cL_most 189 = .ok (.aload_n 0, 1) := by decide +kernel
theorem dL_most_190 : decode cL_most 190 = .ok (.bipush 50, 2) := by decide +kernel
theorem dL_most_192 : decode cL_most 192 = .ok (.bipush 51, 2) := by decide +kernel
theorem dL_most_194 : decode cL_most 194 = .ok (.bipush 32, 2) := by decide +kernel
theorem dL_most_196 : decode cL_most 196 = .ok (.bipush 32, 2) := by decide +kernel
theorem dL_most_198 : decode cL_most 198 = .ok (.invokestatic 25, 3) := by decide +kernel
theorem dL_most_201 : decode cL_most 201 = .ok (.aload_n 0, 1) := by decide +kernel
theorem dL_most_202 : decode cL_most 202 = .ok (.invokevirtual 33, 3) := by decide +kernel
theorem dL_most_205 : decode cL_most 205 = .ok (.iconst 4, 1) := by decide +kernel
theorem dL_most_206 : decode cL_most 206 = .ok (.if_icmp .ne 12, 3) := by decide +kernel
theorem dL_most_209 : decode cL_most 209 = .ok (.aload_n 0, 1) := by decide +kernel
theorem dL_most_210 : decode cL_most 210 = .ok (.invokevirtual 19, 3) := by decide +kernel
theorem dL_most_213 : decode cL_most 213 = .ok (.bipush 8, 2) := by decide +kernel
theorem dL_most_215 : decode cL_most 215 = .ok (.if_icmp .eq 5, 3) := by decide +kernel
theorem dL_most_218 : decode cL_most 218 = .ok (.iconst 0, 1) := by decide +kernel
theorem dL_most_219 : decode cL_most 219 = .ok (.ireturn, 1) := by decide +kernel
theorem dL_most_220 : decode cL_most 220 = .ok (.aload_n 0, 1) := by decide +kernel
theorem dL_most_221 : decode cL_most 221 = .ok (.bipush 108, 2) := by decide +kernel
theorem dL_most_223 : decode cL_most 223 = .ok (.bipush 105, 2) := by decide +kernel
theorem dL_most_225 : decode cL_most 225 = .ok (.bipush 110, 2) := by decide +kernel
theorem dL_most_227 : decode cL_most 227 = .ok (.bipush 107, 2) := by decide +kernel
theorem dL_most_229 : decode cL_most 229 = .ok (.invokestatic 25, 3) := by decide +kernel
theorem dL_most_232 : decode cL_most 232 = .ok (.aload_n 0, 1) := by decide +kernel
theorem dL_most_233 : decode cL_most 233 = .ok (.bipush 50, 2) := by decide +kernel
theorem dL_most_235 : decode cL_most 235 = .ok (.bipush 32, 2) := by decide +kernel
theorem dL_most_237 : decode cL_most 237 = .ok (.bipush 51, 2) := by decide +kernel
theorem dL_most_239 : decode cL_most 239 = .ok (.bipush 32, 2) := by decide +kernel
theorem dL_most_241 : decode cL_most 241 = .ok (.invokestatic 25, 3) := by decide +kernel
theorem dL_most_244 : decode cL_most 244 = .ok (.aload_n 0, 1) := by decide +kernel
theorem dL_most_245 : decode cL_most 245 = .ok (.bipush 49, 2) := by decide +kernel
theorem dL_most_247 : decode cL_most 247 = .ok (.bipush 32, 2) := by decide +kernel
theorem dL_most_249 : decode cL_most 249 = .ok (.bipush 49, 2) := by decide +kernel
theorem dL_most_251 : decode cL_most 251 = .ok (.bipush 59, 2) := by decide +kernel
theorem dL_most_253 : decode cL_most 253 = .ok (.invokestatic 25, 3) := by decide +kernel
theorem dL_most_256 : decode cL_most 256 = .ok (.aload_n 0, 1) := by decide +kernel
theorem dL_most_257 : decode cL_most 257 = .ok (.bipush 108, 2) := by decide +kernel
theorem dL_most_259 : decode cL_most 259 = .ok (.bipush 105, 2) := by decide +kernel
theorem dL_most_261 : decode cL_most 261 = .ok (.bipush 110, 2) := by decide +kernel
theorem dL_most_263 : decode cL_most 263 = .ok (.bipush 107, 2) := by decide +kernel
theorem dL_most_265 : decode cL_most 265 = .ok (.invokestatic 25, 3) := by decide +kernel
theorem dL_most_268 : decode cL_most 268 = .ok (.aload_n 0, 1) := by decide +kernel
theorem dL_most_269 : decode cL_most 269 = .ok (.bipush 50, 2) := by decide +kernel
theorem dL_most_271 : decode cL_most 271 = .ok (.bipush 32, 2) := by decide +kernel
theorem dL_most_273 : decode cL_most 273 = .ok (.bipush 52, 2) := by decide +kernel
theorem dL_most_275 : decode cL_most 275 = .ok (.bipush 32, 2) := by decide +kernel
theorem dL_most_277 : decode cL_most 277 = .ok (.invokestatic 25, 3) := by decide +kernel
theorem dL_most_280 : decode cL_most 280 = .ok (.aload_n 0, 1) := by decide +kernel
theorem dL_most_281 : decode cL_most 281 = .ok (.bipush 49, 2) := by decide +kernel
theorem dL_most_283 : decode cL_most 283 = .ok (.invokevirtual 43, 3) := by decide +kernel
theorem dL_most_286 : decode cL_most 286 = .ok (.pop, 1) := by decide +kernel
theorem dL_most_287 : decode cL_most 287 = .ok (.aload_n 0, 1) := by decide +kernel
theorem dL_most_288 : decode cL_most 288 = .ok (.bipush 49, 2) := by decide +kernel
theorem dL_most_290 : decode cL_most 290 = .ok (.invokevirtual 43, 3) := by decide +kernel
theorem dL_most_293 : decode cL_most 293 = .ok (.pop, 1) := by decide +kernel
theorem dL_most_294 : decode cL_most 294 = .ok (.aload_n 0, 1) := by decide +kernel
theorem dL_most_295 : decode cL_most 295 = .ok (.invokevirtual 33, 3) := by decide +kernel
theorem dL_most_298 : decode cL_most 298 = .ok (.bipush 18, 2) := by decide +kernel
theorem dL_most_300 : decode cL_most 300 = .ok (.if_icmp .ne 16, 3) := by decide +kernel
theorem dL_most_303 : decode cL_most 303 = .ok (.aload_n 0, 1) := by decide +kernel
theorem dL_most_304 : decode cL_most 304 = .ok (.invokevirtual 19, 3) := by decide +kernel
theorem dL_most_307 : decode cL_most 307 = .ok (.bipush 22, 2) := by decide +kernel
theorem dL_most_309 : decode cL_most 309 = .ok (.if_icmp .ne 7, 3) := by decide +kernel
theorem dL_most_312 : decode cL_most 312 = .ok (.iconst 1, 1) := by decide +kernel
theorem dL_most_313 : decode cL_most 313 = .ok (.goto 4, 3) := by decide +kernel
theorem dL_most_316 : decode cL_most 316 = .ok (.iconst 0, 1) := by decide +kernel
theorem dL_most_317 : decode cL_most 317 = .ok (.ireturn, 1) := by decide +kernel
theorem dL_refused_0 : decode cL_refused 0 = .ok (.aload_n 0, 1) := by decide +kernel
theorem dL_refused_1 : decode cL_refused 1 = .ok (.invokestatic 68, 3) := by decide +kernel
theorem dL_refused_4 : decode cL_refused 4 = .ok (.lstore_n 1, 1) := by decide +kernel
theorem dL_refused_5 : decode cL_refused 5 = .ok (.aload_n 0, 1) := by decide +kernel
theorem dL_refused_6 : decode cL_refused 6 = .ok (.bipush 11, 2) := by decide +kernel
theorem dL_refused_8 : decode cL_refused 8 = .ok (.invokevirtual 39, 3) := by decide +kernel
theorem dL_refused_11 : decode cL_refused 11 = .ok (.istore_n 3, 1) := by decide +kernel
theorem dL_refused_12 : decode cL_refused 12 = .ok (.aload_n 0, 1) := by decide +kernel
theorem dL_refused_13 : decode cL_refused 13 = .ok (.iconst 0, 1) := by decide +kernel
theorem dL_refused_14 : decode cL_refused 14 = .ok (.invokevirtual 39, 3) := by decide +kernel
theorem dL_refused_17 : decode cL_refused 17 = .ok (.istore 4, 2) := by decide +kernel
theorem dL_refused_19 : decode cL_refused 19 = .ok (.aload_n 0, 1) := by decide +kernel
theorem dL_refused_20 : decode cL_refused 20 = .ok (.iconst 1, 1) := by decide +kernel
theorem dL_refused_21 : decode cL_refused 21 = .ok (.invokevirtual 39, 3) := by decide +kernel
theorem dL_refused_24 : decode cL_refused 24 = .ok (.istore 5, 2) := by decide +kernel
theorem dL_refused_26 : decode cL_refused 26 = .ok (.aload_n 0, 1) := by decide +kernel
theorem dL_refused_27 : decode cL_refused 27 = .ok (.bipush 14, 2) := by decide +kernel
theorem dL_refused_29 : decode cL_refused 29 = .ok (.invokevirtual 39, 3) := by decide +kernel
theorem dL_refused_32 : decode cL_refused 32 = .ok (.bipush (-3), 2) := by decide +kernel
theorem dL_refused_34 : decode cL_refused 34 = .ok (.if_icmp .ne 266, 3) := by decide +kernel
theorem dL_refused_37 : decode cL_refused 37 = .ok (.aload_n 0, 1) := by decide +kernel
theorem dL_refused_38 : decode cL_refused 38 = .ok (.iload 5, 2) := by decide +kernel
theorem dL_refused_40 : decode cL_refused 40 = .ok (.bipush 9, 2) := by decide +kernel
theorem dL_refused_42 : decode cL_refused 42 = .ok (.invokevirtual 52, 3) := by decide +kernel
theorem dL_refused_45 : decode cL_refused 45 = .ok (.bipush (-2), 2) := by decide +kernel
theorem dL_refused_47 : decode cL_refused 47 = .ok (.if_icmp .ne 253, 3) := by decide +kernel
theorem dL_refused_50 : decode cL_refused 50 = .ok (.aload_n 0, 1) := by decide +kernel
theorem dL_refused_51 : decode cL_refused 51 = .ok (.iload 5, 2) := by decide +kernel
theorem dL_refused_53 : decode cL_refused 53 = .ok (.invokevirtual 72, 3) := by decide +kernel
theorem dL_refused_56 : decode cL_refused 56 = .ok (.bipush (-2), 2) := by decide +kernel
theorem dL_refused_58 : decode cL_refused 58 = .ok (.if_icmp .ne 242, 3) := by decide +kernel
theorem dL_refused_61 : decode cL_refused 61 = .ok (.aload_n 0, 1) := by decide +kernel
theorem dL_refused_62 : decode cL_refused 62 = .ok (.iconst (-1), 1) := by decide +kernel
theorem dL_refused_63 : decode cL_refused 63 = .ok (.invokevirtual 75, 3) := by decide +kernel
theorem dL_refused_66 : decode cL_refused 66 = .ok (.bipush (-2), 2) := by decide +kernel
theorem dL_refused_68 : decode cL_refused 68 = .ok (.if_icmp .ne 232, 3) := by decide +kernel
theorem dL_refused_71 : decode cL_refused 71 = .ok (.aload_n 0, 1) := by decide +kernel
theorem dL_refused_72 : decode cL_refused 72 = .ok (.iload 5, 2) := by decide +kernel
theorem dL_refused_74 : decode cL_refused 74 = .ok (.iconst 0, 1) := by decide +kernel
theorem dL_refused_75 : decode cL_refused 75 = .ok (.iconst 0, 1) := by decide +kernel
theorem dL_refused_76 : decode cL_refused 76 = .ok (.invokevirtual 78, 3) := by decide +kernel
theorem dL_refused_79 : decode cL_refused 79 = .ok (.bipush (-2), 2) := by decide +kernel
theorem dL_refused_81 : decode cL_refused 81 = .ok (.if_icmp .ne 219, 3) := by decide +kernel
theorem dL_refused_84 : decode cL_refused 84 = .ok (.aload_n 0, 1) := by decide +kernel
theorem dL_refused_85 : decode cL_refused 85 = .ok (.iload 4, 2) := by decide +kernel
theorem dL_refused_87 : decode cL_refused 87 = .ok (.invokevirtual 82, 3) := by decide +kernel
theorem dL_refused_90 : decode cL_refused 90 = .ok (.bipush (-2), 2) := by decide +kernel
theorem dL_refused_92 : decode cL_refused 92 = .ok (.if_icmp .ne 208, 3) := by decide +kernel
theorem dL_refused_95 : decode cL_refused 95 = .ok (.aload_n 0, 1) := by decide +kernel
theorem dL_refused_96 : decode cL_refused 96 = .ok (.iload 4, 2) := by decide +kernel
theorem dL_refused_98 : decode cL_refused 98 = .ok (.invokevirtual 55, 3) := by decide +kernel
theorem dL_refused_101 : decode cL_refused 101 = .ok (.bipush (-2), 2) := by decide +kernel
theorem dL_refused_103 : decode cL_refused 103 = .ok (.if_icmp .ne 197, 3) := by decide +kernel
theorem dL_refused_106 : decode cL_refused 106 = .ok (.aload_n 0, 1) := by decide +kernel
theorem dL_refused_107 : decode cL_refused 107 = .ok (.iload 4, 2) := by decide +kernel
theorem dL_refused_109 : decode cL_refused 109 = .ok (.iconst 0, 1) := by decide +kernel
theorem dL_refused_110 : decode cL_refused 110 = .ok (.iconst 0, 1) := by decide +kernel
theorem dL_refused_111 : decode cL_refused 111 = .ok (.invokevirtual 85, 3) := by decide +kernel
theorem dL_refused_114 : decode cL_refused 114 = .ok (.bipush (-2), 2) := by decide +kernel
theorem dL_refused_116 : decode cL_refused 116 = .ok (.if_icmp .ne 184, 3) := by decide +kernel
theorem dL_refused_119 : decode cL_refused 119 = .ok (.aload_n 0, 1) := by decide +kernel
theorem dL_refused_120 : decode cL_refused 120 = .ok (.iconst 0, 1) := by decide +kernel
theorem dL_refused_121 : decode cL_refused 121 = .ok (.iload 4, 2) := by decide +kernel
theorem dL_refused_123 : decode cL_refused 123 = .ok (.iconst 5, 1) := by decide +kernel
theorem dL_refused_124 : decode cL_refused 124 = .ok (.invokevirtual 88, 3) := by decide +kernel
theorem dL_refused_127 : decode cL_refused 127 = .ok (.bipush (-2), 2) := by decide +kernel
theorem dL_refused_129 : decode cL_refused 129 = .ok (.if_icmp .ne 171, 3) := by decide +kernel
theorem dL_refused_132 : decode cL_refused 132 = .ok (.aload_n 0, 1) := by decide +kernel
theorem dL_refused_133 : decode cL_refused 133 = .ok (.iconst 0, 1) := by decide +kernel
theorem dL_refused_134 : decode cL_refused 134 = .ok (.iload 5, 2) := by decide +kernel
theorem dL_refused_136 : decode cL_refused 136 = .ok (.iconst 5, 1) := by decide +kernel
theorem dL_refused_137 : decode cL_refused 137 = .ok (.invokevirtual 91, 3) := by decide +kernel
theorem dL_refused_140 : decode cL_refused 140 = .ok (.bipush (-2), 2) := by decide +kernel
theorem dL_refused_142 : decode cL_refused 142 = .ok (.if_icmp .ne 158, 3) := by decide +kernel
theorem dL_refused_145 : decode cL_refused 145 = .ok (.aload_n 0, 1) := by decide +kernel
theorem dL_refused_146 : decode cL_refused 146 = .ok (.iload 4, 2) := by decide +kernel
theorem dL_refused_148 : decode cL_refused 148 = .ok (.invokevirtual 94, 3) := by decide +kernel
theorem dL_refused_151 : decode cL_refused 151 = .ok (.bipush (-2), 2) := by decide +kernel
theorem dL_refused_153 : decode cL_refused 153 = .ok (.if_icmp .ne 147, 3) := by decide +kernel
theorem dL_refused_156 : decode cL_refused 156 = .ok (.aload_n 0, 1) := by decide +kernel
theorem dL_refused_157 : decode cL_refused 157 = .ok (.iload 4, 2) := by decide +kernel
theorem dL_refused_159 : decode cL_refused 159 = .ok (.invokevirtual 97, 3) := by decide +kernel
theorem dL_refused_162 : decode cL_refused 162 = .ok (.bipush (-2), 2) := by decide +kernel
theorem dL_refused_164 : decode cL_refused 164 = .ok (.if_icmp .ne 136, 3) := by decide +kernel
theorem dL_refused_167 : decode cL_refused 167 = .ok (.aload_n 0, 1) := by decide +kernel
theorem dL_refused_168 : decode cL_refused 168 = .ok (.bipush (-2), 2) := by decide +kernel
theorem dL_refused_170 : decode cL_refused 170 = .ok (.invokevirtual 100, 3) := by decide +kernel
theorem dL_refused_173 : decode cL_refused 173 = .ok (.bipush (-3), 2) := by decide +kernel
theorem dL_refused_175 : decode cL_refused 175 = .ok (.if_icmp .ne 125, 3) := by decide +kernel
theorem dL_refused_178 : decode cL_refused 178 = .ok (.aload_n 0, 1) := by decide +kernel
theorem dL_refused_179 : decode cL_refused 179 = .ok (.iconst 3, 1) := by decide +kernel
theorem dL_refused_180 : decode cL_refused 180 = .ok (.bipush 99, 2) := by decide +kernel
theorem dL_refused_182 : decode cL_refused 182 = .ok (.invokevirtual 103, 3) := by decide +kernel
theorem dL_refused_185 : decode cL_refused 185 = .ok (.bipush (-3), 2) := by decide +kernel
theorem dL_refused_187 : decode cL_refused 187 = .ok (.if_icmp .ne 113, 3) := by decide +kernel
theorem dL_refused_190 : decode cL_refused 190 = .ok (.aload_n 0, 1) := by decide +kernel
theorem dL_refused_191 : decode cL_refused 191 = .ok (.iconst 0, 1) := by decide +kernel
theorem dL_refused_192 : decode cL_refused 192 = .ok (.iload 4, 2) := by decide +kernel
theorem dL_refused_194 : decode cL_refused 194 = .ok (.invokevirtual 103, 3) := by decide +kernel
theorem dL_refused_197 : decode cL_refused 197 = .ok (.bipush (-2), 2) := by decide +kernel
theorem dL_refused_199 : decode cL_refused 199 = .ok (.if_icmp .ne 101, 3) := by decide +kernel
theorem dL_refused_202 : decode cL_refused 202 = .ok (.aload_n 0, 1) := by decide +kernel
theorem dL_refused_203 : decode cL_refused 203 = .ok (.bipush 99, 2) := by decide +kernel
theorem dL_refused_205 : decode cL_refused 205 = .ok (.iconst 0, 1) := by decide +kernel
theorem dL_refused_206 : decode cL_refused 206 = .ok (.invokevirtual 60, 3) := by decide +kernel
theorem dL_refused_209 : decode cL_refused 209 = .ok (.bipush (-2), 2) := by decide +kernel
theorem dL_refused_211 : decode cL_refused 211 = .ok (.if_icmp .ne 89, 3) := by decide +kernel
theorem dL_refused_214 : decode cL_refused 214 = .ok (.aload_n 0, 1) := by decide +kernel
theorem dL_refused_215 : decode cL_refused 215 = .ok (.iconst 0, 1) := by decide +kernel
theorem dL_refused_216 : decode cL_refused 216 = .ok (.iload 5, 2) := by decide +kernel
theorem dL_refused_218 : decode cL_refused 218 = .ok (.iconst 1, 1) := by decide +kernel
theorem dL_refused_219 : decode cL_refused 219 = .ok (.iconst 0, 1) := by decide +kernel
theorem dL_refused_220 : decode cL_refused 220 = .ok (.invokevirtual 106, 3) := by decide +kernel
theorem dL_refused_223 : decode cL_refused 223 = .ok (.bipush (-2), 2) := by decide +kernel
theorem dL_refused_225 : decode cL_refused 225 = .ok (.if_icmp .ne 75, 3) := by decide +kernel
theorem dL_refused_228 : decode cL_refused 228 = .ok (.aload_n 0, 1) := by decide +kernel
theorem dL_refused_229 : decode cL_refused 229 = .ok (.iconst 0, 1) := by decide +kernel
theorem dL_refused_230 : decode cL_refused 230 = .ok (.iconst 0, 1) := by decide +kernel
theorem dL_refused_231 : decode cL_refused 231 = .ok (.iconst 0, 1) := by decide +kernel
theorem dL_refused_232 : decode cL_refused 232 = .ok (.bipush (-2), 2) := by decide +kernel
theorem dL_refused_234 : decode cL_refused 234 = .ok (.invokevirtual 106, 3) := by decide +kernel
theorem dL_refused_237 : decode cL_refused 237 = .ok (.bipush (-2), 2) := by decide +kernel
theorem dL_refused_239 : decode cL_refused 239 = .ok (.if_icmp .ne 61, 3) := by decide +kernel
theorem dL_refused_242 : decode cL_refused 242 = .ok (.aload_n 0, 1) := by decide +kernel
theorem dL_refused_243 : decode cL_refused 243 = .ok (.iload 4, 2) := by decide +kernel
theorem dL_refused_245 : decode cL_refused 245 = .ok (.invokevirtual 110, 3) := by decide +kernel
theorem dL_refused_248 : decode cL_refused 248 = .ok (.bipush (-2), 2) := by decide +kernel
theorem dL_refused_250 : decode cL_refused 250 = .ok (.if_icmp .ne 50, 3) := by decide +kernel
theorem dL_refused_253 : decode cL_refused 253 = .ok (.aload_n 0, 1) := by decide +kernel
theorem dL_refused_254 : decode cL_refused 254 = .ok (.bipush (-2), 2) := by decide +kernel
theorem dL_refused_256 : decode cL_refused 256 = .ok (.invokevirtual 63, 3) := by decide +kernel
theorem dL_refused_259 : decode cL_refused 259 = .ok (.bipush (-3), 2) := by decide +kernel
theorem dL_refused_261 : decode cL_refused 261 = .ok (.if_icmp .ne 39, 3) := by decide +kernel
theorem dL_refused_264 : decode cL_refused 264 = .ok (.aload_n 0, 1) := by decide +kernel
theorem dL_refused_265 : decode cL_refused 265 = .ok (.iconst 2, 1) := by decide +kernel
theorem dL_refused_266 : decode cL_refused 266 = .ok (.invokevirtual 113, 3) := by decide +kernel
theorem dL_refused_269 : decode cL_refused 269 = .ok (.bipush (-3), 2) := by decide +kernel
theorem dL_refused_271 : decode cL_refused 271 = .ok (.if_icmp .ne 29, 3) := by decide +kernel
theorem dL_refused_274 : decode cL_refused 274 = .ok (.aload_n 0, 1) := by decide +kernel
theorem dL_refused_275 : decode cL_refused 275 = .ok (.iload 4, 2) := by decide +kernel
theorem dL_refused_277 : decode cL_refused 277 = .ok (.invokevirtual 116, 3) := by decide +kernel
theorem dL_refused_280 : decode cL_refused 280 = .ok (.bipush (-2), 2) := by decide +kernel
theorem dL_refused_282 : decode cL_refused 282 = .ok (.if_icmp .ne 18, 3) := by decide +kernel
theorem dL_refused_285 : decode cL_refused 285 = .ok (.aload_n 0, 1) := by decide +kernel
theorem dL_refused_286 : decode cL_refused 286 = .ok (.bipush (-2), 2) := by decide +kernel
theorem dL_refused_288 : decode cL_refused 288 = .ok (.invokevirtual 119, 3) := by decide +kernel
theorem dL_refused_291 : decode cL_refused 291 = .ok (.bipush (-3), 2) := by decide +kernel
theorem dL_refused_293 : decode cL_refused 293 = .ok (.if_icmp .ne 7, 3) := by decide +kernel
theorem dL_refused_296 : decode cL_refused 296 = .ok (.iconst 1, 1) := by decide +kernel
theorem dL_refused_297 : decode cL_refused 297 = .ok (.goto 4, 3) := by decide +kernel
theorem dL_refused_300 : decode cL_refused 300 = .ok (.iconst 0, 1) := by decide +kernel
theorem dL_refused_301 : decode cL_refused 301 = .ok (.istore 6, 2) := by decide +kernel
theorem dL_refused_303 : decode cL_refused 303 = .ok (.iconst 0, 1) := by decide +kernel
theorem dL_refused_304 : decode cL_refused 304 = .ok (.istore 7, 2) := by decide +kernel
theorem dL_refused_306 : decode cL_refused 306 = .ok (.iload 7, 2) := by decide +kernel
theorem dL_refused_308 : decode cL_refused 308 = .ok (.iload 5, 2) := by decide +kernel
theorem dL_refused_310 : decode cL_refused 310 = .ok (.if_icmp .ge 52, 3) := by decide +kernel
theorem dL_refused_313 : decode cL_refused 313 = .ok (.iload 6, 2) := by decide +kernel
theorem dL_refused_315 : decode cL_refused 315 = .ok (.ifCond .eq 38, 3) := by decide +kernel
theorem dL_refused_318 : decode cL_refused 318 = .ok (.aload_n 0, 1) := by decide +kernel
theorem dL_refused_319 : decode cL_refused 319 = .ok (.iload 7, 2) := by decide +kernel
theorem dL_refused_321 : decode cL_refused 321 = .ok (.iconst 4, 1) := by decide +kernel
theorem dL_refused_322 : decode cL_refused 322 = .ok (.invokevirtual 52, 3) := by decide +kernel
theorem dL_refused_325 : decode cL_refused 325 = .ok (.iconst 1, 1) := by decide +kernel
theorem dL_refused_326 : decode cL_refused 326 = .ok (.if_icmp .ne 12, 3) := by decide +kernel
theorem dL_refused_329 : decode cL_refused 329 = .ok (.aload_n 0, 1) := by decide +kernel
theorem dL_refused_330 : decode cL_refused 330 = .ok (.iload 7, 2) := by decide +kernel
theorem dL_refused_332 : decode cL_refused 332 = .ok (.invokevirtual 75, 3) := by decide +kernel
theorem dL_refused_335 : decode cL_refused 335 = .ok (.goto 9, 3) := by decide +kernel
theorem dL_refused_338 : decode cL_refused 338 = .ok (.aload_n 0, 1) := by decide +kernel
theorem dL_refused_339 : decode cL_refused 339 = .ok (.iload 7, 2) := by decide +kernel
theorem dL_refused_341 : decode cL_refused 341 = .ok (.invokevirtual 72, 3) := by decide +kernel
theorem dL_refused_344 : decode cL_refused 344 = .ok (.bipush (-4), 2) := by decide +kernel
theorem dL_refused_346 : decode cL_refused 346 = .ok (.if_icmp .ne 7, 3) := by decide +kernel
theorem dL_refused_349 : decode cL_refused 349 = .ok (.iconst 1, 1) := by decide +kernel
theorem dL_refused_350 : decode cL_refused 350 = .ok (.goto 4, 3) := by decide +kernel
theorem dL_refused_353 : decode cL_refused 353 = .ok (.iconst 0, 1) := by decide +kernel
theorem dL_refused_354 : decode cL_refused 354 = .ok (.istore 6, 2) := by decide +kernel
theorem dL_refused_356 : decode cL_refused 356 = .ok (.iinc 7 1, 3) := by decide +kernel
theorem dL_refused_359 : decode cL_refused 359 = .ok (.goto (-53), 3) := by decide +kernel
theorem dL_refused_362 : decode cL_refused 362 = .ok (.iload 6, 2) := by decide +kernel
theorem dL_refused_364 : decode cL_refused 364 = .ok (.ifCond .eq 26, 3) := by decide +kernel
theorem dL_refused_367 : decode cL_refused 367 = .ok (.aload_n 0, 1) := by decide +kernel
theorem dL_refused_368 : decode cL_refused 368 = .ok (.invokestatic 68, 3) := by decide +kernel
theorem dL_refused_371 : decode cL_refused 371 = .ok (.lload_n 1, 1) := by decide +kernel
theorem dL_refused_372 : decode cL_refused 372 = .ok (.lcmp, 1) := by decide +kernel
theorem dL_refused_373 : decode cL_refused 373 = .ok (.ifCond .ne 17, 3) := by decide +kernel
theorem dL_refused_376 : decode cL_refused 376 = .ok (.aload_n 0, 1) := by decide +kernel
theorem dL_refused_377 : decode cL_refused 377 = .ok (.bipush 11, 2) := by decide +kernel
theorem dL_refused_379 : decode cL_refused 379 = .ok (.invokevirtual 39, 3) := by decide +kernel
theorem dL_refused_382 : decode cL_refused 382 = .ok (.iload_n 3, 1) := by decide +kernel
theorem dL_refused_383 : decode cL_refused 383 = .ok (.if_icmp .ne 7, 3) := by decide +kernel
theorem dL_refused_386 : decode cL_refused 386 = .ok (.iconst 1, 1) := by decide +kernel
theorem dL_refused_387 : decode cL_refused 387 = .ok (.goto 4, 3) := by decide +kernel
theorem dL_refused_390 : decode cL_refused 390 = .ok (.iconst 0, 1) := by decide +kernel
theorem dL_refused_391 : decode cL_refused 391 = .ok (.ireturn, 1) := by decide +kernel
theorem dL_goes_0 : decode cL_goes 0 = .ok (.aload_n 0, 1) := by decide +kernel
theorem dL_goes_1 : decode cL_goes 1 = .ok (.iload_n 2, 1) := by decide +kernel
theorem dL_goes_2 : decode cL_goes 2 = .ok (.invokevirtual 116, 3) := by decide +kernel
theorem dL_goes_5 : decode cL_goes 5 = .ok (.istore_n 3, 1) := by decide +kernel
theorem dL_goes_6 : decode cL_goes 6 = .ok (.aload_n 0, 1) := by decide +kernel
theorem dL_goes_7 : decode cL_goes 7 = .ok (.iconst (-1), 1) := by decide +kernel
theorem dL_goes_8 : decode cL_goes 8 = .ok (.invokevirtual 119, 3) := by decide +kernel
theorem dL_goes_11 : decode cL_goes 11 = .ok (.istore 4, 2) := by decide +kernel
theorem dL_goes_13 : decode cL_goes 13 = .ok (.iload_n 3, 1) := by decide +kernel
theorem dL_goes_14 : decode cL_goes 14 = .ok (.aload_n 1, 1) := by decide +kernel
theorem dL_goes_15 : decode cL_goes 15 = .ok (.iconst 0, 1) := by decide +kernel
theorem dL_goes_16 : decode cL_goes 16 = .ok (.iaload, 1) := by decide +kernel
theorem dL_goes_17 : decode cL_goes 17 = .ok (.if_icmp .ge 67, 3) := by decide +kernel
theorem dL_goes_20 : decode cL_goes 20 = .ok (.iload_n 3, 1) := by decide +kernel
theorem dL_goes_21 : decode cL_goes 21 = .ok (.ifCond .ge 15, 3) := by decide +kernel
theorem dL_goes_24 : decode cL_goes 24 = .ok (.iload_n 3, 1) := by decide +kernel
theorem dL_goes_25 : decode cL_goes 25 = .ok (.bipush (-11), 2) := by decide +kernel
theorem dL_goes_27 : decode cL_goes 27 = .ok (.if_icmp .gt 57, 3) := by decide +kernel
theorem dL_goes_30 : decode cL_goes 30 = .ok (.iload_n 3, 1) := by decide +kernel
theorem dL_goes_31 : decode cL_goes 31 = .ok (.bipush (-14), 2) := by decide +kernel
theorem dL_goes_33 : decode cL_goes 33 = .ok (.if_icmp .lt 51, 3) := by decide +kernel
theorem dL_goes_36 : decode cL_goes 36 = .ok (.iload 4, 2) := by decide +kernel
theorem dL_goes_38 : decode cL_goes 38 = .ok (.ifCond .lt 46, 3) := by decide +kernel
theorem dL_goes_41 : decode cL_goes 41 = .ok (.iload 4, 2) := by decide +kernel
theorem dL_goes_43 : decode cL_goes 43 = .ok (.bipush 20, 2) := by decide +kernel
theorem dL_goes_45 : decode cL_goes 45 = .ok (.if_icmp .gt 39, 3) := by decide +kernel
theorem dL_goes_48 : decode cL_goes 48 = .ok (.aload_n 0, 1) := by decide +kernel
theorem dL_goes_49 : decode cL_goes 49 = .ok (.iconst 0, 1) := by decide +kernel
theorem dL_goes_50 : decode cL_goes 50 = .ok (.invokevirtual 119, 3) := by decide +kernel
theorem dL_goes_53 : decode cL_goes 53 = .ok (.iload_n 2, 1) := by decide +kernel
theorem dL_goes_54 : decode cL_goes 54 = .ok (.if_icmp .ne 30, 3) := by decide +kernel
theorem dL_goes_57 : decode cL_goes 57 = .ok (.iload_n 3, 1) := by decide +kernel
theorem dL_goes_58 : decode cL_goes 58 = .ok (.ifCond .lt 13, 3) := by decide +kernel
theorem dL_goes_61 : decode cL_goes 61 = .ok (.aload_n 0, 1) := by decide +kernel
theorem dL_goes_62 : decode cL_goes 62 = .ok (.iload 4, 2) := by decide +kernel
theorem dL_goes_64 : decode cL_goes 64 = .ok (.invokevirtual 119, 3) := by decide +kernel
theorem dL_goes_67 : decode cL_goes 67 = .ok (.iload_n 3, 1) := by decide +kernel
theorem dL_goes_68 : decode cL_goes 68 = .ok (.if_icmp .ne 16, 3) := by decide +kernel
theorem dL_goes_71 : decode cL_goes 71 = .ok (.iload_n 3, 1) := by decide +kernel
theorem dL_goes_72 : decode cL_goes 72 = .ok (.bipush (-14), 2) := by decide +kernel
theorem dL_goes_74 : decode cL_goes 74 = .ok (.if_icmp .ne 12, 3) := by decide +kernel
theorem dL_goes_77 : decode cL_goes 77 = .ok (.iload 4, 2) := by decide +kernel
theorem dL_goes_79 : decode cL_goes 79 = .ok (.bipush 20, 2) := by decide +kernel
theorem dL_goes_81 : decode cL_goes 81 = .ok (.if_icmp .eq 5, 3) := by decide +kernel
theorem dL_goes_84 : decode cL_goes 84 = .ok (.iconst 0, 1) := by decide +kernel
theorem dL_goes_85 : decode cL_goes 85 = .ok (.ireturn, 1) := by decide +kernel
theorem dL_goes_86 : decode cL_goes 86 = .ok (.iconst 1, 1) := by decide +kernel
theorem dL_goes_87 : decode cL_goes 87 = .ok (.istore 5, 2) := by decide +kernel
theorem dL_goes_89 : decode cL_goes 89 = .ok (.iload 5, 2) := by decide +kernel
theorem dL_goes_91 : decode cL_goes 91 = .ok (.iload 4, 2) := by decide +kernel
theorem dL_goes_93 : decode cL_goes 93 = .ok (.if_icmp .gt 58, 3) := by decide +kernel
theorem dL_goes_96 : decode cL_goes 96 = .ok (.aload_n 1, 1) := by decide +kernel
theorem dL_goes_97 : decode cL_goes 97 = .ok (.aload_n 0, 1) := by decide +kernel
theorem dL_goes_98 : decode cL_goes 98 = .ok (.iload 5, 2) := by decide +kernel
theorem dL_goes_100 : decode cL_goes 100 = .ok (.iconst 1, 1) := by decide +kernel
theorem dL_goes_101 : decode cL_goes 101 = .ok (.isub, 1) := by decide +kernel
theorem dL_goes_102 : decode cL_goes 102 = .ok (.invokevirtual 119, 3) := by decide +kernel
theorem dL_goes_105 : decode cL_goes 105 = .ok (.aload_n 0, 1) := by decide +kernel
theorem dL_goes_106 : decode cL_goes 106 = .ok (.iload 5, 2) := by decide +kernel
theorem dL_goes_108 : decode cL_goes 108 = .ok (.invokevirtual 119, 3) := by decide +kernel
theorem dL_goes_111 : decode cL_goes 111 = .ok (.invokestatic 29, 3) := by decide +kernel
theorem dL_goes_114 : decode cL_goes 114 = .ok (.istore 6, 2) := by decide +kernel
theorem dL_goes_116 : decode cL_goes 116 = .ok (.iload 6, 2) := by decide +kernel
theorem dL_goes_118 : decode cL_goes 118 = .ok (.ifCond .lt 25, 3) := by decide +kernel
theorem dL_goes_121 : decode cL_goes 121 = .ok (.aload_n 0, 1) := by decide +kernel
theorem dL_goes_122 : decode cL_goes 122 = .ok (.iload 6, 2) := by decide +kernel
theorem dL_goes_124 : decode cL_goes 124 = .ok (.iconst 4, 1) := by decide +kernel
theorem dL_goes_125 : decode cL_goes 125 = .ok (.invokevirtual 52, 3) := by decide +kernel
theorem dL_goes_128 : decode cL_goes 128 = .ok (.iconst 1, 1) := by decide +kernel
theorem dL_goes_129 : decode cL_goes 129 = .ok (.if_icmp .ne 14, 3) := by decide +kernel
theorem dL_goes_132 : decode cL_goes 132 = .ok (.aload_n 0, 1) := by decide +kernel
theorem dL_goes_133 : decode cL_goes 133 = .ok (.iload 6, 2) := by decide +kernel
theorem dL_goes_135 : decode cL_goes 135 = .ok (.iconst 5, 1) := by decide +kernel
theorem dL_goes_136 : decode cL_goes 136 = .ok (.invokevirtual 52, 3) := by decide +kernel
theorem dL_goes_139 : decode cL_goes 139 = .ok (.iconst 1, 1) := by decide +kernel
theorem dL_goes_140 : decode cL_goes 140 = .ok (.if_icmp .ge 5, 3) := by decide +kernel
theorem dL_goes_143 : decode cL_goes 143 = .ok (.iconst 0, 1) := by decide +kernel
theorem dL_goes_144 : decode cL_goes 144 = .ok (.ireturn, 1) := by decide +kernel
theorem dL_goes_145 : decode cL_goes 145 = .ok (.iinc 5 1, 3) := by decide +kernel
theorem dL_goes_148 : decode cL_goes 148 = .ok (.goto (-59), 3) := by decide +kernel
theorem dL_goes_151 : decode cL_goes 151 = .ok (.iconst 1, 1) := by decide +kernel
theorem dL_goes_152 : decode cL_goes 152 = .ok (.ireturn, 1) := by decide +kernel
theorem dL_arrives_0 : decode cL_arrives 0 = .ok (.iconst 0, 1) := by decide +kernel
theorem dL_arrives_1 : decode cL_arrives 1 = .ok (.istore_n 3, 1) := by decide +kernel
theorem dL_arrives_2 : decode cL_arrives 2 = .ok (.iload_n 3, 1) := by decide +kernel
theorem dL_arrives_3 : decode cL_arrives 3 = .ok (.aload_n 1, 1) := by decide +kernel
theorem dL_arrives_4 : decode cL_arrives 4 = .ok (.iconst 0, 1) := by decide +kernel
theorem dL_arrives_5 : decode cL_arrives 5 = .ok (.iaload, 1) := by decide +kernel
theorem dL_arrives_6 : decode cL_arrives 6 = .ok (.if_icmp .ge 19, 3) := by decide +kernel
theorem dL_arrives_9 : decode cL_arrives 9 = .ok (.aload_n 0, 1) := by decide +kernel
theorem dL_arrives_10 : decode cL_arrives 10 = .ok (.iload_n 3, 1) := by decide +kernel
theorem dL_arrives_11 : decode cL_arrives 11 = .ok (.invokevirtual 82, 3) := by decide +kernel
theorem dL_arrives_14 : decode cL_arrives 14 = .ok (.ifCond .ge 5, 3) := by decide +kernel
theorem dL_arrives_17 : decode cL_arrives 17 = .ok (.iconst 0, 1) := by decide +kernel
theorem dL_arrives_18 : decode cL_arrives 18 = .ok (.ireturn, 1) := by decide +kernel
theorem dL_arrives_19 : decode cL_arrives 19 = .ok (.iinc 3 1, 3) := by decide +kernel
theorem dL_arrives_22 : decode cL_arrives 22 = .ok (.goto (-20), 3) := by decide +kernel
theorem dL_arrives_25 : decode cL_arrives 25 = .ok (.aload_n 0, 1) := by decide +kernel
theorem dL_arrives_26 : decode cL_arrives 26 = .ok (.iconst 3, 1) := by decide +kernel
theorem dL_arrives_27 : decode cL_arrives 27 = .ok (.invokevirtual 39, 3) := by decide +kernel
theorem dL_arrives_30 : decode cL_arrives 30 = .ok (.ifCond .ne 20, 3) := by decide +kernel
theorem dL_arrives_33 : decode cL_arrives 33 = .ok (.aload_n 0, 1) := by decide +kernel
theorem dL_arrives_34 : decode cL_arrives 34 = .ok (.iconst (-1), 1) := by decide +kernel
theorem dL_arrives_35 : decode cL_arrives 35 = .ok (.invokevirtual 100, 3) := by decide +kernel
theorem dL_arrives_38 : decode cL_arrives 38 = .ok (.ifCond .ne 12, 3) := by decide +kernel
theorem dL_arrives_41 : decode cL_arrives 41 = .ok (.aload_n 0, 1) := by decide +kernel
theorem dL_arrives_42 : decode cL_arrives 42 = .ok (.iconst 0, 1) := by decide +kernel
theorem dL_arrives_43 : decode cL_arrives 43 = .ok (.invokevirtual 100, 3) := by decide +kernel
theorem dL_arrives_46 : decode cL_arrives 46 = .ok (.iconst (-1), 1) := by decide +kernel
theorem dL_arrives_47 : decode cL_arrives 47 = .ok (.if_icmp .eq 5, 3) := by decide +kernel
theorem dL_arrives_50 : decode cL_arrives 50 = .ok (.iconst 0, 1) := by decide +kernel
theorem dL_arrives_51 : decode cL_arrives 51 = .ok (.ireturn, 1) := by decide +kernel
theorem dL_arrives_52 : decode cL_arrives 52 = .ok (.aload_n 0, 1) := by decide +kernel
theorem dL_arrives_53 : decode cL_arrives 53 = .ok (.invokevirtual 122, 3) := by decide +kernel
theorem dL_arrives_56 : decode cL_arrives 56 = .ok (.pop, 1) := by decide +kernel
theorem dL_arrives_57 : decode cL_arrives 57 = .ok (.iload_n 2, 1) := by decide +kernel
theorem dL_arrives_58 : decode cL_arrives 58 = .ok (.aload_n 1, 1) := by decide +kernel
theorem dL_arrives_59 : decode cL_arrives 59 = .ok (.iconst 0, 1) := by decide +kernel
theorem dL_arrives_60 : decode cL_arrives 60 = .ok (.iaload, 1) := by decide +kernel
theorem dL_arrives_61 : decode cL_arrives 61 = .ok (.invokestatic 15, 3) := by decide +kernel
theorem dL_arrives_64 : decode cL_arrives 64 = .ok (.istore_n 3, 1) := by decide +kernel
theorem dL_arrives_65 : decode cL_arrives 65 = .ok (.iload_n 3, 1) := by decide +kernel
theorem dL_arrives_66 : decode cL_arrives 66 = .ok (.istore 4, 2) := by decide +kernel
theorem dL_arrives_68 : decode cL_arrives 68 = .ok (.iconst 1, 1) := by decide +kernel
theorem dL_arrives_69 : decode cL_arrives 69 = .ok (.istore 5, 2) := by decide +kernel
theorem dL_arrives_71 : decode cL_arrives 71 = .ok (.iconst 0, 1) := by decide +kernel
theorem dL_arrives_72 : decode cL_arrives 72 = .ok (.istore 6, 2) := by decide +kernel
theorem dL_arrives_74 : decode cL_arrives 74 = .ok (.iconst 0, 1) := by decide +kernel
theorem dL_arrives_75 : decode cL_arrives 75 = .ok (.istore 7, 2) := by decide +kernel
theorem dL_arrives_77 : decode cL_arrives 77 = .ok (.iload 7, 2) := by decide +kernel
theorem dL_arrives_79 : decode cL_arrives 79 = .ok (.iconst 3, 1) := by decide +kernel
theorem dL_arrives_80 : decode cL_arrives 80 = .ok (.if_icmp .ge 87, 3) := by decide +kernel
theorem dL_arrives_83 : decode cL_arrives 83 = .ok (.iload_n 2, 1) := by decide +kernel
theorem dL_arrives_84 : decode cL_arrives 84 = .ok (.iconst 3, 1) := by decide +kernel
theorem dL_arrives_85 : decode cL_arrives 85 = .ok (.iload 7, 2) := by decide +kernel
theorem dL_arrives_87 : decode cL_arrives 87 = .ok (.imul, 1) := by decide +kernel
theorem dL_arrives_88 : decode cL_arrives 88 = .ok (.iconst 3, 1) := by decide +kernel
theorem dL_arrives_89 : decode cL_arrives 89 = .ok (.iadd, 1) := by decide +kernel
theorem dL_arrives_90 : decode cL_arrives 90 = .ok (.ishr, 1) := by decide +kernel
theorem dL_arrives_91 : decode cL_arrives 91 = .ok (.aload_n 1, 1) := by decide +kernel
theorem dL_arrives_92 : decode cL_arrives 92 = .ok (.iconst 0, 1) := by decide +kernel
theorem dL_arrives_93 : decode cL_arrives 93 = .ok (.iaload, 1) := by decide +kernel
theorem dL_arrives_94 : decode cL_arrives 94 = .ok (.invokestatic 15, 3) := by decide +kernel
theorem dL_arrives_97 : decode cL_arrives 97 = .ok (.istore 8, 2) := by decide +kernel
theorem dL_arrives_99 : decode cL_arrives 99 = .ok (.iload_n 2, 1) := by decide +kernel
theorem dL_arrives_100 : decode cL_arrives 100 = .ok (.bipush 12, 2) := by decide +kernel
theorem dL_arrives_102 : decode cL_arrives 102 = .ok (.iload 7, 2) := by decide +kernel
theorem dL_arrives_104 : decode cL_arrives 104 = .ok (.iadd, 1) := by decide +kernel
theorem dL_arrives_105 : decode cL_arrives 105 = .ok (.ishr, 1) := by decide +kernel
theorem dL_arrives_106 : decode cL_arrives 106 = .ok (.iconst 1, 1) := by decide +kernel
theorem dL_arrives_107 : decode cL_arrives 107 = .ok (.iand, 1) := by decide +kernel
theorem dL_arrives_108 : decode cL_arrives 108 = .ok (.istore 9, 2) := by decide +kernel
theorem dL_arrives_110 : decode cL_arrives 110 = .ok (.iload 5, 2) := by decide +kernel
theorem dL_arrives_112 : decode cL_arrives 112 = .ok (.aload_n 0, 1) := by decide +kernel
theorem dL_arrives_113 : decode cL_arrives 113 = .ok (.iload 4, 2) := by decide +kernel
theorem dL_arrives_115 : decode cL_arrives 115 = .ok (.iload 8, 2) := by decide +kernel
theorem dL_arrives_117 : decode cL_arrives 117 = .ok (.iload 9, 2) := by decide +kernel
theorem dL_arrives_119 : decode cL_arrives 119 = .ok (.invokevirtual 88, 3) := by decide +kernel
theorem dL_arrives_122 : decode cL_arrives 122 = .ok (.ifCond .lt 7, 3) := by decide +kernel
theorem dL_arrives_125 : decode cL_arrives 125 = .ok (.iconst 1, 1) := by decide +kernel
theorem dL_arrives_126 : decode cL_arrives 126 = .ok (.goto 4, 3) := by decide +kernel
theorem dL_arrives_129 : decode cL_arrives 129 = .ok (.iconst 0, 1) := by decide +kernel
theorem dL_arrives_130 : decode cL_arrives 130 = .ok (.iand, 1) := by decide +kernel
theorem dL_arrives_131 : decode cL_arrives 131 = .ok (.istore 5, 2) := by decide +kernel
theorem dL_arrives_133 : decode cL_arrives 133 = .ok (.iload 6, 2) := by decide +kernel
theorem dL_arrives_135 : decode cL_arrives 135 = .ok (.aload_n 0, 1) := by decide +kernel
theorem dL_arrives_136 : decode cL_arrives 136 = .ok (.iload 4, 2) := by decide +kernel
theorem dL_arrives_138 : decode cL_arrives 138 = .ok (.iload 8, 2) := by decide +kernel
theorem dL_arrives_140 : decode cL_arrives 140 = .ok (.iload 9, 2) := by decide +kernel
theorem dL_arrives_142 : decode cL_arrives 142 = .ok (.invokevirtual 88, 3) := by decide +kernel
theorem dL_arrives_145 : decode cL_arrives 145 = .ok (.iadd, 1) := by decide +kernel
theorem dL_arrives_146 : decode cL_arrives 146 = .ok (.istore 6, 2) := by decide +kernel
theorem dL_arrives_148 : decode cL_arrives 148 = .ok (.aload_n 0, 1) := by decide +kernel
theorem dL_arrives_149 : decode cL_arrives 149 = .ok (.iload 9, 2) := by decide +kernel
theorem dL_arrives_151 : decode cL_arrives 151 = .ok (.iload 8, 2) := by decide +kernel
theorem dL_arrives_153 : decode cL_arrives 153 = .ok (.invokevirtual 103, 3) := by decide +kernel
theorem dL_arrives_156 : decode cL_arrives 156 = .ok (.pop, 1) := by decide +kernel
theorem dL_arrives_157 : decode cL_arrives 157 = .ok (.iload 8, 2) := by decide +kernel
theorem dL_arrives_159 : decode cL_arrives 159 = .ok (.istore 4, 2) := by decide +kernel
theorem dL_arrives_161 : decode cL_arrives 161 = .ok (.iinc 7 1, 3) := by decide +kernel
theorem dL_arrives_164 : decode cL_arrives 164 = .ok (.goto (-87), 3) := by decide +kernel
theorem dL_arrives_167 : decode cL_arrives 167 = .ok (.aload_n 0, 1) := by decide +kernel
theorem dL_arrives_168 : decode cL_arrives 168 = .ok (.iload_n 3, 1) := by decide +kernel
theorem dL_arrives_169 : decode cL_arrives 169 = .ok (.invokevirtual 116, 3) := by decide +kernel
theorem dL_arrives_172 : decode cL_arrives 172 = .ok (.istore 7, 2) := by decide +kernel
theorem dL_arrives_174 : decode cL_arrives 174 = .ok (.iconst 0, 1) := by decide +kernel
theorem dL_arrives_175 : decode cL_arrives 175 = .ok (.istore 8, 2) := by decide +kernel
theorem dL_arrives_177 : decode cL_arrives 177 = .ok (.iload 8, 2) := by decide +kernel
theorem dL_arrives_179 : decode cL_arrives 179 = .ok (.aload_n 1, 1) := by decide +kernel
theorem dL_arrives_180 : decode cL_arrives 180 = .ok (.iconst 0, 1) := by decide +kernel
theorem dL_arrives_181 : decode cL_arrives 181 = .ok (.iaload, 1) := by decide +kernel
theorem dL_arrives_182 : decode cL_arrives 182 = .ok (.if_icmp .ge 30, 3) := by decide +kernel
theorem dL_arrives_185 : decode cL_arrives 185 = .ok (.aload_n 0, 1) := by decide +kernel
theorem dL_arrives_186 : decode cL_arrives 186 = .ok (.iload 8, 2) := by decide +kernel
theorem dL_arrives_188 : decode cL_arrives 188 = .ok (.invokevirtual 94, 3) := by decide +kernel
theorem dL_arrives_191 : decode cL_arrives 191 = .ok (.ifCond .ne 13, 3) := by decide +kernel
theorem dL_arrives_194 : decode cL_arrives 194 = .ok (.aload_n 0, 1) := by decide +kernel
theorem dL_arrives_195 : decode cL_arrives 195 = .ok (.iload 8, 2) := by decide +kernel
theorem dL_arrives_197 : decode cL_arrives 197 = .ok (.invokevirtual 97, 3) := by decide +kernel
theorem dL_arrives_200 : decode cL_arrives 200 = .ok (.iconst 1, 1) := by decide +kernel
theorem dL_arrives_201 : decode cL_arrives 201 = .ok (.if_icmp .eq 5, 3) := by decide +kernel
theorem dL_arrives_204 : decode cL_arrives 204 = .ok (.iconst 0, 1) := by decide +kernel
theorem dL_arrives_205 : decode cL_arrives 205 = .ok (.ireturn, 1) := by decide +kernel
theorem dL_arrives_206 : decode cL_arrives 206 = .ok (.iinc 8 1, 3) := by decide +kernel
theorem dL_arrives_209 : decode cL_arrives 209 = .ok (.goto (-32), 3) := by decide +kernel
theorem dL_arrives_212 : decode cL_arrives 212 = .ok (.iload 5, 2) := by decide +kernel
theorem dL_arrives_214 : decode cL_arrives 214 = .ok (.ifCond .eq 35, 3) := by decide +kernel
theorem dL_arrives_217 : decode cL_arrives 217 = .ok (.iload 7, 2) := by decide +kernel
theorem dL_arrives_219 : decode cL_arrives 219 = .ok (.iload 4, 2) := by decide +kernel
theorem dL_arrives_221 : decode cL_arrives 221 = .ok (.if_icmp .ne 13, 3) := by decide +kernel
theorem dL_arrives_224 : decode cL_arrives 224 = .ok (.aload_n 0, 1) := by decide +kernel
theorem dL_arrives_225 : decode cL_arrives 225 = .ok (.iconst (-1), 1) := by decide +kernel
theorem dL_arrives_226 : decode cL_arrives 226 = .ok (.invokevirtual 119, 3) := by decide +kernel
theorem dL_arrives_229 : decode cL_arrives 229 = .ok (.iload 6, 2) := by decide +kernel
theorem dL_arrives_231 : decode cL_arrives 231 = .ok (.if_icmp .le 10, 3) := by decide +kernel
theorem dL_arrives_234 : decode cL_arrives 234 = .ok (.iload 7, 2) := by decide +kernel
theorem dL_arrives_236 : decode cL_arrives 236 = .ok (.bipush (-14), 2) := by decide +kernel
theorem dL_arrives_238 : decode cL_arrives 238 = .ok (.if_icmp .ne 7, 3) := by decide +kernel
theorem dL_arrives_241 : decode cL_arrives 241 = .ok (.iconst 1, 1) := by decide +kernel
theorem dL_arrives_242 : decode cL_arrives 242 = .ok (.goto 19, 3) := by decide +kernel
theorem dL_arrives_245 : decode cL_arrives 245 = .ok (.iconst 0, 1) := by decide +kernel
theorem dL_arrives_246 : decode cL_arrives 246 = .ok (.goto 15, 3) := by decide +kernel
theorem dL_arrives_249 : decode cL_arrives 249 = .ok (.iload 7, 2) := by decide +kernel
theorem dL_arrives_251 : decode cL_arrives 251 = .ok (.bipush (-11), 2) := by decide +kernel
theorem dL_arrives_253 : decode cL_arrives 253 = .ok (.if_icmp .ne 7, 3) := by decide +kernel
theorem dL_arrives_256 : decode cL_arrives 256 = .ok (.iconst 1, 1) := by decide +kernel
theorem dL_arrives_257 : decode cL_arrives 257 = .ok (.goto 4, 3) := by decide +kernel
theorem dL_arrives_260 : decode cL_arrives 260 = .ok (.iconst 0, 1) := by decide +kernel
theorem dL_arrives_261 : decode cL_arrives 261 = .ok (.ireturn, 1) := by decide +kernel
theorem dL_law_0 : decode cL_law 0 = .ok (.new 20, 3) := by decide +kernel
theorem dL_law_3 : decode cL_law 3 = .ok (.dup, 1) := by decide +kernel
theorem dL_law_4 : decode cL_law 4 = .ok (.invokespecial 125, 3) := by decide +kernel
theorem dL_law_7 : decode cL_law 7 = .ok (.astore_n 1, 1) := by decide +kernel
theorem dL_law_8 : decode cL_law 8 = .ok (.bipush 64, 2) := by decide +kernel
theorem dL_law_10 : decode cL_law 10 = .ok (.newarray .int, 2) := by decide +kernel
theorem dL_law_12 : decode cL_law 12 = .ok (.astore_n 2, 1) := by decide +kernel
theorem dL_law_13 : decode cL_law 13 = .ok (.aload_n 1, 1) := by decide +kernel
theorem dL_law_14 : decode cL_law 14 = .ok (.invokevirtual 126, 3) := by decide +kernel
theorem dL_law_17 : decode cL_law 17 = .ok (.bipush (-4), 2) := by decide +kernel
theorem dL_law_19 : decode cL_law 19 = .ok (.if_icmp .ne 43, 3) := by decide +kernel
theorem dL_law_22 : decode cL_law 22 = .ok (.aload_n 1, 1) := by decide +kernel
theorem dL_law_23 : decode cL_law 23 = .ok (.iconst 0, 1) := by decide +kernel
theorem dL_law_24 : decode cL_law 24 = .ok (.invokevirtual 119, 3) := by decide +kernel
theorem dL_law_27 : decode cL_law 27 = .ok (.iconst (-1), 1) := by decide +kernel
theorem dL_law_28 : decode cL_law 28 = .ok (.if_icmp .ne 34, 3) := by decide +kernel
theorem dL_law_31 : decode cL_law 31 = .ok (.aload_n 1, 1) := by decide +kernel
theorem dL_law_32 : decode cL_law 32 = .ok (.invokestatic 129, 3) := by decide +kernel
theorem dL_law_35 : decode cL_law 35 = .ok (.ifCond .eq 27, 3) := by decide +kernel
theorem dL_law_38 : decode cL_law 38 = .ok (.aload_n 1, 1) := by decide +kernel
theorem dL_law_39 : decode cL_law 39 = .ok (.invokestatic 133, 3) := by decide +kernel
theorem dL_law_42 : decode cL_law 42 = .ok (.ifCond .eq 20, 3) := by decide +kernel
theorem dL_law_45 : decode cL_law 45 = .ok (.aload_n 1, 1) := by decide +kernel
theorem dL_law_46 : decode cL_law 46 = .ok (.invokestatic 136, 3) := by decide +kernel
theorem dL_law_49 : decode cL_law 49 = .ok (.ifCond .eq 13, 3) := by decide +kernel
theorem dL_law_52 : decode cL_law 52 = .ok (.aload_n 1, 1) := by decide +kernel
theorem dL_law_53 : decode cL_law 53 = .ok (.aload_n 2, 1) := by decide +kernel
theorem dL_law_54 : decode cL_law 54 = .ok (.aload_n 0, 1) := by decide +kernel
theorem dL_law_55 : decode cL_law 55 = .ok (.iconst 0, 1) := by decide +kernel
theorem dL_law_56 : decode cL_law 56 = .ok (.invokestatic 139, 3) := by decide +kernel
theorem dL_law_59 : decode cL_law 59 = .ok (.ifCond .ne 5, 3) := by decide +kernel
theorem dL_law_62 : decode cL_law 62 = .ok (.iconst 0, 1) := by decide +kernel
theorem dL_law_63 : decode cL_law 63 = .ok (.ireturn, 1) := by decide +kernel
theorem dL_law_64 : decode cL_law 64 = .ok (.iconst 0, 1) := by decide +kernel
theorem dL_law_65 : decode cL_law 65 = .ok (.istore_n 3, 1) := by decide +kernel
theorem dL_law_66 : decode cL_law 66 = .ok (.iconst 0, 1) := by decide +kernel
theorem dL_law_67 : decode cL_law 67 = .ok (.istore 4, 2) := by decide +kernel
theorem dL_law_69 : decode cL_law 69 = .ok (.iload 4, 2) := by decide +kernel
theorem dL_law_71 : decode cL_law 71 = .ok (.bipush 14, 2) := by decide +kernel
theorem dL_law_73 : decode cL_law 73 = .ok (.if_icmp .ge 417, 3) := by decide +kernel
theorem dL_law_76 : decode cL_law 76 = .ok (.aload_n 0, 1) := by decide +kernel
theorem dL_law_77 : decode cL_law 77 = .ok (.bipush 16, 2) := by decide +kernel
theorem dL_law_79 : decode cL_law 79 = .ok (.iload 4, 2) := by decide +kernel
theorem dL_law_81 : decode cL_law 81 = .ok (.iadd, 1) := by decide +kernel
theorem dL_law_82 : decode cL_law 82 = .ok (.invokestatic 9, 3) := by decide +kernel
theorem dL_law_85 : decode cL_law 85 = .ok (.istore 5, 2) := by decide +kernel
theorem dL_law_87 : decode cL_law 87 = .ok (.aload_n 1, 1) := by decide +kernel
theorem dL_law_88 : decode cL_law 88 = .ok (.invokestatic 68, 3) := by decide +kernel
theorem dL_law_91 : decode cL_law 91 = .ok (.lstore 6, 2) := by decide +kernel
theorem dL_law_93 : decode cL_law 93 = .ok (.iload 5, 2) := by decide +kernel
theorem dL_law_95 : decode cL_law 95 = .ok (.iconst 3, 1) := by decide +kernel
theorem dL_law_96 : decode cL_law 96 = .ok (.ishr, 1) := by decide +kernel
theorem dL_law_97 : decode cL_law 97 = .ok (.aload_n 2, 1) := by decide +kernel
theorem dL_law_98 : decode cL_law 98 = .ok (.iconst 0, 1) := by decide +kernel
theorem dL_law_99 : decode cL_law 99 = .ok (.iaload, 1) := by decide +kernel
theorem dL_law_100 : decode cL_law 100 = .ok (.invokestatic 15, 3) := by decide +kernel
theorem dL_law_103 : decode cL_law 103 = .ok (.istore 8, 2) := by decide +kernel
theorem dL_law_105 : decode cL_law 105 = .ok (.iload 5, 2) := by decide +kernel
theorem dL_law_107 : decode cL_law 107 = .ok (.bipush 6, 2) := by decide +kernel
theorem dL_law_109 : decode cL_law 109 = .ok (.ishr, 1) := by decide +kernel
theorem dL_law_110 : decode cL_law 110 = .ok (.aload_n 2, 1) := by decide +kernel
theorem dL_law_111 : decode cL_law 111 = .ok (.iconst 0, 1) := by decide +kernel
theorem dL_law_112 : decode cL_law 112 = .ok (.iaload, 1) := by decide +kernel
theorem dL_law_113 : decode cL_law 113 = .ok (.invokestatic 15, 3) := by decide +kernel
theorem dL_law_116 : decode cL_law 116 = .ok (.istore 9, 2) := by decide +kernel
theorem dL_law_118 : decode cL_law 118 = .ok (.iload 5, 2) := by decide +kernel
theorem dL_law_120 : decode cL_law 120 = .ok (.bipush 8, 2) := by decide +kernel
theorem dL_law_122 : decode cL_law 122 = .ok (.invokestatic 15, 3) := by decide +kernel
theorem dL_law_125 : decode cL_law 125 = .ok (.istore 10, 2) := by decide +kernel
theorem dL_law_127 : decode cL_law 127 = .ok (.iload 5, 2) := by decide +kernel
theorem dL_law_129 : decode cL_law 129 = .ok (.bipush 9, 2) := by decide +kernel
theorem dL_law_131 : decode cL_law 131 = .ok (.ishr, 1) := by decide +kernel
theorem dL_law_132 : decode cL_law 132 = .ok (.aload_n 2, 1) := by decide +kernel
theorem dL_law_133 : decode cL_law 133 = .ok (.iconst 1, 1) := by decide +kernel
theorem dL_law_134 : decode cL_law 134 = .ok (.iaload, 1) := by decide +kernel
theorem dL_law_135 : decode cL_law 135 = .ok (.iconst 1, 1) := by decide +kernel
theorem dL_law_136 : decode cL_law 136 = .ok (.iadd, 1) := by decide +kernel
theorem dL_law_137 : decode cL_law 137 = .ok (.invokestatic 15, 3) := by decide +kernel
theorem dL_law_140 : decode cL_law 140 = .ok (.istore 11, 2) := by decide +kernel
theorem dL_law_142 : decode cL_law 142 = .ok (.iload 10, 2) := by decide +kernel
theorem dL_law_144 : decode cL_law 144 = .ok (.iconst 2, 1) := by decide +kernel
theorem dL_law_145 : decode cL_law 145 = .ok (.if_icmp .ge 54, 3) := by decide +kernel
theorem dL_law_148 : decode cL_law 148 = .ok (.aload_n 1, 1) := by decide +kernel
theorem dL_law_149 : decode cL_law 149 = .ok (.iload 5, 2) := by decide +kernel
theorem dL_law_151 : decode cL_law 151 = .ok (.iconst 3, 1) := by decide +kernel
theorem dL_law_152 : decode cL_law 152 = .ok (.ishr, 1) := by decide +kernel
theorem dL_law_153 : decode cL_law 153 = .ok (.iconst 3, 1) := by decide +kernel
theorem dL_law_154 : decode cL_law 154 = .ok (.invokestatic 15, 3) := by decide +kernel
theorem dL_law_157 : decode cL_law 157 = .ok (.iload 5, 2) := by decide +kernel
theorem dL_law_159 : decode cL_law 159 = .ok (.bipush 9, 2) := by decide +kernel
theorem dL_law_161 : decode cL_law 161 = .ok (.ishr, 1) := by decide +kernel
theorem dL_law_162 : decode cL_law 162 = .ok (.bipush 8, 2) := by decide +kernel
theorem dL_law_164 : decode cL_law 164 = .ok (.invokestatic 15, 3) := by decide +kernel
theorem dL_law_167 : decode cL_law 167 = .ok (.invokevirtual 103, 3) := by decide +kernel
theorem dL_law_170 : decode cL_law 170 = .ok (.bipush (-5), 2) := by decide +kernel
theorem dL_law_172 : decode cL_law 172 = .ok (.if_icmp .lt 13, 3) := by decide +kernel
theorem dL_law_175 : decode cL_law 175 = .ok (.aload_n 1, 1) := by decide +kernel
theorem dL_law_176 : decode cL_law 176 = .ok (.iconst 4, 1) := by decide +kernel
theorem dL_law_177 : decode cL_law 177 = .ok (.invokevirtual 39, 3) := by decide +kernel
theorem dL_law_180 : decode cL_law 180 = .ok (.bipush 8, 2) := by decide +kernel
theorem dL_law_182 : decode cL_law 182 = .ok (.if_icmp .le 5, 3) := by decide +kernel
theorem dL_law_185 : decode cL_law 185 = .ok (.iconst 0, 1) := by decide +kernel
theorem dL_law_186 : decode cL_law 186 = .ok (.ireturn, 1) := by decide +kernel
theorem dL_law_187 : decode cL_law 187 = .ok (.aload_n 1, 1) := by decide +kernel
theorem dL_law_188 : decode cL_law 188 = .ok (.aload_n 2, 1) := by decide +kernel
theorem dL_law_189 : decode cL_law 189 = .ok (.iload 9, 2) := by decide +kernel
theorem dL_law_191 : decode cL_law 191 = .ok (.invokestatic 143, 3) := by decide +kernel
theorem dL_law_194 : decode cL_law 194 = .ok (.ifCond .ne 290, 3) := by decide +kernel
theorem dL_law_197 : decode cL_law 197 = .ok (.iconst 0, 1) := by decide +kernel
theorem dL_law_198 : decode cL_law 198 = .ok (.ireturn, 1) := by decide +kernel
theorem dL_law_199 : decode cL_law 199 = .ok (.iload 10, 2) := by decide +kernel
theorem dL_law_201 : decode cL_law 201 = .ok (.iconst 2, 1) := by decide +kernel
theorem dL_law_202 : decode cL_law 202 = .ok (.if_icmp .ne 85, 3) := by decide +kernel
theorem dL_law_205 : decode cL_law 205 = .ok (.aload_n 1, 1) := by decide +kernel
theorem dL_law_206 : decode cL_law 206 = .ok (.iload 8, 2) := by decide +kernel
theorem dL_law_208 : decode cL_law 208 = .ok (.invokevirtual 110, 3) := by decide +kernel
theorem dL_law_211 : decode cL_law 211 = .ok (.pop, 1) := by decide +kernel
theorem dL_law_212 : decode cL_law 212 = .ok (.aload_n 1, 1) := by decide +kernel
theorem dL_law_213 : decode cL_law 213 = .ok (.iload 9, 2) := by decide +kernel
theorem dL_law_215 : decode cL_law 215 = .ok (.invokevirtual 110, 3) := by decide +kernel
theorem dL_law_218 : decode cL_law 218 = .ok (.pop, 1) := by decide +kernel
theorem dL_law_219 : decode cL_law 219 = .ok (.aload_n 1, 1) := by decide +kernel
theorem dL_law_220 : decode cL_law 220 = .ok (.iload 9, 2) := by decide +kernel
theorem dL_law_222 : decode cL_law 222 = .ok (.iconst 1, 1) := by decide +kernel
theorem dL_law_223 : decode cL_law 223 = .ok (.iadd, 1) := by decide +kernel
theorem dL_law_224 : decode cL_law 224 = .ok (.aload_n 2, 1) := by decide +kernel
theorem dL_law_225 : decode cL_law 225 = .ok (.iconst 0, 1) := by decide +kernel
theorem dL_law_226 : decode cL_law 226 = .ok (.iaload, 1) := by decide +kernel
theorem dL_law_227 : decode cL_law 227 = .ok (.irem, 1) := by decide +kernel
theorem dL_law_228 : decode cL_law 228 = .ok (.invokevirtual 110, 3) := by decide +kernel
theorem dL_law_231 : decode cL_law 231 = .ok (.pop, 1) := by decide +kernel
theorem dL_law_232 : decode cL_law 232 = .ok (.aload_n 1, 1) := by decide +kernel
theorem dL_law_233 : decode cL_law 233 = .ok (.iconst (-1), 1) := by decide +kernel
theorem dL_law_234 : decode cL_law 234 = .ok (.invokevirtual 63, 3) := by decide +kernel
theorem dL_law_237 : decode cL_law 237 = .ok (.istore 12, 2) := by decide +kernel
theorem dL_law_239 : decode cL_law 239 = .ok (.iload 12, 2) := by decide +kernel
theorem dL_law_241 : decode cL_law 241 = .ok (.aload_n 1, 1) := by decide +kernel
theorem dL_law_242 : decode cL_law 242 = .ok (.iconst 5, 1) := by decide +kernel
theorem dL_law_243 : decode cL_law 243 = .ok (.invokevirtual 39, 3) := by decide +kernel
theorem dL_law_246 : decode cL_law 246 = .ok (.iconst 1, 1) := by decide +kernel
theorem dL_law_247 : decode cL_law 247 = .ok (.isub, 1) := by decide +kernel
theorem dL_law_248 : decode cL_law 248 = .ok (.if_icmp .gt 37, 3) := by decide +kernel
theorem dL_law_251 : decode cL_law 251 = .ok (.iload 12, 2) := by decide +kernel
theorem dL_law_253 : decode cL_law 253 = .ok (.ifCond .ne 12, 3) := by decide +kernel
theorem dL_law_256 : decode cL_law 256 = .ok (.aload_n 1, 1) := by decide +kernel
theorem dL_law_257 : decode cL_law 257 = .ok (.iconst 5, 1) := by decide +kernel
theorem dL_law_258 : decode cL_law 258 = .ok (.invokevirtual 39, 3) := by decide +kernel
theorem dL_law_261 : decode cL_law 261 = .ok (.iconst 1, 1) := by decide +kernel
theorem dL_law_262 : decode cL_law 262 = .ok (.if_icmp .gt 23, 3) := by decide +kernel
theorem dL_law_265 : decode cL_law 265 = .ok (.iload 5, 2) := by decide +kernel
theorem dL_law_267 : decode cL_law 267 = .ok (.bipush 12, 2) := by decide +kernel
theorem dL_law_269 : decode cL_law 269 = .ok (.ishr, 1) := by decide +kernel
theorem dL_law_270 : decode cL_law 270 = .ok (.iconst 3, 1) := by decide +kernel
theorem dL_law_271 : decode cL_law 271 = .ok (.invokestatic 15, 3) := by decide +kernel
theorem dL_law_274 : decode cL_law 274 = .ok (.ifCond .ne 210, 3) := by decide +kernel
theorem dL_law_277 : decode cL_law 277 = .ok (.aload_n 1, 1) := by decide +kernel
theorem dL_law_278 : decode cL_law 278 = .ok (.invokevirtual 147, 3) := by decide +kernel
theorem dL_law_281 : decode cL_law 281 = .ok (.iconst 1, 1) := by decide +kernel
theorem dL_law_282 : decode cL_law 282 = .ok (.if_icmp .ge 202, 3) := by decide +kernel
theorem dL_law_285 : decode cL_law 285 = .ok (.iconst 0, 1) := by decide +kernel
theorem dL_law_286 : decode cL_law 286 = .ok (.ireturn, 1) := by decide +kernel
theorem dL_law_287 : decode cL_law 287 = .ok (.iload 10, 2) := by decide +kernel
theorem dL_law_289 : decode cL_law 289 = .ok (.iconst 3, 1) := by decide +kernel
theorem dL_law_290 : decode cL_law 290 = .ok (.if_icmp .ne 12, 3) := by decide +kernel
theorem dL_law_293 : decode cL_law 293 = .ok (.aload_n 1, 1) := by decide +kernel
theorem dL_law_294 : decode cL_law 294 = .ok (.iload 11, 2) := by decide +kernel
theorem dL_law_296 : decode cL_law 296 = .ok (.invokevirtual 72, 3) := by decide +kernel
theorem dL_law_299 : decode cL_law 299 = .ok (.goto 82, 3) := by decide +kernel
theorem dL_law_302 : decode cL_law 302 = .ok (.iload 10, 2) := by decide +kernel
theorem dL_law_304 : decode cL_law 304 = .ok (.iconst 4, 1) := by decide +kernel
theorem dL_law_305 : decode cL_law 305 = .ok (.if_icmp .ne 12, 3) := by decide +kernel
theorem dL_law_308 : decode cL_law 308 = .ok (.aload_n 1, 1) := by decide +kernel
theorem dL_law_309 : decode cL_law 309 = .ok (.iload 11, 2) := by decide +kernel
theorem dL_law_311 : decode cL_law 311 = .ok (.invokevirtual 75, 3) := by decide +kernel
theorem dL_law_314 : decode cL_law 314 = .ok (.goto 67, 3) := by decide +kernel
theorem dL_law_317 : decode cL_law 317 = .ok (.iload 10, 2) := by decide +kernel
theorem dL_law_319 : decode cL_law 319 = .ok (.iconst 5, 1) := by decide +kernel
theorem dL_law_320 : decode cL_law 320 = .ok (.if_icmp .ne 34, 3) := by decide +kernel
theorem dL_law_323 : decode cL_law 323 = .ok (.aload_n 1, 1) := by decide +kernel
theorem dL_law_324 : decode cL_law 324 = .ok (.iload 11, 2) := by decide +kernel
theorem dL_law_326 : decode cL_law 326 = .ok (.iload 5, 2) := by decide +kernel
theorem dL_law_328 : decode cL_law 328 = .ok (.bipush 13, 2) := by decide +kernel
theorem dL_law_330 : decode cL_law 330 = .ok (.ishr, 1) := by decide +kernel
theorem dL_law_331 : decode cL_law 331 = .ok (.bipush 10, 2) := by decide +kernel
theorem dL_law_333 : decode cL_law 333 = .ok (.invokestatic 15, 3) := by decide +kernel
theorem dL_law_336 : decode cL_law 336 = .ok (.iconst 1, 1) := by decide +kernel
theorem dL_law_337 : decode cL_law 337 = .ok (.iload 5, 2) := by decide +kernel
theorem dL_law_339 : decode cL_law 339 = .ok (.bipush 17, 2) := by decide +kernel
theorem dL_law_341 : decode cL_law 341 = .ok (.ishr, 1) := by decide +kernel
theorem dL_law_342 : decode cL_law 342 = .ok (.bipush 9, 2) := by decide +kernel
theorem dL_law_344 : decode cL_law 344 = .ok (.invokestatic 15, 3) := by decide +kernel
theorem dL_law_347 : decode cL_law 347 = .ok (.iadd, 1) := by decide +kernel
theorem dL_law_348 : decode cL_law 348 = .ok (.invokevirtual 78, 3) := by decide +kernel
theorem dL_law_351 : decode cL_law 351 = .ok (.goto 30, 3) := by decide +kernel
theorem dL_law_354 : decode cL_law 354 = .ok (.iload 10, 2) := by decide +kernel
theorem dL_law_356 : decode cL_law 356 = .ok (.bipush 6, 2) := by decide +kernel
theorem dL_law_358 : decode cL_law 358 = .ok (.if_icmp .ne 12, 3) := by decide +kernel
theorem dL_law_361 : decode cL_law 361 = .ok (.aload_n 1, 1) := by decide +kernel
theorem dL_law_362 : decode cL_law 362 = .ok (.iload 8, 2) := by decide +kernel
theorem dL_law_364 : decode cL_law 364 = .ok (.invokevirtual 82, 3) := by decide +kernel
theorem dL_law_367 : decode cL_law 367 = .ok (.goto 14, 3) := by decide +kernel
theorem dL_law_370 : decode cL_law 370 = .ok (.aload_n 1, 1) := by decide +kernel
theorem dL_law_371 : decode cL_law 371 = .ok (.iload 5, 2) := by decide +kernel
theorem dL_law_373 : decode cL_law 373 = .ok (.bipush 13, 2) := by decide +kernel
theorem dL_law_375 : decode cL_law 375 = .ok (.ishr, 1) := by decide +kernel
theorem dL_law_376 : decode cL_law 376 = .ok (.iconst 1, 1) := by decide +kernel
theorem dL_law_377 : decode cL_law 377 = .ok (.iand, 1) := by decide +kernel
theorem dL_law_378 : decode cL_law 378 = .ok (.invokevirtual 113, 3) := by decide +kernel
theorem dL_law_381 : decode cL_law 381 = .ok (.istore 12, 2) := by decide +kernel
theorem dL_law_383 : decode cL_law 383 = .ok (.iload 10, 2) := by decide +kernel
theorem dL_law_385 : decode cL_law 385 = .ok (.bipush 7, 2) := by decide +kernel
theorem dL_law_387 : decode cL_law 387 = .ok (.if_icmp .ne 6, 3) := by decide +kernel
theorem dL_law_390 : decode cL_law 390 = .ok (.goto 94, 3) := by decide +kernel
theorem dL_law_393 : decode cL_law 393 = .ok (.iload 12, 2) := by decide +kernel
theorem dL_law_395 : decode cL_law 395 = .ok (.ifCond .ge 7, 3) := by decide +kernel
theorem dL_law_398 : decode cL_law 398 = .ok (.iload_n 3, 1) := by decide +kernel
theorem dL_law_399 : decode cL_law 399 = .ok (.goto 17, 3) := by decide +kernel
theorem dL_law_402 : decode cL_law 402 = .ok (.iload_n 3, 1) := by decide +kernel
theorem dL_law_403 : decode cL_law 403 = .ok (.bipush 8, 2) := by decide +kernel
theorem dL_law_405 : decode cL_law 405 = .ok (.if_icmp .ge 9, 3) := by decide +kernel
theorem dL_law_408 : decode cL_law 408 = .ok (.iload_n 3, 1) := by decide +kernel
theorem dL_law_409 : decode cL_law 409 = .ok (.iconst 1, 1) := by decide +kernel
theorem dL_law_410 : decode cL_law 410 = .ok (.iadd, 1) := by decide +kernel
theorem dL_law_411 : decode cL_law 411 = .ok (.goto 5, 3) := by decide +kernel
theorem dL_law_414 : decode cL_law 414 = .ok (.bipush 8, 2) := by decide +kernel
theorem dL_law_416 : decode cL_law 416 = .ok (.istore_n 3, 1) := by decide +kernel
theorem dL_law_417 : decode cL_law 417 = .ok (.aload_n 1, 1) := by decide +kernel
theorem dL_law_418 : decode cL_law 418 = .ok (.bipush 11, 2) := by decide +kernel
theorem dL_law_420 : decode cL_law 420 = .ok (.invokevirtual 39, 3) := by decide +kernel
theorem dL_law_423 : decode cL_law 423 = .ok (.iload_n 3, 1) := by decide +kernel
theorem dL_law_424 : decode cL_law 424 = .ok (.if_icmp .ne 18, 3) := by decide +kernel
theorem dL_law_427 : decode cL_law 427 = .ok (.iload 12, 2) := by decide +kernel
theorem dL_law_429 : decode cL_law 429 = .ok (.ifCond .ge 15, 3) := by decide +kernel
theorem dL_law_432 : decode cL_law 432 = .ok (.aload_n 1, 1) := by decide +kernel
theorem dL_law_433 : decode cL_law 433 = .ok (.invokestatic 68, 3) := by decide +kernel
theorem dL_law_436 : decode cL_law 436 = .ok (.lload 6, 2) := by decide +kernel
theorem dL_law_438 : decode cL_law 438 = .ok (.lcmp, 1) := by decide +kernel
theorem dL_law_439 : decode cL_law 439 = .ok (.ifCond .eq 5, 3) := by decide +kernel
theorem dL_law_442 : decode cL_law 442 = .ok (.iconst 0, 1) := by decide +kernel
theorem dL_law_443 : decode cL_law 443 = .ok (.ireturn, 1) := by decide +kernel
theorem dL_law_444 : decode cL_law 444 = .ok (.iload 12, 2) := by decide +kernel
theorem dL_law_446 : decode cL_law 446 = .ok (.ifCond .lt 38, 3) := by decide +kernel
theorem dL_law_449 : decode cL_law 449 = .ok (.iload 5, 2) := by decide +kernel
theorem dL_law_451 : decode cL_law 451 = .ok (.bipush 20, 2) := by decide +kernel
theorem dL_law_453 : decode cL_law 453 = .ok (.ishr, 1) := by decide +kernel
theorem dL_law_454 : decode cL_law 454 = .ok (.iconst 3, 1) := by decide +kernel
theorem dL_law_455 : decode cL_law 455 = .ok (.invokestatic 15, 3) := by decide +kernel
theorem dL_law_458 : decode cL_law 458 = .ok (.ifCond .ne 26, 3) := by decide +kernel
theorem dL_law_461 : decode cL_law 461 = .ok (.iinc 3 (-1), 3) := by decide +kernel
theorem dL_law_464 : decode cL_law 464 = .ok (.aload_n 1, 1) := by decide +kernel
theorem dL_law_465 : decode cL_law 465 = .ok (.invokevirtual 126, 3) := by decide +kernel
theorem dL_law_468 : decode cL_law 468 = .ok (.iload_n 3, 1) := by decide +kernel
theorem dL_law_469 : decode cL_law 469 = .ok (.if_icmp .ne 13, 3) := by decide +kernel
theorem dL_law_472 : decode cL_law 472 = .ok (.aload_n 1, 1) := by decide +kernel
theorem dL_law_473 : decode cL_law 473 = .ok (.invokestatic 68, 3) := by decide +kernel
theorem dL_law_476 : decode cL_law 476 = .ok (.lload 6, 2) := by decide +kernel
theorem dL_law_478 : decode cL_law 478 = .ok (.lcmp, 1) := by decide +kernel
theorem dL_law_479 : decode cL_law 479 = .ok (.ifCond .eq 5, 3) := by decide +kernel
theorem dL_law_482 : decode cL_law 482 = .ok (.iconst 0, 1) := by decide +kernel
theorem dL_law_483 : decode cL_law 483 = .ok (.ireturn, 1) := by decide +kernel
theorem dL_law_484 : decode cL_law 484 = .ok (.iinc 4 1, 3) := by decide +kernel
theorem dL_law_487 : decode cL_law 487 = .ok (.goto (-418), 3) := by decide +kernel
theorem dL_law_490 : decode cL_law 490 = .ok (.aload_n 1, 1) := by decide +kernel
theorem dL_law_491 : decode cL_law 491 = .ok (.invokestatic 133, 3) := by decide +kernel
theorem dL_law_494 : decode cL_law 494 = .ok (.ifCond .eq 39, 3) := by decide +kernel
theorem dL_law_497 : decode cL_law 497 = .ok (.aload_n 1, 1) := by decide +kernel
theorem dL_law_498 : decode cL_law 498 = .ok (.invokestatic 129, 3) := by decide +kernel
theorem dL_law_501 : decode cL_law 501 = .ok (.ifCond .eq 32, 3) := by decide +kernel
theorem dL_law_504 : decode cL_law 504 = .ok (.aload_n 1, 1) := by decide +kernel
theorem dL_law_505 : decode cL_law 505 = .ok (.aload_n 2, 1) := by decide +kernel
theorem dL_law_506 : decode cL_law 506 = .ok (.aload_n 0, 1) := by decide +kernel
theorem dL_law_507 : decode cL_law 507 = .ok (.bipush 30, 2) := by decide +kernel
theorem dL_law_509 : decode cL_law 509 = .ok (.invokestatic 9, 3) := by decide +kernel
theorem dL_law_512 : decode cL_law 512 = .ok (.aload_n 2, 1) := by decide +kernel
theorem dL_law_513 : decode cL_law 513 = .ok (.iconst 0, 1) := by decide +kernel
theorem dL_law_514 : decode cL_law 514 = .ok (.iaload, 1) := by decide +kernel
theorem dL_law_515 : decode cL_law 515 = .ok (.invokestatic 15, 3) := by decide +kernel
theorem dL_law_518 : decode cL_law 518 = .ok (.invokestatic 143, 3) := by decide +kernel
theorem dL_law_521 : decode cL_law 521 = .ok (.ifCond .eq 12, 3) := by decide +kernel
theorem dL_law_524 : decode cL_law 524 = .ok (.aload_n 1, 1) := by decide +kernel
theorem dL_law_525 : decode cL_law 525 = .ok (.aload_n 2, 1) := by decide +kernel
theorem dL_law_526 : decode cL_law 526 = .ok (.iconst 0, 1) := by decide +kernel
theorem dL_law_527 : decode cL_law 527 = .ok (.invokestatic 143, 3) := by decide +kernel
theorem dL_law_530 : decode cL_law 530 = .ok (.ifCond .ne 5, 3) := by decide +kernel
theorem dL_law_533 : decode cL_law 533 = .ok (.iconst 0, 1) := by decide +kernel
theorem dL_law_534 : decode cL_law 534 = .ok (.ireturn, 1) := by decide +kernel
theorem dL_law_535 : decode cL_law 535 = .ok (.aload_n 1, 1) := by decide +kernel
theorem dL_law_536 : decode cL_law 536 = .ok (.iconst (-1), 1) := by decide +kernel
theorem dL_law_537 : decode cL_law 537 = .ok (.invokevirtual 100, 3) := by decide +kernel
theorem dL_law_540 : decode cL_law 540 = .ok (.istore 4, 2) := by decide +kernel
theorem dL_law_542 : decode cL_law 542 = .ok (.iconst 0, 1) := by decide +kernel
theorem dL_law_543 : decode cL_law 543 = .ok (.istore 5, 2) := by decide +kernel
theorem dL_law_545 : decode cL_law 545 = .ok (.iload 5, 2) := by decide +kernel
theorem dL_law_547 : decode cL_law 547 = .ok (.iload 4, 2) := by decide +kernel
theorem dL_law_549 : decode cL_law 549 = .ok (.if_icmp .ge 79, 3) := by decide +kernel
theorem dL_law_552 : decode cL_law 552 = .ok (.aload_n 1, 1) := by decide +kernel
theorem dL_law_553 : decode cL_law 553 = .ok (.aload_n 1, 1) := by decide +kernel
theorem dL_law_554 : decode cL_law 554 = .ok (.iconst 0, 1) := by decide +kernel
theorem dL_law_555 : decode cL_law 555 = .ok (.invokevirtual 100, 3) := by decide +kernel
theorem dL_law_558 : decode cL_law 558 = .ok (.invokevirtual 97, 3) := by decide +kernel
theorem dL_law_561 : decode cL_law 561 = .ok (.iconst 1, 1) := by decide +kernel
theorem dL_law_562 : decode cL_law 562 = .ok (.if_icmp .ne 30, 3) := by decide +kernel
theorem dL_law_565 : decode cL_law 565 = .ok (.aload_n 1, 1) := by decide +kernel
theorem dL_law_566 : decode cL_law 566 = .ok (.aload_n 1, 1) := by decide +kernel
theorem dL_law_567 : decode cL_law 567 = .ok (.iconst 0, 1) := by decide +kernel
theorem dL_law_568 : decode cL_law 568 = .ok (.invokevirtual 100, 3) := by decide +kernel
theorem dL_law_571 : decode cL_law 571 = .ok (.invokevirtual 82, 3) := by decide +kernel
theorem dL_law_574 : decode cL_law 574 = .ok (.ifCond .lt 18, 3) := by decide +kernel
theorem dL_law_577 : decode cL_law 577 = .ok (.aload_n 1, 1) := by decide +kernel
theorem dL_law_578 : decode cL_law 578 = .ok (.iconst (-1), 1) := by decide +kernel
theorem dL_law_579 : decode cL_law 579 = .ok (.invokevirtual 100, 3) := by decide +kernel
theorem dL_law_582 : decode cL_law 582 = .ok (.iload 4, 2) := by decide +kernel
theorem dL_law_584 : decode cL_law 584 = .ok (.iconst 1, 1) := by decide +kernel
theorem dL_law_585 : decode cL_law 585 = .ok (.isub, 1) := by decide +kernel
theorem dL_law_586 : decode cL_law 586 = .ok (.iload 5, 2) := by decide +kernel
theorem dL_law_588 : decode cL_law 588 = .ok (.isub, 1) := by decide +kernel
theorem dL_law_589 : decode cL_law 589 = .ok (.if_icmp .eq 5, 3) := by decide +kernel
theorem dL_law_592 : decode cL_law 592 = .ok (.iconst 0, 1) := by decide +kernel
theorem dL_law_593 : decode cL_law 593 = .ok (.ireturn, 1) := by decide +kernel
theorem dL_law_594 : decode cL_law 594 = .ok (.iconst 0, 1) := by decide +kernel
theorem dL_law_595 : decode cL_law 595 = .ok (.istore 6, 2) := by decide +kernel
theorem dL_law_597 : decode cL_law 597 = .ok (.iload 6, 2) := by decide +kernel
theorem dL_law_599 : decode cL_law 599 = .ok (.aload_n 2, 1) := by decide +kernel
theorem dL_law_600 : decode cL_law 600 = .ok (.iconst 0, 1) := by decide +kernel
theorem dL_law_601 : decode cL_law 601 = .ok (.iaload, 1) := by decide +kernel
theorem dL_law_602 : decode cL_law 602 = .ok (.if_icmp .ge 20, 3) := by decide +kernel
theorem dL_law_605 : decode cL_law 605 = .ok (.aload_n 1, 1) := by decide +kernel
theorem dL_law_606 : decode cL_law 606 = .ok (.iload 6, 2) := by decide +kernel
theorem dL_law_608 : decode cL_law 608 = .ok (.invokevirtual 94, 3) := by decide +kernel
theorem dL_law_611 : decode cL_law 611 = .ok (.ifCond .eq 5, 3) := by decide +kernel
theorem dL_law_614 : decode cL_law 614 = .ok (.iconst 0, 1) := by decide +kernel
theorem dL_law_615 : decode cL_law 615 = .ok (.ireturn, 1) := by decide +kernel
theorem dL_law_616 : decode cL_law 616 = .ok (.iinc 6 1, 3) := by decide +kernel
theorem dL_law_619 : decode cL_law 619 = .ok (.goto (-22), 3) := by decide +kernel
theorem dL_law_622 : decode cL_law 622 = .ok (.iinc 5 1, 3) := by decide +kernel
theorem dL_law_625 : decode cL_law 625 = .ok (.goto (-80), 3) := by decide +kernel
theorem dL_law_628 : decode cL_law 628 = .ok (.aload_n 1, 1) := by decide +kernel
theorem dL_law_629 : decode cL_law 629 = .ok (.aload_n 2, 1) := by decide +kernel
theorem dL_law_630 : decode cL_law 630 = .ok (.aload_n 0, 1) := by decide +kernel
theorem dL_law_631 : decode cL_law 631 = .ok (.bipush 31, 2) := by decide +kernel
theorem dL_law_633 : decode cL_law 633 = .ok (.invokestatic 9, 3) := by decide +kernel
theorem dL_law_636 : decode cL_law 636 = .ok (.invokestatic 150, 3) := by decide +kernel
theorem dL_law_639 : decode cL_law 639 = .ok (.ifCond .eq 17, 3) := by decide +kernel
theorem dL_law_642 : decode cL_law 642 = .ok (.aload_n 1, 1) := by decide +kernel
theorem dL_law_643 : decode cL_law 643 = .ok (.aload_n 2, 1) := by decide +kernel
theorem dL_law_644 : decode cL_law 644 = .ok (.aload_n 0, 1) := by decide +kernel
theorem dL_law_645 : decode cL_law 645 = .ok (.bipush 32, 2) := by decide +kernel
theorem dL_law_647 : decode cL_law 647 = .ok (.invokestatic 9, 3) := by decide +kernel
theorem dL_law_650 : decode cL_law 650 = .ok (.invokestatic 150, 3) := by decide +kernel
theorem dL_law_653 : decode cL_law 653 = .ok (.ifCond .ne 5, 3) := by decide +kernel
theorem dL_law_656 : decode cL_law 656 = .ok (.iconst 0, 1) := by decide +kernel
theorem dL_law_657 : decode cL_law 657 = .ok (.ireturn, 1) := by decide +kernel
theorem dL_law_658 : decode cL_law 658 = .ok (.aload_n 1, 1) := by decide +kernel
theorem dL_law_659 : decode cL_law 659 = .ok (.bipush 11, 2) := by decide +kernel
theorem dL_law_661 : decode cL_law 661 = .ok (.invokevirtual 39, 3) := by decide +kernel
theorem dL_law_664 : decode cL_law 664 = .ok (.ifCond .le 12, 3) := by decide +kernel
theorem dL_law_667 : decode cL_law 667 = .ok (.aload_n 1, 1) := by decide +kernel
theorem dL_law_668 : decode cL_law 668 = .ok (.invokevirtual 126, 3) := by decide +kernel
theorem dL_law_671 : decode cL_law 671 = .ok (.ifCond .ge (-13), 3) := by decide +kernel
theorem dL_law_674 : decode cL_law 674 = .ok (.iconst 0, 1) := by decide +kernel
theorem dL_law_675 : decode cL_law 675 = .ok (.ireturn, 1) := by decide +kernel
theorem dL_law_676 : decode cL_law 676 = .ok (.aload_n 1, 1) := by decide +kernel
theorem dL_law_677 : decode cL_law 677 = .ok (.invokevirtual 126, 3) := by decide +kernel
theorem dL_law_680 : decode cL_law 680 = .ok (.bipush (-4), 2) := by decide +kernel
theorem dL_law_682 : decode cL_law 682 = .ok (.if_icmp .eq 5, 3) := by decide +kernel
theorem dL_law_685 : decode cL_law 685 = .ok (.iconst 0, 1) := by decide +kernel
theorem dL_law_686 : decode cL_law 686 = .ok (.ireturn, 1) := by decide +kernel
theorem dL_law_687 : decode cL_law 687 = .ok (.aload_n 1, 1) := by decide +kernel
theorem dL_law_688 : decode cL_law 688 = .ok (.bipush 110, 2) := by decide +kernel
theorem dL_law_690 : decode cL_law 690 = .ok (.bipush 111, 2) := by decide +kernel
theorem dL_law_692 : decode cL_law 692 = .ok (.bipush 100, 2) := by decide +kernel
theorem dL_law_694 : decode cL_law 694 = .ok (.bipush 101, 2) := by decide +kernel
theorem dL_law_696 : decode cL_law 696 = .ok (.invokestatic 25, 3) := by decide +kernel
theorem dL_law_699 : decode cL_law 699 = .ok (.aload_n 1, 1) := by decide +kernel
theorem dL_law_700 : decode cL_law 700 = .ok (.bipush 115, 2) := by decide +kernel
theorem dL_law_702 : decode cL_law 702 = .ok (.bipush 48, 2) := by decide +kernel
theorem dL_law_704 : decode cL_law 704 = .ok (.aload_n 2, 1) := by decide +kernel
theorem dL_law_705 : decode cL_law 705 = .ok (.iconst 0, 1) := by decide +kernel
theorem dL_law_706 : decode cL_law 706 = .ok (.iaload, 1) := by decide +kernel
theorem dL_law_707 : decode cL_law 707 = .ok (.iadd, 1) := by decide +kernel
theorem dL_law_708 : decode cL_law 708 = .ok (.bipush 32, 2) := by decide +kernel
theorem dL_law_710 : decode cL_law 710 = .ok (.bipush 32, 2) := by decide +kernel
theorem dL_law_712 : decode cL_law 712 = .ok (.invokestatic 25, 3) := by decide +kernel
theorem dL_law_715 : decode cL_law 715 = .ok (.aload_n 1, 1) := by decide +kernel
theorem dL_law_716 : decode cL_law 716 = .ok (.invokevirtual 36, 3) := by decide +kernel
theorem dL_law_719 : decode cL_law 719 = .ok (.iconst 1, 1) := by decide +kernel
theorem dL_law_720 : decode cL_law 720 = .ok (.if_icmp .ne 97, 3) := by decide +kernel
theorem dL_law_723 : decode cL_law 723 = .ok (.aload_n 1, 1) := by decide +kernel
theorem dL_law_724 : decode cL_law 724 = .ok (.iconst 0, 1) := by decide +kernel
theorem dL_law_725 : decode cL_law 725 = .ok (.invokevirtual 39, 3) := by decide +kernel
theorem dL_law_728 : decode cL_law 728 = .ok (.aload_n 2, 1) := by decide +kernel
theorem dL_law_729 : decode cL_law 729 = .ok (.iconst 0, 1) := by decide +kernel
theorem dL_law_730 : decode cL_law 730 = .ok (.iaload, 1) := by decide +kernel
theorem dL_law_731 : decode cL_law 731 = .ok (.if_icmp .ne 86, 3) := by decide +kernel
theorem dL_law_734 : decode cL_law 734 = .ok (.aload_n 1, 1) := by decide +kernel
theorem dL_law_735 : decode cL_law 735 = .ok (.iconst 1, 1) := by decide +kernel
theorem dL_law_736 : decode cL_law 736 = .ok (.invokevirtual 39, 3) := by decide +kernel
theorem dL_law_739 : decode cL_law 739 = .ok (.ifCond .ne 78, 3) := by decide +kernel
theorem dL_law_742 : decode cL_law 742 = .ok (.aload_n 1, 1) := by decide +kernel
theorem dL_law_743 : decode cL_law 743 = .ok (.iconst 4, 1) := by decide +kernel
theorem dL_law_744 : decode cL_law 744 = .ok (.invokevirtual 39, 3) := by decide +kernel
theorem dL_law_747 : decode cL_law 747 = .ok (.ifCond .ne 70, 3) := by decide +kernel
theorem dL_law_750 : decode cL_law 750 = .ok (.aload_n 1, 1) := by decide +kernel
theorem dL_law_751 : decode cL_law 751 = .ok (.iconst 5, 1) := by decide +kernel
theorem dL_law_752 : decode cL_law 752 = .ok (.invokevirtual 39, 3) := by decide +kernel
theorem dL_law_755 : decode cL_law 755 = .ok (.ifCond .ne 62, 3) := by decide +kernel
theorem dL_law_758 : decode cL_law 758 = .ok (.aload_n 1, 1) := by decide +kernel
theorem dL_law_759 : decode cL_law 759 = .ok (.bipush 6, 2) := by decide +kernel
theorem dL_law_761 : decode cL_law 761 = .ok (.invokevirtual 39, 3) := by decide +kernel
theorem dL_law_764 : decode cL_law 764 = .ok (.ifCond .ne 53, 3) := by decide +kernel
theorem dL_law_767 : decode cL_law 767 = .ok (.aload_n 1, 1) := by decide +kernel
theorem dL_law_768 : decode cL_law 768 = .ok (.bipush 7, 2) := by decide +kernel
theorem dL_law_770 : decode cL_law 770 = .ok (.invokevirtual 39, 3) := by decide +kernel
theorem dL_law_773 : decode cL_law 773 = .ok (.ifCond .ne 44, 3) := by decide +kernel
theorem dL_law_776 : decode cL_law 776 = .ok (.aload_n 1, 1) := by decide +kernel
theorem dL_law_777 : decode cL_law 777 = .ok (.bipush 13, 2) := by decide +kernel
theorem dL_law_779 : decode cL_law 779 = .ok (.invokevirtual 39, 3) := by decide +kernel
theorem dL_law_782 : decode cL_law 782 = .ok (.ifCond .ne 35, 3) := by decide +kernel
theorem dL_law_785 : decode cL_law 785 = .ok (.aload_n 1, 1) := by decide +kernel
theorem dL_law_786 : decode cL_law 786 = .ok (.iconst (-1), 1) := by decide +kernel
theorem dL_law_787 : decode cL_law 787 = .ok (.invokevirtual 119, 3) := by decide +kernel
theorem dL_law_790 : decode cL_law 790 = .ok (.iconst (-1), 1) := by decide +kernel
theorem dL_law_791 : decode cL_law 791 = .ok (.if_icmp .ne 26, 3) := by decide +kernel
theorem dL_law_794 : decode cL_law 794 = .ok (.aload_n 1, 1) := by decide +kernel
theorem dL_law_795 : decode cL_law 795 = .ok (.iconst 0, 1) := by decide +kernel
theorem dL_law_796 : decode cL_law 796 = .ok (.invokevirtual 55, 3) := by decide +kernel
theorem dL_law_799 : decode cL_law 799 = .ok (.ifCond .ne 18, 3) := by decide +kernel
theorem dL_law_802 : decode cL_law 802 = .ok (.aload_n 1, 1) := by decide +kernel
theorem dL_law_803 : decode cL_law 803 = .ok (.iconst 0, 1) := by decide +kernel
theorem dL_law_804 : decode cL_law 804 = .ok (.iconst 0, 1) := by decide +kernel
theorem dL_law_805 : decode cL_law 805 = .ok (.invokevirtual 52, 3) := by decide +kernel
theorem dL_law_808 : decode cL_law 808 = .ok (.bipush (-2), 2) := by decide +kernel
theorem dL_law_810 : decode cL_law 810 = .ok (.if_icmp .ne 7, 3) := by decide +kernel
theorem dL_law_813 : decode cL_law 813 = .ok (.iconst 1, 1) := by decide +kernel
theorem dL_law_814 : decode cL_law 814 = .ok (.goto 4, 3) := by decide +kernel
theorem dL_law_817 : decode cL_law 817 = .ok (.iconst 0, 1) := by decide +kernel
theorem dL_law_818 : decode cL_law 818 = .ok (.ireturn, 1) := by decide +kernel
