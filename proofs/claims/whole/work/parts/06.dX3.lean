theorem dX3_init_0 : decode cX3_init 0 = .ok (.aload_n 0, 1) := by decide +kernel
theorem dX3_init_1 : decode cX3_init 1 = .ok (.invokespecial 3, 3) := by decide +kernel
theorem dX3_init_4 : decode cX3_init 4 = .ok (.aload_n 0, 1) := by decide +kernel
theorem dX3_init_5 : decode cX3_init 5 = .ok (.sipush 500, 3) := by decide +kernel
theorem dX3_init_8 : decode cX3_init 8 = .ok (.putfield 9, 3) := by decide +kernel
theorem dX3_init_11 : decode cX3_init 11 = .ok (.aload_n 0, 1) := by decide +kernel
theorem dX3_init_12 : decode cX3_init 12 = .ok (.iconst 1, 1) := by decide +kernel
theorem dX3_init_13 : decode cX3_init 13 = .ok (.putfield 13, 3) := by decide +kernel
theorem dX3_init_16 : decode cX3_init 16 = .ok (.aload_n 0, 1) := by decide +kernel
theorem dX3_init_17 : decode cX3_init 17 = .ok (.bipush 39, 2) := by decide +kernel
theorem dX3_init_19 : decode cX3_init 19 = .ok (.newarray .int, 2) := by decide +kernel
theorem dX3_init_21 : decode cX3_init 21 = .ok (.putfield 16, 3) := by decide +kernel
theorem dX3_init_24 : decode cX3_init 24 = .ok (.aload_n 0, 1) := by decide +kernel
theorem dX3_init_25 : decode cX3_init 25 = .ok (.sipush 174, 3) := by decide +kernel
theorem dX3_init_28 : decode cX3_init 28 = .ok (.newarray .int, 2) := by decide +kernel
theorem dX3_init_30 : decode cX3_init 30 = .ok (.putfield 20, 3) := by decide +kernel
theorem dX3_init_33 : decode cX3_init 33 = .ok (.aload_n 0, 1) := by decide +kernel
theorem dX3_init_34 : decode cX3_init 34 = .ok (.sipush 174, 3) := by decide +kernel
theorem dX3_init_37 : decode cX3_init 37 = .ok (.newarray .int, 2) := by decide +kernel
theorem dX3_init_39 : decode cX3_init 39 = .ok (.putfield 23, 3) := by decide +kernel
theorem dX3_init_42 : decode cX3_init 42 = .ok (.aload_n 0, 1) := by decide +kernel
theorem dX3_init_43 : decode cX3_init 43 = .ok (.getfield 16, 3) := by decide +kernel
theorem dX3_init_46 : decode cX3_init 46 = .ok (.iconst 2, 1) := by decide +kernel
theorem dX3_init_47 : decode cX3_init 47 = .ok (.iconst 2, 1) := by decide +kernel
theorem dX3_init_48 : decode cX3_init 48 = .ok (.iastore, 1) := by decide +kernel
theorem dX3_init_49 : decode cX3_init 49 = .ok (.return_, 1) := by decide +kernel
theorem dX3_thrown_0 : decode cX3_thrown 0 = .ok (.aload_n 0, 1) := by decide +kernel
theorem dX3_thrown_1 : decode cX3_thrown 1 = .ok (.getfield 26, 3) := by decide +kernel
theorem dX3_thrown_4 : decode cX3_thrown 4 = .ok (.ireturn, 1) := by decide +kernel
theorem dX3_fail_0 : decode cX3_fail 0 = .ok (.aload_n 0, 1) := by decide +kernel
theorem dX3_fail_1 : decode cX3_fail 1 = .ok (.iload_n 1, 1) := by decide +kernel
theorem dX3_fail_2 : decode cX3_fail 2 = .ok (.putfield 26, 3) := by decide +kernel
theorem dX3_fail_5 : decode cX3_fail 5 = .ok (.iconst 0, 1) := by decide +kernel
theorem dX3_fail_6 : decode cX3_fail 6 = .ok (.ireturn, 1) := by decide +kernel
theorem dX3_isIn_0 : decode cX3_isIn 0 = .ok (.iload_n 0, 1) := by decide +kernel
theorem dX3_isIn_1 : decode cX3_isIn 1 = .ok (.iload_n 1, 1) := by decide +kernel
theorem dX3_isIn_2 : decode cX3_isIn 2 = .ok (.if_icmp .lt 12, 3) := by decide +kernel
theorem dX3_isIn_5 : decode cX3_isIn 5 = .ok (.iload_n 0, 1) := by decide +kernel
theorem dX3_isIn_6 : decode cX3_isIn 6 = .ok (.iload_n 2, 1) := by decide +kernel
theorem dX3_isIn_7 : decode cX3_isIn 7 = .ok (.if_icmp .gt 7, 3) := by decide +kernel
theorem dX3_isIn_10 : decode cX3_isIn 10 = .ok (.iconst 1, 1) := by decide +kernel
theorem dX3_isIn_11 : decode cX3_isIn 11 = .ok (.goto 4, 3) := by decide +kernel
theorem dX3_isIn_14 : decode cX3_isIn 14 = .ok (.iconst 0, 1) := by decide +kernel
theorem dX3_isIn_15 : decode cX3_isIn 15 = .ok (.ireturn, 1) := by decide +kernel
theorem dX3_isTeam_0 : decode cX3_isTeam 0 = .ok (.iload_n 1, 1) := by decide +kernel
theorem dX3_isTeam_1 : decode cX3_isTeam 1 = .ok (.iconst 0, 1) := by decide +kernel
theorem dX3_isTeam_2 : decode cX3_isTeam 2 = .ok (.aload_n 0, 1) := by decide +kernel
theorem dX3_isTeam_3 : decode cX3_isTeam 3 = .ok (.getfield 29, 3) := by decide +kernel
theorem dX3_isTeam_6 : decode cX3_isTeam 6 = .ok (.iconst 1, 1) := by decide +kernel
theorem dX3_isTeam_7 : decode cX3_isTeam 7 = .ok (.isub, 1) := by decide +kernel
theorem dX3_isTeam_8 : decode cX3_isTeam 8 = .ok (.invokestatic 32, 3) := by decide +kernel
theorem dX3_isTeam_11 : decode cX3_isTeam 11 = .ok (.ireturn, 1) := by decide +kernel
theorem dX3_get_0 : decode cX3_get 0 = .ok (.aload_n 0, 1) := by decide +kernel
theorem dX3_get_1 : decode cX3_get 1 = .ok (.getfield 20, 3) := by decide +kernel
theorem dX3_get_4 : decode cX3_get 4 = .ok (.bipush 29, 2) := by decide +kernel
theorem dX3_get_6 : decode cX3_get 6 = .ok (.iload_n 1, 1) := by decide +kernel
theorem dX3_get_7 : decode cX3_get 7 = .ok (.imul, 1) := by decide +kernel
theorem dX3_get_8 : decode cX3_get 8 = .ok (.iload_n 2, 1) := by decide +kernel
theorem dX3_get_9 : decode cX3_get 9 = .ok (.iadd, 1) := by decide +kernel
theorem dX3_get_10 : decode cX3_get 10 = .ok (.iaload, 1) := by decide +kernel
theorem dX3_get_11 : decode cX3_get 11 = .ok (.ireturn, 1) := by decide +kernel
theorem dX3_set_0 : decode cX3_set 0 = .ok (.aload_n 0, 1) := by decide +kernel
theorem dX3_set_1 : decode cX3_set 1 = .ok (.getfield 20, 3) := by decide +kernel
theorem dX3_set_4 : decode cX3_set 4 = .ok (.bipush 29, 2) := by decide +kernel
theorem dX3_set_6 : decode cX3_set 6 = .ok (.iload_n 1, 1) := by decide +kernel
theorem dX3_set_7 : decode cX3_set 7 = .ok (.imul, 1) := by decide +kernel
theorem dX3_set_8 : decode cX3_set 8 = .ok (.iload_n 2, 1) := by decide +kernel
theorem dX3_set_9 : decode cX3_set 9 = .ok (.iadd, 1) := by decide +kernel
theorem dX3_set_10 : decode cX3_set 10 = .ok (.iload_n 3, 1) := by decide +kernel
theorem dX3_set_11 : decode cX3_set 11 = .ok (.iastore, 1) := by decide +kernel
theorem dX3_set_12 : decode cX3_set 12 = .ok (.return_, 1) := by decide +kernel
theorem dX3_setLength_0 : decode cX3_setLength 0 = .ok (.aload_n 0, 1) := by decide +kernel
theorem dX3_setLength_1 : decode cX3_setLength 1 = .ok (.iconst 0, 1) := by decide +kernel
theorem dX3_setLength_2 : decode cX3_setLength 2 = .ok (.putfield 26, 3) := by decide +kernel
theorem dX3_setLength_5 : decode cX3_setLength 5 = .ok (.iload_n 1, 1) := by decide +kernel
theorem dX3_setLength_6 : decode cX3_setLength 6 = .ok (.bipush 100, 2) := by decide +kernel
theorem dX3_setLength_8 : decode cX3_setLength 8 = .ok (.sipush 2000, 3) := by decide +kernel
theorem dX3_setLength_11 : decode cX3_setLength 11 = .ok (.invokestatic 32, 3) := by decide +kernel
theorem dX3_setLength_14 : decode cX3_setLength 14 = .ok (.ifCond .ne 9, 3) := by decide +kernel
theorem dX3_setLength_17 : decode cX3_setLength 17 = .ok (.aload_n 0, 1) := by decide +kernel
theorem dX3_setLength_18 : decode cX3_setLength 18 = .ok (.iconst 1, 1) := by decide +kernel
theorem dX3_setLength_19 : decode cX3_setLength 19 = .ok (.invokevirtual 36, 3) := by decide +kernel
theorem dX3_setLength_22 : decode cX3_setLength 22 = .ok (.ireturn, 1) := by decide +kernel
theorem dX3_setLength_23 : decode cX3_setLength 23 = .ok (.aload_n 0, 1) := by decide +kernel
theorem dX3_setLength_24 : decode cX3_setLength 24 = .ok (.getfield 40, 3) := by decide +kernel
theorem dX3_setLength_27 : decode cX3_setLength 27 = .ok (.ifCond .eq 9, 3) := by decide +kernel
theorem dX3_setLength_30 : decode cX3_setLength 30 = .ok (.aload_n 0, 1) := by decide +kernel
theorem dX3_setLength_31 : decode cX3_setLength 31 = .ok (.iconst 2, 1) := by decide +kernel
theorem dX3_setLength_32 : decode cX3_setLength 32 = .ok (.invokevirtual 36, 3) := by decide +kernel
theorem dX3_setLength_35 : decode cX3_setLength 35 = .ok (.ireturn, 1) := by decide +kernel
theorem dX3_setLength_36 : decode cX3_setLength 36 = .ok (.aload_n 0, 1) := by decide +kernel
theorem dX3_setLength_37 : decode cX3_setLength 37 = .ok (.getfield 9, 3) := by decide +kernel
theorem dX3_setLength_40 : decode cX3_setLength 40 = .ok (.istore_n 2, 1) := by decide +kernel
theorem dX3_setLength_41 : decode cX3_setLength 41 = .ok (.aload_n 0, 1) := by decide +kernel
theorem dX3_setLength_42 : decode cX3_setLength 42 = .ok (.iload_n 1, 1) := by decide +kernel
theorem dX3_setLength_43 : decode cX3_setLength 43 = .ok (.putfield 9, 3) := by decide +kernel
theorem dX3_setLength_46 : decode cX3_setLength 46 = .ok (.iload_n 2, 1) := by decide +kernel
theorem dX3_setLength_47 : decode cX3_setLength 47 = .ok (.ireturn, 1) := by decide +kernel
theorem dX3_stretchAt_0 : decode cX3_stretchAt 0 = .ok (.aload_n 0, 1) := by decide +kernel
theorem dX3_stretchAt_1 : decode cX3_stretchAt 1 = .ok (.getfield 13, 3) := by decide +kernel
theorem dX3_stretchAt_4 : decode cX3_stretchAt 4 = .ok (.iconst 1, 1) := by decide +kernel
theorem dX3_stretchAt_5 : decode cX3_stretchAt 5 = .ok (.isub, 1) := by decide +kernel
theorem dX3_stretchAt_6 : decode cX3_stretchAt 6 = .ok (.istore_n 2, 1) := by decide +kernel
theorem dX3_stretchAt_7 : decode cX3_stretchAt 7 = .ok (.iload_n 2, 1) := by decide +kernel
theorem dX3_stretchAt_8 : decode cX3_stretchAt 8 = .ok (.ifCond .le 21, 3) := by decide +kernel
theorem dX3_stretchAt_11 : decode cX3_stretchAt 11 = .ok (.aload_n 0, 1) := by decide +kernel
theorem dX3_stretchAt_12 : decode cX3_stretchAt 12 = .ok (.getfield 16, 3) := by decide +kernel
theorem dX3_stretchAt_15 : decode cX3_stretchAt 15 = .ok (.iconst 3, 1) := by decide +kernel
theorem dX3_stretchAt_16 : decode cX3_stretchAt 16 = .ok (.iload_n 2, 1) := by decide +kernel
theorem dX3_stretchAt_17 : decode cX3_stretchAt 17 = .ok (.imul, 1) := by decide +kernel
theorem dX3_stretchAt_18 : decode cX3_stretchAt 18 = .ok (.iaload, 1) := by decide +kernel
theorem dX3_stretchAt_19 : decode cX3_stretchAt 19 = .ok (.iload_n 1, 1) := by decide +kernel
theorem dX3_stretchAt_20 : decode cX3_stretchAt 20 = .ok (.if_icmp .le 9, 3) := by decide +kernel
theorem dX3_stretchAt_23 : decode cX3_stretchAt 23 = .ok (.iinc 2 (-1), 3) := by decide +kernel
theorem dX3_stretchAt_26 : decode cX3_stretchAt 26 = .ok (.goto (-19), 3) := by decide +kernel
theorem dX3_stretchAt_29 : decode cX3_stretchAt 29 = .ok (.iload_n 2, 1) := by decide +kernel
theorem dX3_stretchAt_30 : decode cX3_stretchAt 30 = .ok (.ireturn, 1) := by decide +kernel
theorem dX3_lay_0 : decode cX3_lay 0 = .ok (.aload_n 0, 1) := by decide +kernel
theorem dX3_lay_1 : decode cX3_lay 1 = .ok (.iconst 0, 1) := by decide +kernel
theorem dX3_lay_2 : decode cX3_lay 2 = .ok (.putfield 26, 3) := by decide +kernel
theorem dX3_lay_5 : decode cX3_lay 5 = .ok (.iload_n 1, 1) := by decide +kernel
theorem dX3_lay_6 : decode cX3_lay 6 = .ok (.iconst 0, 1) := by decide +kernel
theorem dX3_lay_7 : decode cX3_lay 7 = .ok (.sipush 1999, 3) := by decide +kernel
theorem dX3_lay_10 : decode cX3_lay 10 = .ok (.invokestatic 32, 3) := by decide +kernel
theorem dX3_lay_13 : decode cX3_lay 13 = .ok (.ifCond .eq 23, 3) := by decide +kernel
theorem dX3_lay_16 : decode cX3_lay 16 = .ok (.iload_n 2, 1) := by decide +kernel
theorem dX3_lay_17 : decode cX3_lay 17 = .ok (.bipush (-5), 2) := by decide +kernel
theorem dX3_lay_19 : decode cX3_lay 19 = .ok (.iconst 5, 1) := by decide +kernel
theorem dX3_lay_20 : decode cX3_lay 20 = .ok (.invokestatic 32, 3) := by decide +kernel
theorem dX3_lay_23 : decode cX3_lay 23 = .ok (.ifCond .eq 13, 3) := by decide +kernel
theorem dX3_lay_26 : decode cX3_lay 26 = .ok (.iload_n 3, 1) := by decide +kernel
theorem dX3_lay_27 : decode cX3_lay 27 = .ok (.iconst 0, 1) := by decide +kernel
theorem dX3_lay_28 : decode cX3_lay 28 = .ok (.bipush 9, 2) := by decide +kernel
theorem dX3_lay_30 : decode cX3_lay 30 = .ok (.invokestatic 32, 3) := by decide +kernel
theorem dX3_lay_33 : decode cX3_lay 33 = .ok (.ifCond .ne 9, 3) := by decide +kernel
theorem dX3_lay_36 : decode cX3_lay 36 = .ok (.aload_n 0, 1) := by decide +kernel
theorem dX3_lay_37 : decode cX3_lay 37 = .ok (.iconst 1, 1) := by decide +kernel
theorem dX3_lay_38 : decode cX3_lay 38 = .ok (.invokevirtual 36, 3) := by decide +kernel
theorem dX3_lay_41 : decode cX3_lay 41 = .ok (.ireturn, 1) := by decide +kernel
theorem dX3_lay_42 : decode cX3_lay 42 = .ok (.aload_n 0, 1) := by decide +kernel
theorem dX3_lay_43 : decode cX3_lay 43 = .ok (.iload_n 1, 1) := by decide +kernel
theorem dX3_lay_44 : decode cX3_lay 44 = .ok (.invokevirtual 43, 3) := by decide +kernel
theorem dX3_lay_47 : decode cX3_lay 47 = .ok (.istore 4, 2) := by decide +kernel
theorem dX3_lay_49 : decode cX3_lay 49 = .ok (.aload_n 0, 1) := by decide +kernel
theorem dX3_lay_50 : decode cX3_lay 50 = .ok (.getfield 16, 3) := by decide +kernel
theorem dX3_lay_53 : decode cX3_lay 53 = .ok (.iconst 3, 1) := by decide +kernel
theorem dX3_lay_54 : decode cX3_lay 54 = .ok (.iload 4, 2) := by decide +kernel
theorem dX3_lay_56 : decode cX3_lay 56 = .ok (.imul, 1) := by decide +kernel
theorem dX3_lay_57 : decode cX3_lay 57 = .ok (.iaload, 1) := by decide +kernel
theorem dX3_lay_58 : decode cX3_lay 58 = .ok (.iload_n 1, 1) := by decide +kernel
theorem dX3_lay_59 : decode cX3_lay 59 = .ok (.if_icmp .eq 7, 3) := by decide +kernel
theorem dX3_lay_62 : decode cX3_lay 62 = .ok (.iconst 1, 1) := by decide +kernel
theorem dX3_lay_63 : decode cX3_lay 63 = .ok (.goto 4, 3) := by decide +kernel
theorem dX3_lay_66 : decode cX3_lay 66 = .ok (.iconst 0, 1) := by decide +kernel
theorem dX3_lay_67 : decode cX3_lay 67 = .ok (.istore 5, 2) := by decide +kernel
theorem dX3_lay_69 : decode cX3_lay 69 = .ok (.iload 5, 2) := by decide +kernel
theorem dX3_lay_71 : decode cX3_lay 71 = .ok (.ifCond .eq 18, 3) := by decide +kernel
theorem dX3_lay_74 : decode cX3_lay 74 = .ok (.aload_n 0, 1) := by decide +kernel
theorem dX3_lay_75 : decode cX3_lay 75 = .ok (.getfield 13, 3) := by decide +kernel
theorem dX3_lay_78 : decode cX3_lay 78 = .ok (.bipush 12, 2) := by decide +kernel
theorem dX3_lay_80 : decode cX3_lay 80 = .ok (.if_icmp .ne 9, 3) := by decide +kernel
theorem dX3_lay_83 : decode cX3_lay 83 = .ok (.aload_n 0, 1) := by decide +kernel
theorem dX3_lay_84 : decode cX3_lay 84 = .ok (.iconst 2, 1) := by decide +kernel
theorem dX3_lay_85 : decode cX3_lay 85 = .ok (.invokevirtual 36, 3) := by decide +kernel
theorem dX3_lay_88 : decode cX3_lay 88 = .ok (.ireturn, 1) := by decide +kernel
theorem dX3_lay_89 : decode cX3_lay 89 = .ok (.iload 5, 2) := by decide +kernel
theorem dX3_lay_91 : decode cX3_lay 91 = .ok (.ifCond .eq 46, 3) := by decide +kernel
theorem dX3_lay_94 : decode cX3_lay 94 = .ok (.iinc 4 1, 3) := by decide +kernel
theorem dX3_lay_97 : decode cX3_lay 97 = .ok (.aload_n 0, 1) := by decide +kernel
theorem dX3_lay_98 : decode cX3_lay 98 = .ok (.getfield 16, 3) := by decide +kernel
theorem dX3_lay_101 : decode cX3_lay 101 = .ok (.iconst 3, 1) := by decide +kernel
theorem dX3_lay_102 : decode cX3_lay 102 = .ok (.iload 4, 2) := by decide +kernel
theorem dX3_lay_104 : decode cX3_lay 104 = .ok (.imul, 1) := by decide +kernel
theorem dX3_lay_105 : decode cX3_lay 105 = .ok (.aload_n 0, 1) := by decide +kernel
theorem dX3_lay_106 : decode cX3_lay 106 = .ok (.getfield 16, 3) := by decide +kernel
theorem dX3_lay_109 : decode cX3_lay 109 = .ok (.iconst 3, 1) := by decide +kernel
theorem dX3_lay_110 : decode cX3_lay 110 = .ok (.iload 4, 2) := by decide +kernel
theorem dX3_lay_112 : decode cX3_lay 112 = .ok (.iconst 1, 1) := by decide +kernel
theorem dX3_lay_113 : decode cX3_lay 113 = .ok (.iadd, 1) := by decide +kernel
theorem dX3_lay_114 : decode cX3_lay 114 = .ok (.imul, 1) := by decide +kernel
theorem dX3_lay_115 : decode cX3_lay 115 = .ok (.iconst 3, 1) := by decide +kernel
theorem dX3_lay_116 : decode cX3_lay 116 = .ok (.aload_n 0, 1) := by decide +kernel
theorem dX3_lay_117 : decode cX3_lay 117 = .ok (.getfield 13, 3) := by decide +kernel
theorem dX3_lay_120 : decode cX3_lay 120 = .ok (.iload 4, 2) := by decide +kernel
theorem dX3_lay_122 : decode cX3_lay 122 = .ok (.isub, 1) := by decide +kernel
theorem dX3_lay_123 : decode cX3_lay 123 = .ok (.imul, 1) := by decide +kernel
theorem dX3_lay_124 : decode cX3_lay 124 = .ok (.invokestatic 46, 3) := by decide +kernel
theorem dX3_lay_127 : decode cX3_lay 127 = .ok (.aload_n 0, 1) := by decide +kernel
theorem dX3_lay_128 : decode cX3_lay 128 = .ok (.dup, 1) := by decide +kernel
theorem dX3_lay_129 : decode cX3_lay 129 = .ok (.getfield 13, 3) := by decide +kernel
theorem dX3_lay_132 : decode cX3_lay 132 = .ok (.iconst 1, 1) := by decide +kernel
theorem dX3_lay_133 : decode cX3_lay 133 = .ok (.iadd, 1) := by decide +kernel
theorem dX3_lay_134 : decode cX3_lay 134 = .ok (.putfield 13, 3) := by decide +kernel
theorem dX3_lay_137 : decode cX3_lay 137 = .ok (.iconst 3, 1) := by decide +kernel
theorem dX3_lay_138 : decode cX3_lay 138 = .ok (.newarray .int, 2) := by decide +kernel
theorem dX3_lay_140 : decode cX3_lay 140 = .ok (.dup, 1) := by decide +kernel
theorem dX3_lay_141 : decode cX3_lay 141 = .ok (.iconst 0, 1) := by decide +kernel
theorem dX3_lay_142 : decode cX3_lay 142 = .ok (.iload_n 1, 1) := by decide +kernel
theorem dX3_lay_143 : decode cX3_lay 143 = .ok (.iastore, 1) := by decide +kernel
theorem dX3_lay_144 : decode cX3_lay 144 = .ok (.dup, 1) := by decide +kernel
theorem dX3_lay_145 : decode cX3_lay 145 = .ok (.iconst 1, 1) := by decide +kernel
theorem dX3_lay_146 : decode cX3_lay 146 = .ok (.iload_n 2, 1) := by decide +kernel
theorem dX3_lay_147 : decode cX3_lay 147 = .ok (.iastore, 1) := by decide +kernel
theorem dX3_lay_148 : decode cX3_lay 148 = .ok (.dup, 1) := by decide +kernel
theorem dX3_lay_149 : decode cX3_lay 149 = .ok (.iconst 2, 1) := by decide +kernel
theorem dX3_lay_150 : decode cX3_lay 150 = .ok (.iload_n 3, 1) := by decide +kernel
theorem dX3_lay_151 : decode cX3_lay 151 = .ok (.iastore, 1) := by decide +kernel
theorem dX3_lay_152 : decode cX3_lay 152 = .ok (.astore 6, 2) := by decide +kernel
theorem dX3_lay_154 : decode cX3_lay 154 = .ok (.aload 6, 2) := by decide +kernel
theorem dX3_lay_156 : decode cX3_lay 156 = .ok (.iconst 0, 1) := by decide +kernel
theorem dX3_lay_157 : decode cX3_lay 157 = .ok (.aload_n 0, 1) := by decide +kernel
theorem dX3_lay_158 : decode cX3_lay 158 = .ok (.getfield 16, 3) := by decide +kernel
theorem dX3_lay_161 : decode cX3_lay 161 = .ok (.iconst 3, 1) := by decide +kernel
theorem dX3_lay_162 : decode cX3_lay 162 = .ok (.iload 4, 2) := by decide +kernel
theorem dX3_lay_164 : decode cX3_lay 164 = .ok (.imul, 1) := by decide +kernel
theorem dX3_lay_165 : decode cX3_lay 165 = .ok (.iconst 3, 1) := by decide +kernel
theorem dX3_lay_166 : decode cX3_lay 166 = .ok (.invokestatic 46, 3) := by decide +kernel
theorem dX3_lay_169 : decode cX3_lay 169 = .ok (.aload_n 0, 1) := by decide +kernel
theorem dX3_lay_170 : decode cX3_lay 170 = .ok (.getfield 13, 3) := by decide +kernel
theorem dX3_lay_173 : decode cX3_lay 173 = .ok (.ireturn, 1) := by decide +kernel
theorem dX3_ground_0 : decode cX3_ground 0 = .ok (.aload_n 0, 1) := by decide +kernel
theorem dX3_ground_1 : decode cX3_ground 1 = .ok (.iconst 0, 1) := by decide +kernel
theorem dX3_ground_2 : decode cX3_ground 2 = .ok (.putfield 26, 3) := by decide +kernel
theorem dX3_ground_5 : decode cX3_ground 5 = .ok (.iload_n 1, 1) := by decide +kernel
theorem dX3_ground_6 : decode cX3_ground 6 = .ok (.bipush (-100), 2) := by decide +kernel
theorem dX3_ground_8 : decode cX3_ground 8 = .ok (.sipush 3000, 3) := by decide +kernel
theorem dX3_ground_11 : decode cX3_ground 11 = .ok (.invokestatic 32, 3) := by decide +kernel
theorem dX3_ground_14 : decode cX3_ground 14 = .ok (.ifCond .eq 28, 3) := by decide +kernel
theorem dX3_ground_17 : decode cX3_ground 17 = .ok (.aload_n 0, 1) := by decide +kernel
theorem dX3_ground_18 : decode cX3_ground 18 = .ok (.getfield 16, 3) := by decide +kernel
theorem dX3_ground_21 : decode cX3_ground 21 = .ok (.iconst 3, 1) := by decide +kernel
theorem dX3_ground_22 : decode cX3_ground 22 = .ok (.aload_n 0, 1) := by decide +kernel
theorem dX3_ground_23 : decode cX3_ground 23 = .ok (.iload_n 1, 1) := by decide +kernel
theorem dX3_ground_24 : decode cX3_ground 24 = .ok (.invokevirtual 43, 3) := by decide +kernel
theorem dX3_ground_27 : decode cX3_ground 27 = .ok (.imul, 1) := by decide +kernel
theorem dX3_ground_28 : decode cX3_ground 28 = .ok (.iload_n 2, 1) := by decide +kernel
theorem dX3_ground_29 : decode cX3_ground 29 = .ok (.ifCond .eq 7, 3) := by decide +kernel
theorem dX3_ground_32 : decode cX3_ground 32 = .ok (.iconst 2, 1) := by decide +kernel
theorem dX3_ground_33 : decode cX3_ground 33 = .ok (.goto 4, 3) := by decide +kernel
theorem dX3_ground_36 : decode cX3_ground 36 = .ok (.iconst 1, 1) := by decide +kernel
theorem dX3_ground_37 : decode cX3_ground 37 = .ok (.iadd, 1) := by decide +kernel
theorem dX3_ground_38 : decode cX3_ground 38 = .ok (.iaload, 1) := by decide +kernel
theorem dX3_ground_39 : decode cX3_ground 39 = .ok (.goto 8, 3) := by decide +kernel
theorem dX3_ground_42 : decode cX3_ground 42 = .ok (.aload_n 0, 1) := by decide +kernel
theorem dX3_ground_43 : decode cX3_ground 43 = .ok (.iconst 1, 1) := by decide +kernel
theorem dX3_ground_44 : decode cX3_ground 44 = .ok (.invokevirtual 36, 3) := by decide +kernel
theorem dX3_ground_47 : decode cX3_ground 47 = .ok (.ireturn, 1) := by decide +kernel
theorem dX3_begin_0 : decode cX3_begin 0 = .ok (.aload_n 0, 1) := by decide +kernel
theorem dX3_begin_1 : decode cX3_begin 1 = .ok (.iload_n 1, 1) := by decide +kernel
theorem dX3_begin_2 : decode cX3_begin 2 = .ok (.bipush 9, 2) := by decide +kernel
theorem dX3_begin_4 : decode cX3_begin 4 = .ok (.iconst 0, 1) := by decide +kernel
theorem dX3_begin_5 : decode cX3_begin 5 = .ok (.invokevirtual 52, 3) := by decide +kernel
theorem dX3_begin_8 : decode cX3_begin 8 = .ok (.aload_n 0, 1) := by decide +kernel
theorem dX3_begin_9 : decode cX3_begin 9 = .ok (.iload_n 1, 1) := by decide +kernel
theorem dX3_begin_10 : decode cX3_begin 10 = .ok (.bipush 10, 2) := by decide +kernel
theorem dX3_begin_12 : decode cX3_begin 12 = .ok (.sipush 1000, 3) := by decide +kernel
theorem dX3_begin_15 : decode cX3_begin 15 = .ok (.invokevirtual 52, 3) := by decide +kernel
theorem dX3_begin_18 : decode cX3_begin 18 = .ok (.aload_n 0, 1) := by decide +kernel
theorem dX3_begin_19 : decode cX3_begin 19 = .ok (.iload_n 1, 1) := by decide +kernel
theorem dX3_begin_20 : decode cX3_begin 20 = .ok (.bipush 11, 2) := by decide +kernel
theorem dX3_begin_22 : decode cX3_begin 22 = .ok (.aload_n 0, 1) := by decide +kernel
theorem dX3_begin_23 : decode cX3_begin 23 = .ok (.iload_n 1, 1) := by decide +kernel
theorem dX3_begin_24 : decode cX3_begin 24 = .ok (.bipush 6, 2) := by decide +kernel
theorem dX3_begin_26 : decode cX3_begin 26 = .ok (.invokevirtual 56, 3) := by decide +kernel
theorem dX3_begin_29 : decode cX3_begin 29 = .ok (.invokevirtual 52, 3) := by decide +kernel
theorem dX3_begin_32 : decode cX3_begin 32 = .ok (.aload_n 0, 1) := by decide +kernel
theorem dX3_begin_33 : decode cX3_begin 33 = .ok (.iload_n 1, 1) := by decide +kernel
theorem dX3_begin_34 : decode cX3_begin 34 = .ok (.bipush 12, 2) := by decide +kernel
theorem dX3_begin_36 : decode cX3_begin 36 = .ok (.iconst 0, 1) := by decide +kernel
theorem dX3_begin_37 : decode cX3_begin 37 = .ok (.invokevirtual 52, 3) := by decide +kernel
theorem dX3_begin_40 : decode cX3_begin 40 = .ok (.aload_n 0, 1) := by decide +kernel
theorem dX3_begin_41 : decode cX3_begin 41 = .ok (.iload_n 1, 1) := by decide +kernel
theorem dX3_begin_42 : decode cX3_begin 42 = .ok (.bipush 13, 2) := by decide +kernel
theorem dX3_begin_44 : decode cX3_begin 44 = .ok (.iconst (-1), 1) := by decide +kernel
theorem dX3_begin_45 : decode cX3_begin 45 = .ok (.invokevirtual 52, 3) := by decide +kernel
theorem dX3_begin_48 : decode cX3_begin 48 = .ok (.aload_n 0, 1) := by decide +kernel
theorem dX3_begin_49 : decode cX3_begin 49 = .ok (.iload_n 1, 1) := by decide +kernel
theorem dX3_begin_50 : decode cX3_begin 50 = .ok (.bipush 14, 2) := by decide +kernel
theorem dX3_begin_52 : decode cX3_begin 52 = .ok (.iconst 0, 1) := by decide +kernel
theorem dX3_begin_53 : decode cX3_begin 53 = .ok (.invokevirtual 52, 3) := by decide +kernel
theorem dX3_begin_56 : decode cX3_begin 56 = .ok (.iconst 0, 1) := by decide +kernel
theorem dX3_begin_57 : decode cX3_begin 57 = .ok (.istore_n 2, 1) := by decide +kernel
theorem dX3_begin_58 : decode cX3_begin 58 = .ok (.iload_n 2, 1) := by decide +kernel
theorem dX3_begin_59 : decode cX3_begin 59 = .ok (.bipush 8, 2) := by decide +kernel
theorem dX3_begin_61 : decode cX3_begin 61 = .ok (.if_icmp .ge 38, 3) := by decide +kernel
theorem dX3_begin_64 : decode cX3_begin 64 = .ok (.aload_n 0, 1) := by decide +kernel
theorem dX3_begin_65 : decode cX3_begin 65 = .ok (.iload_n 1, 1) := by decide +kernel
theorem dX3_begin_66 : decode cX3_begin 66 = .ok (.bipush 15, 2) := by decide +kernel
theorem dX3_begin_68 : decode cX3_begin 68 = .ok (.iload_n 2, 1) := by decide +kernel
theorem dX3_begin_69 : decode cX3_begin 69 = .ok (.iadd, 1) := by decide +kernel
theorem dX3_begin_70 : decode cX3_begin 70 = .ok (.iload_n 2, 1) := by decide +kernel
theorem dX3_begin_71 : decode cX3_begin 71 = .ok (.iconst 1, 1) := by decide +kernel
theorem dX3_begin_72 : decode cX3_begin 72 = .ok (.iadd, 1) := by decide +kernel
theorem dX3_begin_73 : decode cX3_begin 73 = .ok (.aload_n 0, 1) := by decide +kernel
theorem dX3_begin_74 : decode cX3_begin 74 = .ok (.iload_n 1, 1) := by decide +kernel
theorem dX3_begin_75 : decode cX3_begin 75 = .ok (.iconst 0, 1) := by decide +kernel
theorem dX3_begin_76 : decode cX3_begin 76 = .ok (.invokevirtual 56, 3) := by decide +kernel
theorem dX3_begin_79 : decode cX3_begin 79 = .ok (.imul, 1) := by decide +kernel
theorem dX3_begin_80 : decode cX3_begin 80 = .ok (.aload_n 0, 1) := by decide +kernel
theorem dX3_begin_81 : decode cX3_begin 81 = .ok (.iload_n 1, 1) := by decide +kernel
theorem dX3_begin_82 : decode cX3_begin 82 = .ok (.iconst 2, 1) := by decide +kernel
theorem dX3_begin_83 : decode cX3_begin 83 = .ok (.invokevirtual 56, 3) := by decide +kernel
theorem dX3_begin_86 : decode cX3_begin 86 = .ok (.iconst 1, 1) := by decide +kernel
theorem dX3_begin_87 : decode cX3_begin 87 = .ok (.iadd, 1) := by decide +kernel
theorem dX3_begin_88 : decode cX3_begin 88 = .ok (.idiv, 1) := by decide +kernel
theorem dX3_begin_89 : decode cX3_begin 89 = .ok (.ineg, 1) := by decide +kernel
theorem dX3_begin_90 : decode cX3_begin 90 = .ok (.invokevirtual 52, 3) := by decide +kernel
theorem dX3_begin_93 : decode cX3_begin 93 = .ok (.iinc 2 1, 3) := by decide +kernel
theorem dX3_begin_96 : decode cX3_begin 96 = .ok (.goto (-38), 3) := by decide +kernel
theorem dX3_begin_99 : decode cX3_begin 99 = .ok (.iconst 0, 1) := by decide +kernel
theorem dX3_begin_100 : decode cX3_begin 100 = .ok (.istore_n 2, 1) := by decide +kernel
theorem dX3_begin_101 : decode cX3_begin 101 = .ok (.iload_n 2, 1) := by decide +kernel
theorem dX3_begin_102 : decode cX3_begin 102 = .ok (.iconst 3, 1) := by decide +kernel
theorem dX3_begin_103 : decode cX3_begin 103 = .ok (.if_icmp .ge 29, 3) := by decide +kernel
theorem dX3_begin_106 : decode cX3_begin 106 = .ok (.aload_n 0, 1) := by decide +kernel
theorem dX3_begin_107 : decode cX3_begin 107 = .ok (.iload_n 1, 1) := by decide +kernel
theorem dX3_begin_108 : decode cX3_begin 108 = .ok (.bipush 23, 2) := by decide +kernel
theorem dX3_begin_110 : decode cX3_begin 110 = .ok (.iload_n 2, 1) := by decide +kernel
theorem dX3_begin_111 : decode cX3_begin 111 = .ok (.iadd, 1) := by decide +kernel
theorem dX3_begin_112 : decode cX3_begin 112 = .ok (.iconst (-1), 1) := by decide +kernel
theorem dX3_begin_113 : decode cX3_begin 113 = .ok (.invokevirtual 52, 3) := by decide +kernel
theorem dX3_begin_116 : decode cX3_begin 116 = .ok (.aload_n 0, 1) := by decide +kernel
theorem dX3_begin_117 : decode cX3_begin 117 = .ok (.iload_n 1, 1) := by decide +kernel
theorem dX3_begin_118 : decode cX3_begin 118 = .ok (.bipush 26, 2) := by decide +kernel
theorem dX3_begin_120 : decode cX3_begin 120 = .ok (.iload_n 2, 1) := by decide +kernel
theorem dX3_begin_121 : decode cX3_begin 121 = .ok (.iadd, 1) := by decide +kernel
theorem dX3_begin_122 : decode cX3_begin 122 = .ok (.iconst 0, 1) := by decide +kernel
theorem dX3_begin_123 : decode cX3_begin 123 = .ok (.invokevirtual 52, 3) := by decide +kernel
theorem dX3_begin_126 : decode cX3_begin 126 = .ok (.iinc 2 1, 3) := by decide +kernel
theorem dX3_begin_129 : decode cX3_begin 129 = .ok (.goto (-28), 3) := by decide +kernel
theorem dX3_begin_132 : decode cX3_begin 132 = .ok (.return_, 1) := by decide +kernel
theorem dX3_addTeam_0 : decode cX3_addTeam 0 = .ok (.aload_n 0, 1) := by decide +kernel
theorem dX3_addTeam_1 : decode cX3_addTeam 1 = .ok (.iconst 0, 1) := by decide +kernel
theorem dX3_addTeam_2 : decode cX3_addTeam 2 = .ok (.putfield 26, 3) := by decide +kernel
theorem dX3_addTeam_5 : decode cX3_addTeam 5 = .ok (.iload_n 1, 1) := by decide +kernel
theorem dX3_addTeam_6 : decode cX3_addTeam 6 = .ok (.bipush 20, 2) := by decide +kernel
theorem dX3_addTeam_8 : decode cX3_addTeam 8 = .ok (.bipush 80, 2) := by decide +kernel
theorem dX3_addTeam_10 : decode cX3_addTeam 10 = .ok (.invokestatic 32, 3) := by decide +kernel
theorem dX3_addTeam_13 : decode cX3_addTeam 13 = .ok (.ifCond .eq 24, 3) := by decide +kernel
theorem dX3_addTeam_16 : decode cX3_addTeam 16 = .ok (.iload_n 2, 1) := by decide +kernel
theorem dX3_addTeam_17 : decode cX3_addTeam 17 = .ok (.bipush 10, 2) := by decide +kernel
theorem dX3_addTeam_19 : decode cX3_addTeam 19 = .ok (.bipush 99, 2) := by decide +kernel
theorem dX3_addTeam_21 : decode cX3_addTeam 21 = .ok (.invokestatic 32, 3) := by decide +kernel
theorem dX3_addTeam_24 : decode cX3_addTeam 24 = .ok (.ifCond .eq 13, 3) := by decide +kernel
theorem dX3_addTeam_27 : decode cX3_addTeam 27 = .ok (.iload_n 3, 1) := by decide +kernel
theorem dX3_addTeam_28 : decode cX3_addTeam 28 = .ok (.iconst 2, 1) := by decide +kernel
theorem dX3_addTeam_29 : decode cX3_addTeam 29 = .ok (.bipush 8, 2) := by decide +kernel
theorem dX3_addTeam_31 : decode cX3_addTeam 31 = .ok (.invokestatic 32, 3) := by decide +kernel
theorem dX3_addTeam_34 : decode cX3_addTeam 34 = .ok (.ifCond .ne 9, 3) := by decide +kernel
theorem dX3_addTeam_37 : decode cX3_addTeam 37 = .ok (.aload_n 0, 1) := by decide +kernel
theorem dX3_addTeam_38 : decode cX3_addTeam 38 = .ok (.iconst 1, 1) := by decide +kernel
theorem dX3_addTeam_39 : decode cX3_addTeam 39 = .ok (.invokevirtual 36, 3) := by decide +kernel
theorem dX3_addTeam_42 : decode cX3_addTeam 42 = .ok (.ireturn, 1) := by decide +kernel
theorem dX3_addTeam_43 : decode cX3_addTeam 43 = .ok (.aload_n 0, 1) := by decide +kernel
theorem dX3_addTeam_44 : decode cX3_addTeam 44 = .ok (.getfield 29, 3) := by decide +kernel
theorem dX3_addTeam_47 : decode cX3_addTeam 47 = .ok (.bipush 6, 2) := by decide +kernel
theorem dX3_addTeam_49 : decode cX3_addTeam 49 = .ok (.if_icmp .eq 10, 3) := by decide +kernel
theorem dX3_addTeam_52 : decode cX3_addTeam 52 = .ok (.aload_n 0, 1) := by decide +kernel
theorem dX3_addTeam_53 : decode cX3_addTeam 53 = .ok (.getfield 40, 3) := by decide +kernel
theorem dX3_addTeam_56 : decode cX3_addTeam 56 = .ok (.ifCond .eq 9, 3) := by decide +kernel
theorem dX3_addTeam_59 : decode cX3_addTeam 59 = .ok (.aload_n 0, 1) := by decide +kernel
theorem dX3_addTeam_60 : decode cX3_addTeam 60 = .ok (.iconst 2, 1) := by decide +kernel
theorem dX3_addTeam_61 : decode cX3_addTeam 61 = .ok (.invokevirtual 36, 3) := by decide +kernel
theorem dX3_addTeam_64 : decode cX3_addTeam 64 = .ok (.ireturn, 1) := by decide +kernel
theorem dX3_addTeam_65 : decode cX3_addTeam 65 = .ok (.bipush 9, 2) := by decide +kernel
theorem dX3_addTeam_67 : decode cX3_addTeam 67 = .ok (.newarray .int, 2) := by decide +kernel
theorem dX3_addTeam_69 : decode cX3_addTeam 69 = .ok (.dup, 1) := by decide +kernel
theorem dX3_addTeam_70 : decode cX3_addTeam 70 = .ok (.iconst 0, 1) := by decide +kernel
theorem dX3_addTeam_71 : decode cX3_addTeam 71 = .ok (.iload_n 1, 1) := by decide +kernel
theorem dX3_addTeam_72 : decode cX3_addTeam 72 = .ok (.iastore, 1) := by decide +kernel
theorem dX3_addTeam_73 : decode cX3_addTeam 73 = .ok (.dup, 1) := by decide +kernel
theorem dX3_addTeam_74 : decode cX3_addTeam 74 = .ok (.iconst 1, 1) := by decide +kernel
theorem dX3_addTeam_75 : decode cX3_addTeam 75 = .ok (.iload_n 2, 1) := by decide +kernel
theorem dX3_addTeam_76 : decode cX3_addTeam 76 = .ok (.iastore, 1) := by decide +kernel
theorem dX3_addTeam_77 : decode cX3_addTeam 77 = .ok (.dup, 1) := by decide +kernel
theorem dX3_addTeam_78 : decode cX3_addTeam 78 = .ok (.iconst 2, 1) := by decide +kernel
theorem dX3_addTeam_79 : decode cX3_addTeam 79 = .ok (.iload_n 3, 1) := by decide +kernel
theorem dX3_addTeam_80 : decode cX3_addTeam 80 = .ok (.iastore, 1) := by decide +kernel
theorem dX3_addTeam_81 : decode cX3_addTeam 81 = .ok (.dup, 1) := by decide +kernel
theorem dX3_addTeam_82 : decode cX3_addTeam 82 = .ok (.iconst 3, 1) := by decide +kernel
theorem dX3_addTeam_83 : decode cX3_addTeam 83 = .ok (.iconst 4, 1) := by decide +kernel
theorem dX3_addTeam_84 : decode cX3_addTeam 84 = .ok (.iastore, 1) := by decide +kernel
theorem dX3_addTeam_85 : decode cX3_addTeam 85 = .ok (.dup, 1) := by decide +kernel
theorem dX3_addTeam_86 : decode cX3_addTeam 86 = .ok (.iconst 4, 1) := by decide +kernel
theorem dX3_addTeam_87 : decode cX3_addTeam 87 = .ok (.bipush 10, 2) := by decide +kernel
theorem dX3_addTeam_89 : decode cX3_addTeam 89 = .ok (.iastore, 1) := by decide +kernel
theorem dX3_addTeam_90 : decode cX3_addTeam 90 = .ok (.dup, 1) := by decide +kernel
theorem dX3_addTeam_91 : decode cX3_addTeam 91 = .ok (.iconst 5, 1) := by decide +kernel
theorem dX3_addTeam_92 : decode cX3_addTeam 92 = .ok (.iconst 1, 1) := by decide +kernel
theorem dX3_addTeam_93 : decode cX3_addTeam 93 = .ok (.iastore, 1) := by decide +kernel
theorem dX3_addTeam_94 : decode cX3_addTeam 94 = .ok (.dup, 1) := by decide +kernel
theorem dX3_addTeam_95 : decode cX3_addTeam 95 = .ok (.bipush 6, 2) := by decide +kernel
theorem dX3_addTeam_97 : decode cX3_addTeam 97 = .ok (.sipush 200, 3) := by decide +kernel
theorem dX3_addTeam_100 : decode cX3_addTeam 100 = .ok (.iastore, 1) := by decide +kernel
theorem dX3_addTeam_101 : decode cX3_addTeam 101 = .ok (.dup, 1) := by decide +kernel
theorem dX3_addTeam_102 : decode cX3_addTeam 102 = .ok (.bipush 7, 2) := by decide +kernel
theorem dX3_addTeam_104 : decode cX3_addTeam 104 = .ok (.iconst 5, 1) := by decide +kernel
theorem dX3_addTeam_105 : decode cX3_addTeam 105 = .ok (.iastore, 1) := by decide +kernel
theorem dX3_addTeam_106 : decode cX3_addTeam 106 = .ok (.dup, 1) := by decide +kernel
theorem dX3_addTeam_107 : decode cX3_addTeam 107 = .ok (.bipush 8, 2) := by decide +kernel
theorem dX3_addTeam_109 : decode cX3_addTeam 109 = .ok (.bipush 10, 2) := by decide +kernel
theorem dX3_addTeam_111 : decode cX3_addTeam 111 = .ok (.iastore, 1) := by decide +kernel
theorem dX3_addTeam_112 : decode cX3_addTeam 112 = .ok (.astore 4, 2) := by decide +kernel
theorem dX3_addTeam_114 : decode cX3_addTeam 114 = .ok (.aload 4, 2) := by decide +kernel
theorem dX3_addTeam_116 : decode cX3_addTeam 116 = .ok (.iconst 0, 1) := by decide +kernel
theorem dX3_addTeam_117 : decode cX3_addTeam 117 = .ok (.aload_n 0, 1) := by decide +kernel
theorem dX3_addTeam_118 : decode cX3_addTeam 118 = .ok (.getfield 20, 3) := by decide +kernel
theorem dX3_addTeam_121 : decode cX3_addTeam 121 = .ok (.bipush 29, 2) := by decide +kernel
theorem dX3_addTeam_123 : decode cX3_addTeam 123 = .ok (.aload_n 0, 1) := by decide +kernel
theorem dX3_addTeam_124 : decode cX3_addTeam 124 = .ok (.getfield 29, 3) := by decide +kernel
theorem dX3_addTeam_127 : decode cX3_addTeam 127 = .ok (.imul, 1) := by decide +kernel
theorem dX3_addTeam_128 : decode cX3_addTeam 128 = .ok (.aload 4, 2) := by decide +kernel
theorem dX3_addTeam_130 : decode cX3_addTeam 130 = .ok (.arraylength, 1) := by decide +kernel
theorem dX3_addTeam_131 : decode cX3_addTeam 131 = .ok (.invokestatic 46, 3) := by decide +kernel
theorem dX3_addTeam_134 : decode cX3_addTeam 134 = .ok (.aload_n 0, 1) := by decide +kernel
theorem dX3_addTeam_135 : decode cX3_addTeam 135 = .ok (.dup, 1) := by decide +kernel
theorem dX3_addTeam_136 : decode cX3_addTeam 136 = .ok (.getfield 29, 3) := by decide +kernel
theorem dX3_addTeam_139 : decode cX3_addTeam 139 = .ok (.iconst 1, 1) := by decide +kernel
theorem dX3_addTeam_140 : decode cX3_addTeam 140 = .ok (.iadd, 1) := by decide +kernel
theorem dX3_addTeam_141 : decode cX3_addTeam 141 = .ok (.putfield 29, 3) := by decide +kernel
theorem dX3_addTeam_144 : decode cX3_addTeam 144 = .ok (.aload_n 0, 1) := by decide +kernel
theorem dX3_addTeam_145 : decode cX3_addTeam 145 = .ok (.aload_n 0, 1) := by decide +kernel
theorem dX3_addTeam_146 : decode cX3_addTeam 146 = .ok (.getfield 29, 3) := by decide +kernel
theorem dX3_addTeam_149 : decode cX3_addTeam 149 = .ok (.iconst 1, 1) := by decide +kernel
theorem dX3_addTeam_150 : decode cX3_addTeam 150 = .ok (.isub, 1) := by decide +kernel
theorem dX3_addTeam_151 : decode cX3_addTeam 151 = .ok (.invokevirtual 60, 3) := by decide +kernel
theorem dX3_addTeam_154 : decode cX3_addTeam 154 = .ok (.aload_n 0, 1) := by decide +kernel
theorem dX3_addTeam_155 : decode cX3_addTeam 155 = .ok (.getfield 29, 3) := by decide +kernel
theorem dX3_addTeam_158 : decode cX3_addTeam 158 = .ok (.iconst 1, 1) := by decide +kernel
theorem dX3_addTeam_159 : decode cX3_addTeam 159 = .ok (.isub, 1) := by decide +kernel
theorem dX3_addTeam_160 : decode cX3_addTeam 160 = .ok (.ireturn, 1) := by decide +kernel
theorem dX3_setCrew_0 : decode cX3_setCrew 0 = .ok (.aload_n 0, 1) := by decide +kernel
theorem dX3_setCrew_1 : decode cX3_setCrew 1 = .ok (.iconst 0, 1) := by decide +kernel
theorem dX3_setCrew_2 : decode cX3_setCrew 2 = .ok (.putfield 26, 3) := by decide +kernel
theorem dX3_setCrew_5 : decode cX3_setCrew 5 = .ok (.aload_n 0, 1) := by decide +kernel
theorem dX3_setCrew_6 : decode cX3_setCrew 6 = .ok (.iload_n 1, 1) := by decide +kernel
theorem dX3_setCrew_7 : decode cX3_setCrew 7 = .ok (.invokevirtual 64, 3) := by decide +kernel
theorem dX3_setCrew_10 : decode cX3_setCrew 10 = .ok (.ifCond .ne 9, 3) := by decide +kernel
theorem dX3_setCrew_13 : decode cX3_setCrew 13 = .ok (.aload_n 0, 1) := by decide +kernel
theorem dX3_setCrew_14 : decode cX3_setCrew 14 = .ok (.iconst 1, 1) := by decide +kernel
theorem dX3_setCrew_15 : decode cX3_setCrew 15 = .ok (.invokevirtual 36, 3) := by decide +kernel
theorem dX3_setCrew_18 : decode cX3_setCrew 18 = .ok (.ireturn, 1) := by decide +kernel
theorem dX3_setCrew_19 : decode cX3_setCrew 19 = .ok (.iload_n 2, 1) := by decide +kernel
theorem dX3_setCrew_20 : decode cX3_setCrew 20 = .ok (.iconst 1, 1) := by decide +kernel
theorem dX3_setCrew_21 : decode cX3_setCrew 21 = .ok (.bipush 9, 2) := by decide +kernel
theorem dX3_setCrew_23 : decode cX3_setCrew 23 = .ok (.invokestatic 32, 3) := by decide +kernel
theorem dX3_setCrew_26 : decode cX3_setCrew 26 = .ok (.ifCond .eq 36, 3) := by decide +kernel
theorem dX3_setCrew_29 : decode cX3_setCrew 29 = .ok (.iload_n 3, 1) := by decide +kernel
theorem dX3_setCrew_30 : decode cX3_setCrew 30 = .ok (.iconst 1, 1) := by decide +kernel
theorem dX3_setCrew_31 : decode cX3_setCrew 31 = .ok (.bipush 20, 2) := by decide +kernel
theorem dX3_setCrew_33 : decode cX3_setCrew 33 = .ok (.invokestatic 32, 3) := by decide +kernel
theorem dX3_setCrew_36 : decode cX3_setCrew 36 = .ok (.ifCond .eq 26, 3) := by decide +kernel
theorem dX3_setCrew_39 : decode cX3_setCrew 39 = .ok (.iload 4, 2) := by decide +kernel
theorem dX3_setCrew_41 : decode cX3_setCrew 41 = .ok (.iconst 1, 1) := by decide +kernel
theorem dX3_setCrew_42 : decode cX3_setCrew 42 = .ok (.iconst 3, 1) := by decide +kernel
theorem dX3_setCrew_43 : decode cX3_setCrew 43 = .ok (.invokestatic 32, 3) := by decide +kernel
theorem dX3_setCrew_46 : decode cX3_setCrew 46 = .ok (.ifCond .eq 16, 3) := by decide +kernel
theorem dX3_setCrew_49 : decode cX3_setCrew 49 = .ok (.iload 5, 2) := by decide +kernel
theorem dX3_setCrew_51 : decode cX3_setCrew 51 = .ok (.bipush 20, 2) := by decide +kernel
theorem dX3_setCrew_53 : decode cX3_setCrew 53 = .ok (.sipush 400, 3) := by decide +kernel
theorem dX3_setCrew_56 : decode cX3_setCrew 56 = .ok (.invokestatic 32, 3) := by decide +kernel
theorem dX3_setCrew_59 : decode cX3_setCrew 59 = .ok (.ifCond .ne 9, 3) := by decide +kernel
theorem dX3_setCrew_62 : decode cX3_setCrew 62 = .ok (.aload_n 0, 1) := by decide +kernel
theorem dX3_setCrew_63 : decode cX3_setCrew 63 = .ok (.iconst 2, 1) := by decide +kernel
theorem dX3_setCrew_64 : decode cX3_setCrew 64 = .ok (.invokevirtual 36, 3) := by decide +kernel
theorem dX3_setCrew_67 : decode cX3_setCrew 67 = .ok (.ireturn, 1) := by decide +kernel
theorem dX3_setCrew_68 : decode cX3_setCrew 68 = .ok (.aload_n 0, 1) := by decide +kernel
theorem dX3_setCrew_69 : decode cX3_setCrew 69 = .ok (.getfield 40, 3) := by decide +kernel
theorem dX3_setCrew_72 : decode cX3_setCrew 72 = .ok (.ifCond .eq 9, 3) := by decide +kernel
theorem dX3_setCrew_75 : decode cX3_setCrew 75 = .ok (.aload_n 0, 1) := by decide +kernel
theorem dX3_setCrew_76 : decode cX3_setCrew 76 = .ok (.iconst 3, 1) := by decide +kernel
theorem dX3_setCrew_77 : decode cX3_setCrew 77 = .ok (.invokevirtual 36, 3) := by decide +kernel
theorem dX3_setCrew_80 : decode cX3_setCrew 80 = .ok (.ireturn, 1) := by decide +kernel
theorem dX3_setCrew_81 : decode cX3_setCrew 81 = .ok (.aload_n 0, 1) := by decide +kernel
theorem dX3_setCrew_82 : decode cX3_setCrew 82 = .ok (.iload_n 1, 1) := by decide +kernel
theorem dX3_setCrew_83 : decode cX3_setCrew 83 = .ok (.iconst 3, 1) := by decide +kernel
theorem dX3_setCrew_84 : decode cX3_setCrew 84 = .ok (.invokevirtual 56, 3) := by decide +kernel
theorem dX3_setCrew_87 : decode cX3_setCrew 87 = .ok (.istore 6, 2) := by decide +kernel
theorem dX3_setCrew_89 : decode cX3_setCrew 89 = .ok (.iconst 4, 1) := by decide +kernel
theorem dX3_setCrew_90 : decode cX3_setCrew 90 = .ok (.newarray .int, 2) := by decide +kernel
theorem dX3_setCrew_92 : decode cX3_setCrew 92 = .ok (.dup, 1) := by decide +kernel
theorem dX3_setCrew_93 : decode cX3_setCrew 93 = .ok (.iconst 0, 1) := by decide +kernel
theorem dX3_setCrew_94 : decode cX3_setCrew 94 = .ok (.iload_n 2, 1) := by decide +kernel
theorem dX3_setCrew_95 : decode cX3_setCrew 95 = .ok (.iastore, 1) := by decide +kernel
theorem dX3_setCrew_96 : decode cX3_setCrew 96 = .ok (.dup, 1) := by decide +kernel
theorem dX3_setCrew_97 : decode cX3_setCrew 97 = .ok (.iconst 1, 1) := by decide +kernel
theorem dX3_setCrew_98 : decode cX3_setCrew 98 = .ok (.iload_n 3, 1) := by decide +kernel
theorem dX3_setCrew_99 : decode cX3_setCrew 99 = .ok (.iastore, 1) := by decide +kernel
theorem dX3_setCrew_100 : decode cX3_setCrew 100 = .ok (.dup, 1) := by decide +kernel
theorem dX3_setCrew_101 : decode cX3_setCrew 101 = .ok (.iconst 2, 1) := by decide +kernel
theorem dX3_setCrew_102 : decode cX3_setCrew 102 = .ok (.iload 4, 2) := by decide +kernel
theorem dX3_setCrew_104 : decode cX3_setCrew 104 = .ok (.iastore, 1) := by decide +kernel
theorem dX3_setCrew_105 : decode cX3_setCrew 105 = .ok (.dup, 1) := by decide +kernel
theorem dX3_setCrew_106 : decode cX3_setCrew 106 = .ok (.iconst 3, 1) := by decide +kernel
theorem dX3_setCrew_107 : decode cX3_setCrew 107 = .ok (.iload 5, 2) := by decide +kernel
theorem dX3_setCrew_109 : decode cX3_setCrew 109 = .ok (.iastore, 1) := by decide +kernel
theorem dX3_setCrew_110 : decode cX3_setCrew 110 = .ok (.astore 7, 2) := by decide +kernel
theorem dX3_setCrew_112 : decode cX3_setCrew 112 = .ok (.aload 7, 2) := by decide +kernel
theorem dX3_setCrew_114 : decode cX3_setCrew 114 = .ok (.iconst 0, 1) := by decide +kernel
theorem dX3_setCrew_115 : decode cX3_setCrew 115 = .ok (.aload_n 0, 1) := by decide +kernel
theorem dX3_setCrew_116 : decode cX3_setCrew 116 = .ok (.getfield 20, 3) := by decide +kernel
theorem dX3_setCrew_119 : decode cX3_setCrew 119 = .ok (.bipush 29, 2) := by decide +kernel
theorem dX3_setCrew_121 : decode cX3_setCrew 121 = .ok (.iload_n 1, 1) := by decide +kernel
theorem dX3_setCrew_122 : decode cX3_setCrew 122 = .ok (.imul, 1) := by decide +kernel
theorem dX3_setCrew_123 : decode cX3_setCrew 123 = .ok (.iconst 3, 1) := by decide +kernel
theorem dX3_setCrew_124 : decode cX3_setCrew 124 = .ok (.iadd, 1) := by decide +kernel
theorem dX3_setCrew_125 : decode cX3_setCrew 125 = .ok (.iconst 4, 1) := by decide +kernel
theorem dX3_setCrew_126 : decode cX3_setCrew 126 = .ok (.invokestatic 46, 3) := by decide +kernel
theorem dX3_setCrew_129 : decode cX3_setCrew 129 = .ok (.aload_n 0, 1) := by decide +kernel
theorem dX3_setCrew_130 : decode cX3_setCrew 130 = .ok (.iload_n 1, 1) := by decide +kernel
theorem dX3_setCrew_131 : decode cX3_setCrew 131 = .ok (.bipush 11, 2) := by decide +kernel
theorem dX3_setCrew_133 : decode cX3_setCrew 133 = .ok (.iload 5, 2) := by decide +kernel
theorem dX3_setCrew_135 : decode cX3_setCrew 135 = .ok (.invokevirtual 52, 3) := by decide +kernel
theorem dX3_setCrew_138 : decode cX3_setCrew 138 = .ok (.iload 6, 2) := by decide +kernel
theorem dX3_setCrew_140 : decode cX3_setCrew 140 = .ok (.ireturn, 1) := by decide +kernel
theorem dX3_order_0 : decode cX3_order 0 = .ok (.aload_n 0, 1) := by decide +kernel
theorem dX3_order_1 : decode cX3_order 1 = .ok (.iconst 0, 1) := by decide +kernel
theorem dX3_order_2 : decode cX3_order 2 = .ok (.putfield 26, 3) := by decide +kernel
theorem dX3_order_5 : decode cX3_order 5 = .ok (.aload_n 0, 1) := by decide +kernel
theorem dX3_order_6 : decode cX3_order 6 = .ok (.iload_n 1, 1) := by decide +kernel
theorem dX3_order_7 : decode cX3_order 7 = .ok (.invokevirtual 64, 3) := by decide +kernel
theorem dX3_order_10 : decode cX3_order 10 = .ok (.ifCond .ne 9, 3) := by decide +kernel
theorem dX3_order_13 : decode cX3_order 13 = .ok (.aload_n 0, 1) := by decide +kernel
theorem dX3_order_14 : decode cX3_order 14 = .ok (.iconst 1, 1) := by decide +kernel
theorem dX3_order_15 : decode cX3_order 15 = .ok (.invokevirtual 36, 3) := by decide +kernel
theorem dX3_order_18 : decode cX3_order 18 = .ok (.ireturn, 1) := by decide +kernel
theorem dX3_order_19 : decode cX3_order 19 = .ok (.iload_n 2, 1) := by decide +kernel
theorem dX3_order_20 : decode cX3_order 20 = .ok (.iconst 0, 1) := by decide +kernel
theorem dX3_order_21 : decode cX3_order 21 = .ok (.bipush 10, 2) := by decide +kernel
theorem dX3_order_23 : decode cX3_order 23 = .ok (.invokestatic 32, 3) := by decide +kernel
theorem dX3_order_26 : decode cX3_order 26 = .ok (.ifCond .eq 13, 3) := by decide +kernel
theorem dX3_order_29 : decode cX3_order 29 = .ok (.iload_n 3, 1) := by decide +kernel
theorem dX3_order_30 : decode cX3_order 30 = .ok (.iconst 1, 1) := by decide +kernel
theorem dX3_order_31 : decode cX3_order 31 = .ok (.bipush 40, 2) := by decide +kernel
theorem dX3_order_33 : decode cX3_order 33 = .ok (.invokestatic 32, 3) := by decide +kernel
theorem dX3_order_36 : decode cX3_order 36 = .ok (.ifCond .ne 9, 3) := by decide +kernel
theorem dX3_order_39 : decode cX3_order 39 = .ok (.aload_n 0, 1) := by decide +kernel
theorem dX3_order_40 : decode cX3_order 40 = .ok (.iconst 2, 1) := by decide +kernel
theorem dX3_order_41 : decode cX3_order 41 = .ok (.invokevirtual 36, 3) := by decide +kernel
theorem dX3_order_44 : decode cX3_order 44 = .ok (.ireturn, 1) := by decide +kernel
theorem dX3_order_45 : decode cX3_order 45 = .ok (.aload_n 0, 1) := by decide +kernel
theorem dX3_order_46 : decode cX3_order 46 = .ok (.iload_n 1, 1) := by decide +kernel
theorem dX3_order_47 : decode cX3_order 47 = .ok (.bipush 7, 2) := by decide +kernel
theorem dX3_order_49 : decode cX3_order 49 = .ok (.invokevirtual 56, 3) := by decide +kernel
theorem dX3_order_52 : decode cX3_order 52 = .ok (.istore 4, 2) := by decide +kernel
theorem dX3_order_54 : decode cX3_order 54 = .ok (.aload_n 0, 1) := by decide +kernel
theorem dX3_order_55 : decode cX3_order 55 = .ok (.iload_n 1, 1) := by decide +kernel
theorem dX3_order_56 : decode cX3_order 56 = .ok (.bipush 7, 2) := by decide +kernel
theorem dX3_order_58 : decode cX3_order 58 = .ok (.iload_n 2, 1) := by decide +kernel
theorem dX3_order_59 : decode cX3_order 59 = .ok (.invokevirtual 52, 3) := by decide +kernel
theorem dX3_order_62 : decode cX3_order 62 = .ok (.aload_n 0, 1) := by decide +kernel
theorem dX3_order_63 : decode cX3_order 63 = .ok (.iload_n 1, 1) := by decide +kernel
theorem dX3_order_64 : decode cX3_order 64 = .ok (.bipush 8, 2) := by decide +kernel
theorem dX3_order_66 : decode cX3_order 66 = .ok (.iload_n 3, 1) := by decide +kernel
theorem dX3_order_67 : decode cX3_order 67 = .ok (.invokevirtual 52, 3) := by decide +kernel
theorem dX3_order_70 : decode cX3_order 70 = .ok (.iload 4, 2) := by decide +kernel
theorem dX3_order_72 : decode cX3_order 72 = .ok (.ireturn, 1) := by decide +kernel
theorem dX3_isCarried_0 : decode cX3_isCarried 0 = .ok (.iconst 0, 1) := by decide +kernel
theorem dX3_isCarried_1 : decode cX3_isCarried 1 = .ok (.istore_n 3, 1) := by decide +kernel
theorem dX3_isCarried_2 : decode cX3_isCarried 2 = .ok (.iload_n 3, 1) := by decide +kernel
theorem dX3_isCarried_3 : decode cX3_isCarried 3 = .ok (.iconst 3, 1) := by decide +kernel
theorem dX3_isCarried_4 : decode cX3_isCarried 4 = .ok (.if_icmp .ge 24, 3) := by decide +kernel
theorem dX3_isCarried_7 : decode cX3_isCarried 7 = .ok (.aload_n 0, 1) := by decide +kernel
theorem dX3_isCarried_8 : decode cX3_isCarried 8 = .ok (.iload_n 1, 1) := by decide +kernel
theorem dX3_isCarried_9 : decode cX3_isCarried 9 = .ok (.bipush 23, 2) := by decide +kernel
theorem dX3_isCarried_11 : decode cX3_isCarried 11 = .ok (.iload_n 3, 1) := by decide +kernel
theorem dX3_isCarried_12 : decode cX3_isCarried 12 = .ok (.iadd, 1) := by decide +kernel
theorem dX3_isCarried_13 : decode cX3_isCarried 13 = .ok (.invokevirtual 56, 3) := by decide +kernel
theorem dX3_isCarried_16 : decode cX3_isCarried 16 = .ok (.iload_n 2, 1) := by decide +kernel
theorem dX3_isCarried_17 : decode cX3_isCarried 17 = .ok (.if_icmp .ne 5, 3) := by decide +kernel
theorem dX3_isCarried_20 : decode cX3_isCarried 20 = .ok (.iconst 1, 1) := by decide +kernel
theorem dX3_isCarried_21 : decode cX3_isCarried 21 = .ok (.ireturn, 1) := by decide +kernel
theorem dX3_isCarried_22 : decode cX3_isCarried 22 = .ok (.iinc 3 1, 3) := by decide +kernel
theorem dX3_isCarried_25 : decode cX3_isCarried 25 = .ok (.goto (-23), 3) := by decide +kernel
theorem dX3_isCarried_28 : decode cX3_isCarried 28 = .ok (.iconst 0, 1) := by decide +kernel
theorem dX3_isCarried_29 : decode cX3_isCarried 29 = .ok (.ireturn, 1) := by decide +kernel
theorem dX3_where_0 : decode cX3_where 0 = .ok (.aload_n 0, 1) := by decide +kernel
theorem dX3_where_1 : decode cX3_where 1 = .ok (.iload_n 1, 1) := by decide +kernel
theorem dX3_where_2 : decode cX3_where 2 = .ok (.bipush 15, 2) := by decide +kernel
theorem dX3_where_4 : decode cX3_where 4 = .ok (.iload_n 2, 1) := by decide +kernel
theorem dX3_where_5 : decode cX3_where 5 = .ok (.iadd, 1) := by decide +kernel
theorem dX3_where_6 : decode cX3_where 6 = .ok (.invokevirtual 56, 3) := by decide +kernel
theorem dX3_where_9 : decode cX3_where 9 = .ok (.istore_n 3, 1) := by decide +kernel
theorem dX3_where_10 : decode cX3_where 10 = .ok (.aload_n 0, 1) := by decide +kernel
theorem dX3_where_11 : decode cX3_where 11 = .ok (.iload_n 1, 1) := by decide +kernel
theorem dX3_where_12 : decode cX3_where 12 = .ok (.iload_n 2, 1) := by decide +kernel
theorem dX3_where_13 : decode cX3_where 13 = .ok (.invokevirtual 68, 3) := by decide +kernel
theorem dX3_where_16 : decode cX3_where 16 = .ok (.ifCond .eq 7, 3) := by decide +kernel
theorem dX3_where_19 : decode cX3_where 19 = .ok (.iconst 3, 1) := by decide +kernel
theorem dX3_where_20 : decode cX3_where 20 = .ok (.goto 41, 3) := by decide +kernel
theorem dX3_where_23 : decode cX3_where 23 = .ok (.iload_n 3, 1) := by decide +kernel
theorem dX3_where_24 : decode cX3_where 24 = .ok (.aload_n 0, 1) := by decide +kernel
theorem dX3_where_25 : decode cX3_where 25 = .ok (.iload_n 1, 1) := by decide +kernel
theorem dX3_where_26 : decode cX3_where 26 = .ok (.bipush 9, 2) := by decide +kernel
theorem dX3_where_28 : decode cX3_where 28 = .ok (.invokevirtual 56, 3) := by decide +kernel
theorem dX3_where_31 : decode cX3_where 31 = .ok (.if_icmp .le 7, 3) := by decide +kernel
theorem dX3_where_34 : decode cX3_where 34 = .ok (.iconst 2, 1) := by decide +kernel
theorem dX3_where_35 : decode cX3_where 35 = .ok (.goto 26, 3) := by decide +kernel
theorem dX3_where_38 : decode cX3_where 38 = .ok (.iload_n 3, 1) := by decide +kernel
theorem dX3_where_39 : decode cX3_where 39 = .ok (.aload_n 0, 1) := by decide +kernel
theorem dX3_where_40 : decode cX3_where 40 = .ok (.iload_n 1, 1) := by decide +kernel
theorem dX3_where_41 : decode cX3_where 41 = .ok (.bipush 9, 2) := by decide +kernel
theorem dX3_where_43 : decode cX3_where 43 = .ok (.invokevirtual 56, 3) := by decide +kernel
theorem dX3_where_46 : decode cX3_where 46 = .ok (.aload_n 0, 1) := by decide +kernel
theorem dX3_where_47 : decode cX3_where 47 = .ok (.iload_n 1, 1) := by decide +kernel
theorem dX3_where_48 : decode cX3_where 48 = .ok (.iconst 0, 1) := by decide +kernel
theorem dX3_where_49 : decode cX3_where 49 = .ok (.invokevirtual 56, 3) := by decide +kernel
theorem dX3_where_52 : decode cX3_where 52 = .ok (.isub, 1) := by decide +kernel
theorem dX3_where_53 : decode cX3_where 53 = .ok (.if_icmp .ge 7, 3) := by decide +kernel
theorem dX3_where_56 : decode cX3_where 56 = .ok (.iconst 1, 1) := by decide +kernel
theorem dX3_where_57 : decode cX3_where 57 = .ok (.goto 4, 3) := by decide +kernel
theorem dX3_where_60 : decode cX3_where 60 = .ok (.iconst 0, 1) := by decide +kernel
theorem dX3_where_61 : decode cX3_where 61 = .ok (.ireturn, 1) := by decide +kernel
theorem dX3_many_0 : decode cX3_many 0 = .ok (.iconst 0, 1) := by decide +kernel
theorem dX3_many_1 : decode cX3_many 1 = .ok (.istore_n 3, 1) := by decide +kernel
theorem dX3_many_2 : decode cX3_many 2 = .ok (.iconst 0, 1) := by decide +kernel
theorem dX3_many_3 : decode cX3_many 3 = .ok (.istore 4, 2) := by decide +kernel
theorem dX3_many_5 : decode cX3_many 5 = .ok (.iload 4, 2) := by decide +kernel
theorem dX3_many_7 : decode cX3_many 7 = .ok (.aload_n 0, 1) := by decide +kernel
theorem dX3_many_8 : decode cX3_many 8 = .ok (.iload_n 1, 1) := by decide +kernel
theorem dX3_many_9 : decode cX3_many 9 = .ok (.iconst 2, 1) := by decide +kernel
theorem dX3_many_10 : decode cX3_many 10 = .ok (.invokevirtual 56, 3) := by decide +kernel
theorem dX3_many_13 : decode cX3_many 13 = .ok (.if_icmp .ge 28, 3) := by decide +kernel
theorem dX3_many_16 : decode cX3_many 16 = .ok (.iload_n 3, 1) := by decide +kernel
theorem dX3_many_17 : decode cX3_many 17 = .ok (.aload_n 0, 1) := by decide +kernel
theorem dX3_many_18 : decode cX3_many 18 = .ok (.iload_n 1, 1) := by decide +kernel
theorem dX3_many_19 : decode cX3_many 19 = .ok (.iload 4, 2) := by decide +kernel
theorem dX3_many_21 : decode cX3_many 21 = .ok (.invokevirtual 72, 3) := by decide +kernel
theorem dX3_many_24 : decode cX3_many 24 = .ok (.iload_n 2, 1) := by decide +kernel
theorem dX3_many_25 : decode cX3_many 25 = .ok (.if_icmp .ne 7, 3) := by decide +kernel
theorem dX3_many_28 : decode cX3_many 28 = .ok (.iconst 1, 1) := by decide +kernel
theorem dX3_many_29 : decode cX3_many 29 = .ok (.goto 4, 3) := by decide +kernel
theorem dX3_many_32 : decode cX3_many 32 = .ok (.iconst 0, 1) := by decide +kernel
theorem dX3_many_33 : decode cX3_many 33 = .ok (.iadd, 1) := by decide +kernel
theorem dX3_many_34 : decode cX3_many 34 = .ok (.istore_n 3, 1) := by decide +kernel
theorem dX3_many_35 : decode cX3_many 35 = .ok (.iinc 4 1, 3) := by decide +kernel
theorem dX3_many_38 : decode cX3_many 38 = .ok (.goto (-33), 3) := by decide +kernel
theorem dX3_many_41 : decode cX3_many 41 = .ok (.iload_n 3, 1) := by decide +kernel
theorem dX3_many_42 : decode cX3_many 42 = .ok (.ireturn, 1) := by decide +kernel
theorem dX3_pull_0 : decode cX3_pull 0 = .ok (.aload_n 0, 1) := by decide +kernel
theorem dX3_pull_1 : decode cX3_pull 1 = .ok (.iload_n 1, 1) := by decide +kernel
theorem dX3_pull_2 : decode cX3_pull 2 = .ok (.iconst 3, 1) := by decide +kernel
theorem dX3_pull_3 : decode cX3_pull 3 = .ok (.invokevirtual 56, 3) := by decide +kernel
theorem dX3_pull_6 : decode cX3_pull 6 = .ok (.aload_n 0, 1) := by decide +kernel
theorem dX3_pull_7 : decode cX3_pull 7 = .ok (.iload_n 1, 1) := by decide +kernel
theorem dX3_pull_8 : decode cX3_pull 8 = .ok (.iconst 4, 1) := by decide +kernel
theorem dX3_pull_9 : decode cX3_pull 9 = .ok (.invokevirtual 56, 3) := by decide +kernel
theorem dX3_pull_12 : decode cX3_pull 12 = .ok (.imul, 1) := by decide +kernel
theorem dX3_pull_13 : decode cX3_pull 13 = .ok (.aload_n 0, 1) := by decide +kernel
theorem dX3_pull_14 : decode cX3_pull 14 = .ok (.iload_n 1, 1) := by decide +kernel
theorem dX3_pull_15 : decode cX3_pull 15 = .ok (.bipush 7, 2) := by decide +kernel
theorem dX3_pull_17 : decode cX3_pull 17 = .ok (.invokevirtual 56, 3) := by decide +kernel
theorem dX3_pull_20 : decode cX3_pull 20 = .ok (.imul, 1) := by decide +kernel
theorem dX3_pull_21 : decode cX3_pull 21 = .ok (.sipush 500, 3) := by decide +kernel
theorem dX3_pull_24 : decode cX3_pull 24 = .ok (.aload_n 0, 1) := by decide +kernel
theorem dX3_pull_25 : decode cX3_pull 25 = .ok (.iload_n 1, 1) := by decide +kernel
theorem dX3_pull_26 : decode cX3_pull 26 = .ok (.bipush 10, 2) := by decide +kernel
theorem dX3_pull_28 : decode cX3_pull 28 = .ok (.invokevirtual 56, 3) := by decide +kernel
theorem dX3_pull_31 : decode cX3_pull 31 = .ok (.iadd, 1) := by decide +kernel
theorem dX3_pull_32 : decode cX3_pull 32 = .ok (.imul, 1) := by decide +kernel
theorem dX3_pull_33 : decode cX3_pull 33 = .ok (.sipush 5000, 3) := by decide +kernel
theorem dX3_pull_36 : decode cX3_pull 36 = .ok (.idiv, 1) := by decide +kernel
theorem dX3_pull_37 : decode cX3_pull 37 = .ok (.ireturn, 1) := by decide +kernel
theorem dX3_drag_0 : decode cX3_drag 0 = .ok (.aload_n 0, 1) := by decide +kernel
theorem dX3_drag_1 : decode cX3_drag 1 = .ok (.aload_n 0, 1) := by decide +kernel
theorem dX3_drag_2 : decode cX3_drag 2 = .ok (.iload_n 1, 1) := by decide +kernel
theorem dX3_drag_3 : decode cX3_drag 3 = .ok (.bipush 9, 2) := by decide +kernel
theorem dX3_drag_5 : decode cX3_drag 5 = .ok (.invokevirtual 56, 3) := by decide +kernel
theorem dX3_drag_8 : decode cX3_drag 8 = .ok (.invokevirtual 43, 3) := by decide +kernel
theorem dX3_drag_11 : decode cX3_drag 11 = .ok (.istore_n 2, 1) := by decide +kernel
theorem dX3_drag_12 : decode cX3_drag 12 = .ok (.aload_n 0, 1) := by decide +kernel
theorem dX3_drag_13 : decode cX3_drag 13 = .ok (.iload_n 1, 1) := by decide +kernel
theorem dX3_drag_14 : decode cX3_drag 14 = .ok (.iconst 1, 1) := by decide +kernel
theorem dX3_drag_15 : decode cX3_drag 15 = .ok (.invokevirtual 56, 3) := by decide +kernel
theorem dX3_drag_18 : decode cX3_drag 18 = .ok (.istore_n 3, 1) := by decide +kernel
theorem dX3_drag_19 : decode cX3_drag 19 = .ok (.aload_n 0, 1) := by decide +kernel
theorem dX3_drag_20 : decode cX3_drag 20 = .ok (.getfield 16, 3) := by decide +kernel
theorem dX3_drag_23 : decode cX3_drag 23 = .ok (.iconst 3, 1) := by decide +kernel
theorem dX3_drag_24 : decode cX3_drag 24 = .ok (.iload_n 2, 1) := by decide +kernel
theorem dX3_drag_25 : decode cX3_drag 25 = .ok (.imul, 1) := by decide +kernel
theorem dX3_drag_26 : decode cX3_drag 26 = .ok (.iconst 2, 1) := by decide +kernel
theorem dX3_drag_27 : decode cX3_drag 27 = .ok (.iadd, 1) := by decide +kernel
theorem dX3_drag_28 : decode cX3_drag 28 = .ok (.iaload, 1) := by decide +kernel
theorem dX3_drag_29 : decode cX3_drag 29 = .ok (.istore 4, 2) := by decide +kernel
theorem dX3_drag_31 : decode cX3_drag 31 = .ok (.aload_n 0, 1) := by decide +kernel
theorem dX3_drag_32 : decode cX3_drag 32 = .ok (.iload_n 1, 1) := by decide +kernel
theorem dX3_drag_33 : decode cX3_drag 33 = .ok (.iconst 0, 1) := by decide +kernel
theorem dX3_drag_34 : decode cX3_drag 34 = .ok (.invokevirtual 75, 3) := by decide +kernel
theorem dX3_drag_37 : decode cX3_drag 37 = .ok (.istore 5, 2) := by decide +kernel
theorem dX3_drag_39 : decode cX3_drag 39 = .ok (.iconst 0, 1) := by decide +kernel
theorem dX3_drag_40 : decode cX3_drag 40 = .ok (.iload_n 3, 1) := by decide +kernel
theorem dX3_drag_41 : decode cX3_drag 41 = .ok (.bipush 20, 2) := by decide +kernel
theorem dX3_drag_43 : decode cX3_drag 43 = .ok (.bipush 10, 2) := by decide +kernel
theorem dX3_drag_45 : decode cX3_drag 45 = .ok (.aload_n 0, 1) := by decide +kernel
theorem dX3_drag_46 : decode cX3_drag 46 = .ok (.getfield 16, 3) := by decide +kernel
theorem dX3_drag_49 : decode cX3_drag 49 = .ok (.iconst 3, 1) := by decide +kernel
theorem dX3_drag_50 : decode cX3_drag 50 = .ok (.iload_n 2, 1) := by decide +kernel
theorem dX3_drag_51 : decode cX3_drag 51 = .ok (.imul, 1) := by decide +kernel
theorem dX3_drag_52 : decode cX3_drag 52 = .ok (.iconst 1, 1) := by decide +kernel
theorem dX3_drag_53 : decode cX3_drag 53 = .ok (.iadd, 1) := by decide +kernel
theorem dX3_drag_54 : decode cX3_drag 54 = .ok (.iaload, 1) := by decide +kernel
theorem dX3_drag_55 : decode cX3_drag 55 = .ok (.imul, 1) := by decide +kernel
theorem dX3_drag_56 : decode cX3_drag 56 = .ok (.iadd, 1) := by decide +kernel
theorem dX3_drag_57 : decode cX3_drag 57 = .ok (.iconst 4, 1) := by decide +kernel
theorem dX3_drag_58 : decode cX3_drag 58 = .ok (.iload 4, 2) := by decide +kernel
theorem dX3_drag_60 : decode cX3_drag 60 = .ok (.imul, 1) := by decide +kernel
theorem dX3_drag_61 : decode cX3_drag 61 = .ok (.iadd, 1) := by decide +kernel
theorem dX3_drag_62 : decode cX3_drag 62 = .ok (.imul, 1) := by decide +kernel
theorem dX3_drag_63 : decode cX3_drag 63 = .ok (.bipush 10, 2) := by decide +kernel
theorem dX3_drag_65 : decode cX3_drag 65 = .ok (.idiv, 1) := by decide +kernel
theorem dX3_drag_66 : decode cX3_drag 66 = .ok (.invokestatic 78, 3) := by decide +kernel
theorem dX3_drag_69 : decode cX3_drag 69 = .ok (.istore 6, 2) := by decide +kernel
theorem dX3_drag_71 : decode cX3_drag 71 = .ok (.iload_n 3, 1) := by decide +kernel
theorem dX3_drag_72 : decode cX3_drag 72 = .ok (.bipush 10, 2) := by decide +kernel
theorem dX3_drag_74 : decode cX3_drag 74 = .ok (.idiv, 1) := by decide +kernel
theorem dX3_drag_75 : decode cX3_drag 75 = .ok (.iload 6, 2) := by decide +kernel
theorem dX3_drag_77 : decode cX3_drag 77 = .ok (.iconst 4, 1) := by decide +kernel
theorem dX3_drag_78 : decode cX3_drag 78 = .ok (.iload 5, 2) := by decide +kernel
theorem dX3_drag_80 : decode cX3_drag 80 = .ok (.invokestatic 83, 3) := by decide +kernel
theorem dX3_drag_83 : decode cX3_drag 83 = .ok (.iload_n 3, 1) := by decide +kernel
theorem dX3_drag_84 : decode cX3_drag 84 = .ok (.bipush 6, 2) := by decide +kernel
theorem dX3_drag_86 : decode cX3_drag 86 = .ok (.iload 4, 2) := by decide +kernel
theorem dX3_drag_88 : decode cX3_drag 88 = .ok (.iconst 2, 1) := by decide +kernel
theorem dX3_drag_89 : decode cX3_drag 89 = .ok (.idiv, 1) := by decide +kernel
theorem dX3_drag_90 : decode cX3_drag 90 = .ok (.isub, 1) := by decide +kernel
theorem dX3_drag_91 : decode cX3_drag 91 = .ok (.imul, 1) := by decide +kernel
theorem dX3_drag_92 : decode cX3_drag 92 = .ok (.bipush 10, 2) := by decide +kernel
theorem dX3_drag_94 : decode cX3_drag 94 = .ok (.idiv, 1) := by decide +kernel
theorem dX3_drag_95 : decode cX3_drag 95 = .ok (.imul, 1) := by decide +kernel
theorem dX3_drag_96 : decode cX3_drag 96 = .ok (.isub, 1) := by decide +kernel
theorem dX3_drag_97 : decode cX3_drag 97 = .ok (.invokestatic 78, 3) := by decide +kernel
theorem dX3_drag_100 : decode cX3_drag 100 = .ok (.istore 6, 2) := by decide +kernel
theorem dX3_drag_102 : decode cX3_drag 102 = .ok (.iload 5, 2) := by decide +kernel
theorem dX3_drag_104 : decode cX3_drag 104 = .ok (.iconst 2, 1) := by decide +kernel
theorem dX3_drag_105 : decode cX3_drag 105 = .ok (.if_icmp .ge 10, 3) := by decide +kernel
theorem dX3_drag_108 : decode cX3_drag 108 = .ok (.iconst 2, 1) := by decide +kernel
theorem dX3_drag_109 : decode cX3_drag 109 = .ok (.iload 6, 2) := by decide +kernel
theorem dX3_drag_111 : decode cX3_drag 111 = .ok (.imul, 1) := by decide +kernel
theorem dX3_drag_112 : decode cX3_drag 112 = .ok (.goto 5, 3) := by decide +kernel
theorem dX3_drag_115 : decode cX3_drag 115 = .ok (.iload 6, 2) := by decide +kernel
theorem dX3_drag_117 : decode cX3_drag 117 = .ok (.ireturn, 1) := by decide +kernel
theorem dX3_way_0 : decode cX3_way 0 = .ok (.iconst 0, 1) := by decide +kernel
theorem dX3_way_1 : decode cX3_way 1 = .ok (.bipush 12, 2) := by decide +kernel
theorem dX3_way_3 : decode cX3_way 3 = .ok (.aload_n 0, 1) := by decide +kernel
theorem dX3_way_4 : decode cX3_way 4 = .ok (.iload_n 1, 1) := by decide +kernel
theorem dX3_way_5 : decode cX3_way 5 = .ok (.invokevirtual 86, 3) := by decide +kernel
theorem dX3_way_8 : decode cX3_way 8 = .ok (.aload_n 0, 1) := by decide +kernel
theorem dX3_way_9 : decode cX3_way 9 = .ok (.iload_n 1, 1) := by decide +kernel
theorem dX3_way_10 : decode cX3_way 10 = .ok (.invokevirtual 89, 3) := by decide +kernel
theorem dX3_way_13 : decode cX3_way 13 = .ok (.isub, 1) := by decide +kernel
theorem dX3_way_14 : decode cX3_way 14 = .ok (.iconst 4, 1) := by decide +kernel
theorem dX3_way_15 : decode cX3_way 15 = .ok (.imul, 1) := by decide +kernel
theorem dX3_way_16 : decode cX3_way 16 = .ok (.aload_n 0, 1) := by decide +kernel
theorem dX3_way_17 : decode cX3_way 17 = .ok (.iload_n 1, 1) := by decide +kernel
theorem dX3_way_18 : decode cX3_way 18 = .ok (.iconst 1, 1) := by decide +kernel
theorem dX3_way_19 : decode cX3_way 19 = .ok (.invokevirtual 56, 3) := by decide +kernel
theorem dX3_way_22 : decode cX3_way 22 = .ok (.idiv, 1) := by decide +kernel
theorem dX3_way_23 : decode cX3_way 23 = .ok (.invokestatic 83, 3) := by decide +kernel
theorem dX3_way_26 : decode cX3_way 26 = .ok (.invokestatic 78, 3) := by decide +kernel
theorem dX3_way_29 : decode cX3_way 29 = .ok (.ireturn, 1) := by decide +kernel
theorem dX3_roll_0 : decode cX3_roll 0 = .ok (.aload_n 0, 1) := by decide +kernel
theorem dX3_roll_1 : decode cX3_roll 1 = .ok (.iload_n 1, 1) := by decide +kernel
theorem dX3_roll_2 : decode cX3_roll 2 = .ok (.invokevirtual 92, 3) := by decide +kernel
theorem dX3_roll_5 : decode cX3_roll 5 = .ok (.istore_n 2, 1) := by decide +kernel
theorem dX3_roll_6 : decode cX3_roll 6 = .ok (.iconst 0, 1) := by decide +kernel
theorem dX3_roll_7 : decode cX3_roll 7 = .ok (.istore_n 3, 1) := by decide +kernel
theorem dX3_roll_8 : decode cX3_roll 8 = .ok (.iload_n 3, 1) := by decide +kernel
theorem dX3_roll_9 : decode cX3_roll 9 = .ok (.aload_n 0, 1) := by decide +kernel
theorem dX3_roll_10 : decode cX3_roll 10 = .ok (.iload_n 1, 1) := by decide +kernel
theorem dX3_roll_11 : decode cX3_roll 11 = .ok (.iconst 2, 1) := by decide +kernel
theorem dX3_roll_12 : decode cX3_roll 12 = .ok (.invokevirtual 56, 3) := by decide +kernel
theorem dX3_roll_15 : decode cX3_roll 15 = .ok (.if_icmp .ge 40, 3) := by decide +kernel
theorem dX3_roll_18 : decode cX3_roll 18 = .ok (.aload_n 0, 1) := by decide +kernel
theorem dX3_roll_19 : decode cX3_roll 19 = .ok (.iload_n 1, 1) := by decide +kernel
theorem dX3_roll_20 : decode cX3_roll 20 = .ok (.iload_n 3, 1) := by decide +kernel
theorem dX3_roll_21 : decode cX3_roll 21 = .ok (.invokevirtual 72, 3) := by decide +kernel
theorem dX3_roll_24 : decode cX3_roll 24 = .ok (.ifCond .ne 25, 3) := by decide +kernel
theorem dX3_roll_27 : decode cX3_roll 27 = .ok (.aload_n 0, 1) := by decide +kernel
theorem dX3_roll_28 : decode cX3_roll 28 = .ok (.iload_n 1, 1) := by decide +kernel
theorem dX3_roll_29 : decode cX3_roll 29 = .ok (.bipush 15, 2) := by decide +kernel
theorem dX3_roll_31 : decode cX3_roll 31 = .ok (.iload_n 3, 1) := by decide +kernel
theorem dX3_roll_32 : decode cX3_roll 32 = .ok (.iadd, 1) := by decide +kernel
theorem dX3_roll_33 : decode cX3_roll 33 = .ok (.aload_n 0, 1) := by decide +kernel
theorem dX3_roll_34 : decode cX3_roll 34 = .ok (.iload_n 1, 1) := by decide +kernel
theorem dX3_roll_35 : decode cX3_roll 35 = .ok (.bipush 15, 2) := by decide +kernel
theorem dX3_roll_37 : decode cX3_roll 37 = .ok (.iload_n 3, 1) := by decide +kernel
theorem dX3_roll_38 : decode cX3_roll 38 = .ok (.iadd, 1) := by decide +kernel
theorem dX3_roll_39 : decode cX3_roll 39 = .ok (.invokevirtual 56, 3) := by decide +kernel
theorem dX3_roll_42 : decode cX3_roll 42 = .ok (.iload_n 2, 1) := by decide +kernel
theorem dX3_roll_43 : decode cX3_roll 43 = .ok (.iconst 2, 1) := by decide +kernel
theorem dX3_roll_44 : decode cX3_roll 44 = .ok (.idiv, 1) := by decide +kernel
theorem dX3_roll_45 : decode cX3_roll 45 = .ok (.iadd, 1) := by decide +kernel
theorem dX3_roll_46 : decode cX3_roll 46 = .ok (.invokevirtual 52, 3) := by decide +kernel
theorem dX3_roll_49 : decode cX3_roll 49 = .ok (.iinc 3 1, 3) := by decide +kernel
theorem dX3_roll_52 : decode cX3_roll 52 = .ok (.goto (-44), 3) := by decide +kernel
theorem dX3_roll_55 : decode cX3_roll 55 = .ok (.aload_n 0, 1) := by decide +kernel
theorem dX3_roll_56 : decode cX3_roll 56 = .ok (.iload_n 1, 1) := by decide +kernel
theorem dX3_roll_57 : decode cX3_roll 57 = .ok (.bipush 9, 2) := by decide +kernel
theorem dX3_roll_59 : decode cX3_roll 59 = .ok (.aload_n 0, 1) := by decide +kernel
theorem dX3_roll_60 : decode cX3_roll 60 = .ok (.iload_n 1, 1) := by decide +kernel
theorem dX3_roll_61 : decode cX3_roll 61 = .ok (.bipush 9, 2) := by decide +kernel
theorem dX3_roll_63 : decode cX3_roll 63 = .ok (.invokevirtual 56, 3) := by decide +kernel
theorem dX3_roll_66 : decode cX3_roll 66 = .ok (.iload_n 2, 1) := by decide +kernel
theorem dX3_roll_67 : decode cX3_roll 67 = .ok (.iadd, 1) := by decide +kernel
theorem dX3_roll_68 : decode cX3_roll 68 = .ok (.invokevirtual 52, 3) := by decide +kernel
theorem dX3_roll_71 : decode cX3_roll 71 = .ok (.aload_n 0, 1) := by decide +kernel
theorem dX3_roll_72 : decode cX3_roll 72 = .ok (.iload_n 1, 1) := by decide +kernel
theorem dX3_roll_73 : decode cX3_roll 73 = .ok (.bipush 14, 2) := by decide +kernel
theorem dX3_roll_75 : decode cX3_roll 75 = .ok (.iload_n 2, 1) := by decide +kernel
theorem dX3_roll_76 : decode cX3_roll 76 = .ok (.invokevirtual 52, 3) := by decide +kernel
theorem dX3_roll_79 : decode cX3_roll 79 = .ok (.return_, 1) := by decide +kernel
theorem dX3_runner_0 : decode cX3_runner 0 = .ok (.aload_n 0, 1) := by decide +kernel
theorem dX3_runner_1 : decode cX3_runner 1 = .ok (.iload_n 1, 1) := by decide +kernel
theorem dX3_runner_2 : decode cX3_runner 2 = .ok (.bipush 23, 2) := by decide +kernel
theorem dX3_runner_4 : decode cX3_runner 4 = .ok (.iload_n 2, 1) := by decide +kernel
theorem dX3_runner_5 : decode cX3_runner 5 = .ok (.iadd, 1) := by decide +kernel
theorem dX3_runner_6 : decode cX3_runner 6 = .ok (.invokevirtual 56, 3) := by decide +kernel
theorem dX3_runner_9 : decode cX3_runner 9 = .ok (.iconst (-1), 1) := by decide +kernel
theorem dX3_runner_10 : decode cX3_runner 10 = .ok (.if_icmp .eq 79, 3) := by decide +kernel
theorem dX3_runner_13 : decode cX3_runner 13 = .ok (.aload_n 0, 1) := by decide +kernel
theorem dX3_runner_14 : decode cX3_runner 14 = .ok (.iload_n 1, 1) := by decide +kernel
theorem dX3_runner_15 : decode cX3_runner 15 = .ok (.bipush 26, 2) := by decide +kernel
theorem dX3_runner_17 : decode cX3_runner 17 = .ok (.iload_n 2, 1) := by decide +kernel
theorem dX3_runner_18 : decode cX3_runner 18 = .ok (.iadd, 1) := by decide +kernel
theorem dX3_runner_19 : decode cX3_runner 19 = .ok (.aload_n 0, 1) := by decide +kernel
theorem dX3_runner_20 : decode cX3_runner 20 = .ok (.iload_n 1, 1) := by decide +kernel
theorem dX3_runner_21 : decode cX3_runner 21 = .ok (.bipush 26, 2) := by decide +kernel
theorem dX3_runner_23 : decode cX3_runner 23 = .ok (.iload_n 2, 1) := by decide +kernel
theorem dX3_runner_24 : decode cX3_runner 24 = .ok (.iadd, 1) := by decide +kernel
theorem dX3_runner_25 : decode cX3_runner 25 = .ok (.invokevirtual 56, 3) := by decide +kernel
theorem dX3_runner_28 : decode cX3_runner 28 = .ok (.iconst 1, 1) := by decide +kernel
theorem dX3_runner_29 : decode cX3_runner 29 = .ok (.isub, 1) := by decide +kernel
theorem dX3_runner_30 : decode cX3_runner 30 = .ok (.invokevirtual 52, 3) := by decide +kernel
theorem dX3_runner_33 : decode cX3_runner 33 = .ok (.aload_n 0, 1) := by decide +kernel
theorem dX3_runner_34 : decode cX3_runner 34 = .ok (.iload_n 1, 1) := by decide +kernel
theorem dX3_runner_35 : decode cX3_runner 35 = .ok (.bipush 26, 2) := by decide +kernel
theorem dX3_runner_37 : decode cX3_runner 37 = .ok (.iload_n 2, 1) := by decide +kernel
theorem dX3_runner_38 : decode cX3_runner 38 = .ok (.iadd, 1) := by decide +kernel
theorem dX3_runner_39 : decode cX3_runner 39 = .ok (.invokevirtual 56, 3) := by decide +kernel
theorem dX3_runner_42 : decode cX3_runner 42 = .ok (.ifCond .le 4, 3) := by decide +kernel
theorem dX3_runner_45 : decode cX3_runner 45 = .ok (.return_, 1) := by decide +kernel
theorem dX3_runner_46 : decode cX3_runner 46 = .ok (.aload_n 0, 1) := by decide +kernel
theorem dX3_runner_47 : decode cX3_runner 47 = .ok (.iload_n 1, 1) := by decide +kernel
theorem dX3_runner_48 : decode cX3_runner 48 = .ok (.bipush 15, 2) := by decide +kernel
theorem dX3_runner_50 : decode cX3_runner 50 = .ok (.aload_n 0, 1) := by decide +kernel
theorem dX3_runner_51 : decode cX3_runner 51 = .ok (.iload_n 1, 1) := by decide +kernel
theorem dX3_runner_52 : decode cX3_runner 52 = .ok (.bipush 23, 2) := by decide +kernel
theorem dX3_runner_54 : decode cX3_runner 54 = .ok (.iload_n 2, 1) := by decide +kernel
theorem dX3_runner_55 : decode cX3_runner 55 = .ok (.iadd, 1) := by decide +kernel
theorem dX3_runner_56 : decode cX3_runner 56 = .ok (.invokevirtual 56, 3) := by decide +kernel
theorem dX3_runner_59 : decode cX3_runner 59 = .ok (.iadd, 1) := by decide +kernel
theorem dX3_runner_60 : decode cX3_runner 60 = .ok (.aload_n 0, 1) := by decide +kernel
theorem dX3_runner_61 : decode cX3_runner 61 = .ok (.iload_n 1, 1) := by decide +kernel
theorem dX3_runner_62 : decode cX3_runner 62 = .ok (.bipush 9, 2) := by decide +kernel
theorem dX3_runner_64 : decode cX3_runner 64 = .ok (.invokevirtual 56, 3) := by decide +kernel
theorem dX3_runner_67 : decode cX3_runner 67 = .ok (.aload_n 0, 1) := by decide +kernel
theorem dX3_runner_68 : decode cX3_runner 68 = .ok (.iload_n 1, 1) := by decide +kernel
theorem dX3_runner_69 : decode cX3_runner 69 = .ok (.bipush 8, 2) := by decide +kernel
theorem dX3_runner_71 : decode cX3_runner 71 = .ok (.invokevirtual 56, 3) := by decide +kernel
theorem dX3_runner_74 : decode cX3_runner 74 = .ok (.iadd, 1) := by decide +kernel
theorem dX3_runner_75 : decode cX3_runner 75 = .ok (.invokevirtual 52, 3) := by decide +kernel
theorem dX3_runner_78 : decode cX3_runner 78 = .ok (.aload_n 0, 1) := by decide +kernel
theorem dX3_runner_79 : decode cX3_runner 79 = .ok (.iload_n 1, 1) := by decide +kernel
theorem dX3_runner_80 : decode cX3_runner 80 = .ok (.bipush 23, 2) := by decide +kernel
theorem dX3_runner_82 : decode cX3_runner 82 = .ok (.iload_n 2, 1) := by decide +kernel
theorem dX3_runner_83 : decode cX3_runner 83 = .ok (.iadd, 1) := by decide +kernel
theorem dX3_runner_84 : decode cX3_runner 84 = .ok (.iconst (-1), 1) := by decide +kernel
theorem dX3_runner_85 : decode cX3_runner 85 = .ok (.invokevirtual 52, 3) := by decide +kernel
theorem dX3_runner_88 : decode cX3_runner 88 = .ok (.return_, 1) := by decide +kernel
theorem dX3_runner_89 : decode cX3_runner 89 = .ok (.iconst (-1), 1) := by decide +kernel
theorem dX3_runner_90 : decode cX3_runner 90 = .ok (.istore_n 3, 1) := by decide +kernel
theorem dX3_runner_91 : decode cX3_runner 91 = .ok (.aload_n 0, 1) := by decide +kernel
theorem dX3_runner_92 : decode cX3_runner 92 = .ok (.iload_n 1, 1) := by decide +kernel
theorem dX3_runner_93 : decode cX3_runner 93 = .ok (.iconst 2, 1) := by decide +kernel
theorem dX3_runner_94 : decode cX3_runner 94 = .ok (.invokevirtual 56, 3) := by decide +kernel
theorem dX3_runner_97 : decode cX3_runner 97 = .ok (.iconst 1, 1) := by decide +kernel
theorem dX3_runner_98 : decode cX3_runner 98 = .ok (.isub, 1) := by decide +kernel
theorem dX3_runner_99 : decode cX3_runner 99 = .ok (.istore 4, 2) := by decide +kernel
theorem dX3_runner_101 : decode cX3_runner 101 = .ok (.iload 4, 2) := by decide +kernel
theorem dX3_runner_103 : decode cX3_runner 103 = .ok (.ifCond .lt 50, 3) := by decide +kernel
theorem dX3_runner_106 : decode cX3_runner 106 = .ok (.aload_n 0, 1) := by decide +kernel
theorem dX3_runner_107 : decode cX3_runner 107 = .ok (.iload_n 1, 1) := by decide +kernel
theorem dX3_runner_108 : decode cX3_runner 108 = .ok (.iload 4, 2) := by decide +kernel
theorem dX3_runner_110 : decode cX3_runner 110 = .ok (.invokevirtual 72, 3) := by decide +kernel
theorem dX3_runner_113 : decode cX3_runner 113 = .ok (.iconst 1, 1) := by decide +kernel
theorem dX3_runner_114 : decode cX3_runner 114 = .ok (.if_icmp .ne 33, 3) := by decide +kernel
theorem dX3_runner_117 : decode cX3_runner 117 = .ok (.iload_n 3, 1) := by decide +kernel
theorem dX3_runner_118 : decode cX3_runner 118 = .ok (.iconst (-1), 1) := by decide +kernel
theorem dX3_runner_119 : decode cX3_runner 119 = .ok (.if_icmp .eq 25, 3) := by decide +kernel
theorem dX3_runner_122 : decode cX3_runner 122 = .ok (.aload_n 0, 1) := by decide +kernel
theorem dX3_runner_123 : decode cX3_runner 123 = .ok (.iload_n 1, 1) := by decide +kernel
theorem dX3_runner_124 : decode cX3_runner 124 = .ok (.bipush 15, 2) := by decide +kernel
theorem dX3_runner_126 : decode cX3_runner 126 = .ok (.iload 4, 2) := by decide +kernel
theorem dX3_runner_128 : decode cX3_runner 128 = .ok (.iadd, 1) := by decide +kernel
theorem dX3_runner_129 : decode cX3_runner 129 = .ok (.invokevirtual 56, 3) := by decide +kernel
theorem dX3_runner_132 : decode cX3_runner 132 = .ok (.aload_n 0, 1) := by decide +kernel
theorem dX3_runner_133 : decode cX3_runner 133 = .ok (.iload_n 1, 1) := by decide +kernel
theorem dX3_runner_134 : decode cX3_runner 134 = .ok (.bipush 15, 2) := by decide +kernel
theorem dX3_runner_136 : decode cX3_runner 136 = .ok (.iload_n 3, 1) := by decide +kernel
theorem dX3_runner_137 : decode cX3_runner 137 = .ok (.iadd, 1) := by decide +kernel
theorem dX3_runner_138 : decode cX3_runner 138 = .ok (.invokevirtual 56, 3) := by decide +kernel
theorem dX3_runner_141 : decode cX3_runner 141 = .ok (.if_icmp .gt 6, 3) := by decide +kernel
theorem dX3_runner_144 : decode cX3_runner 144 = .ok (.iload 4, 2) := by decide +kernel
theorem dX3_runner_146 : decode cX3_runner 146 = .ok (.istore_n 3, 1) := by decide +kernel
theorem dX3_runner_147 : decode cX3_runner 147 = .ok (.iinc 4 (-1), 3) := by decide +kernel
theorem dX3_runner_150 : decode cX3_runner 150 = .ok (.goto (-49), 3) := by decide +kernel
theorem dX3_runner_153 : decode cX3_runner 153 = .ok (.iload_n 3, 1) := by decide +kernel
theorem dX3_runner_154 : decode cX3_runner 154 = .ok (.iconst (-1), 1) := by decide +kernel
theorem dX3_runner_155 : decode cX3_runner 155 = .ok (.if_icmp .ne 4, 3) := by decide +kernel
theorem dX3_runner_158 : decode cX3_runner 158 = .ok (.return_, 1) := by decide +kernel
theorem dX3_runner_159 : decode cX3_runner 159 = .ok (.aload_n 0, 1) := by decide +kernel
theorem dX3_runner_160 : decode cX3_runner 160 = .ok (.iload_n 1, 1) := by decide +kernel
theorem dX3_runner_161 : decode cX3_runner 161 = .ok (.bipush 23, 2) := by decide +kernel
theorem dX3_runner_163 : decode cX3_runner 163 = .ok (.iload_n 2, 1) := by decide +kernel
theorem dX3_runner_164 : decode cX3_runner 164 = .ok (.iadd, 1) := by decide +kernel
theorem dX3_runner_165 : decode cX3_runner 165 = .ok (.iload_n 3, 1) := by decide +kernel
theorem dX3_runner_166 : decode cX3_runner 166 = .ok (.invokevirtual 52, 3) := by decide +kernel
theorem dX3_runner_169 : decode cX3_runner 169 = .ok (.aload_n 0, 1) := by decide +kernel
theorem dX3_runner_170 : decode cX3_runner 170 = .ok (.iload_n 1, 1) := by decide +kernel
theorem dX3_runner_171 : decode cX3_runner 171 = .ok (.bipush 26, 2) := by decide +kernel
theorem dX3_runner_173 : decode cX3_runner 173 = .ok (.iload_n 2, 1) := by decide +kernel
theorem dX3_runner_174 : decode cX3_runner 174 = .ok (.iadd, 1) := by decide +kernel
theorem dX3_runner_175 : decode cX3_runner 175 = .ok (.aload_n 0, 1) := by decide +kernel
theorem dX3_runner_176 : decode cX3_runner 176 = .ok (.iload_n 1, 1) := by decide +kernel
theorem dX3_runner_177 : decode cX3_runner 177 = .ok (.bipush 9, 2) := by decide +kernel
theorem dX3_runner_179 : decode cX3_runner 179 = .ok (.invokevirtual 56, 3) := by decide +kernel
theorem dX3_runner_182 : decode cX3_runner 182 = .ok (.aload_n 0, 1) := by decide +kernel
theorem dX3_runner_183 : decode cX3_runner 183 = .ok (.iload_n 1, 1) := by decide +kernel
theorem dX3_runner_184 : decode cX3_runner 184 = .ok (.bipush 8, 2) := by decide +kernel
theorem dX3_runner_186 : decode cX3_runner 186 = .ok (.invokevirtual 56, 3) := by decide +kernel
theorem dX3_runner_189 : decode cX3_runner 189 = .ok (.iadd, 1) := by decide +kernel
theorem dX3_runner_190 : decode cX3_runner 190 = .ok (.aload_n 0, 1) := by decide +kernel
theorem dX3_runner_191 : decode cX3_runner 191 = .ok (.iload_n 1, 1) := by decide +kernel
theorem dX3_runner_192 : decode cX3_runner 192 = .ok (.bipush 15, 2) := by decide +kernel
theorem dX3_runner_194 : decode cX3_runner 194 = .ok (.iload_n 3, 1) := by decide +kernel
theorem dX3_runner_195 : decode cX3_runner 195 = .ok (.iadd, 1) := by decide +kernel
theorem dX3_runner_196 : decode cX3_runner 196 = .ok (.invokevirtual 56, 3) := by decide +kernel
theorem dX3_runner_199 : decode cX3_runner 199 = .ok (.isub, 1) := by decide +kernel
theorem dX3_runner_200 : decode cX3_runner 200 = .ok (.bipush 12, 2) := by decide +kernel
theorem dX3_runner_202 : decode cX3_runner 202 = .ok (.idiv, 1) := by decide +kernel
theorem dX3_runner_203 : decode cX3_runner 203 = .ok (.iconst 2, 1) := by decide +kernel
theorem dX3_runner_204 : decode cX3_runner 204 = .ok (.iadd, 1) := by decide +kernel
theorem dX3_runner_205 : decode cX3_runner 205 = .ok (.invokevirtual 52, 3) := by decide +kernel
theorem dX3_runner_208 : decode cX3_runner 208 = .ok (.return_, 1) := by decide +kernel
theorem dX3_breathe_0 : decode cX3_breathe 0 = .ok (.aload_n 0, 1) := by decide +kernel
theorem dX3_breathe_1 : decode cX3_breathe 1 = .ok (.iload_n 1, 1) := by decide +kernel
theorem dX3_breathe_2 : decode cX3_breathe 2 = .ok (.bipush 10, 2) := by decide +kernel
theorem dX3_breathe_4 : decode cX3_breathe 4 = .ok (.iconst 0, 1) := by decide +kernel
theorem dX3_breathe_5 : decode cX3_breathe 5 = .ok (.sipush 1000, 3) := by decide +kernel
theorem dX3_breathe_8 : decode cX3_breathe 8 = .ok (.aload_n 0, 1) := by decide +kernel
theorem dX3_breathe_9 : decode cX3_breathe 9 = .ok (.iload_n 1, 1) := by decide +kernel
theorem dX3_breathe_10 : decode cX3_breathe 10 = .ok (.bipush 10, 2) := by decide +kernel
theorem dX3_breathe_12 : decode cX3_breathe 12 = .ok (.invokevirtual 56, 3) := by decide +kernel
theorem dX3_breathe_15 : decode cX3_breathe 15 = .ok (.iload_n 2, 1) := by decide +kernel
theorem dX3_breathe_16 : decode cX3_breathe 16 = .ok (.iload_n 2, 1) := by decide +kernel
theorem dX3_breathe_17 : decode cX3_breathe 17 = .ok (.imul, 1) := by decide +kernel
theorem dX3_breathe_18 : decode cX3_breathe 18 = .ok (.iconst 2, 1) := by decide +kernel
theorem dX3_breathe_19 : decode cX3_breathe 19 = .ok (.idiv, 1) := by decide +kernel
theorem dX3_breathe_20 : decode cX3_breathe 20 = .ok (.isub, 1) := by decide +kernel
theorem dX3_breathe_21 : decode cX3_breathe 21 = .ok (.bipush 18, 2) := by decide +kernel
theorem dX3_breathe_23 : decode cX3_breathe 23 = .ok (.iadd, 1) := by decide +kernel
theorem dX3_breathe_24 : decode cX3_breathe 24 = .ok (.invokestatic 83, 3) := by decide +kernel
theorem dX3_breathe_27 : decode cX3_breathe 27 = .ok (.invokestatic 78, 3) := by decide +kernel
theorem dX3_breathe_30 : decode cX3_breathe 30 = .ok (.invokevirtual 52, 3) := by decide +kernel
theorem dX3_breathe_33 : decode cX3_breathe 33 = .ok (.return_, 1) := by decide +kernel
theorem dX3_tickOf_0 : decode cX3_tickOf 0 = .ok (.aload_n 0, 1) := by decide +kernel
theorem dX3_tickOf_1 : decode cX3_tickOf 1 = .ok (.iload_n 1, 1) := by decide +kernel
theorem dX3_tickOf_2 : decode cX3_tickOf 2 = .ok (.bipush 13, 2) := by decide +kernel
theorem dX3_tickOf_4 : decode cX3_tickOf 4 = .ok (.invokevirtual 56, 3) := by decide +kernel
theorem dX3_tickOf_7 : decode cX3_tickOf 7 = .ok (.iconst (-1), 1) := by decide +kernel
theorem dX3_tickOf_8 : decode cX3_tickOf 8 = .ok (.if_icmp .eq 4, 3) := by decide +kernel
theorem dX3_tickOf_11 : decode cX3_tickOf 11 = .ok (.return_, 1) := by decide +kernel
theorem dX3_tickOf_12 : decode cX3_tickOf 12 = .ok (.aload_n 0, 1) := by decide +kernel
theorem dX3_tickOf_13 : decode cX3_tickOf 13 = .ok (.iload_n 1, 1) := by decide +kernel
theorem dX3_tickOf_14 : decode cX3_tickOf 14 = .ok (.bipush 12, 2) := by decide +kernel
theorem dX3_tickOf_16 : decode cX3_tickOf 16 = .ok (.invokevirtual 56, 3) := by decide +kernel
theorem dX3_tickOf_19 : decode cX3_tickOf 19 = .ok (.ifCond .ne 67, 3) := by decide +kernel
theorem dX3_tickOf_22 : decode cX3_tickOf 22 = .ok (.aload_n 0, 1) := by decide +kernel
theorem dX3_tickOf_23 : decode cX3_tickOf 23 = .ok (.iload_n 1, 1) := by decide +kernel
theorem dX3_tickOf_24 : decode cX3_tickOf 24 = .ok (.invokevirtual 86, 3) := by decide +kernel
theorem dX3_tickOf_27 : decode cX3_tickOf 27 = .ok (.aload_n 0, 1) := by decide +kernel
theorem dX3_tickOf_28 : decode cX3_tickOf 28 = .ok (.iload_n 1, 1) := by decide +kernel
theorem dX3_tickOf_29 : decode cX3_tickOf 29 = .ok (.bipush 11, 2) := by decide +kernel
theorem dX3_tickOf_31 : decode cX3_tickOf 31 = .ok (.invokevirtual 56, 3) := by decide +kernel
theorem dX3_tickOf_34 : decode cX3_tickOf 34 = .ok (.if_icmp .le 52, 3) := by decide +kernel
theorem dX3_tickOf_37 : decode cX3_tickOf 37 = .ok (.aload_n 0, 1) := by decide +kernel
theorem dX3_tickOf_38 : decode cX3_tickOf 38 = .ok (.iload_n 1, 1) := by decide +kernel
theorem dX3_tickOf_39 : decode cX3_tickOf 39 = .ok (.bipush 11, 2) := by decide +kernel
theorem dX3_tickOf_41 : decode cX3_tickOf 41 = .ok (.bipush 10, 2) := by decide +kernel
theorem dX3_tickOf_43 : decode cX3_tickOf 43 = .ok (.aload_n 0, 1) := by decide +kernel
theorem dX3_tickOf_44 : decode cX3_tickOf 44 = .ok (.iload_n 1, 1) := by decide +kernel
theorem dX3_tickOf_45 : decode cX3_tickOf 45 = .ok (.bipush 11, 2) := by decide +kernel
theorem dX3_tickOf_47 : decode cX3_tickOf 47 = .ok (.invokevirtual 56, 3) := by decide +kernel
theorem dX3_tickOf_50 : decode cX3_tickOf 50 = .ok (.aload_n 0, 1) := by decide +kernel
theorem dX3_tickOf_51 : decode cX3_tickOf 51 = .ok (.iload_n 1, 1) := by decide +kernel
theorem dX3_tickOf_52 : decode cX3_tickOf 52 = .ok (.bipush 11, 2) := by decide +kernel
theorem dX3_tickOf_54 : decode cX3_tickOf 54 = .ok (.invokevirtual 56, 3) := by decide +kernel
theorem dX3_tickOf_57 : decode cX3_tickOf 57 = .ok (.bipush 10, 2) := by decide +kernel
theorem dX3_tickOf_59 : decode cX3_tickOf 59 = .ok (.idiv, 1) := by decide +kernel
theorem dX3_tickOf_60 : decode cX3_tickOf 60 = .ok (.isub, 1) := by decide +kernel
theorem dX3_tickOf_61 : decode cX3_tickOf 61 = .ok (.invokestatic 78, 3) := by decide +kernel
theorem dX3_tickOf_64 : decode cX3_tickOf 64 = .ok (.invokevirtual 52, 3) := by decide +kernel
theorem dX3_tickOf_67 : decode cX3_tickOf 67 = .ok (.aload_n 0, 1) := by decide +kernel
theorem dX3_tickOf_68 : decode cX3_tickOf 68 = .ok (.iload_n 1, 1) := by decide +kernel
theorem dX3_tickOf_69 : decode cX3_tickOf 69 = .ok (.bipush 12, 2) := by decide +kernel
theorem dX3_tickOf_71 : decode cX3_tickOf 71 = .ok (.bipush 15, 2) := by decide +kernel
theorem dX3_tickOf_73 : decode cX3_tickOf 73 = .ok (.invokevirtual 52, 3) := by decide +kernel
theorem dX3_tickOf_76 : decode cX3_tickOf 76 = .ok (.aload_n 0, 1) := by decide +kernel
theorem dX3_tickOf_77 : decode cX3_tickOf 77 = .ok (.dup, 1) := by decide +kernel
theorem dX3_tickOf_78 : decode cX3_tickOf 78 = .ok (.getfield 95, 3) := by decide +kernel
theorem dX3_tickOf_81 : decode cX3_tickOf 81 = .ok (.iconst 1, 1) := by decide +kernel
theorem dX3_tickOf_82 : decode cX3_tickOf 82 = .ok (.iadd, 1) := by decide +kernel
theorem dX3_tickOf_83 : decode cX3_tickOf 83 = .ok (.putfield 95, 3) := by decide +kernel
theorem dX3_tickOf_86 : decode cX3_tickOf 86 = .ok (.aload_n 0, 1) := by decide +kernel
theorem dX3_tickOf_87 : decode cX3_tickOf 87 = .ok (.iload_n 1, 1) := by decide +kernel
theorem dX3_tickOf_88 : decode cX3_tickOf 88 = .ok (.bipush 12, 2) := by decide +kernel
theorem dX3_tickOf_90 : decode cX3_tickOf 90 = .ok (.invokevirtual 56, 3) := by decide +kernel
theorem dX3_tickOf_93 : decode cX3_tickOf 93 = .ok (.ifCond .le 34, 3) := by decide +kernel
theorem dX3_tickOf_96 : decode cX3_tickOf 96 = .ok (.aload_n 0, 1) := by decide +kernel
theorem dX3_tickOf_97 : decode cX3_tickOf 97 = .ok (.iload_n 1, 1) := by decide +kernel
theorem dX3_tickOf_98 : decode cX3_tickOf 98 = .ok (.bipush 12, 2) := by decide +kernel
theorem dX3_tickOf_100 : decode cX3_tickOf 100 = .ok (.aload_n 0, 1) := by decide +kernel
theorem dX3_tickOf_101 : decode cX3_tickOf 101 = .ok (.iload_n 1, 1) := by decide +kernel
theorem dX3_tickOf_102 : decode cX3_tickOf 102 = .ok (.bipush 12, 2) := by decide +kernel
theorem dX3_tickOf_104 : decode cX3_tickOf 104 = .ok (.invokevirtual 56, 3) := by decide +kernel
theorem dX3_tickOf_107 : decode cX3_tickOf 107 = .ok (.iconst 1, 1) := by decide +kernel
theorem dX3_tickOf_108 : decode cX3_tickOf 108 = .ok (.isub, 1) := by decide +kernel
theorem dX3_tickOf_109 : decode cX3_tickOf 109 = .ok (.invokevirtual 52, 3) := by decide +kernel
theorem dX3_tickOf_112 : decode cX3_tickOf 112 = .ok (.aload_n 0, 1) := by decide +kernel
theorem dX3_tickOf_113 : decode cX3_tickOf 113 = .ok (.iload_n 1, 1) := by decide +kernel
theorem dX3_tickOf_114 : decode cX3_tickOf 114 = .ok (.bipush 14, 2) := by decide +kernel
theorem dX3_tickOf_116 : decode cX3_tickOf 116 = .ok (.iconst 0, 1) := by decide +kernel
theorem dX3_tickOf_117 : decode cX3_tickOf 117 = .ok (.invokevirtual 52, 3) := by decide +kernel
theorem dX3_tickOf_120 : decode cX3_tickOf 120 = .ok (.aload_n 0, 1) := by decide +kernel
theorem dX3_tickOf_121 : decode cX3_tickOf 121 = .ok (.iload_n 1, 1) := by decide +kernel
theorem dX3_tickOf_122 : decode cX3_tickOf 122 = .ok (.iconst 0, 1) := by decide +kernel
theorem dX3_tickOf_123 : decode cX3_tickOf 123 = .ok (.invokevirtual 98, 3) := by decide +kernel
theorem dX3_tickOf_126 : decode cX3_tickOf 126 = .ok (.return_, 1) := by decide +kernel
theorem dX3_tickOf_127 : decode cX3_tickOf 127 = .ok (.aload_n 0, 1) := by decide +kernel
theorem dX3_tickOf_128 : decode cX3_tickOf 128 = .ok (.iload_n 1, 1) := by decide +kernel
theorem dX3_tickOf_129 : decode cX3_tickOf 129 = .ok (.invokevirtual 102, 3) := by decide +kernel
theorem dX3_tickOf_132 : decode cX3_tickOf 132 = .ok (.iconst 0, 1) := by decide +kernel
theorem dX3_tickOf_133 : decode cX3_tickOf 133 = .ok (.istore_n 2, 1) := by decide +kernel
theorem dX3_tickOf_134 : decode cX3_tickOf 134 = .ok (.iload_n 2, 1) := by decide +kernel
theorem dX3_tickOf_135 : decode cX3_tickOf 135 = .ok (.aload_n 0, 1) := by decide +kernel
theorem dX3_tickOf_136 : decode cX3_tickOf 136 = .ok (.iload_n 1, 1) := by decide +kernel
theorem dX3_tickOf_137 : decode cX3_tickOf 137 = .ok (.iconst 5, 1) := by decide +kernel
theorem dX3_tickOf_138 : decode cX3_tickOf 138 = .ok (.invokevirtual 56, 3) := by decide +kernel
theorem dX3_tickOf_141 : decode cX3_tickOf 141 = .ok (.if_icmp .ge 15, 3) := by decide +kernel
theorem dX3_tickOf_144 : decode cX3_tickOf 144 = .ok (.aload_n 0, 1) := by decide +kernel
theorem dX3_tickOf_145 : decode cX3_tickOf 145 = .ok (.iload_n 1, 1) := by decide +kernel
theorem dX3_tickOf_146 : decode cX3_tickOf 146 = .ok (.iload_n 2, 1) := by decide +kernel
theorem dX3_tickOf_147 : decode cX3_tickOf 147 = .ok (.invokevirtual 105, 3) := by decide +kernel
theorem dX3_tickOf_150 : decode cX3_tickOf 150 = .ok (.iinc 2 1, 3) := by decide +kernel
theorem dX3_tickOf_153 : decode cX3_tickOf 153 = .ok (.goto (-19), 3) := by decide +kernel
theorem dX3_tickOf_156 : decode cX3_tickOf 156 = .ok (.aload_n 0, 1) := by decide +kernel
theorem dX3_tickOf_157 : decode cX3_tickOf 157 = .ok (.iload_n 1, 1) := by decide +kernel
theorem dX3_tickOf_158 : decode cX3_tickOf 158 = .ok (.aload_n 0, 1) := by decide +kernel
theorem dX3_tickOf_159 : decode cX3_tickOf 159 = .ok (.iload_n 1, 1) := by decide +kernel
theorem dX3_tickOf_160 : decode cX3_tickOf 160 = .ok (.bipush 7, 2) := by decide +kernel
theorem dX3_tickOf_162 : decode cX3_tickOf 162 = .ok (.invokevirtual 56, 3) := by decide +kernel
theorem dX3_tickOf_165 : decode cX3_tickOf 165 = .ok (.invokevirtual 98, 3) := by decide +kernel
theorem dX3_tickOf_168 : decode cX3_tickOf 168 = .ok (.aload_n 0, 1) := by decide +kernel
theorem dX3_tickOf_169 : decode cX3_tickOf 169 = .ok (.iload_n 1, 1) := by decide +kernel
theorem dX3_tickOf_170 : decode cX3_tickOf 170 = .ok (.bipush 9, 2) := by decide +kernel
theorem dX3_tickOf_172 : decode cX3_tickOf 172 = .ok (.invokevirtual 56, 3) := by decide +kernel
theorem dX3_tickOf_175 : decode cX3_tickOf 175 = .ok (.aload_n 0, 1) := by decide +kernel
theorem dX3_tickOf_176 : decode cX3_tickOf 176 = .ok (.getfield 9, 3) := by decide +kernel
theorem dX3_tickOf_179 : decode cX3_tickOf 179 = .ok (.if_icmp .lt 14, 3) := by decide +kernel
theorem dX3_tickOf_182 : decode cX3_tickOf 182 = .ok (.aload_n 0, 1) := by decide +kernel
theorem dX3_tickOf_183 : decode cX3_tickOf 183 = .ok (.iload_n 1, 1) := by decide +kernel
theorem dX3_tickOf_184 : decode cX3_tickOf 184 = .ok (.bipush 13, 2) := by decide +kernel
theorem dX3_tickOf_186 : decode cX3_tickOf 186 = .ok (.aload_n 0, 1) := by decide +kernel
theorem dX3_tickOf_187 : decode cX3_tickOf 187 = .ok (.getfield 40, 3) := by decide +kernel
theorem dX3_tickOf_190 : decode cX3_tickOf 190 = .ok (.invokevirtual 52, 3) := by decide +kernel
theorem dX3_tickOf_193 : decode cX3_tickOf 193 = .ok (.return_, 1) := by decide +kernel
theorem dX3_tickOn_0 : decode cX3_tickOn 0 = .ok (.aload_n 0, 1) := by decide +kernel
theorem dX3_tickOn_1 : decode cX3_tickOn 1 = .ok (.dup, 1) := by decide +kernel
theorem dX3_tickOn_2 : decode cX3_tickOn 2 = .ok (.getfield 40, 3) := by decide +kernel
theorem dX3_tickOn_5 : decode cX3_tickOn 5 = .ok (.iconst 1, 1) := by decide +kernel
theorem dX3_tickOn_6 : decode cX3_tickOn 6 = .ok (.iadd, 1) := by decide +kernel
theorem dX3_tickOn_7 : decode cX3_tickOn 7 = .ok (.putfield 40, 3) := by decide +kernel
theorem dX3_tickOn_10 : decode cX3_tickOn 10 = .ok (.iconst 0, 1) := by decide +kernel
theorem dX3_tickOn_11 : decode cX3_tickOn 11 = .ok (.istore_n 1, 1) := by decide +kernel
theorem dX3_tickOn_12 : decode cX3_tickOn 12 = .ok (.iload_n 1, 1) := by decide +kernel
theorem dX3_tickOn_13 : decode cX3_tickOn 13 = .ok (.aload_n 0, 1) := by decide +kernel
theorem dX3_tickOn_14 : decode cX3_tickOn 14 = .ok (.getfield 29, 3) := by decide +kernel
theorem dX3_tickOn_17 : decode cX3_tickOn 17 = .ok (.if_icmp .ge 14, 3) := by decide +kernel
theorem dX3_tickOn_20 : decode cX3_tickOn 20 = .ok (.aload_n 0, 1) := by decide +kernel
theorem dX3_tickOn_21 : decode cX3_tickOn 21 = .ok (.iload_n 1, 1) := by decide +kernel
theorem dX3_tickOn_22 : decode cX3_tickOn 22 = .ok (.invokevirtual 108, 3) := by decide +kernel
theorem dX3_tickOn_25 : decode cX3_tickOn 25 = .ok (.iinc 1 1, 3) := by decide +kernel
theorem dX3_tickOn_28 : decode cX3_tickOn 28 = .ok (.goto (-16), 3) := by decide +kernel
theorem dX3_tickOn_31 : decode cX3_tickOn 31 = .ok (.return_, 1) := by decide +kernel
theorem dX3_ended_0 : decode cX3_ended 0 = .ok (.iconst 0, 1) := by decide +kernel
theorem dX3_ended_1 : decode cX3_ended 1 = .ok (.istore_n 1, 1) := by decide +kernel
theorem dX3_ended_2 : decode cX3_ended 2 = .ok (.iconst 0, 1) := by decide +kernel
theorem dX3_ended_3 : decode cX3_ended 3 = .ok (.istore_n 2, 1) := by decide +kernel
theorem dX3_ended_4 : decode cX3_ended 4 = .ok (.iload_n 2, 1) := by decide +kernel
theorem dX3_ended_5 : decode cX3_ended 5 = .ok (.aload_n 0, 1) := by decide +kernel
theorem dX3_ended_6 : decode cX3_ended 6 = .ok (.getfield 29, 3) := by decide +kernel
theorem dX3_ended_9 : decode cX3_ended 9 = .ok (.if_icmp .ge 28, 3) := by decide +kernel
theorem dX3_ended_12 : decode cX3_ended 12 = .ok (.iload_n 1, 1) := by decide +kernel
theorem dX3_ended_13 : decode cX3_ended 13 = .ok (.aload_n 0, 1) := by decide +kernel
theorem dX3_ended_14 : decode cX3_ended 14 = .ok (.iload_n 2, 1) := by decide +kernel
theorem dX3_ended_15 : decode cX3_ended 15 = .ok (.bipush 13, 2) := by decide +kernel
theorem dX3_ended_17 : decode cX3_ended 17 = .ok (.invokevirtual 56, 3) := by decide +kernel
theorem dX3_ended_20 : decode cX3_ended 20 = .ok (.iconst (-1), 1) := by decide +kernel
theorem dX3_ended_21 : decode cX3_ended 21 = .ok (.if_icmp .eq 7, 3) := by decide +kernel
theorem dX3_ended_24 : decode cX3_ended 24 = .ok (.iconst 1, 1) := by decide +kernel
theorem dX3_ended_25 : decode cX3_ended 25 = .ok (.goto 4, 3) := by decide +kernel
theorem dX3_ended_28 : decode cX3_ended 28 = .ok (.iconst 0, 1) := by decide +kernel
theorem dX3_ended_29 : decode cX3_ended 29 = .ok (.iadd, 1) := by decide +kernel
theorem dX3_ended_30 : decode cX3_ended 30 = .ok (.istore_n 1, 1) := by decide +kernel
theorem dX3_ended_31 : decode cX3_ended 31 = .ok (.iinc 2 1, 3) := by decide +kernel
theorem dX3_ended_34 : decode cX3_ended 34 = .ok (.goto (-30), 3) := by decide +kernel
theorem dX3_ended_37 : decode cX3_ended 37 = .ok (.iload_n 1, 1) := by decide +kernel
theorem dX3_ended_38 : decode cX3_ended 38 = .ok (.ireturn, 1) := by decide +kernel
theorem dX3_run_0 : decode cX3_run 0 = .ok (.aload_n 0, 1) := by decide +kernel
theorem dX3_run_1 : decode cX3_run 1 = .ok (.iconst 0, 1) := by decide +kernel
theorem dX3_run_2 : decode cX3_run 2 = .ok (.putfield 26, 3) := by decide +kernel
theorem dX3_run_5 : decode cX3_run 5 = .ok (.iload_n 1, 1) := by decide +kernel
theorem dX3_run_6 : decode cX3_run 6 = .ok (.iconst 1, 1) := by decide +kernel
theorem dX3_run_7 : decode cX3_run 7 = .ok (.sipush 500, 3) := by decide +kernel
theorem dX3_run_10 : decode cX3_run 10 = .ok (.invokestatic 32, 3) := by decide +kernel
theorem dX3_run_13 : decode cX3_run 13 = .ok (.ifCond .ne 9, 3) := by decide +kernel
theorem dX3_run_16 : decode cX3_run 16 = .ok (.aload_n 0, 1) := by decide +kernel
theorem dX3_run_17 : decode cX3_run 17 = .ok (.iconst 1, 1) := by decide +kernel
theorem dX3_run_18 : decode cX3_run 18 = .ok (.invokevirtual 36, 3) := by decide +kernel
theorem dX3_run_21 : decode cX3_run 21 = .ok (.ireturn, 1) := by decide +kernel
theorem dX3_run_22 : decode cX3_run 22 = .ok (.aload_n 0, 1) := by decide +kernel
theorem dX3_run_23 : decode cX3_run 23 = .ok (.getfield 29, 3) := by decide +kernel
theorem dX3_run_26 : decode cX3_run 26 = .ok (.ifCond .ne 9, 3) := by decide +kernel
theorem dX3_run_29 : decode cX3_run 29 = .ok (.aload_n 0, 1) := by decide +kernel
theorem dX3_run_30 : decode cX3_run 30 = .ok (.iconst 2, 1) := by decide +kernel
theorem dX3_run_31 : decode cX3_run 31 = .ok (.invokevirtual 36, 3) := by decide +kernel
theorem dX3_run_34 : decode cX3_run 34 = .ok (.ireturn, 1) := by decide +kernel
theorem dX3_run_35 : decode cX3_run 35 = .ok (.iconst 0, 1) := by decide +kernel
theorem dX3_run_36 : decode cX3_run 36 = .ok (.istore_n 2, 1) := by decide +kernel
theorem dX3_run_37 : decode cX3_run 37 = .ok (.iload_n 2, 1) := by decide +kernel
theorem dX3_run_38 : decode cX3_run 38 = .ok (.iload_n 1, 1) := by decide +kernel
theorem dX3_run_39 : decode cX3_run 39 = .ok (.if_icmp .ge 13, 3) := by decide +kernel
theorem dX3_run_42 : decode cX3_run 42 = .ok (.aload_n 0, 1) := by decide +kernel
theorem dX3_run_43 : decode cX3_run 43 = .ok (.invokevirtual 111, 3) := by decide +kernel
theorem dX3_run_46 : decode cX3_run 46 = .ok (.iinc 2 1, 3) := by decide +kernel
theorem dX3_run_49 : decode cX3_run 49 = .ok (.goto (-12), 3) := by decide +kernel
theorem dX3_run_52 : decode cX3_run 52 = .ok (.aload_n 0, 1) := by decide +kernel
theorem dX3_run_53 : decode cX3_run 53 = .ok (.invokevirtual 114, 3) := by decide +kernel
theorem dX3_run_56 : decode cX3_run 56 = .ok (.ireturn, 1) := by decide +kernel
theorem dX3_restart_0 : decode cX3_restart 0 = .ok (.aload_n 0, 1) := by decide +kernel
theorem dX3_restart_1 : decode cX3_restart 1 = .ok (.iconst 0, 1) := by decide +kernel
theorem dX3_restart_2 : decode cX3_restart 2 = .ok (.putfield 26, 3) := by decide +kernel
theorem dX3_restart_5 : decode cX3_restart 5 = .ok (.aload_n 0, 1) := by decide +kernel
theorem dX3_restart_6 : decode cX3_restart 6 = .ok (.iconst 0, 1) := by decide +kernel
theorem dX3_restart_7 : decode cX3_restart 7 = .ok (.putfield 40, 3) := by decide +kernel
theorem dX3_restart_10 : decode cX3_restart 10 = .ok (.aload_n 0, 1) := by decide +kernel
theorem dX3_restart_11 : decode cX3_restart 11 = .ok (.iconst 0, 1) := by decide +kernel
theorem dX3_restart_12 : decode cX3_restart 12 = .ok (.putfield 95, 3) := by decide +kernel
theorem dX3_restart_15 : decode cX3_restart 15 = .ok (.iconst 0, 1) := by decide +kernel
theorem dX3_restart_16 : decode cX3_restart 16 = .ok (.istore_n 1, 1) := by decide +kernel
theorem dX3_restart_17 : decode cX3_restart 17 = .ok (.iload_n 1, 1) := by decide +kernel
theorem dX3_restart_18 : decode cX3_restart 18 = .ok (.aload_n 0, 1) := by decide +kernel
theorem dX3_restart_19 : decode cX3_restart 19 = .ok (.getfield 29, 3) := by decide +kernel
theorem dX3_restart_22 : decode cX3_restart 22 = .ok (.if_icmp .ge 14, 3) := by decide +kernel
theorem dX3_restart_25 : decode cX3_restart 25 = .ok (.aload_n 0, 1) := by decide +kernel
theorem dX3_restart_26 : decode cX3_restart 26 = .ok (.iload_n 1, 1) := by decide +kernel
theorem dX3_restart_27 : decode cX3_restart 27 = .ok (.invokevirtual 60, 3) := by decide +kernel
theorem dX3_restart_30 : decode cX3_restart 30 = .ok (.iinc 1 1, 3) := by decide +kernel
theorem dX3_restart_33 : decode cX3_restart 33 = .ok (.goto (-16), 3) := by decide +kernel
theorem dX3_restart_36 : decode cX3_restart 36 = .ok (.aload_n 0, 1) := by decide +kernel
theorem dX3_restart_37 : decode cX3_restart 37 = .ok (.getfield 29, 3) := by decide +kernel
theorem dX3_restart_40 : decode cX3_restart 40 = .ok (.ireturn, 1) := by decide +kernel
theorem dX3_counted_0 : decode cX3_counted 0 = .ok (.iload_n 1, 1) := by decide +kernel
theorem dX3_counted_1 : decode cX3_counted 1 = .ok (.tableswitch 60 0 4 #[35, 40, 45, 50, 55], 35) := by decide +kernel
theorem dX3_counted_36 : decode cX3_counted 36 = .ok (.aload_n 0, 1) := by decide +kernel
theorem dX3_counted_37 : decode cX3_counted 37 = .ok (.getfield 40, 3) := by decide +kernel
theorem dX3_counted_40 : decode cX3_counted 40 = .ok (.ireturn, 1) := by decide +kernel
theorem dX3_counted_41 : decode cX3_counted 41 = .ok (.aload_n 0, 1) := by decide +kernel
theorem dX3_counted_42 : decode cX3_counted 42 = .ok (.getfield 29, 3) := by decide +kernel
theorem dX3_counted_45 : decode cX3_counted 45 = .ok (.ireturn, 1) := by decide +kernel
theorem dX3_counted_46 : decode cX3_counted 46 = .ok (.aload_n 0, 1) := by decide +kernel
theorem dX3_counted_47 : decode cX3_counted 47 = .ok (.getfield 9, 3) := by decide +kernel
theorem dX3_counted_50 : decode cX3_counted 50 = .ok (.ireturn, 1) := by decide +kernel
theorem dX3_counted_51 : decode cX3_counted 51 = .ok (.aload_n 0, 1) := by decide +kernel
theorem dX3_counted_52 : decode cX3_counted 52 = .ok (.getfield 13, 3) := by decide +kernel
theorem dX3_counted_55 : decode cX3_counted 55 = .ok (.ireturn, 1) := by decide +kernel
theorem dX3_counted_56 : decode cX3_counted 56 = .ok (.aload_n 0, 1) := by decide +kernel
theorem dX3_counted_57 : decode cX3_counted 57 = .ok (.invokevirtual 114, 3) := by decide +kernel
theorem dX3_counted_60 : decode cX3_counted 60 = .ok (.ireturn, 1) := by decide +kernel
theorem dX3_counted_61 : decode cX3_counted 61 = .ok (.aload_n 0, 1) := by decide +kernel
theorem dX3_counted_62 : decode cX3_counted 62 = .ok (.getfield 95, 3) := by decide +kernel
theorem dX3_counted_65 : decode cX3_counted 65 = .ok (.ireturn, 1) := by decide +kernel
theorem dX3_count_0 : decode cX3_count 0 = .ok (.aload_n 0, 1) := by decide +kernel
theorem dX3_count_1 : decode cX3_count 1 = .ok (.iconst 0, 1) := by decide +kernel
theorem dX3_count_2 : decode cX3_count 2 = .ok (.putfield 26, 3) := by decide +kernel
theorem dX3_count_5 : decode cX3_count 5 = .ok (.iload_n 1, 1) := by decide +kernel
theorem dX3_count_6 : decode cX3_count 6 = .ok (.iconst 0, 1) := by decide +kernel
theorem dX3_count_7 : decode cX3_count 7 = .ok (.iconst 5, 1) := by decide +kernel
theorem dX3_count_8 : decode cX3_count 8 = .ok (.invokestatic 32, 3) := by decide +kernel
theorem dX3_count_11 : decode cX3_count 11 = .ok (.ifCond .eq 11, 3) := by decide +kernel
theorem dX3_count_14 : decode cX3_count 14 = .ok (.aload_n 0, 1) := by decide +kernel
theorem dX3_count_15 : decode cX3_count 15 = .ok (.iload_n 1, 1) := by decide +kernel
theorem dX3_count_16 : decode cX3_count 16 = .ok (.invokevirtual 118, 3) := by decide +kernel
theorem dX3_count_19 : decode cX3_count 19 = .ok (.goto 8, 3) := by decide +kernel
theorem dX3_count_22 : decode cX3_count 22 = .ok (.aload_n 0, 1) := by decide +kernel
theorem dX3_count_23 : decode cX3_count 23 = .ok (.iconst 1, 1) := by decide +kernel
theorem dX3_count_24 : decode cX3_count 24 = .ok (.invokevirtual 36, 3) := by decide +kernel
theorem dX3_count_27 : decode cX3_count 27 = .ok (.ireturn, 1) := by decide +kernel
theorem dX3_teamTold_0 : decode cX3_teamTold 0 = .ok (.iload_n 2, 1) := by decide +kernel
theorem dX3_teamTold_1 : decode cX3_teamTold 1 = .ok (.tableswitch 127 0 11 #[63, 71, 79, 87, 127, 127, 127, 127, 95, 103, 111, 119], 63) := by decide +kernel
theorem dX3_teamTold_64 : decode cX3_teamTold 64 = .ok (.aload_n 0, 1) := by decide +kernel
theorem dX3_teamTold_65 : decode cX3_teamTold 65 = .ok (.iload_n 1, 1) := by decide +kernel
theorem dX3_teamTold_66 : decode cX3_teamTold 66 = .ok (.bipush 9, 2) := by decide +kernel
theorem dX3_teamTold_68 : decode cX3_teamTold 68 = .ok (.invokevirtual 56, 3) := by decide +kernel
theorem dX3_teamTold_71 : decode cX3_teamTold 71 = .ok (.ireturn, 1) := by decide +kernel
theorem dX3_teamTold_72 : decode cX3_teamTold 72 = .ok (.aload_n 0, 1) := by decide +kernel
theorem dX3_teamTold_73 : decode cX3_teamTold 73 = .ok (.iload_n 1, 1) := by decide +kernel
theorem dX3_teamTold_74 : decode cX3_teamTold 74 = .ok (.bipush 10, 2) := by decide +kernel
theorem dX3_teamTold_76 : decode cX3_teamTold 76 = .ok (.invokevirtual 56, 3) := by decide +kernel
theorem dX3_teamTold_79 : decode cX3_teamTold 79 = .ok (.ireturn, 1) := by decide +kernel
theorem dX3_teamTold_80 : decode cX3_teamTold 80 = .ok (.aload_n 0, 1) := by decide +kernel
theorem dX3_teamTold_81 : decode cX3_teamTold 81 = .ok (.iload_n 1, 1) := by decide +kernel
theorem dX3_teamTold_82 : decode cX3_teamTold 82 = .ok (.bipush 11, 2) := by decide +kernel
theorem dX3_teamTold_84 : decode cX3_teamTold 84 = .ok (.invokevirtual 56, 3) := by decide +kernel
theorem dX3_teamTold_87 : decode cX3_teamTold 87 = .ok (.ireturn, 1) := by decide +kernel
theorem dX3_teamTold_88 : decode cX3_teamTold 88 = .ok (.aload_n 0, 1) := by decide +kernel
theorem dX3_teamTold_89 : decode cX3_teamTold 89 = .ok (.iload_n 1, 1) := by decide +kernel
theorem dX3_teamTold_90 : decode cX3_teamTold 90 = .ok (.bipush 12, 2) := by decide +kernel
theorem dX3_teamTold_92 : decode cX3_teamTold 92 = .ok (.invokevirtual 56, 3) := by decide +kernel
theorem dX3_teamTold_95 : decode cX3_teamTold 95 = .ok (.ireturn, 1) := by decide +kernel
theorem dX3_teamTold_96 : decode cX3_teamTold 96 = .ok (.aload_n 0, 1) := by decide +kernel
theorem dX3_teamTold_97 : decode cX3_teamTold 97 = .ok (.iload_n 1, 1) := by decide +kernel
theorem dX3_teamTold_98 : decode cX3_teamTold 98 = .ok (.bipush 13, 2) := by decide +kernel
theorem dX3_teamTold_100 : decode cX3_teamTold 100 = .ok (.invokevirtual 56, 3) := by decide +kernel
theorem dX3_teamTold_103 : decode cX3_teamTold 103 = .ok (.ireturn, 1) := by decide +kernel
theorem dX3_teamTold_104 : decode cX3_teamTold 104 = .ok (.aload_n 0, 1) := by decide +kernel
theorem dX3_teamTold_105 : decode cX3_teamTold 105 = .ok (.iload_n 1, 1) := by decide +kernel
theorem dX3_teamTold_106 : decode cX3_teamTold 106 = .ok (.bipush 7, 2) := by decide +kernel
theorem dX3_teamTold_108 : decode cX3_teamTold 108 = .ok (.invokevirtual 56, 3) := by decide +kernel
theorem dX3_teamTold_111 : decode cX3_teamTold 111 = .ok (.ireturn, 1) := by decide +kernel
theorem dX3_teamTold_112 : decode cX3_teamTold 112 = .ok (.aload_n 0, 1) := by decide +kernel
theorem dX3_teamTold_113 : decode cX3_teamTold 113 = .ok (.iload_n 1, 1) := by decide +kernel
theorem dX3_teamTold_114 : decode cX3_teamTold 114 = .ok (.bipush 8, 2) := by decide +kernel
theorem dX3_teamTold_116 : decode cX3_teamTold 116 = .ok (.invokevirtual 56, 3) := by decide +kernel
theorem dX3_teamTold_119 : decode cX3_teamTold 119 = .ok (.ireturn, 1) := by decide +kernel
theorem dX3_teamTold_120 : decode cX3_teamTold 120 = .ok (.aload_n 0, 1) := by decide +kernel
theorem dX3_teamTold_121 : decode cX3_teamTold 121 = .ok (.iload_n 1, 1) := by decide +kernel
theorem dX3_teamTold_122 : decode cX3_teamTold 122 = .ok (.bipush 14, 2) := by decide +kernel
theorem dX3_teamTold_124 : decode cX3_teamTold 124 = .ok (.invokevirtual 56, 3) := by decide +kernel
theorem dX3_teamTold_127 : decode cX3_teamTold 127 = .ok (.ireturn, 1) := by decide +kernel
theorem dX3_teamTold_128 : decode cX3_teamTold 128 = .ok (.aload_n 0, 1) := by decide +kernel
theorem dX3_teamTold_129 : decode cX3_teamTold 129 = .ok (.iload_n 1, 1) := by decide +kernel
theorem dX3_teamTold_130 : decode cX3_teamTold 130 = .ok (.iload_n 2, 1) := by decide +kernel
theorem dX3_teamTold_131 : decode cX3_teamTold 131 = .ok (.iconst 4, 1) := by decide +kernel
theorem dX3_teamTold_132 : decode cX3_teamTold 132 = .ok (.isub, 1) := by decide +kernel
theorem dX3_teamTold_133 : decode cX3_teamTold 133 = .ok (.invokevirtual 75, 3) := by decide +kernel
theorem dX3_teamTold_136 : decode cX3_teamTold 136 = .ok (.ireturn, 1) := by decide +kernel
theorem dX3_team_0 : decode cX3_team 0 = .ok (.aload_n 0, 1) := by decide +kernel
theorem dX3_team_1 : decode cX3_team 1 = .ok (.iconst 0, 1) := by decide +kernel
theorem dX3_team_2 : decode cX3_team 2 = .ok (.putfield 26, 3) := by decide +kernel
theorem dX3_team_5 : decode cX3_team 5 = .ok (.aload_n 0, 1) := by decide +kernel
theorem dX3_team_6 : decode cX3_team 6 = .ok (.iload_n 1, 1) := by decide +kernel
theorem dX3_team_7 : decode cX3_team 7 = .ok (.invokevirtual 64, 3) := by decide +kernel
theorem dX3_team_10 : decode cX3_team 10 = .ok (.ifCond .eq 22, 3) := by decide +kernel
theorem dX3_team_13 : decode cX3_team 13 = .ok (.iload_n 2, 1) := by decide +kernel
theorem dX3_team_14 : decode cX3_team 14 = .ok (.iconst 0, 1) := by decide +kernel
theorem dX3_team_15 : decode cX3_team 15 = .ok (.bipush 11, 2) := by decide +kernel
theorem dX3_team_17 : decode cX3_team 17 = .ok (.invokestatic 32, 3) := by decide +kernel
theorem dX3_team_20 : decode cX3_team 20 = .ok (.ifCond .eq 12, 3) := by decide +kernel
theorem dX3_team_23 : decode cX3_team 23 = .ok (.aload_n 0, 1) := by decide +kernel
theorem dX3_team_24 : decode cX3_team 24 = .ok (.iload_n 1, 1) := by decide +kernel
theorem dX3_team_25 : decode cX3_team 25 = .ok (.iload_n 2, 1) := by decide +kernel
theorem dX3_team_26 : decode cX3_team 26 = .ok (.invokevirtual 121, 3) := by decide +kernel
theorem dX3_team_29 : decode cX3_team 29 = .ok (.goto 8, 3) := by decide +kernel
theorem dX3_team_32 : decode cX3_team 32 = .ok (.aload_n 0, 1) := by decide +kernel
theorem dX3_team_33 : decode cX3_team 33 = .ok (.iconst 1, 1) := by decide +kernel
theorem dX3_team_34 : decode cX3_team 34 = .ok (.invokevirtual 36, 3) := by decide +kernel
theorem dX3_team_37 : decode cX3_team 37 = .ok (.ireturn, 1) := by decide +kernel
theorem dX3_roller_0 : decode cX3_roller 0 = .ok (.aload_n 0, 1) := by decide +kernel
theorem dX3_roller_1 : decode cX3_roller 1 = .ok (.iconst 0, 1) := by decide +kernel
theorem dX3_roller_2 : decode cX3_roller 2 = .ok (.putfield 26, 3) := by decide +kernel
theorem dX3_roller_5 : decode cX3_roller 5 = .ok (.aload_n 0, 1) := by decide +kernel
theorem dX3_roller_6 : decode cX3_roller 6 = .ok (.iload_n 1, 1) := by decide +kernel
theorem dX3_roller_7 : decode cX3_roller 7 = .ok (.invokevirtual 64, 3) := by decide +kernel
theorem dX3_roller_10 : decode cX3_roller 10 = .ok (.ifCond .eq 19, 3) := by decide +kernel
theorem dX3_roller_13 : decode cX3_roller 13 = .ok (.iload_n 2, 1) := by decide +kernel
theorem dX3_roller_14 : decode cX3_roller 14 = .ok (.iconst 0, 1) := by decide +kernel
theorem dX3_roller_15 : decode cX3_roller 15 = .ok (.aload_n 0, 1) := by decide +kernel
theorem dX3_roller_16 : decode cX3_roller 16 = .ok (.iload_n 1, 1) := by decide +kernel
theorem dX3_roller_17 : decode cX3_roller 17 = .ok (.iconst 2, 1) := by decide +kernel
theorem dX3_roller_18 : decode cX3_roller 18 = .ok (.invokevirtual 56, 3) := by decide +kernel
theorem dX3_roller_21 : decode cX3_roller 21 = .ok (.iconst 1, 1) := by decide +kernel
theorem dX3_roller_22 : decode cX3_roller 22 = .ok (.isub, 1) := by decide +kernel
theorem dX3_roller_23 : decode cX3_roller 23 = .ok (.invokestatic 32, 3) := by decide +kernel
theorem dX3_roller_26 : decode cX3_roller 26 = .ok (.ifCond .ne 9, 3) := by decide +kernel
theorem dX3_roller_29 : decode cX3_roller 29 = .ok (.aload_n 0, 1) := by decide +kernel
theorem dX3_roller_30 : decode cX3_roller 30 = .ok (.iconst 1, 1) := by decide +kernel
theorem dX3_roller_31 : decode cX3_roller 31 = .ok (.invokevirtual 36, 3) := by decide +kernel
theorem dX3_roller_34 : decode cX3_roller 34 = .ok (.ireturn, 1) := by decide +kernel
theorem dX3_roller_35 : decode cX3_roller 35 = .ok (.aload_n 0, 1) := by decide +kernel
theorem dX3_roller_36 : decode cX3_roller 36 = .ok (.iload_n 1, 1) := by decide +kernel
theorem dX3_roller_37 : decode cX3_roller 37 = .ok (.iload_n 2, 1) := by decide +kernel
theorem dX3_roller_38 : decode cX3_roller 38 = .ok (.invokevirtual 68, 3) := by decide +kernel
theorem dX3_roller_41 : decode cX3_roller 41 = .ok (.ifCond .eq 11, 3) := by decide +kernel
theorem dX3_roller_44 : decode cX3_roller 44 = .ok (.aload_n 0, 1) := by decide +kernel
theorem dX3_roller_45 : decode cX3_roller 45 = .ok (.iconst 2, 1) := by decide +kernel
theorem dX3_roller_46 : decode cX3_roller 46 = .ok (.invokevirtual 36, 3) := by decide +kernel
theorem dX3_roller_49 : decode cX3_roller 49 = .ok (.goto 12, 3) := by decide +kernel
theorem dX3_roller_52 : decode cX3_roller 52 = .ok (.aload_n 0, 1) := by decide +kernel
theorem dX3_roller_53 : decode cX3_roller 53 = .ok (.iload_n 1, 1) := by decide +kernel
theorem dX3_roller_54 : decode cX3_roller 54 = .ok (.bipush 15, 2) := by decide +kernel
theorem dX3_roller_56 : decode cX3_roller 56 = .ok (.iload_n 2, 1) := by decide +kernel
theorem dX3_roller_57 : decode cX3_roller 57 = .ok (.iadd, 1) := by decide +kernel
theorem dX3_roller_58 : decode cX3_roller 58 = .ok (.invokevirtual 56, 3) := by decide +kernel
theorem dX3_roller_61 : decode cX3_roller 61 = .ok (.ireturn, 1) := by decide +kernel
theorem dX3_next_0 : decode cX3_next 0 = .ok (.aload_n 0, 1) := by decide +kernel
theorem dX3_next_1 : decode cX3_next 1 = .ok (.iconst 0, 1) := by decide +kernel
theorem dX3_next_2 : decode cX3_next 2 = .ok (.putfield 26, 3) := by decide +kernel
theorem dX3_next_5 : decode cX3_next 5 = .ok (.aload_n 0, 1) := by decide +kernel
theorem dX3_next_6 : decode cX3_next 6 = .ok (.iload_n 1, 1) := by decide +kernel
theorem dX3_next_7 : decode cX3_next 7 = .ok (.invokevirtual 64, 3) := by decide +kernel
theorem dX3_next_10 : decode cX3_next 10 = .ok (.ifCond .eq 12, 3) := by decide +kernel
theorem dX3_next_13 : decode cX3_next 13 = .ok (.iload_n 2, 1) := by decide +kernel
theorem dX3_next_14 : decode cX3_next 14 = .ok (.iconst 0, 1) := by decide +kernel
theorem dX3_next_15 : decode cX3_next 15 = .ok (.iconst 2, 1) := by decide +kernel
theorem dX3_next_16 : decode cX3_next 16 = .ok (.invokestatic 32, 3) := by decide +kernel
theorem dX3_next_19 : decode cX3_next 19 = .ok (.ifCond .ne 9, 3) := by decide +kernel
theorem dX3_next_22 : decode cX3_next 22 = .ok (.aload_n 0, 1) := by decide +kernel
theorem dX3_next_23 : decode cX3_next 23 = .ok (.iconst 1, 1) := by decide +kernel
theorem dX3_next_24 : decode cX3_next 24 = .ok (.invokevirtual 36, 3) := by decide +kernel
theorem dX3_next_27 : decode cX3_next 27 = .ok (.ireturn, 1) := by decide +kernel
theorem dX3_next_28 : decode cX3_next 28 = .ok (.iload_n 2, 1) := by decide +kernel
theorem dX3_next_29 : decode cX3_next 29 = .ok (.ifCond .ne 11, 3) := by decide +kernel
theorem dX3_next_32 : decode cX3_next 32 = .ok (.aload_n 0, 1) := by decide +kernel
theorem dX3_next_33 : decode cX3_next 33 = .ok (.iload_n 1, 1) := by decide +kernel
theorem dX3_next_34 : decode cX3_next 34 = .ok (.invokevirtual 86, 3) := by decide +kernel
theorem dX3_next_37 : decode cX3_next 37 = .ok (.goto 21, 3) := by decide +kernel
theorem dX3_next_40 : decode cX3_next 40 = .ok (.iload_n 2, 1) := by decide +kernel
theorem dX3_next_41 : decode cX3_next 41 = .ok (.iconst 1, 1) := by decide +kernel
theorem dX3_next_42 : decode cX3_next 42 = .ok (.if_icmp .ne 11, 3) := by decide +kernel
theorem dX3_next_45 : decode cX3_next 45 = .ok (.aload_n 0, 1) := by decide +kernel
theorem dX3_next_46 : decode cX3_next 46 = .ok (.iload_n 1, 1) := by decide +kernel
theorem dX3_next_47 : decode cX3_next 47 = .ok (.invokevirtual 89, 3) := by decide +kernel
theorem dX3_next_50 : decode cX3_next 50 = .ok (.goto 8, 3) := by decide +kernel
theorem dX3_next_53 : decode cX3_next 53 = .ok (.aload_n 0, 1) := by decide +kernel
theorem dX3_next_54 : decode cX3_next 54 = .ok (.iload_n 1, 1) := by decide +kernel
theorem dX3_next_55 : decode cX3_next 55 = .ok (.invokevirtual 92, 3) := by decide +kernel
theorem dX3_next_58 : decode cX3_next 58 = .ok (.ireturn, 1) := by decide +kernel
theorem dX3_isAhead_0 : decode cX3_isAhead 0 = .ok (.aload_n 0, 1) := by decide +kernel
theorem dX3_isAhead_1 : decode cX3_isAhead 1 = .ok (.iload_n 1, 1) := by decide +kernel
theorem dX3_isAhead_2 : decode cX3_isAhead 2 = .ok (.bipush 13, 2) := by decide +kernel
theorem dX3_isAhead_4 : decode cX3_isAhead 4 = .ok (.invokevirtual 56, 3) := by decide +kernel
theorem dX3_isAhead_7 : decode cX3_isAhead 7 = .ok (.istore_n 3, 1) := by decide +kernel
theorem dX3_isAhead_8 : decode cX3_isAhead 8 = .ok (.aload_n 0, 1) := by decide +kernel
theorem dX3_isAhead_9 : decode cX3_isAhead 9 = .ok (.iload_n 2, 1) := by decide +kernel
theorem dX3_isAhead_10 : decode cX3_isAhead 10 = .ok (.bipush 13, 2) := by decide +kernel
theorem dX3_isAhead_12 : decode cX3_isAhead 12 = .ok (.invokevirtual 56, 3) := by decide +kernel
theorem dX3_isAhead_15 : decode cX3_isAhead 15 = .ok (.istore 4, 2) := by decide +kernel
theorem dX3_isAhead_17 : decode cX3_isAhead 17 = .ok (.iload_n 3, 1) := by decide +kernel
theorem dX3_isAhead_18 : decode cX3_isAhead 18 = .ok (.iload 4, 2) := by decide +kernel
theorem dX3_isAhead_20 : decode cX3_isAhead 20 = .ok (.if_icmp .eq 26, 3) := by decide +kernel
theorem dX3_isAhead_23 : decode cX3_isAhead 23 = .ok (.iload_n 3, 1) := by decide +kernel
theorem dX3_isAhead_24 : decode cX3_isAhead 24 = .ok (.iconst (-1), 1) := by decide +kernel
theorem dX3_isAhead_25 : decode cX3_isAhead 25 = .ok (.if_icmp .eq 19, 3) := by decide +kernel
theorem dX3_isAhead_28 : decode cX3_isAhead 28 = .ok (.iload 4, 2) := by decide +kernel
theorem dX3_isAhead_30 : decode cX3_isAhead 30 = .ok (.iconst (-1), 1) := by decide +kernel
theorem dX3_isAhead_31 : decode cX3_isAhead 31 = .ok (.if_icmp .eq 9, 3) := by decide +kernel
theorem dX3_isAhead_34 : decode cX3_isAhead 34 = .ok (.iload_n 3, 1) := by decide +kernel
theorem dX3_isAhead_35 : decode cX3_isAhead 35 = .ok (.iload 4, 2) := by decide +kernel
theorem dX3_isAhead_37 : decode cX3_isAhead 37 = .ok (.if_icmp .ge 7, 3) := by decide +kernel
theorem dX3_isAhead_40 : decode cX3_isAhead 40 = .ok (.iconst 1, 1) := by decide +kernel
theorem dX3_isAhead_41 : decode cX3_isAhead 41 = .ok (.goto 4, 3) := by decide +kernel
theorem dX3_isAhead_44 : decode cX3_isAhead 44 = .ok (.iconst 0, 1) := by decide +kernel
theorem dX3_isAhead_45 : decode cX3_isAhead 45 = .ok (.ireturn, 1) := by decide +kernel
theorem dX3_isAhead_46 : decode cX3_isAhead 46 = .ok (.iload_n 3, 1) := by decide +kernel
theorem dX3_isAhead_47 : decode cX3_isAhead 47 = .ok (.iconst (-1), 1) := by decide +kernel
theorem dX3_isAhead_48 : decode cX3_isAhead 48 = .ok (.if_icmp .ne 43, 3) := by decide +kernel
theorem dX3_isAhead_51 : decode cX3_isAhead 51 = .ok (.aload_n 0, 1) := by decide +kernel
theorem dX3_isAhead_52 : decode cX3_isAhead 52 = .ok (.iload_n 1, 1) := by decide +kernel
theorem dX3_isAhead_53 : decode cX3_isAhead 53 = .ok (.bipush 9, 2) := by decide +kernel
theorem dX3_isAhead_55 : decode cX3_isAhead 55 = .ok (.invokevirtual 56, 3) := by decide +kernel
theorem dX3_isAhead_58 : decode cX3_isAhead 58 = .ok (.aload_n 0, 1) := by decide +kernel
theorem dX3_isAhead_59 : decode cX3_isAhead 59 = .ok (.iload_n 2, 1) := by decide +kernel
theorem dX3_isAhead_60 : decode cX3_isAhead 60 = .ok (.bipush 9, 2) := by decide +kernel
theorem dX3_isAhead_62 : decode cX3_isAhead 62 = .ok (.invokevirtual 56, 3) := by decide +kernel
theorem dX3_isAhead_65 : decode cX3_isAhead 65 = .ok (.if_icmp .eq 26, 3) := by decide +kernel
theorem dX3_isAhead_68 : decode cX3_isAhead 68 = .ok (.aload_n 0, 1) := by decide +kernel
theorem dX3_isAhead_69 : decode cX3_isAhead 69 = .ok (.iload_n 1, 1) := by decide +kernel
theorem dX3_isAhead_70 : decode cX3_isAhead 70 = .ok (.bipush 9, 2) := by decide +kernel
theorem dX3_isAhead_72 : decode cX3_isAhead 72 = .ok (.invokevirtual 56, 3) := by decide +kernel
theorem dX3_isAhead_75 : decode cX3_isAhead 75 = .ok (.aload_n 0, 1) := by decide +kernel
theorem dX3_isAhead_76 : decode cX3_isAhead 76 = .ok (.iload_n 2, 1) := by decide +kernel
theorem dX3_isAhead_77 : decode cX3_isAhead 77 = .ok (.bipush 9, 2) := by decide +kernel
theorem dX3_isAhead_79 : decode cX3_isAhead 79 = .ok (.invokevirtual 56, 3) := by decide +kernel
theorem dX3_isAhead_82 : decode cX3_isAhead 82 = .ok (.if_icmp .le 7, 3) := by decide +kernel
theorem dX3_isAhead_85 : decode cX3_isAhead 85 = .ok (.iconst 1, 1) := by decide +kernel
theorem dX3_isAhead_86 : decode cX3_isAhead 86 = .ok (.goto 4, 3) := by decide +kernel
theorem dX3_isAhead_89 : decode cX3_isAhead 89 = .ok (.iconst 0, 1) := by decide +kernel
theorem dX3_isAhead_90 : decode cX3_isAhead 90 = .ok (.ireturn, 1) := by decide +kernel
theorem dX3_isAhead_91 : decode cX3_isAhead 91 = .ok (.iload_n 1, 1) := by decide +kernel
theorem dX3_isAhead_92 : decode cX3_isAhead 92 = .ok (.iload_n 2, 1) := by decide +kernel
theorem dX3_isAhead_93 : decode cX3_isAhead 93 = .ok (.if_icmp .ge 7, 3) := by decide +kernel
theorem dX3_isAhead_96 : decode cX3_isAhead 96 = .ok (.iconst 1, 1) := by decide +kernel
theorem dX3_isAhead_97 : decode cX3_isAhead 97 = .ok (.goto 4, 3) := by decide +kernel
theorem dX3_isAhead_100 : decode cX3_isAhead 100 = .ok (.iconst 0, 1) := by decide +kernel
theorem dX3_isAhead_101 : decode cX3_isAhead 101 = .ok (.ireturn, 1) := by decide +kernel
theorem dX3_rankOf_0 : decode cX3_rankOf 0 = .ok (.iconst 0, 1) := by decide +kernel
theorem dX3_rankOf_1 : decode cX3_rankOf 1 = .ok (.istore_n 2, 1) := by decide +kernel
theorem dX3_rankOf_2 : decode cX3_rankOf 2 = .ok (.iconst 0, 1) := by decide +kernel
theorem dX3_rankOf_3 : decode cX3_rankOf 3 = .ok (.istore_n 3, 1) := by decide +kernel
theorem dX3_rankOf_4 : decode cX3_rankOf 4 = .ok (.iload_n 3, 1) := by decide +kernel
theorem dX3_rankOf_5 : decode cX3_rankOf 5 = .ok (.aload_n 0, 1) := by decide +kernel
theorem dX3_rankOf_6 : decode cX3_rankOf 6 = .ok (.getfield 29, 3) := by decide +kernel
theorem dX3_rankOf_9 : decode cX3_rankOf 9 = .ok (.if_icmp .ge 31, 3) := by decide +kernel
theorem dX3_rankOf_12 : decode cX3_rankOf 12 = .ok (.iload_n 2, 1) := by decide +kernel
theorem dX3_rankOf_13 : decode cX3_rankOf 13 = .ok (.iload_n 3, 1) := by decide +kernel
theorem dX3_rankOf_14 : decode cX3_rankOf 14 = .ok (.iload_n 1, 1) := by decide +kernel
theorem dX3_rankOf_15 : decode cX3_rankOf 15 = .ok (.if_icmp .eq 16, 3) := by decide +kernel
theorem dX3_rankOf_18 : decode cX3_rankOf 18 = .ok (.aload_n 0, 1) := by decide +kernel
theorem dX3_rankOf_19 : decode cX3_rankOf 19 = .ok (.iload_n 3, 1) := by decide +kernel
theorem dX3_rankOf_20 : decode cX3_rankOf 20 = .ok (.iload_n 1, 1) := by decide +kernel
theorem dX3_rankOf_21 : decode cX3_rankOf 21 = .ok (.invokevirtual 124, 3) := by decide +kernel
theorem dX3_rankOf_24 : decode cX3_rankOf 24 = .ok (.ifCond .eq 7, 3) := by decide +kernel
theorem dX3_rankOf_27 : decode cX3_rankOf 27 = .ok (.iconst 1, 1) := by decide +kernel
theorem dX3_rankOf_28 : decode cX3_rankOf 28 = .ok (.goto 4, 3) := by decide +kernel
theorem dX3_rankOf_31 : decode cX3_rankOf 31 = .ok (.iconst 0, 1) := by decide +kernel
theorem dX3_rankOf_32 : decode cX3_rankOf 32 = .ok (.iadd, 1) := by decide +kernel
theorem dX3_rankOf_33 : decode cX3_rankOf 33 = .ok (.istore_n 2, 1) := by decide +kernel
theorem dX3_rankOf_34 : decode cX3_rankOf 34 = .ok (.iinc 3 1, 3) := by decide +kernel
theorem dX3_rankOf_37 : decode cX3_rankOf 37 = .ok (.goto (-33), 3) := by decide +kernel
theorem dX3_rankOf_40 : decode cX3_rankOf 40 = .ok (.iload_n 2, 1) := by decide +kernel
theorem dX3_rankOf_41 : decode cX3_rankOf 41 = .ok (.ireturn, 1) := by decide +kernel
theorem dX3_teamAt_0 : decode cX3_teamAt 0 = .ok (.iconst 0, 1) := by decide +kernel
theorem dX3_teamAt_1 : decode cX3_teamAt 1 = .ok (.istore_n 2, 1) := by decide +kernel
theorem dX3_teamAt_2 : decode cX3_teamAt 2 = .ok (.aload_n 0, 1) := by decide +kernel
theorem dX3_teamAt_3 : decode cX3_teamAt 3 = .ok (.iload_n 2, 1) := by decide +kernel
theorem dX3_teamAt_4 : decode cX3_teamAt 4 = .ok (.invokevirtual 127, 3) := by decide +kernel
theorem dX3_teamAt_7 : decode cX3_teamAt 7 = .ok (.iload_n 1, 1) := by decide +kernel
theorem dX3_teamAt_8 : decode cX3_teamAt 8 = .ok (.if_icmp .eq 9, 3) := by decide +kernel
theorem dX3_teamAt_11 : decode cX3_teamAt 11 = .ok (.iinc 2 1, 3) := by decide +kernel
theorem dX3_teamAt_14 : decode cX3_teamAt 14 = .ok (.goto (-12), 3) := by decide +kernel
theorem dX3_teamAt_17 : decode cX3_teamAt 17 = .ok (.iload_n 2, 1) := by decide +kernel
theorem dX3_teamAt_18 : decode cX3_teamAt 18 = .ok (.ireturn, 1) := by decide +kernel
theorem dX3_ranked_0 : decode cX3_ranked 0 = .ok (.aload_n 0, 1) := by decide +kernel
theorem dX3_ranked_1 : decode cX3_ranked 1 = .ok (.iconst 0, 1) := by decide +kernel
theorem dX3_ranked_2 : decode cX3_ranked 2 = .ok (.putfield 26, 3) := by decide +kernel
theorem dX3_ranked_5 : decode cX3_ranked 5 = .ok (.iload_n 1, 1) := by decide +kernel
theorem dX3_ranked_6 : decode cX3_ranked 6 = .ok (.iconst 0, 1) := by decide +kernel
theorem dX3_ranked_7 : decode cX3_ranked 7 = .ok (.aload_n 0, 1) := by decide +kernel
theorem dX3_ranked_8 : decode cX3_ranked 8 = .ok (.getfield 29, 3) := by decide +kernel
theorem dX3_ranked_11 : decode cX3_ranked 11 = .ok (.iconst 1, 1) := by decide +kernel
theorem dX3_ranked_12 : decode cX3_ranked 12 = .ok (.isub, 1) := by decide +kernel
theorem dX3_ranked_13 : decode cX3_ranked 13 = .ok (.invokestatic 32, 3) := by decide +kernel
theorem dX3_ranked_16 : decode cX3_ranked 16 = .ok (.ifCond .eq 11, 3) := by decide +kernel
theorem dX3_ranked_19 : decode cX3_ranked 19 = .ok (.aload_n 0, 1) := by decide +kernel
theorem dX3_ranked_20 : decode cX3_ranked 20 = .ok (.iload_n 1, 1) := by decide +kernel
theorem dX3_ranked_21 : decode cX3_ranked 21 = .ok (.invokevirtual 130, 3) := by decide +kernel
theorem dX3_ranked_24 : decode cX3_ranked 24 = .ok (.goto 8, 3) := by decide +kernel
theorem dX3_ranked_27 : decode cX3_ranked 27 = .ok (.aload_n 0, 1) := by decide +kernel
theorem dX3_ranked_28 : decode cX3_ranked 28 = .ok (.iconst 1, 1) := by decide +kernel
theorem dX3_ranked_29 : decode cX3_ranked 29 = .ok (.invokevirtual 36, 3) := by decide +kernel
theorem dX3_ranked_32 : decode cX3_ranked 32 = .ok (.ireturn, 1) := by decide +kernel
theorem dX3_foresee_0 : decode cX3_foresee 0 = .ok (.aload_n 0, 1) := by decide +kernel
theorem dX3_foresee_1 : decode cX3_foresee 1 = .ok (.iconst 0, 1) := by decide +kernel
theorem dX3_foresee_2 : decode cX3_foresee 2 = .ok (.putfield 26, 3) := by decide +kernel
theorem dX3_foresee_5 : decode cX3_foresee 5 = .ok (.aload_n 0, 1) := by decide +kernel
theorem dX3_foresee_6 : decode cX3_foresee 6 = .ok (.iload_n 1, 1) := by decide +kernel
theorem dX3_foresee_7 : decode cX3_foresee 7 = .ok (.invokevirtual 64, 3) := by decide +kernel
theorem dX3_foresee_10 : decode cX3_foresee 10 = .ok (.ifCond .eq 12, 3) := by decide +kernel
theorem dX3_foresee_13 : decode cX3_foresee 13 = .ok (.iload_n 3, 1) := by decide +kernel
theorem dX3_foresee_14 : decode cX3_foresee 14 = .ok (.iconst 0, 1) := by decide +kernel
theorem dX3_foresee_15 : decode cX3_foresee 15 = .ok (.iconst 2, 1) := by decide +kernel
theorem dX3_foresee_16 : decode cX3_foresee 16 = .ok (.invokestatic 32, 3) := by decide +kernel
theorem dX3_foresee_19 : decode cX3_foresee 19 = .ok (.ifCond .ne 9, 3) := by decide +kernel
theorem dX3_foresee_22 : decode cX3_foresee 22 = .ok (.aload_n 0, 1) := by decide +kernel
theorem dX3_foresee_23 : decode cX3_foresee 23 = .ok (.iconst 1, 1) := by decide +kernel
theorem dX3_foresee_24 : decode cX3_foresee 24 = .ok (.invokevirtual 36, 3) := by decide +kernel
theorem dX3_foresee_27 : decode cX3_foresee 27 = .ok (.ireturn, 1) := by decide +kernel
theorem dX3_foresee_28 : decode cX3_foresee 28 = .ok (.iload_n 2, 1) := by decide +kernel
theorem dX3_foresee_29 : decode cX3_foresee 29 = .ok (.iconst 1, 1) := by decide +kernel
theorem dX3_foresee_30 : decode cX3_foresee 30 = .ok (.sipush 400, 3) := by decide +kernel
theorem dX3_foresee_33 : decode cX3_foresee 33 = .ok (.invokestatic 32, 3) := by decide +kernel
theorem dX3_foresee_36 : decode cX3_foresee 36 = .ok (.ifCond .ne 9, 3) := by decide +kernel
theorem dX3_foresee_39 : decode cX3_foresee 39 = .ok (.aload_n 0, 1) := by decide +kernel
theorem dX3_foresee_40 : decode cX3_foresee 40 = .ok (.iconst 2, 1) := by decide +kernel
theorem dX3_foresee_41 : decode cX3_foresee 41 = .ok (.invokevirtual 36, 3) := by decide +kernel
theorem dX3_foresee_44 : decode cX3_foresee 44 = .ok (.ireturn, 1) := by decide +kernel
theorem dX3_foresee_45 : decode cX3_foresee 45 = .ok (.aload_n 0, 1) := by decide +kernel
theorem dX3_foresee_46 : decode cX3_foresee 46 = .ok (.getfield 40, 3) := by decide +kernel
theorem dX3_foresee_49 : decode cX3_foresee 49 = .ok (.istore 4, 2) := by decide +kernel
theorem dX3_foresee_51 : decode cX3_foresee 51 = .ok (.aload_n 0, 1) := by decide +kernel
theorem dX3_foresee_52 : decode cX3_foresee 52 = .ok (.getfield 95, 3) := by decide +kernel
theorem dX3_foresee_55 : decode cX3_foresee 55 = .ok (.istore 5, 2) := by decide +kernel
theorem dX3_foresee_57 : decode cX3_foresee 57 = .ok (.aload_n 0, 1) := by decide +kernel
theorem dX3_foresee_58 : decode cX3_foresee 58 = .ok (.getfield 20, 3) := by decide +kernel
theorem dX3_foresee_61 : decode cX3_foresee 61 = .ok (.iconst 0, 1) := by decide +kernel
theorem dX3_foresee_62 : decode cX3_foresee 62 = .ok (.aload_n 0, 1) := by decide +kernel
theorem dX3_foresee_63 : decode cX3_foresee 63 = .ok (.getfield 23, 3) := by decide +kernel
theorem dX3_foresee_66 : decode cX3_foresee 66 = .ok (.iconst 0, 1) := by decide +kernel
theorem dX3_foresee_67 : decode cX3_foresee 67 = .ok (.sipush 174, 3) := by decide +kernel
theorem dX3_foresee_70 : decode cX3_foresee 70 = .ok (.invokestatic 46, 3) := by decide +kernel
theorem dX3_foresee_73 : decode cX3_foresee 73 = .ok (.iconst 0, 1) := by decide +kernel
theorem dX3_foresee_74 : decode cX3_foresee 74 = .ok (.istore 6, 2) := by decide +kernel
theorem dX3_foresee_76 : decode cX3_foresee 76 = .ok (.iload 6, 2) := by decide +kernel
theorem dX3_foresee_78 : decode cX3_foresee 78 = .ok (.iload_n 2, 1) := by decide +kernel
theorem dX3_foresee_79 : decode cX3_foresee 79 = .ok (.if_icmp .ge 13, 3) := by decide +kernel
theorem dX3_foresee_82 : decode cX3_foresee 82 = .ok (.aload_n 0, 1) := by decide +kernel
theorem dX3_foresee_83 : decode cX3_foresee 83 = .ok (.invokevirtual 111, 3) := by decide +kernel
theorem dX3_foresee_86 : decode cX3_foresee 86 = .ok (.iinc 6 1, 3) := by decide +kernel
theorem dX3_foresee_89 : decode cX3_foresee 89 = .ok (.goto (-13), 3) := by decide +kernel
theorem dX3_foresee_92 : decode cX3_foresee 92 = .ok (.iload_n 3, 1) := by decide +kernel
theorem dX3_foresee_93 : decode cX3_foresee 93 = .ok (.ifCond .ne 13, 3) := by decide +kernel
theorem dX3_foresee_96 : decode cX3_foresee 96 = .ok (.aload_n 0, 1) := by decide +kernel
theorem dX3_foresee_97 : decode cX3_foresee 97 = .ok (.iload_n 1, 1) := by decide +kernel
theorem dX3_foresee_98 : decode cX3_foresee 98 = .ok (.bipush 9, 2) := by decide +kernel
theorem dX3_foresee_100 : decode cX3_foresee 100 = .ok (.invokevirtual 56, 3) := by decide +kernel
theorem dX3_foresee_103 : decode cX3_foresee 103 = .ok (.goto 23, 3) := by decide +kernel
theorem dX3_foresee_106 : decode cX3_foresee 106 = .ok (.iload_n 3, 1) := by decide +kernel
theorem dX3_foresee_107 : decode cX3_foresee 107 = .ok (.iconst 1, 1) := by decide +kernel
theorem dX3_foresee_108 : decode cX3_foresee 108 = .ok (.if_icmp .ne 11, 3) := by decide +kernel
theorem dX3_foresee_111 : decode cX3_foresee 111 = .ok (.aload_n 0, 1) := by decide +kernel
theorem dX3_foresee_112 : decode cX3_foresee 112 = .ok (.iload_n 1, 1) := by decide +kernel
theorem dX3_foresee_113 : decode cX3_foresee 113 = .ok (.invokevirtual 127, 3) := by decide +kernel
theorem dX3_foresee_116 : decode cX3_foresee 116 = .ok (.goto 10, 3) := by decide +kernel
theorem dX3_foresee_119 : decode cX3_foresee 119 = .ok (.aload_n 0, 1) := by decide +kernel
theorem dX3_foresee_120 : decode cX3_foresee 120 = .ok (.iload_n 1, 1) := by decide +kernel
theorem dX3_foresee_121 : decode cX3_foresee 121 = .ok (.bipush 10, 2) := by decide +kernel
theorem dX3_foresee_123 : decode cX3_foresee 123 = .ok (.invokevirtual 56, 3) := by decide +kernel
theorem dX3_foresee_126 : decode cX3_foresee 126 = .ok (.istore 6, 2) := by decide +kernel
theorem dX3_foresee_128 : decode cX3_foresee 128 = .ok (.aload_n 0, 1) := by decide +kernel
theorem dX3_foresee_129 : decode cX3_foresee 129 = .ok (.getfield 23, 3) := by decide +kernel
theorem dX3_foresee_132 : decode cX3_foresee 132 = .ok (.iconst 0, 1) := by decide +kernel
theorem dX3_foresee_133 : decode cX3_foresee 133 = .ok (.aload_n 0, 1) := by decide +kernel
theorem dX3_foresee_134 : decode cX3_foresee 134 = .ok (.getfield 20, 3) := by decide +kernel
theorem dX3_foresee_137 : decode cX3_foresee 137 = .ok (.iconst 0, 1) := by decide +kernel
theorem dX3_foresee_138 : decode cX3_foresee 138 = .ok (.sipush 174, 3) := by decide +kernel
theorem dX3_foresee_141 : decode cX3_foresee 141 = .ok (.invokestatic 46, 3) := by decide +kernel
theorem dX3_foresee_144 : decode cX3_foresee 144 = .ok (.aload_n 0, 1) := by decide +kernel
theorem dX3_foresee_145 : decode cX3_foresee 145 = .ok (.iload 4, 2) := by decide +kernel
theorem dX3_foresee_147 : decode cX3_foresee 147 = .ok (.putfield 40, 3) := by decide +kernel
theorem dX3_foresee_150 : decode cX3_foresee 150 = .ok (.aload_n 0, 1) := by decide +kernel
theorem dX3_foresee_151 : decode cX3_foresee 151 = .ok (.iload 5, 2) := by decide +kernel
theorem dX3_foresee_153 : decode cX3_foresee 153 = .ok (.putfield 95, 3) := by decide +kernel
theorem dX3_foresee_156 : decode cX3_foresee 156 = .ok (.iload 6, 2) := by decide +kernel
theorem dX3_foresee_158 : decode cX3_foresee 158 = .ok (.ireturn, 1) := by decide +kernel
theorem dX3_advise_0 : decode cX3_advise 0 = .ok (.aload_n 0, 1) := by decide +kernel
theorem dX3_advise_1 : decode cX3_advise 1 = .ok (.iconst 0, 1) := by decide +kernel
theorem dX3_advise_2 : decode cX3_advise 2 = .ok (.putfield 26, 3) := by decide +kernel
theorem dX3_advise_5 : decode cX3_advise 5 = .ok (.aload_n 0, 1) := by decide +kernel
theorem dX3_advise_6 : decode cX3_advise 6 = .ok (.iload_n 1, 1) := by decide +kernel
theorem dX3_advise_7 : decode cX3_advise 7 = .ok (.invokevirtual 64, 3) := by decide +kernel
theorem dX3_advise_10 : decode cX3_advise 10 = .ok (.ifCond .ne 9, 3) := by decide +kernel
theorem dX3_advise_13 : decode cX3_advise 13 = .ok (.aload_n 0, 1) := by decide +kernel
theorem dX3_advise_14 : decode cX3_advise 14 = .ok (.iconst 1, 1) := by decide +kernel
theorem dX3_advise_15 : decode cX3_advise 15 = .ok (.invokevirtual 36, 3) := by decide +kernel
theorem dX3_advise_18 : decode cX3_advise 18 = .ok (.ireturn, 1) := by decide +kernel
theorem dX3_advise_19 : decode cX3_advise 19 = .ok (.iload_n 2, 1) := by decide +kernel
theorem dX3_advise_20 : decode cX3_advise 20 = .ok (.iconst 1, 1) := by decide +kernel
theorem dX3_advise_21 : decode cX3_advise 21 = .ok (.sipush 200, 3) := by decide +kernel
theorem dX3_advise_24 : decode cX3_advise 24 = .ok (.invokestatic 32, 3) := by decide +kernel
theorem dX3_advise_27 : decode cX3_advise 27 = .ok (.ifCond .ne 9, 3) := by decide +kernel
theorem dX3_advise_30 : decode cX3_advise 30 = .ok (.aload_n 0, 1) := by decide +kernel
theorem dX3_advise_31 : decode cX3_advise 31 = .ok (.iconst 2, 1) := by decide +kernel
theorem dX3_advise_32 : decode cX3_advise 32 = .ok (.invokevirtual 36, 3) := by decide +kernel
theorem dX3_advise_35 : decode cX3_advise 35 = .ok (.ireturn, 1) := by decide +kernel
theorem dX3_advise_36 : decode cX3_advise 36 = .ok (.aload_n 0, 1) := by decide +kernel
theorem dX3_advise_37 : decode cX3_advise 37 = .ok (.iload_n 1, 1) := by decide +kernel
theorem dX3_advise_38 : decode cX3_advise 38 = .ok (.bipush 7, 2) := by decide +kernel
theorem dX3_advise_40 : decode cX3_advise 40 = .ok (.invokevirtual 56, 3) := by decide +kernel
theorem dX3_advise_43 : decode cX3_advise 43 = .ok (.istore_n 3, 1) := by decide +kernel
theorem dX3_advise_44 : decode cX3_advise 44 = .ok (.iconst 0, 1) := by decide +kernel
theorem dX3_advise_45 : decode cX3_advise 45 = .ok (.istore 4, 2) := by decide +kernel
theorem dX3_advise_47 : decode cX3_advise 47 = .ok (.iconst (-1), 1) := by decide +kernel
theorem dX3_advise_48 : decode cX3_advise 48 = .ok (.istore 5, 2) := by decide +kernel
theorem dX3_advise_50 : decode cX3_advise 50 = .ok (.iconst 0, 1) := by decide +kernel
theorem dX3_advise_51 : decode cX3_advise 51 = .ok (.istore 6, 2) := by decide +kernel
theorem dX3_advise_53 : decode cX3_advise 53 = .ok (.iload 6, 2) := by decide +kernel
theorem dX3_advise_55 : decode cX3_advise 55 = .ok (.bipush 10, 2) := by decide +kernel
theorem dX3_advise_57 : decode cX3_advise 57 = .ok (.if_icmp .gt 45, 3) := by decide +kernel
theorem dX3_advise_60 : decode cX3_advise 60 = .ok (.aload_n 0, 1) := by decide +kernel
theorem dX3_advise_61 : decode cX3_advise 61 = .ok (.iload_n 1, 1) := by decide +kernel
theorem dX3_advise_62 : decode cX3_advise 62 = .ok (.bipush 7, 2) := by decide +kernel
theorem dX3_advise_64 : decode cX3_advise 64 = .ok (.iload 6, 2) := by decide +kernel
theorem dX3_advise_66 : decode cX3_advise 66 = .ok (.invokevirtual 52, 3) := by decide +kernel
theorem dX3_advise_69 : decode cX3_advise 69 = .ok (.aload_n 0, 1) := by decide +kernel
theorem dX3_advise_70 : decode cX3_advise 70 = .ok (.iload_n 1, 1) := by decide +kernel
theorem dX3_advise_71 : decode cX3_advise 71 = .ok (.iload_n 2, 1) := by decide +kernel
theorem dX3_advise_72 : decode cX3_advise 72 = .ok (.iconst 0, 1) := by decide +kernel
theorem dX3_advise_73 : decode cX3_advise 73 = .ok (.invokevirtual 133, 3) := by decide +kernel
theorem dX3_advise_76 : decode cX3_advise 76 = .ok (.istore 7, 2) := by decide +kernel
theorem dX3_advise_78 : decode cX3_advise 78 = .ok (.iload 7, 2) := by decide +kernel
theorem dX3_advise_80 : decode cX3_advise 80 = .ok (.iload 5, 2) := by decide +kernel
theorem dX3_advise_82 : decode cX3_advise 82 = .ok (.if_icmp .gt 6, 3) := by decide +kernel
theorem dX3_advise_85 : decode cX3_advise 85 = .ok (.goto 11, 3) := by decide +kernel
theorem dX3_advise_88 : decode cX3_advise 88 = .ok (.iload 7, 2) := by decide +kernel
theorem dX3_advise_90 : decode cX3_advise 90 = .ok (.istore 5, 2) := by decide +kernel
theorem dX3_advise_92 : decode cX3_advise 92 = .ok (.iload 6, 2) := by decide +kernel
theorem dX3_advise_94 : decode cX3_advise 94 = .ok (.istore 4, 2) := by decide +kernel
theorem dX3_advise_96 : decode cX3_advise 96 = .ok (.iinc 6 1, 3) := by decide +kernel
theorem dX3_advise_99 : decode cX3_advise 99 = .ok (.goto (-46), 3) := by decide +kernel
theorem dX3_advise_102 : decode cX3_advise 102 = .ok (.aload_n 0, 1) := by decide +kernel
theorem dX3_advise_103 : decode cX3_advise 103 = .ok (.iload_n 1, 1) := by decide +kernel
theorem dX3_advise_104 : decode cX3_advise 104 = .ok (.bipush 7, 2) := by decide +kernel
theorem dX3_advise_106 : decode cX3_advise 106 = .ok (.iload_n 3, 1) := by decide +kernel
theorem dX3_advise_107 : decode cX3_advise 107 = .ok (.invokevirtual 52, 3) := by decide +kernel
theorem dX3_advise_110 : decode cX3_advise 110 = .ok (.iload 4, 2) := by decide +kernel
theorem dX3_advise_112 : decode cX3_advise 112 = .ok (.ireturn, 1) := by decide +kernel
theorem dX3_mean_0 : decode cX3_mean 0 = .ok (.aload_n 0, 1) := by decide +kernel
theorem dX3_mean_1 : decode cX3_mean 1 = .ok (.iconst 0, 1) := by decide +kernel
theorem dX3_mean_2 : decode cX3_mean 2 = .ok (.putfield 26, 3) := by decide +kernel
theorem dX3_mean_5 : decode cX3_mean 5 = .ok (.iconst 0, 1) := by decide +kernel
theorem dX3_mean_6 : decode cX3_mean 6 = .ok (.istore_n 1, 1) := by decide +kernel
theorem dX3_mean_7 : decode cX3_mean 7 = .ok (.iconst 0, 1) := by decide +kernel
theorem dX3_mean_8 : decode cX3_mean 8 = .ok (.istore_n 2, 1) := by decide +kernel
theorem dX3_mean_9 : decode cX3_mean 9 = .ok (.iload_n 2, 1) := by decide +kernel
theorem dX3_mean_10 : decode cX3_mean 10 = .ok (.aload_n 0, 1) := by decide +kernel
theorem dX3_mean_11 : decode cX3_mean 11 = .ok (.getfield 29, 3) := by decide +kernel
theorem dX3_mean_14 : decode cX3_mean 14 = .ok (.if_icmp .ge 19, 3) := by decide +kernel
theorem dX3_mean_17 : decode cX3_mean 17 = .ok (.iload_n 1, 1) := by decide +kernel
theorem dX3_mean_18 : decode cX3_mean 18 = .ok (.aload_n 0, 1) := by decide +kernel
theorem dX3_mean_19 : decode cX3_mean 19 = .ok (.iload_n 2, 1) := by decide +kernel
theorem dX3_mean_20 : decode cX3_mean 20 = .ok (.bipush 9, 2) := by decide +kernel
theorem dX3_mean_22 : decode cX3_mean 22 = .ok (.invokevirtual 56, 3) := by decide +kernel
theorem dX3_mean_25 : decode cX3_mean 25 = .ok (.iadd, 1) := by decide +kernel
theorem dX3_mean_26 : decode cX3_mean 26 = .ok (.istore_n 1, 1) := by decide +kernel
theorem dX3_mean_27 : decode cX3_mean 27 = .ok (.iinc 2 1, 3) := by decide +kernel
theorem dX3_mean_30 : decode cX3_mean 30 = .ok (.goto (-21), 3) := by decide +kernel
theorem dX3_mean_33 : decode cX3_mean 33 = .ok (.aload_n 0, 1) := by decide +kernel
theorem dX3_mean_34 : decode cX3_mean 34 = .ok (.getfield 29, 3) := by decide +kernel
theorem dX3_mean_37 : decode cX3_mean 37 = .ok (.ifCond .ne 7, 3) := by decide +kernel
theorem dX3_mean_40 : decode cX3_mean 40 = .ok (.dconst 0, 1) := by decide +kernel
theorem dX3_mean_41 : decode cX3_mean 41 = .ok (.goto 11, 3) := by decide +kernel
theorem dX3_mean_44 : decode cX3_mean 44 = .ok (.iload_n 1, 1) := by decide +kernel
theorem dX3_mean_45 : decode cX3_mean 45 = .ok (.i2d, 1) := by decide +kernel
theorem dX3_mean_46 : decode cX3_mean 46 = .ok (.aload_n 0, 1) := by decide +kernel
theorem dX3_mean_47 : decode cX3_mean 47 = .ok (.getfield 29, 3) := by decide +kernel
theorem dX3_mean_50 : decode cX3_mean 50 = .ok (.i2d, 1) := by decide +kernel
theorem dX3_mean_51 : decode cX3_mean 51 = .ok (.ddiv, 1) := by decide +kernel
theorem dX3_mean_52 : decode cX3_mean 52 = .ok (.dreturn, 1) := by decide +kernel
theorem dX3_digest_0 : decode cX3_digest 0 = .ok (.aload_n 0, 1) := by decide +kernel
theorem dX3_digest_1 : decode cX3_digest 1 = .ok (.iconst 0, 1) := by decide +kernel
theorem dX3_digest_2 : decode cX3_digest 2 = .ok (.putfield 26, 3) := by decide +kernel
theorem dX3_digest_5 : decode cX3_digest 5 = .ok (.ldc2_w 137, 3) := by decide +kernel
theorem dX3_digest_8 : decode cX3_digest 8 = .ok (.lstore_n 1, 1) := by decide +kernel
theorem dX3_digest_9 : decode cX3_digest 9 = .ok (.iconst 0, 1) := by decide +kernel
theorem dX3_digest_10 : decode cX3_digest 10 = .ok (.istore_n 3, 1) := by decide +kernel
theorem dX3_digest_11 : decode cX3_digest 11 = .ok (.iload_n 3, 1) := by decide +kernel
theorem dX3_digest_12 : decode cX3_digest 12 = .ok (.bipush 6, 2) := by decide +kernel
theorem dX3_digest_14 : decode cX3_digest 14 = .ok (.if_icmp .ge 22, 3) := by decide +kernel
theorem dX3_digest_17 : decode cX3_digest 17 = .ok (.lload_n 1, 1) := by decide +kernel
theorem dX3_digest_18 : decode cX3_digest 18 = .ok (.ldc2_w 139, 3) := by decide +kernel
theorem dX3_digest_21 : decode cX3_digest 21 = .ok (.lmul, 1) := by decide +kernel
theorem dX3_digest_22 : decode cX3_digest 22 = .ok (.aload_n 0, 1) := by decide +kernel
theorem dX3_digest_23 : decode cX3_digest 23 = .ok (.iload_n 3, 1) := by decide +kernel
theorem dX3_digest_24 : decode cX3_digest 24 = .ok (.invokevirtual 118, 3) := by decide +kernel
theorem dX3_digest_27 : decode cX3_digest 27 = .ok (.i2l, 1) := by decide +kernel
theorem dX3_digest_28 : decode cX3_digest 28 = .ok (.ladd, 1) := by decide +kernel
theorem dX3_digest_29 : decode cX3_digest 29 = .ok (.lstore_n 1, 1) := by decide +kernel
theorem dX3_digest_30 : decode cX3_digest 30 = .ok (.iinc 3 1, 3) := by decide +kernel
theorem dX3_digest_33 : decode cX3_digest 33 = .ok (.goto (-22), 3) := by decide +kernel
theorem dX3_digest_36 : decode cX3_digest 36 = .ok (.iconst 0, 1) := by decide +kernel
theorem dX3_digest_37 : decode cX3_digest 37 = .ok (.istore_n 3, 1) := by decide +kernel
theorem dX3_digest_38 : decode cX3_digest 38 = .ok (.iload_n 3, 1) := by decide +kernel
theorem dX3_digest_39 : decode cX3_digest 39 = .ok (.aload_n 0, 1) := by decide +kernel
theorem dX3_digest_40 : decode cX3_digest 40 = .ok (.getfield 29, 3) := by decide +kernel
theorem dX3_digest_43 : decode cX3_digest 43 = .ok (.if_icmp .ge 94, 3) := by decide +kernel
theorem dX3_digest_46 : decode cX3_digest 46 = .ok (.iconst 0, 1) := by decide +kernel
theorem dX3_digest_47 : decode cX3_digest 47 = .ok (.istore 4, 2) := by decide +kernel
theorem dX3_digest_49 : decode cX3_digest 49 = .ok (.iload 4, 2) := by decide +kernel
theorem dX3_digest_51 : decode cX3_digest 51 = .ok (.bipush 12, 2) := by decide +kernel
theorem dX3_digest_53 : decode cX3_digest 53 = .ok (.if_icmp .ge 24, 3) := by decide +kernel
theorem dX3_digest_56 : decode cX3_digest 56 = .ok (.lload_n 1, 1) := by decide +kernel
theorem dX3_digest_57 : decode cX3_digest 57 = .ok (.ldc2_w 139, 3) := by decide +kernel
theorem dX3_digest_60 : decode cX3_digest 60 = .ok (.lmul, 1) := by decide +kernel
theorem dX3_digest_61 : decode cX3_digest 61 = .ok (.aload_n 0, 1) := by decide +kernel
theorem dX3_digest_62 : decode cX3_digest 62 = .ok (.iload_n 3, 1) := by decide +kernel
theorem dX3_digest_63 : decode cX3_digest 63 = .ok (.iload 4, 2) := by decide +kernel
theorem dX3_digest_65 : decode cX3_digest 65 = .ok (.invokevirtual 121, 3) := by decide +kernel
theorem dX3_digest_68 : decode cX3_digest 68 = .ok (.i2l, 1) := by decide +kernel
theorem dX3_digest_69 : decode cX3_digest 69 = .ok (.ladd, 1) := by decide +kernel
theorem dX3_digest_70 : decode cX3_digest 70 = .ok (.lstore_n 1, 1) := by decide +kernel
theorem dX3_digest_71 : decode cX3_digest 71 = .ok (.iinc 4 1, 3) := by decide +kernel
theorem dX3_digest_74 : decode cX3_digest 74 = .ok (.goto (-25), 3) := by decide +kernel
theorem dX3_digest_77 : decode cX3_digest 77 = .ok (.iconst 0, 1) := by decide +kernel
theorem dX3_digest_78 : decode cX3_digest 78 = .ok (.istore 4, 2) := by decide +kernel
theorem dX3_digest_80 : decode cX3_digest 80 = .ok (.iload 4, 2) := by decide +kernel
theorem dX3_digest_82 : decode cX3_digest 82 = .ok (.aload_n 0, 1) := by decide +kernel
theorem dX3_digest_83 : decode cX3_digest 83 = .ok (.iload_n 3, 1) := by decide +kernel
theorem dX3_digest_84 : decode cX3_digest 84 = .ok (.iconst 2, 1) := by decide +kernel
theorem dX3_digest_85 : decode cX3_digest 85 = .ok (.invokevirtual 56, 3) := by decide +kernel
theorem dX3_digest_88 : decode cX3_digest 88 = .ok (.if_icmp .ge 43, 3) := by decide +kernel
theorem dX3_digest_91 : decode cX3_digest 91 = .ok (.lload_n 1, 1) := by decide +kernel
theorem dX3_digest_92 : decode cX3_digest 92 = .ok (.ldc2_w 139, 3) := by decide +kernel
theorem dX3_digest_95 : decode cX3_digest 95 = .ok (.lmul, 1) := by decide +kernel
theorem dX3_digest_96 : decode cX3_digest 96 = .ok (.aload_n 0, 1) := by decide +kernel
theorem dX3_digest_97 : decode cX3_digest 97 = .ok (.iload_n 3, 1) := by decide +kernel
theorem dX3_digest_98 : decode cX3_digest 98 = .ok (.iload 4, 2) := by decide +kernel
theorem dX3_digest_100 : decode cX3_digest 100 = .ok (.invokevirtual 68, 3) := by decide +kernel
theorem dX3_digest_103 : decode cX3_digest 103 = .ok (.ifCond .eq 9, 3) := by decide +kernel
theorem dX3_digest_106 : decode cX3_digest 106 = .ok (.sipush (-9999), 3) := by decide +kernel
theorem dX3_digest_109 : decode cX3_digest 109 = .ok (.goto 13, 3) := by decide +kernel
theorem dX3_digest_112 : decode cX3_digest 112 = .ok (.aload_n 0, 1) := by decide +kernel
theorem dX3_digest_113 : decode cX3_digest 113 = .ok (.iload_n 3, 1) := by decide +kernel
theorem dX3_digest_114 : decode cX3_digest 114 = .ok (.bipush 15, 2) := by decide +kernel
theorem dX3_digest_116 : decode cX3_digest 116 = .ok (.iload 4, 2) := by decide +kernel
theorem dX3_digest_118 : decode cX3_digest 118 = .ok (.iadd, 1) := by decide +kernel
theorem dX3_digest_119 : decode cX3_digest 119 = .ok (.invokevirtual 56, 3) := by decide +kernel
theorem dX3_digest_122 : decode cX3_digest 122 = .ok (.i2l, 1) := by decide +kernel
theorem dX3_digest_123 : decode cX3_digest 123 = .ok (.ladd, 1) := by decide +kernel
theorem dX3_digest_124 : decode cX3_digest 124 = .ok (.lstore_n 1, 1) := by decide +kernel
theorem dX3_digest_125 : decode cX3_digest 125 = .ok (.iinc 4 1, 3) := by decide +kernel
theorem dX3_digest_128 : decode cX3_digest 128 = .ok (.goto (-48), 3) := by decide +kernel
theorem dX3_digest_131 : decode cX3_digest 131 = .ok (.iinc 3 1, 3) := by decide +kernel
theorem dX3_digest_134 : decode cX3_digest 134 = .ok (.goto (-96), 3) := by decide +kernel
theorem dX3_digest_137 : decode cX3_digest 137 = .ok (.iconst 0, 1) := by decide +kernel
theorem dX3_digest_138 : decode cX3_digest 138 = .ok (.istore_n 3, 1) := by decide +kernel
theorem dX3_digest_139 : decode cX3_digest 139 = .ok (.iload_n 3, 1) := by decide +kernel
theorem dX3_digest_140 : decode cX3_digest 140 = .ok (.aload_n 0, 1) := by decide +kernel
theorem dX3_digest_141 : decode cX3_digest 141 = .ok (.getfield 29, 3) := by decide +kernel
theorem dX3_digest_144 : decode cX3_digest 144 = .ok (.if_icmp .ge 22, 3) := by decide +kernel
theorem dX3_digest_147 : decode cX3_digest 147 = .ok (.lload_n 1, 1) := by decide +kernel
theorem dX3_digest_148 : decode cX3_digest 148 = .ok (.ldc2_w 139, 3) := by decide +kernel
theorem dX3_digest_151 : decode cX3_digest 151 = .ok (.lmul, 1) := by decide +kernel
theorem dX3_digest_152 : decode cX3_digest 152 = .ok (.aload_n 0, 1) := by decide +kernel
theorem dX3_digest_153 : decode cX3_digest 153 = .ok (.iload_n 3, 1) := by decide +kernel
theorem dX3_digest_154 : decode cX3_digest 154 = .ok (.invokevirtual 130, 3) := by decide +kernel
theorem dX3_digest_157 : decode cX3_digest 157 = .ok (.i2l, 1) := by decide +kernel
theorem dX3_digest_158 : decode cX3_digest 158 = .ok (.ladd, 1) := by decide +kernel
theorem dX3_digest_159 : decode cX3_digest 159 = .ok (.lstore_n 1, 1) := by decide +kernel
theorem dX3_digest_160 : decode cX3_digest 160 = .ok (.iinc 3 1, 3) := by decide +kernel
theorem dX3_digest_163 : decode cX3_digest 163 = .ok (.goto (-24), 3) := by decide +kernel
theorem dX3_digest_166 : decode cX3_digest 166 = .ok (.lload_n 1, 1) := by decide +kernel
theorem dX3_digest_167 : decode cX3_digest 167 = .ok (.lreturn, 1) := by decide +kernel
