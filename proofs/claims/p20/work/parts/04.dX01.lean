theorem dX0_init_0 : decode cX0_init 0 = .ok (.aload_n 0, 1) := by decide +kernel
theorem dX0_init_1 : decode cX0_init 1 = .ok (.invokespecial 1, 3) := by decide +kernel
theorem dX0_init_4 : decode cX0_init 4 = .ok (.aload_n 0, 1) := by decide +kernel
theorem dX0_init_5 : decode cX0_init 5 = .ok (.iload_n 1, 1) := by decide +kernel
theorem dX0_init_6 : decode cX0_init 6 = .ok (.putfield 7, 3) := by decide +kernel
theorem dX0_init_9 : decode cX0_init 9 = .ok (.aload_n 0, 1) := by decide +kernel
theorem dX0_init_10 : decode cX0_init 10 = .ok (.iload_n 2, 1) := by decide +kernel
theorem dX0_init_11 : decode cX0_init 11 = .ok (.putfield 13, 3) := by decide +kernel
theorem dX0_init_14 : decode cX0_init 14 = .ok (.aload_n 0, 1) := by decide +kernel
theorem dX0_init_15 : decode cX0_init 15 = .ok (.iload_n 3, 1) := by decide +kernel
theorem dX0_init_16 : decode cX0_init 16 = .ok (.putfield 16, 3) := by decide +kernel
theorem dX0_init_19 : decode cX0_init 19 = .ok (.aload_n 0, 1) := by decide +kernel
theorem dX0_init_20 : decode cX0_init 20 = .ok (.iload 4, 2) := by decide +kernel
theorem dX0_init_22 : decode cX0_init 22 = .ok (.putfield 19, 3) := by decide +kernel
theorem dX0_init_25 : decode cX0_init 25 = .ok (.aload_n 0, 1) := by decide +kernel
theorem dX0_init_26 : decode cX0_init 26 = .ok (.iconst 4, 1) := by decide +kernel
theorem dX0_init_27 : decode cX0_init 27 = .ok (.putfield 22, 3) := by decide +kernel
theorem dX0_init_30 : decode cX0_init 30 = .ok (.aload_n 0, 1) := by decide +kernel
theorem dX0_init_31 : decode cX0_init 31 = .ok (.bipush 10, 2) := by decide +kernel
theorem dX0_init_33 : decode cX0_init 33 = .ok (.putfield 25, 3) := by decide +kernel
theorem dX0_init_36 : decode cX0_init 36 = .ok (.aload_n 0, 1) := by decide +kernel
theorem dX0_init_37 : decode cX0_init 37 = .ok (.iconst 1, 1) := by decide +kernel
theorem dX0_init_38 : decode cX0_init 38 = .ok (.putfield 28, 3) := by decide +kernel
theorem dX0_init_41 : decode cX0_init 41 = .ok (.aload_n 0, 1) := by decide +kernel
theorem dX0_init_42 : decode cX0_init 42 = .ok (.sipush 200, 3) := by decide +kernel
theorem dX0_init_45 : decode cX0_init 45 = .ok (.putfield 31, 3) := by decide +kernel
theorem dX0_init_48 : decode cX0_init 48 = .ok (.aload_n 0, 1) := by decide +kernel
theorem dX0_init_49 : decode cX0_init 49 = .ok (.iconst 5, 1) := by decide +kernel
theorem dX0_init_50 : decode cX0_init 50 = .ok (.putfield 34, 3) := by decide +kernel
theorem dX0_init_53 : decode cX0_init 53 = .ok (.aload_n 0, 1) := by decide +kernel
theorem dX0_init_54 : decode cX0_init 54 = .ok (.bipush 10, 2) := by decide +kernel
theorem dX0_init_56 : decode cX0_init 56 = .ok (.putfield 37, 3) := by decide +kernel
theorem dX0_init_59 : decode cX0_init 59 = .ok (.aload_n 0, 1) := by decide +kernel
theorem dX0_init_60 : decode cX0_init 60 = .ok (.bipush 8, 2) := by decide +kernel
theorem dX0_init_62 : decode cX0_init 62 = .ok (.newarray .int, 2) := by decide +kernel
theorem dX0_init_64 : decode cX0_init 64 = .ok (.putfield 40, 3) := by decide +kernel
theorem dX0_init_67 : decode cX0_init 67 = .ok (.aload_n 0, 1) := by decide +kernel
theorem dX0_init_68 : decode cX0_init 68 = .ok (.iconst 3, 1) := by decide +kernel
theorem dX0_init_69 : decode cX0_init 69 = .ok (.newarray .int, 2) := by decide +kernel
theorem dX0_init_71 : decode cX0_init 71 = .ok (.putfield 44, 3) := by decide +kernel
theorem dX0_init_74 : decode cX0_init 74 = .ok (.aload_n 0, 1) := by decide +kernel
theorem dX0_init_75 : decode cX0_init 75 = .ok (.iconst 3, 1) := by decide +kernel
theorem dX0_init_76 : decode cX0_init 76 = .ok (.newarray .int, 2) := by decide +kernel
theorem dX0_init_78 : decode cX0_init 78 = .ok (.putfield 47, 3) := by decide +kernel
theorem dX0_init_81 : decode cX0_init 81 = .ok (.aload_n 0, 1) := by decide +kernel
theorem dX0_init_82 : decode cX0_init 82 = .ok (.invokevirtual 50, 3) := by decide +kernel
theorem dX0_init_85 : decode cX0_init 85 = .ok (.return_, 1) := by decide +kernel
theorem dX0_goToStart_0 : decode cX0_goToStart 0 = .ok (.aload_n 0, 1) := by decide +kernel
theorem dX0_goToStart_1 : decode cX0_goToStart 1 = .ok (.iconst 0, 1) := by decide +kernel
theorem dX0_goToStart_2 : decode cX0_goToStart 2 = .ok (.putfield 53, 3) := by decide +kernel
theorem dX0_goToStart_5 : decode cX0_goToStart 5 = .ok (.aload_n 0, 1) := by decide +kernel
theorem dX0_goToStart_6 : decode cX0_goToStart 6 = .ok (.sipush 1000, 3) := by decide +kernel
theorem dX0_goToStart_9 : decode cX0_goToStart 9 = .ok (.putfield 56, 3) := by decide +kernel
theorem dX0_goToStart_12 : decode cX0_goToStart 12 = .ok (.aload_n 0, 1) := by decide +kernel
theorem dX0_goToStart_13 : decode cX0_goToStart 13 = .ok (.aload_n 0, 1) := by decide +kernel
theorem dX0_goToStart_14 : decode cX0_goToStart 14 = .ok (.getfield 31, 3) := by decide +kernel
theorem dX0_goToStart_17 : decode cX0_goToStart 17 = .ok (.putfield 59, 3) := by decide +kernel
theorem dX0_goToStart_20 : decode cX0_goToStart 20 = .ok (.aload_n 0, 1) := by decide +kernel
theorem dX0_goToStart_21 : decode cX0_goToStart 21 = .ok (.iconst 0, 1) := by decide +kernel
theorem dX0_goToStart_22 : decode cX0_goToStart 22 = .ok (.putfield 62, 3) := by decide +kernel
theorem dX0_goToStart_25 : decode cX0_goToStart 25 = .ok (.aload_n 0, 1) := by decide +kernel
theorem dX0_goToStart_26 : decode cX0_goToStart 26 = .ok (.iconst 0, 1) := by decide +kernel
theorem dX0_goToStart_27 : decode cX0_goToStart 27 = .ok (.putfield 65, 3) := by decide +kernel
theorem dX0_goToStart_30 : decode cX0_goToStart 30 = .ok (.aload_n 0, 1) := by decide +kernel
theorem dX0_goToStart_31 : decode cX0_goToStart 31 = .ok (.iconst 0, 1) := by decide +kernel
theorem dX0_goToStart_32 : decode cX0_goToStart 32 = .ok (.putfield 68, 3) := by decide +kernel
theorem dX0_goToStart_35 : decode cX0_goToStart 35 = .ok (.aload_n 0, 1) := by decide +kernel
theorem dX0_goToStart_36 : decode cX0_goToStart 36 = .ok (.iconst (-1), 1) := by decide +kernel
theorem dX0_goToStart_37 : decode cX0_goToStart 37 = .ok (.putfield 71, 3) := by decide +kernel
theorem dX0_goToStart_40 : decode cX0_goToStart 40 = .ok (.iconst 0, 1) := by decide +kernel
theorem dX0_goToStart_41 : decode cX0_goToStart 41 = .ok (.istore_n 1, 1) := by decide +kernel
theorem dX0_goToStart_42 : decode cX0_goToStart 42 = .ok (.iload_n 1, 1) := by decide +kernel
theorem dX0_goToStart_43 : decode cX0_goToStart 43 = .ok (.aload_n 0, 1) := by decide +kernel
theorem dX0_goToStart_44 : decode cX0_goToStart 44 = .ok (.getfield 19, 3) := by decide +kernel
theorem dX0_goToStart_47 : decode cX0_goToStart 47 = .ok (.if_icmp .ge 44, 3) := by decide +kernel
theorem dX0_goToStart_50 : decode cX0_goToStart 50 = .ok (.iload_n 1, 1) := by decide +kernel
theorem dX0_goToStart_51 : decode cX0_goToStart 51 = .ok (.aload_n 0, 1) := by decide +kernel
theorem dX0_goToStart_52 : decode cX0_goToStart 52 = .ok (.getfield 40, 3) := by decide +kernel
theorem dX0_goToStart_55 : decode cX0_goToStart 55 = .ok (.arraylength, 1) := by decide +kernel
theorem dX0_goToStart_56 : decode cX0_goToStart 56 = .ok (.if_icmp .ge 35, 3) := by decide +kernel
theorem dX0_goToStart_59 : decode cX0_goToStart 59 = .ok (.aload_n 0, 1) := by decide +kernel
theorem dX0_goToStart_60 : decode cX0_goToStart 60 = .ok (.getfield 40, 3) := by decide +kernel
theorem dX0_goToStart_63 : decode cX0_goToStart 63 = .ok (.iload_n 1, 1) := by decide +kernel
theorem dX0_goToStart_64 : decode cX0_goToStart 64 = .ok (.aload_n 0, 1) := by decide +kernel
theorem dX0_goToStart_65 : decode cX0_goToStart 65 = .ok (.getfield 53, 3) := by decide +kernel
theorem dX0_goToStart_68 : decode cX0_goToStart 68 = .ok (.iload_n 1, 1) := by decide +kernel
theorem dX0_goToStart_69 : decode cX0_goToStart 69 = .ok (.iconst 1, 1) := by decide +kernel
theorem dX0_goToStart_70 : decode cX0_goToStart 70 = .ok (.iadd, 1) := by decide +kernel
theorem dX0_goToStart_71 : decode cX0_goToStart 71 = .ok (.aload_n 0, 1) := by decide +kernel
theorem dX0_goToStart_72 : decode cX0_goToStart 72 = .ok (.getfield 13, 3) := by decide +kernel
theorem dX0_goToStart_75 : decode cX0_goToStart 75 = .ok (.imul, 1) := by decide +kernel
theorem dX0_goToStart_76 : decode cX0_goToStart 76 = .ok (.aload_n 0, 1) := by decide +kernel
theorem dX0_goToStart_77 : decode cX0_goToStart 77 = .ok (.getfield 19, 3) := by decide +kernel
theorem dX0_goToStart_80 : decode cX0_goToStart 80 = .ok (.iconst 1, 1) := by decide +kernel
theorem dX0_goToStart_81 : decode cX0_goToStart 81 = .ok (.iadd, 1) := by decide +kernel
theorem dX0_goToStart_82 : decode cX0_goToStart 82 = .ok (.idiv, 1) := by decide +kernel
theorem dX0_goToStart_83 : decode cX0_goToStart 83 = .ok (.isub, 1) := by decide +kernel
theorem dX0_goToStart_84 : decode cX0_goToStart 84 = .ok (.iastore, 1) := by decide +kernel
theorem dX0_goToStart_85 : decode cX0_goToStart 85 = .ok (.iinc 1 1, 3) := by decide +kernel
theorem dX0_goToStart_88 : decode cX0_goToStart 88 = .ok (.goto (-46), 3) := by decide +kernel
theorem dX0_goToStart_91 : decode cX0_goToStart 91 = .ok (.iconst 0, 1) := by decide +kernel
theorem dX0_goToStart_92 : decode cX0_goToStart 92 = .ok (.istore_n 1, 1) := by decide +kernel
theorem dX0_goToStart_93 : decode cX0_goToStart 93 = .ok (.iload_n 1, 1) := by decide +kernel
theorem dX0_goToStart_94 : decode cX0_goToStart 94 = .ok (.aload_n 0, 1) := by decide +kernel
theorem dX0_goToStart_95 : decode cX0_goToStart 95 = .ok (.getfield 44, 3) := by decide +kernel
theorem dX0_goToStart_98 : decode cX0_goToStart 98 = .ok (.arraylength, 1) := by decide +kernel
theorem dX0_goToStart_99 : decode cX0_goToStart 99 = .ok (.if_icmp .ge 32, 3) := by decide +kernel
theorem dX0_goToStart_102 : decode cX0_goToStart 102 = .ok (.iload_n 1, 1) := by decide +kernel
theorem dX0_goToStart_103 : decode cX0_goToStart 103 = .ok (.aload_n 0, 1) := by decide +kernel
theorem dX0_goToStart_104 : decode cX0_goToStart 104 = .ok (.getfield 47, 3) := by decide +kernel
theorem dX0_goToStart_107 : decode cX0_goToStart 107 = .ok (.arraylength, 1) := by decide +kernel
theorem dX0_goToStart_108 : decode cX0_goToStart 108 = .ok (.if_icmp .ge 23, 3) := by decide +kernel
theorem dX0_goToStart_111 : decode cX0_goToStart 111 = .ok (.aload_n 0, 1) := by decide +kernel
theorem dX0_goToStart_112 : decode cX0_goToStart 112 = .ok (.getfield 44, 3) := by decide +kernel
theorem dX0_goToStart_115 : decode cX0_goToStart 115 = .ok (.iload_n 1, 1) := by decide +kernel
theorem dX0_goToStart_116 : decode cX0_goToStart 116 = .ok (.iconst (-1), 1) := by decide +kernel
theorem dX0_goToStart_117 : decode cX0_goToStart 117 = .ok (.iastore, 1) := by decide +kernel
theorem dX0_goToStart_118 : decode cX0_goToStart 118 = .ok (.aload_n 0, 1) := by decide +kernel
theorem dX0_goToStart_119 : decode cX0_goToStart 119 = .ok (.getfield 47, 3) := by decide +kernel
theorem dX0_goToStart_122 : decode cX0_goToStart 122 = .ok (.iload_n 1, 1) := by decide +kernel
theorem dX0_goToStart_123 : decode cX0_goToStart 123 = .ok (.iconst 0, 1) := by decide +kernel
theorem dX0_goToStart_124 : decode cX0_goToStart 124 = .ok (.iastore, 1) := by decide +kernel
theorem dX0_goToStart_125 : decode cX0_goToStart 125 = .ok (.iinc 1 1, 3) := by decide +kernel
theorem dX0_goToStart_128 : decode cX0_goToStart 128 = .ok (.goto (-35), 3) := by decide +kernel
theorem dX0_goToStart_131 : decode cX0_goToStart 131 = .ok (.return_, 1) := by decide +kernel
theorem dX0_copyFrom_0 : decode cX0_copyFrom 0 = .ok (.aload_n 0, 1) := by decide +kernel
theorem dX0_copyFrom_1 : decode cX0_copyFrom 1 = .ok (.aload_n 1, 1) := by decide +kernel
theorem dX0_copyFrom_2 : decode cX0_copyFrom 2 = .ok (.getfield 7, 3) := by decide +kernel
theorem dX0_copyFrom_5 : decode cX0_copyFrom 5 = .ok (.putfield 7, 3) := by decide +kernel
theorem dX0_copyFrom_8 : decode cX0_copyFrom 8 = .ok (.aload_n 0, 1) := by decide +kernel
theorem dX0_copyFrom_9 : decode cX0_copyFrom 9 = .ok (.aload_n 1, 1) := by decide +kernel
theorem dX0_copyFrom_10 : decode cX0_copyFrom 10 = .ok (.getfield 13, 3) := by decide +kernel
theorem dX0_copyFrom_13 : decode cX0_copyFrom 13 = .ok (.putfield 13, 3) := by decide +kernel
theorem dX0_copyFrom_16 : decode cX0_copyFrom 16 = .ok (.aload_n 0, 1) := by decide +kernel
theorem dX0_copyFrom_17 : decode cX0_copyFrom 17 = .ok (.aload_n 1, 1) := by decide +kernel
theorem dX0_copyFrom_18 : decode cX0_copyFrom 18 = .ok (.getfield 16, 3) := by decide +kernel
theorem dX0_copyFrom_21 : decode cX0_copyFrom 21 = .ok (.putfield 16, 3) := by decide +kernel
theorem dX0_copyFrom_24 : decode cX0_copyFrom 24 = .ok (.aload_n 0, 1) := by decide +kernel
theorem dX0_copyFrom_25 : decode cX0_copyFrom 25 = .ok (.aload_n 1, 1) := by decide +kernel
theorem dX0_copyFrom_26 : decode cX0_copyFrom 26 = .ok (.getfield 19, 3) := by decide +kernel
theorem dX0_copyFrom_29 : decode cX0_copyFrom 29 = .ok (.putfield 19, 3) := by decide +kernel
theorem dX0_copyFrom_32 : decode cX0_copyFrom 32 = .ok (.aload_n 0, 1) := by decide +kernel
theorem dX0_copyFrom_33 : decode cX0_copyFrom 33 = .ok (.aload_n 1, 1) := by decide +kernel
theorem dX0_copyFrom_34 : decode cX0_copyFrom 34 = .ok (.getfield 22, 3) := by decide +kernel
theorem dX0_copyFrom_37 : decode cX0_copyFrom 37 = .ok (.putfield 22, 3) := by decide +kernel
theorem dX0_copyFrom_40 : decode cX0_copyFrom 40 = .ok (.aload_n 0, 1) := by decide +kernel
theorem dX0_copyFrom_41 : decode cX0_copyFrom 41 = .ok (.aload_n 1, 1) := by decide +kernel
theorem dX0_copyFrom_42 : decode cX0_copyFrom 42 = .ok (.getfield 25, 3) := by decide +kernel
theorem dX0_copyFrom_45 : decode cX0_copyFrom 45 = .ok (.putfield 25, 3) := by decide +kernel
theorem dX0_copyFrom_48 : decode cX0_copyFrom 48 = .ok (.aload_n 0, 1) := by decide +kernel
theorem dX0_copyFrom_49 : decode cX0_copyFrom 49 = .ok (.aload_n 1, 1) := by decide +kernel
theorem dX0_copyFrom_50 : decode cX0_copyFrom 50 = .ok (.getfield 28, 3) := by decide +kernel
theorem dX0_copyFrom_53 : decode cX0_copyFrom 53 = .ok (.putfield 28, 3) := by decide +kernel
theorem dX0_copyFrom_56 : decode cX0_copyFrom 56 = .ok (.aload_n 0, 1) := by decide +kernel
theorem dX0_copyFrom_57 : decode cX0_copyFrom 57 = .ok (.aload_n 1, 1) := by decide +kernel
theorem dX0_copyFrom_58 : decode cX0_copyFrom 58 = .ok (.getfield 31, 3) := by decide +kernel
theorem dX0_copyFrom_61 : decode cX0_copyFrom 61 = .ok (.putfield 31, 3) := by decide +kernel
theorem dX0_copyFrom_64 : decode cX0_copyFrom 64 = .ok (.aload_n 0, 1) := by decide +kernel
theorem dX0_copyFrom_65 : decode cX0_copyFrom 65 = .ok (.aload_n 1, 1) := by decide +kernel
theorem dX0_copyFrom_66 : decode cX0_copyFrom 66 = .ok (.getfield 34, 3) := by decide +kernel
theorem dX0_copyFrom_69 : decode cX0_copyFrom 69 = .ok (.putfield 34, 3) := by decide +kernel
theorem dX0_copyFrom_72 : decode cX0_copyFrom 72 = .ok (.aload_n 0, 1) := by decide +kernel
theorem dX0_copyFrom_73 : decode cX0_copyFrom 73 = .ok (.aload_n 1, 1) := by decide +kernel
theorem dX0_copyFrom_74 : decode cX0_copyFrom 74 = .ok (.getfield 37, 3) := by decide +kernel
theorem dX0_copyFrom_77 : decode cX0_copyFrom 77 = .ok (.putfield 37, 3) := by decide +kernel
theorem dX0_copyFrom_80 : decode cX0_copyFrom 80 = .ok (.aload_n 0, 1) := by decide +kernel
theorem dX0_copyFrom_81 : decode cX0_copyFrom 81 = .ok (.aload_n 1, 1) := by decide +kernel
theorem dX0_copyFrom_82 : decode cX0_copyFrom 82 = .ok (.getfield 53, 3) := by decide +kernel
theorem dX0_copyFrom_85 : decode cX0_copyFrom 85 = .ok (.putfield 53, 3) := by decide +kernel
theorem dX0_copyFrom_88 : decode cX0_copyFrom 88 = .ok (.aload_n 0, 1) := by decide +kernel
theorem dX0_copyFrom_89 : decode cX0_copyFrom 89 = .ok (.aload_n 1, 1) := by decide +kernel
theorem dX0_copyFrom_90 : decode cX0_copyFrom 90 = .ok (.getfield 56, 3) := by decide +kernel
theorem dX0_copyFrom_93 : decode cX0_copyFrom 93 = .ok (.putfield 56, 3) := by decide +kernel
theorem dX0_copyFrom_96 : decode cX0_copyFrom 96 = .ok (.aload_n 0, 1) := by decide +kernel
theorem dX0_copyFrom_97 : decode cX0_copyFrom 97 = .ok (.aload_n 1, 1) := by decide +kernel
theorem dX0_copyFrom_98 : decode cX0_copyFrom 98 = .ok (.getfield 59, 3) := by decide +kernel
theorem dX0_copyFrom_101 : decode cX0_copyFrom 101 = .ok (.putfield 59, 3) := by decide +kernel
theorem dX0_copyFrom_104 : decode cX0_copyFrom 104 = .ok (.aload_n 0, 1) := by decide +kernel
theorem dX0_copyFrom_105 : decode cX0_copyFrom 105 = .ok (.aload_n 1, 1) := by decide +kernel
theorem dX0_copyFrom_106 : decode cX0_copyFrom 106 = .ok (.getfield 62, 3) := by decide +kernel
theorem dX0_copyFrom_109 : decode cX0_copyFrom 109 = .ok (.putfield 62, 3) := by decide +kernel
theorem dX0_copyFrom_112 : decode cX0_copyFrom 112 = .ok (.aload_n 0, 1) := by decide +kernel
theorem dX0_copyFrom_113 : decode cX0_copyFrom 113 = .ok (.aload_n 1, 1) := by decide +kernel
theorem dX0_copyFrom_114 : decode cX0_copyFrom 114 = .ok (.getfield 65, 3) := by decide +kernel
theorem dX0_copyFrom_117 : decode cX0_copyFrom 117 = .ok (.putfield 65, 3) := by decide +kernel
theorem dX0_copyFrom_120 : decode cX0_copyFrom 120 = .ok (.aload_n 0, 1) := by decide +kernel
theorem dX0_copyFrom_121 : decode cX0_copyFrom 121 = .ok (.aload_n 1, 1) := by decide +kernel
theorem dX0_copyFrom_122 : decode cX0_copyFrom 122 = .ok (.getfield 68, 3) := by decide +kernel
theorem dX0_copyFrom_125 : decode cX0_copyFrom 125 = .ok (.putfield 68, 3) := by decide +kernel
theorem dX0_copyFrom_128 : decode cX0_copyFrom 128 = .ok (.aload_n 0, 1) := by decide +kernel
theorem dX0_copyFrom_129 : decode cX0_copyFrom 129 = .ok (.aload_n 1, 1) := by decide +kernel
theorem dX0_copyFrom_130 : decode cX0_copyFrom 130 = .ok (.getfield 71, 3) := by decide +kernel
theorem dX0_copyFrom_133 : decode cX0_copyFrom 133 = .ok (.putfield 71, 3) := by decide +kernel
theorem dX0_copyFrom_136 : decode cX0_copyFrom 136 = .ok (.aload_n 1, 1) := by decide +kernel
theorem dX0_copyFrom_137 : decode cX0_copyFrom 137 = .ok (.getfield 40, 3) := by decide +kernel
theorem dX0_copyFrom_140 : decode cX0_copyFrom 140 = .ok (.aload_n 0, 1) := by decide +kernel
theorem dX0_copyFrom_141 : decode cX0_copyFrom 141 = .ok (.getfield 40, 3) := by decide +kernel
theorem dX0_copyFrom_144 : decode cX0_copyFrom 144 = .ok (.invokestatic 74, 3) := by decide +kernel
theorem dX0_copyFrom_147 : decode cX0_copyFrom 147 = .ok (.aload_n 1, 1) := by decide +kernel
theorem dX0_copyFrom_148 : decode cX0_copyFrom 148 = .ok (.getfield 44, 3) := by decide +kernel
theorem dX0_copyFrom_151 : decode cX0_copyFrom 151 = .ok (.aload_n 0, 1) := by decide +kernel
theorem dX0_copyFrom_152 : decode cX0_copyFrom 152 = .ok (.getfield 44, 3) := by decide +kernel
theorem dX0_copyFrom_155 : decode cX0_copyFrom 155 = .ok (.invokestatic 74, 3) := by decide +kernel
theorem dX0_copyFrom_158 : decode cX0_copyFrom 158 = .ok (.aload_n 1, 1) := by decide +kernel
theorem dX0_copyFrom_159 : decode cX0_copyFrom 159 = .ok (.getfield 47, 3) := by decide +kernel
theorem dX0_copyFrom_162 : decode cX0_copyFrom 162 = .ok (.aload_n 0, 1) := by decide +kernel
theorem dX0_copyFrom_163 : decode cX0_copyFrom 163 = .ok (.getfield 47, 3) := by decide +kernel
theorem dX0_copyFrom_166 : decode cX0_copyFrom 166 = .ok (.invokestatic 74, 3) := by decide +kernel
theorem dX0_copyFrom_169 : decode cX0_copyFrom 169 = .ok (.return_, 1) := by decide +kernel
theorem dX0_copyRow_0 : decode cX0_copyRow 0 = .ok (.iconst 0, 1) := by decide +kernel
theorem dX0_copyRow_1 : decode cX0_copyRow 1 = .ok (.istore_n 2, 1) := by decide +kernel
theorem dX0_copyRow_2 : decode cX0_copyRow 2 = .ok (.iload_n 2, 1) := by decide +kernel
theorem dX0_copyRow_3 : decode cX0_copyRow 3 = .ok (.aload_n 0, 1) := by decide +kernel
theorem dX0_copyRow_4 : decode cX0_copyRow 4 = .ok (.arraylength, 1) := by decide +kernel
theorem dX0_copyRow_5 : decode cX0_copyRow 5 = .ok (.if_icmp .ge 21, 3) := by decide +kernel
theorem dX0_copyRow_8 : decode cX0_copyRow 8 = .ok (.iload_n 2, 1) := by decide +kernel
theorem dX0_copyRow_9 : decode cX0_copyRow 9 = .ok (.aload_n 1, 1) := by decide +kernel
theorem dX0_copyRow_10 : decode cX0_copyRow 10 = .ok (.arraylength, 1) := by decide +kernel
theorem dX0_copyRow_11 : decode cX0_copyRow 11 = .ok (.if_icmp .ge 15, 3) := by decide +kernel
theorem dX0_copyRow_14 : decode cX0_copyRow 14 = .ok (.aload_n 1, 1) := by decide +kernel
theorem dX0_copyRow_15 : decode cX0_copyRow 15 = .ok (.iload_n 2, 1) := by decide +kernel
theorem dX0_copyRow_16 : decode cX0_copyRow 16 = .ok (.aload_n 0, 1) := by decide +kernel
theorem dX0_copyRow_17 : decode cX0_copyRow 17 = .ok (.iload_n 2, 1) := by decide +kernel
theorem dX0_copyRow_18 : decode cX0_copyRow 18 = .ok (.iaload, 1) := by decide +kernel
theorem dX0_copyRow_19 : decode cX0_copyRow 19 = .ok (.iastore, 1) := by decide +kernel
theorem dX0_copyRow_20 : decode cX0_copyRow 20 = .ok (.iinc 2 1, 3) := by decide +kernel
theorem dX0_copyRow_23 : decode cX0_copyRow 23 = .ok (.goto (-21), 3) := by decide +kernel
theorem dX0_copyRow_26 : decode cX0_copyRow 26 = .ok (.return_, 1) := by decide +kernel
theorem dX0_passTick_0 : decode cX0_passTick 0 = .ok (.aload_n 0, 1) := by decide +kernel
theorem dX0_passTick_1 : decode cX0_passTick 1 = .ok (.invokevirtual 78, 3) := by decide +kernel
theorem dX0_passTick_4 : decode cX0_passTick 4 = .ok (.ifCond .eq 4, 3) := by decide +kernel
theorem dX0_passTick_7 : decode cX0_passTick 7 = .ok (.return_, 1) := by decide +kernel
theorem dX0_passTick_8 : decode cX0_passTick 8 = .ok (.aload_n 0, 1) := by decide +kernel
theorem dX0_passTick_9 : decode cX0_passTick 9 = .ok (.invokevirtual 82, 3) := by decide +kernel
theorem dX0_passTick_12 : decode cX0_passTick 12 = .ok (.istore_n 3, 1) := by decide +kernel
theorem dX0_passTick_13 : decode cX0_passTick 13 = .ok (.aload_n 0, 1) := by decide +kernel
theorem dX0_passTick_14 : decode cX0_passTick 14 = .ok (.getfield 62, 3) := by decide +kernel
theorem dX0_passTick_17 : decode cX0_passTick 17 = .ok (.ifCond .ne 15, 3) := by decide +kernel
theorem dX0_passTick_20 : decode cX0_passTick 20 = .ok (.iload_n 3, 1) := by decide +kernel
theorem dX0_passTick_21 : decode cX0_passTick 21 = .ok (.aload_n 0, 1) := by decide +kernel
theorem dX0_passTick_22 : decode cX0_passTick 22 = .ok (.getfield 59, 3) := by decide +kernel
theorem dX0_passTick_25 : decode cX0_passTick 25 = .ok (.if_icmp .le 7, 3) := by decide +kernel
theorem dX0_passTick_28 : decode cX0_passTick 28 = .ok (.aload_n 0, 1) := by decide +kernel
theorem dX0_passTick_29 : decode cX0_passTick 29 = .ok (.invokevirtual 86, 3) := by decide +kernel
theorem dX0_passTick_32 : decode cX0_passTick 32 = .ok (.aload_n 0, 1) := by decide +kernel
theorem dX0_passTick_33 : decode cX0_passTick 33 = .ok (.getfield 62, 3) := by decide +kernel
theorem dX0_passTick_36 : decode cX0_passTick 36 = .ok (.ifCond .le 24, 3) := by decide +kernel
theorem dX0_passTick_39 : decode cX0_passTick 39 = .ok (.aload_n 0, 1) := by decide +kernel
theorem dX0_passTick_40 : decode cX0_passTick 40 = .ok (.dup, 1) := by decide +kernel
theorem dX0_passTick_41 : decode cX0_passTick 41 = .ok (.getfield 62, 3) := by decide +kernel
theorem dX0_passTick_44 : decode cX0_passTick 44 = .ok (.iconst 1, 1) := by decide +kernel
theorem dX0_passTick_45 : decode cX0_passTick 45 = .ok (.isub, 1) := by decide +kernel
theorem dX0_passTick_46 : decode cX0_passTick 46 = .ok (.putfield 62, 3) := by decide +kernel
theorem dX0_passTick_49 : decode cX0_passTick 49 = .ok (.aload_n 0, 1) := by decide +kernel
theorem dX0_passTick_50 : decode cX0_passTick 50 = .ok (.iconst 0, 1) := by decide +kernel
theorem dX0_passTick_51 : decode cX0_passTick 51 = .ok (.putfield 68, 3) := by decide +kernel
theorem dX0_passTick_54 : decode cX0_passTick 54 = .ok (.aload_n 0, 1) := by decide +kernel
theorem dX0_passTick_55 : decode cX0_passTick 55 = .ok (.iconst 0, 1) := by decide +kernel
theorem dX0_passTick_56 : decode cX0_passTick 56 = .ok (.invokevirtual 89, 3) := by decide +kernel
theorem dX0_passTick_59 : decode cX0_passTick 59 = .ok (.return_, 1) := by decide +kernel
theorem dX0_passTick_60 : decode cX0_passTick 60 = .ok (.aload_n 0, 1) := by decide +kernel
theorem dX0_passTick_61 : decode cX0_passTick 61 = .ok (.aload_n 0, 1) := by decide +kernel
theorem dX0_passTick_62 : decode cX0_passTick 62 = .ok (.iload_n 3, 1) := by decide +kernel
theorem dX0_passTick_63 : decode cX0_passTick 63 = .ok (.aload_n 0, 1) := by decide +kernel
theorem dX0_passTick_64 : decode cX0_passTick 64 = .ok (.aload_n 2, 1) := by decide +kernel
theorem dX0_passTick_65 : decode cX0_passTick 65 = .ok (.invokevirtual 93, 3) := by decide +kernel
theorem dX0_passTick_68 : decode cX0_passTick 68 = .ok (.invokevirtual 97, 3) := by decide +kernel
theorem dX0_passTick_71 : decode cX0_passTick 71 = .ok (.putfield 68, 3) := by decide +kernel
theorem dX0_passTick_74 : decode cX0_passTick 74 = .ok (.aload_n 0, 1) := by decide +kernel
theorem dX0_passTick_75 : decode cX0_passTick 75 = .ok (.invokevirtual 101, 3) := by decide +kernel
theorem dX0_passTick_78 : decode cX0_passTick 78 = .ok (.aload_n 0, 1) := by decide +kernel
theorem dX0_passTick_79 : decode cX0_passTick 79 = .ok (.invokevirtual 104, 3) := by decide +kernel
theorem dX0_passTick_82 : decode cX0_passTick 82 = .ok (.aload_n 0, 1) := by decide +kernel
theorem dX0_passTick_83 : decode cX0_passTick 83 = .ok (.aload_n 0, 1) := by decide +kernel
theorem dX0_passTick_84 : decode cX0_passTick 84 = .ok (.getfield 34, 3) := by decide +kernel
theorem dX0_passTick_87 : decode cX0_passTick 87 = .ok (.invokevirtual 89, 3) := by decide +kernel
theorem dX0_passTick_90 : decode cX0_passTick 90 = .ok (.aload_n 0, 1) := by decide +kernel
theorem dX0_passTick_91 : decode cX0_passTick 91 = .ok (.getfield 53, 3) := by decide +kernel
theorem dX0_passTick_94 : decode cX0_passTick 94 = .ok (.aload_n 2, 1) := by decide +kernel
theorem dX0_passTick_95 : decode cX0_passTick 95 = .ok (.getfield 107, 3) := by decide +kernel
theorem dX0_passTick_98 : decode cX0_passTick 98 = .ok (.if_icmp .lt 8, 3) := by decide +kernel
theorem dX0_passTick_101 : decode cX0_passTick 101 = .ok (.aload_n 0, 1) := by decide +kernel
theorem dX0_passTick_102 : decode cX0_passTick 102 = .ok (.iload_n 1, 1) := by decide +kernel
theorem dX0_passTick_103 : decode cX0_passTick 103 = .ok (.putfield 71, 3) := by decide +kernel
theorem dX0_passTick_106 : decode cX0_passTick 106 = .ok (.return_, 1) := by decide +kernel
theorem dX0_pull_0 : decode cX0_pull 0 = .ok (.aload_n 0, 1) := by decide +kernel
theorem dX0_pull_1 : decode cX0_pull 1 = .ok (.getfield 22, 3) := by decide +kernel
theorem dX0_pull_4 : decode cX0_pull 4 = .ok (.aload_n 0, 1) := by decide +kernel
theorem dX0_pull_5 : decode cX0_pull 5 = .ok (.getfield 25, 3) := by decide +kernel
theorem dX0_pull_8 : decode cX0_pull 8 = .ok (.imul, 1) := by decide +kernel
theorem dX0_pull_9 : decode cX0_pull 9 = .ok (.aload_n 0, 1) := by decide +kernel
theorem dX0_pull_10 : decode cX0_pull 10 = .ok (.getfield 34, 3) := by decide +kernel
theorem dX0_pull_13 : decode cX0_pull 13 = .ok (.imul, 1) := by decide +kernel
theorem dX0_pull_14 : decode cX0_pull 14 = .ok (.sipush 500, 3) := by decide +kernel
theorem dX0_pull_17 : decode cX0_pull 17 = .ok (.aload_n 0, 1) := by decide +kernel
theorem dX0_pull_18 : decode cX0_pull 18 = .ok (.getfield 56, 3) := by decide +kernel
theorem dX0_pull_21 : decode cX0_pull 21 = .ok (.iadd, 1) := by decide +kernel
theorem dX0_pull_22 : decode cX0_pull 22 = .ok (.imul, 1) := by decide +kernel
theorem dX0_pull_23 : decode cX0_pull 23 = .ok (.sipush 5000, 3) := by decide +kernel
theorem dX0_pull_26 : decode cX0_pull 26 = .ok (.idiv, 1) := by decide +kernel
theorem dX0_pull_27 : decode cX0_pull 27 = .ok (.ireturn, 1) := by decide +kernel
theorem dX0_breakRope_0 : decode cX0_breakRope 0 = .ok (.aload_n 0, 1) := by decide +kernel
theorem dX0_breakRope_1 : decode cX0_breakRope 1 = .ok (.bipush 10, 2) := by decide +kernel
theorem dX0_breakRope_3 : decode cX0_breakRope 3 = .ok (.aload_n 0, 1) := by decide +kernel
theorem dX0_breakRope_4 : decode cX0_breakRope 4 = .ok (.getfield 59, 3) := by decide +kernel
theorem dX0_breakRope_7 : decode cX0_breakRope 7 = .ok (.aload_n 0, 1) := by decide +kernel
theorem dX0_breakRope_8 : decode cX0_breakRope 8 = .ok (.getfield 59, 3) := by decide +kernel
theorem dX0_breakRope_11 : decode cX0_breakRope 11 = .ok (.bipush 10, 2) := by decide +kernel
theorem dX0_breakRope_13 : decode cX0_breakRope 13 = .ok (.idiv, 1) := by decide +kernel
theorem dX0_breakRope_14 : decode cX0_breakRope 14 = .ok (.isub, 1) := by decide +kernel
theorem dX0_breakRope_15 : decode cX0_breakRope 15 = .ok (.invokestatic 110, 3) := by decide +kernel
theorem dX0_breakRope_18 : decode cX0_breakRope 18 = .ok (.putfield 59, 3) := by decide +kernel
theorem dX0_breakRope_21 : decode cX0_breakRope 21 = .ok (.aload_n 0, 1) := by decide +kernel
theorem dX0_breakRope_22 : decode cX0_breakRope 22 = .ok (.bipush 15, 2) := by decide +kernel
theorem dX0_breakRope_24 : decode cX0_breakRope 24 = .ok (.putfield 62, 3) := by decide +kernel
theorem dX0_breakRope_27 : decode cX0_breakRope 27 = .ok (.aload_n 0, 1) := by decide +kernel
theorem dX0_breakRope_28 : decode cX0_breakRope 28 = .ok (.dup, 1) := by decide +kernel
theorem dX0_breakRope_29 : decode cX0_breakRope 29 = .ok (.getfield 65, 3) := by decide +kernel
theorem dX0_breakRope_32 : decode cX0_breakRope 32 = .ok (.iconst 1, 1) := by decide +kernel
theorem dX0_breakRope_33 : decode cX0_breakRope 33 = .ok (.iadd, 1) := by decide +kernel
theorem dX0_breakRope_34 : decode cX0_breakRope 34 = .ok (.putfield 65, 3) := by decide +kernel
theorem dX0_breakRope_37 : decode cX0_breakRope 37 = .ok (.return_, 1) := by decide +kernel
theorem dX0_drag_0 : decode cX0_drag 0 = .ok (.aload_n 1, 1) := by decide +kernel
theorem dX0_drag_1 : decode cX0_drag 1 = .ok (.aload_n 0, 1) := by decide +kernel
theorem dX0_drag_2 : decode cX0_drag 2 = .ok (.getfield 53, 3) := by decide +kernel
theorem dX0_drag_5 : decode cX0_drag 5 = .ok (.iconst 0, 1) := by decide +kernel
theorem dX0_drag_6 : decode cX0_drag 6 = .ok (.invokevirtual 115, 3) := by decide +kernel
theorem dX0_drag_9 : decode cX0_drag 9 = .ok (.istore_n 2, 1) := by decide +kernel
theorem dX0_drag_10 : decode cX0_drag 10 = .ok (.aload_n 1, 1) := by decide +kernel
theorem dX0_drag_11 : decode cX0_drag 11 = .ok (.aload_n 0, 1) := by decide +kernel
theorem dX0_drag_12 : decode cX0_drag 12 = .ok (.getfield 53, 3) := by decide +kernel
theorem dX0_drag_15 : decode cX0_drag 15 = .ok (.iconst 1, 1) := by decide +kernel
theorem dX0_drag_16 : decode cX0_drag 16 = .ok (.invokevirtual 115, 3) := by decide +kernel
theorem dX0_drag_19 : decode cX0_drag 19 = .ok (.istore_n 3, 1) := by decide +kernel
theorem dX0_drag_20 : decode cX0_drag 20 = .ok (.iconst 0, 1) := by decide +kernel
theorem dX0_drag_21 : decode cX0_drag 21 = .ok (.aload_n 0, 1) := by decide +kernel
theorem dX0_drag_22 : decode cX0_drag 22 = .ok (.getfield 16, 3) := by decide +kernel
theorem dX0_drag_25 : decode cX0_drag 25 = .ok (.bipush 20, 2) := by decide +kernel
theorem dX0_drag_27 : decode cX0_drag 27 = .ok (.bipush 10, 2) := by decide +kernel
theorem dX0_drag_29 : decode cX0_drag 29 = .ok (.iload_n 2, 1) := by decide +kernel
theorem dX0_drag_30 : decode cX0_drag 30 = .ok (.imul, 1) := by decide +kernel
theorem dX0_drag_31 : decode cX0_drag 31 = .ok (.iadd, 1) := by decide +kernel
theorem dX0_drag_32 : decode cX0_drag 32 = .ok (.iconst 4, 1) := by decide +kernel
theorem dX0_drag_33 : decode cX0_drag 33 = .ok (.iload_n 3, 1) := by decide +kernel
theorem dX0_drag_34 : decode cX0_drag 34 = .ok (.imul, 1) := by decide +kernel
theorem dX0_drag_35 : decode cX0_drag 35 = .ok (.iadd, 1) := by decide +kernel
theorem dX0_drag_36 : decode cX0_drag 36 = .ok (.imul, 1) := by decide +kernel
theorem dX0_drag_37 : decode cX0_drag 37 = .ok (.bipush 10, 2) := by decide +kernel
theorem dX0_drag_39 : decode cX0_drag 39 = .ok (.idiv, 1) := by decide +kernel
theorem dX0_drag_40 : decode cX0_drag 40 = .ok (.invokestatic 110, 3) := by decide +kernel
theorem dX0_drag_43 : decode cX0_drag 43 = .ok (.istore 4, 2) := by decide +kernel
theorem dX0_drag_45 : decode cX0_drag 45 = .ok (.aload_n 0, 1) := by decide +kernel
theorem dX0_drag_46 : decode cX0_drag 46 = .ok (.iconst 0, 1) := by decide +kernel
theorem dX0_drag_47 : decode cX0_drag 47 = .ok (.invokevirtual 119, 3) := by decide +kernel
theorem dX0_drag_50 : decode cX0_drag 50 = .ok (.istore 5, 2) := by decide +kernel
theorem dX0_drag_52 : decode cX0_drag 52 = .ok (.iload 5, 2) := by decide +kernel
theorem dX0_drag_54 : decode cX0_drag 54 = .ok (.iconst 4, 1) := by decide +kernel
theorem dX0_drag_55 : decode cX0_drag 55 = .ok (.invokestatic 123, 3) := by decide +kernel
theorem dX0_drag_58 : decode cX0_drag 58 = .ok (.aload_n 0, 1) := by decide +kernel
theorem dX0_drag_59 : decode cX0_drag 59 = .ok (.getfield 16, 3) := by decide +kernel
theorem dX0_drag_62 : decode cX0_drag 62 = .ok (.bipush 6, 2) := by decide +kernel
theorem dX0_drag_64 : decode cX0_drag 64 = .ok (.iload_n 3, 1) := by decide +kernel
theorem dX0_drag_65 : decode cX0_drag 65 = .ok (.iconst 2, 1) := by decide +kernel
theorem dX0_drag_66 : decode cX0_drag 66 = .ok (.idiv, 1) := by decide +kernel
theorem dX0_drag_67 : decode cX0_drag 67 = .ok (.isub, 1) := by decide +kernel
theorem dX0_drag_68 : decode cX0_drag 68 = .ok (.imul, 1) := by decide +kernel
theorem dX0_drag_69 : decode cX0_drag 69 = .ok (.bipush 10, 2) := by decide +kernel
theorem dX0_drag_71 : decode cX0_drag 71 = .ok (.idiv, 1) := by decide +kernel
theorem dX0_drag_72 : decode cX0_drag 72 = .ok (.imul, 1) := by decide +kernel
theorem dX0_drag_73 : decode cX0_drag 73 = .ok (.istore 6, 2) := by decide +kernel
theorem dX0_drag_75 : decode cX0_drag 75 = .ok (.iload 4, 2) := by decide +kernel
theorem dX0_drag_77 : decode cX0_drag 77 = .ok (.iload 6, 2) := by decide +kernel
theorem dX0_drag_79 : decode cX0_drag 79 = .ok (.isub, 1) := by decide +kernel
theorem dX0_drag_80 : decode cX0_drag 80 = .ok (.aload_n 0, 1) := by decide +kernel
theorem dX0_drag_81 : decode cX0_drag 81 = .ok (.getfield 16, 3) := by decide +kernel
theorem dX0_drag_84 : decode cX0_drag 84 = .ok (.bipush 10, 2) := by decide +kernel
theorem dX0_drag_86 : decode cX0_drag 86 = .ok (.idiv, 1) := by decide +kernel
theorem dX0_drag_87 : decode cX0_drag 87 = .ok (.invokestatic 110, 3) := by decide +kernel
theorem dX0_drag_90 : decode cX0_drag 90 = .ok (.istore 7, 2) := by decide +kernel
theorem dX0_drag_92 : decode cX0_drag 92 = .ok (.iload 5, 2) := by decide +kernel
theorem dX0_drag_94 : decode cX0_drag 94 = .ok (.iconst 2, 1) := by decide +kernel
theorem dX0_drag_95 : decode cX0_drag 95 = .ok (.if_icmp .ge 10, 3) := by decide +kernel
theorem dX0_drag_98 : decode cX0_drag 98 = .ok (.iconst 2, 1) := by decide +kernel
theorem dX0_drag_99 : decode cX0_drag 99 = .ok (.iload 7, 2) := by decide +kernel
theorem dX0_drag_101 : decode cX0_drag 101 = .ok (.imul, 1) := by decide +kernel
theorem dX0_drag_102 : decode cX0_drag 102 = .ok (.goto 5, 3) := by decide +kernel
theorem dX0_drag_105 : decode cX0_drag 105 = .ok (.iload 7, 2) := by decide +kernel
theorem dX0_drag_107 : decode cX0_drag 107 = .ok (.ireturn, 1) := by decide +kernel
theorem dX0_wayWith_0 : decode cX0_wayWith 0 = .ok (.aload_n 0, 1) := by decide +kernel
theorem dX0_wayWith_1 : decode cX0_wayWith 1 = .ok (.getfield 16, 3) := by decide +kernel
theorem dX0_wayWith_4 : decode cX0_wayWith 4 = .ok (.ifCond .gt 5, 3) := by decide +kernel
theorem dX0_wayWith_7 : decode cX0_wayWith 7 = .ok (.iconst 0, 1) := by decide +kernel
theorem dX0_wayWith_8 : decode cX0_wayWith 8 = .ok (.ireturn, 1) := by decide +kernel
theorem dX0_wayWith_9 : decode cX0_wayWith 9 = .ok (.bipush 12, 2) := by decide +kernel
theorem dX0_wayWith_11 : decode cX0_wayWith 11 = .ok (.iconst 0, 1) := by decide +kernel
theorem dX0_wayWith_12 : decode cX0_wayWith 12 = .ok (.iload_n 1, 1) := by decide +kernel
theorem dX0_wayWith_13 : decode cX0_wayWith 13 = .ok (.iload_n 2, 1) := by decide +kernel
theorem dX0_wayWith_14 : decode cX0_wayWith 14 = .ok (.isub, 1) := by decide +kernel
theorem dX0_wayWith_15 : decode cX0_wayWith 15 = .ok (.iconst 4, 1) := by decide +kernel
theorem dX0_wayWith_16 : decode cX0_wayWith 16 = .ok (.imul, 1) := by decide +kernel
theorem dX0_wayWith_17 : decode cX0_wayWith 17 = .ok (.aload_n 0, 1) := by decide +kernel
theorem dX0_wayWith_18 : decode cX0_wayWith 18 = .ok (.getfield 16, 3) := by decide +kernel
theorem dX0_wayWith_21 : decode cX0_wayWith 21 = .ok (.idiv, 1) := by decide +kernel
theorem dX0_wayWith_22 : decode cX0_wayWith 22 = .ok (.invokestatic 110, 3) := by decide +kernel
theorem dX0_wayWith_25 : decode cX0_wayWith 25 = .ok (.invokestatic 123, 3) := by decide +kernel
theorem dX0_wayWith_28 : decode cX0_wayWith 28 = .ok (.ireturn, 1) := by decide +kernel
theorem dX0_moveOn_0 : decode cX0_moveOn 0 = .ok (.iconst 0, 1) := by decide +kernel
theorem dX0_moveOn_1 : decode cX0_moveOn 1 = .ok (.istore_n 1, 1) := by decide +kernel
theorem dX0_moveOn_2 : decode cX0_moveOn 2 = .ok (.iload_n 1, 1) := by decide +kernel
theorem dX0_moveOn_3 : decode cX0_moveOn 3 = .ok (.aload_n 0, 1) := by decide +kernel
theorem dX0_moveOn_4 : decode cX0_moveOn 4 = .ok (.getfield 19, 3) := by decide +kernel
theorem dX0_moveOn_7 : decode cX0_moveOn 7 = .ok (.if_icmp .ge 46, 3) := by decide +kernel
theorem dX0_moveOn_10 : decode cX0_moveOn 10 = .ok (.iload_n 1, 1) := by decide +kernel
theorem dX0_moveOn_11 : decode cX0_moveOn 11 = .ok (.aload_n 0, 1) := by decide +kernel
theorem dX0_moveOn_12 : decode cX0_moveOn 12 = .ok (.getfield 40, 3) := by decide +kernel
theorem dX0_moveOn_15 : decode cX0_moveOn 15 = .ok (.arraylength, 1) := by decide +kernel
theorem dX0_moveOn_16 : decode cX0_moveOn 16 = .ok (.if_icmp .ge 37, 3) := by decide +kernel
theorem dX0_moveOn_19 : decode cX0_moveOn 19 = .ok (.aload_n 0, 1) := by decide +kernel
theorem dX0_moveOn_20 : decode cX0_moveOn 20 = .ok (.aload_n 0, 1) := by decide +kernel
theorem dX0_moveOn_21 : decode cX0_moveOn 21 = .ok (.getfield 40, 3) := by decide +kernel
theorem dX0_moveOn_24 : decode cX0_moveOn 24 = .ok (.iload_n 1, 1) := by decide +kernel
theorem dX0_moveOn_25 : decode cX0_moveOn 25 = .ok (.iaload, 1) := by decide +kernel
theorem dX0_moveOn_26 : decode cX0_moveOn 26 = .ok (.invokevirtual 126, 3) := by decide +kernel
theorem dX0_moveOn_29 : decode cX0_moveOn 29 = .ok (.ifCond .ne 18, 3) := by decide +kernel
theorem dX0_moveOn_32 : decode cX0_moveOn 32 = .ok (.aload_n 0, 1) := by decide +kernel
theorem dX0_moveOn_33 : decode cX0_moveOn 33 = .ok (.getfield 40, 3) := by decide +kernel
theorem dX0_moveOn_36 : decode cX0_moveOn 36 = .ok (.iload_n 1, 1) := by decide +kernel
theorem dX0_moveOn_37 : decode cX0_moveOn 37 = .ok (.dup2, 1) := by decide +kernel
theorem dX0_moveOn_38 : decode cX0_moveOn 38 = .ok (.iaload, 1) := by decide +kernel
theorem dX0_moveOn_39 : decode cX0_moveOn 39 = .ok (.aload_n 0, 1) := by decide +kernel
theorem dX0_moveOn_40 : decode cX0_moveOn 40 = .ok (.getfield 68, 3) := by decide +kernel
theorem dX0_moveOn_43 : decode cX0_moveOn 43 = .ok (.iconst 2, 1) := by decide +kernel
theorem dX0_moveOn_44 : decode cX0_moveOn 44 = .ok (.idiv, 1) := by decide +kernel
theorem dX0_moveOn_45 : decode cX0_moveOn 45 = .ok (.iadd, 1) := by decide +kernel
theorem dX0_moveOn_46 : decode cX0_moveOn 46 = .ok (.iastore, 1) := by decide +kernel
theorem dX0_moveOn_47 : decode cX0_moveOn 47 = .ok (.iinc 1 1, 3) := by decide +kernel
theorem dX0_moveOn_50 : decode cX0_moveOn 50 = .ok (.goto (-48), 3) := by decide +kernel
theorem dX0_moveOn_53 : decode cX0_moveOn 53 = .ok (.aload_n 0, 1) := by decide +kernel
theorem dX0_moveOn_54 : decode cX0_moveOn 54 = .ok (.dup, 1) := by decide +kernel
theorem dX0_moveOn_55 : decode cX0_moveOn 55 = .ok (.getfield 53, 3) := by decide +kernel
theorem dX0_moveOn_58 : decode cX0_moveOn 58 = .ok (.aload_n 0, 1) := by decide +kernel
theorem dX0_moveOn_59 : decode cX0_moveOn 59 = .ok (.getfield 68, 3) := by decide +kernel
theorem dX0_moveOn_62 : decode cX0_moveOn 62 = .ok (.iadd, 1) := by decide +kernel
theorem dX0_moveOn_63 : decode cX0_moveOn 63 = .ok (.putfield 53, 3) := by decide +kernel
theorem dX0_moveOn_66 : decode cX0_moveOn 66 = .ok (.return_, 1) := by decide +kernel
theorem dX0_sendRunners_0 : decode cX0_sendRunners 0 = .ok (.iconst 0, 1) := by decide +kernel
theorem dX0_sendRunners_1 : decode cX0_sendRunners 1 = .ok (.istore_n 1, 1) := by decide +kernel
theorem dX0_sendRunners_2 : decode cX0_sendRunners 2 = .ok (.iload_n 1, 1) := by decide +kernel
theorem dX0_sendRunners_3 : decode cX0_sendRunners 3 = .ok (.aload_n 0, 1) := by decide +kernel
theorem dX0_sendRunners_4 : decode cX0_sendRunners 4 = .ok (.getfield 28, 3) := by decide +kernel
theorem dX0_sendRunners_7 : decode cX0_sendRunners 7 = .ok (.if_icmp .ge 157, 3) := by decide +kernel
theorem dX0_sendRunners_10 : decode cX0_sendRunners 10 = .ok (.iload_n 1, 1) := by decide +kernel
theorem dX0_sendRunners_11 : decode cX0_sendRunners 11 = .ok (.aload_n 0, 1) := by decide +kernel
theorem dX0_sendRunners_12 : decode cX0_sendRunners 12 = .ok (.getfield 44, 3) := by decide +kernel
theorem dX0_sendRunners_15 : decode cX0_sendRunners 15 = .ok (.arraylength, 1) := by decide +kernel
theorem dX0_sendRunners_16 : decode cX0_sendRunners 16 = .ok (.if_icmp .ge 148, 3) := by decide +kernel
theorem dX0_sendRunners_19 : decode cX0_sendRunners 19 = .ok (.iload_n 1, 1) := by decide +kernel
theorem dX0_sendRunners_20 : decode cX0_sendRunners 20 = .ok (.aload_n 0, 1) := by decide +kernel
theorem dX0_sendRunners_21 : decode cX0_sendRunners 21 = .ok (.getfield 47, 3) := by decide +kernel
theorem dX0_sendRunners_24 : decode cX0_sendRunners 24 = .ok (.arraylength, 1) := by decide +kernel
theorem dX0_sendRunners_25 : decode cX0_sendRunners 25 = .ok (.if_icmp .ge 139, 3) := by decide +kernel
theorem dX0_sendRunners_28 : decode cX0_sendRunners 28 = .ok (.aload_n 0, 1) := by decide +kernel
theorem dX0_sendRunners_29 : decode cX0_sendRunners 29 = .ok (.getfield 44, 3) := by decide +kernel
theorem dX0_sendRunners_32 : decode cX0_sendRunners 32 = .ok (.iload_n 1, 1) := by decide +kernel
theorem dX0_sendRunners_33 : decode cX0_sendRunners 33 = .ok (.iaload, 1) := by decide +kernel
theorem dX0_sendRunners_34 : decode cX0_sendRunners 34 = .ok (.istore_n 2, 1) := by decide +kernel
theorem dX0_sendRunners_35 : decode cX0_sendRunners 35 = .ok (.iload_n 2, 1) := by decide +kernel
theorem dX0_sendRunners_36 : decode cX0_sendRunners 36 = .ok (.iconst (-1), 1) := by decide +kernel
theorem dX0_sendRunners_37 : decode cX0_sendRunners 37 = .ok (.if_icmp .ne 67, 3) := by decide +kernel
theorem dX0_sendRunners_40 : decode cX0_sendRunners 40 = .ok (.aload_n 0, 1) := by decide +kernel
theorem dX0_sendRunners_41 : decode cX0_sendRunners 41 = .ok (.invokevirtual 129, 3) := by decide +kernel
theorem dX0_sendRunners_44 : decode cX0_sendRunners 44 = .ok (.istore_n 3, 1) := by decide +kernel
theorem dX0_sendRunners_45 : decode cX0_sendRunners 45 = .ok (.iload_n 3, 1) := by decide +kernel
theorem dX0_sendRunners_46 : decode cX0_sendRunners 46 = .ok (.ifCond .lt 55, 3) := by decide +kernel
theorem dX0_sendRunners_49 : decode cX0_sendRunners 49 = .ok (.iload_n 3, 1) := by decide +kernel
theorem dX0_sendRunners_50 : decode cX0_sendRunners 50 = .ok (.aload_n 0, 1) := by decide +kernel
theorem dX0_sendRunners_51 : decode cX0_sendRunners 51 = .ok (.getfield 40, 3) := by decide +kernel
theorem dX0_sendRunners_54 : decode cX0_sendRunners 54 = .ok (.arraylength, 1) := by decide +kernel
theorem dX0_sendRunners_55 : decode cX0_sendRunners 55 = .ok (.if_icmp .ge 46, 3) := by decide +kernel
theorem dX0_sendRunners_58 : decode cX0_sendRunners 58 = .ok (.aload_n 0, 1) := by decide +kernel
theorem dX0_sendRunners_59 : decode cX0_sendRunners 59 = .ok (.getfield 44, 3) := by decide +kernel
theorem dX0_sendRunners_62 : decode cX0_sendRunners 62 = .ok (.iload_n 1, 1) := by decide +kernel
theorem dX0_sendRunners_63 : decode cX0_sendRunners 63 = .ok (.iload_n 3, 1) := by decide +kernel
theorem dX0_sendRunners_64 : decode cX0_sendRunners 64 = .ok (.iastore, 1) := by decide +kernel
theorem dX0_sendRunners_65 : decode cX0_sendRunners 65 = .ok (.aload_n 0, 1) := by decide +kernel
theorem dX0_sendRunners_66 : decode cX0_sendRunners 66 = .ok (.getfield 47, 3) := by decide +kernel
theorem dX0_sendRunners_69 : decode cX0_sendRunners 69 = .ok (.iload_n 1, 1) := by decide +kernel
theorem dX0_sendRunners_70 : decode cX0_sendRunners 70 = .ok (.aload_n 0, 1) := by decide +kernel
theorem dX0_sendRunners_71 : decode cX0_sendRunners 71 = .ok (.getfield 53, 3) := by decide +kernel
theorem dX0_sendRunners_74 : decode cX0_sendRunners 74 = .ok (.aload_n 0, 1) := by decide +kernel
theorem dX0_sendRunners_75 : decode cX0_sendRunners 75 = .ok (.getfield 37, 3) := by decide +kernel
theorem dX0_sendRunners_78 : decode cX0_sendRunners 78 = .ok (.iadd, 1) := by decide +kernel
theorem dX0_sendRunners_79 : decode cX0_sendRunners 79 = .ok (.aload_n 0, 1) := by decide +kernel
theorem dX0_sendRunners_80 : decode cX0_sendRunners 80 = .ok (.getfield 40, 3) := by decide +kernel
theorem dX0_sendRunners_83 : decode cX0_sendRunners 83 = .ok (.iload_n 3, 1) := by decide +kernel
theorem dX0_sendRunners_84 : decode cX0_sendRunners 84 = .ok (.iaload, 1) := by decide +kernel
theorem dX0_sendRunners_85 : decode cX0_sendRunners 85 = .ok (.isub, 1) := by decide +kernel
theorem dX0_sendRunners_86 : decode cX0_sendRunners 86 = .ok (.bipush 12, 2) := by decide +kernel
theorem dX0_sendRunners_88 : decode cX0_sendRunners 88 = .ok (.idiv, 1) := by decide +kernel
theorem dX0_sendRunners_89 : decode cX0_sendRunners 89 = .ok (.iconst 2, 1) := by decide +kernel
theorem dX0_sendRunners_90 : decode cX0_sendRunners 90 = .ok (.iadd, 1) := by decide +kernel
theorem dX0_sendRunners_91 : decode cX0_sendRunners 91 = .ok (.iastore, 1) := by decide +kernel
theorem dX0_sendRunners_92 : decode cX0_sendRunners 92 = .ok (.aload_n 0, 1) := by decide +kernel
theorem dX0_sendRunners_93 : decode cX0_sendRunners 93 = .ok (.getfield 40, 3) := by decide +kernel
theorem dX0_sendRunners_96 : decode cX0_sendRunners 96 = .ok (.iload_n 3, 1) := by decide +kernel
theorem dX0_sendRunners_97 : decode cX0_sendRunners 97 = .ok (.sipush (-9999), 3) := by decide +kernel
theorem dX0_sendRunners_100 : decode cX0_sendRunners 100 = .ok (.iastore, 1) := by decide +kernel
theorem dX0_sendRunners_101 : decode cX0_sendRunners 101 = .ok (.goto 57, 3) := by decide +kernel
theorem dX0_sendRunners_104 : decode cX0_sendRunners 104 = .ok (.aload_n 0, 1) := by decide +kernel
theorem dX0_sendRunners_105 : decode cX0_sendRunners 105 = .ok (.getfield 47, 3) := by decide +kernel
theorem dX0_sendRunners_108 : decode cX0_sendRunners 108 = .ok (.iload_n 1, 1) := by decide +kernel
theorem dX0_sendRunners_109 : decode cX0_sendRunners 109 = .ok (.dup2, 1) := by decide +kernel
theorem dX0_sendRunners_110 : decode cX0_sendRunners 110 = .ok (.iaload, 1) := by decide +kernel
theorem dX0_sendRunners_111 : decode cX0_sendRunners 111 = .ok (.iconst 1, 1) := by decide +kernel
theorem dX0_sendRunners_112 : decode cX0_sendRunners 112 = .ok (.isub, 1) := by decide +kernel
theorem dX0_sendRunners_113 : decode cX0_sendRunners 113 = .ok (.iastore, 1) := by decide +kernel
theorem dX0_sendRunners_114 : decode cX0_sendRunners 114 = .ok (.aload_n 0, 1) := by decide +kernel
theorem dX0_sendRunners_115 : decode cX0_sendRunners 115 = .ok (.getfield 47, 3) := by decide +kernel
theorem dX0_sendRunners_118 : decode cX0_sendRunners 118 = .ok (.iload_n 1, 1) := by decide +kernel
theorem dX0_sendRunners_119 : decode cX0_sendRunners 119 = .ok (.iaload, 1) := by decide +kernel
theorem dX0_sendRunners_120 : decode cX0_sendRunners 120 = .ok (.ifCond .gt 38, 3) := by decide +kernel
theorem dX0_sendRunners_123 : decode cX0_sendRunners 123 = .ok (.iload_n 2, 1) := by decide +kernel
theorem dX0_sendRunners_124 : decode cX0_sendRunners 124 = .ok (.ifCond .lt 34, 3) := by decide +kernel
theorem dX0_sendRunners_127 : decode cX0_sendRunners 127 = .ok (.iload_n 2, 1) := by decide +kernel
theorem dX0_sendRunners_128 : decode cX0_sendRunners 128 = .ok (.aload_n 0, 1) := by decide +kernel
theorem dX0_sendRunners_129 : decode cX0_sendRunners 129 = .ok (.getfield 40, 3) := by decide +kernel
theorem dX0_sendRunners_132 : decode cX0_sendRunners 132 = .ok (.arraylength, 1) := by decide +kernel
theorem dX0_sendRunners_133 : decode cX0_sendRunners 133 = .ok (.if_icmp .ge 25, 3) := by decide +kernel
theorem dX0_sendRunners_136 : decode cX0_sendRunners 136 = .ok (.aload_n 0, 1) := by decide +kernel
theorem dX0_sendRunners_137 : decode cX0_sendRunners 137 = .ok (.getfield 40, 3) := by decide +kernel
theorem dX0_sendRunners_140 : decode cX0_sendRunners 140 = .ok (.iload_n 2, 1) := by decide +kernel
theorem dX0_sendRunners_141 : decode cX0_sendRunners 141 = .ok (.aload_n 0, 1) := by decide +kernel
theorem dX0_sendRunners_142 : decode cX0_sendRunners 142 = .ok (.getfield 53, 3) := by decide +kernel
theorem dX0_sendRunners_145 : decode cX0_sendRunners 145 = .ok (.aload_n 0, 1) := by decide +kernel
theorem dX0_sendRunners_146 : decode cX0_sendRunners 146 = .ok (.getfield 37, 3) := by decide +kernel
theorem dX0_sendRunners_149 : decode cX0_sendRunners 149 = .ok (.iadd, 1) := by decide +kernel
theorem dX0_sendRunners_150 : decode cX0_sendRunners 150 = .ok (.iastore, 1) := by decide +kernel
theorem dX0_sendRunners_151 : decode cX0_sendRunners 151 = .ok (.aload_n 0, 1) := by decide +kernel
theorem dX0_sendRunners_152 : decode cX0_sendRunners 152 = .ok (.getfield 44, 3) := by decide +kernel
theorem dX0_sendRunners_155 : decode cX0_sendRunners 155 = .ok (.iload_n 1, 1) := by decide +kernel
theorem dX0_sendRunners_156 : decode cX0_sendRunners 156 = .ok (.iconst (-1), 1) := by decide +kernel
theorem dX0_sendRunners_157 : decode cX0_sendRunners 157 = .ok (.iastore, 1) := by decide +kernel
theorem dX0_sendRunners_158 : decode cX0_sendRunners 158 = .ok (.iinc 1 1, 3) := by decide +kernel
theorem dX0_sendRunners_161 : decode cX0_sendRunners 161 = .ok (.goto (-159), 3) := by decide +kernel
theorem dX0_sendRunners_164 : decode cX0_sendRunners 164 = .ok (.return_, 1) := by decide +kernel
theorem dX0_lastBehind_0 : decode cX0_lastBehind 0 = .ok (.iconst (-1), 1) := by decide +kernel
theorem dX0_lastBehind_1 : decode cX0_lastBehind 1 = .ok (.istore_n 1, 1) := by decide +kernel
theorem dX0_lastBehind_2 : decode cX0_lastBehind 2 = .ok (.aload_n 0, 1) := by decide +kernel
theorem dX0_lastBehind_3 : decode cX0_lastBehind 3 = .ok (.getfield 53, 3) := by decide +kernel
theorem dX0_lastBehind_6 : decode cX0_lastBehind 6 = .ok (.aload_n 0, 1) := by decide +kernel
theorem dX0_lastBehind_7 : decode cX0_lastBehind 7 = .ok (.getfield 13, 3) := by decide +kernel
theorem dX0_lastBehind_10 : decode cX0_lastBehind 10 = .ok (.isub, 1) := by decide +kernel
theorem dX0_lastBehind_11 : decode cX0_lastBehind 11 = .ok (.istore_n 2, 1) := by decide +kernel
theorem dX0_lastBehind_12 : decode cX0_lastBehind 12 = .ok (.iconst 0, 1) := by decide +kernel
theorem dX0_lastBehind_13 : decode cX0_lastBehind 13 = .ok (.istore_n 3, 1) := by decide +kernel
theorem dX0_lastBehind_14 : decode cX0_lastBehind 14 = .ok (.iload_n 3, 1) := by decide +kernel
theorem dX0_lastBehind_15 : decode cX0_lastBehind 15 = .ok (.aload_n 0, 1) := by decide +kernel
theorem dX0_lastBehind_16 : decode cX0_lastBehind 16 = .ok (.getfield 19, 3) := by decide +kernel
theorem dX0_lastBehind_19 : decode cX0_lastBehind 19 = .ok (.if_icmp .ge 51, 3) := by decide +kernel
theorem dX0_lastBehind_22 : decode cX0_lastBehind 22 = .ok (.iload_n 3, 1) := by decide +kernel
theorem dX0_lastBehind_23 : decode cX0_lastBehind 23 = .ok (.aload_n 0, 1) := by decide +kernel
theorem dX0_lastBehind_24 : decode cX0_lastBehind 24 = .ok (.getfield 40, 3) := by decide +kernel
theorem dX0_lastBehind_27 : decode cX0_lastBehind 27 = .ok (.arraylength, 1) := by decide +kernel
theorem dX0_lastBehind_28 : decode cX0_lastBehind 28 = .ok (.if_icmp .ge 42, 3) := by decide +kernel
theorem dX0_lastBehind_31 : decode cX0_lastBehind 31 = .ok (.aload_n 0, 1) := by decide +kernel
theorem dX0_lastBehind_32 : decode cX0_lastBehind 32 = .ok (.aload_n 0, 1) := by decide +kernel
theorem dX0_lastBehind_33 : decode cX0_lastBehind 33 = .ok (.getfield 40, 3) := by decide +kernel
theorem dX0_lastBehind_36 : decode cX0_lastBehind 36 = .ok (.iload_n 3, 1) := by decide +kernel
theorem dX0_lastBehind_37 : decode cX0_lastBehind 37 = .ok (.iaload, 1) := by decide +kernel
theorem dX0_lastBehind_38 : decode cX0_lastBehind 38 = .ok (.invokevirtual 126, 3) := by decide +kernel
theorem dX0_lastBehind_41 : decode cX0_lastBehind 41 = .ok (.iconst 1, 1) := by decide +kernel
theorem dX0_lastBehind_42 : decode cX0_lastBehind 42 = .ok (.if_icmp .ne 22, 3) := by decide +kernel
theorem dX0_lastBehind_45 : decode cX0_lastBehind 45 = .ok (.aload_n 0, 1) := by decide +kernel
theorem dX0_lastBehind_46 : decode cX0_lastBehind 46 = .ok (.getfield 40, 3) := by decide +kernel
theorem dX0_lastBehind_49 : decode cX0_lastBehind 49 = .ok (.iload_n 3, 1) := by decide +kernel
theorem dX0_lastBehind_50 : decode cX0_lastBehind 50 = .ok (.iaload, 1) := by decide +kernel
theorem dX0_lastBehind_51 : decode cX0_lastBehind 51 = .ok (.iload_n 2, 1) := by decide +kernel
theorem dX0_lastBehind_52 : decode cX0_lastBehind 52 = .ok (.if_icmp .ge 12, 3) := by decide +kernel
theorem dX0_lastBehind_55 : decode cX0_lastBehind 55 = .ok (.iload_n 3, 1) := by decide +kernel
theorem dX0_lastBehind_56 : decode cX0_lastBehind 56 = .ok (.istore_n 1, 1) := by decide +kernel
theorem dX0_lastBehind_57 : decode cX0_lastBehind 57 = .ok (.aload_n 0, 1) := by decide +kernel
theorem dX0_lastBehind_58 : decode cX0_lastBehind 58 = .ok (.getfield 40, 3) := by decide +kernel
theorem dX0_lastBehind_61 : decode cX0_lastBehind 61 = .ok (.iload_n 3, 1) := by decide +kernel
theorem dX0_lastBehind_62 : decode cX0_lastBehind 62 = .ok (.iaload, 1) := by decide +kernel
theorem dX0_lastBehind_63 : decode cX0_lastBehind 63 = .ok (.istore_n 2, 1) := by decide +kernel
theorem dX0_lastBehind_64 : decode cX0_lastBehind 64 = .ok (.iinc 3 1, 3) := by decide +kernel
theorem dX0_lastBehind_67 : decode cX0_lastBehind 67 = .ok (.goto (-53), 3) := by decide +kernel
theorem dX0_lastBehind_70 : decode cX0_lastBehind 70 = .ok (.iload_n 1, 1) := by decide +kernel
theorem dX0_lastBehind_71 : decode cX0_lastBehind 71 = .ok (.ireturn, 1) := by decide +kernel
theorem dX0_breathe_0 : decode cX0_breathe 0 = .ok (.aload_n 0, 1) := by decide +kernel
theorem dX0_breathe_1 : decode cX0_breathe 1 = .ok (.getfield 56, 3) := by decide +kernel
theorem dX0_breathe_4 : decode cX0_breathe 4 = .ok (.iload_n 1, 1) := by decide +kernel
theorem dX0_breathe_5 : decode cX0_breathe 5 = .ok (.iload_n 1, 1) := by decide +kernel
theorem dX0_breathe_6 : decode cX0_breathe 6 = .ok (.imul, 1) := by decide +kernel
theorem dX0_breathe_7 : decode cX0_breathe 7 = .ok (.iconst 2, 1) := by decide +kernel
theorem dX0_breathe_8 : decode cX0_breathe 8 = .ok (.idiv, 1) := by decide +kernel
theorem dX0_breathe_9 : decode cX0_breathe 9 = .ok (.isub, 1) := by decide +kernel
theorem dX0_breathe_10 : decode cX0_breathe 10 = .ok (.bipush 18, 2) := by decide +kernel
theorem dX0_breathe_12 : decode cX0_breathe 12 = .ok (.iadd, 1) := by decide +kernel
theorem dX0_breathe_13 : decode cX0_breathe 13 = .ok (.istore_n 2, 1) := by decide +kernel
theorem dX0_breathe_14 : decode cX0_breathe 14 = .ok (.aload_n 0, 1) := by decide +kernel
theorem dX0_breathe_15 : decode cX0_breathe 15 = .ok (.sipush 1000, 3) := by decide +kernel
theorem dX0_breathe_18 : decode cX0_breathe 18 = .ok (.iconst 0, 1) := by decide +kernel
theorem dX0_breathe_19 : decode cX0_breathe 19 = .ok (.iload_n 2, 1) := by decide +kernel
theorem dX0_breathe_20 : decode cX0_breathe 20 = .ok (.invokestatic 110, 3) := by decide +kernel
theorem dX0_breathe_23 : decode cX0_breathe 23 = .ok (.invokestatic 123, 3) := by decide +kernel
theorem dX0_breathe_26 : decode cX0_breathe 26 = .ok (.putfield 56, 3) := by decide +kernel
theorem dX0_breathe_29 : decode cX0_breathe 29 = .ok (.return_, 1) := by decide +kernel
theorem dX0_isAtEnd_0 : decode cX0_isAtEnd 0 = .ok (.aload_n 0, 1) := by decide +kernel
theorem dX0_isAtEnd_1 : decode cX0_isAtEnd 1 = .ok (.getfield 71, 3) := by decide +kernel
theorem dX0_isAtEnd_4 : decode cX0_isAtEnd 4 = .ok (.iconst (-1), 1) := by decide +kernel
theorem dX0_isAtEnd_5 : decode cX0_isAtEnd 5 = .ok (.if_icmp .eq 7, 3) := by decide +kernel
theorem dX0_isAtEnd_8 : decode cX0_isAtEnd 8 = .ok (.iconst 1, 1) := by decide +kernel
theorem dX0_isAtEnd_9 : decode cX0_isAtEnd 9 = .ok (.goto 4, 3) := by decide +kernel
theorem dX0_isAtEnd_12 : decode cX0_isAtEnd 12 = .ok (.iconst 0, 1) := by decide +kernel
theorem dX0_isAtEnd_13 : decode cX0_isAtEnd 13 = .ok (.ireturn, 1) := by decide +kernel
theorem dX0_isAheadOf_0 : decode cX0_isAheadOf 0 = .ok (.aload_n 0, 1) := by decide +kernel
theorem dX0_isAheadOf_1 : decode cX0_isAheadOf 1 = .ok (.invokevirtual 78, 3) := by decide +kernel
theorem dX0_isAheadOf_4 : decode cX0_isAheadOf 4 = .ok (.aload_n 1, 1) := by decide +kernel
theorem dX0_isAheadOf_5 : decode cX0_isAheadOf 5 = .ok (.invokevirtual 78, 3) := by decide +kernel
theorem dX0_isAheadOf_8 : decode cX0_isAheadOf 8 = .ok (.if_icmp .eq 8, 3) := by decide +kernel
theorem dX0_isAheadOf_11 : decode cX0_isAheadOf 11 = .ok (.aload_n 0, 1) := by decide +kernel
theorem dX0_isAheadOf_12 : decode cX0_isAheadOf 12 = .ok (.invokevirtual 78, 3) := by decide +kernel
theorem dX0_isAheadOf_15 : decode cX0_isAheadOf 15 = .ok (.ireturn, 1) := by decide +kernel
theorem dX0_isAheadOf_16 : decode cX0_isAheadOf 16 = .ok (.aload_n 0, 1) := by decide +kernel
theorem dX0_isAheadOf_17 : decode cX0_isAheadOf 17 = .ok (.invokevirtual 78, 3) := by decide +kernel
theorem dX0_isAheadOf_20 : decode cX0_isAheadOf 20 = .ok (.ifCond .eq 31, 3) := by decide +kernel
theorem dX0_isAheadOf_23 : decode cX0_isAheadOf 23 = .ok (.aload_n 0, 1) := by decide +kernel
theorem dX0_isAheadOf_24 : decode cX0_isAheadOf 24 = .ok (.getfield 71, 3) := by decide +kernel
theorem dX0_isAheadOf_27 : decode cX0_isAheadOf 27 = .ok (.aload_n 1, 1) := by decide +kernel
theorem dX0_isAheadOf_28 : decode cX0_isAheadOf 28 = .ok (.getfield 71, 3) := by decide +kernel
theorem dX0_isAheadOf_31 : decode cX0_isAheadOf 31 = .ok (.if_icmp .eq 20, 3) := by decide +kernel
theorem dX0_isAheadOf_34 : decode cX0_isAheadOf 34 = .ok (.aload_n 0, 1) := by decide +kernel
theorem dX0_isAheadOf_35 : decode cX0_isAheadOf 35 = .ok (.getfield 71, 3) := by decide +kernel
theorem dX0_isAheadOf_38 : decode cX0_isAheadOf 38 = .ok (.aload_n 1, 1) := by decide +kernel
theorem dX0_isAheadOf_39 : decode cX0_isAheadOf 39 = .ok (.getfield 71, 3) := by decide +kernel
theorem dX0_isAheadOf_42 : decode cX0_isAheadOf 42 = .ok (.if_icmp .ge 7, 3) := by decide +kernel
theorem dX0_isAheadOf_45 : decode cX0_isAheadOf 45 = .ok (.iconst 1, 1) := by decide +kernel
theorem dX0_isAheadOf_46 : decode cX0_isAheadOf 46 = .ok (.goto 4, 3) := by decide +kernel
theorem dX0_isAheadOf_49 : decode cX0_isAheadOf 49 = .ok (.iconst 0, 1) := by decide +kernel
theorem dX0_isAheadOf_50 : decode cX0_isAheadOf 50 = .ok (.ireturn, 1) := by decide +kernel
theorem dX0_isAheadOf_51 : decode cX0_isAheadOf 51 = .ok (.aload_n 0, 1) := by decide +kernel
theorem dX0_isAheadOf_52 : decode cX0_isAheadOf 52 = .ok (.invokevirtual 78, 3) := by decide +kernel
theorem dX0_isAheadOf_55 : decode cX0_isAheadOf 55 = .ok (.ifCond .ne 31, 3) := by decide +kernel
theorem dX0_isAheadOf_58 : decode cX0_isAheadOf 58 = .ok (.aload_n 0, 1) := by decide +kernel
theorem dX0_isAheadOf_59 : decode cX0_isAheadOf 59 = .ok (.getfield 53, 3) := by decide +kernel
theorem dX0_isAheadOf_62 : decode cX0_isAheadOf 62 = .ok (.aload_n 1, 1) := by decide +kernel
theorem dX0_isAheadOf_63 : decode cX0_isAheadOf 63 = .ok (.getfield 53, 3) := by decide +kernel
theorem dX0_isAheadOf_66 : decode cX0_isAheadOf 66 = .ok (.if_icmp .eq 20, 3) := by decide +kernel
theorem dX0_isAheadOf_69 : decode cX0_isAheadOf 69 = .ok (.aload_n 0, 1) := by decide +kernel
theorem dX0_isAheadOf_70 : decode cX0_isAheadOf 70 = .ok (.getfield 53, 3) := by decide +kernel
theorem dX0_isAheadOf_73 : decode cX0_isAheadOf 73 = .ok (.aload_n 1, 1) := by decide +kernel
theorem dX0_isAheadOf_74 : decode cX0_isAheadOf 74 = .ok (.getfield 53, 3) := by decide +kernel
theorem dX0_isAheadOf_77 : decode cX0_isAheadOf 77 = .ok (.if_icmp .le 7, 3) := by decide +kernel
theorem dX0_isAheadOf_80 : decode cX0_isAheadOf 80 = .ok (.iconst 1, 1) := by decide +kernel
theorem dX0_isAheadOf_81 : decode cX0_isAheadOf 81 = .ok (.goto 4, 3) := by decide +kernel
theorem dX0_isAheadOf_84 : decode cX0_isAheadOf 84 = .ok (.iconst 0, 1) := by decide +kernel
theorem dX0_isAheadOf_85 : decode cX0_isAheadOf 85 = .ok (.ireturn, 1) := by decide +kernel
theorem dX0_isAheadOf_86 : decode cX0_isAheadOf 86 = .ok (.aload_n 0, 1) := by decide +kernel
theorem dX0_isAheadOf_87 : decode cX0_isAheadOf 87 = .ok (.getfield 7, 3) := by decide +kernel
theorem dX0_isAheadOf_90 : decode cX0_isAheadOf 90 = .ok (.aload_n 1, 1) := by decide +kernel
theorem dX0_isAheadOf_91 : decode cX0_isAheadOf 91 = .ok (.getfield 7, 3) := by decide +kernel
theorem dX0_isAheadOf_94 : decode cX0_isAheadOf 94 = .ok (.if_icmp .ge 7, 3) := by decide +kernel
theorem dX0_isAheadOf_97 : decode cX0_isAheadOf 97 = .ok (.iconst 1, 1) := by decide +kernel
theorem dX0_isAheadOf_98 : decode cX0_isAheadOf 98 = .ok (.goto 4, 3) := by decide +kernel
theorem dX0_isAheadOf_101 : decode cX0_isAheadOf 101 = .ok (.iconst 0, 1) := by decide +kernel
theorem dX0_isAheadOf_102 : decode cX0_isAheadOf 102 = .ok (.ireturn, 1) := by decide +kernel
theorem dX0_sideOf_0 : decode cX0_sideOf 0 = .ok (.iload_n 1, 1) := by decide +kernel
theorem dX0_sideOf_1 : decode cX0_sideOf 1 = .ok (.sipush (-9999), 3) := by decide +kernel
theorem dX0_sideOf_4 : decode cX0_sideOf 4 = .ok (.if_icmp .ne 5, 3) := by decide +kernel
theorem dX0_sideOf_7 : decode cX0_sideOf 7 = .ok (.iconst 3, 1) := by decide +kernel
theorem dX0_sideOf_8 : decode cX0_sideOf 8 = .ok (.ireturn, 1) := by decide +kernel
theorem dX0_sideOf_9 : decode cX0_sideOf 9 = .ok (.iload_n 1, 1) := by decide +kernel
theorem dX0_sideOf_10 : decode cX0_sideOf 10 = .ok (.aload_n 0, 1) := by decide +kernel
theorem dX0_sideOf_11 : decode cX0_sideOf 11 = .ok (.getfield 53, 3) := by decide +kernel
theorem dX0_sideOf_14 : decode cX0_sideOf 14 = .ok (.aload_n 0, 1) := by decide +kernel
theorem dX0_sideOf_15 : decode cX0_sideOf 15 = .ok (.getfield 13, 3) := by decide +kernel
theorem dX0_sideOf_18 : decode cX0_sideOf 18 = .ok (.isub, 1) := by decide +kernel
theorem dX0_sideOf_19 : decode cX0_sideOf 19 = .ok (.if_icmp .ge 5, 3) := by decide +kernel
theorem dX0_sideOf_22 : decode cX0_sideOf 22 = .ok (.iconst 1, 1) := by decide +kernel
theorem dX0_sideOf_23 : decode cX0_sideOf 23 = .ok (.ireturn, 1) := by decide +kernel
theorem dX0_sideOf_24 : decode cX0_sideOf 24 = .ok (.iload_n 1, 1) := by decide +kernel
theorem dX0_sideOf_25 : decode cX0_sideOf 25 = .ok (.aload_n 0, 1) := by decide +kernel
theorem dX0_sideOf_26 : decode cX0_sideOf 26 = .ok (.getfield 53, 3) := by decide +kernel
theorem dX0_sideOf_29 : decode cX0_sideOf 29 = .ok (.if_icmp .le 7, 3) := by decide +kernel
theorem dX0_sideOf_32 : decode cX0_sideOf 32 = .ok (.iconst 2, 1) := by decide +kernel
theorem dX0_sideOf_33 : decode cX0_sideOf 33 = .ok (.goto 4, 3) := by decide +kernel
theorem dX0_sideOf_36 : decode cX0_sideOf 36 = .ok (.iconst 0, 1) := by decide +kernel
theorem dX0_sideOf_37 : decode cX0_sideOf 37 = .ok (.ireturn, 1) := by decide +kernel
theorem dX0_rollersLying_0 : decode cX0_rollersLying 0 = .ok (.iconst 0, 1) := by decide +kernel
theorem dX0_rollersLying_1 : decode cX0_rollersLying 1 = .ok (.istore_n 2, 1) := by decide +kernel
theorem dX0_rollersLying_2 : decode cX0_rollersLying 2 = .ok (.iconst 0, 1) := by decide +kernel
theorem dX0_rollersLying_3 : decode cX0_rollersLying 3 = .ok (.istore_n 3, 1) := by decide +kernel
theorem dX0_rollersLying_4 : decode cX0_rollersLying 4 = .ok (.iload_n 3, 1) := by decide +kernel
theorem dX0_rollersLying_5 : decode cX0_rollersLying 5 = .ok (.aload_n 0, 1) := by decide +kernel
theorem dX0_rollersLying_6 : decode cX0_rollersLying 6 = .ok (.getfield 19, 3) := by decide +kernel
theorem dX0_rollersLying_9 : decode cX0_rollersLying 9 = .ok (.if_icmp .ge 35, 3) := by decide +kernel
theorem dX0_rollersLying_12 : decode cX0_rollersLying 12 = .ok (.iload_n 3, 1) := by decide +kernel
theorem dX0_rollersLying_13 : decode cX0_rollersLying 13 = .ok (.aload_n 0, 1) := by decide +kernel
theorem dX0_rollersLying_14 : decode cX0_rollersLying 14 = .ok (.getfield 40, 3) := by decide +kernel
theorem dX0_rollersLying_17 : decode cX0_rollersLying 17 = .ok (.arraylength, 1) := by decide +kernel
theorem dX0_rollersLying_18 : decode cX0_rollersLying 18 = .ok (.if_icmp .ge 26, 3) := by decide +kernel
theorem dX0_rollersLying_21 : decode cX0_rollersLying 21 = .ok (.aload_n 0, 1) := by decide +kernel
theorem dX0_rollersLying_22 : decode cX0_rollersLying 22 = .ok (.aload_n 0, 1) := by decide +kernel
theorem dX0_rollersLying_23 : decode cX0_rollersLying 23 = .ok (.getfield 40, 3) := by decide +kernel
theorem dX0_rollersLying_26 : decode cX0_rollersLying 26 = .ok (.iload_n 3, 1) := by decide +kernel
theorem dX0_rollersLying_27 : decode cX0_rollersLying 27 = .ok (.iaload, 1) := by decide +kernel
theorem dX0_rollersLying_28 : decode cX0_rollersLying 28 = .ok (.invokevirtual 126, 3) := by decide +kernel
theorem dX0_rollersLying_31 : decode cX0_rollersLying 31 = .ok (.iload_n 1, 1) := by decide +kernel
theorem dX0_rollersLying_32 : decode cX0_rollersLying 32 = .ok (.if_icmp .ne 6, 3) := by decide +kernel
theorem dX0_rollersLying_35 : decode cX0_rollersLying 35 = .ok (.iinc 2 1, 3) := by decide +kernel
theorem dX0_rollersLying_38 : decode cX0_rollersLying 38 = .ok (.iinc 3 1, 3) := by decide +kernel
theorem dX0_rollersLying_41 : decode cX0_rollersLying 41 = .ok (.goto (-37), 3) := by decide +kernel
theorem dX0_rollersLying_44 : decode cX0_rollersLying 44 = .ok (.iload_n 2, 1) := by decide +kernel
theorem dX0_rollersLying_45 : decode cX0_rollersLying 45 = .ok (.ireturn, 1) := by decide +kernel
theorem dX0_fact_0 : decode cX0_fact 0 = .ok (.iload_n 1, 1) := by decide +kernel
theorem dX0_fact_1 : decode cX0_fact 1 = .ok (.tableswitch 118 0 10 #[59, 64, 69, 74, 79, 85, 91, 97, 103, 108, 113], 59) := by decide +kernel
theorem dX0_fact_60 : decode cX0_fact 60 = .ok (.aload_n 0, 1) := by decide +kernel
theorem dX0_fact_61 : decode cX0_fact 61 = .ok (.getfield 53, 3) := by decide +kernel
theorem dX0_fact_64 : decode cX0_fact 64 = .ok (.ireturn, 1) := by decide +kernel
theorem dX0_fact_65 : decode cX0_fact 65 = .ok (.aload_n 0, 1) := by decide +kernel
theorem dX0_fact_66 : decode cX0_fact 66 = .ok (.getfield 56, 3) := by decide +kernel
theorem dX0_fact_69 : decode cX0_fact 69 = .ok (.ireturn, 1) := by decide +kernel
theorem dX0_fact_70 : decode cX0_fact 70 = .ok (.aload_n 0, 1) := by decide +kernel
theorem dX0_fact_71 : decode cX0_fact 71 = .ok (.getfield 59, 3) := by decide +kernel
theorem dX0_fact_74 : decode cX0_fact 74 = .ok (.ireturn, 1) := by decide +kernel
theorem dX0_fact_75 : decode cX0_fact 75 = .ok (.aload_n 0, 1) := by decide +kernel
theorem dX0_fact_76 : decode cX0_fact 76 = .ok (.getfield 62, 3) := by decide +kernel
theorem dX0_fact_79 : decode cX0_fact 79 = .ok (.ireturn, 1) := by decide +kernel
theorem dX0_fact_80 : decode cX0_fact 80 = .ok (.aload_n 0, 1) := by decide +kernel
theorem dX0_fact_81 : decode cX0_fact 81 = .ok (.iconst 0, 1) := by decide +kernel
theorem dX0_fact_82 : decode cX0_fact 82 = .ok (.invokevirtual 119, 3) := by decide +kernel
theorem dX0_fact_85 : decode cX0_fact 85 = .ok (.ireturn, 1) := by decide +kernel
theorem dX0_fact_86 : decode cX0_fact 86 = .ok (.aload_n 0, 1) := by decide +kernel
theorem dX0_fact_87 : decode cX0_fact 87 = .ok (.iconst 1, 1) := by decide +kernel
theorem dX0_fact_88 : decode cX0_fact 88 = .ok (.invokevirtual 119, 3) := by decide +kernel
theorem dX0_fact_91 : decode cX0_fact 91 = .ok (.ireturn, 1) := by decide +kernel
theorem dX0_fact_92 : decode cX0_fact 92 = .ok (.aload_n 0, 1) := by decide +kernel
theorem dX0_fact_93 : decode cX0_fact 93 = .ok (.iconst 2, 1) := by decide +kernel
theorem dX0_fact_94 : decode cX0_fact 94 = .ok (.invokevirtual 119, 3) := by decide +kernel
theorem dX0_fact_97 : decode cX0_fact 97 = .ok (.ireturn, 1) := by decide +kernel
theorem dX0_fact_98 : decode cX0_fact 98 = .ok (.aload_n 0, 1) := by decide +kernel
theorem dX0_fact_99 : decode cX0_fact 99 = .ok (.iconst 3, 1) := by decide +kernel
theorem dX0_fact_100 : decode cX0_fact 100 = .ok (.invokevirtual 119, 3) := by decide +kernel
theorem dX0_fact_103 : decode cX0_fact 103 = .ok (.ireturn, 1) := by decide +kernel
theorem dX0_fact_104 : decode cX0_fact 104 = .ok (.aload_n 0, 1) := by decide +kernel
theorem dX0_fact_105 : decode cX0_fact 105 = .ok (.getfield 71, 3) := by decide +kernel
theorem dX0_fact_108 : decode cX0_fact 108 = .ok (.ireturn, 1) := by decide +kernel
theorem dX0_fact_109 : decode cX0_fact 109 = .ok (.aload_n 0, 1) := by decide +kernel
theorem dX0_fact_110 : decode cX0_fact 110 = .ok (.getfield 34, 3) := by decide +kernel
theorem dX0_fact_113 : decode cX0_fact 113 = .ok (.ireturn, 1) := by decide +kernel
theorem dX0_fact_114 : decode cX0_fact 114 = .ok (.aload_n 0, 1) := by decide +kernel
theorem dX0_fact_115 : decode cX0_fact 115 = .ok (.getfield 37, 3) := by decide +kernel
theorem dX0_fact_118 : decode cX0_fact 118 = .ok (.ireturn, 1) := by decide +kernel
theorem dX0_fact_119 : decode cX0_fact 119 = .ok (.aload_n 0, 1) := by decide +kernel
theorem dX0_fact_120 : decode cX0_fact 120 = .ok (.getfield 68, 3) := by decide +kernel
theorem dX0_fact_123 : decode cX0_fact 123 = .ok (.ireturn, 1) := by decide +kernel
theorem dX1_init_0 : decode cX1_init 0 = .ok (.aload_n 0, 1) := by decide +kernel
theorem dX1_init_1 : decode cX1_init 1 = .ok (.invokespecial 1, 3) := by decide +kernel
theorem dX1_init_4 : decode cX1_init 4 = .ok (.aload_n 0, 1) := by decide +kernel
theorem dX1_init_5 : decode cX1_init 5 = .ok (.bipush 12, 2) := by decide +kernel
theorem dX1_init_7 : decode cX1_init 7 = .ok (.newarray .int, 2) := by decide +kernel
theorem dX1_init_9 : decode cX1_init 9 = .ok (.putfield 9, 3) := by decide +kernel
theorem dX1_init_12 : decode cX1_init 12 = .ok (.aload_n 0, 1) := by decide +kernel
theorem dX1_init_13 : decode cX1_init 13 = .ok (.bipush 12, 2) := by decide +kernel
theorem dX1_init_15 : decode cX1_init 15 = .ok (.newarray .int, 2) := by decide +kernel
theorem dX1_init_17 : decode cX1_init 17 = .ok (.putfield 13, 3) := by decide +kernel
theorem dX1_init_20 : decode cX1_init 20 = .ok (.aload_n 0, 1) := by decide +kernel
theorem dX1_init_21 : decode cX1_init 21 = .ok (.bipush 12, 2) := by decide +kernel
theorem dX1_init_23 : decode cX1_init 23 = .ok (.newarray .int, 2) := by decide +kernel
theorem dX1_init_25 : decode cX1_init 25 = .ok (.putfield 16, 3) := by decide +kernel
theorem dX1_init_28 : decode cX1_init 28 = .ok (.aload_n 0, 1) := by decide +kernel
theorem dX1_init_29 : decode cX1_init 29 = .ok (.getfield 16, 3) := by decide +kernel
theorem dX1_init_32 : decode cX1_init 32 = .ok (.iconst 0, 1) := by decide +kernel
theorem dX1_init_33 : decode cX1_init 33 = .ok (.iconst 2, 1) := by decide +kernel
theorem dX1_init_34 : decode cX1_init 34 = .ok (.iastore, 1) := by decide +kernel
theorem dX1_init_35 : decode cX1_init 35 = .ok (.aload_n 0, 1) := by decide +kernel
theorem dX1_init_36 : decode cX1_init 36 = .ok (.iconst 1, 1) := by decide +kernel
theorem dX1_init_37 : decode cX1_init 37 = .ok (.putfield 19, 3) := by decide +kernel
theorem dX1_init_40 : decode cX1_init 40 = .ok (.aload_n 0, 1) := by decide +kernel
theorem dX1_init_41 : decode cX1_init 41 = .ok (.sipush 500, 3) := by decide +kernel
theorem dX1_init_44 : decode cX1_init 44 = .ok (.putfield 23, 3) := by decide +kernel
theorem dX1_init_47 : decode cX1_init 47 = .ok (.return_, 1) := by decide +kernel
theorem dX1_putStretch_0 : decode cX1_putStretch 0 = .ok (.iconst 0, 1) := by decide +kernel
theorem dX1_putStretch_1 : decode cX1_putStretch 1 = .ok (.istore 4, 2) := by decide +kernel
theorem dX1_putStretch_3 : decode cX1_putStretch 3 = .ok (.iload 4, 2) := by decide +kernel
theorem dX1_putStretch_5 : decode cX1_putStretch 5 = .ok (.aload_n 0, 1) := by decide +kernel
theorem dX1_putStretch_6 : decode cX1_putStretch 6 = .ok (.getfield 19, 3) := by decide +kernel
theorem dX1_putStretch_9 : decode cX1_putStretch 9 = .ok (.if_icmp .ge 27, 3) := by decide +kernel
theorem dX1_putStretch_12 : decode cX1_putStretch 12 = .ok (.iload 4, 2) := by decide +kernel
theorem dX1_putStretch_14 : decode cX1_putStretch 14 = .ok (.bipush 12, 2) := by decide +kernel
theorem dX1_putStretch_16 : decode cX1_putStretch 16 = .ok (.if_icmp .ge 20, 3) := by decide +kernel
theorem dX1_putStretch_19 : decode cX1_putStretch 19 = .ok (.aload_n 0, 1) := by decide +kernel
theorem dX1_putStretch_20 : decode cX1_putStretch 20 = .ok (.getfield 9, 3) := by decide +kernel
theorem dX1_putStretch_23 : decode cX1_putStretch 23 = .ok (.iload 4, 2) := by decide +kernel
theorem dX1_putStretch_25 : decode cX1_putStretch 25 = .ok (.iaload, 1) := by decide +kernel
theorem dX1_putStretch_26 : decode cX1_putStretch 26 = .ok (.iload_n 1, 1) := by decide +kernel
theorem dX1_putStretch_27 : decode cX1_putStretch 27 = .ok (.if_icmp .eq 9, 3) := by decide +kernel
theorem dX1_putStretch_30 : decode cX1_putStretch 30 = .ok (.iinc 4 1, 3) := by decide +kernel
theorem dX1_putStretch_33 : decode cX1_putStretch 33 = .ok (.goto (-30), 3) := by decide +kernel
theorem dX1_putStretch_36 : decode cX1_putStretch 36 = .ok (.iload 4, 2) := by decide +kernel
theorem dX1_putStretch_38 : decode cX1_putStretch 38 = .ok (.bipush 12, 2) := by decide +kernel
theorem dX1_putStretch_40 : decode cX1_putStretch 40 = .ok (.if_icmp .lt 5, 3) := by decide +kernel
theorem dX1_putStretch_43 : decode cX1_putStretch 43 = .ok (.iconst 0, 1) := by decide +kernel
theorem dX1_putStretch_44 : decode cX1_putStretch 44 = .ok (.ireturn, 1) := by decide +kernel
theorem dX1_putStretch_45 : decode cX1_putStretch 45 = .ok (.aload_n 0, 1) := by decide +kernel
theorem dX1_putStretch_46 : decode cX1_putStretch 46 = .ok (.getfield 9, 3) := by decide +kernel
theorem dX1_putStretch_49 : decode cX1_putStretch 49 = .ok (.iload 4, 2) := by decide +kernel
theorem dX1_putStretch_51 : decode cX1_putStretch 51 = .ok (.iload_n 1, 1) := by decide +kernel
theorem dX1_putStretch_52 : decode cX1_putStretch 52 = .ok (.iastore, 1) := by decide +kernel
theorem dX1_putStretch_53 : decode cX1_putStretch 53 = .ok (.aload_n 0, 1) := by decide +kernel
theorem dX1_putStretch_54 : decode cX1_putStretch 54 = .ok (.getfield 13, 3) := by decide +kernel
theorem dX1_putStretch_57 : decode cX1_putStretch 57 = .ok (.iload 4, 2) := by decide +kernel
theorem dX1_putStretch_59 : decode cX1_putStretch 59 = .ok (.iload_n 2, 1) := by decide +kernel
theorem dX1_putStretch_60 : decode cX1_putStretch 60 = .ok (.iastore, 1) := by decide +kernel
theorem dX1_putStretch_61 : decode cX1_putStretch 61 = .ok (.aload_n 0, 1) := by decide +kernel
theorem dX1_putStretch_62 : decode cX1_putStretch 62 = .ok (.getfield 16, 3) := by decide +kernel
theorem dX1_putStretch_65 : decode cX1_putStretch 65 = .ok (.iload 4, 2) := by decide +kernel
theorem dX1_putStretch_67 : decode cX1_putStretch 67 = .ok (.iload_n 3, 1) := by decide +kernel
theorem dX1_putStretch_68 : decode cX1_putStretch 68 = .ok (.iastore, 1) := by decide +kernel
theorem dX1_putStretch_69 : decode cX1_putStretch 69 = .ok (.iload 4, 2) := by decide +kernel
theorem dX1_putStretch_71 : decode cX1_putStretch 71 = .ok (.aload_n 0, 1) := by decide +kernel
theorem dX1_putStretch_72 : decode cX1_putStretch 72 = .ok (.getfield 19, 3) := by decide +kernel
theorem dX1_putStretch_75 : decode cX1_putStretch 75 = .ok (.if_icmp .ne 13, 3) := by decide +kernel
theorem dX1_putStretch_78 : decode cX1_putStretch 78 = .ok (.aload_n 0, 1) := by decide +kernel
theorem dX1_putStretch_79 : decode cX1_putStretch 79 = .ok (.dup, 1) := by decide +kernel
theorem dX1_putStretch_80 : decode cX1_putStretch 80 = .ok (.getfield 19, 3) := by decide +kernel
theorem dX1_putStretch_83 : decode cX1_putStretch 83 = .ok (.iconst 1, 1) := by decide +kernel
theorem dX1_putStretch_84 : decode cX1_putStretch 84 = .ok (.iadd, 1) := by decide +kernel
theorem dX1_putStretch_85 : decode cX1_putStretch 85 = .ok (.putfield 19, 3) := by decide +kernel
theorem dX1_putStretch_88 : decode cX1_putStretch 88 = .ok (.iconst 1, 1) := by decide +kernel
theorem dX1_putStretch_89 : decode cX1_putStretch 89 = .ok (.ireturn, 1) := by decide +kernel
theorem dX1_groundAt_0 : decode cX1_groundAt 0 = .ok (.iload_n 2, 1) := by decide +kernel
theorem dX1_groundAt_1 : decode cX1_groundAt 1 = .ok (.ifCond .eq 10, 3) := by decide +kernel
theorem dX1_groundAt_4 : decode cX1_groundAt 4 = .ok (.aload_n 0, 1) := by decide +kernel
theorem dX1_groundAt_5 : decode cX1_groundAt 5 = .ok (.getfield 16, 3) := by decide +kernel
theorem dX1_groundAt_8 : decode cX1_groundAt 8 = .ok (.goto 7, 3) := by decide +kernel
theorem dX1_groundAt_11 : decode cX1_groundAt 11 = .ok (.aload_n 0, 1) := by decide +kernel
theorem dX1_groundAt_12 : decode cX1_groundAt 12 = .ok (.getfield 13, 3) := by decide +kernel
theorem dX1_groundAt_15 : decode cX1_groundAt 15 = .ok (.astore_n 3, 1) := by decide +kernel
theorem dX1_groundAt_16 : decode cX1_groundAt 16 = .ok (.iload_n 1, 1) := by decide +kernel
theorem dX1_groundAt_17 : decode cX1_groundAt 17 = .ok (.iconst 0, 1) := by decide +kernel
theorem dX1_groundAt_18 : decode cX1_groundAt 18 = .ok (.invokestatic 26, 3) := by decide +kernel
theorem dX1_groundAt_21 : decode cX1_groundAt 21 = .ok (.istore 4, 2) := by decide +kernel
theorem dX1_groundAt_23 : decode cX1_groundAt 23 = .ok (.iconst (-1), 1) := by decide +kernel
theorem dX1_groundAt_24 : decode cX1_groundAt 24 = .ok (.istore 5, 2) := by decide +kernel
theorem dX1_groundAt_26 : decode cX1_groundAt 26 = .ok (.iconst 0, 1) := by decide +kernel
theorem dX1_groundAt_27 : decode cX1_groundAt 27 = .ok (.istore 6, 2) := by decide +kernel
theorem dX1_groundAt_29 : decode cX1_groundAt 29 = .ok (.iconst 0, 1) := by decide +kernel
theorem dX1_groundAt_30 : decode cX1_groundAt 30 = .ok (.istore 7, 2) := by decide +kernel
theorem dX1_groundAt_32 : decode cX1_groundAt 32 = .ok (.iload 7, 2) := by decide +kernel
theorem dX1_groundAt_34 : decode cX1_groundAt 34 = .ok (.aload_n 0, 1) := by decide +kernel
theorem dX1_groundAt_35 : decode cX1_groundAt 35 = .ok (.getfield 19, 3) := by decide +kernel
theorem dX1_groundAt_38 : decode cX1_groundAt 38 = .ok (.if_icmp .ge 65, 3) := by decide +kernel
theorem dX1_groundAt_41 : decode cX1_groundAt 41 = .ok (.iload 7, 2) := by decide +kernel
theorem dX1_groundAt_43 : decode cX1_groundAt 43 = .ok (.aload_n 0, 1) := by decide +kernel
theorem dX1_groundAt_44 : decode cX1_groundAt 44 = .ok (.getfield 9, 3) := by decide +kernel
theorem dX1_groundAt_47 : decode cX1_groundAt 47 = .ok (.arraylength, 1) := by decide +kernel
theorem dX1_groundAt_48 : decode cX1_groundAt 48 = .ok (.if_icmp .ge 55, 3) := by decide +kernel
theorem dX1_groundAt_51 : decode cX1_groundAt 51 = .ok (.iload 7, 2) := by decide +kernel
theorem dX1_groundAt_53 : decode cX1_groundAt 53 = .ok (.aload_n 3, 1) := by decide +kernel
theorem dX1_groundAt_54 : decode cX1_groundAt 54 = .ok (.arraylength, 1) := by decide +kernel
theorem dX1_groundAt_55 : decode cX1_groundAt 55 = .ok (.if_icmp .ge 48, 3) := by decide +kernel
theorem dX1_groundAt_58 : decode cX1_groundAt 58 = .ok (.aload_n 0, 1) := by decide +kernel
theorem dX1_groundAt_59 : decode cX1_groundAt 59 = .ok (.getfield 9, 3) := by decide +kernel
theorem dX1_groundAt_62 : decode cX1_groundAt 62 = .ok (.iload 7, 2) := by decide +kernel
theorem dX1_groundAt_64 : decode cX1_groundAt 64 = .ok (.iaload, 1) := by decide +kernel
theorem dX1_groundAt_65 : decode cX1_groundAt 65 = .ok (.iload 4, 2) := by decide +kernel
theorem dX1_groundAt_67 : decode cX1_groundAt 67 = .ok (.if_icmp .gt 30, 3) := by decide +kernel
theorem dX1_groundAt_70 : decode cX1_groundAt 70 = .ok (.aload_n 0, 1) := by decide +kernel
theorem dX1_groundAt_71 : decode cX1_groundAt 71 = .ok (.getfield 9, 3) := by decide +kernel
theorem dX1_groundAt_74 : decode cX1_groundAt 74 = .ok (.iload 7, 2) := by decide +kernel
theorem dX1_groundAt_76 : decode cX1_groundAt 76 = .ok (.iaload, 1) := by decide +kernel
theorem dX1_groundAt_77 : decode cX1_groundAt 77 = .ok (.iload 5, 2) := by decide +kernel
theorem dX1_groundAt_79 : decode cX1_groundAt 79 = .ok (.if_icmp .le 18, 3) := by decide +kernel
theorem dX1_groundAt_82 : decode cX1_groundAt 82 = .ok (.aload_n 0, 1) := by decide +kernel
theorem dX1_groundAt_83 : decode cX1_groundAt 83 = .ok (.getfield 9, 3) := by decide +kernel
theorem dX1_groundAt_86 : decode cX1_groundAt 86 = .ok (.iload 7, 2) := by decide +kernel
theorem dX1_groundAt_88 : decode cX1_groundAt 88 = .ok (.iaload, 1) := by decide +kernel
theorem dX1_groundAt_89 : decode cX1_groundAt 89 = .ok (.istore 5, 2) := by decide +kernel
theorem dX1_groundAt_91 : decode cX1_groundAt 91 = .ok (.aload_n 3, 1) := by decide +kernel
theorem dX1_groundAt_92 : decode cX1_groundAt 92 = .ok (.iload 7, 2) := by decide +kernel
theorem dX1_groundAt_94 : decode cX1_groundAt 94 = .ok (.iaload, 1) := by decide +kernel
theorem dX1_groundAt_95 : decode cX1_groundAt 95 = .ok (.istore 6, 2) := by decide +kernel
theorem dX1_groundAt_97 : decode cX1_groundAt 97 = .ok (.iinc 7 1, 3) := by decide +kernel
theorem dX1_groundAt_100 : decode cX1_groundAt 100 = .ok (.goto (-68), 3) := by decide +kernel
theorem dX1_groundAt_103 : decode cX1_groundAt 103 = .ok (.iload 6, 2) := by decide +kernel
theorem dX1_groundAt_105 : decode cX1_groundAt 105 = .ok (.ireturn, 1) := by decide +kernel
theorem dJ9_max_7cf53_0 : decode cJ9_max_7cf53 0 = .ok (.iload_n 0, 1) := by decide +kernel
theorem dJ9_max_7cf53_1 : decode cJ9_max_7cf53 1 = .ok (.iload_n 1, 1) := by decide +kernel
theorem dJ9_max_7cf53_2 : decode cJ9_max_7cf53 2 = .ok (.if_icmp .lt 7, 3) := by decide +kernel
theorem dJ9_max_7cf53_5 : decode cJ9_max_7cf53 5 = .ok (.iload_n 0, 1) := by decide +kernel
theorem dJ9_max_7cf53_6 : decode cJ9_max_7cf53 6 = .ok (.goto 4, 3) := by decide +kernel
theorem dJ9_max_7cf53_9 : decode cJ9_max_7cf53 9 = .ok (.iload_n 1, 1) := by decide +kernel
theorem dJ9_max_7cf53_10 : decode cJ9_max_7cf53 10 = .ok (.ireturn, 1) := by decide +kernel
theorem dJ9_min_7cf53_0 : decode cJ9_min_7cf53 0 = .ok (.iload_n 0, 1) := by decide +kernel
theorem dJ9_min_7cf53_1 : decode cJ9_min_7cf53 1 = .ok (.iload_n 1, 1) := by decide +kernel
theorem dJ9_min_7cf53_2 : decode cJ9_min_7cf53 2 = .ok (.if_icmp .gt 7, 3) := by decide +kernel
theorem dJ9_min_7cf53_5 : decode cJ9_min_7cf53 5 = .ok (.iload_n 0, 1) := by decide +kernel
theorem dJ9_min_7cf53_6 : decode cJ9_min_7cf53 6 = .ok (.goto 4, 3) := by decide +kernel
theorem dJ9_min_7cf53_9 : decode cJ9_min_7cf53 9 = .ok (.iload_n 1, 1) := by decide +kernel
theorem dJ9_min_7cf53_10 : decode cJ9_min_7cf53 10 = .ok (.ireturn, 1) := by decide +kernel
