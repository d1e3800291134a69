theorem dX2_init_0 : decode cX2_init 0 = .ok (.aload_n 0, 1) := by decide +kernel
theorem dX2_init_1 : decode cX2_init 1 = .ok (.invokespecial 1, 3) := by decide +kernel
theorem dX2_init_4 : decode cX2_init 4 = .ok (.aload_n 0, 1) := by decide +kernel
theorem dX2_init_5 : decode cX2_init 5 = .ok (.new 7, 3) := by decide +kernel
theorem dX2_init_8 : decode cX2_init 8 = .ok (.dup, 1) := by decide +kernel
theorem dX2_init_9 : decode cX2_init 9 = .ok (.invokespecial 9, 3) := by decide +kernel
theorem dX2_init_12 : decode cX2_init 12 = .ok (.putfield 10, 3) := by decide +kernel
theorem dX2_init_15 : decode cX2_init 15 = .ok (.aload_n 0, 1) := by decide +kernel
theorem dX2_init_16 : decode cX2_init 16 = .ok (.bipush 6, 2) := by decide +kernel
theorem dX2_init_18 : decode cX2_init 18 = .ok (.anewarray 16, 3) := by decide +kernel
theorem dX2_init_21 : decode cX2_init 21 = .ok (.putfield 18, 3) := by decide +kernel
theorem dX2_init_24 : decode cX2_init 24 = .ok (.aload_n 0, 1) := by decide +kernel
theorem dX2_init_25 : decode cX2_init 25 = .ok (.new 16, 3) := by decide +kernel
theorem dX2_init_28 : decode cX2_init 28 = .ok (.dup, 1) := by decide +kernel
theorem dX2_init_29 : decode cX2_init 29 = .ok (.iconst 0, 1) := by decide +kernel
theorem dX2_init_30 : decode cX2_init 30 = .ok (.bipush 20, 2) := by decide +kernel
theorem dX2_init_32 : decode cX2_init 32 = .ok (.bipush 10, 2) := by decide +kernel
theorem dX2_init_34 : decode cX2_init 34 = .ok (.iconst 2, 1) := by decide +kernel
theorem dX2_init_35 : decode cX2_init 35 = .ok (.invokespecial 22, 3) := by decide +kernel
theorem dX2_init_38 : decode cX2_init 38 = .ok (.putfield 25, 3) := by decide +kernel
theorem dX2_init_41 : decode cX2_init 41 = .ok (.aload_n 0, 1) := by decide +kernel
theorem dX2_init_42 : decode cX2_init 42 = .ok (.new 16, 3) := by decide +kernel
theorem dX2_init_45 : decode cX2_init 45 = .ok (.dup, 1) := by decide +kernel
theorem dX2_init_46 : decode cX2_init 46 = .ok (.iconst 0, 1) := by decide +kernel
theorem dX2_init_47 : decode cX2_init 47 = .ok (.bipush 20, 2) := by decide +kernel
theorem dX2_init_49 : decode cX2_init 49 = .ok (.bipush 10, 2) := by decide +kernel
theorem dX2_init_51 : decode cX2_init 51 = .ok (.iconst 2, 1) := by decide +kernel
theorem dX2_init_52 : decode cX2_init 52 = .ok (.invokespecial 22, 3) := by decide +kernel
theorem dX2_init_55 : decode cX2_init 55 = .ok (.putfield 29, 3) := by decide +kernel
theorem dX2_init_58 : decode cX2_init 58 = .ok (.aload_n 0, 1) := by decide +kernel
theorem dX2_init_59 : decode cX2_init 59 = .ok (.iconst 0, 1) := by decide +kernel
theorem dX2_init_60 : decode cX2_init 60 = .ok (.putfield 32, 3) := by decide +kernel
theorem dX2_init_63 : decode cX2_init 63 = .ok (.aload_n 0, 1) := by decide +kernel
theorem dX2_init_64 : decode cX2_init 64 = .ok (.iconst 0, 1) := by decide +kernel
theorem dX2_init_65 : decode cX2_init 65 = .ok (.putfield 36, 3) := by decide +kernel
theorem dX2_init_68 : decode cX2_init 68 = .ok (.return_, 1) := by decide +kernel
theorem dX2_setLength_0 : decode cX2_setLength 0 = .ok (.iload_n 1, 1) := by decide +kernel
theorem dX2_setLength_1 : decode cX2_setLength 1 = .ok (.bipush 100, 2) := by decide +kernel
theorem dX2_setLength_3 : decode cX2_setLength 3 = .ok (.sipush 2000, 3) := by decide +kernel
theorem dX2_setLength_6 : decode cX2_setLength 6 = .ok (.invokestatic 39, 3) := by decide +kernel
theorem dX2_setLength_9 : decode cX2_setLength 9 = .ok (.ifCond .eq 13, 3) := by decide +kernel
theorem dX2_setLength_12 : decode cX2_setLength 12 = .ok (.new 43, 3) := by decide +kernel
theorem dX2_setLength_15 : decode cX2_setLength 15 = .ok (.dup, 1) := by decide +kernel
theorem dX2_setLength_16 : decode cX2_setLength 16 = .ok (.ldc 45, 2) := by decide +kernel
theorem dX2_setLength_18 : decode cX2_setLength 18 = .ok (.invokespecial 47, 3) := by decide +kernel
theorem dX2_setLength_21 : decode cX2_setLength 21 = .ok (.athrow, 1) := by decide +kernel
theorem dX2_setLength_22 : decode cX2_setLength 22 = .ok (.aload_n 0, 1) := by decide +kernel
theorem dX2_setLength_23 : decode cX2_setLength 23 = .ok (.invokevirtual 50, 3) := by decide +kernel
theorem dX2_setLength_26 : decode cX2_setLength 26 = .ok (.aload_n 0, 1) := by decide +kernel
theorem dX2_setLength_27 : decode cX2_setLength 27 = .ok (.getfield 10, 3) := by decide +kernel
theorem dX2_setLength_30 : decode cX2_setLength 30 = .ok (.getfield 53, 3) := by decide +kernel
theorem dX2_setLength_33 : decode cX2_setLength 33 = .ok (.istore_n 2, 1) := by decide +kernel
theorem dX2_setLength_34 : decode cX2_setLength 34 = .ok (.aload_n 0, 1) := by decide +kernel
theorem dX2_setLength_35 : decode cX2_setLength 35 = .ok (.getfield 10, 3) := by decide +kernel
theorem dX2_setLength_38 : decode cX2_setLength 38 = .ok (.iload_n 1, 1) := by decide +kernel
theorem dX2_setLength_39 : decode cX2_setLength 39 = .ok (.putfield 53, 3) := by decide +kernel
theorem dX2_setLength_42 : decode cX2_setLength 42 = .ok (.iload_n 2, 1) := by decide +kernel
theorem dX2_setLength_43 : decode cX2_setLength 43 = .ok (.ireturn, 1) := by decide +kernel
theorem dX2_lay_0 : decode cX2_lay 0 = .ok (.iload_n 1, 1) := by decide +kernel
theorem dX2_lay_1 : decode cX2_lay 1 = .ok (.iconst 0, 1) := by decide +kernel
theorem dX2_lay_2 : decode cX2_lay 2 = .ok (.sipush 1999, 3) := by decide +kernel
theorem dX2_lay_5 : decode cX2_lay 5 = .ok (.invokestatic 39, 3) := by decide +kernel
theorem dX2_lay_8 : decode cX2_lay 8 = .ok (.ifCond .ne 23, 3) := by decide +kernel
theorem dX2_lay_11 : decode cX2_lay 11 = .ok (.iload_n 2, 1) := by decide +kernel
theorem dX2_lay_12 : decode cX2_lay 12 = .ok (.bipush (-5), 2) := by decide +kernel
theorem dX2_lay_14 : decode cX2_lay 14 = .ok (.iconst 5, 1) := by decide +kernel
theorem dX2_lay_15 : decode cX2_lay 15 = .ok (.invokestatic 39, 3) := by decide +kernel
theorem dX2_lay_18 : decode cX2_lay 18 = .ok (.ifCond .ne 13, 3) := by decide +kernel
theorem dX2_lay_21 : decode cX2_lay 21 = .ok (.iload_n 3, 1) := by decide +kernel
theorem dX2_lay_22 : decode cX2_lay 22 = .ok (.iconst 0, 1) := by decide +kernel
theorem dX2_lay_23 : decode cX2_lay 23 = .ok (.bipush 9, 2) := by decide +kernel
theorem dX2_lay_25 : decode cX2_lay 25 = .ok (.invokestatic 39, 3) := by decide +kernel
theorem dX2_lay_28 : decode cX2_lay 28 = .ok (.ifCond .eq 13, 3) := by decide +kernel
theorem dX2_lay_31 : decode cX2_lay 31 = .ok (.new 43, 3) := by decide +kernel
theorem dX2_lay_34 : decode cX2_lay 34 = .ok (.dup, 1) := by decide +kernel
theorem dX2_lay_35 : decode cX2_lay 35 = .ok (.ldc 56, 2) := by decide +kernel
theorem dX2_lay_37 : decode cX2_lay 37 = .ok (.invokespecial 47, 3) := by decide +kernel
theorem dX2_lay_40 : decode cX2_lay 40 = .ok (.athrow, 1) := by decide +kernel
theorem dX2_lay_41 : decode cX2_lay 41 = .ok (.aload_n 0, 1) := by decide +kernel
theorem dX2_lay_42 : decode cX2_lay 42 = .ok (.getfield 10, 3) := by decide +kernel
theorem dX2_lay_45 : decode cX2_lay 45 = .ok (.iload_n 1, 1) := by decide +kernel
theorem dX2_lay_46 : decode cX2_lay 46 = .ok (.iload_n 2, 1) := by decide +kernel
theorem dX2_lay_47 : decode cX2_lay 47 = .ok (.iload_n 3, 1) := by decide +kernel
theorem dX2_lay_48 : decode cX2_lay 48 = .ok (.invokevirtual 58, 3) := by decide +kernel
theorem dX2_lay_51 : decode cX2_lay 51 = .ok (.ifCond .ne 13, 3) := by decide +kernel
theorem dX2_lay_54 : decode cX2_lay 54 = .ok (.new 61, 3) := by decide +kernel
theorem dX2_lay_57 : decode cX2_lay 57 = .ok (.dup, 1) := by decide +kernel
theorem dX2_lay_58 : decode cX2_lay 58 = .ok (.ldc 63, 2) := by decide +kernel
theorem dX2_lay_60 : decode cX2_lay 60 = .ok (.invokespecial 65, 3) := by decide +kernel
theorem dX2_lay_63 : decode cX2_lay 63 = .ok (.athrow, 1) := by decide +kernel
theorem dX2_lay_64 : decode cX2_lay 64 = .ok (.aload_n 0, 1) := by decide +kernel
theorem dX2_lay_65 : decode cX2_lay 65 = .ok (.getfield 10, 3) := by decide +kernel
theorem dX2_lay_68 : decode cX2_lay 68 = .ok (.getfield 66, 3) := by decide +kernel
theorem dX2_lay_71 : decode cX2_lay 71 = .ok (.ireturn, 1) := by decide +kernel
theorem dX2_addTeam_0 : decode cX2_addTeam 0 = .ok (.iload_n 1, 1) := by decide +kernel
theorem dX2_addTeam_1 : decode cX2_addTeam 1 = .ok (.bipush 20, 2) := by decide +kernel
theorem dX2_addTeam_3 : decode cX2_addTeam 3 = .ok (.bipush 80, 2) := by decide +kernel
theorem dX2_addTeam_5 : decode cX2_addTeam 5 = .ok (.invokestatic 39, 3) := by decide +kernel
theorem dX2_addTeam_8 : decode cX2_addTeam 8 = .ok (.ifCond .ne 24, 3) := by decide +kernel
theorem dX2_addTeam_11 : decode cX2_addTeam 11 = .ok (.iload_n 2, 1) := by decide +kernel
theorem dX2_addTeam_12 : decode cX2_addTeam 12 = .ok (.bipush 10, 2) := by decide +kernel
theorem dX2_addTeam_14 : decode cX2_addTeam 14 = .ok (.bipush 99, 2) := by decide +kernel
theorem dX2_addTeam_16 : decode cX2_addTeam 16 = .ok (.invokestatic 39, 3) := by decide +kernel
theorem dX2_addTeam_19 : decode cX2_addTeam 19 = .ok (.ifCond .ne 13, 3) := by decide +kernel
theorem dX2_addTeam_22 : decode cX2_addTeam 22 = .ok (.iload_n 3, 1) := by decide +kernel
theorem dX2_addTeam_23 : decode cX2_addTeam 23 = .ok (.iconst 2, 1) := by decide +kernel
theorem dX2_addTeam_24 : decode cX2_addTeam 24 = .ok (.bipush 8, 2) := by decide +kernel
theorem dX2_addTeam_26 : decode cX2_addTeam 26 = .ok (.invokestatic 39, 3) := by decide +kernel
theorem dX2_addTeam_29 : decode cX2_addTeam 29 = .ok (.ifCond .eq 13, 3) := by decide +kernel
theorem dX2_addTeam_32 : decode cX2_addTeam 32 = .ok (.new 43, 3) := by decide +kernel
theorem dX2_addTeam_35 : decode cX2_addTeam 35 = .ok (.dup, 1) := by decide +kernel
theorem dX2_addTeam_36 : decode cX2_addTeam 36 = .ok (.ldc 75, 2) := by decide +kernel
theorem dX2_addTeam_38 : decode cX2_addTeam 38 = .ok (.invokespecial 47, 3) := by decide +kernel
theorem dX2_addTeam_41 : decode cX2_addTeam 41 = .ok (.athrow, 1) := by decide +kernel
theorem dX2_addTeam_42 : decode cX2_addTeam 42 = .ok (.aload_n 0, 1) := by decide +kernel
theorem dX2_addTeam_43 : decode cX2_addTeam 43 = .ok (.getfield 32, 3) := by decide +kernel
theorem dX2_addTeam_46 : decode cX2_addTeam 46 = .ok (.ifCond .lt 15, 3) := by decide +kernel
theorem dX2_addTeam_49 : decode cX2_addTeam 49 = .ok (.aload_n 0, 1) := by decide +kernel
theorem dX2_addTeam_50 : decode cX2_addTeam 50 = .ok (.getfield 32, 3) := by decide +kernel
theorem dX2_addTeam_53 : decode cX2_addTeam 53 = .ok (.aload_n 0, 1) := by decide +kernel
theorem dX2_addTeam_54 : decode cX2_addTeam 54 = .ok (.getfield 18, 3) := by decide +kernel
theorem dX2_addTeam_57 : decode cX2_addTeam 57 = .ok (.arraylength, 1) := by decide +kernel
theorem dX2_addTeam_58 : decode cX2_addTeam 58 = .ok (.if_icmp .lt 13, 3) := by decide +kernel
theorem dX2_addTeam_61 : decode cX2_addTeam 61 = .ok (.new 61, 3) := by decide +kernel
theorem dX2_addTeam_64 : decode cX2_addTeam 64 = .ok (.dup, 1) := by decide +kernel
theorem dX2_addTeam_65 : decode cX2_addTeam 65 = .ok (.ldc 77, 2) := by decide +kernel
theorem dX2_addTeam_67 : decode cX2_addTeam 67 = .ok (.invokespecial 65, 3) := by decide +kernel
theorem dX2_addTeam_70 : decode cX2_addTeam 70 = .ok (.athrow, 1) := by decide +kernel
theorem dX2_addTeam_71 : decode cX2_addTeam 71 = .ok (.aload_n 0, 1) := by decide +kernel
theorem dX2_addTeam_72 : decode cX2_addTeam 72 = .ok (.invokevirtual 50, 3) := by decide +kernel
theorem dX2_addTeam_75 : decode cX2_addTeam 75 = .ok (.aload_n 0, 1) := by decide +kernel
theorem dX2_addTeam_76 : decode cX2_addTeam 76 = .ok (.getfield 32, 3) := by decide +kernel
theorem dX2_addTeam_79 : decode cX2_addTeam 79 = .ok (.istore 4, 2) := by decide +kernel
theorem dX2_addTeam_81 : decode cX2_addTeam 81 = .ok (.aload_n 0, 1) := by decide +kernel
theorem dX2_addTeam_82 : decode cX2_addTeam 82 = .ok (.getfield 18, 3) := by decide +kernel
theorem dX2_addTeam_85 : decode cX2_addTeam 85 = .ok (.iload 4, 2) := by decide +kernel
theorem dX2_addTeam_87 : decode cX2_addTeam 87 = .ok (.new 16, 3) := by decide +kernel
theorem dX2_addTeam_90 : decode cX2_addTeam 90 = .ok (.dup, 1) := by decide +kernel
theorem dX2_addTeam_91 : decode cX2_addTeam 91 = .ok (.iload 4, 2) := by decide +kernel
theorem dX2_addTeam_93 : decode cX2_addTeam 93 = .ok (.iload_n 1, 1) := by decide +kernel
theorem dX2_addTeam_94 : decode cX2_addTeam 94 = .ok (.iload_n 2, 1) := by decide +kernel
theorem dX2_addTeam_95 : decode cX2_addTeam 95 = .ok (.iload_n 3, 1) := by decide +kernel
theorem dX2_addTeam_96 : decode cX2_addTeam 96 = .ok (.invokespecial 22, 3) := by decide +kernel
theorem dX2_addTeam_99 : decode cX2_addTeam 99 = .ok (.aastore, 1) := by decide +kernel
theorem dX2_addTeam_100 : decode cX2_addTeam 100 = .ok (.aload_n 0, 1) := by decide +kernel
theorem dX2_addTeam_101 : decode cX2_addTeam 101 = .ok (.dup, 1) := by decide +kernel
theorem dX2_addTeam_102 : decode cX2_addTeam 102 = .ok (.getfield 32, 3) := by decide +kernel
theorem dX2_addTeam_105 : decode cX2_addTeam 105 = .ok (.iconst 1, 1) := by decide +kernel
theorem dX2_addTeam_106 : decode cX2_addTeam 106 = .ok (.iadd, 1) := by decide +kernel
theorem dX2_addTeam_107 : decode cX2_addTeam 107 = .ok (.putfield 32, 3) := by decide +kernel
theorem dX2_addTeam_110 : decode cX2_addTeam 110 = .ok (.iload 4, 2) := by decide +kernel
theorem dX2_addTeam_112 : decode cX2_addTeam 112 = .ok (.ireturn, 1) := by decide +kernel
theorem dX2_setCrew_0 : decode cX2_setCrew 0 = .ok (.aload_n 0, 1) := by decide +kernel
theorem dX2_setCrew_1 : decode cX2_setCrew 1 = .ok (.iload_n 1, 1) := by decide +kernel
theorem dX2_setCrew_2 : decode cX2_setCrew 2 = .ok (.invokevirtual 79, 3) := by decide +kernel
theorem dX2_setCrew_5 : decode cX2_setCrew 5 = .ok (.astore 6, 2) := by decide +kernel
theorem dX2_setCrew_7 : decode cX2_setCrew 7 = .ok (.iload_n 2, 1) := by decide +kernel
theorem dX2_setCrew_8 : decode cX2_setCrew 8 = .ok (.iconst 1, 1) := by decide +kernel
theorem dX2_setCrew_9 : decode cX2_setCrew 9 = .ok (.bipush 9, 2) := by decide +kernel
theorem dX2_setCrew_11 : decode cX2_setCrew 11 = .ok (.invokestatic 39, 3) := by decide +kernel
theorem dX2_setCrew_14 : decode cX2_setCrew 14 = .ok (.ifCond .ne 36, 3) := by decide +kernel
theorem dX2_setCrew_17 : decode cX2_setCrew 17 = .ok (.iload_n 3, 1) := by decide +kernel
theorem dX2_setCrew_18 : decode cX2_setCrew 18 = .ok (.iconst 1, 1) := by decide +kernel
theorem dX2_setCrew_19 : decode cX2_setCrew 19 = .ok (.bipush 20, 2) := by decide +kernel
theorem dX2_setCrew_21 : decode cX2_setCrew 21 = .ok (.invokestatic 39, 3) := by decide +kernel
theorem dX2_setCrew_24 : decode cX2_setCrew 24 = .ok (.ifCond .ne 26, 3) := by decide +kernel
theorem dX2_setCrew_27 : decode cX2_setCrew 27 = .ok (.iload 4, 2) := by decide +kernel
theorem dX2_setCrew_29 : decode cX2_setCrew 29 = .ok (.iconst 1, 1) := by decide +kernel
theorem dX2_setCrew_30 : decode cX2_setCrew 30 = .ok (.iconst 3, 1) := by decide +kernel
theorem dX2_setCrew_31 : decode cX2_setCrew 31 = .ok (.invokestatic 39, 3) := by decide +kernel
theorem dX2_setCrew_34 : decode cX2_setCrew 34 = .ok (.ifCond .ne 16, 3) := by decide +kernel
theorem dX2_setCrew_37 : decode cX2_setCrew 37 = .ok (.iload 5, 2) := by decide +kernel
theorem dX2_setCrew_39 : decode cX2_setCrew 39 = .ok (.bipush 20, 2) := by decide +kernel
theorem dX2_setCrew_41 : decode cX2_setCrew 41 = .ok (.sipush 400, 3) := by decide +kernel
theorem dX2_setCrew_44 : decode cX2_setCrew 44 = .ok (.invokestatic 39, 3) := by decide +kernel
theorem dX2_setCrew_47 : decode cX2_setCrew 47 = .ok (.ifCond .eq 13, 3) := by decide +kernel
theorem dX2_setCrew_50 : decode cX2_setCrew 50 = .ok (.new 43, 3) := by decide +kernel
theorem dX2_setCrew_53 : decode cX2_setCrew 53 = .ok (.dup, 1) := by decide +kernel
theorem dX2_setCrew_54 : decode cX2_setCrew 54 = .ok (.ldc 83, 2) := by decide +kernel
theorem dX2_setCrew_56 : decode cX2_setCrew 56 = .ok (.invokespecial 47, 3) := by decide +kernel
theorem dX2_setCrew_59 : decode cX2_setCrew 59 = .ok (.athrow, 1) := by decide +kernel
theorem dX2_setCrew_60 : decode cX2_setCrew 60 = .ok (.aload_n 0, 1) := by decide +kernel
theorem dX2_setCrew_61 : decode cX2_setCrew 61 = .ok (.invokevirtual 50, 3) := by decide +kernel
theorem dX2_setCrew_64 : decode cX2_setCrew 64 = .ok (.aload 6, 2) := by decide +kernel
theorem dX2_setCrew_66 : decode cX2_setCrew 66 = .ok (.getfield 85, 3) := by decide +kernel
theorem dX2_setCrew_69 : decode cX2_setCrew 69 = .ok (.istore 7, 2) := by decide +kernel
theorem dX2_setCrew_71 : decode cX2_setCrew 71 = .ok (.aload 6, 2) := by decide +kernel
theorem dX2_setCrew_73 : decode cX2_setCrew 73 = .ok (.iload_n 2, 1) := by decide +kernel
theorem dX2_setCrew_74 : decode cX2_setCrew 74 = .ok (.putfield 85, 3) := by decide +kernel
theorem dX2_setCrew_77 : decode cX2_setCrew 77 = .ok (.aload 6, 2) := by decide +kernel
theorem dX2_setCrew_79 : decode cX2_setCrew 79 = .ok (.iload_n 3, 1) := by decide +kernel
theorem dX2_setCrew_80 : decode cX2_setCrew 80 = .ok (.putfield 88, 3) := by decide +kernel
theorem dX2_setCrew_83 : decode cX2_setCrew 83 = .ok (.aload 6, 2) := by decide +kernel
theorem dX2_setCrew_85 : decode cX2_setCrew 85 = .ok (.iload 4, 2) := by decide +kernel
theorem dX2_setCrew_87 : decode cX2_setCrew 87 = .ok (.putfield 91, 3) := by decide +kernel
theorem dX2_setCrew_90 : decode cX2_setCrew 90 = .ok (.aload 6, 2) := by decide +kernel
theorem dX2_setCrew_92 : decode cX2_setCrew 92 = .ok (.iload 5, 2) := by decide +kernel
theorem dX2_setCrew_94 : decode cX2_setCrew 94 = .ok (.putfield 94, 3) := by decide +kernel
theorem dX2_setCrew_97 : decode cX2_setCrew 97 = .ok (.aload 6, 2) := by decide +kernel
theorem dX2_setCrew_99 : decode cX2_setCrew 99 = .ok (.iload 5, 2) := by decide +kernel
theorem dX2_setCrew_101 : decode cX2_setCrew 101 = .ok (.putfield 97, 3) := by decide +kernel
theorem dX2_setCrew_104 : decode cX2_setCrew 104 = .ok (.iload 7, 2) := by decide +kernel
theorem dX2_setCrew_106 : decode cX2_setCrew 106 = .ok (.ireturn, 1) := by decide +kernel
theorem dX2_order_0 : decode cX2_order 0 = .ok (.aload_n 0, 1) := by decide +kernel
theorem dX2_order_1 : decode cX2_order 1 = .ok (.iload_n 1, 1) := by decide +kernel
theorem dX2_order_2 : decode cX2_order 2 = .ok (.invokevirtual 79, 3) := by decide +kernel
theorem dX2_order_5 : decode cX2_order 5 = .ok (.astore 4, 2) := by decide +kernel
theorem dX2_order_7 : decode cX2_order 7 = .ok (.iload_n 2, 1) := by decide +kernel
theorem dX2_order_8 : decode cX2_order 8 = .ok (.iconst 0, 1) := by decide +kernel
theorem dX2_order_9 : decode cX2_order 9 = .ok (.bipush 10, 2) := by decide +kernel
theorem dX2_order_11 : decode cX2_order 11 = .ok (.invokestatic 39, 3) := by decide +kernel
theorem dX2_order_14 : decode cX2_order 14 = .ok (.ifCond .ne 13, 3) := by decide +kernel
theorem dX2_order_17 : decode cX2_order 17 = .ok (.iload_n 3, 1) := by decide +kernel
theorem dX2_order_18 : decode cX2_order 18 = .ok (.iconst 1, 1) := by decide +kernel
theorem dX2_order_19 : decode cX2_order 19 = .ok (.bipush 40, 2) := by decide +kernel
theorem dX2_order_21 : decode cX2_order 21 = .ok (.invokestatic 39, 3) := by decide +kernel
theorem dX2_order_24 : decode cX2_order 24 = .ok (.ifCond .eq 13, 3) := by decide +kernel
theorem dX2_order_27 : decode cX2_order 27 = .ok (.new 43, 3) := by decide +kernel
theorem dX2_order_30 : decode cX2_order 30 = .ok (.dup, 1) := by decide +kernel
theorem dX2_order_31 : decode cX2_order 31 = .ok (.ldc 100, 2) := by decide +kernel
theorem dX2_order_33 : decode cX2_order 33 = .ok (.invokespecial 47, 3) := by decide +kernel
theorem dX2_order_36 : decode cX2_order 36 = .ok (.athrow, 1) := by decide +kernel
theorem dX2_order_37 : decode cX2_order 37 = .ok (.aload 4, 2) := by decide +kernel
theorem dX2_order_39 : decode cX2_order 39 = .ok (.getfield 102, 3) := by decide +kernel
theorem dX2_order_42 : decode cX2_order 42 = .ok (.istore 5, 2) := by decide +kernel
theorem dX2_order_44 : decode cX2_order 44 = .ok (.aload 4, 2) := by decide +kernel
theorem dX2_order_46 : decode cX2_order 46 = .ok (.iload_n 2, 1) := by decide +kernel
theorem dX2_order_47 : decode cX2_order 47 = .ok (.putfield 102, 3) := by decide +kernel
theorem dX2_order_50 : decode cX2_order 50 = .ok (.aload 4, 2) := by decide +kernel
theorem dX2_order_52 : decode cX2_order 52 = .ok (.iload_n 3, 1) := by decide +kernel
theorem dX2_order_53 : decode cX2_order 53 = .ok (.putfield 105, 3) := by decide +kernel
theorem dX2_order_56 : decode cX2_order 56 = .ok (.iload 5, 2) := by decide +kernel
theorem dX2_order_58 : decode cX2_order 58 = .ok (.ireturn, 1) := by decide +kernel
theorem dX2_run_0 : decode cX2_run 0 = .ok (.iload_n 1, 1) := by decide +kernel
theorem dX2_run_1 : decode cX2_run 1 = .ok (.iconst 1, 1) := by decide +kernel
theorem dX2_run_2 : decode cX2_run 2 = .ok (.sipush 500, 3) := by decide +kernel
theorem dX2_run_5 : decode cX2_run 5 = .ok (.invokestatic 39, 3) := by decide +kernel
theorem dX2_run_8 : decode cX2_run 8 = .ok (.ifCond .eq 13, 3) := by decide +kernel
theorem dX2_run_11 : decode cX2_run 11 = .ok (.new 43, 3) := by decide +kernel
theorem dX2_run_14 : decode cX2_run 14 = .ok (.dup, 1) := by decide +kernel
theorem dX2_run_15 : decode cX2_run 15 = .ok (.ldc 108, 2) := by decide +kernel
theorem dX2_run_17 : decode cX2_run 17 = .ok (.invokespecial 47, 3) := by decide +kernel
theorem dX2_run_20 : decode cX2_run 20 = .ok (.athrow, 1) := by decide +kernel
theorem dX2_run_21 : decode cX2_run 21 = .ok (.aload_n 0, 1) := by decide +kernel
theorem dX2_run_22 : decode cX2_run 22 = .ok (.getfield 32, 3) := by decide +kernel
theorem dX2_run_25 : decode cX2_run 25 = .ok (.ifCond .ne 13, 3) := by decide +kernel
theorem dX2_run_28 : decode cX2_run 28 = .ok (.new 61, 3) := by decide +kernel
theorem dX2_run_31 : decode cX2_run 31 = .ok (.dup, 1) := by decide +kernel
theorem dX2_run_32 : decode cX2_run 32 = .ok (.ldc 110, 2) := by decide +kernel
theorem dX2_run_34 : decode cX2_run 34 = .ok (.invokespecial 65, 3) := by decide +kernel
theorem dX2_run_37 : decode cX2_run 37 = .ok (.athrow, 1) := by decide +kernel
theorem dX2_run_38 : decode cX2_run 38 = .ok (.iconst 0, 1) := by decide +kernel
theorem dX2_run_39 : decode cX2_run 39 = .ok (.istore_n 2, 1) := by decide +kernel
theorem dX2_run_40 : decode cX2_run 40 = .ok (.iload_n 2, 1) := by decide +kernel
theorem dX2_run_41 : decode cX2_run 41 = .ok (.iload_n 1, 1) := by decide +kernel
theorem dX2_run_42 : decode cX2_run 42 = .ok (.if_icmp .ge 13, 3) := by decide +kernel
theorem dX2_run_45 : decode cX2_run 45 = .ok (.aload_n 0, 1) := by decide +kernel
theorem dX2_run_46 : decode cX2_run 46 = .ok (.invokevirtual 112, 3) := by decide +kernel
theorem dX2_run_49 : decode cX2_run 49 = .ok (.iinc 2 1, 3) := by decide +kernel
theorem dX2_run_52 : decode cX2_run 52 = .ok (.goto (-12), 3) := by decide +kernel
theorem dX2_run_55 : decode cX2_run 55 = .ok (.aload_n 0, 1) := by decide +kernel
theorem dX2_run_56 : decode cX2_run 56 = .ok (.invokevirtual 115, 3) := by decide +kernel
theorem dX2_run_59 : decode cX2_run 59 = .ok (.ireturn, 1) := by decide +kernel
theorem dX2_restart_0 : decode cX2_restart 0 = .ok (.aload_n 0, 1) := by decide +kernel
theorem dX2_restart_1 : decode cX2_restart 1 = .ok (.iconst 0, 1) := by decide +kernel
theorem dX2_restart_2 : decode cX2_restart 2 = .ok (.putfield 36, 3) := by decide +kernel
theorem dX2_restart_5 : decode cX2_restart 5 = .ok (.aload_n 0, 1) := by decide +kernel
theorem dX2_restart_6 : decode cX2_restart 6 = .ok (.getfield 18, 3) := by decide +kernel
theorem dX2_restart_9 : decode cX2_restart 9 = .ok (.astore_n 1, 1) := by decide +kernel
theorem dX2_restart_10 : decode cX2_restart 10 = .ok (.aload_n 1, 1) := by decide +kernel
theorem dX2_restart_11 : decode cX2_restart 11 = .ok (.arraylength, 1) := by decide +kernel
theorem dX2_restart_12 : decode cX2_restart 12 = .ok (.istore_n 2, 1) := by decide +kernel
theorem dX2_restart_13 : decode cX2_restart 13 = .ok (.iconst 0, 1) := by decide +kernel
theorem dX2_restart_14 : decode cX2_restart 14 = .ok (.istore_n 3, 1) := by decide +kernel
theorem dX2_restart_15 : decode cX2_restart 15 = .ok (.iload_n 3, 1) := by decide +kernel
theorem dX2_restart_16 : decode cX2_restart 16 = .ok (.iload_n 2, 1) := by decide +kernel
theorem dX2_restart_17 : decode cX2_restart 17 = .ok (.if_icmp .ge 24, 3) := by decide +kernel
theorem dX2_restart_20 : decode cX2_restart 20 = .ok (.aload_n 1, 1) := by decide +kernel
theorem dX2_restart_21 : decode cX2_restart 21 = .ok (.iload_n 3, 1) := by decide +kernel
theorem dX2_restart_22 : decode cX2_restart 22 = .ok (.aaload, 1) := by decide +kernel
theorem dX2_restart_23 : decode cX2_restart 23 = .ok (.astore 4, 2) := by decide +kernel
theorem dX2_restart_25 : decode cX2_restart 25 = .ok (.aload 4, 2) := by decide +kernel
theorem dX2_restart_27 : decode cX2_restart 27 = .ok (.ifnull 8, 3) := by decide +kernel
theorem dX2_restart_30 : decode cX2_restart 30 = .ok (.aload 4, 2) := by decide +kernel
theorem dX2_restart_32 : decode cX2_restart 32 = .ok (.invokevirtual 119, 3) := by decide +kernel
theorem dX2_restart_35 : decode cX2_restart 35 = .ok (.iinc 3 1, 3) := by decide +kernel
theorem dX2_restart_38 : decode cX2_restart 38 = .ok (.goto (-23), 3) := by decide +kernel
theorem dX2_restart_41 : decode cX2_restart 41 = .ok (.aload_n 0, 1) := by decide +kernel
theorem dX2_restart_42 : decode cX2_restart 42 = .ok (.getfield 32, 3) := by decide +kernel
theorem dX2_restart_45 : decode cX2_restart 45 = .ok (.ireturn, 1) := by decide +kernel
theorem dX2_count_0 : decode cX2_count 0 = .ok (.iload_n 1, 1) := by decide +kernel
theorem dX2_count_1 : decode cX2_count 1 = .ok (.iconst 0, 1) := by decide +kernel
theorem dX2_count_2 : decode cX2_count 2 = .ok (.iconst 5, 1) := by decide +kernel
theorem dX2_count_3 : decode cX2_count 3 = .ok (.invokestatic 39, 3) := by decide +kernel
theorem dX2_count_6 : decode cX2_count 6 = .ok (.ifCond .eq 13, 3) := by decide +kernel
theorem dX2_count_9 : decode cX2_count 9 = .ok (.new 122, 3) := by decide +kernel
theorem dX2_count_12 : decode cX2_count 12 = .ok (.dup, 1) := by decide +kernel
theorem dX2_count_13 : decode cX2_count 13 = .ok (.ldc 124, 2) := by decide +kernel
theorem dX2_count_15 : decode cX2_count 15 = .ok (.invokespecial 126, 3) := by decide +kernel
theorem dX2_count_18 : decode cX2_count 18 = .ok (.athrow, 1) := by decide +kernel
theorem dX2_count_19 : decode cX2_count 19 = .ok (.aload_n 0, 1) := by decide +kernel
theorem dX2_count_20 : decode cX2_count 20 = .ok (.iload_n 1, 1) := by decide +kernel
theorem dX2_count_21 : decode cX2_count 21 = .ok (.invokevirtual 127, 3) := by decide +kernel
theorem dX2_count_24 : decode cX2_count 24 = .ok (.ireturn, 1) := by decide +kernel
theorem dX2_team_0 : decode cX2_team 0 = .ok (.aload_n 0, 1) := by decide +kernel
theorem dX2_team_1 : decode cX2_team 1 = .ok (.iload_n 1, 1) := by decide +kernel
theorem dX2_team_2 : decode cX2_team 2 = .ok (.invokevirtual 79, 3) := by decide +kernel
theorem dX2_team_5 : decode cX2_team 5 = .ok (.astore_n 3, 1) := by decide +kernel
theorem dX2_team_6 : decode cX2_team 6 = .ok (.iload_n 2, 1) := by decide +kernel
theorem dX2_team_7 : decode cX2_team 7 = .ok (.iconst 0, 1) := by decide +kernel
theorem dX2_team_8 : decode cX2_team 8 = .ok (.bipush 11, 2) := by decide +kernel
theorem dX2_team_10 : decode cX2_team 10 = .ok (.invokestatic 39, 3) := by decide +kernel
theorem dX2_team_13 : decode cX2_team 13 = .ok (.ifCond .eq 13, 3) := by decide +kernel
theorem dX2_team_16 : decode cX2_team 16 = .ok (.new 122, 3) := by decide +kernel
theorem dX2_team_19 : decode cX2_team 19 = .ok (.dup, 1) := by decide +kernel
theorem dX2_team_20 : decode cX2_team 20 = .ok (.ldc 131, 2) := by decide +kernel
theorem dX2_team_22 : decode cX2_team 22 = .ok (.invokespecial 126, 3) := by decide +kernel
theorem dX2_team_25 : decode cX2_team 25 = .ok (.athrow, 1) := by decide +kernel
theorem dX2_team_26 : decode cX2_team 26 = .ok (.aload_n 3, 1) := by decide +kernel
theorem dX2_team_27 : decode cX2_team 27 = .ok (.iload_n 2, 1) := by decide +kernel
theorem dX2_team_28 : decode cX2_team 28 = .ok (.invokevirtual 133, 3) := by decide +kernel
theorem dX2_team_31 : decode cX2_team 31 = .ok (.ireturn, 1) := by decide +kernel
theorem dX2_roller_0 : decode cX2_roller 0 = .ok (.aload_n 0, 1) := by decide +kernel
theorem dX2_roller_1 : decode cX2_roller 1 = .ok (.iload_n 1, 1) := by decide +kernel
theorem dX2_roller_2 : decode cX2_roller 2 = .ok (.invokevirtual 79, 3) := by decide +kernel
theorem dX2_roller_5 : decode cX2_roller 5 = .ok (.astore_n 3, 1) := by decide +kernel
theorem dX2_roller_6 : decode cX2_roller 6 = .ok (.iload_n 2, 1) := by decide +kernel
theorem dX2_roller_7 : decode cX2_roller 7 = .ok (.ifCond .lt 20, 3) := by decide +kernel
theorem dX2_roller_10 : decode cX2_roller 10 = .ok (.iload_n 2, 1) := by decide +kernel
theorem dX2_roller_11 : decode cX2_roller 11 = .ok (.aload_n 3, 1) := by decide +kernel
theorem dX2_roller_12 : decode cX2_roller 12 = .ok (.getfield 136, 3) := by decide +kernel
theorem dX2_roller_15 : decode cX2_roller 15 = .ok (.if_icmp .ge 12, 3) := by decide +kernel
theorem dX2_roller_18 : decode cX2_roller 18 = .ok (.iload_n 2, 1) := by decide +kernel
theorem dX2_roller_19 : decode cX2_roller 19 = .ok (.aload_n 3, 1) := by decide +kernel
theorem dX2_roller_20 : decode cX2_roller 20 = .ok (.getfield 139, 3) := by decide +kernel
theorem dX2_roller_23 : decode cX2_roller 23 = .ok (.arraylength, 1) := by decide +kernel
theorem dX2_roller_24 : decode cX2_roller 24 = .ok (.if_icmp .lt 13, 3) := by decide +kernel
theorem dX2_roller_27 : decode cX2_roller 27 = .ok (.new 122, 3) := by decide +kernel
theorem dX2_roller_30 : decode cX2_roller 30 = .ok (.dup, 1) := by decide +kernel
theorem dX2_roller_31 : decode cX2_roller 31 = .ok (.ldc 143, 2) := by decide +kernel
theorem dX2_roller_33 : decode cX2_roller 33 = .ok (.invokespecial 126, 3) := by decide +kernel
theorem dX2_roller_36 : decode cX2_roller 36 = .ok (.athrow, 1) := by decide +kernel
theorem dX2_roller_37 : decode cX2_roller 37 = .ok (.aload_n 3, 1) := by decide +kernel
theorem dX2_roller_38 : decode cX2_roller 38 = .ok (.getfield 139, 3) := by decide +kernel
theorem dX2_roller_41 : decode cX2_roller 41 = .ok (.iload_n 2, 1) := by decide +kernel
theorem dX2_roller_42 : decode cX2_roller 42 = .ok (.iaload, 1) := by decide +kernel
theorem dX2_roller_43 : decode cX2_roller 43 = .ok (.istore 4, 2) := by decide +kernel
theorem dX2_roller_45 : decode cX2_roller 45 = .ok (.iload 4, 2) := by decide +kernel
theorem dX2_roller_47 : decode cX2_roller 47 = .ok (.sipush (-9999), 3) := by decide +kernel
theorem dX2_roller_50 : decode cX2_roller 50 = .ok (.if_icmp .ne 13, 3) := by decide +kernel
theorem dX2_roller_53 : decode cX2_roller 53 = .ok (.new 61, 3) := by decide +kernel
theorem dX2_roller_56 : decode cX2_roller 56 = .ok (.dup, 1) := by decide +kernel
theorem dX2_roller_57 : decode cX2_roller 57 = .ok (.ldc 145, 2) := by decide +kernel
theorem dX2_roller_59 : decode cX2_roller 59 = .ok (.invokespecial 65, 3) := by decide +kernel
theorem dX2_roller_62 : decode cX2_roller 62 = .ok (.athrow, 1) := by decide +kernel
theorem dX2_roller_63 : decode cX2_roller 63 = .ok (.iload 4, 2) := by decide +kernel
theorem dX2_roller_65 : decode cX2_roller 65 = .ok (.ireturn, 1) := by decide +kernel
theorem dX2_next_0 : decode cX2_next 0 = .ok (.aload_n 0, 1) := by decide +kernel
theorem dX2_next_1 : decode cX2_next 1 = .ok (.iload_n 1, 1) := by decide +kernel
theorem dX2_next_2 : decode cX2_next 2 = .ok (.invokevirtual 79, 3) := by decide +kernel
theorem dX2_next_5 : decode cX2_next 5 = .ok (.astore_n 3, 1) := by decide +kernel
theorem dX2_next_6 : decode cX2_next 6 = .ok (.iload_n 2, 1) := by decide +kernel
theorem dX2_next_7 : decode cX2_next 7 = .ok (.iconst 0, 1) := by decide +kernel
theorem dX2_next_8 : decode cX2_next 8 = .ok (.iconst 2, 1) := by decide +kernel
theorem dX2_next_9 : decode cX2_next 9 = .ok (.invokestatic 39, 3) := by decide +kernel
theorem dX2_next_12 : decode cX2_next 12 = .ok (.ifCond .eq 13, 3) := by decide +kernel
theorem dX2_next_15 : decode cX2_next 15 = .ok (.new 122, 3) := by decide +kernel
theorem dX2_next_18 : decode cX2_next 18 = .ok (.dup, 1) := by decide +kernel
theorem dX2_next_19 : decode cX2_next 19 = .ok (.ldc 147, 2) := by decide +kernel
theorem dX2_next_21 : decode cX2_next 21 = .ok (.invokespecial 126, 3) := by decide +kernel
theorem dX2_next_24 : decode cX2_next 24 = .ok (.athrow, 1) := by decide +kernel
theorem dX2_next_25 : decode cX2_next 25 = .ok (.iload_n 2, 1) := by decide +kernel
theorem dX2_next_26 : decode cX2_next 26 = .ok (.ifCond .ne 8, 3) := by decide +kernel
theorem dX2_next_29 : decode cX2_next 29 = .ok (.aload_n 3, 1) := by decide +kernel
theorem dX2_next_30 : decode cX2_next 30 = .ok (.invokevirtual 149, 3) := by decide +kernel
theorem dX2_next_33 : decode cX2_next 33 = .ok (.ireturn, 1) := by decide +kernel
theorem dX2_next_34 : decode cX2_next 34 = .ok (.iload_n 2, 1) := by decide +kernel
theorem dX2_next_35 : decode cX2_next 35 = .ok (.iconst 1, 1) := by decide +kernel
theorem dX2_next_36 : decode cX2_next 36 = .ok (.if_icmp .ne 14, 3) := by decide +kernel
theorem dX2_next_39 : decode cX2_next 39 = .ok (.aload_n 3, 1) := by decide +kernel
theorem dX2_next_40 : decode cX2_next 40 = .ok (.aload_n 0, 1) := by decide +kernel
theorem dX2_next_41 : decode cX2_next 41 = .ok (.getfield 10, 3) := by decide +kernel
theorem dX2_next_44 : decode cX2_next 44 = .ok (.invokevirtual 152, 3) := by decide +kernel
theorem dX2_next_47 : decode cX2_next 47 = .ok (.goto 19, 3) := by decide +kernel
theorem dX2_next_50 : decode cX2_next 50 = .ok (.aload_n 3, 1) := by decide +kernel
theorem dX2_next_51 : decode cX2_next 51 = .ok (.aload_n 3, 1) := by decide +kernel
theorem dX2_next_52 : decode cX2_next 52 = .ok (.invokevirtual 149, 3) := by decide +kernel
theorem dX2_next_55 : decode cX2_next 55 = .ok (.aload_n 3, 1) := by decide +kernel
theorem dX2_next_56 : decode cX2_next 56 = .ok (.aload_n 0, 1) := by decide +kernel
theorem dX2_next_57 : decode cX2_next 57 = .ok (.getfield 10, 3) := by decide +kernel
theorem dX2_next_60 : decode cX2_next 60 = .ok (.invokevirtual 152, 3) := by decide +kernel
theorem dX2_next_63 : decode cX2_next 63 = .ok (.invokevirtual 156, 3) := by decide +kernel
theorem dX2_next_66 : decode cX2_next 66 = .ok (.ireturn, 1) := by decide +kernel
theorem dX2_ranked_0 : decode cX2_ranked 0 = .ok (.iload_n 1, 1) := by decide +kernel
theorem dX2_ranked_1 : decode cX2_ranked 1 = .ok (.ifCond .lt 11, 3) := by decide +kernel
theorem dX2_ranked_4 : decode cX2_ranked 4 = .ok (.iload_n 1, 1) := by decide +kernel
theorem dX2_ranked_5 : decode cX2_ranked 5 = .ok (.aload_n 0, 1) := by decide +kernel
theorem dX2_ranked_6 : decode cX2_ranked 6 = .ok (.getfield 32, 3) := by decide +kernel
theorem dX2_ranked_9 : decode cX2_ranked 9 = .ok (.if_icmp .lt 13, 3) := by decide +kernel
theorem dX2_ranked_12 : decode cX2_ranked 12 = .ok (.new 122, 3) := by decide +kernel
theorem dX2_ranked_15 : decode cX2_ranked 15 = .ok (.dup, 1) := by decide +kernel
theorem dX2_ranked_16 : decode cX2_ranked 16 = .ok (.ldc 160, 2) := by decide +kernel
theorem dX2_ranked_18 : decode cX2_ranked 18 = .ok (.invokespecial 126, 3) := by decide +kernel
theorem dX2_ranked_21 : decode cX2_ranked 21 = .ok (.athrow, 1) := by decide +kernel
theorem dX2_ranked_22 : decode cX2_ranked 22 = .ok (.aload_n 0, 1) := by decide +kernel
theorem dX2_ranked_23 : decode cX2_ranked 23 = .ok (.iload_n 1, 1) := by decide +kernel
theorem dX2_ranked_24 : decode cX2_ranked 24 = .ok (.invokevirtual 162, 3) := by decide +kernel
theorem dX2_ranked_27 : decode cX2_ranked 27 = .ok (.ireturn, 1) := by decide +kernel
theorem dX2_foresee_0 : decode cX2_foresee 0 = .ok (.aload_n 0, 1) := by decide +kernel
theorem dX2_foresee_1 : decode cX2_foresee 1 = .ok (.iload_n 1, 1) := by decide +kernel
theorem dX2_foresee_2 : decode cX2_foresee 2 = .ok (.invokevirtual 79, 3) := by decide +kernel
theorem dX2_foresee_5 : decode cX2_foresee 5 = .ok (.astore 4, 2) := by decide +kernel
theorem dX2_foresee_7 : decode cX2_foresee 7 = .ok (.iload_n 3, 1) := by decide +kernel
theorem dX2_foresee_8 : decode cX2_foresee 8 = .ok (.iconst 0, 1) := by decide +kernel
theorem dX2_foresee_9 : decode cX2_foresee 9 = .ok (.iconst 2, 1) := by decide +kernel
theorem dX2_foresee_10 : decode cX2_foresee 10 = .ok (.invokestatic 39, 3) := by decide +kernel
theorem dX2_foresee_13 : decode cX2_foresee 13 = .ok (.ifCond .eq 13, 3) := by decide +kernel
theorem dX2_foresee_16 : decode cX2_foresee 16 = .ok (.new 122, 3) := by decide +kernel
theorem dX2_foresee_19 : decode cX2_foresee 19 = .ok (.dup, 1) := by decide +kernel
theorem dX2_foresee_20 : decode cX2_foresee 20 = .ok (.ldc 147, 2) := by decide +kernel
theorem dX2_foresee_22 : decode cX2_foresee 22 = .ok (.invokespecial 126, 3) := by decide +kernel
theorem dX2_foresee_25 : decode cX2_foresee 25 = .ok (.athrow, 1) := by decide +kernel
theorem dX2_foresee_26 : decode cX2_foresee 26 = .ok (.iload_n 2, 1) := by decide +kernel
theorem dX2_foresee_27 : decode cX2_foresee 27 = .ok (.iconst 1, 1) := by decide +kernel
theorem dX2_foresee_28 : decode cX2_foresee 28 = .ok (.sipush 400, 3) := by decide +kernel
theorem dX2_foresee_31 : decode cX2_foresee 31 = .ok (.invokestatic 39, 3) := by decide +kernel
theorem dX2_foresee_34 : decode cX2_foresee 34 = .ok (.ifCond .eq 13, 3) := by decide +kernel
theorem dX2_foresee_37 : decode cX2_foresee 37 = .ok (.new 43, 3) := by decide +kernel
theorem dX2_foresee_40 : decode cX2_foresee 40 = .ok (.dup, 1) := by decide +kernel
theorem dX2_foresee_41 : decode cX2_foresee 41 = .ok (.ldc 165, 2) := by decide +kernel
theorem dX2_foresee_43 : decode cX2_foresee 43 = .ok (.invokespecial 47, 3) := by decide +kernel
theorem dX2_foresee_46 : decode cX2_foresee 46 = .ok (.athrow, 1) := by decide +kernel
theorem dX2_foresee_47 : decode cX2_foresee 47 = .ok (.aload_n 0, 1) := by decide +kernel
theorem dX2_foresee_48 : decode cX2_foresee 48 = .ok (.aload_n 0, 1) := by decide +kernel
theorem dX2_foresee_49 : decode cX2_foresee 49 = .ok (.getfield 25, 3) := by decide +kernel
theorem dX2_foresee_52 : decode cX2_foresee 52 = .ok (.aload 4, 2) := by decide +kernel
theorem dX2_foresee_54 : decode cX2_foresee 54 = .ok (.aload 4, 2) := by decide +kernel
theorem dX2_foresee_56 : decode cX2_foresee 56 = .ok (.getfield 102, 3) := by decide +kernel
theorem dX2_foresee_59 : decode cX2_foresee 59 = .ok (.iload_n 2, 1) := by decide +kernel
theorem dX2_foresee_60 : decode cX2_foresee 60 = .ok (.invokevirtual 167, 3) := by decide +kernel
theorem dX2_foresee_63 : decode cX2_foresee 63 = .ok (.iload_n 3, 1) := by decide +kernel
theorem dX2_foresee_64 : decode cX2_foresee 64 = .ok (.ifCond .ne 11, 3) := by decide +kernel
theorem dX2_foresee_67 : decode cX2_foresee 67 = .ok (.aload_n 0, 1) := by decide +kernel
theorem dX2_foresee_68 : decode cX2_foresee 68 = .ok (.getfield 25, 3) := by decide +kernel
theorem dX2_foresee_71 : decode cX2_foresee 71 = .ok (.getfield 171, 3) := by decide +kernel
theorem dX2_foresee_74 : decode cX2_foresee 74 = .ok (.ireturn, 1) := by decide +kernel
theorem dX2_foresee_75 : decode cX2_foresee 75 = .ok (.iload_n 3, 1) := by decide +kernel
theorem dX2_foresee_76 : decode cX2_foresee 76 = .ok (.iconst 1, 1) := by decide +kernel
theorem dX2_foresee_77 : decode cX2_foresee 77 = .ok (.if_icmp .ne 11, 3) := by decide +kernel
theorem dX2_foresee_80 : decode cX2_foresee 80 = .ok (.aload_n 0, 1) := by decide +kernel
theorem dX2_foresee_81 : decode cX2_foresee 81 = .ok (.iload_n 2, 1) := by decide +kernel
theorem dX2_foresee_82 : decode cX2_foresee 82 = .ok (.invokevirtual 174, 3) := by decide +kernel
theorem dX2_foresee_85 : decode cX2_foresee 85 = .ok (.goto 10, 3) := by decide +kernel
theorem dX2_foresee_88 : decode cX2_foresee 88 = .ok (.aload_n 0, 1) := by decide +kernel
theorem dX2_foresee_89 : decode cX2_foresee 89 = .ok (.getfield 25, 3) := by decide +kernel
theorem dX2_foresee_92 : decode cX2_foresee 92 = .ok (.getfield 177, 3) := by decide +kernel
theorem dX2_foresee_95 : decode cX2_foresee 95 = .ok (.ireturn, 1) := by decide +kernel
theorem dX2_mean_0 : decode cX2_mean 0 = .ok (.aload_n 0, 1) := by decide +kernel
theorem dX2_mean_1 : decode cX2_mean 1 = .ok (.getfield 32, 3) := by decide +kernel
theorem dX2_mean_4 : decode cX2_mean 4 = .ok (.ifCond .gt 5, 3) := by decide +kernel
theorem dX2_mean_7 : decode cX2_mean 7 = .ok (.dconst 0, 1) := by decide +kernel
theorem dX2_mean_8 : decode cX2_mean 8 = .ok (.dreturn, 1) := by decide +kernel
theorem dX2_mean_9 : decode cX2_mean 9 = .ok (.iconst 0, 1) := by decide +kernel
theorem dX2_mean_10 : decode cX2_mean 10 = .ok (.istore_n 1, 1) := by decide +kernel
theorem dX2_mean_11 : decode cX2_mean 11 = .ok (.aload_n 0, 1) := by decide +kernel
theorem dX2_mean_12 : decode cX2_mean 12 = .ok (.getfield 18, 3) := by decide +kernel
theorem dX2_mean_15 : decode cX2_mean 15 = .ok (.astore_n 2, 1) := by decide +kernel
theorem dX2_mean_16 : decode cX2_mean 16 = .ok (.aload_n 2, 1) := by decide +kernel
theorem dX2_mean_17 : decode cX2_mean 17 = .ok (.arraylength, 1) := by decide +kernel
theorem dX2_mean_18 : decode cX2_mean 18 = .ok (.istore_n 3, 1) := by decide +kernel
theorem dX2_mean_19 : decode cX2_mean 19 = .ok (.iconst 0, 1) := by decide +kernel
theorem dX2_mean_20 : decode cX2_mean 20 = .ok (.istore 4, 2) := by decide +kernel
theorem dX2_mean_22 : decode cX2_mean 22 = .ok (.iload 4, 2) := by decide +kernel
theorem dX2_mean_24 : decode cX2_mean 24 = .ok (.iload_n 3, 1) := by decide +kernel
theorem dX2_mean_25 : decode cX2_mean 25 = .ok (.if_icmp .ge 28, 3) := by decide +kernel
theorem dX2_mean_28 : decode cX2_mean 28 = .ok (.aload_n 2, 1) := by decide +kernel
theorem dX2_mean_29 : decode cX2_mean 29 = .ok (.iload 4, 2) := by decide +kernel
theorem dX2_mean_31 : decode cX2_mean 31 = .ok (.aaload, 1) := by decide +kernel
theorem dX2_mean_32 : decode cX2_mean 32 = .ok (.astore 5, 2) := by decide +kernel
theorem dX2_mean_34 : decode cX2_mean 34 = .ok (.aload 5, 2) := by decide +kernel
theorem dX2_mean_36 : decode cX2_mean 36 = .ok (.ifnull 11, 3) := by decide +kernel
theorem dX2_mean_39 : decode cX2_mean 39 = .ok (.iload_n 1, 1) := by decide +kernel
theorem dX2_mean_40 : decode cX2_mean 40 = .ok (.aload 5, 2) := by decide +kernel
theorem dX2_mean_42 : decode cX2_mean 42 = .ok (.getfield 171, 3) := by decide +kernel
theorem dX2_mean_45 : decode cX2_mean 45 = .ok (.iadd, 1) := by decide +kernel
theorem dX2_mean_46 : decode cX2_mean 46 = .ok (.istore_n 1, 1) := by decide +kernel
theorem dX2_mean_47 : decode cX2_mean 47 = .ok (.iinc 4 1, 3) := by decide +kernel
theorem dX2_mean_50 : decode cX2_mean 50 = .ok (.goto (-28), 3) := by decide +kernel
theorem dX2_mean_53 : decode cX2_mean 53 = .ok (.iload_n 1, 1) := by decide +kernel
theorem dX2_mean_54 : decode cX2_mean 54 = .ok (.i2d, 1) := by decide +kernel
theorem dX2_mean_55 : decode cX2_mean 55 = .ok (.aload_n 0, 1) := by decide +kernel
theorem dX2_mean_56 : decode cX2_mean 56 = .ok (.getfield 32, 3) := by decide +kernel
theorem dX2_mean_59 : decode cX2_mean 59 = .ok (.i2d, 1) := by decide +kernel
theorem dX2_mean_60 : decode cX2_mean 60 = .ok (.ddiv, 1) := by decide +kernel
theorem dX2_mean_61 : decode cX2_mean 61 = .ok (.dreturn, 1) := by decide +kernel
theorem dX2_isOutside_0 : decode cX2_isOutside 0 = .ok (.iload_n 0, 1) := by decide +kernel
theorem dX2_isOutside_1 : decode cX2_isOutside 1 = .ok (.iload_n 1, 1) := by decide +kernel
theorem dX2_isOutside_2 : decode cX2_isOutside 2 = .ok (.if_icmp .lt 8, 3) := by decide +kernel
theorem dX2_isOutside_5 : decode cX2_isOutside 5 = .ok (.iload_n 0, 1) := by decide +kernel
theorem dX2_isOutside_6 : decode cX2_isOutside 6 = .ok (.iload_n 2, 1) := by decide +kernel
theorem dX2_isOutside_7 : decode cX2_isOutside 7 = .ok (.if_icmp .le 7, 3) := by decide +kernel
theorem dX2_isOutside_10 : decode cX2_isOutside 10 = .ok (.iconst 1, 1) := by decide +kernel
theorem dX2_isOutside_11 : decode cX2_isOutside 11 = .ok (.goto 4, 3) := by decide +kernel
theorem dX2_isOutside_14 : decode cX2_isOutside 14 = .ok (.iconst 0, 1) := by decide +kernel
theorem dX2_isOutside_15 : decode cX2_isOutside 15 = .ok (.ireturn, 1) := by decide +kernel
theorem dX2_requireStart_0 : decode cX2_requireStart 0 = .ok (.aload_n 0, 1) := by decide +kernel
theorem dX2_requireStart_1 : decode cX2_requireStart 1 = .ok (.getfield 36, 3) := by decide +kernel
theorem dX2_requireStart_4 : decode cX2_requireStart 4 = .ok (.ifCond .eq 13, 3) := by decide +kernel
theorem dX2_requireStart_7 : decode cX2_requireStart 7 = .ok (.new 61, 3) := by decide +kernel
theorem dX2_requireStart_10 : decode cX2_requireStart 10 = .ok (.dup, 1) := by decide +kernel
theorem dX2_requireStart_11 : decode cX2_requireStart 11 = .ok (.ldc 190, 2) := by decide +kernel
theorem dX2_requireStart_13 : decode cX2_requireStart 13 = .ok (.invokespecial 65, 3) := by decide +kernel
theorem dX2_requireStart_16 : decode cX2_requireStart 16 = .ok (.athrow, 1) := by decide +kernel
theorem dX2_requireStart_17 : decode cX2_requireStart 17 = .ok (.return_, 1) := by decide +kernel
theorem dX2_teamNumbered_0 : decode cX2_teamNumbered 0 = .ok (.iload_n 1, 1) := by decide +kernel
theorem dX2_teamNumbered_1 : decode cX2_teamNumbered 1 = .ok (.ifCond .lt 12, 3) := by decide +kernel
theorem dX2_teamNumbered_4 : decode cX2_teamNumbered 4 = .ok (.iload_n 1, 1) := by decide +kernel
theorem dX2_teamNumbered_5 : decode cX2_teamNumbered 5 = .ok (.aload_n 0, 1) := by decide +kernel
theorem dX2_teamNumbered_6 : decode cX2_teamNumbered 6 = .ok (.getfield 18, 3) := by decide +kernel
theorem dX2_teamNumbered_9 : decode cX2_teamNumbered 9 = .ok (.arraylength, 1) := by decide +kernel
theorem dX2_teamNumbered_10 : decode cX2_teamNumbered 10 = .ok (.if_icmp .lt 13, 3) := by decide +kernel
theorem dX2_teamNumbered_13 : decode cX2_teamNumbered 13 = .ok (.new 122, 3) := by decide +kernel
theorem dX2_teamNumbered_16 : decode cX2_teamNumbered 16 = .ok (.dup, 1) := by decide +kernel
theorem dX2_teamNumbered_17 : decode cX2_teamNumbered 17 = .ok (.ldc 192, 2) := by decide +kernel
theorem dX2_teamNumbered_19 : decode cX2_teamNumbered 19 = .ok (.invokespecial 126, 3) := by decide +kernel
theorem dX2_teamNumbered_22 : decode cX2_teamNumbered 22 = .ok (.athrow, 1) := by decide +kernel
theorem dX2_teamNumbered_23 : decode cX2_teamNumbered 23 = .ok (.aload_n 0, 1) := by decide +kernel
theorem dX2_teamNumbered_24 : decode cX2_teamNumbered 24 = .ok (.getfield 18, 3) := by decide +kernel
theorem dX2_teamNumbered_27 : decode cX2_teamNumbered 27 = .ok (.iload_n 1, 1) := by decide +kernel
theorem dX2_teamNumbered_28 : decode cX2_teamNumbered 28 = .ok (.aaload, 1) := by decide +kernel
theorem dX2_teamNumbered_29 : decode cX2_teamNumbered 29 = .ok (.astore_n 2, 1) := by decide +kernel
theorem dX2_teamNumbered_30 : decode cX2_teamNumbered 30 = .ok (.aload_n 2, 1) := by decide +kernel
theorem dX2_teamNumbered_31 : decode cX2_teamNumbered 31 = .ok (.ifnonnull 13, 3) := by decide +kernel
theorem dX2_teamNumbered_34 : decode cX2_teamNumbered 34 = .ok (.new 122, 3) := by decide +kernel
theorem dX2_teamNumbered_37 : decode cX2_teamNumbered 37 = .ok (.dup, 1) := by decide +kernel
theorem dX2_teamNumbered_38 : decode cX2_teamNumbered 38 = .ok (.ldc 192, 2) := by decide +kernel
theorem dX2_teamNumbered_40 : decode cX2_teamNumbered 40 = .ok (.invokespecial 126, 3) := by decide +kernel
theorem dX2_teamNumbered_43 : decode cX2_teamNumbered 43 = .ok (.athrow, 1) := by decide +kernel
theorem dX2_teamNumbered_44 : decode cX2_teamNumbered 44 = .ok (.aload_n 2, 1) := by decide +kernel
theorem dX2_teamNumbered_45 : decode cX2_teamNumbered 45 = .ok (.areturn, 1) := by decide +kernel
theorem dX2_passTick_0 : decode cX2_passTick 0 = .ok (.aload_n 0, 1) := by decide +kernel
theorem dX2_passTick_1 : decode cX2_passTick 1 = .ok (.dup, 1) := by decide +kernel
theorem dX2_passTick_2 : decode cX2_passTick 2 = .ok (.getfield 36, 3) := by decide +kernel
theorem dX2_passTick_5 : decode cX2_passTick 5 = .ok (.iconst 1, 1) := by decide +kernel
theorem dX2_passTick_6 : decode cX2_passTick 6 = .ok (.iadd, 1) := by decide +kernel
theorem dX2_passTick_7 : decode cX2_passTick 7 = .ok (.putfield 36, 3) := by decide +kernel
theorem dX2_passTick_10 : decode cX2_passTick 10 = .ok (.aload_n 0, 1) := by decide +kernel
theorem dX2_passTick_11 : decode cX2_passTick 11 = .ok (.getfield 18, 3) := by decide +kernel
theorem dX2_passTick_14 : decode cX2_passTick 14 = .ok (.astore_n 1, 1) := by decide +kernel
theorem dX2_passTick_15 : decode cX2_passTick 15 = .ok (.aload_n 1, 1) := by decide +kernel
theorem dX2_passTick_16 : decode cX2_passTick 16 = .ok (.arraylength, 1) := by decide +kernel
theorem dX2_passTick_17 : decode cX2_passTick 17 = .ok (.istore_n 2, 1) := by decide +kernel
theorem dX2_passTick_18 : decode cX2_passTick 18 = .ok (.iconst 0, 1) := by decide +kernel
theorem dX2_passTick_19 : decode cX2_passTick 19 = .ok (.istore_n 3, 1) := by decide +kernel
theorem dX2_passTick_20 : decode cX2_passTick 20 = .ok (.iload_n 3, 1) := by decide +kernel
theorem dX2_passTick_21 : decode cX2_passTick 21 = .ok (.iload_n 2, 1) := by decide +kernel
theorem dX2_passTick_22 : decode cX2_passTick 22 = .ok (.if_icmp .ge 32, 3) := by decide +kernel
theorem dX2_passTick_25 : decode cX2_passTick 25 = .ok (.aload_n 1, 1) := by decide +kernel
theorem dX2_passTick_26 : decode cX2_passTick 26 = .ok (.iload_n 3, 1) := by decide +kernel
theorem dX2_passTick_27 : decode cX2_passTick 27 = .ok (.aaload, 1) := by decide +kernel
theorem dX2_passTick_28 : decode cX2_passTick 28 = .ok (.astore 4, 2) := by decide +kernel
theorem dX2_passTick_30 : decode cX2_passTick 30 = .ok (.aload 4, 2) := by decide +kernel
theorem dX2_passTick_32 : decode cX2_passTick 32 = .ok (.ifnull 16, 3) := by decide +kernel
theorem dX2_passTick_35 : decode cX2_passTick 35 = .ok (.aload 4, 2) := by decide +kernel
theorem dX2_passTick_37 : decode cX2_passTick 37 = .ok (.aload_n 0, 1) := by decide +kernel
theorem dX2_passTick_38 : decode cX2_passTick 38 = .ok (.getfield 36, 3) := by decide +kernel
theorem dX2_passTick_41 : decode cX2_passTick 41 = .ok (.aload_n 0, 1) := by decide +kernel
theorem dX2_passTick_42 : decode cX2_passTick 42 = .ok (.getfield 10, 3) := by decide +kernel
theorem dX2_passTick_45 : decode cX2_passTick 45 = .ok (.invokevirtual 194, 3) := by decide +kernel
theorem dX2_passTick_48 : decode cX2_passTick 48 = .ok (.iinc 3 1, 3) := by decide +kernel
theorem dX2_passTick_51 : decode cX2_passTick 51 = .ok (.goto (-31), 3) := by decide +kernel
theorem dX2_passTick_54 : decode cX2_passTick 54 = .ok (.return_, 1) := by decide +kernel
theorem dX2_lookAhead_0 : decode cX2_lookAhead 0 = .ok (.aload_n 1, 1) := by decide +kernel
theorem dX2_lookAhead_1 : decode cX2_lookAhead 1 = .ok (.aload_n 2, 1) := by decide +kernel
theorem dX2_lookAhead_2 : decode cX2_lookAhead 2 = .ok (.invokevirtual 197, 3) := by decide +kernel
theorem dX2_lookAhead_5 : decode cX2_lookAhead 5 = .ok (.aload_n 1, 1) := by decide +kernel
theorem dX2_lookAhead_6 : decode cX2_lookAhead 6 = .ok (.iload_n 3, 1) := by decide +kernel
theorem dX2_lookAhead_7 : decode cX2_lookAhead 7 = .ok (.putfield 102, 3) := by decide +kernel
theorem dX2_lookAhead_10 : decode cX2_lookAhead 10 = .ok (.iconst 1, 1) := by decide +kernel
theorem dX2_lookAhead_11 : decode cX2_lookAhead 11 = .ok (.istore 5, 2) := by decide +kernel
theorem dX2_lookAhead_13 : decode cX2_lookAhead 13 = .ok (.iload 5, 2) := by decide +kernel
theorem dX2_lookAhead_15 : decode cX2_lookAhead 15 = .ok (.iload 4, 2) := by decide +kernel
theorem dX2_lookAhead_17 : decode cX2_lookAhead 17 = .ok (.if_icmp .gt 24, 3) := by decide +kernel
theorem dX2_lookAhead_20 : decode cX2_lookAhead 20 = .ok (.aload_n 1, 1) := by decide +kernel
theorem dX2_lookAhead_21 : decode cX2_lookAhead 21 = .ok (.aload_n 0, 1) := by decide +kernel
theorem dX2_lookAhead_22 : decode cX2_lookAhead 22 = .ok (.getfield 36, 3) := by decide +kernel
theorem dX2_lookAhead_25 : decode cX2_lookAhead 25 = .ok (.iload 5, 2) := by decide +kernel
theorem dX2_lookAhead_27 : decode cX2_lookAhead 27 = .ok (.iadd, 1) := by decide +kernel
theorem dX2_lookAhead_28 : decode cX2_lookAhead 28 = .ok (.aload_n 0, 1) := by decide +kernel
theorem dX2_lookAhead_29 : decode cX2_lookAhead 29 = .ok (.getfield 10, 3) := by decide +kernel
theorem dX2_lookAhead_32 : decode cX2_lookAhead 32 = .ok (.invokevirtual 194, 3) := by decide +kernel
theorem dX2_lookAhead_35 : decode cX2_lookAhead 35 = .ok (.iinc 5 1, 3) := by decide +kernel
theorem dX2_lookAhead_38 : decode cX2_lookAhead 38 = .ok (.goto (-25), 3) := by decide +kernel
theorem dX2_lookAhead_41 : decode cX2_lookAhead 41 = .ok (.return_, 1) := by decide +kernel
theorem dX2_rankOfTrialAmongRivals_0 : decode cX2_rankOfTrialAmongRivals 0 = .ok (.iconst 0, 1) := by decide +kernel
theorem dX2_rankOfTrialAmongRivals_1 : decode cX2_rankOfTrialAmongRivals 1 = .ok (.istore_n 2, 1) := by decide +kernel
theorem dX2_rankOfTrialAmongRivals_2 : decode cX2_rankOfTrialAmongRivals 2 = .ok (.aload_n 0, 1) := by decide +kernel
theorem dX2_rankOfTrialAmongRivals_3 : decode cX2_rankOfTrialAmongRivals 3 = .ok (.getfield 18, 3) := by decide +kernel
theorem dX2_rankOfTrialAmongRivals_6 : decode cX2_rankOfTrialAmongRivals 6 = .ok (.astore_n 3, 1) := by decide +kernel
theorem dX2_rankOfTrialAmongRivals_7 : decode cX2_rankOfTrialAmongRivals 7 = .ok (.aload_n 3, 1) := by decide +kernel
theorem dX2_rankOfTrialAmongRivals_8 : decode cX2_rankOfTrialAmongRivals 8 = .ok (.arraylength, 1) := by decide +kernel
theorem dX2_rankOfTrialAmongRivals_9 : decode cX2_rankOfTrialAmongRivals 9 = .ok (.istore 4, 2) := by decide +kernel
theorem dX2_rankOfTrialAmongRivals_11 : decode cX2_rankOfTrialAmongRivals 11 = .ok (.iconst 0, 1) := by decide +kernel
theorem dX2_rankOfTrialAmongRivals_12 : decode cX2_rankOfTrialAmongRivals 12 = .ok (.istore 5, 2) := by decide +kernel
theorem dX2_rankOfTrialAmongRivals_14 : decode cX2_rankOfTrialAmongRivals 14 = .ok (.iload 5, 2) := by decide +kernel
theorem dX2_rankOfTrialAmongRivals_16 : decode cX2_rankOfTrialAmongRivals 16 = .ok (.iload 4, 2) := by decide +kernel
theorem dX2_rankOfTrialAmongRivals_18 : decode cX2_rankOfTrialAmongRivals 18 = .ok (.if_icmp .ge 58, 3) := by decide +kernel
theorem dX2_rankOfTrialAmongRivals_21 : decode cX2_rankOfTrialAmongRivals 21 = .ok (.aload_n 3, 1) := by decide +kernel
theorem dX2_rankOfTrialAmongRivals_22 : decode cX2_rankOfTrialAmongRivals 22 = .ok (.iload 5, 2) := by decide +kernel
theorem dX2_rankOfTrialAmongRivals_24 : decode cX2_rankOfTrialAmongRivals 24 = .ok (.aaload, 1) := by decide +kernel
theorem dX2_rankOfTrialAmongRivals_25 : decode cX2_rankOfTrialAmongRivals 25 = .ok (.astore 6, 2) := by decide +kernel
theorem dX2_rankOfTrialAmongRivals_27 : decode cX2_rankOfTrialAmongRivals 27 = .ok (.aload 6, 2) := by decide +kernel
theorem dX2_rankOfTrialAmongRivals_29 : decode cX2_rankOfTrialAmongRivals 29 = .ok (.ifnull 41, 3) := by decide +kernel
theorem dX2_rankOfTrialAmongRivals_32 : decode cX2_rankOfTrialAmongRivals 32 = .ok (.aload_n 0, 1) := by decide +kernel
theorem dX2_rankOfTrialAmongRivals_33 : decode cX2_rankOfTrialAmongRivals 33 = .ok (.aload_n 0, 1) := by decide +kernel
theorem dX2_rankOfTrialAmongRivals_34 : decode cX2_rankOfTrialAmongRivals 34 = .ok (.getfield 29, 3) := by decide +kernel
theorem dX2_rankOfTrialAmongRivals_37 : decode cX2_rankOfTrialAmongRivals 37 = .ok (.aload 6, 2) := by decide +kernel
theorem dX2_rankOfTrialAmongRivals_39 : decode cX2_rankOfTrialAmongRivals 39 = .ok (.aload 6, 2) := by decide +kernel
theorem dX2_rankOfTrialAmongRivals_41 : decode cX2_rankOfTrialAmongRivals 41 = .ok (.getfield 102, 3) := by decide +kernel
theorem dX2_rankOfTrialAmongRivals_44 : decode cX2_rankOfTrialAmongRivals 44 = .ok (.iload_n 1, 1) := by decide +kernel
theorem dX2_rankOfTrialAmongRivals_45 : decode cX2_rankOfTrialAmongRivals 45 = .ok (.invokevirtual 167, 3) := by decide +kernel
theorem dX2_rankOfTrialAmongRivals_48 : decode cX2_rankOfTrialAmongRivals 48 = .ok (.iload_n 2, 1) := by decide +kernel
theorem dX2_rankOfTrialAmongRivals_49 : decode cX2_rankOfTrialAmongRivals 49 = .ok (.aload_n 0, 1) := by decide +kernel
theorem dX2_rankOfTrialAmongRivals_50 : decode cX2_rankOfTrialAmongRivals 50 = .ok (.getfield 29, 3) := by decide +kernel
theorem dX2_rankOfTrialAmongRivals_53 : decode cX2_rankOfTrialAmongRivals 53 = .ok (.aload_n 0, 1) := by decide +kernel
theorem dX2_rankOfTrialAmongRivals_54 : decode cX2_rankOfTrialAmongRivals 54 = .ok (.getfield 25, 3) := by decide +kernel
theorem dX2_rankOfTrialAmongRivals_57 : decode cX2_rankOfTrialAmongRivals 57 = .ok (.invokevirtual 201, 3) := by decide +kernel
theorem dX2_rankOfTrialAmongRivals_60 : decode cX2_rankOfTrialAmongRivals 60 = .ok (.ifCond .eq 7, 3) := by decide +kernel
theorem dX2_rankOfTrialAmongRivals_63 : decode cX2_rankOfTrialAmongRivals 63 = .ok (.iconst 1, 1) := by decide +kernel
theorem dX2_rankOfTrialAmongRivals_64 : decode cX2_rankOfTrialAmongRivals 64 = .ok (.goto 4, 3) := by decide +kernel
theorem dX2_rankOfTrialAmongRivals_67 : decode cX2_rankOfTrialAmongRivals 67 = .ok (.iconst 0, 1) := by decide +kernel
theorem dX2_rankOfTrialAmongRivals_68 : decode cX2_rankOfTrialAmongRivals 68 = .ok (.iadd, 1) := by decide +kernel
theorem dX2_rankOfTrialAmongRivals_69 : decode cX2_rankOfTrialAmongRivals 69 = .ok (.istore_n 2, 1) := by decide +kernel
theorem dX2_rankOfTrialAmongRivals_70 : decode cX2_rankOfTrialAmongRivals 70 = .ok (.iinc 5 1, 3) := by decide +kernel
theorem dX2_rankOfTrialAmongRivals_73 : decode cX2_rankOfTrialAmongRivals 73 = .ok (.goto (-59), 3) := by decide +kernel
theorem dX2_rankOfTrialAmongRivals_76 : decode cX2_rankOfTrialAmongRivals 76 = .ok (.iload_n 2, 1) := by decide +kernel
theorem dX2_rankOfTrialAmongRivals_77 : decode cX2_rankOfTrialAmongRivals 77 = .ok (.ireturn, 1) := by decide +kernel
theorem dX2_rankOf_0 : decode cX2_rankOf 0 = .ok (.iconst 0, 1) := by decide +kernel
theorem dX2_rankOf_1 : decode cX2_rankOf 1 = .ok (.istore_n 2, 1) := by decide +kernel
theorem dX2_rankOf_2 : decode cX2_rankOf 2 = .ok (.aload_n 0, 1) := by decide +kernel
theorem dX2_rankOf_3 : decode cX2_rankOf 3 = .ok (.getfield 18, 3) := by decide +kernel
theorem dX2_rankOf_6 : decode cX2_rankOf 6 = .ok (.astore_n 3, 1) := by decide +kernel
theorem dX2_rankOf_7 : decode cX2_rankOf 7 = .ok (.aload_n 3, 1) := by decide +kernel
theorem dX2_rankOf_8 : decode cX2_rankOf 8 = .ok (.arraylength, 1) := by decide +kernel
theorem dX2_rankOf_9 : decode cX2_rankOf 9 = .ok (.istore 4, 2) := by decide +kernel
theorem dX2_rankOf_11 : decode cX2_rankOf 11 = .ok (.iconst 0, 1) := by decide +kernel
theorem dX2_rankOf_12 : decode cX2_rankOf 12 = .ok (.istore 5, 2) := by decide +kernel
theorem dX2_rankOf_14 : decode cX2_rankOf 14 = .ok (.iload 5, 2) := by decide +kernel
theorem dX2_rankOf_16 : decode cX2_rankOf 16 = .ok (.iload 4, 2) := by decide +kernel
theorem dX2_rankOf_18 : decode cX2_rankOf 18 = .ok (.if_icmp .ge 32, 3) := by decide +kernel
theorem dX2_rankOf_21 : decode cX2_rankOf 21 = .ok (.aload_n 3, 1) := by decide +kernel
theorem dX2_rankOf_22 : decode cX2_rankOf 22 = .ok (.iload 5, 2) := by decide +kernel
theorem dX2_rankOf_24 : decode cX2_rankOf 24 = .ok (.aaload, 1) := by decide +kernel
theorem dX2_rankOf_25 : decode cX2_rankOf 25 = .ok (.astore 6, 2) := by decide +kernel
theorem dX2_rankOf_27 : decode cX2_rankOf 27 = .ok (.aload 6, 2) := by decide +kernel
theorem dX2_rankOf_29 : decode cX2_rankOf 29 = .ok (.ifnull 15, 3) := by decide +kernel
theorem dX2_rankOf_32 : decode cX2_rankOf 32 = .ok (.aload 6, 2) := by decide +kernel
theorem dX2_rankOf_34 : decode cX2_rankOf 34 = .ok (.aload_n 1, 1) := by decide +kernel
theorem dX2_rankOf_35 : decode cX2_rankOf 35 = .ok (.invokevirtual 201, 3) := by decide +kernel
theorem dX2_rankOf_38 : decode cX2_rankOf 38 = .ok (.ifCond .eq 6, 3) := by decide +kernel
theorem dX2_rankOf_41 : decode cX2_rankOf 41 = .ok (.iinc 2 1, 3) := by decide +kernel
theorem dX2_rankOf_44 : decode cX2_rankOf 44 = .ok (.iinc 5 1, 3) := by decide +kernel
theorem dX2_rankOf_47 : decode cX2_rankOf 47 = .ok (.goto (-33), 3) := by decide +kernel
theorem dX2_rankOf_50 : decode cX2_rankOf 50 = .ok (.iload_n 2, 1) := by decide +kernel
theorem dX2_rankOf_51 : decode cX2_rankOf 51 = .ok (.ireturn, 1) := by decide +kernel
theorem dX2_teamAtRank_0 : decode cX2_teamAtRank 0 = .ok (.aload_n 0, 1) := by decide +kernel
theorem dX2_teamAtRank_1 : decode cX2_teamAtRank 1 = .ok (.getfield 18, 3) := by decide +kernel
theorem dX2_teamAtRank_4 : decode cX2_teamAtRank 4 = .ok (.astore_n 2, 1) := by decide +kernel
theorem dX2_teamAtRank_5 : decode cX2_teamAtRank 5 = .ok (.aload_n 2, 1) := by decide +kernel
theorem dX2_teamAtRank_6 : decode cX2_teamAtRank 6 = .ok (.arraylength, 1) := by decide +kernel
theorem dX2_teamAtRank_7 : decode cX2_teamAtRank 7 = .ok (.istore_n 3, 1) := by decide +kernel
theorem dX2_teamAtRank_8 : decode cX2_teamAtRank 8 = .ok (.iconst 0, 1) := by decide +kernel
theorem dX2_teamAtRank_9 : decode cX2_teamAtRank 9 = .ok (.istore 4, 2) := by decide +kernel
theorem dX2_teamAtRank_11 : decode cX2_teamAtRank 11 = .ok (.iload 4, 2) := by decide +kernel
theorem dX2_teamAtRank_13 : decode cX2_teamAtRank 13 = .ok (.iload_n 3, 1) := by decide +kernel
theorem dX2_teamAtRank_14 : decode cX2_teamAtRank 14 = .ok (.if_icmp .ge 36, 3) := by decide +kernel
theorem dX2_teamAtRank_17 : decode cX2_teamAtRank 17 = .ok (.aload_n 2, 1) := by decide +kernel
theorem dX2_teamAtRank_18 : decode cX2_teamAtRank 18 = .ok (.iload 4, 2) := by decide +kernel
theorem dX2_teamAtRank_20 : decode cX2_teamAtRank 20 = .ok (.aaload, 1) := by decide +kernel
theorem dX2_teamAtRank_21 : decode cX2_teamAtRank 21 = .ok (.astore 5, 2) := by decide +kernel
theorem dX2_teamAtRank_23 : decode cX2_teamAtRank 23 = .ok (.aload 5, 2) := by decide +kernel
theorem dX2_teamAtRank_25 : decode cX2_teamAtRank 25 = .ok (.ifnull 19, 3) := by decide +kernel
theorem dX2_teamAtRank_28 : decode cX2_teamAtRank 28 = .ok (.aload_n 0, 1) := by decide +kernel
theorem dX2_teamAtRank_29 : decode cX2_teamAtRank 29 = .ok (.aload 5, 2) := by decide +kernel
theorem dX2_teamAtRank_31 : decode cX2_teamAtRank 31 = .ok (.invokevirtual 205, 3) := by decide +kernel
theorem dX2_teamAtRank_34 : decode cX2_teamAtRank 34 = .ok (.iload_n 1, 1) := by decide +kernel
theorem dX2_teamAtRank_35 : decode cX2_teamAtRank 35 = .ok (.if_icmp .ne 9, 3) := by decide +kernel
theorem dX2_teamAtRank_38 : decode cX2_teamAtRank 38 = .ok (.aload 5, 2) := by decide +kernel
theorem dX2_teamAtRank_40 : decode cX2_teamAtRank 40 = .ok (.getfield 209, 3) := by decide +kernel
theorem dX2_teamAtRank_43 : decode cX2_teamAtRank 43 = .ok (.ireturn, 1) := by decide +kernel
theorem dX2_teamAtRank_44 : decode cX2_teamAtRank 44 = .ok (.iinc 4 1, 3) := by decide +kernel
theorem dX2_teamAtRank_47 : decode cX2_teamAtRank 47 = .ok (.goto (-36), 3) := by decide +kernel
theorem dX2_teamAtRank_50 : decode cX2_teamAtRank 50 = .ok (.iconst (-1), 1) := by decide +kernel
theorem dX2_teamAtRank_51 : decode cX2_teamAtRank 51 = .ok (.ireturn, 1) := by decide +kernel
theorem dX2_countOf_0 : decode cX2_countOf 0 = .ok (.iload_n 1, 1) := by decide +kernel
theorem dX2_countOf_1 : decode cX2_countOf 1 = .ok (.tableswitch 66 0 4 #[35, 40, 45, 53, 61], 35) := by decide +kernel
theorem dX2_countOf_36 : decode cX2_countOf 36 = .ok (.aload_n 0, 1) := by decide +kernel
theorem dX2_countOf_37 : decode cX2_countOf 37 = .ok (.getfield 36, 3) := by decide +kernel
theorem dX2_countOf_40 : decode cX2_countOf 40 = .ok (.ireturn, 1) := by decide +kernel
theorem dX2_countOf_41 : decode cX2_countOf 41 = .ok (.aload_n 0, 1) := by decide +kernel
theorem dX2_countOf_42 : decode cX2_countOf 42 = .ok (.getfield 32, 3) := by decide +kernel
theorem dX2_countOf_45 : decode cX2_countOf 45 = .ok (.ireturn, 1) := by decide +kernel
theorem dX2_countOf_46 : decode cX2_countOf 46 = .ok (.aload_n 0, 1) := by decide +kernel
theorem dX2_countOf_47 : decode cX2_countOf 47 = .ok (.getfield 10, 3) := by decide +kernel
theorem dX2_countOf_50 : decode cX2_countOf 50 = .ok (.getfield 53, 3) := by decide +kernel
theorem dX2_countOf_53 : decode cX2_countOf 53 = .ok (.ireturn, 1) := by decide +kernel
theorem dX2_countOf_54 : decode cX2_countOf 54 = .ok (.aload_n 0, 1) := by decide +kernel
theorem dX2_countOf_55 : decode cX2_countOf 55 = .ok (.getfield 10, 3) := by decide +kernel
theorem dX2_countOf_58 : decode cX2_countOf 58 = .ok (.getfield 66, 3) := by decide +kernel
theorem dX2_countOf_61 : decode cX2_countOf 61 = .ok (.ireturn, 1) := by decide +kernel
theorem dX2_countOf_62 : decode cX2_countOf 62 = .ok (.aload_n 0, 1) := by decide +kernel
theorem dX2_countOf_63 : decode cX2_countOf 63 = .ok (.invokevirtual 115, 3) := by decide +kernel
theorem dX2_countOf_66 : decode cX2_countOf 66 = .ok (.ireturn, 1) := by decide +kernel
theorem dX2_countOf_67 : decode cX2_countOf 67 = .ok (.aload_n 0, 1) := by decide +kernel
theorem dX2_countOf_68 : decode cX2_countOf 68 = .ok (.invokevirtual 212, 3) := by decide +kernel
theorem dX2_countOf_71 : decode cX2_countOf 71 = .ok (.ireturn, 1) := by decide +kernel
theorem dX2_teamsAtEnd_0 : decode cX2_teamsAtEnd 0 = .ok (.iconst 0, 1) := by decide +kernel
theorem dX2_teamsAtEnd_1 : decode cX2_teamsAtEnd 1 = .ok (.istore_n 1, 1) := by decide +kernel
theorem dX2_teamsAtEnd_2 : decode cX2_teamsAtEnd 2 = .ok (.aload_n 0, 1) := by decide +kernel
theorem dX2_teamsAtEnd_3 : decode cX2_teamsAtEnd 3 = .ok (.getfield 18, 3) := by decide +kernel
theorem dX2_teamsAtEnd_6 : decode cX2_teamsAtEnd 6 = .ok (.astore_n 2, 1) := by decide +kernel
theorem dX2_teamsAtEnd_7 : decode cX2_teamsAtEnd 7 = .ok (.aload_n 2, 1) := by decide +kernel
theorem dX2_teamsAtEnd_8 : decode cX2_teamsAtEnd 8 = .ok (.arraylength, 1) := by decide +kernel
theorem dX2_teamsAtEnd_9 : decode cX2_teamsAtEnd 9 = .ok (.istore_n 3, 1) := by decide +kernel
theorem dX2_teamsAtEnd_10 : decode cX2_teamsAtEnd 10 = .ok (.iconst 0, 1) := by decide +kernel
theorem dX2_teamsAtEnd_11 : decode cX2_teamsAtEnd 11 = .ok (.istore 4, 2) := by decide +kernel
theorem dX2_teamsAtEnd_13 : decode cX2_teamsAtEnd 13 = .ok (.iload 4, 2) := by decide +kernel
theorem dX2_teamsAtEnd_15 : decode cX2_teamsAtEnd 15 = .ok (.iload_n 3, 1) := by decide +kernel
theorem dX2_teamsAtEnd_16 : decode cX2_teamsAtEnd 16 = .ok (.if_icmp .ge 31, 3) := by decide +kernel
theorem dX2_teamsAtEnd_19 : decode cX2_teamsAtEnd 19 = .ok (.aload_n 2, 1) := by decide +kernel
theorem dX2_teamsAtEnd_20 : decode cX2_teamsAtEnd 20 = .ok (.iload 4, 2) := by decide +kernel
theorem dX2_teamsAtEnd_22 : decode cX2_teamsAtEnd 22 = .ok (.aaload, 1) := by decide +kernel
theorem dX2_teamsAtEnd_23 : decode cX2_teamsAtEnd 23 = .ok (.astore 5, 2) := by decide +kernel
theorem dX2_teamsAtEnd_25 : decode cX2_teamsAtEnd 25 = .ok (.aload 5, 2) := by decide +kernel
theorem dX2_teamsAtEnd_27 : decode cX2_teamsAtEnd 27 = .ok (.ifnull 14, 3) := by decide +kernel
theorem dX2_teamsAtEnd_30 : decode cX2_teamsAtEnd 30 = .ok (.aload 5, 2) := by decide +kernel
theorem dX2_teamsAtEnd_32 : decode cX2_teamsAtEnd 32 = .ok (.invokevirtual 215, 3) := by decide +kernel
theorem dX2_teamsAtEnd_35 : decode cX2_teamsAtEnd 35 = .ok (.ifCond .eq 6, 3) := by decide +kernel
theorem dX2_teamsAtEnd_38 : decode cX2_teamsAtEnd 38 = .ok (.iinc 1 1, 3) := by decide +kernel
theorem dX2_teamsAtEnd_41 : decode cX2_teamsAtEnd 41 = .ok (.iinc 4 1, 3) := by decide +kernel
theorem dX2_teamsAtEnd_44 : decode cX2_teamsAtEnd 44 = .ok (.goto (-31), 3) := by decide +kernel
theorem dX2_teamsAtEnd_47 : decode cX2_teamsAtEnd 47 = .ok (.iload_n 1, 1) := by decide +kernel
theorem dX2_teamsAtEnd_48 : decode cX2_teamsAtEnd 48 = .ok (.ireturn, 1) := by decide +kernel
theorem dX2_ropesBroken_0 : decode cX2_ropesBroken 0 = .ok (.iconst 0, 1) := by decide +kernel
theorem dX2_ropesBroken_1 : decode cX2_ropesBroken 1 = .ok (.istore_n 1, 1) := by decide +kernel
theorem dX2_ropesBroken_2 : decode cX2_ropesBroken 2 = .ok (.aload_n 0, 1) := by decide +kernel
theorem dX2_ropesBroken_3 : decode cX2_ropesBroken 3 = .ok (.getfield 18, 3) := by decide +kernel
theorem dX2_ropesBroken_6 : decode cX2_ropesBroken 6 = .ok (.astore_n 2, 1) := by decide +kernel
theorem dX2_ropesBroken_7 : decode cX2_ropesBroken 7 = .ok (.aload_n 2, 1) := by decide +kernel
theorem dX2_ropesBroken_8 : decode cX2_ropesBroken 8 = .ok (.arraylength, 1) := by decide +kernel
theorem dX2_ropesBroken_9 : decode cX2_ropesBroken 9 = .ok (.istore_n 3, 1) := by decide +kernel
theorem dX2_ropesBroken_10 : decode cX2_ropesBroken 10 = .ok (.iconst 0, 1) := by decide +kernel
theorem dX2_ropesBroken_11 : decode cX2_ropesBroken 11 = .ok (.istore 4, 2) := by decide +kernel
theorem dX2_ropesBroken_13 : decode cX2_ropesBroken 13 = .ok (.iload 4, 2) := by decide +kernel
theorem dX2_ropesBroken_15 : decode cX2_ropesBroken 15 = .ok (.iload_n 3, 1) := by decide +kernel
theorem dX2_ropesBroken_16 : decode cX2_ropesBroken 16 = .ok (.if_icmp .ge 28, 3) := by decide +kernel
theorem dX2_ropesBroken_19 : decode cX2_ropesBroken 19 = .ok (.aload_n 2, 1) := by decide +kernel
theorem dX2_ropesBroken_20 : decode cX2_ropesBroken 20 = .ok (.iload 4, 2) := by decide +kernel
theorem dX2_ropesBroken_22 : decode cX2_ropesBroken 22 = .ok (.aaload, 1) := by decide +kernel
theorem dX2_ropesBroken_23 : decode cX2_ropesBroken 23 = .ok (.astore 5, 2) := by decide +kernel
theorem dX2_ropesBroken_25 : decode cX2_ropesBroken 25 = .ok (.aload 5, 2) := by decide +kernel
theorem dX2_ropesBroken_27 : decode cX2_ropesBroken 27 = .ok (.ifnull 11, 3) := by decide +kernel
theorem dX2_ropesBroken_30 : decode cX2_ropesBroken 30 = .ok (.iload_n 1, 1) := by decide +kernel
theorem dX2_ropesBroken_31 : decode cX2_ropesBroken 31 = .ok (.aload 5, 2) := by decide +kernel
theorem dX2_ropesBroken_33 : decode cX2_ropesBroken 33 = .ok (.getfield 219, 3) := by decide +kernel
theorem dX2_ropesBroken_36 : decode cX2_ropesBroken 36 = .ok (.iadd, 1) := by decide +kernel
theorem dX2_ropesBroken_37 : decode cX2_ropesBroken 37 = .ok (.istore_n 1, 1) := by decide +kernel
theorem dX2_ropesBroken_38 : decode cX2_ropesBroken 38 = .ok (.iinc 4 1, 3) := by decide +kernel
theorem dX2_ropesBroken_41 : decode cX2_ropesBroken 41 = .ok (.goto (-28), 3) := by decide +kernel
theorem dX2_ropesBroken_44 : decode cX2_ropesBroken 44 = .ok (.iload_n 1, 1) := by decide +kernel
theorem dX2_ropesBroken_45 : decode cX2_ropesBroken 45 = .ok (.ireturn, 1) := by decide +kernel
