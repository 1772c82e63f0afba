theorem dX11_init_0 : decode cX11_init 0 = .ok (.aload_n 0, 1) := by decide +kernel
theorem dX11_init_1 : decode cX11_init 1 = .ok (.invokespecial 1, 3) := by decide +kernel
theorem dX11_init_4 : decode cX11_init 4 = .ok (.aload_n 0, 1) := by decide +kernel
theorem dX11_init_5 : decode cX11_init 5 = .ok (.new 7, 3) := by decide +kernel
theorem dX11_init_8 : decode cX11_init 8 = .ok (.dup, 1) := by decide +kernel
theorem dX11_init_9 : decode cX11_init 9 = .ok (.invokespecial 9, 3) := by decide +kernel
theorem dX11_init_12 : decode cX11_init 12 = .ok (.putfield 10, 3) := by decide +kernel
theorem dX11_init_15 : decode cX11_init 15 = .ok (.aload_n 0, 1) := by decide +kernel
theorem dX11_init_16 : decode cX11_init 16 = .ok (.new 7, 3) := by decide +kernel
theorem dX11_init_19 : decode cX11_init 19 = .ok (.dup, 1) := by decide +kernel
theorem dX11_init_20 : decode cX11_init 20 = .ok (.invokespecial 9, 3) := by decide +kernel
theorem dX11_init_23 : decode cX11_init 23 = .ok (.putfield 16, 3) := by decide +kernel
theorem dX11_init_26 : decode cX11_init 26 = .ok (.aload_n 0, 1) := by decide +kernel
theorem dX11_init_27 : decode cX11_init 27 = .ok (.new 7, 3) := by decide +kernel
theorem dX11_init_30 : decode cX11_init 30 = .ok (.dup, 1) := by decide +kernel
theorem dX11_init_31 : decode cX11_init 31 = .ok (.invokespecial 9, 3) := by decide +kernel
theorem dX11_init_34 : decode cX11_init 34 = .ok (.putfield 19, 3) := by decide +kernel
theorem dX11_init_37 : decode cX11_init 37 = .ok (.aload_n 0, 1) := by decide +kernel
theorem dX11_init_38 : decode cX11_init 38 = .ok (.new 7, 3) := by decide +kernel
theorem dX11_init_41 : decode cX11_init 41 = .ok (.dup, 1) := by decide +kernel
theorem dX11_init_42 : decode cX11_init 42 = .ok (.invokespecial 9, 3) := by decide +kernel
theorem dX11_init_45 : decode cX11_init 45 = .ok (.putfield 22, 3) := by decide +kernel
theorem dX11_init_48 : decode cX11_init 48 = .ok (.aload_n 0, 1) := by decide +kernel
theorem dX11_init_49 : decode cX11_init 49 = .ok (.iconst 5, 1) := by decide +kernel
theorem dX11_init_50 : decode cX11_init 50 = .ok (.newarray .int, 2) := by decide +kernel
theorem dX11_init_52 : decode cX11_init 52 = .ok (.putfield 25, 3) := by decide +kernel
theorem dX11_init_55 : decode cX11_init 55 = .ok (.aload_n 0, 1) := by decide +kernel
theorem dX11_init_56 : decode cX11_init 56 = .ok (.iconst 0, 1) := by decide +kernel
theorem dX11_init_57 : decode cX11_init 57 = .ok (.putfield 29, 3) := by decide +kernel
theorem dX11_init_60 : decode cX11_init 60 = .ok (.aload_n 0, 1) := by decide +kernel
theorem dX11_init_61 : decode cX11_init 61 = .ok (.iconst 0, 1) := by decide +kernel
theorem dX11_init_62 : decode cX11_init 62 = .ok (.putfield 33, 3) := by decide +kernel
theorem dX11_init_65 : decode cX11_init 65 = .ok (.aload_n 0, 1) := by decide +kernel
theorem dX11_init_66 : decode cX11_init 66 = .ok (.new 36, 3) := by decide +kernel
theorem dX11_init_69 : decode cX11_init 69 = .ok (.dup, 1) := by decide +kernel
theorem dX11_init_70 : decode cX11_init 70 = .ok (.iconst 0, 1) := by decide +kernel
theorem dX11_init_71 : decode cX11_init 71 = .ok (.invokespecial 38, 3) := by decide +kernel
theorem dX11_init_74 : decode cX11_init 74 = .ok (.putfield 41, 3) := by decide +kernel
theorem dX11_init_77 : decode cX11_init 77 = .ok (.aload_n 0, 1) := by decide +kernel
theorem dX11_init_78 : decode cX11_init 78 = .ok (.new 45, 3) := by decide +kernel
theorem dX11_init_81 : decode cX11_init 81 = .ok (.dup, 1) := by decide +kernel
theorem dX11_init_82 : decode cX11_init 82 = .ok (.invokespecial 47, 3) := by decide +kernel
theorem dX11_init_85 : decode cX11_init 85 = .ok (.putfield 48, 3) := by decide +kernel
theorem dX11_init_88 : decode cX11_init 88 = .ok (.aload_n 0, 1) := by decide +kernel
theorem dX11_init_89 : decode cX11_init 89 = .ok (.new 52, 3) := by decide +kernel
theorem dX11_init_92 : decode cX11_init 92 = .ok (.dup, 1) := by decide +kernel
theorem dX11_init_93 : decode cX11_init 93 = .ok (.invokespecial 54, 3) := by decide +kernel
theorem dX11_init_96 : decode cX11_init 96 = .ok (.putfield 55, 3) := by decide +kernel
theorem dX11_init_99 : decode cX11_init 99 = .ok (.aload_n 0, 1) := by decide +kernel
theorem dX11_init_100 : decode cX11_init 100 = .ok (.new 59, 3) := by decide +kernel
theorem dX11_init_103 : decode cX11_init 103 = .ok (.dup, 1) := by decide +kernel
theorem dX11_init_104 : decode cX11_init 104 = .ok (.invokespecial 61, 3) := by decide +kernel
theorem dX11_init_107 : decode cX11_init 107 = .ok (.putfield 62, 3) := by decide +kernel
theorem dX11_init_110 : decode cX11_init 110 = .ok (.aload_n 0, 1) := by decide +kernel
theorem dX11_init_111 : decode cX11_init 111 = .ok (.new 66, 3) := by decide +kernel
theorem dX11_init_114 : decode cX11_init 114 = .ok (.dup, 1) := by decide +kernel
theorem dX11_init_115 : decode cX11_init 115 = .ok (.invokespecial 68, 3) := by decide +kernel
theorem dX11_init_118 : decode cX11_init 118 = .ok (.putfield 69, 3) := by decide +kernel
theorem dX11_init_121 : decode cX11_init 121 = .ok (.aload_n 0, 1) := by decide +kernel
theorem dX11_init_122 : decode cX11_init 122 = .ok (.new 73, 3) := by decide +kernel
theorem dX11_init_125 : decode cX11_init 125 = .ok (.dup, 1) := by decide +kernel
theorem dX11_init_126 : decode cX11_init 126 = .ok (.invokespecial 75, 3) := by decide +kernel
theorem dX11_init_129 : decode cX11_init 129 = .ok (.putfield 76, 3) := by decide +kernel
theorem dX11_init_132 : decode cX11_init 132 = .ok (.return_, 1) := by decide +kernel
theorem dX11_paper_0 : decode cX11_paper 0 = .ok (.iload_n 1, 1) := by decide +kernel
theorem dX11_paper_1 : decode cX11_paper 1 = .ok (.iconst 0, 1) := by decide +kernel
theorem dX11_paper_2 : decode cX11_paper 2 = .ok (.iconst 2, 1) := by decide +kernel
theorem dX11_paper_3 : decode cX11_paper 3 = .ok (.invokestatic 80, 3) := by decide +kernel
theorem dX11_paper_6 : decode cX11_paper 6 = .ok (.ifCond .eq 17, 3) := by decide +kernel
theorem dX11_paper_9 : decode cX11_paper 9 = .ok (.iload_n 2, 1) := by decide +kernel
theorem dX11_paper_10 : decode cX11_paper 10 = .ok (.iconst 0, 1) := by decide +kernel
theorem dX11_paper_11 : decode cX11_paper 11 = .ok (.ldc 84, 2) := by decide +kernel
theorem dX11_paper_13 : decode cX11_paper 13 = .ok (.invokestatic 80, 3) := by decide +kernel
theorem dX11_paper_16 : decode cX11_paper 16 = .ok (.ifCond .eq 7, 3) := by decide +kernel
theorem dX11_paper_19 : decode cX11_paper 19 = .ok (.iconst 1, 1) := by decide +kernel
theorem dX11_paper_20 : decode cX11_paper 20 = .ok (.goto 4, 3) := by decide +kernel
theorem dX11_paper_23 : decode cX11_paper 23 = .ok (.iconst 0, 1) := by decide +kernel
theorem dX11_paper_24 : decode cX11_paper 24 = .ok (.invokestatic 85, 3) := by decide +kernel
theorem dX11_paper_27 : decode cX11_paper 27 = .ok (.iload_n 3, 1) := by decide +kernel
theorem dX11_paper_28 : decode cX11_paper 28 = .ok (.iconst 0, 1) := by decide +kernel
theorem dX11_paper_29 : decode cX11_paper 29 = .ok (.sipush 1000, 3) := by decide +kernel
theorem dX11_paper_32 : decode cX11_paper 32 = .ok (.invokestatic 80, 3) := by decide +kernel
theorem dX11_paper_35 : decode cX11_paper 35 = .ok (.ifCond .eq 18, 3) := by decide +kernel
theorem dX11_paper_38 : decode cX11_paper 38 = .ok (.iload 4, 2) := by decide +kernel
theorem dX11_paper_40 : decode cX11_paper 40 = .ok (.iconst 2, 1) := by decide +kernel
theorem dX11_paper_41 : decode cX11_paper 41 = .ok (.bipush 64, 2) := by decide +kernel
theorem dX11_paper_43 : decode cX11_paper 43 = .ok (.invokestatic 80, 3) := by decide +kernel
theorem dX11_paper_46 : decode cX11_paper 46 = .ok (.ifCond .eq 7, 3) := by decide +kernel
theorem dX11_paper_49 : decode cX11_paper 49 = .ok (.iconst 1, 1) := by decide +kernel
theorem dX11_paper_50 : decode cX11_paper 50 = .ok (.goto 4, 3) := by decide +kernel
theorem dX11_paper_53 : decode cX11_paper 53 = .ok (.iconst 0, 1) := by decide +kernel
theorem dX11_paper_54 : decode cX11_paper 54 = .ok (.invokestatic 85, 3) := by decide +kernel
theorem dX11_paper_57 : decode cX11_paper 57 = .ok (.iload 5, 2) := by decide +kernel
theorem dX11_paper_59 : decode cX11_paper 59 = .ok (.iconst 1, 1) := by decide +kernel
theorem dX11_paper_60 : decode cX11_paper 60 = .ok (.bipush 100, 2) := by decide +kernel
theorem dX11_paper_62 : decode cX11_paper 62 = .ok (.invokestatic 80, 3) := by decide +kernel
theorem dX11_paper_65 : decode cX11_paper 65 = .ok (.invokestatic 85, 3) := by decide +kernel
theorem dX11_paper_68 : decode cX11_paper 68 = .ok (.aload_n 0, 1) := by decide +kernel
theorem dX11_paper_69 : decode cX11_paper 69 = .ok (.getfield 10, 3) := by decide +kernel
theorem dX11_paper_72 : decode cX11_paper 72 = .ok (.invokevirtual 89, 3) := by decide +kernel
theorem dX11_paper_75 : decode cX11_paper 75 = .ok (.bipush 12, 2) := by decide +kernel
theorem dX11_paper_77 : decode cX11_paper 77 = .ok (.if_icmp .lt 13, 3) := by decide +kernel
theorem dX11_paper_80 : decode cX11_paper 80 = .ok (.new 93, 3) := by decide +kernel
theorem dX11_paper_83 : decode cX11_paper 83 = .ok (.dup, 1) := by decide +kernel
theorem dX11_paper_84 : decode cX11_paper 84 = .ok (.ldc 95, 2) := by decide +kernel
theorem dX11_paper_86 : decode cX11_paper 86 = .ok (.invokespecial 97, 3) := by decide +kernel
theorem dX11_paper_89 : decode cX11_paper 89 = .ok (.athrow, 1) := by decide +kernel
theorem dX11_paper_90 : decode cX11_paper 90 = .ok (.aload_n 0, 1) := by decide +kernel
theorem dX11_paper_91 : decode cX11_paper 91 = .ok (.getfield 10, 3) := by decide +kernel
theorem dX11_paper_94 : decode cX11_paper 94 = .ok (.new 100, 3) := by decide +kernel
theorem dX11_paper_97 : decode cX11_paper 97 = .ok (.dup, 1) := by decide +kernel
theorem dX11_paper_98 : decode cX11_paper 98 = .ok (.iload_n 1, 1) := by decide +kernel
theorem dX11_paper_99 : decode cX11_paper 99 = .ok (.iload_n 2, 1) := by decide +kernel
theorem dX11_paper_100 : decode cX11_paper 100 = .ok (.iload_n 3, 1) := by decide +kernel
theorem dX11_paper_101 : decode cX11_paper 101 = .ok (.iload 4, 2) := by decide +kernel
theorem dX11_paper_103 : decode cX11_paper 103 = .ok (.iload 5, 2) := by decide +kernel
theorem dX11_paper_105 : decode cX11_paper 105 = .ok (.invokespecial 102, 3) := by decide +kernel
theorem dX11_paper_108 : decode cX11_paper 108 = .ok (.invokevirtual 105, 3) := by decide +kernel
theorem dX11_paper_111 : decode cX11_paper 111 = .ok (.pop, 1) := by decide +kernel
theorem dX11_paper_112 : decode cX11_paper 112 = .ok (.aload_n 0, 1) := by decide +kernel
theorem dX11_paper_113 : decode cX11_paper 113 = .ok (.getfield 10, 3) := by decide +kernel
theorem dX11_paper_116 : decode cX11_paper 116 = .ok (.invokevirtual 89, 3) := by decide +kernel
theorem dX11_paper_119 : decode cX11_paper 119 = .ok (.iconst 1, 1) := by decide +kernel
theorem dX11_paper_120 : decode cX11_paper 120 = .ok (.isub, 1) := by decide +kernel
theorem dX11_paper_121 : decode cX11_paper 121 = .ok (.ireturn, 1) := by decide +kernel
theorem dX11_set_0 : decode cX11_set 0 = .ok (.aload_n 0, 1) := by decide +kernel
theorem dX11_set_1 : decode cX11_set 1 = .ok (.iload_n 1, 1) := by decide +kernel
theorem dX11_set_2 : decode cX11_set 2 = .ok (.invokevirtual 109, 3) := by decide +kernel
theorem dX11_set_5 : decode cX11_set 5 = .ok (.astore 4, 2) := by decide +kernel
theorem dX11_set_7 : decode cX11_set 7 = .ok (.iload_n 2, 1) := by decide +kernel
theorem dX11_set_8 : decode cX11_set 8 = .ok (.iload_n 3, 1) := by decide +kernel
theorem dX11_set_9 : decode cX11_set 9 = .ok (.invokestatic 113, 3) := by decide +kernel
theorem dX11_set_12 : decode cX11_set 12 = .ok (.invokestatic 85, 3) := by decide +kernel
theorem dX11_set_15 : decode cX11_set 15 = .ok (.aload 4, 2) := by decide +kernel
theorem dX11_set_17 : decode cX11_set 17 = .ok (.getfield 117, 3) := by decide +kernel
theorem dX11_set_20 : decode cX11_set 20 = .ok (.iconst 2, 1) := by decide +kernel
theorem dX11_set_21 : decode cX11_set 21 = .ok (.if_icmp .ne 5, 3) := by decide +kernel
theorem dX11_set_24 : decode cX11_set 24 = .ok (.iconst (-1), 1) := by decide +kernel
theorem dX11_set_25 : decode cX11_set 25 = .ok (.ireturn, 1) := by decide +kernel
theorem dX11_set_26 : decode cX11_set 26 = .ok (.aload 4, 2) := by decide +kernel
theorem dX11_set_28 : decode cX11_set 28 = .ok (.iload_n 2, 1) := by decide +kernel
theorem dX11_set_29 : decode cX11_set 29 = .ok (.iload_n 3, 1) := by decide +kernel
theorem dX11_set_30 : decode cX11_set 30 = .ok (.invokevirtual 120, 3) := by decide +kernel
theorem dX11_set_33 : decode cX11_set 33 = .ok (.ireturn, 1) := by decide +kernel
theorem dX11_told_0 : decode cX11_told 0 = .ok (.aload_n 0, 1) := by decide +kernel
theorem dX11_told_1 : decode cX11_told 1 = .ok (.iload_n 1, 1) := by decide +kernel
theorem dX11_told_2 : decode cX11_told 2 = .ok (.invokevirtual 109, 3) := by decide +kernel
theorem dX11_told_5 : decode cX11_told 5 = .ok (.astore_n 3, 1) := by decide +kernel
theorem dX11_told_6 : decode cX11_told 6 = .ok (.iload_n 2, 1) := by decide +kernel
theorem dX11_told_7 : decode cX11_told 7 = .ok (.iconst 0, 1) := by decide +kernel
theorem dX11_told_8 : decode cX11_told 8 = .ok (.bipush 10, 2) := by decide +kernel
theorem dX11_told_10 : decode cX11_told 10 = .ok (.invokestatic 80, 3) := by decide +kernel
theorem dX11_told_13 : decode cX11_told 13 = .ok (.invokestatic 85, 3) := by decide +kernel
theorem dX11_told_16 : decode cX11_told 16 = .ok (.aload_n 3, 1) := by decide +kernel
theorem dX11_told_17 : decode cX11_told 17 = .ok (.iload_n 2, 1) := by decide +kernel
theorem dX11_told_18 : decode cX11_told 18 = .ok (.invokevirtual 124, 3) := by decide +kernel
theorem dX11_told_21 : decode cX11_told 21 = .ok (.ireturn, 1) := by decide +kernel
theorem dX11_reel_0 : decode cX11_reel 0 = .ok (.iload_n 1, 1) := by decide +kernel
theorem dX11_reel_1 : decode cX11_reel 1 = .ok (.iconst 1, 1) := by decide +kernel
theorem dX11_reel_2 : decode cX11_reel 2 = .ok (.sipush 2000, 3) := by decide +kernel
theorem dX11_reel_5 : decode cX11_reel 5 = .ok (.invokestatic 80, 3) := by decide +kernel
theorem dX11_reel_8 : decode cX11_reel 8 = .ok (.ifCond .eq 18, 3) := by decide +kernel
theorem dX11_reel_11 : decode cX11_reel 11 = .ok (.iload_n 2, 1) := by decide +kernel
theorem dX11_reel_12 : decode cX11_reel 12 = .ok (.iconst 0, 1) := by decide +kernel
theorem dX11_reel_13 : decode cX11_reel 13 = .ok (.sipush 500, 3) := by decide +kernel
theorem dX11_reel_16 : decode cX11_reel 16 = .ok (.invokestatic 80, 3) := by decide +kernel
theorem dX11_reel_19 : decode cX11_reel 19 = .ok (.ifCond .eq 7, 3) := by decide +kernel
theorem dX11_reel_22 : decode cX11_reel 22 = .ok (.iconst 1, 1) := by decide +kernel
theorem dX11_reel_23 : decode cX11_reel 23 = .ok (.goto 4, 3) := by decide +kernel
theorem dX11_reel_26 : decode cX11_reel 26 = .ok (.iconst 0, 1) := by decide +kernel
theorem dX11_reel_27 : decode cX11_reel 27 = .ok (.invokestatic 85, 3) := by decide +kernel
theorem dX11_reel_30 : decode cX11_reel 30 = .ok (.aload_n 0, 1) := by decide +kernel
theorem dX11_reel_31 : decode cX11_reel 31 = .ok (.getfield 16, 3) := by decide +kernel
theorem dX11_reel_34 : decode cX11_reel 34 = .ok (.invokevirtual 89, 3) := by decide +kernel
theorem dX11_reel_37 : decode cX11_reel 37 = .ok (.bipush 80, 2) := by decide +kernel
theorem dX11_reel_39 : decode cX11_reel 39 = .ok (.if_icmp .lt 5, 3) := by decide +kernel
theorem dX11_reel_42 : decode cX11_reel 42 = .ok (.iconst (-1), 1) := by decide +kernel
theorem dX11_reel_43 : decode cX11_reel 43 = .ok (.ireturn, 1) := by decide +kernel
theorem dX11_reel_44 : decode cX11_reel 44 = .ok (.aload_n 0, 1) := by decide +kernel
theorem dX11_reel_45 : decode cX11_reel 45 = .ok (.getfield 16, 3) := by decide +kernel
theorem dX11_reel_48 : decode cX11_reel 48 = .ok (.new 128, 3) := by decide +kernel
theorem dX11_reel_51 : decode cX11_reel 51 = .ok (.dup, 1) := by decide +kernel
theorem dX11_reel_52 : decode cX11_reel 52 = .ok (.iload_n 1, 1) := by decide +kernel
theorem dX11_reel_53 : decode cX11_reel 53 = .ok (.sipush 1000, 3) := by decide +kernel
theorem dX11_reel_56 : decode cX11_reel 56 = .ok (.iload_n 2, 1) := by decide +kernel
theorem dX11_reel_57 : decode cX11_reel 57 = .ok (.isub, 1) := by decide +kernel
theorem dX11_reel_58 : decode cX11_reel 58 = .ok (.imul, 1) := by decide +kernel
theorem dX11_reel_59 : decode cX11_reel 59 = .ok (.sipush 1000, 3) := by decide +kernel
theorem dX11_reel_62 : decode cX11_reel 62 = .ok (.idiv, 1) := by decide +kernel
theorem dX11_reel_63 : decode cX11_reel 63 = .ok (.invokespecial 130, 3) := by decide +kernel
theorem dX11_reel_66 : decode cX11_reel 66 = .ok (.invokevirtual 105, 3) := by decide +kernel
theorem dX11_reel_69 : decode cX11_reel 69 = .ok (.pop, 1) := by decide +kernel
theorem dX11_reel_70 : decode cX11_reel 70 = .ok (.aload_n 0, 1) := by decide +kernel
theorem dX11_reel_71 : decode cX11_reel 71 = .ok (.getfield 16, 3) := by decide +kernel
theorem dX11_reel_74 : decode cX11_reel 74 = .ok (.invokevirtual 89, 3) := by decide +kernel
theorem dX11_reel_77 : decode cX11_reel 77 = .ok (.iconst 1, 1) := by decide +kernel
theorem dX11_reel_78 : decode cX11_reel 78 = .ok (.isub, 1) := by decide +kernel
theorem dX11_reel_79 : decode cX11_reel 79 = .ok (.ireturn, 1) := by decide +kernel
theorem dX11_where_0 : decode cX11_where 0 = .ok (.aload_n 0, 1) := by decide +kernel
theorem dX11_where_1 : decode cX11_where 1 = .ok (.iload_n 1, 1) := by decide +kernel
theorem dX11_where_2 : decode cX11_where 2 = .ok (.invokevirtual 131, 3) := by decide +kernel
theorem dX11_where_5 : decode cX11_where 5 = .ok (.getfield 135, 3) := by decide +kernel
theorem dX11_where_8 : decode cX11_where 8 = .ok (.ireturn, 1) := by decide +kernel
theorem dX11_steal_0 : decode cX11_steal 0 = .ok (.aload_n 0, 1) := by decide +kernel
theorem dX11_steal_1 : decode cX11_steal 1 = .ok (.iload_n 1, 1) := by decide +kernel
theorem dX11_steal_2 : decode cX11_steal 2 = .ok (.invokevirtual 131, 3) := by decide +kernel
theorem dX11_steal_5 : decode cX11_steal 5 = .ok (.astore_n 2, 1) := by decide +kernel
theorem dX11_steal_6 : decode cX11_steal 6 = .ok (.aload_n 2, 1) := by decide +kernel
theorem dX11_steal_7 : decode cX11_steal 7 = .ok (.getfield 135, 3) := by decide +kernel
theorem dX11_steal_10 : decode cX11_steal 10 = .ok (.istore_n 3, 1) := by decide +kernel
theorem dX11_steal_11 : decode cX11_steal 11 = .ok (.iload_n 3, 1) := by decide +kernel
theorem dX11_steal_12 : decode cX11_steal 12 = .ok (.bipush (-2), 2) := by decide +kernel
theorem dX11_steal_14 : decode cX11_steal 14 = .ok (.if_icmp .ne 6, 3) := by decide +kernel
theorem dX11_steal_17 : decode cX11_steal 17 = .ok (.bipush (-3), 2) := by decide +kernel
theorem dX11_steal_19 : decode cX11_steal 19 = .ok (.ireturn, 1) := by decide +kernel
theorem dX11_steal_20 : decode cX11_steal 20 = .ok (.iload_n 3, 1) := by decide +kernel
theorem dX11_steal_21 : decode cX11_steal 21 = .ok (.ifCond .lt 46, 3) := by decide +kernel
theorem dX11_steal_24 : decode cX11_steal 24 = .ok (.iload_n 3, 1) := by decide +kernel
theorem dX11_steal_25 : decode cX11_steal 25 = .ok (.aload_n 0, 1) := by decide +kernel
theorem dX11_steal_26 : decode cX11_steal 26 = .ok (.getfield 10, 3) := by decide +kernel
theorem dX11_steal_29 : decode cX11_steal 29 = .ok (.invokevirtual 89, 3) := by decide +kernel
theorem dX11_steal_32 : decode cX11_steal 32 = .ok (.if_icmp .ge 35, 3) := by decide +kernel
theorem dX11_steal_35 : decode cX11_steal 35 = .ok (.aload_n 0, 1) := by decide +kernel
theorem dX11_steal_36 : decode cX11_steal 36 = .ok (.getfield 10, 3) := by decide +kernel
theorem dX11_steal_39 : decode cX11_steal 39 = .ok (.iload_n 3, 1) := by decide +kernel
theorem dX11_steal_40 : decode cX11_steal 40 = .ok (.invokevirtual 138, 3) := by decide +kernel
theorem dX11_steal_43 : decode cX11_steal 43 = .ok (.checkcast 100, 3) := by decide +kernel
theorem dX11_steal_46 : decode cX11_steal 46 = .ok (.astore 4, 2) := by decide +kernel
theorem dX11_steal_48 : decode cX11_steal 48 = .ok (.aload 4, 2) := by decide +kernel
theorem dX11_steal_50 : decode cX11_steal 50 = .ok (.aload 4, 2) := by decide +kernel
theorem dX11_steal_52 : decode cX11_steal 52 = .ok (.getfield 142, 3) := by decide +kernel
theorem dX11_steal_55 : decode cX11_steal 55 = .ok (.aload_n 2, 1) := by decide +kernel
theorem dX11_steal_56 : decode cX11_steal 56 = .ok (.getfield 145, 3) := by decide +kernel
theorem dX11_steal_59 : decode cX11_steal 59 = .ok (.isub, 1) := by decide +kernel
theorem dX11_steal_60 : decode cX11_steal 60 = .ok (.iconst 0, 1) := by decide +kernel
theorem dX11_steal_61 : decode cX11_steal 61 = .ok (.invokestatic 148, 3) := by decide +kernel
theorem dX11_steal_64 : decode cX11_steal 64 = .ok (.putfield 142, 3) := by decide +kernel
theorem dX11_steal_67 : decode cX11_steal 67 = .ok (.aload_n 2, 1) := by decide +kernel
theorem dX11_steal_68 : decode cX11_steal 68 = .ok (.bipush (-2), 2) := by decide +kernel
theorem dX11_steal_70 : decode cX11_steal 70 = .ok (.putfield 135, 3) := by decide +kernel
theorem dX11_steal_73 : decode cX11_steal 73 = .ok (.iload_n 3, 1) := by decide +kernel
theorem dX11_steal_74 : decode cX11_steal 74 = .ok (.ireturn, 1) := by decide +kernel
theorem dX11_find_0 : decode cX11_find 0 = .ok (.aload_n 0, 1) := by decide +kernel
theorem dX11_find_1 : decode cX11_find 1 = .ok (.iload_n 1, 1) := by decide +kernel
theorem dX11_find_2 : decode cX11_find 2 = .ok (.invokevirtual 131, 3) := by decide +kernel
theorem dX11_find_5 : decode cX11_find 5 = .ok (.astore_n 2, 1) := by decide +kernel
theorem dX11_find_6 : decode cX11_find 6 = .ok (.aload_n 2, 1) := by decide +kernel
theorem dX11_find_7 : decode cX11_find 7 = .ok (.getfield 135, 3) := by decide +kernel
theorem dX11_find_10 : decode cX11_find 10 = .ok (.bipush (-2), 2) := by decide +kernel
theorem dX11_find_12 : decode cX11_find 12 = .ok (.if_icmp .eq 5, 3) := by decide +kernel
theorem dX11_find_15 : decode cX11_find 15 = .ok (.iconst (-1), 1) := by decide +kernel
theorem dX11_find_16 : decode cX11_find 16 = .ok (.ireturn, 1) := by decide +kernel
theorem dX11_find_17 : decode cX11_find 17 = .ok (.aload_n 2, 1) := by decide +kernel
theorem dX11_find_18 : decode cX11_find 18 = .ok (.iconst (-1), 1) := by decide +kernel
theorem dX11_find_19 : decode cX11_find 19 = .ok (.putfield 135, 3) := by decide +kernel
theorem dX11_find_22 : decode cX11_find 22 = .ok (.aload_n 2, 1) := by decide +kernel
theorem dX11_find_23 : decode cX11_find 23 = .ok (.getfield 145, 3) := by decide +kernel
theorem dX11_find_26 : decode cX11_find 26 = .ok (.ireturn, 1) := by decide +kernel
theorem dX11_ward_0 : decode cX11_ward 0 = .ok (.iload_n 1, 1) := by decide +kernel
theorem dX11_ward_1 : decode cX11_ward 1 = .ok (.iconst 0, 1) := by decide +kernel
theorem dX11_ward_2 : decode cX11_ward 2 = .ok (.sipush 1000, 3) := by decide +kernel
theorem dX11_ward_5 : decode cX11_ward 5 = .ok (.invokestatic 80, 3) := by decide +kernel
theorem dX11_ward_8 : decode cX11_ward 8 = .ok (.invokestatic 85, 3) := by decide +kernel
theorem dX11_ward_11 : decode cX11_ward 11 = .ok (.aload_n 0, 1) := by decide +kernel
theorem dX11_ward_12 : decode cX11_ward 12 = .ok (.getfield 29, 3) := by decide +kernel
theorem dX11_ward_15 : decode cX11_ward 15 = .ok (.ifCond .lt 15, 3) := by decide +kernel
theorem dX11_ward_18 : decode cX11_ward 18 = .ok (.aload_n 0, 1) := by decide +kernel
theorem dX11_ward_19 : decode cX11_ward 19 = .ok (.getfield 29, 3) := by decide +kernel
theorem dX11_ward_22 : decode cX11_ward 22 = .ok (.aload_n 0, 1) := by decide +kernel
theorem dX11_ward_23 : decode cX11_ward 23 = .ok (.getfield 25, 3) := by decide +kernel
theorem dX11_ward_26 : decode cX11_ward 26 = .ok (.arraylength, 1) := by decide +kernel
theorem dX11_ward_27 : decode cX11_ward 27 = .ok (.if_icmp .lt 5, 3) := by decide +kernel
theorem dX11_ward_30 : decode cX11_ward 30 = .ok (.iconst (-1), 1) := by decide +kernel
theorem dX11_ward_31 : decode cX11_ward 31 = .ok (.ireturn, 1) := by decide +kernel
theorem dX11_ward_32 : decode cX11_ward 32 = .ok (.aload_n 0, 1) := by decide +kernel
theorem dX11_ward_33 : decode cX11_ward 33 = .ok (.getfield 25, 3) := by decide +kernel
theorem dX11_ward_36 : decode cX11_ward 36 = .ok (.aload_n 0, 1) := by decide +kernel
theorem dX11_ward_37 : decode cX11_ward 37 = .ok (.getfield 29, 3) := by decide +kernel
theorem dX11_ward_40 : decode cX11_ward 40 = .ok (.iload_n 1, 1) := by decide +kernel
theorem dX11_ward_41 : decode cX11_ward 41 = .ok (.iastore, 1) := by decide +kernel
theorem dX11_ward_42 : decode cX11_ward 42 = .ok (.aload_n 0, 1) := by decide +kernel
theorem dX11_ward_43 : decode cX11_ward 43 = .ok (.dup, 1) := by decide +kernel
theorem dX11_ward_44 : decode cX11_ward 44 = .ok (.getfield 29, 3) := by decide +kernel
theorem dX11_ward_47 : decode cX11_ward 47 = .ok (.iconst 1, 1) := by decide +kernel
theorem dX11_ward_48 : decode cX11_ward 48 = .ok (.iadd, 1) := by decide +kernel
theorem dX11_ward_49 : decode cX11_ward 49 = .ok (.putfield 29, 3) := by decide +kernel
theorem dX11_ward_52 : decode cX11_ward 52 = .ok (.aload_n 0, 1) := by decide +kernel
theorem dX11_ward_53 : decode cX11_ward 53 = .ok (.getfield 29, 3) := by decide +kernel
theorem dX11_ward_56 : decode cX11_ward 56 = .ok (.iconst 1, 1) := by decide +kernel
theorem dX11_ward_57 : decode cX11_ward 57 = .ok (.isub, 1) := by decide +kernel
theorem dX11_ward_58 : decode cX11_ward 58 = .ok (.ireturn, 1) := by decide +kernel
theorem dX11_loyal_0 : decode cX11_loyal 0 = .ok (.aload_n 0, 1) := by decide +kernel
theorem dX11_loyal_1 : decode cX11_loyal 1 = .ok (.iload_n 2, 1) := by decide +kernel
theorem dX11_loyal_2 : decode cX11_loyal 2 = .ok (.invokevirtual 109, 3) := by decide +kernel
theorem dX11_loyal_5 : decode cX11_loyal 5 = .ok (.astore 4, 2) := by decide +kernel
theorem dX11_loyal_7 : decode cX11_loyal 7 = .ok (.iload_n 1, 1) := by decide +kernel
theorem dX11_loyal_8 : decode cX11_loyal 8 = .ok (.ifCond .lt 21, 3) := by decide +kernel
theorem dX11_loyal_11 : decode cX11_loyal 11 = .ok (.iload_n 1, 1) := by decide +kernel
theorem dX11_loyal_12 : decode cX11_loyal 12 = .ok (.aload_n 0, 1) := by decide +kernel
theorem dX11_loyal_13 : decode cX11_loyal 13 = .ok (.getfield 29, 3) := by decide +kernel
theorem dX11_loyal_16 : decode cX11_loyal 16 = .ok (.if_icmp .ge 13, 3) := by decide +kernel
theorem dX11_loyal_19 : decode cX11_loyal 19 = .ok (.iload_n 1, 1) := by decide +kernel
theorem dX11_loyal_20 : decode cX11_loyal 20 = .ok (.aload 4, 2) := by decide +kernel
theorem dX11_loyal_22 : decode cX11_loyal 22 = .ok (.getfield 153, 3) := by decide +kernel
theorem dX11_loyal_25 : decode cX11_loyal 25 = .ok (.arraylength, 1) := by decide +kernel
theorem dX11_loyal_26 : decode cX11_loyal 26 = .ok (.if_icmp .lt 13, 3) := by decide +kernel
theorem dX11_loyal_29 : decode cX11_loyal 29 = .ok (.new 156, 3) := by decide +kernel
theorem dX11_loyal_32 : decode cX11_loyal 32 = .ok (.dup, 1) := by decide +kernel
theorem dX11_loyal_33 : decode cX11_loyal 33 = .ok (.ldc 158, 2) := by decide +kernel
theorem dX11_loyal_35 : decode cX11_loyal 35 = .ok (.invokespecial 160, 3) := by decide +kernel
theorem dX11_loyal_38 : decode cX11_loyal 38 = .ok (.athrow, 1) := by decide +kernel
theorem dX11_loyal_39 : decode cX11_loyal 39 = .ok (.iload_n 3, 1) := by decide +kernel
theorem dX11_loyal_40 : decode cX11_loyal 40 = .ok (.iconst 0, 1) := by decide +kernel
theorem dX11_loyal_41 : decode cX11_loyal 41 = .ok (.bipush 100, 2) := by decide +kernel
theorem dX11_loyal_43 : decode cX11_loyal 43 = .ok (.invokestatic 80, 3) := by decide +kernel
theorem dX11_loyal_46 : decode cX11_loyal 46 = .ok (.invokestatic 85, 3) := by decide +kernel
theorem dX11_loyal_49 : decode cX11_loyal 49 = .ok (.aload 4, 2) := by decide +kernel
theorem dX11_loyal_51 : decode cX11_loyal 51 = .ok (.getfield 153, 3) := by decide +kernel
theorem dX11_loyal_54 : decode cX11_loyal 54 = .ok (.iload_n 1, 1) := by decide +kernel
theorem dX11_loyal_55 : decode cX11_loyal 55 = .ok (.iaload, 1) := by decide +kernel
theorem dX11_loyal_56 : decode cX11_loyal 56 = .ok (.istore 5, 2) := by decide +kernel
theorem dX11_loyal_58 : decode cX11_loyal 58 = .ok (.aload 4, 2) := by decide +kernel
theorem dX11_loyal_60 : decode cX11_loyal 60 = .ok (.getfield 153, 3) := by decide +kernel
theorem dX11_loyal_63 : decode cX11_loyal 63 = .ok (.iload_n 1, 1) := by decide +kernel
theorem dX11_loyal_64 : decode cX11_loyal 64 = .ok (.iload_n 3, 1) := by decide +kernel
theorem dX11_loyal_65 : decode cX11_loyal 65 = .ok (.iastore, 1) := by decide +kernel
theorem dX11_loyal_66 : decode cX11_loyal 66 = .ok (.iload 5, 2) := by decide +kernel
theorem dX11_loyal_68 : decode cX11_loyal 68 = .ok (.ireturn, 1) := by decide +kernel
theorem dX11_demand_0 : decode cX11_demand 0 = .ok (.aload_n 0, 1) := by decide +kernel
theorem dX11_demand_1 : decode cX11_demand 1 = .ok (.iload_n 1, 1) := by decide +kernel
theorem dX11_demand_2 : decode cX11_demand 2 = .ok (.invokevirtual 109, 3) := by decide +kernel
theorem dX11_demand_5 : decode cX11_demand 5 = .ok (.astore_n 3, 1) := by decide +kernel
theorem dX11_demand_6 : decode cX11_demand 6 = .ok (.iload_n 2, 1) := by decide +kernel
theorem dX11_demand_7 : decode cX11_demand 7 = .ok (.iconst 1, 1) := by decide +kernel
theorem dX11_demand_8 : decode cX11_demand 8 = .ok (.bipush 100, 2) := by decide +kernel
theorem dX11_demand_10 : decode cX11_demand 10 = .ok (.invokestatic 80, 3) := by decide +kernel
theorem dX11_demand_13 : decode cX11_demand 13 = .ok (.invokestatic 85, 3) := by decide +kernel
theorem dX11_demand_16 : decode cX11_demand 16 = .ok (.aload_n 0, 1) := by decide +kernel
theorem dX11_demand_17 : decode cX11_demand 17 = .ok (.aload_n 3, 1) := by decide +kernel
theorem dX11_demand_18 : decode cX11_demand 18 = .ok (.iload_n 2, 1) := by decide +kernel
theorem dX11_demand_19 : decode cX11_demand 19 = .ok (.invokevirtual 161, 3) := by decide +kernel
theorem dX11_demand_22 : decode cX11_demand 22 = .ok (.ireturn, 1) := by decide +kernel
theorem dX11_feed_0 : decode cX11_feed 0 = .ok (.aload_n 0, 1) := by decide +kernel
theorem dX11_feed_1 : decode cX11_feed 1 = .ok (.getfield 48, 3) := by decide +kernel
theorem dX11_feed_4 : decode cX11_feed 4 = .ok (.getfield 165, 3) := by decide +kernel
theorem dX11_feed_7 : decode cX11_feed 7 = .ok (.bipush 20, 2) := by decide +kernel
theorem dX11_feed_9 : decode cX11_feed 9 = .ok (.iadd, 1) := by decide +kernel
theorem dX11_feed_10 : decode cX11_feed 10 = .ok (.sipush 300, 3) := by decide +kernel
theorem dX11_feed_13 : decode cX11_feed 13 = .ok (.if_icmp .le 5, 3) := by decide +kernel
theorem dX11_feed_16 : decode cX11_feed 16 = .ok (.iconst (-1), 1) := by decide +kernel
theorem dX11_feed_17 : decode cX11_feed 17 = .ok (.ireturn, 1) := by decide +kernel
theorem dX11_feed_18 : decode cX11_feed 18 = .ok (.aload_n 0, 1) := by decide +kernel
theorem dX11_feed_19 : decode cX11_feed 19 = .ok (.getfield 48, 3) := by decide +kernel
theorem dX11_feed_22 : decode cX11_feed 22 = .ok (.iload_n 1, 1) := by decide +kernel
theorem dX11_feed_23 : decode cX11_feed 23 = .ok (.invokevirtual 168, 3) := by decide +kernel
theorem dX11_feed_26 : decode cX11_feed 26 = .ok (.aload_n 0, 1) := by decide +kernel
theorem dX11_feed_27 : decode cX11_feed 27 = .ok (.getfield 48, 3) := by decide +kernel
theorem dX11_feed_30 : decode cX11_feed 30 = .ok (.iload_n 2, 1) := by decide +kernel
theorem dX11_feed_31 : decode cX11_feed 31 = .ok (.invokevirtual 168, 3) := by decide +kernel
theorem dX11_feed_34 : decode cX11_feed 34 = .ok (.aload_n 0, 1) := by decide +kernel
theorem dX11_feed_35 : decode cX11_feed 35 = .ok (.getfield 48, 3) := by decide +kernel
theorem dX11_feed_38 : decode cX11_feed 38 = .ok (.iload_n 3, 1) := by decide +kernel
theorem dX11_feed_39 : decode cX11_feed 39 = .ok (.invokevirtual 168, 3) := by decide +kernel
theorem dX11_feed_42 : decode cX11_feed 42 = .ok (.aload_n 0, 1) := by decide +kernel
theorem dX11_feed_43 : decode cX11_feed 43 = .ok (.getfield 48, 3) := by decide +kernel
theorem dX11_feed_46 : decode cX11_feed 46 = .ok (.iload 4, 2) := by decide +kernel
theorem dX11_feed_48 : decode cX11_feed 48 = .ok (.invokevirtual 168, 3) := by decide +kernel
theorem dX11_feed_51 : decode cX11_feed 51 = .ok (.aload_n 0, 1) := by decide +kernel
theorem dX11_feed_52 : decode cX11_feed 52 = .ok (.getfield 48, 3) := by decide +kernel
theorem dX11_feed_55 : decode cX11_feed 55 = .ok (.iload 5, 2) := by decide +kernel
theorem dX11_feed_57 : decode cX11_feed 57 = .ok (.invokevirtual 168, 3) := by decide +kernel
theorem dX11_feed_60 : decode cX11_feed 60 = .ok (.aload_n 0, 1) := by decide +kernel
theorem dX11_feed_61 : decode cX11_feed 61 = .ok (.getfield 48, 3) := by decide +kernel
theorem dX11_feed_64 : decode cX11_feed 64 = .ok (.getfield 165, 3) := by decide +kernel
theorem dX11_feed_67 : decode cX11_feed 67 = .ok (.ireturn, 1) := by decide +kernel
theorem dX11_order_0 : decode cX11_order 0 = .ok (.iload_n 1, 1) := by decide +kernel
theorem dX11_order_1 : decode cX11_order 1 = .ok (.iconst 0, 1) := by decide +kernel
theorem dX11_order_2 : decode cX11_order 2 = .ok (.sipush 600, 3) := by decide +kernel
theorem dX11_order_5 : decode cX11_order 5 = .ok (.invokestatic 80, 3) := by decide +kernel
theorem dX11_order_8 : decode cX11_order 8 = .ok (.ifCond .eq 22, 3) := by decide +kernel
theorem dX11_order_11 : decode cX11_order 11 = .ok (.iload_n 2, 1) := by decide +kernel
theorem dX11_order_12 : decode cX11_order 12 = .ok (.iconst 0, 1) := by decide +kernel
theorem dX11_order_13 : decode cX11_order 13 = .ok (.aload_n 0, 1) := by decide +kernel
theorem dX11_order_14 : decode cX11_order 14 = .ok (.getfield 48, 3) := by decide +kernel
theorem dX11_order_17 : decode cX11_order 17 = .ok (.getfield 165, 3) := by decide +kernel
theorem dX11_order_20 : decode cX11_order 20 = .ok (.invokestatic 80, 3) := by decide +kernel
theorem dX11_order_23 : decode cX11_order 23 = .ok (.ifCond .eq 7, 3) := by decide +kernel
theorem dX11_order_26 : decode cX11_order 26 = .ok (.iconst 1, 1) := by decide +kernel
theorem dX11_order_27 : decode cX11_order 27 = .ok (.goto 4, 3) := by decide +kernel
theorem dX11_order_30 : decode cX11_order 30 = .ok (.iconst 0, 1) := by decide +kernel
theorem dX11_order_31 : decode cX11_order 31 = .ok (.invokestatic 85, 3) := by decide +kernel
theorem dX11_order_34 : decode cX11_order 34 = .ok (.aload_n 0, 1) := by decide +kernel
theorem dX11_order_35 : decode cX11_order 35 = .ok (.getfield 48, 3) := by decide +kernel
theorem dX11_order_38 : decode cX11_order 38 = .ok (.invokevirtual 171, 3) := by decide +kernel
theorem dX11_order_41 : decode cX11_order 41 = .ok (.aload_n 0, 1) := by decide +kernel
theorem dX11_order_42 : decode cX11_order 42 = .ok (.getfield 19, 3) := by decide +kernel
theorem dX11_order_45 : decode cX11_order 45 = .ok (.invokevirtual 89, 3) := by decide +kernel
theorem dX11_order_48 : decode cX11_order 48 = .ok (.bipush 10, 2) := by decide +kernel
theorem dX11_order_50 : decode cX11_order 50 = .ok (.if_icmp .lt 5, 3) := by decide +kernel
theorem dX11_order_53 : decode cX11_order 53 = .ok (.iconst (-1), 1) := by decide +kernel
theorem dX11_order_54 : decode cX11_order 54 = .ok (.ireturn, 1) := by decide +kernel
theorem dX11_order_55 : decode cX11_order 55 = .ok (.aload_n 0, 1) := by decide +kernel
theorem dX11_order_56 : decode cX11_order 56 = .ok (.getfield 48, 3) := by decide +kernel
theorem dX11_order_59 : decode cX11_order 59 = .ok (.iload_n 1, 1) := by decide +kernel
theorem dX11_order_60 : decode cX11_order 60 = .ok (.iload_n 2, 1) := by decide +kernel
theorem dX11_order_61 : decode cX11_order 61 = .ok (.invokevirtual 174, 3) := by decide +kernel
theorem dX11_order_64 : decode cX11_order 64 = .ok (.astore_n 3, 1) := by decide +kernel
theorem dX11_order_65 : decode cX11_order 65 = .ok (.aload_n 3, 1) := by decide +kernel
theorem dX11_order_66 : decode cX11_order 66 = .ok (.ifnonnull 14, 3) := by decide +kernel
theorem dX11_order_69 : decode cX11_order 69 = .ok (.aload_n 0, 1) := by decide +kernel
theorem dX11_order_70 : decode cX11_order 70 = .ok (.getfield 48, 3) := by decide +kernel
theorem dX11_order_73 : decode cX11_order 73 = .ok (.getfield 178, 3) := by decide +kernel
theorem dX11_order_76 : decode cX11_order 76 = .ok (.bipush 10, 2) := by decide +kernel
theorem dX11_order_78 : decode cX11_order 78 = .ok (.isub, 1) := by decide +kernel
theorem dX11_order_79 : decode cX11_order 79 = .ok (.ireturn, 1) := by decide +kernel
theorem dX11_order_80 : decode cX11_order 80 = .ok (.aload_n 0, 1) := by decide +kernel
theorem dX11_order_81 : decode cX11_order 81 = .ok (.getfield 19, 3) := by decide +kernel
theorem dX11_order_84 : decode cX11_order 84 = .ok (.aload_n 3, 1) := by decide +kernel
theorem dX11_order_85 : decode cX11_order 85 = .ok (.invokevirtual 105, 3) := by decide +kernel
theorem dX11_order_88 : decode cX11_order 88 = .ok (.pop, 1) := by decide +kernel
theorem dX11_order_89 : decode cX11_order 89 = .ok (.aload_n 0, 1) := by decide +kernel
theorem dX11_order_90 : decode cX11_order 90 = .ok (.getfield 19, 3) := by decide +kernel
theorem dX11_order_93 : decode cX11_order 93 = .ok (.invokevirtual 89, 3) := by decide +kernel
theorem dX11_order_96 : decode cX11_order 96 = .ok (.iconst 1, 1) := by decide +kernel
theorem dX11_order_97 : decode cX11_order 97 = .ok (.isub, 1) := by decide +kernel
theorem dX11_order_98 : decode cX11_order 98 = .ok (.ireturn, 1) := by decide +kernel
theorem dX11_fault_0 : decode cX11_fault 0 = .ok (.aload_n 0, 1) := by decide +kernel
theorem dX11_fault_1 : decode cX11_fault 1 = .ok (.getfield 48, 3) := by decide +kernel
theorem dX11_fault_4 : decode cX11_fault 4 = .ok (.getfield 181, 3) := by decide +kernel
theorem dX11_fault_7 : decode cX11_fault 7 = .ok (.ireturn, 1) := by decide +kernel
theorem dX11_force_0 : decode cX11_force 0 = .ok (.iload_n 1, 1) := by decide +kernel
theorem dX11_force_1 : decode cX11_force 1 = .ok (.iconst 0, 1) := by decide +kernel
theorem dX11_force_2 : decode cX11_force 2 = .ok (.sipush 600, 3) := by decide +kernel
theorem dX11_force_5 : decode cX11_force 5 = .ok (.invokestatic 80, 3) := by decide +kernel
theorem dX11_force_8 : decode cX11_force 8 = .ok (.invokestatic 85, 3) := by decide +kernel
theorem dX11_force_11 : decode cX11_force 11 = .ok (.aload_n 0, 1) := by decide +kernel
theorem dX11_force_12 : decode cX11_force 12 = .ok (.iload_n 1, 1) := by decide +kernel
theorem dX11_force_13 : decode cX11_force 13 = .ok (.invokevirtual 182, 3) := by decide +kernel
theorem dX11_force_16 : decode cX11_force 16 = .ok (.ireturn, 1) := by decide +kernel
theorem dX11_tells_0 : decode cX11_tells 0 = .ok (.aload_n 0, 1) := by decide +kernel
theorem dX11_tells_1 : decode cX11_tells 1 = .ok (.iload_n 1, 1) := by decide +kernel
theorem dX11_tells_2 : decode cX11_tells 2 = .ok (.invokevirtual 109, 3) := by decide +kernel
theorem dX11_tells_5 : decode cX11_tells 5 = .ok (.astore_n 3, 1) := by decide +kernel
theorem dX11_tells_6 : decode cX11_tells 6 = .ok (.iload_n 2, 1) := by decide +kernel
theorem dX11_tells_7 : decode cX11_tells 7 = .ok (.iconst 0, 1) := by decide +kernel
theorem dX11_tells_8 : decode cX11_tells 8 = .ok (.bipush 8, 2) := by decide +kernel
theorem dX11_tells_10 : decode cX11_tells 10 = .ok (.invokestatic 80, 3) := by decide +kernel
theorem dX11_tells_13 : decode cX11_tells 13 = .ok (.invokestatic 85, 3) := by decide +kernel
theorem dX11_tells_16 : decode cX11_tells 16 = .ok (.aload_n 0, 1) := by decide +kernel
theorem dX11_tells_17 : decode cX11_tells 17 = .ok (.invokevirtual 185, 3) := by decide +kernel
theorem dX11_tells_20 : decode cX11_tells 20 = .ok (.astore 4, 2) := by decide +kernel
theorem dX11_tells_22 : decode cX11_tells 22 = .ok (.iload_n 2, 1) := by decide +kernel
theorem dX11_tells_23 : decode cX11_tells 23 = .ok (.tableswitch 105 0 7 #[45, 53, 63, 75, 81, 87, 93, 99], 45) := by decide +kernel
theorem dX11_tells_68 : decode cX11_tells 68 = .ok (.aload_n 0, 1) := by decide +kernel
theorem dX11_tells_69 : decode cX11_tells 69 = .ok (.aload 4, 2) := by decide +kernel
theorem dX11_tells_71 : decode cX11_tells 71 = .ok (.aload_n 3, 1) := by decide +kernel
theorem dX11_tells_72 : decode cX11_tells 72 = .ok (.invokevirtual 189, 3) := by decide +kernel
theorem dX11_tells_75 : decode cX11_tells 75 = .ok (.ireturn, 1) := by decide +kernel
theorem dX11_tells_76 : decode cX11_tells 76 = .ok (.aload 4, 2) := by decide +kernel
theorem dX11_tells_78 : decode cX11_tells 78 = .ok (.aload_n 3, 1) := by decide +kernel
theorem dX11_tells_79 : decode cX11_tells 79 = .ok (.getfield 193, 3) := by decide +kernel
theorem dX11_tells_82 : decode cX11_tells 82 = .ok (.invokevirtual 196, 3) := by decide +kernel
theorem dX11_tells_85 : decode cX11_tells 85 = .ok (.ireturn, 1) := by decide +kernel
theorem dX11_tells_86 : decode cX11_tells 86 = .ok (.aload_n 0, 1) := by decide +kernel
theorem dX11_tells_87 : decode cX11_tells 87 = .ok (.aload 4, 2) := by decide +kernel
theorem dX11_tells_89 : decode cX11_tells 89 = .ok (.aload_n 3, 1) := by decide +kernel
theorem dX11_tells_90 : decode cX11_tells 90 = .ok (.aload_n 3, 1) := by decide +kernel
theorem dX11_tells_91 : decode cX11_tells 91 = .ok (.getfield 199, 3) := by decide +kernel
theorem dX11_tells_94 : decode cX11_tells 94 = .ok (.invokevirtual 202, 3) := by decide +kernel
theorem dX11_tells_97 : decode cX11_tells 97 = .ok (.ireturn, 1) := by decide +kernel
theorem dX11_tells_98 : decode cX11_tells 98 = .ok (.aload 4, 2) := by decide +kernel
theorem dX11_tells_100 : decode cX11_tells 100 = .ok (.getfield 206, 3) := by decide +kernel
theorem dX11_tells_103 : decode cX11_tells 103 = .ok (.ireturn, 1) := by decide +kernel
theorem dX11_tells_104 : decode cX11_tells 104 = .ok (.aload 4, 2) := by decide +kernel
theorem dX11_tells_106 : decode cX11_tells 106 = .ok (.getfield 209, 3) := by decide +kernel
theorem dX11_tells_109 : decode cX11_tells 109 = .ok (.ireturn, 1) := by decide +kernel
theorem dX11_tells_110 : decode cX11_tells 110 = .ok (.aload 4, 2) := by decide +kernel
theorem dX11_tells_112 : decode cX11_tells 112 = .ok (.getfield 212, 3) := by decide +kernel
theorem dX11_tells_115 : decode cX11_tells 115 = .ok (.ireturn, 1) := by decide +kernel
theorem dX11_tells_116 : decode cX11_tells 116 = .ok (.aload 4, 2) := by decide +kernel
theorem dX11_tells_118 : decode cX11_tells 118 = .ok (.getfield 215, 3) := by decide +kernel
theorem dX11_tells_121 : decode cX11_tells 121 = .ok (.ireturn, 1) := by decide +kernel
theorem dX11_tells_122 : decode cX11_tells 122 = .ok (.aload 4, 2) := by decide +kernel
theorem dX11_tells_124 : decode cX11_tells 124 = .ok (.getfield 218, 3) := by decide +kernel
theorem dX11_tells_127 : decode cX11_tells 127 = .ok (.ireturn, 1) := by decide +kernel
theorem dX11_tells_128 : decode cX11_tells 128 = .ok (.aload 4, 2) := by decide +kernel
theorem dX11_tells_130 : decode cX11_tells 130 = .ok (.getfield 221, 3) := by decide +kernel
theorem dX11_tells_133 : decode cX11_tells 133 = .ok (.ireturn, 1) := by decide +kernel
theorem dX11_bid_0 : decode cX11_bid 0 = .ok (.aload_n 0, 1) := by decide +kernel
theorem dX11_bid_1 : decode cX11_bid 1 = .ok (.iload_n 1, 1) := by decide +kernel
theorem dX11_bid_2 : decode cX11_bid 2 = .ok (.invokevirtual 109, 3) := by decide +kernel
theorem dX11_bid_5 : decode cX11_bid 5 = .ok (.astore 4, 2) := by decide +kernel
theorem dX11_bid_7 : decode cX11_bid 7 = .ok (.iload_n 2, 1) := by decide +kernel
theorem dX11_bid_8 : decode cX11_bid 8 = .ok (.iconst 1, 1) := by decide +kernel
theorem dX11_bid_9 : decode cX11_bid 9 = .ok (.ldc 84, 2) := by decide +kernel
theorem dX11_bid_11 : decode cX11_bid 11 = .ok (.invokestatic 80, 3) := by decide +kernel
theorem dX11_bid_14 : decode cX11_bid 14 = .ok (.ifCond .eq 17, 3) := by decide +kernel
theorem dX11_bid_17 : decode cX11_bid 17 = .ok (.iload_n 3, 1) := by decide +kernel
theorem dX11_bid_18 : decode cX11_bid 18 = .ok (.iconst 0, 1) := by decide +kernel
theorem dX11_bid_19 : decode cX11_bid 19 = .ok (.bipush 100, 2) := by decide +kernel
theorem dX11_bid_21 : decode cX11_bid 21 = .ok (.invokestatic 80, 3) := by decide +kernel
theorem dX11_bid_24 : decode cX11_bid 24 = .ok (.ifCond .eq 7, 3) := by decide +kernel
theorem dX11_bid_27 : decode cX11_bid 27 = .ok (.iconst 1, 1) := by decide +kernel
theorem dX11_bid_28 : decode cX11_bid 28 = .ok (.goto 4, 3) := by decide +kernel
theorem dX11_bid_31 : decode cX11_bid 31 = .ok (.iconst 0, 1) := by decide +kernel
theorem dX11_bid_32 : decode cX11_bid 32 = .ok (.invokestatic 85, 3) := by decide +kernel
theorem dX11_bid_35 : decode cX11_bid 35 = .ok (.aload 4, 2) := by decide +kernel
theorem dX11_bid_37 : decode cX11_bid 37 = .ok (.invokevirtual 224, 3) := by decide +kernel
theorem dX11_bid_40 : decode cX11_bid 40 = .ok (.ifCond .ne 5, 3) := by decide +kernel
theorem dX11_bid_43 : decode cX11_bid 43 = .ok (.iconst (-1), 1) := by decide +kernel
theorem dX11_bid_44 : decode cX11_bid 44 = .ok (.ireturn, 1) := by decide +kernel
theorem dX11_bid_45 : decode cX11_bid 45 = .ok (.aload 4, 2) := by decide +kernel
theorem dX11_bid_47 : decode cX11_bid 47 = .ok (.iload_n 2, 1) := by decide +kernel
theorem dX11_bid_48 : decode cX11_bid 48 = .ok (.putfield 228, 3) := by decide +kernel
theorem dX11_bid_51 : decode cX11_bid 51 = .ok (.aload 4, 2) := by decide +kernel
theorem dX11_bid_53 : decode cX11_bid 53 = .ok (.iload_n 3, 1) := by decide +kernel
theorem dX11_bid_54 : decode cX11_bid 54 = .ok (.putfield 231, 3) := by decide +kernel
theorem dX11_bid_57 : decode cX11_bid 57 = .ok (.iconst 1, 1) := by decide +kernel
theorem dX11_bid_58 : decode cX11_bid 58 = .ok (.ireturn, 1) := by decide +kernel
theorem dX11_parted_0 : decode cX11_parted 0 = .ok (.aload_n 0, 1) := by decide +kernel
theorem dX11_parted_1 : decode cX11_parted 1 = .ok (.iload_n 1, 1) := by decide +kernel
theorem dX11_parted_2 : decode cX11_parted 2 = .ok (.invokevirtual 109, 3) := by decide +kernel
theorem dX11_parted_5 : decode cX11_parted 5 = .ok (.astore_n 3, 1) := by decide +kernel
theorem dX11_parted_6 : decode cX11_parted 6 = .ok (.iload_n 2, 1) := by decide +kernel
theorem dX11_parted_7 : decode cX11_parted 7 = .ok (.iconst (-1), 1) := by decide +kernel
theorem dX11_parted_8 : decode cX11_parted 8 = .ok (.if_icmp .eq 12, 3) := by decide +kernel
theorem dX11_parted_11 : decode cX11_parted 11 = .ok (.iload_n 2, 1) := by decide +kernel
theorem dX11_parted_12 : decode cX11_parted 12 = .ok (.iconst 0, 1) := by decide +kernel
theorem dX11_parted_13 : decode cX11_parted 13 = .ok (.iconst 3, 1) := by decide +kernel
theorem dX11_parted_14 : decode cX11_parted 14 = .ok (.invokestatic 80, 3) := by decide +kernel
theorem dX11_parted_17 : decode cX11_parted 17 = .ok (.ifCond .eq 7, 3) := by decide +kernel
theorem dX11_parted_20 : decode cX11_parted 20 = .ok (.iconst 1, 1) := by decide +kernel
theorem dX11_parted_21 : decode cX11_parted 21 = .ok (.goto 4, 3) := by decide +kernel
theorem dX11_parted_24 : decode cX11_parted 24 = .ok (.iconst 0, 1) := by decide +kernel
theorem dX11_parted_25 : decode cX11_parted 25 = .ok (.invokestatic 85, 3) := by decide +kernel
theorem dX11_parted_28 : decode cX11_parted 28 = .ok (.aload_n 3, 1) := by decide +kernel
theorem dX11_parted_29 : decode cX11_parted 29 = .ok (.invokevirtual 224, 3) := by decide +kernel
theorem dX11_parted_32 : decode cX11_parted 32 = .ok (.ifCond .ne 5, 3) := by decide +kernel
theorem dX11_parted_35 : decode cX11_parted 35 = .ok (.iconst 0, 1) := by decide +kernel
theorem dX11_parted_36 : decode cX11_parted 36 = .ok (.ireturn, 1) := by decide +kernel
theorem dX11_parted_37 : decode cX11_parted 37 = .ok (.aload_n 0, 1) := by decide +kernel
theorem dX11_parted_38 : decode cX11_parted 38 = .ok (.invokevirtual 185, 3) := by decide +kernel
theorem dX11_parted_41 : decode cX11_parted 41 = .ok (.astore 4, 2) := by decide +kernel
theorem dX11_parted_43 : decode cX11_parted 43 = .ok (.aload_n 0, 1) := by decide +kernel
theorem dX11_parted_44 : decode cX11_parted 44 = .ok (.aload 4, 2) := by decide +kernel
theorem dX11_parted_46 : decode cX11_parted 46 = .ok (.iload_n 2, 1) := by decide +kernel
theorem dX11_parted_47 : decode cX11_parted 47 = .ok (.iconst (-1), 1) := by decide +kernel
theorem dX11_parted_48 : decode cX11_parted 48 = .ok (.if_icmp .ne 11, 3) := by decide +kernel
theorem dX11_parted_51 : decode cX11_parted 51 = .ok (.aload 4, 2) := by decide +kernel
theorem dX11_parted_53 : decode cX11_parted 53 = .ok (.getfield 221, 3) := by decide +kernel
theorem dX11_parted_56 : decode cX11_parted 56 = .ok (.goto 4, 3) := by decide +kernel
theorem dX11_parted_59 : decode cX11_parted 59 = .ok (.iload_n 2, 1) := by decide +kernel
theorem dX11_parted_60 : decode cX11_parted 60 = .ok (.invokevirtual 234, 3) := by decide +kernel
theorem dX11_parted_63 : decode cX11_parted 63 = .ok (.aload_n 0, 1) := by decide +kernel
theorem dX11_parted_64 : decode cX11_parted 64 = .ok (.getfield 62, 3) := by decide +kernel
theorem dX11_parted_67 : decode cX11_parted 67 = .ok (.iload_n 1, 1) := by decide +kernel
theorem dX11_parted_68 : decode cX11_parted 68 = .ok (.invokevirtual 238, 3) := by decide +kernel
theorem dX11_parted_71 : decode cX11_parted 71 = .ok (.ireturn, 1) := by decide +kernel
theorem dX11_months_0 : decode cX11_months 0 = .ok (.iload_n 1, 1) := by decide +kernel
theorem dX11_months_1 : decode cX11_months 1 = .ok (.iconst 0, 1) := by decide +kernel
theorem dX11_months_2 : decode cX11_months 2 = .ok (.bipush 24, 2) := by decide +kernel
theorem dX11_months_4 : decode cX11_months 4 = .ok (.invokestatic 80, 3) := by decide +kernel
theorem dX11_months_7 : decode cX11_months 7 = .ok (.invokestatic 85, 3) := by decide +kernel
theorem dX11_months_10 : decode cX11_months 10 = .ok (.aload_n 0, 1) := by decide +kernel
theorem dX11_months_11 : decode cX11_months 11 = .ok (.getfield 33, 3) := by decide +kernel
theorem dX11_months_14 : decode cX11_months 14 = .ok (.iload_n 1, 1) := by decide +kernel
theorem dX11_months_15 : decode cX11_months 15 = .ok (.iadd, 1) := by decide +kernel
theorem dX11_months_16 : decode cX11_months 16 = .ok (.sipush 600, 3) := by decide +kernel
theorem dX11_months_19 : decode cX11_months 19 = .ok (.if_icmp .le 13, 3) := by decide +kernel
theorem dX11_months_22 : decode cX11_months 22 = .ok (.new 93, 3) := by decide +kernel
theorem dX11_months_25 : decode cX11_months 25 = .ok (.dup, 1) := by decide +kernel
theorem dX11_months_26 : decode cX11_months 26 = .ok (.ldc 241, 2) := by decide +kernel
theorem dX11_months_28 : decode cX11_months 28 = .ok (.invokespecial 97, 3) := by decide +kernel
theorem dX11_months_31 : decode cX11_months 31 = .ok (.athrow, 1) := by decide +kernel
theorem dX11_months_32 : decode cX11_months 32 = .ok (.iconst 0, 1) := by decide +kernel
theorem dX11_months_33 : decode cX11_months 33 = .ok (.istore_n 2, 1) := by decide +kernel
theorem dX11_months_34 : decode cX11_months 34 = .ok (.iload_n 2, 1) := by decide +kernel
theorem dX11_months_35 : decode cX11_months 35 = .ok (.iload_n 1, 1) := by decide +kernel
theorem dX11_months_36 : decode cX11_months 36 = .ok (.if_icmp .ge 13, 3) := by decide +kernel
theorem dX11_months_39 : decode cX11_months 39 = .ok (.aload_n 0, 1) := by decide +kernel
theorem dX11_months_40 : decode cX11_months 40 = .ok (.invokevirtual 243, 3) := by decide +kernel
theorem dX11_months_43 : decode cX11_months 43 = .ok (.iinc 2 1, 3) := by decide +kernel
theorem dX11_months_46 : decode cX11_months 46 = .ok (.goto (-12), 3) := by decide +kernel
theorem dX11_months_49 : decode cX11_months 49 = .ok (.aload_n 0, 1) := by decide +kernel
theorem dX11_months_50 : decode cX11_months 50 = .ok (.getfield 33, 3) := by decide +kernel
theorem dX11_months_53 : decode cX11_months 53 = .ok (.ireturn, 1) := by decide +kernel
theorem dX11_swap_0 : decode cX11_swap 0 = .ok (.aload_n 0, 1) := by decide +kernel
theorem dX11_swap_1 : decode cX11_swap 1 = .ok (.iload_n 1, 1) := by decide +kernel
theorem dX11_swap_2 : decode cX11_swap 2 = .ok (.invokevirtual 109, 3) := by decide +kernel
theorem dX11_swap_5 : decode cX11_swap 5 = .ok (.astore 4, 2) := by decide +kernel
theorem dX11_swap_7 : decode cX11_swap 7 = .ok (.aload_n 0, 1) := by decide +kernel
theorem dX11_swap_8 : decode cX11_swap 8 = .ok (.iload_n 2, 1) := by decide +kernel
theorem dX11_swap_9 : decode cX11_swap 9 = .ok (.invokevirtual 109, 3) := by decide +kernel
theorem dX11_swap_12 : decode cX11_swap 12 = .ok (.astore 5, 2) := by decide +kernel
theorem dX11_swap_14 : decode cX11_swap 14 = .ok (.iload_n 3, 1) := by decide +kernel
theorem dX11_swap_15 : decode cX11_swap 15 = .ok (.iconst 1, 1) := by decide +kernel
theorem dX11_swap_16 : decode cX11_swap 16 = .ok (.ldc 84, 2) := by decide +kernel
theorem dX11_swap_18 : decode cX11_swap 18 = .ok (.invokestatic 80, 3) := by decide +kernel
theorem dX11_swap_21 : decode cX11_swap 21 = .ok (.invokestatic 85, 3) := by decide +kernel
theorem dX11_swap_24 : decode cX11_swap 24 = .ok (.aload_n 0, 1) := by decide +kernel
theorem dX11_swap_25 : decode cX11_swap 25 = .ok (.iload_n 1, 1) := by decide +kernel
theorem dX11_swap_26 : decode cX11_swap 26 = .ok (.iload_n 2, 1) := by decide +kernel
theorem dX11_swap_27 : decode cX11_swap 27 = .ok (.invokevirtual 246, 3) := by decide +kernel
theorem dX11_swap_30 : decode cX11_swap 30 = .ok (.ifCond .ne 5, 3) := by decide +kernel
theorem dX11_swap_33 : decode cX11_swap 33 = .ok (.iconst (-1), 1) := by decide +kernel
theorem dX11_swap_34 : decode cX11_swap 34 = .ok (.ireturn, 1) := by decide +kernel
theorem dX11_swap_35 : decode cX11_swap 35 = .ok (.aload 4, 2) := by decide +kernel
theorem dX11_swap_37 : decode cX11_swap 37 = .ok (.getfield 142, 3) := by decide +kernel
theorem dX11_swap_40 : decode cX11_swap 40 = .ok (.iload_n 3, 1) := by decide +kernel
theorem dX11_swap_41 : decode cX11_swap 41 = .ok (.if_icmp .ge 6, 3) := by decide +kernel
theorem dX11_swap_44 : decode cX11_swap 44 = .ok (.bipush (-2), 2) := by decide +kernel
theorem dX11_swap_46 : decode cX11_swap 46 = .ok (.ireturn, 1) := by decide +kernel
theorem dX11_swap_47 : decode cX11_swap 47 = .ok (.aload_n 0, 1) := by decide +kernel
theorem dX11_swap_48 : decode cX11_swap 48 = .ok (.invokevirtual 185, 3) := by decide +kernel
theorem dX11_swap_51 : decode cX11_swap 51 = .ok (.getfield 212, 3) := by decide +kernel
theorem dX11_swap_54 : decode cX11_swap 54 = .ok (.istore 6, 2) := by decide +kernel
theorem dX11_swap_56 : decode cX11_swap 56 = .ok (.iload 6, 2) := by decide +kernel
theorem dX11_swap_58 : decode cX11_swap 58 = .ok (.ifCond .ne 6, 3) := by decide +kernel
theorem dX11_swap_61 : decode cX11_swap 61 = .ok (.bipush (-3), 2) := by decide +kernel
theorem dX11_swap_63 : decode cX11_swap 63 = .ok (.ireturn, 1) := by decide +kernel
theorem dX11_swap_64 : decode cX11_swap 64 = .ok (.iload_n 3, 1) := by decide +kernel
theorem dX11_swap_65 : decode cX11_swap 65 = .ok (.iload 6, 2) := by decide +kernel
theorem dX11_swap_67 : decode cX11_swap 67 = .ok (.imul, 1) := by decide +kernel
theorem dX11_swap_68 : decode cX11_swap 68 = .ok (.bipush 100, 2) := by decide +kernel
theorem dX11_swap_70 : decode cX11_swap 70 = .ok (.idiv, 1) := by decide +kernel
theorem dX11_swap_71 : decode cX11_swap 71 = .ok (.istore 7, 2) := by decide +kernel
theorem dX11_swap_73 : decode cX11_swap 73 = .ok (.aload 4, 2) := by decide +kernel
theorem dX11_swap_75 : decode cX11_swap 75 = .ok (.dup, 1) := by decide +kernel
theorem dX11_swap_76 : decode cX11_swap 76 = .ok (.getfield 142, 3) := by decide +kernel
theorem dX11_swap_79 : decode cX11_swap 79 = .ok (.iload_n 3, 1) := by decide +kernel
theorem dX11_swap_80 : decode cX11_swap 80 = .ok (.isub, 1) := by decide +kernel
theorem dX11_swap_81 : decode cX11_swap 81 = .ok (.putfield 142, 3) := by decide +kernel
theorem dX11_swap_84 : decode cX11_swap 84 = .ok (.aload 5, 2) := by decide +kernel
theorem dX11_swap_86 : decode cX11_swap 86 = .ok (.dup, 1) := by decide +kernel
theorem dX11_swap_87 : decode cX11_swap 87 = .ok (.getfield 142, 3) := by decide +kernel
theorem dX11_swap_90 : decode cX11_swap 90 = .ok (.iload 7, 2) := by decide +kernel
theorem dX11_swap_92 : decode cX11_swap 92 = .ok (.iadd, 1) := by decide +kernel
theorem dX11_swap_93 : decode cX11_swap 93 = .ok (.putfield 142, 3) := by decide +kernel
theorem dX11_swap_96 : decode cX11_swap 96 = .ok (.aload 5, 2) := by decide +kernel
theorem dX11_swap_98 : decode cX11_swap 98 = .ok (.iload_n 1, 1) := by decide +kernel
theorem dX11_swap_99 : decode cX11_swap 99 = .ok (.iload 7, 2) := by decide +kernel
theorem dX11_swap_101 : decode cX11_swap 101 = .ok (.invokevirtual 249, 3) := by decide +kernel
theorem dX11_swap_104 : decode cX11_swap 104 = .ok (.iload 7, 2) := by decide +kernel
theorem dX11_swap_106 : decode cX11_swap 106 = .ok (.ireturn, 1) := by decide +kernel
theorem dX11_netted_0 : decode cX11_netted 0 = .ok (.aload_n 0, 1) := by decide +kernel
theorem dX11_netted_1 : decode cX11_netted 1 = .ok (.iload_n 1, 1) := by decide +kernel
theorem dX11_netted_2 : decode cX11_netted 2 = .ok (.invokevirtual 109, 3) := by decide +kernel
theorem dX11_netted_5 : decode cX11_netted 5 = .ok (.astore_n 3, 1) := by decide +kernel
theorem dX11_netted_6 : decode cX11_netted 6 = .ok (.aload_n 0, 1) := by decide +kernel
theorem dX11_netted_7 : decode cX11_netted 7 = .ok (.iload_n 2, 1) := by decide +kernel
theorem dX11_netted_8 : decode cX11_netted 8 = .ok (.invokevirtual 109, 3) := by decide +kernel
theorem dX11_netted_11 : decode cX11_netted 11 = .ok (.astore 4, 2) := by decide +kernel
theorem dX11_netted_13 : decode cX11_netted 13 = .ok (.aload_n 3, 1) := by decide +kernel
theorem dX11_netted_14 : decode cX11_netted 14 = .ok (.iload_n 2, 1) := by decide +kernel
theorem dX11_netted_15 : decode cX11_netted 15 = .ok (.invokevirtual 253, 3) := by decide +kernel
theorem dX11_netted_18 : decode cX11_netted 18 = .ok (.aload 4, 2) := by decide +kernel
theorem dX11_netted_20 : decode cX11_netted 20 = .ok (.iload_n 1, 1) := by decide +kernel
theorem dX11_netted_21 : decode cX11_netted 21 = .ok (.invokevirtual 253, 3) := by decide +kernel
theorem dX11_netted_24 : decode cX11_netted 24 = .ok (.isub, 1) := by decide +kernel
theorem dX11_netted_25 : decode cX11_netted 25 = .ok (.ireturn, 1) := by decide +kernel
theorem dX11_merge_0 : decode cX11_merge 0 = .ok (.aload_n 0, 1) := by decide +kernel
theorem dX11_merge_1 : decode cX11_merge 1 = .ok (.iload_n 1, 1) := by decide +kernel
theorem dX11_merge_2 : decode cX11_merge 2 = .ok (.invokevirtual 109, 3) := by decide +kernel
theorem dX11_merge_5 : decode cX11_merge 5 = .ok (.astore_n 3, 1) := by decide +kernel
theorem dX11_merge_6 : decode cX11_merge 6 = .ok (.aload_n 0, 1) := by decide +kernel
theorem dX11_merge_7 : decode cX11_merge 7 = .ok (.iload_n 2, 1) := by decide +kernel
theorem dX11_merge_8 : decode cX11_merge 8 = .ok (.invokevirtual 109, 3) := by decide +kernel
theorem dX11_merge_11 : decode cX11_merge 11 = .ok (.astore 4, 2) := by decide +kernel
theorem dX11_merge_13 : decode cX11_merge 13 = .ok (.aload_n 0, 1) := by decide +kernel
theorem dX11_merge_14 : decode cX11_merge 14 = .ok (.iload_n 1, 1) := by decide +kernel
theorem dX11_merge_15 : decode cX11_merge 15 = .ok (.iload_n 2, 1) := by decide +kernel
theorem dX11_merge_16 : decode cX11_merge 16 = .ok (.invokevirtual 246, 3) := by decide +kernel
theorem dX11_merge_19 : decode cX11_merge 19 = .ok (.ifCond .ne 5, 3) := by decide +kernel
theorem dX11_merge_22 : decode cX11_merge 22 = .ok (.iconst (-1), 1) := by decide +kernel
theorem dX11_merge_23 : decode cX11_merge 23 = .ok (.ireturn, 1) := by decide +kernel
theorem dX11_merge_24 : decode cX11_merge 24 = .ok (.aload_n 3, 1) := by decide +kernel
theorem dX11_merge_25 : decode cX11_merge 25 = .ok (.aload 4, 2) := by decide +kernel
theorem dX11_merge_27 : decode cX11_merge 27 = .ok (.invokevirtual 256, 3) := by decide +kernel
theorem dX11_merge_30 : decode cX11_merge 30 = .ok (.iconst 0, 1) := by decide +kernel
theorem dX11_merge_31 : decode cX11_merge 31 = .ok (.istore 5, 2) := by decide +kernel
theorem dX11_merge_33 : decode cX11_merge 33 = .ok (.iload 5, 2) := by decide +kernel
theorem dX11_merge_35 : decode cX11_merge 35 = .ok (.aload_n 0, 1) := by decide +kernel
theorem dX11_merge_36 : decode cX11_merge 36 = .ok (.getfield 16, 3) := by decide +kernel
theorem dX11_merge_39 : decode cX11_merge 39 = .ok (.invokevirtual 89, 3) := by decide +kernel
theorem dX11_merge_42 : decode cX11_merge 42 = .ok (.if_icmp .ge 38, 3) := by decide +kernel
theorem dX11_merge_45 : decode cX11_merge 45 = .ok (.aload_n 0, 1) := by decide +kernel
theorem dX11_merge_46 : decode cX11_merge 46 = .ok (.getfield 16, 3) := by decide +kernel
theorem dX11_merge_49 : decode cX11_merge 49 = .ok (.iload 5, 2) := by decide +kernel
theorem dX11_merge_51 : decode cX11_merge 51 = .ok (.invokevirtual 138, 3) := by decide +kernel
theorem dX11_merge_54 : decode cX11_merge 54 = .ok (.checkcast 128, 3) := by decide +kernel
theorem dX11_merge_57 : decode cX11_merge 57 = .ok (.astore 6, 2) := by decide +kernel
theorem dX11_merge_59 : decode cX11_merge 59 = .ok (.aload 6, 2) := by decide +kernel
theorem dX11_merge_61 : decode cX11_merge 61 = .ok (.getfield 135, 3) := by decide +kernel
theorem dX11_merge_64 : decode cX11_merge 64 = .ok (.iload_n 2, 1) := by decide +kernel
theorem dX11_merge_65 : decode cX11_merge 65 = .ok (.if_icmp .ne 9, 3) := by decide +kernel
theorem dX11_merge_68 : decode cX11_merge 68 = .ok (.aload 6, 2) := by decide +kernel
theorem dX11_merge_70 : decode cX11_merge 70 = .ok (.iload_n 1, 1) := by decide +kernel
theorem dX11_merge_71 : decode cX11_merge 71 = .ok (.putfield 135, 3) := by decide +kernel
theorem dX11_merge_74 : decode cX11_merge 74 = .ok (.iinc 5 1, 3) := by decide +kernel
theorem dX11_merge_77 : decode cX11_merge 77 = .ok (.goto (-44), 3) := by decide +kernel
theorem dX11_merge_80 : decode cX11_merge 80 = .ok (.iconst 1, 1) := by decide +kernel
theorem dX11_merge_81 : decode cX11_merge 81 = .ok (.ireturn, 1) := by decide +kernel
theorem dX11_gain_0 : decode cX11_gain 0 = .ok (.aload_n 0, 1) := by decide +kernel
theorem dX11_gain_1 : decode cX11_gain 1 = .ok (.iload_n 1, 1) := by decide +kernel
theorem dX11_gain_2 : decode cX11_gain 2 = .ok (.invokevirtual 109, 3) := by decide +kernel
theorem dX11_gain_5 : decode cX11_gain 5 = .ok (.astore_n 3, 1) := by decide +kernel
theorem dX11_gain_6 : decode cX11_gain 6 = .ok (.aload_n 0, 1) := by decide +kernel
theorem dX11_gain_7 : decode cX11_gain 7 = .ok (.iload_n 2, 1) := by decide +kernel
theorem dX11_gain_8 : decode cX11_gain 8 = .ok (.invokevirtual 109, 3) := by decide +kernel
theorem dX11_gain_11 : decode cX11_gain 11 = .ok (.astore 4, 2) := by decide +kernel
theorem dX11_gain_13 : decode cX11_gain 13 = .ok (.aload_n 0, 1) := by decide +kernel
theorem dX11_gain_14 : decode cX11_gain 14 = .ok (.iload_n 1, 1) := by decide +kernel
theorem dX11_gain_15 : decode cX11_gain 15 = .ok (.iload_n 2, 1) := by decide +kernel
theorem dX11_gain_16 : decode cX11_gain 16 = .ok (.invokevirtual 246, 3) := by decide +kernel
theorem dX11_gain_19 : decode cX11_gain 19 = .ok (.ifCond .ne 7, 3) := by decide +kernel
theorem dX11_gain_22 : decode cX11_gain 22 = .ok (.ldc_w 260, 3) := by decide +kernel
theorem dX11_gain_25 : decode cX11_gain 25 = .ok (.ireturn, 1) := by decide +kernel
theorem dX11_gain_26 : decode cX11_gain 26 = .ok (.aload_n 0, 1) := by decide +kernel
theorem dX11_gain_27 : decode cX11_gain 27 = .ok (.invokevirtual 185, 3) := by decide +kernel
theorem dX11_gain_30 : decode cX11_gain 30 = .ok (.astore 5, 2) := by decide +kernel
theorem dX11_gain_32 : decode cX11_gain 32 = .ok (.aload_n 0, 1) := by decide +kernel
theorem dX11_gain_33 : decode cX11_gain 33 = .ok (.aload 5, 2) := by decide +kernel
theorem dX11_gain_35 : decode cX11_gain 35 = .ok (.aload 5, 2) := by decide +kernel
theorem dX11_gain_37 : decode cX11_gain 37 = .ok (.getfield 221, 3) := by decide +kernel
theorem dX11_gain_40 : decode cX11_gain 40 = .ok (.invokevirtual 234, 3) := by decide +kernel
theorem dX11_gain_43 : decode cX11_gain 43 = .ok (.aload_n 0, 1) := by decide +kernel
theorem dX11_gain_44 : decode cX11_gain 44 = .ok (.getfield 62, 3) := by decide +kernel
theorem dX11_gain_47 : decode cX11_gain 47 = .ok (.iload_n 1, 1) := by decide +kernel
theorem dX11_gain_48 : decode cX11_gain 48 = .ok (.invokevirtual 238, 3) := by decide +kernel
theorem dX11_gain_51 : decode cX11_gain 51 = .ok (.aload_n 0, 1) := by decide +kernel
theorem dX11_gain_52 : decode cX11_gain 52 = .ok (.getfield 62, 3) := by decide +kernel
theorem dX11_gain_55 : decode cX11_gain 55 = .ok (.iload_n 2, 1) := by decide +kernel
theorem dX11_gain_56 : decode cX11_gain 56 = .ok (.invokevirtual 238, 3) := by decide +kernel
theorem dX11_gain_59 : decode cX11_gain 59 = .ok (.iadd, 1) := by decide +kernel
theorem dX11_gain_60 : decode cX11_gain 60 = .ok (.istore 6, 2) := by decide +kernel
theorem dX11_gain_62 : decode cX11_gain 62 = .ok (.aload_n 3, 1) := by decide +kernel
theorem dX11_gain_63 : decode cX11_gain 63 = .ok (.getfield 261, 3) := by decide +kernel
theorem dX11_gain_66 : decode cX11_gain 66 = .ok (.istore 7, 2) := by decide +kernel
theorem dX11_gain_68 : decode cX11_gain 68 = .ok (.aload_n 3, 1) := by decide +kernel
theorem dX11_gain_69 : decode cX11_gain 69 = .ok (.getfield 264, 3) := by decide +kernel
theorem dX11_gain_72 : decode cX11_gain 72 = .ok (.istore 8, 2) := by decide +kernel
theorem dX11_gain_74 : decode cX11_gain 74 = .ok (.aload_n 3, 1) := by decide +kernel
theorem dX11_gain_75 : decode cX11_gain 75 = .ok (.getfield 142, 3) := by decide +kernel
theorem dX11_gain_78 : decode cX11_gain 78 = .ok (.istore 9, 2) := by decide +kernel
theorem dX11_gain_80 : decode cX11_gain 80 = .ok (.aload_n 3, 1) := by decide +kernel
theorem dX11_gain_81 : decode cX11_gain 81 = .ok (.aload 4, 2) := by decide +kernel
theorem dX11_gain_83 : decode cX11_gain 83 = .ok (.invokevirtual 267, 3) := by decide +kernel
theorem dX11_gain_86 : decode cX11_gain 86 = .ok (.aload 4, 2) := by decide +kernel
theorem dX11_gain_88 : decode cX11_gain 88 = .ok (.iconst 2, 1) := by decide +kernel
theorem dX11_gain_89 : decode cX11_gain 89 = .ok (.putfield 117, 3) := by decide +kernel
theorem dX11_gain_92 : decode cX11_gain 92 = .ok (.aload_n 0, 1) := by decide +kernel
theorem dX11_gain_93 : decode cX11_gain 93 = .ok (.aload 5, 2) := by decide +kernel
theorem dX11_gain_95 : decode cX11_gain 95 = .ok (.aload 5, 2) := by decide +kernel
theorem dX11_gain_97 : decode cX11_gain 97 = .ok (.getfield 221, 3) := by decide +kernel
theorem dX11_gain_100 : decode cX11_gain 100 = .ok (.invokevirtual 234, 3) := by decide +kernel
theorem dX11_gain_103 : decode cX11_gain 103 = .ok (.aload_n 3, 1) := by decide +kernel
theorem dX11_gain_104 : decode cX11_gain 104 = .ok (.iload 7, 2) := by decide +kernel
theorem dX11_gain_106 : decode cX11_gain 106 = .ok (.putfield 261, 3) := by decide +kernel
theorem dX11_gain_109 : decode cX11_gain 109 = .ok (.aload_n 3, 1) := by decide +kernel
theorem dX11_gain_110 : decode cX11_gain 110 = .ok (.iload 8, 2) := by decide +kernel
theorem dX11_gain_112 : decode cX11_gain 112 = .ok (.putfield 264, 3) := by decide +kernel
theorem dX11_gain_115 : decode cX11_gain 115 = .ok (.aload_n 3, 1) := by decide +kernel
theorem dX11_gain_116 : decode cX11_gain 116 = .ok (.iload 9, 2) := by decide +kernel
theorem dX11_gain_118 : decode cX11_gain 118 = .ok (.putfield 142, 3) := by decide +kernel
theorem dX11_gain_121 : decode cX11_gain 121 = .ok (.aload 4, 2) := by decide +kernel
theorem dX11_gain_123 : decode cX11_gain 123 = .ok (.iconst 1, 1) := by decide +kernel
theorem dX11_gain_124 : decode cX11_gain 124 = .ok (.putfield 117, 3) := by decide +kernel
theorem dX11_gain_127 : decode cX11_gain 127 = .ok (.aload_n 0, 1) := by decide +kernel
theorem dX11_gain_128 : decode cX11_gain 128 = .ok (.getfield 62, 3) := by decide +kernel
theorem dX11_gain_131 : decode cX11_gain 131 = .ok (.iload_n 1, 1) := by decide +kernel
theorem dX11_gain_132 : decode cX11_gain 132 = .ok (.invokevirtual 238, 3) := by decide +kernel
theorem dX11_gain_135 : decode cX11_gain 135 = .ok (.iload 6, 2) := by decide +kernel
theorem dX11_gain_137 : decode cX11_gain 137 = .ok (.isub, 1) := by decide +kernel
theorem dX11_gain_138 : decode cX11_gain 138 = .ok (.ireturn, 1) := by decide +kernel
theorem dX11_breach_0 : decode cX11_breach 0 = .ok (.aload_n 0, 1) := by decide +kernel
theorem dX11_breach_1 : decode cX11_breach 1 = .ok (.iload_n 1, 1) := by decide +kernel
theorem dX11_breach_2 : decode cX11_breach 2 = .ok (.invokevirtual 109, 3) := by decide +kernel
theorem dX11_breach_5 : decode cX11_breach 5 = .ok (.astore_n 3, 1) := by decide +kernel
theorem dX11_breach_6 : decode cX11_breach 6 = .ok (.iload_n 2, 1) := by decide +kernel
theorem dX11_breach_7 : decode cX11_breach 7 = .ok (.iconst 0, 1) := by decide +kernel
theorem dX11_breach_8 : decode cX11_breach 8 = .ok (.iconst 4, 1) := by decide +kernel
theorem dX11_breach_9 : decode cX11_breach 9 = .ok (.invokestatic 80, 3) := by decide +kernel
theorem dX11_breach_12 : decode cX11_breach 12 = .ok (.invokestatic 85, 3) := by decide +kernel
theorem dX11_breach_15 : decode cX11_breach 15 = .ok (.aload_n 3, 1) := by decide +kernel
theorem dX11_breach_16 : decode cX11_breach 16 = .ok (.getfield 270, 3) := by decide +kernel
theorem dX11_breach_19 : decode cX11_breach 19 = .ok (.iload_n 2, 1) := by decide +kernel
theorem dX11_breach_20 : decode cX11_breach 20 = .ok (.invokevirtual 274, 3) := by decide +kernel
theorem dX11_breach_23 : decode cX11_breach 23 = .ok (.ireturn, 1) := by decide +kernel
theorem dX11_source_0 : decode cX11_source 0 = .ok (.aload_n 0, 1) := by decide +kernel
theorem dX11_source_1 : decode cX11_source 1 = .ok (.iload_n 1, 1) := by decide +kernel
theorem dX11_source_2 : decode cX11_source 2 = .ok (.invokevirtual 109, 3) := by decide +kernel
theorem dX11_source_5 : decode cX11_source 5 = .ok (.astore 4, 2) := by decide +kernel
theorem dX11_source_7 : decode cX11_source 7 = .ok (.iload_n 2, 1) := by decide +kernel
theorem dX11_source_8 : decode cX11_source 8 = .ok (.iconst 0, 1) := by decide +kernel
theorem dX11_source_9 : decode cX11_source 9 = .ok (.ldc 84, 2) := by decide +kernel
theorem dX11_source_11 : decode cX11_source 11 = .ok (.invokestatic 80, 3) := by decide +kernel
theorem dX11_source_14 : decode cX11_source 14 = .ok (.ifCond .eq 17, 3) := by decide +kernel
theorem dX11_source_17 : decode cX11_source 17 = .ok (.iload_n 3, 1) := by decide +kernel
theorem dX11_source_18 : decode cX11_source 18 = .ok (.iload_n 2, 1) := by decide +kernel
theorem dX11_source_19 : decode cX11_source 19 = .ok (.ldc 84, 2) := by decide +kernel
theorem dX11_source_21 : decode cX11_source 21 = .ok (.invokestatic 80, 3) := by decide +kernel
theorem dX11_source_24 : decode cX11_source 24 = .ok (.ifCond .eq 7, 3) := by decide +kernel
theorem dX11_source_27 : decode cX11_source 27 = .ok (.iconst 1, 1) := by decide +kernel
theorem dX11_source_28 : decode cX11_source 28 = .ok (.goto 4, 3) := by decide +kernel
theorem dX11_source_31 : decode cX11_source 31 = .ok (.iconst 0, 1) := by decide +kernel
theorem dX11_source_32 : decode cX11_source 32 = .ok (.invokestatic 85, 3) := by decide +kernel
theorem dX11_source_35 : decode cX11_source 35 = .ok (.aload 4, 2) := by decide +kernel
theorem dX11_source_37 : decode cX11_source 37 = .ok (.getfield 277, 3) := by decide +kernel
theorem dX11_source_40 : decode cX11_source 40 = .ok (.iload_n 2, 1) := by decide +kernel
theorem dX11_source_41 : decode cX11_source 41 = .ok (.iload_n 3, 1) := by decide +kernel
theorem dX11_source_42 : decode cX11_source 42 = .ok (.invokevirtual 281, 3) := by decide +kernel
theorem dX11_source_45 : decode cX11_source 45 = .ok (.ireturn, 1) := by decide +kernel
theorem dX11_borne_0 : decode cX11_borne 0 = .ok (.aload_n 0, 1) := by decide +kernel
theorem dX11_borne_1 : decode cX11_borne 1 = .ok (.iload_n 1, 1) := by decide +kernel
theorem dX11_borne_2 : decode cX11_borne 2 = .ok (.invokevirtual 109, 3) := by decide +kernel
theorem dX11_borne_5 : decode cX11_borne 5 = .ok (.astore_n 3, 1) := by decide +kernel
theorem dX11_borne_6 : decode cX11_borne 6 = .ok (.iload_n 2, 1) := by decide +kernel
theorem dX11_borne_7 : decode cX11_borne 7 = .ok (.iconst 0, 1) := by decide +kernel
theorem dX11_borne_8 : decode cX11_borne 8 = .ok (.iconst 3, 1) := by decide +kernel
theorem dX11_borne_9 : decode cX11_borne 9 = .ok (.invokestatic 80, 3) := by decide +kernel
theorem dX11_borne_12 : decode cX11_borne 12 = .ok (.invokestatic 85, 3) := by decide +kernel
theorem dX11_borne_15 : decode cX11_borne 15 = .ok (.aload_n 3, 1) := by decide +kernel
theorem dX11_borne_16 : decode cX11_borne 16 = .ok (.getfield 277, 3) := by decide +kernel
theorem dX11_borne_19 : decode cX11_borne 19 = .ok (.iload_n 2, 1) := by decide +kernel
theorem dX11_borne_20 : decode cX11_borne 20 = .ok (.invokevirtual 285, 3) := by decide +kernel
theorem dX11_borne_23 : decode cX11_borne 23 = .ok (.ireturn, 1) := by decide +kernel
theorem dX11_appeal_0 : decode cX11_appeal 0 = .ok (.aload_n 0, 1) := by decide +kernel
theorem dX11_appeal_1 : decode cX11_appeal 1 = .ok (.iload_n 1, 1) := by decide +kernel
theorem dX11_appeal_2 : decode cX11_appeal 2 = .ok (.invokevirtual 109, 3) := by decide +kernel
theorem dX11_appeal_5 : decode cX11_appeal 5 = .ok (.astore_n 3, 1) := by decide +kernel
theorem dX11_appeal_6 : decode cX11_appeal 6 = .ok (.iload_n 2, 1) := by decide +kernel
theorem dX11_appeal_7 : decode cX11_appeal 7 = .ok (.iconst 0, 1) := by decide +kernel
theorem dX11_appeal_8 : decode cX11_appeal 8 = .ok (.ldc 84, 2) := by decide +kernel
theorem dX11_appeal_10 : decode cX11_appeal 10 = .ok (.invokestatic 80, 3) := by decide +kernel
theorem dX11_appeal_13 : decode cX11_appeal 13 = .ok (.invokestatic 85, 3) := by decide +kernel
theorem dX11_appeal_16 : decode cX11_appeal 16 = .ok (.aload_n 0, 1) := by decide +kernel
theorem dX11_appeal_17 : decode cX11_appeal 17 = .ok (.getfield 22, 3) := by decide +kernel
theorem dX11_appeal_20 : decode cX11_appeal 20 = .ok (.invokevirtual 89, 3) := by decide +kernel
theorem dX11_appeal_23 : decode cX11_appeal 23 = .ok (.bipush 20, 2) := by decide +kernel
theorem dX11_appeal_25 : decode cX11_appeal 25 = .ok (.if_icmp .lt 5, 3) := by decide +kernel
theorem dX11_appeal_28 : decode cX11_appeal 28 = .ok (.iconst (-1), 1) := by decide +kernel
theorem dX11_appeal_29 : decode cX11_appeal 29 = .ok (.ireturn, 1) := by decide +kernel
theorem dX11_appeal_30 : decode cX11_appeal 30 = .ok (.aload_n 3, 1) := by decide +kernel
theorem dX11_appeal_31 : decode cX11_appeal 31 = .ok (.invokevirtual 224, 3) := by decide +kernel
theorem dX11_appeal_34 : decode cX11_appeal 34 = .ok (.ifCond .ne 6, 3) := by decide +kernel
theorem dX11_appeal_37 : decode cX11_appeal 37 = .ok (.bipush (-2), 2) := by decide +kernel
theorem dX11_appeal_39 : decode cX11_appeal 39 = .ok (.ireturn, 1) := by decide +kernel
theorem dX11_appeal_40 : decode cX11_appeal 40 = .ok (.aload_n 0, 1) := by decide +kernel
theorem dX11_appeal_41 : decode cX11_appeal 41 = .ok (.getfield 22, 3) := by decide +kernel
theorem dX11_appeal_44 : decode cX11_appeal 44 = .ok (.new 286, 3) := by decide +kernel
theorem dX11_appeal_47 : decode cX11_appeal 47 = .ok (.dup, 1) := by decide +kernel
theorem dX11_appeal_48 : decode cX11_appeal 48 = .ok (.aload_n 3, 1) := by decide +kernel
theorem dX11_appeal_49 : decode cX11_appeal 49 = .ok (.iload_n 2, 1) := by decide +kernel
theorem dX11_appeal_50 : decode cX11_appeal 50 = .ok (.invokespecial 288, 3) := by decide +kernel
theorem dX11_appeal_53 : decode cX11_appeal 53 = .ok (.invokevirtual 105, 3) := by decide +kernel
theorem dX11_appeal_56 : decode cX11_appeal 56 = .ok (.pop, 1) := by decide +kernel
theorem dX11_appeal_57 : decode cX11_appeal 57 = .ok (.aload_n 0, 1) := by decide +kernel
theorem dX11_appeal_58 : decode cX11_appeal 58 = .ok (.getfield 22, 3) := by decide +kernel
theorem dX11_appeal_61 : decode cX11_appeal 61 = .ok (.invokevirtual 89, 3) := by decide +kernel
theorem dX11_appeal_64 : decode cX11_appeal 64 = .ok (.iconst 1, 1) := by decide +kernel
theorem dX11_appeal_65 : decode cX11_appeal 65 = .ok (.isub, 1) := by decide +kernel
theorem dX11_appeal_66 : decode cX11_appeal 66 = .ok (.ireturn, 1) := by decide +kernel
theorem dX11_alike_0 : decode cX11_alike 0 = .ok (.aload_n 0, 1) := by decide +kernel
theorem dX11_alike_1 : decode cX11_alike 1 = .ok (.iload_n 1, 1) := by decide +kernel
theorem dX11_alike_2 : decode cX11_alike 2 = .ok (.invokevirtual 291, 3) := by decide +kernel
theorem dX11_alike_5 : decode cX11_alike 5 = .ok (.astore_n 2, 1) := by decide +kernel
theorem dX11_alike_6 : decode cX11_alike 6 = .ok (.iconst (-1), 1) := by decide +kernel
theorem dX11_alike_7 : decode cX11_alike 7 = .ok (.istore_n 3, 1) := by decide +kernel
theorem dX11_alike_8 : decode cX11_alike 8 = .ok (.iconst 0, 1) := by decide +kernel
theorem dX11_alike_9 : decode cX11_alike 9 = .ok (.istore 4, 2) := by decide +kernel
theorem dX11_alike_11 : decode cX11_alike 11 = .ok (.iconst 0, 1) := by decide +kernel
theorem dX11_alike_12 : decode cX11_alike 12 = .ok (.istore 5, 2) := by decide +kernel
theorem dX11_alike_14 : decode cX11_alike 14 = .ok (.iload 5, 2) := by decide +kernel
theorem dX11_alike_16 : decode cX11_alike 16 = .ok (.iload_n 1, 1) := by decide +kernel
theorem dX11_alike_17 : decode cX11_alike 17 = .ok (.if_icmp .ge 70, 3) := by decide +kernel
theorem dX11_alike_20 : decode cX11_alike 20 = .ok (.iload 5, 2) := by decide +kernel
theorem dX11_alike_22 : decode cX11_alike 22 = .ok (.aload_n 0, 1) := by decide +kernel
theorem dX11_alike_23 : decode cX11_alike 23 = .ok (.getfield 22, 3) := by decide +kernel
theorem dX11_alike_26 : decode cX11_alike 26 = .ok (.invokevirtual 89, 3) := by decide +kernel
theorem dX11_alike_29 : decode cX11_alike 29 = .ok (.if_icmp .ge 58, 3) := by decide +kernel
theorem dX11_alike_32 : decode cX11_alike 32 = .ok (.aload_n 0, 1) := by decide +kernel
theorem dX11_alike_33 : decode cX11_alike 33 = .ok (.getfield 22, 3) := by decide +kernel
theorem dX11_alike_36 : decode cX11_alike 36 = .ok (.iload 5, 2) := by decide +kernel
theorem dX11_alike_38 : decode cX11_alike 38 = .ok (.invokevirtual 138, 3) := by decide +kernel
theorem dX11_alike_41 : decode cX11_alike 41 = .ok (.checkcast 286, 3) := by decide +kernel
theorem dX11_alike_44 : decode cX11_alike 44 = .ok (.astore 6, 2) := by decide +kernel
theorem dX11_alike_46 : decode cX11_alike 46 = .ok (.aload_n 2, 1) := by decide +kernel
theorem dX11_alike_47 : decode cX11_alike 47 = .ok (.aload 6, 2) := by decide +kernel
theorem dX11_alike_49 : decode cX11_alike 49 = .ok (.invokevirtual 295, 3) := by decide +kernel
theorem dX11_alike_52 : decode cX11_alike 52 = .ok (.istore 7, 2) := by decide +kernel
theorem dX11_alike_54 : decode cX11_alike 54 = .ok (.aload 6, 2) := by decide +kernel
theorem dX11_alike_56 : decode cX11_alike 56 = .ok (.invokevirtual 299, 3) := by decide +kernel
theorem dX11_alike_59 : decode cX11_alike 59 = .ok (.ifCond .eq 22, 3) := by decide +kernel
theorem dX11_alike_62 : decode cX11_alike 62 = .ok (.iload_n 3, 1) := by decide +kernel
theorem dX11_alike_63 : decode cX11_alike 63 = .ok (.iconst (-1), 1) := by decide +kernel
theorem dX11_alike_64 : decode cX11_alike 64 = .ok (.if_icmp .eq 10, 3) := by decide +kernel
theorem dX11_alike_67 : decode cX11_alike 67 = .ok (.iload 7, 2) := by decide +kernel
theorem dX11_alike_69 : decode cX11_alike 69 = .ok (.iload 4, 2) := by decide +kernel
theorem dX11_alike_71 : decode cX11_alike 71 = .ok (.if_icmp .gt 10, 3) := by decide +kernel
theorem dX11_alike_74 : decode cX11_alike 74 = .ok (.iload 5, 2) := by decide +kernel
theorem dX11_alike_76 : decode cX11_alike 76 = .ok (.istore_n 3, 1) := by decide +kernel
theorem dX11_alike_77 : decode cX11_alike 77 = .ok (.iload 7, 2) := by decide +kernel
theorem dX11_alike_79 : decode cX11_alike 79 = .ok (.istore 4, 2) := by decide +kernel
theorem dX11_alike_81 : decode cX11_alike 81 = .ok (.iinc 5 1, 3) := by decide +kernel
theorem dX11_alike_84 : decode cX11_alike 84 = .ok (.goto (-70), 3) := by decide +kernel
theorem dX11_alike_87 : decode cX11_alike 87 = .ok (.iload_n 3, 1) := by decide +kernel
theorem dX11_alike_88 : decode cX11_alike 88 = .ok (.ireturn, 1) := by decide +kernel
theorem dX11_apart_0 : decode cX11_apart 0 = .ok (.aload_n 0, 1) := by decide +kernel
theorem dX11_apart_1 : decode cX11_apart 1 = .ok (.iload_n 1, 1) := by decide +kernel
theorem dX11_apart_2 : decode cX11_apart 2 = .ok (.invokevirtual 291, 3) := by decide +kernel
theorem dX11_apart_5 : decode cX11_apart 5 = .ok (.astore_n 3, 1) := by decide +kernel
theorem dX11_apart_6 : decode cX11_apart 6 = .ok (.aload_n 0, 1) := by decide +kernel
theorem dX11_apart_7 : decode cX11_apart 7 = .ok (.iload_n 2, 1) := by decide +kernel
theorem dX11_apart_8 : decode cX11_apart 8 = .ok (.invokevirtual 291, 3) := by decide +kernel
theorem dX11_apart_11 : decode cX11_apart 11 = .ok (.astore 4, 2) := by decide +kernel
theorem dX11_apart_13 : decode cX11_apart 13 = .ok (.aload_n 3, 1) := by decide +kernel
theorem dX11_apart_14 : decode cX11_apart 14 = .ok (.aload 4, 2) := by decide +kernel
theorem dX11_apart_16 : decode cX11_apart 16 = .ok (.invokevirtual 295, 3) := by decide +kernel
theorem dX11_apart_19 : decode cX11_apart 19 = .ok (.ireturn, 1) := by decide +kernel
theorem dX11_grant_0 : decode cX11_grant 0 = .ok (.aload_n 0, 1) := by decide +kernel
theorem dX11_grant_1 : decode cX11_grant 1 = .ok (.iload_n 1, 1) := by decide +kernel
theorem dX11_grant_2 : decode cX11_grant 2 = .ok (.invokevirtual 291, 3) := by decide +kernel
theorem dX11_grant_5 : decode cX11_grant 5 = .ok (.astore_n 3, 1) := by decide +kernel
theorem dX11_grant_6 : decode cX11_grant 6 = .ok (.iload_n 2, 1) := by decide +kernel
theorem dX11_grant_7 : decode cX11_grant 7 = .ok (.aload_n 0, 1) := by decide +kernel
theorem dX11_grant_8 : decode cX11_grant 8 = .ok (.getfield 33, 3) := by decide +kernel
theorem dX11_grant_11 : decode cX11_grant 11 = .ok (.sipush 600, 3) := by decide +kernel
theorem dX11_grant_14 : decode cX11_grant 14 = .ok (.invokestatic 80, 3) := by decide +kernel
theorem dX11_grant_17 : decode cX11_grant 17 = .ok (.invokestatic 85, 3) := by decide +kernel
theorem dX11_grant_20 : decode cX11_grant 20 = .ok (.aload_n 3, 1) := by decide +kernel
theorem dX11_grant_21 : decode cX11_grant 21 = .ok (.invokevirtual 299, 3) := by decide +kernel
theorem dX11_grant_24 : decode cX11_grant 24 = .ok (.ifCond .eq 5, 3) := by decide +kernel
theorem dX11_grant_27 : decode cX11_grant 27 = .ok (.iconst (-1), 1) := by decide +kernel
theorem dX11_grant_28 : decode cX11_grant 28 = .ok (.ireturn, 1) := by decide +kernel
theorem dX11_grant_29 : decode cX11_grant 29 = .ok (.aload_n 3, 1) := by decide +kernel
theorem dX11_grant_30 : decode cX11_grant 30 = .ok (.iload_n 2, 1) := by decide +kernel
theorem dX11_grant_31 : decode cX11_grant 31 = .ok (.putfield 302, 3) := by decide +kernel
theorem dX11_grant_34 : decode cX11_grant 34 = .ok (.iconst 1, 1) := by decide +kernel
theorem dX11_grant_35 : decode cX11_grant 35 = .ok (.ireturn, 1) := by decide +kernel
theorem dX11_best_0 : decode cX11_best 0 = .ok (.aload_n 0, 1) := by decide +kernel
theorem dX11_best_1 : decode cX11_best 1 = .ok (.iload_n 1, 1) := by decide +kernel
theorem dX11_best_2 : decode cX11_best 2 = .ok (.invokevirtual 109, 3) := by decide +kernel
theorem dX11_best_5 : decode cX11_best 5 = .ok (.astore_n 3, 1) := by decide +kernel
theorem dX11_best_6 : decode cX11_best 6 = .ok (.iload_n 2, 1) := by decide +kernel
theorem dX11_best_7 : decode cX11_best 7 = .ok (.iconst 0, 1) := by decide +kernel
theorem dX11_best_8 : decode cX11_best 8 = .ok (.iconst 3, 1) := by decide +kernel
theorem dX11_best_9 : decode cX11_best 9 = .ok (.invokestatic 80, 3) := by decide +kernel
theorem dX11_best_12 : decode cX11_best 12 = .ok (.invokestatic 85, 3) := by decide +kernel
theorem dX11_best_15 : decode cX11_best 15 = .ok (.aload_n 3, 1) := by decide +kernel
theorem dX11_best_16 : decode cX11_best 16 = .ok (.invokevirtual 224, 3) := by decide +kernel
theorem dX11_best_19 : decode cX11_best 19 = .ok (.ifCond .ne 7, 3) := by decide +kernel
theorem dX11_best_22 : decode cX11_best 22 = .ok (.ldc_w 260, 3) := by decide +kernel
theorem dX11_best_25 : decode cX11_best 25 = .ok (.ireturn, 1) := by decide +kernel
theorem dX11_best_26 : decode cX11_best 26 = .ok (.aload_n 0, 1) := by decide +kernel
theorem dX11_best_27 : decode cX11_best 27 = .ok (.aload_n 3, 1) := by decide +kernel
theorem dX11_best_28 : decode cX11_best 28 = .ok (.aload_n 0, 1) := by decide +kernel
theorem dX11_best_29 : decode cX11_best 29 = .ok (.invokevirtual 185, 3) := by decide +kernel
theorem dX11_best_32 : decode cX11_best 32 = .ok (.invokevirtual 305, 3) := by decide +kernel
theorem dX11_best_35 : decode cX11_best 35 = .ok (.aload_n 0, 1) := by decide +kernel
theorem dX11_best_36 : decode cX11_best 36 = .ok (.getfield 76, 3) := by decide +kernel
theorem dX11_best_39 : decode cX11_best 39 = .ok (.iload_n 2, 1) := by decide +kernel
theorem dX11_best_40 : decode cX11_best 40 = .ok (.invokevirtual 309, 3) := by decide +kernel
theorem dX11_best_43 : decode cX11_best 43 = .ok (.ireturn, 1) := by decide +kernel
theorem dX11_correct_0 : decode cX11_correct 0 = .ok (.aload_n 0, 1) := by decide +kernel
theorem dX11_correct_1 : decode cX11_correct 1 = .ok (.iload_n 1, 1) := by decide +kernel
theorem dX11_correct_2 : decode cX11_correct 2 = .ok (.invokevirtual 109, 3) := by decide +kernel
theorem dX11_correct_5 : decode cX11_correct 5 = .ok (.pop, 1) := by decide +kernel
theorem dX11_correct_6 : decode cX11_correct 6 = .ok (.iload_n 3, 1) := by decide +kernel
theorem dX11_correct_7 : decode cX11_correct 7 = .ok (.iconst 0, 1) := by decide +kernel
theorem dX11_correct_8 : decode cX11_correct 8 = .ok (.ldc_w 310, 3) := by decide +kernel
theorem dX11_correct_11 : decode cX11_correct 11 = .ok (.invokestatic 80, 3) := by decide +kernel
theorem dX11_correct_14 : decode cX11_correct 14 = .ok (.invokestatic 85, 3) := by decide +kernel
theorem dX11_correct_17 : decode cX11_correct 17 = .ok (.aload_n 0, 1) := by decide +kernel
theorem dX11_correct_18 : decode cX11_correct 18 = .ok (.getfield 69, 3) := by decide +kernel
theorem dX11_correct_21 : decode cX11_correct 21 = .ok (.iload_n 1, 1) := by decide +kernel
theorem dX11_correct_22 : decode cX11_correct 22 = .ok (.iload_n 2, 1) := by decide +kernel
theorem dX11_correct_23 : decode cX11_correct 23 = .ok (.iload_n 3, 1) := by decide +kernel
theorem dX11_correct_24 : decode cX11_correct 24 = .ok (.aload_n 0, 1) := by decide +kernel
theorem dX11_correct_25 : decode cX11_correct 25 = .ok (.getfield 33, 3) := by decide +kernel
theorem dX11_correct_28 : decode cX11_correct 28 = .ok (.invokevirtual 311, 3) := by decide +kernel
theorem dX11_correct_31 : decode cX11_correct 31 = .ok (.ireturn, 1) := by decide +kernel
theorem dX11_row_0 : decode cX11_row 0 = .ok (.aload_n 0, 1) := by decide +kernel
theorem dX11_row_1 : decode cX11_row 1 = .ok (.iload_n 1, 1) := by decide +kernel
theorem dX11_row_2 : decode cX11_row 2 = .ok (.invokevirtual 109, 3) := by decide +kernel
theorem dX11_row_5 : decode cX11_row 5 = .ok (.pop, 1) := by decide +kernel
theorem dX11_row_6 : decode cX11_row 6 = .ok (.iload_n 3, 1) := by decide +kernel
theorem dX11_row_7 : decode cX11_row 7 = .ok (.iconst 0, 1) := by decide +kernel
theorem dX11_row_8 : decode cX11_row 8 = .ok (.iconst 3, 1) := by decide +kernel
theorem dX11_row_9 : decode cX11_row 9 = .ok (.invokestatic 80, 3) := by decide +kernel
theorem dX11_row_12 : decode cX11_row 12 = .ok (.invokestatic 85, 3) := by decide +kernel
theorem dX11_row_15 : decode cX11_row 15 = .ok (.iload 4, 2) := by decide +kernel
theorem dX11_row_17 : decode cX11_row 17 = .ok (.iload_n 2, 1) := by decide +kernel
theorem dX11_row_18 : decode cX11_row 18 = .ok (.if_icmp .le 15, 3) := by decide +kernel
theorem dX11_row_21 : decode cX11_row 21 = .ok (.aload_n 0, 1) := by decide +kernel
theorem dX11_row_22 : decode cX11_row 22 = .ok (.getfield 69, 3) := by decide +kernel
theorem dX11_row_25 : decode cX11_row 25 = .ok (.iload_n 1, 1) := by decide +kernel
theorem dX11_row_26 : decode cX11_row 26 = .ok (.iload_n 2, 1) := by decide +kernel
theorem dX11_row_27 : decode cX11_row 27 = .ok (.invokevirtual 315, 3) := by decide +kernel
theorem dX11_row_30 : decode cX11_row 30 = .ok (.ifCond .ne 7, 3) := by decide +kernel
theorem dX11_row_33 : decode cX11_row 33 = .ok (.ldc_w 260, 3) := by decide +kernel
theorem dX11_row_36 : decode cX11_row 36 = .ok (.ireturn, 1) := by decide +kernel
theorem dX11_row_37 : decode cX11_row 37 = .ok (.iload_n 3, 1) := by decide +kernel
theorem dX11_row_38 : decode cX11_row 38 = .ok (.iconst 1, 1) := by decide +kernel
theorem dX11_row_39 : decode cX11_row 39 = .ok (.if_icmp .ne 17, 3) := by decide +kernel
theorem dX11_row_42 : decode cX11_row 42 = .ok (.aload_n 0, 1) := by decide +kernel
theorem dX11_row_43 : decode cX11_row 43 = .ok (.getfield 69, 3) := by decide +kernel
theorem dX11_row_46 : decode cX11_row 46 = .ok (.iload_n 1, 1) := by decide +kernel
theorem dX11_row_47 : decode cX11_row 47 = .ok (.iload_n 2, 1) := by decide +kernel
theorem dX11_row_48 : decode cX11_row 48 = .ok (.iload 4, 2) := by decide +kernel
theorem dX11_row_50 : decode cX11_row 50 = .ok (.invokevirtual 318, 3) := by decide +kernel
theorem dX11_row_53 : decode cX11_row 53 = .ok (.goto 13, 3) := by decide +kernel
theorem dX11_row_56 : decode cX11_row 56 = .ok (.aload_n 0, 1) := by decide +kernel
theorem dX11_row_57 : decode cX11_row 57 = .ok (.getfield 69, 3) := by decide +kernel
theorem dX11_row_60 : decode cX11_row 60 = .ok (.iload_n 1, 1) := by decide +kernel
theorem dX11_row_61 : decode cX11_row 61 = .ok (.iload_n 2, 1) := by decide +kernel
theorem dX11_row_62 : decode cX11_row 62 = .ok (.iload_n 3, 1) := by decide +kernel
theorem dX11_row_63 : decode cX11_row 63 = .ok (.invokevirtual 322, 3) := by decide +kernel
theorem dX11_row_66 : decode cX11_row 66 = .ok (.ireturn, 1) := by decide +kernel
theorem dX11_count_0 : decode cX11_count 0 = .ok (.iload_n 1, 1) := by decide +kernel
theorem dX11_count_1 : decode cX11_count 1 = .ok (.tableswitch 143 0 11 #[63, 68, 76, 82, 88, 96, 101, 109, 114, 122, 130, 138], 63) := by decide +kernel
theorem dX11_count_64 : decode cX11_count 64 = .ok (.aload_n 0, 1) := by decide +kernel
theorem dX11_count_65 : decode cX11_count 65 = .ok (.getfield 33, 3) := by decide +kernel
theorem dX11_count_68 : decode cX11_count 68 = .ok (.ireturn, 1) := by decide +kernel
theorem dX11_count_69 : decode cX11_count 69 = .ok (.aload_n 0, 1) := by decide +kernel
theorem dX11_count_70 : decode cX11_count 70 = .ok (.getfield 10, 3) := by decide +kernel
theorem dX11_count_73 : decode cX11_count 73 = .ok (.invokevirtual 89, 3) := by decide +kernel
theorem dX11_count_76 : decode cX11_count 76 = .ok (.ireturn, 1) := by decide +kernel
theorem dX11_count_77 : decode cX11_count 77 = .ok (.aload_n 0, 1) := by decide +kernel
theorem dX11_count_78 : decode cX11_count 78 = .ok (.iconst 1, 1) := by decide +kernel
theorem dX11_count_79 : decode cX11_count 79 = .ok (.invokevirtual 325, 3) := by decide +kernel
theorem dX11_count_82 : decode cX11_count 82 = .ok (.ireturn, 1) := by decide +kernel
theorem dX11_count_83 : decode cX11_count 83 = .ok (.aload_n 0, 1) := by decide +kernel
theorem dX11_count_84 : decode cX11_count 84 = .ok (.iconst 0, 1) := by decide +kernel
theorem dX11_count_85 : decode cX11_count 85 = .ok (.invokevirtual 325, 3) := by decide +kernel
theorem dX11_count_88 : decode cX11_count 88 = .ok (.ireturn, 1) := by decide +kernel
theorem dX11_count_89 : decode cX11_count 89 = .ok (.aload_n 0, 1) := by decide +kernel
theorem dX11_count_90 : decode cX11_count 90 = .ok (.getfield 16, 3) := by decide +kernel
theorem dX11_count_93 : decode cX11_count 93 = .ok (.invokevirtual 89, 3) := by decide +kernel
theorem dX11_count_96 : decode cX11_count 96 = .ok (.ireturn, 1) := by decide +kernel
theorem dX11_count_97 : decode cX11_count 97 = .ok (.aload_n 0, 1) := by decide +kernel
theorem dX11_count_98 : decode cX11_count 98 = .ok (.invokevirtual 328, 3) := by decide +kernel
theorem dX11_count_101 : decode cX11_count 101 = .ok (.ireturn, 1) := by decide +kernel
theorem dX11_count_102 : decode cX11_count 102 = .ok (.aload_n 0, 1) := by decide +kernel
theorem dX11_count_103 : decode cX11_count 103 = .ok (.getfield 19, 3) := by decide +kernel
theorem dX11_count_106 : decode cX11_count 106 = .ok (.invokevirtual 89, 3) := by decide +kernel
theorem dX11_count_109 : decode cX11_count 109 = .ok (.ireturn, 1) := by decide +kernel
theorem dX11_count_110 : decode cX11_count 110 = .ok (.aload_n 0, 1) := by decide +kernel
theorem dX11_count_111 : decode cX11_count 111 = .ok (.getfield 29, 3) := by decide +kernel
theorem dX11_count_114 : decode cX11_count 114 = .ok (.ireturn, 1) := by decide +kernel
theorem dX11_count_115 : decode cX11_count 115 = .ok (.aload_n 0, 1) := by decide +kernel
theorem dX11_count_116 : decode cX11_count 116 = .ok (.getfield 22, 3) := by decide +kernel
theorem dX11_count_119 : decode cX11_count 119 = .ok (.invokevirtual 89, 3) := by decide +kernel
theorem dX11_count_122 : decode cX11_count 122 = .ok (.ireturn, 1) := by decide +kernel
theorem dX11_count_123 : decode cX11_count 123 = .ok (.aload_n 0, 1) := by decide +kernel
theorem dX11_count_124 : decode cX11_count 124 = .ok (.getfield 69, 3) := by decide +kernel
theorem dX11_count_127 : decode cX11_count 127 = .ok (.getfield 331, 3) := by decide +kernel
theorem dX11_count_130 : decode cX11_count 130 = .ok (.ireturn, 1) := by decide +kernel
theorem dX11_count_131 : decode cX11_count 131 = .ok (.aload_n 0, 1) := by decide +kernel
theorem dX11_count_132 : decode cX11_count 132 = .ok (.getfield 48, 3) := by decide +kernel
theorem dX11_count_135 : decode cX11_count 135 = .ok (.getfield 165, 3) := by decide +kernel
theorem dX11_count_138 : decode cX11_count 138 = .ok (.ireturn, 1) := by decide +kernel
theorem dX11_count_139 : decode cX11_count 139 = .ok (.aload_n 0, 1) := by decide +kernel
theorem dX11_count_140 : decode cX11_count 140 = .ok (.invokevirtual 334, 3) := by decide +kernel
theorem dX11_count_143 : decode cX11_count 143 = .ok (.ireturn, 1) := by decide +kernel
theorem dX11_count_144 : decode cX11_count 144 = .ok (.iconst (-1), 1) := by decide +kernel
theorem dX11_count_145 : decode cX11_count 145 = .ok (.ireturn, 1) := by decide +kernel
theorem dX11_within_0 : decode cX11_within 0 = .ok (.iload_n 0, 1) := by decide +kernel
theorem dX11_within_1 : decode cX11_within 1 = .ok (.iload_n 1, 1) := by decide +kernel
theorem dX11_within_2 : decode cX11_within 2 = .ok (.if_icmp .lt 12, 3) := by decide +kernel
theorem dX11_within_5 : decode cX11_within 5 = .ok (.iload_n 0, 1) := by decide +kernel
theorem dX11_within_6 : decode cX11_within 6 = .ok (.iload_n 2, 1) := by decide +kernel
theorem dX11_within_7 : decode cX11_within 7 = .ok (.if_icmp .gt 7, 3) := by decide +kernel
theorem dX11_within_10 : decode cX11_within 10 = .ok (.iconst 1, 1) := by decide +kernel
theorem dX11_within_11 : decode cX11_within 11 = .ok (.goto 4, 3) := by decide +kernel
theorem dX11_within_14 : decode cX11_within 14 = .ok (.iconst 0, 1) := by decide +kernel
theorem dX11_within_15 : decode cX11_within 15 = .ok (.ireturn, 1) := by decide +kernel
theorem dX11_bounded_0 : decode cX11_bounded 0 = .ok (.iload_n 1, 1) := by decide +kernel
theorem dX11_bounded_1 : decode cX11_bounded 1 = .ok (.iload_n 0, 1) := by decide +kernel
theorem dX11_bounded_2 : decode cX11_bounded 2 = .ok (.iload_n 2, 1) := by decide +kernel
theorem dX11_bounded_3 : decode cX11_bounded 3 = .ok (.invokestatic 337, 3) := by decide +kernel
theorem dX11_bounded_6 : decode cX11_bounded 6 = .ok (.invokestatic 148, 3) := by decide +kernel
theorem dX11_bounded_9 : decode cX11_bounded 9 = .ok (.ireturn, 1) := by decide +kernel
theorem dX11_need_0 : decode cX11_need 0 = .ok (.iload_n 0, 1) := by decide +kernel
theorem dX11_need_1 : decode cX11_need 1 = .ok (.ifCond .ne 14, 3) := by decide +kernel
theorem dX11_need_4 : decode cX11_need 4 = .ok (.new 340, 3) := by decide +kernel
theorem dX11_need_7 : decode cX11_need 7 = .ok (.dup, 1) := by decide +kernel
theorem dX11_need_8 : decode cX11_need 8 = .ok (.ldc_w 342, 3) := by decide +kernel
theorem dX11_need_11 : decode cX11_need 11 = .ok (.invokespecial 344, 3) := by decide +kernel
theorem dX11_need_14 : decode cX11_need 14 = .ok (.athrow, 1) := by decide +kernel
theorem dX11_need_15 : decode cX11_need 15 = .ok (.return_, 1) := by decide +kernel
theorem dX11_settable_0 : decode cX11_settable 0 = .ok (.iload_n 0, 1) := by decide +kernel
theorem dX11_settable_1 : decode cX11_settable 1 = .ok (.tableswitch 65 0 3 #[31, 40, 48, 56], 31) := by decide +kernel
theorem dX11_settable_32 : decode cX11_settable 32 = .ok (.iload_n 1, 1) := by decide +kernel
theorem dX11_settable_33 : decode cX11_settable 33 = .ok (.iconst 0, 1) := by decide +kernel
theorem dX11_settable_34 : decode cX11_settable 34 = .ok (.sipush 1000, 3) := by decide +kernel
theorem dX11_settable_37 : decode cX11_settable 37 = .ok (.invokestatic 80, 3) := by decide +kernel
theorem dX11_settable_40 : decode cX11_settable 40 = .ok (.ireturn, 1) := by decide +kernel
theorem dX11_settable_41 : decode cX11_settable 41 = .ok (.iload_n 1, 1) := by decide +kernel
theorem dX11_settable_42 : decode cX11_settable 42 = .ok (.iconst 2, 1) := by decide +kernel
theorem dX11_settable_43 : decode cX11_settable 43 = .ok (.bipush 64, 2) := by decide +kernel
theorem dX11_settable_45 : decode cX11_settable 45 = .ok (.invokestatic 80, 3) := by decide +kernel
theorem dX11_settable_48 : decode cX11_settable 48 = .ok (.ireturn, 1) := by decide +kernel
theorem dX11_settable_49 : decode cX11_settable 49 = .ok (.iload_n 1, 1) := by decide +kernel
theorem dX11_settable_50 : decode cX11_settable 50 = .ok (.iconst 1, 1) := by decide +kernel
theorem dX11_settable_51 : decode cX11_settable 51 = .ok (.bipush 100, 2) := by decide +kernel
theorem dX11_settable_53 : decode cX11_settable 53 = .ok (.invokestatic 80, 3) := by decide +kernel
theorem dX11_settable_56 : decode cX11_settable 56 = .ok (.ireturn, 1) := by decide +kernel
theorem dX11_settable_57 : decode cX11_settable 57 = .ok (.iload_n 1, 1) := by decide +kernel
theorem dX11_settable_58 : decode cX11_settable 58 = .ok (.iconst 0, 1) := by decide +kernel
theorem dX11_settable_59 : decode cX11_settable 59 = .ok (.sipush 1000, 3) := by decide +kernel
theorem dX11_settable_62 : decode cX11_settable 62 = .ok (.invokestatic 80, 3) := by decide +kernel
theorem dX11_settable_65 : decode cX11_settable 65 = .ok (.ireturn, 1) := by decide +kernel
theorem dX11_settable_66 : decode cX11_settable 66 = .ok (.iconst 0, 1) := by decide +kernel
theorem dX11_settable_67 : decode cX11_settable 67 = .ok (.ireturn, 1) := by decide +kernel
theorem dX11_kilogramsFor_0 : decode cX11_kilogramsFor 0 = .ok (.iload_n 0, 1) := by decide +kernel
theorem dX11_kilogramsFor_1 : decode cX11_kilogramsFor 1 = .ok (.iload_n 1, 1) := by decide +kernel
theorem dX11_kilogramsFor_2 : decode cX11_kilogramsFor 2 = .ok (.imul, 1) := by decide +kernel
theorem dX11_kilogramsFor_3 : decode cX11_kilogramsFor 3 = .ok (.iconst 3, 1) := by decide +kernel
theorem dX11_kilogramsFor_4 : decode cX11_kilogramsFor 4 = .ok (.imul, 1) := by decide +kernel
theorem dX11_kilogramsFor_5 : decode cX11_kilogramsFor 5 = .ok (.bipush 10, 2) := by decide +kernel
theorem dX11_kilogramsFor_7 : decode cX11_kilogramsFor 7 = .ok (.idiv, 1) := by decide +kernel
theorem dX11_kilogramsFor_8 : decode cX11_kilogramsFor 8 = .ok (.ireturn, 1) := by decide +kernel
theorem dX11_mostCopies_0 : decode cX11_mostCopies 0 = .ok (.iload_n 0, 1) := by decide +kernel
theorem dX11_mostCopies_1 : decode cX11_mostCopies 1 = .ok (.ifCond .lt 7, 3) := by decide +kernel
theorem dX11_mostCopies_4 : decode cX11_mostCopies 4 = .ok (.iload_n 1, 1) := by decide +kernel
theorem dX11_mostCopies_5 : decode cX11_mostCopies 5 = .ok (.ifCond .gt 5, 3) := by decide +kernel
theorem dX11_mostCopies_8 : decode cX11_mostCopies 8 = .ok (.iconst 0, 1) := by decide +kernel
theorem dX11_mostCopies_9 : decode cX11_mostCopies 9 = .ok (.ireturn, 1) := by decide +kernel
theorem dX11_mostCopies_10 : decode cX11_mostCopies 10 = .ok (.iload_n 0, 1) := by decide +kernel
theorem dX11_mostCopies_11 : decode cX11_mostCopies 11 = .ok (.i2l, 1) := by decide +kernel
theorem dX11_mostCopies_12 : decode cX11_mostCopies 12 = .ok (.ldc2_w 345, 3) := by decide +kernel
theorem dX11_mostCopies_15 : decode cX11_mostCopies 15 = .ok (.lmul, 1) := by decide +kernel
theorem dX11_mostCopies_16 : decode cX11_mostCopies 16 = .ok (.ldc2_w 347, 3) := by decide +kernel
theorem dX11_mostCopies_19 : decode cX11_mostCopies 19 = .ok (.ladd, 1) := by decide +kernel
theorem dX11_mostCopies_20 : decode cX11_mostCopies 20 = .ok (.iload_n 1, 1) := by decide +kernel
theorem dX11_mostCopies_21 : decode cX11_mostCopies 21 = .ok (.i2l, 1) := by decide +kernel
theorem dX11_mostCopies_22 : decode cX11_mostCopies 22 = .ok (.ldc2_w 349, 3) := by decide +kernel
theorem dX11_mostCopies_25 : decode cX11_mostCopies 25 = .ok (.lmul, 1) := by decide +kernel
theorem dX11_mostCopies_26 : decode cX11_mostCopies 26 = .ok (.ldiv, 1) := by decide +kernel
theorem dX11_mostCopies_27 : decode cX11_mostCopies 27 = .ok (.l2i, 1) := by decide +kernel
theorem dX11_mostCopies_28 : decode cX11_mostCopies 28 = .ok (.ireturn, 1) := by decide +kernel
theorem dX11_paperAt_0 : decode cX11_paperAt 0 = .ok (.iload_n 1, 1) := by decide +kernel
theorem dX11_paperAt_1 : decode cX11_paperAt 1 = .ok (.ifCond .lt 14, 3) := by decide +kernel
theorem dX11_paperAt_4 : decode cX11_paperAt 4 = .ok (.iload_n 1, 1) := by decide +kernel
theorem dX11_paperAt_5 : decode cX11_paperAt 5 = .ok (.aload_n 0, 1) := by decide +kernel
theorem dX11_paperAt_6 : decode cX11_paperAt 6 = .ok (.getfield 10, 3) := by decide +kernel
theorem dX11_paperAt_9 : decode cX11_paperAt 9 = .ok (.invokevirtual 89, 3) := by decide +kernel
theorem dX11_paperAt_12 : decode cX11_paperAt 12 = .ok (.if_icmp .lt 14, 3) := by decide +kernel
theorem dX11_paperAt_15 : decode cX11_paperAt 15 = .ok (.new 156, 3) := by decide +kernel
theorem dX11_paperAt_18 : decode cX11_paperAt 18 = .ok (.dup, 1) := by decide +kernel
theorem dX11_paperAt_19 : decode cX11_paperAt 19 = .ok (.ldc_w 351, 3) := by decide +kernel
theorem dX11_paperAt_22 : decode cX11_paperAt 22 = .ok (.invokespecial 160, 3) := by decide +kernel
theorem dX11_paperAt_25 : decode cX11_paperAt 25 = .ok (.athrow, 1) := by decide +kernel
theorem dX11_paperAt_26 : decode cX11_paperAt 26 = .ok (.aload_n 0, 1) := by decide +kernel
theorem dX11_paperAt_27 : decode cX11_paperAt 27 = .ok (.getfield 10, 3) := by decide +kernel
theorem dX11_paperAt_30 : decode cX11_paperAt 30 = .ok (.iload_n 1, 1) := by decide +kernel
theorem dX11_paperAt_31 : decode cX11_paperAt 31 = .ok (.invokevirtual 138, 3) := by decide +kernel
theorem dX11_paperAt_34 : decode cX11_paperAt 34 = .ok (.checkcast 100, 3) := by decide +kernel
theorem dX11_paperAt_37 : decode cX11_paperAt 37 = .ok (.areturn, 1) := by decide +kernel
theorem dX11_reelAt_0 : decode cX11_reelAt 0 = .ok (.iload_n 1, 1) := by decide +kernel
theorem dX11_reelAt_1 : decode cX11_reelAt 1 = .ok (.ifCond .lt 14, 3) := by decide +kernel
theorem dX11_reelAt_4 : decode cX11_reelAt 4 = .ok (.iload_n 1, 1) := by decide +kernel
theorem dX11_reelAt_5 : decode cX11_reelAt 5 = .ok (.aload_n 0, 1) := by decide +kernel
theorem dX11_reelAt_6 : decode cX11_reelAt 6 = .ok (.getfield 16, 3) := by decide +kernel
theorem dX11_reelAt_9 : decode cX11_reelAt 9 = .ok (.invokevirtual 89, 3) := by decide +kernel
theorem dX11_reelAt_12 : decode cX11_reelAt 12 = .ok (.if_icmp .lt 14, 3) := by decide +kernel
theorem dX11_reelAt_15 : decode cX11_reelAt 15 = .ok (.new 156, 3) := by decide +kernel
theorem dX11_reelAt_18 : decode cX11_reelAt 18 = .ok (.dup, 1) := by decide +kernel
theorem dX11_reelAt_19 : decode cX11_reelAt 19 = .ok (.ldc_w 353, 3) := by decide +kernel
theorem dX11_reelAt_22 : decode cX11_reelAt 22 = .ok (.invokespecial 160, 3) := by decide +kernel
theorem dX11_reelAt_25 : decode cX11_reelAt 25 = .ok (.athrow, 1) := by decide +kernel
theorem dX11_reelAt_26 : decode cX11_reelAt 26 = .ok (.aload_n 0, 1) := by decide +kernel
theorem dX11_reelAt_27 : decode cX11_reelAt 27 = .ok (.getfield 16, 3) := by decide +kernel
theorem dX11_reelAt_30 : decode cX11_reelAt 30 = .ok (.iload_n 1, 1) := by decide +kernel
theorem dX11_reelAt_31 : decode cX11_reelAt 31 = .ok (.invokevirtual 138, 3) := by decide +kernel
theorem dX11_reelAt_34 : decode cX11_reelAt 34 = .ok (.checkcast 128, 3) := by decide +kernel
theorem dX11_reelAt_37 : decode cX11_reelAt 37 = .ok (.areturn, 1) := by decide +kernel
theorem dX11_appealAt_0 : decode cX11_appealAt 0 = .ok (.iload_n 1, 1) := by decide +kernel
theorem dX11_appealAt_1 : decode cX11_appealAt 1 = .ok (.ifCond .lt 14, 3) := by decide +kernel
theorem dX11_appealAt_4 : decode cX11_appealAt 4 = .ok (.iload_n 1, 1) := by decide +kernel
theorem dX11_appealAt_5 : decode cX11_appealAt 5 = .ok (.aload_n 0, 1) := by decide +kernel
theorem dX11_appealAt_6 : decode cX11_appealAt 6 = .ok (.getfield 22, 3) := by decide +kernel
theorem dX11_appealAt_9 : decode cX11_appealAt 9 = .ok (.invokevirtual 89, 3) := by decide +kernel
theorem dX11_appealAt_12 : decode cX11_appealAt 12 = .ok (.if_icmp .lt 14, 3) := by decide +kernel
theorem dX11_appealAt_15 : decode cX11_appealAt 15 = .ok (.new 156, 3) := by decide +kernel
theorem dX11_appealAt_18 : decode cX11_appealAt 18 = .ok (.dup, 1) := by decide +kernel
theorem dX11_appealAt_19 : decode cX11_appealAt 19 = .ok (.ldc_w 355, 3) := by decide +kernel
theorem dX11_appealAt_22 : decode cX11_appealAt 22 = .ok (.invokespecial 160, 3) := by decide +kernel
theorem dX11_appealAt_25 : decode cX11_appealAt 25 = .ok (.athrow, 1) := by decide +kernel
theorem dX11_appealAt_26 : decode cX11_appealAt 26 = .ok (.aload_n 0, 1) := by decide +kernel
theorem dX11_appealAt_27 : decode cX11_appealAt 27 = .ok (.getfield 22, 3) := by decide +kernel
theorem dX11_appealAt_30 : decode cX11_appealAt 30 = .ok (.iload_n 1, 1) := by decide +kernel
theorem dX11_appealAt_31 : decode cX11_appealAt 31 = .ok (.invokevirtual 138, 3) := by decide +kernel
theorem dX11_appealAt_34 : decode cX11_appealAt 34 = .ok (.checkcast 286, 3) := by decide +kernel
theorem dX11_appealAt_37 : decode cX11_appealAt 37 = .ok (.areturn, 1) := by decide +kernel
theorem dX11_areTwoAdmitted_0 : decode cX11_areTwoAdmitted 0 = .ok (.iload_n 1, 1) := by decide +kernel
theorem dX11_areTwoAdmitted_1 : decode cX11_areTwoAdmitted 1 = .ok (.iload_n 2, 1) := by decide +kernel
theorem dX11_areTwoAdmitted_2 : decode cX11_areTwoAdmitted 2 = .ok (.if_icmp .eq 23, 3) := by decide +kernel
theorem dX11_areTwoAdmitted_5 : decode cX11_areTwoAdmitted 5 = .ok (.aload_n 0, 1) := by decide +kernel
theorem dX11_areTwoAdmitted_6 : decode cX11_areTwoAdmitted 6 = .ok (.iload_n 1, 1) := by decide +kernel
theorem dX11_areTwoAdmitted_7 : decode cX11_areTwoAdmitted 7 = .ok (.invokevirtual 357, 3) := by decide +kernel
theorem dX11_areTwoAdmitted_10 : decode cX11_areTwoAdmitted 10 = .ok (.ifCond .eq 15, 3) := by decide +kernel
theorem dX11_areTwoAdmitted_13 : decode cX11_areTwoAdmitted 13 = .ok (.aload_n 0, 1) := by decide +kernel
theorem dX11_areTwoAdmitted_14 : decode cX11_areTwoAdmitted 14 = .ok (.iload_n 2, 1) := by decide +kernel
theorem dX11_areTwoAdmitted_15 : decode cX11_areTwoAdmitted 15 = .ok (.invokevirtual 357, 3) := by decide +kernel
theorem dX11_areTwoAdmitted_18 : decode cX11_areTwoAdmitted 18 = .ok (.ifCond .eq 7, 3) := by decide +kernel
theorem dX11_areTwoAdmitted_21 : decode cX11_areTwoAdmitted 21 = .ok (.iconst 1, 1) := by decide +kernel
theorem dX11_areTwoAdmitted_22 : decode cX11_areTwoAdmitted 22 = .ok (.goto 4, 3) := by decide +kernel
theorem dX11_areTwoAdmitted_25 : decode cX11_areTwoAdmitted 25 = .ok (.iconst 0, 1) := by decide +kernel
theorem dX11_areTwoAdmitted_26 : decode cX11_areTwoAdmitted 26 = .ok (.ireturn, 1) := by decide +kernel
theorem dX11_isAdmittedAt_0 : decode cX11_isAdmittedAt 0 = .ok (.iload_n 1, 1) := by decide +kernel
theorem dX11_isAdmittedAt_1 : decode cX11_isAdmittedAt 1 = .ok (.ifCond .lt 35, 3) := by decide +kernel
theorem dX11_isAdmittedAt_4 : decode cX11_isAdmittedAt 4 = .ok (.iload_n 1, 1) := by decide +kernel
theorem dX11_isAdmittedAt_5 : decode cX11_isAdmittedAt 5 = .ok (.aload_n 0, 1) := by decide +kernel
theorem dX11_isAdmittedAt_6 : decode cX11_isAdmittedAt 6 = .ok (.getfield 10, 3) := by decide +kernel
theorem dX11_isAdmittedAt_9 : decode cX11_isAdmittedAt 9 = .ok (.invokevirtual 89, 3) := by decide +kernel
theorem dX11_isAdmittedAt_12 : decode cX11_isAdmittedAt 12 = .ok (.if_icmp .ge 24, 3) := by decide +kernel
theorem dX11_isAdmittedAt_15 : decode cX11_isAdmittedAt 15 = .ok (.aload_n 0, 1) := by decide +kernel
theorem dX11_isAdmittedAt_16 : decode cX11_isAdmittedAt 16 = .ok (.getfield 10, 3) := by decide +kernel
theorem dX11_isAdmittedAt_19 : decode cX11_isAdmittedAt 19 = .ok (.iload_n 1, 1) := by decide +kernel
theorem dX11_isAdmittedAt_20 : decode cX11_isAdmittedAt 20 = .ok (.invokevirtual 138, 3) := by decide +kernel
theorem dX11_isAdmittedAt_23 : decode cX11_isAdmittedAt 23 = .ok (.checkcast 100, 3) := by decide +kernel
theorem dX11_isAdmittedAt_26 : decode cX11_isAdmittedAt 26 = .ok (.invokevirtual 224, 3) := by decide +kernel
theorem dX11_isAdmittedAt_29 : decode cX11_isAdmittedAt 29 = .ok (.ifCond .eq 7, 3) := by decide +kernel
theorem dX11_isAdmittedAt_32 : decode cX11_isAdmittedAt 32 = .ok (.iconst 1, 1) := by decide +kernel
theorem dX11_isAdmittedAt_33 : decode cX11_isAdmittedAt 33 = .ok (.goto 4, 3) := by decide +kernel
theorem dX11_isAdmittedAt_36 : decode cX11_isAdmittedAt 36 = .ok (.iconst 0, 1) := by decide +kernel
theorem dX11_isAdmittedAt_37 : decode cX11_isAdmittedAt 37 = .ok (.ireturn, 1) := by decide +kernel
theorem dX11_papersThatAre_0 : decode cX11_papersThatAre 0 = .ok (.iconst 0, 1) := by decide +kernel
theorem dX11_papersThatAre_1 : decode cX11_papersThatAre 1 = .ok (.istore_n 2, 1) := by decide +kernel
theorem dX11_papersThatAre_2 : decode cX11_papersThatAre 2 = .ok (.iconst 0, 1) := by decide +kernel
theorem dX11_papersThatAre_3 : decode cX11_papersThatAre 3 = .ok (.istore_n 3, 1) := by decide +kernel
theorem dX11_papersThatAre_4 : decode cX11_papersThatAre 4 = .ok (.iload_n 3, 1) := by decide +kernel
theorem dX11_papersThatAre_5 : decode cX11_papersThatAre 5 = .ok (.aload_n 0, 1) := by decide +kernel
theorem dX11_papersThatAre_6 : decode cX11_papersThatAre 6 = .ok (.getfield 10, 3) := by decide +kernel
theorem dX11_papersThatAre_9 : decode cX11_papersThatAre 9 = .ok (.invokevirtual 89, 3) := by decide +kernel
theorem dX11_papersThatAre_12 : decode cX11_papersThatAre 12 = .ok (.if_icmp .ge 30, 3) := by decide +kernel
theorem dX11_papersThatAre_15 : decode cX11_papersThatAre 15 = .ok (.aload_n 0, 1) := by decide +kernel
theorem dX11_papersThatAre_16 : decode cX11_papersThatAre 16 = .ok (.getfield 10, 3) := by decide +kernel
theorem dX11_papersThatAre_19 : decode cX11_papersThatAre 19 = .ok (.iload_n 3, 1) := by decide +kernel
theorem dX11_papersThatAre_20 : decode cX11_papersThatAre 20 = .ok (.invokevirtual 138, 3) := by decide +kernel
theorem dX11_papersThatAre_23 : decode cX11_papersThatAre 23 = .ok (.checkcast 100, 3) := by decide +kernel
theorem dX11_papersThatAre_26 : decode cX11_papersThatAre 26 = .ok (.getfield 117, 3) := by decide +kernel
theorem dX11_papersThatAre_29 : decode cX11_papersThatAre 29 = .ok (.iload_n 1, 1) := by decide +kernel
theorem dX11_papersThatAre_30 : decode cX11_papersThatAre 30 = .ok (.if_icmp .ne 6, 3) := by decide +kernel
theorem dX11_papersThatAre_33 : decode cX11_papersThatAre 33 = .ok (.iinc 2 1, 3) := by decide +kernel
theorem dX11_papersThatAre_36 : decode cX11_papersThatAre 36 = .ok (.iinc 3 1, 3) := by decide +kernel
theorem dX11_papersThatAre_39 : decode cX11_papersThatAre 39 = .ok (.goto (-35), 3) := by decide +kernel
theorem dX11_papersThatAre_42 : decode cX11_papersThatAre 42 = .ok (.iload_n 2, 1) := by decide +kernel
theorem dX11_papersThatAre_43 : decode cX11_papersThatAre 43 = .ok (.ireturn, 1) := by decide +kernel
theorem dX11_reelsStolen_0 : decode cX11_reelsStolen 0 = .ok (.iconst 0, 1) := by decide +kernel
theorem dX11_reelsStolen_1 : decode cX11_reelsStolen 1 = .ok (.istore_n 1, 1) := by decide +kernel
theorem dX11_reelsStolen_2 : decode cX11_reelsStolen 2 = .ok (.iconst 0, 1) := by decide +kernel
theorem dX11_reelsStolen_3 : decode cX11_reelsStolen 3 = .ok (.istore_n 2, 1) := by decide +kernel
theorem dX11_reelsStolen_4 : decode cX11_reelsStolen 4 = .ok (.iload_n 2, 1) := by decide +kernel
theorem dX11_reelsStolen_5 : decode cX11_reelsStolen 5 = .ok (.aload_n 0, 1) := by decide +kernel
theorem dX11_reelsStolen_6 : decode cX11_reelsStolen 6 = .ok (.getfield 16, 3) := by decide +kernel
theorem dX11_reelsStolen_9 : decode cX11_reelsStolen 9 = .ok (.invokevirtual 89, 3) := by decide +kernel
theorem dX11_reelsStolen_12 : decode cX11_reelsStolen 12 = .ok (.if_icmp .ge 31, 3) := by decide +kernel
theorem dX11_reelsStolen_15 : decode cX11_reelsStolen 15 = .ok (.aload_n 0, 1) := by decide +kernel
theorem dX11_reelsStolen_16 : decode cX11_reelsStolen 16 = .ok (.getfield 16, 3) := by decide +kernel
theorem dX11_reelsStolen_19 : decode cX11_reelsStolen 19 = .ok (.iload_n 2, 1) := by decide +kernel
theorem dX11_reelsStolen_20 : decode cX11_reelsStolen 20 = .ok (.invokevirtual 138, 3) := by decide +kernel
theorem dX11_reelsStolen_23 : decode cX11_reelsStolen 23 = .ok (.checkcast 128, 3) := by decide +kernel
theorem dX11_reelsStolen_26 : decode cX11_reelsStolen 26 = .ok (.getfield 135, 3) := by decide +kernel
theorem dX11_reelsStolen_29 : decode cX11_reelsStolen 29 = .ok (.bipush (-2), 2) := by decide +kernel
theorem dX11_reelsStolen_31 : decode cX11_reelsStolen 31 = .ok (.if_icmp .ne 6, 3) := by decide +kernel
theorem dX11_reelsStolen_34 : decode cX11_reelsStolen 34 = .ok (.iinc 1 1, 3) := by decide +kernel
theorem dX11_reelsStolen_37 : decode cX11_reelsStolen 37 = .ok (.iinc 2 1, 3) := by decide +kernel
theorem dX11_reelsStolen_40 : decode cX11_reelsStolen 40 = .ok (.goto (-36), 3) := by decide +kernel
theorem dX11_reelsStolen_43 : decode cX11_reelsStolen 43 = .ok (.iload_n 1, 1) := by decide +kernel
theorem dX11_reelsStolen_44 : decode cX11_reelsStolen 44 = .ok (.ireturn, 1) := by decide +kernel
theorem dX11_pool_0 : decode cX11_pool 0 = .ok (.iconst 0, 1) := by decide +kernel
theorem dX11_pool_1 : decode cX11_pool 1 = .ok (.istore_n 1, 1) := by decide +kernel
theorem dX11_pool_2 : decode cX11_pool 2 = .ok (.iconst 0, 1) := by decide +kernel
theorem dX11_pool_3 : decode cX11_pool 3 = .ok (.istore_n 2, 1) := by decide +kernel
theorem dX11_pool_4 : decode cX11_pool 4 = .ok (.iload_n 2, 1) := by decide +kernel
theorem dX11_pool_5 : decode cX11_pool 5 = .ok (.aload_n 0, 1) := by decide +kernel
theorem dX11_pool_6 : decode cX11_pool 6 = .ok (.getfield 16, 3) := by decide +kernel
theorem dX11_pool_9 : decode cX11_pool 9 = .ok (.invokevirtual 89, 3) := by decide +kernel
theorem dX11_pool_12 : decode cX11_pool 12 = .ok (.if_icmp .ge 36, 3) := by decide +kernel
theorem dX11_pool_15 : decode cX11_pool 15 = .ok (.aload_n 0, 1) := by decide +kernel
theorem dX11_pool_16 : decode cX11_pool 16 = .ok (.getfield 16, 3) := by decide +kernel
theorem dX11_pool_19 : decode cX11_pool 19 = .ok (.iload_n 2, 1) := by decide +kernel
theorem dX11_pool_20 : decode cX11_pool 20 = .ok (.invokevirtual 138, 3) := by decide +kernel
theorem dX11_pool_23 : decode cX11_pool 23 = .ok (.checkcast 128, 3) := by decide +kernel
theorem dX11_pool_26 : decode cX11_pool 26 = .ok (.astore_n 3, 1) := by decide +kernel
theorem dX11_pool_27 : decode cX11_pool 27 = .ok (.aload_n 3, 1) := by decide +kernel
theorem dX11_pool_28 : decode cX11_pool 28 = .ok (.getfield 135, 3) := by decide +kernel
theorem dX11_pool_31 : decode cX11_pool 31 = .ok (.iconst (-1), 1) := by decide +kernel
theorem dX11_pool_32 : decode cX11_pool 32 = .ok (.if_icmp .ne 10, 3) := by decide +kernel
theorem dX11_pool_35 : decode cX11_pool 35 = .ok (.iload_n 1, 1) := by decide +kernel
theorem dX11_pool_36 : decode cX11_pool 36 = .ok (.aload_n 3, 1) := by decide +kernel
theorem dX11_pool_37 : decode cX11_pool 37 = .ok (.getfield 145, 3) := by decide +kernel
theorem dX11_pool_40 : decode cX11_pool 40 = .ok (.iadd, 1) := by decide +kernel
theorem dX11_pool_41 : decode cX11_pool 41 = .ok (.istore_n 1, 1) := by decide +kernel
theorem dX11_pool_42 : decode cX11_pool 42 = .ok (.iinc 2 1, 3) := by decide +kernel
theorem dX11_pool_45 : decode cX11_pool 45 = .ok (.goto (-41), 3) := by decide +kernel
theorem dX11_pool_48 : decode cX11_pool 48 = .ok (.iload_n 1, 1) := by decide +kernel
theorem dX11_pool_49 : decode cX11_pool 49 = .ok (.ireturn, 1) := by decide +kernel
theorem dX11_demandOf_0 : decode cX11_demandOf 0 = .ok (.iconst 0, 1) := by decide +kernel
theorem dX11_demandOf_1 : decode cX11_demandOf 1 = .ok (.istore_n 3, 1) := by decide +kernel
theorem dX11_demandOf_2 : decode cX11_demandOf 2 = .ok (.iconst 0, 1) := by decide +kernel
theorem dX11_demandOf_3 : decode cX11_demandOf 3 = .ok (.istore 4, 2) := by decide +kernel
theorem dX11_demandOf_5 : decode cX11_demandOf 5 = .ok (.iload 4, 2) := by decide +kernel
theorem dX11_demandOf_7 : decode cX11_demandOf 7 = .ok (.aload_n 0, 1) := by decide +kernel
theorem dX11_demandOf_8 : decode cX11_demandOf 8 = .ok (.getfield 29, 3) := by decide +kernel
theorem dX11_demandOf_11 : decode cX11_demandOf 11 = .ok (.if_icmp .ge 56, 3) := by decide +kernel
theorem dX11_demandOf_14 : decode cX11_demandOf 14 = .ok (.iload 4, 2) := by decide +kernel
theorem dX11_demandOf_16 : decode cX11_demandOf 16 = .ok (.aload_n 0, 1) := by decide +kernel
theorem dX11_demandOf_17 : decode cX11_demandOf 17 = .ok (.getfield 25, 3) := by decide +kernel
theorem dX11_demandOf_20 : decode cX11_demandOf 20 = .ok (.arraylength, 1) := by decide +kernel
theorem dX11_demandOf_21 : decode cX11_demandOf 21 = .ok (.if_icmp .ge 46, 3) := by decide +kernel
theorem dX11_demandOf_24 : decode cX11_demandOf 24 = .ok (.iload 4, 2) := by decide +kernel
theorem dX11_demandOf_26 : decode cX11_demandOf 26 = .ok (.aload_n 1, 1) := by decide +kernel
theorem dX11_demandOf_27 : decode cX11_demandOf 27 = .ok (.getfield 153, 3) := by decide +kernel
theorem dX11_demandOf_30 : decode cX11_demandOf 30 = .ok (.arraylength, 1) := by decide +kernel
theorem dX11_demandOf_31 : decode cX11_demandOf 31 = .ok (.if_icmp .ge 36, 3) := by decide +kernel
theorem dX11_demandOf_34 : decode cX11_demandOf 34 = .ok (.iload_n 3, 1) := by decide +kernel
theorem dX11_demandOf_35 : decode cX11_demandOf 35 = .ok (.aload_n 0, 1) := by decide +kernel
theorem dX11_demandOf_36 : decode cX11_demandOf 36 = .ok (.getfield 25, 3) := by decide +kernel
theorem dX11_demandOf_39 : decode cX11_demandOf 39 = .ok (.iload 4, 2) := by decide +kernel
theorem dX11_demandOf_41 : decode cX11_demandOf 41 = .ok (.iaload, 1) := by decide +kernel
theorem dX11_demandOf_42 : decode cX11_demandOf 42 = .ok (.aload_n 1, 1) := by decide +kernel
theorem dX11_demandOf_43 : decode cX11_demandOf 43 = .ok (.getfield 153, 3) := by decide +kernel
theorem dX11_demandOf_46 : decode cX11_demandOf 46 = .ok (.iload 4, 2) := by decide +kernel
theorem dX11_demandOf_48 : decode cX11_demandOf 48 = .ok (.iaload, 1) := by decide +kernel
theorem dX11_demandOf_49 : decode cX11_demandOf 49 = .ok (.imul, 1) := by decide +kernel
theorem dX11_demandOf_50 : decode cX11_demandOf 50 = .ok (.bipush 100, 2) := by decide +kernel
theorem dX11_demandOf_52 : decode cX11_demandOf 52 = .ok (.iload_n 2, 1) := by decide +kernel
theorem dX11_demandOf_53 : decode cX11_demandOf 53 = .ok (.isub, 1) := by decide +kernel
theorem dX11_demandOf_54 : decode cX11_demandOf 54 = .ok (.imul, 1) := by decide +kernel
theorem dX11_demandOf_55 : decode cX11_demandOf 55 = .ok (.sipush 10000, 3) := by decide +kernel
theorem dX11_demandOf_58 : decode cX11_demandOf 58 = .ok (.idiv, 1) := by decide +kernel
theorem dX11_demandOf_59 : decode cX11_demandOf 59 = .ok (.iadd, 1) := by decide +kernel
theorem dX11_demandOf_60 : decode cX11_demandOf 60 = .ok (.istore_n 3, 1) := by decide +kernel
theorem dX11_demandOf_61 : decode cX11_demandOf 61 = .ok (.iinc 4 1, 3) := by decide +kernel
theorem dX11_demandOf_64 : decode cX11_demandOf 64 = .ok (.goto (-59), 3) := by decide +kernel
theorem dX11_demandOf_67 : decode cX11_demandOf 67 = .ok (.iload_n 3, 1) := by decide +kernel
theorem dX11_demandOf_68 : decode cX11_demandOf 68 = .ok (.ireturn, 1) := by decide +kernel
theorem dX11_numberInForce_0 : decode cX11_numberInForce 0 = .ok (.iconst (-1), 1) := by decide +kernel
theorem dX11_numberInForce_1 : decode cX11_numberInForce 1 = .ok (.istore_n 2, 1) := by decide +kernel
theorem dX11_numberInForce_2 : decode cX11_numberInForce 2 = .ok (.iconst 0, 1) := by decide +kernel
theorem dX11_numberInForce_3 : decode cX11_numberInForce 3 = .ok (.istore_n 3, 1) := by decide +kernel
theorem dX11_numberInForce_4 : decode cX11_numberInForce 4 = .ok (.iconst 0, 1) := by decide +kernel
theorem dX11_numberInForce_5 : decode cX11_numberInForce 5 = .ok (.istore 4, 2) := by decide +kernel
theorem dX11_numberInForce_7 : decode cX11_numberInForce 7 = .ok (.iload 4, 2) := by decide +kernel
theorem dX11_numberInForce_9 : decode cX11_numberInForce 9 = .ok (.aload_n 0, 1) := by decide +kernel
theorem dX11_numberInForce_10 : decode cX11_numberInForce 10 = .ok (.getfield 19, 3) := by decide +kernel
theorem dX11_numberInForce_13 : decode cX11_numberInForce 13 = .ok (.invokevirtual 89, 3) := by decide +kernel
theorem dX11_numberInForce_16 : decode cX11_numberInForce 16 = .ok (.if_icmp .ge 49, 3) := by decide +kernel
theorem dX11_numberInForce_19 : decode cX11_numberInForce 19 = .ok (.aload_n 0, 1) := by decide +kernel
theorem dX11_numberInForce_20 : decode cX11_numberInForce 20 = .ok (.getfield 19, 3) := by decide +kernel
theorem dX11_numberInForce_23 : decode cX11_numberInForce 23 = .ok (.iload 4, 2) := by decide +kernel
theorem dX11_numberInForce_25 : decode cX11_numberInForce 25 = .ok (.invokevirtual 138, 3) := by decide +kernel
theorem dX11_numberInForce_28 : decode cX11_numberInForce 28 = .ok (.checkcast 36, 3) := by decide +kernel
theorem dX11_numberInForce_31 : decode cX11_numberInForce 31 = .ok (.getfield 361, 3) := by decide +kernel
theorem dX11_numberInForce_34 : decode cX11_numberInForce 34 = .ok (.istore 5, 2) := by decide +kernel
theorem dX11_numberInForce_36 : decode cX11_numberInForce 36 = .ok (.iload 5, 2) := by decide +kernel
theorem dX11_numberInForce_38 : decode cX11_numberInForce 38 = .ok (.iload_n 1, 1) := by decide +kernel
theorem dX11_numberInForce_39 : decode cX11_numberInForce 39 = .ok (.if_icmp .gt 20, 3) := by decide +kernel
theorem dX11_numberInForce_42 : decode cX11_numberInForce 42 = .ok (.iload_n 2, 1) := by decide +kernel
theorem dX11_numberInForce_43 : decode cX11_numberInForce 43 = .ok (.iconst (-1), 1) := by decide +kernel
theorem dX11_numberInForce_44 : decode cX11_numberInForce 44 = .ok (.if_icmp .eq 9, 3) := by decide +kernel
theorem dX11_numberInForce_47 : decode cX11_numberInForce 47 = .ok (.iload 5, 2) := by decide +kernel
theorem dX11_numberInForce_49 : decode cX11_numberInForce 49 = .ok (.iload_n 3, 1) := by decide +kernel
theorem dX11_numberInForce_50 : decode cX11_numberInForce 50 = .ok (.if_icmp .lt 9, 3) := by decide +kernel
theorem dX11_numberInForce_53 : decode cX11_numberInForce 53 = .ok (.iload 4, 2) := by decide +kernel
theorem dX11_numberInForce_55 : decode cX11_numberInForce 55 = .ok (.istore_n 2, 1) := by decide +kernel
theorem dX11_numberInForce_56 : decode cX11_numberInForce 56 = .ok (.iload 5, 2) := by decide +kernel
theorem dX11_numberInForce_58 : decode cX11_numberInForce 58 = .ok (.istore_n 3, 1) := by decide +kernel
theorem dX11_numberInForce_59 : decode cX11_numberInForce 59 = .ok (.iinc 4 1, 3) := by decide +kernel
theorem dX11_numberInForce_62 : decode cX11_numberInForce 62 = .ok (.goto (-55), 3) := by decide +kernel
theorem dX11_numberInForce_65 : decode cX11_numberInForce 65 = .ok (.iload_n 2, 1) := by decide +kernel
theorem dX11_numberInForce_66 : decode cX11_numberInForce 66 = .ok (.ireturn, 1) := by decide +kernel
theorem dX11_orderNow_0 : decode cX11_orderNow 0 = .ok (.aload_n 0, 1) := by decide +kernel
theorem dX11_orderNow_1 : decode cX11_orderNow 1 = .ok (.aload_n 0, 1) := by decide +kernel
theorem dX11_orderNow_2 : decode cX11_orderNow 2 = .ok (.getfield 33, 3) := by decide +kernel
theorem dX11_orderNow_5 : decode cX11_orderNow 5 = .ok (.invokevirtual 182, 3) := by decide +kernel
theorem dX11_orderNow_8 : decode cX11_orderNow 8 = .ok (.istore_n 1, 1) := by decide +kernel
theorem dX11_orderNow_9 : decode cX11_orderNow 9 = .ok (.iload_n 1, 1) := by decide +kernel
theorem dX11_orderNow_10 : decode cX11_orderNow 10 = .ok (.ifCond .lt 28, 3) := by decide +kernel
theorem dX11_orderNow_13 : decode cX11_orderNow 13 = .ok (.iload_n 1, 1) := by decide +kernel
theorem dX11_orderNow_14 : decode cX11_orderNow 14 = .ok (.aload_n 0, 1) := by decide +kernel
theorem dX11_orderNow_15 : decode cX11_orderNow 15 = .ok (.getfield 19, 3) := by decide +kernel
theorem dX11_orderNow_18 : decode cX11_orderNow 18 = .ok (.invokevirtual 89, 3) := by decide +kernel
theorem dX11_orderNow_21 : decode cX11_orderNow 21 = .ok (.if_icmp .ge 17, 3) := by decide +kernel
theorem dX11_orderNow_24 : decode cX11_orderNow 24 = .ok (.aload_n 0, 1) := by decide +kernel
theorem dX11_orderNow_25 : decode cX11_orderNow 25 = .ok (.getfield 19, 3) := by decide +kernel
theorem dX11_orderNow_28 : decode cX11_orderNow 28 = .ok (.iload_n 1, 1) := by decide +kernel
theorem dX11_orderNow_29 : decode cX11_orderNow 29 = .ok (.invokevirtual 138, 3) := by decide +kernel
theorem dX11_orderNow_32 : decode cX11_orderNow 32 = .ok (.checkcast 36, 3) := by decide +kernel
theorem dX11_orderNow_35 : decode cX11_orderNow 35 = .ok (.goto 7, 3) := by decide +kernel
theorem dX11_orderNow_38 : decode cX11_orderNow 38 = .ok (.aload_n 0, 1) := by decide +kernel
theorem dX11_orderNow_39 : decode cX11_orderNow 39 = .ok (.getfield 41, 3) := by decide +kernel
theorem dX11_orderNow_42 : decode cX11_orderNow 42 = .ok (.areturn, 1) := by decide +kernel
theorem dX11_partValue_0 : decode cX11_partValue 0 = .ok (.aload_n 0, 1) := by decide +kernel
theorem dX11_partValue_1 : decode cX11_partValue 1 = .ok (.getfield 55, 3) := by decide +kernel
theorem dX11_partValue_4 : decode cX11_partValue 4 = .ok (.aload_n 1, 1) := by decide +kernel
theorem dX11_partValue_5 : decode cX11_partValue 5 = .ok (.getfield 362, 3) := by decide +kernel
theorem dX11_partValue_8 : decode cX11_partValue 8 = .ok (.aload_n 2, 1) := by decide +kernel
theorem dX11_partValue_9 : decode cX11_partValue 9 = .ok (.aload_n 2, 1) := by decide +kernel
theorem dX11_partValue_10 : decode cX11_partValue 10 = .ok (.getfield 199, 3) := by decide +kernel
theorem dX11_partValue_13 : decode cX11_partValue 13 = .ok (.aload_n 0, 1) := by decide +kernel
theorem dX11_partValue_14 : decode cX11_partValue 14 = .ok (.getfield 33, 3) := by decide +kernel
theorem dX11_partValue_17 : decode cX11_partValue 17 = .ok (.invokevirtual 365, 3) := by decide +kernel
theorem dX11_partValue_20 : decode cX11_partValue 20 = .ok (.iconst 0, 1) := by decide +kernel
theorem dX11_partValue_21 : decode cX11_partValue 21 = .ok (.ldc_w 310, 3) := by decide +kernel
theorem dX11_partValue_24 : decode cX11_partValue 24 = .ok (.invokestatic 369, 3) := by decide +kernel
theorem dX11_partValue_27 : decode cX11_partValue 27 = .ok (.ireturn, 1) := by decide +kernel
theorem dX11_priceValue_0 : decode cX11_priceValue 0 = .ok (.aload_n 1, 1) := by decide +kernel
theorem dX11_priceValue_1 : decode cX11_priceValue 1 = .ok (.getfield 372, 3) := by decide +kernel
theorem dX11_priceValue_4 : decode cX11_priceValue 4 = .ok (.ifnonnull 5, 3) := by decide +kernel
theorem dX11_priceValue_7 : decode cX11_priceValue 7 = .ok (.iconst (-1), 1) := by decide +kernel
theorem dX11_priceValue_8 : decode cX11_priceValue 8 = .ok (.ireturn, 1) := by decide +kernel
theorem dX11_priceValue_9 : decode cX11_priceValue 9 = .ok (.aload_n 0, 1) := by decide +kernel
theorem dX11_priceValue_10 : decode cX11_priceValue 10 = .ok (.getfield 55, 3) := by decide +kernel
theorem dX11_priceValue_13 : decode cX11_priceValue 13 = .ok (.aload_n 1, 1) := by decide +kernel
theorem dX11_priceValue_14 : decode cX11_priceValue 14 = .ok (.getfield 372, 3) := by decide +kernel
theorem dX11_priceValue_17 : decode cX11_priceValue 17 = .ok (.aload_n 2, 1) := by decide +kernel
theorem dX11_priceValue_18 : decode cX11_priceValue 18 = .ok (.iload_n 3, 1) := by decide +kernel
theorem dX11_priceValue_19 : decode cX11_priceValue 19 = .ok (.aload_n 0, 1) := by decide +kernel
theorem dX11_priceValue_20 : decode cX11_priceValue 20 = .ok (.getfield 33, 3) := by decide +kernel
theorem dX11_priceValue_23 : decode cX11_priceValue 23 = .ok (.invokevirtual 365, 3) := by decide +kernel
theorem dX11_priceValue_26 : decode cX11_priceValue 26 = .ok (.iconst 1, 1) := by decide +kernel
theorem dX11_priceValue_27 : decode cX11_priceValue 27 = .ok (.bipush 100, 2) := by decide +kernel
theorem dX11_priceValue_29 : decode cX11_priceValue 29 = .ok (.invokestatic 369, 3) := by decide +kernel
theorem dX11_priceValue_32 : decode cX11_priceValue 32 = .ok (.ireturn, 1) := by decide +kernel
theorem dX11_partPool_0 : decode cX11_partPool 0 = .ok (.iload_n 2, 1) := by decide +kernel
theorem dX11_partPool_1 : decode cX11_partPool 1 = .ok (.iconst 3, 1) := by decide +kernel
theorem dX11_partPool_2 : decode cX11_partPool 2 = .ok (.if_icmp .ne 19, 3) := by decide +kernel
theorem dX11_partPool_5 : decode cX11_partPool 5 = .ok (.aload_n 0, 1) := by decide +kernel
theorem dX11_partPool_6 : decode cX11_partPool 6 = .ok (.getfield 62, 3) := by decide +kernel
theorem dX11_partPool_9 : decode cX11_partPool 9 = .ok (.aload_n 0, 1) := by decide +kernel
theorem dX11_partPool_10 : decode cX11_partPool 10 = .ok (.getfield 10, 3) := by decide +kernel
theorem dX11_partPool_13 : decode cX11_partPool 13 = .ok (.aload_n 0, 1) := by decide +kernel
theorem dX11_partPool_14 : decode cX11_partPool 14 = .ok (.invokevirtual 328, 3) := by decide +kernel
theorem dX11_partPool_17 : decode cX11_partPool 17 = .ok (.invokevirtual 375, 3) := by decide +kernel
theorem dX11_partPool_20 : decode cX11_partPool 20 = .ok (.return_, 1) := by decide +kernel
theorem dX11_partPool_21 : decode cX11_partPool 21 = .ok (.iconst 0, 1) := by decide +kernel
theorem dX11_partPool_22 : decode cX11_partPool 22 = .ok (.istore_n 3, 1) := by decide +kernel
theorem dX11_partPool_23 : decode cX11_partPool 23 = .ok (.iload_n 3, 1) := by decide +kernel
theorem dX11_partPool_24 : decode cX11_partPool 24 = .ok (.aload_n 0, 1) := by decide +kernel
theorem dX11_partPool_25 : decode cX11_partPool 25 = .ok (.getfield 10, 3) := by decide +kernel
theorem dX11_partPool_28 : decode cX11_partPool 28 = .ok (.invokevirtual 89, 3) := by decide +kernel
theorem dX11_partPool_31 : decode cX11_partPool 31 = .ok (.if_icmp .ge 50, 3) := by decide +kernel
theorem dX11_partPool_34 : decode cX11_partPool 34 = .ok (.aload_n 0, 1) := by decide +kernel
theorem dX11_partPool_35 : decode cX11_partPool 35 = .ok (.getfield 10, 3) := by decide +kernel
theorem dX11_partPool_38 : decode cX11_partPool 38 = .ok (.iload_n 3, 1) := by decide +kernel
theorem dX11_partPool_39 : decode cX11_partPool 39 = .ok (.invokevirtual 138, 3) := by decide +kernel
theorem dX11_partPool_42 : decode cX11_partPool 42 = .ok (.checkcast 100, 3) := by decide +kernel
theorem dX11_partPool_45 : decode cX11_partPool 45 = .ok (.astore 4, 2) := by decide +kernel
theorem dX11_partPool_47 : decode cX11_partPool 47 = .ok (.aload_n 0, 1) := by decide +kernel
theorem dX11_partPool_48 : decode cX11_partPool 48 = .ok (.getfield 62, 3) := by decide +kernel
theorem dX11_partPool_51 : decode cX11_partPool 51 = .ok (.iload_n 3, 1) := by decide +kernel
theorem dX11_partPool_52 : decode cX11_partPool 52 = .ok (.aload 4, 2) := by decide +kernel
theorem dX11_partPool_54 : decode cX11_partPool 54 = .ok (.invokevirtual 224, 3) := by decide +kernel
theorem dX11_partPool_57 : decode cX11_partPool 57 = .ok (.ifCond .eq 14, 3) := by decide +kernel
theorem dX11_partPool_60 : decode cX11_partPool 60 = .ok (.aload_n 0, 1) := by decide +kernel
theorem dX11_partPool_61 : decode cX11_partPool 61 = .ok (.aload_n 1, 1) := by decide +kernel
theorem dX11_partPool_62 : decode cX11_partPool 62 = .ok (.aload 4, 2) := by decide +kernel
theorem dX11_partPool_64 : decode cX11_partPool 64 = .ok (.iload_n 2, 1) := by decide +kernel
theorem dX11_partPool_65 : decode cX11_partPool 65 = .ok (.invokevirtual 379, 3) := by decide +kernel
theorem dX11_partPool_68 : decode cX11_partPool 68 = .ok (.goto 4, 3) := by decide +kernel
theorem dX11_partPool_71 : decode cX11_partPool 71 = .ok (.iconst 0, 1) := by decide +kernel
theorem dX11_partPool_72 : decode cX11_partPool 72 = .ok (.invokevirtual 382, 3) := by decide +kernel
theorem dX11_partPool_75 : decode cX11_partPool 75 = .ok (.iinc 3 1, 3) := by decide +kernel
theorem dX11_partPool_78 : decode cX11_partPool 78 = .ok (.goto (-55), 3) := by decide +kernel
theorem dX11_partPool_81 : decode cX11_partPool 81 = .ok (.aload_n 0, 1) := by decide +kernel
theorem dX11_partPool_82 : decode cX11_partPool 82 = .ok (.getfield 62, 3) := by decide +kernel
theorem dX11_partPool_85 : decode cX11_partPool 85 = .ok (.aload_n 0, 1) := by decide +kernel
theorem dX11_partPool_86 : decode cX11_partPool 86 = .ok (.getfield 10, 3) := by decide +kernel
theorem dX11_partPool_89 : decode cX11_partPool 89 = .ok (.aload_n 0, 1) := by decide +kernel
theorem dX11_partPool_90 : decode cX11_partPool 90 = .ok (.invokevirtual 328, 3) := by decide +kernel
theorem dX11_partPool_93 : decode cX11_partPool 93 = .ok (.aload_n 1, 1) := by decide +kernel
theorem dX11_partPool_94 : decode cX11_partPool 94 = .ok (.getfield 218, 3) := by decide +kernel
theorem dX11_partPool_97 : decode cX11_partPool 97 = .ok (.aload_n 1, 1) := by decide +kernel
theorem dX11_partPool_98 : decode cX11_partPool 98 = .ok (.getfield 385, 3) := by decide +kernel
theorem dX11_partPool_101 : decode cX11_partPool 101 = .ok (.invokevirtual 389, 3) := by decide +kernel
theorem dX11_partPool_104 : decode cX11_partPool 104 = .ok (.return_, 1) := by decide +kernel
theorem dX11_weightOf_0 : decode cX11_weightOf 0 = .ok (.iload_n 3, 1) := by decide +kernel
theorem dX11_weightOf_1 : decode cX11_weightOf 1 = .ok (.ifCond .ne 10, 3) := by decide +kernel
theorem dX11_weightOf_4 : decode cX11_weightOf 4 = .ok (.aload_n 0, 1) := by decide +kernel
theorem dX11_weightOf_5 : decode cX11_weightOf 5 = .ok (.aload_n 1, 1) := by decide +kernel
theorem dX11_weightOf_6 : decode cX11_weightOf 6 = .ok (.aload_n 2, 1) := by decide +kernel
theorem dX11_weightOf_7 : decode cX11_weightOf 7 = .ok (.invokevirtual 189, 3) := by decide +kernel
theorem dX11_weightOf_10 : decode cX11_weightOf 10 = .ok (.ireturn, 1) := by decide +kernel
theorem dX11_weightOf_11 : decode cX11_weightOf 11 = .ok (.iload_n 3, 1) := by decide +kernel
theorem dX11_weightOf_12 : decode cX11_weightOf 12 = .ok (.iconst 1, 1) := by decide +kernel
theorem dX11_weightOf_13 : decode cX11_weightOf 13 = .ok (.if_icmp .ne 10, 3) := by decide +kernel
theorem dX11_weightOf_16 : decode cX11_weightOf 16 = .ok (.aload_n 2, 1) := by decide +kernel
theorem dX11_weightOf_17 : decode cX11_weightOf 17 = .ok (.getfield 393, 3) := by decide +kernel
theorem dX11_weightOf_20 : decode cX11_weightOf 20 = .ok (.goto 4, 3) := by decide +kernel
theorem dX11_weightOf_23 : decode cX11_weightOf 23 = .ok (.iconst 1, 1) := by decide +kernel
theorem dX11_weightOf_24 : decode cX11_weightOf 24 = .ok (.ireturn, 1) := by decide +kernel
theorem dX11_goBy_0 : decode cX11_goBy 0 = .ok (.aload_n 0, 1) := by decide +kernel
theorem dX11_goBy_1 : decode cX11_goBy 1 = .ok (.invokevirtual 185, 3) := by decide +kernel
theorem dX11_goBy_4 : decode cX11_goBy 4 = .ok (.astore_n 1, 1) := by decide +kernel
theorem dX11_goBy_5 : decode cX11_goBy 5 = .ok (.aload_n 0, 1) := by decide +kernel
theorem dX11_goBy_6 : decode cX11_goBy 6 = .ok (.invokevirtual 396, 3) := by decide +kernel
theorem dX11_goBy_9 : decode cX11_goBy 9 = .ok (.aload_n 0, 1) := by decide +kernel
theorem dX11_goBy_10 : decode cX11_goBy 10 = .ok (.aload_n 1, 1) := by decide +kernel
theorem dX11_goBy_11 : decode cX11_goBy 11 = .ok (.getfield 209, 3) := by decide +kernel
theorem dX11_goBy_14 : decode cX11_goBy 14 = .ok (.invokevirtual 399, 3) := by decide +kernel
theorem dX11_goBy_17 : decode cX11_goBy 17 = .ok (.aload_n 0, 1) := by decide +kernel
theorem dX11_goBy_18 : decode cX11_goBy 18 = .ok (.aload_n 1, 1) := by decide +kernel
theorem dX11_goBy_19 : decode cX11_goBy 19 = .ok (.aload_n 1, 1) := by decide +kernel
theorem dX11_goBy_20 : decode cX11_goBy 20 = .ok (.getfield 221, 3) := by decide +kernel
theorem dX11_goBy_23 : decode cX11_goBy 23 = .ok (.invokevirtual 234, 3) := by decide +kernel
theorem dX11_goBy_26 : decode cX11_goBy 26 = .ok (.aload_n 0, 1) := by decide +kernel
theorem dX11_goBy_27 : decode cX11_goBy 27 = .ok (.aload_n 1, 1) := by decide +kernel
theorem dX11_goBy_28 : decode cX11_goBy 28 = .ok (.getfield 221, 3) := by decide +kernel
theorem dX11_goBy_31 : decode cX11_goBy 31 = .ok (.invokevirtual 402, 3) := by decide +kernel
theorem dX11_goBy_34 : decode cX11_goBy 34 = .ok (.aload_n 0, 1) := by decide +kernel
theorem dX11_goBy_35 : decode cX11_goBy 35 = .ok (.invokevirtual 405, 3) := by decide +kernel
theorem dX11_goBy_38 : decode cX11_goBy 38 = .ok (.aload_n 0, 1) := by decide +kernel
theorem dX11_goBy_39 : decode cX11_goBy 39 = .ok (.getfield 69, 3) := by decide +kernel
theorem dX11_goBy_42 : decode cX11_goBy 42 = .ok (.aload_n 0, 1) := by decide +kernel
theorem dX11_goBy_43 : decode cX11_goBy 43 = .ok (.getfield 33, 3) := by decide +kernel
theorem dX11_goBy_46 : decode cX11_goBy 46 = .ok (.invokevirtual 408, 3) := by decide +kernel
theorem dX11_goBy_49 : decode cX11_goBy 49 = .ok (.iconst 0, 1) := by decide +kernel
theorem dX11_goBy_50 : decode cX11_goBy 50 = .ok (.istore_n 2, 1) := by decide +kernel
theorem dX11_goBy_51 : decode cX11_goBy 51 = .ok (.iload_n 2, 1) := by decide +kernel
theorem dX11_goBy_52 : decode cX11_goBy 52 = .ok (.aload_n 0, 1) := by decide +kernel
theorem dX11_goBy_53 : decode cX11_goBy 53 = .ok (.getfield 10, 3) := by decide +kernel
theorem dX11_goBy_56 : decode cX11_goBy 56 = .ok (.invokevirtual 89, 3) := by decide +kernel
theorem dX11_goBy_59 : decode cX11_goBy 59 = .ok (.if_icmp .ge 59, 3) := by decide +kernel
theorem dX11_goBy_62 : decode cX11_goBy 62 = .ok (.aload_n 0, 1) := by decide +kernel
theorem dX11_goBy_63 : decode cX11_goBy 63 = .ok (.getfield 10, 3) := by decide +kernel
theorem dX11_goBy_66 : decode cX11_goBy 66 = .ok (.iload_n 2, 1) := by decide +kernel
theorem dX11_goBy_67 : decode cX11_goBy 67 = .ok (.invokevirtual 138, 3) := by decide +kernel
theorem dX11_goBy_70 : decode cX11_goBy 70 = .ok (.checkcast 100, 3) := by decide +kernel
theorem dX11_goBy_73 : decode cX11_goBy 73 = .ok (.astore_n 3, 1) := by decide +kernel
theorem dX11_goBy_74 : decode cX11_goBy 74 = .ok (.aload_n 3, 1) := by decide +kernel
theorem dX11_goBy_75 : decode cX11_goBy 75 = .ok (.invokevirtual 224, 3) := by decide +kernel
theorem dX11_goBy_78 : decode cX11_goBy 78 = .ok (.ifCond .eq 30, 3) := by decide +kernel
theorem dX11_goBy_81 : decode cX11_goBy 81 = .ok (.aload_n 0, 1) := by decide +kernel
theorem dX11_goBy_82 : decode cX11_goBy 82 = .ok (.aload_n 1, 1) := by decide +kernel
theorem dX11_goBy_83 : decode cX11_goBy 83 = .ok (.aload_n 3, 1) := by decide +kernel
theorem dX11_goBy_84 : decode cX11_goBy 84 = .ok (.invokevirtual 411, 3) := by decide +kernel
theorem dX11_goBy_87 : decode cX11_goBy 87 = .ok (.aload_n 0, 1) := by decide +kernel
theorem dX11_goBy_88 : decode cX11_goBy 88 = .ok (.getfield 69, 3) := by decide +kernel
theorem dX11_goBy_91 : decode cX11_goBy 91 = .ok (.aload_n 0, 1) := by decide +kernel
theorem dX11_goBy_92 : decode cX11_goBy 92 = .ok (.getfield 33, 3) := by decide +kernel
theorem dX11_goBy_95 : decode cX11_goBy 95 = .ok (.iload_n 2, 1) := by decide +kernel
theorem dX11_goBy_96 : decode cX11_goBy 96 = .ok (.aload_n 0, 1) := by decide +kernel
theorem dX11_goBy_97 : decode cX11_goBy 97 = .ok (.getfield 62, 3) := by decide +kernel
theorem dX11_goBy_100 : decode cX11_goBy 100 = .ok (.iload_n 2, 1) := by decide +kernel
theorem dX11_goBy_101 : decode cX11_goBy 101 = .ok (.invokevirtual 238, 3) := by decide +kernel
theorem dX11_goBy_104 : decode cX11_goBy 104 = .ok (.aload_n 3, 1) := by decide +kernel
theorem dX11_goBy_105 : decode cX11_goBy 105 = .ok (.invokevirtual 415, 3) := by decide +kernel
theorem dX11_goBy_108 : decode cX11_goBy 108 = .ok (.aload_n 3, 1) := by decide +kernel
theorem dX11_goBy_109 : decode cX11_goBy 109 = .ok (.invokevirtual 419, 3) := by decide +kernel
theorem dX11_goBy_112 : decode cX11_goBy 112 = .ok (.iinc 2 1, 3) := by decide +kernel
theorem dX11_goBy_115 : decode cX11_goBy 115 = .ok (.goto (-64), 3) := by decide +kernel
theorem dX11_goBy_118 : decode cX11_goBy 118 = .ok (.aload_n 0, 1) := by decide +kernel
theorem dX11_goBy_119 : decode cX11_goBy 119 = .ok (.dup, 1) := by decide +kernel
theorem dX11_goBy_120 : decode cX11_goBy 120 = .ok (.getfield 33, 3) := by decide +kernel
theorem dX11_goBy_123 : decode cX11_goBy 123 = .ok (.iconst 1, 1) := by decide +kernel
theorem dX11_goBy_124 : decode cX11_goBy 124 = .ok (.iadd, 1) := by decide +kernel
theorem dX11_goBy_125 : decode cX11_goBy 125 = .ok (.putfield 33, 3) := by decide +kernel
theorem dX11_goBy_128 : decode cX11_goBy 128 = .ok (.return_, 1) := by decide +kernel
theorem dX11_takeGrants_0 : decode cX11_takeGrants 0 = .ok (.iconst 0, 1) := by decide +kernel
theorem dX11_takeGrants_1 : decode cX11_takeGrants 1 = .ok (.istore_n 1, 1) := by decide +kernel
theorem dX11_takeGrants_2 : decode cX11_takeGrants 2 = .ok (.iload_n 1, 1) := by decide +kernel
theorem dX11_takeGrants_3 : decode cX11_takeGrants 3 = .ok (.aload_n 0, 1) := by decide +kernel
theorem dX11_takeGrants_4 : decode cX11_takeGrants 4 = .ok (.getfield 22, 3) := by decide +kernel
theorem dX11_takeGrants_7 : decode cX11_takeGrants 7 = .ok (.invokevirtual 89, 3) := by decide +kernel
theorem dX11_takeGrants_10 : decode cX11_takeGrants 10 = .ok (.if_icmp .ge 53, 3) := by decide +kernel
theorem dX11_takeGrants_13 : decode cX11_takeGrants 13 = .ok (.aload_n 0, 1) := by decide +kernel
theorem dX11_takeGrants_14 : decode cX11_takeGrants 14 = .ok (.getfield 22, 3) := by decide +kernel
theorem dX11_takeGrants_17 : decode cX11_takeGrants 17 = .ok (.iload_n 1, 1) := by decide +kernel
theorem dX11_takeGrants_18 : decode cX11_takeGrants 18 = .ok (.invokevirtual 138, 3) := by decide +kernel
theorem dX11_takeGrants_21 : decode cX11_takeGrants 21 = .ok (.checkcast 286, 3) := by decide +kernel
theorem dX11_takeGrants_24 : decode cX11_takeGrants 24 = .ok (.astore_n 2, 1) := by decide +kernel
theorem dX11_takeGrants_25 : decode cX11_takeGrants 25 = .ok (.aload_n 2, 1) := by decide +kernel
theorem dX11_takeGrants_26 : decode cX11_takeGrants 26 = .ok (.getfield 302, 3) := by decide +kernel
theorem dX11_takeGrants_29 : decode cX11_takeGrants 29 = .ok (.aload_n 0, 1) := by decide +kernel
theorem dX11_takeGrants_30 : decode cX11_takeGrants 30 = .ok (.getfield 33, 3) := by decide +kernel
theorem dX11_takeGrants_33 : decode cX11_takeGrants 33 = .ok (.if_icmp .ne 24, 3) := by decide +kernel
theorem dX11_takeGrants_36 : decode cX11_takeGrants 36 = .ok (.aload_n 2, 1) := by decide +kernel
theorem dX11_takeGrants_37 : decode cX11_takeGrants 37 = .ok (.getfield 422, 3) := by decide +kernel
theorem dX11_takeGrants_40 : decode cX11_takeGrants 40 = .ok (.invokevirtual 224, 3) := by decide +kernel
theorem dX11_takeGrants_43 : decode cX11_takeGrants 43 = .ok (.ifCond .eq 14, 3) := by decide +kernel
theorem dX11_takeGrants_46 : decode cX11_takeGrants 46 = .ok (.aload_n 2, 1) := by decide +kernel
theorem dX11_takeGrants_47 : decode cX11_takeGrants 47 = .ok (.getfield 422, 3) := by decide +kernel
theorem dX11_takeGrants_50 : decode cX11_takeGrants 50 = .ok (.aload_n 2, 1) := by decide +kernel
theorem dX11_takeGrants_51 : decode cX11_takeGrants 51 = .ok (.getfield 426, 3) := by decide +kernel
theorem dX11_takeGrants_54 : decode cX11_takeGrants 54 = .ok (.putfield 261, 3) := by decide +kernel
theorem dX11_takeGrants_57 : decode cX11_takeGrants 57 = .ok (.iinc 1 1, 3) := by decide +kernel
theorem dX11_takeGrants_60 : decode cX11_takeGrants 60 = .ok (.goto (-58), 3) := by decide +kernel
theorem dX11_takeGrants_63 : decode cX11_takeGrants 63 = .ok (.return_, 1) := by decide +kernel
theorem dX11_admit_0 : decode cX11_admit 0 = .ok (.iload_n 1, 1) := by decide +kernel
theorem dX11_admit_1 : decode cX11_admit 1 = .ok (.istore_n 2, 1) := by decide +kernel
theorem dX11_admit_2 : decode cX11_admit 2 = .ok (.iconst 0, 1) := by decide +kernel
theorem dX11_admit_3 : decode cX11_admit 3 = .ok (.istore_n 3, 1) := by decide +kernel
theorem dX11_admit_4 : decode cX11_admit 4 = .ok (.iload_n 3, 1) := by decide +kernel
theorem dX11_admit_5 : decode cX11_admit 5 = .ok (.aload_n 0, 1) := by decide +kernel
theorem dX11_admit_6 : decode cX11_admit 6 = .ok (.getfield 10, 3) := by decide +kernel
theorem dX11_admit_9 : decode cX11_admit 9 = .ok (.invokevirtual 89, 3) := by decide +kernel
theorem dX11_admit_12 : decode cX11_admit 12 = .ok (.if_icmp .ge 43, 3) := by decide +kernel
theorem dX11_admit_15 : decode cX11_admit 15 = .ok (.iload_n 2, 1) := by decide +kernel
theorem dX11_admit_16 : decode cX11_admit 16 = .ok (.ifCond .le 39, 3) := by decide +kernel
theorem dX11_admit_19 : decode cX11_admit 19 = .ok (.aload_n 0, 1) := by decide +kernel
theorem dX11_admit_20 : decode cX11_admit 20 = .ok (.getfield 10, 3) := by decide +kernel
theorem dX11_admit_23 : decode cX11_admit 23 = .ok (.iload_n 3, 1) := by decide +kernel
theorem dX11_admit_24 : decode cX11_admit 24 = .ok (.invokevirtual 138, 3) := by decide +kernel
theorem dX11_admit_27 : decode cX11_admit 27 = .ok (.checkcast 100, 3) := by decide +kernel
theorem dX11_admit_30 : decode cX11_admit 30 = .ok (.astore 4, 2) := by decide +kernel
theorem dX11_admit_32 : decode cX11_admit 32 = .ok (.aload 4, 2) := by decide +kernel
theorem dX11_admit_34 : decode cX11_admit 34 = .ok (.getfield 117, 3) := by decide +kernel
theorem dX11_admit_37 : decode cX11_admit 37 = .ok (.ifCond .ne 12, 3) := by decide +kernel
theorem dX11_admit_40 : decode cX11_admit 40 = .ok (.aload 4, 2) := by decide +kernel
theorem dX11_admit_42 : decode cX11_admit 42 = .ok (.iconst 1, 1) := by decide +kernel
theorem dX11_admit_43 : decode cX11_admit 43 = .ok (.putfield 117, 3) := by decide +kernel
theorem dX11_admit_46 : decode cX11_admit 46 = .ok (.iinc 2 (-1), 3) := by decide +kernel
theorem dX11_admit_49 : decode cX11_admit 49 = .ok (.iinc 3 1, 3) := by decide +kernel
theorem dX11_admit_52 : decode cX11_admit 52 = .ok (.goto (-48), 3) := by decide +kernel
theorem dX11_admit_55 : decode cX11_admit 55 = .ok (.return_, 1) := by decide +kernel
theorem dX11_creditShares_0 : decode cX11_creditShares 0 = .ok (.iconst 0, 1) := by decide +kernel
theorem dX11_creditShares_1 : decode cX11_creditShares 1 = .ok (.istore_n 2, 1) := by decide +kernel
theorem dX11_creditShares_2 : decode cX11_creditShares 2 = .ok (.iload_n 2, 1) := by decide +kernel
theorem dX11_creditShares_3 : decode cX11_creditShares 3 = .ok (.aload_n 0, 1) := by decide +kernel
theorem dX11_creditShares_4 : decode cX11_creditShares 4 = .ok (.getfield 10, 3) := by decide +kernel
theorem dX11_creditShares_7 : decode cX11_creditShares 7 = .ok (.invokevirtual 89, 3) := by decide +kernel
theorem dX11_creditShares_10 : decode cX11_creditShares 10 = .ok (.if_icmp .ge 80, 3) := by decide +kernel
theorem dX11_creditShares_13 : decode cX11_creditShares 13 = .ok (.aload_n 0, 1) := by decide +kernel
theorem dX11_creditShares_14 : decode cX11_creditShares 14 = .ok (.getfield 10, 3) := by decide +kernel
theorem dX11_creditShares_17 : decode cX11_creditShares 17 = .ok (.iload_n 2, 1) := by decide +kernel
theorem dX11_creditShares_18 : decode cX11_creditShares 18 = .ok (.invokevirtual 138, 3) := by decide +kernel
theorem dX11_creditShares_21 : decode cX11_creditShares 21 = .ok (.checkcast 100, 3) := by decide +kernel
theorem dX11_creditShares_24 : decode cX11_creditShares 24 = .ok (.astore_n 3, 1) := by decide +kernel
theorem dX11_creditShares_25 : decode cX11_creditShares 25 = .ok (.aload_n 3, 1) := by decide +kernel
theorem dX11_creditShares_26 : decode cX11_creditShares 26 = .ok (.invokevirtual 224, 3) := by decide +kernel
theorem dX11_creditShares_29 : decode cX11_creditShares 29 = .ok (.ifCond .eq 45, 3) := by decide +kernel
theorem dX11_creditShares_32 : decode cX11_creditShares 32 = .ok (.aload_n 0, 1) := by decide +kernel
theorem dX11_creditShares_33 : decode cX11_creditShares 33 = .ok (.getfield 62, 3) := by decide +kernel
theorem dX11_creditShares_36 : decode cX11_creditShares 36 = .ok (.iload_n 2, 1) := by decide +kernel
theorem dX11_creditShares_37 : decode cX11_creditShares 37 = .ok (.invokevirtual 238, 3) := by decide +kernel
theorem dX11_creditShares_40 : decode cX11_creditShares 40 = .ok (.istore 4, 2) := by decide +kernel
theorem dX11_creditShares_42 : decode cX11_creditShares 42 = .ok (.aload_n 3, 1) := by decide +kernel
theorem dX11_creditShares_43 : decode cX11_creditShares 43 = .ok (.dup, 1) := by decide +kernel
theorem dX11_creditShares_44 : decode cX11_creditShares 44 = .ok (.getfield 429, 3) := by decide +kernel
theorem dX11_creditShares_47 : decode cX11_creditShares 47 = .ok (.iload 4, 2) := by decide +kernel
theorem dX11_creditShares_49 : decode cX11_creditShares 49 = .ok (.iadd, 1) := by decide +kernel
theorem dX11_creditShares_50 : decode cX11_creditShares 50 = .ok (.putfield 429, 3) := by decide +kernel
theorem dX11_creditShares_53 : decode cX11_creditShares 53 = .ok (.iload_n 1, 1) := by decide +kernel
theorem dX11_creditShares_54 : decode cX11_creditShares 54 = .ok (.iconst 3, 1) := by decide +kernel
theorem dX11_creditShares_55 : decode cX11_creditShares 55 = .ok (.if_icmp .ne 19, 3) := by decide +kernel
theorem dX11_creditShares_58 : decode cX11_creditShares 58 = .ok (.aload_n 3, 1) := by decide +kernel
theorem dX11_creditShares_59 : decode cX11_creditShares 59 = .ok (.dup, 1) := by decide +kernel
theorem dX11_creditShares_60 : decode cX11_creditShares 60 = .ok (.getfield 432, 3) := by decide +kernel
theorem dX11_creditShares_63 : decode cX11_creditShares 63 = .ok (.iload 4, 2) := by decide +kernel
theorem dX11_creditShares_65 : decode cX11_creditShares 65 = .ok (.aload_n 3, 1) := by decide +kernel
theorem dX11_creditShares_66 : decode cX11_creditShares 66 = .ok (.getfield 231, 3) := by decide +kernel
theorem dX11_creditShares_69 : decode cX11_creditShares 69 = .ok (.imul, 1) := by decide +kernel
theorem dX11_creditShares_70 : decode cX11_creditShares 70 = .ok (.isub, 1) := by decide +kernel
theorem dX11_creditShares_71 : decode cX11_creditShares 71 = .ok (.putfield 432, 3) := by decide +kernel
theorem dX11_creditShares_74 : decode cX11_creditShares 74 = .ok (.aload_n 3, 1) := by decide +kernel
theorem dX11_creditShares_75 : decode cX11_creditShares 75 = .ok (.iconst 0, 1) := by decide +kernel
theorem dX11_creditShares_76 : decode cX11_creditShares 76 = .ok (.putfield 228, 3) := by decide +kernel
theorem dX11_creditShares_79 : decode cX11_creditShares 79 = .ok (.aload_n 3, 1) := by decide +kernel
theorem dX11_creditShares_80 : decode cX11_creditShares 80 = .ok (.iconst 0, 1) := by decide +kernel
theorem dX11_creditShares_81 : decode cX11_creditShares 81 = .ok (.putfield 231, 3) := by decide +kernel
theorem dX11_creditShares_84 : decode cX11_creditShares 84 = .ok (.iinc 2 1, 3) := by decide +kernel
theorem dX11_creditShares_87 : decode cX11_creditShares 87 = .ok (.goto (-85), 3) := by decide +kernel
theorem dX11_creditShares_90 : decode cX11_creditShares 90 = .ok (.return_, 1) := by decide +kernel
theorem dX11_giveReels_0 : decode cX11_giveReels 0 = .ok (.iconst 0, 1) := by decide +kernel
theorem dX11_giveReels_1 : decode cX11_giveReels 1 = .ok (.istore_n 1, 1) := by decide +kernel
theorem dX11_giveReels_2 : decode cX11_giveReels 2 = .ok (.iload_n 1, 1) := by decide +kernel
theorem dX11_giveReels_3 : decode cX11_giveReels 3 = .ok (.aload_n 0, 1) := by decide +kernel
theorem dX11_giveReels_4 : decode cX11_giveReels 4 = .ok (.getfield 16, 3) := by decide +kernel
theorem dX11_giveReels_7 : decode cX11_giveReels 7 = .ok (.invokevirtual 89, 3) := by decide +kernel
theorem dX11_giveReels_10 : decode cX11_giveReels 10 = .ok (.if_icmp .ge 96, 3) := by decide +kernel
theorem dX11_giveReels_13 : decode cX11_giveReels 13 = .ok (.aload_n 0, 1) := by decide +kernel
theorem dX11_giveReels_14 : decode cX11_giveReels 14 = .ok (.getfield 16, 3) := by decide +kernel
theorem dX11_giveReels_17 : decode cX11_giveReels 17 = .ok (.iload_n 1, 1) := by decide +kernel
theorem dX11_giveReels_18 : decode cX11_giveReels 18 = .ok (.invokevirtual 138, 3) := by decide +kernel
theorem dX11_giveReels_21 : decode cX11_giveReels 21 = .ok (.checkcast 128, 3) := by decide +kernel
theorem dX11_giveReels_24 : decode cX11_giveReels 24 = .ok (.astore_n 2, 1) := by decide +kernel
theorem dX11_giveReels_25 : decode cX11_giveReels 25 = .ok (.aload_n 2, 1) := by decide +kernel
theorem dX11_giveReels_26 : decode cX11_giveReels 26 = .ok (.getfield 135, 3) := by decide +kernel
theorem dX11_giveReels_29 : decode cX11_giveReels 29 = .ok (.iconst (-1), 1) := by decide +kernel
theorem dX11_giveReels_30 : decode cX11_giveReels 30 = .ok (.if_icmp .ne 70, 3) := by decide +kernel
theorem dX11_giveReels_33 : decode cX11_giveReels 33 = .ok (.aload_n 0, 1) := by decide +kernel
theorem dX11_giveReels_34 : decode cX11_giveReels 34 = .ok (.invokevirtual 435, 3) := by decide +kernel
theorem dX11_giveReels_37 : decode cX11_giveReels 37 = .ok (.istore_n 3, 1) := by decide +kernel
theorem dX11_giveReels_38 : decode cX11_giveReels 38 = .ok (.iload_n 3, 1) := by decide +kernel
theorem dX11_giveReels_39 : decode cX11_giveReels 39 = .ok (.ifCond .lt 14, 3) := by decide +kernel
theorem dX11_giveReels_42 : decode cX11_giveReels 42 = .ok (.iload_n 3, 1) := by decide +kernel
theorem dX11_giveReels_43 : decode cX11_giveReels 43 = .ok (.aload_n 0, 1) := by decide +kernel
theorem dX11_giveReels_44 : decode cX11_giveReels 44 = .ok (.getfield 10, 3) := by decide +kernel
theorem dX11_giveReels_47 : decode cX11_giveReels 47 = .ok (.invokevirtual 89, 3) := by decide +kernel
theorem dX11_giveReels_50 : decode cX11_giveReels 50 = .ok (.if_icmp .lt 4, 3) := by decide +kernel
theorem dX11_giveReels_53 : decode cX11_giveReels 53 = .ok (.return_, 1) := by decide +kernel
theorem dX11_giveReels_54 : decode cX11_giveReels 54 = .ok (.aload_n 0, 1) := by decide +kernel
theorem dX11_giveReels_55 : decode cX11_giveReels 55 = .ok (.getfield 10, 3) := by decide +kernel
theorem dX11_giveReels_58 : decode cX11_giveReels 58 = .ok (.iload_n 3, 1) := by decide +kernel
theorem dX11_giveReels_59 : decode cX11_giveReels 59 = .ok (.invokevirtual 138, 3) := by decide +kernel
theorem dX11_giveReels_62 : decode cX11_giveReels 62 = .ok (.checkcast 100, 3) := by decide +kernel
theorem dX11_giveReels_65 : decode cX11_giveReels 65 = .ok (.astore 4, 2) := by decide +kernel
theorem dX11_giveReels_67 : decode cX11_giveReels 67 = .ok (.aload 4, 2) := by decide +kernel
theorem dX11_giveReels_69 : decode cX11_giveReels 69 = .ok (.dup, 1) := by decide +kernel
theorem dX11_giveReels_70 : decode cX11_giveReels 70 = .ok (.getfield 142, 3) := by decide +kernel
theorem dX11_giveReels_73 : decode cX11_giveReels 73 = .ok (.aload_n 2, 1) := by decide +kernel
theorem dX11_giveReels_74 : decode cX11_giveReels 74 = .ok (.getfield 145, 3) := by decide +kernel
theorem dX11_giveReels_77 : decode cX11_giveReels 77 = .ok (.iadd, 1) := by decide +kernel
theorem dX11_giveReels_78 : decode cX11_giveReels 78 = .ok (.putfield 142, 3) := by decide +kernel
theorem dX11_giveReels_81 : decode cX11_giveReels 81 = .ok (.aload 4, 2) := by decide +kernel
theorem dX11_giveReels_83 : decode cX11_giveReels 83 = .ok (.dup, 1) := by decide +kernel
theorem dX11_giveReels_84 : decode cX11_giveReels 84 = .ok (.getfield 429, 3) := by decide +kernel
theorem dX11_giveReels_87 : decode cX11_giveReels 87 = .ok (.aload_n 2, 1) := by decide +kernel
theorem dX11_giveReels_88 : decode cX11_giveReels 88 = .ok (.getfield 145, 3) := by decide +kernel
theorem dX11_giveReels_91 : decode cX11_giveReels 91 = .ok (.isub, 1) := by decide +kernel
theorem dX11_giveReels_92 : decode cX11_giveReels 92 = .ok (.putfield 429, 3) := by decide +kernel
theorem dX11_giveReels_95 : decode cX11_giveReels 95 = .ok (.aload_n 2, 1) := by decide +kernel
theorem dX11_giveReels_96 : decode cX11_giveReels 96 = .ok (.iload_n 3, 1) := by decide +kernel
theorem dX11_giveReels_97 : decode cX11_giveReels 97 = .ok (.putfield 135, 3) := by decide +kernel
theorem dX11_giveReels_100 : decode cX11_giveReels 100 = .ok (.iinc 1 1, 3) := by decide +kernel
theorem dX11_giveReels_103 : decode cX11_giveReels 103 = .ok (.goto (-101), 3) := by decide +kernel
theorem dX11_giveReels_106 : decode cX11_giveReels 106 = .ok (.return_, 1) := by decide +kernel
theorem dX11_mostOwed_0 : decode cX11_mostOwed 0 = .ok (.iconst (-1), 1) := by decide +kernel
theorem dX11_mostOwed_1 : decode cX11_mostOwed 1 = .ok (.istore_n 1, 1) := by decide +kernel
theorem dX11_mostOwed_2 : decode cX11_mostOwed 2 = .ok (.iconst 0, 1) := by decide +kernel
theorem dX11_mostOwed_3 : decode cX11_mostOwed 3 = .ok (.istore_n 2, 1) := by decide +kernel
theorem dX11_mostOwed_4 : decode cX11_mostOwed 4 = .ok (.iconst 0, 1) := by decide +kernel
theorem dX11_mostOwed_5 : decode cX11_mostOwed 5 = .ok (.istore_n 3, 1) := by decide +kernel
theorem dX11_mostOwed_6 : decode cX11_mostOwed 6 = .ok (.iload_n 3, 1) := by decide +kernel
theorem dX11_mostOwed_7 : decode cX11_mostOwed 7 = .ok (.aload_n 0, 1) := by decide +kernel
theorem dX11_mostOwed_8 : decode cX11_mostOwed 8 = .ok (.getfield 10, 3) := by decide +kernel
theorem dX11_mostOwed_11 : decode cX11_mostOwed 11 = .ok (.invokevirtual 89, 3) := by decide +kernel
theorem dX11_mostOwed_14 : decode cX11_mostOwed 14 = .ok (.if_icmp .ge 47, 3) := by decide +kernel
theorem dX11_mostOwed_17 : decode cX11_mostOwed 17 = .ok (.aload_n 0, 1) := by decide +kernel
theorem dX11_mostOwed_18 : decode cX11_mostOwed 18 = .ok (.getfield 10, 3) := by decide +kernel
theorem dX11_mostOwed_21 : decode cX11_mostOwed 21 = .ok (.iload_n 3, 1) := by decide +kernel
theorem dX11_mostOwed_22 : decode cX11_mostOwed 22 = .ok (.invokevirtual 138, 3) := by decide +kernel
theorem dX11_mostOwed_25 : decode cX11_mostOwed 25 = .ok (.checkcast 100, 3) := by decide +kernel
theorem dX11_mostOwed_28 : decode cX11_mostOwed 28 = .ok (.astore 4, 2) := by decide +kernel
theorem dX11_mostOwed_30 : decode cX11_mostOwed 30 = .ok (.aload 4, 2) := by decide +kernel
theorem dX11_mostOwed_32 : decode cX11_mostOwed 32 = .ok (.invokevirtual 224, 3) := by decide +kernel
theorem dX11_mostOwed_35 : decode cX11_mostOwed 35 = .ok (.ifCond .eq 20, 3) := by decide +kernel
theorem dX11_mostOwed_38 : decode cX11_mostOwed 38 = .ok (.aload 4, 2) := by decide +kernel
theorem dX11_mostOwed_40 : decode cX11_mostOwed 40 = .ok (.getfield 429, 3) := by decide +kernel
theorem dX11_mostOwed_43 : decode cX11_mostOwed 43 = .ok (.iload_n 2, 1) := by decide +kernel
theorem dX11_mostOwed_44 : decode cX11_mostOwed 44 = .ok (.if_icmp .le 11, 3) := by decide +kernel
theorem dX11_mostOwed_47 : decode cX11_mostOwed 47 = .ok (.iload_n 3, 1) := by decide +kernel
theorem dX11_mostOwed_48 : decode cX11_mostOwed 48 = .ok (.istore_n 1, 1) := by decide +kernel
theorem dX11_mostOwed_49 : decode cX11_mostOwed 49 = .ok (.aload 4, 2) := by decide +kernel
theorem dX11_mostOwed_51 : decode cX11_mostOwed 51 = .ok (.getfield 429, 3) := by decide +kernel
theorem dX11_mostOwed_54 : decode cX11_mostOwed 54 = .ok (.istore_n 2, 1) := by decide +kernel
theorem dX11_mostOwed_55 : decode cX11_mostOwed 55 = .ok (.iinc 3 1, 3) := by decide +kernel
theorem dX11_mostOwed_58 : decode cX11_mostOwed 58 = .ok (.goto (-52), 3) := by decide +kernel
theorem dX11_mostOwed_61 : decode cX11_mostOwed 61 = .ok (.iload_n 1, 1) := by decide +kernel
theorem dX11_mostOwed_62 : decode cX11_mostOwed 62 = .ok (.ireturn, 1) := by decide +kernel
theorem dX11_runMonth_0 : decode cX11_runMonth 0 = .ok (.aload_n 2, 1) := by decide +kernel
theorem dX11_runMonth_1 : decode cX11_runMonth 1 = .ok (.getfield 264, 3) := by decide +kernel
theorem dX11_runMonth_4 : decode cX11_runMonth 4 = .ok (.aload_n 2, 1) := by decide +kernel
theorem dX11_runMonth_5 : decode cX11_runMonth 5 = .ok (.getfield 142, 3) := by decide +kernel
theorem dX11_runMonth_8 : decode cX11_runMonth 8 = .ok (.aload_n 2, 1) := by decide +kernel
theorem dX11_runMonth_9 : decode cX11_runMonth 9 = .ok (.getfield 199, 3) := by decide +kernel
theorem dX11_runMonth_12 : decode cX11_runMonth 12 = .ok (.invokestatic 438, 3) := by decide +kernel
theorem dX11_runMonth_15 : decode cX11_runMonth 15 = .ok (.invokestatic 337, 3) := by decide +kernel
theorem dX11_runMonth_18 : decode cX11_runMonth 18 = .ok (.istore_n 3, 1) := by decide +kernel
theorem dX11_runMonth_19 : decode cX11_runMonth 19 = .ok (.iload_n 3, 1) := by decide +kernel
theorem dX11_runMonth_20 : decode cX11_runMonth 20 = .ok (.aload_n 2, 1) := by decide +kernel
theorem dX11_runMonth_21 : decode cX11_runMonth 21 = .ok (.getfield 199, 3) := by decide +kernel
theorem dX11_runMonth_24 : decode cX11_runMonth 24 = .ok (.invokestatic 441, 3) := by decide +kernel
theorem dX11_runMonth_27 : decode cX11_runMonth 27 = .ok (.istore 4, 2) := by decide +kernel
theorem dX11_runMonth_29 : decode cX11_runMonth 29 = .ok (.aload_n 2, 1) := by decide +kernel
theorem dX11_runMonth_30 : decode cX11_runMonth 30 = .ok (.dup, 1) := by decide +kernel
theorem dX11_runMonth_31 : decode cX11_runMonth 31 = .ok (.getfield 142, 3) := by decide +kernel
theorem dX11_runMonth_34 : decode cX11_runMonth 34 = .ok (.iload 4, 2) := by decide +kernel
theorem dX11_runMonth_36 : decode cX11_runMonth 36 = .ok (.isub, 1) := by decide +kernel
theorem dX11_runMonth_37 : decode cX11_runMonth 37 = .ok (.putfield 142, 3) := by decide +kernel
theorem dX11_runMonth_40 : decode cX11_runMonth 40 = .ok (.aload_n 2, 1) := by decide +kernel
theorem dX11_runMonth_41 : decode cX11_runMonth 41 = .ok (.dup, 1) := by decide +kernel
theorem dX11_runMonth_42 : decode cX11_runMonth 42 = .ok (.getfield 432, 3) := by decide +kernel
theorem dX11_runMonth_45 : decode cX11_runMonth 45 = .ok (.iload_n 3, 1) := by decide +kernel
theorem dX11_runMonth_46 : decode cX11_runMonth 46 = .ok (.aload_n 0, 1) := by decide +kernel
theorem dX11_runMonth_47 : decode cX11_runMonth 47 = .ok (.aload_n 2, 1) := by decide +kernel
theorem dX11_runMonth_48 : decode cX11_runMonth 48 = .ok (.aload_n 2, 1) := by decide +kernel
theorem dX11_runMonth_49 : decode cX11_runMonth 49 = .ok (.getfield 444, 3) := by decide +kernel
theorem dX11_runMonth_52 : decode cX11_runMonth 52 = .ok (.invokevirtual 161, 3) := by decide +kernel
theorem dX11_runMonth_55 : decode cX11_runMonth 55 = .ok (.invokestatic 337, 3) := by decide +kernel
theorem dX11_runMonth_58 : decode cX11_runMonth 58 = .ok (.aload_n 2, 1) := by decide +kernel
theorem dX11_runMonth_59 : decode cX11_runMonth 59 = .ok (.getfield 444, 3) := by decide +kernel
theorem dX11_runMonth_62 : decode cX11_runMonth 62 = .ok (.imul, 1) := by decide +kernel
theorem dX11_runMonth_63 : decode cX11_runMonth 63 = .ok (.iadd, 1) := by decide +kernel
theorem dX11_runMonth_64 : decode cX11_runMonth 64 = .ok (.putfield 432, 3) := by decide +kernel
theorem dX11_runMonth_67 : decode cX11_runMonth 67 = .ok (.iload_n 3, 1) := by decide +kernel
theorem dX11_runMonth_68 : decode cX11_runMonth 68 = .ok (.ifCond .le 9, 3) := by decide +kernel
theorem dX11_runMonth_71 : decode cX11_runMonth 71 = .ok (.aload_n 0, 1) := by decide +kernel
theorem dX11_runMonth_72 : decode cX11_runMonth 72 = .ok (.aload_n 1, 1) := by decide +kernel
theorem dX11_runMonth_73 : decode cX11_runMonth 73 = .ok (.aload_n 2, 1) := by decide +kernel
theorem dX11_runMonth_74 : decode cX11_runMonth 74 = .ok (.invokevirtual 446, 3) := by decide +kernel
theorem dX11_runMonth_77 : decode cX11_runMonth 77 = .ok (.aload_n 2, 1) := by decide +kernel
theorem dX11_runMonth_78 : decode cX11_runMonth 78 = .ok (.dup, 1) := by decide +kernel
theorem dX11_runMonth_79 : decode cX11_runMonth 79 = .ok (.getfield 142, 3) := by decide +kernel
theorem dX11_runMonth_82 : decode cX11_runMonth 82 = .ok (.iload 4, 2) := by decide +kernel
theorem dX11_runMonth_84 : decode cX11_runMonth 84 = .ok (.bipush 20, 2) := by decide +kernel
theorem dX11_runMonth_86 : decode cX11_runMonth 86 = .ok (.idiv, 1) := by decide +kernel
theorem dX11_runMonth_87 : decode cX11_runMonth 87 = .ok (.aload_n 1, 1) := by decide +kernel
theorem dX11_runMonth_88 : decode cX11_runMonth 88 = .ok (.getfield 215, 3) := by decide +kernel
theorem dX11_runMonth_91 : decode cX11_runMonth 91 = .ok (.imul, 1) := by decide +kernel
theorem dX11_runMonth_92 : decode cX11_runMonth 92 = .ok (.bipush 100, 2) := by decide +kernel
theorem dX11_runMonth_94 : decode cX11_runMonth 94 = .ok (.idiv, 1) := by decide +kernel
theorem dX11_runMonth_95 : decode cX11_runMonth 95 = .ok (.iadd, 1) := by decide +kernel
theorem dX11_runMonth_96 : decode cX11_runMonth 96 = .ok (.putfield 142, 3) := by decide +kernel
theorem dX11_runMonth_99 : decode cX11_runMonth 99 = .ok (.aload_n 2, 1) := by decide +kernel
theorem dX11_runMonth_100 : decode cX11_runMonth 100 = .ok (.iload 4, 2) := by decide +kernel
theorem dX11_runMonth_102 : decode cX11_runMonth 102 = .ok (.putfield 449, 3) := by decide +kernel
theorem dX11_runMonth_105 : decode cX11_runMonth 105 = .ok (.return_, 1) := by decide +kernel
theorem dX11_payBreaches_0 : decode cX11_payBreaches 0 = .ok (.aload_n 2, 1) := by decide +kernel
theorem dX11_payBreaches_1 : decode cX11_payBreaches 1 = .ok (.getfield 199, 3) := by decide +kernel
theorem dX11_payBreaches_4 : decode cX11_payBreaches 4 = .ok (.aload_n 1, 1) := by decide +kernel
theorem dX11_payBreaches_5 : decode cX11_payBreaches 5 = .ok (.aload_n 2, 1) := by decide +kernel
theorem dX11_payBreaches_6 : decode cX11_payBreaches 6 = .ok (.getfield 193, 3) := by decide +kernel
theorem dX11_payBreaches_9 : decode cX11_payBreaches 9 = .ok (.invokevirtual 196, 3) := by decide +kernel
theorem dX11_payBreaches_12 : decode cX11_payBreaches 12 = .ok (.isub, 1) := by decide +kernel
theorem dX11_payBreaches_13 : decode cX11_payBreaches 13 = .ok (.istore_n 3, 1) := by decide +kernel
theorem dX11_payBreaches_14 : decode cX11_payBreaches 14 = .ok (.aload_n 0, 1) := by decide +kernel
theorem dX11_payBreaches_15 : decode cX11_payBreaches 15 = .ok (.aload_n 1, 1) := by decide +kernel
theorem dX11_payBreaches_16 : decode cX11_payBreaches 16 = .ok (.aload_n 2, 1) := by decide +kernel
theorem dX11_payBreaches_17 : decode cX11_payBreaches 17 = .ok (.aload_n 2, 1) := by decide +kernel
theorem dX11_payBreaches_18 : decode cX11_payBreaches 18 = .ok (.getfield 199, 3) := by decide +kernel
theorem dX11_payBreaches_21 : decode cX11_payBreaches 21 = .ok (.invokevirtual 202, 3) := by decide +kernel
theorem dX11_payBreaches_24 : decode cX11_payBreaches 24 = .ok (.istore 4, 2) := by decide +kernel
theorem dX11_payBreaches_26 : decode cX11_payBreaches 26 = .ok (.iconst 0, 1) := by decide +kernel
theorem dX11_payBreaches_27 : decode cX11_payBreaches 27 = .ok (.istore 5, 2) := by decide +kernel
theorem dX11_payBreaches_29 : decode cX11_payBreaches 29 = .ok (.iload_n 3, 1) := by decide +kernel
theorem dX11_payBreaches_30 : decode cX11_payBreaches 30 = .ok (.ifCond .le 24, 3) := by decide +kernel
theorem dX11_payBreaches_33 : decode cX11_payBreaches 33 = .ok (.iload 5, 2) := by decide +kernel
theorem dX11_payBreaches_35 : decode cX11_payBreaches 35 = .ok (.iconst 1, 1) := by decide +kernel
theorem dX11_payBreaches_36 : decode cX11_payBreaches 36 = .ok (.ior, 1) := by decide +kernel
theorem dX11_payBreaches_37 : decode cX11_payBreaches 37 = .ok (.istore 5, 2) := by decide +kernel
theorem dX11_payBreaches_39 : decode cX11_payBreaches 39 = .ok (.aload_n 2, 1) := by decide +kernel
theorem dX11_payBreaches_40 : decode cX11_payBreaches 40 = .ok (.dup, 1) := by decide +kernel
theorem dX11_payBreaches_41 : decode cX11_payBreaches 41 = .ok (.getfield 432, 3) := by decide +kernel
theorem dX11_payBreaches_44 : decode cX11_payBreaches 44 = .ok (.iload_n 3, 1) := by decide +kernel
theorem dX11_payBreaches_45 : decode cX11_payBreaches 45 = .ok (.aload_n 1, 1) := by decide +kernel
theorem dX11_payBreaches_46 : decode cX11_payBreaches 46 = .ok (.getfield 206, 3) := by decide +kernel
theorem dX11_payBreaches_49 : decode cX11_payBreaches 49 = .ok (.imul, 1) := by decide +kernel
theorem dX11_payBreaches_50 : decode cX11_payBreaches 50 = .ok (.isub, 1) := by decide +kernel
theorem dX11_payBreaches_51 : decode cX11_payBreaches 51 = .ok (.putfield 432, 3) := by decide +kernel
theorem dX11_payBreaches_54 : decode cX11_payBreaches 54 = .ok (.iload 4, 2) := by decide +kernel
theorem dX11_payBreaches_56 : decode cX11_payBreaches 56 = .ok (.iconst (-1), 1) := by decide +kernel
theorem dX11_payBreaches_57 : decode cX11_payBreaches 57 = .ok (.if_icmp .eq 31, 3) := by decide +kernel
theorem dX11_payBreaches_60 : decode cX11_payBreaches 60 = .ok (.iload 4, 2) := by decide +kernel
theorem dX11_payBreaches_62 : decode cX11_payBreaches 62 = .ok (.aload_n 2, 1) := by decide +kernel
theorem dX11_payBreaches_63 : decode cX11_payBreaches 63 = .ok (.getfield 444, 3) := by decide +kernel
theorem dX11_payBreaches_66 : decode cX11_payBreaches 66 = .ok (.if_icmp .eq 22, 3) := by decide +kernel
theorem dX11_payBreaches_69 : decode cX11_payBreaches 69 = .ok (.iload 5, 2) := by decide +kernel
theorem dX11_payBreaches_71 : decode cX11_payBreaches 71 = .ok (.iconst 2, 1) := by decide +kernel
theorem dX11_payBreaches_72 : decode cX11_payBreaches 72 = .ok (.ior, 1) := by decide +kernel
theorem dX11_payBreaches_73 : decode cX11_payBreaches 73 = .ok (.istore 5, 2) := by decide +kernel
theorem dX11_payBreaches_75 : decode cX11_payBreaches 75 = .ok (.aload_n 2, 1) := by decide +kernel
theorem dX11_payBreaches_76 : decode cX11_payBreaches 76 = .ok (.dup, 1) := by decide +kernel
theorem dX11_payBreaches_77 : decode cX11_payBreaches 77 = .ok (.getfield 432, 3) := by decide +kernel
theorem dX11_payBreaches_80 : decode cX11_payBreaches 80 = .ok (.aload_n 1, 1) := by decide +kernel
theorem dX11_payBreaches_81 : decode cX11_payBreaches 81 = .ok (.getfield 206, 3) := by decide +kernel
theorem dX11_payBreaches_84 : decode cX11_payBreaches 84 = .ok (.isub, 1) := by decide +kernel
theorem dX11_payBreaches_85 : decode cX11_payBreaches 85 = .ok (.putfield 432, 3) := by decide +kernel
theorem dX11_payBreaches_88 : decode cX11_payBreaches 88 = .ok (.iload 5, 2) := by decide +kernel
theorem dX11_payBreaches_90 : decode cX11_payBreaches 90 = .ok (.ifCond .eq 47, 3) := by decide +kernel
theorem dX11_payBreaches_93 : decode cX11_payBreaches 93 = .ok (.iload_n 3, 1) := by decide +kernel
theorem dX11_payBreaches_94 : decode cX11_payBreaches 94 = .ok (.ifCond .le 14, 3) := by decide +kernel
theorem dX11_payBreaches_97 : decode cX11_payBreaches 97 = .ok (.aload_n 1, 1) := by decide +kernel
theorem dX11_payBreaches_98 : decode cX11_payBreaches 98 = .ok (.aload_n 2, 1) := by decide +kernel
theorem dX11_payBreaches_99 : decode cX11_payBreaches 99 = .ok (.getfield 193, 3) := by decide +kernel
theorem dX11_payBreaches_102 : decode cX11_payBreaches 102 = .ok (.invokevirtual 452, 3) := by decide +kernel
theorem dX11_payBreaches_105 : decode cX11_payBreaches 105 = .ok (.goto 7, 3) := by decide +kernel
theorem dX11_payBreaches_108 : decode cX11_payBreaches 108 = .ok (.aload_n 1, 1) := by decide +kernel
theorem dX11_payBreaches_109 : decode cX11_payBreaches 109 = .ok (.getfield 455, 3) := by decide +kernel
theorem dX11_payBreaches_112 : decode cX11_payBreaches 112 = .ok (.istore 6, 2) := by decide +kernel
theorem dX11_payBreaches_114 : decode cX11_payBreaches 114 = .ok (.aload_n 2, 1) := by decide +kernel
theorem dX11_payBreaches_115 : decode cX11_payBreaches 115 = .ok (.getfield 270, 3) := by decide +kernel
theorem dX11_payBreaches_118 : decode cX11_payBreaches 118 = .ok (.aload_n 0, 1) := by decide +kernel
theorem dX11_payBreaches_119 : decode cX11_payBreaches 119 = .ok (.getfield 33, 3) := by decide +kernel
theorem dX11_payBreaches_122 : decode cX11_payBreaches 122 = .ok (.iload 5, 2) := by decide +kernel
theorem dX11_payBreaches_124 : decode cX11_payBreaches 124 = .ok (.aload_n 0, 1) := by decide +kernel
theorem dX11_payBreaches_125 : decode cX11_payBreaches 125 = .ok (.aload_n 0, 1) := by decide +kernel
theorem dX11_payBreaches_126 : decode cX11_payBreaches 126 = .ok (.getfield 33, 3) := by decide +kernel
theorem dX11_payBreaches_129 : decode cX11_payBreaches 129 = .ok (.invokevirtual 182, 3) := by decide +kernel
theorem dX11_payBreaches_132 : decode cX11_payBreaches 132 = .ok (.iload 6, 2) := by decide +kernel
theorem dX11_payBreaches_134 : decode cX11_payBreaches 134 = .ok (.invokevirtual 458, 3) := by decide +kernel
theorem dX11_payBreaches_137 : decode cX11_payBreaches 137 = .ok (.return_, 1) := by decide +kernel
theorem dX11_findBest_0 : decode cX11_findBest 0 = .ok (.aload_n 1, 1) := by decide +kernel
theorem dX11_findBest_1 : decode cX11_findBest 1 = .ok (.getfield 142, 3) := by decide +kernel
theorem dX11_findBest_4 : decode cX11_findBest 4 = .ok (.aload_n 1, 1) := by decide +kernel
theorem dX11_findBest_5 : decode cX11_findBest 5 = .ok (.getfield 429, 3) := by decide +kernel
theorem dX11_findBest_8 : decode cX11_findBest 8 = .ok (.iconst 0, 1) := by decide +kernel
theorem dX11_findBest_9 : decode cX11_findBest 9 = .ok (.invokestatic 148, 3) := by decide +kernel
theorem dX11_findBest_12 : decode cX11_findBest 12 = .ok (.iadd, 1) := by decide +kernel
theorem dX11_findBest_13 : decode cX11_findBest 13 = .ok (.istore_n 3, 1) := by decide +kernel
theorem dX11_findBest_14 : decode cX11_findBest 14 = .ok (.aload_n 2, 1) := by decide +kernel
theorem dX11_findBest_15 : decode cX11_findBest 15 = .ok (.aload_n 1, 1) := by decide +kernel
theorem dX11_findBest_16 : decode cX11_findBest 16 = .ok (.getfield 193, 3) := by decide +kernel
theorem dX11_findBest_19 : decode cX11_findBest 19 = .ok (.invokevirtual 196, 3) := by decide +kernel
theorem dX11_findBest_22 : decode cX11_findBest 22 = .ok (.istore 4, 2) := by decide +kernel
theorem dX11_findBest_24 : decode cX11_findBest 24 = .ok (.aload_n 0, 1) := by decide +kernel
theorem dX11_findBest_25 : decode cX11_findBest 25 = .ok (.getfield 76, 3) := by decide +kernel
theorem dX11_findBest_28 : decode cX11_findBest 28 = .ok (.invokevirtual 461, 3) := by decide +kernel
theorem dX11_findBest_31 : decode cX11_findBest 31 = .ok (.aload_n 2, 1) := by decide +kernel
theorem dX11_findBest_32 : decode cX11_findBest 32 = .ok (.getfield 372, 3) := by decide +kernel
theorem dX11_findBest_35 : decode cX11_findBest 35 = .ok (.ifnull 57, 3) := by decide +kernel
theorem dX11_findBest_38 : decode cX11_findBest 38 = .ok (.iconst 2, 1) := by decide +kernel
theorem dX11_findBest_39 : decode cX11_findBest 39 = .ok (.istore 5, 2) := by decide +kernel
theorem dX11_findBest_41 : decode cX11_findBest 41 = .ok (.iload 5, 2) := by decide +kernel
theorem dX11_findBest_43 : decode cX11_findBest 43 = .ok (.iload 4, 2) := by decide +kernel
theorem dX11_findBest_45 : decode cX11_findBest 45 = .ok (.if_icmp .gt 46, 3) := by decide +kernel
theorem dX11_findBest_48 : decode cX11_findBest 48 = .ok (.aload_n 0, 1) := by decide +kernel
theorem dX11_findBest_49 : decode cX11_findBest 49 = .ok (.aload_n 2, 1) := by decide +kernel
theorem dX11_findBest_50 : decode cX11_findBest 50 = .ok (.aload_n 1, 1) := by decide +kernel
theorem dX11_findBest_51 : decode cX11_findBest 51 = .ok (.iload 5, 2) := by decide +kernel
theorem dX11_findBest_53 : decode cX11_findBest 53 = .ok (.invokevirtual 202, 3) := by decide +kernel
theorem dX11_findBest_56 : decode cX11_findBest 56 = .ok (.istore 6, 2) := by decide +kernel
theorem dX11_findBest_58 : decode cX11_findBest 58 = .ok (.aload_n 0, 1) := by decide +kernel
theorem dX11_findBest_59 : decode cX11_findBest 59 = .ok (.getfield 76, 3) := by decide +kernel
theorem dX11_findBest_62 : decode cX11_findBest 62 = .ok (.iload 5, 2) := by decide +kernel
theorem dX11_findBest_64 : decode cX11_findBest 64 = .ok (.iload 6, 2) := by decide +kernel
theorem dX11_findBest_66 : decode cX11_findBest 66 = .ok (.aload_n 0, 1) := by decide +kernel
theorem dX11_findBest_67 : decode cX11_findBest 67 = .ok (.aload_n 1, 1) := by decide +kernel
theorem dX11_findBest_68 : decode cX11_findBest 68 = .ok (.iload 6, 2) := by decide +kernel
theorem dX11_findBest_70 : decode cX11_findBest 70 = .ok (.invokevirtual 161, 3) := by decide +kernel
theorem dX11_findBest_73 : decode cX11_findBest 73 = .ok (.iload_n 3, 1) := by decide +kernel
theorem dX11_findBest_74 : decode cX11_findBest 74 = .ok (.iload 5, 2) := by decide +kernel
theorem dX11_findBest_76 : decode cX11_findBest 76 = .ok (.invokestatic 438, 3) := by decide +kernel
theorem dX11_findBest_79 : decode cX11_findBest 79 = .ok (.invokestatic 337, 3) := by decide +kernel
theorem dX11_findBest_82 : decode cX11_findBest 82 = .ok (.invokevirtual 464, 3) := by decide +kernel
theorem dX11_findBest_85 : decode cX11_findBest 85 = .ok (.iinc 5 2, 3) := by decide +kernel
theorem dX11_findBest_88 : decode cX11_findBest 88 = .ok (.goto (-47), 3) := by decide +kernel
theorem dX11_findBest_91 : decode cX11_findBest 91 = .ok (.return_, 1) := by decide +kernel
theorem dX11_findBest_92 : decode cX11_findBest 92 = .ok (.iconst 1, 1) := by decide +kernel
theorem dX11_findBest_93 : decode cX11_findBest 93 = .ok (.istore 5, 2) := by decide +kernel
theorem dX11_findBest_95 : decode cX11_findBest 95 = .ok (.iload 5, 2) := by decide +kernel
theorem dX11_findBest_97 : decode cX11_findBest 97 = .ok (.bipush 60, 2) := by decide +kernel
theorem dX11_findBest_99 : decode cX11_findBest 99 = .ok (.if_icmp .gt 56, 3) := by decide +kernel
theorem dX11_findBest_102 : decode cX11_findBest 102 = .ok (.aload_n 0, 1) := by decide +kernel
theorem dX11_findBest_103 : decode cX11_findBest 103 = .ok (.aload_n 1, 1) := by decide +kernel
theorem dX11_findBest_104 : decode cX11_findBest 104 = .ok (.iload 5, 2) := by decide +kernel
theorem dX11_findBest_106 : decode cX11_findBest 106 = .ok (.invokevirtual 161, 3) := by decide +kernel
theorem dX11_findBest_109 : decode cX11_findBest 109 = .ok (.istore 6, 2) := by decide +kernel
theorem dX11_findBest_111 : decode cX11_findBest 111 = .ok (.iconst 2, 1) := by decide +kernel
theorem dX11_findBest_112 : decode cX11_findBest 112 = .ok (.istore 7, 2) := by decide +kernel
theorem dX11_findBest_114 : decode cX11_findBest 114 = .ok (.iload 7, 2) := by decide +kernel
theorem dX11_findBest_116 : decode cX11_findBest 116 = .ok (.iload 4, 2) := by decide +kernel
theorem dX11_findBest_118 : decode cX11_findBest 118 = .ok (.if_icmp .gt 31, 3) := by decide +kernel
theorem dX11_findBest_121 : decode cX11_findBest 121 = .ok (.aload_n 0, 1) := by decide +kernel
theorem dX11_findBest_122 : decode cX11_findBest 122 = .ok (.getfield 76, 3) := by decide +kernel
theorem dX11_findBest_125 : decode cX11_findBest 125 = .ok (.iload 7, 2) := by decide +kernel
theorem dX11_findBest_127 : decode cX11_findBest 127 = .ok (.iload 5, 2) := by decide +kernel
theorem dX11_findBest_129 : decode cX11_findBest 129 = .ok (.iload 6, 2) := by decide +kernel
theorem dX11_findBest_131 : decode cX11_findBest 131 = .ok (.iload_n 3, 1) := by decide +kernel
theorem dX11_findBest_132 : decode cX11_findBest 132 = .ok (.iload 7, 2) := by decide +kernel
theorem dX11_findBest_134 : decode cX11_findBest 134 = .ok (.invokestatic 438, 3) := by decide +kernel
theorem dX11_findBest_137 : decode cX11_findBest 137 = .ok (.invokestatic 337, 3) := by decide +kernel
theorem dX11_findBest_140 : decode cX11_findBest 140 = .ok (.invokevirtual 464, 3) := by decide +kernel
theorem dX11_findBest_143 : decode cX11_findBest 143 = .ok (.iinc 7 2, 3) := by decide +kernel
theorem dX11_findBest_146 : decode cX11_findBest 146 = .ok (.goto (-32), 3) := by decide +kernel
theorem dX11_findBest_149 : decode cX11_findBest 149 = .ok (.iinc 5 1, 3) := by decide +kernel
theorem dX11_findBest_152 : decode cX11_findBest 152 = .ok (.goto (-57), 3) := by decide +kernel
theorem dX11_findBest_155 : decode cX11_findBest 155 = .ok (.return_, 1) := by decide +kernel
