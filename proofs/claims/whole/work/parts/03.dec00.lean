theorem dX0_init_0 : decode cX0_init 0 = .ok (.aload_n 0, 1) := by decide +kernel
theorem dX0_init_1 : decode cX0_init 1 = .ok (.invokespecial 3, 3) := by decide +kernel
theorem dX0_init_4 : decode cX0_init 4 = .ok (.aload_n 0, 1) := by decide +kernel
theorem dX0_init_5 : decode cX0_init 5 = .ok (.sipush 1040, 3) := by decide +kernel
theorem dX0_init_8 : decode cX0_init 8 = .ok (.newarray .long, 2) := by decide +kernel
theorem dX0_init_10 : decode cX0_init 10 = .ok (.putfield 11, 3) := by decide +kernel
theorem dX0_init_13 : decode cX0_init 13 = .ok (.aload_n 0, 1) := by decide +kernel
theorem dX0_init_14 : decode cX0_init 14 = .ok (.sipush 520, 3) := by decide +kernel
theorem dX0_init_17 : decode cX0_init 17 = .ok (.newarray .int, 2) := by decide +kernel
theorem dX0_init_19 : decode cX0_init 19 = .ok (.putfield 15, 3) := by decide +kernel
theorem dX0_init_22 : decode cX0_init 22 = .ok (.aload_n 0, 1) := by decide +kernel
theorem dX0_init_23 : decode cX0_init 23 = .ok (.aload_n 1, 1) := by decide +kernel
theorem dX0_init_24 : decode cX0_init 24 = .ok (.putfield 19, 3) := by decide +kernel
theorem dX0_init_27 : decode cX0_init 27 = .ok (.aload_n 0, 1) := by decide +kernel
theorem dX0_init_28 : decode cX0_init 28 = .ok (.aload_n 1, 1) := by decide +kernel
theorem dX0_init_29 : decode cX0_init 29 = .ok (.getfield 23, 3) := by decide +kernel
theorem dX0_init_32 : decode cX0_init 32 = .ok (.putfield 29, 3) := by decide +kernel
theorem dX0_init_35 : decode cX0_init 35 = .ok (.return_, 1) := by decide +kernel
theorem dX0_countAll_0 : decode cX0_countAll 0 = .ok (.aload_n 0, 1) := by decide +kernel
theorem dX0_countAll_1 : decode cX0_countAll 1 = .ok (.getfield 19, 3) := by decide +kernel
theorem dX0_countAll_4 : decode cX0_countAll 4 = .ok (.aload_n 1, 1) := by decide +kernel
theorem dX0_countAll_5 : decode cX0_countAll 5 = .ok (.iload_n 2, 1) := by decide +kernel
theorem dX0_countAll_6 : decode cX0_countAll 6 = .ok (.invokevirtual 30, 3) := by decide +kernel
theorem dX0_countAll_9 : decode cX0_countAll 9 = .ok (.aload_n 0, 1) := by decide +kernel
theorem dX0_countAll_10 : decode cX0_countAll 10 = .ok (.aload_n 1, 1) := by decide +kernel
theorem dX0_countAll_11 : decode cX0_countAll 11 = .ok (.getfield 34, 3) := by decide +kernel
theorem dX0_countAll_14 : decode cX0_countAll 14 = .ok (.putfield 40, 3) := by decide +kernel
theorem dX0_countAll_17 : decode cX0_countAll 17 = .ok (.aload_n 0, 1) := by decide +kernel
theorem dX0_countAll_18 : decode cX0_countAll 18 = .ok (.iload_n 2, 1) := by decide +kernel
theorem dX0_countAll_19 : decode cX0_countAll 19 = .ok (.putfield 43, 3) := by decide +kernel
theorem dX0_countAll_22 : decode cX0_countAll 22 = .ok (.aload_n 0, 1) := by decide +kernel
theorem dX0_countAll_23 : decode cX0_countAll 23 = .ok (.getfield 29, 3) := by decide +kernel
theorem dX0_countAll_26 : decode cX0_countAll 26 = .ok (.getfield 46, 3) := by decide +kernel
theorem dX0_countAll_29 : decode cX0_countAll 29 = .ok (.iconst 1, 1) := by decide +kernel
theorem dX0_countAll_30 : decode cX0_countAll 30 = .ok (.isub, 1) := by decide +kernel
theorem dX0_countAll_31 : decode cX0_countAll 31 = .ok (.istore_n 3, 1) := by decide +kernel
theorem dX0_countAll_32 : decode cX0_countAll 32 = .ok (.iload_n 3, 1) := by decide +kernel
theorem dX0_countAll_33 : decode cX0_countAll 33 = .ok (.ifCond .lt 38, 3) := by decide +kernel
theorem dX0_countAll_36 : decode cX0_countAll 36 = .ok (.aload_n 0, 1) := by decide +kernel
theorem dX0_countAll_37 : decode cX0_countAll 37 = .ok (.getfield 29, 3) := by decide +kernel
theorem dX0_countAll_40 : decode cX0_countAll 40 = .ok (.getfield 51, 3) := by decide +kernel
theorem dX0_countAll_43 : decode cX0_countAll 43 = .ok (.iload_n 3, 1) := by decide +kernel
theorem dX0_countAll_44 : decode cX0_countAll 44 = .ok (.iaload, 1) := by decide +kernel
theorem dX0_countAll_45 : decode cX0_countAll 45 = .ok (.istore 4, 2) := by decide +kernel
theorem dX0_countAll_47 : decode cX0_countAll 47 = .ok (.aload_n 0, 1) := by decide +kernel
theorem dX0_countAll_48 : decode cX0_countAll 48 = .ok (.iconst 2, 1) := by decide +kernel
theorem dX0_countAll_49 : decode cX0_countAll 49 = .ok (.iload 4, 2) := by decide +kernel
theorem dX0_countAll_51 : decode cX0_countAll 51 = .ok (.imul, 1) := by decide +kernel
theorem dX0_countAll_52 : decode cX0_countAll 52 = .ok (.invokevirtual 54, 3) := by decide +kernel
theorem dX0_countAll_55 : decode cX0_countAll 55 = .ok (.aload_n 0, 1) := by decide +kernel
theorem dX0_countAll_56 : decode cX0_countAll 56 = .ok (.iconst 2, 1) := by decide +kernel
theorem dX0_countAll_57 : decode cX0_countAll 57 = .ok (.iload 4, 2) := by decide +kernel
theorem dX0_countAll_59 : decode cX0_countAll 59 = .ok (.imul, 1) := by decide +kernel
theorem dX0_countAll_60 : decode cX0_countAll 60 = .ok (.iconst 1, 1) := by decide +kernel
theorem dX0_countAll_61 : decode cX0_countAll 61 = .ok (.iadd, 1) := by decide +kernel
theorem dX0_countAll_62 : decode cX0_countAll 62 = .ok (.invokevirtual 54, 3) := by decide +kernel
theorem dX0_countAll_65 : decode cX0_countAll 65 = .ok (.iinc 3 (-1), 3) := by decide +kernel
theorem dX0_countAll_68 : decode cX0_countAll 68 = .ok (.goto (-36), 3) := by decide +kernel
theorem dX0_countAll_71 : decode cX0_countAll 71 = .ok (.return_, 1) := by decide +kernel
theorem dX0_countAt_0 : decode cX0_countAt 0 = .ok (.aload_n 0, 1) := by decide +kernel
theorem dX0_countAt_1 : decode cX0_countAt 1 = .ok (.getfield 29, 3) := by decide +kernel
theorem dX0_countAt_4 : decode cX0_countAt 4 = .ok (.iload_n 1, 1) := by decide +kernel
theorem dX0_countAt_5 : decode cX0_countAt 5 = .ok (.invokevirtual 58, 3) := by decide +kernel
theorem dX0_countAt_8 : decode cX0_countAt 8 = .ok (.istore_n 2, 1) := by decide +kernel
theorem dX0_countAt_9 : decode cX0_countAt 9 = .ok (.aload_n 0, 1) := by decide +kernel
theorem dX0_countAt_10 : decode cX0_countAt 10 = .ok (.getfield 29, 3) := by decide +kernel
theorem dX0_countAt_13 : decode cX0_countAt 13 = .ok (.iload_n 1, 1) := by decide +kernel
theorem dX0_countAt_14 : decode cX0_countAt 14 = .ok (.invokevirtual 62, 3) := by decide +kernel
theorem dX0_countAt_17 : decode cX0_countAt 17 = .ok (.istore_n 3, 1) := by decide +kernel
theorem dX0_countAt_18 : decode cX0_countAt 18 = .ok (.iconst 1, 1) := by decide +kernel
theorem dX0_countAt_19 : decode cX0_countAt 19 = .ok (.istore 4, 2) := by decide +kernel
theorem dX0_countAt_21 : decode cX0_countAt 21 = .ok (.iload 4, 2) := by decide +kernel
theorem dX0_countAt_23 : decode cX0_countAt 23 = .ok (.aload_n 0, 1) := by decide +kernel
theorem dX0_countAt_24 : decode cX0_countAt 24 = .ok (.getfield 40, 3) := by decide +kernel
theorem dX0_countAt_27 : decode cX0_countAt 27 = .ok (.if_icmp .gt 111, 3) := by decide +kernel
theorem dX0_countAt_30 : decode cX0_countAt 30 = .ok (.iload 4, 2) := by decide +kernel
theorem dX0_countAt_32 : decode cX0_countAt 32 = .ok (.aload_n 0, 1) := by decide +kernel
theorem dX0_countAt_33 : decode cX0_countAt 33 = .ok (.getfield 40, 3) := by decide +kernel
theorem dX0_countAt_36 : decode cX0_countAt 36 = .ok (.if_icmp .ne 15, 3) := by decide +kernel
theorem dX0_countAt_39 : decode cX0_countAt 39 = .ok (.iload_n 2, 1) := by decide +kernel
theorem dX0_countAt_40 : decode cX0_countAt 40 = .ok (.aload_n 0, 1) := by decide +kernel
theorem dX0_countAt_41 : decode cX0_countAt 41 = .ok (.getfield 43, 3) := by decide +kernel
theorem dX0_countAt_44 : decode cX0_countAt 44 = .ok (.if_icmp .ne 7, 3) := by decide +kernel
theorem dX0_countAt_47 : decode cX0_countAt 47 = .ok (.iconst 1, 1) := by decide +kernel
theorem dX0_countAt_48 : decode cX0_countAt 48 = .ok (.goto 4, 3) := by decide +kernel
theorem dX0_countAt_51 : decode cX0_countAt 51 = .ok (.iconst 0, 1) := by decide +kernel
theorem dX0_countAt_52 : decode cX0_countAt 52 = .ok (.istore 5, 2) := by decide +kernel
theorem dX0_countAt_54 : decode cX0_countAt 54 = .ok (.aload_n 0, 1) := by decide +kernel
theorem dX0_countAt_55 : decode cX0_countAt 55 = .ok (.getfield 11, 3) := by decide +kernel
theorem dX0_countAt_58 : decode cX0_countAt 58 = .ok (.iload 4, 2) := by decide +kernel
theorem dX0_countAt_60 : decode cX0_countAt 60 = .ok (.bipush 40, 2) := by decide +kernel
theorem dX0_countAt_62 : decode cX0_countAt 62 = .ok (.imul, 1) := by decide +kernel
theorem dX0_countAt_63 : decode cX0_countAt 63 = .ok (.iload_n 1, 1) := by decide +kernel
theorem dX0_countAt_64 : decode cX0_countAt 64 = .ok (.iadd, 1) := by decide +kernel
theorem dX0_countAt_65 : decode cX0_countAt 65 = .ok (.aload_n 0, 1) := by decide +kernel
theorem dX0_countAt_66 : decode cX0_countAt 66 = .ok (.iload_n 2, 1) := by decide +kernel
theorem dX0_countAt_67 : decode cX0_countAt 67 = .ok (.iload_n 3, 1) := by decide +kernel
theorem dX0_countAt_68 : decode cX0_countAt 68 = .ok (.iload 4, 2) := by decide +kernel
theorem dX0_countAt_70 : decode cX0_countAt 70 = .ok (.iconst 0, 1) := by decide +kernel
theorem dX0_countAt_71 : decode cX0_countAt 71 = .ok (.invokevirtual 65, 3) := by decide +kernel
theorem dX0_countAt_74 : decode cX0_countAt 74 = .ok (.lastore, 1) := by decide +kernel
theorem dX0_countAt_75 : decode cX0_countAt 75 = .ok (.aload_n 0, 1) := by decide +kernel
theorem dX0_countAt_76 : decode cX0_countAt 76 = .ok (.getfield 11, 3) := by decide +kernel
theorem dX0_countAt_79 : decode cX0_countAt 79 = .ok (.sipush 520, 3) := by decide +kernel
theorem dX0_countAt_82 : decode cX0_countAt 82 = .ok (.iload 4, 2) := by decide +kernel
theorem dX0_countAt_84 : decode cX0_countAt 84 = .ok (.bipush 40, 2) := by decide +kernel
theorem dX0_countAt_86 : decode cX0_countAt 86 = .ok (.imul, 1) := by decide +kernel
theorem dX0_countAt_87 : decode cX0_countAt 87 = .ok (.iadd, 1) := by decide +kernel
theorem dX0_countAt_88 : decode cX0_countAt 88 = .ok (.iload_n 1, 1) := by decide +kernel
theorem dX0_countAt_89 : decode cX0_countAt 89 = .ok (.iadd, 1) := by decide +kernel
theorem dX0_countAt_90 : decode cX0_countAt 90 = .ok (.iload 5, 2) := by decide +kernel
theorem dX0_countAt_92 : decode cX0_countAt 92 = .ok (.ifCond .eq 7, 3) := by decide +kernel
theorem dX0_countAt_95 : decode cX0_countAt 95 = .ok (.iconst 1, 1) := by decide +kernel
theorem dX0_countAt_96 : decode cX0_countAt 96 = .ok (.goto 4, 3) := by decide +kernel
theorem dX0_countAt_99 : decode cX0_countAt 99 = .ok (.iconst 0, 1) := by decide +kernel
theorem dX0_countAt_100 : decode cX0_countAt 100 = .ok (.i2l, 1) := by decide +kernel
theorem dX0_countAt_101 : decode cX0_countAt 101 = .ok (.aload_n 0, 1) := by decide +kernel
theorem dX0_countAt_102 : decode cX0_countAt 102 = .ok (.iload_n 2, 1) := by decide +kernel
theorem dX0_countAt_103 : decode cX0_countAt 103 = .ok (.iload_n 3, 1) := by decide +kernel
theorem dX0_countAt_104 : decode cX0_countAt 104 = .ok (.iload 4, 2) := by decide +kernel
theorem dX0_countAt_106 : decode cX0_countAt 106 = .ok (.iconst 1, 1) := by decide +kernel
theorem dX0_countAt_107 : decode cX0_countAt 107 = .ok (.invokevirtual 65, 3) := by decide +kernel
theorem dX0_countAt_110 : decode cX0_countAt 110 = .ok (.ladd, 1) := by decide +kernel
theorem dX0_countAt_111 : decode cX0_countAt 111 = .ok (.lastore, 1) := by decide +kernel
theorem dX0_countAt_112 : decode cX0_countAt 112 = .ok (.aload_n 0, 1) := by decide +kernel
theorem dX0_countAt_113 : decode cX0_countAt 113 = .ok (.getfield 15, 3) := by decide +kernel
theorem dX0_countAt_116 : decode cX0_countAt 116 = .ok (.iload 4, 2) := by decide +kernel
theorem dX0_countAt_118 : decode cX0_countAt 118 = .ok (.bipush 40, 2) := by decide +kernel
theorem dX0_countAt_120 : decode cX0_countAt 120 = .ok (.imul, 1) := by decide +kernel
theorem dX0_countAt_121 : decode cX0_countAt 121 = .ok (.iload_n 1, 1) := by decide +kernel
theorem dX0_countAt_122 : decode cX0_countAt 122 = .ok (.iadd, 1) := by decide +kernel
theorem dX0_countAt_123 : decode cX0_countAt 123 = .ok (.aload_n 0, 1) := by decide +kernel
theorem dX0_countAt_124 : decode cX0_countAt 124 = .ok (.iload_n 2, 1) := by decide +kernel
theorem dX0_countAt_125 : decode cX0_countAt 125 = .ok (.iload_n 3, 1) := by decide +kernel
theorem dX0_countAt_126 : decode cX0_countAt 126 = .ok (.iload 4, 2) := by decide +kernel
theorem dX0_countAt_128 : decode cX0_countAt 128 = .ok (.invokevirtual 69, 3) := by decide +kernel
theorem dX0_countAt_131 : decode cX0_countAt 131 = .ok (.iastore, 1) := by decide +kernel
theorem dX0_countAt_132 : decode cX0_countAt 132 = .ok (.iinc 4 1, 3) := by decide +kernel
theorem dX0_countAt_135 : decode cX0_countAt 135 = .ok (.goto (-114), 3) := by decide +kernel
theorem dX0_countAt_138 : decode cX0_countAt 138 = .ok (.return_, 1) := by decide +kernel
theorem dX0_waysOn_0 : decode cX0_waysOn 0 = .ok (.lconst 0, 1) := by decide +kernel
theorem dX0_waysOn_1 : decode cX0_waysOn 1 = .ok (.lstore 5, 2) := by decide +kernel
theorem dX0_waysOn_3 : decode cX0_waysOn 3 = .ok (.iconst 0, 1) := by decide +kernel
theorem dX0_waysOn_4 : decode cX0_waysOn 4 = .ok (.istore 7, 2) := by decide +kernel
theorem dX0_waysOn_6 : decode cX0_waysOn 6 = .ok (.iload 7, 2) := by decide +kernel
theorem dX0_waysOn_8 : decode cX0_waysOn 8 = .ok (.aload_n 0, 1) := by decide +kernel
theorem dX0_waysOn_9 : decode cX0_waysOn 9 = .ok (.getfield 29, 3) := by decide +kernel
theorem dX0_waysOn_12 : decode cX0_waysOn 12 = .ok (.getfield 46, 3) := by decide +kernel
theorem dX0_waysOn_15 : decode cX0_waysOn 15 = .ok (.if_icmp .ge 125, 3) := by decide +kernel
theorem dX0_waysOn_18 : decode cX0_waysOn 18 = .ok (.aload_n 0, 1) := by decide +kernel
theorem dX0_waysOn_19 : decode cX0_waysOn 19 = .ok (.getfield 29, 3) := by decide +kernel
theorem dX0_waysOn_22 : decode cX0_waysOn 22 = .ok (.iload_n 1, 1) := by decide +kernel
theorem dX0_waysOn_23 : decode cX0_waysOn 23 = .ok (.iload 7, 2) := by decide +kernel
theorem dX0_waysOn_25 : decode cX0_waysOn 25 = .ok (.invokevirtual 72, 3) := by decide +kernel
theorem dX0_waysOn_28 : decode cX0_waysOn 28 = .ok (.ifCond .eq 106, 3) := by decide +kernel
theorem dX0_waysOn_31 : decode cX0_waysOn 31 = .ok (.aload_n 0, 1) := by decide +kernel
theorem dX0_waysOn_32 : decode cX0_waysOn 32 = .ok (.getfield 29, 3) := by decide +kernel
theorem dX0_waysOn_35 : decode cX0_waysOn 35 = .ok (.getfield 76, 3) := by decide +kernel
theorem dX0_waysOn_38 : decode cX0_waysOn 38 = .ok (.iload 7, 2) := by decide +kernel
theorem dX0_waysOn_40 : decode cX0_waysOn 40 = .ok (.iaload, 1) := by decide +kernel
theorem dX0_waysOn_41 : decode cX0_waysOn 41 = .ok (.iload_n 2, 1) := by decide +kernel
theorem dX0_waysOn_42 : decode cX0_waysOn 42 = .ok (.if_icmp .ge 6, 3) := by decide +kernel
theorem dX0_waysOn_45 : decode cX0_waysOn 45 = .ok (.goto 89, 3) := by decide +kernel
theorem dX0_waysOn_48 : decode cX0_waysOn 48 = .ok (.aload_n 0, 1) := by decide +kernel
theorem dX0_waysOn_49 : decode cX0_waysOn 49 = .ok (.getfield 29, 3) := by decide +kernel
theorem dX0_waysOn_52 : decode cX0_waysOn 52 = .ok (.iload 7, 2) := by decide +kernel
theorem dX0_waysOn_54 : decode cX0_waysOn 54 = .ok (.aload_n 0, 1) := by decide +kernel
theorem dX0_waysOn_55 : decode cX0_waysOn 55 = .ok (.getfield 29, 3) := by decide +kernel
theorem dX0_waysOn_58 : decode cX0_waysOn 58 = .ok (.iload 7, 2) := by decide +kernel
theorem dX0_waysOn_60 : decode cX0_waysOn 60 = .ok (.iload_n 1, 1) := by decide +kernel
theorem dX0_waysOn_61 : decode cX0_waysOn 61 = .ok (.invokevirtual 79, 3) := by decide +kernel
theorem dX0_waysOn_64 : decode cX0_waysOn 64 = .ok (.invokevirtual 83, 3) := by decide +kernel
theorem dX0_waysOn_67 : decode cX0_waysOn 67 = .ok (.istore 8, 2) := by decide +kernel
theorem dX0_waysOn_69 : decode cX0_waysOn 69 = .ok (.aload_n 0, 1) := by decide +kernel
theorem dX0_waysOn_70 : decode cX0_waysOn 70 = .ok (.getfield 19, 3) := by decide +kernel
theorem dX0_waysOn_73 : decode cX0_waysOn 73 = .ok (.iload_n 3, 1) := by decide +kernel
theorem dX0_waysOn_74 : decode cX0_waysOn 74 = .ok (.iload 8, 2) := by decide +kernel
theorem dX0_waysOn_76 : decode cX0_waysOn 76 = .ok (.invokevirtual 86, 3) := by decide +kernel
theorem dX0_waysOn_79 : decode cX0_waysOn 79 = .ok (.ifCond .eq 29, 3) := by decide +kernel
theorem dX0_waysOn_82 : decode cX0_waysOn 82 = .ok (.lload 5, 2) := by decide +kernel
theorem dX0_waysOn_84 : decode cX0_waysOn 84 = .ok (.aload_n 0, 1) := by decide +kernel
theorem dX0_waysOn_85 : decode cX0_waysOn 85 = .ok (.getfield 11, 3) := by decide +kernel
theorem dX0_waysOn_88 : decode cX0_waysOn 88 = .ok (.iload 4, 2) := by decide +kernel
theorem dX0_waysOn_90 : decode cX0_waysOn 90 = .ok (.sipush 520, 3) := by decide +kernel
theorem dX0_waysOn_93 : decode cX0_waysOn 93 = .ok (.imul, 1) := by decide +kernel
theorem dX0_waysOn_94 : decode cX0_waysOn 94 = .ok (.iload_n 3, 1) := by decide +kernel
theorem dX0_waysOn_95 : decode cX0_waysOn 95 = .ok (.iconst 1, 1) := by decide +kernel
theorem dX0_waysOn_96 : decode cX0_waysOn 96 = .ok (.iadd, 1) := by decide +kernel
theorem dX0_waysOn_97 : decode cX0_waysOn 97 = .ok (.bipush 40, 2) := by decide +kernel
theorem dX0_waysOn_99 : decode cX0_waysOn 99 = .ok (.imul, 1) := by decide +kernel
theorem dX0_waysOn_100 : decode cX0_waysOn 100 = .ok (.iadd, 1) := by decide +kernel
theorem dX0_waysOn_101 : decode cX0_waysOn 101 = .ok (.iload 8, 2) := by decide +kernel
theorem dX0_waysOn_103 : decode cX0_waysOn 103 = .ok (.iadd, 1) := by decide +kernel
theorem dX0_waysOn_104 : decode cX0_waysOn 104 = .ok (.laload, 1) := by decide +kernel
theorem dX0_waysOn_105 : decode cX0_waysOn 105 = .ok (.ladd, 1) := by decide +kernel
theorem dX0_waysOn_106 : decode cX0_waysOn 106 = .ok (.lstore 5, 2) := by decide +kernel
theorem dX0_waysOn_108 : decode cX0_waysOn 108 = .ok (.iload 4, 2) := by decide +kernel
theorem dX0_waysOn_110 : decode cX0_waysOn 110 = .ok (.ifCond .ne 24, 3) := by decide +kernel
theorem dX0_waysOn_113 : decode cX0_waysOn 113 = .ok (.lload 5, 2) := by decide +kernel
theorem dX0_waysOn_115 : decode cX0_waysOn 115 = .ok (.aload_n 0, 1) := by decide +kernel
theorem dX0_waysOn_116 : decode cX0_waysOn 116 = .ok (.getfield 11, 3) := by decide +kernel
theorem dX0_waysOn_119 : decode cX0_waysOn 119 = .ok (.sipush 520, 3) := by decide +kernel
theorem dX0_waysOn_122 : decode cX0_waysOn 122 = .ok (.iload_n 3, 1) := by decide +kernel
theorem dX0_waysOn_123 : decode cX0_waysOn 123 = .ok (.bipush 40, 2) := by decide +kernel
theorem dX0_waysOn_125 : decode cX0_waysOn 125 = .ok (.imul, 1) := by decide +kernel
theorem dX0_waysOn_126 : decode cX0_waysOn 126 = .ok (.iadd, 1) := by decide +kernel
theorem dX0_waysOn_127 : decode cX0_waysOn 127 = .ok (.iload 8, 2) := by decide +kernel
theorem dX0_waysOn_129 : decode cX0_waysOn 129 = .ok (.iadd, 1) := by decide +kernel
theorem dX0_waysOn_130 : decode cX0_waysOn 130 = .ok (.laload, 1) := by decide +kernel
theorem dX0_waysOn_131 : decode cX0_waysOn 131 = .ok (.ladd, 1) := by decide +kernel
theorem dX0_waysOn_132 : decode cX0_waysOn 132 = .ok (.lstore 5, 2) := by decide +kernel
theorem dX0_waysOn_134 : decode cX0_waysOn 134 = .ok (.iinc 7 1, 3) := by decide +kernel
theorem dX0_waysOn_137 : decode cX0_waysOn 137 = .ok (.goto (-131), 3) := by decide +kernel
theorem dX0_waysOn_140 : decode cX0_waysOn 140 = .ok (.lload 5, 2) := by decide +kernel
theorem dX0_waysOn_142 : decode cX0_waysOn 142 = .ok (.lreturn, 1) := by decide +kernel
theorem dX0_leavers_0 : decode cX0_leavers 0 = .ok (.iconst 0, 1) := by decide +kernel
theorem dX0_leavers_1 : decode cX0_leavers 1 = .ok (.istore 4, 2) := by decide +kernel
theorem dX0_leavers_3 : decode cX0_leavers 3 = .ok (.iconst 0, 1) := by decide +kernel
theorem dX0_leavers_4 : decode cX0_leavers 4 = .ok (.istore 5, 2) := by decide +kernel
theorem dX0_leavers_6 : decode cX0_leavers 6 = .ok (.iload 5, 2) := by decide +kernel
theorem dX0_leavers_8 : decode cX0_leavers 8 = .ok (.aload_n 0, 1) := by decide +kernel
theorem dX0_leavers_9 : decode cX0_leavers 9 = .ok (.getfield 29, 3) := by decide +kernel
theorem dX0_leavers_12 : decode cX0_leavers 12 = .ok (.getfield 46, 3) := by decide +kernel
theorem dX0_leavers_15 : decode cX0_leavers 15 = .ok (.if_icmp .ge 126, 3) := by decide +kernel
theorem dX0_leavers_18 : decode cX0_leavers 18 = .ok (.aload_n 0, 1) := by decide +kernel
theorem dX0_leavers_19 : decode cX0_leavers 19 = .ok (.getfield 29, 3) := by decide +kernel
theorem dX0_leavers_22 : decode cX0_leavers 22 = .ok (.iload_n 1, 1) := by decide +kernel
theorem dX0_leavers_23 : decode cX0_leavers 23 = .ok (.iload 5, 2) := by decide +kernel
theorem dX0_leavers_25 : decode cX0_leavers 25 = .ok (.invokevirtual 72, 3) := by decide +kernel
theorem dX0_leavers_28 : decode cX0_leavers 28 = .ok (.ifCond .eq 107, 3) := by decide +kernel
theorem dX0_leavers_31 : decode cX0_leavers 31 = .ok (.aload_n 0, 1) := by decide +kernel
theorem dX0_leavers_32 : decode cX0_leavers 32 = .ok (.getfield 29, 3) := by decide +kernel
theorem dX0_leavers_35 : decode cX0_leavers 35 = .ok (.getfield 76, 3) := by decide +kernel
theorem dX0_leavers_38 : decode cX0_leavers 38 = .ok (.iload 5, 2) := by decide +kernel
theorem dX0_leavers_40 : decode cX0_leavers 40 = .ok (.iaload, 1) := by decide +kernel
theorem dX0_leavers_41 : decode cX0_leavers 41 = .ok (.iload_n 2, 1) := by decide +kernel
theorem dX0_leavers_42 : decode cX0_leavers 42 = .ok (.if_icmp .ge 6, 3) := by decide +kernel
theorem dX0_leavers_45 : decode cX0_leavers 45 = .ok (.goto 90, 3) := by decide +kernel
theorem dX0_leavers_48 : decode cX0_leavers 48 = .ok (.aload_n 0, 1) := by decide +kernel
theorem dX0_leavers_49 : decode cX0_leavers 49 = .ok (.getfield 29, 3) := by decide +kernel
theorem dX0_leavers_52 : decode cX0_leavers 52 = .ok (.iload 5, 2) := by decide +kernel
theorem dX0_leavers_54 : decode cX0_leavers 54 = .ok (.iload_n 1, 1) := by decide +kernel
theorem dX0_leavers_55 : decode cX0_leavers 55 = .ok (.invokevirtual 79, 3) := by decide +kernel
theorem dX0_leavers_58 : decode cX0_leavers 58 = .ok (.istore 6, 2) := by decide +kernel
theorem dX0_leavers_60 : decode cX0_leavers 60 = .ok (.aload_n 0, 1) := by decide +kernel
theorem dX0_leavers_61 : decode cX0_leavers 61 = .ok (.getfield 29, 3) := by decide +kernel
theorem dX0_leavers_64 : decode cX0_leavers 64 = .ok (.iload 5, 2) := by decide +kernel
theorem dX0_leavers_66 : decode cX0_leavers 66 = .ok (.iload 6, 2) := by decide +kernel
theorem dX0_leavers_68 : decode cX0_leavers 68 = .ok (.invokevirtual 83, 3) := by decide +kernel
theorem dX0_leavers_71 : decode cX0_leavers 71 = .ok (.istore 7, 2) := by decide +kernel
theorem dX0_leavers_73 : decode cX0_leavers 73 = .ok (.aload_n 0, 1) := by decide +kernel
theorem dX0_leavers_74 : decode cX0_leavers 74 = .ok (.getfield 19, 3) := by decide +kernel
theorem dX0_leavers_77 : decode cX0_leavers 77 = .ok (.iload_n 3, 1) := by decide +kernel
theorem dX0_leavers_78 : decode cX0_leavers 78 = .ok (.iload 7, 2) := by decide +kernel
theorem dX0_leavers_80 : decode cX0_leavers 80 = .ok (.invokevirtual 86, 3) := by decide +kernel
theorem dX0_leavers_83 : decode cX0_leavers 83 = .ok (.ifCond .eq 22, 3) := by decide +kernel
theorem dX0_leavers_86 : decode cX0_leavers 86 = .ok (.iload 4, 2) := by decide +kernel
theorem dX0_leavers_88 : decode cX0_leavers 88 = .ok (.aload_n 0, 1) := by decide +kernel
theorem dX0_leavers_89 : decode cX0_leavers 89 = .ok (.getfield 15, 3) := by decide +kernel
theorem dX0_leavers_92 : decode cX0_leavers 92 = .ok (.iload_n 3, 1) := by decide +kernel
theorem dX0_leavers_93 : decode cX0_leavers 93 = .ok (.iconst 1, 1) := by decide +kernel
theorem dX0_leavers_94 : decode cX0_leavers 94 = .ok (.iadd, 1) := by decide +kernel
theorem dX0_leavers_95 : decode cX0_leavers 95 = .ok (.bipush 40, 2) := by decide +kernel
theorem dX0_leavers_97 : decode cX0_leavers 97 = .ok (.imul, 1) := by decide +kernel
theorem dX0_leavers_98 : decode cX0_leavers 98 = .ok (.iload 7, 2) := by decide +kernel
theorem dX0_leavers_100 : decode cX0_leavers 100 = .ok (.iadd, 1) := by decide +kernel
theorem dX0_leavers_101 : decode cX0_leavers 101 = .ok (.iaload, 1) := by decide +kernel
theorem dX0_leavers_102 : decode cX0_leavers 102 = .ok (.ior, 1) := by decide +kernel
theorem dX0_leavers_103 : decode cX0_leavers 103 = .ok (.istore 4, 2) := by decide +kernel
theorem dX0_leavers_105 : decode cX0_leavers 105 = .ok (.aload_n 0, 1) := by decide +kernel
theorem dX0_leavers_106 : decode cX0_leavers 106 = .ok (.getfield 11, 3) := by decide +kernel
theorem dX0_leavers_109 : decode cX0_leavers 109 = .ok (.sipush 520, 3) := by decide +kernel
theorem dX0_leavers_112 : decode cX0_leavers 112 = .ok (.iload_n 3, 1) := by decide +kernel
theorem dX0_leavers_113 : decode cX0_leavers 113 = .ok (.bipush 40, 2) := by decide +kernel
theorem dX0_leavers_115 : decode cX0_leavers 115 = .ok (.imul, 1) := by decide +kernel
theorem dX0_leavers_116 : decode cX0_leavers 116 = .ok (.iadd, 1) := by decide +kernel
theorem dX0_leavers_117 : decode cX0_leavers 117 = .ok (.iload 7, 2) := by decide +kernel
theorem dX0_leavers_119 : decode cX0_leavers 119 = .ok (.iadd, 1) := by decide +kernel
theorem dX0_leavers_120 : decode cX0_leavers 120 = .ok (.laload, 1) := by decide +kernel
theorem dX0_leavers_121 : decode cX0_leavers 121 = .ok (.lconst 0, 1) := by decide +kernel
theorem dX0_leavers_122 : decode cX0_leavers 122 = .ok (.lcmp, 1) := by decide +kernel
theorem dX0_leavers_123 : decode cX0_leavers 123 = .ok (.ifCond .le 12, 3) := by decide +kernel
theorem dX0_leavers_126 : decode cX0_leavers 126 = .ok (.iload 4, 2) := by decide +kernel
theorem dX0_leavers_128 : decode cX0_leavers 128 = .ok (.iconst 1, 1) := by decide +kernel
theorem dX0_leavers_129 : decode cX0_leavers 129 = .ok (.iload 6, 2) := by decide +kernel
theorem dX0_leavers_131 : decode cX0_leavers 131 = .ok (.ishl, 1) := by decide +kernel
theorem dX0_leavers_132 : decode cX0_leavers 132 = .ok (.ior, 1) := by decide +kernel
theorem dX0_leavers_133 : decode cX0_leavers 133 = .ok (.istore 4, 2) := by decide +kernel
theorem dX0_leavers_135 : decode cX0_leavers 135 = .ok (.iinc 5 1, 3) := by decide +kernel
theorem dX0_leavers_138 : decode cX0_leavers 138 = .ok (.goto (-132), 3) := by decide +kernel
theorem dX0_leavers_141 : decode cX0_leavers 141 = .ok (.iload 4, 2) := by decide +kernel
theorem dX0_leavers_143 : decode cX0_leavers 143 = .ok (.ireturn, 1) := by decide +kernel
theorem dX1_init_0 : decode cX1_init 0 = .ok (.aload_n 0, 1) := by decide +kernel
theorem dX1_init_1 : decode cX1_init 1 = .ok (.invokespecial 3, 3) := by decide +kernel
theorem dX1_init_4 : decode cX1_init 4 = .ok (.aload_n 0, 1) := by decide +kernel
theorem dX1_init_5 : decode cX1_init 5 = .ok (.iconst 3, 1) := by decide +kernel
theorem dX1_init_6 : decode cX1_init 6 = .ok (.newarray .int, 2) := by decide +kernel
theorem dX1_init_8 : decode cX1_init 8 = .ok (.putfield 9, 3) := by decide +kernel
theorem dX1_init_11 : decode cX1_init 11 = .ok (.aload_n 0, 1) := by decide +kernel
theorem dX1_init_12 : decode cX1_init 12 = .ok (.bipush 90, 2) := by decide +kernel
theorem dX1_init_14 : decode cX1_init 14 = .ok (.newarray .int, 2) := by decide +kernel
theorem dX1_init_16 : decode cX1_init 16 = .ok (.putfield 15, 3) := by decide +kernel
theorem dX1_init_19 : decode cX1_init 19 = .ok (.aload_n 0, 1) := by decide +kernel
theorem dX1_init_20 : decode cX1_init 20 = .ok (.bipush 90, 2) := by decide +kernel
theorem dX1_init_22 : decode cX1_init 22 = .ok (.newarray .int, 2) := by decide +kernel
theorem dX1_init_24 : decode cX1_init 24 = .ok (.putfield 18, 3) := by decide +kernel
theorem dX1_init_27 : decode cX1_init 27 = .ok (.aload_n 0, 1) := by decide +kernel
theorem dX1_init_28 : decode cX1_init 28 = .ok (.bipush 90, 2) := by decide +kernel
theorem dX1_init_30 : decode cX1_init 30 = .ok (.newarray .int, 2) := by decide +kernel
theorem dX1_init_32 : decode cX1_init 32 = .ok (.putfield 21, 3) := by decide +kernel
theorem dX1_init_35 : decode cX1_init 35 = .ok (.return_, 1) := by decide +kernel
theorem dX1_isThere_0 : decode cX1_isThere 0 = .ok (.iload_n 1, 1) := by decide +kernel
theorem dX1_isThere_1 : decode cX1_isThere 1 = .ok (.ifCond .lt 21, 3) := by decide +kernel
theorem dX1_isThere_4 : decode cX1_isThere 4 = .ok (.iload_n 1, 1) := by decide +kernel
theorem dX1_isThere_5 : decode cX1_isThere 5 = .ok (.iconst 3, 1) := by decide +kernel
theorem dX1_isThere_6 : decode cX1_isThere 6 = .ok (.if_icmp .ge 16, 3) := by decide +kernel
theorem dX1_isThere_9 : decode cX1_isThere 9 = .ok (.aload_n 0, 1) := by decide +kernel
theorem dX1_isThere_10 : decode cX1_isThere 10 = .ok (.getfield 9, 3) := by decide +kernel
theorem dX1_isThere_13 : decode cX1_isThere 13 = .ok (.iload_n 1, 1) := by decide +kernel
theorem dX1_isThere_14 : decode cX1_isThere 14 = .ok (.iaload, 1) := by decide +kernel
theorem dX1_isThere_15 : decode cX1_isThere 15 = .ok (.ifCond .le 7, 3) := by decide +kernel
theorem dX1_isThere_18 : decode cX1_isThere 18 = .ok (.iconst 1, 1) := by decide +kernel
theorem dX1_isThere_19 : decode cX1_isThere 19 = .ok (.goto 4, 3) := by decide +kernel
theorem dX1_isThere_22 : decode cX1_isThere 22 = .ok (.iconst 0, 1) := by decide +kernel
theorem dX1_isThere_23 : decode cX1_isThere 23 = .ok (.ireturn, 1) := by decide +kernel
theorem dX1_thereBits_0 : decode cX1_thereBits 0 = .ok (.iconst 0, 1) := by decide +kernel
theorem dX1_thereBits_1 : decode cX1_thereBits 1 = .ok (.istore_n 1, 1) := by decide +kernel
theorem dX1_thereBits_2 : decode cX1_thereBits 2 = .ok (.iconst 0, 1) := by decide +kernel
theorem dX1_thereBits_3 : decode cX1_thereBits 3 = .ok (.istore_n 2, 1) := by decide +kernel
theorem dX1_thereBits_4 : decode cX1_thereBits 4 = .ok (.iload_n 2, 1) := by decide +kernel
theorem dX1_thereBits_5 : decode cX1_thereBits 5 = .ok (.iconst 3, 1) := by decide +kernel
theorem dX1_thereBits_6 : decode cX1_thereBits 6 = .ok (.if_icmp .ge 24, 3) := by decide +kernel
theorem dX1_thereBits_9 : decode cX1_thereBits 9 = .ok (.aload_n 0, 1) := by decide +kernel
theorem dX1_thereBits_10 : decode cX1_thereBits 10 = .ok (.getfield 9, 3) := by decide +kernel
theorem dX1_thereBits_13 : decode cX1_thereBits 13 = .ok (.iload_n 2, 1) := by decide +kernel
theorem dX1_thereBits_14 : decode cX1_thereBits 14 = .ok (.iaload, 1) := by decide +kernel
theorem dX1_thereBits_15 : decode cX1_thereBits 15 = .ok (.ifCond .le 9, 3) := by decide +kernel
theorem dX1_thereBits_18 : decode cX1_thereBits 18 = .ok (.iload_n 1, 1) := by decide +kernel
theorem dX1_thereBits_19 : decode cX1_thereBits 19 = .ok (.iconst 1, 1) := by decide +kernel
theorem dX1_thereBits_20 : decode cX1_thereBits 20 = .ok (.iload_n 2, 1) := by decide +kernel
theorem dX1_thereBits_21 : decode cX1_thereBits 21 = .ok (.ishl, 1) := by decide +kernel
theorem dX1_thereBits_22 : decode cX1_thereBits 22 = .ok (.ior, 1) := by decide +kernel
theorem dX1_thereBits_23 : decode cX1_thereBits 23 = .ok (.istore_n 1, 1) := by decide +kernel
theorem dX1_thereBits_24 : decode cX1_thereBits 24 = .ok (.iinc 2 1, 3) := by decide +kernel
theorem dX1_thereBits_27 : decode cX1_thereBits 27 = .ok (.goto (-23), 3) := by decide +kernel
theorem dX1_thereBits_30 : decode cX1_thereBits 30 = .ok (.iload_n 1, 1) := by decide +kernel
theorem dX1_thereBits_31 : decode cX1_thereBits 31 = .ok (.ireturn, 1) := by decide +kernel
theorem dX1_begin_0 : decode cX1_begin 0 = .ok (.aload_n 0, 1) := by decide +kernel
theorem dX1_begin_1 : decode cX1_begin 1 = .ok (.getfield 9, 3) := by decide +kernel
theorem dX1_begin_4 : decode cX1_begin 4 = .ok (.iload_n 1, 1) := by decide +kernel
theorem dX1_begin_5 : decode cX1_begin 5 = .ok (.iconst 0, 1) := by decide +kernel
theorem dX1_begin_6 : decode cX1_begin 6 = .ok (.iastore, 1) := by decide +kernel
theorem dX1_begin_7 : decode cX1_begin 7 = .ok (.aload_n 0, 1) := by decide +kernel
theorem dX1_begin_8 : decode cX1_begin 8 = .ok (.iload_n 1, 1) := by decide +kernel
theorem dX1_begin_9 : decode cX1_begin 9 = .ok (.iload_n 2, 1) := by decide +kernel
theorem dX1_begin_10 : decode cX1_begin 10 = .ok (.iload_n 3, 1) := by decide +kernel
theorem dX1_begin_11 : decode cX1_begin 11 = .ok (.iload 4, 2) := by decide +kernel
theorem dX1_begin_13 : decode cX1_begin 13 = .ok (.invokevirtual 24, 3) := by decide +kernel
theorem dX1_begin_16 : decode cX1_begin 16 = .ok (.return_, 1) := by decide +kernel
theorem dX1_add_0 : decode cX1_add 0 = .ok (.aload_n 0, 1) := by decide +kernel
theorem dX1_add_1 : decode cX1_add 1 = .ok (.getfield 9, 3) := by decide +kernel
theorem dX1_add_4 : decode cX1_add 4 = .ok (.iload_n 1, 1) := by decide +kernel
theorem dX1_add_5 : decode cX1_add 5 = .ok (.iaload, 1) := by decide +kernel
theorem dX1_add_6 : decode cX1_add 6 = .ok (.bipush 30, 2) := by decide +kernel
theorem dX1_add_8 : decode cX1_add 8 = .ok (.if_icmp .lt 4, 3) := by decide +kernel
theorem dX1_add_11 : decode cX1_add 11 = .ok (.return_, 1) := by decide +kernel
theorem dX1_add_12 : decode cX1_add 12 = .ok (.iload_n 1, 1) := by decide +kernel
theorem dX1_add_13 : decode cX1_add 13 = .ok (.bipush 30, 2) := by decide +kernel
theorem dX1_add_15 : decode cX1_add 15 = .ok (.imul, 1) := by decide +kernel
theorem dX1_add_16 : decode cX1_add 16 = .ok (.aload_n 0, 1) := by decide +kernel
theorem dX1_add_17 : decode cX1_add 17 = .ok (.getfield 9, 3) := by decide +kernel
theorem dX1_add_20 : decode cX1_add 20 = .ok (.iload_n 1, 1) := by decide +kernel
theorem dX1_add_21 : decode cX1_add 21 = .ok (.iaload, 1) := by decide +kernel
theorem dX1_add_22 : decode cX1_add 22 = .ok (.iadd, 1) := by decide +kernel
theorem dX1_add_23 : decode cX1_add 23 = .ok (.istore 5, 2) := by decide +kernel
theorem dX1_add_25 : decode cX1_add 25 = .ok (.aload_n 0, 1) := by decide +kernel
theorem dX1_add_26 : decode cX1_add 26 = .ok (.getfield 15, 3) := by decide +kernel
theorem dX1_add_29 : decode cX1_add 29 = .ok (.iload 5, 2) := by decide +kernel
theorem dX1_add_31 : decode cX1_add 31 = .ok (.iload_n 2, 1) := by decide +kernel
theorem dX1_add_32 : decode cX1_add 32 = .ok (.iastore, 1) := by decide +kernel
theorem dX1_add_33 : decode cX1_add 33 = .ok (.aload_n 0, 1) := by decide +kernel
theorem dX1_add_34 : decode cX1_add 34 = .ok (.getfield 18, 3) := by decide +kernel
theorem dX1_add_37 : decode cX1_add 37 = .ok (.iload 5, 2) := by decide +kernel
theorem dX1_add_39 : decode cX1_add 39 = .ok (.iload_n 3, 1) := by decide +kernel
theorem dX1_add_40 : decode cX1_add 40 = .ok (.iastore, 1) := by decide +kernel
theorem dX1_add_41 : decode cX1_add 41 = .ok (.aload_n 0, 1) := by decide +kernel
theorem dX1_add_42 : decode cX1_add 42 = .ok (.getfield 21, 3) := by decide +kernel
theorem dX1_add_45 : decode cX1_add 45 = .ok (.iload 5, 2) := by decide +kernel
theorem dX1_add_47 : decode cX1_add 47 = .ok (.iload 4, 2) := by decide +kernel
theorem dX1_add_49 : decode cX1_add 49 = .ok (.iastore, 1) := by decide +kernel
theorem dX1_add_50 : decode cX1_add 50 = .ok (.aload_n 0, 1) := by decide +kernel
theorem dX1_add_51 : decode cX1_add 51 = .ok (.getfield 9, 3) := by decide +kernel
theorem dX1_add_54 : decode cX1_add 54 = .ok (.iload_n 1, 1) := by decide +kernel
theorem dX1_add_55 : decode cX1_add 55 = .ok (.dup2, 1) := by decide +kernel
theorem dX1_add_56 : decode cX1_add 56 = .ok (.iaload, 1) := by decide +kernel
theorem dX1_add_57 : decode cX1_add 57 = .ok (.iconst 1, 1) := by decide +kernel
theorem dX1_add_58 : decode cX1_add 58 = .ok (.iadd, 1) := by decide +kernel
theorem dX1_add_59 : decode cX1_add 59 = .ok (.iastore, 1) := by decide +kernel
theorem dX1_add_60 : decode cX1_add 60 = .ok (.return_, 1) := by decide +kernel
theorem dX1_takeBack_0 : decode cX1_takeBack 0 = .ok (.aload_n 0, 1) := by decide +kernel
theorem dX1_takeBack_1 : decode cX1_takeBack 1 = .ok (.getfield 9, 3) := by decide +kernel
theorem dX1_takeBack_4 : decode cX1_takeBack 4 = .ok (.iload_n 1, 1) := by decide +kernel
theorem dX1_takeBack_5 : decode cX1_takeBack 5 = .ok (.iaload, 1) := by decide +kernel
theorem dX1_takeBack_6 : decode cX1_takeBack 6 = .ok (.iconst 1, 1) := by decide +kernel
theorem dX1_takeBack_7 : decode cX1_takeBack 7 = .ok (.if_icmp .gt 5, 3) := by decide +kernel
theorem dX1_takeBack_10 : decode cX1_takeBack 10 = .ok (.iconst (-1), 1) := by decide +kernel
theorem dX1_takeBack_11 : decode cX1_takeBack 11 = .ok (.ireturn, 1) := by decide +kernel
theorem dX1_takeBack_12 : decode cX1_takeBack 12 = .ok (.aload_n 0, 1) := by decide +kernel
theorem dX1_takeBack_13 : decode cX1_takeBack 13 = .ok (.getfield 9, 3) := by decide +kernel
theorem dX1_takeBack_16 : decode cX1_takeBack 16 = .ok (.iload_n 1, 1) := by decide +kernel
theorem dX1_takeBack_17 : decode cX1_takeBack 17 = .ok (.dup2, 1) := by decide +kernel
theorem dX1_takeBack_18 : decode cX1_takeBack 18 = .ok (.iaload, 1) := by decide +kernel
theorem dX1_takeBack_19 : decode cX1_takeBack 19 = .ok (.iconst 1, 1) := by decide +kernel
theorem dX1_takeBack_20 : decode cX1_takeBack 20 = .ok (.isub, 1) := by decide +kernel
theorem dX1_takeBack_21 : decode cX1_takeBack 21 = .ok (.iastore, 1) := by decide +kernel
theorem dX1_takeBack_22 : decode cX1_takeBack 22 = .ok (.aload_n 0, 1) := by decide +kernel
theorem dX1_takeBack_23 : decode cX1_takeBack 23 = .ok (.getfield 9, 3) := by decide +kernel
theorem dX1_takeBack_26 : decode cX1_takeBack 26 = .ok (.iload_n 1, 1) := by decide +kernel
theorem dX1_takeBack_27 : decode cX1_takeBack 27 = .ok (.iaload, 1) := by decide +kernel
theorem dX1_takeBack_28 : decode cX1_takeBack 28 = .ok (.iconst 1, 1) := by decide +kernel
theorem dX1_takeBack_29 : decode cX1_takeBack 29 = .ok (.isub, 1) := by decide +kernel
theorem dX1_takeBack_30 : decode cX1_takeBack 30 = .ok (.ireturn, 1) := by decide +kernel
theorem dX1_holderAt_0 : decode cX1_holderAt 0 = .ok (.aload_n 0, 1) := by decide +kernel
theorem dX1_holderAt_1 : decode cX1_holderAt 1 = .ok (.getfield 15, 3) := by decide +kernel
theorem dX1_holderAt_4 : decode cX1_holderAt 4 = .ok (.iload_n 1, 1) := by decide +kernel
theorem dX1_holderAt_5 : decode cX1_holderAt 5 = .ok (.bipush 30, 2) := by decide +kernel
theorem dX1_holderAt_7 : decode cX1_holderAt 7 = .ok (.imul, 1) := by decide +kernel
theorem dX1_holderAt_8 : decode cX1_holderAt 8 = .ok (.iload_n 2, 1) := by decide +kernel
theorem dX1_holderAt_9 : decode cX1_holderAt 9 = .ok (.iadd, 1) := by decide +kernel
theorem dX1_holderAt_10 : decode cX1_holderAt 10 = .ok (.iaload, 1) := by decide +kernel
theorem dX1_holderAt_11 : decode cX1_holderAt 11 = .ok (.ireturn, 1) := by decide +kernel
theorem dX1_sinceAt_0 : decode cX1_sinceAt 0 = .ok (.aload_n 0, 1) := by decide +kernel
theorem dX1_sinceAt_1 : decode cX1_sinceAt 1 = .ok (.getfield 18, 3) := by decide +kernel
theorem dX1_sinceAt_4 : decode cX1_sinceAt 4 = .ok (.iload_n 1, 1) := by decide +kernel
theorem dX1_sinceAt_5 : decode cX1_sinceAt 5 = .ok (.bipush 30, 2) := by decide +kernel
theorem dX1_sinceAt_7 : decode cX1_sinceAt 7 = .ok (.imul, 1) := by decide +kernel
theorem dX1_sinceAt_8 : decode cX1_sinceAt 8 = .ok (.iload_n 2, 1) := by decide +kernel
theorem dX1_sinceAt_9 : decode cX1_sinceAt 9 = .ok (.iadd, 1) := by decide +kernel
theorem dX1_sinceAt_10 : decode cX1_sinceAt 10 = .ok (.iaload, 1) := by decide +kernel
theorem dX1_sinceAt_11 : decode cX1_sinceAt 11 = .ok (.ireturn, 1) := by decide +kernel
theorem dX1_lineAt_0 : decode cX1_lineAt 0 = .ok (.aload_n 0, 1) := by decide +kernel
theorem dX1_lineAt_1 : decode cX1_lineAt 1 = .ok (.getfield 21, 3) := by decide +kernel
theorem dX1_lineAt_4 : decode cX1_lineAt 4 = .ok (.iload_n 1, 1) := by decide +kernel
theorem dX1_lineAt_5 : decode cX1_lineAt 5 = .ok (.bipush 30, 2) := by decide +kernel
theorem dX1_lineAt_7 : decode cX1_lineAt 7 = .ok (.imul, 1) := by decide +kernel
theorem dX1_lineAt_8 : decode cX1_lineAt 8 = .ok (.iload_n 2, 1) := by decide +kernel
theorem dX1_lineAt_9 : decode cX1_lineAt 9 = .ok (.iadd, 1) := by decide +kernel
theorem dX1_lineAt_10 : decode cX1_lineAt 10 = .ok (.iaload, 1) := by decide +kernel
theorem dX1_lineAt_11 : decode cX1_lineAt 11 = .ok (.ireturn, 1) := by decide +kernel
theorem dX1_readers_0 : decode cX1_readers 0 = .ok (.iconst 0, 1) := by decide +kernel
theorem dX1_readers_1 : decode cX1_readers 1 = .ok (.istore_n 2, 1) := by decide +kernel
theorem dX1_readers_2 : decode cX1_readers 2 = .ok (.iconst 0, 1) := by decide +kernel
theorem dX1_readers_3 : decode cX1_readers 3 = .ok (.istore_n 3, 1) := by decide +kernel
theorem dX1_readers_4 : decode cX1_readers 4 = .ok (.iload_n 3, 1) := by decide +kernel
theorem dX1_readers_5 : decode cX1_readers 5 = .ok (.aload_n 0, 1) := by decide +kernel
theorem dX1_readers_6 : decode cX1_readers 6 = .ok (.getfield 9, 3) := by decide +kernel
theorem dX1_readers_9 : decode cX1_readers 9 = .ok (.iload_n 1, 1) := by decide +kernel
theorem dX1_readers_10 : decode cX1_readers 10 = .ok (.iaload, 1) := by decide +kernel
theorem dX1_readers_11 : decode cX1_readers 11 = .ok (.if_icmp .ge 20, 3) := by decide +kernel
theorem dX1_readers_14 : decode cX1_readers 14 = .ok (.iload_n 2, 1) := by decide +kernel
theorem dX1_readers_15 : decode cX1_readers 15 = .ok (.iconst 1, 1) := by decide +kernel
theorem dX1_readers_16 : decode cX1_readers 16 = .ok (.aload_n 0, 1) := by decide +kernel
theorem dX1_readers_17 : decode cX1_readers 17 = .ok (.iload_n 1, 1) := by decide +kernel
theorem dX1_readers_18 : decode cX1_readers 18 = .ok (.iload_n 3, 1) := by decide +kernel
theorem dX1_readers_19 : decode cX1_readers 19 = .ok (.invokevirtual 28, 3) := by decide +kernel
theorem dX1_readers_22 : decode cX1_readers 22 = .ok (.ishl, 1) := by decide +kernel
theorem dX1_readers_23 : decode cX1_readers 23 = .ok (.ior, 1) := by decide +kernel
theorem dX1_readers_24 : decode cX1_readers 24 = .ok (.istore_n 2, 1) := by decide +kernel
theorem dX1_readers_25 : decode cX1_readers 25 = .ok (.iinc 3 1, 3) := by decide +kernel
theorem dX1_readers_28 : decode cX1_readers 28 = .ok (.goto (-24), 3) := by decide +kernel
theorem dX1_readers_31 : decode cX1_readers 31 = .ok (.iload_n 2, 1) := by decide +kernel
theorem dX1_readers_32 : decode cX1_readers 32 = .ok (.ireturn, 1) := by decide +kernel
theorem dX1_take_0 : decode cX1_take 0 = .ok (.aload_n 1, 1) := by decide +kernel
theorem dX1_take_1 : decode cX1_take 1 = .ok (.getfield 9, 3) := by decide +kernel
theorem dX1_take_4 : decode cX1_take 4 = .ok (.iconst 0, 1) := by decide +kernel
theorem dX1_take_5 : decode cX1_take 5 = .ok (.aload_n 0, 1) := by decide +kernel
theorem dX1_take_6 : decode cX1_take 6 = .ok (.getfield 9, 3) := by decide +kernel
theorem dX1_take_9 : decode cX1_take 9 = .ok (.iconst 0, 1) := by decide +kernel
theorem dX1_take_10 : decode cX1_take 10 = .ok (.aload_n 0, 1) := by decide +kernel
theorem dX1_take_11 : decode cX1_take 11 = .ok (.getfield 9, 3) := by decide +kernel
theorem dX1_take_14 : decode cX1_take 14 = .ok (.arraylength, 1) := by decide +kernel
theorem dX1_take_15 : decode cX1_take 15 = .ok (.invokestatic 32, 3) := by decide +kernel
theorem dX1_take_18 : decode cX1_take 18 = .ok (.aload_n 1, 1) := by decide +kernel
theorem dX1_take_19 : decode cX1_take 19 = .ok (.getfield 15, 3) := by decide +kernel
theorem dX1_take_22 : decode cX1_take 22 = .ok (.iconst 0, 1) := by decide +kernel
theorem dX1_take_23 : decode cX1_take 23 = .ok (.aload_n 0, 1) := by decide +kernel
theorem dX1_take_24 : decode cX1_take 24 = .ok (.getfield 15, 3) := by decide +kernel
theorem dX1_take_27 : decode cX1_take 27 = .ok (.iconst 0, 1) := by decide +kernel
theorem dX1_take_28 : decode cX1_take 28 = .ok (.aload_n 0, 1) := by decide +kernel
theorem dX1_take_29 : decode cX1_take 29 = .ok (.getfield 15, 3) := by decide +kernel
theorem dX1_take_32 : decode cX1_take 32 = .ok (.arraylength, 1) := by decide +kernel
theorem dX1_take_33 : decode cX1_take 33 = .ok (.invokestatic 32, 3) := by decide +kernel
theorem dX1_take_36 : decode cX1_take 36 = .ok (.aload_n 1, 1) := by decide +kernel
theorem dX1_take_37 : decode cX1_take 37 = .ok (.getfield 18, 3) := by decide +kernel
theorem dX1_take_40 : decode cX1_take 40 = .ok (.iconst 0, 1) := by decide +kernel
theorem dX1_take_41 : decode cX1_take 41 = .ok (.aload_n 0, 1) := by decide +kernel
theorem dX1_take_42 : decode cX1_take 42 = .ok (.getfield 18, 3) := by decide +kernel
theorem dX1_take_45 : decode cX1_take 45 = .ok (.iconst 0, 1) := by decide +kernel
theorem dX1_take_46 : decode cX1_take 46 = .ok (.aload_n 0, 1) := by decide +kernel
theorem dX1_take_47 : decode cX1_take 47 = .ok (.getfield 18, 3) := by decide +kernel
theorem dX1_take_50 : decode cX1_take 50 = .ok (.arraylength, 1) := by decide +kernel
theorem dX1_take_51 : decode cX1_take 51 = .ok (.invokestatic 32, 3) := by decide +kernel
theorem dX1_take_54 : decode cX1_take 54 = .ok (.aload_n 1, 1) := by decide +kernel
theorem dX1_take_55 : decode cX1_take 55 = .ok (.getfield 21, 3) := by decide +kernel
theorem dX1_take_58 : decode cX1_take 58 = .ok (.iconst 0, 1) := by decide +kernel
theorem dX1_take_59 : decode cX1_take 59 = .ok (.aload_n 0, 1) := by decide +kernel
theorem dX1_take_60 : decode cX1_take 60 = .ok (.getfield 21, 3) := by decide +kernel
theorem dX1_take_63 : decode cX1_take 63 = .ok (.iconst 0, 1) := by decide +kernel
theorem dX1_take_64 : decode cX1_take 64 = .ok (.aload_n 0, 1) := by decide +kernel
theorem dX1_take_65 : decode cX1_take 65 = .ok (.getfield 21, 3) := by decide +kernel
theorem dX1_take_68 : decode cX1_take 68 = .ok (.arraylength, 1) := by decide +kernel
theorem dX1_take_69 : decode cX1_take 69 = .ok (.invokestatic 32, 3) := by decide +kernel
theorem dX1_take_72 : decode cX1_take 72 = .ok (.return_, 1) := by decide +kernel
theorem dX2_init_0 : decode cX2_init 0 = .ok (.aload_n 0, 1) := by decide +kernel
theorem dX2_init_1 : decode cX2_init 1 = .ok (.invokespecial 3, 3) := by decide +kernel
theorem dX2_init_4 : decode cX2_init 4 = .ok (.aload_n 0, 1) := by decide +kernel
theorem dX2_init_5 : decode cX2_init 5 = .ok (.bipush 12, 2) := by decide +kernel
theorem dX2_init_7 : decode cX2_init 7 = .ok (.newarray .int, 2) := by decide +kernel
theorem dX2_init_9 : decode cX2_init 9 = .ok (.putfield 9, 3) := by decide +kernel
theorem dX2_init_12 : decode cX2_init 12 = .ok (.return_, 1) := by decide +kernel
theorem dX2_clear_0 : decode cX2_clear 0 = .ok (.aload_n 0, 1) := by decide +kernel
theorem dX2_clear_1 : decode cX2_clear 1 = .ok (.iconst 0, 1) := by decide +kernel
theorem dX2_clear_2 : decode cX2_clear 2 = .ok (.putfield 15, 3) := by decide +kernel
theorem dX2_clear_5 : decode cX2_clear 5 = .ok (.return_, 1) := by decide +kernel
theorem dX2_add_0 : decode cX2_add 0 = .ok (.aload_n 0, 1) := by decide +kernel
theorem dX2_add_1 : decode cX2_add 1 = .ok (.getfield 15, 3) := by decide +kernel
theorem dX2_add_4 : decode cX2_add 4 = .ok (.bipush 12, 2) := by decide +kernel
theorem dX2_add_6 : decode cX2_add 6 = .ok (.if_icmp .ge 23, 3) := by decide +kernel
theorem dX2_add_9 : decode cX2_add 9 = .ok (.aload_n 0, 1) := by decide +kernel
theorem dX2_add_10 : decode cX2_add 10 = .ok (.getfield 9, 3) := by decide +kernel
theorem dX2_add_13 : decode cX2_add 13 = .ok (.aload_n 0, 1) := by decide +kernel
theorem dX2_add_14 : decode cX2_add 14 = .ok (.getfield 15, 3) := by decide +kernel
theorem dX2_add_17 : decode cX2_add 17 = .ok (.iload_n 1, 1) := by decide +kernel
theorem dX2_add_18 : decode cX2_add 18 = .ok (.iastore, 1) := by decide +kernel
theorem dX2_add_19 : decode cX2_add 19 = .ok (.aload_n 0, 1) := by decide +kernel
theorem dX2_add_20 : decode cX2_add 20 = .ok (.dup, 1) := by decide +kernel
theorem dX2_add_21 : decode cX2_add 21 = .ok (.getfield 15, 3) := by decide +kernel
theorem dX2_add_24 : decode cX2_add 24 = .ok (.iconst 1, 1) := by decide +kernel
theorem dX2_add_25 : decode cX2_add 25 = .ok (.iadd, 1) := by decide +kernel
theorem dX2_add_26 : decode cX2_add 26 = .ok (.putfield 15, 3) := by decide +kernel
theorem dX2_add_29 : decode cX2_add 29 = .ok (.return_, 1) := by decide +kernel
theorem dX2_take_0 : decode cX2_take 0 = .ok (.aload_n 1, 1) := by decide +kernel
theorem dX2_take_1 : decode cX2_take 1 = .ok (.getfield 9, 3) := by decide +kernel
theorem dX2_take_4 : decode cX2_take 4 = .ok (.iconst 0, 1) := by decide +kernel
theorem dX2_take_5 : decode cX2_take 5 = .ok (.aload_n 0, 1) := by decide +kernel
theorem dX2_take_6 : decode cX2_take 6 = .ok (.getfield 9, 3) := by decide +kernel
theorem dX2_take_9 : decode cX2_take 9 = .ok (.iconst 0, 1) := by decide +kernel
theorem dX2_take_10 : decode cX2_take 10 = .ok (.bipush 12, 2) := by decide +kernel
theorem dX2_take_12 : decode cX2_take 12 = .ok (.invokestatic 19, 3) := by decide +kernel
theorem dX2_take_15 : decode cX2_take 15 = .ok (.aload_n 0, 1) := by decide +kernel
theorem dX2_take_16 : decode cX2_take 16 = .ok (.aload_n 1, 1) := by decide +kernel
theorem dX2_take_17 : decode cX2_take 17 = .ok (.getfield 15, 3) := by decide +kernel
theorem dX2_take_20 : decode cX2_take 20 = .ok (.putfield 15, 3) := by decide +kernel
theorem dX2_take_23 : decode cX2_take 23 = .ok (.return_, 1) := by decide +kernel
theorem dX3_init_0 : decode cX3_init 0 = .ok (.aload_n 0, 1) := by decide +kernel
theorem dX3_init_1 : decode cX3_init 1 = .ok (.invokespecial 3, 3) := by decide +kernel
theorem dX3_init_4 : decode cX3_init 4 = .ok (.aload_n 0, 1) := by decide +kernel
theorem dX3_init_5 : decode cX3_init 5 = .ok (.bipush 9, 2) := by decide +kernel
theorem dX3_init_7 : decode cX3_init 7 = .ok (.newarray .int, 2) := by decide +kernel
theorem dX3_init_9 : decode cX3_init 9 = .ok (.putfield 9, 3) := by decide +kernel
theorem dX3_init_12 : decode cX3_init 12 = .ok (.aload_n 0, 1) := by decide +kernel
theorem dX3_init_13 : decode cX3_init 13 = .ok (.bipush 40, 2) := by decide +kernel
theorem dX3_init_15 : decode cX3_init 15 = .ok (.newarray .int, 2) := by decide +kernel
theorem dX3_init_17 : decode cX3_init 17 = .ok (.putfield 15, 3) := by decide +kernel
theorem dX3_init_20 : decode cX3_init 20 = .ok (.aload_n 0, 1) := by decide +kernel
theorem dX3_init_21 : decode cX3_init 21 = .ok (.bipush 40, 2) := by decide +kernel
theorem dX3_init_23 : decode cX3_init 23 = .ok (.newarray .long, 2) := by decide +kernel
theorem dX3_init_25 : decode cX3_init 25 = .ok (.putfield 18, 3) := by decide +kernel
theorem dX3_init_28 : decode cX3_init 28 = .ok (.aload_n 0, 1) := by decide +kernel
theorem dX3_init_29 : decode cX3_init 29 = .ok (.bipush 9, 2) := by decide +kernel
theorem dX3_init_31 : decode cX3_init 31 = .ok (.newarray .int, 2) := by decide +kernel
theorem dX3_init_33 : decode cX3_init 33 = .ok (.putfield 22, 3) := by decide +kernel
theorem dX3_init_36 : decode cX3_init 36 = .ok (.aload_n 0, 1) := by decide +kernel
theorem dX3_init_37 : decode cX3_init 37 = .ok (.aload_n 1, 1) := by decide +kernel
theorem dX3_init_38 : decode cX3_init 38 = .ok (.putfield 25, 3) := by decide +kernel
theorem dX3_init_41 : decode cX3_init 41 = .ok (.return_, 1) := by decide +kernel
theorem dX3_spread_0 : decode cX3_spread 0 = .ok (.iconst 0, 1) := by decide +kernel
theorem dX3_spread_1 : decode cX3_spread 1 = .ok (.istore 5, 2) := by decide +kernel
theorem dX3_spread_3 : decode cX3_spread 3 = .ok (.iload 5, 2) := by decide +kernel
theorem dX3_spread_5 : decode cX3_spread 5 = .ok (.aload_n 0, 1) := by decide +kernel
theorem dX3_spread_6 : decode cX3_spread 6 = .ok (.getfield 25, 3) := by decide +kernel
theorem dX3_spread_9 : decode cX3_spread 9 = .ok (.getfield 29, 3) := by decide +kernel
theorem dX3_spread_12 : decode cX3_spread 12 = .ok (.if_icmp .ge 17, 3) := by decide +kernel
theorem dX3_spread_15 : decode cX3_spread 15 = .ok (.aload_n 0, 1) := by decide +kernel
theorem dX3_spread_16 : decode cX3_spread 16 = .ok (.getfield 9, 3) := by decide +kernel
theorem dX3_spread_19 : decode cX3_spread 19 = .ok (.iload 5, 2) := by decide +kernel
theorem dX3_spread_21 : decode cX3_spread 21 = .ok (.iconst (-1), 1) := by decide +kernel
theorem dX3_spread_22 : decode cX3_spread 22 = .ok (.iastore, 1) := by decide +kernel
theorem dX3_spread_23 : decode cX3_spread 23 = .ok (.iinc 5 1, 3) := by decide +kernel
theorem dX3_spread_26 : decode cX3_spread 26 = .ok (.goto (-23), 3) := by decide +kernel
theorem dX3_spread_29 : decode cX3_spread 29 = .ok (.iconst 0, 1) := by decide +kernel
theorem dX3_spread_30 : decode cX3_spread 30 = .ok (.istore 5, 2) := by decide +kernel
theorem dX3_spread_32 : decode cX3_spread 32 = .ok (.iload 5, 2) := by decide +kernel
theorem dX3_spread_34 : decode cX3_spread 34 = .ok (.aload_n 0, 1) := by decide +kernel
theorem dX3_spread_35 : decode cX3_spread 35 = .ok (.getfield 25, 3) := by decide +kernel
theorem dX3_spread_38 : decode cX3_spread 38 = .ok (.getfield 35, 3) := by decide +kernel
theorem dX3_spread_41 : decode cX3_spread 41 = .ok (.if_icmp .ge 78, 3) := by decide +kernel
theorem dX3_spread_44 : decode cX3_spread 44 = .ok (.aload_n 0, 1) := by decide +kernel
theorem dX3_spread_45 : decode cX3_spread 45 = .ok (.getfield 25, 3) := by decide +kernel
theorem dX3_spread_48 : decode cX3_spread 48 = .ok (.getfield 38, 3) := by decide +kernel
theorem dX3_spread_51 : decode cX3_spread 51 = .ok (.iload 5, 2) := by decide +kernel
theorem dX3_spread_53 : decode cX3_spread 53 = .ok (.iaload, 1) := by decide +kernel
theorem dX3_spread_54 : decode cX3_spread 54 = .ok (.istore 6, 2) := by decide +kernel
theorem dX3_spread_56 : decode cX3_spread 56 = .ok (.iload 6, 2) := by decide +kernel
theorem dX3_spread_58 : decode cX3_spread 58 = .ok (.iload 4, 2) := by decide +kernel
theorem dX3_spread_60 : decode cX3_spread 60 = .ok (.if_icmp .eq 53, 3) := by decide +kernel
theorem dX3_spread_63 : decode cX3_spread 63 = .ok (.aload_n 0, 1) := by decide +kernel
theorem dX3_spread_64 : decode cX3_spread 64 = .ok (.getfield 25, 3) := by decide +kernel
theorem dX3_spread_67 : decode cX3_spread 67 = .ok (.getfield 41, 3) := by decide +kernel
theorem dX3_spread_70 : decode cX3_spread 70 = .ok (.iload 6, 2) := by decide +kernel
theorem dX3_spread_72 : decode cX3_spread 72 = .ok (.iaload, 1) := by decide +kernel
theorem dX3_spread_73 : decode cX3_spread 73 = .ok (.iload_n 2, 1) := by decide +kernel
theorem dX3_spread_74 : decode cX3_spread 74 = .ok (.if_icmp .lt 39, 3) := by decide +kernel
theorem dX3_spread_77 : decode cX3_spread 77 = .ok (.aload_n 0, 1) := by decide +kernel
theorem dX3_spread_78 : decode cX3_spread 78 = .ok (.iload 6, 2) := by decide +kernel
theorem dX3_spread_80 : decode cX3_spread 80 = .ok (.aload_n 0, 1) := by decide +kernel
theorem dX3_spread_81 : decode cX3_spread 81 = .ok (.getfield 25, 3) := by decide +kernel
theorem dX3_spread_84 : decode cX3_spread 84 = .ok (.getfield 44, 3) := by decide +kernel
theorem dX3_spread_87 : decode cX3_spread 87 = .ok (.iload 6, 2) := by decide +kernel
theorem dX3_spread_89 : decode cX3_spread 89 = .ok (.iaload, 1) := by decide +kernel
theorem dX3_spread_90 : decode cX3_spread 90 = .ok (.iload_n 1, 1) := by decide +kernel
theorem dX3_spread_91 : decode cX3_spread 91 = .ok (.iload_n 3, 1) := by decide +kernel
theorem dX3_spread_92 : decode cX3_spread 92 = .ok (.invokevirtual 47, 3) := by decide +kernel
theorem dX3_spread_95 : decode cX3_spread 95 = .ok (.aload_n 0, 1) := by decide +kernel
theorem dX3_spread_96 : decode cX3_spread 96 = .ok (.iload 6, 2) := by decide +kernel
theorem dX3_spread_98 : decode cX3_spread 98 = .ok (.aload_n 0, 1) := by decide +kernel
theorem dX3_spread_99 : decode cX3_spread 99 = .ok (.getfield 25, 3) := by decide +kernel
theorem dX3_spread_102 : decode cX3_spread 102 = .ok (.getfield 51, 3) := by decide +kernel
theorem dX3_spread_105 : decode cX3_spread 105 = .ok (.iload 6, 2) := by decide +kernel
theorem dX3_spread_107 : decode cX3_spread 107 = .ok (.iaload, 1) := by decide +kernel
theorem dX3_spread_108 : decode cX3_spread 108 = .ok (.iload_n 1, 1) := by decide +kernel
theorem dX3_spread_109 : decode cX3_spread 109 = .ok (.iload_n 3, 1) := by decide +kernel
theorem dX3_spread_110 : decode cX3_spread 110 = .ok (.invokevirtual 47, 3) := by decide +kernel
theorem dX3_spread_113 : decode cX3_spread 113 = .ok (.iinc 5 1, 3) := by decide +kernel
theorem dX3_spread_116 : decode cX3_spread 116 = .ok (.goto (-84), 3) := by decide +kernel
theorem dX3_spread_119 : decode cX3_spread 119 = .ok (.return_, 1) := by decide +kernel
theorem dX3_tell_0 : decode cX3_tell 0 = .ok (.aload_n 0, 1) := by decide +kernel
theorem dX3_tell_1 : decode cX3_tell 1 = .ok (.getfield 25, 3) := by decide +kernel
theorem dX3_tell_4 : decode cX3_tell 4 = .ok (.iload_n 1, 1) := by decide +kernel
theorem dX3_tell_5 : decode cX3_tell 5 = .ok (.iload_n 2, 1) := by decide +kernel
theorem dX3_tell_6 : decode cX3_tell 6 = .ok (.invokevirtual 54, 3) := by decide +kernel
theorem dX3_tell_9 : decode cX3_tell 9 = .ok (.istore 5, 2) := by decide +kernel
theorem dX3_tell_11 : decode cX3_tell 11 = .ok (.iload 4, 2) := by decide +kernel
theorem dX3_tell_13 : decode cX3_tell 13 = .ok (.iconst 1, 1) := by decide +kernel
theorem dX3_tell_14 : decode cX3_tell 14 = .ok (.iload_n 2, 1) := by decide +kernel
theorem dX3_tell_15 : decode cX3_tell 15 = .ok (.ishl, 1) := by decide +kernel
theorem dX3_tell_16 : decode cX3_tell 16 = .ok (.iand, 1) := by decide +kernel
theorem dX3_tell_17 : decode cX3_tell 17 = .ok (.ifCond .ne 7, 3) := by decide +kernel
theorem dX3_tell_20 : decode cX3_tell 20 = .ok (.iconst 1, 1) := by decide +kernel
theorem dX3_tell_21 : decode cX3_tell 21 = .ok (.goto 4, 3) := by decide +kernel
theorem dX3_tell_24 : decode cX3_tell 24 = .ok (.iconst 0, 1) := by decide +kernel
theorem dX3_tell_25 : decode cX3_tell 25 = .ok (.istore 6, 2) := by decide +kernel
theorem dX3_tell_27 : decode cX3_tell 27 = .ok (.aload_n 0, 1) := by decide +kernel
theorem dX3_tell_28 : decode cX3_tell 28 = .ok (.getfield 9, 3) := by decide +kernel
theorem dX3_tell_31 : decode cX3_tell 31 = .ok (.iload 5, 2) := by decide +kernel
theorem dX3_tell_33 : decode cX3_tell 33 = .ok (.iaload, 1) := by decide +kernel
theorem dX3_tell_34 : decode cX3_tell 34 = .ok (.iconst (-1), 1) := by decide +kernel
theorem dX3_tell_35 : decode cX3_tell 35 = .ok (.if_icmp .ne 46, 3) := by decide +kernel
theorem dX3_tell_38 : decode cX3_tell 38 = .ok (.iload_n 2, 1) := by decide +kernel
theorem dX3_tell_39 : decode cX3_tell 39 = .ok (.iload_n 3, 1) := by decide +kernel
theorem dX3_tell_40 : decode cX3_tell 40 = .ok (.if_icmp .eq 25, 3) := by decide +kernel
theorem dX3_tell_43 : decode cX3_tell 43 = .ok (.iload 6, 2) := by decide +kernel
theorem dX3_tell_45 : decode cX3_tell 45 = .ok (.ifCond .eq 36, 3) := by decide +kernel
theorem dX3_tell_48 : decode cX3_tell 48 = .ok (.aload_n 0, 1) := by decide +kernel
theorem dX3_tell_49 : decode cX3_tell 49 = .ok (.iload_n 2, 1) := by decide +kernel
theorem dX3_tell_50 : decode cX3_tell 50 = .ok (.aload_n 0, 1) := by decide +kernel
theorem dX3_tell_51 : decode cX3_tell 51 = .ok (.getfield 25, 3) := by decide +kernel
theorem dX3_tell_54 : decode cX3_tell 54 = .ok (.getfield 41, 3) := by decide +kernel
theorem dX3_tell_57 : decode cX3_tell 57 = .ok (.iload_n 1, 1) := by decide +kernel
theorem dX3_tell_58 : decode cX3_tell 58 = .ok (.iaload, 1) := by decide +kernel
theorem dX3_tell_59 : decode cX3_tell 59 = .ok (.invokevirtual 58, 3) := by decide +kernel
theorem dX3_tell_62 : decode cX3_tell 62 = .ok (.ifCond .eq 19, 3) := by decide +kernel
theorem dX3_tell_65 : decode cX3_tell 65 = .ok (.aload_n 0, 1) := by decide +kernel
theorem dX3_tell_66 : decode cX3_tell 66 = .ok (.getfield 9, 3) := by decide +kernel
theorem dX3_tell_69 : decode cX3_tell 69 = .ok (.iload 5, 2) := by decide +kernel
theorem dX3_tell_71 : decode cX3_tell 71 = .ok (.aload_n 0, 1) := by decide +kernel
theorem dX3_tell_72 : decode cX3_tell 72 = .ok (.getfield 25, 3) := by decide +kernel
theorem dX3_tell_75 : decode cX3_tell 75 = .ok (.getfield 41, 3) := by decide +kernel
theorem dX3_tell_78 : decode cX3_tell 78 = .ok (.iload_n 1, 1) := by decide +kernel
theorem dX3_tell_79 : decode cX3_tell 79 = .ok (.iaload, 1) := by decide +kernel
theorem dX3_tell_80 : decode cX3_tell 80 = .ok (.iastore, 1) := by decide +kernel
theorem dX3_tell_81 : decode cX3_tell 81 = .ok (.return_, 1) := by decide +kernel
theorem dX3_hasRead_0 : decode cX3_hasRead 0 = .ok (.aload_n 0, 1) := by decide +kernel
theorem dX3_hasRead_1 : decode cX3_hasRead 1 = .ok (.getfield 9, 3) := by decide +kernel
theorem dX3_hasRead_4 : decode cX3_hasRead 4 = .ok (.iload_n 1, 1) := by decide +kernel
theorem dX3_hasRead_5 : decode cX3_hasRead 5 = .ok (.iaload, 1) := by decide +kernel
theorem dX3_hasRead_6 : decode cX3_hasRead 6 = .ok (.iconst (-1), 1) := by decide +kernel
theorem dX3_hasRead_7 : decode cX3_hasRead 7 = .ok (.if_icmp .eq 27, 3) := by decide +kernel
theorem dX3_hasRead_10 : decode cX3_hasRead 10 = .ok (.aload_n 0, 1) := by decide +kernel
theorem dX3_hasRead_11 : decode cX3_hasRead 11 = .ok (.getfield 9, 3) := by decide +kernel
theorem dX3_hasRead_14 : decode cX3_hasRead 14 = .ok (.iload_n 1, 1) := by decide +kernel
theorem dX3_hasRead_15 : decode cX3_hasRead 15 = .ok (.iaload, 1) := by decide +kernel
theorem dX3_hasRead_16 : decode cX3_hasRead 16 = .ok (.aload_n 0, 1) := by decide +kernel
theorem dX3_hasRead_17 : decode cX3_hasRead 17 = .ok (.getfield 25, 3) := by decide +kernel
theorem dX3_hasRead_20 : decode cX3_hasRead 20 = .ok (.getfield 62, 3) := by decide +kernel
theorem dX3_hasRead_23 : decode cX3_hasRead 23 = .ok (.iload_n 1, 1) := by decide +kernel
theorem dX3_hasRead_24 : decode cX3_hasRead 24 = .ok (.iaload, 1) := by decide +kernel
theorem dX3_hasRead_25 : decode cX3_hasRead 25 = .ok (.iadd, 1) := by decide +kernel
theorem dX3_hasRead_26 : decode cX3_hasRead 26 = .ok (.iload_n 2, 1) := by decide +kernel
theorem dX3_hasRead_27 : decode cX3_hasRead 27 = .ok (.if_icmp .gt 7, 3) := by decide +kernel
theorem dX3_hasRead_30 : decode cX3_hasRead 30 = .ok (.iconst 1, 1) := by decide +kernel
theorem dX3_hasRead_31 : decode cX3_hasRead 31 = .ok (.goto 4, 3) := by decide +kernel
theorem dX3_hasRead_34 : decode cX3_hasRead 34 = .ok (.iconst 0, 1) := by decide +kernel
theorem dX3_hasRead_35 : decode cX3_hasRead 35 = .ok (.ireturn, 1) := by decide +kernel
theorem dX3_aim_0 : decode cX3_aim 0 = .ok (.aload_n 0, 1) := by decide +kernel
theorem dX3_aim_1 : decode cX3_aim 1 = .ok (.iload 4, 2) := by decide +kernel
theorem dX3_aim_3 : decode cX3_aim 3 = .ok (.putfield 65, 3) := by decide +kernel
theorem dX3_aim_6 : decode cX3_aim 6 = .ok (.aload_n 0, 1) := by decide +kernel
theorem dX3_aim_7 : decode cX3_aim 7 = .ok (.getfield 25, 3) := by decide +kernel
theorem dX3_aim_10 : decode cX3_aim 10 = .ok (.getfield 35, 3) := by decide +kernel
theorem dX3_aim_13 : decode cX3_aim 13 = .ok (.iconst 1, 1) := by decide +kernel
theorem dX3_aim_14 : decode cX3_aim 14 = .ok (.isub, 1) := by decide +kernel
theorem dX3_aim_15 : decode cX3_aim 15 = .ok (.istore 5, 2) := by decide +kernel
theorem dX3_aim_17 : decode cX3_aim 17 = .ok (.iload 5, 2) := by decide +kernel
theorem dX3_aim_19 : decode cX3_aim 19 = .ok (.ifCond .lt 65, 3) := by decide +kernel
theorem dX3_aim_22 : decode cX3_aim 22 = .ok (.aload_n 0, 1) := by decide +kernel
theorem dX3_aim_23 : decode cX3_aim 23 = .ok (.getfield 25, 3) := by decide +kernel
theorem dX3_aim_26 : decode cX3_aim 26 = .ok (.getfield 38, 3) := by decide +kernel
theorem dX3_aim_29 : decode cX3_aim 29 = .ok (.iload 5, 2) := by decide +kernel
theorem dX3_aim_31 : decode cX3_aim 31 = .ok (.iaload, 1) := by decide +kernel
theorem dX3_aim_32 : decode cX3_aim 32 = .ok (.istore 6, 2) := by decide +kernel
theorem dX3_aim_34 : decode cX3_aim 34 = .ok (.aload_n 0, 1) := by decide +kernel
theorem dX3_aim_35 : decode cX3_aim 35 = .ok (.getfield 15, 3) := by decide +kernel
theorem dX3_aim_38 : decode cX3_aim 38 = .ok (.iconst 2, 1) := by decide +kernel
theorem dX3_aim_39 : decode cX3_aim 39 = .ok (.iload 6, 2) := by decide +kernel
theorem dX3_aim_41 : decode cX3_aim 41 = .ok (.imul, 1) := by decide +kernel
theorem dX3_aim_42 : decode cX3_aim 42 = .ok (.aload_n 0, 1) := by decide +kernel
theorem dX3_aim_43 : decode cX3_aim 43 = .ok (.iconst 2, 1) := by decide +kernel
theorem dX3_aim_44 : decode cX3_aim 44 = .ok (.iload 6, 2) := by decide +kernel
theorem dX3_aim_46 : decode cX3_aim 46 = .ok (.imul, 1) := by decide +kernel
theorem dX3_aim_47 : decode cX3_aim 47 = .ok (.iload_n 1, 1) := by decide +kernel
theorem dX3_aim_48 : decode cX3_aim 48 = .ok (.iload_n 2, 1) := by decide +kernel
theorem dX3_aim_49 : decode cX3_aim 49 = .ok (.iload_n 3, 1) := by decide +kernel
theorem dX3_aim_50 : decode cX3_aim 50 = .ok (.invokevirtual 68, 3) := by decide +kernel
theorem dX3_aim_53 : decode cX3_aim 53 = .ok (.iastore, 1) := by decide +kernel
theorem dX3_aim_54 : decode cX3_aim 54 = .ok (.aload_n 0, 1) := by decide +kernel
theorem dX3_aim_55 : decode cX3_aim 55 = .ok (.getfield 15, 3) := by decide +kernel
theorem dX3_aim_58 : decode cX3_aim 58 = .ok (.iconst 2, 1) := by decide +kernel
theorem dX3_aim_59 : decode cX3_aim 59 = .ok (.iload 6, 2) := by decide +kernel
theorem dX3_aim_61 : decode cX3_aim 61 = .ok (.imul, 1) := by decide +kernel
theorem dX3_aim_62 : decode cX3_aim 62 = .ok (.iconst 1, 1) := by decide +kernel
theorem dX3_aim_63 : decode cX3_aim 63 = .ok (.iadd, 1) := by decide +kernel
theorem dX3_aim_64 : decode cX3_aim 64 = .ok (.aload_n 0, 1) := by decide +kernel
theorem dX3_aim_65 : decode cX3_aim 65 = .ok (.iconst 2, 1) := by decide +kernel
theorem dX3_aim_66 : decode cX3_aim 66 = .ok (.iload 6, 2) := by decide +kernel
theorem dX3_aim_68 : decode cX3_aim 68 = .ok (.imul, 1) := by decide +kernel
theorem dX3_aim_69 : decode cX3_aim 69 = .ok (.iconst 1, 1) := by decide +kernel
theorem dX3_aim_70 : decode cX3_aim 70 = .ok (.iadd, 1) := by decide +kernel
theorem dX3_aim_71 : decode cX3_aim 71 = .ok (.iload_n 1, 1) := by decide +kernel
theorem dX3_aim_72 : decode cX3_aim 72 = .ok (.iload_n 2, 1) := by decide +kernel
theorem dX3_aim_73 : decode cX3_aim 73 = .ok (.iload_n 3, 1) := by decide +kernel
theorem dX3_aim_74 : decode cX3_aim 74 = .ok (.invokevirtual 68, 3) := by decide +kernel
theorem dX3_aim_77 : decode cX3_aim 77 = .ok (.iastore, 1) := by decide +kernel
theorem dX3_aim_78 : decode cX3_aim 78 = .ok (.iinc 5 (-1), 3) := by decide +kernel
theorem dX3_aim_81 : decode cX3_aim 81 = .ok (.goto (-64), 3) := by decide +kernel
theorem dX3_aim_84 : decode cX3_aim 84 = .ok (.return_, 1) := by decide +kernel
theorem dX3_restAt_0 : decode cX3_restAt 0 = .ok (.aload_n 0, 1) := by decide +kernel
theorem dX3_restAt_1 : decode cX3_restAt 1 = .ok (.getfield 25, 3) := by decide +kernel
theorem dX3_restAt_4 : decode cX3_restAt 4 = .ok (.iload_n 1, 1) := by decide +kernel
theorem dX3_restAt_5 : decode cX3_restAt 5 = .ok (.invokevirtual 72, 3) := by decide +kernel
theorem dX3_restAt_8 : decode cX3_restAt 8 = .ok (.istore 5, 2) := by decide +kernel
theorem dX3_restAt_10 : decode cX3_restAt 10 = .ok (.iload 5, 2) := by decide +kernel
theorem dX3_restAt_12 : decode cX3_restAt 12 = .ok (.iload_n 2, 1) := by decide +kernel
theorem dX3_restAt_13 : decode cX3_restAt 13 = .ok (.if_icmp .ne 22, 3) := by decide +kernel
theorem dX3_restAt_16 : decode cX3_restAt 16 = .ok (.aload_n 0, 1) := by decide +kernel
theorem dX3_restAt_17 : decode cX3_restAt 17 = .ok (.getfield 25, 3) := by decide +kernel
theorem dX3_restAt_20 : decode cX3_restAt 20 = .ok (.getfield 41, 3) := by decide +kernel
theorem dX3_restAt_23 : decode cX3_restAt 23 = .ok (.iload_n 1, 1) := by decide +kernel
theorem dX3_restAt_24 : decode cX3_restAt 24 = .ok (.iconst 1, 1) := by decide +kernel
theorem dX3_restAt_25 : decode cX3_restAt 25 = .ok (.ishr, 1) := by decide +kernel
theorem dX3_restAt_26 : decode cX3_restAt 26 = .ok (.iaload, 1) := by decide +kernel
theorem dX3_restAt_27 : decode cX3_restAt 27 = .ok (.iload_n 3, 1) := by decide +kernel
theorem dX3_restAt_28 : decode cX3_restAt 28 = .ok (.if_icmp .gt 7, 3) := by decide +kernel
theorem dX3_restAt_31 : decode cX3_restAt 31 = .ok (.iconst 1, 1) := by decide +kernel
theorem dX3_restAt_32 : decode cX3_restAt 32 = .ok (.goto 4, 3) := by decide +kernel
theorem dX3_restAt_35 : decode cX3_restAt 35 = .ok (.iconst 0, 1) := by decide +kernel
theorem dX3_restAt_36 : decode cX3_restAt 36 = .ok (.istore 6, 2) := by decide +kernel
theorem dX3_restAt_38 : decode cX3_restAt 38 = .ok (.iload 6, 2) := by decide +kernel
theorem dX3_restAt_40 : decode cX3_restAt 40 = .ok (.ifCond .eq 7, 3) := by decide +kernel
theorem dX3_restAt_43 : decode cX3_restAt 43 = .ok (.iconst 0, 1) := by decide +kernel
theorem dX3_restAt_44 : decode cX3_restAt 44 = .ok (.goto 5, 3) := by decide +kernel
theorem dX3_restAt_47 : decode cX3_restAt 47 = .ok (.ldc 76, 2) := by decide +kernel
theorem dX3_restAt_49 : decode cX3_restAt 49 = .ok (.istore 7, 2) := by decide +kernel
theorem dX3_restAt_51 : decode cX3_restAt 51 = .ok (.iload 4, 2) := by decide +kernel
theorem dX3_restAt_53 : decode cX3_restAt 53 = .ok (.iconst 1, 1) := by decide +kernel
theorem dX3_restAt_54 : decode cX3_restAt 54 = .ok (.iload 5, 2) := by decide +kernel
theorem dX3_restAt_56 : decode cX3_restAt 56 = .ok (.ishl, 1) := by decide +kernel
theorem dX3_restAt_57 : decode cX3_restAt 57 = .ok (.iand, 1) := by decide +kernel
theorem dX3_restAt_58 : decode cX3_restAt 58 = .ok (.ifCond .eq 6, 3) := by decide +kernel
theorem dX3_restAt_61 : decode cX3_restAt 61 = .ok (.iload 7, 2) := by decide +kernel
theorem dX3_restAt_63 : decode cX3_restAt 63 = .ok (.ireturn, 1) := by decide +kernel
theorem dX3_restAt_64 : decode cX3_restAt 64 = .ok (.iload 7, 2) := by decide +kernel
theorem dX3_restAt_66 : decode cX3_restAt 66 = .ok (.aload_n 0, 1) := by decide +kernel
theorem dX3_restAt_67 : decode cX3_restAt 67 = .ok (.iload 5, 2) := by decide +kernel
theorem dX3_restAt_69 : decode cX3_restAt 69 = .ok (.aload_n 0, 1) := by decide +kernel
theorem dX3_restAt_70 : decode cX3_restAt 70 = .ok (.getfield 25, 3) := by decide +kernel
theorem dX3_restAt_73 : decode cX3_restAt 73 = .ok (.iload_n 1, 1) := by decide +kernel
theorem dX3_restAt_74 : decode cX3_restAt 74 = .ok (.invokevirtual 77, 3) := by decide +kernel
theorem dX3_restAt_77 : decode cX3_restAt 77 = .ok (.invokevirtual 80, 3) := by decide +kernel
theorem dX3_restAt_80 : decode cX3_restAt 80 = .ok (.invokestatic 83, 3) := by decide +kernel
theorem dX3_restAt_83 : decode cX3_restAt 83 = .ok (.ireturn, 1) := by decide +kernel
theorem dX3_leastFrom_0 : decode cX3_leastFrom 0 = .ok (.ldc 76, 2) := by decide +kernel
theorem dX3_leastFrom_2 : decode cX3_leastFrom 2 = .ok (.istore_n 3, 1) := by decide +kernel
theorem dX3_leastFrom_3 : decode cX3_leastFrom 3 = .ok (.iconst 0, 1) := by decide +kernel
theorem dX3_leastFrom_4 : decode cX3_leastFrom 4 = .ok (.istore 4, 2) := by decide +kernel
theorem dX3_leastFrom_6 : decode cX3_leastFrom 6 = .ok (.iload 4, 2) := by decide +kernel
theorem dX3_leastFrom_8 : decode cX3_leastFrom 8 = .ok (.aload_n 0, 1) := by decide +kernel
theorem dX3_leastFrom_9 : decode cX3_leastFrom 9 = .ok (.getfield 25, 3) := by decide +kernel
theorem dX3_leastFrom_12 : decode cX3_leastFrom 12 = .ok (.getfield 35, 3) := by decide +kernel
theorem dX3_leastFrom_15 : decode cX3_leastFrom 15 = .ok (.if_icmp .ge 22, 3) := by decide +kernel
theorem dX3_leastFrom_18 : decode cX3_leastFrom 18 = .ok (.iload_n 3, 1) := by decide +kernel
theorem dX3_leastFrom_19 : decode cX3_leastFrom 19 = .ok (.aload_n 0, 1) := by decide +kernel
theorem dX3_leastFrom_20 : decode cX3_leastFrom 20 = .ok (.iload 4, 2) := by decide +kernel
theorem dX3_leastFrom_22 : decode cX3_leastFrom 22 = .ok (.iload_n 1, 1) := by decide +kernel
theorem dX3_leastFrom_23 : decode cX3_leastFrom 23 = .ok (.iload_n 2, 1) := by decide +kernel
theorem dX3_leastFrom_24 : decode cX3_leastFrom 24 = .ok (.invokevirtual 88, 3) := by decide +kernel
theorem dX3_leastFrom_27 : decode cX3_leastFrom 27 = .ok (.invokestatic 83, 3) := by decide +kernel
theorem dX3_leastFrom_30 : decode cX3_leastFrom 30 = .ok (.istore_n 3, 1) := by decide +kernel
theorem dX3_leastFrom_31 : decode cX3_leastFrom 31 = .ok (.iinc 4 1, 3) := by decide +kernel
theorem dX3_leastFrom_34 : decode cX3_leastFrom 34 = .ok (.goto (-28), 3) := by decide +kernel
theorem dX3_leastFrom_37 : decode cX3_leastFrom 37 = .ok (.iload_n 3, 1) := by decide +kernel
theorem dX3_leastFrom_38 : decode cX3_leastFrom 38 = .ok (.ireturn, 1) := by decide +kernel
theorem dX3_weightBy_0 : decode cX3_weightBy 0 = .ok (.aload_n 0, 1) := by decide +kernel
theorem dX3_weightBy_1 : decode cX3_weightBy 1 = .ok (.getfield 25, 3) := by decide +kernel
theorem dX3_weightBy_4 : decode cX3_weightBy 4 = .ok (.iload_n 2, 1) := by decide +kernel
theorem dX3_weightBy_5 : decode cX3_weightBy 5 = .ok (.iload_n 1, 1) := by decide +kernel
theorem dX3_weightBy_6 : decode cX3_weightBy 6 = .ok (.invokevirtual 92, 3) := by decide +kernel
theorem dX3_weightBy_9 : decode cX3_weightBy 9 = .ok (.ifCond .eq 16, 3) := by decide +kernel
theorem dX3_weightBy_12 : decode cX3_weightBy 12 = .ok (.aload_n 0, 1) := by decide +kernel
theorem dX3_weightBy_13 : decode cX3_weightBy 13 = .ok (.getfield 25, 3) := by decide +kernel
theorem dX3_weightBy_16 : decode cX3_weightBy 16 = .ok (.getfield 41, 3) := by decide +kernel
theorem dX3_weightBy_19 : decode cX3_weightBy 19 = .ok (.iload_n 1, 1) := by decide +kernel
theorem dX3_weightBy_20 : decode cX3_weightBy 20 = .ok (.iaload, 1) := by decide +kernel
theorem dX3_weightBy_21 : decode cX3_weightBy 21 = .ok (.iload_n 3, 1) := by decide +kernel
theorem dX3_weightBy_22 : decode cX3_weightBy 22 = .ok (.if_icmp .ge 6, 3) := by decide +kernel
theorem dX3_weightBy_25 : decode cX3_weightBy 25 = .ok (.ldc 76, 2) := by decide +kernel
theorem dX3_weightBy_27 : decode cX3_weightBy 27 = .ok (.ireturn, 1) := by decide +kernel
theorem dX3_weightBy_28 : decode cX3_weightBy 28 = .ok (.aload_n 0, 1) := by decide +kernel
theorem dX3_weightBy_29 : decode cX3_weightBy 29 = .ok (.getfield 15, 3) := by decide +kernel
theorem dX3_weightBy_32 : decode cX3_weightBy 32 = .ok (.aload_n 0, 1) := by decide +kernel
theorem dX3_weightBy_33 : decode cX3_weightBy 33 = .ok (.getfield 25, 3) := by decide +kernel
theorem dX3_weightBy_36 : decode cX3_weightBy 36 = .ok (.iload_n 1, 1) := by decide +kernel
theorem dX3_weightBy_37 : decode cX3_weightBy 37 = .ok (.aload_n 0, 1) := by decide +kernel
theorem dX3_weightBy_38 : decode cX3_weightBy 38 = .ok (.getfield 25, 3) := by decide +kernel
theorem dX3_weightBy_41 : decode cX3_weightBy 41 = .ok (.iload_n 1, 1) := by decide +kernel
theorem dX3_weightBy_42 : decode cX3_weightBy 42 = .ok (.iload_n 2, 1) := by decide +kernel
theorem dX3_weightBy_43 : decode cX3_weightBy 43 = .ok (.invokevirtual 54, 3) := by decide +kernel
theorem dX3_weightBy_46 : decode cX3_weightBy 46 = .ok (.invokevirtual 95, 3) := by decide +kernel
theorem dX3_weightBy_49 : decode cX3_weightBy 49 = .ok (.iaload, 1) := by decide +kernel
theorem dX3_weightBy_50 : decode cX3_weightBy 50 = .ok (.istore 4, 2) := by decide +kernel
theorem dX3_weightBy_52 : decode cX3_weightBy 52 = .ok (.iload 4, 2) := by decide +kernel
theorem dX3_weightBy_54 : decode cX3_weightBy 54 = .ok (.ldc 76, 2) := by decide +kernel
theorem dX3_weightBy_56 : decode cX3_weightBy 56 = .ok (.if_icmp .ne 8, 3) := by decide +kernel
theorem dX3_weightBy_59 : decode cX3_weightBy 59 = .ok (.ldc 76, 2) := by decide +kernel
theorem dX3_weightBy_61 : decode cX3_weightBy 61 = .ok (.goto 11, 3) := by decide +kernel
theorem dX3_weightBy_64 : decode cX3_weightBy 64 = .ok (.iload 4, 2) := by decide +kernel
theorem dX3_weightBy_66 : decode cX3_weightBy 66 = .ok (.aload_n 0, 1) := by decide +kernel
theorem dX3_weightBy_67 : decode cX3_weightBy 67 = .ok (.iload_n 1, 1) := by decide +kernel
theorem dX3_weightBy_68 : decode cX3_weightBy 68 = .ok (.invokevirtual 98, 3) := by decide +kernel
theorem dX3_weightBy_71 : decode cX3_weightBy 71 = .ok (.iadd, 1) := by decide +kernel
theorem dX3_weightBy_72 : decode cX3_weightBy 72 = .ok (.ireturn, 1) := by decide +kernel
theorem dX3_weightOf_0 : decode cX3_weightOf 0 = .ok (.aload_n 0, 1) := by decide +kernel
theorem dX3_weightOf_1 : decode cX3_weightOf 1 = .ok (.getfield 65, 3) := by decide +kernel
theorem dX3_weightOf_4 : decode cX3_weightOf 4 = .ok (.iconst 1, 1) := by decide +kernel
theorem dX3_weightOf_5 : decode cX3_weightOf 5 = .ok (.if_icmp .ne 18, 3) := by decide +kernel
theorem dX3_weightOf_8 : decode cX3_weightOf 8 = .ok (.bipush 32, 2) := by decide +kernel
theorem dX3_weightOf_10 : decode cX3_weightOf 10 = .ok (.aload_n 0, 1) := by decide +kernel
theorem dX3_weightOf_11 : decode cX3_weightOf 11 = .ok (.getfield 25, 3) := by decide +kernel
theorem dX3_weightOf_14 : decode cX3_weightOf 14 = .ok (.getfield 101, 3) := by decide +kernel
theorem dX3_weightOf_17 : decode cX3_weightOf 17 = .ok (.iload_n 1, 1) := by decide +kernel
theorem dX3_weightOf_18 : decode cX3_weightOf 18 = .ok (.iaload, 1) := by decide +kernel
theorem dX3_weightOf_19 : decode cX3_weightOf 19 = .ok (.imul, 1) := by decide +kernel
theorem dX3_weightOf_20 : decode cX3_weightOf 20 = .ok (.iconst 1, 1) := by decide +kernel
theorem dX3_weightOf_21 : decode cX3_weightOf 21 = .ok (.iadd, 1) := by decide +kernel
theorem dX3_weightOf_22 : decode cX3_weightOf 22 = .ok (.ireturn, 1) := by decide +kernel
theorem dX3_weightOf_23 : decode cX3_weightOf 23 = .ok (.aload_n 0, 1) := by decide +kernel
theorem dX3_weightOf_24 : decode cX3_weightOf 24 = .ok (.getfield 65, 3) := by decide +kernel
theorem dX3_weightOf_27 : decode cX3_weightOf 27 = .ok (.iconst 2, 1) := by decide +kernel
theorem dX3_weightOf_28 : decode cX3_weightOf 28 = .ok (.if_icmp .ne 7, 3) := by decide +kernel
theorem dX3_weightOf_31 : decode cX3_weightOf 31 = .ok (.iconst (-1), 1) := by decide +kernel
theorem dX3_weightOf_32 : decode cX3_weightOf 32 = .ok (.goto 4, 3) := by decide +kernel
theorem dX3_weightOf_35 : decode cX3_weightOf 35 = .ok (.iconst 1, 1) := by decide +kernel
theorem dX3_weightOf_36 : decode cX3_weightOf 36 = .ok (.ireturn, 1) := by decide +kernel
theorem dX3_traceFrom_0 : decode cX3_traceFrom 0 = .ok (.aload_n 0, 1) := by decide +kernel
theorem dX3_traceFrom_1 : decode cX3_traceFrom 1 = .ok (.iload_n 1, 1) := by decide +kernel
theorem dX3_traceFrom_2 : decode cX3_traceFrom 2 = .ok (.iload_n 2, 1) := by decide +kernel
theorem dX3_traceFrom_3 : decode cX3_traceFrom 3 = .ok (.invokevirtual 80, 3) := by decide +kernel
theorem dX3_traceFrom_6 : decode cX3_traceFrom 6 = .ok (.istore 4, 2) := by decide +kernel
theorem dX3_traceFrom_8 : decode cX3_traceFrom 8 = .ok (.iload 4, 2) := by decide +kernel
theorem dX3_traceFrom_10 : decode cX3_traceFrom 10 = .ok (.ldc 76, 2) := by decide +kernel
theorem dX3_traceFrom_12 : decode cX3_traceFrom 12 = .ok (.if_icmp .ne 6, 3) := by decide +kernel
theorem dX3_traceFrom_15 : decode cX3_traceFrom 15 = .ok (.bipush (-2), 2) := by decide +kernel
theorem dX3_traceFrom_17 : decode cX3_traceFrom 17 = .ok (.ireturn, 1) := by decide +kernel
theorem dX3_traceFrom_18 : decode cX3_traceFrom 18 = .ok (.iload 4, 2) := by decide +kernel
theorem dX3_traceFrom_20 : decode cX3_traceFrom 20 = .ok (.istore 5, 2) := by decide +kernel
theorem dX3_traceFrom_22 : decode cX3_traceFrom 22 = .ok (.iload_n 1, 1) := by decide +kernel
theorem dX3_traceFrom_23 : decode cX3_traceFrom 23 = .ok (.istore 6, 2) := by decide +kernel
theorem dX3_traceFrom_25 : decode cX3_traceFrom 25 = .ok (.iload_n 2, 1) := by decide +kernel
theorem dX3_traceFrom_26 : decode cX3_traceFrom 26 = .ok (.istore 7, 2) := by decide +kernel
theorem dX3_traceFrom_28 : decode cX3_traceFrom 28 = .ok (.aload_n 3, 1) := by decide +kernel
theorem dX3_traceFrom_29 : decode cX3_traceFrom 29 = .ok (.invokevirtual 104, 3) := by decide +kernel
theorem dX3_traceFrom_32 : decode cX3_traceFrom 32 = .ok (.iconst 0, 1) := by decide +kernel
theorem dX3_traceFrom_33 : decode cX3_traceFrom 33 = .ok (.istore 8, 2) := by decide +kernel
theorem dX3_traceFrom_35 : decode cX3_traceFrom 35 = .ok (.iload 8, 2) := by decide +kernel
theorem dX3_traceFrom_37 : decode cX3_traceFrom 37 = .ok (.aload_n 0, 1) := by decide +kernel
theorem dX3_traceFrom_38 : decode cX3_traceFrom 38 = .ok (.getfield 25, 3) := by decide +kernel
theorem dX3_traceFrom_41 : decode cX3_traceFrom 41 = .ok (.getfield 35, 3) := by decide +kernel
theorem dX3_traceFrom_44 : decode cX3_traceFrom 44 = .ok (.if_icmp .ge 85, 3) := by decide +kernel
theorem dX3_traceFrom_47 : decode cX3_traceFrom 47 = .ok (.iload 4, 2) := by decide +kernel
theorem dX3_traceFrom_49 : decode cX3_traceFrom 49 = .ok (.ifCond .eq 80, 3) := by decide +kernel
theorem dX3_traceFrom_52 : decode cX3_traceFrom 52 = .ok (.aload_n 0, 1) := by decide +kernel
theorem dX3_traceFrom_53 : decode cX3_traceFrom 53 = .ok (.iload 6, 2) := by decide +kernel
theorem dX3_traceFrom_55 : decode cX3_traceFrom 55 = .ok (.iload 7, 2) := by decide +kernel
theorem dX3_traceFrom_57 : decode cX3_traceFrom 57 = .ok (.iload 4, 2) := by decide +kernel
theorem dX3_traceFrom_59 : decode cX3_traceFrom 59 = .ok (.invokevirtual 109, 3) := by decide +kernel
theorem dX3_traceFrom_62 : decode cX3_traceFrom 62 = .ok (.istore 9, 2) := by decide +kernel
theorem dX3_traceFrom_64 : decode cX3_traceFrom 64 = .ok (.iload 9, 2) := by decide +kernel
theorem dX3_traceFrom_66 : decode cX3_traceFrom 66 = .ok (.iconst (-1), 1) := by decide +kernel
theorem dX3_traceFrom_67 : decode cX3_traceFrom 67 = .ok (.if_icmp .ne 6, 3) := by decide +kernel
theorem dX3_traceFrom_70 : decode cX3_traceFrom 70 = .ok (.goto 59, 3) := by decide +kernel
theorem dX3_traceFrom_73 : decode cX3_traceFrom 73 = .ok (.aload_n 3, 1) := by decide +kernel
theorem dX3_traceFrom_74 : decode cX3_traceFrom 74 = .ok (.iload 9, 2) := by decide +kernel
theorem dX3_traceFrom_76 : decode cX3_traceFrom 76 = .ok (.invokevirtual 112, 3) := by decide +kernel
theorem dX3_traceFrom_79 : decode cX3_traceFrom 79 = .ok (.aload_n 0, 1) := by decide +kernel
theorem dX3_traceFrom_80 : decode cX3_traceFrom 80 = .ok (.getfield 25, 3) := by decide +kernel
theorem dX3_traceFrom_83 : decode cX3_traceFrom 83 = .ok (.iload 9, 2) := by decide +kernel
theorem dX3_traceFrom_85 : decode cX3_traceFrom 85 = .ok (.iload 6, 2) := by decide +kernel
theorem dX3_traceFrom_87 : decode cX3_traceFrom 87 = .ok (.invokevirtual 54, 3) := by decide +kernel
theorem dX3_traceFrom_90 : decode cX3_traceFrom 90 = .ok (.istore 6, 2) := by decide +kernel
theorem dX3_traceFrom_92 : decode cX3_traceFrom 92 = .ok (.aload_n 0, 1) := by decide +kernel
theorem dX3_traceFrom_93 : decode cX3_traceFrom 93 = .ok (.getfield 25, 3) := by decide +kernel
theorem dX3_traceFrom_96 : decode cX3_traceFrom 96 = .ok (.aload_n 0, 1) := by decide +kernel
theorem dX3_traceFrom_97 : decode cX3_traceFrom 97 = .ok (.getfield 25, 3) := by decide +kernel
theorem dX3_traceFrom_100 : decode cX3_traceFrom 100 = .ok (.iload 9, 2) := by decide +kernel
theorem dX3_traceFrom_102 : decode cX3_traceFrom 102 = .ok (.iload 6, 2) := by decide +kernel
theorem dX3_traceFrom_104 : decode cX3_traceFrom 104 = .ok (.invokevirtual 95, 3) := by decide +kernel
theorem dX3_traceFrom_107 : decode cX3_traceFrom 107 = .ok (.invokevirtual 77, 3) := by decide +kernel
theorem dX3_traceFrom_110 : decode cX3_traceFrom 110 = .ok (.istore 7, 2) := by decide +kernel
theorem dX3_traceFrom_112 : decode cX3_traceFrom 112 = .ok (.iload 4, 2) := by decide +kernel
theorem dX3_traceFrom_114 : decode cX3_traceFrom 114 = .ok (.aload_n 0, 1) := by decide +kernel
theorem dX3_traceFrom_115 : decode cX3_traceFrom 115 = .ok (.iload 9, 2) := by decide +kernel
theorem dX3_traceFrom_117 : decode cX3_traceFrom 117 = .ok (.invokevirtual 98, 3) := by decide +kernel
theorem dX3_traceFrom_120 : decode cX3_traceFrom 120 = .ok (.isub, 1) := by decide +kernel
theorem dX3_traceFrom_121 : decode cX3_traceFrom 121 = .ok (.istore 4, 2) := by decide +kernel
theorem dX3_traceFrom_123 : decode cX3_traceFrom 123 = .ok (.iinc 8 1, 3) := by decide +kernel
theorem dX3_traceFrom_126 : decode cX3_traceFrom 126 = .ok (.goto (-91), 3) := by decide +kernel
theorem dX3_traceFrom_129 : decode cX3_traceFrom 129 = .ok (.aload_n 0, 1) := by decide +kernel
theorem dX3_traceFrom_130 : decode cX3_traceFrom 130 = .ok (.iload 5, 2) := by decide +kernel
theorem dX3_traceFrom_132 : decode cX3_traceFrom 132 = .ok (.invokevirtual 116, 3) := by decide +kernel
theorem dX3_traceFrom_135 : decode cX3_traceFrom 135 = .ok (.ireturn, 1) := by decide +kernel
theorem dX3_stepFrom_0 : decode cX3_stepFrom 0 = .ok (.iconst 0, 1) := by decide +kernel
theorem dX3_stepFrom_1 : decode cX3_stepFrom 1 = .ok (.istore 4, 2) := by decide +kernel
theorem dX3_stepFrom_3 : decode cX3_stepFrom 3 = .ok (.iload 4, 2) := by decide +kernel
theorem dX3_stepFrom_5 : decode cX3_stepFrom 5 = .ok (.aload_n 0, 1) := by decide +kernel
theorem dX3_stepFrom_6 : decode cX3_stepFrom 6 = .ok (.getfield 25, 3) := by decide +kernel
theorem dX3_stepFrom_9 : decode cX3_stepFrom 9 = .ok (.getfield 35, 3) := by decide +kernel
theorem dX3_stepFrom_12 : decode cX3_stepFrom 12 = .ok (.if_icmp .ge 24, 3) := by decide +kernel
theorem dX3_stepFrom_15 : decode cX3_stepFrom 15 = .ok (.aload_n 0, 1) := by decide +kernel
theorem dX3_stepFrom_16 : decode cX3_stepFrom 16 = .ok (.iload 4, 2) := by decide +kernel
theorem dX3_stepFrom_18 : decode cX3_stepFrom 18 = .ok (.iload_n 1, 1) := by decide +kernel
theorem dX3_stepFrom_19 : decode cX3_stepFrom 19 = .ok (.iload_n 2, 1) := by decide +kernel
theorem dX3_stepFrom_20 : decode cX3_stepFrom 20 = .ok (.invokevirtual 88, 3) := by decide +kernel
theorem dX3_stepFrom_23 : decode cX3_stepFrom 23 = .ok (.iload_n 3, 1) := by decide +kernel
theorem dX3_stepFrom_24 : decode cX3_stepFrom 24 = .ok (.if_icmp .ne 6, 3) := by decide +kernel
theorem dX3_stepFrom_27 : decode cX3_stepFrom 27 = .ok (.iload 4, 2) := by decide +kernel
theorem dX3_stepFrom_29 : decode cX3_stepFrom 29 = .ok (.ireturn, 1) := by decide +kernel
theorem dX3_stepFrom_30 : decode cX3_stepFrom 30 = .ok (.iinc 4 1, 3) := by decide +kernel
theorem dX3_stepFrom_33 : decode cX3_stepFrom 33 = .ok (.goto (-30), 3) := by decide +kernel
theorem dX3_stepFrom_36 : decode cX3_stepFrom 36 = .ok (.iconst (-1), 1) := by decide +kernel
theorem dX3_stepFrom_37 : decode cX3_stepFrom 37 = .ok (.ireturn, 1) := by decide +kernel
theorem dX3_measured_0 : decode cX3_measured 0 = .ok (.aload_n 0, 1) := by decide +kernel
theorem dX3_measured_1 : decode cX3_measured 1 = .ok (.getfield 65, 3) := by decide +kernel
theorem dX3_measured_4 : decode cX3_measured 4 = .ok (.iconst 1, 1) := by decide +kernel
theorem dX3_measured_5 : decode cX3_measured 5 = .ok (.if_icmp .ne 8, 3) := by decide +kernel
theorem dX3_measured_8 : decode cX3_measured 8 = .ok (.iload_n 1, 1) := by decide +kernel
theorem dX3_measured_9 : decode cX3_measured 9 = .ok (.bipush 32, 2) := by decide +kernel
theorem dX3_measured_11 : decode cX3_measured 11 = .ok (.idiv, 1) := by decide +kernel
theorem dX3_measured_12 : decode cX3_measured 12 = .ok (.ireturn, 1) := by decide +kernel
theorem dX3_measured_13 : decode cX3_measured 13 = .ok (.aload_n 0, 1) := by decide +kernel
theorem dX3_measured_14 : decode cX3_measured 14 = .ok (.getfield 65, 3) := by decide +kernel
theorem dX3_measured_17 : decode cX3_measured 17 = .ok (.iconst 2, 1) := by decide +kernel
theorem dX3_measured_18 : decode cX3_measured 18 = .ok (.if_icmp .ne 8, 3) := by decide +kernel
theorem dX3_measured_21 : decode cX3_measured 21 = .ok (.iload_n 1, 1) := by decide +kernel
theorem dX3_measured_22 : decode cX3_measured 22 = .ok (.ineg, 1) := by decide +kernel
theorem dX3_measured_23 : decode cX3_measured 23 = .ok (.goto 4, 3) := by decide +kernel
theorem dX3_measured_26 : decode cX3_measured 26 = .ok (.iload_n 1, 1) := by decide +kernel
theorem dX3_measured_27 : decode cX3_measured 27 = .ok (.ireturn, 1) := by decide +kernel
theorem dX3_latestStart_0 : decode cX3_latestStart 0 = .ok (.aload_n 0, 1) := by decide +kernel
theorem dX3_latestStart_1 : decode cX3_latestStart 1 = .ok (.iload_n 2, 1) := by decide +kernel
theorem dX3_latestStart_2 : decode cX3_latestStart 2 = .ok (.iload_n 3, 1) := by decide +kernel
theorem dX3_latestStart_3 : decode cX3_latestStart 3 = .ok (.iconst 0, 1) := by decide +kernel
theorem dX3_latestStart_4 : decode cX3_latestStart 4 = .ok (.iconst 0, 1) := by decide +kernel
theorem dX3_latestStart_5 : decode cX3_latestStart 5 = .ok (.invokevirtual 119, 3) := by decide +kernel
theorem dX3_latestStart_8 : decode cX3_latestStart 8 = .ok (.bipush (-2), 2) := by decide +kernel
theorem dX3_latestStart_10 : decode cX3_latestStart 10 = .ok (.istore 4, 2) := by decide +kernel
theorem dX3_latestStart_12 : decode cX3_latestStart 12 = .ok (.iconst 0, 1) := by decide +kernel
theorem dX3_latestStart_13 : decode cX3_latestStart 13 = .ok (.istore 5, 2) := by decide +kernel
theorem dX3_latestStart_15 : decode cX3_latestStart 15 = .ok (.iload 5, 2) := by decide +kernel
theorem dX3_latestStart_17 : decode cX3_latestStart 17 = .ok (.aload_n 0, 1) := by decide +kernel
theorem dX3_latestStart_18 : decode cX3_latestStart 18 = .ok (.getfield 25, 3) := by decide +kernel
theorem dX3_latestStart_21 : decode cX3_latestStart 21 = .ok (.getfield 35, 3) := by decide +kernel
theorem dX3_latestStart_24 : decode cX3_latestStart 24 = .ok (.if_icmp .ge 39, 3) := by decide +kernel
theorem dX3_latestStart_27 : decode cX3_latestStart 27 = .ok (.aload_n 0, 1) := by decide +kernel
theorem dX3_latestStart_28 : decode cX3_latestStart 28 = .ok (.iload 5, 2) := by decide +kernel
theorem dX3_latestStart_30 : decode cX3_latestStart 30 = .ok (.iload_n 1, 1) := by decide +kernel
theorem dX3_latestStart_31 : decode cX3_latestStart 31 = .ok (.iconst 0, 1) := by decide +kernel
theorem dX3_latestStart_32 : decode cX3_latestStart 32 = .ok (.invokevirtual 88, 3) := by decide +kernel
theorem dX3_latestStart_35 : decode cX3_latestStart 35 = .ok (.ldc 76, 2) := by decide +kernel
theorem dX3_latestStart_37 : decode cX3_latestStart 37 = .ok (.if_icmp .eq 20, 3) := by decide +kernel
theorem dX3_latestStart_40 : decode cX3_latestStart 40 = .ok (.iload 4, 2) := by decide +kernel
theorem dX3_latestStart_42 : decode cX3_latestStart 42 = .ok (.aload_n 0, 1) := by decide +kernel
theorem dX3_latestStart_43 : decode cX3_latestStart 43 = .ok (.getfield 25, 3) := by decide +kernel
theorem dX3_latestStart_46 : decode cX3_latestStart 46 = .ok (.getfield 41, 3) := by decide +kernel
theorem dX3_latestStart_49 : decode cX3_latestStart 49 = .ok (.iload 5, 2) := by decide +kernel
theorem dX3_latestStart_51 : decode cX3_latestStart 51 = .ok (.iaload, 1) := by decide +kernel
theorem dX3_latestStart_52 : decode cX3_latestStart 52 = .ok (.invokestatic 122, 3) := by decide +kernel
theorem dX3_latestStart_55 : decode cX3_latestStart 55 = .ok (.istore 4, 2) := by decide +kernel
theorem dX3_latestStart_57 : decode cX3_latestStart 57 = .ok (.iinc 5 1, 3) := by decide +kernel
theorem dX3_latestStart_60 : decode cX3_latestStart 60 = .ok (.goto (-45), 3) := by decide +kernel
theorem dX3_latestStart_63 : decode cX3_latestStart 63 = .ok (.iload 4, 2) := by decide +kernel
theorem dX3_latestStart_65 : decode cX3_latestStart 65 = .ok (.ireturn, 1) := by decide +kernel
theorem dX3_countWays_0 : decode cX3_countWays 0 = .ok (.aload_n 0, 1) := by decide +kernel
theorem dX3_countWays_1 : decode cX3_countWays 1 = .ok (.getfield 25, 3) := by decide +kernel
theorem dX3_countWays_4 : decode cX3_countWays 4 = .ok (.getfield 35, 3) := by decide +kernel
theorem dX3_countWays_7 : decode cX3_countWays 7 = .ok (.iconst 1, 1) := by decide +kernel
theorem dX3_countWays_8 : decode cX3_countWays 8 = .ok (.isub, 1) := by decide +kernel
theorem dX3_countWays_9 : decode cX3_countWays 9 = .ok (.istore 4, 2) := by decide +kernel
theorem dX3_countWays_11 : decode cX3_countWays 11 = .ok (.iload 4, 2) := by decide +kernel
theorem dX3_countWays_13 : decode cX3_countWays 13 = .ok (.ifCond .lt 61, 3) := by decide +kernel
theorem dX3_countWays_16 : decode cX3_countWays 16 = .ok (.aload_n 0, 1) := by decide +kernel
theorem dX3_countWays_17 : decode cX3_countWays 17 = .ok (.getfield 25, 3) := by decide +kernel
theorem dX3_countWays_20 : decode cX3_countWays 20 = .ok (.getfield 38, 3) := by decide +kernel
theorem dX3_countWays_23 : decode cX3_countWays 23 = .ok (.iload 4, 2) := by decide +kernel
theorem dX3_countWays_25 : decode cX3_countWays 25 = .ok (.iaload, 1) := by decide +kernel
theorem dX3_countWays_26 : decode cX3_countWays 26 = .ok (.istore 5, 2) := by decide +kernel
theorem dX3_countWays_28 : decode cX3_countWays 28 = .ok (.aload_n 0, 1) := by decide +kernel
theorem dX3_countWays_29 : decode cX3_countWays 29 = .ok (.getfield 18, 3) := by decide +kernel
theorem dX3_countWays_32 : decode cX3_countWays 32 = .ok (.iconst 2, 1) := by decide +kernel
theorem dX3_countWays_33 : decode cX3_countWays 33 = .ok (.iload 5, 2) := by decide +kernel
theorem dX3_countWays_35 : decode cX3_countWays 35 = .ok (.imul, 1) := by decide +kernel
theorem dX3_countWays_36 : decode cX3_countWays 36 = .ok (.aload_n 0, 1) := by decide +kernel
theorem dX3_countWays_37 : decode cX3_countWays 37 = .ok (.iconst 2, 1) := by decide +kernel
theorem dX3_countWays_38 : decode cX3_countWays 38 = .ok (.iload 5, 2) := by decide +kernel
theorem dX3_countWays_40 : decode cX3_countWays 40 = .ok (.imul, 1) := by decide +kernel
theorem dX3_countWays_41 : decode cX3_countWays 41 = .ok (.iload_n 2, 1) := by decide +kernel
theorem dX3_countWays_42 : decode cX3_countWays 42 = .ok (.invokevirtual 125, 3) := by decide +kernel
theorem dX3_countWays_45 : decode cX3_countWays 45 = .ok (.lastore, 1) := by decide +kernel
theorem dX3_countWays_46 : decode cX3_countWays 46 = .ok (.aload_n 0, 1) := by decide +kernel
theorem dX3_countWays_47 : decode cX3_countWays 47 = .ok (.getfield 18, 3) := by decide +kernel
theorem dX3_countWays_50 : decode cX3_countWays 50 = .ok (.iconst 2, 1) := by decide +kernel
theorem dX3_countWays_51 : decode cX3_countWays 51 = .ok (.iload 5, 2) := by decide +kernel
theorem dX3_countWays_53 : decode cX3_countWays 53 = .ok (.imul, 1) := by decide +kernel
theorem dX3_countWays_54 : decode cX3_countWays 54 = .ok (.iconst 1, 1) := by decide +kernel
theorem dX3_countWays_55 : decode cX3_countWays 55 = .ok (.iadd, 1) := by decide +kernel
theorem dX3_countWays_56 : decode cX3_countWays 56 = .ok (.aload_n 0, 1) := by decide +kernel
theorem dX3_countWays_57 : decode cX3_countWays 57 = .ok (.iconst 2, 1) := by decide +kernel
theorem dX3_countWays_58 : decode cX3_countWays 58 = .ok (.iload 5, 2) := by decide +kernel
theorem dX3_countWays_60 : decode cX3_countWays 60 = .ok (.imul, 1) := by decide +kernel
theorem dX3_countWays_61 : decode cX3_countWays 61 = .ok (.iconst 1, 1) := by decide +kernel
theorem dX3_countWays_62 : decode cX3_countWays 62 = .ok (.iadd, 1) := by decide +kernel
theorem dX3_countWays_63 : decode cX3_countWays 63 = .ok (.iload_n 2, 1) := by decide +kernel
theorem dX3_countWays_64 : decode cX3_countWays 64 = .ok (.invokevirtual 125, 3) := by decide +kernel
theorem dX3_countWays_67 : decode cX3_countWays 67 = .ok (.lastore, 1) := by decide +kernel
theorem dX3_countWays_68 : decode cX3_countWays 68 = .ok (.iinc 4 (-1), 3) := by decide +kernel
theorem dX3_countWays_71 : decode cX3_countWays 71 = .ok (.goto (-60), 3) := by decide +kernel
theorem dX3_countWays_74 : decode cX3_countWays 74 = .ok (.aload_n 0, 1) := by decide +kernel
theorem dX3_countWays_75 : decode cX3_countWays 75 = .ok (.iload_n 1, 1) := by decide +kernel
theorem dX3_countWays_76 : decode cX3_countWays 76 = .ok (.iload_n 3, 1) := by decide +kernel
theorem dX3_countWays_77 : decode cX3_countWays 77 = .ok (.invokevirtual 129, 3) := by decide +kernel
theorem dX3_countWays_80 : decode cX3_countWays 80 = .ok (.lreturn, 1) := by decide +kernel
theorem dX3_waysBehind_0 : decode cX3_waysBehind 0 = .ok (.aload_n 0, 1) := by decide +kernel
theorem dX3_waysBehind_1 : decode cX3_waysBehind 1 = .ok (.getfield 25, 3) := by decide +kernel
theorem dX3_waysBehind_4 : decode cX3_waysBehind 4 = .ok (.iload_n 1, 1) := by decide +kernel
theorem dX3_waysBehind_5 : decode cX3_waysBehind 5 = .ok (.invokevirtual 72, 3) := by decide +kernel
theorem dX3_waysBehind_8 : decode cX3_waysBehind 8 = .ok (.istore_n 3, 1) := by decide +kernel
theorem dX3_waysBehind_9 : decode cX3_waysBehind 9 = .ok (.iload_n 3, 1) := by decide +kernel
theorem dX3_waysBehind_10 : decode cX3_waysBehind 10 = .ok (.iload_n 2, 1) := by decide +kernel
theorem dX3_waysBehind_11 : decode cX3_waysBehind 11 = .ok (.if_icmp .ne 7, 3) := by decide +kernel
theorem dX3_waysBehind_14 : decode cX3_waysBehind 14 = .ok (.iconst 1, 1) := by decide +kernel
theorem dX3_waysBehind_15 : decode cX3_waysBehind 15 = .ok (.goto 4, 3) := by decide +kernel
theorem dX3_waysBehind_18 : decode cX3_waysBehind 18 = .ok (.iconst 0, 1) := by decide +kernel
theorem dX3_waysBehind_19 : decode cX3_waysBehind 19 = .ok (.i2l, 1) := by decide +kernel
theorem dX3_waysBehind_20 : decode cX3_waysBehind 20 = .ok (.aload_n 0, 1) := by decide +kernel
theorem dX3_waysBehind_21 : decode cX3_waysBehind 21 = .ok (.iload_n 3, 1) := by decide +kernel
theorem dX3_waysBehind_22 : decode cX3_waysBehind 22 = .ok (.aload_n 0, 1) := by decide +kernel
theorem dX3_waysBehind_23 : decode cX3_waysBehind 23 = .ok (.getfield 25, 3) := by decide +kernel
theorem dX3_waysBehind_26 : decode cX3_waysBehind 26 = .ok (.iload_n 1, 1) := by decide +kernel
theorem dX3_waysBehind_27 : decode cX3_waysBehind 27 = .ok (.invokevirtual 77, 3) := by decide +kernel
theorem dX3_waysBehind_30 : decode cX3_waysBehind 30 = .ok (.invokevirtual 129, 3) := by decide +kernel
theorem dX3_waysBehind_33 : decode cX3_waysBehind 33 = .ok (.ladd, 1) := by decide +kernel
theorem dX3_waysBehind_34 : decode cX3_waysBehind 34 = .ok (.lreturn, 1) := by decide +kernel
theorem dX3_waysOn_0 : decode cX3_waysOn 0 = .ok (.lconst 0, 1) := by decide +kernel
theorem dX3_waysOn_1 : decode cX3_waysOn 1 = .ok (.lstore_n 3, 1) := by decide +kernel
theorem dX3_waysOn_2 : decode cX3_waysOn 2 = .ok (.iconst 0, 1) := by decide +kernel
theorem dX3_waysOn_3 : decode cX3_waysOn 3 = .ok (.istore 5, 2) := by decide +kernel
theorem dX3_waysOn_5 : decode cX3_waysOn 5 = .ok (.iload 5, 2) := by decide +kernel
theorem dX3_waysOn_7 : decode cX3_waysOn 7 = .ok (.aload_n 0, 1) := by decide +kernel
theorem dX3_waysOn_8 : decode cX3_waysOn 8 = .ok (.getfield 25, 3) := by decide +kernel
theorem dX3_waysOn_11 : decode cX3_waysOn 11 = .ok (.getfield 35, 3) := by decide +kernel
theorem dX3_waysOn_14 : decode cX3_waysOn 14 = .ok (.if_icmp .ge 63, 3) := by decide +kernel
theorem dX3_waysOn_17 : decode cX3_waysOn 17 = .ok (.aload_n 0, 1) := by decide +kernel
theorem dX3_waysOn_18 : decode cX3_waysOn 18 = .ok (.getfield 25, 3) := by decide +kernel
theorem dX3_waysOn_21 : decode cX3_waysOn 21 = .ok (.iload_n 1, 1) := by decide +kernel
theorem dX3_waysOn_22 : decode cX3_waysOn 22 = .ok (.iload 5, 2) := by decide +kernel
theorem dX3_waysOn_24 : decode cX3_waysOn 24 = .ok (.invokevirtual 92, 3) := by decide +kernel
theorem dX3_waysOn_27 : decode cX3_waysOn 27 = .ok (.ifCond .eq 44, 3) := by decide +kernel
theorem dX3_waysOn_30 : decode cX3_waysOn 30 = .ok (.aload_n 0, 1) := by decide +kernel
theorem dX3_waysOn_31 : decode cX3_waysOn 31 = .ok (.getfield 25, 3) := by decide +kernel
theorem dX3_waysOn_34 : decode cX3_waysOn 34 = .ok (.getfield 41, 3) := by decide +kernel
theorem dX3_waysOn_37 : decode cX3_waysOn 37 = .ok (.iload 5, 2) := by decide +kernel
theorem dX3_waysOn_39 : decode cX3_waysOn 39 = .ok (.iaload, 1) := by decide +kernel
theorem dX3_waysOn_40 : decode cX3_waysOn 40 = .ok (.iload_n 2, 1) := by decide +kernel
theorem dX3_waysOn_41 : decode cX3_waysOn 41 = .ok (.if_icmp .lt 30, 3) := by decide +kernel
theorem dX3_waysOn_44 : decode cX3_waysOn 44 = .ok (.lload_n 3, 1) := by decide +kernel
theorem dX3_waysOn_45 : decode cX3_waysOn 45 = .ok (.aload_n 0, 1) := by decide +kernel
theorem dX3_waysOn_46 : decode cX3_waysOn 46 = .ok (.getfield 18, 3) := by decide +kernel
theorem dX3_waysOn_49 : decode cX3_waysOn 49 = .ok (.aload_n 0, 1) := by decide +kernel
theorem dX3_waysOn_50 : decode cX3_waysOn 50 = .ok (.getfield 25, 3) := by decide +kernel
theorem dX3_waysOn_53 : decode cX3_waysOn 53 = .ok (.iload 5, 2) := by decide +kernel
theorem dX3_waysOn_55 : decode cX3_waysOn 55 = .ok (.aload_n 0, 1) := by decide +kernel
theorem dX3_waysOn_56 : decode cX3_waysOn 56 = .ok (.getfield 25, 3) := by decide +kernel
theorem dX3_waysOn_59 : decode cX3_waysOn 59 = .ok (.iload 5, 2) := by decide +kernel
theorem dX3_waysOn_61 : decode cX3_waysOn 61 = .ok (.iload_n 1, 1) := by decide +kernel
theorem dX3_waysOn_62 : decode cX3_waysOn 62 = .ok (.invokevirtual 54, 3) := by decide +kernel
theorem dX3_waysOn_65 : decode cX3_waysOn 65 = .ok (.invokevirtual 95, 3) := by decide +kernel
theorem dX3_waysOn_68 : decode cX3_waysOn 68 = .ok (.laload, 1) := by decide +kernel
theorem dX3_waysOn_69 : decode cX3_waysOn 69 = .ok (.ladd, 1) := by decide +kernel
theorem dX3_waysOn_70 : decode cX3_waysOn 70 = .ok (.lstore_n 3, 1) := by decide +kernel
theorem dX3_waysOn_71 : decode cX3_waysOn 71 = .ok (.iinc 5 1, 3) := by decide +kernel
theorem dX3_waysOn_74 : decode cX3_waysOn 74 = .ok (.goto (-69), 3) := by decide +kernel
theorem dX3_waysOn_77 : decode cX3_waysOn 77 = .ok (.lload_n 3, 1) := by decide +kernel
theorem dX3_waysOn_78 : decode cX3_waysOn 78 = .ok (.lreturn, 1) := by decide +kernel
theorem dX3_neededMeetings_0 : decode cX3_neededMeetings 0 = .ok (.aload_n 0, 1) := by decide +kernel
theorem dX3_neededMeetings_1 : decode cX3_neededMeetings 1 = .ok (.iload_n 1, 1) := by decide +kernel
theorem dX3_neededMeetings_2 : decode cX3_neededMeetings 2 = .ok (.iload_n 3, 1) := by decide +kernel
theorem dX3_neededMeetings_3 : decode cX3_neededMeetings 3 = .ok (.iconst 0, 1) := by decide +kernel
theorem dX3_neededMeetings_4 : decode cX3_neededMeetings 4 = .ok (.iconst (-1), 1) := by decide +kernel
theorem dX3_neededMeetings_5 : decode cX3_neededMeetings 5 = .ok (.invokevirtual 132, 3) := by decide +kernel
theorem dX3_neededMeetings_8 : decode cX3_neededMeetings 8 = .ok (.aload_n 0, 1) := by decide +kernel
theorem dX3_neededMeetings_9 : decode cX3_neededMeetings 9 = .ok (.getfield 9, 3) := by decide +kernel
theorem dX3_neededMeetings_12 : decode cX3_neededMeetings 12 = .ok (.iload_n 2, 1) := by decide +kernel
theorem dX3_neededMeetings_13 : decode cX3_neededMeetings 13 = .ok (.iaload, 1) := by decide +kernel
theorem dX3_neededMeetings_14 : decode cX3_neededMeetings 14 = .ok (.iconst (-1), 1) := by decide +kernel
theorem dX3_neededMeetings_15 : decode cX3_neededMeetings 15 = .ok (.if_icmp .ne 5, 3) := by decide +kernel
theorem dX3_neededMeetings_18 : decode cX3_neededMeetings 18 = .ok (.iconst 0, 1) := by decide +kernel
theorem dX3_neededMeetings_19 : decode cX3_neededMeetings 19 = .ok (.ireturn, 1) := by decide +kernel
theorem dX3_neededMeetings_20 : decode cX3_neededMeetings 20 = .ok (.iconst 0, 1) := by decide +kernel
theorem dX3_neededMeetings_21 : decode cX3_neededMeetings 21 = .ok (.istore 4, 2) := by decide +kernel
theorem dX3_neededMeetings_23 : decode cX3_neededMeetings 23 = .ok (.iconst 0, 1) := by decide +kernel
theorem dX3_neededMeetings_24 : decode cX3_neededMeetings 24 = .ok (.istore 5, 2) := by decide +kernel
theorem dX3_neededMeetings_26 : decode cX3_neededMeetings 26 = .ok (.iload 5, 2) := by decide +kernel
theorem dX3_neededMeetings_28 : decode cX3_neededMeetings 28 = .ok (.aload_n 0, 1) := by decide +kernel
theorem dX3_neededMeetings_29 : decode cX3_neededMeetings 29 = .ok (.getfield 25, 3) := by decide +kernel
theorem dX3_neededMeetings_32 : decode cX3_neededMeetings 32 = .ok (.getfield 35, 3) := by decide +kernel
theorem dX3_neededMeetings_35 : decode cX3_neededMeetings 35 = .ok (.if_icmp .ge 37, 3) := by decide +kernel
theorem dX3_neededMeetings_38 : decode cX3_neededMeetings 38 = .ok (.aload_n 0, 1) := by decide +kernel
theorem dX3_neededMeetings_39 : decode cX3_neededMeetings 39 = .ok (.iload_n 1, 1) := by decide +kernel
theorem dX3_neededMeetings_40 : decode cX3_neededMeetings 40 = .ok (.iload_n 3, 1) := by decide +kernel
theorem dX3_neededMeetings_41 : decode cX3_neededMeetings 41 = .ok (.iconst 0, 1) := by decide +kernel
theorem dX3_neededMeetings_42 : decode cX3_neededMeetings 42 = .ok (.iload 5, 2) := by decide +kernel
theorem dX3_neededMeetings_44 : decode cX3_neededMeetings 44 = .ok (.invokevirtual 132, 3) := by decide +kernel
theorem dX3_neededMeetings_47 : decode cX3_neededMeetings 47 = .ok (.aload_n 0, 1) := by decide +kernel
theorem dX3_neededMeetings_48 : decode cX3_neededMeetings 48 = .ok (.getfield 9, 3) := by decide +kernel
theorem dX3_neededMeetings_51 : decode cX3_neededMeetings 51 = .ok (.iload_n 2, 1) := by decide +kernel
theorem dX3_neededMeetings_52 : decode cX3_neededMeetings 52 = .ok (.iaload, 1) := by decide +kernel
theorem dX3_neededMeetings_53 : decode cX3_neededMeetings 53 = .ok (.iconst (-1), 1) := by decide +kernel
theorem dX3_neededMeetings_54 : decode cX3_neededMeetings 54 = .ok (.if_icmp .ne 12, 3) := by decide +kernel
theorem dX3_neededMeetings_57 : decode cX3_neededMeetings 57 = .ok (.iload 4, 2) := by decide +kernel
theorem dX3_neededMeetings_59 : decode cX3_neededMeetings 59 = .ok (.iconst 1, 1) := by decide +kernel
theorem dX3_neededMeetings_60 : decode cX3_neededMeetings 60 = .ok (.iload 5, 2) := by decide +kernel
theorem dX3_neededMeetings_62 : decode cX3_neededMeetings 62 = .ok (.ishl, 1) := by decide +kernel
theorem dX3_neededMeetings_63 : decode cX3_neededMeetings 63 = .ok (.ior, 1) := by decide +kernel
theorem dX3_neededMeetings_64 : decode cX3_neededMeetings 64 = .ok (.istore 4, 2) := by decide +kernel
theorem dX3_neededMeetings_66 : decode cX3_neededMeetings 66 = .ok (.iinc 5 1, 3) := by decide +kernel
theorem dX3_neededMeetings_69 : decode cX3_neededMeetings 69 = .ok (.goto (-43), 3) := by decide +kernel
theorem dX3_neededMeetings_72 : decode cX3_neededMeetings 72 = .ok (.iload 4, 2) := by decide +kernel
theorem dX3_neededMeetings_74 : decode cX3_neededMeetings 74 = .ok (.ireturn, 1) := by decide +kernel
theorem dX3_idlePeople_0 : decode cX3_idlePeople 0 = .ok (.aload_n 0, 1) := by decide +kernel
theorem dX3_idlePeople_1 : decode cX3_idlePeople 1 = .ok (.iload_n 2, 1) := by decide +kernel
theorem dX3_idlePeople_2 : decode cX3_idlePeople 2 = .ok (.bipush 99, 2) := by decide +kernel
theorem dX3_idlePeople_4 : decode cX3_idlePeople 4 = .ok (.iconst 0, 1) := by decide +kernel
theorem dX3_idlePeople_5 : decode cX3_idlePeople 5 = .ok (.iconst 0, 1) := by decide +kernel
theorem dX3_idlePeople_6 : decode cX3_idlePeople 6 = .ok (.invokevirtual 119, 3) := by decide +kernel
theorem dX3_idlePeople_9 : decode cX3_idlePeople 9 = .ok (.aload_n 0, 1) := by decide +kernel
theorem dX3_idlePeople_10 : decode cX3_idlePeople 10 = .ok (.iload_n 1, 1) := by decide +kernel
theorem dX3_idlePeople_11 : decode cX3_idlePeople 11 = .ok (.iload_n 3, 1) := by decide +kernel
theorem dX3_idlePeople_12 : decode cX3_idlePeople 12 = .ok (.iconst 0, 1) := by decide +kernel
theorem dX3_idlePeople_13 : decode cX3_idlePeople 13 = .ok (.iconst (-1), 1) := by decide +kernel
theorem dX3_idlePeople_14 : decode cX3_idlePeople 14 = .ok (.invokevirtual 132, 3) := by decide +kernel
theorem dX3_idlePeople_17 : decode cX3_idlePeople 17 = .ok (.iconst 1, 1) := by decide +kernel
theorem dX3_idlePeople_18 : decode cX3_idlePeople 18 = .ok (.iload_n 1, 1) := by decide +kernel
theorem dX3_idlePeople_19 : decode cX3_idlePeople 19 = .ok (.ishl, 1) := by decide +kernel
theorem dX3_idlePeople_20 : decode cX3_idlePeople 20 = .ok (.iconst 1, 1) := by decide +kernel
theorem dX3_idlePeople_21 : decode cX3_idlePeople 21 = .ok (.iload_n 2, 1) := by decide +kernel
theorem dX3_idlePeople_22 : decode cX3_idlePeople 22 = .ok (.ishl, 1) := by decide +kernel
theorem dX3_idlePeople_23 : decode cX3_idlePeople 23 = .ok (.ior, 1) := by decide +kernel
theorem dX3_idlePeople_24 : decode cX3_idlePeople 24 = .ok (.istore 4, 2) := by decide +kernel
theorem dX3_idlePeople_26 : decode cX3_idlePeople 26 = .ok (.iconst 0, 1) := by decide +kernel
theorem dX3_idlePeople_27 : decode cX3_idlePeople 27 = .ok (.istore 5, 2) := by decide +kernel
theorem dX3_idlePeople_29 : decode cX3_idlePeople 29 = .ok (.iload 5, 2) := by decide +kernel
theorem dX3_idlePeople_31 : decode cX3_idlePeople 31 = .ok (.iconst 2, 1) := by decide +kernel
theorem dX3_idlePeople_32 : decode cX3_idlePeople 32 = .ok (.aload_n 0, 1) := by decide +kernel
theorem dX3_idlePeople_33 : decode cX3_idlePeople 33 = .ok (.getfield 25, 3) := by decide +kernel
theorem dX3_idlePeople_36 : decode cX3_idlePeople 36 = .ok (.getfield 35, 3) := by decide +kernel
theorem dX3_idlePeople_39 : decode cX3_idlePeople 39 = .ok (.imul, 1) := by decide +kernel
theorem dX3_idlePeople_40 : decode cX3_idlePeople 40 = .ok (.if_icmp .ge 111, 3) := by decide +kernel
theorem dX3_idlePeople_43 : decode cX3_idlePeople 43 = .ok (.iload 5, 2) := by decide +kernel
theorem dX3_idlePeople_45 : decode cX3_idlePeople 45 = .ok (.iconst 1, 1) := by decide +kernel
theorem dX3_idlePeople_46 : decode cX3_idlePeople 46 = .ok (.ishr, 1) := by decide +kernel
theorem dX3_idlePeople_47 : decode cX3_idlePeople 47 = .ok (.istore 6, 2) := by decide +kernel
theorem dX3_idlePeople_49 : decode cX3_idlePeople 49 = .ok (.aload_n 0, 1) := by decide +kernel
theorem dX3_idlePeople_50 : decode cX3_idlePeople 50 = .ok (.getfield 25, 3) := by decide +kernel
theorem dX3_idlePeople_53 : decode cX3_idlePeople 53 = .ok (.iload 5, 2) := by decide +kernel
theorem dX3_idlePeople_55 : decode cX3_idlePeople 55 = .ok (.invokevirtual 72, 3) := by decide +kernel
theorem dX3_idlePeople_58 : decode cX3_idlePeople 58 = .ok (.istore 7, 2) := by decide +kernel
theorem dX3_idlePeople_60 : decode cX3_idlePeople 60 = .ok (.aload_n 0, 1) := by decide +kernel
theorem dX3_idlePeople_61 : decode cX3_idlePeople 61 = .ok (.getfield 25, 3) := by decide +kernel
theorem dX3_idlePeople_64 : decode cX3_idlePeople 64 = .ok (.iload 6, 2) := by decide +kernel
theorem dX3_idlePeople_66 : decode cX3_idlePeople 66 = .ok (.iload 7, 2) := by decide +kernel
theorem dX3_idlePeople_68 : decode cX3_idlePeople 68 = .ok (.invokevirtual 54, 3) := by decide +kernel
theorem dX3_idlePeople_71 : decode cX3_idlePeople 71 = .ok (.istore 8, 2) := by decide +kernel
theorem dX3_idlePeople_73 : decode cX3_idlePeople 73 = .ok (.iload 8, 2) := by decide +kernel
theorem dX3_idlePeople_75 : decode cX3_idlePeople 75 = .ok (.iload_n 1, 1) := by decide +kernel
theorem dX3_idlePeople_76 : decode cX3_idlePeople 76 = .ok (.if_icmp .ne 25, 3) := by decide +kernel
theorem dX3_idlePeople_79 : decode cX3_idlePeople 79 = .ok (.aload_n 0, 1) := by decide +kernel
theorem dX3_idlePeople_80 : decode cX3_idlePeople 80 = .ok (.getfield 25, 3) := by decide +kernel
theorem dX3_idlePeople_83 : decode cX3_idlePeople 83 = .ok (.getfield 41, 3) := by decide +kernel
theorem dX3_idlePeople_86 : decode cX3_idlePeople 86 = .ok (.iload 6, 2) := by decide +kernel
theorem dX3_idlePeople_88 : decode cX3_idlePeople 88 = .ok (.iaload, 1) := by decide +kernel
theorem dX3_idlePeople_89 : decode cX3_idlePeople 89 = .ok (.iload_n 3, 1) := by decide +kernel
theorem dX3_idlePeople_90 : decode cX3_idlePeople 90 = .ok (.if_icmp .lt 7, 3) := by decide +kernel
theorem dX3_idlePeople_93 : decode cX3_idlePeople 93 = .ok (.iconst 1, 1) := by decide +kernel
theorem dX3_idlePeople_94 : decode cX3_idlePeople 94 = .ok (.goto 23, 3) := by decide +kernel
theorem dX3_idlePeople_97 : decode cX3_idlePeople 97 = .ok (.iconst 0, 1) := by decide +kernel
theorem dX3_idlePeople_98 : decode cX3_idlePeople 98 = .ok (.goto 19, 3) := by decide +kernel
theorem dX3_idlePeople_101 : decode cX3_idlePeople 101 = .ok (.aload_n 0, 1) := by decide +kernel
theorem dX3_idlePeople_102 : decode cX3_idlePeople 102 = .ok (.iload 8, 2) := by decide +kernel
theorem dX3_idlePeople_104 : decode cX3_idlePeople 104 = .ok (.aload_n 0, 1) := by decide +kernel
theorem dX3_idlePeople_105 : decode cX3_idlePeople 105 = .ok (.getfield 25, 3) := by decide +kernel
theorem dX3_idlePeople_108 : decode cX3_idlePeople 108 = .ok (.getfield 41, 3) := by decide +kernel
theorem dX3_idlePeople_111 : decode cX3_idlePeople 111 = .ok (.iload 6, 2) := by decide +kernel
theorem dX3_idlePeople_113 : decode cX3_idlePeople 113 = .ok (.iaload, 1) := by decide +kernel
theorem dX3_idlePeople_114 : decode cX3_idlePeople 114 = .ok (.invokevirtual 58, 3) := by decide +kernel
theorem dX3_idlePeople_117 : decode cX3_idlePeople 117 = .ok (.istore 9, 2) := by decide +kernel
theorem dX3_idlePeople_119 : decode cX3_idlePeople 119 = .ok (.iload 9, 2) := by decide +kernel
theorem dX3_idlePeople_121 : decode cX3_idlePeople 121 = .ok (.ifCond .eq 24, 3) := by decide +kernel
theorem dX3_idlePeople_124 : decode cX3_idlePeople 124 = .ok (.aload_n 0, 1) := by decide +kernel
theorem dX3_idlePeople_125 : decode cX3_idlePeople 125 = .ok (.getfield 15, 3) := by decide +kernel
theorem dX3_idlePeople_128 : decode cX3_idlePeople 128 = .ok (.iload 5, 2) := by decide +kernel
theorem dX3_idlePeople_130 : decode cX3_idlePeople 130 = .ok (.iaload, 1) := by decide +kernel
theorem dX3_idlePeople_131 : decode cX3_idlePeople 131 = .ok (.ldc 76, 2) := by decide +kernel
theorem dX3_idlePeople_133 : decode cX3_idlePeople 133 = .ok (.if_icmp .eq 12, 3) := by decide +kernel
theorem dX3_idlePeople_136 : decode cX3_idlePeople 136 = .ok (.iload 4, 2) := by decide +kernel
theorem dX3_idlePeople_138 : decode cX3_idlePeople 138 = .ok (.iconst 1, 1) := by decide +kernel
theorem dX3_idlePeople_139 : decode cX3_idlePeople 139 = .ok (.iload 7, 2) := by decide +kernel
theorem dX3_idlePeople_141 : decode cX3_idlePeople 141 = .ok (.ishl, 1) := by decide +kernel
theorem dX3_idlePeople_142 : decode cX3_idlePeople 142 = .ok (.ior, 1) := by decide +kernel
theorem dX3_idlePeople_143 : decode cX3_idlePeople 143 = .ok (.istore 4, 2) := by decide +kernel
theorem dX3_idlePeople_145 : decode cX3_idlePeople 145 = .ok (.iinc 5 1, 3) := by decide +kernel
theorem dX3_idlePeople_148 : decode cX3_idlePeople 148 = .ok (.goto (-119), 3) := by decide +kernel
theorem dX3_idlePeople_151 : decode cX3_idlePeople 151 = .ok (.aload_n 0, 1) := by decide +kernel
theorem dX3_idlePeople_152 : decode cX3_idlePeople 152 = .ok (.getfield 25, 3) := by decide +kernel
theorem dX3_idlePeople_155 : decode cX3_idlePeople 155 = .ok (.invokevirtual 135, 3) := by decide +kernel
theorem dX3_idlePeople_158 : decode cX3_idlePeople 158 = .ok (.iload 4, 2) := by decide +kernel
theorem dX3_idlePeople_160 : decode cX3_idlePeople 160 = .ok (.iconst (-1), 1) := by decide +kernel
theorem dX3_idlePeople_161 : decode cX3_idlePeople 161 = .ok (.ixor, 1) := by decide +kernel
theorem dX3_idlePeople_162 : decode cX3_idlePeople 162 = .ok (.iand, 1) := by decide +kernel
theorem dX3_idlePeople_163 : decode cX3_idlePeople 163 = .ok (.ireturn, 1) := by decide +kernel
theorem dX3_countPairs_0 : decode cX3_countPairs 0 = .ok (.iconst 0, 1) := by decide +kernel
theorem dX3_countPairs_1 : decode cX3_countPairs 1 = .ok (.istore_n 3, 1) := by decide +kernel
theorem dX3_countPairs_2 : decode cX3_countPairs 2 = .ok (.iconst (-1), 1) := by decide +kernel
theorem dX3_countPairs_3 : decode cX3_countPairs 3 = .ok (.istore 4, 2) := by decide +kernel
theorem dX3_countPairs_5 : decode cX3_countPairs 5 = .ok (.aload_n 2, 1) := by decide +kernel
theorem dX3_countPairs_6 : decode cX3_countPairs 6 = .ok (.invokevirtual 104, 3) := by decide +kernel
theorem dX3_countPairs_9 : decode cX3_countPairs 9 = .ok (.iconst 0, 1) := by decide +kernel
theorem dX3_countPairs_10 : decode cX3_countPairs 10 = .ok (.istore 5, 2) := by decide +kernel
theorem dX3_countPairs_12 : decode cX3_countPairs 12 = .ok (.iload 5, 2) := by decide +kernel
theorem dX3_countPairs_14 : decode cX3_countPairs 14 = .ok (.aload_n 0, 1) := by decide +kernel
theorem dX3_countPairs_15 : decode cX3_countPairs 15 = .ok (.getfield 25, 3) := by decide +kernel
theorem dX3_countPairs_18 : decode cX3_countPairs 18 = .ok (.getfield 29, 3) := by decide +kernel
theorem dX3_countPairs_21 : decode cX3_countPairs 21 = .ok (.if_icmp .ge 106, 3) := by decide +kernel
theorem dX3_countPairs_24 : decode cX3_countPairs 24 = .ok (.aload_n 0, 1) := by decide +kernel
theorem dX3_countPairs_25 : decode cX3_countPairs 25 = .ok (.iload 5, 2) := by decide +kernel
theorem dX3_countPairs_27 : decode cX3_countPairs 27 = .ok (.iload_n 1, 1) := by decide +kernel
theorem dX3_countPairs_28 : decode cX3_countPairs 28 = .ok (.iconst 0, 1) := by decide +kernel
theorem dX3_countPairs_29 : decode cX3_countPairs 29 = .ok (.iconst (-1), 1) := by decide +kernel
theorem dX3_countPairs_30 : decode cX3_countPairs 30 = .ok (.invokevirtual 132, 3) := by decide +kernel
theorem dX3_countPairs_33 : decode cX3_countPairs 33 = .ok (.iconst 0, 1) := by decide +kernel
theorem dX3_countPairs_34 : decode cX3_countPairs 34 = .ok (.istore 6, 2) := by decide +kernel
theorem dX3_countPairs_36 : decode cX3_countPairs 36 = .ok (.iload 6, 2) := by decide +kernel
theorem dX3_countPairs_38 : decode cX3_countPairs 38 = .ok (.aload_n 0, 1) := by decide +kernel
theorem dX3_countPairs_39 : decode cX3_countPairs 39 = .ok (.getfield 25, 3) := by decide +kernel
theorem dX3_countPairs_42 : decode cX3_countPairs 42 = .ok (.getfield 29, 3) := by decide +kernel
theorem dX3_countPairs_45 : decode cX3_countPairs 45 = .ok (.if_icmp .ge 76, 3) := by decide +kernel
theorem dX3_countPairs_48 : decode cX3_countPairs 48 = .ok (.iload 6, 2) := by decide +kernel
theorem dX3_countPairs_50 : decode cX3_countPairs 50 = .ok (.iload 5, 2) := by decide +kernel
theorem dX3_countPairs_52 : decode cX3_countPairs 52 = .ok (.if_icmp .eq 63, 3) := by decide +kernel
theorem dX3_countPairs_55 : decode cX3_countPairs 55 = .ok (.aload_n 0, 1) := by decide +kernel
theorem dX3_countPairs_56 : decode cX3_countPairs 56 = .ok (.getfield 9, 3) := by decide +kernel
theorem dX3_countPairs_59 : decode cX3_countPairs 59 = .ok (.iload 6, 2) := by decide +kernel
theorem dX3_countPairs_61 : decode cX3_countPairs 61 = .ok (.iaload, 1) := by decide +kernel
theorem dX3_countPairs_62 : decode cX3_countPairs 62 = .ok (.iconst (-1), 1) := by decide +kernel
theorem dX3_countPairs_63 : decode cX3_countPairs 63 = .ok (.if_icmp .ne 6, 3) := by decide +kernel
theorem dX3_countPairs_66 : decode cX3_countPairs 66 = .ok (.goto 49, 3) := by decide +kernel
theorem dX3_countPairs_69 : decode cX3_countPairs 69 = .ok (.iinc 3 1, 3) := by decide +kernel
theorem dX3_countPairs_72 : decode cX3_countPairs 72 = .ok (.aload_n 0, 1) := by decide +kernel
theorem dX3_countPairs_73 : decode cX3_countPairs 73 = .ok (.getfield 9, 3) := by decide +kernel
theorem dX3_countPairs_76 : decode cX3_countPairs 76 = .ok (.iload 6, 2) := by decide +kernel
theorem dX3_countPairs_78 : decode cX3_countPairs 78 = .ok (.iaload, 1) := by decide +kernel
theorem dX3_countPairs_79 : decode cX3_countPairs 79 = .ok (.iload 4, 2) := by decide +kernel
theorem dX3_countPairs_81 : decode cX3_countPairs 81 = .ok (.if_icmp .le 34, 3) := by decide +kernel
theorem dX3_countPairs_84 : decode cX3_countPairs 84 = .ok (.aload_n 0, 1) := by decide +kernel
theorem dX3_countPairs_85 : decode cX3_countPairs 85 = .ok (.getfield 9, 3) := by decide +kernel
theorem dX3_countPairs_88 : decode cX3_countPairs 88 = .ok (.iload 6, 2) := by decide +kernel
theorem dX3_countPairs_90 : decode cX3_countPairs 90 = .ok (.iaload, 1) := by decide +kernel
theorem dX3_countPairs_91 : decode cX3_countPairs 91 = .ok (.istore 4, 2) := by decide +kernel
theorem dX3_countPairs_93 : decode cX3_countPairs 93 = .ok (.aload_n 2, 1) := by decide +kernel
theorem dX3_countPairs_94 : decode cX3_countPairs 94 = .ok (.invokevirtual 104, 3) := by decide +kernel
theorem dX3_countPairs_97 : decode cX3_countPairs 97 = .ok (.aload_n 2, 1) := by decide +kernel
theorem dX3_countPairs_98 : decode cX3_countPairs 98 = .ok (.iload 5, 2) := by decide +kernel
theorem dX3_countPairs_100 : decode cX3_countPairs 100 = .ok (.invokevirtual 112, 3) := by decide +kernel
theorem dX3_countPairs_103 : decode cX3_countPairs 103 = .ok (.aload_n 2, 1) := by decide +kernel
theorem dX3_countPairs_104 : decode cX3_countPairs 104 = .ok (.iload 6, 2) := by decide +kernel
theorem dX3_countPairs_106 : decode cX3_countPairs 106 = .ok (.invokevirtual 112, 3) := by decide +kernel
theorem dX3_countPairs_109 : decode cX3_countPairs 109 = .ok (.aload_n 2, 1) := by decide +kernel
theorem dX3_countPairs_110 : decode cX3_countPairs 110 = .ok (.iload 4, 2) := by decide +kernel
theorem dX3_countPairs_112 : decode cX3_countPairs 112 = .ok (.invokevirtual 112, 3) := by decide +kernel
theorem dX3_countPairs_115 : decode cX3_countPairs 115 = .ok (.iinc 6 1, 3) := by decide +kernel
theorem dX3_countPairs_118 : decode cX3_countPairs 118 = .ok (.goto (-82), 3) := by decide +kernel
theorem dX3_countPairs_121 : decode cX3_countPairs 121 = .ok (.iinc 5 1, 3) := by decide +kernel
theorem dX3_countPairs_124 : decode cX3_countPairs 124 = .ok (.goto (-112), 3) := by decide +kernel
theorem dX3_countPairs_127 : decode cX3_countPairs 127 = .ok (.iload_n 3, 1) := by decide +kernel
theorem dX3_countPairs_128 : decode cX3_countPairs 128 = .ok (.ireturn, 1) := by decide +kernel
theorem dX3_leastPart_0 : decode cX3_leastPart 0 = .ok (.aload_n 0, 1) := by decide +kernel
theorem dX3_leastPart_1 : decode cX3_leastPart 1 = .ok (.getfield 25, 3) := by decide +kernel
theorem dX3_leastPart_4 : decode cX3_leastPart 4 = .ok (.invokevirtual 135, 3) := by decide +kernel
theorem dX3_leastPart_7 : decode cX3_leastPart 7 = .ok (.iconst 1, 1) := by decide +kernel
theorem dX3_leastPart_8 : decode cX3_leastPart 8 = .ok (.iload_n 1, 1) := by decide +kernel
theorem dX3_leastPart_9 : decode cX3_leastPart 9 = .ok (.ishl, 1) := by decide +kernel
theorem dX3_leastPart_10 : decode cX3_leastPart 10 = .ok (.iconst (-1), 1) := by decide +kernel
theorem dX3_leastPart_11 : decode cX3_leastPart 11 = .ok (.ixor, 1) := by decide +kernel
theorem dX3_leastPart_12 : decode cX3_leastPart 12 = .ok (.iand, 1) := by decide +kernel
theorem dX3_leastPart_13 : decode cX3_leastPart 13 = .ok (.iconst 1, 1) := by decide +kernel
theorem dX3_leastPart_14 : decode cX3_leastPart 14 = .ok (.iload_n 2, 1) := by decide +kernel
theorem dX3_leastPart_15 : decode cX3_leastPart 15 = .ok (.ishl, 1) := by decide +kernel
theorem dX3_leastPart_16 : decode cX3_leastPart 16 = .ok (.iconst (-1), 1) := by decide +kernel
theorem dX3_leastPart_17 : decode cX3_leastPart 17 = .ok (.ixor, 1) := by decide +kernel
theorem dX3_leastPart_18 : decode cX3_leastPart 18 = .ok (.iand, 1) := by decide +kernel
theorem dX3_leastPart_19 : decode cX3_leastPart 19 = .ok (.istore 4, 2) := by decide +kernel
theorem dX3_leastPart_21 : decode cX3_leastPart 21 = .ok (.iconst 0, 1) := by decide +kernel
theorem dX3_leastPart_22 : decode cX3_leastPart 22 = .ok (.istore 5, 2) := by decide +kernel
theorem dX3_leastPart_24 : decode cX3_leastPart 24 = .ok (.iload 5, 2) := by decide +kernel
theorem dX3_leastPart_26 : decode cX3_leastPart 26 = .ok (.iload 4, 2) := by decide +kernel
theorem dX3_leastPart_28 : decode cX3_leastPart 28 = .ok (.if_icmp .gt 63, 3) := by decide +kernel
theorem dX3_leastPart_31 : decode cX3_leastPart 31 = .ok (.iload 5, 2) := by decide +kernel
theorem dX3_leastPart_33 : decode cX3_leastPart 33 = .ok (.iload 4, 2) := by decide +kernel
theorem dX3_leastPart_35 : decode cX3_leastPart 35 = .ok (.iconst (-1), 1) := by decide +kernel
theorem dX3_leastPart_36 : decode cX3_leastPart 36 = .ok (.ixor, 1) := by decide +kernel
theorem dX3_leastPart_37 : decode cX3_leastPart 37 = .ok (.iand, 1) := by decide +kernel
theorem dX3_leastPart_38 : decode cX3_leastPart 38 = .ok (.ifCond .ne 7, 3) := by decide +kernel
theorem dX3_leastPart_41 : decode cX3_leastPart 41 = .ok (.iconst 1, 1) := by decide +kernel
theorem dX3_leastPart_42 : decode cX3_leastPart 42 = .ok (.goto 4, 3) := by decide +kernel
theorem dX3_leastPart_45 : decode cX3_leastPart 45 = .ok (.iconst 0, 1) := by decide +kernel
theorem dX3_leastPart_46 : decode cX3_leastPart 46 = .ok (.istore 6, 2) := by decide +kernel
theorem dX3_leastPart_48 : decode cX3_leastPart 48 = .ok (.iload 6, 2) := by decide +kernel
theorem dX3_leastPart_50 : decode cX3_leastPart 50 = .ok (.ifCond .eq 35, 3) := by decide +kernel
theorem dX3_leastPart_53 : decode cX3_leastPart 53 = .ok (.aload_n 0, 1) := by decide +kernel
theorem dX3_leastPart_54 : decode cX3_leastPart 54 = .ok (.iload_n 1, 1) := by decide +kernel
theorem dX3_leastPart_55 : decode cX3_leastPart 55 = .ok (.iload_n 2, 1) := by decide +kernel
theorem dX3_leastPart_56 : decode cX3_leastPart 56 = .ok (.iload_n 3, 1) := by decide +kernel
theorem dX3_leastPart_57 : decode cX3_leastPart 57 = .ok (.iload 5, 2) := by decide +kernel
theorem dX3_leastPart_59 : decode cX3_leastPart 59 = .ok (.invokevirtual 139, 3) := by decide +kernel
theorem dX3_leastPart_62 : decode cX3_leastPart 62 = .ok (.ifCond .eq 23, 3) := by decide +kernel
theorem dX3_leastPart_65 : decode cX3_leastPart 65 = .ok (.aload_n 0, 1) := by decide +kernel
theorem dX3_leastPart_66 : decode cX3_leastPart 66 = .ok (.iload_n 1, 1) := by decide +kernel
theorem dX3_leastPart_67 : decode cX3_leastPart 67 = .ok (.iload_n 2, 1) := by decide +kernel
theorem dX3_leastPart_68 : decode cX3_leastPart 68 = .ok (.iload_n 3, 1) := by decide +kernel
theorem dX3_leastPart_69 : decode cX3_leastPart 69 = .ok (.iload 4, 2) := by decide +kernel
theorem dX3_leastPart_71 : decode cX3_leastPart 71 = .ok (.iload 5, 2) := by decide +kernel
theorem dX3_leastPart_73 : decode cX3_leastPart 73 = .ok (.iconst (-1), 1) := by decide +kernel
theorem dX3_leastPart_74 : decode cX3_leastPart 74 = .ok (.ixor, 1) := by decide +kernel
theorem dX3_leastPart_75 : decode cX3_leastPart 75 = .ok (.iand, 1) := by decide +kernel
theorem dX3_leastPart_76 : decode cX3_leastPart 76 = .ok (.invokevirtual 139, 3) := by decide +kernel
theorem dX3_leastPart_79 : decode cX3_leastPart 79 = .ok (.ifCond .eq 6, 3) := by decide +kernel
theorem dX3_leastPart_82 : decode cX3_leastPart 82 = .ok (.iload 5, 2) := by decide +kernel
theorem dX3_leastPart_84 : decode cX3_leastPart 84 = .ok (.ireturn, 1) := by decide +kernel
theorem dX3_leastPart_85 : decode cX3_leastPart 85 = .ok (.iinc 5 1, 3) := by decide +kernel
theorem dX3_leastPart_88 : decode cX3_leastPart 88 = .ok (.goto (-64), 3) := by decide +kernel
theorem dX3_leastPart_91 : decode cX3_leastPart 91 = .ok (.iconst (-1), 1) := by decide +kernel
theorem dX3_leastPart_92 : decode cX3_leastPart 92 = .ok (.ireturn, 1) := by decide +kernel
theorem dX3_comesBy_0 : decode cX3_comesBy 0 = .ok (.aload_n 0, 1) := by decide +kernel
theorem dX3_comesBy_1 : decode cX3_comesBy 1 = .ok (.iload_n 1, 1) := by decide +kernel
theorem dX3_comesBy_2 : decode cX3_comesBy 2 = .ok (.iload_n 3, 1) := by decide +kernel
theorem dX3_comesBy_3 : decode cX3_comesBy 3 = .ok (.iload 4, 2) := by decide +kernel
theorem dX3_comesBy_5 : decode cX3_comesBy 5 = .ok (.iconst (-1), 1) := by decide +kernel
theorem dX3_comesBy_6 : decode cX3_comesBy 6 = .ok (.ixor, 1) := by decide +kernel
theorem dX3_comesBy_7 : decode cX3_comesBy 7 = .ok (.iconst (-1), 1) := by decide +kernel
theorem dX3_comesBy_8 : decode cX3_comesBy 8 = .ok (.invokevirtual 132, 3) := by decide +kernel
theorem dX3_comesBy_11 : decode cX3_comesBy 11 = .ok (.aload_n 0, 1) := by decide +kernel
theorem dX3_comesBy_12 : decode cX3_comesBy 12 = .ok (.getfield 9, 3) := by decide +kernel
theorem dX3_comesBy_15 : decode cX3_comesBy 15 = .ok (.iload_n 2, 1) := by decide +kernel
theorem dX3_comesBy_16 : decode cX3_comesBy 16 = .ok (.iaload, 1) := by decide +kernel
theorem dX3_comesBy_17 : decode cX3_comesBy 17 = .ok (.iconst (-1), 1) := by decide +kernel
theorem dX3_comesBy_18 : decode cX3_comesBy 18 = .ok (.if_icmp .eq 7, 3) := by decide +kernel
theorem dX3_comesBy_21 : decode cX3_comesBy 21 = .ok (.iconst 1, 1) := by decide +kernel
theorem dX3_comesBy_22 : decode cX3_comesBy 22 = .ok (.goto 4, 3) := by decide +kernel
theorem dX3_comesBy_25 : decode cX3_comesBy 25 = .ok (.iconst 0, 1) := by decide +kernel
theorem dX3_comesBy_26 : decode cX3_comesBy 26 = .ok (.ireturn, 1) := by decide +kernel
theorem dX3_worstLoss_0 : decode cX3_worstLoss 0 = .ok (.aload_n 0, 1) := by decide +kernel
theorem dX3_worstLoss_1 : decode cX3_worstLoss 1 = .ok (.iload_n 1, 1) := by decide +kernel
theorem dX3_worstLoss_2 : decode cX3_worstLoss 2 = .ok (.iload_n 3, 1) := by decide +kernel
theorem dX3_worstLoss_3 : decode cX3_worstLoss 3 = .ok (.iconst 0, 1) := by decide +kernel
theorem dX3_worstLoss_4 : decode cX3_worstLoss 4 = .ok (.iconst (-1), 1) := by decide +kernel
theorem dX3_worstLoss_5 : decode cX3_worstLoss 5 = .ok (.invokevirtual 132, 3) := by decide +kernel
theorem dX3_worstLoss_8 : decode cX3_worstLoss 8 = .ok (.aload_n 0, 1) := by decide +kernel
theorem dX3_worstLoss_9 : decode cX3_worstLoss 9 = .ok (.getfield 9, 3) := by decide +kernel
theorem dX3_worstLoss_12 : decode cX3_worstLoss 12 = .ok (.iload_n 2, 1) := by decide +kernel
theorem dX3_worstLoss_13 : decode cX3_worstLoss 13 = .ok (.iaload, 1) := by decide +kernel
theorem dX3_worstLoss_14 : decode cX3_worstLoss 14 = .ok (.iconst (-1), 1) := by decide +kernel
theorem dX3_worstLoss_15 : decode cX3_worstLoss 15 = .ok (.if_icmp .ne 6, 3) := by decide +kernel
theorem dX3_worstLoss_18 : decode cX3_worstLoss 18 = .ok (.bipush (-2), 2) := by decide +kernel
theorem dX3_worstLoss_20 : decode cX3_worstLoss 20 = .ok (.ireturn, 1) := by decide +kernel
theorem dX3_worstLoss_21 : decode cX3_worstLoss 21 = .ok (.bipush (-2), 2) := by decide +kernel
theorem dX3_worstLoss_23 : decode cX3_worstLoss 23 = .ok (.istore 5, 2) := by decide +kernel
theorem dX3_worstLoss_25 : decode cX3_worstLoss 25 = .ok (.iconst (-1), 1) := by decide +kernel
theorem dX3_worstLoss_26 : decode cX3_worstLoss 26 = .ok (.istore 6, 2) := by decide +kernel
theorem dX3_worstLoss_28 : decode cX3_worstLoss 28 = .ok (.iconst 0, 1) := by decide +kernel
theorem dX3_worstLoss_29 : decode cX3_worstLoss 29 = .ok (.istore 7, 2) := by decide +kernel
theorem dX3_worstLoss_31 : decode cX3_worstLoss 31 = .ok (.iload 7, 2) := by decide +kernel
theorem dX3_worstLoss_33 : decode cX3_worstLoss 33 = .ok (.aload_n 0, 1) := by decide +kernel
theorem dX3_worstLoss_34 : decode cX3_worstLoss 34 = .ok (.getfield 25, 3) := by decide +kernel
theorem dX3_worstLoss_37 : decode cX3_worstLoss 37 = .ok (.getfield 35, 3) := by decide +kernel
theorem dX3_worstLoss_40 : decode cX3_worstLoss 40 = .ok (.if_icmp .ge 56, 3) := by decide +kernel
theorem dX3_worstLoss_43 : decode cX3_worstLoss 43 = .ok (.aload_n 0, 1) := by decide +kernel
theorem dX3_worstLoss_44 : decode cX3_worstLoss 44 = .ok (.iload_n 1, 1) := by decide +kernel
theorem dX3_worstLoss_45 : decode cX3_worstLoss 45 = .ok (.iload_n 3, 1) := by decide +kernel
theorem dX3_worstLoss_46 : decode cX3_worstLoss 46 = .ok (.iconst 0, 1) := by decide +kernel
theorem dX3_worstLoss_47 : decode cX3_worstLoss 47 = .ok (.iload 7, 2) := by decide +kernel
theorem dX3_worstLoss_49 : decode cX3_worstLoss 49 = .ok (.invokevirtual 132, 3) := by decide +kernel
theorem dX3_worstLoss_52 : decode cX3_worstLoss 52 = .ok (.aload_n 0, 1) := by decide +kernel
theorem dX3_worstLoss_53 : decode cX3_worstLoss 53 = .ok (.getfield 9, 3) := by decide +kernel
theorem dX3_worstLoss_56 : decode cX3_worstLoss 56 = .ok (.iload_n 2, 1) := by decide +kernel
theorem dX3_worstLoss_57 : decode cX3_worstLoss 57 = .ok (.iaload, 1) := by decide +kernel
theorem dX3_worstLoss_58 : decode cX3_worstLoss 58 = .ok (.iconst (-1), 1) := by decide +kernel
theorem dX3_worstLoss_59 : decode cX3_worstLoss 59 = .ok (.if_icmp .ne 8, 3) := by decide +kernel
theorem dX3_worstLoss_62 : decode cX3_worstLoss 62 = .ok (.ldc 76, 2) := by decide +kernel
theorem dX3_worstLoss_64 : decode cX3_worstLoss 64 = .ok (.goto 9, 3) := by decide +kernel
theorem dX3_worstLoss_67 : decode cX3_worstLoss 67 = .ok (.aload_n 0, 1) := by decide +kernel
theorem dX3_worstLoss_68 : decode cX3_worstLoss 68 = .ok (.getfield 9, 3) := by decide +kernel
theorem dX3_worstLoss_71 : decode cX3_worstLoss 71 = .ok (.iload_n 2, 1) := by decide +kernel
theorem dX3_worstLoss_72 : decode cX3_worstLoss 72 = .ok (.iaload, 1) := by decide +kernel
theorem dX3_worstLoss_73 : decode cX3_worstLoss 73 = .ok (.istore 8, 2) := by decide +kernel
theorem dX3_worstLoss_75 : decode cX3_worstLoss 75 = .ok (.iload 8, 2) := by decide +kernel
theorem dX3_worstLoss_77 : decode cX3_worstLoss 77 = .ok (.iload 6, 2) := by decide +kernel
theorem dX3_worstLoss_79 : decode cX3_worstLoss 79 = .ok (.if_icmp .le 11, 3) := by decide +kernel
theorem dX3_worstLoss_82 : decode cX3_worstLoss 82 = .ok (.iload 8, 2) := by decide +kernel
theorem dX3_worstLoss_84 : decode cX3_worstLoss 84 = .ok (.istore 6, 2) := by decide +kernel
theorem dX3_worstLoss_86 : decode cX3_worstLoss 86 = .ok (.iload 7, 2) := by decide +kernel
theorem dX3_worstLoss_88 : decode cX3_worstLoss 88 = .ok (.istore 5, 2) := by decide +kernel
theorem dX3_worstLoss_90 : decode cX3_worstLoss 90 = .ok (.iinc 7 1, 3) := by decide +kernel
theorem dX3_worstLoss_93 : decode cX3_worstLoss 93 = .ok (.goto (-62), 3) := by decide +kernel
theorem dX3_worstLoss_96 : decode cX3_worstLoss 96 = .ok (.aload 4, 2) := by decide +kernel
theorem dX3_worstLoss_98 : decode cX3_worstLoss 98 = .ok (.invokevirtual 104, 3) := by decide +kernel
theorem dX3_worstLoss_101 : decode cX3_worstLoss 101 = .ok (.aload 4, 2) := by decide +kernel
theorem dX3_worstLoss_103 : decode cX3_worstLoss 103 = .ok (.iload 6, 2) := by decide +kernel
theorem dX3_worstLoss_105 : decode cX3_worstLoss 105 = .ok (.ldc 76, 2) := by decide +kernel
theorem dX3_worstLoss_107 : decode cX3_worstLoss 107 = .ok (.if_icmp .ne 7, 3) := by decide +kernel
theorem dX3_worstLoss_110 : decode cX3_worstLoss 110 = .ok (.iconst (-1), 1) := by decide +kernel
theorem dX3_worstLoss_111 : decode cX3_worstLoss 111 = .ok (.goto 5, 3) := by decide +kernel
theorem dX3_worstLoss_114 : decode cX3_worstLoss 114 = .ok (.iload 6, 2) := by decide +kernel
theorem dX3_worstLoss_116 : decode cX3_worstLoss 116 = .ok (.invokevirtual 112, 3) := by decide +kernel
theorem dX3_worstLoss_119 : decode cX3_worstLoss 119 = .ok (.iload 5, 2) := by decide +kernel
theorem dX3_worstLoss_121 : decode cX3_worstLoss 121 = .ok (.ireturn, 1) := by decide +kernel
theorem dX3_follow_0 : decode cX3_follow 0 = .ok (.iload_n 2, 1) := by decide +kernel
theorem dX3_follow_1 : decode cX3_follow 1 = .ok (.istore 5, 2) := by decide +kernel
theorem dX3_follow_3 : decode cX3_follow 3 = .ok (.iload_n 3, 1) := by decide +kernel
theorem dX3_follow_4 : decode cX3_follow 4 = .ok (.istore 6, 2) := by decide +kernel
theorem dX3_follow_6 : decode cX3_follow 6 = .ok (.iload_n 3, 1) := by decide +kernel
theorem dX3_follow_7 : decode cX3_follow 7 = .ok (.istore 7, 2) := by decide +kernel
theorem dX3_follow_9 : decode cX3_follow 9 = .ok (.iconst 0, 1) := by decide +kernel
theorem dX3_follow_10 : decode cX3_follow 10 = .ok (.istore 8, 2) := by decide +kernel
theorem dX3_follow_12 : decode cX3_follow 12 = .ok (.iload 8, 2) := by decide +kernel
theorem dX3_follow_14 : decode cX3_follow 14 = .ok (.aload_n 1, 1) := by decide +kernel
theorem dX3_follow_15 : decode cX3_follow 15 = .ok (.getfield 143, 3) := by decide +kernel
theorem dX3_follow_18 : decode cX3_follow 18 = .ok (.if_icmp .ge 83, 3) := by decide +kernel
theorem dX3_follow_21 : decode cX3_follow 21 = .ok (.aload_n 0, 1) := by decide +kernel
theorem dX3_follow_22 : decode cX3_follow 22 = .ok (.iload 5, 2) := by decide +kernel
theorem dX3_follow_24 : decode cX3_follow 24 = .ok (.aload_n 1, 1) := by decide +kernel
theorem dX3_follow_25 : decode cX3_follow 25 = .ok (.iload 8, 2) := by decide +kernel
theorem dX3_follow_27 : decode cX3_follow 27 = .ok (.invokevirtual 148, 3) := by decide +kernel
theorem dX3_follow_30 : decode cX3_follow 30 = .ok (.bipush 97, 2) := by decide +kernel
theorem dX3_follow_32 : decode cX3_follow 32 = .ok (.isub, 1) := by decide +kernel
theorem dX3_follow_33 : decode cX3_follow 33 = .ok (.iload 6, 2) := by decide +kernel
theorem dX3_follow_35 : decode cX3_follow 35 = .ok (.invokevirtual 151, 3) := by decide +kernel
theorem dX3_follow_38 : decode cX3_follow 38 = .ok (.istore 9, 2) := by decide +kernel
theorem dX3_follow_40 : decode cX3_follow 40 = .ok (.iload 9, 2) := by decide +kernel
theorem dX3_follow_42 : decode cX3_follow 42 = .ok (.iconst (-1), 1) := by decide +kernel
theorem dX3_follow_43 : decode cX3_follow 43 = .ok (.if_icmp .ne 9, 3) := by decide +kernel
theorem dX3_follow_46 : decode cX3_follow 46 = .ok (.bipush (-100), 2) := by decide +kernel
theorem dX3_follow_48 : decode cX3_follow 48 = .ok (.iload 8, 2) := by decide +kernel
theorem dX3_follow_50 : decode cX3_follow 50 = .ok (.isub, 1) := by decide +kernel
theorem dX3_follow_51 : decode cX3_follow 51 = .ok (.ireturn, 1) := by decide +kernel
theorem dX3_follow_52 : decode cX3_follow 52 = .ok (.aload_n 1, 1) := by decide +kernel
theorem dX3_follow_53 : decode cX3_follow 53 = .ok (.iload 8, 2) := by decide +kernel
theorem dX3_follow_55 : decode cX3_follow 55 = .ok (.invokevirtual 148, 3) := by decide +kernel
theorem dX3_follow_58 : decode cX3_follow 58 = .ok (.bipush 97, 2) := by decide +kernel
theorem dX3_follow_60 : decode cX3_follow 60 = .ok (.isub, 1) := by decide +kernel
theorem dX3_follow_61 : decode cX3_follow 61 = .ok (.istore 5, 2) := by decide +kernel
theorem dX3_follow_63 : decode cX3_follow 63 = .ok (.aload_n 0, 1) := by decide +kernel
theorem dX3_follow_64 : decode cX3_follow 64 = .ok (.getfield 25, 3) := by decide +kernel
theorem dX3_follow_67 : decode cX3_follow 67 = .ok (.getfield 41, 3) := by decide +kernel
theorem dX3_follow_70 : decode cX3_follow 70 = .ok (.iload 9, 2) := by decide +kernel
theorem dX3_follow_72 : decode cX3_follow 72 = .ok (.iaload, 1) := by decide +kernel
theorem dX3_follow_73 : decode cX3_follow 73 = .ok (.istore 7, 2) := by decide +kernel
theorem dX3_follow_75 : decode cX3_follow 75 = .ok (.aload_n 0, 1) := by decide +kernel
theorem dX3_follow_76 : decode cX3_follow 76 = .ok (.getfield 25, 3) := by decide +kernel
theorem dX3_follow_79 : decode cX3_follow 79 = .ok (.aload_n 0, 1) := by decide +kernel
theorem dX3_follow_80 : decode cX3_follow 80 = .ok (.getfield 25, 3) := by decide +kernel
theorem dX3_follow_83 : decode cX3_follow 83 = .ok (.iload 9, 2) := by decide +kernel
theorem dX3_follow_85 : decode cX3_follow 85 = .ok (.iload 5, 2) := by decide +kernel
theorem dX3_follow_87 : decode cX3_follow 87 = .ok (.invokevirtual 95, 3) := by decide +kernel
theorem dX3_follow_90 : decode cX3_follow 90 = .ok (.invokevirtual 77, 3) := by decide +kernel
theorem dX3_follow_93 : decode cX3_follow 93 = .ok (.istore 6, 2) := by decide +kernel
theorem dX3_follow_95 : decode cX3_follow 95 = .ok (.iinc 8 1, 3) := by decide +kernel
theorem dX3_follow_98 : decode cX3_follow 98 = .ok (.goto (-86), 3) := by decide +kernel
theorem dX3_follow_101 : decode cX3_follow 101 = .ok (.aload_n 0, 1) := by decide +kernel
theorem dX3_follow_102 : decode cX3_follow 102 = .ok (.aload_n 1, 1) := by decide +kernel
theorem dX3_follow_103 : decode cX3_follow 103 = .ok (.iload_n 2, 1) := by decide +kernel
theorem dX3_follow_104 : decode cX3_follow 104 = .ok (.iload_n 3, 1) := by decide +kernel
theorem dX3_follow_105 : decode cX3_follow 105 = .ok (.aload 4, 2) := by decide +kernel
theorem dX3_follow_107 : decode cX3_follow 107 = .ok (.invokevirtual 154, 3) := by decide +kernel
theorem dX3_follow_110 : decode cX3_follow 110 = .ok (.iload 7, 2) := by decide +kernel
theorem dX3_follow_112 : decode cX3_follow 112 = .ok (.ireturn, 1) := by decide +kernel
theorem dX3_tellFollowed_0 : decode cX3_tellFollowed 0 = .ok (.iload_n 2, 1) := by decide +kernel
theorem dX3_tellFollowed_1 : decode cX3_tellFollowed 1 = .ok (.istore 5, 2) := by decide +kernel
theorem dX3_tellFollowed_3 : decode cX3_tellFollowed 3 = .ok (.iload_n 3, 1) := by decide +kernel
theorem dX3_tellFollowed_4 : decode cX3_tellFollowed 4 = .ok (.istore 6, 2) := by decide +kernel
theorem dX3_tellFollowed_6 : decode cX3_tellFollowed 6 = .ok (.aload 4, 2) := by decide +kernel
theorem dX3_tellFollowed_8 : decode cX3_tellFollowed 8 = .ok (.invokevirtual 104, 3) := by decide +kernel
theorem dX3_tellFollowed_11 : decode cX3_tellFollowed 11 = .ok (.iconst 0, 1) := by decide +kernel
theorem dX3_tellFollowed_12 : decode cX3_tellFollowed 12 = .ok (.istore 7, 2) := by decide +kernel
theorem dX3_tellFollowed_14 : decode cX3_tellFollowed 14 = .ok (.iload 7, 2) := by decide +kernel
theorem dX3_tellFollowed_16 : decode cX3_tellFollowed 16 = .ok (.aload_n 1, 1) := by decide +kernel
theorem dX3_tellFollowed_17 : decode cX3_tellFollowed 17 = .ok (.getfield 143, 3) := by decide +kernel
theorem dX3_tellFollowed_20 : decode cX3_tellFollowed 20 = .ok (.if_icmp .ge 70, 3) := by decide +kernel
theorem dX3_tellFollowed_23 : decode cX3_tellFollowed 23 = .ok (.aload_n 1, 1) := by decide +kernel
theorem dX3_tellFollowed_24 : decode cX3_tellFollowed 24 = .ok (.iload 7, 2) := by decide +kernel
theorem dX3_tellFollowed_26 : decode cX3_tellFollowed 26 = .ok (.invokevirtual 148, 3) := by decide +kernel
theorem dX3_tellFollowed_29 : decode cX3_tellFollowed 29 = .ok (.bipush 97, 2) := by decide +kernel
theorem dX3_tellFollowed_31 : decode cX3_tellFollowed 31 = .ok (.isub, 1) := by decide +kernel
theorem dX3_tellFollowed_32 : decode cX3_tellFollowed 32 = .ok (.istore 8, 2) := by decide +kernel
theorem dX3_tellFollowed_34 : decode cX3_tellFollowed 34 = .ok (.aload_n 0, 1) := by decide +kernel
theorem dX3_tellFollowed_35 : decode cX3_tellFollowed 35 = .ok (.iload 5, 2) := by decide +kernel
theorem dX3_tellFollowed_37 : decode cX3_tellFollowed 37 = .ok (.iload 8, 2) := by decide +kernel
theorem dX3_tellFollowed_39 : decode cX3_tellFollowed 39 = .ok (.iload 6, 2) := by decide +kernel
theorem dX3_tellFollowed_41 : decode cX3_tellFollowed 41 = .ok (.invokevirtual 151, 3) := by decide +kernel
theorem dX3_tellFollowed_44 : decode cX3_tellFollowed 44 = .ok (.istore 9, 2) := by decide +kernel
theorem dX3_tellFollowed_46 : decode cX3_tellFollowed 46 = .ok (.iload 9, 2) := by decide +kernel
theorem dX3_tellFollowed_48 : decode cX3_tellFollowed 48 = .ok (.iconst (-1), 1) := by decide +kernel
theorem dX3_tellFollowed_49 : decode cX3_tellFollowed 49 = .ok (.if_icmp .ne 4, 3) := by decide +kernel
theorem dX3_tellFollowed_52 : decode cX3_tellFollowed 52 = .ok (.return_, 1) := by decide +kernel
theorem dX3_tellFollowed_53 : decode cX3_tellFollowed 53 = .ok (.aload 4, 2) := by decide +kernel
theorem dX3_tellFollowed_55 : decode cX3_tellFollowed 55 = .ok (.iload 9, 2) := by decide +kernel
theorem dX3_tellFollowed_57 : decode cX3_tellFollowed 57 = .ok (.invokevirtual 112, 3) := by decide +kernel
theorem dX3_tellFollowed_60 : decode cX3_tellFollowed 60 = .ok (.iload 8, 2) := by decide +kernel
theorem dX3_tellFollowed_62 : decode cX3_tellFollowed 62 = .ok (.istore 5, 2) := by decide +kernel
theorem dX3_tellFollowed_64 : decode cX3_tellFollowed 64 = .ok (.aload_n 0, 1) := by decide +kernel
theorem dX3_tellFollowed_65 : decode cX3_tellFollowed 65 = .ok (.getfield 25, 3) := by decide +kernel
theorem dX3_tellFollowed_68 : decode cX3_tellFollowed 68 = .ok (.aload_n 0, 1) := by decide +kernel
theorem dX3_tellFollowed_69 : decode cX3_tellFollowed 69 = .ok (.getfield 25, 3) := by decide +kernel
theorem dX3_tellFollowed_72 : decode cX3_tellFollowed 72 = .ok (.iload 9, 2) := by decide +kernel
theorem dX3_tellFollowed_74 : decode cX3_tellFollowed 74 = .ok (.iload 5, 2) := by decide +kernel
theorem dX3_tellFollowed_76 : decode cX3_tellFollowed 76 = .ok (.invokevirtual 95, 3) := by decide +kernel
theorem dX3_tellFollowed_79 : decode cX3_tellFollowed 79 = .ok (.invokevirtual 77, 3) := by decide +kernel
theorem dX3_tellFollowed_82 : decode cX3_tellFollowed 82 = .ok (.istore 6, 2) := by decide +kernel
theorem dX3_tellFollowed_84 : decode cX3_tellFollowed 84 = .ok (.iinc 7 1, 3) := by decide +kernel
theorem dX3_tellFollowed_87 : decode cX3_tellFollowed 87 = .ok (.goto (-73), 3) := by decide +kernel
theorem dX3_tellFollowed_90 : decode cX3_tellFollowed 90 = .ok (.return_, 1) := by decide +kernel
theorem dX3_meetingOf_0 : decode cX3_meetingOf 0 = .ok (.iload_n 1, 1) := by decide +kernel
theorem dX3_meetingOf_1 : decode cX3_meetingOf 1 = .ok (.iload_n 2, 1) := by decide +kernel
theorem dX3_meetingOf_2 : decode cX3_meetingOf 2 = .ok (.if_icmp .ne 5, 3) := by decide +kernel
theorem dX3_meetingOf_5 : decode cX3_meetingOf 5 = .ok (.iconst (-1), 1) := by decide +kernel
theorem dX3_meetingOf_6 : decode cX3_meetingOf 6 = .ok (.ireturn, 1) := by decide +kernel
theorem dX3_meetingOf_7 : decode cX3_meetingOf 7 = .ok (.iconst 0, 1) := by decide +kernel
theorem dX3_meetingOf_8 : decode cX3_meetingOf 8 = .ok (.istore 4, 2) := by decide +kernel
theorem dX3_meetingOf_10 : decode cX3_meetingOf 10 = .ok (.iload 4, 2) := by decide +kernel
theorem dX3_meetingOf_12 : decode cX3_meetingOf 12 = .ok (.aload_n 0, 1) := by decide +kernel
theorem dX3_meetingOf_13 : decode cX3_meetingOf 13 = .ok (.getfield 25, 3) := by decide +kernel
theorem dX3_meetingOf_16 : decode cX3_meetingOf 16 = .ok (.getfield 35, 3) := by decide +kernel
theorem dX3_meetingOf_19 : decode cX3_meetingOf 19 = .ok (.if_icmp .ge 64, 3) := by decide +kernel
theorem dX3_meetingOf_22 : decode cX3_meetingOf 22 = .ok (.aload_n 0, 1) := by decide +kernel
theorem dX3_meetingOf_23 : decode cX3_meetingOf 23 = .ok (.getfield 25, 3) := by decide +kernel
theorem dX3_meetingOf_26 : decode cX3_meetingOf 26 = .ok (.getfield 38, 3) := by decide +kernel
theorem dX3_meetingOf_29 : decode cX3_meetingOf 29 = .ok (.iload 4, 2) := by decide +kernel
theorem dX3_meetingOf_31 : decode cX3_meetingOf 31 = .ok (.iaload, 1) := by decide +kernel
theorem dX3_meetingOf_32 : decode cX3_meetingOf 32 = .ok (.istore 5, 2) := by decide +kernel
theorem dX3_meetingOf_34 : decode cX3_meetingOf 34 = .ok (.aload_n 0, 1) := by decide +kernel
theorem dX3_meetingOf_35 : decode cX3_meetingOf 35 = .ok (.getfield 25, 3) := by decide +kernel
theorem dX3_meetingOf_38 : decode cX3_meetingOf 38 = .ok (.getfield 41, 3) := by decide +kernel
theorem dX3_meetingOf_41 : decode cX3_meetingOf 41 = .ok (.iload 5, 2) := by decide +kernel
theorem dX3_meetingOf_43 : decode cX3_meetingOf 43 = .ok (.iaload, 1) := by decide +kernel
theorem dX3_meetingOf_44 : decode cX3_meetingOf 44 = .ok (.iload_n 3, 1) := by decide +kernel
theorem dX3_meetingOf_45 : decode cX3_meetingOf 45 = .ok (.if_icmp .lt 32, 3) := by decide +kernel
theorem dX3_meetingOf_48 : decode cX3_meetingOf 48 = .ok (.aload_n 0, 1) := by decide +kernel
theorem dX3_meetingOf_49 : decode cX3_meetingOf 49 = .ok (.getfield 25, 3) := by decide +kernel
theorem dX3_meetingOf_52 : decode cX3_meetingOf 52 = .ok (.iload_n 1, 1) := by decide +kernel
theorem dX3_meetingOf_53 : decode cX3_meetingOf 53 = .ok (.iload 5, 2) := by decide +kernel
theorem dX3_meetingOf_55 : decode cX3_meetingOf 55 = .ok (.invokevirtual 92, 3) := by decide +kernel
theorem dX3_meetingOf_58 : decode cX3_meetingOf 58 = .ok (.ifCond .eq 19, 3) := by decide +kernel
theorem dX3_meetingOf_61 : decode cX3_meetingOf 61 = .ok (.aload_n 0, 1) := by decide +kernel
theorem dX3_meetingOf_62 : decode cX3_meetingOf 62 = .ok (.getfield 25, 3) := by decide +kernel
theorem dX3_meetingOf_65 : decode cX3_meetingOf 65 = .ok (.iload_n 2, 1) := by decide +kernel
theorem dX3_meetingOf_66 : decode cX3_meetingOf 66 = .ok (.iload 5, 2) := by decide +kernel
theorem dX3_meetingOf_68 : decode cX3_meetingOf 68 = .ok (.invokevirtual 92, 3) := by decide +kernel
theorem dX3_meetingOf_71 : decode cX3_meetingOf 71 = .ok (.ifCond .eq 6, 3) := by decide +kernel
theorem dX3_meetingOf_74 : decode cX3_meetingOf 74 = .ok (.iload 5, 2) := by decide +kernel
theorem dX3_meetingOf_76 : decode cX3_meetingOf 76 = .ok (.ireturn, 1) := by decide +kernel
theorem dX3_meetingOf_77 : decode cX3_meetingOf 77 = .ok (.iinc 4 1, 3) := by decide +kernel
theorem dX3_meetingOf_80 : decode cX3_meetingOf 80 = .ok (.goto (-70), 3) := by decide +kernel
theorem dX3_meetingOf_83 : decode cX3_meetingOf 83 = .ok (.iconst (-1), 1) := by decide +kernel
theorem dX3_meetingOf_84 : decode cX3_meetingOf 84 = .ok (.ireturn, 1) := by decide +kernel
theorem dX3_answerHour_0 : decode cX3_answerHour 0 = .ok (.aload_n 0, 1) := by decide +kernel
theorem dX3_answerHour_1 : decode cX3_answerHour 1 = .ok (.iload_n 1, 1) := by decide +kernel
theorem dX3_answerHour_2 : decode cX3_answerHour 2 = .ok (.iload_n 3, 1) := by decide +kernel
theorem dX3_answerHour_3 : decode cX3_answerHour 3 = .ok (.iconst 0, 1) := by decide +kernel
theorem dX3_answerHour_4 : decode cX3_answerHour 4 = .ok (.iconst (-1), 1) := by decide +kernel
theorem dX3_answerHour_5 : decode cX3_answerHour 5 = .ok (.invokevirtual 132, 3) := by decide +kernel
theorem dX3_answerHour_8 : decode cX3_answerHour 8 = .ok (.aload_n 0, 1) := by decide +kernel
theorem dX3_answerHour_9 : decode cX3_answerHour 9 = .ok (.getfield 9, 3) := by decide +kernel
theorem dX3_answerHour_12 : decode cX3_answerHour 12 = .ok (.iload_n 2, 1) := by decide +kernel
theorem dX3_answerHour_13 : decode cX3_answerHour 13 = .ok (.iaload, 1) := by decide +kernel
theorem dX3_answerHour_14 : decode cX3_answerHour 14 = .ok (.istore 4, 2) := by decide +kernel
theorem dX3_answerHour_16 : decode cX3_answerHour 16 = .ok (.iload 4, 2) := by decide +kernel
theorem dX3_answerHour_18 : decode cX3_answerHour 18 = .ok (.iconst (-1), 1) := by decide +kernel
theorem dX3_answerHour_19 : decode cX3_answerHour 19 = .ok (.if_icmp .ne 5, 3) := by decide +kernel
theorem dX3_answerHour_22 : decode cX3_answerHour 22 = .ok (.iconst (-1), 1) := by decide +kernel
theorem dX3_answerHour_23 : decode cX3_answerHour 23 = .ok (.ireturn, 1) := by decide +kernel
theorem dX3_answerHour_24 : decode cX3_answerHour 24 = .ok (.aload_n 0, 1) := by decide +kernel
theorem dX3_answerHour_25 : decode cX3_answerHour 25 = .ok (.iload 4, 2) := by decide +kernel
theorem dX3_answerHour_27 : decode cX3_answerHour 27 = .ok (.putfield 158, 3) := by decide +kernel
theorem dX3_answerHour_30 : decode cX3_answerHour 30 = .ok (.aload_n 0, 1) := by decide +kernel
theorem dX3_answerHour_31 : decode cX3_answerHour 31 = .ok (.iload_n 2, 1) := by decide +kernel
theorem dX3_answerHour_32 : decode cX3_answerHour 32 = .ok (.iload 4, 2) := by decide +kernel
theorem dX3_answerHour_34 : decode cX3_answerHour 34 = .ok (.aload_n 0, 1) := by decide +kernel
theorem dX3_answerHour_35 : decode cX3_answerHour 35 = .ok (.getfield 25, 3) := by decide +kernel
theorem dX3_answerHour_38 : decode cX3_answerHour 38 = .ok (.getfield 62, 3) := by decide +kernel
theorem dX3_answerHour_41 : decode cX3_answerHour 41 = .ok (.iload_n 2, 1) := by decide +kernel
theorem dX3_answerHour_42 : decode cX3_answerHour 42 = .ok (.iaload, 1) := by decide +kernel
theorem dX3_answerHour_43 : decode cX3_answerHour 43 = .ok (.iadd, 1) := by decide +kernel
theorem dX3_answerHour_44 : decode cX3_answerHour 44 = .ok (.iconst 0, 1) := by decide +kernel
theorem dX3_answerHour_45 : decode cX3_answerHour 45 = .ok (.iconst (-1), 1) := by decide +kernel
theorem dX3_answerHour_46 : decode cX3_answerHour 46 = .ok (.invokevirtual 132, 3) := by decide +kernel
theorem dX3_answerHour_49 : decode cX3_answerHour 49 = .ok (.aload_n 0, 1) := by decide +kernel
theorem dX3_answerHour_50 : decode cX3_answerHour 50 = .ok (.getfield 9, 3) := by decide +kernel
theorem dX3_answerHour_53 : decode cX3_answerHour 53 = .ok (.iload_n 1, 1) := by decide +kernel
theorem dX3_answerHour_54 : decode cX3_answerHour 54 = .ok (.iaload, 1) := by decide +kernel
theorem dX3_answerHour_55 : decode cX3_answerHour 55 = .ok (.ireturn, 1) := by decide +kernel
theorem dX3_knowers_0 : decode cX3_knowers 0 = .ok (.aload_n 0, 1) := by decide +kernel
theorem dX3_knowers_1 : decode cX3_knowers 1 = .ok (.iload_n 1, 1) := by decide +kernel
theorem dX3_knowers_2 : decode cX3_knowers 2 = .ok (.iload_n 2, 1) := by decide +kernel
theorem dX3_knowers_3 : decode cX3_knowers 3 = .ok (.iconst 0, 1) := by decide +kernel
theorem dX3_knowers_4 : decode cX3_knowers 4 = .ok (.iconst (-1), 1) := by decide +kernel
theorem dX3_knowers_5 : decode cX3_knowers 5 = .ok (.invokevirtual 132, 3) := by decide +kernel
theorem dX3_knowers_8 : decode cX3_knowers 8 = .ok (.iconst 1, 1) := by decide +kernel
theorem dX3_knowers_9 : decode cX3_knowers 9 = .ok (.iload_n 1, 1) := by decide +kernel
theorem dX3_knowers_10 : decode cX3_knowers 10 = .ok (.ishl, 1) := by decide +kernel
theorem dX3_knowers_11 : decode cX3_knowers 11 = .ok (.istore 4, 2) := by decide +kernel
theorem dX3_knowers_13 : decode cX3_knowers 13 = .ok (.aload_n 0, 1) := by decide +kernel
theorem dX3_knowers_14 : decode cX3_knowers 14 = .ok (.iload_n 2, 1) := by decide +kernel
theorem dX3_knowers_15 : decode cX3_knowers 15 = .ok (.putfield 161, 3) := by decide +kernel
theorem dX3_knowers_18 : decode cX3_knowers 18 = .ok (.iconst 0, 1) := by decide +kernel
theorem dX3_knowers_19 : decode cX3_knowers 19 = .ok (.istore 5, 2) := by decide +kernel
theorem dX3_knowers_21 : decode cX3_knowers 21 = .ok (.iload 5, 2) := by decide +kernel
theorem dX3_knowers_23 : decode cX3_knowers 23 = .ok (.aload_n 0, 1) := by decide +kernel
theorem dX3_knowers_24 : decode cX3_knowers 24 = .ok (.getfield 25, 3) := by decide +kernel
theorem dX3_knowers_27 : decode cX3_knowers 27 = .ok (.getfield 29, 3) := by decide +kernel
theorem dX3_knowers_30 : decode cX3_knowers 30 = .ok (.if_icmp .ge 64, 3) := by decide +kernel
theorem dX3_knowers_33 : decode cX3_knowers 33 = .ok (.iload 5, 2) := by decide +kernel
theorem dX3_knowers_35 : decode cX3_knowers 35 = .ok (.iload_n 1, 1) := by decide +kernel
theorem dX3_knowers_36 : decode cX3_knowers 36 = .ok (.if_icmp .eq 52, 3) := by decide +kernel
theorem dX3_knowers_39 : decode cX3_knowers 39 = .ok (.aload_n 0, 1) := by decide +kernel
theorem dX3_knowers_40 : decode cX3_knowers 40 = .ok (.getfield 9, 3) := by decide +kernel
theorem dX3_knowers_43 : decode cX3_knowers 43 = .ok (.iload 5, 2) := by decide +kernel
theorem dX3_knowers_45 : decode cX3_knowers 45 = .ok (.iaload, 1) := by decide +kernel
theorem dX3_knowers_46 : decode cX3_knowers 46 = .ok (.iconst (-1), 1) := by decide +kernel
theorem dX3_knowers_47 : decode cX3_knowers 47 = .ok (.if_icmp .eq 41, 3) := by decide +kernel
theorem dX3_knowers_50 : decode cX3_knowers 50 = .ok (.aload_n 0, 1) := by decide +kernel
theorem dX3_knowers_51 : decode cX3_knowers 51 = .ok (.getfield 9, 3) := by decide +kernel
theorem dX3_knowers_54 : decode cX3_knowers 54 = .ok (.iload 5, 2) := by decide +kernel
theorem dX3_knowers_56 : decode cX3_knowers 56 = .ok (.iaload, 1) := by decide +kernel
theorem dX3_knowers_57 : decode cX3_knowers 57 = .ok (.iload_n 3, 1) := by decide +kernel
theorem dX3_knowers_58 : decode cX3_knowers 58 = .ok (.if_icmp .gt 30, 3) := by decide +kernel
theorem dX3_knowers_61 : decode cX3_knowers 61 = .ok (.iload 4, 2) := by decide +kernel
theorem dX3_knowers_63 : decode cX3_knowers 63 = .ok (.iconst 1, 1) := by decide +kernel
theorem dX3_knowers_64 : decode cX3_knowers 64 = .ok (.iload 5, 2) := by decide +kernel
theorem dX3_knowers_66 : decode cX3_knowers 66 = .ok (.ishl, 1) := by decide +kernel
theorem dX3_knowers_67 : decode cX3_knowers 67 = .ok (.ior, 1) := by decide +kernel
theorem dX3_knowers_68 : decode cX3_knowers 68 = .ok (.istore 4, 2) := by decide +kernel
theorem dX3_knowers_70 : decode cX3_knowers 70 = .ok (.aload_n 0, 1) := by decide +kernel
theorem dX3_knowers_71 : decode cX3_knowers 71 = .ok (.aload_n 0, 1) := by decide +kernel
theorem dX3_knowers_72 : decode cX3_knowers 72 = .ok (.getfield 161, 3) := by decide +kernel
theorem dX3_knowers_75 : decode cX3_knowers 75 = .ok (.aload_n 0, 1) := by decide +kernel
theorem dX3_knowers_76 : decode cX3_knowers 76 = .ok (.getfield 9, 3) := by decide +kernel
theorem dX3_knowers_79 : decode cX3_knowers 79 = .ok (.iload 5, 2) := by decide +kernel
theorem dX3_knowers_81 : decode cX3_knowers 81 = .ok (.iaload, 1) := by decide +kernel
theorem dX3_knowers_82 : decode cX3_knowers 82 = .ok (.invokestatic 122, 3) := by decide +kernel
theorem dX3_knowers_85 : decode cX3_knowers 85 = .ok (.putfield 161, 3) := by decide +kernel
theorem dX3_knowers_88 : decode cX3_knowers 88 = .ok (.iinc 5 1, 3) := by decide +kernel
theorem dX3_knowers_91 : decode cX3_knowers 91 = .ok (.goto (-70), 3) := by decide +kernel
theorem dX3_knowers_94 : decode cX3_knowers 94 = .ok (.iload 4, 2) := by decide +kernel
theorem dX3_knowers_96 : decode cX3_knowers 96 = .ok (.ireturn, 1) := by decide +kernel
theorem dX3_fewestHeralds_0 : decode cX3_fewestHeralds 0 = .ok (.iconst 0, 1) := by decide +kernel
theorem dX3_fewestHeralds_1 : decode cX3_fewestHeralds 1 = .ok (.istore_n 3, 1) := by decide +kernel
theorem dX3_fewestHeralds_2 : decode cX3_fewestHeralds 2 = .ok (.iload_n 3, 1) := by decide +kernel
theorem dX3_fewestHeralds_3 : decode cX3_fewestHeralds 3 = .ok (.aload_n 0, 1) := by decide +kernel
theorem dX3_fewestHeralds_4 : decode cX3_fewestHeralds 4 = .ok (.getfield 25, 3) := by decide +kernel
theorem dX3_fewestHeralds_7 : decode cX3_fewestHeralds 7 = .ok (.getfield 29, 3) := by decide +kernel
theorem dX3_fewestHeralds_10 : decode cX3_fewestHeralds 10 = .ok (.if_icmp .ge 22, 3) := by decide +kernel
theorem dX3_fewestHeralds_13 : decode cX3_fewestHeralds 13 = .ok (.aload_n 0, 1) := by decide +kernel
theorem dX3_fewestHeralds_14 : decode cX3_fewestHeralds 14 = .ok (.getfield 22, 3) := by decide +kernel
theorem dX3_fewestHeralds_17 : decode cX3_fewestHeralds 17 = .ok (.iload_n 3, 1) := by decide +kernel
theorem dX3_fewestHeralds_18 : decode cX3_fewestHeralds 18 = .ok (.aload_n 0, 1) := by decide +kernel
theorem dX3_fewestHeralds_19 : decode cX3_fewestHeralds 19 = .ok (.iload_n 3, 1) := by decide +kernel
theorem dX3_fewestHeralds_20 : decode cX3_fewestHeralds 20 = .ok (.iload_n 1, 1) := by decide +kernel
theorem dX3_fewestHeralds_21 : decode cX3_fewestHeralds 21 = .ok (.iload_n 2, 1) := by decide +kernel
theorem dX3_fewestHeralds_22 : decode cX3_fewestHeralds 22 = .ok (.invokevirtual 164, 3) := by decide +kernel
theorem dX3_fewestHeralds_25 : decode cX3_fewestHeralds 25 = .ok (.iastore, 1) := by decide +kernel
theorem dX3_fewestHeralds_26 : decode cX3_fewestHeralds 26 = .ok (.iinc 3 1, 3) := by decide +kernel
theorem dX3_fewestHeralds_29 : decode cX3_fewestHeralds 29 = .ok (.goto (-27), 3) := by decide +kernel
theorem dX3_fewestHeralds_32 : decode cX3_fewestHeralds 32 = .ok (.aload_n 0, 1) := by decide +kernel
theorem dX3_fewestHeralds_33 : decode cX3_fewestHeralds 33 = .ok (.getfield 25, 3) := by decide +kernel
theorem dX3_fewestHeralds_36 : decode cX3_fewestHeralds 36 = .ok (.invokevirtual 135, 3) := by decide +kernel
theorem dX3_fewestHeralds_39 : decode cX3_fewestHeralds 39 = .ok (.istore_n 3, 1) := by decide +kernel
theorem dX3_fewestHeralds_40 : decode cX3_fewestHeralds 40 = .ok (.iconst 0, 1) := by decide +kernel
theorem dX3_fewestHeralds_41 : decode cX3_fewestHeralds 41 = .ok (.istore 4, 2) := by decide +kernel
theorem dX3_fewestHeralds_43 : decode cX3_fewestHeralds 43 = .ok (.iload 4, 2) := by decide +kernel
theorem dX3_fewestHeralds_45 : decode cX3_fewestHeralds 45 = .ok (.aload_n 0, 1) := by decide +kernel
theorem dX3_fewestHeralds_46 : decode cX3_fewestHeralds 46 = .ok (.getfield 25, 3) := by decide +kernel
theorem dX3_fewestHeralds_49 : decode cX3_fewestHeralds 49 = .ok (.invokevirtual 135, 3) := by decide +kernel
theorem dX3_fewestHeralds_52 : decode cX3_fewestHeralds 52 = .ok (.if_icmp .ge 40, 3) := by decide +kernel
theorem dX3_fewestHeralds_55 : decode cX3_fewestHeralds 55 = .ok (.iload 4, 2) := by decide +kernel
theorem dX3_fewestHeralds_57 : decode cX3_fewestHeralds 57 = .ok (.invokestatic 167, 3) := by decide +kernel
theorem dX3_fewestHeralds_60 : decode cX3_fewestHeralds 60 = .ok (.iload_n 3, 1) := by decide +kernel
theorem dX3_fewestHeralds_61 : decode cX3_fewestHeralds 61 = .ok (.invokestatic 167, 3) := by decide +kernel
theorem dX3_fewestHeralds_64 : decode cX3_fewestHeralds 64 = .ok (.if_icmp .ge 22, 3) := by decide +kernel
theorem dX3_fewestHeralds_67 : decode cX3_fewestHeralds 67 = .ok (.aload_n 0, 1) := by decide +kernel
theorem dX3_fewestHeralds_68 : decode cX3_fewestHeralds 68 = .ok (.iload 4, 2) := by decide +kernel
theorem dX3_fewestHeralds_70 : decode cX3_fewestHeralds 70 = .ok (.invokevirtual 172, 3) := by decide +kernel
theorem dX3_fewestHeralds_73 : decode cX3_fewestHeralds 73 = .ok (.aload_n 0, 1) := by decide +kernel
theorem dX3_fewestHeralds_74 : decode cX3_fewestHeralds 74 = .ok (.getfield 25, 3) := by decide +kernel
theorem dX3_fewestHeralds_77 : decode cX3_fewestHeralds 77 = .ok (.invokevirtual 135, 3) := by decide +kernel
theorem dX3_fewestHeralds_80 : decode cX3_fewestHeralds 80 = .ok (.if_icmp .ne 6, 3) := by decide +kernel
theorem dX3_fewestHeralds_83 : decode cX3_fewestHeralds 83 = .ok (.iload 4, 2) := by decide +kernel
theorem dX3_fewestHeralds_85 : decode cX3_fewestHeralds 85 = .ok (.istore_n 3, 1) := by decide +kernel
theorem dX3_fewestHeralds_86 : decode cX3_fewestHeralds 86 = .ok (.iinc 4 1, 3) := by decide +kernel
theorem dX3_fewestHeralds_89 : decode cX3_fewestHeralds 89 = .ok (.goto (-46), 3) := by decide +kernel
theorem dX3_fewestHeralds_92 : decode cX3_fewestHeralds 92 = .ok (.iload_n 3, 1) := by decide +kernel
theorem dX3_fewestHeralds_93 : decode cX3_fewestHeralds 93 = .ok (.ireturn, 1) := by decide +kernel
theorem dX3_knownFrom_0 : decode cX3_knownFrom 0 = .ok (.iconst 0, 1) := by decide +kernel
theorem dX3_knownFrom_1 : decode cX3_knownFrom 1 = .ok (.istore_n 2, 1) := by decide +kernel
theorem dX3_knownFrom_2 : decode cX3_knownFrom 2 = .ok (.iconst 0, 1) := by decide +kernel
theorem dX3_knownFrom_3 : decode cX3_knownFrom 3 = .ok (.istore_n 3, 1) := by decide +kernel
theorem dX3_knownFrom_4 : decode cX3_knownFrom 4 = .ok (.iload_n 3, 1) := by decide +kernel
theorem dX3_knownFrom_5 : decode cX3_knownFrom 5 = .ok (.aload_n 0, 1) := by decide +kernel
theorem dX3_knownFrom_6 : decode cX3_knownFrom 6 = .ok (.getfield 25, 3) := by decide +kernel
theorem dX3_knownFrom_9 : decode cX3_knownFrom 9 = .ok (.getfield 29, 3) := by decide +kernel
theorem dX3_knownFrom_12 : decode cX3_knownFrom 12 = .ok (.if_icmp .ge 26, 3) := by decide +kernel
theorem dX3_knownFrom_15 : decode cX3_knownFrom 15 = .ok (.iload_n 1, 1) := by decide +kernel
theorem dX3_knownFrom_16 : decode cX3_knownFrom 16 = .ok (.iconst 1, 1) := by decide +kernel
theorem dX3_knownFrom_17 : decode cX3_knownFrom 17 = .ok (.iload_n 3, 1) := by decide +kernel
theorem dX3_knownFrom_18 : decode cX3_knownFrom 18 = .ok (.ishl, 1) := by decide +kernel
theorem dX3_knownFrom_19 : decode cX3_knownFrom 19 = .ok (.iand, 1) := by decide +kernel
theorem dX3_knownFrom_20 : decode cX3_knownFrom 20 = .ok (.ifCond .eq 12, 3) := by decide +kernel
theorem dX3_knownFrom_23 : decode cX3_knownFrom 23 = .ok (.iload_n 2, 1) := by decide +kernel
theorem dX3_knownFrom_24 : decode cX3_knownFrom 24 = .ok (.aload_n 0, 1) := by decide +kernel
theorem dX3_knownFrom_25 : decode cX3_knownFrom 25 = .ok (.getfield 22, 3) := by decide +kernel
theorem dX3_knownFrom_28 : decode cX3_knownFrom 28 = .ok (.iload_n 3, 1) := by decide +kernel
theorem dX3_knownFrom_29 : decode cX3_knownFrom 29 = .ok (.iaload, 1) := by decide +kernel
theorem dX3_knownFrom_30 : decode cX3_knownFrom 30 = .ok (.ior, 1) := by decide +kernel
theorem dX3_knownFrom_31 : decode cX3_knownFrom 31 = .ok (.istore_n 2, 1) := by decide +kernel
theorem dX3_knownFrom_32 : decode cX3_knownFrom 32 = .ok (.iinc 3 1, 3) := by decide +kernel
theorem dX3_knownFrom_35 : decode cX3_knownFrom 35 = .ok (.goto (-31), 3) := by decide +kernel
theorem dX3_knownFrom_38 : decode cX3_knownFrom 38 = .ok (.iload_n 2, 1) := by decide +kernel
theorem dX3_knownFrom_39 : decode cX3_knownFrom 39 = .ok (.ireturn, 1) := by decide +kernel
theorem dX4_init_0 : decode cX4_init 0 = .ok (.aload_n 0, 1) := by decide +kernel
theorem dX4_init_1 : decode cX4_init 1 = .ok (.invokespecial 3, 3) := by decide +kernel
theorem dX4_init_4 : decode cX4_init 4 = .ok (.aload_n 0, 1) := by decide +kernel
theorem dX4_init_5 : decode cX4_init 5 = .ok (.new 9, 3) := by decide +kernel
theorem dX4_init_8 : decode cX4_init 8 = .ok (.dup, 1) := by decide +kernel
theorem dX4_init_9 : decode cX4_init 9 = .ok (.invokespecial 11, 3) := by decide +kernel
theorem dX4_init_12 : decode cX4_init 12 = .ok (.putfield 12, 3) := by decide +kernel
theorem dX4_init_15 : decode cX4_init 15 = .ok (.aload_n 0, 1) := by decide +kernel
theorem dX4_init_16 : decode cX4_init 16 = .ok (.iconst 2, 1) := by decide +kernel
theorem dX4_init_17 : decode cX4_init 17 = .ok (.anewarray 9, 3) := by decide +kernel
theorem dX4_init_20 : decode cX4_init 20 = .ok (.putfield 18, 3) := by decide +kernel
theorem dX4_init_23 : decode cX4_init 23 = .ok (.aload_n 0, 1) := by decide +kernel
theorem dX4_init_24 : decode cX4_init 24 = .ok (.iconst 2, 1) := by decide +kernel
theorem dX4_init_25 : decode cX4_init 25 = .ok (.newarray .boolean, 2) := by decide +kernel
theorem dX4_init_27 : decode cX4_init 27 = .ok (.putfield 22, 3) := by decide +kernel
theorem dX4_init_30 : decode cX4_init 30 = .ok (.aload_n 0, 1) := by decide +kernel
theorem dX4_init_31 : decode cX4_init 31 = .ok (.aload_n 1, 1) := by decide +kernel
theorem dX4_init_32 : decode cX4_init 32 = .ok (.putfield 26, 3) := by decide +kernel
theorem dX4_init_35 : decode cX4_init 35 = .ok (.aload_n 0, 1) := by decide +kernel
theorem dX4_init_36 : decode cX4_init 36 = .ok (.aload_n 2, 1) := by decide +kernel
theorem dX4_init_37 : decode cX4_init 37 = .ok (.putfield 30, 3) := by decide +kernel
theorem dX4_init_40 : decode cX4_init 40 = .ok (.iconst 0, 1) := by decide +kernel
theorem dX4_init_41 : decode cX4_init 41 = .ok (.istore_n 3, 1) := by decide +kernel
theorem dX4_init_42 : decode cX4_init 42 = .ok (.iload_n 3, 1) := by decide +kernel
theorem dX4_init_43 : decode cX4_init 43 = .ok (.iconst 2, 1) := by decide +kernel
theorem dX4_init_44 : decode cX4_init 44 = .ok (.if_icmp .ge 22, 3) := by decide +kernel
theorem dX4_init_47 : decode cX4_init 47 = .ok (.aload_n 0, 1) := by decide +kernel
theorem dX4_init_48 : decode cX4_init 48 = .ok (.getfield 18, 3) := by decide +kernel
theorem dX4_init_51 : decode cX4_init 51 = .ok (.iload_n 3, 1) := by decide +kernel
theorem dX4_init_52 : decode cX4_init 52 = .ok (.new 9, 3) := by decide +kernel
theorem dX4_init_55 : decode cX4_init 55 = .ok (.dup, 1) := by decide +kernel
theorem dX4_init_56 : decode cX4_init 56 = .ok (.invokespecial 11, 3) := by decide +kernel
theorem dX4_init_59 : decode cX4_init 59 = .ok (.aastore, 1) := by decide +kernel
theorem dX4_init_60 : decode cX4_init 60 = .ok (.iinc 3 1, 3) := by decide +kernel
theorem dX4_init_63 : decode cX4_init 63 = .ok (.goto (-21), 3) := by decide +kernel
theorem dX4_init_66 : decode cX4_init 66 = .ok (.return_, 1) := by decide +kernel
theorem dX4_store_0 : decode cX4_store 0 = .ok (.iload_n 1, 1) := by decide +kernel
theorem dX4_store_1 : decode cX4_store 1 = .ok (.ifCond .lt 8, 3) := by decide +kernel
theorem dX4_store_4 : decode cX4_store 4 = .ok (.iload_n 1, 1) := by decide +kernel
theorem dX4_store_5 : decode cX4_store 5 = .ok (.iconst 2, 1) := by decide +kernel
theorem dX4_store_6 : decode cX4_store 6 = .ok (.if_icmp .lt 5, 3) := by decide +kernel
theorem dX4_store_9 : decode cX4_store 9 = .ok (.iconst 0, 1) := by decide +kernel
theorem dX4_store_10 : decode cX4_store 10 = .ok (.ireturn, 1) := by decide +kernel
theorem dX4_store_11 : decode cX4_store 11 = .ok (.aload_n 0, 1) := by decide +kernel
theorem dX4_store_12 : decode cX4_store 12 = .ok (.getfield 18, 3) := by decide +kernel
theorem dX4_store_15 : decode cX4_store 15 = .ok (.iload_n 1, 1) := by decide +kernel
theorem dX4_store_16 : decode cX4_store 16 = .ok (.aaload, 1) := by decide +kernel
theorem dX4_store_17 : decode cX4_store 17 = .ok (.aload_n 0, 1) := by decide +kernel
theorem dX4_store_18 : decode cX4_store 18 = .ok (.getfield 12, 3) := by decide +kernel
theorem dX4_store_21 : decode cX4_store 21 = .ok (.invokevirtual 34, 3) := by decide +kernel
theorem dX4_store_24 : decode cX4_store 24 = .ok (.aload_n 0, 1) := by decide +kernel
theorem dX4_store_25 : decode cX4_store 25 = .ok (.getfield 22, 3) := by decide +kernel
theorem dX4_store_28 : decode cX4_store 28 = .ok (.iload_n 1, 1) := by decide +kernel
theorem dX4_store_29 : decode cX4_store 29 = .ok (.iconst 1, 1) := by decide +kernel
theorem dX4_store_30 : decode cX4_store 30 = .ok (.bastore, 1) := by decide +kernel
theorem dX4_store_31 : decode cX4_store 31 = .ok (.iconst 1, 1) := by decide +kernel
theorem dX4_store_32 : decode cX4_store 32 = .ok (.ireturn, 1) := by decide +kernel
theorem dX4_fetch_0 : decode cX4_fetch 0 = .ok (.iload_n 1, 1) := by decide +kernel
theorem dX4_fetch_1 : decode cX4_fetch 1 = .ok (.ifCond .lt 17, 3) := by decide +kernel
theorem dX4_fetch_4 : decode cX4_fetch 4 = .ok (.iload_n 1, 1) := by decide +kernel
theorem dX4_fetch_5 : decode cX4_fetch 5 = .ok (.iconst 2, 1) := by decide +kernel
theorem dX4_fetch_6 : decode cX4_fetch 6 = .ok (.if_icmp .ge 12, 3) := by decide +kernel
theorem dX4_fetch_9 : decode cX4_fetch 9 = .ok (.aload_n 0, 1) := by decide +kernel
theorem dX4_fetch_10 : decode cX4_fetch 10 = .ok (.getfield 22, 3) := by decide +kernel
theorem dX4_fetch_13 : decode cX4_fetch 13 = .ok (.iload_n 1, 1) := by decide +kernel
theorem dX4_fetch_14 : decode cX4_fetch 14 = .ok (.baload, 1) := by decide +kernel
theorem dX4_fetch_15 : decode cX4_fetch 15 = .ok (.ifCond .ne 5, 3) := by decide +kernel
theorem dX4_fetch_18 : decode cX4_fetch 18 = .ok (.iconst 0, 1) := by decide +kernel
theorem dX4_fetch_19 : decode cX4_fetch 19 = .ok (.ireturn, 1) := by decide +kernel
theorem dX4_fetch_20 : decode cX4_fetch 20 = .ok (.aload_n 0, 1) := by decide +kernel
theorem dX4_fetch_21 : decode cX4_fetch 21 = .ok (.getfield 12, 3) := by decide +kernel
theorem dX4_fetch_24 : decode cX4_fetch 24 = .ok (.aload_n 0, 1) := by decide +kernel
theorem dX4_fetch_25 : decode cX4_fetch 25 = .ok (.getfield 18, 3) := by decide +kernel
theorem dX4_fetch_28 : decode cX4_fetch 28 = .ok (.iload_n 1, 1) := by decide +kernel
theorem dX4_fetch_29 : decode cX4_fetch 29 = .ok (.aaload, 1) := by decide +kernel
theorem dX4_fetch_30 : decode cX4_fetch 30 = .ok (.invokevirtual 34, 3) := by decide +kernel
theorem dX4_fetch_33 : decode cX4_fetch 33 = .ok (.iconst 1, 1) := by decide +kernel
theorem dX4_fetch_34 : decode cX4_fetch 34 = .ok (.ireturn, 1) := by decide +kernel
theorem dX4_handOn_0 : decode cX4_handOn 0 = .ok (.aload_n 0, 1) := by decide +kernel
theorem dX4_handOn_1 : decode cX4_handOn 1 = .ok (.getfield 12, 3) := by decide +kernel
theorem dX4_handOn_4 : decode cX4_handOn 4 = .ok (.getfield 38, 3) := by decide +kernel
theorem dX4_handOn_7 : decode cX4_handOn 7 = .ok (.iload_n 1, 1) := by decide +kernel
theorem dX4_handOn_8 : decode cX4_handOn 8 = .ok (.iaload, 1) := by decide +kernel
theorem dX4_handOn_9 : decode cX4_handOn 9 = .ok (.iconst 1, 1) := by decide +kernel
theorem dX4_handOn_10 : decode cX4_handOn 10 = .ok (.isub, 1) := by decide +kernel
theorem dX4_handOn_11 : decode cX4_handOn 11 = .ok (.istore_n 3, 1) := by decide +kernel
theorem dX4_handOn_12 : decode cX4_handOn 12 = .ok (.aload_n 0, 1) := by decide +kernel
theorem dX4_handOn_13 : decode cX4_handOn 13 = .ok (.getfield 12, 3) := by decide +kernel
theorem dX4_handOn_16 : decode cX4_handOn 16 = .ok (.iload_n 1, 1) := by decide +kernel
theorem dX4_handOn_17 : decode cX4_handOn 17 = .ok (.iload_n 3, 1) := by decide +kernel
theorem dX4_handOn_18 : decode cX4_handOn 18 = .ok (.invokevirtual 42, 3) := by decide +kernel
theorem dX4_handOn_21 : decode cX4_handOn 21 = .ok (.istore 4, 2) := by decide +kernel
theorem dX4_handOn_23 : decode cX4_handOn 23 = .ok (.aload_n 0, 1) := by decide +kernel
theorem dX4_handOn_24 : decode cX4_handOn 24 = .ok (.getfield 26, 3) := by decide +kernel
theorem dX4_handOn_27 : decode cX4_handOn 27 = .ok (.iload 4, 2) := by decide +kernel
theorem dX4_handOn_29 : decode cX4_handOn 29 = .ok (.iload_n 2, 1) := by decide +kernel
theorem dX4_handOn_30 : decode cX4_handOn 30 = .ok (.invokevirtual 46, 3) := by decide +kernel
theorem dX4_handOn_33 : decode cX4_handOn 33 = .ok (.ifCond .ne 6, 3) := by decide +kernel
theorem dX4_handOn_36 : decode cX4_handOn 36 = .ok (.bipush (-2), 2) := by decide +kernel
theorem dX4_handOn_38 : decode cX4_handOn 38 = .ok (.ireturn, 1) := by decide +kernel
theorem dX4_handOn_39 : decode cX4_handOn 39 = .ok (.aload_n 0, 1) := by decide +kernel
theorem dX4_handOn_40 : decode cX4_handOn 40 = .ok (.getfield 26, 3) := by decide +kernel
theorem dX4_handOn_43 : decode cX4_handOn 43 = .ok (.getfield 52, 3) := by decide +kernel
theorem dX4_handOn_46 : decode cX4_handOn 46 = .ok (.iload_n 2, 1) := by decide +kernel
theorem dX4_handOn_47 : decode cX4_handOn 47 = .ok (.iaload, 1) := by decide +kernel
theorem dX4_handOn_48 : decode cX4_handOn 48 = .ok (.aload_n 0, 1) := by decide +kernel
theorem dX4_handOn_49 : decode cX4_handOn 49 = .ok (.iload_n 1, 1) := by decide +kernel
theorem dX4_handOn_50 : decode cX4_handOn 50 = .ok (.invokevirtual 55, 3) := by decide +kernel
theorem dX4_handOn_53 : decode cX4_handOn 53 = .ok (.if_icmp .ge 6, 3) := by decide +kernel
theorem dX4_handOn_56 : decode cX4_handOn 56 = .ok (.bipush (-3), 2) := by decide +kernel
theorem dX4_handOn_58 : decode cX4_handOn 58 = .ok (.ireturn, 1) := by decide +kernel
theorem dX4_handOn_59 : decode cX4_handOn 59 = .ok (.aload_n 0, 1) := by decide +kernel
theorem dX4_handOn_60 : decode cX4_handOn 60 = .ok (.getfield 12, 3) := by decide +kernel
theorem dX4_handOn_63 : decode cX4_handOn 63 = .ok (.getfield 38, 3) := by decide +kernel
theorem dX4_handOn_66 : decode cX4_handOn 66 = .ok (.iload_n 1, 1) := by decide +kernel
theorem dX4_handOn_67 : decode cX4_handOn 67 = .ok (.iaload, 1) := by decide +kernel
theorem dX4_handOn_68 : decode cX4_handOn 68 = .ok (.bipush 30, 2) := by decide +kernel
theorem dX4_handOn_70 : decode cX4_handOn 70 = .ok (.if_icmp .lt 6, 3) := by decide +kernel
theorem dX4_handOn_73 : decode cX4_handOn 73 = .ok (.bipush (-4), 2) := by decide +kernel
theorem dX4_handOn_75 : decode cX4_handOn 75 = .ok (.ireturn, 1) := by decide +kernel
theorem dX4_handOn_76 : decode cX4_handOn 76 = .ok (.aload_n 0, 1) := by decide +kernel
theorem dX4_handOn_77 : decode cX4_handOn 77 = .ok (.getfield 26, 3) := by decide +kernel
theorem dX4_handOn_80 : decode cX4_handOn 80 = .ok (.iload_n 2, 1) := by decide +kernel
theorem dX4_handOn_81 : decode cX4_handOn 81 = .ok (.iload 4, 2) := by decide +kernel
theorem dX4_handOn_83 : decode cX4_handOn 83 = .ok (.invokevirtual 59, 3) := by decide +kernel
theorem dX4_handOn_86 : decode cX4_handOn 86 = .ok (.istore 5, 2) := by decide +kernel
theorem dX4_handOn_88 : decode cX4_handOn 88 = .ok (.aload_n 0, 1) := by decide +kernel
theorem dX4_handOn_89 : decode cX4_handOn 89 = .ok (.iload_n 1, 1) := by decide +kernel
theorem dX4_handOn_90 : decode cX4_handOn 90 = .ok (.iload_n 3, 1) := by decide +kernel
theorem dX4_handOn_91 : decode cX4_handOn 91 = .ok (.iconst 1, 1) := by decide +kernel
theorem dX4_handOn_92 : decode cX4_handOn 92 = .ok (.iadd, 1) := by decide +kernel
theorem dX4_handOn_93 : decode cX4_handOn 93 = .ok (.invokevirtual 62, 3) := by decide +kernel
theorem dX4_handOn_96 : decode cX4_handOn 96 = .ok (.aload_n 0, 1) := by decide +kernel
theorem dX4_handOn_97 : decode cX4_handOn 97 = .ok (.getfield 30, 3) := by decide +kernel
theorem dX4_handOn_100 : decode cX4_handOn 100 = .ok (.iload 5, 2) := by decide +kernel
theorem dX4_handOn_102 : decode cX4_handOn 102 = .ok (.iload 4, 2) := by decide +kernel
theorem dX4_handOn_104 : decode cX4_handOn 104 = .ok (.aload_n 0, 1) := by decide +kernel
theorem dX4_handOn_105 : decode cX4_handOn 105 = .ok (.getfield 26, 3) := by decide +kernel
theorem dX4_handOn_108 : decode cX4_handOn 108 = .ok (.getfield 52, 3) := by decide +kernel
theorem dX4_handOn_111 : decode cX4_handOn 111 = .ok (.iload_n 2, 1) := by decide +kernel
theorem dX4_handOn_112 : decode cX4_handOn 112 = .ok (.iaload, 1) := by decide +kernel
theorem dX4_handOn_113 : decode cX4_handOn 113 = .ok (.invokevirtual 66, 3) := by decide +kernel
theorem dX4_handOn_116 : decode cX4_handOn 116 = .ok (.istore 6, 2) := by decide +kernel
theorem dX4_handOn_118 : decode cX4_handOn 118 = .ok (.aload_n 0, 1) := by decide +kernel
theorem dX4_handOn_119 : decode cX4_handOn 119 = .ok (.getfield 12, 3) := by decide +kernel
theorem dX4_handOn_122 : decode cX4_handOn 122 = .ok (.iload_n 1, 1) := by decide +kernel
theorem dX4_handOn_123 : decode cX4_handOn 123 = .ok (.iload 5, 2) := by decide +kernel
theorem dX4_handOn_125 : decode cX4_handOn 125 = .ok (.aload_n 0, 1) := by decide +kernel
theorem dX4_handOn_126 : decode cX4_handOn 126 = .ok (.getfield 26, 3) := by decide +kernel
theorem dX4_handOn_129 : decode cX4_handOn 129 = .ok (.getfield 52, 3) := by decide +kernel
theorem dX4_handOn_132 : decode cX4_handOn 132 = .ok (.iload_n 2, 1) := by decide +kernel
theorem dX4_handOn_133 : decode cX4_handOn 133 = .ok (.iaload, 1) := by decide +kernel
theorem dX4_handOn_134 : decode cX4_handOn 134 = .ok (.iload 6, 2) := by decide +kernel
theorem dX4_handOn_136 : decode cX4_handOn 136 = .ok (.invokevirtual 72, 3) := by decide +kernel
theorem dX4_handOn_139 : decode cX4_handOn 139 = .ok (.iload 6, 2) := by decide +kernel
theorem dX4_handOn_141 : decode cX4_handOn 141 = .ok (.ireturn, 1) := by decide +kernel
theorem dX4_openMeetings_0 : decode cX4_openMeetings 0 = .ok (.iconst 0, 1) := by decide +kernel
theorem dX4_openMeetings_1 : decode cX4_openMeetings 1 = .ok (.istore_n 2, 1) := by decide +kernel
theorem dX4_openMeetings_2 : decode cX4_openMeetings 2 = .ok (.iconst 0, 1) := by decide +kernel
theorem dX4_openMeetings_3 : decode cX4_openMeetings 3 = .ok (.istore_n 3, 1) := by decide +kernel
theorem dX4_openMeetings_4 : decode cX4_openMeetings 4 = .ok (.iload_n 3, 1) := by decide +kernel
theorem dX4_openMeetings_5 : decode cX4_openMeetings 5 = .ok (.aload_n 0, 1) := by decide +kernel
theorem dX4_openMeetings_6 : decode cX4_openMeetings 6 = .ok (.getfield 26, 3) := by decide +kernel
theorem dX4_openMeetings_9 : decode cX4_openMeetings 9 = .ok (.getfield 76, 3) := by decide +kernel
theorem dX4_openMeetings_12 : decode cX4_openMeetings 12 = .ok (.if_icmp .ge 24, 3) := by decide +kernel
theorem dX4_openMeetings_15 : decode cX4_openMeetings 15 = .ok (.aload_n 0, 1) := by decide +kernel
theorem dX4_openMeetings_16 : decode cX4_openMeetings 16 = .ok (.iload_n 1, 1) := by decide +kernel
theorem dX4_openMeetings_17 : decode cX4_openMeetings 17 = .ok (.iload_n 3, 1) := by decide +kernel
theorem dX4_openMeetings_18 : decode cX4_openMeetings 18 = .ok (.invokevirtual 80, 3) := by decide +kernel
theorem dX4_openMeetings_21 : decode cX4_openMeetings 21 = .ok (.ifCond .eq 9, 3) := by decide +kernel
theorem dX4_openMeetings_24 : decode cX4_openMeetings 24 = .ok (.iload_n 2, 1) := by decide +kernel
theorem dX4_openMeetings_25 : decode cX4_openMeetings 25 = .ok (.iconst 1, 1) := by decide +kernel
theorem dX4_openMeetings_26 : decode cX4_openMeetings 26 = .ok (.iload_n 3, 1) := by decide +kernel
theorem dX4_openMeetings_27 : decode cX4_openMeetings 27 = .ok (.ishl, 1) := by decide +kernel
theorem dX4_openMeetings_28 : decode cX4_openMeetings 28 = .ok (.ior, 1) := by decide +kernel
theorem dX4_openMeetings_29 : decode cX4_openMeetings 29 = .ok (.istore_n 2, 1) := by decide +kernel
theorem dX4_openMeetings_30 : decode cX4_openMeetings 30 = .ok (.iinc 3 1, 3) := by decide +kernel
theorem dX4_openMeetings_33 : decode cX4_openMeetings 33 = .ok (.goto (-29), 3) := by decide +kernel
theorem dX4_openMeetings_36 : decode cX4_openMeetings 36 = .ok (.iload_n 2, 1) := by decide +kernel
theorem dX4_openMeetings_37 : decode cX4_openMeetings 37 = .ok (.ireturn, 1) := by decide +kernel
theorem dX4_passOn_0 : decode cX4_passOn 0 = .ok (.iconst 0, 1) := by decide +kernel
theorem dX4_passOn_1 : decode cX4_passOn 1 = .ok (.istore_n 3, 1) := by decide +kernel
theorem dX4_passOn_2 : decode cX4_passOn 2 = .ok (.iload_n 3, 1) := by decide +kernel
theorem dX4_passOn_3 : decode cX4_passOn 3 = .ok (.iload_n 2, 1) := by decide +kernel
theorem dX4_passOn_4 : decode cX4_passOn 4 = .ok (.if_icmp .ge 32, 3) := by decide +kernel
theorem dX4_passOn_7 : decode cX4_passOn 7 = .ok (.aload_n 0, 1) := by decide +kernel
theorem dX4_passOn_8 : decode cX4_passOn 8 = .ok (.iload_n 1, 1) := by decide +kernel
theorem dX4_passOn_9 : decode cX4_passOn 9 = .ok (.invokevirtual 83, 3) := by decide +kernel
theorem dX4_passOn_12 : decode cX4_passOn 12 = .ok (.istore 4, 2) := by decide +kernel
theorem dX4_passOn_14 : decode cX4_passOn 14 = .ok (.iload 4, 2) := by decide +kernel
theorem dX4_passOn_16 : decode cX4_passOn 16 = .ok (.iconst (-1), 1) := by decide +kernel
theorem dX4_passOn_17 : decode cX4_passOn 17 = .ok (.if_icmp .ne 5, 3) := by decide +kernel
theorem dX4_passOn_20 : decode cX4_passOn 20 = .ok (.iload_n 3, 1) := by decide +kernel
theorem dX4_passOn_21 : decode cX4_passOn 21 = .ok (.ireturn, 1) := by decide +kernel
theorem dX4_passOn_22 : decode cX4_passOn 22 = .ok (.aload_n 0, 1) := by decide +kernel
theorem dX4_passOn_23 : decode cX4_passOn 23 = .ok (.iload_n 1, 1) := by decide +kernel
theorem dX4_passOn_24 : decode cX4_passOn 24 = .ok (.iload 4, 2) := by decide +kernel
theorem dX4_passOn_26 : decode cX4_passOn 26 = .ok (.invokevirtual 86, 3) := by decide +kernel
theorem dX4_passOn_29 : decode cX4_passOn 29 = .ok (.pop, 1) := by decide +kernel
theorem dX4_passOn_30 : decode cX4_passOn 30 = .ok (.iinc 3 1, 3) := by decide +kernel
theorem dX4_passOn_33 : decode cX4_passOn 33 = .ok (.goto (-31), 3) := by decide +kernel
theorem dX4_passOn_36 : decode cX4_passOn 36 = .ok (.iload_n 2, 1) := by decide +kernel
theorem dX4_passOn_37 : decode cX4_passOn 37 = .ok (.ireturn, 1) := by decide +kernel
theorem dX4_firstFalse_0 : decode cX4_firstFalse 0 = .ok (.iconst 1, 1) := by decide +kernel
theorem dX4_firstFalse_1 : decode cX4_firstFalse 1 = .ok (.istore_n 2, 1) := by decide +kernel
theorem dX4_firstFalse_2 : decode cX4_firstFalse 2 = .ok (.iload_n 2, 1) := by decide +kernel
theorem dX4_firstFalse_3 : decode cX4_firstFalse 3 = .ok (.aload_n 0, 1) := by decide +kernel
theorem dX4_firstFalse_4 : decode cX4_firstFalse 4 = .ok (.getfield 12, 3) := by decide +kernel
theorem dX4_firstFalse_7 : decode cX4_firstFalse 7 = .ok (.getfield 38, 3) := by decide +kernel
theorem dX4_firstFalse_10 : decode cX4_firstFalse 10 = .ok (.iload_n 1, 1) := by decide +kernel
theorem dX4_firstFalse_11 : decode cX4_firstFalse 11 = .ok (.iaload, 1) := by decide +kernel
theorem dX4_firstFalse_12 : decode cX4_firstFalse 12 = .ok (.if_icmp .ge 71, 3) := by decide +kernel
theorem dX4_firstFalse_15 : decode cX4_firstFalse 15 = .ok (.aload_n 0, 1) := by decide +kernel
theorem dX4_firstFalse_16 : decode cX4_firstFalse 16 = .ok (.iload_n 1, 1) := by decide +kernel
theorem dX4_firstFalse_17 : decode cX4_firstFalse 17 = .ok (.iload_n 2, 1) := by decide +kernel
theorem dX4_firstFalse_18 : decode cX4_firstFalse 18 = .ok (.invokevirtual 62, 3) := by decide +kernel
theorem dX4_firstFalse_21 : decode cX4_firstFalse 21 = .ok (.aload_n 0, 1) := by decide +kernel
theorem dX4_firstFalse_22 : decode cX4_firstFalse 22 = .ok (.getfield 12, 3) := by decide +kernel
theorem dX4_firstFalse_25 : decode cX4_firstFalse 25 = .ok (.iload_n 1, 1) := by decide +kernel
theorem dX4_firstFalse_26 : decode cX4_firstFalse 26 = .ok (.iload_n 2, 1) := by decide +kernel
theorem dX4_firstFalse_27 : decode cX4_firstFalse 27 = .ok (.iconst 1, 1) := by decide +kernel
theorem dX4_firstFalse_28 : decode cX4_firstFalse 28 = .ok (.isub, 1) := by decide +kernel
theorem dX4_firstFalse_29 : decode cX4_firstFalse 29 = .ok (.invokevirtual 42, 3) := by decide +kernel
theorem dX4_firstFalse_32 : decode cX4_firstFalse 32 = .ok (.istore_n 3, 1) := by decide +kernel
theorem dX4_firstFalse_33 : decode cX4_firstFalse 33 = .ok (.aload_n 0, 1) := by decide +kernel
theorem dX4_firstFalse_34 : decode cX4_firstFalse 34 = .ok (.getfield 30, 3) := by decide +kernel
theorem dX4_firstFalse_37 : decode cX4_firstFalse 37 = .ok (.aload_n 0, 1) := by decide +kernel
theorem dX4_firstFalse_38 : decode cX4_firstFalse 38 = .ok (.getfield 12, 3) := by decide +kernel
theorem dX4_firstFalse_41 : decode cX4_firstFalse 41 = .ok (.iload_n 1, 1) := by decide +kernel
theorem dX4_firstFalse_42 : decode cX4_firstFalse 42 = .ok (.iload_n 2, 1) := by decide +kernel
theorem dX4_firstFalse_43 : decode cX4_firstFalse 43 = .ok (.invokevirtual 42, 3) := by decide +kernel
theorem dX4_firstFalse_46 : decode cX4_firstFalse 46 = .ok (.iload_n 3, 1) := by decide +kernel
theorem dX4_firstFalse_47 : decode cX4_firstFalse 47 = .ok (.aload_n 0, 1) := by decide +kernel
theorem dX4_firstFalse_48 : decode cX4_firstFalse 48 = .ok (.getfield 12, 3) := by decide +kernel
theorem dX4_firstFalse_51 : decode cX4_firstFalse 51 = .ok (.iload_n 1, 1) := by decide +kernel
theorem dX4_firstFalse_52 : decode cX4_firstFalse 52 = .ok (.iload_n 2, 1) := by decide +kernel
theorem dX4_firstFalse_53 : decode cX4_firstFalse 53 = .ok (.invokevirtual 89, 3) := by decide +kernel
theorem dX4_firstFalse_56 : decode cX4_firstFalse 56 = .ok (.invokevirtual 66, 3) := by decide +kernel
theorem dX4_firstFalse_59 : decode cX4_firstFalse 59 = .ok (.istore 4, 2) := by decide +kernel
theorem dX4_firstFalse_61 : decode cX4_firstFalse 61 = .ok (.iload 4, 2) := by decide +kernel
theorem dX4_firstFalse_63 : decode cX4_firstFalse 63 = .ok (.aload_n 0, 1) := by decide +kernel
theorem dX4_firstFalse_64 : decode cX4_firstFalse 64 = .ok (.getfield 12, 3) := by decide +kernel
theorem dX4_firstFalse_67 : decode cX4_firstFalse 67 = .ok (.iload_n 1, 1) := by decide +kernel
theorem dX4_firstFalse_68 : decode cX4_firstFalse 68 = .ok (.iload_n 2, 1) := by decide +kernel
theorem dX4_firstFalse_69 : decode cX4_firstFalse 69 = .ok (.invokevirtual 92, 3) := by decide +kernel
theorem dX4_firstFalse_72 : decode cX4_firstFalse 72 = .ok (.if_icmp .eq 5, 3) := by decide +kernel
theorem dX4_firstFalse_75 : decode cX4_firstFalse 75 = .ok (.iload_n 2, 1) := by decide +kernel
theorem dX4_firstFalse_76 : decode cX4_firstFalse 76 = .ok (.ireturn, 1) := by decide +kernel
theorem dX4_firstFalse_77 : decode cX4_firstFalse 77 = .ok (.iinc 2 1, 3) := by decide +kernel
theorem dX4_firstFalse_80 : decode cX4_firstFalse 80 = .ok (.goto (-78), 3) := by decide +kernel
theorem dX4_firstFalse_83 : decode cX4_firstFalse 83 = .ok (.bipush (-2), 2) := by decide +kernel
theorem dX4_firstFalse_85 : decode cX4_firstFalse 85 = .ok (.ireturn, 1) := by decide +kernel
theorem dX4_nextMeeting_0 : decode cX4_nextMeeting 0 = .ok (.aload_n 0, 1) := by decide +kernel
theorem dX4_nextMeeting_1 : decode cX4_nextMeeting 1 = .ok (.getfield 12, 3) := by decide +kernel
theorem dX4_nextMeeting_4 : decode cX4_nextMeeting 4 = .ok (.iload_n 1, 1) := by decide +kernel
theorem dX4_nextMeeting_5 : decode cX4_nextMeeting 5 = .ok (.aload_n 0, 1) := by decide +kernel
theorem dX4_nextMeeting_6 : decode cX4_nextMeeting 6 = .ok (.getfield 12, 3) := by decide +kernel
theorem dX4_nextMeeting_9 : decode cX4_nextMeeting 9 = .ok (.getfield 38, 3) := by decide +kernel
theorem dX4_nextMeeting_12 : decode cX4_nextMeeting 12 = .ok (.iload_n 1, 1) := by decide +kernel
theorem dX4_nextMeeting_13 : decode cX4_nextMeeting 13 = .ok (.iaload, 1) := by decide +kernel
theorem dX4_nextMeeting_14 : decode cX4_nextMeeting 14 = .ok (.iconst 1, 1) := by decide +kernel
theorem dX4_nextMeeting_15 : decode cX4_nextMeeting 15 = .ok (.isub, 1) := by decide +kernel
theorem dX4_nextMeeting_16 : decode cX4_nextMeeting 16 = .ok (.invokevirtual 42, 3) := by decide +kernel
theorem dX4_nextMeeting_19 : decode cX4_nextMeeting 19 = .ok (.istore_n 2, 1) := by decide +kernel
theorem dX4_nextMeeting_20 : decode cX4_nextMeeting 20 = .ok (.aload_n 0, 1) := by decide +kernel
theorem dX4_nextMeeting_21 : decode cX4_nextMeeting 21 = .ok (.getfield 12, 3) := by decide +kernel
theorem dX4_nextMeeting_24 : decode cX4_nextMeeting 24 = .ok (.iload_n 1, 1) := by decide +kernel
theorem dX4_nextMeeting_25 : decode cX4_nextMeeting 25 = .ok (.invokevirtual 95, 3) := by decide +kernel
theorem dX4_nextMeeting_28 : decode cX4_nextMeeting 28 = .ok (.istore_n 3, 1) := by decide +kernel
theorem dX4_nextMeeting_29 : decode cX4_nextMeeting 29 = .ok (.iconst 0, 1) := by decide +kernel
theorem dX4_nextMeeting_30 : decode cX4_nextMeeting 30 = .ok (.istore 4, 2) := by decide +kernel
theorem dX4_nextMeeting_32 : decode cX4_nextMeeting 32 = .ok (.iload 4, 2) := by decide +kernel
theorem dX4_nextMeeting_34 : decode cX4_nextMeeting 34 = .ok (.aload_n 0, 1) := by decide +kernel
theorem dX4_nextMeeting_35 : decode cX4_nextMeeting 35 = .ok (.getfield 26, 3) := by decide +kernel
theorem dX4_nextMeeting_38 : decode cX4_nextMeeting 38 = .ok (.getfield 76, 3) := by decide +kernel
theorem dX4_nextMeeting_41 : decode cX4_nextMeeting 41 = .ok (.if_icmp .ge 51, 3) := by decide +kernel
theorem dX4_nextMeeting_44 : decode cX4_nextMeeting 44 = .ok (.aload_n 0, 1) := by decide +kernel
theorem dX4_nextMeeting_45 : decode cX4_nextMeeting 45 = .ok (.getfield 26, 3) := by decide +kernel
theorem dX4_nextMeeting_48 : decode cX4_nextMeeting 48 = .ok (.getfield 98, 3) := by decide +kernel
theorem dX4_nextMeeting_51 : decode cX4_nextMeeting 51 = .ok (.iload 4, 2) := by decide +kernel
theorem dX4_nextMeeting_53 : decode cX4_nextMeeting 53 = .ok (.iaload, 1) := by decide +kernel
theorem dX4_nextMeeting_54 : decode cX4_nextMeeting 54 = .ok (.istore 5, 2) := by decide +kernel
theorem dX4_nextMeeting_56 : decode cX4_nextMeeting 56 = .ok (.aload_n 0, 1) := by decide +kernel
theorem dX4_nextMeeting_57 : decode cX4_nextMeeting 57 = .ok (.iload_n 1, 1) := by decide +kernel
theorem dX4_nextMeeting_58 : decode cX4_nextMeeting 58 = .ok (.iload 5, 2) := by decide +kernel
theorem dX4_nextMeeting_60 : decode cX4_nextMeeting 60 = .ok (.invokevirtual 80, 3) := by decide +kernel
theorem dX4_nextMeeting_63 : decode cX4_nextMeeting 63 = .ok (.ifCond .eq 23, 3) := by decide +kernel
theorem dX4_nextMeeting_66 : decode cX4_nextMeeting 66 = .ok (.iload_n 3, 1) := by decide +kernel
theorem dX4_nextMeeting_67 : decode cX4_nextMeeting 67 = .ok (.iconst 1, 1) := by decide +kernel
theorem dX4_nextMeeting_68 : decode cX4_nextMeeting 68 = .ok (.aload_n 0, 1) := by decide +kernel
theorem dX4_nextMeeting_69 : decode cX4_nextMeeting 69 = .ok (.getfield 26, 3) := by decide +kernel
theorem dX4_nextMeeting_72 : decode cX4_nextMeeting 72 = .ok (.iload 5, 2) := by decide +kernel
theorem dX4_nextMeeting_74 : decode cX4_nextMeeting 74 = .ok (.iload_n 2, 1) := by decide +kernel
theorem dX4_nextMeeting_75 : decode cX4_nextMeeting 75 = .ok (.invokevirtual 59, 3) := by decide +kernel
theorem dX4_nextMeeting_78 : decode cX4_nextMeeting 78 = .ok (.ishl, 1) := by decide +kernel
theorem dX4_nextMeeting_79 : decode cX4_nextMeeting 79 = .ok (.iand, 1) := by decide +kernel
theorem dX4_nextMeeting_80 : decode cX4_nextMeeting 80 = .ok (.ifCond .ne 6, 3) := by decide +kernel
theorem dX4_nextMeeting_83 : decode cX4_nextMeeting 83 = .ok (.iload 5, 2) := by decide +kernel
theorem dX4_nextMeeting_85 : decode cX4_nextMeeting 85 = .ok (.ireturn, 1) := by decide +kernel
theorem dX4_nextMeeting_86 : decode cX4_nextMeeting 86 = .ok (.iinc 4 1, 3) := by decide +kernel
theorem dX4_nextMeeting_89 : decode cX4_nextMeeting 89 = .ok (.goto (-57), 3) := by decide +kernel
theorem dX4_nextMeeting_92 : decode cX4_nextMeeting 92 = .ok (.iconst (-1), 1) := by decide +kernel
theorem dX4_nextMeeting_93 : decode cX4_nextMeeting 93 = .ok (.ireturn, 1) := by decide +kernel
theorem dX4_canHand_0 : decode cX4_canHand 0 = .ok (.aload_n 0, 1) := by decide +kernel
theorem dX4_canHand_1 : decode cX4_canHand 1 = .ok (.getfield 12, 3) := by decide +kernel
theorem dX4_canHand_4 : decode cX4_canHand 4 = .ok (.iload_n 1, 1) := by decide +kernel
theorem dX4_canHand_5 : decode cX4_canHand 5 = .ok (.aload_n 0, 1) := by decide +kernel
theorem dX4_canHand_6 : decode cX4_canHand 6 = .ok (.getfield 12, 3) := by decide +kernel
theorem dX4_canHand_9 : decode cX4_canHand 9 = .ok (.getfield 38, 3) := by decide +kernel
theorem dX4_canHand_12 : decode cX4_canHand 12 = .ok (.iload_n 1, 1) := by decide +kernel
theorem dX4_canHand_13 : decode cX4_canHand 13 = .ok (.iaload, 1) := by decide +kernel
theorem dX4_canHand_14 : decode cX4_canHand 14 = .ok (.iconst 1, 1) := by decide +kernel
theorem dX4_canHand_15 : decode cX4_canHand 15 = .ok (.isub, 1) := by decide +kernel
theorem dX4_canHand_16 : decode cX4_canHand 16 = .ok (.invokevirtual 42, 3) := by decide +kernel
theorem dX4_canHand_19 : decode cX4_canHand 19 = .ok (.istore_n 3, 1) := by decide +kernel
theorem dX4_canHand_20 : decode cX4_canHand 20 = .ok (.aload_n 0, 1) := by decide +kernel
theorem dX4_canHand_21 : decode cX4_canHand 21 = .ok (.getfield 12, 3) := by decide +kernel
theorem dX4_canHand_24 : decode cX4_canHand 24 = .ok (.getfield 38, 3) := by decide +kernel
theorem dX4_canHand_27 : decode cX4_canHand 27 = .ok (.iload_n 1, 1) := by decide +kernel
theorem dX4_canHand_28 : decode cX4_canHand 28 = .ok (.iaload, 1) := by decide +kernel
theorem dX4_canHand_29 : decode cX4_canHand 29 = .ok (.bipush 30, 2) := by decide +kernel
theorem dX4_canHand_31 : decode cX4_canHand 31 = .ok (.if_icmp .ge 36, 3) := by decide +kernel
theorem dX4_canHand_34 : decode cX4_canHand 34 = .ok (.aload_n 0, 1) := by decide +kernel
theorem dX4_canHand_35 : decode cX4_canHand 35 = .ok (.getfield 26, 3) := by decide +kernel
theorem dX4_canHand_38 : decode cX4_canHand 38 = .ok (.iload_n 3, 1) := by decide +kernel
theorem dX4_canHand_39 : decode cX4_canHand 39 = .ok (.iload_n 2, 1) := by decide +kernel
theorem dX4_canHand_40 : decode cX4_canHand 40 = .ok (.invokevirtual 46, 3) := by decide +kernel
theorem dX4_canHand_43 : decode cX4_canHand 43 = .ok (.ifCond .eq 24, 3) := by decide +kernel
theorem dX4_canHand_46 : decode cX4_canHand 46 = .ok (.aload_n 0, 1) := by decide +kernel
theorem dX4_canHand_47 : decode cX4_canHand 47 = .ok (.getfield 26, 3) := by decide +kernel
theorem dX4_canHand_50 : decode cX4_canHand 50 = .ok (.getfield 52, 3) := by decide +kernel
theorem dX4_canHand_53 : decode cX4_canHand 53 = .ok (.iload_n 2, 1) := by decide +kernel
theorem dX4_canHand_54 : decode cX4_canHand 54 = .ok (.iaload, 1) := by decide +kernel
theorem dX4_canHand_55 : decode cX4_canHand 55 = .ok (.aload_n 0, 1) := by decide +kernel
theorem dX4_canHand_56 : decode cX4_canHand 56 = .ok (.iload_n 1, 1) := by decide +kernel
theorem dX4_canHand_57 : decode cX4_canHand 57 = .ok (.invokevirtual 55, 3) := by decide +kernel
theorem dX4_canHand_60 : decode cX4_canHand 60 = .ok (.if_icmp .lt 7, 3) := by decide +kernel
theorem dX4_canHand_63 : decode cX4_canHand 63 = .ok (.iconst 1, 1) := by decide +kernel
theorem dX4_canHand_64 : decode cX4_canHand 64 = .ok (.goto 4, 3) := by decide +kernel
theorem dX4_canHand_67 : decode cX4_canHand 67 = .ok (.iconst 0, 1) := by decide +kernel
theorem dX4_canHand_68 : decode cX4_canHand 68 = .ok (.ireturn, 1) := by decide +kernel
theorem dX4_readyHour_0 : decode cX4_readyHour 0 = .ok (.aload_n 0, 1) := by decide +kernel
theorem dX4_readyHour_1 : decode cX4_readyHour 1 = .ok (.getfield 12, 3) := by decide +kernel
theorem dX4_readyHour_4 : decode cX4_readyHour 4 = .ok (.getfield 38, 3) := by decide +kernel
theorem dX4_readyHour_7 : decode cX4_readyHour 7 = .ok (.iload_n 1, 1) := by decide +kernel
theorem dX4_readyHour_8 : decode cX4_readyHour 8 = .ok (.iaload, 1) := by decide +kernel
theorem dX4_readyHour_9 : decode cX4_readyHour 9 = .ok (.iconst 1, 1) := by decide +kernel
theorem dX4_readyHour_10 : decode cX4_readyHour 10 = .ok (.isub, 1) := by decide +kernel
theorem dX4_readyHour_11 : decode cX4_readyHour 11 = .ok (.istore_n 2, 1) := by decide +kernel
theorem dX4_readyHour_12 : decode cX4_readyHour 12 = .ok (.aload_n 0, 1) := by decide +kernel
theorem dX4_readyHour_13 : decode cX4_readyHour 13 = .ok (.getfield 12, 3) := by decide +kernel
theorem dX4_readyHour_16 : decode cX4_readyHour 16 = .ok (.iload_n 1, 1) := by decide +kernel
theorem dX4_readyHour_17 : decode cX4_readyHour 17 = .ok (.iload_n 2, 1) := by decide +kernel
theorem dX4_readyHour_18 : decode cX4_readyHour 18 = .ok (.invokevirtual 89, 3) := by decide +kernel
theorem dX4_readyHour_21 : decode cX4_readyHour 21 = .ok (.istore_n 3, 1) := by decide +kernel
theorem dX4_readyHour_22 : decode cX4_readyHour 22 = .ok (.iload_n 2, 1) := by decide +kernel
theorem dX4_readyHour_23 : decode cX4_readyHour 23 = .ok (.ifCond .ne 7, 3) := by decide +kernel
theorem dX4_readyHour_26 : decode cX4_readyHour 26 = .ok (.iload_n 3, 1) := by decide +kernel
theorem dX4_readyHour_27 : decode cX4_readyHour 27 = .ok (.goto 22, 3) := by decide +kernel
theorem dX4_readyHour_30 : decode cX4_readyHour 30 = .ok (.iload_n 3, 1) := by decide +kernel
theorem dX4_readyHour_31 : decode cX4_readyHour 31 = .ok (.aload_n 0, 1) := by decide +kernel
theorem dX4_readyHour_32 : decode cX4_readyHour 32 = .ok (.getfield 26, 3) := by decide +kernel
theorem dX4_readyHour_35 : decode cX4_readyHour 35 = .ok (.getfield 101, 3) := by decide +kernel
theorem dX4_readyHour_38 : decode cX4_readyHour 38 = .ok (.aload_n 0, 1) := by decide +kernel
theorem dX4_readyHour_39 : decode cX4_readyHour 39 = .ok (.getfield 12, 3) := by decide +kernel
theorem dX4_readyHour_42 : decode cX4_readyHour 42 = .ok (.iload_n 1, 1) := by decide +kernel
theorem dX4_readyHour_43 : decode cX4_readyHour 43 = .ok (.iload_n 2, 1) := by decide +kernel
theorem dX4_readyHour_44 : decode cX4_readyHour 44 = .ok (.invokevirtual 42, 3) := by decide +kernel
theorem dX4_readyHour_47 : decode cX4_readyHour 47 = .ok (.iaload, 1) := by decide +kernel
theorem dX4_readyHour_48 : decode cX4_readyHour 48 = .ok (.iadd, 1) := by decide +kernel
theorem dX4_readyHour_49 : decode cX4_readyHour 49 = .ok (.ireturn, 1) := by decide +kernel
theorem dX4_putAhead_0 : decode cX4_putAhead 0 = .ok (.iconst 0, 1) := by decide +kernel
theorem dX4_putAhead_1 : decode cX4_putAhead 1 = .ok (.istore_n 3, 1) := by decide +kernel
theorem dX4_putAhead_2 : decode cX4_putAhead 2 = .ok (.iconst 0, 1) := by decide +kernel
theorem dX4_putAhead_3 : decode cX4_putAhead 3 = .ok (.istore 4, 2) := by decide +kernel
theorem dX4_putAhead_5 : decode cX4_putAhead 5 = .ok (.iload 4, 2) := by decide +kernel
theorem dX4_putAhead_7 : decode cX4_putAhead 7 = .ok (.iload_n 2, 1) := by decide +kernel
theorem dX4_putAhead_8 : decode cX4_putAhead 8 = .ok (.if_icmp .ge 22, 3) := by decide +kernel
theorem dX4_putAhead_11 : decode cX4_putAhead 11 = .ok (.iload_n 3, 1) := by decide +kernel
theorem dX4_putAhead_12 : decode cX4_putAhead 12 = .ok (.aload_n 0, 1) := by decide +kernel
theorem dX4_putAhead_13 : decode cX4_putAhead 13 = .ok (.getfield 12, 3) := by decide +kernel
theorem dX4_putAhead_16 : decode cX4_putAhead 16 = .ok (.iload_n 1, 1) := by decide +kernel
theorem dX4_putAhead_17 : decode cX4_putAhead 17 = .ok (.iload 4, 2) := by decide +kernel
theorem dX4_putAhead_19 : decode cX4_putAhead 19 = .ok (.invokevirtual 92, 3) := by decide +kernel
theorem dX4_putAhead_22 : decode cX4_putAhead 22 = .ok (.iadd, 1) := by decide +kernel
theorem dX4_putAhead_23 : decode cX4_putAhead 23 = .ok (.istore_n 3, 1) := by decide +kernel
theorem dX4_putAhead_24 : decode cX4_putAhead 24 = .ok (.iinc 4 1, 3) := by decide +kernel
theorem dX4_putAhead_27 : decode cX4_putAhead 27 = .ok (.goto (-22), 3) := by decide +kernel
theorem dX4_putAhead_30 : decode cX4_putAhead 30 = .ok (.aload_n 0, 1) := by decide +kernel
theorem dX4_putAhead_31 : decode cX4_putAhead 31 = .ok (.getfield 30, 3) := by decide +kernel
theorem dX4_putAhead_34 : decode cX4_putAhead 34 = .ok (.iload_n 2, 1) := by decide +kernel
theorem dX4_putAhead_35 : decode cX4_putAhead 35 = .ok (.aload_n 0, 1) := by decide +kernel
theorem dX4_putAhead_36 : decode cX4_putAhead 36 = .ok (.getfield 12, 3) := by decide +kernel
theorem dX4_putAhead_39 : decode cX4_putAhead 39 = .ok (.iload_n 1, 1) := by decide +kernel
theorem dX4_putAhead_40 : decode cX4_putAhead 40 = .ok (.iconst 0, 1) := by decide +kernel
theorem dX4_putAhead_41 : decode cX4_putAhead 41 = .ok (.invokevirtual 92, 3) := by decide +kernel
theorem dX4_putAhead_44 : decode cX4_putAhead 44 = .ok (.aload_n 0, 1) := by decide +kernel
theorem dX4_putAhead_45 : decode cX4_putAhead 45 = .ok (.getfield 12, 3) := by decide +kernel
theorem dX4_putAhead_48 : decode cX4_putAhead 48 = .ok (.iload_n 1, 1) := by decide +kernel
theorem dX4_putAhead_49 : decode cX4_putAhead 49 = .ok (.iload_n 2, 1) := by decide +kernel
theorem dX4_putAhead_50 : decode cX4_putAhead 50 = .ok (.iconst 1, 1) := by decide +kernel
theorem dX4_putAhead_51 : decode cX4_putAhead 51 = .ok (.isub, 1) := by decide +kernel
theorem dX4_putAhead_52 : decode cX4_putAhead 52 = .ok (.invokevirtual 92, 3) := by decide +kernel
theorem dX4_putAhead_55 : decode cX4_putAhead 55 = .ok (.iload_n 3, 1) := by decide +kernel
theorem dX4_putAhead_56 : decode cX4_putAhead 56 = .ok (.invokevirtual 104, 3) := by decide +kernel
theorem dX4_putAhead_59 : decode cX4_putAhead 59 = .ok (.return_, 1) := by decide +kernel
theorem dX5_init_0 : decode cX5_init 0 = .ok (.aload_n 0, 1) := by decide +kernel
theorem dX5_init_1 : decode cX5_init 1 = .ok (.invokespecial 3, 3) := by decide +kernel
theorem dX5_init_4 : decode cX5_init 4 = .ok (.aload_n 0, 1) := by decide +kernel
theorem dX5_init_5 : decode cX5_init 5 = .ok (.aload_n 1, 1) := by decide +kernel
theorem dX5_init_6 : decode cX5_init 6 = .ok (.putfield 9, 3) := by decide +kernel
theorem dX5_init_9 : decode cX5_init 9 = .ok (.aload_n 0, 1) := by decide +kernel
theorem dX5_init_10 : decode cX5_init 10 = .ok (.aload_n 2, 1) := by decide +kernel
theorem dX5_init_11 : decode cX5_init 11 = .ok (.putfield 15, 3) := by decide +kernel
theorem dX5_init_14 : decode cX5_init 14 = .ok (.return_, 1) := by decide +kernel
theorem dX5_readText_0 : decode cX5_readText 0 = .ok (.aload_n 0, 1) := by decide +kernel
theorem dX5_readText_1 : decode cX5_readText 1 = .ok (.getfield 9, 3) := by decide +kernel
theorem dX5_readText_4 : decode cX5_readText 4 = .ok (.getfield 19, 3) := by decide +kernel
theorem dX5_readText_7 : decode cX5_readText 7 = .ok (.ifCond .ne 5, 3) := by decide +kernel
theorem dX5_readText_10 : decode cX5_readText 10 = .ok (.iconst 0, 1) := by decide +kernel
theorem dX5_readText_11 : decode cX5_readText 11 = .ok (.ireturn, 1) := by decide +kernel
theorem dX5_readText_12 : decode cX5_readText 12 = .ok (.aload_n 0, 1) := by decide +kernel
theorem dX5_readText_13 : decode cX5_readText 13 = .ok (.iconst 0, 1) := by decide +kernel
theorem dX5_readText_14 : decode cX5_readText 14 = .ok (.putfield 25, 3) := by decide +kernel
theorem dX5_readText_17 : decode cX5_readText 17 = .ok (.aload_n 0, 1) := by decide +kernel
theorem dX5_readText_18 : decode cX5_readText 18 = .ok (.aload_n 0, 1) := by decide +kernel
theorem dX5_readText_19 : decode cX5_readText 19 = .ok (.getfield 15, 3) := by decide +kernel
theorem dX5_readText_22 : decode cX5_readText 22 = .ok (.getfield 28, 3) := by decide +kernel
theorem dX5_readText_25 : decode cX5_readText 25 = .ok (.putfield 33, 3) := by decide +kernel
theorem dX5_readText_28 : decode cX5_readText 28 = .ok (.aload_n 0, 1) := by decide +kernel
theorem dX5_readText_29 : decode cX5_readText 29 = .ok (.aload_n 0, 1) := by decide +kernel
theorem dX5_readText_30 : decode cX5_readText 30 = .ok (.getfield 15, 3) := by decide +kernel
theorem dX5_readText_33 : decode cX5_readText 33 = .ok (.getfield 34, 3) := by decide +kernel
theorem dX5_readText_36 : decode cX5_readText 36 = .ok (.putfield 37, 3) := by decide +kernel
theorem dX5_readText_39 : decode cX5_readText 39 = .ok (.aload_n 0, 1) := by decide +kernel
theorem dX5_readText_40 : decode cX5_readText 40 = .ok (.invokevirtual 38, 3) := by decide +kernel
theorem dX5_readText_43 : decode cX5_readText 43 = .ok (.ifCond .eq 17, 3) := by decide +kernel
theorem dX5_readText_46 : decode cX5_readText 46 = .ok (.aload_n 0, 1) := by decide +kernel
theorem dX5_readText_47 : decode cX5_readText 47 = .ok (.getfield 25, 3) := by decide +kernel
theorem dX5_readText_50 : decode cX5_readText 50 = .ok (.aload_n 0, 1) := by decide +kernel
theorem dX5_readText_51 : decode cX5_readText 51 = .ok (.getfield 9, 3) := by decide +kernel
theorem dX5_readText_54 : decode cX5_readText 54 = .ok (.getfield 19, 3) := by decide +kernel
theorem dX5_readText_57 : decode cX5_readText 57 = .ok (.if_icmp .ge 10, 3) := by decide +kernel
theorem dX5_readText_60 : decode cX5_readText 60 = .ok (.iconst (-1), 1) := by decide +kernel
theorem dX5_readText_61 : decode cX5_readText 61 = .ok (.aload_n 0, 1) := by decide +kernel
theorem dX5_readText_62 : decode cX5_readText 62 = .ok (.getfield 25, 3) := by decide +kernel
theorem dX5_readText_65 : decode cX5_readText 65 = .ok (.isub, 1) := by decide +kernel
theorem dX5_readText_66 : decode cX5_readText 66 = .ok (.ireturn, 1) := by decide +kernel
theorem dX5_readText_67 : decode cX5_readText 67 = .ok (.aload_n 0, 1) := by decide +kernel
theorem dX5_readText_68 : decode cX5_readText 68 = .ok (.getfield 33, 3) := by decide +kernel
theorem dX5_readText_71 : decode cX5_readText 71 = .ok (.aload_n 0, 1) := by decide +kernel
theorem dX5_readText_72 : decode cX5_readText 72 = .ok (.getfield 15, 3) := by decide +kernel
theorem dX5_readText_75 : decode cX5_readText 75 = .ok (.getfield 28, 3) := by decide +kernel
theorem dX5_readText_78 : decode cX5_readText 78 = .ok (.isub, 1) := by decide +kernel
theorem dX5_readText_79 : decode cX5_readText 79 = .ok (.aload_n 0, 1) := by decide +kernel
theorem dX5_readText_80 : decode cX5_readText 80 = .ok (.getfield 37, 3) := by decide +kernel
theorem dX5_readText_83 : decode cX5_readText 83 = .ok (.iadd, 1) := by decide +kernel
theorem dX5_readText_84 : decode cX5_readText 84 = .ok (.aload_n 0, 1) := by decide +kernel
theorem dX5_readText_85 : decode cX5_readText 85 = .ok (.getfield 15, 3) := by decide +kernel
theorem dX5_readText_88 : decode cX5_readText 88 = .ok (.getfield 34, 3) := by decide +kernel
theorem dX5_readText_91 : decode cX5_readText 91 = .ok (.isub, 1) := by decide +kernel
theorem dX5_readText_92 : decode cX5_readText 92 = .ok (.istore_n 1, 1) := by decide +kernel
theorem dX5_readText_93 : decode cX5_readText 93 = .ok (.aload_n 0, 1) := by decide +kernel
theorem dX5_readText_94 : decode cX5_readText 94 = .ok (.getfield 15, 3) := by decide +kernel
theorem dX5_readText_97 : decode cX5_readText 97 = .ok (.aload_n 0, 1) := by decide +kernel
theorem dX5_readText_98 : decode cX5_readText 98 = .ok (.getfield 33, 3) := by decide +kernel
theorem dX5_readText_101 : decode cX5_readText 101 = .ok (.aload_n 0, 1) := by decide +kernel
theorem dX5_readText_102 : decode cX5_readText 102 = .ok (.getfield 37, 3) := by decide +kernel
theorem dX5_readText_105 : decode cX5_readText 105 = .ok (.invokevirtual 42, 3) := by decide +kernel
theorem dX5_readText_108 : decode cX5_readText 108 = .ok (.iload_n 1, 1) := by decide +kernel
theorem dX5_readText_109 : decode cX5_readText 109 = .ok (.ireturn, 1) := by decide +kernel
theorem dX5_readLines_0 : decode cX5_readLines 0 = .ok (.iconst 0, 1) := by decide +kernel
theorem dX5_readLines_1 : decode cX5_readLines 1 = .ok (.istore_n 1, 1) := by decide +kernel
theorem dX5_readLines_2 : decode cX5_readLines 2 = .ok (.iload_n 1, 1) := by decide +kernel
theorem dX5_readLines_3 : decode cX5_readLines 3 = .ok (.bipush 76, 2) := by decide +kernel
theorem dX5_readLines_5 : decode cX5_readLines 5 = .ok (.if_icmp .gt 49, 3) := by decide +kernel
theorem dX5_readLines_8 : decode cX5_readLines 8 = .ok (.aload_n 0, 1) := by decide +kernel
theorem dX5_readLines_9 : decode cX5_readLines 9 = .ok (.invokevirtual 46, 3) := by decide +kernel
theorem dX5_readLines_12 : decode cX5_readLines 12 = .ok (.ifCond .ne 5, 3) := by decide +kernel
theorem dX5_readLines_15 : decode cX5_readLines 15 = .ok (.iconst 0, 1) := by decide +kernel
theorem dX5_readLines_16 : decode cX5_readLines 16 = .ok (.ireturn, 1) := by decide +kernel
theorem dX5_readLines_17 : decode cX5_readLines 17 = .ok (.aload_n 0, 1) := by decide +kernel
theorem dX5_readLines_18 : decode cX5_readLines 18 = .ok (.invokevirtual 49, 3) := by decide +kernel
theorem dX5_readLines_21 : decode cX5_readLines 21 = .ok (.iconst (-1), 1) := by decide +kernel
theorem dX5_readLines_22 : decode cX5_readLines 22 = .ok (.if_icmp .ne 5, 3) := by decide +kernel
theorem dX5_readLines_25 : decode cX5_readLines 25 = .ok (.iconst 1, 1) := by decide +kernel
theorem dX5_readLines_26 : decode cX5_readLines 26 = .ok (.ireturn, 1) := by decide +kernel
theorem dX5_readLines_27 : decode cX5_readLines 27 = .ok (.aload_n 0, 1) := by decide +kernel
theorem dX5_readLines_28 : decode cX5_readLines 28 = .ok (.invokevirtual 49, 3) := by decide +kernel
theorem dX5_readLines_31 : decode cX5_readLines 31 = .ok (.bipush 59, 2) := by decide +kernel
theorem dX5_readLines_33 : decode cX5_readLines 33 = .ok (.if_icmp .eq 5, 3) := by decide +kernel
theorem dX5_readLines_36 : decode cX5_readLines 36 = .ok (.iconst 0, 1) := by decide +kernel
theorem dX5_readLines_37 : decode cX5_readLines 37 = .ok (.ireturn, 1) := by decide +kernel
theorem dX5_readLines_38 : decode cX5_readLines 38 = .ok (.aload_n 0, 1) := by decide +kernel
theorem dX5_readLines_39 : decode cX5_readLines 39 = .ok (.dup, 1) := by decide +kernel
theorem dX5_readLines_40 : decode cX5_readLines 40 = .ok (.getfield 25, 3) := by decide +kernel
theorem dX5_readLines_43 : decode cX5_readLines 43 = .ok (.iconst 1, 1) := by decide +kernel
theorem dX5_readLines_44 : decode cX5_readLines 44 = .ok (.iadd, 1) := by decide +kernel
theorem dX5_readLines_45 : decode cX5_readLines 45 = .ok (.putfield 25, 3) := by decide +kernel
theorem dX5_readLines_48 : decode cX5_readLines 48 = .ok (.iinc 1 1, 3) := by decide +kernel
theorem dX5_readLines_51 : decode cX5_readLines 51 = .ok (.goto (-49), 3) := by decide +kernel
theorem dX5_readLines_54 : decode cX5_readLines 54 = .ok (.iconst 0, 1) := by decide +kernel
theorem dX5_readLines_55 : decode cX5_readLines 55 = .ok (.ireturn, 1) := by decide +kernel
theorem dX5_next_0 : decode cX5_next 0 = .ok (.aload_n 0, 1) := by decide +kernel
theorem dX5_next_1 : decode cX5_next 1 = .ok (.getfield 25, 3) := by decide +kernel
theorem dX5_next_4 : decode cX5_next 4 = .ok (.bipush 76, 2) := by decide +kernel
theorem dX5_next_6 : decode cX5_next 6 = .ok (.if_icmp .ge 17, 3) := by decide +kernel
theorem dX5_next_9 : decode cX5_next 9 = .ok (.aload_n 0, 1) := by decide +kernel
theorem dX5_next_10 : decode cX5_next 10 = .ok (.getfield 9, 3) := by decide +kernel
theorem dX5_next_13 : decode cX5_next 13 = .ok (.aload_n 0, 1) := by decide +kernel
theorem dX5_next_14 : decode cX5_next 14 = .ok (.getfield 25, 3) := by decide +kernel
theorem dX5_next_17 : decode cX5_next 17 = .ok (.invokevirtual 53, 3) := by decide +kernel
theorem dX5_next_20 : decode cX5_next 20 = .ok (.goto 4, 3) := by decide +kernel
theorem dX5_next_23 : decode cX5_next 23 = .ok (.iconst (-1), 1) := by decide +kernel
theorem dX5_next_24 : decode cX5_next 24 = .ok (.ireturn, 1) := by decide +kernel
theorem dX5_readLine_0 : decode cX5_readLine 0 = .ok (.aload_n 0, 1) := by decide +kernel
theorem dX5_readLine_1 : decode cX5_readLine 1 = .ok (.invokevirtual 49, 3) := by decide +kernel
theorem dX5_readLine_4 : decode cX5_readLine 4 = .ok (.bipush 49, 2) := by decide +kernel
theorem dX5_readLine_6 : decode cX5_readLine 6 = .ok (.if_icmp .lt 19, 3) := by decide +kernel
theorem dX5_readLine_9 : decode cX5_readLine 9 = .ok (.aload_n 0, 1) := by decide +kernel
theorem dX5_readLine_10 : decode cX5_readLine 10 = .ok (.invokevirtual 49, 3) := by decide +kernel
theorem dX5_readLine_13 : decode cX5_readLine 13 = .ok (.bipush 57, 2) := by decide +kernel
theorem dX5_readLine_15 : decode cX5_readLine 15 = .ok (.if_icmp .gt 10, 3) := by decide +kernel
theorem dX5_readLine_18 : decode cX5_readLine 18 = .ok (.aload_n 0, 1) := by decide +kernel
theorem dX5_readLine_19 : decode cX5_readLine 19 = .ok (.invokevirtual 57, 3) := by decide +kernel
theorem dX5_readLine_22 : decode cX5_readLine 22 = .ok (.goto 7, 3) := by decide +kernel
theorem dX5_readLine_25 : decode cX5_readLine 25 = .ok (.aload_n 0, 1) := by decide +kernel
theorem dX5_readLine_26 : decode cX5_readLine 26 = .ok (.invokevirtual 60, 3) := by decide +kernel
theorem dX5_readLine_29 : decode cX5_readLine 29 = .ok (.ireturn, 1) := by decide +kernel
theorem dX5_readPerson_0 : decode cX5_readPerson 0 = .ok (.aload_n 0, 1) := by decide +kernel
theorem dX5_readPerson_1 : decode cX5_readPerson 1 = .ok (.getfield 33, 3) := by decide +kernel
theorem dX5_readPerson_4 : decode cX5_readPerson 4 = .ok (.bipush 9, 2) := by decide +kernel
theorem dX5_readPerson_6 : decode cX5_readPerson 6 = .ok (.if_icmp .lt 5, 3) := by decide +kernel
theorem dX5_readPerson_9 : decode cX5_readPerson 9 = .ok (.iconst 0, 1) := by decide +kernel
theorem dX5_readPerson_10 : decode cX5_readPerson 10 = .ok (.ireturn, 1) := by decide +kernel
theorem dX5_readPerson_11 : decode cX5_readPerson 11 = .ok (.aload_n 0, 1) := by decide +kernel
theorem dX5_readPerson_12 : decode cX5_readPerson 12 = .ok (.getfield 15, 3) := by decide +kernel
theorem dX5_readPerson_15 : decode cX5_readPerson 15 = .ok (.getfield 63, 3) := by decide +kernel
theorem dX5_readPerson_18 : decode cX5_readPerson 18 = .ok (.aload_n 0, 1) := by decide +kernel
theorem dX5_readPerson_19 : decode cX5_readPerson 19 = .ok (.getfield 33, 3) := by decide +kernel
theorem dX5_readPerson_22 : decode cX5_readPerson 22 = .ok (.aload_n 0, 1) := by decide +kernel
theorem dX5_readPerson_23 : decode cX5_readPerson 23 = .ok (.invokevirtual 49, 3) := by decide +kernel
theorem dX5_readPerson_26 : decode cX5_readPerson 26 = .ok (.bipush 48, 2) := by decide +kernel
theorem dX5_readPerson_28 : decode cX5_readPerson 28 = .ok (.isub, 1) := by decide +kernel
theorem dX5_readPerson_29 : decode cX5_readPerson 29 = .ok (.iastore, 1) := by decide +kernel
theorem dX5_readPerson_30 : decode cX5_readPerson 30 = .ok (.aload_n 0, 1) := by decide +kernel
theorem dX5_readPerson_31 : decode cX5_readPerson 31 = .ok (.dup, 1) := by decide +kernel
theorem dX5_readPerson_32 : decode cX5_readPerson 32 = .ok (.getfield 33, 3) := by decide +kernel
theorem dX5_readPerson_35 : decode cX5_readPerson 35 = .ok (.iconst 1, 1) := by decide +kernel
theorem dX5_readPerson_36 : decode cX5_readPerson 36 = .ok (.iadd, 1) := by decide +kernel
theorem dX5_readPerson_37 : decode cX5_readPerson 37 = .ok (.putfield 33, 3) := by decide +kernel
theorem dX5_readPerson_40 : decode cX5_readPerson 40 = .ok (.aload_n 0, 1) := by decide +kernel
theorem dX5_readPerson_41 : decode cX5_readPerson 41 = .ok (.dup, 1) := by decide +kernel
theorem dX5_readPerson_42 : decode cX5_readPerson 42 = .ok (.getfield 25, 3) := by decide +kernel
theorem dX5_readPerson_45 : decode cX5_readPerson 45 = .ok (.iconst 1, 1) := by decide +kernel
theorem dX5_readPerson_46 : decode cX5_readPerson 46 = .ok (.iadd, 1) := by decide +kernel
theorem dX5_readPerson_47 : decode cX5_readPerson 47 = .ok (.putfield 25, 3) := by decide +kernel
theorem dX5_readPerson_50 : decode cX5_readPerson 50 = .ok (.iconst 1, 1) := by decide +kernel
theorem dX5_readPerson_51 : decode cX5_readPerson 51 = .ok (.ireturn, 1) := by decide +kernel
theorem dX5_readMeeting_0 : decode cX5_readMeeting 0 = .ok (.aload_n 0, 1) := by decide +kernel
theorem dX5_readMeeting_1 : decode cX5_readMeeting 1 = .ok (.invokevirtual 49, 3) := by decide +kernel
theorem dX5_readMeeting_4 : decode cX5_readMeeting 4 = .ok (.bipush 97, 2) := by decide +kernel
theorem dX5_readMeeting_6 : decode cX5_readMeeting 6 = .ok (.isub, 1) := by decide +kernel
theorem dX5_readMeeting_7 : decode cX5_readMeeting 7 = .ok (.istore_n 1, 1) := by decide +kernel
theorem dX5_readMeeting_8 : decode cX5_readMeeting 8 = .ok (.aload_n 0, 1) := by decide +kernel
theorem dX5_readMeeting_9 : decode cX5_readMeeting 9 = .ok (.getfield 37, 3) := by decide +kernel
theorem dX5_readMeeting_12 : decode cX5_readMeeting 12 = .ok (.bipush 20, 2) := by decide +kernel
theorem dX5_readMeeting_14 : decode cX5_readMeeting 14 = .ok (.if_icmp .ge 11, 3) := by decide +kernel
theorem dX5_readMeeting_17 : decode cX5_readMeeting 17 = .ok (.aload_n 0, 1) := by decide +kernel
theorem dX5_readMeeting_18 : decode cX5_readMeeting 18 = .ok (.iload_n 1, 1) := by decide +kernel
theorem dX5_readMeeting_19 : decode cX5_readMeeting 19 = .ok (.invokevirtual 67, 3) := by decide +kernel
theorem dX5_readMeeting_22 : decode cX5_readMeeting 22 = .ok (.ifCond .ne 5, 3) := by decide +kernel
theorem dX5_readMeeting_25 : decode cX5_readMeeting 25 = .ok (.iconst 0, 1) := by decide +kernel
theorem dX5_readMeeting_26 : decode cX5_readMeeting 26 = .ok (.ireturn, 1) := by decide +kernel
theorem dX5_readMeeting_27 : decode cX5_readMeeting 27 = .ok (.aload_n 0, 1) := by decide +kernel
theorem dX5_readMeeting_28 : decode cX5_readMeeting 28 = .ok (.dup, 1) := by decide +kernel
theorem dX5_readMeeting_29 : decode cX5_readMeeting 29 = .ok (.getfield 25, 3) := by decide +kernel
theorem dX5_readMeeting_32 : decode cX5_readMeeting 32 = .ok (.iconst 1, 1) := by decide +kernel
theorem dX5_readMeeting_33 : decode cX5_readMeeting 33 = .ok (.iadd, 1) := by decide +kernel
theorem dX5_readMeeting_34 : decode cX5_readMeeting 34 = .ok (.putfield 25, 3) := by decide +kernel
theorem dX5_readMeeting_37 : decode cX5_readMeeting 37 = .ok (.aload_n 0, 1) := by decide +kernel
theorem dX5_readMeeting_38 : decode cX5_readMeeting 38 = .ok (.invokevirtual 49, 3) := by decide +kernel
theorem dX5_readMeeting_41 : decode cX5_readMeeting 41 = .ok (.bipush 97, 2) := by decide +kernel
theorem dX5_readMeeting_43 : decode cX5_readMeeting 43 = .ok (.isub, 1) := by decide +kernel
theorem dX5_readMeeting_44 : decode cX5_readMeeting 44 = .ok (.istore_n 2, 1) := by decide +kernel
theorem dX5_readMeeting_45 : decode cX5_readMeeting 45 = .ok (.aload_n 0, 1) := by decide +kernel
theorem dX5_readMeeting_46 : decode cX5_readMeeting 46 = .ok (.iload_n 2, 1) := by decide +kernel
theorem dX5_readMeeting_47 : decode cX5_readMeeting 47 = .ok (.invokevirtual 67, 3) := by decide +kernel
theorem dX5_readMeeting_50 : decode cX5_readMeeting 50 = .ok (.ifCond .eq 8, 3) := by decide +kernel
theorem dX5_readMeeting_53 : decode cX5_readMeeting 53 = .ok (.iload_n 2, 1) := by decide +kernel
theorem dX5_readMeeting_54 : decode cX5_readMeeting 54 = .ok (.iload_n 1, 1) := by decide +kernel
theorem dX5_readMeeting_55 : decode cX5_readMeeting 55 = .ok (.if_icmp .ne 5, 3) := by decide +kernel
theorem dX5_readMeeting_58 : decode cX5_readMeeting 58 = .ok (.iconst 0, 1) := by decide +kernel
theorem dX5_readMeeting_59 : decode cX5_readMeeting 59 = .ok (.ireturn, 1) := by decide +kernel
theorem dX5_readMeeting_60 : decode cX5_readMeeting 60 = .ok (.aload_n 0, 1) := by decide +kernel
theorem dX5_readMeeting_61 : decode cX5_readMeeting 61 = .ok (.dup, 1) := by decide +kernel
theorem dX5_readMeeting_62 : decode cX5_readMeeting 62 = .ok (.getfield 25, 3) := by decide +kernel
theorem dX5_readMeeting_65 : decode cX5_readMeeting 65 = .ok (.iconst 1, 1) := by decide +kernel
theorem dX5_readMeeting_66 : decode cX5_readMeeting 66 = .ok (.iadd, 1) := by decide +kernel
theorem dX5_readMeeting_67 : decode cX5_readMeeting 67 = .ok (.putfield 25, 3) := by decide +kernel
theorem dX5_readMeeting_70 : decode cX5_readMeeting 70 = .ok (.aload_n 0, 1) := by decide +kernel
theorem dX5_readMeeting_71 : decode cX5_readMeeting 71 = .ok (.invokevirtual 49, 3) := by decide +kernel
theorem dX5_readMeeting_74 : decode cX5_readMeeting 74 = .ok (.bipush 64, 2) := by decide +kernel
theorem dX5_readMeeting_76 : decode cX5_readMeeting 76 = .ok (.if_icmp .eq 5, 3) := by decide +kernel
theorem dX5_readMeeting_79 : decode cX5_readMeeting 79 = .ok (.iconst 0, 1) := by decide +kernel
theorem dX5_readMeeting_80 : decode cX5_readMeeting 80 = .ok (.ireturn, 1) := by decide +kernel
theorem dX5_readMeeting_81 : decode cX5_readMeeting 81 = .ok (.aload_n 0, 1) := by decide +kernel
theorem dX5_readMeeting_82 : decode cX5_readMeeting 82 = .ok (.dup, 1) := by decide +kernel
theorem dX5_readMeeting_83 : decode cX5_readMeeting 83 = .ok (.getfield 25, 3) := by decide +kernel
theorem dX5_readMeeting_86 : decode cX5_readMeeting 86 = .ok (.iconst 1, 1) := by decide +kernel
theorem dX5_readMeeting_87 : decode cX5_readMeeting 87 = .ok (.iadd, 1) := by decide +kernel
theorem dX5_readMeeting_88 : decode cX5_readMeeting 88 = .ok (.putfield 25, 3) := by decide +kernel
theorem dX5_readMeeting_91 : decode cX5_readMeeting 91 = .ok (.aload_n 0, 1) := by decide +kernel
theorem dX5_readMeeting_92 : decode cX5_readMeeting 92 = .ok (.getfield 15, 3) := by decide +kernel
theorem dX5_readMeeting_95 : decode cX5_readMeeting 95 = .ok (.getfield 71, 3) := by decide +kernel
theorem dX5_readMeeting_98 : decode cX5_readMeeting 98 = .ok (.aload_n 0, 1) := by decide +kernel
theorem dX5_readMeeting_99 : decode cX5_readMeeting 99 = .ok (.getfield 37, 3) := by decide +kernel
theorem dX5_readMeeting_102 : decode cX5_readMeeting 102 = .ok (.iload_n 1, 1) := by decide +kernel
theorem dX5_readMeeting_103 : decode cX5_readMeeting 103 = .ok (.iastore, 1) := by decide +kernel
theorem dX5_readMeeting_104 : decode cX5_readMeeting 104 = .ok (.aload_n 0, 1) := by decide +kernel
theorem dX5_readMeeting_105 : decode cX5_readMeeting 105 = .ok (.getfield 15, 3) := by decide +kernel
theorem dX5_readMeeting_108 : decode cX5_readMeeting 108 = .ok (.getfield 74, 3) := by decide +kernel
theorem dX5_readMeeting_111 : decode cX5_readMeeting 111 = .ok (.aload_n 0, 1) := by decide +kernel
theorem dX5_readMeeting_112 : decode cX5_readMeeting 112 = .ok (.getfield 37, 3) := by decide +kernel
theorem dX5_readMeeting_115 : decode cX5_readMeeting 115 = .ok (.iload_n 2, 1) := by decide +kernel
theorem dX5_readMeeting_116 : decode cX5_readMeeting 116 = .ok (.iastore, 1) := by decide +kernel
theorem dX5_readMeeting_117 : decode cX5_readMeeting 117 = .ok (.aload_n 0, 1) := by decide +kernel
theorem dX5_readMeeting_118 : decode cX5_readMeeting 118 = .ok (.invokevirtual 77, 3) := by decide +kernel
theorem dX5_readMeeting_121 : decode cX5_readMeeting 121 = .ok (.ifCond .eq 10, 3) := by decide +kernel
theorem dX5_readMeeting_124 : decode cX5_readMeeting 124 = .ok (.aload_n 0, 1) := by decide +kernel
theorem dX5_readMeeting_125 : decode cX5_readMeeting 125 = .ok (.invokevirtual 80, 3) := by decide +kernel
theorem dX5_readMeeting_128 : decode cX5_readMeeting 128 = .ok (.ifCond .ne 5, 3) := by decide +kernel
theorem dX5_readMeeting_131 : decode cX5_readMeeting 131 = .ok (.iconst 0, 1) := by decide +kernel
theorem dX5_readMeeting_132 : decode cX5_readMeeting 132 = .ok (.ireturn, 1) := by decide +kernel
theorem dX5_readMeeting_133 : decode cX5_readMeeting 133 = .ok (.aload_n 0, 1) := by decide +kernel
theorem dX5_readMeeting_134 : decode cX5_readMeeting 134 = .ok (.dup, 1) := by decide +kernel
theorem dX5_readMeeting_135 : decode cX5_readMeeting 135 = .ok (.getfield 37, 3) := by decide +kernel
theorem dX5_readMeeting_138 : decode cX5_readMeeting 138 = .ok (.iconst 1, 1) := by decide +kernel
theorem dX5_readMeeting_139 : decode cX5_readMeeting 139 = .ok (.iadd, 1) := by decide +kernel
theorem dX5_readMeeting_140 : decode cX5_readMeeting 140 = .ok (.putfield 37, 3) := by decide +kernel
theorem dX5_readMeeting_143 : decode cX5_readMeeting 143 = .ok (.iconst 1, 1) := by decide +kernel
theorem dX5_readMeeting_144 : decode cX5_readMeeting 144 = .ok (.ireturn, 1) := by decide +kernel
theorem dX5_isPerson_0 : decode cX5_isPerson 0 = .ok (.iload_n 1, 1) := by decide +kernel
theorem dX5_isPerson_1 : decode cX5_isPerson 1 = .ok (.ifCond .lt 15, 3) := by decide +kernel
theorem dX5_isPerson_4 : decode cX5_isPerson 4 = .ok (.iload_n 1, 1) := by decide +kernel
theorem dX5_isPerson_5 : decode cX5_isPerson 5 = .ok (.aload_n 0, 1) := by decide +kernel
theorem dX5_isPerson_6 : decode cX5_isPerson 6 = .ok (.getfield 33, 3) := by decide +kernel
theorem dX5_isPerson_9 : decode cX5_isPerson 9 = .ok (.if_icmp .ge 7, 3) := by decide +kernel
theorem dX5_isPerson_12 : decode cX5_isPerson 12 = .ok (.iconst 1, 1) := by decide +kernel
theorem dX5_isPerson_13 : decode cX5_isPerson 13 = .ok (.goto 4, 3) := by decide +kernel
theorem dX5_isPerson_16 : decode cX5_isPerson 16 = .ok (.iconst 0, 1) := by decide +kernel
theorem dX5_isPerson_17 : decode cX5_isPerson 17 = .ok (.ireturn, 1) := by decide +kernel
theorem dX5_readHour_0 : decode cX5_readHour 0 = .ok (.aload_n 0, 1) := by decide +kernel
theorem dX5_readHour_1 : decode cX5_readHour 1 = .ok (.invokevirtual 49, 3) := by decide +kernel
theorem dX5_readHour_4 : decode cX5_readHour 4 = .ok (.invokestatic 83, 3) := by decide +kernel
theorem dX5_readHour_7 : decode cX5_readHour 7 = .ok (.ifCond .ne 5, 3) := by decide +kernel
theorem dX5_readHour_10 : decode cX5_readHour 10 = .ok (.iconst 0, 1) := by decide +kernel
theorem dX5_readHour_11 : decode cX5_readHour 11 = .ok (.ireturn, 1) := by decide +kernel
theorem dX5_readHour_12 : decode cX5_readHour 12 = .ok (.aload_n 0, 1) := by decide +kernel
theorem dX5_readHour_13 : decode cX5_readHour 13 = .ok (.invokevirtual 49, 3) := by decide +kernel
theorem dX5_readHour_16 : decode cX5_readHour 16 = .ok (.bipush 48, 2) := by decide +kernel
theorem dX5_readHour_18 : decode cX5_readHour 18 = .ok (.isub, 1) := by decide +kernel
theorem dX5_readHour_19 : decode cX5_readHour 19 = .ok (.istore_n 1, 1) := by decide +kernel
theorem dX5_readHour_20 : decode cX5_readHour 20 = .ok (.aload_n 0, 1) := by decide +kernel
theorem dX5_readHour_21 : decode cX5_readHour 21 = .ok (.dup, 1) := by decide +kernel
theorem dX5_readHour_22 : decode cX5_readHour 22 = .ok (.getfield 25, 3) := by decide +kernel
theorem dX5_readHour_25 : decode cX5_readHour 25 = .ok (.iconst 1, 1) := by decide +kernel
theorem dX5_readHour_26 : decode cX5_readHour 26 = .ok (.iadd, 1) := by decide +kernel
theorem dX5_readHour_27 : decode cX5_readHour 27 = .ok (.putfield 25, 3) := by decide +kernel
theorem dX5_readHour_30 : decode cX5_readHour 30 = .ok (.aload_n 0, 1) := by decide +kernel
theorem dX5_readHour_31 : decode cX5_readHour 31 = .ok (.invokevirtual 49, 3) := by decide +kernel
theorem dX5_readHour_34 : decode cX5_readHour 34 = .ok (.invokestatic 83, 3) := by decide +kernel
theorem dX5_readHour_37 : decode cX5_readHour 37 = .ok (.ifCond .eq 26, 3) := by decide +kernel
theorem dX5_readHour_40 : decode cX5_readHour 40 = .ok (.bipush 10, 2) := by decide +kernel
theorem dX5_readHour_42 : decode cX5_readHour 42 = .ok (.iload_n 1, 1) := by decide +kernel
theorem dX5_readHour_43 : decode cX5_readHour 43 = .ok (.imul, 1) := by decide +kernel
theorem dX5_readHour_44 : decode cX5_readHour 44 = .ok (.aload_n 0, 1) := by decide +kernel
theorem dX5_readHour_45 : decode cX5_readHour 45 = .ok (.invokevirtual 49, 3) := by decide +kernel
theorem dX5_readHour_48 : decode cX5_readHour 48 = .ok (.iadd, 1) := by decide +kernel
theorem dX5_readHour_49 : decode cX5_readHour 49 = .ok (.bipush 48, 2) := by decide +kernel
theorem dX5_readHour_51 : decode cX5_readHour 51 = .ok (.isub, 1) := by decide +kernel
theorem dX5_readHour_52 : decode cX5_readHour 52 = .ok (.istore_n 1, 1) := by decide +kernel
theorem dX5_readHour_53 : decode cX5_readHour 53 = .ok (.aload_n 0, 1) := by decide +kernel
theorem dX5_readHour_54 : decode cX5_readHour 54 = .ok (.dup, 1) := by decide +kernel
theorem dX5_readHour_55 : decode cX5_readHour 55 = .ok (.getfield 25, 3) := by decide +kernel
theorem dX5_readHour_58 : decode cX5_readHour 58 = .ok (.iconst 1, 1) := by decide +kernel
theorem dX5_readHour_59 : decode cX5_readHour 59 = .ok (.iadd, 1) := by decide +kernel
theorem dX5_readHour_60 : decode cX5_readHour 60 = .ok (.putfield 25, 3) := by decide +kernel
theorem dX5_readHour_63 : decode cX5_readHour 63 = .ok (.aload_n 0, 1) := by decide +kernel
theorem dX5_readHour_64 : decode cX5_readHour 64 = .ok (.getfield 15, 3) := by decide +kernel
theorem dX5_readHour_67 : decode cX5_readHour 67 = .ok (.getfield 86, 3) := by decide +kernel
theorem dX5_readHour_70 : decode cX5_readHour 70 = .ok (.aload_n 0, 1) := by decide +kernel
theorem dX5_readHour_71 : decode cX5_readHour 71 = .ok (.getfield 37, 3) := by decide +kernel
theorem dX5_readHour_74 : decode cX5_readHour 74 = .ok (.iload_n 1, 1) := by decide +kernel
theorem dX5_readHour_75 : decode cX5_readHour 75 = .ok (.iastore, 1) := by decide +kernel
theorem dX5_readHour_76 : decode cX5_readHour 76 = .ok (.iconst 1, 1) := by decide +kernel
theorem dX5_readHour_77 : decode cX5_readHour 77 = .ok (.ireturn, 1) := by decide +kernel
theorem dX5_readPrice_0 : decode cX5_readPrice 0 = .ok (.aload_n 0, 1) := by decide +kernel
theorem dX5_readPrice_1 : decode cX5_readPrice 1 = .ok (.getfield 15, 3) := by decide +kernel
theorem dX5_readPrice_4 : decode cX5_readPrice 4 = .ok (.getfield 89, 3) := by decide +kernel
theorem dX5_readPrice_7 : decode cX5_readPrice 7 = .ok (.aload_n 0, 1) := by decide +kernel
theorem dX5_readPrice_8 : decode cX5_readPrice 8 = .ok (.getfield 37, 3) := by decide +kernel
theorem dX5_readPrice_11 : decode cX5_readPrice 11 = .ok (.iconst 0, 1) := by decide +kernel
theorem dX5_readPrice_12 : decode cX5_readPrice 12 = .ok (.iastore, 1) := by decide +kernel
theorem dX5_readPrice_13 : decode cX5_readPrice 13 = .ok (.aload_n 0, 1) := by decide +kernel
theorem dX5_readPrice_14 : decode cX5_readPrice 14 = .ok (.invokevirtual 49, 3) := by decide +kernel
theorem dX5_readPrice_17 : decode cX5_readPrice 17 = .ok (.bipush 42, 2) := by decide +kernel
theorem dX5_readPrice_19 : decode cX5_readPrice 19 = .ok (.if_icmp .eq 5, 3) := by decide +kernel
theorem dX5_readPrice_22 : decode cX5_readPrice 22 = .ok (.iconst 1, 1) := by decide +kernel
theorem dX5_readPrice_23 : decode cX5_readPrice 23 = .ok (.ireturn, 1) := by decide +kernel
theorem dX5_readPrice_24 : decode cX5_readPrice 24 = .ok (.aload_n 0, 1) := by decide +kernel
theorem dX5_readPrice_25 : decode cX5_readPrice 25 = .ok (.dup, 1) := by decide +kernel
theorem dX5_readPrice_26 : decode cX5_readPrice 26 = .ok (.getfield 25, 3) := by decide +kernel
theorem dX5_readPrice_29 : decode cX5_readPrice 29 = .ok (.iconst 1, 1) := by decide +kernel
theorem dX5_readPrice_30 : decode cX5_readPrice 30 = .ok (.iadd, 1) := by decide +kernel
theorem dX5_readPrice_31 : decode cX5_readPrice 31 = .ok (.putfield 25, 3) := by decide +kernel
theorem dX5_readPrice_34 : decode cX5_readPrice 34 = .ok (.aload_n 0, 1) := by decide +kernel
theorem dX5_readPrice_35 : decode cX5_readPrice 35 = .ok (.invokevirtual 49, 3) := by decide +kernel
theorem dX5_readPrice_38 : decode cX5_readPrice 38 = .ok (.invokestatic 83, 3) := by decide +kernel
theorem dX5_readPrice_41 : decode cX5_readPrice 41 = .ok (.ifCond .ne 5, 3) := by decide +kernel
theorem dX5_readPrice_44 : decode cX5_readPrice 44 = .ok (.iconst 0, 1) := by decide +kernel
theorem dX5_readPrice_45 : decode cX5_readPrice 45 = .ok (.ireturn, 1) := by decide +kernel
theorem dX5_readPrice_46 : decode cX5_readPrice 46 = .ok (.aload_n 0, 1) := by decide +kernel
theorem dX5_readPrice_47 : decode cX5_readPrice 47 = .ok (.getfield 15, 3) := by decide +kernel
theorem dX5_readPrice_50 : decode cX5_readPrice 50 = .ok (.getfield 89, 3) := by decide +kernel
theorem dX5_readPrice_53 : decode cX5_readPrice 53 = .ok (.aload_n 0, 1) := by decide +kernel
theorem dX5_readPrice_54 : decode cX5_readPrice 54 = .ok (.getfield 37, 3) := by decide +kernel
theorem dX5_readPrice_57 : decode cX5_readPrice 57 = .ok (.aload_n 0, 1) := by decide +kernel
theorem dX5_readPrice_58 : decode cX5_readPrice 58 = .ok (.invokevirtual 49, 3) := by decide +kernel
theorem dX5_readPrice_61 : decode cX5_readPrice 61 = .ok (.bipush 48, 2) := by decide +kernel
theorem dX5_readPrice_63 : decode cX5_readPrice 63 = .ok (.isub, 1) := by decide +kernel
theorem dX5_readPrice_64 : decode cX5_readPrice 64 = .ok (.iastore, 1) := by decide +kernel
theorem dX5_readPrice_65 : decode cX5_readPrice 65 = .ok (.aload_n 0, 1) := by decide +kernel
theorem dX5_readPrice_66 : decode cX5_readPrice 66 = .ok (.dup, 1) := by decide +kernel
theorem dX5_readPrice_67 : decode cX5_readPrice 67 = .ok (.getfield 25, 3) := by decide +kernel
theorem dX5_readPrice_70 : decode cX5_readPrice 70 = .ok (.iconst 1, 1) := by decide +kernel
theorem dX5_readPrice_71 : decode cX5_readPrice 71 = .ok (.iadd, 1) := by decide +kernel
theorem dX5_readPrice_72 : decode cX5_readPrice 72 = .ok (.putfield 25, 3) := by decide +kernel
theorem dX5_readPrice_75 : decode cX5_readPrice 75 = .ok (.iconst 1, 1) := by decide +kernel
theorem dX5_readPrice_76 : decode cX5_readPrice 76 = .ok (.ireturn, 1) := by decide +kernel
theorem dX6_init_0 : decode cX6_init 0 = .ok (.aload_n 0, 1) := by decide +kernel
theorem dX6_init_1 : decode cX6_init 1 = .ok (.invokespecial 3, 3) := by decide +kernel
theorem dX6_init_4 : decode cX6_init 4 = .ok (.aload_n 0, 1) := by decide +kernel
theorem dX6_init_5 : decode cX6_init 5 = .ok (.bipush 9, 2) := by decide +kernel
theorem dX6_init_7 : decode cX6_init 7 = .ok (.newarray .int, 2) := by decide +kernel
theorem dX6_init_9 : decode cX6_init 9 = .ok (.putfield 9, 3) := by decide +kernel
theorem dX6_init_12 : decode cX6_init 12 = .ok (.aload_n 0, 1) := by decide +kernel
theorem dX6_init_13 : decode cX6_init 13 = .ok (.bipush 20, 2) := by decide +kernel
theorem dX6_init_15 : decode cX6_init 15 = .ok (.newarray .int, 2) := by decide +kernel
theorem dX6_init_17 : decode cX6_init 17 = .ok (.putfield 15, 3) := by decide +kernel
theorem dX6_init_20 : decode cX6_init 20 = .ok (.aload_n 0, 1) := by decide +kernel
theorem dX6_init_21 : decode cX6_init 21 = .ok (.bipush 20, 2) := by decide +kernel
theorem dX6_init_23 : decode cX6_init 23 = .ok (.newarray .int, 2) := by decide +kernel
theorem dX6_init_25 : decode cX6_init 25 = .ok (.putfield 18, 3) := by decide +kernel
theorem dX6_init_28 : decode cX6_init 28 = .ok (.aload_n 0, 1) := by decide +kernel
theorem dX6_init_29 : decode cX6_init 29 = .ok (.bipush 20, 2) := by decide +kernel
theorem dX6_init_31 : decode cX6_init 31 = .ok (.newarray .int, 2) := by decide +kernel
theorem dX6_init_33 : decode cX6_init 33 = .ok (.putfield 21, 3) := by decide +kernel
theorem dX6_init_36 : decode cX6_init 36 = .ok (.aload_n 0, 1) := by decide +kernel
theorem dX6_init_37 : decode cX6_init 37 = .ok (.bipush 20, 2) := by decide +kernel
theorem dX6_init_39 : decode cX6_init 39 = .ok (.newarray .int, 2) := by decide +kernel
theorem dX6_init_41 : decode cX6_init 41 = .ok (.putfield 24, 3) := by decide +kernel
theorem dX6_init_44 : decode cX6_init 44 = .ok (.aload_n 0, 1) := by decide +kernel
theorem dX6_init_45 : decode cX6_init 45 = .ok (.bipush 20, 2) := by decide +kernel
theorem dX6_init_47 : decode cX6_init 47 = .ok (.newarray .int, 2) := by decide +kernel
theorem dX6_init_49 : decode cX6_init 49 = .ok (.putfield 27, 3) := by decide +kernel
theorem dX6_init_52 : decode cX6_init 52 = .ok (.return_, 1) := by decide +kernel
theorem dX6_hasPerson_0 : decode cX6_hasPerson 0 = .ok (.iload_n 1, 1) := by decide +kernel
theorem dX6_hasPerson_1 : decode cX6_hasPerson 1 = .ok (.ifCond .lt 15, 3) := by decide +kernel
theorem dX6_hasPerson_4 : decode cX6_hasPerson 4 = .ok (.iload_n 1, 1) := by decide +kernel
theorem dX6_hasPerson_5 : decode cX6_hasPerson 5 = .ok (.aload_n 0, 1) := by decide +kernel
theorem dX6_hasPerson_6 : decode cX6_hasPerson 6 = .ok (.getfield 30, 3) := by decide +kernel
theorem dX6_hasPerson_9 : decode cX6_hasPerson 9 = .ok (.if_icmp .ge 7, 3) := by decide +kernel
theorem dX6_hasPerson_12 : decode cX6_hasPerson 12 = .ok (.iconst 1, 1) := by decide +kernel
theorem dX6_hasPerson_13 : decode cX6_hasPerson 13 = .ok (.goto 4, 3) := by decide +kernel
theorem dX6_hasPerson_16 : decode cX6_hasPerson 16 = .ok (.iconst 0, 1) := by decide +kernel
theorem dX6_hasPerson_17 : decode cX6_hasPerson 17 = .ok (.ireturn, 1) := by decide +kernel
theorem dX6_hasMeeting_0 : decode cX6_hasMeeting 0 = .ok (.iload_n 1, 1) := by decide +kernel
theorem dX6_hasMeeting_1 : decode cX6_hasMeeting 1 = .ok (.ifCond .lt 15, 3) := by decide +kernel
theorem dX6_hasMeeting_4 : decode cX6_hasMeeting 4 = .ok (.iload_n 1, 1) := by decide +kernel
theorem dX6_hasMeeting_5 : decode cX6_hasMeeting 5 = .ok (.aload_n 0, 1) := by decide +kernel
theorem dX6_hasMeeting_6 : decode cX6_hasMeeting 6 = .ok (.getfield 34, 3) := by decide +kernel
theorem dX6_hasMeeting_9 : decode cX6_hasMeeting 9 = .ok (.if_icmp .ge 7, 3) := by decide +kernel
theorem dX6_hasMeeting_12 : decode cX6_hasMeeting 12 = .ok (.iconst 1, 1) := by decide +kernel
theorem dX6_hasMeeting_13 : decode cX6_hasMeeting 13 = .ok (.goto 4, 3) := by decide +kernel
theorem dX6_hasMeeting_16 : decode cX6_hasMeeting 16 = .ok (.iconst 0, 1) := by decide +kernel
theorem dX6_hasMeeting_17 : decode cX6_hasMeeting 17 = .ok (.ireturn, 1) := by decide +kernel
theorem dX6_everybody_0 : decode cX6_everybody 0 = .ok (.iconst 1, 1) := by decide +kernel
theorem dX6_everybody_1 : decode cX6_everybody 1 = .ok (.aload_n 0, 1) := by decide +kernel
theorem dX6_everybody_2 : decode cX6_everybody 2 = .ok (.getfield 30, 3) := by decide +kernel
theorem dX6_everybody_5 : decode cX6_everybody 5 = .ok (.ishl, 1) := by decide +kernel
theorem dX6_everybody_6 : decode cX6_everybody 6 = .ok (.iconst 1, 1) := by decide +kernel
theorem dX6_everybody_7 : decode cX6_everybody 7 = .ok (.isub, 1) := by decide +kernel
theorem dX6_everybody_8 : decode cX6_everybody 8 = .ok (.ireturn, 1) := by decide +kernel
theorem dX6_isAt_0 : decode cX6_isAt 0 = .ok (.aload_n 0, 1) := by decide +kernel
theorem dX6_isAt_1 : decode cX6_isAt 1 = .ok (.getfield 15, 3) := by decide +kernel
theorem dX6_isAt_4 : decode cX6_isAt 4 = .ok (.iload_n 2, 1) := by decide +kernel
theorem dX6_isAt_5 : decode cX6_isAt 5 = .ok (.iaload, 1) := by decide +kernel
theorem dX6_isAt_6 : decode cX6_isAt 6 = .ok (.iload_n 1, 1) := by decide +kernel
theorem dX6_isAt_7 : decode cX6_isAt 7 = .ok (.if_icmp .eq 13, 3) := by decide +kernel
theorem dX6_isAt_10 : decode cX6_isAt 10 = .ok (.aload_n 0, 1) := by decide +kernel
theorem dX6_isAt_11 : decode cX6_isAt 11 = .ok (.getfield 18, 3) := by decide +kernel
theorem dX6_isAt_14 : decode cX6_isAt 14 = .ok (.iload_n 2, 1) := by decide +kernel
theorem dX6_isAt_15 : decode cX6_isAt 15 = .ok (.iaload, 1) := by decide +kernel
theorem dX6_isAt_16 : decode cX6_isAt 16 = .ok (.iload_n 1, 1) := by decide +kernel
theorem dX6_isAt_17 : decode cX6_isAt 17 = .ok (.if_icmp .ne 7, 3) := by decide +kernel
theorem dX6_isAt_20 : decode cX6_isAt 20 = .ok (.iconst 1, 1) := by decide +kernel
theorem dX6_isAt_21 : decode cX6_isAt 21 = .ok (.goto 4, 3) := by decide +kernel
theorem dX6_isAt_24 : decode cX6_isAt 24 = .ok (.iconst 0, 1) := by decide +kernel
theorem dX6_isAt_25 : decode cX6_isAt 25 = .ok (.ireturn, 1) := by decide +kernel
theorem dX6_otherAt_0 : decode cX6_otherAt 0 = .ok (.aload_n 0, 1) := by decide +kernel
theorem dX6_otherAt_1 : decode cX6_otherAt 1 = .ok (.getfield 15, 3) := by decide +kernel
theorem dX6_otherAt_4 : decode cX6_otherAt 4 = .ok (.iload_n 1, 1) := by decide +kernel
theorem dX6_otherAt_5 : decode cX6_otherAt 5 = .ok (.iaload, 1) := by decide +kernel
theorem dX6_otherAt_6 : decode cX6_otherAt 6 = .ok (.iload_n 2, 1) := by decide +kernel
theorem dX6_otherAt_7 : decode cX6_otherAt 7 = .ok (.if_icmp .ne 12, 3) := by decide +kernel
