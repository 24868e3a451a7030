theorem dX12_when_35 : decode cX12_when 35 = .ok (.iconst (-1), 1) := by decide +kernel
theorem dX12_when_36 : decode cX12_when 36 = .ok (.istore 4, 2) := by decide +kernel
theorem dX12_when_38 : decode cX12_when 38 = .ok (.aload_n 0, 1) := by decide +kernel
theorem dX12_when_39 : decode cX12_when 39 = .ok (.iconst 0, 1) := by decide +kernel
theorem dX12_when_40 : decode cX12_when 40 = .ok (.putfield 99, 3) := by decide +kernel
theorem dX12_when_43 : decode cX12_when 43 = .ok (.iconst 0, 1) := by decide +kernel
theorem dX12_when_44 : decode cX12_when 44 = .ok (.istore 5, 2) := by decide +kernel
theorem dX12_when_46 : decode cX12_when 46 = .ok (.iload 5, 2) := by decide +kernel
theorem dX12_when_48 : decode cX12_when 48 = .ok (.bipush 99, 2) := by decide +kernel
theorem dX12_when_50 : decode cX12_when 50 = .ok (.if_icmp .gt 47, 3) := by decide +kernel
theorem dX12_when_53 : decode cX12_when 53 = .ok (.aload_n 0, 1) := by decide +kernel
theorem dX12_when_54 : decode cX12_when 54 = .ok (.iconst 0, 1) := by decide +kernel
theorem dX12_when_55 : decode cX12_when 55 = .ok (.aload_n 0, 1) := by decide +kernel
theorem dX12_when_56 : decode cX12_when 56 = .ok (.getfield 314, 3) := by decide +kernel
theorem dX12_when_59 : decode cX12_when 59 = .ok (.iload_n 1, 1) := by decide +kernel
theorem dX12_when_60 : decode cX12_when 60 = .ok (.iload_n 2, 1) := by decide +kernel
theorem dX12_when_61 : decode cX12_when 61 = .ok (.iload 5, 2) := by decide +kernel
theorem dX12_when_63 : decode cX12_when 63 = .ok (.invokevirtual 326, 3) := by decide +kernel
theorem dX12_when_66 : decode cX12_when 66 = .ok (.lconst 0, 1) := by decide +kernel
theorem dX12_when_67 : decode cX12_when 67 = .ok (.lcmp, 1) := by decide +kernel
theorem dX12_when_68 : decode cX12_when 68 = .ok (.ifCond .ne 6, 3) := by decide +kernel
theorem dX12_when_71 : decode cX12_when 71 = .ok (.goto 20, 3) := by decide +kernel
theorem dX12_when_74 : decode cX12_when 74 = .ok (.iload_n 3, 1) := by decide +kernel
theorem dX12_when_75 : decode cX12_when 75 = .ok (.ifCond .ne 9, 3) := by decide +kernel
theorem dX12_when_78 : decode cX12_when 78 = .ok (.aload_n 0, 1) := by decide +kernel
theorem dX12_when_79 : decode cX12_when 79 = .ok (.iload 5, 2) := by decide +kernel
theorem dX12_when_81 : decode cX12_when 81 = .ok (.invokevirtual 250, 3) := by decide +kernel
theorem dX12_when_84 : decode cX12_when 84 = .ok (.iload 5, 2) := by decide +kernel
theorem dX12_when_86 : decode cX12_when 86 = .ok (.istore 4, 2) := by decide +kernel
theorem dX12_when_88 : decode cX12_when 88 = .ok (.iinc 3 1, 3) := by decide +kernel
theorem dX12_when_91 : decode cX12_when 91 = .ok (.iinc 5 1, 3) := by decide +kernel
theorem dX12_when_94 : decode cX12_when 94 = .ok (.goto (-48), 3) := by decide +kernel
theorem dX12_when_97 : decode cX12_when 97 = .ok (.iload_n 3, 1) := by decide +kernel
theorem dX12_when_98 : decode cX12_when 98 = .ok (.ifCond .le 9, 3) := by decide +kernel
theorem dX12_when_101 : decode cX12_when 101 = .ok (.aload_n 0, 1) := by decide +kernel
theorem dX12_when_102 : decode cX12_when 102 = .ok (.iload 4, 2) := by decide +kernel
theorem dX12_when_104 : decode cX12_when 104 = .ok (.invokevirtual 250, 3) := by decide +kernel
theorem dX12_when_107 : decode cX12_when 107 = .ok (.iload_n 3, 1) := by decide +kernel
theorem dX12_when_108 : decode cX12_when 108 = .ok (.ireturn, 1) := by decide +kernel
theorem dX12_answerBy_0 : decode cX12_answerBy 0 = .ok (.aload_n 0, 1) := by decide +kernel
theorem dX12_answerBy_1 : decode cX12_answerBy 1 = .ok (.iconst 0, 1) := by decide +kernel
theorem dX12_answerBy_2 : decode cX12_answerBy 2 = .ok (.putfield 277, 3) := by decide +kernel
theorem dX12_answerBy_5 : decode cX12_answerBy 5 = .ok (.aload_n 0, 1) := by decide +kernel
theorem dX12_answerBy_6 : decode cX12_answerBy 6 = .ok (.aload_n 0, 1) := by decide +kernel
theorem dX12_answerBy_7 : decode cX12_answerBy 7 = .ok (.iload_n 1, 1) := by decide +kernel
theorem dX12_answerBy_8 : decode cX12_answerBy 8 = .ok (.iload_n 2, 1) := by decide +kernel
theorem dX12_answerBy_9 : decode cX12_answerBy 9 = .ok (.iload_n 3, 1) := by decide +kernel
theorem dX12_answerBy_10 : decode cX12_answerBy 10 = .ok (.invokevirtual 301, 3) := by decide +kernel
theorem dX12_answerBy_13 : decode cX12_answerBy 13 = .ok (.putfield 339, 3) := by decide +kernel
theorem dX12_answerBy_16 : decode cX12_answerBy 16 = .ok (.aload_n 0, 1) := by decide +kernel
theorem dX12_answerBy_17 : decode cX12_answerBy 17 = .ok (.getfield 339, 3) := by decide +kernel
theorem dX12_answerBy_20 : decode cX12_answerBy 20 = .ok (.ldc 50, 2) := by decide +kernel
theorem dX12_answerBy_22 : decode cX12_answerBy 22 = .ok (.if_icmp .lt 6, 3) := by decide +kernel
theorem dX12_answerBy_25 : decode cX12_answerBy 25 = .ok (.ldc 50, 2) := by decide +kernel
theorem dX12_answerBy_27 : decode cX12_answerBy 27 = .ok (.ireturn, 1) := by decide +kernel
theorem dX12_answerBy_28 : decode cX12_answerBy 28 = .ok (.aload_n 0, 1) := by decide +kernel
theorem dX12_answerBy_29 : decode cX12_answerBy 29 = .ok (.iload_n 2, 1) := by decide +kernel
theorem dX12_answerBy_30 : decode cX12_answerBy 30 = .ok (.iload_n 1, 1) := by decide +kernel
theorem dX12_answerBy_31 : decode cX12_answerBy 31 = .ok (.aload_n 0, 1) := by decide +kernel
theorem dX12_answerBy_32 : decode cX12_answerBy 32 = .ok (.getfield 339, 3) := by decide +kernel
theorem dX12_answerBy_35 : decode cX12_answerBy 35 = .ok (.aload_n 0, 1) := by decide +kernel
theorem dX12_answerBy_36 : decode cX12_answerBy 36 = .ok (.getfield 9, 3) := by decide +kernel
theorem dX12_answerBy_39 : decode cX12_answerBy 39 = .ok (.iload_n 2, 1) := by decide +kernel
theorem dX12_answerBy_40 : decode cX12_answerBy 40 = .ok (.iaload, 1) := by decide +kernel
theorem dX12_answerBy_41 : decode cX12_answerBy 41 = .ok (.iadd, 1) := by decide +kernel
theorem dX12_answerBy_42 : decode cX12_answerBy 42 = .ok (.invokevirtual 301, 3) := by decide +kernel
theorem dX12_answerBy_45 : decode cX12_answerBy 45 = .ok (.ireturn, 1) := by decide +kernel
theorem dX12_answer_0 : decode cX12_answer 0 = .ok (.aload_n 0, 1) := by decide +kernel
theorem dX12_answer_1 : decode cX12_answer 1 = .ok (.iconst 0, 1) := by decide +kernel
theorem dX12_answer_2 : decode cX12_answer 2 = .ok (.putfield 96, 3) := by decide +kernel
theorem dX12_answer_5 : decode cX12_answer 5 = .ok (.aload_n 0, 1) := by decide +kernel
theorem dX12_answer_6 : decode cX12_answer 6 = .ok (.iload_n 1, 1) := by decide +kernel
theorem dX12_answer_7 : decode cX12_answer 7 = .ok (.iload_n 2, 1) := by decide +kernel
theorem dX12_answer_8 : decode cX12_answer 8 = .ok (.iload_n 3, 1) := by decide +kernel
theorem dX12_answer_9 : decode cX12_answer 9 = .ok (.invokevirtual 294, 3) := by decide +kernel
theorem dX12_answer_12 : decode cX12_answer 12 = .ok (.ifCond .eq 8, 3) := by decide +kernel
theorem dX12_answer_15 : decode cX12_answer 15 = .ok (.iload_n 1, 1) := by decide +kernel
theorem dX12_answer_16 : decode cX12_answer 16 = .ok (.iload_n 2, 1) := by decide +kernel
theorem dX12_answer_17 : decode cX12_answer 17 = .ok (.if_icmp .ne 5, 3) := by decide +kernel
theorem dX12_answer_20 : decode cX12_answer 20 = .ok (.iconst (-1), 1) := by decide +kernel
theorem dX12_answer_21 : decode cX12_answer 21 = .ok (.ireturn, 1) := by decide +kernel
theorem dX12_answer_22 : decode cX12_answer 22 = .ok (.aload_n 0, 1) := by decide +kernel
theorem dX12_answer_23 : decode cX12_answer 23 = .ok (.iload_n 1, 1) := by decide +kernel
theorem dX12_answer_24 : decode cX12_answer 24 = .ok (.iload_n 2, 1) := by decide +kernel
theorem dX12_answer_25 : decode cX12_answer 25 = .ok (.iload_n 3, 1) := by decide +kernel
theorem dX12_answer_26 : decode cX12_answer 26 = .ok (.invokevirtual 342, 3) := by decide +kernel
theorem dX12_answer_29 : decode cX12_answer 29 = .ok (.istore 4, 2) := by decide +kernel
theorem dX12_answer_31 : decode cX12_answer 31 = .ok (.iload 4, 2) := by decide +kernel
theorem dX12_answer_33 : decode cX12_answer 33 = .ok (.ldc 50, 2) := by decide +kernel
theorem dX12_answer_35 : decode cX12_answer 35 = .ok (.if_icmp .lt 6, 3) := by decide +kernel
theorem dX12_answer_38 : decode cX12_answer 38 = .ok (.bipush (-2), 2) := by decide +kernel
theorem dX12_answer_40 : decode cX12_answer 40 = .ok (.ireturn, 1) := by decide +kernel
theorem dX12_answer_41 : decode cX12_answer 41 = .ok (.aload_n 0, 1) := by decide +kernel
theorem dX12_answer_42 : decode cX12_answer 42 = .ok (.iconst 0, 1) := by decide +kernel
theorem dX12_answer_43 : decode cX12_answer 43 = .ok (.putfield 99, 3) := by decide +kernel
theorem dX12_answer_46 : decode cX12_answer 46 = .ok (.aload_n 0, 1) := by decide +kernel
theorem dX12_answer_47 : decode cX12_answer 47 = .ok (.aload_n 0, 1) := by decide +kernel
theorem dX12_answer_48 : decode cX12_answer 48 = .ok (.getfield 339, 3) := by decide +kernel
theorem dX12_answer_51 : decode cX12_answer 51 = .ok (.invokevirtual 250, 3) := by decide +kernel
theorem dX12_answer_54 : decode cX12_answer 54 = .ok (.iload 4, 2) := by decide +kernel
theorem dX12_answer_56 : decode cX12_answer 56 = .ok (.ireturn, 1) := by decide +kernel
theorem dX12_ask_0 : decode cX12_ask 0 = .ok (.aload_n 0, 1) := by decide +kernel
theorem dX12_ask_1 : decode cX12_ask 1 = .ok (.iconst 0, 1) := by decide +kernel
theorem dX12_ask_2 : decode cX12_ask 2 = .ok (.putfield 96, 3) := by decide +kernel
theorem dX12_ask_5 : decode cX12_ask 5 = .ok (.aload_n 0, 1) := by decide +kernel
theorem dX12_ask_6 : decode cX12_ask 6 = .ok (.iload_n 1, 1) := by decide +kernel
theorem dX12_ask_7 : decode cX12_ask 7 = .ok (.iload_n 1, 1) := by decide +kernel
theorem dX12_ask_8 : decode cX12_ask 8 = .ok (.iload_n 2, 1) := by decide +kernel
theorem dX12_ask_9 : decode cX12_ask 9 = .ok (.invokevirtual 294, 3) := by decide +kernel
theorem dX12_ask_12 : decode cX12_ask 12 = .ok (.ifCond .ne 5, 3) := by decide +kernel
theorem dX12_ask_15 : decode cX12_ask 15 = .ok (.iconst (-1), 1) := by decide +kernel
theorem dX12_ask_16 : decode cX12_ask 16 = .ok (.ireturn, 1) := by decide +kernel
theorem dX12_ask_17 : decode cX12_ask 17 = .ok (.bipush (-2), 2) := by decide +kernel
theorem dX12_ask_19 : decode cX12_ask 19 = .ok (.istore_n 3, 1) := by decide +kernel
theorem dX12_ask_20 : decode cX12_ask 20 = .ok (.ldc 50, 2) := by decide +kernel
theorem dX12_ask_22 : decode cX12_ask 22 = .ok (.istore 4, 2) := by decide +kernel
theorem dX12_ask_24 : decode cX12_ask 24 = .ok (.iconst 0, 1) := by decide +kernel
theorem dX12_ask_25 : decode cX12_ask 25 = .ok (.istore 5, 2) := by decide +kernel
theorem dX12_ask_27 : decode cX12_ask 27 = .ok (.iload 5, 2) := by decide +kernel
theorem dX12_ask_29 : decode cX12_ask 29 = .ok (.aload_n 0, 1) := by decide +kernel
theorem dX12_ask_30 : decode cX12_ask 30 = .ok (.getfield 102, 3) := by decide +kernel
theorem dX12_ask_33 : decode cX12_ask 33 = .ok (.if_icmp .ge 47, 3) := by decide +kernel
theorem dX12_ask_36 : decode cX12_ask 36 = .ok (.iload 5, 2) := by decide +kernel
theorem dX12_ask_38 : decode cX12_ask 38 = .ok (.iload_n 1, 1) := by decide +kernel
theorem dX12_ask_39 : decode cX12_ask 39 = .ok (.if_icmp .ne 8, 3) := by decide +kernel
theorem dX12_ask_42 : decode cX12_ask 42 = .ok (.ldc 50, 2) := by decide +kernel
theorem dX12_ask_44 : decode cX12_ask 44 = .ok (.goto 11, 3) := by decide +kernel
theorem dX12_ask_47 : decode cX12_ask 47 = .ok (.aload_n 0, 1) := by decide +kernel
theorem dX12_ask_48 : decode cX12_ask 48 = .ok (.iload_n 1, 1) := by decide +kernel
theorem dX12_ask_49 : decode cX12_ask 49 = .ok (.iload 5, 2) := by decide +kernel
theorem dX12_ask_51 : decode cX12_ask 51 = .ok (.iload_n 2, 1) := by decide +kernel
theorem dX12_ask_52 : decode cX12_ask 52 = .ok (.invokevirtual 342, 3) := by decide +kernel
theorem dX12_ask_55 : decode cX12_ask 55 = .ok (.istore 6, 2) := by decide +kernel
theorem dX12_ask_57 : decode cX12_ask 57 = .ok (.iload 6, 2) := by decide +kernel
theorem dX12_ask_59 : decode cX12_ask 59 = .ok (.iload 4, 2) := by decide +kernel
theorem dX12_ask_61 : decode cX12_ask 61 = .ok (.if_icmp .lt 6, 3) := by decide +kernel
theorem dX12_ask_64 : decode cX12_ask 64 = .ok (.goto 10, 3) := by decide +kernel
theorem dX12_ask_67 : decode cX12_ask 67 = .ok (.iload 5, 2) := by decide +kernel
theorem dX12_ask_69 : decode cX12_ask 69 = .ok (.istore_n 3, 1) := by decide +kernel
theorem dX12_ask_70 : decode cX12_ask 70 = .ok (.iload 6, 2) := by decide +kernel
theorem dX12_ask_72 : decode cX12_ask 72 = .ok (.istore 4, 2) := by decide +kernel
theorem dX12_ask_74 : decode cX12_ask 74 = .ok (.iinc 5 1, 3) := by decide +kernel
theorem dX12_ask_77 : decode cX12_ask 77 = .ok (.goto (-50), 3) := by decide +kernel
theorem dX12_ask_80 : decode cX12_ask 80 = .ok (.iload_n 3, 1) := by decide +kernel
theorem dX12_ask_81 : decode cX12_ask 81 = .ok (.ifCond .ge 6, 3) := by decide +kernel
theorem dX12_ask_84 : decode cX12_ask 84 = .ok (.bipush (-2), 2) := by decide +kernel
theorem dX12_ask_86 : decode cX12_ask 86 = .ok (.ireturn, 1) := by decide +kernel
theorem dX12_ask_87 : decode cX12_ask 87 = .ok (.aload_n 0, 1) := by decide +kernel
theorem dX12_ask_88 : decode cX12_ask 88 = .ok (.iconst 0, 1) := by decide +kernel
theorem dX12_ask_89 : decode cX12_ask 89 = .ok (.putfield 99, 3) := by decide +kernel
theorem dX12_ask_92 : decode cX12_ask 92 = .ok (.aload_n 0, 1) := by decide +kernel
theorem dX12_ask_93 : decode cX12_ask 93 = .ok (.iload 4, 2) := by decide +kernel
theorem dX12_ask_95 : decode cX12_ask 95 = .ok (.invokevirtual 250, 3) := by decide +kernel
theorem dX12_ask_98 : decode cX12_ask 98 = .ok (.iload_n 3, 1) := by decide +kernel
theorem dX12_ask_99 : decode cX12_ask 99 = .ok (.ireturn, 1) := by decide +kernel
theorem dX12_knowing_0 : decode cX12_knowing 0 = .ok (.iconst 0, 1) := by decide +kernel
theorem dX12_knowing_1 : decode cX12_knowing 1 = .ok (.istore 4, 2) := by decide +kernel
theorem dX12_knowing_3 : decode cX12_knowing 3 = .ok (.iload 4, 2) := by decide +kernel
theorem dX12_knowing_5 : decode cX12_knowing 5 = .ok (.aload_n 0, 1) := by decide +kernel
theorem dX12_knowing_6 : decode cX12_knowing 6 = .ok (.getfield 102, 3) := by decide +kernel
theorem dX12_knowing_9 : decode cX12_knowing 9 = .ok (.if_icmp .ge 28, 3) := by decide +kernel
theorem dX12_knowing_12 : decode cX12_knowing 12 = .ok (.aload_n 0, 1) := by decide +kernel
theorem dX12_knowing_13 : decode cX12_knowing 13 = .ok (.getfield 83, 3) := by decide +kernel
theorem dX12_knowing_16 : decode cX12_knowing 16 = .ok (.iload 4, 2) := by decide +kernel
theorem dX12_knowing_18 : decode cX12_knowing 18 = .ok (.iload 4, 2) := by decide +kernel
theorem dX12_knowing_20 : decode cX12_knowing 20 = .ok (.iload_n 1, 1) := by decide +kernel
theorem dX12_knowing_21 : decode cX12_knowing 21 = .ok (.if_icmp .ne 7, 3) := by decide +kernel
theorem dX12_knowing_24 : decode cX12_knowing 24 = .ok (.iload_n 2, 1) := by decide +kernel
theorem dX12_knowing_25 : decode cX12_knowing 25 = .ok (.goto 5, 3) := by decide +kernel
theorem dX12_knowing_28 : decode cX12_knowing 28 = .ok (.ldc 50, 2) := by decide +kernel
theorem dX12_knowing_30 : decode cX12_knowing 30 = .ok (.iastore, 1) := by decide +kernel
theorem dX12_knowing_31 : decode cX12_knowing 31 = .ok (.iinc 4 1, 3) := by decide +kernel
theorem dX12_knowing_34 : decode cX12_knowing 34 = .ok (.goto (-31), 3) := by decide +kernel
theorem dX12_knowing_37 : decode cX12_knowing 37 = .ok (.aload_n 0, 1) := by decide +kernel
theorem dX12_knowing_38 : decode cX12_knowing 38 = .ok (.invokevirtual 271, 3) := by decide +kernel
theorem dX12_knowing_41 : decode cX12_knowing 41 = .ok (.iconst 0, 1) := by decide +kernel
theorem dX12_knowing_42 : decode cX12_knowing 42 = .ok (.istore 4, 2) := by decide +kernel
theorem dX12_knowing_44 : decode cX12_knowing 44 = .ok (.iload 4, 2) := by decide +kernel
theorem dX12_knowing_46 : decode cX12_knowing 46 = .ok (.aload_n 0, 1) := by decide +kernel
theorem dX12_knowing_47 : decode cX12_knowing 47 = .ok (.getfield 262, 3) := by decide +kernel
theorem dX12_knowing_50 : decode cX12_knowing 50 = .ok (.if_icmp .ge 108, 3) := by decide +kernel
theorem dX12_knowing_53 : decode cX12_knowing 53 = .ok (.aload_n 0, 1) := by decide +kernel
theorem dX12_knowing_54 : decode cX12_knowing 54 = .ok (.getfield 41, 3) := by decide +kernel
theorem dX12_knowing_57 : decode cX12_knowing 57 = .ok (.iload 4, 2) := by decide +kernel
theorem dX12_knowing_59 : decode cX12_knowing 59 = .ok (.iaload, 1) := by decide +kernel
theorem dX12_knowing_60 : decode cX12_knowing 60 = .ok (.istore 5, 2) := by decide +kernel
theorem dX12_knowing_62 : decode cX12_knowing 62 = .ok (.aload_n 0, 1) := by decide +kernel
theorem dX12_knowing_63 : decode cX12_knowing 63 = .ok (.getfield 19, 3) := by decide +kernel
theorem dX12_knowing_66 : decode cX12_knowing 66 = .ok (.iload 5, 2) := by decide +kernel
theorem dX12_knowing_68 : decode cX12_knowing 68 = .ok (.iconst 2, 1) := by decide +kernel
theorem dX12_knowing_69 : decode cX12_knowing 69 = .ok (.idiv, 1) := by decide +kernel
theorem dX12_knowing_70 : decode cX12_knowing 70 = .ok (.iaload, 1) := by decide +kernel
theorem dX12_knowing_71 : decode cX12_knowing 71 = .ok (.istore 6, 2) := by decide +kernel
theorem dX12_knowing_73 : decode cX12_knowing 73 = .ok (.aload_n 0, 1) := by decide +kernel
theorem dX12_knowing_74 : decode cX12_knowing 74 = .ok (.getfield 83, 3) := by decide +kernel
theorem dX12_knowing_77 : decode cX12_knowing 77 = .ok (.aload_n 0, 1) := by decide +kernel
theorem dX12_knowing_78 : decode cX12_knowing 78 = .ok (.iload 5, 2) := by decide +kernel
theorem dX12_knowing_80 : decode cX12_knowing 80 = .ok (.invokevirtual 265, 3) := by decide +kernel
theorem dX12_knowing_83 : decode cX12_knowing 83 = .ok (.iaload, 1) := by decide +kernel
theorem dX12_knowing_84 : decode cX12_knowing 84 = .ok (.aload_n 0, 1) := by decide +kernel
theorem dX12_knowing_85 : decode cX12_knowing 85 = .ok (.iload 5, 2) := by decide +kernel
theorem dX12_knowing_87 : decode cX12_knowing 87 = .ok (.invokevirtual 265, 3) := by decide +kernel
theorem dX12_knowing_90 : decode cX12_knowing 90 = .ok (.iload_n 1, 1) := by decide +kernel
theorem dX12_knowing_91 : decode cX12_knowing 91 = .ok (.if_icmp .ne 7, 3) := by decide +kernel
theorem dX12_knowing_94 : decode cX12_knowing 94 = .ok (.iconst 0, 1) := by decide +kernel
theorem dX12_knowing_95 : decode cX12_knowing 95 = .ok (.goto 14, 3) := by decide +kernel
theorem dX12_knowing_98 : decode cX12_knowing 98 = .ok (.aload_n 0, 1) := by decide +kernel
theorem dX12_knowing_99 : decode cX12_knowing 99 = .ok (.getfield 9, 3) := by decide +kernel
theorem dX12_knowing_102 : decode cX12_knowing 102 = .ok (.aload_n 0, 1) := by decide +kernel
theorem dX12_knowing_103 : decode cX12_knowing 103 = .ok (.iload 5, 2) := by decide +kernel
theorem dX12_knowing_105 : decode cX12_knowing 105 = .ok (.invokevirtual 265, 3) := by decide +kernel
theorem dX12_knowing_108 : decode cX12_knowing 108 = .ok (.iaload, 1) := by decide +kernel
theorem dX12_knowing_109 : decode cX12_knowing 109 = .ok (.iadd, 1) := by decide +kernel
theorem dX12_knowing_110 : decode cX12_knowing 110 = .ok (.istore 7, 2) := by decide +kernel
theorem dX12_knowing_112 : decode cX12_knowing 112 = .ok (.iload 7, 2) := by decide +kernel
theorem dX12_knowing_114 : decode cX12_knowing 114 = .ok (.iload 6, 2) := by decide +kernel
theorem dX12_knowing_116 : decode cX12_knowing 116 = .ok (.if_icmp .gt 36, 3) := by decide +kernel
theorem dX12_knowing_119 : decode cX12_knowing 119 = .ok (.iload 6, 2) := by decide +kernel
theorem dX12_knowing_121 : decode cX12_knowing 121 = .ok (.iload_n 3, 1) := by decide +kernel
theorem dX12_knowing_122 : decode cX12_knowing 122 = .ok (.if_icmp .gt 30, 3) := by decide +kernel
theorem dX12_knowing_125 : decode cX12_knowing 125 = .ok (.aload_n 0, 1) := by decide +kernel
theorem dX12_knowing_126 : decode cX12_knowing 126 = .ok (.getfield 83, 3) := by decide +kernel
theorem dX12_knowing_129 : decode cX12_knowing 129 = .ok (.aload_n 0, 1) := by decide +kernel
theorem dX12_knowing_130 : decode cX12_knowing 130 = .ok (.iload 5, 2) := by decide +kernel
theorem dX12_knowing_132 : decode cX12_knowing 132 = .ok (.invokevirtual 268, 3) := by decide +kernel
theorem dX12_knowing_135 : decode cX12_knowing 135 = .ok (.aload_n 0, 1) := by decide +kernel
theorem dX12_knowing_136 : decode cX12_knowing 136 = .ok (.getfield 83, 3) := by decide +kernel
theorem dX12_knowing_139 : decode cX12_knowing 139 = .ok (.aload_n 0, 1) := by decide +kernel
theorem dX12_knowing_140 : decode cX12_knowing 140 = .ok (.iload 5, 2) := by decide +kernel
theorem dX12_knowing_142 : decode cX12_knowing 142 = .ok (.invokevirtual 268, 3) := by decide +kernel
theorem dX12_knowing_145 : decode cX12_knowing 145 = .ok (.iaload, 1) := by decide +kernel
theorem dX12_knowing_146 : decode cX12_knowing 146 = .ok (.iload 6, 2) := by decide +kernel
theorem dX12_knowing_148 : decode cX12_knowing 148 = .ok (.invokestatic 207, 3) := by decide +kernel
theorem dX12_knowing_151 : decode cX12_knowing 151 = .ok (.iastore, 1) := by decide +kernel
theorem dX12_knowing_152 : decode cX12_knowing 152 = .ok (.iinc 4 1, 3) := by decide +kernel
theorem dX12_knowing_155 : decode cX12_knowing 155 = .ok (.goto (-111), 3) := by decide +kernel
theorem dX12_knowing_158 : decode cX12_knowing 158 = .ok (.iconst 0, 1) := by decide +kernel
theorem dX12_knowing_159 : decode cX12_knowing 159 = .ok (.istore 4, 2) := by decide +kernel
theorem dX12_knowing_161 : decode cX12_knowing 161 = .ok (.iconst 0, 1) := by decide +kernel
theorem dX12_knowing_162 : decode cX12_knowing 162 = .ok (.istore 5, 2) := by decide +kernel
theorem dX12_knowing_164 : decode cX12_knowing 164 = .ok (.iload 5, 2) := by decide +kernel
theorem dX12_knowing_166 : decode cX12_knowing 166 = .ok (.aload_n 0, 1) := by decide +kernel
theorem dX12_knowing_167 : decode cX12_knowing 167 = .ok (.getfield 102, 3) := by decide +kernel
theorem dX12_knowing_170 : decode cX12_knowing 170 = .ok (.if_icmp .ge 33, 3) := by decide +kernel
theorem dX12_knowing_173 : decode cX12_knowing 173 = .ok (.iload 4, 2) := by decide +kernel
theorem dX12_knowing_175 : decode cX12_knowing 175 = .ok (.aload_n 0, 1) := by decide +kernel
theorem dX12_knowing_176 : decode cX12_knowing 176 = .ok (.getfield 83, 3) := by decide +kernel
theorem dX12_knowing_179 : decode cX12_knowing 179 = .ok (.iload 5, 2) := by decide +kernel
theorem dX12_knowing_181 : decode cX12_knowing 181 = .ok (.iaload, 1) := by decide +kernel
theorem dX12_knowing_182 : decode cX12_knowing 182 = .ok (.iload_n 3, 1) := by decide +kernel
theorem dX12_knowing_183 : decode cX12_knowing 183 = .ok (.if_icmp .gt 10, 3) := by decide +kernel
theorem dX12_knowing_186 : decode cX12_knowing 186 = .ok (.iconst 1, 1) := by decide +kernel
theorem dX12_knowing_187 : decode cX12_knowing 187 = .ok (.iload 5, 2) := by decide +kernel
theorem dX12_knowing_189 : decode cX12_knowing 189 = .ok (.ishl, 1) := by decide +kernel
theorem dX12_knowing_190 : decode cX12_knowing 190 = .ok (.goto 4, 3) := by decide +kernel
theorem dX12_knowing_193 : decode cX12_knowing 193 = .ok (.iconst 0, 1) := by decide +kernel
theorem dX12_knowing_194 : decode cX12_knowing 194 = .ok (.ior, 1) := by decide +kernel
theorem dX12_knowing_195 : decode cX12_knowing 195 = .ok (.istore 4, 2) := by decide +kernel
theorem dX12_knowing_197 : decode cX12_knowing 197 = .ok (.iinc 5 1, 3) := by decide +kernel
theorem dX12_knowing_200 : decode cX12_knowing 200 = .ok (.goto (-36), 3) := by decide +kernel
theorem dX12_knowing_203 : decode cX12_knowing 203 = .ok (.iload 4, 2) := by decide +kernel
theorem dX12_knowing_205 : decode cX12_knowing 205 = .ok (.ireturn, 1) := by decide +kernel
theorem dX12_areHours_0 : decode cX12_areHours 0 = .ok (.iload_n 1, 1) := by decide +kernel
theorem dX12_areHours_1 : decode cX12_areHours 1 = .ok (.invokestatic 221, 3) := by decide +kernel
theorem dX12_areHours_4 : decode cX12_areHours 4 = .ok (.ifCond .eq 17, 3) := by decide +kernel
theorem dX12_areHours_7 : decode cX12_areHours 7 = .ok (.iload_n 2, 1) := by decide +kernel
theorem dX12_areHours_8 : decode cX12_areHours 8 = .ok (.iload_n 1, 1) := by decide +kernel
theorem dX12_areHours_9 : decode cX12_areHours 9 = .ok (.bipush 99, 2) := by decide +kernel
theorem dX12_areHours_11 : decode cX12_areHours 11 = .ok (.invokestatic 105, 3) := by decide +kernel
theorem dX12_areHours_14 : decode cX12_areHours 14 = .ok (.ifCond .eq 7, 3) := by decide +kernel
theorem dX12_areHours_17 : decode cX12_areHours 17 = .ok (.iconst 1, 1) := by decide +kernel
theorem dX12_areHours_18 : decode cX12_areHours 18 = .ok (.goto 4, 3) := by decide +kernel
theorem dX12_areHours_21 : decode cX12_areHours 21 = .ok (.iconst 0, 1) := by decide +kernel
theorem dX12_areHours_22 : decode cX12_areHours 22 = .ok (.ireturn, 1) := by decide +kernel
theorem dX12_gossip_0 : decode cX12_gossip 0 = .ok (.aload_n 0, 1) := by decide +kernel
theorem dX12_gossip_1 : decode cX12_gossip 1 = .ok (.iconst 0, 1) := by decide +kernel
theorem dX12_gossip_2 : decode cX12_gossip 2 = .ok (.putfield 96, 3) := by decide +kernel
theorem dX12_gossip_5 : decode cX12_gossip 5 = .ok (.aload_n 0, 1) := by decide +kernel
theorem dX12_gossip_6 : decode cX12_gossip 6 = .ok (.iload_n 1, 1) := by decide +kernel
theorem dX12_gossip_7 : decode cX12_gossip 7 = .ok (.invokevirtual 197, 3) := by decide +kernel
theorem dX12_gossip_10 : decode cX12_gossip 10 = .ok (.ifCond .eq 12, 3) := by decide +kernel
theorem dX12_gossip_13 : decode cX12_gossip 13 = .ok (.aload_n 0, 1) := by decide +kernel
theorem dX12_gossip_14 : decode cX12_gossip 14 = .ok (.iload_n 2, 1) := by decide +kernel
theorem dX12_gossip_15 : decode cX12_gossip 15 = .ok (.iload_n 3, 1) := by decide +kernel
theorem dX12_gossip_16 : decode cX12_gossip 16 = .ok (.invokevirtual 345, 3) := by decide +kernel
theorem dX12_gossip_19 : decode cX12_gossip 19 = .ok (.ifCond .ne 5, 3) := by decide +kernel
theorem dX12_gossip_22 : decode cX12_gossip 22 = .ok (.iconst (-1), 1) := by decide +kernel
theorem dX12_gossip_23 : decode cX12_gossip 23 = .ok (.ireturn, 1) := by decide +kernel
theorem dX12_gossip_24 : decode cX12_gossip 24 = .ok (.aload_n 0, 1) := by decide +kernel
theorem dX12_gossip_25 : decode cX12_gossip 25 = .ok (.iload_n 1, 1) := by decide +kernel
theorem dX12_gossip_26 : decode cX12_gossip 26 = .ok (.iload_n 2, 1) := by decide +kernel
theorem dX12_gossip_27 : decode cX12_gossip 27 = .ok (.iload_n 3, 1) := by decide +kernel
theorem dX12_gossip_28 : decode cX12_gossip 28 = .ok (.invokevirtual 348, 3) := by decide +kernel
theorem dX12_gossip_31 : decode cX12_gossip 31 = .ok (.istore 4, 2) := by decide +kernel
theorem dX12_gossip_33 : decode cX12_gossip 33 = .ok (.iconst 0, 1) := by decide +kernel
theorem dX12_gossip_34 : decode cX12_gossip 34 = .ok (.istore 5, 2) := by decide +kernel
theorem dX12_gossip_36 : decode cX12_gossip 36 = .ok (.iconst 0, 1) := by decide +kernel
theorem dX12_gossip_37 : decode cX12_gossip 37 = .ok (.istore 6, 2) := by decide +kernel
theorem dX12_gossip_39 : decode cX12_gossip 39 = .ok (.iload 6, 2) := by decide +kernel
theorem dX12_gossip_41 : decode cX12_gossip 41 = .ok (.aload_n 0, 1) := by decide +kernel
theorem dX12_gossip_42 : decode cX12_gossip 42 = .ok (.getfield 102, 3) := by decide +kernel
theorem dX12_gossip_45 : decode cX12_gossip 45 = .ok (.if_icmp .ge 33, 3) := by decide +kernel
theorem dX12_gossip_48 : decode cX12_gossip 48 = .ok (.iload 4, 2) := by decide +kernel
theorem dX12_gossip_50 : decode cX12_gossip 50 = .ok (.iload 6, 2) := by decide +kernel
theorem dX12_gossip_52 : decode cX12_gossip 52 = .ok (.invokestatic 259, 3) := by decide +kernel
theorem dX12_gossip_55 : decode cX12_gossip 55 = .ok (.ifCond .eq 17, 3) := by decide +kernel
theorem dX12_gossip_58 : decode cX12_gossip 58 = .ok (.iload 5, 2) := by decide +kernel
theorem dX12_gossip_60 : decode cX12_gossip 60 = .ok (.aload_n 0, 1) := by decide +kernel
theorem dX12_gossip_61 : decode cX12_gossip 61 = .ok (.getfield 83, 3) := by decide +kernel
theorem dX12_gossip_64 : decode cX12_gossip 64 = .ok (.iload 6, 2) := by decide +kernel
theorem dX12_gossip_66 : decode cX12_gossip 66 = .ok (.iaload, 1) := by decide +kernel
theorem dX12_gossip_67 : decode cX12_gossip 67 = .ok (.invokestatic 213, 3) := by decide +kernel
theorem dX12_gossip_70 : decode cX12_gossip 70 = .ok (.istore 5, 2) := by decide +kernel
theorem dX12_gossip_72 : decode cX12_gossip 72 = .ok (.iinc 6 1, 3) := by decide +kernel
theorem dX12_gossip_75 : decode cX12_gossip 75 = .ok (.goto (-36), 3) := by decide +kernel
theorem dX12_gossip_78 : decode cX12_gossip 78 = .ok (.aload_n 0, 1) := by decide +kernel
theorem dX12_gossip_79 : decode cX12_gossip 79 = .ok (.iconst 0, 1) := by decide +kernel
theorem dX12_gossip_80 : decode cX12_gossip 80 = .ok (.putfield 99, 3) := by decide +kernel
theorem dX12_gossip_83 : decode cX12_gossip 83 = .ok (.aload_n 0, 1) := by decide +kernel
theorem dX12_gossip_84 : decode cX12_gossip 84 = .ok (.iload 5, 2) := by decide +kernel
theorem dX12_gossip_86 : decode cX12_gossip 86 = .ok (.invokevirtual 250, 3) := by decide +kernel
theorem dX12_gossip_89 : decode cX12_gossip 89 = .ok (.iload 4, 2) := by decide +kernel
theorem dX12_gossip_91 : decode cX12_gossip 91 = .ok (.ireturn, 1) := by decide +kernel
theorem dX12_postman_0 : decode cX12_postman 0 = .ok (.aload_n 0, 1) := by decide +kernel
theorem dX12_postman_1 : decode cX12_postman 1 = .ok (.iconst 0, 1) := by decide +kernel
theorem dX12_postman_2 : decode cX12_postman 2 = .ok (.putfield 96, 3) := by decide +kernel
theorem dX12_postman_5 : decode cX12_postman 5 = .ok (.aload_n 0, 1) := by decide +kernel
theorem dX12_postman_6 : decode cX12_postman 6 = .ok (.iload_n 1, 1) := by decide +kernel
theorem dX12_postman_7 : decode cX12_postman 7 = .ok (.iload_n 2, 1) := by decide +kernel
theorem dX12_postman_8 : decode cX12_postman 8 = .ok (.invokevirtual 345, 3) := by decide +kernel
theorem dX12_postman_11 : decode cX12_postman 11 = .ok (.ifCond .ne 5, 3) := by decide +kernel
theorem dX12_postman_14 : decode cX12_postman 14 = .ok (.iconst (-1), 1) := by decide +kernel
theorem dX12_postman_15 : decode cX12_postman 15 = .ok (.ireturn, 1) := by decide +kernel
theorem dX12_postman_16 : decode cX12_postman 16 = .ok (.bipush (-2), 2) := by decide +kernel
theorem dX12_postman_18 : decode cX12_postman 18 = .ok (.istore_n 3, 1) := by decide +kernel
theorem dX12_postman_19 : decode cX12_postman 19 = .ok (.iconst 0, 1) := by decide +kernel
theorem dX12_postman_20 : decode cX12_postman 20 = .ok (.istore 4, 2) := by decide +kernel
theorem dX12_postman_22 : decode cX12_postman 22 = .ok (.iconst 0, 1) := by decide +kernel
theorem dX12_postman_23 : decode cX12_postman 23 = .ok (.istore 5, 2) := by decide +kernel
theorem dX12_postman_25 : decode cX12_postman 25 = .ok (.iload 5, 2) := by decide +kernel
theorem dX12_postman_27 : decode cX12_postman 27 = .ok (.aload_n 0, 1) := by decide +kernel
theorem dX12_postman_28 : decode cX12_postman 28 = .ok (.getfield 102, 3) := by decide +kernel
theorem dX12_postman_31 : decode cX12_postman 31 = .ok (.if_icmp .ge 39, 3) := by decide +kernel
theorem dX12_postman_34 : decode cX12_postman 34 = .ok (.aload_n 0, 1) := by decide +kernel
theorem dX12_postman_35 : decode cX12_postman 35 = .ok (.iload 5, 2) := by decide +kernel
theorem dX12_postman_37 : decode cX12_postman 37 = .ok (.iload_n 1, 1) := by decide +kernel
theorem dX12_postman_38 : decode cX12_postman 38 = .ok (.iload_n 2, 1) := by decide +kernel
theorem dX12_postman_39 : decode cX12_postman 39 = .ok (.invokevirtual 348, 3) := by decide +kernel
theorem dX12_postman_42 : decode cX12_postman 42 = .ok (.invokestatic 351, 3) := by decide +kernel
theorem dX12_postman_45 : decode cX12_postman 45 = .ok (.istore 6, 2) := by decide +kernel
theorem dX12_postman_47 : decode cX12_postman 47 = .ok (.iload 6, 2) := by decide +kernel
theorem dX12_postman_49 : decode cX12_postman 49 = .ok (.iload 4, 2) := by decide +kernel
theorem dX12_postman_51 : decode cX12_postman 51 = .ok (.if_icmp .gt 6, 3) := by decide +kernel
theorem dX12_postman_54 : decode cX12_postman 54 = .ok (.goto 10, 3) := by decide +kernel
theorem dX12_postman_57 : decode cX12_postman 57 = .ok (.iload 5, 2) := by decide +kernel
theorem dX12_postman_59 : decode cX12_postman 59 = .ok (.istore_n 3, 1) := by decide +kernel
theorem dX12_postman_60 : decode cX12_postman 60 = .ok (.iload 6, 2) := by decide +kernel
theorem dX12_postman_62 : decode cX12_postman 62 = .ok (.istore 4, 2) := by decide +kernel
theorem dX12_postman_64 : decode cX12_postman 64 = .ok (.iinc 5 1, 3) := by decide +kernel
theorem dX12_postman_67 : decode cX12_postman 67 = .ok (.goto (-42), 3) := by decide +kernel
theorem dX12_postman_70 : decode cX12_postman 70 = .ok (.iload_n 3, 1) := by decide +kernel
theorem dX12_postman_71 : decode cX12_postman 71 = .ok (.ifCond .ge 6, 3) := by decide +kernel
theorem dX12_postman_74 : decode cX12_postman 74 = .ok (.bipush (-2), 2) := by decide +kernel
theorem dX12_postman_76 : decode cX12_postman 76 = .ok (.ireturn, 1) := by decide +kernel
theorem dX12_postman_77 : decode cX12_postman 77 = .ok (.aload_n 0, 1) := by decide +kernel
theorem dX12_postman_78 : decode cX12_postman 78 = .ok (.iconst 0, 1) := by decide +kernel
theorem dX12_postman_79 : decode cX12_postman 79 = .ok (.putfield 99, 3) := by decide +kernel
theorem dX12_postman_82 : decode cX12_postman 82 = .ok (.aload_n 0, 1) := by decide +kernel
theorem dX12_postman_83 : decode cX12_postman 83 = .ok (.iload 4, 2) := by decide +kernel
theorem dX12_postman_85 : decode cX12_postman 85 = .ok (.invokevirtual 250, 3) := by decide +kernel
theorem dX12_postman_88 : decode cX12_postman 88 = .ok (.iload_n 3, 1) := by decide +kernel
theorem dX12_postman_89 : decode cX12_postman 89 = .ok (.ireturn, 1) := by decide +kernel
theorem dX12_heralds_0 : decode cX12_heralds 0 = .ok (.aload_n 0, 1) := by decide +kernel
theorem dX12_heralds_1 : decode cX12_heralds 1 = .ok (.iconst 0, 1) := by decide +kernel
theorem dX12_heralds_2 : decode cX12_heralds 2 = .ok (.putfield 96, 3) := by decide +kernel
theorem dX12_heralds_5 : decode cX12_heralds 5 = .ok (.aload_n 0, 1) := by decide +kernel
theorem dX12_heralds_6 : decode cX12_heralds 6 = .ok (.iload_n 1, 1) := by decide +kernel
theorem dX12_heralds_7 : decode cX12_heralds 7 = .ok (.iload_n 2, 1) := by decide +kernel
theorem dX12_heralds_8 : decode cX12_heralds 8 = .ok (.invokevirtual 345, 3) := by decide +kernel
theorem dX12_heralds_11 : decode cX12_heralds 11 = .ok (.ifCond .ne 5, 3) := by decide +kernel
theorem dX12_heralds_14 : decode cX12_heralds 14 = .ok (.iconst (-1), 1) := by decide +kernel
theorem dX12_heralds_15 : decode cX12_heralds 15 = .ok (.ireturn, 1) := by decide +kernel
theorem dX12_heralds_16 : decode cX12_heralds 16 = .ok (.iconst 0, 1) := by decide +kernel
theorem dX12_heralds_17 : decode cX12_heralds 17 = .ok (.istore_n 3, 1) := by decide +kernel
theorem dX12_heralds_18 : decode cX12_heralds 18 = .ok (.iload_n 3, 1) := by decide +kernel
theorem dX12_heralds_19 : decode cX12_heralds 19 = .ok (.aload_n 0, 1) := by decide +kernel
theorem dX12_heralds_20 : decode cX12_heralds 20 = .ok (.getfield 102, 3) := by decide +kernel
theorem dX12_heralds_23 : decode cX12_heralds 23 = .ok (.if_icmp .ge 22, 3) := by decide +kernel
theorem dX12_heralds_26 : decode cX12_heralds 26 = .ok (.aload_n 0, 1) := by decide +kernel
theorem dX12_heralds_27 : decode cX12_heralds 27 = .ok (.getfield 86, 3) := by decide +kernel
theorem dX12_heralds_30 : decode cX12_heralds 30 = .ok (.iload_n 3, 1) := by decide +kernel
theorem dX12_heralds_31 : decode cX12_heralds 31 = .ok (.aload_n 0, 1) := by decide +kernel
theorem dX12_heralds_32 : decode cX12_heralds 32 = .ok (.iload_n 3, 1) := by decide +kernel
theorem dX12_heralds_33 : decode cX12_heralds 33 = .ok (.iload_n 1, 1) := by decide +kernel
theorem dX12_heralds_34 : decode cX12_heralds 34 = .ok (.iload_n 2, 1) := by decide +kernel
theorem dX12_heralds_35 : decode cX12_heralds 35 = .ok (.invokevirtual 348, 3) := by decide +kernel
theorem dX12_heralds_38 : decode cX12_heralds 38 = .ok (.iastore, 1) := by decide +kernel
theorem dX12_heralds_39 : decode cX12_heralds 39 = .ok (.iinc 3 1, 3) := by decide +kernel
theorem dX12_heralds_42 : decode cX12_heralds 42 = .ok (.goto (-24), 3) := by decide +kernel
theorem dX12_heralds_45 : decode cX12_heralds 45 = .ok (.iconst (-1), 1) := by decide +kernel
theorem dX12_heralds_46 : decode cX12_heralds 46 = .ok (.istore_n 3, 1) := by decide +kernel
theorem dX12_heralds_47 : decode cX12_heralds 47 = .ok (.iconst 0, 1) := by decide +kernel
theorem dX12_heralds_48 : decode cX12_heralds 48 = .ok (.istore 4, 2) := by decide +kernel
theorem dX12_heralds_50 : decode cX12_heralds 50 = .ok (.iload 4, 2) := by decide +kernel
theorem dX12_heralds_52 : decode cX12_heralds 52 = .ok (.iconst 1, 1) := by decide +kernel
theorem dX12_heralds_53 : decode cX12_heralds 53 = .ok (.aload_n 0, 1) := by decide +kernel
theorem dX12_heralds_54 : decode cX12_heralds 54 = .ok (.getfield 102, 3) := by decide +kernel
theorem dX12_heralds_57 : decode cX12_heralds 57 = .ok (.ishl, 1) := by decide +kernel
theorem dX12_heralds_58 : decode cX12_heralds 58 = .ok (.if_icmp .ge 92, 3) := by decide +kernel
theorem dX12_heralds_61 : decode cX12_heralds 61 = .ok (.iconst 0, 1) := by decide +kernel
theorem dX12_heralds_62 : decode cX12_heralds 62 = .ok (.istore 5, 2) := by decide +kernel
theorem dX12_heralds_64 : decode cX12_heralds 64 = .ok (.iconst 0, 1) := by decide +kernel
theorem dX12_heralds_65 : decode cX12_heralds 65 = .ok (.istore 6, 2) := by decide +kernel
theorem dX12_heralds_67 : decode cX12_heralds 67 = .ok (.iload 6, 2) := by decide +kernel
theorem dX12_heralds_69 : decode cX12_heralds 69 = .ok (.aload_n 0, 1) := by decide +kernel
theorem dX12_heralds_70 : decode cX12_heralds 70 = .ok (.getfield 102, 3) := by decide +kernel
theorem dX12_heralds_73 : decode cX12_heralds 73 = .ok (.if_icmp .ge 35, 3) := by decide +kernel
theorem dX12_heralds_76 : decode cX12_heralds 76 = .ok (.iload 5, 2) := by decide +kernel
theorem dX12_heralds_78 : decode cX12_heralds 78 = .ok (.iload 4, 2) := by decide +kernel
theorem dX12_heralds_80 : decode cX12_heralds 80 = .ok (.iload 6, 2) := by decide +kernel
theorem dX12_heralds_82 : decode cX12_heralds 82 = .ok (.invokestatic 259, 3) := by decide +kernel
theorem dX12_heralds_85 : decode cX12_heralds 85 = .ok (.ifCond .eq 13, 3) := by decide +kernel
theorem dX12_heralds_88 : decode cX12_heralds 88 = .ok (.aload_n 0, 1) := by decide +kernel
theorem dX12_heralds_89 : decode cX12_heralds 89 = .ok (.getfield 86, 3) := by decide +kernel
theorem dX12_heralds_92 : decode cX12_heralds 92 = .ok (.iload 6, 2) := by decide +kernel
theorem dX12_heralds_94 : decode cX12_heralds 94 = .ok (.iaload, 1) := by decide +kernel
theorem dX12_heralds_95 : decode cX12_heralds 95 = .ok (.goto 4, 3) := by decide +kernel
theorem dX12_heralds_98 : decode cX12_heralds 98 = .ok (.iconst 0, 1) := by decide +kernel
theorem dX12_heralds_99 : decode cX12_heralds 99 = .ok (.ior, 1) := by decide +kernel
theorem dX12_heralds_100 : decode cX12_heralds 100 = .ok (.istore 5, 2) := by decide +kernel
theorem dX12_heralds_102 : decode cX12_heralds 102 = .ok (.iinc 6 1, 3) := by decide +kernel
theorem dX12_heralds_105 : decode cX12_heralds 105 = .ok (.goto (-38), 3) := by decide +kernel
theorem dX12_heralds_108 : decode cX12_heralds 108 = .ok (.iload 5, 2) := by decide +kernel
theorem dX12_heralds_110 : decode cX12_heralds 110 = .ok (.iconst 1, 1) := by decide +kernel
theorem dX12_heralds_111 : decode cX12_heralds 111 = .ok (.aload_n 0, 1) := by decide +kernel
theorem dX12_heralds_112 : decode cX12_heralds 112 = .ok (.getfield 102, 3) := by decide +kernel
theorem dX12_heralds_115 : decode cX12_heralds 115 = .ok (.ishl, 1) := by decide +kernel
theorem dX12_heralds_116 : decode cX12_heralds 116 = .ok (.iconst 1, 1) := by decide +kernel
theorem dX12_heralds_117 : decode cX12_heralds 117 = .ok (.isub, 1) := by decide +kernel
theorem dX12_heralds_118 : decode cX12_heralds 118 = .ok (.if_icmp .ne 26, 3) := by decide +kernel
theorem dX12_heralds_121 : decode cX12_heralds 121 = .ok (.iload_n 3, 1) := by decide +kernel
theorem dX12_heralds_122 : decode cX12_heralds 122 = .ok (.iconst (-1), 1) := by decide +kernel
theorem dX12_heralds_123 : decode cX12_heralds 123 = .ok (.if_icmp .eq 18, 3) := by decide +kernel
theorem dX12_heralds_126 : decode cX12_heralds 126 = .ok (.iload 4, 2) := by decide +kernel
theorem dX12_heralds_128 : decode cX12_heralds 128 = .ok (.invokestatic 351, 3) := by decide +kernel
theorem dX12_heralds_131 : decode cX12_heralds 131 = .ok (.iload_n 3, 1) := by decide +kernel
theorem dX12_heralds_132 : decode cX12_heralds 132 = .ok (.invokestatic 351, 3) := by decide +kernel
theorem dX12_heralds_135 : decode cX12_heralds 135 = .ok (.if_icmp .lt 6, 3) := by decide +kernel
theorem dX12_heralds_138 : decode cX12_heralds 138 = .ok (.goto 6, 3) := by decide +kernel
theorem dX12_heralds_141 : decode cX12_heralds 141 = .ok (.iload 4, 2) := by decide +kernel
theorem dX12_heralds_143 : decode cX12_heralds 143 = .ok (.istore_n 3, 1) := by decide +kernel
theorem dX12_heralds_144 : decode cX12_heralds 144 = .ok (.iinc 4 1, 3) := by decide +kernel
theorem dX12_heralds_147 : decode cX12_heralds 147 = .ok (.goto (-97), 3) := by decide +kernel
theorem dX12_heralds_150 : decode cX12_heralds 150 = .ok (.aload_n 0, 1) := by decide +kernel
theorem dX12_heralds_151 : decode cX12_heralds 151 = .ok (.iconst 0, 1) := by decide +kernel
theorem dX12_heralds_152 : decode cX12_heralds 152 = .ok (.putfield 99, 3) := by decide +kernel
theorem dX12_heralds_155 : decode cX12_heralds 155 = .ok (.aload_n 0, 1) := by decide +kernel
theorem dX12_heralds_156 : decode cX12_heralds 156 = .ok (.iload_n 3, 1) := by decide +kernel
theorem dX12_heralds_157 : decode cX12_heralds 157 = .ok (.invokevirtual 250, 3) := by decide +kernel
theorem dX12_heralds_160 : decode cX12_heralds 160 = .ok (.iload_n 3, 1) := by decide +kernel
theorem dX12_heralds_161 : decode cX12_heralds 161 = .ok (.invokestatic 351, 3) := by decide +kernel
theorem dX12_heralds_164 : decode cX12_heralds 164 = .ok (.ireturn, 1) := by decide +kernel
theorem dX12_keep_0 : decode cX12_keep 0 = .ok (.aload_n 0, 1) := by decide +kernel
theorem dX12_keep_1 : decode cX12_keep 1 = .ok (.iconst 0, 1) := by decide +kernel
theorem dX12_keep_2 : decode cX12_keep 2 = .ok (.putfield 96, 3) := by decide +kernel
theorem dX12_keep_5 : decode cX12_keep 5 = .ok (.iload_n 1, 1) := by decide +kernel
theorem dX12_keep_6 : decode cX12_keep 6 = .ok (.iconst 0, 1) := by decide +kernel
theorem dX12_keep_7 : decode cX12_keep 7 = .ok (.iconst 1, 1) := by decide +kernel
theorem dX12_keep_8 : decode cX12_keep 8 = .ok (.invokestatic 105, 3) := by decide +kernel
theorem dX12_keep_11 : decode cX12_keep 11 = .ok (.ifCond .ne 5, 3) := by decide +kernel
theorem dX12_keep_14 : decode cX12_keep 14 = .ok (.iconst 0, 1) := by decide +kernel
theorem dX12_keep_15 : decode cX12_keep 15 = .ok (.ireturn, 1) := by decide +kernel
theorem dX12_keep_16 : decode cX12_keep 16 = .ok (.aload_n 0, 1) := by decide +kernel
theorem dX12_keep_17 : decode cX12_keep 17 = .ok (.getfield 92, 3) := by decide +kernel
theorem dX12_keep_20 : decode cX12_keep 20 = .ok (.iload_n 1, 1) := by decide +kernel
theorem dX12_keep_21 : decode cX12_keep 21 = .ok (.iconst 1, 1) := by decide +kernel
theorem dX12_keep_22 : decode cX12_keep 22 = .ok (.bastore, 1) := by decide +kernel
theorem dX12_keep_23 : decode cX12_keep 23 = .ok (.iconst 0, 1) := by decide +kernel
theorem dX12_keep_24 : decode cX12_keep 24 = .ok (.istore_n 2, 1) := by decide +kernel
theorem dX12_keep_25 : decode cX12_keep 25 = .ok (.iload_n 2, 1) := by decide +kernel
theorem dX12_keep_26 : decode cX12_keep 26 = .ok (.sipush 273, 3) := by decide +kernel
theorem dX12_keep_29 : decode cX12_keep 29 = .ok (.if_icmp .ge 27, 3) := by decide +kernel
theorem dX12_keep_32 : decode cX12_keep 32 = .ok (.aload_n 0, 1) := by decide +kernel
theorem dX12_keep_33 : decode cX12_keep 33 = .ok (.getfield 89, 3) := by decide +kernel
theorem dX12_keep_36 : decode cX12_keep 36 = .ok (.sipush 273, 3) := by decide +kernel
theorem dX12_keep_39 : decode cX12_keep 39 = .ok (.iload_n 1, 1) := by decide +kernel
theorem dX12_keep_40 : decode cX12_keep 40 = .ok (.imul, 1) := by decide +kernel
theorem dX12_keep_41 : decode cX12_keep 41 = .ok (.iload_n 2, 1) := by decide +kernel
theorem dX12_keep_42 : decode cX12_keep 42 = .ok (.iadd, 1) := by decide +kernel
theorem dX12_keep_43 : decode cX12_keep 43 = .ok (.aload_n 0, 1) := by decide +kernel
theorem dX12_keep_44 : decode cX12_keep 44 = .ok (.getfield 35, 3) := by decide +kernel
theorem dX12_keep_47 : decode cX12_keep 47 = .ok (.iload_n 2, 1) := by decide +kernel
theorem dX12_keep_48 : decode cX12_keep 48 = .ok (.iaload, 1) := by decide +kernel
theorem dX12_keep_49 : decode cX12_keep 49 = .ok (.iastore, 1) := by decide +kernel
theorem dX12_keep_50 : decode cX12_keep 50 = .ok (.iinc 2 1, 3) := by decide +kernel
theorem dX12_keep_53 : decode cX12_keep 53 = .ok (.goto (-28), 3) := by decide +kernel
theorem dX12_keep_56 : decode cX12_keep 56 = .ok (.iconst 1, 1) := by decide +kernel
theorem dX12_keep_57 : decode cX12_keep 57 = .ok (.ireturn, 1) := by decide +kernel
theorem dX12_again_0 : decode cX12_again 0 = .ok (.aload_n 0, 1) := by decide +kernel
theorem dX12_again_1 : decode cX12_again 1 = .ok (.iconst 0, 1) := by decide +kernel
theorem dX12_again_2 : decode cX12_again 2 = .ok (.putfield 96, 3) := by decide +kernel
theorem dX12_again_5 : decode cX12_again 5 = .ok (.iload_n 1, 1) := by decide +kernel
theorem dX12_again_6 : decode cX12_again 6 = .ok (.iconst 0, 1) := by decide +kernel
theorem dX12_again_7 : decode cX12_again 7 = .ok (.iconst 1, 1) := by decide +kernel
theorem dX12_again_8 : decode cX12_again 8 = .ok (.invokestatic 105, 3) := by decide +kernel
theorem dX12_again_11 : decode cX12_again 11 = .ok (.ifCond .eq 12, 3) := by decide +kernel
theorem dX12_again_14 : decode cX12_again 14 = .ok (.aload_n 0, 1) := by decide +kernel
theorem dX12_again_15 : decode cX12_again 15 = .ok (.getfield 92, 3) := by decide +kernel
theorem dX12_again_18 : decode cX12_again 18 = .ok (.iload_n 1, 1) := by decide +kernel
theorem dX12_again_19 : decode cX12_again 19 = .ok (.baload, 1) := by decide +kernel
theorem dX12_again_20 : decode cX12_again 20 = .ok (.ifCond .ne 5, 3) := by decide +kernel
theorem dX12_again_23 : decode cX12_again 23 = .ok (.iconst 0, 1) := by decide +kernel
theorem dX12_again_24 : decode cX12_again 24 = .ok (.ireturn, 1) := by decide +kernel
theorem dX12_again_25 : decode cX12_again 25 = .ok (.iconst 0, 1) := by decide +kernel
theorem dX12_again_26 : decode cX12_again 26 = .ok (.istore_n 2, 1) := by decide +kernel
theorem dX12_again_27 : decode cX12_again 27 = .ok (.iload_n 2, 1) := by decide +kernel
theorem dX12_again_28 : decode cX12_again 28 = .ok (.sipush 273, 3) := by decide +kernel
theorem dX12_again_31 : decode cX12_again 31 = .ok (.if_icmp .ge 27, 3) := by decide +kernel
theorem dX12_again_34 : decode cX12_again 34 = .ok (.aload_n 0, 1) := by decide +kernel
theorem dX12_again_35 : decode cX12_again 35 = .ok (.getfield 35, 3) := by decide +kernel
theorem dX12_again_38 : decode cX12_again 38 = .ok (.iload_n 2, 1) := by decide +kernel
theorem dX12_again_39 : decode cX12_again 39 = .ok (.aload_n 0, 1) := by decide +kernel
theorem dX12_again_40 : decode cX12_again 40 = .ok (.getfield 89, 3) := by decide +kernel
theorem dX12_again_43 : decode cX12_again 43 = .ok (.sipush 273, 3) := by decide +kernel
theorem dX12_again_46 : decode cX12_again 46 = .ok (.iload_n 1, 1) := by decide +kernel
theorem dX12_again_47 : decode cX12_again 47 = .ok (.imul, 1) := by decide +kernel
theorem dX12_again_48 : decode cX12_again 48 = .ok (.iload_n 2, 1) := by decide +kernel
theorem dX12_again_49 : decode cX12_again 49 = .ok (.iadd, 1) := by decide +kernel
theorem dX12_again_50 : decode cX12_again 50 = .ok (.iaload, 1) := by decide +kernel
theorem dX12_again_51 : decode cX12_again 51 = .ok (.iastore, 1) := by decide +kernel
theorem dX12_again_52 : decode cX12_again 52 = .ok (.iinc 2 1, 3) := by decide +kernel
theorem dX12_again_55 : decode cX12_again 55 = .ok (.goto (-28), 3) := by decide +kernel
theorem dX12_again_58 : decode cX12_again 58 = .ok (.iconst 1, 1) := by decide +kernel
theorem dX12_again_59 : decode cX12_again 59 = .ok (.ireturn, 1) := by decide +kernel
theorem dX12_count_0 : decode cX12_count 0 = .ok (.aload_n 0, 1) := by decide +kernel
theorem dX12_count_1 : decode cX12_count 1 = .ok (.iconst 0, 1) := by decide +kernel
theorem dX12_count_2 : decode cX12_count 2 = .ok (.putfield 96, 3) := by decide +kernel
theorem dX12_count_5 : decode cX12_count 5 = .ok (.iconst 0, 1) := by decide +kernel
theorem dX12_count_6 : decode cX12_count 6 = .ok (.istore_n 2, 1) := by decide +kernel
theorem dX12_count_7 : decode cX12_count 7 = .ok (.iload_n 1, 1) := by decide +kernel
theorem dX12_count_8 : decode cX12_count 8 = .ok (.tableswitch 107 0 6 #[44, 49, 54, 87, 92, 97, 102], 44) := by decide +kernel
theorem dX12_count_52 : decode cX12_count 52 = .ok (.aload_n 0, 1) := by decide +kernel
theorem dX12_count_53 : decode cX12_count 53 = .ok (.getfield 102, 3) := by decide +kernel
theorem dX12_count_56 : decode cX12_count 56 = .ok (.ireturn, 1) := by decide +kernel
theorem dX12_count_57 : decode cX12_count 57 = .ok (.aload_n 0, 1) := by decide +kernel
theorem dX12_count_58 : decode cX12_count 58 = .ok (.getfield 109, 3) := by decide +kernel
theorem dX12_count_61 : decode cX12_count 61 = .ok (.ireturn, 1) := by decide +kernel
theorem dX12_count_62 : decode cX12_count 62 = .ok (.iconst 0, 1) := by decide +kernel
theorem dX12_count_63 : decode cX12_count 63 = .ok (.istore_n 3, 1) := by decide +kernel
theorem dX12_count_64 : decode cX12_count 64 = .ok (.iload_n 3, 1) := by decide +kernel
theorem dX12_count_65 : decode cX12_count 65 = .ok (.iconst 3, 1) := by decide +kernel
theorem dX12_count_66 : decode cX12_count 66 = .ok (.if_icmp .ge 27, 3) := by decide +kernel
theorem dX12_count_69 : decode cX12_count 69 = .ok (.iload_n 2, 1) := by decide +kernel
theorem dX12_count_70 : decode cX12_count 70 = .ok (.aload_n 0, 1) := by decide +kernel
theorem dX12_count_71 : decode cX12_count 71 = .ok (.iload_n 3, 1) := by decide +kernel
theorem dX12_count_72 : decode cX12_count 72 = .ok (.invokevirtual 241, 3) := by decide +kernel
theorem dX12_count_75 : decode cX12_count 75 = .ok (.ifCond .eq 9, 3) := by decide +kernel
theorem dX12_count_78 : decode cX12_count 78 = .ok (.iconst 1, 1) := by decide +kernel
theorem dX12_count_79 : decode cX12_count 79 = .ok (.iload_n 3, 1) := by decide +kernel
theorem dX12_count_80 : decode cX12_count 80 = .ok (.ishl, 1) := by decide +kernel
theorem dX12_count_81 : decode cX12_count 81 = .ok (.goto 4, 3) := by decide +kernel
theorem dX12_count_84 : decode cX12_count 84 = .ok (.iconst 0, 1) := by decide +kernel
theorem dX12_count_85 : decode cX12_count 85 = .ok (.ior, 1) := by decide +kernel
theorem dX12_count_86 : decode cX12_count 86 = .ok (.istore_n 2, 1) := by decide +kernel
theorem dX12_count_87 : decode cX12_count 87 = .ok (.iinc 3 1, 3) := by decide +kernel
theorem dX12_count_90 : decode cX12_count 90 = .ok (.goto (-26), 3) := by decide +kernel
theorem dX12_count_93 : decode cX12_count 93 = .ok (.iload_n 2, 1) := by decide +kernel
theorem dX12_count_94 : decode cX12_count 94 = .ok (.ireturn, 1) := by decide +kernel
theorem dX12_count_95 : decode cX12_count 95 = .ok (.aload_n 0, 1) := by decide +kernel
theorem dX12_count_96 : decode cX12_count 96 = .ok (.getfield 314, 3) := by decide +kernel
theorem dX12_count_99 : decode cX12_count 99 = .ok (.ireturn, 1) := by decide +kernel
theorem dX12_count_100 : decode cX12_count 100 = .ok (.aload_n 0, 1) := by decide +kernel
theorem dX12_count_101 : decode cX12_count 101 = .ok (.getfield 336, 3) := by decide +kernel
theorem dX12_count_104 : decode cX12_count 104 = .ok (.ireturn, 1) := by decide +kernel
theorem dX12_count_105 : decode cX12_count 105 = .ok (.aload_n 0, 1) := by decide +kernel
theorem dX12_count_106 : decode cX12_count 106 = .ok (.getfield 99, 3) := by decide +kernel
theorem dX12_count_109 : decode cX12_count 109 = .ok (.ireturn, 1) := by decide +kernel
theorem dX12_count_110 : decode cX12_count 110 = .ok (.aload_n 0, 1) := by decide +kernel
theorem dX12_count_111 : decode cX12_count 111 = .ok (.getfield 112, 3) := by decide +kernel
theorem dX12_count_114 : decode cX12_count 114 = .ok (.ireturn, 1) := by decide +kernel
theorem dX12_count_115 : decode cX12_count 115 = .ok (.iconst (-1), 1) := by decide +kernel
theorem dX12_count_116 : decode cX12_count 116 = .ok (.ireturn, 1) := by decide +kernel
theorem dX12_row_0 : decode cX12_row 0 = .ok (.aload_n 0, 1) := by decide +kernel
theorem dX12_row_1 : decode cX12_row 1 = .ok (.iconst 0, 1) := by decide +kernel
theorem dX12_row_2 : decode cX12_row 2 = .ok (.putfield 96, 3) := by decide +kernel
theorem dX12_row_5 : decode cX12_row 5 = .ok (.iload_n 1, 1) := by decide +kernel
theorem dX12_row_6 : decode cX12_row 6 = .ok (.iconst 0, 1) := by decide +kernel
theorem dX12_row_7 : decode cX12_row 7 = .ok (.aload_n 0, 1) := by decide +kernel
theorem dX12_row_8 : decode cX12_row 8 = .ok (.getfield 99, 3) := by decide +kernel
theorem dX12_row_11 : decode cX12_row 11 = .ok (.iconst 1, 1) := by decide +kernel
theorem dX12_row_12 : decode cX12_row 12 = .ok (.isub, 1) := by decide +kernel
theorem dX12_row_13 : decode cX12_row 13 = .ok (.invokestatic 105, 3) := by decide +kernel
theorem dX12_row_16 : decode cX12_row 16 = .ok (.ifCond .eq 12, 3) := by decide +kernel
theorem dX12_row_19 : decode cX12_row 19 = .ok (.aload_n 0, 1) := by decide +kernel
theorem dX12_row_20 : decode cX12_row 20 = .ok (.getfield 29, 3) := by decide +kernel
theorem dX12_row_23 : decode cX12_row 23 = .ok (.iload_n 1, 1) := by decide +kernel
theorem dX12_row_24 : decode cX12_row 24 = .ok (.iaload, 1) := by decide +kernel
theorem dX12_row_25 : decode cX12_row 25 = .ok (.goto 7, 3) := by decide +kernel
theorem dX12_row_28 : decode cX12_row 28 = .ok (.aload_n 0, 1) := by decide +kernel
theorem dX12_row_29 : decode cX12_row 29 = .ok (.invokevirtual 204, 3) := by decide +kernel
theorem dX12_row_32 : decode cX12_row 32 = .ok (.ireturn, 1) := by decide +kernel
theorem dJ6_bitCount_0f7a4_0 : decode cJ6_bitCount_0f7a4 0 = .ok (.iload_n 0, 1) := by decide +kernel
theorem dJ6_bitCount_0f7a4_1 : decode cJ6_bitCount_0f7a4 1 = .ok (.iload_n 0, 1) := by decide +kernel
theorem dJ6_bitCount_0f7a4_2 : decode cJ6_bitCount_0f7a4 2 = .ok (.iconst 1, 1) := by decide +kernel
theorem dJ6_bitCount_0f7a4_3 : decode cJ6_bitCount_0f7a4 3 = .ok (.iushr, 1) := by decide +kernel
theorem dJ6_bitCount_0f7a4_4 : decode cJ6_bitCount_0f7a4 4 = .ok (.ldc_w 265, 3) := by decide +kernel
theorem dJ6_bitCount_0f7a4_7 : decode cJ6_bitCount_0f7a4 7 = .ok (.iand, 1) := by decide +kernel
theorem dJ6_bitCount_0f7a4_8 : decode cJ6_bitCount_0f7a4 8 = .ok (.isub, 1) := by decide +kernel
theorem dJ6_bitCount_0f7a4_9 : decode cJ6_bitCount_0f7a4 9 = .ok (.istore_n 0, 1) := by decide +kernel
theorem dJ6_bitCount_0f7a4_10 : decode cJ6_bitCount_0f7a4 10 = .ok (.iload_n 0, 1) := by decide +kernel
theorem dJ6_bitCount_0f7a4_11 : decode cJ6_bitCount_0f7a4 11 = .ok (.ldc_w 266, 3) := by decide +kernel
theorem dJ6_bitCount_0f7a4_14 : decode cJ6_bitCount_0f7a4 14 = .ok (.iand, 1) := by decide +kernel
theorem dJ6_bitCount_0f7a4_15 : decode cJ6_bitCount_0f7a4 15 = .ok (.iload_n 0, 1) := by decide +kernel
theorem dJ6_bitCount_0f7a4_16 : decode cJ6_bitCount_0f7a4 16 = .ok (.iconst 2, 1) := by decide +kernel
theorem dJ6_bitCount_0f7a4_17 : decode cJ6_bitCount_0f7a4 17 = .ok (.iushr, 1) := by decide +kernel
theorem dJ6_bitCount_0f7a4_18 : decode cJ6_bitCount_0f7a4 18 = .ok (.ldc_w 266, 3) := by decide +kernel
theorem dJ6_bitCount_0f7a4_21 : decode cJ6_bitCount_0f7a4 21 = .ok (.iand, 1) := by decide +kernel
theorem dJ6_bitCount_0f7a4_22 : decode cJ6_bitCount_0f7a4 22 = .ok (.iadd, 1) := by decide +kernel
theorem dJ6_bitCount_0f7a4_23 : decode cJ6_bitCount_0f7a4 23 = .ok (.istore_n 0, 1) := by decide +kernel
theorem dJ6_bitCount_0f7a4_24 : decode cJ6_bitCount_0f7a4 24 = .ok (.iload_n 0, 1) := by decide +kernel
theorem dJ6_bitCount_0f7a4_25 : decode cJ6_bitCount_0f7a4 25 = .ok (.iload_n 0, 1) := by decide +kernel
theorem dJ6_bitCount_0f7a4_26 : decode cJ6_bitCount_0f7a4 26 = .ok (.iconst 4, 1) := by decide +kernel
theorem dJ6_bitCount_0f7a4_27 : decode cJ6_bitCount_0f7a4 27 = .ok (.iushr, 1) := by decide +kernel
theorem dJ6_bitCount_0f7a4_28 : decode cJ6_bitCount_0f7a4 28 = .ok (.iadd, 1) := by decide +kernel
theorem dJ6_bitCount_0f7a4_29 : decode cJ6_bitCount_0f7a4 29 = .ok (.ldc_w 267, 3) := by decide +kernel
theorem dJ6_bitCount_0f7a4_32 : decode cJ6_bitCount_0f7a4 32 = .ok (.iand, 1) := by decide +kernel
theorem dJ6_bitCount_0f7a4_33 : decode cJ6_bitCount_0f7a4 33 = .ok (.istore_n 0, 1) := by decide +kernel
theorem dJ6_bitCount_0f7a4_34 : decode cJ6_bitCount_0f7a4 34 = .ok (.iload_n 0, 1) := by decide +kernel
theorem dJ6_bitCount_0f7a4_35 : decode cJ6_bitCount_0f7a4 35 = .ok (.iload_n 0, 1) := by decide +kernel
theorem dJ6_bitCount_0f7a4_36 : decode cJ6_bitCount_0f7a4 36 = .ok (.bipush 8, 2) := by decide +kernel
theorem dJ6_bitCount_0f7a4_38 : decode cJ6_bitCount_0f7a4 38 = .ok (.iushr, 1) := by decide +kernel
theorem dJ6_bitCount_0f7a4_39 : decode cJ6_bitCount_0f7a4 39 = .ok (.iadd, 1) := by decide +kernel
theorem dJ6_bitCount_0f7a4_40 : decode cJ6_bitCount_0f7a4 40 = .ok (.istore_n 0, 1) := by decide +kernel
theorem dJ6_bitCount_0f7a4_41 : decode cJ6_bitCount_0f7a4 41 = .ok (.iload_n 0, 1) := by decide +kernel
theorem dJ6_bitCount_0f7a4_42 : decode cJ6_bitCount_0f7a4 42 = .ok (.iload_n 0, 1) := by decide +kernel
theorem dJ6_bitCount_0f7a4_43 : decode cJ6_bitCount_0f7a4 43 = .ok (.bipush 16, 2) := by decide +kernel
theorem dJ6_bitCount_0f7a4_45 : decode cJ6_bitCount_0f7a4 45 = .ok (.iushr, 1) := by decide +kernel
theorem dJ6_bitCount_0f7a4_46 : decode cJ6_bitCount_0f7a4 46 = .ok (.iadd, 1) := by decide +kernel
theorem dJ6_bitCount_0f7a4_47 : decode cJ6_bitCount_0f7a4 47 = .ok (.istore_n 0, 1) := by decide +kernel
theorem dJ6_bitCount_0f7a4_48 : decode cJ6_bitCount_0f7a4 48 = .ok (.iload_n 0, 1) := by decide +kernel
theorem dJ6_bitCount_0f7a4_49 : decode cJ6_bitCount_0f7a4 49 = .ok (.bipush 63, 2) := by decide +kernel
theorem dJ6_bitCount_0f7a4_51 : decode cJ6_bitCount_0f7a4 51 = .ok (.iand, 1) := by decide +kernel
theorem dJ6_bitCount_0f7a4_52 : decode cJ6_bitCount_0f7a4 52 = .ok (.ireturn, 1) := by decide +kernel
theorem dJ9_floorMod_7cf53_0 : decode cJ9_floorMod_7cf53 0 = .ok (.iload_n 0, 1) := by decide +kernel
theorem dJ9_floorMod_7cf53_1 : decode cJ9_floorMod_7cf53 1 = .ok (.iload_n 1, 1) := by decide +kernel
theorem dJ9_floorMod_7cf53_2 : decode cJ9_floorMod_7cf53 2 = .ok (.irem, 1) := by decide +kernel
theorem dJ9_floorMod_7cf53_3 : decode cJ9_floorMod_7cf53 3 = .ok (.istore_n 2, 1) := by decide +kernel
theorem dJ9_floorMod_7cf53_4 : decode cJ9_floorMod_7cf53 4 = .ok (.iload_n 0, 1) := by decide +kernel
theorem dJ9_floorMod_7cf53_5 : decode cJ9_floorMod_7cf53 5 = .ok (.iload_n 1, 1) := by decide +kernel
theorem dJ9_floorMod_7cf53_6 : decode cJ9_floorMod_7cf53 6 = .ok (.ixor, 1) := by decide +kernel
theorem dJ9_floorMod_7cf53_7 : decode cJ9_floorMod_7cf53 7 = .ok (.ifCond .ge 11, 3) := by decide +kernel
theorem dJ9_floorMod_7cf53_10 : decode cJ9_floorMod_7cf53 10 = .ok (.iload_n 2, 1) := by decide +kernel
theorem dJ9_floorMod_7cf53_11 : decode cJ9_floorMod_7cf53 11 = .ok (.ifCond .eq 7, 3) := by decide +kernel
theorem dJ9_floorMod_7cf53_14 : decode cJ9_floorMod_7cf53 14 = .ok (.iload_n 2, 1) := by decide +kernel
theorem dJ9_floorMod_7cf53_15 : decode cJ9_floorMod_7cf53 15 = .ok (.iload_n 1, 1) := by decide +kernel
theorem dJ9_floorMod_7cf53_16 : decode cJ9_floorMod_7cf53 16 = .ok (.iadd, 1) := by decide +kernel
theorem dJ9_floorMod_7cf53_17 : decode cJ9_floorMod_7cf53 17 = .ok (.ireturn, 1) := by decide +kernel
theorem dJ9_floorMod_7cf53_18 : decode cJ9_floorMod_7cf53 18 = .ok (.iload_n 2, 1) := by decide +kernel
theorem dJ9_floorMod_7cf53_19 : decode cJ9_floorMod_7cf53 19 = .ok (.ireturn, 1) := by decide +kernel
theorem dJ9_max_7cf53_0 : decode cJ9_max_7cf53 0 = .ok (.iload_n 0, 1) := by decide +kernel
theorem dJ9_max_7cf53_1 : decode cJ9_max_7cf53 1 = .ok (.iload_n 1, 1) := by decide +kernel
theorem dJ9_max_7cf53_2 : decode cJ9_max_7cf53 2 = .ok (.if_icmp .lt 7, 3) := by decide +kernel
theorem dJ9_max_7cf53_5 : decode cJ9_max_7cf53 5 = .ok (.iload_n 0, 1) := by decide +kernel
theorem dJ9_max_7cf53_6 : decode cJ9_max_7cf53 6 = .ok (.goto 4, 3) := by decide +kernel
theorem dJ9_max_7cf53_9 : decode cJ9_max_7cf53 9 = .ok (.iload_n 1, 1) := by decide +kernel
theorem dJ9_max_7cf53_10 : decode cJ9_max_7cf53 10 = .ok (.ireturn, 1) := by decide +kernel
theorem dJ9_min_7cf53_0 : decode cJ9_min_7cf53 0 = .ok (.iload_n 0, 1) := by decide +kernel
theorem dJ9_min_7cf53_1 : decode cJ9_min_7cf53 1 = .ok (.iload_n 1, 1) := by decide +kernel
theorem dJ9_min_7cf53_2 : decode cJ9_min_7cf53 2 = .ok (.if_icmp .gt 7, 3) := by decide +kernel
theorem dJ9_min_7cf53_5 : decode cJ9_min_7cf53 5 = .ok (.iload_n 0, 1) := by decide +kernel
theorem dJ9_min_7cf53_6 : decode cJ9_min_7cf53 6 = .ok (.goto 4, 3) := by decide +kernel
theorem dJ9_min_7cf53_9 : decode cJ9_min_7cf53 9 = .ok (.iload_n 1, 1) := by decide +kernel
theorem dJ9_min_7cf53_10 : decode cJ9_min_7cf53 10 = .ok (.ireturn, 1) := by decide +kernel
