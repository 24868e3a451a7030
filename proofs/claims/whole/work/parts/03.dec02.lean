theorem dX11_copy_38 : decode cX11_copy 38 = .ok (.if_icmp .ge 28, 3) := by decide +kernel
theorem dX11_copy_41 : decode cX11_copy 41 = .ok (.aload_n 0, 1) := by decide +kernel
theorem dX11_copy_42 : decode cX11_copy 42 = .ok (.getfield 73, 3) := by decide +kernel
theorem dX11_copy_45 : decode cX11_copy 45 = .ok (.aload_n 0, 1) := by decide +kernel
theorem dX11_copy_46 : decode cX11_copy 46 = .ok (.getfield 60, 3) := by decide +kernel
theorem dX11_copy_49 : decode cX11_copy 49 = .ok (.getfield 156, 3) := by decide +kernel
theorem dX11_copy_52 : decode cX11_copy 52 = .ok (.iload_n 1, 1) := by decide +kernel
theorem dX11_copy_53 : decode cX11_copy 53 = .ok (.iload_n 2, 1) := by decide +kernel
theorem dX11_copy_54 : decode cX11_copy 54 = .ok (.invokevirtual 179, 3) := by decide +kernel
theorem dX11_copy_57 : decode cX11_copy 57 = .ok (.invokevirtual 182, 3) := by decide +kernel
theorem dX11_copy_60 : decode cX11_copy 60 = .ok (.iinc 2 1, 3) := by decide +kernel
theorem dX11_copy_63 : decode cX11_copy 63 = .ok (.goto (-38), 3) := by decide +kernel
theorem dX11_copy_66 : decode cX11_copy 66 = .ok (.aload_n 0, 1) := by decide +kernel
theorem dX11_copy_67 : decode cX11_copy 67 = .ok (.getfield 73, 3) := by decide +kernel
theorem dX11_copy_70 : decode cX11_copy 70 = .ok (.getfield 270, 3) := by decide +kernel
theorem dX11_copy_73 : decode cX11_copy 73 = .ok (.ireturn, 1) := by decide +kernel
theorem dX11_fits_0 : decode cX11_fits 0 = .ok (.aload_n 0, 1) := by decide +kernel
theorem dX11_fits_1 : decode cX11_fits 1 = .ok (.iload_n 1, 1) := by decide +kernel
theorem dX11_fits_2 : decode cX11_fits 2 = .ok (.iload_n 2, 1) := by decide +kernel
theorem dX11_fits_3 : decode cX11_fits 3 = .ok (.iload_n 3, 1) := by decide +kernel
theorem dX11_fits_4 : decode cX11_fits 4 = .ok (.invokevirtual 201, 3) := by decide +kernel
theorem dX11_fits_7 : decode cX11_fits 7 = .ok (.ifCond .ne 7, 3) := by decide +kernel
theorem dX11_fits_10 : decode cX11_fits 10 = .ok (.ldc2_w 229, 3) := by decide +kernel
theorem dX11_fits_13 : decode cX11_fits 13 = .ok (.lreturn, 1) := by decide +kernel
theorem dX11_fits_14 : decode cX11_fits 14 = .ok (.aload_n 0, 1) := by decide +kernel
theorem dX11_fits_15 : decode cX11_fits 15 = .ok (.getfield 73, 3) := by decide +kernel
theorem dX11_fits_18 : decode cX11_fits 18 = .ok (.getfield 270, 3) := by decide +kernel
theorem dX11_fits_21 : decode cX11_fits 21 = .ok (.ifCond .ne 7, 3) := by decide +kernel
theorem dX11_fits_24 : decode cX11_fits 24 = .ok (.ldc2_w 276, 3) := by decide +kernel
theorem dX11_fits_27 : decode cX11_fits 27 = .ok (.lreturn, 1) := by decide +kernel
theorem dX11_fits_28 : decode cX11_fits 28 = .ok (.aload_n 0, 1) := by decide +kernel
theorem dX11_fits_29 : decode cX11_fits 29 = .ok (.getfield 82, 3) := by decide +kernel
theorem dX11_fits_32 : decode cX11_fits 32 = .ok (.aload_n 0, 1) := by decide +kernel
theorem dX11_fits_33 : decode cX11_fits 33 = .ok (.getfield 73, 3) := by decide +kernel
theorem dX11_fits_36 : decode cX11_fits 36 = .ok (.iload_n 2, 1) := by decide +kernel
theorem dX11_fits_37 : decode cX11_fits 37 = .ok (.invokevirtual 278, 3) := by decide +kernel
theorem dX11_fits_40 : decode cX11_fits 40 = .ok (.aload_n 0, 1) := by decide +kernel
theorem dX11_fits_41 : decode cX11_fits 41 = .ok (.getfield 82, 3) := by decide +kernel
theorem dX11_fits_44 : decode cX11_fits 44 = .ok (.iload_n 1, 1) := by decide +kernel
theorem dX11_fits_45 : decode cX11_fits 45 = .ok (.iload_n 3, 1) := by decide +kernel
theorem dX11_fits_46 : decode cX11_fits 46 = .ok (.aload_n 0, 1) := by decide +kernel
theorem dX11_fits_47 : decode cX11_fits 47 = .ok (.getfield 19, 3) := by decide +kernel
theorem dX11_fits_50 : decode cX11_fits 50 = .ok (.invokevirtual 282, 3) := by decide +kernel
theorem dX11_fits_53 : decode cX11_fits 53 = .ok (.aload_n 0, 1) := by decide +kernel
theorem dX11_fits_54 : decode cX11_fits 54 = .ok (.getfield 82, 3) := by decide +kernel
theorem dX11_fits_57 : decode cX11_fits 57 = .ok (.iload_n 1, 1) := by decide +kernel
theorem dX11_fits_58 : decode cX11_fits 58 = .ok (.iload_n 3, 1) := by decide +kernel
theorem dX11_fits_59 : decode cX11_fits 59 = .ok (.invokevirtual 286, 3) := by decide +kernel
theorem dX11_fits_62 : decode cX11_fits 62 = .ok (.lreturn, 1) := by decide +kernel
theorem dX11_sure_0 : decode cX11_sure 0 = .ok (.aload_n 0, 1) := by decide +kernel
theorem dX11_sure_1 : decode cX11_sure 1 = .ok (.iload_n 1, 1) := by decide +kernel
theorem dX11_sure_2 : decode cX11_sure 2 = .ok (.iload_n 2, 1) := by decide +kernel
theorem dX11_sure_3 : decode cX11_sure 3 = .ok (.iload_n 3, 1) := by decide +kernel
theorem dX11_sure_4 : decode cX11_sure 4 = .ok (.invokevirtual 201, 3) := by decide +kernel
theorem dX11_sure_7 : decode cX11_sure 7 = .ok (.ifCond .ne 5, 3) := by decide +kernel
theorem dX11_sure_10 : decode cX11_sure 10 = .ok (.iconst (-1), 1) := by decide +kernel
theorem dX11_sure_11 : decode cX11_sure 11 = .ok (.ireturn, 1) := by decide +kernel
theorem dX11_sure_12 : decode cX11_sure 12 = .ok (.aload_n 0, 1) := by decide +kernel
theorem dX11_sure_13 : decode cX11_sure 13 = .ok (.getfield 73, 3) := by decide +kernel
theorem dX11_sure_16 : decode cX11_sure 16 = .ok (.getfield 270, 3) := by decide +kernel
theorem dX11_sure_19 : decode cX11_sure 19 = .ok (.ifCond .ne 6, 3) := by decide +kernel
theorem dX11_sure_22 : decode cX11_sure 22 = .ok (.bipush (-2), 2) := by decide +kernel
theorem dX11_sure_24 : decode cX11_sure 24 = .ok (.ireturn, 1) := by decide +kernel
theorem dX11_sure_25 : decode cX11_sure 25 = .ok (.aload_n 0, 1) := by decide +kernel
theorem dX11_sure_26 : decode cX11_sure 26 = .ok (.getfield 82, 3) := by decide +kernel
theorem dX11_sure_29 : decode cX11_sure 29 = .ok (.aload_n 0, 1) := by decide +kernel
theorem dX11_sure_30 : decode cX11_sure 30 = .ok (.getfield 73, 3) := by decide +kernel
theorem dX11_sure_33 : decode cX11_sure 33 = .ok (.iload_n 2, 1) := by decide +kernel
theorem dX11_sure_34 : decode cX11_sure 34 = .ok (.invokevirtual 278, 3) := by decide +kernel
theorem dX11_sure_37 : decode cX11_sure 37 = .ok (.aload_n 0, 1) := by decide +kernel
theorem dX11_sure_38 : decode cX11_sure 38 = .ok (.getfield 82, 3) := by decide +kernel
theorem dX11_sure_41 : decode cX11_sure 41 = .ok (.iload_n 1, 1) := by decide +kernel
theorem dX11_sure_42 : decode cX11_sure 42 = .ok (.iload_n 3, 1) := by decide +kernel
theorem dX11_sure_43 : decode cX11_sure 43 = .ok (.invokevirtual 290, 3) := by decide +kernel
theorem dX11_sure_46 : decode cX11_sure 46 = .ok (.aload_n 0, 1) := by decide +kernel
theorem dX11_sure_47 : decode cX11_sure 47 = .ok (.getfield 19, 3) := by decide +kernel
theorem dX11_sure_50 : decode cX11_sure 50 = .ok (.invokevirtual 176, 3) := by decide +kernel
theorem dX11_sure_53 : decode cX11_sure 53 = .ok (.aload_n 0, 1) := by decide +kernel
theorem dX11_sure_54 : decode cX11_sure 54 = .ok (.getfield 19, 3) := by decide +kernel
theorem dX11_sure_57 : decode cX11_sure 57 = .ok (.aload_n 0, 1) := by decide +kernel
theorem dX11_sure_58 : decode cX11_sure 58 = .ok (.getfield 82, 3) := by decide +kernel
theorem dX11_sure_61 : decode cX11_sure 61 = .ok (.getfield 294, 3) := by decide +kernel
theorem dX11_sure_64 : decode cX11_sure 64 = .ok (.invokevirtual 182, 3) := by decide +kernel
theorem dX11_sure_67 : decode cX11_sure 67 = .ok (.aload_n 0, 1) := by decide +kernel
theorem dX11_sure_68 : decode cX11_sure 68 = .ok (.getfield 82, 3) := by decide +kernel
theorem dX11_sure_71 : decode cX11_sure 71 = .ok (.getfield 297, 3) := by decide +kernel
theorem dX11_sure_74 : decode cX11_sure 74 = .ok (.ireturn, 1) := by decide +kernel
theorem dX11_writers_0 : decode cX11_writers 0 = .ok (.aload_n 0, 1) := by decide +kernel
theorem dX11_writers_1 : decode cX11_writers 1 = .ok (.getfield 26, 3) := by decide +kernel
theorem dX11_writers_4 : decode cX11_writers 4 = .ok (.iload_n 1, 1) := by decide +kernel
theorem dX11_writers_5 : decode cX11_writers 5 = .ok (.invokevirtual 114, 3) := by decide +kernel
theorem dX11_writers_8 : decode cX11_writers 8 = .ok (.ifCond .eq 10, 3) := by decide +kernel
theorem dX11_writers_11 : decode cX11_writers 11 = .ok (.iload_n 2, 1) := by decide +kernel
theorem dX11_writers_12 : decode cX11_writers 12 = .ok (.invokestatic 145, 3) := by decide +kernel
theorem dX11_writers_15 : decode cX11_writers 15 = .ok (.ifCond .ne 5, 3) := by decide +kernel
theorem dX11_writers_18 : decode cX11_writers 18 = .ok (.iconst (-1), 1) := by decide +kernel
theorem dX11_writers_19 : decode cX11_writers 19 = .ok (.ireturn, 1) := by decide +kernel
theorem dX11_writers_20 : decode cX11_writers 20 = .ok (.aload_n 0, 1) := by decide +kernel
theorem dX11_writers_21 : decode cX11_writers 21 = .ok (.getfield 73, 3) := by decide +kernel
theorem dX11_writers_24 : decode cX11_writers 24 = .ok (.getfield 270, 3) := by decide +kernel
theorem dX11_writers_27 : decode cX11_writers 27 = .ok (.ifCond .ne 6, 3) := by decide +kernel
theorem dX11_writers_30 : decode cX11_writers 30 = .ok (.bipush (-2), 2) := by decide +kernel
theorem dX11_writers_32 : decode cX11_writers 32 = .ok (.ireturn, 1) := by decide +kernel
theorem dX11_writers_33 : decode cX11_writers 33 = .ok (.aload_n 0, 1) := by decide +kernel
theorem dX11_writers_34 : decode cX11_writers 34 = .ok (.getfield 82, 3) := by decide +kernel
theorem dX11_writers_37 : decode cX11_writers 37 = .ok (.aload_n 0, 1) := by decide +kernel
theorem dX11_writers_38 : decode cX11_writers 38 = .ok (.getfield 73, 3) := by decide +kernel
theorem dX11_writers_41 : decode cX11_writers 41 = .ok (.iload_n 1, 1) := by decide +kernel
theorem dX11_writers_42 : decode cX11_writers 42 = .ok (.invokevirtual 278, 3) := by decide +kernel
theorem dX11_writers_45 : decode cX11_writers 45 = .ok (.iconst 0, 1) := by decide +kernel
theorem dX11_writers_46 : decode cX11_writers 46 = .ok (.istore_n 3, 1) := by decide +kernel
theorem dX11_writers_47 : decode cX11_writers 47 = .ok (.iconst 0, 1) := by decide +kernel
theorem dX11_writers_48 : decode cX11_writers 48 = .ok (.istore 4, 2) := by decide +kernel
theorem dX11_writers_50 : decode cX11_writers 50 = .ok (.iload 4, 2) := by decide +kernel
theorem dX11_writers_52 : decode cX11_writers 52 = .ok (.aload_n 0, 1) := by decide +kernel
theorem dX11_writers_53 : decode cX11_writers 53 = .ok (.getfield 26, 3) := by decide +kernel
theorem dX11_writers_56 : decode cX11_writers 56 = .ok (.getfield 247, 3) := by decide +kernel
theorem dX11_writers_59 : decode cX11_writers 59 = .ok (.if_icmp .ge 31, 3) := by decide +kernel
theorem dX11_writers_62 : decode cX11_writers 62 = .ok (.aload_n 0, 1) := by decide +kernel
theorem dX11_writers_63 : decode cX11_writers 63 = .ok (.getfield 82, 3) := by decide +kernel
theorem dX11_writers_66 : decode cX11_writers 66 = .ok (.iload 4, 2) := by decide +kernel
theorem dX11_writers_68 : decode cX11_writers 68 = .ok (.iload_n 2, 1) := by decide +kernel
theorem dX11_writers_69 : decode cX11_writers 69 = .ok (.invokevirtual 286, 3) := by decide +kernel
theorem dX11_writers_72 : decode cX11_writers 72 = .ok (.lconst 0, 1) := by decide +kernel
theorem dX11_writers_73 : decode cX11_writers 73 = .ok (.lcmp, 1) := by decide +kernel
theorem dX11_writers_74 : decode cX11_writers 74 = .ok (.ifCond .le 10, 3) := by decide +kernel
theorem dX11_writers_77 : decode cX11_writers 77 = .ok (.iload_n 3, 1) := by decide +kernel
theorem dX11_writers_78 : decode cX11_writers 78 = .ok (.iconst 1, 1) := by decide +kernel
theorem dX11_writers_79 : decode cX11_writers 79 = .ok (.iload 4, 2) := by decide +kernel
theorem dX11_writers_81 : decode cX11_writers 81 = .ok (.ishl, 1) := by decide +kernel
theorem dX11_writers_82 : decode cX11_writers 82 = .ok (.ior, 1) := by decide +kernel
theorem dX11_writers_83 : decode cX11_writers 83 = .ok (.istore_n 3, 1) := by decide +kernel
theorem dX11_writers_84 : decode cX11_writers 84 = .ok (.iinc 4 1, 3) := by decide +kernel
theorem dX11_writers_87 : decode cX11_writers 87 = .ok (.goto (-37), 3) := by decide +kernel
theorem dX11_writers_90 : decode cX11_writers 90 = .ok (.iload_n 3, 1) := by decide +kernel
theorem dX11_writers_91 : decode cX11_writers 91 = .ok (.ireturn, 1) := by decide +kernel
theorem dX11_missing_0 : decode cX11_missing 0 = .ok (.aload_n 0, 1) := by decide +kernel
theorem dX11_missing_1 : decode cX11_missing 1 = .ok (.iload_n 1, 1) := by decide +kernel
theorem dX11_missing_2 : decode cX11_missing 2 = .ok (.iload_n 2, 1) := by decide +kernel
theorem dX11_missing_3 : decode cX11_missing 3 = .ok (.iload_n 3, 1) := by decide +kernel
theorem dX11_missing_4 : decode cX11_missing 4 = .ok (.invokevirtual 201, 3) := by decide +kernel
theorem dX11_missing_7 : decode cX11_missing 7 = .ok (.ifCond .ne 7, 3) := by decide +kernel
theorem dX11_missing_10 : decode cX11_missing 10 = .ok (.ldc2_w 229, 3) := by decide +kernel
theorem dX11_missing_13 : decode cX11_missing 13 = .ok (.lreturn, 1) := by decide +kernel
theorem dX11_missing_14 : decode cX11_missing 14 = .ok (.aload_n 0, 1) := by decide +kernel
theorem dX11_missing_15 : decode cX11_missing 15 = .ok (.getfield 73, 3) := by decide +kernel
theorem dX11_missing_18 : decode cX11_missing 18 = .ok (.getfield 270, 3) := by decide +kernel
theorem dX11_missing_21 : decode cX11_missing 21 = .ok (.ifCond .ne 7, 3) := by decide +kernel
theorem dX11_missing_24 : decode cX11_missing 24 = .ok (.ldc2_w 276, 3) := by decide +kernel
theorem dX11_missing_27 : decode cX11_missing 27 = .ok (.lreturn, 1) := by decide +kernel
theorem dX11_missing_28 : decode cX11_missing 28 = .ok (.aload_n 0, 1) := by decide +kernel
theorem dX11_missing_29 : decode cX11_missing 29 = .ok (.getfield 91, 3) := by decide +kernel
theorem dX11_missing_32 : decode cX11_missing 32 = .ok (.aload_n 0, 1) := by decide +kernel
theorem dX11_missing_33 : decode cX11_missing 33 = .ok (.getfield 73, 3) := by decide +kernel
theorem dX11_missing_36 : decode cX11_missing 36 = .ok (.iload_n 2, 1) := by decide +kernel
theorem dX11_missing_37 : decode cX11_missing 37 = .ok (.invokevirtual 300, 3) := by decide +kernel
theorem dX11_missing_40 : decode cX11_missing 40 = .ok (.aload_n 0, 1) := by decide +kernel
theorem dX11_missing_41 : decode cX11_missing 41 = .ok (.getfield 19, 3) := by decide +kernel
theorem dX11_missing_44 : decode cX11_missing 44 = .ok (.invokevirtual 176, 3) := by decide +kernel
theorem dX11_missing_47 : decode cX11_missing 47 = .ok (.aload_n 0, 1) := by decide +kernel
theorem dX11_missing_48 : decode cX11_missing 48 = .ok (.getfield 19, 3) := by decide +kernel
theorem dX11_missing_51 : decode cX11_missing 51 = .ok (.aload_n 0, 1) := by decide +kernel
theorem dX11_missing_52 : decode cX11_missing 52 = .ok (.getfield 91, 3) := by decide +kernel
theorem dX11_missing_55 : decode cX11_missing 55 = .ok (.iload_n 1, 1) := by decide +kernel
theorem dX11_missing_56 : decode cX11_missing 56 = .ok (.iload_n 3, 1) := by decide +kernel
theorem dX11_missing_57 : decode cX11_missing 57 = .ok (.iconst 1, 1) := by decide +kernel
theorem dX11_missing_58 : decode cX11_missing 58 = .ok (.invokevirtual 303, 3) := by decide +kernel
theorem dX11_missing_61 : decode cX11_missing 61 = .ok (.invokevirtual 182, 3) := by decide +kernel
theorem dX11_missing_64 : decode cX11_missing 64 = .ok (.aload_n 0, 1) := by decide +kernel
theorem dX11_missing_65 : decode cX11_missing 65 = .ok (.getfield 91, 3) := by decide +kernel
theorem dX11_missing_68 : decode cX11_missing 68 = .ok (.iload_n 1, 1) := by decide +kernel
theorem dX11_missing_69 : decode cX11_missing 69 = .ok (.iload_n 3, 1) := by decide +kernel
theorem dX11_missing_70 : decode cX11_missing 70 = .ok (.iconst 1, 1) := by decide +kernel
theorem dX11_missing_71 : decode cX11_missing 71 = .ok (.iconst 0, 1) := by decide +kernel
theorem dX11_missing_72 : decode cX11_missing 72 = .ok (.invokevirtual 306, 3) := by decide +kernel
theorem dX11_missing_75 : decode cX11_missing 75 = .ok (.lreturn, 1) := by decide +kernel
theorem dX11_lies_0 : decode cX11_lies 0 = .ok (.aload_n 0, 1) := by decide +kernel
theorem dX11_lies_1 : decode cX11_lies 1 = .ok (.iload_n 1, 1) := by decide +kernel
theorem dX11_lies_2 : decode cX11_lies 2 = .ok (.iload_n 2, 1) := by decide +kernel
theorem dX11_lies_3 : decode cX11_lies 3 = .ok (.iload_n 3, 1) := by decide +kernel
theorem dX11_lies_4 : decode cX11_lies 4 = .ok (.invokevirtual 201, 3) := by decide +kernel
theorem dX11_lies_7 : decode cX11_lies 7 = .ok (.ifCond .ne 5, 3) := by decide +kernel
theorem dX11_lies_10 : decode cX11_lies 10 = .ok (.iconst (-1), 1) := by decide +kernel
theorem dX11_lies_11 : decode cX11_lies 11 = .ok (.ireturn, 1) := by decide +kernel
theorem dX11_lies_12 : decode cX11_lies 12 = .ok (.aload_n 0, 1) := by decide +kernel
theorem dX11_lies_13 : decode cX11_lies 13 = .ok (.getfield 73, 3) := by decide +kernel
theorem dX11_lies_16 : decode cX11_lies 16 = .ok (.getfield 270, 3) := by decide +kernel
theorem dX11_lies_19 : decode cX11_lies 19 = .ok (.ifCond .ne 6, 3) := by decide +kernel
theorem dX11_lies_22 : decode cX11_lies 22 = .ok (.bipush (-2), 2) := by decide +kernel
theorem dX11_lies_24 : decode cX11_lies 24 = .ok (.ireturn, 1) := by decide +kernel
theorem dX11_lies_25 : decode cX11_lies 25 = .ok (.aload_n 0, 1) := by decide +kernel
theorem dX11_lies_26 : decode cX11_lies 26 = .ok (.getfield 82, 3) := by decide +kernel
theorem dX11_lies_29 : decode cX11_lies 29 = .ok (.aload_n 0, 1) := by decide +kernel
theorem dX11_lies_30 : decode cX11_lies 30 = .ok (.getfield 73, 3) := by decide +kernel
theorem dX11_lies_33 : decode cX11_lies 33 = .ok (.iload_n 2, 1) := by decide +kernel
theorem dX11_lies_34 : decode cX11_lies 34 = .ok (.invokevirtual 310, 3) := by decide +kernel
theorem dX11_lies_37 : decode cX11_lies 37 = .ok (.aload_n 0, 1) := by decide +kernel
theorem dX11_lies_38 : decode cX11_lies 38 = .ok (.getfield 82, 3) := by decide +kernel
theorem dX11_lies_41 : decode cX11_lies 41 = .ok (.iload_n 1, 1) := by decide +kernel
theorem dX11_lies_42 : decode cX11_lies 42 = .ok (.iload_n 3, 1) := by decide +kernel
theorem dX11_lies_43 : decode cX11_lies 43 = .ok (.aload_n 0, 1) := by decide +kernel
theorem dX11_lies_44 : decode cX11_lies 44 = .ok (.getfield 19, 3) := by decide +kernel
theorem dX11_lies_47 : decode cX11_lies 47 = .ok (.invokevirtual 313, 3) := by decide +kernel
theorem dX11_lies_50 : decode cX11_lies 50 = .ok (.ireturn, 1) := by decide +kernel
theorem dX11_lay_0 : decode cX11_lay 0 = .ok (.aload_n 0, 1) := by decide +kernel
theorem dX11_lay_1 : decode cX11_lay 1 = .ok (.getfield 76, 3) := by decide +kernel
theorem dX11_lay_4 : decode cX11_lay 4 = .ok (.aload_n 0, 1) := by decide +kernel
theorem dX11_lay_5 : decode cX11_lay 5 = .ok (.getfield 73, 3) := by decide +kernel
theorem dX11_lay_8 : decode cX11_lay 8 = .ok (.invokevirtual 316, 3) := by decide +kernel
theorem dX11_lay_11 : decode cX11_lay 11 = .ok (.iconst 1, 1) := by decide +kernel
theorem dX11_lay_12 : decode cX11_lay 12 = .ok (.ireturn, 1) := by decide +kernel
theorem dX11_copies_0 : decode cX11_copies 0 = .ok (.aload_n 0, 1) := by decide +kernel
theorem dX11_copies_1 : decode cX11_copies 1 = .ok (.iload_n 1, 1) := by decide +kernel
theorem dX11_copies_2 : decode cX11_copies 2 = .ok (.iload_n 2, 1) := by decide +kernel
theorem dX11_copies_3 : decode cX11_copies 3 = .ok (.iconst 0, 1) := by decide +kernel
theorem dX11_copies_4 : decode cX11_copies 4 = .ok (.invokevirtual 201, 3) := by decide +kernel
theorem dX11_copies_7 : decode cX11_copies 7 = .ok (.ifCond .eq 14, 3) := by decide +kernel
theorem dX11_copies_10 : decode cX11_copies 10 = .ok (.aload_n 0, 1) := by decide +kernel
theorem dX11_copies_11 : decode cX11_copies 11 = .ok (.getfield 26, 3) := by decide +kernel
theorem dX11_copies_14 : decode cX11_copies 14 = .ok (.iload_n 3, 1) := by decide +kernel
theorem dX11_copies_15 : decode cX11_copies 15 = .ok (.invokevirtual 114, 3) := by decide +kernel
theorem dX11_copies_18 : decode cX11_copies 18 = .ok (.ifCond .ne 5, 3) := by decide +kernel
theorem dX11_copies_21 : decode cX11_copies 21 = .ok (.iconst (-1), 1) := by decide +kernel
theorem dX11_copies_22 : decode cX11_copies 22 = .ok (.ireturn, 1) := by decide +kernel
theorem dX11_copies_23 : decode cX11_copies 23 = .ok (.aload_n 0, 1) := by decide +kernel
theorem dX11_copies_24 : decode cX11_copies 24 = .ok (.getfield 73, 3) := by decide +kernel
theorem dX11_copies_27 : decode cX11_copies 27 = .ok (.getfield 270, 3) := by decide +kernel
theorem dX11_copies_30 : decode cX11_copies 30 = .ok (.ifCond .eq 13, 3) := by decide +kernel
theorem dX11_copies_33 : decode cX11_copies 33 = .ok (.aload_n 0, 1) := by decide +kernel
theorem dX11_copies_34 : decode cX11_copies 34 = .ok (.getfield 76, 3) := by decide +kernel
theorem dX11_copies_37 : decode cX11_copies 37 = .ok (.getfield 270, 3) := by decide +kernel
theorem dX11_copies_40 : decode cX11_copies 40 = .ok (.ifCond .ne 6, 3) := by decide +kernel
theorem dX11_copies_43 : decode cX11_copies 43 = .ok (.bipush (-2), 2) := by decide +kernel
theorem dX11_copies_45 : decode cX11_copies 45 = .ok (.ireturn, 1) := by decide +kernel
theorem dX11_copies_46 : decode cX11_copies 46 = .ok (.iconst (-1), 1) := by decide +kernel
theorem dX11_copies_47 : decode cX11_copies 47 = .ok (.istore 4, 2) := by decide +kernel
theorem dX11_copies_49 : decode cX11_copies 49 = .ok (.aload_n 0, 1) := by decide +kernel
theorem dX11_copies_50 : decode cX11_copies 50 = .ok (.getfield 73, 3) := by decide +kernel
theorem dX11_copies_53 : decode cX11_copies 53 = .ok (.getfield 320, 3) := by decide +kernel
theorem dX11_copies_56 : decode cX11_copies 56 = .ok (.iconst 0, 1) := by decide +kernel
theorem dX11_copies_57 : decode cX11_copies 57 = .ok (.iaload, 1) := by decide +kernel
theorem dX11_copies_58 : decode cX11_copies 58 = .ok (.aload_n 0, 1) := by decide +kernel
theorem dX11_copies_59 : decode cX11_copies 59 = .ok (.getfield 76, 3) := by decide +kernel
theorem dX11_copies_62 : decode cX11_copies 62 = .ok (.getfield 320, 3) := by decide +kernel
theorem dX11_copies_65 : decode cX11_copies 65 = .ok (.iconst 0, 1) := by decide +kernel
theorem dX11_copies_66 : decode cX11_copies 66 = .ok (.iaload, 1) := by decide +kernel
theorem dX11_copies_67 : decode cX11_copies 67 = .ok (.if_icmp .ne 52, 3) := by decide +kernel
theorem dX11_copies_70 : decode cX11_copies 70 = .ok (.aload_n 0, 1) := by decide +kernel
theorem dX11_copies_71 : decode cX11_copies 71 = .ok (.getfield 82, 3) := by decide +kernel
theorem dX11_copies_74 : decode cX11_copies 74 = .ok (.aload_n 0, 1) := by decide +kernel
theorem dX11_copies_75 : decode cX11_copies 75 = .ok (.getfield 73, 3) := by decide +kernel
theorem dX11_copies_78 : decode cX11_copies 78 = .ok (.iload_n 2, 1) := by decide +kernel
theorem dX11_copies_79 : decode cX11_copies 79 = .ok (.invokevirtual 278, 3) := by decide +kernel
theorem dX11_copies_82 : decode cX11_copies 82 = .ok (.aload_n 0, 1) := by decide +kernel
theorem dX11_copies_83 : decode cX11_copies 83 = .ok (.getfield 82, 3) := by decide +kernel
theorem dX11_copies_86 : decode cX11_copies 86 = .ok (.iload_n 1, 1) := by decide +kernel
theorem dX11_copies_87 : decode cX11_copies 87 = .ok (.invokevirtual 323, 3) := by decide +kernel
theorem dX11_copies_90 : decode cX11_copies 90 = .ok (.istore 4, 2) := by decide +kernel
theorem dX11_copies_92 : decode cX11_copies 92 = .ok (.aload_n 0, 1) := by decide +kernel
theorem dX11_copies_93 : decode cX11_copies 93 = .ok (.getfield 82, 3) := by decide +kernel
theorem dX11_copies_96 : decode cX11_copies 96 = .ok (.aload_n 0, 1) := by decide +kernel
theorem dX11_copies_97 : decode cX11_copies 97 = .ok (.getfield 76, 3) := by decide +kernel
theorem dX11_copies_100 : decode cX11_copies 100 = .ok (.iload_n 3, 1) := by decide +kernel
theorem dX11_copies_101 : decode cX11_copies 101 = .ok (.invokevirtual 278, 3) := by decide +kernel
theorem dX11_copies_104 : decode cX11_copies 104 = .ok (.iload 4, 2) := by decide +kernel
theorem dX11_copies_106 : decode cX11_copies 106 = .ok (.aload_n 0, 1) := by decide +kernel
theorem dX11_copies_107 : decode cX11_copies 107 = .ok (.getfield 82, 3) := by decide +kernel
theorem dX11_copies_110 : decode cX11_copies 110 = .ok (.iload_n 1, 1) := by decide +kernel
theorem dX11_copies_111 : decode cX11_copies 111 = .ok (.invokevirtual 323, 3) := by decide +kernel
theorem dX11_copies_114 : decode cX11_copies 114 = .ok (.invokestatic 325, 3) := by decide +kernel
theorem dX11_copies_117 : decode cX11_copies 117 = .ok (.istore 4, 2) := by decide +kernel
theorem dX11_copies_119 : decode cX11_copies 119 = .ok (.aload_n 0, 1) := by decide +kernel
theorem dX11_copies_120 : decode cX11_copies 120 = .ok (.iload 4, 2) := by decide +kernel
theorem dX11_copies_122 : decode cX11_copies 122 = .ok (.invokevirtual 330, 3) := by decide +kernel
theorem dX11_copies_125 : decode cX11_copies 125 = .ok (.ireturn, 1) := by decide +kernel
theorem dX11_when_0 : decode cX11_when 0 = .ok (.aload_n 0, 1) := by decide +kernel
theorem dX11_when_1 : decode cX11_when 1 = .ok (.iload_n 1, 1) := by decide +kernel
theorem dX11_when_2 : decode cX11_when 2 = .ok (.iload_n 2, 1) := by decide +kernel
theorem dX11_when_3 : decode cX11_when 3 = .ok (.iconst 0, 1) := by decide +kernel
theorem dX11_when_4 : decode cX11_when 4 = .ok (.invokevirtual 201, 3) := by decide +kernel
theorem dX11_when_7 : decode cX11_when 7 = .ok (.ifCond .ne 5, 3) := by decide +kernel
theorem dX11_when_10 : decode cX11_when 10 = .ok (.iconst (-1), 1) := by decide +kernel
theorem dX11_when_11 : decode cX11_when 11 = .ok (.ireturn, 1) := by decide +kernel
theorem dX11_when_12 : decode cX11_when 12 = .ok (.aload_n 0, 1) := by decide +kernel
theorem dX11_when_13 : decode cX11_when 13 = .ok (.getfield 73, 3) := by decide +kernel
theorem dX11_when_16 : decode cX11_when 16 = .ok (.getfield 270, 3) := by decide +kernel
theorem dX11_when_19 : decode cX11_when 19 = .ok (.ifCond .ne 6, 3) := by decide +kernel
theorem dX11_when_22 : decode cX11_when 22 = .ok (.bipush (-2), 2) := by decide +kernel
theorem dX11_when_24 : decode cX11_when 24 = .ok (.ireturn, 1) := by decide +kernel
theorem dX11_when_25 : decode cX11_when 25 = .ok (.aload_n 0, 1) := by decide +kernel
theorem dX11_when_26 : decode cX11_when 26 = .ok (.getfield 82, 3) := by decide +kernel
theorem dX11_when_29 : decode cX11_when 29 = .ok (.aload_n 0, 1) := by decide +kernel
theorem dX11_when_30 : decode cX11_when 30 = .ok (.getfield 73, 3) := by decide +kernel
theorem dX11_when_33 : decode cX11_when 33 = .ok (.iload_n 2, 1) := by decide +kernel
theorem dX11_when_34 : decode cX11_when 34 = .ok (.invokevirtual 278, 3) := by decide +kernel
theorem dX11_when_37 : decode cX11_when 37 = .ok (.aload_n 0, 1) := by decide +kernel
theorem dX11_when_38 : decode cX11_when 38 = .ok (.aload_n 0, 1) := by decide +kernel
theorem dX11_when_39 : decode cX11_when 39 = .ok (.getfield 82, 3) := by decide +kernel
theorem dX11_when_42 : decode cX11_when 42 = .ok (.iload_n 1, 1) := by decide +kernel
theorem dX11_when_43 : decode cX11_when 43 = .ok (.invokevirtual 323, 3) := by decide +kernel
theorem dX11_when_46 : decode cX11_when 46 = .ok (.invokevirtual 330, 3) := by decide +kernel
theorem dX11_when_49 : decode cX11_when 49 = .ok (.ireturn, 1) := by decide +kernel
theorem dX11_answer_0 : decode cX11_answer 0 = .ok (.aload_n 0, 1) := by decide +kernel
theorem dX11_answer_1 : decode cX11_answer 1 = .ok (.iload_n 1, 1) := by decide +kernel
theorem dX11_answer_2 : decode cX11_answer 2 = .ok (.iload_n 2, 1) := by decide +kernel
theorem dX11_answer_3 : decode cX11_answer 3 = .ok (.iload_n 3, 1) := by decide +kernel
theorem dX11_answer_4 : decode cX11_answer 4 = .ok (.invokevirtual 201, 3) := by decide +kernel
theorem dX11_answer_7 : decode cX11_answer 7 = .ok (.ifCond .eq 8, 3) := by decide +kernel
theorem dX11_answer_10 : decode cX11_answer 10 = .ok (.iload_n 1, 1) := by decide +kernel
theorem dX11_answer_11 : decode cX11_answer 11 = .ok (.iload_n 2, 1) := by decide +kernel
theorem dX11_answer_12 : decode cX11_answer 12 = .ok (.if_icmp .ne 5, 3) := by decide +kernel
theorem dX11_answer_15 : decode cX11_answer 15 = .ok (.iconst (-1), 1) := by decide +kernel
theorem dX11_answer_16 : decode cX11_answer 16 = .ok (.ireturn, 1) := by decide +kernel
theorem dX11_answer_17 : decode cX11_answer 17 = .ok (.aload_n 0, 1) := by decide +kernel
theorem dX11_answer_18 : decode cX11_answer 18 = .ok (.getfield 69, 3) := by decide +kernel
theorem dX11_answer_21 : decode cX11_answer 21 = .ok (.iload_n 1, 1) := by decide +kernel
theorem dX11_answer_22 : decode cX11_answer 22 = .ok (.iload_n 2, 1) := by decide +kernel
theorem dX11_answer_23 : decode cX11_answer 23 = .ok (.iload_n 3, 1) := by decide +kernel
theorem dX11_answer_24 : decode cX11_answer 24 = .ok (.invokevirtual 333, 3) := by decide +kernel
theorem dX11_answer_27 : decode cX11_answer 27 = .ok (.istore 4, 2) := by decide +kernel
theorem dX11_answer_29 : decode cX11_answer 29 = .ok (.iload 4, 2) := by decide +kernel
theorem dX11_answer_31 : decode cX11_answer 31 = .ok (.iconst (-1), 1) := by decide +kernel
theorem dX11_answer_32 : decode cX11_answer 32 = .ok (.if_icmp .ne 6, 3) := by decide +kernel
theorem dX11_answer_35 : decode cX11_answer 35 = .ok (.bipush (-2), 2) := by decide +kernel
theorem dX11_answer_37 : decode cX11_answer 37 = .ok (.ireturn, 1) := by decide +kernel
theorem dX11_answer_38 : decode cX11_answer 38 = .ok (.aload_n 0, 1) := by decide +kernel
theorem dX11_answer_39 : decode cX11_answer 39 = .ok (.getfield 19, 3) := by decide +kernel
theorem dX11_answer_42 : decode cX11_answer 42 = .ok (.invokevirtual 176, 3) := by decide +kernel
theorem dX11_answer_45 : decode cX11_answer 45 = .ok (.aload_n 0, 1) := by decide +kernel
theorem dX11_answer_46 : decode cX11_answer 46 = .ok (.getfield 19, 3) := by decide +kernel
theorem dX11_answer_49 : decode cX11_answer 49 = .ok (.aload_n 0, 1) := by decide +kernel
theorem dX11_answer_50 : decode cX11_answer 50 = .ok (.getfield 69, 3) := by decide +kernel
theorem dX11_answer_53 : decode cX11_answer 53 = .ok (.getfield 336, 3) := by decide +kernel
theorem dX11_answer_56 : decode cX11_answer 56 = .ok (.invokevirtual 182, 3) := by decide +kernel
theorem dX11_answer_59 : decode cX11_answer 59 = .ok (.iload 4, 2) := by decide +kernel
theorem dX11_answer_61 : decode cX11_answer 61 = .ok (.ireturn, 1) := by decide +kernel
theorem dX11_ask_0 : decode cX11_ask 0 = .ok (.aload_n 0, 1) := by decide +kernel
theorem dX11_ask_1 : decode cX11_ask 1 = .ok (.getfield 26, 3) := by decide +kernel
theorem dX11_ask_4 : decode cX11_ask 4 = .ok (.iload_n 1, 1) := by decide +kernel
theorem dX11_ask_5 : decode cX11_ask 5 = .ok (.invokevirtual 114, 3) := by decide +kernel
theorem dX11_ask_8 : decode cX11_ask 8 = .ok (.ifCond .eq 10, 3) := by decide +kernel
theorem dX11_ask_11 : decode cX11_ask 11 = .ok (.iload_n 2, 1) := by decide +kernel
theorem dX11_ask_12 : decode cX11_ask 12 = .ok (.invokestatic 145, 3) := by decide +kernel
theorem dX11_ask_15 : decode cX11_ask 15 = .ok (.ifCond .ne 5, 3) := by decide +kernel
theorem dX11_ask_18 : decode cX11_ask 18 = .ok (.iconst (-1), 1) := by decide +kernel
theorem dX11_ask_19 : decode cX11_ask 19 = .ok (.ireturn, 1) := by decide +kernel
theorem dX11_ask_20 : decode cX11_ask 20 = .ok (.bipush (-2), 2) := by decide +kernel
theorem dX11_ask_22 : decode cX11_ask 22 = .ok (.istore_n 3, 1) := by decide +kernel
theorem dX11_ask_23 : decode cX11_ask 23 = .ok (.ldc_w 339, 3) := by decide +kernel
theorem dX11_ask_26 : decode cX11_ask 26 = .ok (.istore 4, 2) := by decide +kernel
theorem dX11_ask_28 : decode cX11_ask 28 = .ok (.iconst 0, 1) := by decide +kernel
theorem dX11_ask_29 : decode cX11_ask 29 = .ok (.istore 5, 2) := by decide +kernel
theorem dX11_ask_31 : decode cX11_ask 31 = .ok (.iload 5, 2) := by decide +kernel
theorem dX11_ask_33 : decode cX11_ask 33 = .ok (.aload_n 0, 1) := by decide +kernel
theorem dX11_ask_34 : decode cX11_ask 34 = .ok (.getfield 26, 3) := by decide +kernel
theorem dX11_ask_37 : decode cX11_ask 37 = .ok (.getfield 247, 3) := by decide +kernel
theorem dX11_ask_40 : decode cX11_ask 40 = .ok (.if_icmp .ge 52, 3) := by decide +kernel
theorem dX11_ask_43 : decode cX11_ask 43 = .ok (.iload 5, 2) := by decide +kernel
theorem dX11_ask_45 : decode cX11_ask 45 = .ok (.iload_n 1, 1) := by decide +kernel
theorem dX11_ask_46 : decode cX11_ask 46 = .ok (.if_icmp .ne 7, 3) := by decide +kernel
theorem dX11_ask_49 : decode cX11_ask 49 = .ok (.iconst (-1), 1) := by decide +kernel
theorem dX11_ask_50 : decode cX11_ask 50 = .ok (.goto 14, 3) := by decide +kernel
theorem dX11_ask_53 : decode cX11_ask 53 = .ok (.aload_n 0, 1) := by decide +kernel
theorem dX11_ask_54 : decode cX11_ask 54 = .ok (.getfield 69, 3) := by decide +kernel
theorem dX11_ask_57 : decode cX11_ask 57 = .ok (.iload_n 1, 1) := by decide +kernel
theorem dX11_ask_58 : decode cX11_ask 58 = .ok (.iload 5, 2) := by decide +kernel
theorem dX11_ask_60 : decode cX11_ask 60 = .ok (.iload_n 2, 1) := by decide +kernel
theorem dX11_ask_61 : decode cX11_ask 61 = .ok (.invokevirtual 333, 3) := by decide +kernel
theorem dX11_ask_64 : decode cX11_ask 64 = .ok (.istore 6, 2) := by decide +kernel
theorem dX11_ask_66 : decode cX11_ask 66 = .ok (.iload 6, 2) := by decide +kernel
theorem dX11_ask_68 : decode cX11_ask 68 = .ok (.iconst (-1), 1) := by decide +kernel
theorem dX11_ask_69 : decode cX11_ask 69 = .ok (.if_icmp .eq 17, 3) := by decide +kernel
theorem dX11_ask_72 : decode cX11_ask 72 = .ok (.iload 6, 2) := by decide +kernel
theorem dX11_ask_74 : decode cX11_ask 74 = .ok (.iload 4, 2) := by decide +kernel
theorem dX11_ask_76 : decode cX11_ask 76 = .ok (.if_icmp .ge 10, 3) := by decide +kernel
theorem dX11_ask_79 : decode cX11_ask 79 = .ok (.iload 5, 2) := by decide +kernel
theorem dX11_ask_81 : decode cX11_ask 81 = .ok (.istore_n 3, 1) := by decide +kernel
theorem dX11_ask_82 : decode cX11_ask 82 = .ok (.iload 6, 2) := by decide +kernel
theorem dX11_ask_84 : decode cX11_ask 84 = .ok (.istore 4, 2) := by decide +kernel
theorem dX11_ask_86 : decode cX11_ask 86 = .ok (.iinc 5 1, 3) := by decide +kernel
theorem dX11_ask_89 : decode cX11_ask 89 = .ok (.goto (-58), 3) := by decide +kernel
theorem dX11_ask_92 : decode cX11_ask 92 = .ok (.iload_n 3, 1) := by decide +kernel
theorem dX11_ask_93 : decode cX11_ask 93 = .ok (.bipush (-2), 2) := by decide +kernel
theorem dX11_ask_95 : decode cX11_ask 95 = .ok (.if_icmp .eq 19, 3) := by decide +kernel
theorem dX11_ask_98 : decode cX11_ask 98 = .ok (.aload_n 0, 1) := by decide +kernel
theorem dX11_ask_99 : decode cX11_ask 99 = .ok (.getfield 19, 3) := by decide +kernel
theorem dX11_ask_102 : decode cX11_ask 102 = .ok (.invokevirtual 176, 3) := by decide +kernel
theorem dX11_ask_105 : decode cX11_ask 105 = .ok (.aload_n 0, 1) := by decide +kernel
theorem dX11_ask_106 : decode cX11_ask 106 = .ok (.getfield 19, 3) := by decide +kernel
theorem dX11_ask_109 : decode cX11_ask 109 = .ok (.iload 4, 2) := by decide +kernel
theorem dX11_ask_111 : decode cX11_ask 111 = .ok (.invokevirtual 182, 3) := by decide +kernel
theorem dX11_ask_114 : decode cX11_ask 114 = .ok (.iload_n 3, 1) := by decide +kernel
theorem dX11_ask_115 : decode cX11_ask 115 = .ok (.ireturn, 1) := by decide +kernel
theorem dX11_gossip_0 : decode cX11_gossip 0 = .ok (.aload_n 0, 1) := by decide +kernel
theorem dX11_gossip_1 : decode cX11_gossip 1 = .ok (.getfield 26, 3) := by decide +kernel
theorem dX11_gossip_4 : decode cX11_gossip 4 = .ok (.iload_n 1, 1) := by decide +kernel
theorem dX11_gossip_5 : decode cX11_gossip 5 = .ok (.invokevirtual 114, 3) := by decide +kernel
theorem dX11_gossip_8 : decode cX11_gossip 8 = .ok (.ifCond .eq 11, 3) := by decide +kernel
theorem dX11_gossip_11 : decode cX11_gossip 11 = .ok (.iload_n 2, 1) := by decide +kernel
theorem dX11_gossip_12 : decode cX11_gossip 12 = .ok (.iload_n 3, 1) := by decide +kernel
theorem dX11_gossip_13 : decode cX11_gossip 13 = .ok (.invokestatic 340, 3) := by decide +kernel
theorem dX11_gossip_16 : decode cX11_gossip 16 = .ok (.ifCond .ne 5, 3) := by decide +kernel
theorem dX11_gossip_19 : decode cX11_gossip 19 = .ok (.iconst (-1), 1) := by decide +kernel
theorem dX11_gossip_20 : decode cX11_gossip 20 = .ok (.ireturn, 1) := by decide +kernel
theorem dX11_gossip_21 : decode cX11_gossip 21 = .ok (.aload_n 0, 1) := by decide +kernel
theorem dX11_gossip_22 : decode cX11_gossip 22 = .ok (.getfield 69, 3) := by decide +kernel
theorem dX11_gossip_25 : decode cX11_gossip 25 = .ok (.iload_n 1, 1) := by decide +kernel
theorem dX11_gossip_26 : decode cX11_gossip 26 = .ok (.iload_n 2, 1) := by decide +kernel
theorem dX11_gossip_27 : decode cX11_gossip 27 = .ok (.iload_n 3, 1) := by decide +kernel
theorem dX11_gossip_28 : decode cX11_gossip 28 = .ok (.invokevirtual 344, 3) := by decide +kernel
theorem dX11_gossip_31 : decode cX11_gossip 31 = .ok (.istore 4, 2) := by decide +kernel
theorem dX11_gossip_33 : decode cX11_gossip 33 = .ok (.aload_n 0, 1) := by decide +kernel
theorem dX11_gossip_34 : decode cX11_gossip 34 = .ok (.getfield 19, 3) := by decide +kernel
theorem dX11_gossip_37 : decode cX11_gossip 37 = .ok (.invokevirtual 176, 3) := by decide +kernel
theorem dX11_gossip_40 : decode cX11_gossip 40 = .ok (.aload_n 0, 1) := by decide +kernel
theorem dX11_gossip_41 : decode cX11_gossip 41 = .ok (.getfield 19, 3) := by decide +kernel
theorem dX11_gossip_44 : decode cX11_gossip 44 = .ok (.aload_n 0, 1) := by decide +kernel
theorem dX11_gossip_45 : decode cX11_gossip 45 = .ok (.getfield 69, 3) := by decide +kernel
theorem dX11_gossip_48 : decode cX11_gossip 48 = .ok (.getfield 347, 3) := by decide +kernel
theorem dX11_gossip_51 : decode cX11_gossip 51 = .ok (.invokevirtual 182, 3) := by decide +kernel
theorem dX11_gossip_54 : decode cX11_gossip 54 = .ok (.iload 4, 2) := by decide +kernel
theorem dX11_gossip_56 : decode cX11_gossip 56 = .ok (.ireturn, 1) := by decide +kernel
theorem dX11_postman_0 : decode cX11_postman 0 = .ok (.iload_n 1, 1) := by decide +kernel
theorem dX11_postman_1 : decode cX11_postman 1 = .ok (.iload_n 2, 1) := by decide +kernel
theorem dX11_postman_2 : decode cX11_postman 2 = .ok (.invokestatic 340, 3) := by decide +kernel
theorem dX11_postman_5 : decode cX11_postman 5 = .ok (.ifCond .ne 5, 3) := by decide +kernel
theorem dX11_postman_8 : decode cX11_postman 8 = .ok (.iconst (-1), 1) := by decide +kernel
theorem dX11_postman_9 : decode cX11_postman 9 = .ok (.ireturn, 1) := by decide +kernel
theorem dX11_postman_10 : decode cX11_postman 10 = .ok (.bipush (-2), 2) := by decide +kernel
theorem dX11_postman_12 : decode cX11_postman 12 = .ok (.istore_n 3, 1) := by decide +kernel
theorem dX11_postman_13 : decode cX11_postman 13 = .ok (.iconst 0, 1) := by decide +kernel
theorem dX11_postman_14 : decode cX11_postman 14 = .ok (.istore 4, 2) := by decide +kernel
theorem dX11_postman_16 : decode cX11_postman 16 = .ok (.iconst 0, 1) := by decide +kernel
theorem dX11_postman_17 : decode cX11_postman 17 = .ok (.istore 5, 2) := by decide +kernel
theorem dX11_postman_19 : decode cX11_postman 19 = .ok (.iload 5, 2) := by decide +kernel
theorem dX11_postman_21 : decode cX11_postman 21 = .ok (.aload_n 0, 1) := by decide +kernel
theorem dX11_postman_22 : decode cX11_postman 22 = .ok (.getfield 26, 3) := by decide +kernel
theorem dX11_postman_25 : decode cX11_postman 25 = .ok (.getfield 247, 3) := by decide +kernel
theorem dX11_postman_28 : decode cX11_postman 28 = .ok (.if_icmp .ge 39, 3) := by decide +kernel
theorem dX11_postman_31 : decode cX11_postman 31 = .ok (.aload_n 0, 1) := by decide +kernel
theorem dX11_postman_32 : decode cX11_postman 32 = .ok (.getfield 69, 3) := by decide +kernel
theorem dX11_postman_35 : decode cX11_postman 35 = .ok (.iload 5, 2) := by decide +kernel
theorem dX11_postman_37 : decode cX11_postman 37 = .ok (.iload_n 1, 1) := by decide +kernel
theorem dX11_postman_38 : decode cX11_postman 38 = .ok (.iload_n 2, 1) := by decide +kernel
theorem dX11_postman_39 : decode cX11_postman 39 = .ok (.invokevirtual 344, 3) := by decide +kernel
theorem dX11_postman_42 : decode cX11_postman 42 = .ok (.invokestatic 350, 3) := by decide +kernel
theorem dX11_postman_45 : decode cX11_postman 45 = .ok (.istore 6, 2) := by decide +kernel
theorem dX11_postman_47 : decode cX11_postman 47 = .ok (.iload 6, 2) := by decide +kernel
theorem dX11_postman_49 : decode cX11_postman 49 = .ok (.iload 4, 2) := by decide +kernel
theorem dX11_postman_51 : decode cX11_postman 51 = .ok (.if_icmp .le 10, 3) := by decide +kernel
theorem dX11_postman_54 : decode cX11_postman 54 = .ok (.iload 5, 2) := by decide +kernel
theorem dX11_postman_56 : decode cX11_postman 56 = .ok (.istore_n 3, 1) := by decide +kernel
theorem dX11_postman_57 : decode cX11_postman 57 = .ok (.iload 6, 2) := by decide +kernel
theorem dX11_postman_59 : decode cX11_postman 59 = .ok (.istore 4, 2) := by decide +kernel
theorem dX11_postman_61 : decode cX11_postman 61 = .ok (.iinc 5 1, 3) := by decide +kernel
theorem dX11_postman_64 : decode cX11_postman 64 = .ok (.goto (-45), 3) := by decide +kernel
theorem dX11_postman_67 : decode cX11_postman 67 = .ok (.iload_n 3, 1) := by decide +kernel
theorem dX11_postman_68 : decode cX11_postman 68 = .ok (.bipush (-2), 2) := by decide +kernel
theorem dX11_postman_70 : decode cX11_postman 70 = .ok (.if_icmp .eq 19, 3) := by decide +kernel
theorem dX11_postman_73 : decode cX11_postman 73 = .ok (.aload_n 0, 1) := by decide +kernel
theorem dX11_postman_74 : decode cX11_postman 74 = .ok (.getfield 19, 3) := by decide +kernel
theorem dX11_postman_77 : decode cX11_postman 77 = .ok (.invokevirtual 176, 3) := by decide +kernel
theorem dX11_postman_80 : decode cX11_postman 80 = .ok (.aload_n 0, 1) := by decide +kernel
theorem dX11_postman_81 : decode cX11_postman 81 = .ok (.getfield 19, 3) := by decide +kernel
theorem dX11_postman_84 : decode cX11_postman 84 = .ok (.iload 4, 2) := by decide +kernel
theorem dX11_postman_86 : decode cX11_postman 86 = .ok (.invokevirtual 182, 3) := by decide +kernel
theorem dX11_postman_89 : decode cX11_postman 89 = .ok (.iload_n 3, 1) := by decide +kernel
theorem dX11_postman_90 : decode cX11_postman 90 = .ok (.ireturn, 1) := by decide +kernel
theorem dX11_heralds_0 : decode cX11_heralds 0 = .ok (.iload_n 1, 1) := by decide +kernel
theorem dX11_heralds_1 : decode cX11_heralds 1 = .ok (.iload_n 2, 1) := by decide +kernel
theorem dX11_heralds_2 : decode cX11_heralds 2 = .ok (.invokestatic 340, 3) := by decide +kernel
theorem dX11_heralds_5 : decode cX11_heralds 5 = .ok (.ifCond .ne 5, 3) := by decide +kernel
theorem dX11_heralds_8 : decode cX11_heralds 8 = .ok (.iconst (-1), 1) := by decide +kernel
theorem dX11_heralds_9 : decode cX11_heralds 9 = .ok (.ireturn, 1) := by decide +kernel
theorem dX11_heralds_10 : decode cX11_heralds 10 = .ok (.aload_n 0, 1) := by decide +kernel
theorem dX11_heralds_11 : decode cX11_heralds 11 = .ok (.getfield 69, 3) := by decide +kernel
theorem dX11_heralds_14 : decode cX11_heralds 14 = .ok (.iload_n 1, 1) := by decide +kernel
theorem dX11_heralds_15 : decode cX11_heralds 15 = .ok (.iload_n 2, 1) := by decide +kernel
theorem dX11_heralds_16 : decode cX11_heralds 16 = .ok (.invokevirtual 355, 3) := by decide +kernel
theorem dX11_heralds_19 : decode cX11_heralds 19 = .ok (.istore_n 3, 1) := by decide +kernel
theorem dX11_heralds_20 : decode cX11_heralds 20 = .ok (.aload_n 0, 1) := by decide +kernel
theorem dX11_heralds_21 : decode cX11_heralds 21 = .ok (.getfield 19, 3) := by decide +kernel
theorem dX11_heralds_24 : decode cX11_heralds 24 = .ok (.invokevirtual 176, 3) := by decide +kernel
theorem dX11_heralds_27 : decode cX11_heralds 27 = .ok (.aload_n 0, 1) := by decide +kernel
theorem dX11_heralds_28 : decode cX11_heralds 28 = .ok (.getfield 19, 3) := by decide +kernel
theorem dX11_heralds_31 : decode cX11_heralds 31 = .ok (.iload_n 3, 1) := by decide +kernel
theorem dX11_heralds_32 : decode cX11_heralds 32 = .ok (.invokevirtual 182, 3) := by decide +kernel
theorem dX11_heralds_35 : decode cX11_heralds 35 = .ok (.iload_n 3, 1) := by decide +kernel
theorem dX11_heralds_36 : decode cX11_heralds 36 = .ok (.invokestatic 350, 3) := by decide +kernel
theorem dX11_heralds_39 : decode cX11_heralds 39 = .ok (.ireturn, 1) := by decide +kernel
theorem dX11_keep_0 : decode cX11_keep 0 = .ok (.aload_n 0, 1) := by decide +kernel
theorem dX11_keep_1 : decode cX11_keep 1 = .ok (.getfield 60, 3) := by decide +kernel
theorem dX11_keep_4 : decode cX11_keep 4 = .ok (.iload_n 1, 1) := by decide +kernel
theorem dX11_keep_5 : decode cX11_keep 5 = .ok (.invokevirtual 358, 3) := by decide +kernel
theorem dX11_keep_8 : decode cX11_keep 8 = .ok (.ireturn, 1) := by decide +kernel
theorem dX11_again_0 : decode cX11_again 0 = .ok (.aload_n 0, 1) := by decide +kernel
theorem dX11_again_1 : decode cX11_again 1 = .ok (.getfield 60, 3) := by decide +kernel
theorem dX11_again_4 : decode cX11_again 4 = .ok (.iload_n 1, 1) := by decide +kernel
theorem dX11_again_5 : decode cX11_again 5 = .ok (.invokevirtual 361, 3) := by decide +kernel
theorem dX11_again_8 : decode cX11_again 8 = .ok (.ireturn, 1) := by decide +kernel
theorem dX11_count_0 : decode cX11_count 0 = .ok (.iload_n 1, 1) := by decide +kernel
theorem dX11_count_1 : decode cX11_count 1 = .ok (.tableswitch 102 0 6 #[43, 51, 59, 70, 78, 86, 94], 43) := by decide +kernel
theorem dX11_count_44 : decode cX11_count 44 = .ok (.aload_n 0, 1) := by decide +kernel
theorem dX11_count_45 : decode cX11_count 45 = .ok (.getfield 26, 3) := by decide +kernel
theorem dX11_count_48 : decode cX11_count 48 = .ok (.getfield 247, 3) := by decide +kernel
theorem dX11_count_51 : decode cX11_count 51 = .ok (.ireturn, 1) := by decide +kernel
theorem dX11_count_52 : decode cX11_count 52 = .ok (.aload_n 0, 1) := by decide +kernel
theorem dX11_count_53 : decode cX11_count 53 = .ok (.getfield 26, 3) := by decide +kernel
theorem dX11_count_56 : decode cX11_count 56 = .ok (.getfield 364, 3) := by decide +kernel
theorem dX11_count_59 : decode cX11_count 59 = .ok (.ireturn, 1) := by decide +kernel
theorem dX11_count_60 : decode cX11_count 60 = .ok (.aload_n 0, 1) := by decide +kernel
theorem dX11_count_61 : decode cX11_count 61 = .ok (.getfield 60, 3) := by decide +kernel
theorem dX11_count_64 : decode cX11_count 64 = .ok (.getfield 156, 3) := by decide +kernel
theorem dX11_count_67 : decode cX11_count 67 = .ok (.invokevirtual 367, 3) := by decide +kernel
theorem dX11_count_70 : decode cX11_count 70 = .ok (.ireturn, 1) := by decide +kernel
theorem dX11_count_71 : decode cX11_count 71 = .ok (.aload_n 0, 1) := by decide +kernel
theorem dX11_count_72 : decode cX11_count 72 = .ok (.getfield 73, 3) := by decide +kernel
theorem dX11_count_75 : decode cX11_count 75 = .ok (.getfield 270, 3) := by decide +kernel
theorem dX11_count_78 : decode cX11_count 78 = .ok (.ireturn, 1) := by decide +kernel
theorem dX11_count_79 : decode cX11_count 79 = .ok (.aload_n 0, 1) := by decide +kernel
theorem dX11_count_80 : decode cX11_count 80 = .ok (.getfield 76, 3) := by decide +kernel
theorem dX11_count_83 : decode cX11_count 83 = .ok (.getfield 270, 3) := by decide +kernel
theorem dX11_count_86 : decode cX11_count 86 = .ok (.ireturn, 1) := by decide +kernel
theorem dX11_count_87 : decode cX11_count 87 = .ok (.aload_n 0, 1) := by decide +kernel
theorem dX11_count_88 : decode cX11_count 88 = .ok (.getfield 19, 3) := by decide +kernel
theorem dX11_count_91 : decode cX11_count 91 = .ok (.getfield 270, 3) := by decide +kernel
theorem dX11_count_94 : decode cX11_count 94 = .ok (.ireturn, 1) := by decide +kernel
theorem dX11_count_95 : decode cX11_count 95 = .ok (.aload_n 0, 1) := by decide +kernel
theorem dX11_count_96 : decode cX11_count 96 = .ok (.getfield 12, 3) := by decide +kernel
theorem dX11_count_99 : decode cX11_count 99 = .ok (.getfield 99, 3) := by decide +kernel
theorem dX11_count_102 : decode cX11_count 102 = .ok (.ireturn, 1) := by decide +kernel
theorem dX11_count_103 : decode cX11_count 103 = .ok (.iconst (-1), 1) := by decide +kernel
theorem dX11_count_104 : decode cX11_count 104 = .ok (.ireturn, 1) := by decide +kernel
theorem dX11_row_0 : decode cX11_row 0 = .ok (.iload_n 1, 1) := by decide +kernel
theorem dX11_row_1 : decode cX11_row 1 = .ok (.ifCond .lt 14, 3) := by decide +kernel
theorem dX11_row_4 : decode cX11_row 4 = .ok (.iload_n 1, 1) := by decide +kernel
theorem dX11_row_5 : decode cX11_row 5 = .ok (.aload_n 0, 1) := by decide +kernel
theorem dX11_row_6 : decode cX11_row 6 = .ok (.getfield 19, 3) := by decide +kernel
theorem dX11_row_9 : decode cX11_row 9 = .ok (.getfield 270, 3) := by decide +kernel
theorem dX11_row_12 : decode cX11_row 12 = .ok (.if_icmp .lt 14, 3) := by decide +kernel
theorem dX11_row_15 : decode cX11_row 15 = .ok (.new 124, 3) := by decide +kernel
theorem dX11_row_18 : decode cX11_row 18 = .ok (.dup, 1) := by decide +kernel
theorem dX11_row_19 : decode cX11_row 19 = .ok (.ldc_w 370, 3) := by decide +kernel
theorem dX11_row_22 : decode cX11_row 22 = .ok (.invokespecial 128, 3) := by decide +kernel
theorem dX11_row_25 : decode cX11_row 25 = .ok (.athrow, 1) := by decide +kernel
theorem dX11_row_26 : decode cX11_row 26 = .ok (.aload_n 0, 1) := by decide +kernel
theorem dX11_row_27 : decode cX11_row 27 = .ok (.getfield 19, 3) := by decide +kernel
theorem dX11_row_30 : decode cX11_row 30 = .ok (.getfield 320, 3) := by decide +kernel
theorem dX11_row_33 : decode cX11_row 33 = .ok (.iload_n 1, 1) := by decide +kernel
theorem dX11_row_34 : decode cX11_row 34 = .ok (.iaload, 1) := by decide +kernel
theorem dX11_row_35 : decode cX11_row 35 = .ok (.ireturn, 1) := by decide +kernel
theorem dX11_isHour_0 : decode cX11_isHour 0 = .ok (.iload_n 0, 1) := by decide +kernel
theorem dX11_isHour_1 : decode cX11_isHour 1 = .ok (.ifCond .lt 13, 3) := by decide +kernel
theorem dX11_isHour_4 : decode cX11_isHour 4 = .ok (.iload_n 0, 1) := by decide +kernel
theorem dX11_isHour_5 : decode cX11_isHour 5 = .ok (.bipush 99, 2) := by decide +kernel
theorem dX11_isHour_7 : decode cX11_isHour 7 = .ok (.if_icmp .gt 7, 3) := by decide +kernel
theorem dX11_isHour_10 : decode cX11_isHour 10 = .ok (.iconst 1, 1) := by decide +kernel
theorem dX11_isHour_11 : decode cX11_isHour 11 = .ok (.goto 4, 3) := by decide +kernel
theorem dX11_isHour_14 : decode cX11_isHour 14 = .ok (.iconst 0, 1) := by decide +kernel
theorem dX11_isHour_15 : decode cX11_isHour 15 = .ok (.ireturn, 1) := by decide +kernel
theorem dX11_isSpan_0 : decode cX11_isSpan 0 = .ok (.iload_n 0, 1) := by decide +kernel
theorem dX11_isSpan_1 : decode cX11_isSpan 1 = .ok (.invokestatic 145, 3) := by decide +kernel
theorem dX11_isSpan_4 : decode cX11_isSpan 4 = .ok (.ifCond .eq 18, 3) := by decide +kernel
theorem dX11_isSpan_7 : decode cX11_isSpan 7 = .ok (.iload_n 1, 1) := by decide +kernel
theorem dX11_isSpan_8 : decode cX11_isSpan 8 = .ok (.iload_n 0, 1) := by decide +kernel
theorem dX11_isSpan_9 : decode cX11_isSpan 9 = .ok (.if_icmp .lt 13, 3) := by decide +kernel
theorem dX11_isSpan_12 : decode cX11_isSpan 12 = .ok (.iload_n 1, 1) := by decide +kernel
theorem dX11_isSpan_13 : decode cX11_isSpan 13 = .ok (.bipush 99, 2) := by decide +kernel
theorem dX11_isSpan_15 : decode cX11_isSpan 15 = .ok (.if_icmp .gt 7, 3) := by decide +kernel
theorem dX11_isSpan_18 : decode cX11_isSpan 18 = .ok (.iconst 1, 1) := by decide +kernel
theorem dX11_isSpan_19 : decode cX11_isSpan 19 = .ok (.goto 4, 3) := by decide +kernel
theorem dX11_isSpan_22 : decode cX11_isSpan 22 = .ok (.iconst 0, 1) := by decide +kernel
theorem dX11_isSpan_23 : decode cX11_isSpan 23 = .ok (.ireturn, 1) := by decide +kernel
theorem dX11_isTrip_0 : decode cX11_isTrip 0 = .ok (.aload_n 0, 1) := by decide +kernel
theorem dX11_isTrip_1 : decode cX11_isTrip 1 = .ok (.getfield 26, 3) := by decide +kernel
theorem dX11_isTrip_4 : decode cX11_isTrip 4 = .ok (.iload_n 1, 1) := by decide +kernel
theorem dX11_isTrip_5 : decode cX11_isTrip 5 = .ok (.invokevirtual 114, 3) := by decide +kernel
theorem dX11_isTrip_8 : decode cX11_isTrip 8 = .ok (.ifCond .eq 25, 3) := by decide +kernel
theorem dX11_isTrip_11 : decode cX11_isTrip 11 = .ok (.aload_n 0, 1) := by decide +kernel
theorem dX11_isTrip_12 : decode cX11_isTrip 12 = .ok (.getfield 26, 3) := by decide +kernel
theorem dX11_isTrip_15 : decode cX11_isTrip 15 = .ok (.iload_n 2, 1) := by decide +kernel
theorem dX11_isTrip_16 : decode cX11_isTrip 16 = .ok (.invokevirtual 114, 3) := by decide +kernel
theorem dX11_isTrip_19 : decode cX11_isTrip 19 = .ok (.ifCond .eq 14, 3) := by decide +kernel
theorem dX11_isTrip_22 : decode cX11_isTrip 22 = .ok (.iload_n 3, 1) := by decide +kernel
theorem dX11_isTrip_23 : decode cX11_isTrip 23 = .ok (.invokestatic 145, 3) := by decide +kernel
theorem dX11_isTrip_26 : decode cX11_isTrip 26 = .ok (.ifCond .eq 7, 3) := by decide +kernel
theorem dX11_isTrip_29 : decode cX11_isTrip 29 = .ok (.iconst 1, 1) := by decide +kernel
theorem dX11_isTrip_30 : decode cX11_isTrip 30 = .ok (.goto 4, 3) := by decide +kernel
theorem dX11_isTrip_33 : decode cX11_isTrip 33 = .ok (.iconst 0, 1) := by decide +kernel
theorem dX11_isTrip_34 : decode cX11_isTrip 34 = .ok (.ireturn, 1) := by decide +kernel
theorem dX11_soonestPast_0 : decode cX11_soonestPast 0 = .ok (.aload_n 0, 1) := by decide +kernel
theorem dX11_soonestPast_1 : decode cX11_soonestPast 1 = .ok (.getfield 69, 3) := by decide +kernel
theorem dX11_soonestPast_4 : decode cX11_soonestPast 4 = .ok (.iload_n 1, 1) := by decide +kernel
theorem dX11_soonestPast_5 : decode cX11_soonestPast 5 = .ok (.iload_n 3, 1) := by decide +kernel
theorem dX11_soonestPast_6 : decode cX11_soonestPast 6 = .ok (.iload 4, 2) := by decide +kernel
theorem dX11_soonestPast_8 : decode cX11_soonestPast 8 = .ok (.iconst (-1), 1) := by decide +kernel
theorem dX11_soonestPast_9 : decode cX11_soonestPast 9 = .ok (.invokevirtual 244, 3) := by decide +kernel
theorem dX11_soonestPast_12 : decode cX11_soonestPast 12 = .ok (.aload_n 0, 1) := by decide +kernel
theorem dX11_soonestPast_13 : decode cX11_soonestPast 13 = .ok (.getfield 69, 3) := by decide +kernel
theorem dX11_soonestPast_16 : decode cX11_soonestPast 16 = .ok (.getfield 250, 3) := by decide +kernel
theorem dX11_soonestPast_19 : decode cX11_soonestPast 19 = .ok (.iload_n 2, 1) := by decide +kernel
theorem dX11_soonestPast_20 : decode cX11_soonestPast 20 = .ok (.iaload, 1) := by decide +kernel
theorem dX11_soonestPast_21 : decode cX11_soonestPast 21 = .ok (.istore 5, 2) := by decide +kernel
theorem dX11_soonestPast_23 : decode cX11_soonestPast 23 = .ok (.iload 5, 2) := by decide +kernel
theorem dX11_soonestPast_25 : decode cX11_soonestPast 25 = .ok (.iconst (-1), 1) := by decide +kernel
theorem dX11_soonestPast_26 : decode cX11_soonestPast 26 = .ok (.if_icmp .ne 6, 3) := by decide +kernel
theorem dX11_soonestPast_29 : decode cX11_soonestPast 29 = .ok (.bipush (-2), 2) := by decide +kernel
theorem dX11_soonestPast_31 : decode cX11_soonestPast 31 = .ok (.ireturn, 1) := by decide +kernel
theorem dX11_soonestPast_32 : decode cX11_soonestPast 32 = .ok (.aload_n 0, 1) := by decide +kernel
theorem dX11_soonestPast_33 : decode cX11_soonestPast 33 = .ok (.getfield 69, 3) := by decide +kernel
theorem dX11_soonestPast_36 : decode cX11_soonestPast 36 = .ok (.iload_n 2, 1) := by decide +kernel
theorem dX11_soonestPast_37 : decode cX11_soonestPast 37 = .ok (.iload 5, 2) := by decide +kernel
theorem dX11_soonestPast_39 : decode cX11_soonestPast 39 = .ok (.iload 4, 2) := by decide +kernel
theorem dX11_soonestPast_41 : decode cX11_soonestPast 41 = .ok (.iconst 0, 1) := by decide +kernel
theorem dX11_soonestPast_42 : decode cX11_soonestPast 42 = .ok (.invokevirtual 212, 3) := by decide +kernel
theorem dX11_soonestPast_45 : decode cX11_soonestPast 45 = .ok (.aload_n 0, 1) := by decide +kernel
theorem dX11_soonestPast_46 : decode cX11_soonestPast 46 = .ok (.getfield 69, 3) := by decide +kernel
theorem dX11_soonestPast_49 : decode cX11_soonestPast 49 = .ok (.iload_n 1, 1) := by decide +kernel
theorem dX11_soonestPast_50 : decode cX11_soonestPast 50 = .ok (.iload_n 3, 1) := by decide +kernel
theorem dX11_soonestPast_51 : decode cX11_soonestPast 51 = .ok (.aload_n 0, 1) := by decide +kernel
theorem dX11_soonestPast_52 : decode cX11_soonestPast 52 = .ok (.getfield 19, 3) := by decide +kernel
theorem dX11_soonestPast_55 : decode cX11_soonestPast 55 = .ok (.invokevirtual 215, 3) := by decide +kernel
theorem dX11_soonestPast_58 : decode cX11_soonestPast 58 = .ok (.pop, 1) := by decide +kernel
theorem dX11_soonestPast_59 : decode cX11_soonestPast 59 = .ok (.iload 5, 2) := by decide +kernel
theorem dX11_soonestPast_61 : decode cX11_soonestPast 61 = .ok (.ireturn, 1) := by decide +kernel
theorem dX11_wayFault_0 : decode cX11_wayFault 0 = .ok (.iconst 0, 1) := by decide +kernel
theorem dX11_wayFault_1 : decode cX11_wayFault 1 = .ok (.istore_n 1, 1) := by decide +kernel
theorem dX11_wayFault_2 : decode cX11_wayFault 2 = .ok (.iload_n 1, 1) := by decide +kernel
theorem dX11_wayFault_3 : decode cX11_wayFault 3 = .ok (.aload_n 0, 1) := by decide +kernel
theorem dX11_wayFault_4 : decode cX11_wayFault 4 = .ok (.getfield 12, 3) := by decide +kernel
theorem dX11_wayFault_7 : decode cX11_wayFault 7 = .ok (.getfield 99, 3) := by decide +kernel
theorem dX11_wayFault_10 : decode cX11_wayFault 10 = .ok (.if_icmp .ge 38, 3) := by decide +kernel
theorem dX11_wayFault_13 : decode cX11_wayFault 13 = .ok (.iload_n 1, 1) := by decide +kernel
theorem dX11_wayFault_14 : decode cX11_wayFault 14 = .ok (.bipush 30, 2) := by decide +kernel
theorem dX11_wayFault_16 : decode cX11_wayFault 16 = .ok (.if_icmp .ge 24, 3) := by decide +kernel
theorem dX11_wayFault_19 : decode cX11_wayFault 19 = .ok (.aload_n 0, 1) := by decide +kernel
theorem dX11_wayFault_20 : decode cX11_wayFault 20 = .ok (.getfield 26, 3) := by decide +kernel
theorem dX11_wayFault_23 : decode cX11_wayFault 23 = .ok (.aload_n 0, 1) := by decide +kernel
theorem dX11_wayFault_24 : decode cX11_wayFault 24 = .ok (.getfield 12, 3) := by decide +kernel
theorem dX11_wayFault_27 : decode cX11_wayFault 27 = .ok (.iload_n 1, 1) := by decide +kernel
theorem dX11_wayFault_28 : decode cX11_wayFault 28 = .ok (.invokevirtual 267, 3) := by decide +kernel
theorem dX11_wayFault_31 : decode cX11_wayFault 31 = .ok (.bipush 97, 2) := by decide +kernel
theorem dX11_wayFault_33 : decode cX11_wayFault 33 = .ok (.isub, 1) := by decide +kernel
theorem dX11_wayFault_34 : decode cX11_wayFault 34 = .ok (.invokevirtual 114, 3) := by decide +kernel
theorem dX11_wayFault_37 : decode cX11_wayFault 37 = .ok (.ifCond .ne 5, 3) := by decide +kernel
theorem dX11_wayFault_40 : decode cX11_wayFault 40 = .ok (.iload_n 1, 1) := by decide +kernel
theorem dX11_wayFault_41 : decode cX11_wayFault 41 = .ok (.ireturn, 1) := by decide +kernel
theorem dX11_wayFault_42 : decode cX11_wayFault 42 = .ok (.iinc 1 1, 3) := by decide +kernel
theorem dX11_wayFault_45 : decode cX11_wayFault 45 = .ok (.goto (-43), 3) := by decide +kernel
theorem dX11_wayFault_48 : decode cX11_wayFault 48 = .ok (.iconst (-1), 1) := by decide +kernel
theorem dX11_wayFault_49 : decode cX11_wayFault 49 = .ok (.ireturn, 1) := by decide +kernel
theorem dX11_taleFault_0 : decode cX11_taleFault 0 = .ok (.iconst 0, 1) := by decide +kernel
theorem dX11_taleFault_1 : decode cX11_taleFault 1 = .ok (.istore_n 1, 1) := by decide +kernel
theorem dX11_taleFault_2 : decode cX11_taleFault 2 = .ok (.iload_n 1, 1) := by decide +kernel
theorem dX11_taleFault_3 : decode cX11_taleFault 3 = .ok (.aload_n 0, 1) := by decide +kernel
theorem dX11_taleFault_4 : decode cX11_taleFault 4 = .ok (.getfield 12, 3) := by decide +kernel
theorem dX11_taleFault_7 : decode cX11_taleFault 7 = .ok (.getfield 99, 3) := by decide +kernel
theorem dX11_taleFault_10 : decode cX11_taleFault 10 = .ok (.if_icmp .ge 31, 3) := by decide +kernel
theorem dX11_taleFault_13 : decode cX11_taleFault 13 = .ok (.iload_n 1, 1) := by decide +kernel
theorem dX11_taleFault_14 : decode cX11_taleFault 14 = .ok (.bipush 12, 2) := by decide +kernel
theorem dX11_taleFault_16 : decode cX11_taleFault 16 = .ok (.if_icmp .ge 17, 3) := by decide +kernel
theorem dX11_taleFault_19 : decode cX11_taleFault 19 = .ok (.aload_n 0, 1) := by decide +kernel
theorem dX11_taleFault_20 : decode cX11_taleFault 20 = .ok (.getfield 12, 3) := by decide +kernel
theorem dX11_taleFault_23 : decode cX11_taleFault 23 = .ok (.iload_n 1, 1) := by decide +kernel
theorem dX11_taleFault_24 : decode cX11_taleFault 24 = .ok (.invokevirtual 267, 3) := by decide +kernel
theorem dX11_taleFault_27 : decode cX11_taleFault 27 = .ok (.invokestatic 372, 3) := by decide +kernel
theorem dX11_taleFault_30 : decode cX11_taleFault 30 = .ok (.ifCond .ne 5, 3) := by decide +kernel
theorem dX11_taleFault_33 : decode cX11_taleFault 33 = .ok (.iload_n 1, 1) := by decide +kernel
theorem dX11_taleFault_34 : decode cX11_taleFault 34 = .ok (.ireturn, 1) := by decide +kernel
theorem dX11_taleFault_35 : decode cX11_taleFault 35 = .ok (.iinc 1 1, 3) := by decide +kernel
theorem dX11_taleFault_38 : decode cX11_taleFault 38 = .ok (.goto (-36), 3) := by decide +kernel
theorem dX11_taleFault_41 : decode cX11_taleFault 41 = .ok (.iconst (-1), 1) := by decide +kernel
theorem dX11_taleFault_42 : decode cX11_taleFault 42 = .ok (.ireturn, 1) := by decide +kernel
theorem dX11_tellHours_0 : decode cX11_tellHours 0 = .ok (.aload_n 0, 1) := by decide +kernel
theorem dX11_tellHours_1 : decode cX11_tellHours 1 = .ok (.getfield 19, 3) := by decide +kernel
theorem dX11_tellHours_4 : decode cX11_tellHours 4 = .ok (.invokevirtual 176, 3) := by decide +kernel
theorem dX11_tellHours_7 : decode cX11_tellHours 7 = .ok (.iload_n 1, 1) := by decide +kernel
theorem dX11_tellHours_8 : decode cX11_tellHours 8 = .ok (.iconst (-1), 1) := by decide +kernel
theorem dX11_tellHours_9 : decode cX11_tellHours 9 = .ok (.if_icmp .ne 5, 3) := by decide +kernel
theorem dX11_tellHours_12 : decode cX11_tellHours 12 = .ok (.iconst 0, 1) := by decide +kernel
theorem dX11_tellHours_13 : decode cX11_tellHours 13 = .ok (.ireturn, 1) := by decide +kernel
theorem dX11_tellHours_14 : decode cX11_tellHours 14 = .ok (.aload_n 0, 1) := by decide +kernel
theorem dX11_tellHours_15 : decode cX11_tellHours 15 = .ok (.getfield 19, 3) := by decide +kernel
theorem dX11_tellHours_18 : decode cX11_tellHours 18 = .ok (.iconst 0, 1) := by decide +kernel
theorem dX11_tellHours_19 : decode cX11_tellHours 19 = .ok (.invokevirtual 182, 3) := by decide +kernel
theorem dX11_tellHours_22 : decode cX11_tellHours 22 = .ok (.aload_n 0, 1) := by decide +kernel
theorem dX11_tellHours_23 : decode cX11_tellHours 23 = .ok (.getfield 19, 3) := by decide +kernel
theorem dX11_tellHours_26 : decode cX11_tellHours 26 = .ok (.iload_n 1, 1) := by decide +kernel
theorem dX11_tellHours_27 : decode cX11_tellHours 27 = .ok (.invokevirtual 182, 3) := by decide +kernel
theorem dX11_tellHours_30 : decode cX11_tellHours 30 = .ok (.iload_n 1, 1) := by decide +kernel
theorem dX11_tellHours_31 : decode cX11_tellHours 31 = .ok (.iconst 1, 1) := by decide +kernel
theorem dX11_tellHours_32 : decode cX11_tellHours 32 = .ok (.iadd, 1) := by decide +kernel
theorem dX11_tellHours_33 : decode cX11_tellHours 33 = .ok (.ireturn, 1) := by decide +kernel
theorem dX12_init_0 : decode cX12_init 0 = .ok (.aload_n 0, 1) := by decide +kernel
theorem dX12_init_1 : decode cX12_init 1 = .ok (.invokespecial 3, 3) := by decide +kernel
theorem dX12_init_4 : decode cX12_init 4 = .ok (.aload_n 0, 1) := by decide +kernel
theorem dX12_init_5 : decode cX12_init 5 = .ok (.bipush 9, 2) := by decide +kernel
theorem dX12_init_7 : decode cX12_init 7 = .ok (.newarray .int, 2) := by decide +kernel
theorem dX12_init_9 : decode cX12_init 9 = .ok (.putfield 9, 3) := by decide +kernel
theorem dX12_init_12 : decode cX12_init 12 = .ok (.aload_n 0, 1) := by decide +kernel
theorem dX12_init_13 : decode cX12_init 13 = .ok (.bipush 20, 2) := by decide +kernel
theorem dX12_init_15 : decode cX12_init 15 = .ok (.newarray .int, 2) := by decide +kernel
theorem dX12_init_17 : decode cX12_init 17 = .ok (.putfield 13, 3) := by decide +kernel
theorem dX12_init_20 : decode cX12_init 20 = .ok (.aload_n 0, 1) := by decide +kernel
theorem dX12_init_21 : decode cX12_init 21 = .ok (.bipush 20, 2) := by decide +kernel
theorem dX12_init_23 : decode cX12_init 23 = .ok (.newarray .int, 2) := by decide +kernel
theorem dX12_init_25 : decode cX12_init 25 = .ok (.putfield 16, 3) := by decide +kernel
theorem dX12_init_28 : decode cX12_init 28 = .ok (.aload_n 0, 1) := by decide +kernel
theorem dX12_init_29 : decode cX12_init 29 = .ok (.bipush 20, 2) := by decide +kernel
theorem dX12_init_31 : decode cX12_init 31 = .ok (.newarray .int, 2) := by decide +kernel
theorem dX12_init_33 : decode cX12_init 33 = .ok (.putfield 19, 3) := by decide +kernel
theorem dX12_init_36 : decode cX12_init 36 = .ok (.aload_n 0, 1) := by decide +kernel
theorem dX12_init_37 : decode cX12_init 37 = .ok (.bipush 20, 2) := by decide +kernel
theorem dX12_init_39 : decode cX12_init 39 = .ok (.newarray .int, 2) := by decide +kernel
theorem dX12_init_41 : decode cX12_init 41 = .ok (.putfield 22, 3) := by decide +kernel
theorem dX12_init_44 : decode cX12_init 44 = .ok (.aload_n 0, 1) := by decide +kernel
theorem dX12_init_45 : decode cX12_init 45 = .ok (.bipush 80, 2) := by decide +kernel
theorem dX12_init_47 : decode cX12_init 47 = .ok (.newarray .byte, 2) := by decide +kernel
theorem dX12_init_49 : decode cX12_init 49 = .ok (.putfield 25, 3) := by decide +kernel
theorem dX12_init_52 : decode cX12_init 52 = .ok (.aload_n 0, 1) := by decide +kernel
theorem dX12_init_53 : decode cX12_init 53 = .ok (.bipush 16, 2) := by decide +kernel
theorem dX12_init_55 : decode cX12_init 55 = .ok (.newarray .int, 2) := by decide +kernel
theorem dX12_init_57 : decode cX12_init 57 = .ok (.putfield 29, 3) := by decide +kernel
theorem dX12_init_60 : decode cX12_init 60 = .ok (.aload_n 0, 1) := by decide +kernel
theorem dX12_init_61 : decode cX12_init 61 = .ok (.bipush 40, 2) := by decide +kernel
theorem dX12_init_63 : decode cX12_init 63 = .ok (.newarray .byte, 2) := by decide +kernel
theorem dX12_init_65 : decode cX12_init 65 = .ok (.putfield 32, 3) := by decide +kernel
theorem dX12_init_68 : decode cX12_init 68 = .ok (.aload_n 0, 1) := by decide +kernel
theorem dX12_init_69 : decode cX12_init 69 = .ok (.sipush 273, 3) := by decide +kernel
theorem dX12_init_72 : decode cX12_init 72 = .ok (.newarray .int, 2) := by decide +kernel
theorem dX12_init_74 : decode cX12_init 74 = .ok (.putfield 35, 3) := by decide +kernel
theorem dX12_init_77 : decode cX12_init 77 = .ok (.aload_n 0, 1) := by decide +kernel
theorem dX12_init_78 : decode cX12_init 78 = .ok (.bipush 30, 2) := by decide +kernel
theorem dX12_init_80 : decode cX12_init 80 = .ok (.newarray .int, 2) := by decide +kernel
theorem dX12_init_82 : decode cX12_init 82 = .ok (.putfield 38, 3) := by decide +kernel
theorem dX12_init_85 : decode cX12_init 85 = .ok (.aload_n 0, 1) := by decide +kernel
theorem dX12_init_86 : decode cX12_init 86 = .ok (.bipush 40, 2) := by decide +kernel
theorem dX12_init_88 : decode cX12_init 88 = .ok (.newarray .int, 2) := by decide +kernel
theorem dX12_init_90 : decode cX12_init 90 = .ok (.putfield 41, 3) := by decide +kernel
theorem dX12_init_93 : decode cX12_init 93 = .ok (.aload_n 0, 1) := by decide +kernel
theorem dX12_init_94 : decode cX12_init 94 = .ok (.bipush 40, 2) := by decide +kernel
theorem dX12_init_96 : decode cX12_init 96 = .ok (.newarray .int, 2) := by decide +kernel
theorem dX12_init_98 : decode cX12_init 98 = .ok (.putfield 44, 3) := by decide +kernel
theorem dX12_init_101 : decode cX12_init 101 = .ok (.aload_n 0, 1) := by decide +kernel
theorem dX12_init_102 : decode cX12_init 102 = .ok (.bipush 40, 2) := by decide +kernel
theorem dX12_init_104 : decode cX12_init 104 = .ok (.newarray .int, 2) := by decide +kernel
theorem dX12_init_106 : decode cX12_init 106 = .ok (.putfield 47, 3) := by decide +kernel
theorem dX12_init_109 : decode cX12_init 109 = .ok (.aload_n 0, 1) := by decide +kernel
theorem dX12_init_110 : decode cX12_init 110 = .ok (.ldc 50, 2) := by decide +kernel
theorem dX12_init_112 : decode cX12_init 112 = .ok (.putfield 51, 3) := by decide +kernel
theorem dX12_init_115 : decode cX12_init 115 = .ok (.aload_n 0, 1) := by decide +kernel
theorem dX12_init_116 : decode cX12_init 116 = .ok (.iconst (-1), 1) := by decide +kernel
theorem dX12_init_117 : decode cX12_init 117 = .ok (.putfield 55, 3) := by decide +kernel
theorem dX12_init_120 : decode cX12_init 120 = .ok (.aload_n 0, 1) := by decide +kernel
theorem dX12_init_121 : decode cX12_init 121 = .ok (.bipush 40, 2) := by decide +kernel
theorem dX12_init_123 : decode cX12_init 123 = .ok (.newarray .long, 2) := by decide +kernel
theorem dX12_init_125 : decode cX12_init 125 = .ok (.putfield 58, 3) := by decide +kernel
theorem dX12_init_128 : decode cX12_init 128 = .ok (.aload_n 0, 1) := by decide +kernel
theorem dX12_init_129 : decode cX12_init 129 = .ok (.iconst (-1), 1) := by decide +kernel
theorem dX12_init_130 : decode cX12_init 130 = .ok (.putfield 62, 3) := by decide +kernel
theorem dX12_init_133 : decode cX12_init 133 = .ok (.aload_n 0, 1) := by decide +kernel
theorem dX12_init_134 : decode cX12_init 134 = .ok (.bipush 30, 2) := by decide +kernel
theorem dX12_init_136 : decode cX12_init 136 = .ok (.newarray .int, 2) := by decide +kernel
theorem dX12_init_138 : decode cX12_init 138 = .ok (.putfield 65, 3) := by decide +kernel
theorem dX12_init_141 : decode cX12_init 141 = .ok (.aload_n 0, 1) := by decide +kernel
theorem dX12_init_142 : decode cX12_init 142 = .ok (.bipush 24, 2) := by decide +kernel
theorem dX12_init_144 : decode cX12_init 144 = .ok (.newarray .int, 2) := by decide +kernel
theorem dX12_init_146 : decode cX12_init 146 = .ok (.putfield 68, 3) := by decide +kernel
theorem dX12_init_149 : decode cX12_init 149 = .ok (.aload_n 0, 1) := by decide +kernel
theorem dX12_init_150 : decode cX12_init 150 = .ok (.sipush 520, 3) := by decide +kernel
theorem dX12_init_153 : decode cX12_init 153 = .ok (.newarray .long, 2) := by decide +kernel
theorem dX12_init_155 : decode cX12_init 155 = .ok (.putfield 71, 3) := by decide +kernel
theorem dX12_init_158 : decode cX12_init 158 = .ok (.aload_n 0, 1) := by decide +kernel
theorem dX12_init_159 : decode cX12_init 159 = .ok (.sipush 520, 3) := by decide +kernel
theorem dX12_init_162 : decode cX12_init 162 = .ok (.newarray .long, 2) := by decide +kernel
theorem dX12_init_164 : decode cX12_init 164 = .ok (.putfield 74, 3) := by decide +kernel
theorem dX12_init_167 : decode cX12_init 167 = .ok (.aload_n 0, 1) := by decide +kernel
theorem dX12_init_168 : decode cX12_init 168 = .ok (.iconst (-1), 1) := by decide +kernel
theorem dX12_init_169 : decode cX12_init 169 = .ok (.putfield 77, 3) := by decide +kernel
theorem dX12_init_172 : decode cX12_init 172 = .ok (.aload_n 0, 1) := by decide +kernel
theorem dX12_init_173 : decode cX12_init 173 = .ok (.sipush 480, 3) := by decide +kernel
theorem dX12_init_176 : decode cX12_init 176 = .ok (.newarray .int, 2) := by decide +kernel
theorem dX12_init_178 : decode cX12_init 178 = .ok (.putfield 80, 3) := by decide +kernel
theorem dX12_init_181 : decode cX12_init 181 = .ok (.aload_n 0, 1) := by decide +kernel
theorem dX12_init_182 : decode cX12_init 182 = .ok (.bipush 9, 2) := by decide +kernel
theorem dX12_init_184 : decode cX12_init 184 = .ok (.newarray .int, 2) := by decide +kernel
theorem dX12_init_186 : decode cX12_init 186 = .ok (.putfield 83, 3) := by decide +kernel
theorem dX12_init_189 : decode cX12_init 189 = .ok (.aload_n 0, 1) := by decide +kernel
theorem dX12_init_190 : decode cX12_init 190 = .ok (.bipush 9, 2) := by decide +kernel
theorem dX12_init_192 : decode cX12_init 192 = .ok (.newarray .int, 2) := by decide +kernel
theorem dX12_init_194 : decode cX12_init 194 = .ok (.putfield 86, 3) := by decide +kernel
theorem dX12_init_197 : decode cX12_init 197 = .ok (.aload_n 0, 1) := by decide +kernel
theorem dX12_init_198 : decode cX12_init 198 = .ok (.sipush 546, 3) := by decide +kernel
theorem dX12_init_201 : decode cX12_init 201 = .ok (.newarray .int, 2) := by decide +kernel
theorem dX12_init_203 : decode cX12_init 203 = .ok (.putfield 89, 3) := by decide +kernel
theorem dX12_init_206 : decode cX12_init 206 = .ok (.aload_n 0, 1) := by decide +kernel
theorem dX12_init_207 : decode cX12_init 207 = .ok (.iconst 2, 1) := by decide +kernel
theorem dX12_init_208 : decode cX12_init 208 = .ok (.newarray .boolean, 2) := by decide +kernel
theorem dX12_init_210 : decode cX12_init 210 = .ok (.putfield 92, 3) := by decide +kernel
theorem dX12_init_213 : decode cX12_init 213 = .ok (.return_, 1) := by decide +kernel
theorem dX12_thrown_0 : decode cX12_thrown 0 = .ok (.aload_n 0, 1) := by decide +kernel
theorem dX12_thrown_1 : decode cX12_thrown 1 = .ok (.getfield 96, 3) := by decide +kernel
theorem dX12_thrown_4 : decode cX12_thrown 4 = .ok (.ireturn, 1) := by decide +kernel
theorem dX12_in_0 : decode cX12_in 0 = .ok (.iload_n 0, 1) := by decide +kernel
theorem dX12_in_1 : decode cX12_in 1 = .ok (.iload_n 1, 1) := by decide +kernel
theorem dX12_in_2 : decode cX12_in 2 = .ok (.if_icmp .lt 12, 3) := by decide +kernel
theorem dX12_in_5 : decode cX12_in 5 = .ok (.iload_n 0, 1) := by decide +kernel
theorem dX12_in_6 : decode cX12_in 6 = .ok (.iload_n 2, 1) := by decide +kernel
theorem dX12_in_7 : decode cX12_in 7 = .ok (.if_icmp .gt 7, 3) := by decide +kernel
theorem dX12_in_10 : decode cX12_in 10 = .ok (.iconst 1, 1) := by decide +kernel
theorem dX12_in_11 : decode cX12_in 11 = .ok (.goto 4, 3) := by decide +kernel
theorem dX12_in_14 : decode cX12_in 14 = .ok (.iconst 0, 1) := by decide +kernel
theorem dX12_in_15 : decode cX12_in 15 = .ok (.ireturn, 1) := by decide +kernel
theorem dX12_has_0 : decode cX12_has 0 = .ok (.iload_n 0, 1) := by decide +kernel
theorem dX12_has_1 : decode cX12_has 1 = .ok (.iload_n 1, 1) := by decide +kernel
theorem dX12_has_2 : decode cX12_has 2 = .ok (.ishr, 1) := by decide +kernel
theorem dX12_has_3 : decode cX12_has 3 = .ok (.iconst 1, 1) := by decide +kernel
theorem dX12_has_4 : decode cX12_has 4 = .ok (.iand, 1) := by decide +kernel
theorem dX12_has_5 : decode cX12_has 5 = .ok (.iconst 1, 1) := by decide +kernel
theorem dX12_has_6 : decode cX12_has 6 = .ok (.if_icmp .ne 7, 3) := by decide +kernel
theorem dX12_has_9 : decode cX12_has 9 = .ok (.iconst 1, 1) := by decide +kernel
theorem dX12_has_10 : decode cX12_has 10 = .ok (.goto 4, 3) := by decide +kernel
theorem dX12_has_13 : decode cX12_has 13 = .ok (.iconst 0, 1) := by decide +kernel
theorem dX12_has_14 : decode cX12_has 14 = .ok (.ireturn, 1) := by decide +kernel
theorem dX12_lost_0 : decode cX12_lost 0 = .ok (.aload_n 0, 1) := by decide +kernel
theorem dX12_lost_1 : decode cX12_lost 1 = .ok (.iconst 1, 1) := by decide +kernel
theorem dX12_lost_2 : decode cX12_lost 2 = .ok (.putfield 96, 3) := by decide +kernel
theorem dX12_lost_5 : decode cX12_lost 5 = .ok (.iconst 0, 1) := by decide +kernel
theorem dX12_lost_6 : decode cX12_lost 6 = .ok (.ireturn, 1) := by decide +kernel
theorem dX12_tell_0 : decode cX12_tell 0 = .ok (.aload_n 0, 1) := by decide +kernel
theorem dX12_tell_1 : decode cX12_tell 1 = .ok (.getfield 29, 3) := by decide +kernel
theorem dX12_tell_4 : decode cX12_tell 4 = .ok (.aload_n 0, 1) := by decide +kernel
theorem dX12_tell_5 : decode cX12_tell 5 = .ok (.getfield 99, 3) := by decide +kernel
theorem dX12_tell_8 : decode cX12_tell 8 = .ok (.iload_n 1, 1) := by decide +kernel
theorem dX12_tell_9 : decode cX12_tell 9 = .ok (.iastore, 1) := by decide +kernel
theorem dX12_tell_10 : decode cX12_tell 10 = .ok (.aload_n 0, 1) := by decide +kernel
theorem dX12_tell_11 : decode cX12_tell 11 = .ok (.dup, 1) := by decide +kernel
theorem dX12_tell_12 : decode cX12_tell 12 = .ok (.getfield 99, 3) := by decide +kernel
theorem dX12_tell_15 : decode cX12_tell 15 = .ok (.iconst 1, 1) := by decide +kernel
theorem dX12_tell_16 : decode cX12_tell 16 = .ok (.iadd, 1) := by decide +kernel
theorem dX12_tell_17 : decode cX12_tell 17 = .ok (.putfield 99, 3) := by decide +kernel
theorem dX12_tell_20 : decode cX12_tell 20 = .ok (.return_, 1) := by decide +kernel
theorem dX12_isOne_0 : decode cX12_isOne 0 = .ok (.iload_n 1, 1) := by decide +kernel
theorem dX12_isOne_1 : decode cX12_isOne 1 = .ok (.iconst 0, 1) := by decide +kernel
theorem dX12_isOne_2 : decode cX12_isOne 2 = .ok (.aload_n 0, 1) := by decide +kernel
theorem dX12_isOne_3 : decode cX12_isOne 3 = .ok (.getfield 102, 3) := by decide +kernel
theorem dX12_isOne_6 : decode cX12_isOne 6 = .ok (.iconst 1, 1) := by decide +kernel
theorem dX12_isOne_7 : decode cX12_isOne 7 = .ok (.isub, 1) := by decide +kernel
theorem dX12_isOne_8 : decode cX12_isOne 8 = .ok (.invokestatic 105, 3) := by decide +kernel
theorem dX12_isOne_11 : decode cX12_isOne 11 = .ok (.ireturn, 1) := by decide +kernel
theorem dX12_isMeeting_0 : decode cX12_isMeeting 0 = .ok (.iload_n 1, 1) := by decide +kernel
theorem dX12_isMeeting_1 : decode cX12_isMeeting 1 = .ok (.iconst 0, 1) := by decide +kernel
theorem dX12_isMeeting_2 : decode cX12_isMeeting 2 = .ok (.aload_n 0, 1) := by decide +kernel
theorem dX12_isMeeting_3 : decode cX12_isMeeting 3 = .ok (.getfield 109, 3) := by decide +kernel
theorem dX12_isMeeting_6 : decode cX12_isMeeting 6 = .ok (.iconst 1, 1) := by decide +kernel
theorem dX12_isMeeting_7 : decode cX12_isMeeting 7 = .ok (.isub, 1) := by decide +kernel
theorem dX12_isMeeting_8 : decode cX12_isMeeting 8 = .ok (.invokestatic 105, 3) := by decide +kernel
theorem dX12_isMeeting_11 : decode cX12_isMeeting 11 = .ok (.ireturn, 1) := by decide +kernel
theorem dX12_isHour_0 : decode cX12_isHour 0 = .ok (.iload_n 0, 1) := by decide +kernel
theorem dX12_isHour_1 : decode cX12_isHour 1 = .ok (.iconst 0, 1) := by decide +kernel
theorem dX12_isHour_2 : decode cX12_isHour 2 = .ok (.bipush 99, 2) := by decide +kernel
theorem dX12_isHour_4 : decode cX12_isHour 4 = .ok (.invokestatic 105, 3) := by decide +kernel
theorem dX12_isHour_7 : decode cX12_isHour 7 = .ok (.ireturn, 1) := by decide +kernel
theorem dX12_sign_0 : decode cX12_sign 0 = .ok (.aload_n 0, 1) := by decide +kernel
theorem dX12_sign_1 : decode cX12_sign 1 = .ok (.iconst 0, 1) := by decide +kernel
theorem dX12_sign_2 : decode cX12_sign 2 = .ok (.putfield 96, 3) := by decide +kernel
theorem dX12_sign_5 : decode cX12_sign 5 = .ok (.aload_n 0, 1) := by decide +kernel
theorem dX12_sign_6 : decode cX12_sign 6 = .ok (.getfield 112, 3) := by decide +kernel
theorem dX12_sign_9 : decode cX12_sign 9 = .ok (.iconst 4, 1) := by decide +kernel
theorem dX12_sign_10 : decode cX12_sign 10 = .ok (.iadd, 1) := by decide +kernel
theorem dX12_sign_11 : decode cX12_sign 11 = .ok (.bipush 80, 2) := by decide +kernel
theorem dX12_sign_13 : decode cX12_sign 13 = .ok (.if_icmp .le 5, 3) := by decide +kernel
theorem dX12_sign_16 : decode cX12_sign 16 = .ok (.iconst (-1), 1) := by decide +kernel
theorem dX12_sign_17 : decode cX12_sign 17 = .ok (.ireturn, 1) := by decide +kernel
theorem dX12_sign_18 : decode cX12_sign 18 = .ok (.iconst 3, 1) := by decide +kernel
theorem dX12_sign_19 : decode cX12_sign 19 = .ok (.istore_n 2, 1) := by decide +kernel
theorem dX12_sign_20 : decode cX12_sign 20 = .ok (.iload_n 2, 1) := by decide +kernel
theorem dX12_sign_21 : decode cX12_sign 21 = .ok (.ifCond .lt 32, 3) := by decide +kernel
theorem dX12_sign_24 : decode cX12_sign 24 = .ok (.aload_n 0, 1) := by decide +kernel
theorem dX12_sign_25 : decode cX12_sign 25 = .ok (.getfield 25, 3) := by decide +kernel
theorem dX12_sign_28 : decode cX12_sign 28 = .ok (.aload_n 0, 1) := by decide +kernel
theorem dX12_sign_29 : decode cX12_sign 29 = .ok (.dup, 1) := by decide +kernel
theorem dX12_sign_30 : decode cX12_sign 30 = .ok (.getfield 112, 3) := by decide +kernel
theorem dX12_sign_33 : decode cX12_sign 33 = .ok (.dup_x1, 1) := by decide +kernel
theorem dX12_sign_34 : decode cX12_sign 34 = .ok (.iconst 1, 1) := by decide +kernel
theorem dX12_sign_35 : decode cX12_sign 35 = .ok (.iadd, 1) := by decide +kernel
theorem dX12_sign_36 : decode cX12_sign 36 = .ok (.putfield 112, 3) := by decide +kernel
theorem dX12_sign_39 : decode cX12_sign 39 = .ok (.iload_n 1, 1) := by decide +kernel
theorem dX12_sign_40 : decode cX12_sign 40 = .ok (.bipush 8, 2) := by decide +kernel
theorem dX12_sign_42 : decode cX12_sign 42 = .ok (.iload_n 2, 1) := by decide +kernel
theorem dX12_sign_43 : decode cX12_sign 43 = .ok (.imul, 1) := by decide +kernel
theorem dX12_sign_44 : decode cX12_sign 44 = .ok (.ishr, 1) := by decide +kernel
theorem dX12_sign_45 : decode cX12_sign 45 = .ok (.i2b, 1) := by decide +kernel
theorem dX12_sign_46 : decode cX12_sign 46 = .ok (.bastore, 1) := by decide +kernel
theorem dX12_sign_47 : decode cX12_sign 47 = .ok (.iinc 2 (-1), 3) := by decide +kernel
theorem dX12_sign_50 : decode cX12_sign 50 = .ok (.goto (-30), 3) := by decide +kernel
theorem dX12_sign_53 : decode cX12_sign 53 = .ok (.aload_n 0, 1) := by decide +kernel
theorem dX12_sign_54 : decode cX12_sign 54 = .ok (.getfield 112, 3) := by decide +kernel
theorem dX12_sign_57 : decode cX12_sign 57 = .ok (.ireturn, 1) := by decide +kernel
theorem dX12_end_0 : decode cX12_end 0 = .ok (.aload_n 0, 1) := by decide +kernel
theorem dX12_end_1 : decode cX12_end 1 = .ok (.iconst 0, 1) := by decide +kernel
theorem dX12_end_2 : decode cX12_end 2 = .ok (.putfield 96, 3) := by decide +kernel
theorem dX12_end_5 : decode cX12_end 5 = .ok (.iload_n 1, 1) := by decide +kernel
theorem dX12_end_6 : decode cX12_end 6 = .ok (.iconst 0, 1) := by decide +kernel
theorem dX12_end_7 : decode cX12_end 7 = .ok (.aload_n 0, 1) := by decide +kernel
theorem dX12_end_8 : decode cX12_end 8 = .ok (.getfield 112, 3) := by decide +kernel
theorem dX12_end_11 : decode cX12_end 11 = .ok (.invokestatic 105, 3) := by decide +kernel
theorem dX12_end_14 : decode cX12_end 14 = .ok (.ifCond .ne 5, 3) := by decide +kernel
theorem dX12_end_17 : decode cX12_end 17 = .ok (.iconst 0, 1) := by decide +kernel
theorem dX12_end_18 : decode cX12_end 18 = .ok (.ireturn, 1) := by decide +kernel
theorem dX12_end_19 : decode cX12_end 19 = .ok (.aload_n 0, 1) := by decide +kernel
theorem dX12_end_20 : decode cX12_end 20 = .ok (.iload_n 1, 1) := by decide +kernel
theorem dX12_end_21 : decode cX12_end 21 = .ok (.putfield 112, 3) := by decide +kernel
theorem dX12_end_24 : decode cX12_end 24 = .ok (.iconst 1, 1) := by decide +kernel
theorem dX12_end_25 : decode cX12_end 25 = .ok (.ireturn, 1) := by decide +kernel
theorem dX12_begin_0 : decode cX12_begin 0 = .ok (.aload_n 0, 1) := by decide +kernel
theorem dX12_begin_1 : decode cX12_begin 1 = .ok (.aload_n 1, 1) := by decide +kernel
theorem dX12_begin_2 : decode cX12_begin 2 = .ok (.putfield 115, 3) := by decide +kernel
theorem dX12_begin_5 : decode cX12_begin 5 = .ok (.aload_n 0, 1) := by decide +kernel
theorem dX12_begin_6 : decode cX12_begin 6 = .ok (.iload_n 2, 1) := by decide +kernel
theorem dX12_begin_7 : decode cX12_begin 7 = .ok (.putfield 118, 3) := by decide +kernel
theorem dX12_begin_10 : decode cX12_begin 10 = .ok (.aload_n 0, 1) := by decide +kernel
theorem dX12_begin_11 : decode cX12_begin 11 = .ok (.iload_n 3, 1) := by decide +kernel
theorem dX12_begin_12 : decode cX12_begin 12 = .ok (.putfield 121, 3) := by decide +kernel
theorem dX12_begin_15 : decode cX12_begin 15 = .ok (.aload_n 0, 1) := by decide +kernel
theorem dX12_begin_16 : decode cX12_begin 16 = .ok (.iconst 0, 1) := by decide +kernel
theorem dX12_begin_17 : decode cX12_begin 17 = .ok (.putfield 124, 3) := by decide +kernel
theorem dX12_begin_20 : decode cX12_begin 20 = .ok (.aload_n 0, 1) := by decide +kernel
theorem dX12_begin_21 : decode cX12_begin 21 = .ok (.iconst (-1), 1) := by decide +kernel
theorem dX12_begin_22 : decode cX12_begin 22 = .ok (.putfield 127, 3) := by decide +kernel
theorem dX12_begin_25 : decode cX12_begin 25 = .ok (.return_, 1) := by decide +kernel
theorem dX12_here_0 : decode cX12_here 0 = .ok (.aload_n 0, 1) := by decide +kernel
theorem dX12_here_1 : decode cX12_here 1 = .ok (.getfield 124, 3) := by decide +kernel
theorem dX12_here_4 : decode cX12_here 4 = .ok (.aload_n 0, 1) := by decide +kernel
theorem dX12_here_5 : decode cX12_here 5 = .ok (.getfield 118, 3) := by decide +kernel
theorem dX12_here_8 : decode cX12_here 8 = .ok (.if_icmp .ge 26, 3) := by decide +kernel
theorem dX12_here_11 : decode cX12_here 11 = .ok (.aload_n 0, 1) := by decide +kernel
theorem dX12_here_12 : decode cX12_here 12 = .ok (.getfield 124, 3) := by decide +kernel
theorem dX12_here_15 : decode cX12_here 15 = .ok (.aload_n 0, 1) := by decide +kernel
theorem dX12_here_16 : decode cX12_here 16 = .ok (.getfield 121, 3) := by decide +kernel
theorem dX12_here_19 : decode cX12_here 19 = .ok (.if_icmp .ge 15, 3) := by decide +kernel
theorem dX12_here_22 : decode cX12_here 22 = .ok (.aload_n 0, 1) := by decide +kernel
theorem dX12_here_23 : decode cX12_here 23 = .ok (.getfield 115, 3) := by decide +kernel
theorem dX12_here_26 : decode cX12_here 26 = .ok (.aload_n 0, 1) := by decide +kernel
theorem dX12_here_27 : decode cX12_here 27 = .ok (.getfield 124, 3) := by decide +kernel
theorem dX12_here_30 : decode cX12_here 30 = .ok (.baload, 1) := by decide +kernel
theorem dX12_here_31 : decode cX12_here 31 = .ok (.goto 4, 3) := by decide +kernel
theorem dX12_here_34 : decode cX12_here 34 = .ok (.iconst (-1), 1) := by decide +kernel
theorem dX12_here_35 : decode cX12_here 35 = .ok (.ireturn, 1) := by decide +kernel
theorem dX12_fine_0 : decode cX12_fine 0 = .ok (.aload_n 0, 1) := by decide +kernel
theorem dX12_fine_1 : decode cX12_fine 1 = .ok (.getfield 127, 3) := by decide +kernel
theorem dX12_fine_4 : decode cX12_fine 4 = .ok (.iconst (-1), 1) := by decide +kernel
theorem dX12_fine_5 : decode cX12_fine 5 = .ok (.if_icmp .ne 7, 3) := by decide +kernel
theorem dX12_fine_8 : decode cX12_fine 8 = .ok (.iconst 1, 1) := by decide +kernel
theorem dX12_fine_9 : decode cX12_fine 9 = .ok (.goto 4, 3) := by decide +kernel
theorem dX12_fine_12 : decode cX12_fine 12 = .ok (.iconst 0, 1) := by decide +kernel
theorem dX12_fine_13 : decode cX12_fine 13 = .ok (.ireturn, 1) := by decide +kernel
theorem dX12_fault_0 : decode cX12_fault 0 = .ok (.aload_n 0, 1) := by decide +kernel
theorem dX12_fault_1 : decode cX12_fault 1 = .ok (.invokevirtual 130, 3) := by decide +kernel
theorem dX12_fault_4 : decode cX12_fault 4 = .ok (.ifCond .eq 8, 3) := by decide +kernel
theorem dX12_fault_7 : decode cX12_fault 7 = .ok (.aload_n 0, 1) := by decide +kernel
theorem dX12_fault_8 : decode cX12_fault 8 = .ok (.iload_n 1, 1) := by decide +kernel
theorem dX12_fault_9 : decode cX12_fault 9 = .ok (.putfield 127, 3) := by decide +kernel
theorem dX12_fault_12 : decode cX12_fault 12 = .ok (.return_, 1) := by decide +kernel
theorem dX12_passes_0 : decode cX12_passes 0 = .ok (.aload_n 0, 1) := by decide +kernel
theorem dX12_passes_1 : decode cX12_passes 1 = .ok (.invokevirtual 130, 3) := by decide +kernel
theorem dX12_passes_4 : decode cX12_passes 4 = .ok (.ifCond .eq 11, 3) := by decide +kernel
theorem dX12_passes_7 : decode cX12_passes 7 = .ok (.aload_n 0, 1) := by decide +kernel
theorem dX12_passes_8 : decode cX12_passes 8 = .ok (.invokevirtual 134, 3) := by decide +kernel
theorem dX12_passes_11 : decode cX12_passes 11 = .ok (.iload_n 1, 1) := by decide +kernel
theorem dX12_passes_12 : decode cX12_passes 12 = .ok (.if_icmp .eq 5, 3) := by decide +kernel
theorem dX12_passes_15 : decode cX12_passes 15 = .ok (.iconst 0, 1) := by decide +kernel
theorem dX12_passes_16 : decode cX12_passes 16 = .ok (.ireturn, 1) := by decide +kernel
theorem dX12_passes_17 : decode cX12_passes 17 = .ok (.aload_n 0, 1) := by decide +kernel
theorem dX12_passes_18 : decode cX12_passes 18 = .ok (.dup, 1) := by decide +kernel
theorem dX12_passes_19 : decode cX12_passes 19 = .ok (.getfield 124, 3) := by decide +kernel
theorem dX12_passes_22 : decode cX12_passes 22 = .ok (.iconst 1, 1) := by decide +kernel
theorem dX12_passes_23 : decode cX12_passes 23 = .ok (.iadd, 1) := by decide +kernel
theorem dX12_passes_24 : decode cX12_passes 24 = .ok (.putfield 124, 3) := by decide +kernel
theorem dX12_passes_27 : decode cX12_passes 27 = .ok (.iconst 1, 1) := by decide +kernel
theorem dX12_passes_28 : decode cX12_passes 28 = .ok (.ireturn, 1) := by decide +kernel
theorem dX12_number_0 : decode cX12_number 0 = .ok (.aload_n 0, 1) := by decide +kernel
theorem dX12_number_1 : decode cX12_number 1 = .ok (.invokevirtual 130, 3) := by decide +kernel
theorem dX12_number_4 : decode cX12_number 4 = .ok (.ifCond .ne 5, 3) := by decide +kernel
theorem dX12_number_7 : decode cX12_number 7 = .ok (.iconst 0, 1) := by decide +kernel
theorem dX12_number_8 : decode cX12_number 8 = .ok (.ireturn, 1) := by decide +kernel
theorem dX12_number_9 : decode cX12_number 9 = .ok (.aload_n 0, 1) := by decide +kernel
theorem dX12_number_10 : decode cX12_number 10 = .ok (.getfield 124, 3) := by decide +kernel
theorem dX12_number_13 : decode cX12_number 13 = .ok (.istore_n 2, 1) := by decide +kernel
theorem dX12_number_14 : decode cX12_number 14 = .ok (.iconst 0, 1) := by decide +kernel
theorem dX12_number_15 : decode cX12_number 15 = .ok (.istore_n 3, 1) := by decide +kernel
theorem dX12_number_16 : decode cX12_number 16 = .ok (.aload_n 0, 1) := by decide +kernel
theorem dX12_number_17 : decode cX12_number 17 = .ok (.getfield 124, 3) := by decide +kernel
theorem dX12_number_20 : decode cX12_number 20 = .ok (.iload_n 2, 1) := by decide +kernel
theorem dX12_number_21 : decode cX12_number 21 = .ok (.iload_n 1, 1) := by decide +kernel
theorem dX12_number_22 : decode cX12_number 22 = .ok (.iadd, 1) := by decide +kernel
theorem dX12_number_23 : decode cX12_number 23 = .ok (.if_icmp .ge 43, 3) := by decide +kernel
theorem dX12_number_26 : decode cX12_number 26 = .ok (.aload_n 0, 1) := by decide +kernel
theorem dX12_number_27 : decode cX12_number 27 = .ok (.invokevirtual 134, 3) := by decide +kernel
theorem dX12_number_30 : decode cX12_number 30 = .ok (.bipush 48, 2) := by decide +kernel
theorem dX12_number_32 : decode cX12_number 32 = .ok (.bipush 57, 2) := by decide +kernel
theorem dX12_number_34 : decode cX12_number 34 = .ok (.invokestatic 105, 3) := by decide +kernel
theorem dX12_number_37 : decode cX12_number 37 = .ok (.ifCond .eq 29, 3) := by decide +kernel
theorem dX12_number_40 : decode cX12_number 40 = .ok (.bipush 10, 2) := by decide +kernel
theorem dX12_number_42 : decode cX12_number 42 = .ok (.iload_n 3, 1) := by decide +kernel
theorem dX12_number_43 : decode cX12_number 43 = .ok (.imul, 1) := by decide +kernel
theorem dX12_number_44 : decode cX12_number 44 = .ok (.aload_n 0, 1) := by decide +kernel
theorem dX12_number_45 : decode cX12_number 45 = .ok (.invokevirtual 134, 3) := by decide +kernel
theorem dX12_number_48 : decode cX12_number 48 = .ok (.iadd, 1) := by decide +kernel
theorem dX12_number_49 : decode cX12_number 49 = .ok (.bipush 48, 2) := by decide +kernel
theorem dX12_number_51 : decode cX12_number 51 = .ok (.isub, 1) := by decide +kernel
theorem dX12_number_52 : decode cX12_number 52 = .ok (.istore_n 3, 1) := by decide +kernel
theorem dX12_number_53 : decode cX12_number 53 = .ok (.aload_n 0, 1) := by decide +kernel
theorem dX12_number_54 : decode cX12_number 54 = .ok (.dup, 1) := by decide +kernel
theorem dX12_number_55 : decode cX12_number 55 = .ok (.getfield 124, 3) := by decide +kernel
theorem dX12_number_58 : decode cX12_number 58 = .ok (.iconst 1, 1) := by decide +kernel
theorem dX12_number_59 : decode cX12_number 59 = .ok (.iadd, 1) := by decide +kernel
theorem dX12_number_60 : decode cX12_number 60 = .ok (.putfield 124, 3) := by decide +kernel
theorem dX12_number_63 : decode cX12_number 63 = .ok (.goto (-47), 3) := by decide +kernel
theorem dX12_number_66 : decode cX12_number 66 = .ok (.aload_n 0, 1) := by decide +kernel
theorem dX12_number_67 : decode cX12_number 67 = .ok (.getfield 124, 3) := by decide +kernel
theorem dX12_number_70 : decode cX12_number 70 = .ok (.iload_n 2, 1) := by decide +kernel
theorem dX12_number_71 : decode cX12_number 71 = .ok (.if_icmp .ne 11, 3) := by decide +kernel
theorem dX12_number_74 : decode cX12_number 74 = .ok (.aload_n 0, 1) := by decide +kernel
theorem dX12_number_75 : decode cX12_number 75 = .ok (.aload_n 0, 1) := by decide +kernel
theorem dX12_number_76 : decode cX12_number 76 = .ok (.getfield 124, 3) := by decide +kernel
theorem dX12_number_79 : decode cX12_number 79 = .ok (.invokevirtual 138, 3) := by decide +kernel
theorem dX12_number_82 : decode cX12_number 82 = .ok (.iload_n 3, 1) := by decide +kernel
theorem dX12_number_83 : decode cX12_number 83 = .ok (.ireturn, 1) := by decide +kernel
theorem dX12_letter_0 : decode cX12_letter 0 = .ok (.aload_n 0, 1) := by decide +kernel
theorem dX12_letter_1 : decode cX12_letter 1 = .ok (.invokevirtual 130, 3) := by decide +kernel
theorem dX12_letter_4 : decode cX12_letter 4 = .ok (.ifCond .ne 5, 3) := by decide +kernel
theorem dX12_letter_7 : decode cX12_letter 7 = .ok (.iconst 0, 1) := by decide +kernel
theorem dX12_letter_8 : decode cX12_letter 8 = .ok (.ireturn, 1) := by decide +kernel
theorem dX12_letter_9 : decode cX12_letter 9 = .ok (.aload_n 0, 1) := by decide +kernel
theorem dX12_letter_10 : decode cX12_letter 10 = .ok (.invokevirtual 134, 3) := by decide +kernel
theorem dX12_letter_13 : decode cX12_letter 13 = .ok (.bipush 97, 2) := by decide +kernel
theorem dX12_letter_15 : decode cX12_letter 15 = .ok (.bipush 97, 2) := by decide +kernel
theorem dX12_letter_17 : decode cX12_letter 17 = .ok (.iload_n 1, 1) := by decide +kernel
theorem dX12_letter_18 : decode cX12_letter 18 = .ok (.iadd, 1) := by decide +kernel
theorem dX12_letter_19 : decode cX12_letter 19 = .ok (.iconst 1, 1) := by decide +kernel
theorem dX12_letter_20 : decode cX12_letter 20 = .ok (.isub, 1) := by decide +kernel
theorem dX12_letter_21 : decode cX12_letter 21 = .ok (.invokestatic 105, 3) := by decide +kernel
theorem dX12_letter_24 : decode cX12_letter 24 = .ok (.ifCond .ne 13, 3) := by decide +kernel
theorem dX12_letter_27 : decode cX12_letter 27 = .ok (.aload_n 0, 1) := by decide +kernel
theorem dX12_letter_28 : decode cX12_letter 28 = .ok (.aload_n 0, 1) := by decide +kernel
theorem dX12_letter_29 : decode cX12_letter 29 = .ok (.getfield 124, 3) := by decide +kernel
theorem dX12_letter_32 : decode cX12_letter 32 = .ok (.invokevirtual 138, 3) := by decide +kernel
theorem dX12_letter_35 : decode cX12_letter 35 = .ok (.iconst 0, 1) := by decide +kernel
theorem dX12_letter_36 : decode cX12_letter 36 = .ok (.ireturn, 1) := by decide +kernel
theorem dX12_letter_37 : decode cX12_letter 37 = .ok (.aload_n 0, 1) := by decide +kernel
theorem dX12_letter_38 : decode cX12_letter 38 = .ok (.dup, 1) := by decide +kernel
theorem dX12_letter_39 : decode cX12_letter 39 = .ok (.getfield 124, 3) := by decide +kernel
theorem dX12_letter_42 : decode cX12_letter 42 = .ok (.iconst 1, 1) := by decide +kernel
theorem dX12_letter_43 : decode cX12_letter 43 = .ok (.iadd, 1) := by decide +kernel
theorem dX12_letter_44 : decode cX12_letter 44 = .ok (.putfield 124, 3) := by decide +kernel
theorem dX12_letter_47 : decode cX12_letter 47 = .ok (.aload_n 0, 1) := by decide +kernel
theorem dX12_letter_48 : decode cX12_letter 48 = .ok (.getfield 115, 3) := by decide +kernel
theorem dX12_letter_51 : decode cX12_letter 51 = .ok (.aload_n 0, 1) := by decide +kernel
theorem dX12_letter_52 : decode cX12_letter 52 = .ok (.getfield 124, 3) := by decide +kernel
theorem dX12_letter_55 : decode cX12_letter 55 = .ok (.iconst 1, 1) := by decide +kernel
theorem dX12_letter_56 : decode cX12_letter 56 = .ok (.isub, 1) := by decide +kernel
theorem dX12_letter_57 : decode cX12_letter 57 = .ok (.baload, 1) := by decide +kernel
theorem dX12_letter_58 : decode cX12_letter 58 = .ok (.bipush 97, 2) := by decide +kernel
theorem dX12_letter_60 : decode cX12_letter 60 = .ok (.isub, 1) := by decide +kernel
theorem dX12_letter_61 : decode cX12_letter 61 = .ok (.ireturn, 1) := by decide +kernel
theorem dX12_roads_0 : decode cX12_roads 0 = .ok (.aload_n 0, 1) := by decide +kernel
theorem dX12_roads_1 : decode cX12_roads 1 = .ok (.iconst 0, 1) := by decide +kernel
theorem dX12_roads_2 : decode cX12_roads 2 = .ok (.putfield 96, 3) := by decide +kernel
theorem dX12_roads_5 : decode cX12_roads 5 = .ok (.aload_n 0, 1) := by decide +kernel
theorem dX12_roads_6 : decode cX12_roads 6 = .ok (.aload_n 0, 1) := by decide +kernel
theorem dX12_roads_7 : decode cX12_roads 7 = .ok (.getfield 25, 3) := by decide +kernel
theorem dX12_roads_10 : decode cX12_roads 10 = .ok (.aload_n 0, 1) := by decide +kernel
theorem dX12_roads_11 : decode cX12_roads 11 = .ok (.getfield 112, 3) := by decide +kernel
theorem dX12_roads_14 : decode cX12_roads 14 = .ok (.bipush 76, 2) := by decide +kernel
theorem dX12_roads_16 : decode cX12_roads 16 = .ok (.invokevirtual 142, 3) := by decide +kernel
theorem dX12_roads_19 : decode cX12_roads 19 = .ok (.aload_n 0, 1) := by decide +kernel
theorem dX12_roads_20 : decode cX12_roads 20 = .ok (.iconst 0, 1) := by decide +kernel
theorem dX12_roads_21 : decode cX12_roads 21 = .ok (.putfield 112, 3) := by decide +kernel
theorem dX12_roads_24 : decode cX12_roads 24 = .ok (.aload_n 0, 1) := by decide +kernel
theorem dX12_roads_25 : decode cX12_roads 25 = .ok (.getfield 118, 3) := by decide +kernel
theorem dX12_roads_28 : decode cX12_roads 28 = .ok (.ifCond .ne 5, 3) := by decide +kernel
theorem dX12_roads_31 : decode cX12_roads 31 = .ok (.iconst 0, 1) := by decide +kernel
theorem dX12_roads_32 : decode cX12_roads 32 = .ok (.ireturn, 1) := by decide +kernel
theorem dX12_roads_33 : decode cX12_roads 33 = .ok (.aload_n 0, 1) := by decide +kernel
theorem dX12_roads_34 : decode cX12_roads 34 = .ok (.getfield 102, 3) := by decide +kernel
theorem dX12_roads_37 : decode cX12_roads 37 = .ok (.istore_n 1, 1) := by decide +kernel
theorem dX12_roads_38 : decode cX12_roads 38 = .ok (.aload_n 0, 1) := by decide +kernel
theorem dX12_roads_39 : decode cX12_roads 39 = .ok (.getfield 109, 3) := by decide +kernel
theorem dX12_roads_42 : decode cX12_roads 42 = .ok (.istore_n 2, 1) := by decide +kernel
theorem dX12_roads_43 : decode cX12_roads 43 = .ok (.iconst 0, 1) := by decide +kernel
theorem dX12_roads_44 : decode cX12_roads 44 = .ok (.istore_n 3, 1) := by decide +kernel
theorem dX12_roads_45 : decode cX12_roads 45 = .ok (.iconst 1, 1) := by decide +kernel
theorem dX12_roads_46 : decode cX12_roads 46 = .ok (.istore 4, 2) := by decide +kernel
theorem dX12_roads_48 : decode cX12_roads 48 = .ok (.iload 4, 2) := by decide +kernel
theorem dX12_roads_50 : decode cX12_roads 50 = .ok (.ifCond .eq 213, 3) := by decide +kernel
theorem dX12_roads_53 : decode cX12_roads 53 = .ok (.aload_n 0, 1) := by decide +kernel
theorem dX12_roads_54 : decode cX12_roads 54 = .ok (.invokevirtual 130, 3) := by decide +kernel
theorem dX12_roads_57 : decode cX12_roads 57 = .ok (.ifCond .eq 206, 3) := by decide +kernel
theorem dX12_roads_60 : decode cX12_roads 60 = .ok (.aload_n 0, 1) := by decide +kernel
theorem dX12_roads_61 : decode cX12_roads 61 = .ok (.invokevirtual 134, 3) := by decide +kernel
theorem dX12_roads_64 : decode cX12_roads 64 = .ok (.bipush 48, 2) := by decide +kernel
theorem dX12_roads_66 : decode cX12_roads 66 = .ok (.bipush 57, 2) := by decide +kernel
theorem dX12_roads_68 : decode cX12_roads 68 = .ok (.invokestatic 105, 3) := by decide +kernel
theorem dX12_roads_71 : decode cX12_roads 71 = .ok (.ifCond .eq 46, 3) := by decide +kernel
theorem dX12_roads_74 : decode cX12_roads 74 = .ok (.iload_n 1, 1) := by decide +kernel
theorem dX12_roads_75 : decode cX12_roads 75 = .ok (.bipush 9, 2) := by decide +kernel
theorem dX12_roads_77 : decode cX12_roads 77 = .ok (.if_icmp .eq 12, 3) := by decide +kernel
theorem dX12_roads_80 : decode cX12_roads 80 = .ok (.aload_n 0, 1) := by decide +kernel
theorem dX12_roads_81 : decode cX12_roads 81 = .ok (.invokevirtual 134, 3) := by decide +kernel
theorem dX12_roads_84 : decode cX12_roads 84 = .ok (.bipush 48, 2) := by decide +kernel
theorem dX12_roads_86 : decode cX12_roads 86 = .ok (.if_icmp .ne 14, 3) := by decide +kernel
theorem dX12_roads_89 : decode cX12_roads 89 = .ok (.aload_n 0, 1) := by decide +kernel
theorem dX12_roads_90 : decode cX12_roads 90 = .ok (.aload_n 0, 1) := by decide +kernel
theorem dX12_roads_91 : decode cX12_roads 91 = .ok (.getfield 124, 3) := by decide +kernel
theorem dX12_roads_94 : decode cX12_roads 94 = .ok (.invokevirtual 138, 3) := by decide +kernel
theorem dX12_roads_97 : decode cX12_roads 97 = .ok (.goto 14, 3) := by decide +kernel
theorem dX12_roads_100 : decode cX12_roads 100 = .ok (.aload_n 0, 1) := by decide +kernel
theorem dX12_roads_101 : decode cX12_roads 101 = .ok (.getfield 9, 3) := by decide +kernel
theorem dX12_roads_104 : decode cX12_roads 104 = .ok (.iload_n 1, 1) := by decide +kernel
theorem dX12_roads_105 : decode cX12_roads 105 = .ok (.aload_n 0, 1) := by decide +kernel
theorem dX12_roads_106 : decode cX12_roads 106 = .ok (.iconst 1, 1) := by decide +kernel
theorem dX12_roads_107 : decode cX12_roads 107 = .ok (.invokevirtual 146, 3) := by decide +kernel
theorem dX12_roads_110 : decode cX12_roads 110 = .ok (.iastore, 1) := by decide +kernel
theorem dX12_roads_111 : decode cX12_roads 111 = .ok (.iinc 1 1, 3) := by decide +kernel
theorem dX12_roads_114 : decode cX12_roads 114 = .ok (.goto 135, 3) := by decide +kernel
theorem dX12_roads_117 : decode cX12_roads 117 = .ok (.iload_n 2, 1) := by decide +kernel
theorem dX12_roads_118 : decode cX12_roads 118 = .ok (.bipush 20, 2) := by decide +kernel
theorem dX12_roads_120 : decode cX12_roads 120 = .ok (.if_icmp .eq 17, 3) := by decide +kernel
theorem dX12_roads_123 : decode cX12_roads 123 = .ok (.aload_n 0, 1) := by decide +kernel
theorem dX12_roads_124 : decode cX12_roads 124 = .ok (.invokevirtual 134, 3) := by decide +kernel
theorem dX12_roads_127 : decode cX12_roads 127 = .ok (.bipush 97, 2) := by decide +kernel
theorem dX12_roads_129 : decode cX12_roads 129 = .ok (.bipush 105, 2) := by decide +kernel
theorem dX12_roads_131 : decode cX12_roads 131 = .ok (.invokestatic 105, 3) := by decide +kernel
theorem dX12_roads_134 : decode cX12_roads 134 = .ok (.ifCond .ne 14, 3) := by decide +kernel
theorem dX12_roads_137 : decode cX12_roads 137 = .ok (.aload_n 0, 1) := by decide +kernel
theorem dX12_roads_138 : decode cX12_roads 138 = .ok (.aload_n 0, 1) := by decide +kernel
theorem dX12_roads_139 : decode cX12_roads 139 = .ok (.getfield 124, 3) := by decide +kernel
theorem dX12_roads_142 : decode cX12_roads 142 = .ok (.invokevirtual 138, 3) := by decide +kernel
theorem dX12_roads_145 : decode cX12_roads 145 = .ok (.goto 104, 3) := by decide +kernel
theorem dX12_roads_148 : decode cX12_roads 148 = .ok (.aload_n 0, 1) := by decide +kernel
theorem dX12_roads_149 : decode cX12_roads 149 = .ok (.getfield 13, 3) := by decide +kernel
theorem dX12_roads_152 : decode cX12_roads 152 = .ok (.iload_n 2, 1) := by decide +kernel
theorem dX12_roads_153 : decode cX12_roads 153 = .ok (.aload_n 0, 1) := by decide +kernel
theorem dX12_roads_154 : decode cX12_roads 154 = .ok (.iload_n 1, 1) := by decide +kernel
theorem dX12_roads_155 : decode cX12_roads 155 = .ok (.invokevirtual 150, 3) := by decide +kernel
theorem dX12_roads_158 : decode cX12_roads 158 = .ok (.iastore, 1) := by decide +kernel
theorem dX12_roads_159 : decode cX12_roads 159 = .ok (.aload_n 0, 1) := by decide +kernel
theorem dX12_roads_160 : decode cX12_roads 160 = .ok (.invokevirtual 134, 3) := by decide +kernel
theorem dX12_roads_163 : decode cX12_roads 163 = .ok (.bipush 97, 2) := by decide +kernel
theorem dX12_roads_165 : decode cX12_roads 165 = .ok (.aload_n 0, 1) := by decide +kernel
theorem dX12_roads_166 : decode cX12_roads 166 = .ok (.getfield 13, 3) := by decide +kernel
theorem dX12_roads_169 : decode cX12_roads 169 = .ok (.iload_n 2, 1) := by decide +kernel
theorem dX12_roads_170 : decode cX12_roads 170 = .ok (.iaload, 1) := by decide +kernel
theorem dX12_roads_171 : decode cX12_roads 171 = .ok (.iadd, 1) := by decide +kernel
theorem dX12_roads_172 : decode cX12_roads 172 = .ok (.if_icmp .ne 11, 3) := by decide +kernel
theorem dX12_roads_175 : decode cX12_roads 175 = .ok (.aload_n 0, 1) := by decide +kernel
theorem dX12_roads_176 : decode cX12_roads 176 = .ok (.aload_n 0, 1) := by decide +kernel
theorem dX12_roads_177 : decode cX12_roads 177 = .ok (.getfield 124, 3) := by decide +kernel
theorem dX12_roads_180 : decode cX12_roads 180 = .ok (.invokevirtual 138, 3) := by decide +kernel
theorem dX12_roads_183 : decode cX12_roads 183 = .ok (.aload_n 0, 1) := by decide +kernel
theorem dX12_roads_184 : decode cX12_roads 184 = .ok (.getfield 16, 3) := by decide +kernel
theorem dX12_roads_187 : decode cX12_roads 187 = .ok (.iload_n 2, 1) := by decide +kernel
theorem dX12_roads_188 : decode cX12_roads 188 = .ok (.aload_n 0, 1) := by decide +kernel
theorem dX12_roads_189 : decode cX12_roads 189 = .ok (.iload_n 1, 1) := by decide +kernel
theorem dX12_roads_190 : decode cX12_roads 190 = .ok (.invokevirtual 150, 3) := by decide +kernel
theorem dX12_roads_193 : decode cX12_roads 193 = .ok (.iastore, 1) := by decide +kernel
theorem dX12_roads_194 : decode cX12_roads 194 = .ok (.aload_n 0, 1) := by decide +kernel
theorem dX12_roads_195 : decode cX12_roads 195 = .ok (.bipush 64, 2) := by decide +kernel
theorem dX12_roads_197 : decode cX12_roads 197 = .ok (.invokevirtual 153, 3) := by decide +kernel
theorem dX12_roads_200 : decode cX12_roads 200 = .ok (.ifCond .ne 11, 3) := by decide +kernel
theorem dX12_roads_203 : decode cX12_roads 203 = .ok (.aload_n 0, 1) := by decide +kernel
theorem dX12_roads_204 : decode cX12_roads 204 = .ok (.aload_n 0, 1) := by decide +kernel
theorem dX12_roads_205 : decode cX12_roads 205 = .ok (.getfield 124, 3) := by decide +kernel
theorem dX12_roads_208 : decode cX12_roads 208 = .ok (.invokevirtual 138, 3) := by decide +kernel
theorem dX12_roads_211 : decode cX12_roads 211 = .ok (.aload_n 0, 1) := by decide +kernel
theorem dX12_roads_212 : decode cX12_roads 212 = .ok (.getfield 19, 3) := by decide +kernel
theorem dX12_roads_215 : decode cX12_roads 215 = .ok (.iload_n 2, 1) := by decide +kernel
theorem dX12_roads_216 : decode cX12_roads 216 = .ok (.aload_n 0, 1) := by decide +kernel
theorem dX12_roads_217 : decode cX12_roads 217 = .ok (.iconst 2, 1) := by decide +kernel
theorem dX12_roads_218 : decode cX12_roads 218 = .ok (.invokevirtual 146, 3) := by decide +kernel
theorem dX12_roads_221 : decode cX12_roads 221 = .ok (.iastore, 1) := by decide +kernel
theorem dX12_roads_222 : decode cX12_roads 222 = .ok (.aload_n 0, 1) := by decide +kernel
theorem dX12_roads_223 : decode cX12_roads 223 = .ok (.getfield 22, 3) := by decide +kernel
theorem dX12_roads_226 : decode cX12_roads 226 = .ok (.iload_n 2, 1) := by decide +kernel
theorem dX12_roads_227 : decode cX12_roads 227 = .ok (.aload_n 0, 1) := by decide +kernel
theorem dX12_roads_228 : decode cX12_roads 228 = .ok (.bipush 42, 2) := by decide +kernel
theorem dX12_roads_230 : decode cX12_roads 230 = .ok (.invokevirtual 153, 3) := by decide +kernel
theorem dX12_roads_233 : decode cX12_roads 233 = .ok (.ifCond .eq 11, 3) := by decide +kernel
theorem dX12_roads_236 : decode cX12_roads 236 = .ok (.aload_n 0, 1) := by decide +kernel
theorem dX12_roads_237 : decode cX12_roads 237 = .ok (.iconst 1, 1) := by decide +kernel
theorem dX12_roads_238 : decode cX12_roads 238 = .ok (.invokevirtual 146, 3) := by decide +kernel
theorem dX12_roads_241 : decode cX12_roads 241 = .ok (.goto 4, 3) := by decide +kernel
theorem dX12_roads_244 : decode cX12_roads 244 = .ok (.iconst 0, 1) := by decide +kernel
theorem dX12_roads_245 : decode cX12_roads 245 = .ok (.iastore, 1) := by decide +kernel
theorem dX12_roads_246 : decode cX12_roads 246 = .ok (.iinc 2 1, 3) := by decide +kernel
theorem dX12_roads_249 : decode cX12_roads 249 = .ok (.iinc 3 1, 3) := by decide +kernel
theorem dX12_roads_252 : decode cX12_roads 252 = .ok (.aload_n 0, 1) := by decide +kernel
theorem dX12_roads_253 : decode cX12_roads 253 = .ok (.bipush 59, 2) := by decide +kernel
theorem dX12_roads_255 : decode cX12_roads 255 = .ok (.invokevirtual 153, 3) := by decide +kernel
theorem dX12_roads_258 : decode cX12_roads 258 = .ok (.istore 4, 2) := by decide +kernel
theorem dX12_roads_260 : decode cX12_roads 260 = .ok (.goto (-212), 3) := by decide +kernel
theorem dX12_roads_263 : decode cX12_roads 263 = .ok (.aload_n 0, 1) := by decide +kernel
theorem dX12_roads_264 : decode cX12_roads 264 = .ok (.getfield 124, 3) := by decide +kernel
theorem dX12_roads_267 : decode cX12_roads 267 = .ok (.aload_n 0, 1) := by decide +kernel
theorem dX12_roads_268 : decode cX12_roads 268 = .ok (.getfield 118, 3) := by decide +kernel
theorem dX12_roads_271 : decode cX12_roads 271 = .ok (.if_icmp .ge 11, 3) := by decide +kernel
theorem dX12_roads_274 : decode cX12_roads 274 = .ok (.aload_n 0, 1) := by decide +kernel
theorem dX12_roads_275 : decode cX12_roads 275 = .ok (.aload_n 0, 1) := by decide +kernel
theorem dX12_roads_276 : decode cX12_roads 276 = .ok (.getfield 124, 3) := by decide +kernel
theorem dX12_roads_279 : decode cX12_roads 279 = .ok (.invokevirtual 138, 3) := by decide +kernel
theorem dX12_roads_282 : decode cX12_roads 282 = .ok (.aload_n 0, 1) := by decide +kernel
theorem dX12_roads_283 : decode cX12_roads 283 = .ok (.invokevirtual 130, 3) := by decide +kernel
theorem dX12_roads_286 : decode cX12_roads 286 = .ok (.ifCond .ne 10, 3) := by decide +kernel
theorem dX12_roads_289 : decode cX12_roads 289 = .ok (.iconst (-1), 1) := by decide +kernel
theorem dX12_roads_290 : decode cX12_roads 290 = .ok (.aload_n 0, 1) := by decide +kernel
theorem dX12_roads_291 : decode cX12_roads 291 = .ok (.getfield 127, 3) := by decide +kernel
theorem dX12_roads_294 : decode cX12_roads 294 = .ok (.isub, 1) := by decide +kernel
theorem dX12_roads_295 : decode cX12_roads 295 = .ok (.ireturn, 1) := by decide +kernel
theorem dX12_roads_296 : decode cX12_roads 296 = .ok (.aload_n 0, 1) := by decide +kernel
theorem dX12_roads_297 : decode cX12_roads 297 = .ok (.iload_n 1, 1) := by decide +kernel
theorem dX12_roads_298 : decode cX12_roads 298 = .ok (.putfield 102, 3) := by decide +kernel
theorem dX12_roads_301 : decode cX12_roads 301 = .ok (.aload_n 0, 1) := by decide +kernel
theorem dX12_roads_302 : decode cX12_roads 302 = .ok (.iload_n 2, 1) := by decide +kernel
theorem dX12_roads_303 : decode cX12_roads 303 = .ok (.putfield 109, 3) := by decide +kernel
theorem dX12_roads_306 : decode cX12_roads 306 = .ok (.iload_n 3, 1) := by decide +kernel
theorem dX12_roads_307 : decode cX12_roads 307 = .ok (.ireturn, 1) := by decide +kernel
theorem dX12_held_0 : decode cX12_held 0 = .ok (.aload_n 0, 1) := by decide +kernel
theorem dX12_held_1 : decode cX12_held 1 = .ok (.iload_n 1, 1) := by decide +kernel
theorem dX12_held_2 : decode cX12_held 2 = .ok (.invokevirtual 157, 3) := by decide +kernel
theorem dX12_held_5 : decode cX12_held 5 = .ok (.istore_n 2, 1) := by decide +kernel
theorem dX12_held_6 : decode cX12_held 6 = .ok (.aload_n 0, 1) := by decide +kernel
theorem dX12_held_7 : decode cX12_held 7 = .ok (.bipush 60, 2) := by decide +kernel
theorem dX12_held_9 : decode cX12_held 9 = .ok (.invokevirtual 153, 3) := by decide +kernel
theorem dX12_held_12 : decode cX12_held 12 = .ok (.ifCond .eq 18, 3) := by decide +kernel
theorem dX12_held_15 : decode cX12_held 15 = .ok (.iload_n 2, 1) := by decide +kernel
theorem dX12_held_16 : decode cX12_held 16 = .ok (.aload_n 0, 1) := by decide +kernel
theorem dX12_held_17 : decode cX12_held 17 = .ok (.iload_n 1, 1) := by decide +kernel
theorem dX12_held_18 : decode cX12_held 18 = .ok (.invokevirtual 157, 3) := by decide +kernel
theorem dX12_held_21 : decode cX12_held 21 = .ok (.if_icmp .ge 7, 3) := by decide +kernel
theorem dX12_held_24 : decode cX12_held 24 = .ok (.iconst 1, 1) := by decide +kernel
theorem dX12_held_25 : decode cX12_held 25 = .ok (.goto 4, 3) := by decide +kernel
theorem dX12_held_28 : decode cX12_held 28 = .ok (.iconst 0, 1) := by decide +kernel
theorem dX12_held_29 : decode cX12_held 29 = .ok (.ireturn, 1) := by decide +kernel
theorem dX12_held_30 : decode cX12_held 30 = .ok (.aload_n 0, 1) := by decide +kernel
theorem dX12_held_31 : decode cX12_held 31 = .ok (.bipush 62, 2) := by decide +kernel
theorem dX12_held_33 : decode cX12_held 33 = .ok (.invokevirtual 153, 3) := by decide +kernel
theorem dX12_held_36 : decode cX12_held 36 = .ok (.ifCond .eq 18, 3) := by decide +kernel
theorem dX12_held_39 : decode cX12_held 39 = .ok (.iload_n 2, 1) := by decide +kernel
theorem dX12_held_40 : decode cX12_held 40 = .ok (.aload_n 0, 1) := by decide +kernel
theorem dX12_held_41 : decode cX12_held 41 = .ok (.iload_n 1, 1) := by decide +kernel
theorem dX12_held_42 : decode cX12_held 42 = .ok (.invokevirtual 157, 3) := by decide +kernel
theorem dX12_held_45 : decode cX12_held 45 = .ok (.if_icmp .le 7, 3) := by decide +kernel
theorem dX12_held_48 : decode cX12_held 48 = .ok (.iconst 1, 1) := by decide +kernel
theorem dX12_held_49 : decode cX12_held 49 = .ok (.goto 4, 3) := by decide +kernel
theorem dX12_held_52 : decode cX12_held 52 = .ok (.iconst 0, 1) := by decide +kernel
theorem dX12_held_53 : decode cX12_held 53 = .ok (.ireturn, 1) := by decide +kernel
theorem dX12_held_54 : decode cX12_held 54 = .ok (.aload_n 0, 1) := by decide +kernel
theorem dX12_held_55 : decode cX12_held 55 = .ok (.bipush 61, 2) := by decide +kernel
theorem dX12_held_57 : decode cX12_held 57 = .ok (.invokevirtual 153, 3) := by decide +kernel
theorem dX12_held_60 : decode cX12_held 60 = .ok (.ifCond .eq 18, 3) := by decide +kernel
theorem dX12_held_63 : decode cX12_held 63 = .ok (.iload_n 2, 1) := by decide +kernel
theorem dX12_held_64 : decode cX12_held 64 = .ok (.aload_n 0, 1) := by decide +kernel
theorem dX12_held_65 : decode cX12_held 65 = .ok (.iload_n 1, 1) := by decide +kernel
theorem dX12_held_66 : decode cX12_held 66 = .ok (.invokevirtual 157, 3) := by decide +kernel
theorem dX12_held_69 : decode cX12_held 69 = .ok (.if_icmp .ne 7, 3) := by decide +kernel
theorem dX12_held_72 : decode cX12_held 72 = .ok (.iconst 1, 1) := by decide +kernel
theorem dX12_held_73 : decode cX12_held 73 = .ok (.goto 4, 3) := by decide +kernel
theorem dX12_held_76 : decode cX12_held 76 = .ok (.iconst 0, 1) := by decide +kernel
theorem dX12_held_77 : decode cX12_held 77 = .ok (.ireturn, 1) := by decide +kernel
theorem dX12_held_78 : decode cX12_held 78 = .ok (.iload_n 2, 1) := by decide +kernel
theorem dX12_held_79 : decode cX12_held 79 = .ok (.ireturn, 1) := by decide +kernel
theorem dX12_sum_0 : decode cX12_sum 0 = .ok (.aload_n 0, 1) := by decide +kernel
theorem dX12_sum_1 : decode cX12_sum 1 = .ok (.iload_n 1, 1) := by decide +kernel
theorem dX12_sum_2 : decode cX12_sum 2 = .ok (.invokevirtual 160, 3) := by decide +kernel
theorem dX12_sum_5 : decode cX12_sum 5 = .ok (.istore_n 2, 1) := by decide +kernel
theorem dX12_sum_6 : decode cX12_sum 6 = .ok (.aload_n 0, 1) := by decide +kernel
theorem dX12_sum_7 : decode cX12_sum 7 = .ok (.invokevirtual 130, 3) := by decide +kernel
theorem dX12_sum_10 : decode cX12_sum 10 = .ok (.ifCond .eq 72, 3) := by decide +kernel
theorem dX12_sum_13 : decode cX12_sum 13 = .ok (.aload_n 0, 1) := by decide +kernel
theorem dX12_sum_14 : decode cX12_sum 14 = .ok (.invokevirtual 134, 3) := by decide +kernel
theorem dX12_sum_17 : decode cX12_sum 17 = .ok (.bipush 43, 2) := by decide +kernel
theorem dX12_sum_19 : decode cX12_sum 19 = .ok (.if_icmp .eq 12, 3) := by decide +kernel
theorem dX12_sum_22 : decode cX12_sum 22 = .ok (.aload_n 0, 1) := by decide +kernel
theorem dX12_sum_23 : decode cX12_sum 23 = .ok (.invokevirtual 134, 3) := by decide +kernel
theorem dX12_sum_26 : decode cX12_sum 26 = .ok (.bipush 45, 2) := by decide +kernel
theorem dX12_sum_28 : decode cX12_sum 28 = .ok (.if_icmp .ne 54, 3) := by decide +kernel
theorem dX12_sum_31 : decode cX12_sum 31 = .ok (.aload_n 0, 1) := by decide +kernel
theorem dX12_sum_32 : decode cX12_sum 32 = .ok (.invokevirtual 134, 3) := by decide +kernel
theorem dX12_sum_35 : decode cX12_sum 35 = .ok (.bipush 43, 2) := by decide +kernel
theorem dX12_sum_37 : decode cX12_sum 37 = .ok (.if_icmp .ne 7, 3) := by decide +kernel
theorem dX12_sum_40 : decode cX12_sum 40 = .ok (.iconst 1, 1) := by decide +kernel
theorem dX12_sum_41 : decode cX12_sum 41 = .ok (.goto 4, 3) := by decide +kernel
theorem dX12_sum_44 : decode cX12_sum 44 = .ok (.iconst 0, 1) := by decide +kernel
theorem dX12_sum_45 : decode cX12_sum 45 = .ok (.istore_n 3, 1) := by decide +kernel
theorem dX12_sum_46 : decode cX12_sum 46 = .ok (.aload_n 0, 1) := by decide +kernel
theorem dX12_sum_47 : decode cX12_sum 47 = .ok (.dup, 1) := by decide +kernel
theorem dX12_sum_48 : decode cX12_sum 48 = .ok (.getfield 124, 3) := by decide +kernel
theorem dX12_sum_51 : decode cX12_sum 51 = .ok (.iconst 1, 1) := by decide +kernel
theorem dX12_sum_52 : decode cX12_sum 52 = .ok (.iadd, 1) := by decide +kernel
theorem dX12_sum_53 : decode cX12_sum 53 = .ok (.putfield 124, 3) := by decide +kernel
theorem dX12_sum_56 : decode cX12_sum 56 = .ok (.aload_n 0, 1) := by decide +kernel
theorem dX12_sum_57 : decode cX12_sum 57 = .ok (.iload_n 1, 1) := by decide +kernel
theorem dX12_sum_58 : decode cX12_sum 58 = .ok (.invokevirtual 160, 3) := by decide +kernel
theorem dX12_sum_61 : decode cX12_sum 61 = .ok (.istore 4, 2) := by decide +kernel
theorem dX12_sum_63 : decode cX12_sum 63 = .ok (.iload_n 3, 1) := by decide +kernel
theorem dX12_sum_64 : decode cX12_sum 64 = .ok (.ifCond .eq 10, 3) := by decide +kernel
theorem dX12_sum_67 : decode cX12_sum 67 = .ok (.iload_n 2, 1) := by decide +kernel
theorem dX12_sum_68 : decode cX12_sum 68 = .ok (.iload 4, 2) := by decide +kernel
theorem dX12_sum_70 : decode cX12_sum 70 = .ok (.iadd, 1) := by decide +kernel
theorem dX12_sum_71 : decode cX12_sum 71 = .ok (.goto 7, 3) := by decide +kernel
theorem dX12_sum_74 : decode cX12_sum 74 = .ok (.iload_n 2, 1) := by decide +kernel
theorem dX12_sum_75 : decode cX12_sum 75 = .ok (.iload 4, 2) := by decide +kernel
theorem dX12_sum_77 : decode cX12_sum 77 = .ok (.isub, 1) := by decide +kernel
theorem dX12_sum_78 : decode cX12_sum 78 = .ok (.istore_n 2, 1) := by decide +kernel
theorem dX12_sum_79 : decode cX12_sum 79 = .ok (.goto (-73), 3) := by decide +kernel
theorem dX12_sum_82 : decode cX12_sum 82 = .ok (.iload_n 2, 1) := by decide +kernel
theorem dX12_sum_83 : decode cX12_sum 83 = .ok (.ireturn, 1) := by decide +kernel
theorem dX12_product_0 : decode cX12_product 0 = .ok (.aload_n 0, 1) := by decide +kernel
theorem dX12_product_1 : decode cX12_product 1 = .ok (.iload_n 1, 1) := by decide +kernel
theorem dX12_product_2 : decode cX12_product 2 = .ok (.invokevirtual 163, 3) := by decide +kernel
theorem dX12_product_5 : decode cX12_product 5 = .ok (.istore_n 2, 1) := by decide +kernel
theorem dX12_product_6 : decode cX12_product 6 = .ok (.aload_n 0, 1) := by decide +kernel
theorem dX12_product_7 : decode cX12_product 7 = .ok (.invokevirtual 130, 3) := by decide +kernel
theorem dX12_product_10 : decode cX12_product 10 = .ok (.ifCond .eq 81, 3) := by decide +kernel
theorem dX12_product_13 : decode cX12_product 13 = .ok (.aload_n 0, 1) := by decide +kernel
theorem dX12_product_14 : decode cX12_product 14 = .ok (.invokevirtual 134, 3) := by decide +kernel
theorem dX12_product_17 : decode cX12_product 17 = .ok (.bipush 42, 2) := by decide +kernel
theorem dX12_product_19 : decode cX12_product 19 = .ok (.if_icmp .eq 12, 3) := by decide +kernel
theorem dX12_product_22 : decode cX12_product 22 = .ok (.aload_n 0, 1) := by decide +kernel
theorem dX12_product_23 : decode cX12_product 23 = .ok (.invokevirtual 134, 3) := by decide +kernel
theorem dX12_product_26 : decode cX12_product 26 = .ok (.bipush 47, 2) := by decide +kernel
theorem dX12_product_28 : decode cX12_product 28 = .ok (.if_icmp .ne 63, 3) := by decide +kernel
theorem dX12_product_31 : decode cX12_product 31 = .ok (.aload_n 0, 1) := by decide +kernel
theorem dX12_product_32 : decode cX12_product 32 = .ok (.invokevirtual 134, 3) := by decide +kernel
theorem dX12_product_35 : decode cX12_product 35 = .ok (.bipush 42, 2) := by decide +kernel
theorem dX12_product_37 : decode cX12_product 37 = .ok (.if_icmp .ne 7, 3) := by decide +kernel
theorem dX12_product_40 : decode cX12_product 40 = .ok (.iconst 1, 1) := by decide +kernel
theorem dX12_product_41 : decode cX12_product 41 = .ok (.goto 4, 3) := by decide +kernel
theorem dX12_product_44 : decode cX12_product 44 = .ok (.iconst 0, 1) := by decide +kernel
theorem dX12_product_45 : decode cX12_product 45 = .ok (.istore_n 3, 1) := by decide +kernel
theorem dX12_product_46 : decode cX12_product 46 = .ok (.aload_n 0, 1) := by decide +kernel
theorem dX12_product_47 : decode cX12_product 47 = .ok (.dup, 1) := by decide +kernel
theorem dX12_product_48 : decode cX12_product 48 = .ok (.getfield 124, 3) := by decide +kernel
theorem dX12_product_51 : decode cX12_product 51 = .ok (.iconst 1, 1) := by decide +kernel
theorem dX12_product_52 : decode cX12_product 52 = .ok (.iadd, 1) := by decide +kernel
theorem dX12_product_53 : decode cX12_product 53 = .ok (.putfield 124, 3) := by decide +kernel
theorem dX12_product_56 : decode cX12_product 56 = .ok (.aload_n 0, 1) := by decide +kernel
theorem dX12_product_57 : decode cX12_product 57 = .ok (.iload_n 1, 1) := by decide +kernel
theorem dX12_product_58 : decode cX12_product 58 = .ok (.invokevirtual 163, 3) := by decide +kernel
theorem dX12_product_61 : decode cX12_product 61 = .ok (.istore 4, 2) := by decide +kernel
theorem dX12_product_63 : decode cX12_product 63 = .ok (.iload_n 3, 1) := by decide +kernel
theorem dX12_product_64 : decode cX12_product 64 = .ok (.ifCond .eq 10, 3) := by decide +kernel
theorem dX12_product_67 : decode cX12_product 67 = .ok (.iload_n 2, 1) := by decide +kernel
theorem dX12_product_68 : decode cX12_product 68 = .ok (.iload 4, 2) := by decide +kernel
theorem dX12_product_70 : decode cX12_product 70 = .ok (.imul, 1) := by decide +kernel
theorem dX12_product_71 : decode cX12_product 71 = .ok (.goto 16, 3) := by decide +kernel
theorem dX12_product_74 : decode cX12_product 74 = .ok (.iload 4, 2) := by decide +kernel
theorem dX12_product_76 : decode cX12_product 76 = .ok (.ifCond .ne 7, 3) := by decide +kernel
theorem dX12_product_79 : decode cX12_product 79 = .ok (.iconst 0, 1) := by decide +kernel
theorem dX12_product_80 : decode cX12_product 80 = .ok (.goto 7, 3) := by decide +kernel
theorem dX12_product_83 : decode cX12_product 83 = .ok (.iload_n 2, 1) := by decide +kernel
theorem dX12_product_84 : decode cX12_product 84 = .ok (.iload 4, 2) := by decide +kernel
theorem dX12_product_86 : decode cX12_product 86 = .ok (.idiv, 1) := by decide +kernel
theorem dX12_product_87 : decode cX12_product 87 = .ok (.istore_n 2, 1) := by decide +kernel
theorem dX12_product_88 : decode cX12_product 88 = .ok (.goto (-82), 3) := by decide +kernel
theorem dX12_product_91 : decode cX12_product 91 = .ok (.iload_n 2, 1) := by decide +kernel
theorem dX12_product_92 : decode cX12_product 92 = .ok (.ireturn, 1) := by decide +kernel
theorem dX12_thing_0 : decode cX12_thing 0 = .ok (.aload_n 0, 1) := by decide +kernel
theorem dX12_thing_1 : decode cX12_thing 1 = .ok (.bipush 45, 2) := by decide +kernel
theorem dX12_thing_3 : decode cX12_thing 3 = .ok (.invokevirtual 153, 3) := by decide +kernel
theorem dX12_thing_6 : decode cX12_thing 6 = .ok (.ifCond .eq 10, 3) := by decide +kernel
theorem dX12_thing_9 : decode cX12_thing 9 = .ok (.aload_n 0, 1) := by decide +kernel
theorem dX12_thing_10 : decode cX12_thing 10 = .ok (.iload_n 1, 1) := by decide +kernel
theorem dX12_thing_11 : decode cX12_thing 11 = .ok (.invokevirtual 163, 3) := by decide +kernel
theorem dX12_thing_14 : decode cX12_thing 14 = .ok (.ineg, 1) := by decide +kernel
theorem dX12_thing_15 : decode cX12_thing 15 = .ok (.ireturn, 1) := by decide +kernel
theorem dX12_thing_16 : decode cX12_thing 16 = .ok (.aload_n 0, 1) := by decide +kernel
theorem dX12_thing_17 : decode cX12_thing 17 = .ok (.invokevirtual 130, 3) := by decide +kernel
theorem dX12_thing_20 : decode cX12_thing 20 = .ok (.ifCond .ne 5, 3) := by decide +kernel
theorem dX12_thing_23 : decode cX12_thing 23 = .ok (.iconst 0, 1) := by decide +kernel
theorem dX12_thing_24 : decode cX12_thing 24 = .ok (.ireturn, 1) := by decide +kernel
theorem dX12_thing_25 : decode cX12_thing 25 = .ok (.aload_n 0, 1) := by decide +kernel
theorem dX12_thing_26 : decode cX12_thing 26 = .ok (.invokevirtual 134, 3) := by decide +kernel
theorem dX12_thing_29 : decode cX12_thing 29 = .ok (.istore_n 2, 1) := by decide +kernel
theorem dX12_thing_30 : decode cX12_thing 30 = .ok (.iload_n 2, 1) := by decide +kernel
theorem dX12_thing_31 : decode cX12_thing 31 = .ok (.bipush 40, 2) := by decide +kernel
theorem dX12_thing_33 : decode cX12_thing 33 = .ok (.if_icmp .ne 45, 3) := by decide +kernel
theorem dX12_thing_36 : decode cX12_thing 36 = .ok (.iload_n 1, 1) := by decide +kernel
theorem dX12_thing_37 : decode cX12_thing 37 = .ok (.iconst 4, 1) := by decide +kernel
theorem dX12_thing_38 : decode cX12_thing 38 = .ok (.if_icmp .ge 40, 3) := by decide +kernel
theorem dX12_thing_41 : decode cX12_thing 41 = .ok (.aload_n 0, 1) := by decide +kernel
theorem dX12_thing_42 : decode cX12_thing 42 = .ok (.dup, 1) := by decide +kernel
theorem dX12_thing_43 : decode cX12_thing 43 = .ok (.getfield 124, 3) := by decide +kernel
theorem dX12_thing_46 : decode cX12_thing 46 = .ok (.iconst 1, 1) := by decide +kernel
theorem dX12_thing_47 : decode cX12_thing 47 = .ok (.iadd, 1) := by decide +kernel
theorem dX12_thing_48 : decode cX12_thing 48 = .ok (.putfield 124, 3) := by decide +kernel
theorem dX12_thing_51 : decode cX12_thing 51 = .ok (.aload_n 0, 1) := by decide +kernel
theorem dX12_thing_52 : decode cX12_thing 52 = .ok (.iload_n 1, 1) := by decide +kernel
theorem dX12_thing_53 : decode cX12_thing 53 = .ok (.iconst 1, 1) := by decide +kernel
theorem dX12_thing_54 : decode cX12_thing 54 = .ok (.iadd, 1) := by decide +kernel
theorem dX12_thing_55 : decode cX12_thing 55 = .ok (.invokevirtual 166, 3) := by decide +kernel
theorem dX12_thing_58 : decode cX12_thing 58 = .ok (.istore_n 3, 1) := by decide +kernel
theorem dX12_thing_59 : decode cX12_thing 59 = .ok (.aload_n 0, 1) := by decide +kernel
theorem dX12_thing_60 : decode cX12_thing 60 = .ok (.bipush 41, 2) := by decide +kernel
theorem dX12_thing_62 : decode cX12_thing 62 = .ok (.invokevirtual 153, 3) := by decide +kernel
theorem dX12_thing_65 : decode cX12_thing 65 = .ok (.ifCond .ne 11, 3) := by decide +kernel
theorem dX12_thing_68 : decode cX12_thing 68 = .ok (.aload_n 0, 1) := by decide +kernel
theorem dX12_thing_69 : decode cX12_thing 69 = .ok (.aload_n 0, 1) := by decide +kernel
theorem dX12_thing_70 : decode cX12_thing 70 = .ok (.getfield 124, 3) := by decide +kernel
theorem dX12_thing_73 : decode cX12_thing 73 = .ok (.invokevirtual 138, 3) := by decide +kernel
theorem dX12_thing_76 : decode cX12_thing 76 = .ok (.iload_n 3, 1) := by decide +kernel
theorem dX12_thing_77 : decode cX12_thing 77 = .ok (.ireturn, 1) := by decide +kernel
theorem dX12_thing_78 : decode cX12_thing 78 = .ok (.iload_n 2, 1) := by decide +kernel
theorem dX12_thing_79 : decode cX12_thing 79 = .ok (.bipush 48, 2) := by decide +kernel
theorem dX12_thing_81 : decode cX12_thing 81 = .ok (.bipush 57, 2) := by decide +kernel
theorem dX12_thing_83 : decode cX12_thing 83 = .ok (.invokestatic 105, 3) := by decide +kernel
theorem dX12_thing_86 : decode cX12_thing 86 = .ok (.ifCond .eq 9, 3) := by decide +kernel
theorem dX12_thing_89 : decode cX12_thing 89 = .ok (.aload_n 0, 1) := by decide +kernel
theorem dX12_thing_90 : decode cX12_thing 90 = .ok (.iconst 3, 1) := by decide +kernel
theorem dX12_thing_91 : decode cX12_thing 91 = .ok (.invokevirtual 146, 3) := by decide +kernel
theorem dX12_thing_94 : decode cX12_thing 94 = .ok (.ireturn, 1) := by decide +kernel
theorem dX12_thing_95 : decode cX12_thing 95 = .ok (.iload_n 2, 1) := by decide +kernel
theorem dX12_thing_96 : decode cX12_thing 96 = .ok (.bipush 105, 2) := by decide +kernel
theorem dX12_thing_98 : decode cX12_thing 98 = .ok (.if_icmp .eq 49, 3) := by decide +kernel
theorem dX12_thing_101 : decode cX12_thing 101 = .ok (.iload_n 2, 1) := by decide +kernel
theorem dX12_thing_102 : decode cX12_thing 102 = .ok (.bipush 103, 2) := by decide +kernel
theorem dX12_thing_104 : decode cX12_thing 104 = .ok (.if_icmp .eq 43, 3) := by decide +kernel
theorem dX12_thing_107 : decode cX12_thing 107 = .ok (.iload_n 2, 1) := by decide +kernel
theorem dX12_thing_108 : decode cX12_thing 108 = .ok (.bipush 104, 2) := by decide +kernel
theorem dX12_thing_110 : decode cX12_thing 110 = .ok (.if_icmp .eq 37, 3) := by decide +kernel
theorem dX12_thing_113 : decode cX12_thing 113 = .ok (.iload_n 2, 1) := by decide +kernel
theorem dX12_thing_114 : decode cX12_thing 114 = .ok (.bipush 110, 2) := by decide +kernel
theorem dX12_thing_116 : decode cX12_thing 116 = .ok (.if_icmp .eq 31, 3) := by decide +kernel
theorem dX12_thing_119 : decode cX12_thing 119 = .ok (.iload_n 2, 1) := by decide +kernel
theorem dX12_thing_120 : decode cX12_thing 120 = .ok (.bipush 102, 2) := by decide +kernel
theorem dX12_thing_122 : decode cX12_thing 122 = .ok (.if_icmp .eq 25, 3) := by decide +kernel
theorem dX12_thing_125 : decode cX12_thing 125 = .ok (.iload_n 2, 1) := by decide +kernel
theorem dX12_thing_126 : decode cX12_thing 126 = .ok (.bipush 108, 2) := by decide +kernel
theorem dX12_thing_128 : decode cX12_thing 128 = .ok (.if_icmp .eq 19, 3) := by decide +kernel
theorem dX12_thing_131 : decode cX12_thing 131 = .ok (.iload_n 2, 1) := by decide +kernel
theorem dX12_thing_132 : decode cX12_thing 132 = .ok (.bipush 115, 2) := by decide +kernel
theorem dX12_thing_134 : decode cX12_thing 134 = .ok (.if_icmp .eq 13, 3) := by decide +kernel
theorem dX12_thing_137 : decode cX12_thing 137 = .ok (.aload_n 0, 1) := by decide +kernel
theorem dX12_thing_138 : decode cX12_thing 138 = .ok (.aload_n 0, 1) := by decide +kernel
theorem dX12_thing_139 : decode cX12_thing 139 = .ok (.getfield 124, 3) := by decide +kernel
theorem dX12_thing_142 : decode cX12_thing 142 = .ok (.invokevirtual 138, 3) := by decide +kernel
theorem dX12_thing_145 : decode cX12_thing 145 = .ok (.iconst 0, 1) := by decide +kernel
theorem dX12_thing_146 : decode cX12_thing 146 = .ok (.ireturn, 1) := by decide +kernel
theorem dX12_thing_147 : decode cX12_thing 147 = .ok (.aload_n 0, 1) := by decide +kernel
theorem dX12_thing_148 : decode cX12_thing 148 = .ok (.dup, 1) := by decide +kernel
theorem dX12_thing_149 : decode cX12_thing 149 = .ok (.getfield 124, 3) := by decide +kernel
theorem dX12_thing_152 : decode cX12_thing 152 = .ok (.iconst 1, 1) := by decide +kernel
theorem dX12_thing_153 : decode cX12_thing 153 = .ok (.iadd, 1) := by decide +kernel
theorem dX12_thing_154 : decode cX12_thing 154 = .ok (.putfield 124, 3) := by decide +kernel
theorem dX12_thing_157 : decode cX12_thing 157 = .ok (.aload_n 0, 1) := by decide +kernel
theorem dX12_thing_158 : decode cX12_thing 158 = .ok (.getfield 169, 3) := by decide +kernel
theorem dX12_thing_161 : decode cX12_thing 161 = .ok (.ifCond .ne 5, 3) := by decide +kernel
theorem dX12_thing_164 : decode cX12_thing 164 = .ok (.iconst 0, 1) := by decide +kernel
theorem dX12_thing_165 : decode cX12_thing 165 = .ok (.ireturn, 1) := by decide +kernel
theorem dX12_thing_166 : decode cX12_thing 166 = .ok (.iload_n 2, 1) := by decide +kernel
theorem dX12_thing_167 : decode cX12_thing 167 = .ok (.tableswitch 79 102 110 #[69, 54, 59, 49, 79, 79, 74, 79, 64], 49) := by decide +kernel
theorem dX12_thing_216 : decode cX12_thing 216 = .ok (.aload_n 0, 1) := by decide +kernel
theorem dX12_thing_217 : decode cX12_thing 217 = .ok (.getfield 173, 3) := by decide +kernel
theorem dX12_thing_220 : decode cX12_thing 220 = .ok (.ireturn, 1) := by decide +kernel
theorem dX12_thing_221 : decode cX12_thing 221 = .ok (.aload_n 0, 1) := by decide +kernel
theorem dX12_thing_222 : decode cX12_thing 222 = .ok (.getfield 176, 3) := by decide +kernel
theorem dX12_thing_225 : decode cX12_thing 225 = .ok (.ireturn, 1) := by decide +kernel
theorem dX12_thing_226 : decode cX12_thing 226 = .ok (.aload_n 0, 1) := by decide +kernel
theorem dX12_thing_227 : decode cX12_thing 227 = .ok (.getfield 179, 3) := by decide +kernel
theorem dX12_thing_230 : decode cX12_thing 230 = .ok (.ireturn, 1) := by decide +kernel
theorem dX12_thing_231 : decode cX12_thing 231 = .ok (.aload_n 0, 1) := by decide +kernel
theorem dX12_thing_232 : decode cX12_thing 232 = .ok (.getfield 182, 3) := by decide +kernel
theorem dX12_thing_235 : decode cX12_thing 235 = .ok (.ireturn, 1) := by decide +kernel
theorem dX12_thing_236 : decode cX12_thing 236 = .ok (.aload_n 0, 1) := by decide +kernel
theorem dX12_thing_237 : decode cX12_thing 237 = .ok (.getfield 185, 3) := by decide +kernel
theorem dX12_thing_240 : decode cX12_thing 240 = .ok (.ireturn, 1) := by decide +kernel
theorem dX12_thing_241 : decode cX12_thing 241 = .ok (.aload_n 0, 1) := by decide +kernel
theorem dX12_thing_242 : decode cX12_thing 242 = .ok (.getfield 188, 3) := by decide +kernel
theorem dX12_thing_245 : decode cX12_thing 245 = .ok (.ireturn, 1) := by decide +kernel
theorem dX12_thing_246 : decode cX12_thing 246 = .ok (.aload_n 0, 1) := by decide +kernel
theorem dX12_thing_247 : decode cX12_thing 247 = .ok (.getfield 191, 3) := by decide +kernel
theorem dX12_thing_250 : decode cX12_thing 250 = .ok (.ireturn, 1) := by decide +kernel
theorem dX12_rule_0 : decode cX12_rule 0 = .ok (.aload_n 0, 1) := by decide +kernel
theorem dX12_rule_1 : decode cX12_rule 1 = .ok (.iconst 0, 1) := by decide +kernel
theorem dX12_rule_2 : decode cX12_rule 2 = .ok (.putfield 96, 3) := by decide +kernel
theorem dX12_rule_5 : decode cX12_rule 5 = .ok (.aload_n 0, 1) := by decide +kernel
theorem dX12_rule_6 : decode cX12_rule 6 = .ok (.getfield 112, 3) := by decide +kernel
theorem dX12_rule_9 : decode cX12_rule 9 = .ok (.istore_n 1, 1) := by decide +kernel
theorem dX12_rule_10 : decode cX12_rule 10 = .ok (.aload_n 0, 1) := by decide +kernel
theorem dX12_rule_11 : decode cX12_rule 11 = .ok (.aload_n 0, 1) := by decide +kernel
theorem dX12_rule_12 : decode cX12_rule 12 = .ok (.getfield 25, 3) := by decide +kernel
theorem dX12_rule_15 : decode cX12_rule 15 = .ok (.iload_n 1, 1) := by decide +kernel
theorem dX12_rule_16 : decode cX12_rule 16 = .ok (.bipush 40, 2) := by decide +kernel
theorem dX12_rule_18 : decode cX12_rule 18 = .ok (.invokevirtual 142, 3) := by decide +kernel
theorem dX12_rule_21 : decode cX12_rule 21 = .ok (.aload_n 0, 1) := by decide +kernel
theorem dX12_rule_22 : decode cX12_rule 22 = .ok (.iconst 0, 1) := by decide +kernel
theorem dX12_rule_23 : decode cX12_rule 23 = .ok (.putfield 112, 3) := by decide +kernel
theorem dX12_rule_26 : decode cX12_rule 26 = .ok (.aload_n 0, 1) := by decide +kernel
theorem dX12_rule_27 : decode cX12_rule 27 = .ok (.iconst 0, 1) := by decide +kernel
theorem dX12_rule_28 : decode cX12_rule 28 = .ok (.putfield 169, 3) := by decide +kernel
theorem dX12_rule_31 : decode cX12_rule 31 = .ok (.iload_n 1, 1) := by decide +kernel
theorem dX12_rule_32 : decode cX12_rule 32 = .ok (.ifCond .le 39, 3) := by decide +kernel
theorem dX12_rule_35 : decode cX12_rule 35 = .ok (.aload_n 0, 1) := by decide +kernel
theorem dX12_rule_36 : decode cX12_rule 36 = .ok (.iconst 0, 1) := by decide +kernel
theorem dX12_rule_37 : decode cX12_rule 37 = .ok (.invokevirtual 166, 3) := by decide +kernel
theorem dX12_rule_40 : decode cX12_rule 40 = .ok (.pop, 1) := by decide +kernel
theorem dX12_rule_41 : decode cX12_rule 41 = .ok (.aload_n 0, 1) := by decide +kernel
theorem dX12_rule_42 : decode cX12_rule 42 = .ok (.getfield 124, 3) := by decide +kernel
theorem dX12_rule_45 : decode cX12_rule 45 = .ok (.iload_n 1, 1) := by decide +kernel
theorem dX12_rule_46 : decode cX12_rule 46 = .ok (.if_icmp .ge 11, 3) := by decide +kernel
theorem dX12_rule_49 : decode cX12_rule 49 = .ok (.aload_n 0, 1) := by decide +kernel
theorem dX12_rule_50 : decode cX12_rule 50 = .ok (.aload_n 0, 1) := by decide +kernel
theorem dX12_rule_51 : decode cX12_rule 51 = .ok (.getfield 124, 3) := by decide +kernel
theorem dX12_rule_54 : decode cX12_rule 54 = .ok (.invokevirtual 138, 3) := by decide +kernel
theorem dX12_rule_57 : decode cX12_rule 57 = .ok (.aload_n 0, 1) := by decide +kernel
theorem dX12_rule_58 : decode cX12_rule 58 = .ok (.invokevirtual 130, 3) := by decide +kernel
theorem dX12_rule_61 : decode cX12_rule 61 = .ok (.ifCond .ne 10, 3) := by decide +kernel
theorem dX12_rule_64 : decode cX12_rule 64 = .ok (.iconst (-1), 1) := by decide +kernel
theorem dX12_rule_65 : decode cX12_rule 65 = .ok (.aload_n 0, 1) := by decide +kernel
theorem dX12_rule_66 : decode cX12_rule 66 = .ok (.getfield 127, 3) := by decide +kernel
theorem dX12_rule_69 : decode cX12_rule 69 = .ok (.isub, 1) := by decide +kernel
theorem dX12_rule_70 : decode cX12_rule 70 = .ok (.ireturn, 1) := by decide +kernel
theorem dX12_rule_71 : decode cX12_rule 71 = .ok (.iconst 0, 1) := by decide +kernel
theorem dX12_rule_72 : decode cX12_rule 72 = .ok (.istore_n 2, 1) := by decide +kernel
theorem dX12_rule_73 : decode cX12_rule 73 = .ok (.iload_n 2, 1) := by decide +kernel
theorem dX12_rule_74 : decode cX12_rule 74 = .ok (.iload_n 1, 1) := by decide +kernel
theorem dX12_rule_75 : decode cX12_rule 75 = .ok (.if_icmp .ge 21, 3) := by decide +kernel
theorem dX12_rule_78 : decode cX12_rule 78 = .ok (.aload_n 0, 1) := by decide +kernel
theorem dX12_rule_79 : decode cX12_rule 79 = .ok (.getfield 32, 3) := by decide +kernel
theorem dX12_rule_82 : decode cX12_rule 82 = .ok (.iload_n 2, 1) := by decide +kernel
theorem dX12_rule_83 : decode cX12_rule 83 = .ok (.aload_n 0, 1) := by decide +kernel
theorem dX12_rule_84 : decode cX12_rule 84 = .ok (.getfield 25, 3) := by decide +kernel
theorem dX12_rule_87 : decode cX12_rule 87 = .ok (.iload_n 2, 1) := by decide +kernel
theorem dX12_rule_88 : decode cX12_rule 88 = .ok (.baload, 1) := by decide +kernel
theorem dX12_rule_89 : decode cX12_rule 89 = .ok (.bastore, 1) := by decide +kernel
theorem dX12_rule_90 : decode cX12_rule 90 = .ok (.iinc 2 1, 3) := by decide +kernel
theorem dX12_rule_93 : decode cX12_rule 93 = .ok (.goto (-20), 3) := by decide +kernel
theorem dX12_rule_96 : decode cX12_rule 96 = .ok (.aload_n 0, 1) := by decide +kernel
theorem dX12_rule_97 : decode cX12_rule 97 = .ok (.iload_n 1, 1) := by decide +kernel
theorem dX12_rule_98 : decode cX12_rule 98 = .ok (.putfield 194, 3) := by decide +kernel
theorem dX12_rule_101 : decode cX12_rule 101 = .ok (.iconst 0, 1) := by decide +kernel
theorem dX12_rule_102 : decode cX12_rule 102 = .ok (.ireturn, 1) := by decide +kernel
theorem dX12_lineBy_0 : decode cX12_lineBy 0 = .ok (.iload 6, 2) := by decide +kernel
theorem dX12_lineBy_2 : decode cX12_lineBy 2 = .ok (.istore 7, 2) := by decide +kernel
theorem dX12_lineBy_4 : decode cX12_lineBy 4 = .ok (.aload_n 0, 1) := by decide +kernel
theorem dX12_lineBy_5 : decode cX12_lineBy 5 = .ok (.getfield 194, 3) := by decide +kernel
theorem dX12_lineBy_8 : decode cX12_lineBy 8 = .ok (.ifCond .le 111, 3) := by decide +kernel
theorem dX12_lineBy_11 : decode cX12_lineBy 11 = .ok (.aload_n 0, 1) := by decide +kernel
theorem dX12_lineBy_12 : decode cX12_lineBy 12 = .ok (.iload_n 1, 1) := by decide +kernel
theorem dX12_lineBy_13 : decode cX12_lineBy 13 = .ok (.putfield 173, 3) := by decide +kernel
theorem dX12_lineBy_16 : decode cX12_lineBy 16 = .ok (.aload_n 0, 1) := by decide +kernel
theorem dX12_lineBy_17 : decode cX12_lineBy 17 = .ok (.iload_n 2, 1) := by decide +kernel
theorem dX12_lineBy_18 : decode cX12_lineBy 18 = .ok (.putfield 176, 3) := by decide +kernel
theorem dX12_lineBy_21 : decode cX12_lineBy 21 = .ok (.aload_n 0, 1) := by decide +kernel
theorem dX12_lineBy_22 : decode cX12_lineBy 22 = .ok (.iload_n 3, 1) := by decide +kernel
theorem dX12_lineBy_23 : decode cX12_lineBy 23 = .ok (.putfield 179, 3) := by decide +kernel
theorem dX12_lineBy_26 : decode cX12_lineBy 26 = .ok (.aload_n 0, 1) := by decide +kernel
theorem dX12_lineBy_27 : decode cX12_lineBy 27 = .ok (.iload 6, 2) := by decide +kernel
theorem dX12_lineBy_29 : decode cX12_lineBy 29 = .ok (.putfield 182, 3) := by decide +kernel
theorem dX12_lineBy_32 : decode cX12_lineBy 32 = .ok (.aload_n 0, 1) := by decide +kernel
theorem dX12_lineBy_33 : decode cX12_lineBy 33 = .ok (.aload 4, 2) := by decide +kernel
theorem dX12_lineBy_35 : decode cX12_lineBy 35 = .ok (.iload 5, 2) := by decide +kernel
theorem dX12_lineBy_37 : decode cX12_lineBy 37 = .ok (.iaload, 1) := by decide +kernel
theorem dX12_lineBy_38 : decode cX12_lineBy 38 = .ok (.putfield 185, 3) := by decide +kernel
theorem dX12_lineBy_41 : decode cX12_lineBy 41 = .ok (.aload_n 0, 1) := by decide +kernel
theorem dX12_lineBy_42 : decode cX12_lineBy 42 = .ok (.aload 4, 2) := by decide +kernel
theorem dX12_lineBy_44 : decode cX12_lineBy 44 = .ok (.iload 5, 2) := by decide +kernel
theorem dX12_lineBy_46 : decode cX12_lineBy 46 = .ok (.iload 6, 2) := by decide +kernel
theorem dX12_lineBy_48 : decode cX12_lineBy 48 = .ok (.iadd, 1) := by decide +kernel
theorem dX12_lineBy_49 : decode cX12_lineBy 49 = .ok (.iconst 1, 1) := by decide +kernel
theorem dX12_lineBy_50 : decode cX12_lineBy 50 = .ok (.isub, 1) := by decide +kernel
theorem dX12_lineBy_51 : decode cX12_lineBy 51 = .ok (.iaload, 1) := by decide +kernel
theorem dX12_lineBy_52 : decode cX12_lineBy 52 = .ok (.putfield 188, 3) := by decide +kernel
theorem dX12_lineBy_55 : decode cX12_lineBy 55 = .ok (.aload_n 0, 1) := by decide +kernel
theorem dX12_lineBy_56 : decode cX12_lineBy 56 = .ok (.iconst 0, 1) := by decide +kernel
theorem dX12_lineBy_57 : decode cX12_lineBy 57 = .ok (.putfield 191, 3) := by decide +kernel
theorem dX12_lineBy_60 : decode cX12_lineBy 60 = .ok (.iconst 0, 1) := by decide +kernel
theorem dX12_lineBy_61 : decode cX12_lineBy 61 = .ok (.istore 8, 2) := by decide +kernel
theorem dX12_lineBy_63 : decode cX12_lineBy 63 = .ok (.iload 8, 2) := by decide +kernel
theorem dX12_lineBy_65 : decode cX12_lineBy 65 = .ok (.iload 6, 2) := by decide +kernel
theorem dX12_lineBy_67 : decode cX12_lineBy 67 = .ok (.if_icmp .ge 26, 3) := by decide +kernel
theorem dX12_lineBy_70 : decode cX12_lineBy 70 = .ok (.aload_n 0, 1) := by decide +kernel
theorem dX12_lineBy_71 : decode cX12_lineBy 71 = .ok (.dup, 1) := by decide +kernel
theorem dX12_lineBy_72 : decode cX12_lineBy 72 = .ok (.getfield 191, 3) := by decide +kernel
theorem dX12_lineBy_75 : decode cX12_lineBy 75 = .ok (.aload 4, 2) := by decide +kernel
theorem dX12_lineBy_77 : decode cX12_lineBy 77 = .ok (.iload 5, 2) := by decide +kernel
theorem dX12_lineBy_79 : decode cX12_lineBy 79 = .ok (.iload 8, 2) := by decide +kernel
theorem dX12_lineBy_81 : decode cX12_lineBy 81 = .ok (.iadd, 1) := by decide +kernel
theorem dX12_lineBy_82 : decode cX12_lineBy 82 = .ok (.iaload, 1) := by decide +kernel
theorem dX12_lineBy_83 : decode cX12_lineBy 83 = .ok (.iadd, 1) := by decide +kernel
theorem dX12_lineBy_84 : decode cX12_lineBy 84 = .ok (.putfield 191, 3) := by decide +kernel
theorem dX12_lineBy_87 : decode cX12_lineBy 87 = .ok (.iinc 8 1, 3) := by decide +kernel
theorem dX12_lineBy_90 : decode cX12_lineBy 90 = .ok (.goto (-27), 3) := by decide +kernel
theorem dX12_lineBy_93 : decode cX12_lineBy 93 = .ok (.aload_n 0, 1) := by decide +kernel
theorem dX12_lineBy_94 : decode cX12_lineBy 94 = .ok (.iconst 1, 1) := by decide +kernel
theorem dX12_lineBy_95 : decode cX12_lineBy 95 = .ok (.putfield 169, 3) := by decide +kernel
theorem dX12_lineBy_98 : decode cX12_lineBy 98 = .ok (.aload_n 0, 1) := by decide +kernel
theorem dX12_lineBy_99 : decode cX12_lineBy 99 = .ok (.aload_n 0, 1) := by decide +kernel
theorem dX12_lineBy_100 : decode cX12_lineBy 100 = .ok (.getfield 32, 3) := by decide +kernel
theorem dX12_lineBy_103 : decode cX12_lineBy 103 = .ok (.aload_n 0, 1) := by decide +kernel
theorem dX12_lineBy_104 : decode cX12_lineBy 104 = .ok (.getfield 194, 3) := by decide +kernel
theorem dX12_lineBy_107 : decode cX12_lineBy 107 = .ok (.bipush 40, 2) := by decide +kernel
theorem dX12_lineBy_109 : decode cX12_lineBy 109 = .ok (.invokevirtual 142, 3) := by decide +kernel
theorem dX12_lineBy_112 : decode cX12_lineBy 112 = .ok (.aload_n 0, 1) := by decide +kernel
theorem dX12_lineBy_113 : decode cX12_lineBy 113 = .ok (.iconst 0, 1) := by decide +kernel
theorem dX12_lineBy_114 : decode cX12_lineBy 114 = .ok (.invokevirtual 166, 3) := by decide +kernel
theorem dX12_lineBy_117 : decode cX12_lineBy 117 = .ok (.istore 7, 2) := by decide +kernel
theorem dX12_lineBy_119 : decode cX12_lineBy 119 = .ok (.iload 7, 2) := by decide +kernel
theorem dX12_lineBy_121 : decode cX12_lineBy 121 = .ok (.bipush 10, 2) := by decide +kernel
theorem dX12_lineBy_123 : decode cX12_lineBy 123 = .ok (.irem, 1) := by decide +kernel
theorem dX12_lineBy_124 : decode cX12_lineBy 124 = .ok (.bipush 10, 2) := by decide +kernel
theorem dX12_lineBy_126 : decode cX12_lineBy 126 = .ok (.iadd, 1) := by decide +kernel
theorem dX12_lineBy_127 : decode cX12_lineBy 127 = .ok (.bipush 10, 2) := by decide +kernel
theorem dX12_lineBy_129 : decode cX12_lineBy 129 = .ok (.irem, 1) := by decide +kernel
theorem dX12_lineBy_130 : decode cX12_lineBy 130 = .ok (.ireturn, 1) := by decide +kernel
theorem dX12_reads_0 : decode cX12_reads 0 = .ok (.aload_n 0, 1) := by decide +kernel
theorem dX12_reads_1 : decode cX12_reads 1 = .ok (.iconst 0, 1) := by decide +kernel
theorem dX12_reads_2 : decode cX12_reads 2 = .ok (.putfield 96, 3) := by decide +kernel
theorem dX12_reads_5 : decode cX12_reads 5 = .ok (.aload_n 0, 1) := by decide +kernel
theorem dX12_reads_6 : decode cX12_reads 6 = .ok (.iload_n 1, 1) := by decide +kernel
theorem dX12_reads_7 : decode cX12_reads 7 = .ok (.invokevirtual 197, 3) := by decide +kernel
theorem dX12_reads_10 : decode cX12_reads 10 = .ok (.ifCond .eq 12, 3) := by decide +kernel
theorem dX12_reads_13 : decode cX12_reads 13 = .ok (.aload_n 0, 1) := by decide +kernel
theorem dX12_reads_14 : decode cX12_reads 14 = .ok (.getfield 9, 3) := by decide +kernel
theorem dX12_reads_17 : decode cX12_reads 17 = .ok (.iload_n 1, 1) := by decide +kernel
theorem dX12_reads_18 : decode cX12_reads 18 = .ok (.iaload, 1) := by decide +kernel
theorem dX12_reads_19 : decode cX12_reads 19 = .ok (.goto 4, 3) := by decide +kernel
theorem dX12_reads_22 : decode cX12_reads 22 = .ok (.iconst (-1), 1) := by decide +kernel
theorem dX12_reads_23 : decode cX12_reads 23 = .ok (.ireturn, 1) := by decide +kernel
theorem dX12_meeting_0 : decode cX12_meeting 0 = .ok (.aload_n 0, 1) := by decide +kernel
theorem dX12_meeting_1 : decode cX12_meeting 1 = .ok (.iconst 0, 1) := by decide +kernel
theorem dX12_meeting_2 : decode cX12_meeting 2 = .ok (.putfield 96, 3) := by decide +kernel
theorem dX12_meeting_5 : decode cX12_meeting 5 = .ok (.aload_n 0, 1) := by decide +kernel
theorem dX12_meeting_6 : decode cX12_meeting 6 = .ok (.iload_n 1, 1) := by decide +kernel
theorem dX12_meeting_7 : decode cX12_meeting 7 = .ok (.invokevirtual 201, 3) := by decide +kernel
theorem dX12_meeting_10 : decode cX12_meeting 10 = .ok (.ifCond .eq 12, 3) := by decide +kernel
theorem dX12_meeting_13 : decode cX12_meeting 13 = .ok (.iload_n 2, 1) := by decide +kernel
theorem dX12_meeting_14 : decode cX12_meeting 14 = .ok (.iconst 0, 1) := by decide +kernel
theorem dX12_meeting_15 : decode cX12_meeting 15 = .ok (.iconst 3, 1) := by decide +kernel
theorem dX12_meeting_16 : decode cX12_meeting 16 = .ok (.invokestatic 105, 3) := by decide +kernel
theorem dX12_meeting_19 : decode cX12_meeting 19 = .ok (.ifCond .ne 8, 3) := by decide +kernel
theorem dX12_meeting_22 : decode cX12_meeting 22 = .ok (.aload_n 0, 1) := by decide +kernel
theorem dX12_meeting_23 : decode cX12_meeting 23 = .ok (.invokevirtual 204, 3) := by decide +kernel
theorem dX12_meeting_26 : decode cX12_meeting 26 = .ok (.ireturn, 1) := by decide +kernel
theorem dX12_meeting_27 : decode cX12_meeting 27 = .ok (.iload_n 2, 1) := by decide +kernel
theorem dX12_meeting_28 : decode cX12_meeting 28 = .ok (.ifCond .ne 12, 3) := by decide +kernel
theorem dX12_meeting_31 : decode cX12_meeting 31 = .ok (.aload_n 0, 1) := by decide +kernel
theorem dX12_meeting_32 : decode cX12_meeting 32 = .ok (.getfield 13, 3) := by decide +kernel
theorem dX12_meeting_35 : decode cX12_meeting 35 = .ok (.iload_n 1, 1) := by decide +kernel
theorem dX12_meeting_36 : decode cX12_meeting 36 = .ok (.iaload, 1) := by decide +kernel
theorem dX12_meeting_37 : decode cX12_meeting 37 = .ok (.goto 37, 3) := by decide +kernel
theorem dX12_meeting_40 : decode cX12_meeting 40 = .ok (.iload_n 2, 1) := by decide +kernel
theorem dX12_meeting_41 : decode cX12_meeting 41 = .ok (.iconst 1, 1) := by decide +kernel
theorem dX12_meeting_42 : decode cX12_meeting 42 = .ok (.if_icmp .ne 12, 3) := by decide +kernel
theorem dX12_meeting_45 : decode cX12_meeting 45 = .ok (.aload_n 0, 1) := by decide +kernel
theorem dX12_meeting_46 : decode cX12_meeting 46 = .ok (.getfield 16, 3) := by decide +kernel
theorem dX12_meeting_49 : decode cX12_meeting 49 = .ok (.iload_n 1, 1) := by decide +kernel
theorem dX12_meeting_50 : decode cX12_meeting 50 = .ok (.iaload, 1) := by decide +kernel
theorem dX12_meeting_51 : decode cX12_meeting 51 = .ok (.goto 23, 3) := by decide +kernel
theorem dX12_meeting_54 : decode cX12_meeting 54 = .ok (.iload_n 2, 1) := by decide +kernel
theorem dX12_meeting_55 : decode cX12_meeting 55 = .ok (.iconst 2, 1) := by decide +kernel
theorem dX12_meeting_56 : decode cX12_meeting 56 = .ok (.if_icmp .ne 12, 3) := by decide +kernel
theorem dX12_meeting_59 : decode cX12_meeting 59 = .ok (.aload_n 0, 1) := by decide +kernel
theorem dX12_meeting_60 : decode cX12_meeting 60 = .ok (.getfield 19, 3) := by decide +kernel
theorem dX12_meeting_63 : decode cX12_meeting 63 = .ok (.iload_n 1, 1) := by decide +kernel
theorem dX12_meeting_64 : decode cX12_meeting 64 = .ok (.iaload, 1) := by decide +kernel
theorem dX12_meeting_65 : decode cX12_meeting 65 = .ok (.goto 9, 3) := by decide +kernel
theorem dX12_meeting_68 : decode cX12_meeting 68 = .ok (.aload_n 0, 1) := by decide +kernel
theorem dX12_meeting_69 : decode cX12_meeting 69 = .ok (.getfield 22, 3) := by decide +kernel
theorem dX12_meeting_72 : decode cX12_meeting 72 = .ok (.iload_n 1, 1) := by decide +kernel
theorem dX12_meeting_73 : decode cX12_meeting 73 = .ok (.iaload, 1) := by decide +kernel
theorem dX12_meeting_74 : decode cX12_meeting 74 = .ok (.ireturn, 1) := by decide +kernel
theorem dX12_slow_0 : decode cX12_slow 0 = .ok (.aload_n 0, 1) := by decide +kernel
theorem dX12_slow_1 : decode cX12_slow 1 = .ok (.iconst 0, 1) := by decide +kernel
theorem dX12_slow_2 : decode cX12_slow 2 = .ok (.putfield 96, 3) := by decide +kernel
theorem dX12_slow_5 : decode cX12_slow 5 = .ok (.aload_n 0, 1) := by decide +kernel
theorem dX12_slow_6 : decode cX12_slow 6 = .ok (.iload_n 1, 1) := by decide +kernel
theorem dX12_slow_7 : decode cX12_slow 7 = .ok (.invokevirtual 197, 3) := by decide +kernel
theorem dX12_slow_10 : decode cX12_slow 10 = .ok (.ifCond .eq 13, 3) := by decide +kernel
theorem dX12_slow_13 : decode cX12_slow 13 = .ok (.iload_n 2, 1) := by decide +kernel
theorem dX12_slow_14 : decode cX12_slow 14 = .ok (.iconst 1, 1) := by decide +kernel
theorem dX12_slow_15 : decode cX12_slow 15 = .ok (.bipush 9, 2) := by decide +kernel
theorem dX12_slow_17 : decode cX12_slow 17 = .ok (.invokestatic 105, 3) := by decide +kernel
theorem dX12_slow_20 : decode cX12_slow 20 = .ok (.ifCond .ne 5, 3) := by decide +kernel
theorem dX12_slow_23 : decode cX12_slow 23 = .ok (.iconst (-1), 1) := by decide +kernel
theorem dX12_slow_24 : decode cX12_slow 24 = .ok (.ireturn, 1) := by decide +kernel
theorem dX12_slow_25 : decode cX12_slow 25 = .ok (.aload_n 0, 1) := by decide +kernel
theorem dX12_slow_26 : decode cX12_slow 26 = .ok (.getfield 9, 3) := by decide +kernel
theorem dX12_slow_29 : decode cX12_slow 29 = .ok (.iload_n 1, 1) := by decide +kernel
theorem dX12_slow_30 : decode cX12_slow 30 = .ok (.iaload, 1) := by decide +kernel
theorem dX12_slow_31 : decode cX12_slow 31 = .ok (.istore_n 3, 1) := by decide +kernel
theorem dX12_slow_32 : decode cX12_slow 32 = .ok (.aload_n 0, 1) := by decide +kernel
theorem dX12_slow_33 : decode cX12_slow 33 = .ok (.getfield 9, 3) := by decide +kernel
theorem dX12_slow_36 : decode cX12_slow 36 = .ok (.iload_n 1, 1) := by decide +kernel
theorem dX12_slow_37 : decode cX12_slow 37 = .ok (.iload_n 2, 1) := by decide +kernel
theorem dX12_slow_38 : decode cX12_slow 38 = .ok (.iastore, 1) := by decide +kernel
theorem dX12_slow_39 : decode cX12_slow 39 = .ok (.iload_n 3, 1) := by decide +kernel
theorem dX12_slow_40 : decode cX12_slow 40 = .ok (.ireturn, 1) := by decide +kernel
theorem dX12_move_0 : decode cX12_move 0 = .ok (.aload_n 0, 1) := by decide +kernel
theorem dX12_move_1 : decode cX12_move 1 = .ok (.iconst 0, 1) := by decide +kernel
theorem dX12_move_2 : decode cX12_move 2 = .ok (.putfield 96, 3) := by decide +kernel
theorem dX12_move_5 : decode cX12_move 5 = .ok (.aload_n 0, 1) := by decide +kernel
theorem dX12_move_6 : decode cX12_move 6 = .ok (.iload_n 1, 1) := by decide +kernel
theorem dX12_move_7 : decode cX12_move 7 = .ok (.invokevirtual 201, 3) := by decide +kernel
theorem dX12_move_10 : decode cX12_move 10 = .ok (.ifCond .eq 31, 3) := by decide +kernel
theorem dX12_move_13 : decode cX12_move 13 = .ok (.iload_n 2, 1) := by decide +kernel
theorem dX12_move_14 : decode cX12_move 14 = .ok (.iconst 0, 1) := by decide +kernel
theorem dX12_move_15 : decode cX12_move 15 = .ok (.iconst 1, 1) := by decide +kernel
theorem dX12_move_16 : decode cX12_move 16 = .ok (.invokestatic 105, 3) := by decide +kernel
theorem dX12_move_19 : decode cX12_move 19 = .ok (.ifCond .eq 22, 3) := by decide +kernel
theorem dX12_move_22 : decode cX12_move 22 = .ok (.iload_n 3, 1) := by decide +kernel
theorem dX12_move_23 : decode cX12_move 23 = .ok (.iconst 0, 1) := by decide +kernel
theorem dX12_move_24 : decode cX12_move 24 = .ok (.iload_n 2, 1) := by decide +kernel
theorem dX12_move_25 : decode cX12_move 25 = .ok (.ifCond .ne 8, 3) := by decide +kernel
theorem dX12_move_28 : decode cX12_move 28 = .ok (.bipush 99, 2) := by decide +kernel
theorem dX12_move_30 : decode cX12_move 30 = .ok (.goto 5, 3) := by decide +kernel
theorem dX12_move_33 : decode cX12_move 33 = .ok (.bipush 9, 2) := by decide +kernel
theorem dX12_move_35 : decode cX12_move 35 = .ok (.invokestatic 105, 3) := by decide +kernel
theorem dX12_move_38 : decode cX12_move 38 = .ok (.ifCond .ne 5, 3) := by decide +kernel
theorem dX12_move_41 : decode cX12_move 41 = .ok (.iconst (-1), 1) := by decide +kernel
theorem dX12_move_42 : decode cX12_move 42 = .ok (.ireturn, 1) := by decide +kernel
theorem dX12_move_43 : decode cX12_move 43 = .ok (.iload_n 2, 1) := by decide +kernel
theorem dX12_move_44 : decode cX12_move 44 = .ok (.ifCond .ne 12, 3) := by decide +kernel
theorem dX12_move_47 : decode cX12_move 47 = .ok (.aload_n 0, 1) := by decide +kernel
theorem dX12_move_48 : decode cX12_move 48 = .ok (.getfield 19, 3) := by decide +kernel
theorem dX12_move_51 : decode cX12_move 51 = .ok (.iload_n 1, 1) := by decide +kernel
theorem dX12_move_52 : decode cX12_move 52 = .ok (.iaload, 1) := by decide +kernel
theorem dX12_move_53 : decode cX12_move 53 = .ok (.goto 9, 3) := by decide +kernel
theorem dX12_move_56 : decode cX12_move 56 = .ok (.aload_n 0, 1) := by decide +kernel
theorem dX12_move_57 : decode cX12_move 57 = .ok (.getfield 22, 3) := by decide +kernel
theorem dX12_move_60 : decode cX12_move 60 = .ok (.iload_n 1, 1) := by decide +kernel
theorem dX12_move_61 : decode cX12_move 61 = .ok (.iaload, 1) := by decide +kernel
theorem dX12_move_62 : decode cX12_move 62 = .ok (.istore 4, 2) := by decide +kernel
theorem dX12_move_64 : decode cX12_move 64 = .ok (.iload_n 2, 1) := by decide +kernel
theorem dX12_move_65 : decode cX12_move 65 = .ok (.ifCond .ne 13, 3) := by decide +kernel
theorem dX12_move_68 : decode cX12_move 68 = .ok (.aload_n 0, 1) := by decide +kernel
theorem dX12_move_69 : decode cX12_move 69 = .ok (.getfield 19, 3) := by decide +kernel
theorem dX12_move_72 : decode cX12_move 72 = .ok (.iload_n 1, 1) := by decide +kernel
theorem dX12_move_73 : decode cX12_move 73 = .ok (.iload_n 3, 1) := by decide +kernel
theorem dX12_move_74 : decode cX12_move 74 = .ok (.iastore, 1) := by decide +kernel
theorem dX12_move_75 : decode cX12_move 75 = .ok (.goto 10, 3) := by decide +kernel
theorem dX12_move_78 : decode cX12_move 78 = .ok (.aload_n 0, 1) := by decide +kernel
theorem dX12_move_79 : decode cX12_move 79 = .ok (.getfield 22, 3) := by decide +kernel
theorem dX12_move_82 : decode cX12_move 82 = .ok (.iload_n 1, 1) := by decide +kernel
theorem dX12_move_83 : decode cX12_move 83 = .ok (.iload_n 3, 1) := by decide +kernel
theorem dX12_move_84 : decode cX12_move 84 = .ok (.iastore, 1) := by decide +kernel
theorem dX12_move_85 : decode cX12_move 85 = .ok (.iload 4, 2) := by decide +kernel
theorem dX12_move_87 : decode cX12_move 87 = .ok (.ireturn, 1) := by decide +kernel
theorem dX12_sheet_0 : decode cX12_sheet 0 = .ok (.aload_n 0, 1) := by decide +kernel
theorem dX12_sheet_1 : decode cX12_sheet 1 = .ok (.iconst 0, 1) := by decide +kernel
theorem dX12_sheet_2 : decode cX12_sheet 2 = .ok (.putfield 96, 3) := by decide +kernel
theorem dX12_sheet_5 : decode cX12_sheet 5 = .ok (.iload_n 1, 1) := by decide +kernel
theorem dX12_sheet_6 : decode cX12_sheet 6 = .ok (.iconst 0, 1) := by decide +kernel
theorem dX12_sheet_7 : decode cX12_sheet 7 = .ok (.iconst 3, 1) := by decide +kernel
theorem dX12_sheet_8 : decode cX12_sheet 8 = .ok (.invokestatic 105, 3) := by decide +kernel
theorem dX12_sheet_11 : decode cX12_sheet 11 = .ok (.ifCond .eq 9, 3) := by decide +kernel
theorem dX12_sheet_14 : decode cX12_sheet 14 = .ok (.iload_n 2, 1) := by decide +kernel
theorem dX12_sheet_15 : decode cX12_sheet 15 = .ok (.bipush 20, 2) := by decide +kernel
theorem dX12_sheet_17 : decode cX12_sheet 17 = .ok (.if_icmp .le 5, 3) := by decide +kernel
theorem dX12_sheet_20 : decode cX12_sheet 20 = .ok (.iconst (-1), 1) := by decide +kernel
theorem dX12_sheet_21 : decode cX12_sheet 21 = .ok (.ireturn, 1) := by decide +kernel
theorem dX12_sheet_22 : decode cX12_sheet 22 = .ok (.iload_n 1, 1) := by decide +kernel
theorem dX12_sheet_23 : decode cX12_sheet 23 = .ok (.iconst 3, 1) := by decide +kernel
theorem dX12_sheet_24 : decode cX12_sheet 24 = .ok (.if_icmp .ge 10, 3) := by decide +kernel
theorem dX12_sheet_27 : decode cX12_sheet 27 = .ok (.iload_n 2, 1) := by decide +kernel
theorem dX12_sheet_28 : decode cX12_sheet 28 = .ok (.ifCond .ge 6, 3) := by decide +kernel
theorem dX12_sheet_31 : decode cX12_sheet 31 = .ok (.bipush (-2), 2) := by decide +kernel
theorem dX12_sheet_33 : decode cX12_sheet 33 = .ok (.ireturn, 1) := by decide +kernel
theorem dX12_sheet_34 : decode cX12_sheet 34 = .ok (.iconst 0, 1) := by decide +kernel
theorem dX12_sheet_35 : decode cX12_sheet 35 = .ok (.istore 5, 2) := by decide +kernel
theorem dX12_sheet_37 : decode cX12_sheet 37 = .ok (.iload_n 3, 1) := by decide +kernel
theorem dX12_sheet_38 : decode cX12_sheet 38 = .ok (.istore 6, 2) := by decide +kernel
theorem dX12_sheet_40 : decode cX12_sheet 40 = .ok (.iconst 0, 1) := by decide +kernel
theorem dX12_sheet_41 : decode cX12_sheet 41 = .ok (.istore 7, 2) := by decide +kernel
theorem dX12_sheet_43 : decode cX12_sheet 43 = .ok (.iload 7, 2) := by decide +kernel
theorem dX12_sheet_45 : decode cX12_sheet 45 = .ok (.aload_n 0, 1) := by decide +kernel
theorem dX12_sheet_46 : decode cX12_sheet 46 = .ok (.getfield 109, 3) := by decide +kernel
theorem dX12_sheet_49 : decode cX12_sheet 49 = .ok (.if_icmp .ge 86, 3) := by decide +kernel
theorem dX12_sheet_52 : decode cX12_sheet 52 = .ok (.iload_n 1, 1) := by decide +kernel
theorem dX12_sheet_53 : decode cX12_sheet 53 = .ok (.ifCond .ne 9, 3) := by decide +kernel
theorem dX12_sheet_56 : decode cX12_sheet 56 = .ok (.iload 6, 2) := by decide +kernel
theorem dX12_sheet_58 : decode cX12_sheet 58 = .ok (.i2b, 1) := by decide +kernel
theorem dX12_sheet_59 : decode cX12_sheet 59 = .ok (.goto 16, 3) := by decide +kernel
theorem dX12_sheet_62 : decode cX12_sheet 62 = .ok (.iload_n 1, 1) := by decide +kernel
theorem dX12_sheet_63 : decode cX12_sheet 63 = .ok (.iconst 1, 1) := by decide +kernel
theorem dX12_sheet_64 : decode cX12_sheet 64 = .ok (.if_icmp .ne 9, 3) := by decide +kernel
theorem dX12_sheet_67 : decode cX12_sheet 67 = .ok (.iload 6, 2) := by decide +kernel
theorem dX12_sheet_69 : decode cX12_sheet 69 = .ok (.i2s, 1) := by decide +kernel
theorem dX12_sheet_70 : decode cX12_sheet 70 = .ok (.goto 5, 3) := by decide +kernel
theorem dX12_sheet_73 : decode cX12_sheet 73 = .ok (.iload 6, 2) := by decide +kernel
theorem dX12_sheet_75 : decode cX12_sheet 75 = .ok (.istore 8, 2) := by decide +kernel
theorem dX12_sheet_77 : decode cX12_sheet 77 = .ok (.aload_n 0, 1) := by decide +kernel
theorem dX12_sheet_78 : decode cX12_sheet 78 = .ok (.getfield 22, 3) := by decide +kernel
theorem dX12_sheet_81 : decode cX12_sheet 81 = .ok (.iload 7, 2) := by decide +kernel
theorem dX12_sheet_83 : decode cX12_sheet 83 = .ok (.iload_n 1, 1) := by decide +kernel
theorem dX12_sheet_84 : decode cX12_sheet 84 = .ok (.iconst 3, 1) := by decide +kernel
theorem dX12_sheet_85 : decode cX12_sheet 85 = .ok (.if_icmp .eq 9, 3) := by decide +kernel
theorem dX12_sheet_88 : decode cX12_sheet 88 = .ok (.iload 7, 2) := by decide +kernel
theorem dX12_sheet_90 : decode cX12_sheet 90 = .ok (.iload_n 2, 1) := by decide +kernel
theorem dX12_sheet_91 : decode cX12_sheet 91 = .ok (.if_icmp .lt 7, 3) := by decide +kernel
theorem dX12_sheet_94 : decode cX12_sheet 94 = .ok (.iconst 0, 1) := by decide +kernel
theorem dX12_sheet_95 : decode cX12_sheet 95 = .ok (.goto 14, 3) := by decide +kernel
theorem dX12_sheet_98 : decode cX12_sheet 98 = .ok (.iconst 0, 1) := by decide +kernel
theorem dX12_sheet_99 : decode cX12_sheet 99 = .ok (.bipush 9, 2) := by decide +kernel
theorem dX12_sheet_101 : decode cX12_sheet 101 = .ok (.iload 8, 2) := by decide +kernel
theorem dX12_sheet_103 : decode cX12_sheet 103 = .ok (.invokestatic 207, 3) := by decide +kernel
theorem dX12_sheet_106 : decode cX12_sheet 106 = .ok (.invokestatic 213, 3) := by decide +kernel
theorem dX12_sheet_109 : decode cX12_sheet 109 = .ok (.iastore, 1) := by decide +kernel
theorem dX12_sheet_110 : decode cX12_sheet 110 = .ok (.iload 5, 2) := by decide +kernel
theorem dX12_sheet_112 : decode cX12_sheet 112 = .ok (.aload_n 0, 1) := by decide +kernel
theorem dX12_sheet_113 : decode cX12_sheet 113 = .ok (.getfield 22, 3) := by decide +kernel
theorem dX12_sheet_116 : decode cX12_sheet 116 = .ok (.iload 7, 2) := by decide +kernel
theorem dX12_sheet_118 : decode cX12_sheet 118 = .ok (.iaload, 1) := by decide +kernel
theorem dX12_sheet_119 : decode cX12_sheet 119 = .ok (.iadd, 1) := by decide +kernel
theorem dX12_sheet_120 : decode cX12_sheet 120 = .ok (.istore 5, 2) := by decide +kernel
theorem dX12_sheet_122 : decode cX12_sheet 122 = .ok (.iload 6, 2) := by decide +kernel
theorem dX12_sheet_124 : decode cX12_sheet 124 = .ok (.iload 4, 2) := by decide +kernel
theorem dX12_sheet_126 : decode cX12_sheet 126 = .ok (.iadd, 1) := by decide +kernel
theorem dX12_sheet_127 : decode cX12_sheet 127 = .ok (.istore 6, 2) := by decide +kernel
theorem dX12_sheet_129 : decode cX12_sheet 129 = .ok (.iinc 7 1, 3) := by decide +kernel
theorem dX12_sheet_132 : decode cX12_sheet 132 = .ok (.goto (-89), 3) := by decide +kernel
theorem dX12_sheet_135 : decode cX12_sheet 135 = .ok (.iload_n 1, 1) := by decide +kernel
theorem dX12_sheet_136 : decode cX12_sheet 136 = .ok (.iconst 3, 1) := by decide +kernel
theorem dX12_sheet_137 : decode cX12_sheet 137 = .ok (.if_icmp .ne 8, 3) := by decide +kernel
theorem dX12_sheet_140 : decode cX12_sheet 140 = .ok (.bipush (-3), 2) := by decide +kernel
theorem dX12_sheet_142 : decode cX12_sheet 142 = .ok (.goto 5, 3) := by decide +kernel
theorem dX12_sheet_145 : decode cX12_sheet 145 = .ok (.iload 5, 2) := by decide +kernel
theorem dX12_sheet_147 : decode cX12_sheet 147 = .ok (.ireturn, 1) := by decide +kernel
theorem dX12_at_0 : decode cX12_at 0 = .ok (.bipush 91, 2) := by decide +kernel
theorem dX12_at_2 : decode cX12_at 2 = .ok (.iload_n 0, 1) := by decide +kernel
theorem dX12_at_3 : decode cX12_at 3 = .ok (.imul, 1) := by decide +kernel
theorem dX12_at_4 : decode cX12_at 4 = .ok (.iconst 1, 1) := by decide +kernel
theorem dX12_at_5 : decode cX12_at 5 = .ok (.iadd, 1) := by decide +kernel
theorem dX12_at_6 : decode cX12_at 6 = .ok (.iconst 3, 1) := by decide +kernel
theorem dX12_at_7 : decode cX12_at 7 = .ok (.iload_n 1, 1) := by decide +kernel
theorem dX12_at_8 : decode cX12_at 8 = .ok (.imul, 1) := by decide +kernel
theorem dX12_at_9 : decode cX12_at 9 = .ok (.iadd, 1) := by decide +kernel
theorem dX12_at_10 : decode cX12_at 10 = .ok (.ireturn, 1) := by decide +kernel
theorem dX12_linesOf_0 : decode cX12_linesOf 0 = .ok (.aload_n 0, 1) := by decide +kernel
theorem dX12_linesOf_1 : decode cX12_linesOf 1 = .ok (.getfield 35, 3) := by decide +kernel
theorem dX12_linesOf_4 : decode cX12_linesOf 4 = .ok (.bipush 91, 2) := by decide +kernel
theorem dX12_linesOf_6 : decode cX12_linesOf 6 = .ok (.iload_n 1, 1) := by decide +kernel
theorem dX12_linesOf_7 : decode cX12_linesOf 7 = .ok (.imul, 1) := by decide +kernel
theorem dX12_linesOf_8 : decode cX12_linesOf 8 = .ok (.iaload, 1) := by decide +kernel
theorem dX12_linesOf_9 : decode cX12_linesOf 9 = .ok (.ireturn, 1) := by decide +kernel
theorem dX12_isLetter_0 : decode cX12_isLetter 0 = .ok (.iload_n 1, 1) := by decide +kernel
theorem dX12_isLetter_1 : decode cX12_isLetter 1 = .ok (.iconst 0, 1) := by decide +kernel
theorem dX12_isLetter_2 : decode cX12_isLetter 2 = .ok (.iconst 2, 1) := by decide +kernel
theorem dX12_isLetter_3 : decode cX12_isLetter 3 = .ok (.invokestatic 105, 3) := by decide +kernel
theorem dX12_isLetter_6 : decode cX12_isLetter 6 = .ok (.ifCond .eq 15, 3) := by decide +kernel
theorem dX12_isLetter_9 : decode cX12_isLetter 9 = .ok (.aload_n 0, 1) := by decide +kernel
theorem dX12_isLetter_10 : decode cX12_isLetter 10 = .ok (.iload_n 1, 1) := by decide +kernel
theorem dX12_isLetter_11 : decode cX12_isLetter 11 = .ok (.invokevirtual 216, 3) := by decide +kernel
theorem dX12_isLetter_14 : decode cX12_isLetter 14 = .ok (.ifCond .le 7, 3) := by decide +kernel
theorem dX12_isLetter_17 : decode cX12_isLetter 17 = .ok (.iconst 1, 1) := by decide +kernel
theorem dX12_isLetter_18 : decode cX12_isLetter 18 = .ok (.goto 4, 3) := by decide +kernel
theorem dX12_isLetter_21 : decode cX12_isLetter 21 = .ok (.iconst 0, 1) := by decide +kernel
theorem dX12_isLetter_22 : decode cX12_isLetter 22 = .ok (.ireturn, 1) := by decide +kernel
theorem dX12_holder_0 : decode cX12_holder 0 = .ok (.aload_n 0, 1) := by decide +kernel
theorem dX12_holder_1 : decode cX12_holder 1 = .ok (.getfield 35, 3) := by decide +kernel
theorem dX12_holder_4 : decode cX12_holder 4 = .ok (.iload_n 1, 1) := by decide +kernel
theorem dX12_holder_5 : decode cX12_holder 5 = .ok (.aload_n 0, 1) := by decide +kernel
theorem dX12_holder_6 : decode cX12_holder 6 = .ok (.iload_n 1, 1) := by decide +kernel
theorem dX12_holder_7 : decode cX12_holder 7 = .ok (.invokevirtual 216, 3) := by decide +kernel
theorem dX12_holder_10 : decode cX12_holder 10 = .ok (.iconst 1, 1) := by decide +kernel
theorem dX12_holder_11 : decode cX12_holder 11 = .ok (.isub, 1) := by decide +kernel
theorem dX12_holder_12 : decode cX12_holder 12 = .ok (.invokestatic 219, 3) := by decide +kernel
theorem dX12_holder_15 : decode cX12_holder 15 = .ok (.iconst 1, 1) := by decide +kernel
theorem dX12_holder_16 : decode cX12_holder 16 = .ok (.iadd, 1) := by decide +kernel
theorem dX12_holder_17 : decode cX12_holder 17 = .ok (.iaload, 1) := by decide +kernel
theorem dX12_holder_18 : decode cX12_holder 18 = .ok (.ireturn, 1) := by decide +kernel
theorem dX12_since_0 : decode cX12_since 0 = .ok (.aload_n 0, 1) := by decide +kernel
theorem dX12_since_1 : decode cX12_since 1 = .ok (.getfield 35, 3) := by decide +kernel
theorem dX12_since_4 : decode cX12_since 4 = .ok (.iload_n 1, 1) := by decide +kernel
theorem dX12_since_5 : decode cX12_since 5 = .ok (.aload_n 0, 1) := by decide +kernel
theorem dX12_since_6 : decode cX12_since 6 = .ok (.iload_n 1, 1) := by decide +kernel
theorem dX12_since_7 : decode cX12_since 7 = .ok (.invokevirtual 216, 3) := by decide +kernel
theorem dX12_since_10 : decode cX12_since 10 = .ok (.iconst 1, 1) := by decide +kernel
theorem dX12_since_11 : decode cX12_since 11 = .ok (.isub, 1) := by decide +kernel
theorem dX12_since_12 : decode cX12_since 12 = .ok (.invokestatic 219, 3) := by decide +kernel
theorem dX12_since_15 : decode cX12_since 15 = .ok (.iconst 2, 1) := by decide +kernel
theorem dX12_since_16 : decode cX12_since 16 = .ok (.iadd, 1) := by decide +kernel
theorem dX12_since_17 : decode cX12_since 17 = .ok (.iaload, 1) := by decide +kernel
theorem dX12_since_18 : decode cX12_since 18 = .ok (.ireturn, 1) := by decide +kernel
theorem dX12_readers_0 : decode cX12_readers 0 = .ok (.iconst 0, 1) := by decide +kernel
theorem dX12_readers_1 : decode cX12_readers 1 = .ok (.istore_n 2, 1) := by decide +kernel
theorem dX12_readers_2 : decode cX12_readers 2 = .ok (.iconst 0, 1) := by decide +kernel
theorem dX12_readers_3 : decode cX12_readers 3 = .ok (.istore_n 3, 1) := by decide +kernel
theorem dX12_readers_4 : decode cX12_readers 4 = .ok (.iload_n 3, 1) := by decide +kernel
theorem dX12_readers_5 : decode cX12_readers 5 = .ok (.aload_n 0, 1) := by decide +kernel
theorem dX12_readers_6 : decode cX12_readers 6 = .ok (.iload_n 1, 1) := by decide +kernel
theorem dX12_readers_7 : decode cX12_readers 7 = .ok (.invokevirtual 216, 3) := by decide +kernel
theorem dX12_readers_10 : decode cX12_readers 10 = .ok (.if_icmp .ge 26, 3) := by decide +kernel
theorem dX12_readers_13 : decode cX12_readers 13 = .ok (.iload_n 2, 1) := by decide +kernel
theorem dX12_readers_14 : decode cX12_readers 14 = .ok (.iconst 1, 1) := by decide +kernel
theorem dX12_readers_15 : decode cX12_readers 15 = .ok (.aload_n 0, 1) := by decide +kernel
theorem dX12_readers_16 : decode cX12_readers 16 = .ok (.getfield 35, 3) := by decide +kernel
theorem dX12_readers_19 : decode cX12_readers 19 = .ok (.iload_n 1, 1) := by decide +kernel
theorem dX12_readers_20 : decode cX12_readers 20 = .ok (.iload_n 3, 1) := by decide +kernel
theorem dX12_readers_21 : decode cX12_readers 21 = .ok (.invokestatic 219, 3) := by decide +kernel
theorem dX12_readers_24 : decode cX12_readers 24 = .ok (.iconst 1, 1) := by decide +kernel
theorem dX12_readers_25 : decode cX12_readers 25 = .ok (.iadd, 1) := by decide +kernel
theorem dX12_readers_26 : decode cX12_readers 26 = .ok (.iaload, 1) := by decide +kernel
theorem dX12_readers_27 : decode cX12_readers 27 = .ok (.ishl, 1) := by decide +kernel
theorem dX12_readers_28 : decode cX12_readers 28 = .ok (.ior, 1) := by decide +kernel
theorem dX12_readers_29 : decode cX12_readers 29 = .ok (.istore_n 2, 1) := by decide +kernel
theorem dX12_readers_30 : decode cX12_readers 30 = .ok (.iinc 3 1, 3) := by decide +kernel
theorem dX12_readers_33 : decode cX12_readers 33 = .ok (.goto (-29), 3) := by decide +kernel
theorem dX12_readers_36 : decode cX12_readers 36 = .ok (.iload_n 2, 1) := by decide +kernel
theorem dX12_readers_37 : decode cX12_readers 37 = .ok (.ireturn, 1) := by decide +kernel
theorem dX12_write_0 : decode cX12_write 0 = .ok (.aload_n 0, 1) := by decide +kernel
theorem dX12_write_1 : decode cX12_write 1 = .ok (.iconst 0, 1) := by decide +kernel
theorem dX12_write_2 : decode cX12_write 2 = .ok (.putfield 96, 3) := by decide +kernel
theorem dX12_write_5 : decode cX12_write 5 = .ok (.iload_n 1, 1) := by decide +kernel
theorem dX12_write_6 : decode cX12_write 6 = .ok (.iconst 0, 1) := by decide +kernel
theorem dX12_write_7 : decode cX12_write 7 = .ok (.iconst 2, 1) := by decide +kernel
theorem dX12_write_8 : decode cX12_write 8 = .ok (.invokestatic 105, 3) := by decide +kernel
theorem dX12_write_11 : decode cX12_write 11 = .ok (.ifCond .eq 29, 3) := by decide +kernel
theorem dX12_write_14 : decode cX12_write 14 = .ok (.aload_n 0, 1) := by decide +kernel
theorem dX12_write_15 : decode cX12_write 15 = .ok (.iload_n 2, 1) := by decide +kernel
theorem dX12_write_16 : decode cX12_write 16 = .ok (.invokevirtual 197, 3) := by decide +kernel
theorem dX12_write_19 : decode cX12_write 19 = .ok (.ifCond .eq 21, 3) := by decide +kernel
theorem dX12_write_22 : decode cX12_write 22 = .ok (.iload_n 3, 1) := by decide +kernel
theorem dX12_write_23 : decode cX12_write 23 = .ok (.invokestatic 221, 3) := by decide +kernel
theorem dX12_write_26 : decode cX12_write 26 = .ok (.ifCond .eq 14, 3) := by decide +kernel
theorem dX12_write_29 : decode cX12_write 29 = .ok (.iload 4, 2) := by decide +kernel
theorem dX12_write_31 : decode cX12_write 31 = .ok (.iconst 0, 1) := by decide +kernel
theorem dX12_write_32 : decode cX12_write 32 = .ok (.bipush 9, 2) := by decide +kernel
theorem dX12_write_34 : decode cX12_write 34 = .ok (.invokestatic 105, 3) := by decide +kernel
theorem dX12_write_37 : decode cX12_write 37 = .ok (.ifCond .ne 5, 3) := by decide +kernel
theorem dX12_write_40 : decode cX12_write 40 = .ok (.iconst 0, 1) := by decide +kernel
theorem dX12_write_41 : decode cX12_write 41 = .ok (.ireturn, 1) := by decide +kernel
theorem dX12_write_42 : decode cX12_write 42 = .ok (.aload_n 0, 1) := by decide +kernel
theorem dX12_write_43 : decode cX12_write 43 = .ok (.getfield 35, 3) := by decide +kernel
theorem dX12_write_46 : decode cX12_write 46 = .ok (.bipush 91, 2) := by decide +kernel
theorem dX12_write_48 : decode cX12_write 48 = .ok (.iload_n 1, 1) := by decide +kernel
theorem dX12_write_49 : decode cX12_write 49 = .ok (.imul, 1) := by decide +kernel
theorem dX12_write_50 : decode cX12_write 50 = .ok (.iconst 1, 1) := by decide +kernel
theorem dX12_write_51 : decode cX12_write 51 = .ok (.iastore, 1) := by decide +kernel
theorem dX12_write_52 : decode cX12_write 52 = .ok (.aload_n 0, 1) := by decide +kernel
theorem dX12_write_53 : decode cX12_write 53 = .ok (.getfield 35, 3) := by decide +kernel
theorem dX12_write_56 : decode cX12_write 56 = .ok (.iload_n 1, 1) := by decide +kernel
theorem dX12_write_57 : decode cX12_write 57 = .ok (.iconst 0, 1) := by decide +kernel
theorem dX12_write_58 : decode cX12_write 58 = .ok (.invokestatic 219, 3) := by decide +kernel
theorem dX12_write_61 : decode cX12_write 61 = .ok (.iload 4, 2) := by decide +kernel
theorem dX12_write_63 : decode cX12_write 63 = .ok (.iastore, 1) := by decide +kernel
theorem dX12_write_64 : decode cX12_write 64 = .ok (.aload_n 0, 1) := by decide +kernel
theorem dX12_write_65 : decode cX12_write 65 = .ok (.getfield 35, 3) := by decide +kernel
theorem dX12_write_68 : decode cX12_write 68 = .ok (.iload_n 1, 1) := by decide +kernel
theorem dX12_write_69 : decode cX12_write 69 = .ok (.iconst 0, 1) := by decide +kernel
theorem dX12_write_70 : decode cX12_write 70 = .ok (.invokestatic 219, 3) := by decide +kernel
theorem dX12_write_73 : decode cX12_write 73 = .ok (.iconst 1, 1) := by decide +kernel
theorem dX12_write_74 : decode cX12_write 74 = .ok (.iadd, 1) := by decide +kernel
theorem dX12_write_75 : decode cX12_write 75 = .ok (.iload_n 2, 1) := by decide +kernel
theorem dX12_write_76 : decode cX12_write 76 = .ok (.iastore, 1) := by decide +kernel
theorem dX12_write_77 : decode cX12_write 77 = .ok (.aload_n 0, 1) := by decide +kernel
theorem dX12_write_78 : decode cX12_write 78 = .ok (.getfield 35, 3) := by decide +kernel
theorem dX12_write_81 : decode cX12_write 81 = .ok (.iload_n 1, 1) := by decide +kernel
theorem dX12_write_82 : decode cX12_write 82 = .ok (.iconst 0, 1) := by decide +kernel
theorem dX12_write_83 : decode cX12_write 83 = .ok (.invokestatic 219, 3) := by decide +kernel
theorem dX12_write_86 : decode cX12_write 86 = .ok (.iconst 2, 1) := by decide +kernel
theorem dX12_write_87 : decode cX12_write 87 = .ok (.iadd, 1) := by decide +kernel
theorem dX12_write_88 : decode cX12_write 88 = .ok (.iload_n 3, 1) := by decide +kernel
theorem dX12_write_89 : decode cX12_write 89 = .ok (.iastore, 1) := by decide +kernel
theorem dX12_write_90 : decode cX12_write 90 = .ok (.iconst 1, 1) := by decide +kernel
theorem dX12_write_91 : decode cX12_write 91 = .ok (.ireturn, 1) := by decide +kernel
theorem dX12_isThere_0 : decode cX12_isThere 0 = .ok (.aload_n 0, 1) := by decide +kernel
theorem dX12_isThere_1 : decode cX12_isThere 1 = .ok (.getfield 13, 3) := by decide +kernel
theorem dX12_isThere_4 : decode cX12_isThere 4 = .ok (.iload_n 2, 1) := by decide +kernel
theorem dX12_isThere_5 : decode cX12_isThere 5 = .ok (.iaload, 1) := by decide +kernel
theorem dX12_isThere_6 : decode cX12_isThere 6 = .ok (.iload_n 1, 1) := by decide +kernel
theorem dX12_isThere_7 : decode cX12_isThere 7 = .ok (.if_icmp .eq 13, 3) := by decide +kernel
theorem dX12_isThere_10 : decode cX12_isThere 10 = .ok (.aload_n 0, 1) := by decide +kernel
theorem dX12_isThere_11 : decode cX12_isThere 11 = .ok (.getfield 16, 3) := by decide +kernel
theorem dX12_isThere_14 : decode cX12_isThere 14 = .ok (.iload_n 2, 1) := by decide +kernel
theorem dX12_isThere_15 : decode cX12_isThere 15 = .ok (.iaload, 1) := by decide +kernel
theorem dX12_isThere_16 : decode cX12_isThere 16 = .ok (.iload_n 1, 1) := by decide +kernel
theorem dX12_isThere_17 : decode cX12_isThere 17 = .ok (.if_icmp .ne 7, 3) := by decide +kernel
theorem dX12_isThere_20 : decode cX12_isThere 20 = .ok (.iconst 1, 1) := by decide +kernel
theorem dX12_isThere_21 : decode cX12_isThere 21 = .ok (.goto 4, 3) := by decide +kernel
theorem dX12_isThere_24 : decode cX12_isThere 24 = .ok (.iconst 0, 1) := by decide +kernel
theorem dX12_isThere_25 : decode cX12_isThere 25 = .ok (.ireturn, 1) := by decide +kernel
theorem dX12_partner_0 : decode cX12_partner 0 = .ok (.aload_n 0, 1) := by decide +kernel
theorem dX12_partner_1 : decode cX12_partner 1 = .ok (.getfield 13, 3) := by decide +kernel
theorem dX12_partner_4 : decode cX12_partner 4 = .ok (.iload_n 2, 1) := by decide +kernel
theorem dX12_partner_5 : decode cX12_partner 5 = .ok (.iaload, 1) := by decide +kernel
theorem dX12_partner_6 : decode cX12_partner 6 = .ok (.iload_n 1, 1) := by decide +kernel
theorem dX12_partner_7 : decode cX12_partner 7 = .ok (.if_icmp .ne 12, 3) := by decide +kernel
theorem dX12_partner_10 : decode cX12_partner 10 = .ok (.aload_n 0, 1) := by decide +kernel
theorem dX12_partner_11 : decode cX12_partner 11 = .ok (.getfield 16, 3) := by decide +kernel
theorem dX12_partner_14 : decode cX12_partner 14 = .ok (.iload_n 2, 1) := by decide +kernel
theorem dX12_partner_15 : decode cX12_partner 15 = .ok (.iaload, 1) := by decide +kernel
theorem dX12_partner_16 : decode cX12_partner 16 = .ok (.goto 9, 3) := by decide +kernel
theorem dX12_partner_19 : decode cX12_partner 19 = .ok (.aload_n 0, 1) := by decide +kernel
theorem dX12_partner_20 : decode cX12_partner 20 = .ok (.getfield 13, 3) := by decide +kernel
theorem dX12_partner_23 : decode cX12_partner 23 = .ok (.iload_n 2, 1) := by decide +kernel
theorem dX12_partner_24 : decode cX12_partner 24 = .ok (.iaload, 1) := by decide +kernel
theorem dX12_partner_25 : decode cX12_partner 25 = .ok (.ireturn, 1) := by decide +kernel
theorem dX12_refusal_0 : decode cX12_refusal 0 = .ok (.aload_n 0, 1) := by decide +kernel
theorem dX12_refusal_1 : decode cX12_refusal 1 = .ok (.iload_n 1, 1) := by decide +kernel
theorem dX12_refusal_2 : decode cX12_refusal 2 = .ok (.invokevirtual 224, 3) := by decide +kernel
theorem dX12_refusal_5 : decode cX12_refusal 5 = .ok (.istore_n 3, 1) := by decide +kernel
theorem dX12_refusal_6 : decode cX12_refusal 6 = .ok (.aload_n 0, 1) := by decide +kernel
theorem dX12_refusal_7 : decode cX12_refusal 7 = .ok (.iload_n 3, 1) := by decide +kernel
theorem dX12_refusal_8 : decode cX12_refusal 8 = .ok (.iload_n 2, 1) := by decide +kernel
theorem dX12_refusal_9 : decode cX12_refusal 9 = .ok (.invokevirtual 227, 3) := by decide +kernel
theorem dX12_refusal_12 : decode cX12_refusal 12 = .ok (.ifCond .ne 6, 3) := by decide +kernel
theorem dX12_refusal_15 : decode cX12_refusal 15 = .ok (.bipush (-2), 2) := by decide +kernel
theorem dX12_refusal_17 : decode cX12_refusal 17 = .ok (.ireturn, 1) := by decide +kernel
theorem dX12_refusal_18 : decode cX12_refusal 18 = .ok (.aload_n 0, 1) := by decide +kernel
theorem dX12_refusal_19 : decode cX12_refusal 19 = .ok (.getfield 19, 3) := by decide +kernel
theorem dX12_refusal_22 : decode cX12_refusal 22 = .ok (.iload_n 2, 1) := by decide +kernel
theorem dX12_refusal_23 : decode cX12_refusal 23 = .ok (.iaload, 1) := by decide +kernel
theorem dX12_refusal_24 : decode cX12_refusal 24 = .ok (.aload_n 0, 1) := by decide +kernel
theorem dX12_refusal_25 : decode cX12_refusal 25 = .ok (.iload_n 1, 1) := by decide +kernel
theorem dX12_refusal_26 : decode cX12_refusal 26 = .ok (.invokevirtual 231, 3) := by decide +kernel
theorem dX12_refusal_29 : decode cX12_refusal 29 = .ok (.aload_n 0, 1) := by decide +kernel
theorem dX12_refusal_30 : decode cX12_refusal 30 = .ok (.iload_n 1, 1) := by decide +kernel
theorem dX12_refusal_31 : decode cX12_refusal 31 = .ok (.invokevirtual 216, 3) := by decide +kernel
theorem dX12_refusal_34 : decode cX12_refusal 34 = .ok (.iconst 1, 1) := by decide +kernel
theorem dX12_refusal_35 : decode cX12_refusal 35 = .ok (.if_icmp .ne 7, 3) := by decide +kernel
theorem dX12_refusal_38 : decode cX12_refusal 38 = .ok (.iconst 0, 1) := by decide +kernel
theorem dX12_refusal_39 : decode cX12_refusal 39 = .ok (.goto 9, 3) := by decide +kernel
theorem dX12_refusal_42 : decode cX12_refusal 42 = .ok (.aload_n 0, 1) := by decide +kernel
theorem dX12_refusal_43 : decode cX12_refusal 43 = .ok (.getfield 9, 3) := by decide +kernel
theorem dX12_refusal_46 : decode cX12_refusal 46 = .ok (.iload_n 3, 1) := by decide +kernel
theorem dX12_refusal_47 : decode cX12_refusal 47 = .ok (.iaload, 1) := by decide +kernel
theorem dX12_refusal_48 : decode cX12_refusal 48 = .ok (.iadd, 1) := by decide +kernel
theorem dX12_refusal_49 : decode cX12_refusal 49 = .ok (.if_icmp .ge 6, 3) := by decide +kernel
theorem dX12_refusal_52 : decode cX12_refusal 52 = .ok (.bipush (-3), 2) := by decide +kernel
theorem dX12_refusal_54 : decode cX12_refusal 54 = .ok (.ireturn, 1) := by decide +kernel
theorem dX12_refusal_55 : decode cX12_refusal 55 = .ok (.aload_n 0, 1) := by decide +kernel
theorem dX12_refusal_56 : decode cX12_refusal 56 = .ok (.iload_n 1, 1) := by decide +kernel
theorem dX12_refusal_57 : decode cX12_refusal 57 = .ok (.invokevirtual 216, 3) := by decide +kernel
theorem dX12_refusal_60 : decode cX12_refusal 60 = .ok (.bipush 30, 2) := by decide +kernel
theorem dX12_refusal_62 : decode cX12_refusal 62 = .ok (.if_icmp .ne 8, 3) := by decide +kernel
theorem dX12_refusal_65 : decode cX12_refusal 65 = .ok (.bipush (-4), 2) := by decide +kernel
theorem dX12_refusal_67 : decode cX12_refusal 67 = .ok (.goto 4, 3) := by decide +kernel
theorem dX12_refusal_70 : decode cX12_refusal 70 = .ok (.iconst 0, 1) := by decide +kernel
theorem dX12_refusal_71 : decode cX12_refusal 71 = .ok (.ireturn, 1) := by decide +kernel
theorem dX12_makeHand_0 : decode cX12_makeHand 0 = .ok (.aload_n 0, 1) := by decide +kernel
theorem dX12_makeHand_1 : decode cX12_makeHand 1 = .ok (.iload_n 1, 1) := by decide +kernel
theorem dX12_makeHand_2 : decode cX12_makeHand 2 = .ok (.invokevirtual 216, 3) := by decide +kernel
theorem dX12_makeHand_5 : decode cX12_makeHand 5 = .ok (.istore_n 3, 1) := by decide +kernel
theorem dX12_makeHand_6 : decode cX12_makeHand 6 = .ok (.iconst 0, 1) := by decide +kernel
theorem dX12_makeHand_7 : decode cX12_makeHand 7 = .ok (.istore 4, 2) := by decide +kernel
theorem dX12_makeHand_9 : decode cX12_makeHand 9 = .ok (.iload 4, 2) := by decide +kernel
theorem dX12_makeHand_11 : decode cX12_makeHand 11 = .ok (.iload_n 3, 1) := by decide +kernel
theorem dX12_makeHand_12 : decode cX12_makeHand 12 = .ok (.if_icmp .ge 27, 3) := by decide +kernel
theorem dX12_makeHand_15 : decode cX12_makeHand 15 = .ok (.aload_n 0, 1) := by decide +kernel
theorem dX12_makeHand_16 : decode cX12_makeHand 16 = .ok (.getfield 38, 3) := by decide +kernel
theorem dX12_makeHand_19 : decode cX12_makeHand 19 = .ok (.iload 4, 2) := by decide +kernel
theorem dX12_makeHand_21 : decode cX12_makeHand 21 = .ok (.aload_n 0, 1) := by decide +kernel
theorem dX12_makeHand_22 : decode cX12_makeHand 22 = .ok (.getfield 35, 3) := by decide +kernel
theorem dX12_makeHand_25 : decode cX12_makeHand 25 = .ok (.iload_n 1, 1) := by decide +kernel
theorem dX12_makeHand_26 : decode cX12_makeHand 26 = .ok (.iload 4, 2) := by decide +kernel
theorem dX12_makeHand_28 : decode cX12_makeHand 28 = .ok (.invokestatic 219, 3) := by decide +kernel
theorem dX12_makeHand_31 : decode cX12_makeHand 31 = .ok (.iaload, 1) := by decide +kernel
theorem dX12_makeHand_32 : decode cX12_makeHand 32 = .ok (.iastore, 1) := by decide +kernel
theorem dX12_makeHand_33 : decode cX12_makeHand 33 = .ok (.iinc 4 1, 3) := by decide +kernel
theorem dX12_makeHand_36 : decode cX12_makeHand 36 = .ok (.goto (-27), 3) := by decide +kernel
theorem dX12_makeHand_39 : decode cX12_makeHand 39 = .ok (.aload_n 0, 1) := by decide +kernel
theorem dX12_makeHand_40 : decode cX12_makeHand 40 = .ok (.iload_n 1, 1) := by decide +kernel
theorem dX12_makeHand_41 : decode cX12_makeHand 41 = .ok (.invokevirtual 224, 3) := by decide +kernel
theorem dX12_makeHand_44 : decode cX12_makeHand 44 = .ok (.istore 4, 2) := by decide +kernel
theorem dX12_makeHand_46 : decode cX12_makeHand 46 = .ok (.aload_n 0, 1) := by decide +kernel
theorem dX12_makeHand_47 : decode cX12_makeHand 47 = .ok (.iload 4, 2) := by decide +kernel
theorem dX12_makeHand_49 : decode cX12_makeHand 49 = .ok (.iload_n 2, 1) := by decide +kernel
theorem dX12_makeHand_50 : decode cX12_makeHand 50 = .ok (.invokevirtual 234, 3) := by decide +kernel
theorem dX12_makeHand_53 : decode cX12_makeHand 53 = .ok (.istore 5, 2) := by decide +kernel
theorem dX12_makeHand_55 : decode cX12_makeHand 55 = .ok (.aload_n 0, 1) := by decide +kernel
theorem dX12_makeHand_56 : decode cX12_makeHand 56 = .ok (.iload 5, 2) := by decide +kernel
theorem dX12_makeHand_58 : decode cX12_makeHand 58 = .ok (.iload 4, 2) := by decide +kernel
theorem dX12_makeHand_60 : decode cX12_makeHand 60 = .ok (.aload_n 0, 1) := by decide +kernel
theorem dX12_makeHand_61 : decode cX12_makeHand 61 = .ok (.getfield 19, 3) := by decide +kernel
theorem dX12_makeHand_64 : decode cX12_makeHand 64 = .ok (.iload_n 2, 1) := by decide +kernel
theorem dX12_makeHand_65 : decode cX12_makeHand 65 = .ok (.iaload, 1) := by decide +kernel
theorem dX12_makeHand_66 : decode cX12_makeHand 66 = .ok (.aload_n 0, 1) := by decide +kernel
theorem dX12_makeHand_67 : decode cX12_makeHand 67 = .ok (.getfield 38, 3) := by decide +kernel
theorem dX12_makeHand_70 : decode cX12_makeHand 70 = .ok (.iconst 0, 1) := by decide +kernel
theorem dX12_makeHand_71 : decode cX12_makeHand 71 = .ok (.iload_n 3, 1) := by decide +kernel
theorem dX12_makeHand_72 : decode cX12_makeHand 72 = .ok (.invokevirtual 237, 3) := by decide +kernel
theorem dX12_makeHand_75 : decode cX12_makeHand 75 = .ok (.istore 6, 2) := by decide +kernel
theorem dX12_makeHand_77 : decode cX12_makeHand 77 = .ok (.aload_n 0, 1) := by decide +kernel
theorem dX12_makeHand_78 : decode cX12_makeHand 78 = .ok (.getfield 35, 3) := by decide +kernel
theorem dX12_makeHand_81 : decode cX12_makeHand 81 = .ok (.iload_n 1, 1) := by decide +kernel
theorem dX12_makeHand_82 : decode cX12_makeHand 82 = .ok (.iload_n 3, 1) := by decide +kernel
theorem dX12_makeHand_83 : decode cX12_makeHand 83 = .ok (.invokestatic 219, 3) := by decide +kernel
theorem dX12_makeHand_86 : decode cX12_makeHand 86 = .ok (.iload 6, 2) := by decide +kernel
theorem dX12_makeHand_88 : decode cX12_makeHand 88 = .ok (.iastore, 1) := by decide +kernel
theorem dX12_makeHand_89 : decode cX12_makeHand 89 = .ok (.aload_n 0, 1) := by decide +kernel
theorem dX12_makeHand_90 : decode cX12_makeHand 90 = .ok (.getfield 35, 3) := by decide +kernel
theorem dX12_makeHand_93 : decode cX12_makeHand 93 = .ok (.iload_n 1, 1) := by decide +kernel
theorem dX12_makeHand_94 : decode cX12_makeHand 94 = .ok (.iload_n 3, 1) := by decide +kernel
theorem dX12_makeHand_95 : decode cX12_makeHand 95 = .ok (.invokestatic 219, 3) := by decide +kernel
theorem dX12_makeHand_98 : decode cX12_makeHand 98 = .ok (.iconst 1, 1) := by decide +kernel
theorem dX12_makeHand_99 : decode cX12_makeHand 99 = .ok (.iadd, 1) := by decide +kernel
theorem dX12_makeHand_100 : decode cX12_makeHand 100 = .ok (.iload 5, 2) := by decide +kernel
theorem dX12_makeHand_102 : decode cX12_makeHand 102 = .ok (.iastore, 1) := by decide +kernel
theorem dX12_makeHand_103 : decode cX12_makeHand 103 = .ok (.aload_n 0, 1) := by decide +kernel
theorem dX12_makeHand_104 : decode cX12_makeHand 104 = .ok (.getfield 35, 3) := by decide +kernel
theorem dX12_makeHand_107 : decode cX12_makeHand 107 = .ok (.iload_n 1, 1) := by decide +kernel
theorem dX12_makeHand_108 : decode cX12_makeHand 108 = .ok (.iload_n 3, 1) := by decide +kernel
theorem dX12_makeHand_109 : decode cX12_makeHand 109 = .ok (.invokestatic 219, 3) := by decide +kernel
theorem dX12_makeHand_112 : decode cX12_makeHand 112 = .ok (.iconst 2, 1) := by decide +kernel
theorem dX12_makeHand_113 : decode cX12_makeHand 113 = .ok (.iadd, 1) := by decide +kernel
theorem dX12_makeHand_114 : decode cX12_makeHand 114 = .ok (.aload_n 0, 1) := by decide +kernel
theorem dX12_makeHand_115 : decode cX12_makeHand 115 = .ok (.getfield 19, 3) := by decide +kernel
theorem dX12_makeHand_118 : decode cX12_makeHand 118 = .ok (.iload_n 2, 1) := by decide +kernel
theorem dX12_makeHand_119 : decode cX12_makeHand 119 = .ok (.iaload, 1) := by decide +kernel
theorem dX12_makeHand_120 : decode cX12_makeHand 120 = .ok (.iastore, 1) := by decide +kernel
theorem dX12_makeHand_121 : decode cX12_makeHand 121 = .ok (.aload_n 0, 1) := by decide +kernel
theorem dX12_makeHand_122 : decode cX12_makeHand 122 = .ok (.getfield 35, 3) := by decide +kernel
theorem dX12_makeHand_125 : decode cX12_makeHand 125 = .ok (.bipush 91, 2) := by decide +kernel
theorem dX12_makeHand_127 : decode cX12_makeHand 127 = .ok (.iload_n 1, 1) := by decide +kernel
theorem dX12_makeHand_128 : decode cX12_makeHand 128 = .ok (.imul, 1) := by decide +kernel
theorem dX12_makeHand_129 : decode cX12_makeHand 129 = .ok (.dup2, 1) := by decide +kernel
theorem dX12_makeHand_130 : decode cX12_makeHand 130 = .ok (.iaload, 1) := by decide +kernel
theorem dX12_makeHand_131 : decode cX12_makeHand 131 = .ok (.iconst 1, 1) := by decide +kernel
theorem dX12_makeHand_132 : decode cX12_makeHand 132 = .ok (.iadd, 1) := by decide +kernel
theorem dX12_makeHand_133 : decode cX12_makeHand 133 = .ok (.iastore, 1) := by decide +kernel
theorem dX12_makeHand_134 : decode cX12_makeHand 134 = .ok (.iload 6, 2) := by decide +kernel
theorem dX12_makeHand_136 : decode cX12_makeHand 136 = .ok (.ireturn, 1) := by decide +kernel
theorem dX12_hand_0 : decode cX12_hand 0 = .ok (.aload_n 0, 1) := by decide +kernel
theorem dX12_hand_1 : decode cX12_hand 1 = .ok (.iconst 0, 1) := by decide +kernel
theorem dX12_hand_2 : decode cX12_hand 2 = .ok (.putfield 96, 3) := by decide +kernel
theorem dX12_hand_5 : decode cX12_hand 5 = .ok (.aload_n 0, 1) := by decide +kernel
theorem dX12_hand_6 : decode cX12_hand 6 = .ok (.iload_n 1, 1) := by decide +kernel
theorem dX12_hand_7 : decode cX12_hand 7 = .ok (.invokevirtual 241, 3) := by decide +kernel
theorem dX12_hand_10 : decode cX12_hand 10 = .ok (.ifCond .eq 11, 3) := by decide +kernel
theorem dX12_hand_13 : decode cX12_hand 13 = .ok (.aload_n 0, 1) := by decide +kernel
theorem dX12_hand_14 : decode cX12_hand 14 = .ok (.iload_n 2, 1) := by decide +kernel
theorem dX12_hand_15 : decode cX12_hand 15 = .ok (.invokevirtual 201, 3) := by decide +kernel
theorem dX12_hand_18 : decode cX12_hand 18 = .ok (.ifCond .ne 5, 3) := by decide +kernel
theorem dX12_hand_21 : decode cX12_hand 21 = .ok (.iconst (-1), 1) := by decide +kernel
theorem dX12_hand_22 : decode cX12_hand 22 = .ok (.ireturn, 1) := by decide +kernel
theorem dX12_hand_23 : decode cX12_hand 23 = .ok (.aload_n 0, 1) := by decide +kernel
theorem dX12_hand_24 : decode cX12_hand 24 = .ok (.iload_n 1, 1) := by decide +kernel
theorem dX12_hand_25 : decode cX12_hand 25 = .ok (.iload_n 2, 1) := by decide +kernel
theorem dX12_hand_26 : decode cX12_hand 26 = .ok (.invokevirtual 244, 3) := by decide +kernel
theorem dX12_hand_29 : decode cX12_hand 29 = .ok (.istore_n 3, 1) := by decide +kernel
theorem dX12_hand_30 : decode cX12_hand 30 = .ok (.iload_n 3, 1) := by decide +kernel
theorem dX12_hand_31 : decode cX12_hand 31 = .ok (.ifCond .ge 7, 3) := by decide +kernel
theorem dX12_hand_34 : decode cX12_hand 34 = .ok (.iload_n 3, 1) := by decide +kernel
theorem dX12_hand_35 : decode cX12_hand 35 = .ok (.goto 9, 3) := by decide +kernel
theorem dX12_hand_38 : decode cX12_hand 38 = .ok (.aload_n 0, 1) := by decide +kernel
theorem dX12_hand_39 : decode cX12_hand 39 = .ok (.iload_n 1, 1) := by decide +kernel
theorem dX12_hand_40 : decode cX12_hand 40 = .ok (.iload_n 2, 1) := by decide +kernel
theorem dX12_hand_41 : decode cX12_hand 41 = .ok (.invokevirtual 247, 3) := by decide +kernel
theorem dX12_hand_44 : decode cX12_hand 44 = .ok (.ireturn, 1) := by decide +kernel
theorem dX12_undo_0 : decode cX12_undo 0 = .ok (.aload_n 0, 1) := by decide +kernel
theorem dX12_undo_1 : decode cX12_undo 1 = .ok (.iconst 0, 1) := by decide +kernel
theorem dX12_undo_2 : decode cX12_undo 2 = .ok (.putfield 96, 3) := by decide +kernel
theorem dX12_undo_5 : decode cX12_undo 5 = .ok (.aload_n 0, 1) := by decide +kernel
theorem dX12_undo_6 : decode cX12_undo 6 = .ok (.iload_n 1, 1) := by decide +kernel
theorem dX12_undo_7 : decode cX12_undo 7 = .ok (.invokevirtual 241, 3) := by decide +kernel
theorem dX12_undo_10 : decode cX12_undo 10 = .ok (.ifCond .eq 12, 3) := by decide +kernel
theorem dX12_undo_13 : decode cX12_undo 13 = .ok (.aload_n 0, 1) := by decide +kernel
theorem dX12_undo_14 : decode cX12_undo 14 = .ok (.iload_n 1, 1) := by decide +kernel
theorem dX12_undo_15 : decode cX12_undo 15 = .ok (.invokevirtual 216, 3) := by decide +kernel
theorem dX12_undo_18 : decode cX12_undo 18 = .ok (.iconst 1, 1) := by decide +kernel
theorem dX12_undo_19 : decode cX12_undo 19 = .ok (.if_icmp .ne 5, 3) := by decide +kernel
theorem dX12_undo_22 : decode cX12_undo 22 = .ok (.iconst (-1), 1) := by decide +kernel
theorem dX12_undo_23 : decode cX12_undo 23 = .ok (.ireturn, 1) := by decide +kernel
theorem dX12_undo_24 : decode cX12_undo 24 = .ok (.aload_n 0, 1) := by decide +kernel
theorem dX12_undo_25 : decode cX12_undo 25 = .ok (.getfield 35, 3) := by decide +kernel
theorem dX12_undo_28 : decode cX12_undo 28 = .ok (.bipush 91, 2) := by decide +kernel
theorem dX12_undo_30 : decode cX12_undo 30 = .ok (.iload_n 1, 1) := by decide +kernel
theorem dX12_undo_31 : decode cX12_undo 31 = .ok (.imul, 1) := by decide +kernel
theorem dX12_undo_32 : decode cX12_undo 32 = .ok (.dup2, 1) := by decide +kernel
theorem dX12_undo_33 : decode cX12_undo 33 = .ok (.iaload, 1) := by decide +kernel
theorem dX12_undo_34 : decode cX12_undo 34 = .ok (.iconst 1, 1) := by decide +kernel
theorem dX12_undo_35 : decode cX12_undo 35 = .ok (.isub, 1) := by decide +kernel
theorem dX12_undo_36 : decode cX12_undo 36 = .ok (.iastore, 1) := by decide +kernel
theorem dX12_undo_37 : decode cX12_undo 37 = .ok (.aload_n 0, 1) := by decide +kernel
theorem dX12_undo_38 : decode cX12_undo 38 = .ok (.iload_n 1, 1) := by decide +kernel
theorem dX12_undo_39 : decode cX12_undo 39 = .ok (.invokevirtual 216, 3) := by decide +kernel
theorem dX12_undo_42 : decode cX12_undo 42 = .ok (.iconst 1, 1) := by decide +kernel
theorem dX12_undo_43 : decode cX12_undo 43 = .ok (.isub, 1) := by decide +kernel
theorem dX12_undo_44 : decode cX12_undo 44 = .ok (.ireturn, 1) := by decide +kernel
theorem dX12_lines_0 : decode cX12_lines 0 = .ok (.aload_n 0, 1) := by decide +kernel
theorem dX12_lines_1 : decode cX12_lines 1 = .ok (.iconst 0, 1) := by decide +kernel
theorem dX12_lines_2 : decode cX12_lines 2 = .ok (.putfield 96, 3) := by decide +kernel
theorem dX12_lines_5 : decode cX12_lines 5 = .ok (.aload_n 0, 1) := by decide +kernel
theorem dX12_lines_6 : decode cX12_lines 6 = .ok (.iload_n 1, 1) := by decide +kernel
theorem dX12_lines_7 : decode cX12_lines 7 = .ok (.invokevirtual 241, 3) := by decide +kernel
theorem dX12_lines_10 : decode cX12_lines 10 = .ok (.ifCond .ne 5, 3) := by decide +kernel
theorem dX12_lines_13 : decode cX12_lines 13 = .ok (.iconst (-1), 1) := by decide +kernel
theorem dX12_lines_14 : decode cX12_lines 14 = .ok (.ireturn, 1) := by decide +kernel
theorem dX12_lines_15 : decode cX12_lines 15 = .ok (.aload_n 0, 1) := by decide +kernel
theorem dX12_lines_16 : decode cX12_lines 16 = .ok (.iconst 0, 1) := by decide +kernel
theorem dX12_lines_17 : decode cX12_lines 17 = .ok (.putfield 99, 3) := by decide +kernel
theorem dX12_lines_20 : decode cX12_lines 20 = .ok (.iconst 0, 1) := by decide +kernel
theorem dX12_lines_21 : decode cX12_lines 21 = .ok (.istore_n 2, 1) := by decide +kernel
theorem dX12_lines_22 : decode cX12_lines 22 = .ok (.iload_n 2, 1) := by decide +kernel
theorem dX12_lines_23 : decode cX12_lines 23 = .ok (.aload_n 0, 1) := by decide +kernel
theorem dX12_lines_24 : decode cX12_lines 24 = .ok (.iload_n 1, 1) := by decide +kernel
theorem dX12_lines_25 : decode cX12_lines 25 = .ok (.invokevirtual 216, 3) := by decide +kernel
theorem dX12_lines_28 : decode cX12_lines 28 = .ok (.if_icmp .ge 29, 3) := by decide +kernel
theorem dX12_lines_31 : decode cX12_lines 31 = .ok (.iload_n 2, 1) := by decide +kernel
theorem dX12_lines_32 : decode cX12_lines 32 = .ok (.bipush 12, 2) := by decide +kernel
theorem dX12_lines_34 : decode cX12_lines 34 = .ok (.if_icmp .ge 23, 3) := by decide +kernel
theorem dX12_lines_37 : decode cX12_lines 37 = .ok (.aload_n 0, 1) := by decide +kernel
theorem dX12_lines_38 : decode cX12_lines 38 = .ok (.aload_n 0, 1) := by decide +kernel
theorem dX12_lines_39 : decode cX12_lines 39 = .ok (.getfield 35, 3) := by decide +kernel
theorem dX12_lines_42 : decode cX12_lines 42 = .ok (.iload_n 1, 1) := by decide +kernel
theorem dX12_lines_43 : decode cX12_lines 43 = .ok (.iload_n 2, 1) := by decide +kernel
theorem dX12_lines_44 : decode cX12_lines 44 = .ok (.invokestatic 219, 3) := by decide +kernel
theorem dX12_lines_47 : decode cX12_lines 47 = .ok (.iaload, 1) := by decide +kernel
theorem dX12_lines_48 : decode cX12_lines 48 = .ok (.invokevirtual 250, 3) := by decide +kernel
theorem dX12_lines_51 : decode cX12_lines 51 = .ok (.iinc 2 1, 3) := by decide +kernel
theorem dX12_lines_54 : decode cX12_lines 54 = .ok (.goto (-32), 3) := by decide +kernel
theorem dX12_lines_57 : decode cX12_lines 57 = .ok (.aload_n 0, 1) := by decide +kernel
theorem dX12_lines_58 : decode cX12_lines 58 = .ok (.iload_n 1, 1) := by decide +kernel
theorem dX12_lines_59 : decode cX12_lines 59 = .ok (.invokevirtual 216, 3) := by decide +kernel
theorem dX12_lines_62 : decode cX12_lines 62 = .ok (.ireturn, 1) := by decide +kernel
theorem dX12_of_0 : decode cX12_of 0 = .ok (.aload_n 0, 1) := by decide +kernel
theorem dX12_of_1 : decode cX12_of 1 = .ok (.iconst 0, 1) := by decide +kernel
theorem dX12_of_2 : decode cX12_of 2 = .ok (.putfield 96, 3) := by decide +kernel
theorem dX12_of_5 : decode cX12_of 5 = .ok (.aload_n 0, 1) := by decide +kernel
theorem dX12_of_6 : decode cX12_of 6 = .ok (.iload_n 1, 1) := by decide +kernel
theorem dX12_of_7 : decode cX12_of 7 = .ok (.invokevirtual 241, 3) := by decide +kernel
theorem dX12_of_10 : decode cX12_of 10 = .ok (.ifCond .ne 5, 3) := by decide +kernel
theorem dX12_of_13 : decode cX12_of 13 = .ok (.iconst (-1), 1) := by decide +kernel
theorem dX12_of_14 : decode cX12_of 14 = .ok (.ireturn, 1) := by decide +kernel
theorem dX12_of_15 : decode cX12_of 15 = .ok (.iload_n 2, 1) := by decide +kernel
theorem dX12_of_16 : decode cX12_of 16 = .ok (.tableswitch 80 0 4 #[36, 49, 62, 68, 74], 36) := by decide +kernel
theorem dX12_of_52 : decode cX12_of 52 = .ok (.aload_n 0, 1) := by decide +kernel
theorem dX12_of_53 : decode cX12_of 53 = .ok (.getfield 35, 3) := by decide +kernel
theorem dX12_of_56 : decode cX12_of 56 = .ok (.iload_n 1, 1) := by decide +kernel
theorem dX12_of_57 : decode cX12_of 57 = .ok (.iconst 0, 1) := by decide +kernel
theorem dX12_of_58 : decode cX12_of 58 = .ok (.invokestatic 219, 3) := by decide +kernel
theorem dX12_of_61 : decode cX12_of 61 = .ok (.iconst 1, 1) := by decide +kernel
theorem dX12_of_62 : decode cX12_of 62 = .ok (.iadd, 1) := by decide +kernel
theorem dX12_of_63 : decode cX12_of 63 = .ok (.iaload, 1) := by decide +kernel
theorem dX12_of_64 : decode cX12_of 64 = .ok (.ireturn, 1) := by decide +kernel
theorem dX12_of_65 : decode cX12_of 65 = .ok (.aload_n 0, 1) := by decide +kernel
theorem dX12_of_66 : decode cX12_of 66 = .ok (.getfield 35, 3) := by decide +kernel
theorem dX12_of_69 : decode cX12_of 69 = .ok (.iload_n 1, 1) := by decide +kernel
theorem dX12_of_70 : decode cX12_of 70 = .ok (.iconst 0, 1) := by decide +kernel
theorem dX12_of_71 : decode cX12_of 71 = .ok (.invokestatic 219, 3) := by decide +kernel
theorem dX12_of_74 : decode cX12_of 74 = .ok (.iconst 2, 1) := by decide +kernel
theorem dX12_of_75 : decode cX12_of 75 = .ok (.iadd, 1) := by decide +kernel
theorem dX12_of_76 : decode cX12_of 76 = .ok (.iaload, 1) := by decide +kernel
theorem dX12_of_77 : decode cX12_of 77 = .ok (.ireturn, 1) := by decide +kernel
theorem dX12_of_78 : decode cX12_of 78 = .ok (.aload_n 0, 1) := by decide +kernel
theorem dX12_of_79 : decode cX12_of 79 = .ok (.iload_n 1, 1) := by decide +kernel
theorem dX12_of_80 : decode cX12_of 80 = .ok (.invokevirtual 224, 3) := by decide +kernel
theorem dX12_of_83 : decode cX12_of 83 = .ok (.ireturn, 1) := by decide +kernel
theorem dX12_of_84 : decode cX12_of 84 = .ok (.aload_n 0, 1) := by decide +kernel
theorem dX12_of_85 : decode cX12_of 85 = .ok (.iload_n 1, 1) := by decide +kernel
theorem dX12_of_86 : decode cX12_of 86 = .ok (.invokevirtual 231, 3) := by decide +kernel
theorem dX12_of_89 : decode cX12_of 89 = .ok (.ireturn, 1) := by decide +kernel
theorem dX12_of_90 : decode cX12_of 90 = .ok (.aload_n 0, 1) := by decide +kernel
theorem dX12_of_91 : decode cX12_of 91 = .ok (.iload_n 1, 1) := by decide +kernel
theorem dX12_of_92 : decode cX12_of 92 = .ok (.invokevirtual 253, 3) := by decide +kernel
theorem dX12_of_95 : decode cX12_of 95 = .ok (.ireturn, 1) := by decide +kernel
theorem dX12_of_96 : decode cX12_of 96 = .ok (.iconst (-1), 1) := by decide +kernel
theorem dX12_of_97 : decode cX12_of 97 = .ok (.ireturn, 1) := by decide +kernel
theorem dX12_can_0 : decode cX12_can 0 = .ok (.aload_n 0, 1) := by decide +kernel
theorem dX12_can_1 : decode cX12_can 1 = .ok (.iconst 0, 1) := by decide +kernel
theorem dX12_can_2 : decode cX12_can 2 = .ok (.putfield 96, 3) := by decide +kernel
theorem dX12_can_5 : decode cX12_can 5 = .ok (.aload_n 0, 1) := by decide +kernel
theorem dX12_can_6 : decode cX12_can 6 = .ok (.iload_n 1, 1) := by decide +kernel
theorem dX12_can_7 : decode cX12_can 7 = .ok (.invokevirtual 241, 3) := by decide +kernel
theorem dX12_can_10 : decode cX12_can 10 = .ok (.ifCond .ne 5, 3) := by decide +kernel
theorem dX12_can_13 : decode cX12_can 13 = .ok (.iconst (-1), 1) := by decide +kernel
theorem dX12_can_14 : decode cX12_can 14 = .ok (.ireturn, 1) := by decide +kernel
theorem dX12_can_15 : decode cX12_can 15 = .ok (.iconst 0, 1) := by decide +kernel
theorem dX12_can_16 : decode cX12_can 16 = .ok (.istore_n 2, 1) := by decide +kernel
theorem dX12_can_17 : decode cX12_can 17 = .ok (.iconst 0, 1) := by decide +kernel
theorem dX12_can_18 : decode cX12_can 18 = .ok (.istore_n 3, 1) := by decide +kernel
theorem dX12_can_19 : decode cX12_can 19 = .ok (.iload_n 3, 1) := by decide +kernel
theorem dX12_can_20 : decode cX12_can 20 = .ok (.aload_n 0, 1) := by decide +kernel
theorem dX12_can_21 : decode cX12_can 21 = .ok (.getfield 109, 3) := by decide +kernel
theorem dX12_can_24 : decode cX12_can 24 = .ok (.if_icmp .ge 28, 3) := by decide +kernel
theorem dX12_can_27 : decode cX12_can 27 = .ok (.iload_n 2, 1) := by decide +kernel
theorem dX12_can_28 : decode cX12_can 28 = .ok (.aload_n 0, 1) := by decide +kernel
theorem dX12_can_29 : decode cX12_can 29 = .ok (.iload_n 1, 1) := by decide +kernel
theorem dX12_can_30 : decode cX12_can 30 = .ok (.iload_n 3, 1) := by decide +kernel
theorem dX12_can_31 : decode cX12_can 31 = .ok (.invokevirtual 244, 3) := by decide +kernel
theorem dX12_can_34 : decode cX12_can 34 = .ok (.ifCond .ne 9, 3) := by decide +kernel
theorem dX12_can_37 : decode cX12_can 37 = .ok (.iconst 1, 1) := by decide +kernel
theorem dX12_can_38 : decode cX12_can 38 = .ok (.iload_n 3, 1) := by decide +kernel
theorem dX12_can_39 : decode cX12_can 39 = .ok (.ishl, 1) := by decide +kernel
theorem dX12_can_40 : decode cX12_can 40 = .ok (.goto 4, 3) := by decide +kernel
theorem dX12_can_43 : decode cX12_can 43 = .ok (.iconst 0, 1) := by decide +kernel
theorem dX12_can_44 : decode cX12_can 44 = .ok (.ior, 1) := by decide +kernel
theorem dX12_can_45 : decode cX12_can 45 = .ok (.istore_n 2, 1) := by decide +kernel
theorem dX12_can_46 : decode cX12_can 46 = .ok (.iinc 3 1, 3) := by decide +kernel
theorem dX12_can_49 : decode cX12_can 49 = .ok (.goto (-30), 3) := by decide +kernel
theorem dX12_can_52 : decode cX12_can 52 = .ok (.iload_n 2, 1) := by decide +kernel
theorem dX12_can_53 : decode cX12_can 53 = .ok (.ireturn, 1) := by decide +kernel
theorem dX12_goes_0 : decode cX12_goes 0 = .ok (.aload_n 0, 1) := by decide +kernel
theorem dX12_goes_1 : decode cX12_goes 1 = .ok (.iconst 0, 1) := by decide +kernel
theorem dX12_goes_2 : decode cX12_goes 2 = .ok (.putfield 96, 3) := by decide +kernel
theorem dX12_goes_5 : decode cX12_goes 5 = .ok (.aload_n 0, 1) := by decide +kernel
theorem dX12_goes_6 : decode cX12_goes 6 = .ok (.iload_n 1, 1) := by decide +kernel
theorem dX12_goes_7 : decode cX12_goes 7 = .ok (.invokevirtual 241, 3) := by decide +kernel
theorem dX12_goes_10 : decode cX12_goes 10 = .ok (.ifCond .eq 13, 3) := by decide +kernel
theorem dX12_goes_13 : decode cX12_goes 13 = .ok (.iload_n 2, 1) := by decide +kernel
theorem dX12_goes_14 : decode cX12_goes 14 = .ok (.iconst 0, 1) := by decide +kernel
theorem dX12_goes_15 : decode cX12_goes 15 = .ok (.bipush 20, 2) := by decide +kernel
theorem dX12_goes_17 : decode cX12_goes 17 = .ok (.invokestatic 105, 3) := by decide +kernel
theorem dX12_goes_20 : decode cX12_goes 20 = .ok (.ifCond .ne 5, 3) := by decide +kernel
theorem dX12_goes_23 : decode cX12_goes 23 = .ok (.iconst (-1), 1) := by decide +kernel
theorem dX12_goes_24 : decode cX12_goes 24 = .ok (.ireturn, 1) := by decide +kernel
theorem dX12_goes_25 : decode cX12_goes 25 = .ok (.iconst 0, 1) := by decide +kernel
theorem dX12_goes_26 : decode cX12_goes 26 = .ok (.istore_n 3, 1) := by decide +kernel
theorem dX12_goes_27 : decode cX12_goes 27 = .ok (.aload_n 0, 1) := by decide +kernel
theorem dX12_goes_28 : decode cX12_goes 28 = .ok (.iload_n 1, 1) := by decide +kernel
theorem dX12_goes_29 : decode cX12_goes 29 = .ok (.invokevirtual 256, 3) := by decide +kernel
theorem dX12_goes_32 : decode cX12_goes 32 = .ok (.istore 4, 2) := by decide +kernel
theorem dX12_goes_34 : decode cX12_goes 34 = .ok (.iload_n 3, 1) := by decide +kernel
theorem dX12_goes_35 : decode cX12_goes 35 = .ok (.iload_n 2, 1) := by decide +kernel
theorem dX12_goes_36 : decode cX12_goes 36 = .ok (.if_icmp .ge 30, 3) := by decide +kernel
theorem dX12_goes_39 : decode cX12_goes 39 = .ok (.iload 4, 2) := by decide +kernel
theorem dX12_goes_41 : decode cX12_goes 41 = .ok (.iconst (-1), 1) := by decide +kernel
theorem dX12_goes_42 : decode cX12_goes 42 = .ok (.if_icmp .eq 24, 3) := by decide +kernel
theorem dX12_goes_45 : decode cX12_goes 45 = .ok (.aload_n 0, 1) := by decide +kernel
theorem dX12_goes_46 : decode cX12_goes 46 = .ok (.iload_n 1, 1) := by decide +kernel
theorem dX12_goes_47 : decode cX12_goes 47 = .ok (.iload 4, 2) := by decide +kernel
theorem dX12_goes_49 : decode cX12_goes 49 = .ok (.invokevirtual 247, 3) := by decide +kernel
theorem dX12_goes_52 : decode cX12_goes 52 = .ok (.pop, 1) := by decide +kernel
theorem dX12_goes_53 : decode cX12_goes 53 = .ok (.iinc 3 1, 3) := by decide +kernel
theorem dX12_goes_56 : decode cX12_goes 56 = .ok (.aload_n 0, 1) := by decide +kernel
theorem dX12_goes_57 : decode cX12_goes 57 = .ok (.iload_n 1, 1) := by decide +kernel
theorem dX12_goes_58 : decode cX12_goes 58 = .ok (.invokevirtual 256, 3) := by decide +kernel
theorem dX12_goes_61 : decode cX12_goes 61 = .ok (.istore 4, 2) := by decide +kernel
theorem dX12_goes_63 : decode cX12_goes 63 = .ok (.goto (-29), 3) := by decide +kernel
theorem dX12_goes_66 : decode cX12_goes 66 = .ok (.aload_n 0, 1) := by decide +kernel
theorem dX12_goes_67 : decode cX12_goes 67 = .ok (.iconst 0, 1) := by decide +kernel
theorem dX12_goes_68 : decode cX12_goes 68 = .ok (.putfield 99, 3) := by decide +kernel
theorem dX12_goes_71 : decode cX12_goes 71 = .ok (.aload_n 0, 1) := by decide +kernel
theorem dX12_goes_72 : decode cX12_goes 72 = .ok (.aload_n 0, 1) := by decide +kernel
theorem dX12_goes_73 : decode cX12_goes 73 = .ok (.iload_n 1, 1) := by decide +kernel
theorem dX12_goes_74 : decode cX12_goes 74 = .ok (.invokevirtual 224, 3) := by decide +kernel
theorem dX12_goes_77 : decode cX12_goes 77 = .ok (.invokevirtual 250, 3) := by decide +kernel
theorem dX12_goes_80 : decode cX12_goes 80 = .ok (.aload_n 0, 1) := by decide +kernel
theorem dX12_goes_81 : decode cX12_goes 81 = .ok (.aload_n 0, 1) := by decide +kernel
theorem dX12_goes_82 : decode cX12_goes 82 = .ok (.iload_n 1, 1) := by decide +kernel
theorem dX12_goes_83 : decode cX12_goes 83 = .ok (.invokevirtual 231, 3) := by decide +kernel
theorem dX12_goes_86 : decode cX12_goes 86 = .ok (.invokevirtual 250, 3) := by decide +kernel
theorem dX12_goes_89 : decode cX12_goes 89 = .ok (.iload_n 3, 1) := by decide +kernel
theorem dX12_goes_90 : decode cX12_goes 90 = .ok (.ireturn, 1) := by decide +kernel
theorem dX12_firstNew_0 : decode cX12_firstNew 0 = .ok (.iconst (-1), 1) := by decide +kernel
theorem dX12_firstNew_1 : decode cX12_firstNew 1 = .ok (.istore_n 2, 1) := by decide +kernel
theorem dX12_firstNew_2 : decode cX12_firstNew 2 = .ok (.iconst 0, 1) := by decide +kernel
theorem dX12_firstNew_3 : decode cX12_firstNew 3 = .ok (.istore_n 3, 1) := by decide +kernel
theorem dX12_firstNew_4 : decode cX12_firstNew 4 = .ok (.iload_n 3, 1) := by decide +kernel
theorem dX12_firstNew_5 : decode cX12_firstNew 5 = .ok (.aload_n 0, 1) := by decide +kernel
theorem dX12_firstNew_6 : decode cX12_firstNew 6 = .ok (.getfield 109, 3) := by decide +kernel
theorem dX12_firstNew_9 : decode cX12_firstNew 9 = .ok (.if_icmp .ge 64, 3) := by decide +kernel
theorem dX12_firstNew_12 : decode cX12_firstNew 12 = .ok (.aload_n 0, 1) := by decide +kernel
theorem dX12_firstNew_13 : decode cX12_firstNew 13 = .ok (.iload_n 1, 1) := by decide +kernel
theorem dX12_firstNew_14 : decode cX12_firstNew 14 = .ok (.iload_n 3, 1) := by decide +kernel
theorem dX12_firstNew_15 : decode cX12_firstNew 15 = .ok (.invokevirtual 244, 3) := by decide +kernel
theorem dX12_firstNew_18 : decode cX12_firstNew 18 = .ok (.ifCond .lt 49, 3) := by decide +kernel
theorem dX12_firstNew_21 : decode cX12_firstNew 21 = .ok (.aload_n 0, 1) := by decide +kernel
theorem dX12_firstNew_22 : decode cX12_firstNew 22 = .ok (.iload_n 1, 1) := by decide +kernel
theorem dX12_firstNew_23 : decode cX12_firstNew 23 = .ok (.invokevirtual 253, 3) := by decide +kernel
theorem dX12_firstNew_26 : decode cX12_firstNew 26 = .ok (.aload_n 0, 1) := by decide +kernel
theorem dX12_firstNew_27 : decode cX12_firstNew 27 = .ok (.aload_n 0, 1) := by decide +kernel
theorem dX12_firstNew_28 : decode cX12_firstNew 28 = .ok (.iload_n 1, 1) := by decide +kernel
theorem dX12_firstNew_29 : decode cX12_firstNew 29 = .ok (.invokevirtual 224, 3) := by decide +kernel
theorem dX12_firstNew_32 : decode cX12_firstNew 32 = .ok (.iload_n 3, 1) := by decide +kernel
theorem dX12_firstNew_33 : decode cX12_firstNew 33 = .ok (.invokevirtual 234, 3) := by decide +kernel
theorem dX12_firstNew_36 : decode cX12_firstNew 36 = .ok (.invokestatic 259, 3) := by decide +kernel
theorem dX12_firstNew_39 : decode cX12_firstNew 39 = .ok (.ifCond .eq 6, 3) := by decide +kernel
theorem dX12_firstNew_42 : decode cX12_firstNew 42 = .ok (.goto 25, 3) := by decide +kernel
theorem dX12_firstNew_45 : decode cX12_firstNew 45 = .ok (.iload_n 2, 1) := by decide +kernel
theorem dX12_firstNew_46 : decode cX12_firstNew 46 = .ok (.iconst (-1), 1) := by decide +kernel
theorem dX12_firstNew_47 : decode cX12_firstNew 47 = .ok (.if_icmp .eq 18, 3) := by decide +kernel
theorem dX12_firstNew_50 : decode cX12_firstNew 50 = .ok (.aload_n 0, 1) := by decide +kernel
theorem dX12_firstNew_51 : decode cX12_firstNew 51 = .ok (.getfield 19, 3) := by decide +kernel
theorem dX12_firstNew_54 : decode cX12_firstNew 54 = .ok (.iload_n 3, 1) := by decide +kernel
theorem dX12_firstNew_55 : decode cX12_firstNew 55 = .ok (.iaload, 1) := by decide +kernel
theorem dX12_firstNew_56 : decode cX12_firstNew 56 = .ok (.aload_n 0, 1) := by decide +kernel
theorem dX12_firstNew_57 : decode cX12_firstNew 57 = .ok (.getfield 19, 3) := by decide +kernel
theorem dX12_firstNew_60 : decode cX12_firstNew 60 = .ok (.iload_n 2, 1) := by decide +kernel
theorem dX12_firstNew_61 : decode cX12_firstNew 61 = .ok (.iaload, 1) := by decide +kernel
theorem dX12_firstNew_62 : decode cX12_firstNew 62 = .ok (.if_icmp .ge 5, 3) := by decide +kernel
theorem dX12_firstNew_65 : decode cX12_firstNew 65 = .ok (.iload_n 3, 1) := by decide +kernel
theorem dX12_firstNew_66 : decode cX12_firstNew 66 = .ok (.istore_n 2, 1) := by decide +kernel
theorem dX12_firstNew_67 : decode cX12_firstNew 67 = .ok (.iinc 3 1, 3) := by decide +kernel
theorem dX12_firstNew_70 : decode cX12_firstNew 70 = .ok (.goto (-66), 3) := by decide +kernel
theorem dX12_firstNew_73 : decode cX12_firstNew 73 = .ok (.iload_n 2, 1) := by decide +kernel
theorem dX12_firstNew_74 : decode cX12_firstNew 74 = .ok (.ireturn, 1) := by decide +kernel
theorem dX12_read_0 : decode cX12_read 0 = .ok (.aload_n 0, 1) := by decide +kernel
theorem dX12_read_1 : decode cX12_read 1 = .ok (.iconst 0, 1) := by decide +kernel
theorem dX12_read_2 : decode cX12_read 2 = .ok (.putfield 96, 3) := by decide +kernel
theorem dX12_read_5 : decode cX12_read 5 = .ok (.aload_n 0, 1) := by decide +kernel
theorem dX12_read_6 : decode cX12_read 6 = .ok (.iload_n 1, 1) := by decide +kernel
theorem dX12_read_7 : decode cX12_read 7 = .ok (.invokevirtual 197, 3) := by decide +kernel
theorem dX12_read_10 : decode cX12_read 10 = .ok (.ifCond .ne 5, 3) := by decide +kernel
theorem dX12_read_13 : decode cX12_read 13 = .ok (.iconst (-1), 1) := by decide +kernel
theorem dX12_read_14 : decode cX12_read 14 = .ok (.ireturn, 1) := by decide +kernel
theorem dX12_read_15 : decode cX12_read 15 = .ok (.iconst 0, 1) := by decide +kernel
theorem dX12_read_16 : decode cX12_read 16 = .ok (.istore_n 2, 1) := by decide +kernel
theorem dX12_read_17 : decode cX12_read 17 = .ok (.iconst 0, 1) := by decide +kernel
theorem dX12_read_18 : decode cX12_read 18 = .ok (.istore_n 3, 1) := by decide +kernel
theorem dX12_read_19 : decode cX12_read 19 = .ok (.iload_n 3, 1) := by decide +kernel
theorem dX12_read_20 : decode cX12_read 20 = .ok (.iconst 3, 1) := by decide +kernel
theorem dX12_read_21 : decode cX12_read 21 = .ok (.if_icmp .ge 39, 3) := by decide +kernel
theorem dX12_read_24 : decode cX12_read 24 = .ok (.iload_n 2, 1) := by decide +kernel
theorem dX12_read_25 : decode cX12_read 25 = .ok (.aload_n 0, 1) := by decide +kernel
theorem dX12_read_26 : decode cX12_read 26 = .ok (.iload_n 3, 1) := by decide +kernel
theorem dX12_read_27 : decode cX12_read 27 = .ok (.invokevirtual 241, 3) := by decide +kernel
theorem dX12_read_30 : decode cX12_read 30 = .ok (.ifCond .eq 21, 3) := by decide +kernel
theorem dX12_read_33 : decode cX12_read 33 = .ok (.aload_n 0, 1) := by decide +kernel
theorem dX12_read_34 : decode cX12_read 34 = .ok (.iload_n 3, 1) := by decide +kernel
theorem dX12_read_35 : decode cX12_read 35 = .ok (.invokevirtual 253, 3) := by decide +kernel
theorem dX12_read_38 : decode cX12_read 38 = .ok (.iload_n 1, 1) := by decide +kernel
theorem dX12_read_39 : decode cX12_read 39 = .ok (.invokestatic 259, 3) := by decide +kernel
theorem dX12_read_42 : decode cX12_read 42 = .ok (.ifCond .eq 9, 3) := by decide +kernel
theorem dX12_read_45 : decode cX12_read 45 = .ok (.iconst 1, 1) := by decide +kernel
theorem dX12_read_46 : decode cX12_read 46 = .ok (.iload_n 3, 1) := by decide +kernel
theorem dX12_read_47 : decode cX12_read 47 = .ok (.ishl, 1) := by decide +kernel
theorem dX12_read_48 : decode cX12_read 48 = .ok (.goto 4, 3) := by decide +kernel
theorem dX12_read_51 : decode cX12_read 51 = .ok (.iconst 0, 1) := by decide +kernel
theorem dX12_read_52 : decode cX12_read 52 = .ok (.ior, 1) := by decide +kernel
theorem dX12_read_53 : decode cX12_read 53 = .ok (.istore_n 2, 1) := by decide +kernel
theorem dX12_read_54 : decode cX12_read 54 = .ok (.iinc 3 1, 3) := by decide +kernel
theorem dX12_read_57 : decode cX12_read 57 = .ok (.goto (-38), 3) := by decide +kernel
theorem dX12_read_60 : decode cX12_read 60 = .ok (.iload_n 2, 1) := by decide +kernel
theorem dX12_read_61 : decode cX12_read 61 = .ok (.ireturn, 1) := by decide +kernel
theorem dX12_giver_0 : decode cX12_giver 0 = .ok (.iload_n 1, 1) := by decide +kernel
theorem dX12_giver_1 : decode cX12_giver 1 = .ok (.iconst 2, 1) := by decide +kernel
theorem dX12_giver_2 : decode cX12_giver 2 = .ok (.irem, 1) := by decide +kernel
theorem dX12_giver_3 : decode cX12_giver 3 = .ok (.ifCond .ne 14, 3) := by decide +kernel
theorem dX12_giver_6 : decode cX12_giver 6 = .ok (.aload_n 0, 1) := by decide +kernel
theorem dX12_giver_7 : decode cX12_giver 7 = .ok (.getfield 13, 3) := by decide +kernel
theorem dX12_giver_10 : decode cX12_giver 10 = .ok (.iload_n 1, 1) := by decide +kernel
theorem dX12_giver_11 : decode cX12_giver 11 = .ok (.iconst 2, 1) := by decide +kernel
theorem dX12_giver_12 : decode cX12_giver 12 = .ok (.idiv, 1) := by decide +kernel
theorem dX12_giver_13 : decode cX12_giver 13 = .ok (.iaload, 1) := by decide +kernel
theorem dX12_giver_14 : decode cX12_giver 14 = .ok (.goto 11, 3) := by decide +kernel
theorem dX12_giver_17 : decode cX12_giver 17 = .ok (.aload_n 0, 1) := by decide +kernel
theorem dX12_giver_18 : decode cX12_giver 18 = .ok (.getfield 16, 3) := by decide +kernel
theorem dX12_giver_21 : decode cX12_giver 21 = .ok (.iload_n 1, 1) := by decide +kernel
theorem dX12_giver_22 : decode cX12_giver 22 = .ok (.iconst 2, 1) := by decide +kernel
theorem dX12_giver_23 : decode cX12_giver 23 = .ok (.idiv, 1) := by decide +kernel
theorem dX12_giver_24 : decode cX12_giver 24 = .ok (.iaload, 1) := by decide +kernel
theorem dX12_giver_25 : decode cX12_giver 25 = .ok (.ireturn, 1) := by decide +kernel
theorem dX12_getter_0 : decode cX12_getter 0 = .ok (.iload_n 1, 1) := by decide +kernel
theorem dX12_getter_1 : decode cX12_getter 1 = .ok (.iconst 2, 1) := by decide +kernel
theorem dX12_getter_2 : decode cX12_getter 2 = .ok (.irem, 1) := by decide +kernel
theorem dX12_getter_3 : decode cX12_getter 3 = .ok (.ifCond .ne 14, 3) := by decide +kernel
theorem dX12_getter_6 : decode cX12_getter 6 = .ok (.aload_n 0, 1) := by decide +kernel
theorem dX12_getter_7 : decode cX12_getter 7 = .ok (.getfield 16, 3) := by decide +kernel
theorem dX12_getter_10 : decode cX12_getter 10 = .ok (.iload_n 1, 1) := by decide +kernel
theorem dX12_getter_11 : decode cX12_getter 11 = .ok (.iconst 2, 1) := by decide +kernel
theorem dX12_getter_12 : decode cX12_getter 12 = .ok (.idiv, 1) := by decide +kernel
theorem dX12_getter_13 : decode cX12_getter 13 = .ok (.iaload, 1) := by decide +kernel
theorem dX12_getter_14 : decode cX12_getter 14 = .ok (.goto 11, 3) := by decide +kernel
theorem dX12_getter_17 : decode cX12_getter 17 = .ok (.aload_n 0, 1) := by decide +kernel
theorem dX12_getter_18 : decode cX12_getter 18 = .ok (.getfield 13, 3) := by decide +kernel
theorem dX12_getter_21 : decode cX12_getter 21 = .ok (.iload_n 1, 1) := by decide +kernel
theorem dX12_getter_22 : decode cX12_getter 22 = .ok (.iconst 2, 1) := by decide +kernel
theorem dX12_getter_23 : decode cX12_getter 23 = .ok (.idiv, 1) := by decide +kernel
theorem dX12_getter_24 : decode cX12_getter 24 = .ok (.iaload, 1) := by decide +kernel
theorem dX12_getter_25 : decode cX12_getter 25 = .ok (.ireturn, 1) := by decide +kernel
theorem dX12_findOrder_0 : decode cX12_findOrder 0 = .ok (.aload_n 0, 1) := by decide +kernel
theorem dX12_findOrder_1 : decode cX12_findOrder 1 = .ok (.iconst 2, 1) := by decide +kernel
theorem dX12_findOrder_2 : decode cX12_findOrder 2 = .ok (.aload_n 0, 1) := by decide +kernel
theorem dX12_findOrder_3 : decode cX12_findOrder 3 = .ok (.getfield 109, 3) := by decide +kernel
theorem dX12_findOrder_6 : decode cX12_findOrder 6 = .ok (.imul, 1) := by decide +kernel
theorem dX12_findOrder_7 : decode cX12_findOrder 7 = .ok (.putfield 262, 3) := by decide +kernel
theorem dX12_findOrder_10 : decode cX12_findOrder 10 = .ok (.iconst 0, 1) := by decide +kernel
theorem dX12_findOrder_11 : decode cX12_findOrder 11 = .ok (.istore_n 1, 1) := by decide +kernel
theorem dX12_findOrder_12 : decode cX12_findOrder 12 = .ok (.iload_n 1, 1) := by decide +kernel
theorem dX12_findOrder_13 : decode cX12_findOrder 13 = .ok (.aload_n 0, 1) := by decide +kernel
theorem dX12_findOrder_14 : decode cX12_findOrder 14 = .ok (.getfield 262, 3) := by decide +kernel
theorem dX12_findOrder_17 : decode cX12_findOrder 17 = .ok (.if_icmp .ge 68, 3) := by decide +kernel
theorem dX12_findOrder_20 : decode cX12_findOrder 20 = .ok (.iload_n 1, 1) := by decide +kernel
theorem dX12_findOrder_21 : decode cX12_findOrder 21 = .ok (.istore_n 2, 1) := by decide +kernel
theorem dX12_findOrder_22 : decode cX12_findOrder 22 = .ok (.iload_n 2, 1) := by decide +kernel
theorem dX12_findOrder_23 : decode cX12_findOrder 23 = .ok (.ifCond .le 49, 3) := by decide +kernel
theorem dX12_findOrder_26 : decode cX12_findOrder 26 = .ok (.aload_n 0, 1) := by decide +kernel
theorem dX12_findOrder_27 : decode cX12_findOrder 27 = .ok (.getfield 19, 3) := by decide +kernel
theorem dX12_findOrder_30 : decode cX12_findOrder 30 = .ok (.aload_n 0, 1) := by decide +kernel
theorem dX12_findOrder_31 : decode cX12_findOrder 31 = .ok (.getfield 41, 3) := by decide +kernel
theorem dX12_findOrder_34 : decode cX12_findOrder 34 = .ok (.iload_n 2, 1) := by decide +kernel
theorem dX12_findOrder_35 : decode cX12_findOrder 35 = .ok (.iconst 1, 1) := by decide +kernel
theorem dX12_findOrder_36 : decode cX12_findOrder 36 = .ok (.isub, 1) := by decide +kernel
theorem dX12_findOrder_37 : decode cX12_findOrder 37 = .ok (.iaload, 1) := by decide +kernel
theorem dX12_findOrder_38 : decode cX12_findOrder 38 = .ok (.iconst 2, 1) := by decide +kernel
theorem dX12_findOrder_39 : decode cX12_findOrder 39 = .ok (.idiv, 1) := by decide +kernel
theorem dX12_findOrder_40 : decode cX12_findOrder 40 = .ok (.iaload, 1) := by decide +kernel
theorem dX12_findOrder_41 : decode cX12_findOrder 41 = .ok (.aload_n 0, 1) := by decide +kernel
theorem dX12_findOrder_42 : decode cX12_findOrder 42 = .ok (.getfield 19, 3) := by decide +kernel
theorem dX12_findOrder_45 : decode cX12_findOrder 45 = .ok (.iload_n 1, 1) := by decide +kernel
theorem dX12_findOrder_46 : decode cX12_findOrder 46 = .ok (.iconst 2, 1) := by decide +kernel
theorem dX12_findOrder_47 : decode cX12_findOrder 47 = .ok (.idiv, 1) := by decide +kernel
theorem dX12_findOrder_48 : decode cX12_findOrder 48 = .ok (.iaload, 1) := by decide +kernel
theorem dX12_findOrder_49 : decode cX12_findOrder 49 = .ok (.if_icmp .le 23, 3) := by decide +kernel
theorem dX12_findOrder_52 : decode cX12_findOrder 52 = .ok (.aload_n 0, 1) := by decide +kernel
theorem dX12_findOrder_53 : decode cX12_findOrder 53 = .ok (.getfield 41, 3) := by decide +kernel
theorem dX12_findOrder_56 : decode cX12_findOrder 56 = .ok (.iload_n 2, 1) := by decide +kernel
theorem dX12_findOrder_57 : decode cX12_findOrder 57 = .ok (.aload_n 0, 1) := by decide +kernel
theorem dX12_findOrder_58 : decode cX12_findOrder 58 = .ok (.getfield 41, 3) := by decide +kernel
theorem dX12_findOrder_61 : decode cX12_findOrder 61 = .ok (.iload_n 2, 1) := by decide +kernel
theorem dX12_findOrder_62 : decode cX12_findOrder 62 = .ok (.iconst 1, 1) := by decide +kernel
theorem dX12_findOrder_63 : decode cX12_findOrder 63 = .ok (.isub, 1) := by decide +kernel
theorem dX12_findOrder_64 : decode cX12_findOrder 64 = .ok (.iaload, 1) := by decide +kernel
theorem dX12_findOrder_65 : decode cX12_findOrder 65 = .ok (.iastore, 1) := by decide +kernel
theorem dX12_findOrder_66 : decode cX12_findOrder 66 = .ok (.iinc 2 (-1), 3) := by decide +kernel
theorem dX12_findOrder_69 : decode cX12_findOrder 69 = .ok (.goto (-47), 3) := by decide +kernel
theorem dX12_findOrder_72 : decode cX12_findOrder 72 = .ok (.aload_n 0, 1) := by decide +kernel
theorem dX12_findOrder_73 : decode cX12_findOrder 73 = .ok (.getfield 41, 3) := by decide +kernel
theorem dX12_findOrder_76 : decode cX12_findOrder 76 = .ok (.iload_n 2, 1) := by decide +kernel
theorem dX12_findOrder_77 : decode cX12_findOrder 77 = .ok (.iload_n 1, 1) := by decide +kernel
theorem dX12_findOrder_78 : decode cX12_findOrder 78 = .ok (.iastore, 1) := by decide +kernel
theorem dX12_findOrder_79 : decode cX12_findOrder 79 = .ok (.iinc 1 1, 3) := by decide +kernel
theorem dX12_findOrder_82 : decode cX12_findOrder 82 = .ok (.goto (-70), 3) := by decide +kernel
theorem dX12_findOrder_85 : decode cX12_findOrder 85 = .ok (.return_, 1) := by decide +kernel
theorem dX12_begins_0 : decode cX12_begins 0 = .ok (.aload_n 0, 1) := by decide +kernel
theorem dX12_begins_1 : decode cX12_begins 1 = .ok (.iload_n 1, 1) := by decide +kernel
theorem dX12_begins_2 : decode cX12_begins 2 = .ok (.invokevirtual 265, 3) := by decide +kernel
theorem dX12_begins_5 : decode cX12_begins 5 = .ok (.iload_n 2, 1) := by decide +kernel
theorem dX12_begins_6 : decode cX12_begins 6 = .ok (.if_icmp .ne 19, 3) := by decide +kernel
theorem dX12_begins_9 : decode cX12_begins 9 = .ok (.aload_n 0, 1) := by decide +kernel
theorem dX12_begins_10 : decode cX12_begins 10 = .ok (.getfield 19, 3) := by decide +kernel
theorem dX12_begins_13 : decode cX12_begins 13 = .ok (.iload_n 1, 1) := by decide +kernel
theorem dX12_begins_14 : decode cX12_begins 14 = .ok (.iconst 2, 1) := by decide +kernel
theorem dX12_begins_15 : decode cX12_begins 15 = .ok (.idiv, 1) := by decide +kernel
theorem dX12_begins_16 : decode cX12_begins 16 = .ok (.iaload, 1) := by decide +kernel
theorem dX12_begins_17 : decode cX12_begins 17 = .ok (.iload_n 3, 1) := by decide +kernel
theorem dX12_begins_18 : decode cX12_begins 18 = .ok (.if_icmp .lt 7, 3) := by decide +kernel
theorem dX12_begins_21 : decode cX12_begins 21 = .ok (.iconst 1, 1) := by decide +kernel
theorem dX12_begins_22 : decode cX12_begins 22 = .ok (.goto 4, 3) := by decide +kernel
theorem dX12_begins_25 : decode cX12_begins 25 = .ok (.iconst 0, 1) := by decide +kernel
theorem dX12_begins_26 : decode cX12_begins 26 = .ok (.ireturn, 1) := by decide +kernel
theorem dX12_follows_0 : decode cX12_follows 0 = .ok (.aload_n 0, 1) := by decide +kernel
theorem dX12_follows_1 : decode cX12_follows 1 = .ok (.iload_n 1, 1) := by decide +kernel
theorem dX12_follows_2 : decode cX12_follows 2 = .ok (.invokevirtual 265, 3) := by decide +kernel
theorem dX12_follows_5 : decode cX12_follows 5 = .ok (.aload_n 0, 1) := by decide +kernel
theorem dX12_follows_6 : decode cX12_follows 6 = .ok (.iload_n 2, 1) := by decide +kernel
theorem dX12_follows_7 : decode cX12_follows 7 = .ok (.invokevirtual 268, 3) := by decide +kernel
theorem dX12_follows_10 : decode cX12_follows 10 = .ok (.if_icmp .ne 37, 3) := by decide +kernel
theorem dX12_follows_13 : decode cX12_follows 13 = .ok (.aload_n 0, 1) := by decide +kernel
theorem dX12_follows_14 : decode cX12_follows 14 = .ok (.getfield 19, 3) := by decide +kernel
theorem dX12_follows_17 : decode cX12_follows 17 = .ok (.iload_n 1, 1) := by decide +kernel
theorem dX12_follows_18 : decode cX12_follows 18 = .ok (.iconst 2, 1) := by decide +kernel
theorem dX12_follows_19 : decode cX12_follows 19 = .ok (.idiv, 1) := by decide +kernel
theorem dX12_follows_20 : decode cX12_follows 20 = .ok (.iaload, 1) := by decide +kernel
theorem dX12_follows_21 : decode cX12_follows 21 = .ok (.aload_n 0, 1) := by decide +kernel
theorem dX12_follows_22 : decode cX12_follows 22 = .ok (.getfield 19, 3) := by decide +kernel
theorem dX12_follows_25 : decode cX12_follows 25 = .ok (.iload_n 2, 1) := by decide +kernel
theorem dX12_follows_26 : decode cX12_follows 26 = .ok (.iconst 2, 1) := by decide +kernel
theorem dX12_follows_27 : decode cX12_follows 27 = .ok (.idiv, 1) := by decide +kernel
theorem dX12_follows_28 : decode cX12_follows 28 = .ok (.iaload, 1) := by decide +kernel
theorem dX12_follows_29 : decode cX12_follows 29 = .ok (.aload_n 0, 1) := by decide +kernel
theorem dX12_follows_30 : decode cX12_follows 30 = .ok (.getfield 9, 3) := by decide +kernel
theorem dX12_follows_33 : decode cX12_follows 33 = .ok (.aload_n 0, 1) := by decide +kernel
theorem dX12_follows_34 : decode cX12_follows 34 = .ok (.iload_n 2, 1) := by decide +kernel
theorem dX12_follows_35 : decode cX12_follows 35 = .ok (.invokevirtual 268, 3) := by decide +kernel
theorem dX12_follows_38 : decode cX12_follows 38 = .ok (.iaload, 1) := by decide +kernel
theorem dX12_follows_39 : decode cX12_follows 39 = .ok (.iadd, 1) := by decide +kernel
theorem dX12_follows_40 : decode cX12_follows 40 = .ok (.if_icmp .lt 7, 3) := by decide +kernel
theorem dX12_follows_43 : decode cX12_follows 43 = .ok (.iconst 1, 1) := by decide +kernel
theorem dX12_follows_44 : decode cX12_follows 44 = .ok (.goto 4, 3) := by decide +kernel
theorem dX12_follows_47 : decode cX12_follows 47 = .ok (.iconst 0, 1) := by decide +kernel
theorem dX12_follows_48 : decode cX12_follows 48 = .ok (.ireturn, 1) := by decide +kernel
theorem dX12_worth_0 : decode cX12_worth 0 = .ok (.iload_n 2, 1) := by decide +kernel
theorem dX12_worth_1 : decode cX12_worth 1 = .ok (.iconst 2, 1) := by decide +kernel
theorem dX12_worth_2 : decode cX12_worth 2 = .ok (.if_icmp .ne 14, 3) := by decide +kernel
theorem dX12_worth_5 : decode cX12_worth 5 = .ok (.aload_n 0, 1) := by decide +kernel
theorem dX12_worth_6 : decode cX12_worth 6 = .ok (.getfield 22, 3) := by decide +kernel
theorem dX12_worth_9 : decode cX12_worth 9 = .ok (.iload_n 1, 1) := by decide +kernel
theorem dX12_worth_10 : decode cX12_worth 10 = .ok (.iconst 2, 1) := by decide +kernel
theorem dX12_worth_11 : decode cX12_worth 11 = .ok (.idiv, 1) := by decide +kernel
theorem dX12_worth_12 : decode cX12_worth 12 = .ok (.iaload, 1) := by decide +kernel
theorem dX12_worth_13 : decode cX12_worth 13 = .ok (.goto 13, 3) := by decide +kernel
theorem dX12_worth_16 : decode cX12_worth 16 = .ok (.iload_n 2, 1) := by decide +kernel
theorem dX12_worth_17 : decode cX12_worth 17 = .ok (.iconst 1, 1) := by decide +kernel
theorem dX12_worth_18 : decode cX12_worth 18 = .ok (.if_icmp .ne 7, 3) := by decide +kernel
theorem dX12_worth_21 : decode cX12_worth 21 = .ok (.iconst 1, 1) := by decide +kernel
theorem dX12_worth_22 : decode cX12_worth 22 = .ok (.goto 4, 3) := by decide +kernel
theorem dX12_worth_25 : decode cX12_worth 25 = .ok (.iconst 0, 1) := by decide +kernel
theorem dX12_worth_26 : decode cX12_worth 26 = .ok (.ireturn, 1) := by decide +kernel
theorem dX12_isLess_0 : decode cX12_isLess 0 = .ok (.iload_n 1, 1) := by decide +kernel
theorem dX12_isLess_1 : decode cX12_isLess 1 = .ok (.iload_n 3, 1) := by decide +kernel
theorem dX12_isLess_2 : decode cX12_isLess 2 = .ok (.if_icmp .lt 14, 3) := by decide +kernel
theorem dX12_isLess_5 : decode cX12_isLess 5 = .ok (.iload_n 1, 1) := by decide +kernel
theorem dX12_isLess_6 : decode cX12_isLess 6 = .ok (.iload_n 3, 1) := by decide +kernel
theorem dX12_isLess_7 : decode cX12_isLess 7 = .ok (.if_icmp .ne 13, 3) := by decide +kernel
theorem dX12_isLess_10 : decode cX12_isLess 10 = .ok (.iload_n 2, 1) := by decide +kernel
theorem dX12_isLess_11 : decode cX12_isLess 11 = .ok (.iload 4, 2) := by decide +kernel
theorem dX12_isLess_13 : decode cX12_isLess 13 = .ok (.if_icmp .ge 7, 3) := by decide +kernel
theorem dX12_isLess_16 : decode cX12_isLess 16 = .ok (.iconst 1, 1) := by decide +kernel
theorem dX12_isLess_17 : decode cX12_isLess 17 = .ok (.goto 4, 3) := by decide +kernel
theorem dX12_isLess_20 : decode cX12_isLess 20 = .ok (.iconst 0, 1) := by decide +kernel
theorem dX12_isLess_21 : decode cX12_isLess 21 = .ok (.ireturn, 1) := by decide +kernel
theorem dX12_findBest_0 : decode cX12_findBest 0 = .ok (.aload_n 0, 1) := by decide +kernel
theorem dX12_findBest_1 : decode cX12_findBest 1 = .ok (.invokevirtual 271, 3) := by decide +kernel
theorem dX12_findBest_4 : decode cX12_findBest 4 = .ok (.aload_n 0, 1) := by decide +kernel
theorem dX12_findBest_5 : decode cX12_findBest 5 = .ok (.getfield 262, 3) := by decide +kernel
theorem dX12_findBest_8 : decode cX12_findBest 8 = .ok (.iconst 1, 1) := by decide +kernel
