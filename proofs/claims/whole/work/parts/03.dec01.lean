theorem dX6_otherAt_10 : decode cX6_otherAt 10 = .ok (.aload_n 0, 1) := by decide +kernel
theorem dX6_otherAt_11 : decode cX6_otherAt 11 = .ok (.getfield 18, 3) := by decide +kernel
theorem dX6_otherAt_14 : decode cX6_otherAt 14 = .ok (.iload_n 1, 1) := by decide +kernel
theorem dX6_otherAt_15 : decode cX6_otherAt 15 = .ok (.iaload, 1) := by decide +kernel
theorem dX6_otherAt_16 : decode cX6_otherAt 16 = .ok (.goto 9, 3) := by decide +kernel
theorem dX6_otherAt_19 : decode cX6_otherAt 19 = .ok (.aload_n 0, 1) := by decide +kernel
theorem dX6_otherAt_20 : decode cX6_otherAt 20 = .ok (.getfield 15, 3) := by decide +kernel
theorem dX6_otherAt_23 : decode cX6_otherAt 23 = .ok (.iload_n 1, 1) := by decide +kernel
theorem dX6_otherAt_24 : decode cX6_otherAt 24 = .ok (.iaload, 1) := by decide +kernel
theorem dX6_otherAt_25 : decode cX6_otherAt 25 = .ok (.ireturn, 1) := by decide +kernel
theorem dX6_placeOf_0 : decode cX6_placeOf 0 = .ok (.aload_n 0, 1) := by decide +kernel
theorem dX6_placeOf_1 : decode cX6_placeOf 1 = .ok (.getfield 15, 3) := by decide +kernel
theorem dX6_placeOf_4 : decode cX6_placeOf 4 = .ok (.iload_n 1, 1) := by decide +kernel
theorem dX6_placeOf_5 : decode cX6_placeOf 5 = .ok (.iaload, 1) := by decide +kernel
theorem dX6_placeOf_6 : decode cX6_placeOf 6 = .ok (.iload_n 2, 1) := by decide +kernel
theorem dX6_placeOf_7 : decode cX6_placeOf 7 = .ok (.if_icmp .ne 9, 3) := by decide +kernel
theorem dX6_placeOf_10 : decode cX6_placeOf 10 = .ok (.iconst 2, 1) := by decide +kernel
theorem dX6_placeOf_11 : decode cX6_placeOf 11 = .ok (.iload_n 1, 1) := by decide +kernel
theorem dX6_placeOf_12 : decode cX6_placeOf 12 = .ok (.imul, 1) := by decide +kernel
theorem dX6_placeOf_13 : decode cX6_placeOf 13 = .ok (.goto 8, 3) := by decide +kernel
theorem dX6_placeOf_16 : decode cX6_placeOf 16 = .ok (.iconst 2, 1) := by decide +kernel
theorem dX6_placeOf_17 : decode cX6_placeOf 17 = .ok (.iload_n 1, 1) := by decide +kernel
theorem dX6_placeOf_18 : decode cX6_placeOf 18 = .ok (.imul, 1) := by decide +kernel
theorem dX6_placeOf_19 : decode cX6_placeOf 19 = .ok (.iconst 1, 1) := by decide +kernel
theorem dX6_placeOf_20 : decode cX6_placeOf 20 = .ok (.iadd, 1) := by decide +kernel
theorem dX6_placeOf_21 : decode cX6_placeOf 21 = .ok (.ireturn, 1) := by decide +kernel
theorem dX6_getterAt_0 : decode cX6_getterAt 0 = .ok (.iload_n 1, 1) := by decide +kernel
theorem dX6_getterAt_1 : decode cX6_getterAt 1 = .ok (.iconst 1, 1) := by decide +kernel
theorem dX6_getterAt_2 : decode cX6_getterAt 2 = .ok (.iand, 1) := by decide +kernel
theorem dX6_getterAt_3 : decode cX6_getterAt 3 = .ok (.ifCond .ne 14, 3) := by decide +kernel
theorem dX6_getterAt_6 : decode cX6_getterAt 6 = .ok (.aload_n 0, 1) := by decide +kernel
theorem dX6_getterAt_7 : decode cX6_getterAt 7 = .ok (.getfield 15, 3) := by decide +kernel
theorem dX6_getterAt_10 : decode cX6_getterAt 10 = .ok (.iload_n 1, 1) := by decide +kernel
theorem dX6_getterAt_11 : decode cX6_getterAt 11 = .ok (.iconst 1, 1) := by decide +kernel
theorem dX6_getterAt_12 : decode cX6_getterAt 12 = .ok (.ishr, 1) := by decide +kernel
theorem dX6_getterAt_13 : decode cX6_getterAt 13 = .ok (.iaload, 1) := by decide +kernel
theorem dX6_getterAt_14 : decode cX6_getterAt 14 = .ok (.goto 11, 3) := by decide +kernel
theorem dX6_getterAt_17 : decode cX6_getterAt 17 = .ok (.aload_n 0, 1) := by decide +kernel
theorem dX6_getterAt_18 : decode cX6_getterAt 18 = .ok (.getfield 18, 3) := by decide +kernel
theorem dX6_getterAt_21 : decode cX6_getterAt 21 = .ok (.iload_n 1, 1) := by decide +kernel
theorem dX6_getterAt_22 : decode cX6_getterAt 22 = .ok (.iconst 1, 1) := by decide +kernel
theorem dX6_getterAt_23 : decode cX6_getterAt 23 = .ok (.ishr, 1) := by decide +kernel
theorem dX6_getterAt_24 : decode cX6_getterAt 24 = .ok (.iaload, 1) := by decide +kernel
theorem dX6_getterAt_25 : decode cX6_getterAt 25 = .ok (.ireturn, 1) := by decide +kernel
theorem dX6_readyAt_0 : decode cX6_readyAt 0 = .ok (.aload_n 0, 1) := by decide +kernel
theorem dX6_readyAt_1 : decode cX6_readyAt 1 = .ok (.getfield 21, 3) := by decide +kernel
theorem dX6_readyAt_4 : decode cX6_readyAt 4 = .ok (.iload_n 1, 1) := by decide +kernel
theorem dX6_readyAt_5 : decode cX6_readyAt 5 = .ok (.iconst 1, 1) := by decide +kernel
theorem dX6_readyAt_6 : decode cX6_readyAt 6 = .ok (.ishr, 1) := by decide +kernel
theorem dX6_readyAt_7 : decode cX6_readyAt 7 = .ok (.iaload, 1) := by decide +kernel
theorem dX6_readyAt_8 : decode cX6_readyAt 8 = .ok (.aload_n 0, 1) := by decide +kernel
theorem dX6_readyAt_9 : decode cX6_readyAt 9 = .ok (.getfield 9, 3) := by decide +kernel
theorem dX6_readyAt_12 : decode cX6_readyAt 12 = .ok (.aload_n 0, 1) := by decide +kernel
theorem dX6_readyAt_13 : decode cX6_readyAt 13 = .ok (.iload_n 1, 1) := by decide +kernel
theorem dX6_readyAt_14 : decode cX6_readyAt 14 = .ok (.invokevirtual 37, 3) := by decide +kernel
theorem dX6_readyAt_17 : decode cX6_readyAt 17 = .ok (.iaload, 1) := by decide +kernel
theorem dX6_readyAt_18 : decode cX6_readyAt 18 = .ok (.iadd, 1) := by decide +kernel
theorem dX6_readyAt_19 : decode cX6_readyAt 19 = .ok (.ireturn, 1) := by decide +kernel
theorem dX6_putHour_0 : decode cX6_putHour 0 = .ok (.aload_n 0, 1) := by decide +kernel
theorem dX6_putHour_1 : decode cX6_putHour 1 = .ok (.getfield 21, 3) := by decide +kernel
theorem dX6_putHour_4 : decode cX6_putHour 4 = .ok (.iload_n 1, 1) := by decide +kernel
theorem dX6_putHour_5 : decode cX6_putHour 5 = .ok (.iaload, 1) := by decide +kernel
theorem dX6_putHour_6 : decode cX6_putHour 6 = .ok (.istore_n 3, 1) := by decide +kernel
theorem dX6_putHour_7 : decode cX6_putHour 7 = .ok (.aload_n 0, 1) := by decide +kernel
theorem dX6_putHour_8 : decode cX6_putHour 8 = .ok (.getfield 21, 3) := by decide +kernel
theorem dX6_putHour_11 : decode cX6_putHour 11 = .ok (.iload_n 1, 1) := by decide +kernel
theorem dX6_putHour_12 : decode cX6_putHour 12 = .ok (.iload_n 2, 1) := by decide +kernel
theorem dX6_putHour_13 : decode cX6_putHour 13 = .ok (.iastore, 1) := by decide +kernel
theorem dX6_putHour_14 : decode cX6_putHour 14 = .ok (.aload_n 0, 1) := by decide +kernel
theorem dX6_putHour_15 : decode cX6_putHour 15 = .ok (.invokevirtual 41, 3) := by decide +kernel
theorem dX6_putHour_18 : decode cX6_putHour 18 = .ok (.iload_n 3, 1) := by decide +kernel
theorem dX6_putHour_19 : decode cX6_putHour 19 = .ok (.ireturn, 1) := by decide +kernel
theorem dX6_grow_0 : decode cX6_grow 0 = .ok (.aload_n 0, 1) := by decide +kernel
theorem dX6_grow_1 : decode cX6_grow 1 = .ok (.iload_n 1, 1) := by decide +kernel
theorem dX6_grow_2 : decode cX6_grow 2 = .ok (.putfield 30, 3) := by decide +kernel
theorem dX6_grow_5 : decode cX6_grow 5 = .ok (.aload_n 0, 1) := by decide +kernel
theorem dX6_grow_6 : decode cX6_grow 6 = .ok (.iload_n 2, 1) := by decide +kernel
theorem dX6_grow_7 : decode cX6_grow 7 = .ok (.putfield 34, 3) := by decide +kernel
theorem dX6_grow_10 : decode cX6_grow 10 = .ok (.aload_n 0, 1) := by decide +kernel
theorem dX6_grow_11 : decode cX6_grow 11 = .ok (.invokevirtual 41, 3) := by decide +kernel
theorem dX6_grow_14 : decode cX6_grow 14 = .ok (.return_, 1) := by decide +kernel
theorem dX6_sortByHour_0 : decode cX6_sortByHour 0 = .ok (.iconst 0, 1) := by decide +kernel
theorem dX6_sortByHour_1 : decode cX6_sortByHour 1 = .ok (.istore_n 1, 1) := by decide +kernel
theorem dX6_sortByHour_2 : decode cX6_sortByHour 2 = .ok (.iload_n 1, 1) := by decide +kernel
theorem dX6_sortByHour_3 : decode cX6_sortByHour 3 = .ok (.aload_n 0, 1) := by decide +kernel
theorem dX6_sortByHour_4 : decode cX6_sortByHour 4 = .ok (.getfield 34, 3) := by decide +kernel
theorem dX6_sortByHour_7 : decode cX6_sortByHour 7 = .ok (.if_icmp .ge 64, 3) := by decide +kernel
theorem dX6_sortByHour_10 : decode cX6_sortByHour 10 = .ok (.iload_n 1, 1) := by decide +kernel
theorem dX6_sortByHour_11 : decode cX6_sortByHour 11 = .ok (.istore_n 2, 1) := by decide +kernel
theorem dX6_sortByHour_12 : decode cX6_sortByHour 12 = .ok (.iload_n 2, 1) := by decide +kernel
theorem dX6_sortByHour_13 : decode cX6_sortByHour 13 = .ok (.ifCond .le 45, 3) := by decide +kernel
theorem dX6_sortByHour_16 : decode cX6_sortByHour 16 = .ok (.aload_n 0, 1) := by decide +kernel
theorem dX6_sortByHour_17 : decode cX6_sortByHour 17 = .ok (.getfield 21, 3) := by decide +kernel
theorem dX6_sortByHour_20 : decode cX6_sortByHour 20 = .ok (.aload_n 0, 1) := by decide +kernel
theorem dX6_sortByHour_21 : decode cX6_sortByHour 21 = .ok (.getfield 27, 3) := by decide +kernel
theorem dX6_sortByHour_24 : decode cX6_sortByHour 24 = .ok (.iload_n 2, 1) := by decide +kernel
theorem dX6_sortByHour_25 : decode cX6_sortByHour 25 = .ok (.iconst 1, 1) := by decide +kernel
theorem dX6_sortByHour_26 : decode cX6_sortByHour 26 = .ok (.isub, 1) := by decide +kernel
theorem dX6_sortByHour_27 : decode cX6_sortByHour 27 = .ok (.iaload, 1) := by decide +kernel
theorem dX6_sortByHour_28 : decode cX6_sortByHour 28 = .ok (.iaload, 1) := by decide +kernel
theorem dX6_sortByHour_29 : decode cX6_sortByHour 29 = .ok (.aload_n 0, 1) := by decide +kernel
theorem dX6_sortByHour_30 : decode cX6_sortByHour 30 = .ok (.getfield 21, 3) := by decide +kernel
theorem dX6_sortByHour_33 : decode cX6_sortByHour 33 = .ok (.iload_n 1, 1) := by decide +kernel
theorem dX6_sortByHour_34 : decode cX6_sortByHour 34 = .ok (.iaload, 1) := by decide +kernel
theorem dX6_sortByHour_35 : decode cX6_sortByHour 35 = .ok (.if_icmp .le 23, 3) := by decide +kernel
theorem dX6_sortByHour_38 : decode cX6_sortByHour 38 = .ok (.aload_n 0, 1) := by decide +kernel
theorem dX6_sortByHour_39 : decode cX6_sortByHour 39 = .ok (.getfield 27, 3) := by decide +kernel
theorem dX6_sortByHour_42 : decode cX6_sortByHour 42 = .ok (.iload_n 2, 1) := by decide +kernel
theorem dX6_sortByHour_43 : decode cX6_sortByHour 43 = .ok (.aload_n 0, 1) := by decide +kernel
theorem dX6_sortByHour_44 : decode cX6_sortByHour 44 = .ok (.getfield 27, 3) := by decide +kernel
theorem dX6_sortByHour_47 : decode cX6_sortByHour 47 = .ok (.iload_n 2, 1) := by decide +kernel
theorem dX6_sortByHour_48 : decode cX6_sortByHour 48 = .ok (.iconst 1, 1) := by decide +kernel
theorem dX6_sortByHour_49 : decode cX6_sortByHour 49 = .ok (.isub, 1) := by decide +kernel
theorem dX6_sortByHour_50 : decode cX6_sortByHour 50 = .ok (.iaload, 1) := by decide +kernel
theorem dX6_sortByHour_51 : decode cX6_sortByHour 51 = .ok (.iastore, 1) := by decide +kernel
theorem dX6_sortByHour_52 : decode cX6_sortByHour 52 = .ok (.iinc 2 (-1), 3) := by decide +kernel
theorem dX6_sortByHour_55 : decode cX6_sortByHour 55 = .ok (.goto (-43), 3) := by decide +kernel
theorem dX6_sortByHour_58 : decode cX6_sortByHour 58 = .ok (.aload_n 0, 1) := by decide +kernel
theorem dX6_sortByHour_59 : decode cX6_sortByHour 59 = .ok (.getfield 27, 3) := by decide +kernel
theorem dX6_sortByHour_62 : decode cX6_sortByHour 62 = .ok (.iload_n 2, 1) := by decide +kernel
theorem dX6_sortByHour_63 : decode cX6_sortByHour 63 = .ok (.iload_n 1, 1) := by decide +kernel
theorem dX6_sortByHour_64 : decode cX6_sortByHour 64 = .ok (.iastore, 1) := by decide +kernel
theorem dX6_sortByHour_65 : decode cX6_sortByHour 65 = .ok (.iinc 1 1, 3) := by decide +kernel
theorem dX6_sortByHour_68 : decode cX6_sortByHour 68 = .ok (.goto (-66), 3) := by decide +kernel
theorem dX6_sortByHour_71 : decode cX6_sortByHour 71 = .ok (.return_, 1) := by decide +kernel
theorem dX6_putPrices_0 : decode cX6_putPrices 0 = .ok (.iconst 0, 1) := by decide +kernel
theorem dX6_putPrices_1 : decode cX6_putPrices 1 = .ok (.istore 5, 2) := by decide +kernel
theorem dX6_putPrices_3 : decode cX6_putPrices 3 = .ok (.iconst 0, 1) := by decide +kernel
theorem dX6_putPrices_4 : decode cX6_putPrices 4 = .ok (.istore 6, 2) := by decide +kernel
theorem dX6_putPrices_6 : decode cX6_putPrices 6 = .ok (.iload 6, 2) := by decide +kernel
theorem dX6_putPrices_8 : decode cX6_putPrices 8 = .ok (.aload_n 0, 1) := by decide +kernel
theorem dX6_putPrices_9 : decode cX6_putPrices 9 = .ok (.getfield 34, 3) := by decide +kernel
theorem dX6_putPrices_12 : decode cX6_putPrices 12 = .ok (.if_icmp .ge 49, 3) := by decide +kernel
theorem dX6_putPrices_15 : decode cX6_putPrices 15 = .ok (.aload_n 0, 1) := by decide +kernel
theorem dX6_putPrices_16 : decode cX6_putPrices 16 = .ok (.getfield 24, 3) := by decide +kernel
theorem dX6_putPrices_19 : decode cX6_putPrices 19 = .ok (.iload 6, 2) := by decide +kernel
theorem dX6_putPrices_21 : decode cX6_putPrices 21 = .ok (.iload 6, 2) := by decide +kernel
theorem dX6_putPrices_23 : decode cX6_putPrices 23 = .ok (.iload_n 2, 1) := by decide +kernel
theorem dX6_putPrices_24 : decode cX6_putPrices 24 = .ok (.if_icmp .ge 17, 3) := by decide +kernel
theorem dX6_putPrices_27 : decode cX6_putPrices 27 = .ok (.iload_n 1, 1) := by decide +kernel
theorem dX6_putPrices_28 : decode cX6_putPrices 28 = .ok (.iload_n 3, 1) := by decide +kernel
theorem dX6_putPrices_29 : decode cX6_putPrices 29 = .ok (.iload 6, 2) := by decide +kernel
theorem dX6_putPrices_31 : decode cX6_putPrices 31 = .ok (.iload 4, 2) := by decide +kernel
theorem dX6_putPrices_33 : decode cX6_putPrices 33 = .ok (.imul, 1) := by decide +kernel
theorem dX6_putPrices_34 : decode cX6_putPrices 34 = .ok (.iadd, 1) := by decide +kernel
theorem dX6_putPrices_35 : decode cX6_putPrices 35 = .ok (.invokestatic 44, 3) := by decide +kernel
theorem dX6_putPrices_38 : decode cX6_putPrices 38 = .ok (.goto 4, 3) := by decide +kernel
theorem dX6_putPrices_41 : decode cX6_putPrices 41 = .ok (.iconst 0, 1) := by decide +kernel
theorem dX6_putPrices_42 : decode cX6_putPrices 42 = .ok (.iastore, 1) := by decide +kernel
theorem dX6_putPrices_43 : decode cX6_putPrices 43 = .ok (.iload 5, 2) := by decide +kernel
theorem dX6_putPrices_45 : decode cX6_putPrices 45 = .ok (.aload_n 0, 1) := by decide +kernel
theorem dX6_putPrices_46 : decode cX6_putPrices 46 = .ok (.getfield 24, 3) := by decide +kernel
theorem dX6_putPrices_49 : decode cX6_putPrices 49 = .ok (.iload 6, 2) := by decide +kernel
theorem dX6_putPrices_51 : decode cX6_putPrices 51 = .ok (.iaload, 1) := by decide +kernel
theorem dX6_putPrices_52 : decode cX6_putPrices 52 = .ok (.iadd, 1) := by decide +kernel
theorem dX6_putPrices_53 : decode cX6_putPrices 53 = .ok (.istore 5, 2) := by decide +kernel
theorem dX6_putPrices_55 : decode cX6_putPrices 55 = .ok (.iinc 6 1, 3) := by decide +kernel
theorem dX6_putPrices_58 : decode cX6_putPrices 58 = .ok (.goto (-52), 3) := by decide +kernel
theorem dX6_putPrices_61 : decode cX6_putPrices 61 = .ok (.iload 5, 2) := by decide +kernel
theorem dX6_putPrices_63 : decode cX6_putPrices 63 = .ok (.ireturn, 1) := by decide +kernel
theorem dX6_priceFrom_0 : decode cX6_priceFrom 0 = .ok (.iload_n 1, 1) := by decide +kernel
theorem dX6_priceFrom_1 : decode cX6_priceFrom 1 = .ok (.istore_n 2, 1) := by decide +kernel
theorem dX6_priceFrom_2 : decode cX6_priceFrom 2 = .ok (.iload_n 0, 1) := by decide +kernel
theorem dX6_priceFrom_3 : decode cX6_priceFrom 3 = .ok (.ifCond .ne 9, 3) := by decide +kernel
theorem dX6_priceFrom_6 : decode cX6_priceFrom 6 = .ok (.iload_n 1, 1) := by decide +kernel
theorem dX6_priceFrom_7 : decode cX6_priceFrom 7 = .ok (.i2b, 1) := by decide +kernel
theorem dX6_priceFrom_8 : decode cX6_priceFrom 8 = .ok (.istore_n 2, 1) := by decide +kernel
theorem dX6_priceFrom_9 : decode cX6_priceFrom 9 = .ok (.goto 11, 3) := by decide +kernel
theorem dX6_priceFrom_12 : decode cX6_priceFrom 12 = .ok (.iload_n 0, 1) := by decide +kernel
theorem dX6_priceFrom_13 : decode cX6_priceFrom 13 = .ok (.iconst 1, 1) := by decide +kernel
theorem dX6_priceFrom_14 : decode cX6_priceFrom 14 = .ok (.if_icmp .ne 6, 3) := by decide +kernel
theorem dX6_priceFrom_17 : decode cX6_priceFrom 17 = .ok (.iload_n 1, 1) := by decide +kernel
theorem dX6_priceFrom_18 : decode cX6_priceFrom 18 = .ok (.i2s, 1) := by decide +kernel
theorem dX6_priceFrom_19 : decode cX6_priceFrom 19 = .ok (.istore_n 2, 1) := by decide +kernel
theorem dX6_priceFrom_20 : decode cX6_priceFrom 20 = .ok (.iconst 0, 1) := by decide +kernel
theorem dX6_priceFrom_21 : decode cX6_priceFrom 21 = .ok (.bipush 9, 2) := by decide +kernel
theorem dX6_priceFrom_23 : decode cX6_priceFrom 23 = .ok (.iload_n 2, 1) := by decide +kernel
theorem dX6_priceFrom_24 : decode cX6_priceFrom 24 = .ok (.invokestatic 48, 3) := by decide +kernel
theorem dX6_priceFrom_27 : decode cX6_priceFrom 27 = .ok (.invokestatic 53, 3) := by decide +kernel
theorem dX6_priceFrom_30 : decode cX6_priceFrom 30 = .ok (.ireturn, 1) := by decide +kernel
theorem dX7_init_0 : decode cX7_init 0 = .ok (.aload_n 0, 1) := by decide +kernel
theorem dX7_init_1 : decode cX7_init 1 = .ok (.invokespecial 5, 3) := by decide +kernel
theorem dX7_init_4 : decode cX7_init 4 = .ok (.aload_n 0, 1) := by decide +kernel
theorem dX7_init_5 : decode cX7_init 5 = .ok (.bipush 40, 2) := by decide +kernel
theorem dX7_init_7 : decode cX7_init 7 = .ok (.newarray .int, 2) := by decide +kernel
theorem dX7_init_9 : decode cX7_init 9 = .ok (.putfield 11, 3) := by decide +kernel
theorem dX7_init_12 : decode cX7_init 12 = .ok (.aload_n 0, 1) := by decide +kernel
theorem dX7_init_13 : decode cX7_init 13 = .ok (.bipush 7, 2) := by decide +kernel
theorem dX7_init_15 : decode cX7_init 15 = .ok (.newarray .int, 2) := by decide +kernel
theorem dX7_init_17 : decode cX7_init 17 = .ok (.putfield 15, 3) := by decide +kernel
theorem dX7_init_20 : decode cX7_init 20 = .ok (.aload_n 0, 1) := by decide +kernel
theorem dX7_init_21 : decode cX7_init 21 = .ok (.bipush 40, 2) := by decide +kernel
theorem dX7_init_23 : decode cX7_init 23 = .ok (.newarray .int, 2) := by decide +kernel
theorem dX7_init_25 : decode cX7_init 25 = .ok (.putfield 18, 3) := by decide +kernel
theorem dX7_init_28 : decode cX7_init 28 = .ok (.return_, 1) := by decide +kernel
theorem dX7_putAhead_0 : decode cX7_putAhead 0 = .ok (.aload_n 0, 1) := by decide +kernel
theorem dX7_putAhead_1 : decode cX7_putAhead 1 = .ok (.getfield 15, 3) := by decide +kernel
theorem dX7_putAhead_4 : decode cX7_putAhead 4 = .ok (.iconst 3, 1) := by decide +kernel
theorem dX7_putAhead_5 : decode cX7_putAhead 5 = .ok (.iload_n 1, 1) := by decide +kernel
theorem dX7_putAhead_6 : decode cX7_putAhead 6 = .ok (.iastore, 1) := by decide +kernel
theorem dX7_putAhead_7 : decode cX7_putAhead 7 = .ok (.aload_n 0, 1) := by decide +kernel
theorem dX7_putAhead_8 : decode cX7_putAhead 8 = .ok (.getfield 15, 3) := by decide +kernel
theorem dX7_putAhead_11 : decode cX7_putAhead 11 = .ok (.iconst 4, 1) := by decide +kernel
theorem dX7_putAhead_12 : decode cX7_putAhead 12 = .ok (.iload_n 2, 1) := by decide +kernel
theorem dX7_putAhead_13 : decode cX7_putAhead 13 = .ok (.iastore, 1) := by decide +kernel
theorem dX7_putAhead_14 : decode cX7_putAhead 14 = .ok (.aload_n 0, 1) := by decide +kernel
theorem dX7_putAhead_15 : decode cX7_putAhead 15 = .ok (.getfield 15, 3) := by decide +kernel
theorem dX7_putAhead_18 : decode cX7_putAhead 18 = .ok (.iconst 5, 1) := by decide +kernel
theorem dX7_putAhead_19 : decode cX7_putAhead 19 = .ok (.iload_n 3, 1) := by decide +kernel
theorem dX7_putAhead_20 : decode cX7_putAhead 20 = .ok (.iastore, 1) := by decide +kernel
theorem dX7_putAhead_21 : decode cX7_putAhead 21 = .ok (.aload_n 0, 1) := by decide +kernel
theorem dX7_putAhead_22 : decode cX7_putAhead 22 = .ok (.getfield 15, 3) := by decide +kernel
theorem dX7_putAhead_25 : decode cX7_putAhead 25 = .ok (.bipush 6, 2) := by decide +kernel
theorem dX7_putAhead_27 : decode cX7_putAhead 27 = .ok (.iload 4, 2) := by decide +kernel
theorem dX7_putAhead_29 : decode cX7_putAhead 29 = .ok (.iastore, 1) := by decide +kernel
theorem dX7_putAhead_30 : decode cX7_putAhead 30 = .ok (.return_, 1) := by decide +kernel
theorem dX7_lineBy_0 : decode cX7_lineBy 0 = .ok (.aload_n 0, 1) := by decide +kernel
theorem dX7_lineBy_1 : decode cX7_lineBy 1 = .ok (.getfield 15, 3) := by decide +kernel
theorem dX7_lineBy_4 : decode cX7_lineBy 4 = .ok (.iconst 0, 1) := by decide +kernel
theorem dX7_lineBy_5 : decode cX7_lineBy 5 = .ok (.iload_n 1, 1) := by decide +kernel
theorem dX7_lineBy_6 : decode cX7_lineBy 6 = .ok (.iastore, 1) := by decide +kernel
theorem dX7_lineBy_7 : decode cX7_lineBy 7 = .ok (.aload_n 0, 1) := by decide +kernel
theorem dX7_lineBy_8 : decode cX7_lineBy 8 = .ok (.getfield 15, 3) := by decide +kernel
theorem dX7_lineBy_11 : decode cX7_lineBy 11 = .ok (.iconst 1, 1) := by decide +kernel
theorem dX7_lineBy_12 : decode cX7_lineBy 12 = .ok (.iload_n 2, 1) := by decide +kernel
theorem dX7_lineBy_13 : decode cX7_lineBy 13 = .ok (.iastore, 1) := by decide +kernel
theorem dX7_lineBy_14 : decode cX7_lineBy 14 = .ok (.aload_n 0, 1) := by decide +kernel
theorem dX7_lineBy_15 : decode cX7_lineBy 15 = .ok (.getfield 15, 3) := by decide +kernel
theorem dX7_lineBy_18 : decode cX7_lineBy 18 = .ok (.iconst 2, 1) := by decide +kernel
theorem dX7_lineBy_19 : decode cX7_lineBy 19 = .ok (.iload_n 3, 1) := by decide +kernel
theorem dX7_lineBy_20 : decode cX7_lineBy 20 = .ok (.iastore, 1) := by decide +kernel
theorem dX7_lineBy_21 : decode cX7_lineBy 21 = .ok (.aload_n 0, 1) := by decide +kernel
theorem dX7_lineBy_22 : decode cX7_lineBy 22 = .ok (.getfield 21, 3) := by decide +kernel
theorem dX7_lineBy_25 : decode cX7_lineBy 25 = .ok (.ifCond .ne 12, 3) := by decide +kernel
theorem dX7_lineBy_28 : decode cX7_lineBy 28 = .ok (.aload_n 0, 1) := by decide +kernel
theorem dX7_lineBy_29 : decode cX7_lineBy 29 = .ok (.getfield 15, 3) := by decide +kernel
theorem dX7_lineBy_32 : decode cX7_lineBy 32 = .ok (.iconst 3, 1) := by decide +kernel
theorem dX7_lineBy_33 : decode cX7_lineBy 33 = .ok (.iaload, 1) := by decide +kernel
theorem dX7_lineBy_34 : decode cX7_lineBy 34 = .ok (.goto 7, 3) := by decide +kernel
theorem dX7_lineBy_37 : decode cX7_lineBy 37 = .ok (.aload_n 0, 1) := by decide +kernel
theorem dX7_lineBy_38 : decode cX7_lineBy 38 = .ok (.invokevirtual 25, 3) := by decide +kernel
theorem dX7_lineBy_41 : decode cX7_lineBy 41 = .ok (.bipush 10, 2) := by decide +kernel
theorem dX7_lineBy_43 : decode cX7_lineBy 43 = .ok (.invokestatic 29, 3) := by decide +kernel
theorem dX7_lineBy_46 : decode cX7_lineBy 46 = .ok (.ireturn, 1) := by decide +kernel
theorem dX7_value_0 : decode cX7_value 0 = .ok (.aload_n 0, 1) := by decide +kernel
theorem dX7_value_1 : decode cX7_value 1 = .ok (.iconst 0, 1) := by decide +kernel
theorem dX7_value_2 : decode cX7_value 2 = .ok (.putfield 35, 3) := by decide +kernel
theorem dX7_value_5 : decode cX7_value 5 = .ok (.iconst 0, 1) := by decide +kernel
theorem dX7_value_6 : decode cX7_value 6 = .ok (.istore_n 1, 1) := by decide +kernel
theorem dX7_value_7 : decode cX7_value 7 = .ok (.iload_n 1, 1) := by decide +kernel
theorem dX7_value_8 : decode cX7_value 8 = .ok (.aload_n 0, 1) := by decide +kernel
theorem dX7_value_9 : decode cX7_value 9 = .ok (.getfield 21, 3) := by decide +kernel
theorem dX7_value_12 : decode cX7_value 12 = .ok (.if_icmp .ge 99, 3) := by decide +kernel
theorem dX7_value_15 : decode cX7_value 15 = .ok (.aload_n 0, 1) := by decide +kernel
theorem dX7_value_16 : decode cX7_value 16 = .ok (.getfield 11, 3) := by decide +kernel
theorem dX7_value_19 : decode cX7_value 19 = .ok (.iload_n 1, 1) := by decide +kernel
theorem dX7_value_20 : decode cX7_value 20 = .ok (.iaload, 1) := by decide +kernel
theorem dX7_value_21 : decode cX7_value 21 = .ok (.istore_n 2, 1) := by decide +kernel
theorem dX7_value_22 : decode cX7_value 22 = .ok (.iload_n 2, 1) := by decide +kernel
theorem dX7_value_23 : decode cX7_value 23 = .ok (.sipush 1000, 3) := by decide +kernel
theorem dX7_value_26 : decode cX7_value 26 = .ok (.if_icmp .ge 11, 3) := by decide +kernel
theorem dX7_value_29 : decode cX7_value 29 = .ok (.aload_n 0, 1) := by decide +kernel
theorem dX7_value_30 : decode cX7_value 30 = .ok (.iload_n 2, 1) := by decide +kernel
theorem dX7_value_31 : decode cX7_value 31 = .ok (.invokevirtual 38, 3) := by decide +kernel
theorem dX7_value_34 : decode cX7_value 34 = .ok (.goto 71, 3) := by decide +kernel
theorem dX7_value_37 : decode cX7_value 37 = .ok (.iload_n 2, 1) := by decide +kernel
theorem dX7_value_38 : decode cX7_value 38 = .ok (.sipush 2000, 3) := by decide +kernel
theorem dX7_value_41 : decode cX7_value 41 = .ok (.if_icmp .ge 19, 3) := by decide +kernel
theorem dX7_value_44 : decode cX7_value 44 = .ok (.aload_n 0, 1) := by decide +kernel
theorem dX7_value_45 : decode cX7_value 45 = .ok (.aload_n 0, 1) := by decide +kernel
theorem dX7_value_46 : decode cX7_value 46 = .ok (.iload_n 2, 1) := by decide +kernel
theorem dX7_value_47 : decode cX7_value 47 = .ok (.sipush 1000, 3) := by decide +kernel
theorem dX7_value_50 : decode cX7_value 50 = .ok (.isub, 1) := by decide +kernel
theorem dX7_value_51 : decode cX7_value 51 = .ok (.invokevirtual 42, 3) := by decide +kernel
theorem dX7_value_54 : decode cX7_value 54 = .ok (.invokevirtual 38, 3) := by decide +kernel
theorem dX7_value_57 : decode cX7_value 57 = .ok (.goto 48, 3) := by decide +kernel
theorem dX7_value_60 : decode cX7_value 60 = .ok (.iload_n 2, 1) := by decide +kernel
theorem dX7_value_61 : decode cX7_value 61 = .ok (.sipush 2126, 3) := by decide +kernel
theorem dX7_value_64 : decode cX7_value 64 = .ok (.if_icmp .ne 15, 3) := by decide +kernel
theorem dX7_value_67 : decode cX7_value 67 = .ok (.aload_n 0, 1) := by decide +kernel
theorem dX7_value_68 : decode cX7_value 68 = .ok (.aload_n 0, 1) := by decide +kernel
theorem dX7_value_69 : decode cX7_value 69 = .ok (.invokevirtual 46, 3) := by decide +kernel
theorem dX7_value_72 : decode cX7_value 72 = .ok (.ineg, 1) := by decide +kernel
theorem dX7_value_73 : decode cX7_value 73 = .ok (.invokevirtual 38, 3) := by decide +kernel
theorem dX7_value_76 : decode cX7_value 76 = .ok (.goto 29, 3) := by decide +kernel
theorem dX7_value_79 : decode cX7_value 79 = .ok (.aload_n 0, 1) := by decide +kernel
theorem dX7_value_80 : decode cX7_value 80 = .ok (.invokevirtual 46, 3) := by decide +kernel
theorem dX7_value_83 : decode cX7_value 83 = .ok (.istore_n 3, 1) := by decide +kernel
theorem dX7_value_84 : decode cX7_value 84 = .ok (.aload_n 0, 1) := by decide +kernel
theorem dX7_value_85 : decode cX7_value 85 = .ok (.invokevirtual 46, 3) := by decide +kernel
theorem dX7_value_88 : decode cX7_value 88 = .ok (.istore 4, 2) := by decide +kernel
theorem dX7_value_90 : decode cX7_value 90 = .ok (.aload_n 0, 1) := by decide +kernel
theorem dX7_value_91 : decode cX7_value 91 = .ok (.iload_n 2, 1) := by decide +kernel
theorem dX7_value_92 : decode cX7_value 92 = .ok (.sipush 2000, 3) := by decide +kernel
theorem dX7_value_95 : decode cX7_value 95 = .ok (.isub, 1) := by decide +kernel
theorem dX7_value_96 : decode cX7_value 96 = .ok (.iload 4, 2) := by decide +kernel
theorem dX7_value_98 : decode cX7_value 98 = .ok (.iload_n 3, 1) := by decide +kernel
theorem dX7_value_99 : decode cX7_value 99 = .ok (.invokestatic 49, 3) := by decide +kernel
theorem dX7_value_102 : decode cX7_value 102 = .ok (.invokevirtual 38, 3) := by decide +kernel
theorem dX7_value_105 : decode cX7_value 105 = .ok (.iinc 1 1, 3) := by decide +kernel
theorem dX7_value_108 : decode cX7_value 108 = .ok (.goto (-101), 3) := by decide +kernel
theorem dX7_value_111 : decode cX7_value 111 = .ok (.aload_n 0, 1) := by decide +kernel
theorem dX7_value_112 : decode cX7_value 112 = .ok (.invokevirtual 46, 3) := by decide +kernel
theorem dX7_value_115 : decode cX7_value 115 = .ok (.ireturn, 1) := by decide +kernel
theorem dX7_factAt_0 : decode cX7_factAt 0 = .ok (.iload_n 1, 1) := by decide +kernel
theorem dX7_factAt_1 : decode cX7_factAt 1 = .ok (.ifCond .lt 21, 3) := by decide +kernel
theorem dX7_factAt_4 : decode cX7_factAt 4 = .ok (.iload_n 1, 1) := by decide +kernel
theorem dX7_factAt_5 : decode cX7_factAt 5 = .ok (.aload_n 0, 1) := by decide +kernel
theorem dX7_factAt_6 : decode cX7_factAt 6 = .ok (.getfield 15, 3) := by decide +kernel
theorem dX7_factAt_9 : decode cX7_factAt 9 = .ok (.arraylength, 1) := by decide +kernel
theorem dX7_factAt_10 : decode cX7_factAt 10 = .ok (.if_icmp .ge 12, 3) := by decide +kernel
theorem dX7_factAt_13 : decode cX7_factAt 13 = .ok (.aload_n 0, 1) := by decide +kernel
theorem dX7_factAt_14 : decode cX7_factAt 14 = .ok (.getfield 15, 3) := by decide +kernel
theorem dX7_factAt_17 : decode cX7_factAt 17 = .ok (.iload_n 1, 1) := by decide +kernel
theorem dX7_factAt_18 : decode cX7_factAt 18 = .ok (.iaload, 1) := by decide +kernel
theorem dX7_factAt_19 : decode cX7_factAt 19 = .ok (.goto 4, 3) := by decide +kernel
theorem dX7_factAt_22 : decode cX7_factAt 22 = .ok (.iconst 0, 1) := by decide +kernel
theorem dX7_factAt_23 : decode cX7_factAt 23 = .ok (.ireturn, 1) := by decide +kernel
theorem dX7_push_0 : decode cX7_push 0 = .ok (.aload_n 0, 1) := by decide +kernel
theorem dX7_push_1 : decode cX7_push 1 = .ok (.getfield 35, 3) := by decide +kernel
theorem dX7_push_4 : decode cX7_push 4 = .ok (.aload_n 0, 1) := by decide +kernel
theorem dX7_push_5 : decode cX7_push 5 = .ok (.getfield 18, 3) := by decide +kernel
theorem dX7_push_8 : decode cX7_push 8 = .ok (.arraylength, 1) := by decide +kernel
theorem dX7_push_9 : decode cX7_push 9 = .ok (.if_icmp .ge 23, 3) := by decide +kernel
theorem dX7_push_12 : decode cX7_push 12 = .ok (.aload_n 0, 1) := by decide +kernel
theorem dX7_push_13 : decode cX7_push 13 = .ok (.getfield 18, 3) := by decide +kernel
theorem dX7_push_16 : decode cX7_push 16 = .ok (.aload_n 0, 1) := by decide +kernel
theorem dX7_push_17 : decode cX7_push 17 = .ok (.getfield 35, 3) := by decide +kernel
theorem dX7_push_20 : decode cX7_push 20 = .ok (.iload_n 1, 1) := by decide +kernel
theorem dX7_push_21 : decode cX7_push 21 = .ok (.iastore, 1) := by decide +kernel
theorem dX7_push_22 : decode cX7_push 22 = .ok (.aload_n 0, 1) := by decide +kernel
theorem dX7_push_23 : decode cX7_push 23 = .ok (.dup, 1) := by decide +kernel
theorem dX7_push_24 : decode cX7_push 24 = .ok (.getfield 35, 3) := by decide +kernel
theorem dX7_push_27 : decode cX7_push 27 = .ok (.iconst 1, 1) := by decide +kernel
theorem dX7_push_28 : decode cX7_push 28 = .ok (.iadd, 1) := by decide +kernel
theorem dX7_push_29 : decode cX7_push 29 = .ok (.putfield 35, 3) := by decide +kernel
theorem dX7_push_32 : decode cX7_push 32 = .ok (.return_, 1) := by decide +kernel
theorem dX7_pop_0 : decode cX7_pop 0 = .ok (.aload_n 0, 1) := by decide +kernel
theorem dX7_pop_1 : decode cX7_pop 1 = .ok (.getfield 35, 3) := by decide +kernel
theorem dX7_pop_4 : decode cX7_pop 4 = .ok (.ifCond .gt 5, 3) := by decide +kernel
theorem dX7_pop_7 : decode cX7_pop 7 = .ok (.iconst 0, 1) := by decide +kernel
theorem dX7_pop_8 : decode cX7_pop 8 = .ok (.ireturn, 1) := by decide +kernel
theorem dX7_pop_9 : decode cX7_pop 9 = .ok (.aload_n 0, 1) := by decide +kernel
theorem dX7_pop_10 : decode cX7_pop 10 = .ok (.dup, 1) := by decide +kernel
theorem dX7_pop_11 : decode cX7_pop 11 = .ok (.getfield 35, 3) := by decide +kernel
theorem dX7_pop_14 : decode cX7_pop 14 = .ok (.iconst 1, 1) := by decide +kernel
theorem dX7_pop_15 : decode cX7_pop 15 = .ok (.isub, 1) := by decide +kernel
theorem dX7_pop_16 : decode cX7_pop 16 = .ok (.putfield 35, 3) := by decide +kernel
theorem dX7_pop_19 : decode cX7_pop 19 = .ok (.aload_n 0, 1) := by decide +kernel
theorem dX7_pop_20 : decode cX7_pop 20 = .ok (.getfield 18, 3) := by decide +kernel
theorem dX7_pop_23 : decode cX7_pop 23 = .ok (.aload_n 0, 1) := by decide +kernel
theorem dX7_pop_24 : decode cX7_pop 24 = .ok (.getfield 35, 3) := by decide +kernel
theorem dX7_pop_27 : decode cX7_pop 27 = .ok (.iaload, 1) := by decide +kernel
theorem dX7_pop_28 : decode cX7_pop 28 = .ok (.ireturn, 1) := by decide +kernel
theorem dX7_join_0 : decode cX7_join 0 = .ok (.iload_n 0, 1) := by decide +kernel
theorem dX7_join_1 : decode cX7_join 1 = .ok (.lookupswitch 104 #[(42, 100), (43, 92), (45, 96), (60, 59), (61, 81), (62, 70)], 59) := by decide +kernel
theorem dX7_join_60 : decode cX7_join 60 = .ok (.iload_n 1, 1) := by decide +kernel
theorem dX7_join_61 : decode cX7_join 61 = .ok (.iload_n 2, 1) := by decide +kernel
theorem dX7_join_62 : decode cX7_join 62 = .ok (.if_icmp .ge 7, 3) := by decide +kernel
theorem dX7_join_65 : decode cX7_join 65 = .ok (.iconst 1, 1) := by decide +kernel
theorem dX7_join_66 : decode cX7_join 66 = .ok (.goto 4, 3) := by decide +kernel
theorem dX7_join_69 : decode cX7_join 69 = .ok (.iconst 0, 1) := by decide +kernel
theorem dX7_join_70 : decode cX7_join 70 = .ok (.ireturn, 1) := by decide +kernel
theorem dX7_join_71 : decode cX7_join 71 = .ok (.iload_n 1, 1) := by decide +kernel
theorem dX7_join_72 : decode cX7_join 72 = .ok (.iload_n 2, 1) := by decide +kernel
theorem dX7_join_73 : decode cX7_join 73 = .ok (.if_icmp .le 7, 3) := by decide +kernel
theorem dX7_join_76 : decode cX7_join 76 = .ok (.iconst 1, 1) := by decide +kernel
theorem dX7_join_77 : decode cX7_join 77 = .ok (.goto 4, 3) := by decide +kernel
theorem dX7_join_80 : decode cX7_join 80 = .ok (.iconst 0, 1) := by decide +kernel
theorem dX7_join_81 : decode cX7_join 81 = .ok (.ireturn, 1) := by decide +kernel
theorem dX7_join_82 : decode cX7_join 82 = .ok (.iload_n 1, 1) := by decide +kernel
theorem dX7_join_83 : decode cX7_join 83 = .ok (.iload_n 2, 1) := by decide +kernel
theorem dX7_join_84 : decode cX7_join 84 = .ok (.if_icmp .ne 7, 3) := by decide +kernel
theorem dX7_join_87 : decode cX7_join 87 = .ok (.iconst 1, 1) := by decide +kernel
theorem dX7_join_88 : decode cX7_join 88 = .ok (.goto 4, 3) := by decide +kernel
theorem dX7_join_91 : decode cX7_join 91 = .ok (.iconst 0, 1) := by decide +kernel
theorem dX7_join_92 : decode cX7_join 92 = .ok (.ireturn, 1) := by decide +kernel
theorem dX7_join_93 : decode cX7_join 93 = .ok (.iload_n 1, 1) := by decide +kernel
theorem dX7_join_94 : decode cX7_join 94 = .ok (.iload_n 2, 1) := by decide +kernel
theorem dX7_join_95 : decode cX7_join 95 = .ok (.iadd, 1) := by decide +kernel
theorem dX7_join_96 : decode cX7_join 96 = .ok (.ireturn, 1) := by decide +kernel
theorem dX7_join_97 : decode cX7_join 97 = .ok (.iload_n 1, 1) := by decide +kernel
theorem dX7_join_98 : decode cX7_join 98 = .ok (.iload_n 2, 1) := by decide +kernel
theorem dX7_join_99 : decode cX7_join 99 = .ok (.isub, 1) := by decide +kernel
theorem dX7_join_100 : decode cX7_join 100 = .ok (.ireturn, 1) := by decide +kernel
theorem dX7_join_101 : decode cX7_join 101 = .ok (.iload_n 1, 1) := by decide +kernel
theorem dX7_join_102 : decode cX7_join 102 = .ok (.iload_n 2, 1) := by decide +kernel
theorem dX7_join_103 : decode cX7_join 103 = .ok (.imul, 1) := by decide +kernel
theorem dX7_join_104 : decode cX7_join 104 = .ok (.ireturn, 1) := by decide +kernel
theorem dX7_join_105 : decode cX7_join 105 = .ok (.iload_n 2, 1) := by decide +kernel
theorem dX7_join_106 : decode cX7_join 106 = .ok (.ifCond .ne 7, 3) := by decide +kernel
theorem dX7_join_109 : decode cX7_join 109 = .ok (.iconst 0, 1) := by decide +kernel
theorem dX7_join_110 : decode cX7_join 110 = .ok (.goto 6, 3) := by decide +kernel
theorem dX7_join_113 : decode cX7_join 113 = .ok (.iload_n 1, 1) := by decide +kernel
theorem dX7_join_114 : decode cX7_join 114 = .ok (.iload_n 2, 1) := by decide +kernel
theorem dX7_join_115 : decode cX7_join 115 = .ok (.idiv, 1) := by decide +kernel
theorem dX7_join_116 : decode cX7_join 116 = .ok (.ireturn, 1) := by decide +kernel
theorem dX8_init_0 : decode cX8_init 0 = .ok (.aload_n 0, 1) := by decide +kernel
theorem dX8_init_1 : decode cX8_init 1 = .ok (.invokespecial 3, 3) := by decide +kernel
theorem dX8_init_4 : decode cX8_init 4 = .ok (.aload_n 0, 1) := by decide +kernel
theorem dX8_init_5 : decode cX8_init 5 = .ok (.bipush 40, 2) := by decide +kernel
theorem dX8_init_7 : decode cX8_init 7 = .ok (.newarray .int, 2) := by decide +kernel
theorem dX8_init_9 : decode cX8_init 9 = .ok (.putfield 9, 3) := by decide +kernel
theorem dX8_init_12 : decode cX8_init 12 = .ok (.aload_n 0, 1) := by decide +kernel
theorem dX8_init_13 : decode cX8_init 13 = .ok (.aload_n 1, 1) := by decide +kernel
theorem dX8_init_14 : decode cX8_init 14 = .ok (.putfield 15, 3) := by decide +kernel
theorem dX8_init_17 : decode cX8_init 17 = .ok (.aload_n 0, 1) := by decide +kernel
theorem dX8_init_18 : decode cX8_init 18 = .ok (.aload_n 2, 1) := by decide +kernel
theorem dX8_init_19 : decode cX8_init 19 = .ok (.putfield 19, 3) := by decide +kernel
theorem dX8_init_22 : decode cX8_init 22 = .ok (.return_, 1) := by decide +kernel
theorem dX8_readText_0 : decode cX8_readText 0 = .ok (.aload_n 0, 1) := by decide +kernel
theorem dX8_readText_1 : decode cX8_readText 1 = .ok (.iconst 0, 1) := by decide +kernel
theorem dX8_readText_2 : decode cX8_readText 2 = .ok (.putfield 23, 3) := by decide +kernel
theorem dX8_readText_5 : decode cX8_readText 5 = .ok (.aload_n 0, 1) := by decide +kernel
theorem dX8_readText_6 : decode cX8_readText 6 = .ok (.iconst 0, 1) := by decide +kernel
theorem dX8_readText_7 : decode cX8_readText 7 = .ok (.putfield 27, 3) := by decide +kernel
theorem dX8_readText_10 : decode cX8_readText 10 = .ok (.aload_n 0, 1) := by decide +kernel
theorem dX8_readText_11 : decode cX8_readText 11 = .ok (.getfield 15, 3) := by decide +kernel
theorem dX8_readText_14 : decode cX8_readText 14 = .ok (.getfield 30, 3) := by decide +kernel
theorem dX8_readText_17 : decode cX8_readText 17 = .ok (.ifCond .le 32, 3) := by decide +kernel
theorem dX8_readText_20 : decode cX8_readText 20 = .ok (.aload_n 0, 1) := by decide +kernel
theorem dX8_readText_21 : decode cX8_readText 21 = .ok (.iconst 0, 1) := by decide +kernel
theorem dX8_readText_22 : decode cX8_readText 22 = .ok (.invokevirtual 35, 3) := by decide +kernel
theorem dX8_readText_25 : decode cX8_readText 25 = .ok (.ifCond .eq 17, 3) := by decide +kernel
theorem dX8_readText_28 : decode cX8_readText 28 = .ok (.aload_n 0, 1) := by decide +kernel
theorem dX8_readText_29 : decode cX8_readText 29 = .ok (.getfield 23, 3) := by decide +kernel
theorem dX8_readText_32 : decode cX8_readText 32 = .ok (.aload_n 0, 1) := by decide +kernel
theorem dX8_readText_33 : decode cX8_readText 33 = .ok (.getfield 15, 3) := by decide +kernel
theorem dX8_readText_36 : decode cX8_readText 36 = .ok (.getfield 30, 3) := by decide +kernel
theorem dX8_readText_39 : decode cX8_readText 39 = .ok (.if_icmp .ge 10, 3) := by decide +kernel
theorem dX8_readText_42 : decode cX8_readText 42 = .ok (.iconst (-1), 1) := by decide +kernel
theorem dX8_readText_43 : decode cX8_readText 43 = .ok (.aload_n 0, 1) := by decide +kernel
theorem dX8_readText_44 : decode cX8_readText 44 = .ok (.getfield 23, 3) := by decide +kernel
theorem dX8_readText_47 : decode cX8_readText 47 = .ok (.isub, 1) := by decide +kernel
theorem dX8_readText_48 : decode cX8_readText 48 = .ok (.ireturn, 1) := by decide +kernel
theorem dX8_readText_49 : decode cX8_readText 49 = .ok (.aload_n 0, 1) := by decide +kernel
theorem dX8_readText_50 : decode cX8_readText 50 = .ok (.getfield 9, 3) := by decide +kernel
theorem dX8_readText_53 : decode cX8_readText 53 = .ok (.iconst 0, 1) := by decide +kernel
theorem dX8_readText_54 : decode cX8_readText 54 = .ok (.aload_n 0, 1) := by decide +kernel
theorem dX8_readText_55 : decode cX8_readText 55 = .ok (.getfield 19, 3) := by decide +kernel
theorem dX8_readText_58 : decode cX8_readText 58 = .ok (.getfield 39, 3) := by decide +kernel
theorem dX8_readText_61 : decode cX8_readText 61 = .ok (.iconst 0, 1) := by decide +kernel
theorem dX8_readText_62 : decode cX8_readText 62 = .ok (.aload_n 0, 1) := by decide +kernel
theorem dX8_readText_63 : decode cX8_readText 63 = .ok (.getfield 27, 3) := by decide +kernel
theorem dX8_readText_66 : decode cX8_readText 66 = .ok (.invokestatic 42, 3) := by decide +kernel
theorem dX8_readText_69 : decode cX8_readText 69 = .ok (.aload_n 0, 1) := by decide +kernel
theorem dX8_readText_70 : decode cX8_readText 70 = .ok (.getfield 19, 3) := by decide +kernel
theorem dX8_readText_73 : decode cX8_readText 73 = .ok (.aload_n 0, 1) := by decide +kernel
theorem dX8_readText_74 : decode cX8_readText 74 = .ok (.getfield 27, 3) := by decide +kernel
theorem dX8_readText_77 : decode cX8_readText 77 = .ok (.putfield 48, 3) := by decide +kernel
theorem dX8_readText_80 : decode cX8_readText 80 = .ok (.iconst 0, 1) := by decide +kernel
theorem dX8_readText_81 : decode cX8_readText 81 = .ok (.ireturn, 1) := by decide +kernel
theorem dX8_next_0 : decode cX8_next 0 = .ok (.aload_n 0, 1) := by decide +kernel
theorem dX8_next_1 : decode cX8_next 1 = .ok (.getfield 23, 3) := by decide +kernel
theorem dX8_next_4 : decode cX8_next 4 = .ok (.bipush 40, 2) := by decide +kernel
theorem dX8_next_6 : decode cX8_next 6 = .ok (.if_icmp .ge 17, 3) := by decide +kernel
theorem dX8_next_9 : decode cX8_next 9 = .ok (.aload_n 0, 1) := by decide +kernel
theorem dX8_next_10 : decode cX8_next 10 = .ok (.getfield 15, 3) := by decide +kernel
theorem dX8_next_13 : decode cX8_next 13 = .ok (.aload_n 0, 1) := by decide +kernel
theorem dX8_next_14 : decode cX8_next 14 = .ok (.getfield 23, 3) := by decide +kernel
theorem dX8_next_17 : decode cX8_next 17 = .ok (.invokevirtual 49, 3) := by decide +kernel
theorem dX8_next_20 : decode cX8_next 20 = .ok (.goto 4, 3) := by decide +kernel
theorem dX8_next_23 : decode cX8_next 23 = .ok (.iconst (-1), 1) := by decide +kernel
theorem dX8_next_24 : decode cX8_next 24 = .ok (.ireturn, 1) := by decide +kernel
theorem dX8_emit_0 : decode cX8_emit 0 = .ok (.aload_n 0, 1) := by decide +kernel
theorem dX8_emit_1 : decode cX8_emit 1 = .ok (.getfield 27, 3) := by decide +kernel
theorem dX8_emit_4 : decode cX8_emit 4 = .ok (.aload_n 0, 1) := by decide +kernel
theorem dX8_emit_5 : decode cX8_emit 5 = .ok (.getfield 9, 3) := by decide +kernel
theorem dX8_emit_8 : decode cX8_emit 8 = .ok (.arraylength, 1) := by decide +kernel
theorem dX8_emit_9 : decode cX8_emit 9 = .ok (.if_icmp .ge 23, 3) := by decide +kernel
theorem dX8_emit_12 : decode cX8_emit 12 = .ok (.aload_n 0, 1) := by decide +kernel
theorem dX8_emit_13 : decode cX8_emit 13 = .ok (.getfield 9, 3) := by decide +kernel
theorem dX8_emit_16 : decode cX8_emit 16 = .ok (.aload_n 0, 1) := by decide +kernel
theorem dX8_emit_17 : decode cX8_emit 17 = .ok (.getfield 27, 3) := by decide +kernel
theorem dX8_emit_20 : decode cX8_emit 20 = .ok (.iload_n 1, 1) := by decide +kernel
theorem dX8_emit_21 : decode cX8_emit 21 = .ok (.iastore, 1) := by decide +kernel
theorem dX8_emit_22 : decode cX8_emit 22 = .ok (.aload_n 0, 1) := by decide +kernel
theorem dX8_emit_23 : decode cX8_emit 23 = .ok (.dup, 1) := by decide +kernel
theorem dX8_emit_24 : decode cX8_emit 24 = .ok (.getfield 27, 3) := by decide +kernel
theorem dX8_emit_27 : decode cX8_emit 27 = .ok (.iconst 1, 1) := by decide +kernel
theorem dX8_emit_28 : decode cX8_emit 28 = .ok (.iadd, 1) := by decide +kernel
theorem dX8_emit_29 : decode cX8_emit 29 = .ok (.putfield 27, 3) := by decide +kernel
theorem dX8_emit_32 : decode cX8_emit 32 = .ok (.return_, 1) := by decide +kernel
theorem dX8_readExpression_0 : decode cX8_readExpression 0 = .ok (.aload_n 0, 1) := by decide +kernel
theorem dX8_readExpression_1 : decode cX8_readExpression 1 = .ok (.iload_n 1, 1) := by decide +kernel
theorem dX8_readExpression_2 : decode cX8_readExpression 2 = .ok (.invokevirtual 53, 3) := by decide +kernel
theorem dX8_readExpression_5 : decode cX8_readExpression 5 = .ok (.ifCond .ne 5, 3) := by decide +kernel
theorem dX8_readExpression_8 : decode cX8_readExpression 8 = .ok (.iconst 0, 1) := by decide +kernel
theorem dX8_readExpression_9 : decode cX8_readExpression 9 = .ok (.ireturn, 1) := by decide +kernel
theorem dX8_readExpression_10 : decode cX8_readExpression 10 = .ok (.aload_n 0, 1) := by decide +kernel
theorem dX8_readExpression_11 : decode cX8_readExpression 11 = .ok (.invokevirtual 56, 3) := by decide +kernel
theorem dX8_readExpression_14 : decode cX8_readExpression 14 = .ok (.istore_n 2, 1) := by decide +kernel
theorem dX8_readExpression_15 : decode cX8_readExpression 15 = .ok (.iload_n 2, 1) := by decide +kernel
theorem dX8_readExpression_16 : decode cX8_readExpression 16 = .ok (.bipush 60, 2) := by decide +kernel
theorem dX8_readExpression_18 : decode cX8_readExpression 18 = .ok (.if_icmp .eq 17, 3) := by decide +kernel
theorem dX8_readExpression_21 : decode cX8_readExpression 21 = .ok (.iload_n 2, 1) := by decide +kernel
theorem dX8_readExpression_22 : decode cX8_readExpression 22 = .ok (.bipush 62, 2) := by decide +kernel
theorem dX8_readExpression_24 : decode cX8_readExpression 24 = .ok (.if_icmp .eq 11, 3) := by decide +kernel
theorem dX8_readExpression_27 : decode cX8_readExpression 27 = .ok (.iload_n 2, 1) := by decide +kernel
theorem dX8_readExpression_28 : decode cX8_readExpression 28 = .ok (.bipush 61, 2) := by decide +kernel
theorem dX8_readExpression_30 : decode cX8_readExpression 30 = .ok (.if_icmp .eq 5, 3) := by decide +kernel
theorem dX8_readExpression_33 : decode cX8_readExpression 33 = .ok (.iconst 1, 1) := by decide +kernel
theorem dX8_readExpression_34 : decode cX8_readExpression 34 = .ok (.ireturn, 1) := by decide +kernel
theorem dX8_readExpression_35 : decode cX8_readExpression 35 = .ok (.aload_n 0, 1) := by decide +kernel
theorem dX8_readExpression_36 : decode cX8_readExpression 36 = .ok (.dup, 1) := by decide +kernel
theorem dX8_readExpression_37 : decode cX8_readExpression 37 = .ok (.getfield 23, 3) := by decide +kernel
theorem dX8_readExpression_40 : decode cX8_readExpression 40 = .ok (.iconst 1, 1) := by decide +kernel
theorem dX8_readExpression_41 : decode cX8_readExpression 41 = .ok (.iadd, 1) := by decide +kernel
theorem dX8_readExpression_42 : decode cX8_readExpression 42 = .ok (.putfield 23, 3) := by decide +kernel
theorem dX8_readExpression_45 : decode cX8_readExpression 45 = .ok (.aload_n 0, 1) := by decide +kernel
theorem dX8_readExpression_46 : decode cX8_readExpression 46 = .ok (.iload_n 1, 1) := by decide +kernel
theorem dX8_readExpression_47 : decode cX8_readExpression 47 = .ok (.invokevirtual 53, 3) := by decide +kernel
theorem dX8_readExpression_50 : decode cX8_readExpression 50 = .ok (.ifCond .ne 5, 3) := by decide +kernel
theorem dX8_readExpression_53 : decode cX8_readExpression 53 = .ok (.iconst 0, 1) := by decide +kernel
theorem dX8_readExpression_54 : decode cX8_readExpression 54 = .ok (.ireturn, 1) := by decide +kernel
theorem dX8_readExpression_55 : decode cX8_readExpression 55 = .ok (.aload_n 0, 1) := by decide +kernel
theorem dX8_readExpression_56 : decode cX8_readExpression 56 = .ok (.sipush 2000, 3) := by decide +kernel
theorem dX8_readExpression_59 : decode cX8_readExpression 59 = .ok (.iload_n 2, 1) := by decide +kernel
theorem dX8_readExpression_60 : decode cX8_readExpression 60 = .ok (.iadd, 1) := by decide +kernel
theorem dX8_readExpression_61 : decode cX8_readExpression 61 = .ok (.invokevirtual 60, 3) := by decide +kernel
theorem dX8_readExpression_64 : decode cX8_readExpression 64 = .ok (.iconst 1, 1) := by decide +kernel
theorem dX8_readExpression_65 : decode cX8_readExpression 65 = .ok (.ireturn, 1) := by decide +kernel
theorem dX8_readSum_0 : decode cX8_readSum 0 = .ok (.aload_n 0, 1) := by decide +kernel
theorem dX8_readSum_1 : decode cX8_readSum 1 = .ok (.iload_n 1, 1) := by decide +kernel
theorem dX8_readSum_2 : decode cX8_readSum 2 = .ok (.invokevirtual 64, 3) := by decide +kernel
theorem dX8_readSum_5 : decode cX8_readSum 5 = .ok (.ifCond .ne 5, 3) := by decide +kernel
theorem dX8_readSum_8 : decode cX8_readSum 8 = .ok (.iconst 0, 1) := by decide +kernel
theorem dX8_readSum_9 : decode cX8_readSum 9 = .ok (.ireturn, 1) := by decide +kernel
theorem dX8_readSum_10 : decode cX8_readSum 10 = .ok (.iconst 0, 1) := by decide +kernel
theorem dX8_readSum_11 : decode cX8_readSum 11 = .ok (.istore_n 2, 1) := by decide +kernel
theorem dX8_readSum_12 : decode cX8_readSum 12 = .ok (.iload_n 2, 1) := by decide +kernel
theorem dX8_readSum_13 : decode cX8_readSum 13 = .ok (.bipush 40, 2) := by decide +kernel
theorem dX8_readSum_15 : decode cX8_readSum 15 = .ok (.if_icmp .ge 57, 3) := by decide +kernel
theorem dX8_readSum_18 : decode cX8_readSum 18 = .ok (.aload_n 0, 1) := by decide +kernel
theorem dX8_readSum_19 : decode cX8_readSum 19 = .ok (.invokevirtual 56, 3) := by decide +kernel
theorem dX8_readSum_22 : decode cX8_readSum 22 = .ok (.istore_n 3, 1) := by decide +kernel
theorem dX8_readSum_23 : decode cX8_readSum 23 = .ok (.iload_n 3, 1) := by decide +kernel
theorem dX8_readSum_24 : decode cX8_readSum 24 = .ok (.bipush 43, 2) := by decide +kernel
theorem dX8_readSum_26 : decode cX8_readSum 26 = .ok (.if_icmp .eq 11, 3) := by decide +kernel
theorem dX8_readSum_29 : decode cX8_readSum 29 = .ok (.iload_n 3, 1) := by decide +kernel
theorem dX8_readSum_30 : decode cX8_readSum 30 = .ok (.bipush 45, 2) := by decide +kernel
theorem dX8_readSum_32 : decode cX8_readSum 32 = .ok (.if_icmp .eq 5, 3) := by decide +kernel
theorem dX8_readSum_35 : decode cX8_readSum 35 = .ok (.iconst 1, 1) := by decide +kernel
theorem dX8_readSum_36 : decode cX8_readSum 36 = .ok (.ireturn, 1) := by decide +kernel
theorem dX8_readSum_37 : decode cX8_readSum 37 = .ok (.aload_n 0, 1) := by decide +kernel
theorem dX8_readSum_38 : decode cX8_readSum 38 = .ok (.dup, 1) := by decide +kernel
theorem dX8_readSum_39 : decode cX8_readSum 39 = .ok (.getfield 23, 3) := by decide +kernel
theorem dX8_readSum_42 : decode cX8_readSum 42 = .ok (.iconst 1, 1) := by decide +kernel
theorem dX8_readSum_43 : decode cX8_readSum 43 = .ok (.iadd, 1) := by decide +kernel
theorem dX8_readSum_44 : decode cX8_readSum 44 = .ok (.putfield 23, 3) := by decide +kernel
theorem dX8_readSum_47 : decode cX8_readSum 47 = .ok (.aload_n 0, 1) := by decide +kernel
theorem dX8_readSum_48 : decode cX8_readSum 48 = .ok (.iload_n 1, 1) := by decide +kernel
theorem dX8_readSum_49 : decode cX8_readSum 49 = .ok (.invokevirtual 64, 3) := by decide +kernel
theorem dX8_readSum_52 : decode cX8_readSum 52 = .ok (.ifCond .ne 5, 3) := by decide +kernel
theorem dX8_readSum_55 : decode cX8_readSum 55 = .ok (.iconst 0, 1) := by decide +kernel
theorem dX8_readSum_56 : decode cX8_readSum 56 = .ok (.ireturn, 1) := by decide +kernel
theorem dX8_readSum_57 : decode cX8_readSum 57 = .ok (.aload_n 0, 1) := by decide +kernel
theorem dX8_readSum_58 : decode cX8_readSum 58 = .ok (.sipush 2000, 3) := by decide +kernel
theorem dX8_readSum_61 : decode cX8_readSum 61 = .ok (.iload_n 3, 1) := by decide +kernel
theorem dX8_readSum_62 : decode cX8_readSum 62 = .ok (.iadd, 1) := by decide +kernel
theorem dX8_readSum_63 : decode cX8_readSum 63 = .ok (.invokevirtual 60, 3) := by decide +kernel
theorem dX8_readSum_66 : decode cX8_readSum 66 = .ok (.iinc 2 1, 3) := by decide +kernel
theorem dX8_readSum_69 : decode cX8_readSum 69 = .ok (.goto (-57), 3) := by decide +kernel
theorem dX8_readSum_72 : decode cX8_readSum 72 = .ok (.iconst 1, 1) := by decide +kernel
theorem dX8_readSum_73 : decode cX8_readSum 73 = .ok (.ireturn, 1) := by decide +kernel
theorem dX8_readProduct_0 : decode cX8_readProduct 0 = .ok (.aload_n 0, 1) := by decide +kernel
theorem dX8_readProduct_1 : decode cX8_readProduct 1 = .ok (.iload_n 1, 1) := by decide +kernel
theorem dX8_readProduct_2 : decode cX8_readProduct 2 = .ok (.invokevirtual 67, 3) := by decide +kernel
theorem dX8_readProduct_5 : decode cX8_readProduct 5 = .ok (.ifCond .ne 5, 3) := by decide +kernel
theorem dX8_readProduct_8 : decode cX8_readProduct 8 = .ok (.iconst 0, 1) := by decide +kernel
theorem dX8_readProduct_9 : decode cX8_readProduct 9 = .ok (.ireturn, 1) := by decide +kernel
theorem dX8_readProduct_10 : decode cX8_readProduct 10 = .ok (.iconst 0, 1) := by decide +kernel
theorem dX8_readProduct_11 : decode cX8_readProduct 11 = .ok (.istore_n 2, 1) := by decide +kernel
theorem dX8_readProduct_12 : decode cX8_readProduct 12 = .ok (.iload_n 2, 1) := by decide +kernel
theorem dX8_readProduct_13 : decode cX8_readProduct 13 = .ok (.bipush 40, 2) := by decide +kernel
theorem dX8_readProduct_15 : decode cX8_readProduct 15 = .ok (.if_icmp .ge 57, 3) := by decide +kernel
theorem dX8_readProduct_18 : decode cX8_readProduct 18 = .ok (.aload_n 0, 1) := by decide +kernel
theorem dX8_readProduct_19 : decode cX8_readProduct 19 = .ok (.invokevirtual 56, 3) := by decide +kernel
theorem dX8_readProduct_22 : decode cX8_readProduct 22 = .ok (.istore_n 3, 1) := by decide +kernel
theorem dX8_readProduct_23 : decode cX8_readProduct 23 = .ok (.iload_n 3, 1) := by decide +kernel
theorem dX8_readProduct_24 : decode cX8_readProduct 24 = .ok (.bipush 42, 2) := by decide +kernel
theorem dX8_readProduct_26 : decode cX8_readProduct 26 = .ok (.if_icmp .eq 11, 3) := by decide +kernel
theorem dX8_readProduct_29 : decode cX8_readProduct 29 = .ok (.iload_n 3, 1) := by decide +kernel
theorem dX8_readProduct_30 : decode cX8_readProduct 30 = .ok (.bipush 47, 2) := by decide +kernel
theorem dX8_readProduct_32 : decode cX8_readProduct 32 = .ok (.if_icmp .eq 5, 3) := by decide +kernel
theorem dX8_readProduct_35 : decode cX8_readProduct 35 = .ok (.iconst 1, 1) := by decide +kernel
theorem dX8_readProduct_36 : decode cX8_readProduct 36 = .ok (.ireturn, 1) := by decide +kernel
theorem dX8_readProduct_37 : decode cX8_readProduct 37 = .ok (.aload_n 0, 1) := by decide +kernel
theorem dX8_readProduct_38 : decode cX8_readProduct 38 = .ok (.dup, 1) := by decide +kernel
theorem dX8_readProduct_39 : decode cX8_readProduct 39 = .ok (.getfield 23, 3) := by decide +kernel
theorem dX8_readProduct_42 : decode cX8_readProduct 42 = .ok (.iconst 1, 1) := by decide +kernel
theorem dX8_readProduct_43 : decode cX8_readProduct 43 = .ok (.iadd, 1) := by decide +kernel
theorem dX8_readProduct_44 : decode cX8_readProduct 44 = .ok (.putfield 23, 3) := by decide +kernel
theorem dX8_readProduct_47 : decode cX8_readProduct 47 = .ok (.aload_n 0, 1) := by decide +kernel
theorem dX8_readProduct_48 : decode cX8_readProduct 48 = .ok (.iload_n 1, 1) := by decide +kernel
theorem dX8_readProduct_49 : decode cX8_readProduct 49 = .ok (.invokevirtual 67, 3) := by decide +kernel
theorem dX8_readProduct_52 : decode cX8_readProduct 52 = .ok (.ifCond .ne 5, 3) := by decide +kernel
theorem dX8_readProduct_55 : decode cX8_readProduct 55 = .ok (.iconst 0, 1) := by decide +kernel
theorem dX8_readProduct_56 : decode cX8_readProduct 56 = .ok (.ireturn, 1) := by decide +kernel
theorem dX8_readProduct_57 : decode cX8_readProduct 57 = .ok (.aload_n 0, 1) := by decide +kernel
theorem dX8_readProduct_58 : decode cX8_readProduct 58 = .ok (.sipush 2000, 3) := by decide +kernel
theorem dX8_readProduct_61 : decode cX8_readProduct 61 = .ok (.iload_n 3, 1) := by decide +kernel
theorem dX8_readProduct_62 : decode cX8_readProduct 62 = .ok (.iadd, 1) := by decide +kernel
theorem dX8_readProduct_63 : decode cX8_readProduct 63 = .ok (.invokevirtual 60, 3) := by decide +kernel
theorem dX8_readProduct_66 : decode cX8_readProduct 66 = .ok (.iinc 2 1, 3) := by decide +kernel
theorem dX8_readProduct_69 : decode cX8_readProduct 69 = .ok (.goto (-57), 3) := by decide +kernel
theorem dX8_readProduct_72 : decode cX8_readProduct 72 = .ok (.iconst 1, 1) := by decide +kernel
theorem dX8_readProduct_73 : decode cX8_readProduct 73 = .ok (.ireturn, 1) := by decide +kernel
theorem dX8_readSigned_0 : decode cX8_readSigned 0 = .ok (.iconst 0, 1) := by decide +kernel
theorem dX8_readSigned_1 : decode cX8_readSigned 1 = .ok (.istore_n 2, 1) := by decide +kernel
theorem dX8_readSigned_2 : decode cX8_readSigned 2 = .ok (.iconst 0, 1) := by decide +kernel
theorem dX8_readSigned_3 : decode cX8_readSigned 3 = .ok (.istore_n 3, 1) := by decide +kernel
theorem dX8_readSigned_4 : decode cX8_readSigned 4 = .ok (.iload_n 3, 1) := by decide +kernel
theorem dX8_readSigned_5 : decode cX8_readSigned 5 = .ok (.bipush 40, 2) := by decide +kernel
theorem dX8_readSigned_7 : decode cX8_readSigned 7 = .ok (.if_icmp .ge 31, 3) := by decide +kernel
theorem dX8_readSigned_10 : decode cX8_readSigned 10 = .ok (.aload_n 0, 1) := by decide +kernel
theorem dX8_readSigned_11 : decode cX8_readSigned 11 = .ok (.invokevirtual 56, 3) := by decide +kernel
theorem dX8_readSigned_14 : decode cX8_readSigned 14 = .ok (.bipush 45, 2) := by decide +kernel
theorem dX8_readSigned_16 : decode cX8_readSigned 16 = .ok (.if_icmp .ne 22, 3) := by decide +kernel
theorem dX8_readSigned_19 : decode cX8_readSigned 19 = .ok (.iinc 2 1, 3) := by decide +kernel
theorem dX8_readSigned_22 : decode cX8_readSigned 22 = .ok (.aload_n 0, 1) := by decide +kernel
theorem dX8_readSigned_23 : decode cX8_readSigned 23 = .ok (.dup, 1) := by decide +kernel
theorem dX8_readSigned_24 : decode cX8_readSigned 24 = .ok (.getfield 23, 3) := by decide +kernel
theorem dX8_readSigned_27 : decode cX8_readSigned 27 = .ok (.iconst 1, 1) := by decide +kernel
theorem dX8_readSigned_28 : decode cX8_readSigned 28 = .ok (.iadd, 1) := by decide +kernel
theorem dX8_readSigned_29 : decode cX8_readSigned 29 = .ok (.putfield 23, 3) := by decide +kernel
theorem dX8_readSigned_32 : decode cX8_readSigned 32 = .ok (.iinc 3 1, 3) := by decide +kernel
theorem dX8_readSigned_35 : decode cX8_readSigned 35 = .ok (.goto (-31), 3) := by decide +kernel
theorem dX8_readSigned_38 : decode cX8_readSigned 38 = .ok (.aload_n 0, 1) := by decide +kernel
theorem dX8_readSigned_39 : decode cX8_readSigned 39 = .ok (.iload_n 1, 1) := by decide +kernel
theorem dX8_readSigned_40 : decode cX8_readSigned 40 = .ok (.invokevirtual 70, 3) := by decide +kernel
theorem dX8_readSigned_43 : decode cX8_readSigned 43 = .ok (.ifCond .ne 5, 3) := by decide +kernel
theorem dX8_readSigned_46 : decode cX8_readSigned 46 = .ok (.iconst 0, 1) := by decide +kernel
theorem dX8_readSigned_47 : decode cX8_readSigned 47 = .ok (.ireturn, 1) := by decide +kernel
theorem dX8_readSigned_48 : decode cX8_readSigned 48 = .ok (.iconst 0, 1) := by decide +kernel
theorem dX8_readSigned_49 : decode cX8_readSigned 49 = .ok (.istore_n 3, 1) := by decide +kernel
theorem dX8_readSigned_50 : decode cX8_readSigned 50 = .ok (.iload_n 3, 1) := by decide +kernel
theorem dX8_readSigned_51 : decode cX8_readSigned 51 = .ok (.iload_n 2, 1) := by decide +kernel
theorem dX8_readSigned_52 : decode cX8_readSigned 52 = .ok (.if_icmp .ge 16, 3) := by decide +kernel
theorem dX8_readSigned_55 : decode cX8_readSigned 55 = .ok (.aload_n 0, 1) := by decide +kernel
theorem dX8_readSigned_56 : decode cX8_readSigned 56 = .ok (.sipush 2126, 3) := by decide +kernel
theorem dX8_readSigned_59 : decode cX8_readSigned 59 = .ok (.invokevirtual 60, 3) := by decide +kernel
theorem dX8_readSigned_62 : decode cX8_readSigned 62 = .ok (.iinc 3 1, 3) := by decide +kernel
theorem dX8_readSigned_65 : decode cX8_readSigned 65 = .ok (.goto (-15), 3) := by decide +kernel
theorem dX8_readSigned_68 : decode cX8_readSigned 68 = .ok (.iconst 1, 1) := by decide +kernel
theorem dX8_readSigned_69 : decode cX8_readSigned 69 = .ok (.ireturn, 1) := by decide +kernel
theorem dX8_readThing_0 : decode cX8_readThing 0 = .ok (.aload_n 0, 1) := by decide +kernel
theorem dX8_readThing_1 : decode cX8_readThing 1 = .ok (.invokevirtual 56, 3) := by decide +kernel
theorem dX8_readThing_4 : decode cX8_readThing 4 = .ok (.istore_n 2, 1) := by decide +kernel
theorem dX8_readThing_5 : decode cX8_readThing 5 = .ok (.iload_n 2, 1) := by decide +kernel
theorem dX8_readThing_6 : decode cX8_readThing 6 = .ok (.invokestatic 73, 3) := by decide +kernel
theorem dX8_readThing_9 : decode cX8_readThing 9 = .ok (.ifCond .eq 9, 3) := by decide +kernel
theorem dX8_readThing_12 : decode cX8_readThing 12 = .ok (.aload_n 0, 1) := by decide +kernel
theorem dX8_readThing_13 : decode cX8_readThing 13 = .ok (.invokevirtual 76, 3) := by decide +kernel
theorem dX8_readThing_16 : decode cX8_readThing 16 = .ok (.iconst 1, 1) := by decide +kernel
theorem dX8_readThing_17 : decode cX8_readThing 17 = .ok (.ireturn, 1) := by decide +kernel
theorem dX8_readThing_18 : decode cX8_readThing 18 = .ok (.iload_n 2, 1) := by decide +kernel
theorem dX8_readThing_19 : decode cX8_readThing 19 = .ok (.bipush 40, 2) := by decide +kernel
theorem dX8_readThing_21 : decode cX8_readThing 21 = .ok (.if_icmp .ne 9, 3) := by decide +kernel
theorem dX8_readThing_24 : decode cX8_readThing 24 = .ok (.aload_n 0, 1) := by decide +kernel
theorem dX8_readThing_25 : decode cX8_readThing 25 = .ok (.iload_n 1, 1) := by decide +kernel
theorem dX8_readThing_26 : decode cX8_readThing 26 = .ok (.invokevirtual 79, 3) := by decide +kernel
theorem dX8_readThing_29 : decode cX8_readThing 29 = .ok (.ireturn, 1) := by decide +kernel
theorem dX8_readThing_30 : decode cX8_readThing 30 = .ok (.iload_n 2, 1) := by decide +kernel
theorem dX8_readThing_31 : decode cX8_readThing 31 = .ok (.invokestatic 82, 3) := by decide +kernel
theorem dX8_readThing_34 : decode cX8_readThing 34 = .ok (.istore_n 3, 1) := by decide +kernel
theorem dX8_readThing_35 : decode cX8_readThing 35 = .ok (.iload_n 3, 1) := by decide +kernel
theorem dX8_readThing_36 : decode cX8_readThing 36 = .ok (.iconst (-1), 1) := by decide +kernel
theorem dX8_readThing_37 : decode cX8_readThing 37 = .ok (.if_icmp .ne 5, 3) := by decide +kernel
theorem dX8_readThing_40 : decode cX8_readThing 40 = .ok (.iconst 0, 1) := by decide +kernel
theorem dX8_readThing_41 : decode cX8_readThing 41 = .ok (.ireturn, 1) := by decide +kernel
theorem dX8_readThing_42 : decode cX8_readThing 42 = .ok (.aload_n 0, 1) := by decide +kernel
theorem dX8_readThing_43 : decode cX8_readThing 43 = .ok (.sipush 1000, 3) := by decide +kernel
theorem dX8_readThing_46 : decode cX8_readThing 46 = .ok (.iload_n 3, 1) := by decide +kernel
theorem dX8_readThing_47 : decode cX8_readThing 47 = .ok (.iadd, 1) := by decide +kernel
theorem dX8_readThing_48 : decode cX8_readThing 48 = .ok (.invokevirtual 60, 3) := by decide +kernel
theorem dX8_readThing_51 : decode cX8_readThing 51 = .ok (.aload_n 0, 1) := by decide +kernel
theorem dX8_readThing_52 : decode cX8_readThing 52 = .ok (.dup, 1) := by decide +kernel
theorem dX8_readThing_53 : decode cX8_readThing 53 = .ok (.getfield 23, 3) := by decide +kernel
theorem dX8_readThing_56 : decode cX8_readThing 56 = .ok (.iconst 1, 1) := by decide +kernel
theorem dX8_readThing_57 : decode cX8_readThing 57 = .ok (.iadd, 1) := by decide +kernel
theorem dX8_readThing_58 : decode cX8_readThing 58 = .ok (.putfield 23, 3) := by decide +kernel
theorem dX8_readThing_61 : decode cX8_readThing 61 = .ok (.iconst 1, 1) := by decide +kernel
theorem dX8_readThing_62 : decode cX8_readThing 62 = .ok (.ireturn, 1) := by decide +kernel
theorem dX8_factOf_0 : decode cX8_factOf 0 = .ok (.iload_n 0, 1) := by decide +kernel
theorem dX8_factOf_1 : decode cX8_factOf 1 = .ok (.tableswitch 86 102 115 #[79, 73, 75, 71, 86, 86, 81, 86, 77, 86, 86, 86, 86, 83], 71) := by decide +kernel
theorem dX8_factOf_72 : decode cX8_factOf 72 = .ok (.iconst 0, 1) := by decide +kernel
theorem dX8_factOf_73 : decode cX8_factOf 73 = .ok (.ireturn, 1) := by decide +kernel
theorem dX8_factOf_74 : decode cX8_factOf 74 = .ok (.iconst 1, 1) := by decide +kernel
theorem dX8_factOf_75 : decode cX8_factOf 75 = .ok (.ireturn, 1) := by decide +kernel
theorem dX8_factOf_76 : decode cX8_factOf 76 = .ok (.iconst 2, 1) := by decide +kernel
theorem dX8_factOf_77 : decode cX8_factOf 77 = .ok (.ireturn, 1) := by decide +kernel
theorem dX8_factOf_78 : decode cX8_factOf 78 = .ok (.iconst 3, 1) := by decide +kernel
theorem dX8_factOf_79 : decode cX8_factOf 79 = .ok (.ireturn, 1) := by decide +kernel
theorem dX8_factOf_80 : decode cX8_factOf 80 = .ok (.iconst 4, 1) := by decide +kernel
theorem dX8_factOf_81 : decode cX8_factOf 81 = .ok (.ireturn, 1) := by decide +kernel
theorem dX8_factOf_82 : decode cX8_factOf 82 = .ok (.iconst 5, 1) := by decide +kernel
theorem dX8_factOf_83 : decode cX8_factOf 83 = .ok (.ireturn, 1) := by decide +kernel
theorem dX8_factOf_84 : decode cX8_factOf 84 = .ok (.bipush 6, 2) := by decide +kernel
theorem dX8_factOf_86 : decode cX8_factOf 86 = .ok (.ireturn, 1) := by decide +kernel
theorem dX8_factOf_87 : decode cX8_factOf 87 = .ok (.iconst (-1), 1) := by decide +kernel
theorem dX8_factOf_88 : decode cX8_factOf 88 = .ok (.ireturn, 1) := by decide +kernel
theorem dX8_readNumber_0 : decode cX8_readNumber 0 = .ok (.iconst 0, 1) := by decide +kernel
theorem dX8_readNumber_1 : decode cX8_readNumber 1 = .ok (.istore_n 1, 1) := by decide +kernel
theorem dX8_readNumber_2 : decode cX8_readNumber 2 = .ok (.iconst 0, 1) := by decide +kernel
theorem dX8_readNumber_3 : decode cX8_readNumber 3 = .ok (.istore_n 2, 1) := by decide +kernel
theorem dX8_readNumber_4 : decode cX8_readNumber 4 = .ok (.iload_n 2, 1) := by decide +kernel
theorem dX8_readNumber_5 : decode cX8_readNumber 5 = .ok (.iconst 3, 1) := by decide +kernel
theorem dX8_readNumber_6 : decode cX8_readNumber 6 = .ok (.if_icmp .ge 42, 3) := by decide +kernel
theorem dX8_readNumber_9 : decode cX8_readNumber 9 = .ok (.aload_n 0, 1) := by decide +kernel
theorem dX8_readNumber_10 : decode cX8_readNumber 10 = .ok (.invokevirtual 56, 3) := by decide +kernel
theorem dX8_readNumber_13 : decode cX8_readNumber 13 = .ok (.invokestatic 73, 3) := by decide +kernel
theorem dX8_readNumber_16 : decode cX8_readNumber 16 = .ok (.ifCond .eq 32, 3) := by decide +kernel
theorem dX8_readNumber_19 : decode cX8_readNumber 19 = .ok (.bipush 10, 2) := by decide +kernel
theorem dX8_readNumber_21 : decode cX8_readNumber 21 = .ok (.iload_n 1, 1) := by decide +kernel
theorem dX8_readNumber_22 : decode cX8_readNumber 22 = .ok (.imul, 1) := by decide +kernel
theorem dX8_readNumber_23 : decode cX8_readNumber 23 = .ok (.aload_n 0, 1) := by decide +kernel
theorem dX8_readNumber_24 : decode cX8_readNumber 24 = .ok (.invokevirtual 56, 3) := by decide +kernel
theorem dX8_readNumber_27 : decode cX8_readNumber 27 = .ok (.iadd, 1) := by decide +kernel
theorem dX8_readNumber_28 : decode cX8_readNumber 28 = .ok (.bipush 48, 2) := by decide +kernel
theorem dX8_readNumber_30 : decode cX8_readNumber 30 = .ok (.isub, 1) := by decide +kernel
theorem dX8_readNumber_31 : decode cX8_readNumber 31 = .ok (.istore_n 1, 1) := by decide +kernel
theorem dX8_readNumber_32 : decode cX8_readNumber 32 = .ok (.aload_n 0, 1) := by decide +kernel
theorem dX8_readNumber_33 : decode cX8_readNumber 33 = .ok (.dup, 1) := by decide +kernel
theorem dX8_readNumber_34 : decode cX8_readNumber 34 = .ok (.getfield 23, 3) := by decide +kernel
theorem dX8_readNumber_37 : decode cX8_readNumber 37 = .ok (.iconst 1, 1) := by decide +kernel
theorem dX8_readNumber_38 : decode cX8_readNumber 38 = .ok (.iadd, 1) := by decide +kernel
theorem dX8_readNumber_39 : decode cX8_readNumber 39 = .ok (.putfield 23, 3) := by decide +kernel
theorem dX8_readNumber_42 : decode cX8_readNumber 42 = .ok (.iinc 2 1, 3) := by decide +kernel
theorem dX8_readNumber_45 : decode cX8_readNumber 45 = .ok (.goto (-41), 3) := by decide +kernel
theorem dX8_readNumber_48 : decode cX8_readNumber 48 = .ok (.aload_n 0, 1) := by decide +kernel
theorem dX8_readNumber_49 : decode cX8_readNumber 49 = .ok (.iload_n 1, 1) := by decide +kernel
theorem dX8_readNumber_50 : decode cX8_readNumber 50 = .ok (.invokevirtual 60, 3) := by decide +kernel
theorem dX8_readNumber_53 : decode cX8_readNumber 53 = .ok (.return_, 1) := by decide +kernel
theorem dX8_readBraced_0 : decode cX8_readBraced 0 = .ok (.iload_n 1, 1) := by decide +kernel
theorem dX8_readBraced_1 : decode cX8_readBraced 1 = .ok (.iconst 4, 1) := by decide +kernel
theorem dX8_readBraced_2 : decode cX8_readBraced 2 = .ok (.if_icmp .lt 5, 3) := by decide +kernel
theorem dX8_readBraced_5 : decode cX8_readBraced 5 = .ok (.iconst 0, 1) := by decide +kernel
theorem dX8_readBraced_6 : decode cX8_readBraced 6 = .ok (.ireturn, 1) := by decide +kernel
theorem dX8_readBraced_7 : decode cX8_readBraced 7 = .ok (.aload_n 0, 1) := by decide +kernel
theorem dX8_readBraced_8 : decode cX8_readBraced 8 = .ok (.dup, 1) := by decide +kernel
theorem dX8_readBraced_9 : decode cX8_readBraced 9 = .ok (.getfield 23, 3) := by decide +kernel
theorem dX8_readBraced_12 : decode cX8_readBraced 12 = .ok (.iconst 1, 1) := by decide +kernel
theorem dX8_readBraced_13 : decode cX8_readBraced 13 = .ok (.iadd, 1) := by decide +kernel
theorem dX8_readBraced_14 : decode cX8_readBraced 14 = .ok (.putfield 23, 3) := by decide +kernel
theorem dX8_readBraced_17 : decode cX8_readBraced 17 = .ok (.aload_n 0, 1) := by decide +kernel
theorem dX8_readBraced_18 : decode cX8_readBraced 18 = .ok (.iload_n 1, 1) := by decide +kernel
theorem dX8_readBraced_19 : decode cX8_readBraced 19 = .ok (.iconst 1, 1) := by decide +kernel
theorem dX8_readBraced_20 : decode cX8_readBraced 20 = .ok (.iadd, 1) := by decide +kernel
theorem dX8_readBraced_21 : decode cX8_readBraced 21 = .ok (.invokevirtual 35, 3) := by decide +kernel
theorem dX8_readBraced_24 : decode cX8_readBraced 24 = .ok (.ifCond .eq 12, 3) := by decide +kernel
theorem dX8_readBraced_27 : decode cX8_readBraced 27 = .ok (.aload_n 0, 1) := by decide +kernel
theorem dX8_readBraced_28 : decode cX8_readBraced 28 = .ok (.invokevirtual 56, 3) := by decide +kernel
theorem dX8_readBraced_31 : decode cX8_readBraced 31 = .ok (.bipush 41, 2) := by decide +kernel
theorem dX8_readBraced_33 : decode cX8_readBraced 33 = .ok (.if_icmp .eq 5, 3) := by decide +kernel
theorem dX8_readBraced_36 : decode cX8_readBraced 36 = .ok (.iconst 0, 1) := by decide +kernel
theorem dX8_readBraced_37 : decode cX8_readBraced 37 = .ok (.ireturn, 1) := by decide +kernel
theorem dX8_readBraced_38 : decode cX8_readBraced 38 = .ok (.aload_n 0, 1) := by decide +kernel
theorem dX8_readBraced_39 : decode cX8_readBraced 39 = .ok (.dup, 1) := by decide +kernel
theorem dX8_readBraced_40 : decode cX8_readBraced 40 = .ok (.getfield 23, 3) := by decide +kernel
theorem dX8_readBraced_43 : decode cX8_readBraced 43 = .ok (.iconst 1, 1) := by decide +kernel
theorem dX8_readBraced_44 : decode cX8_readBraced 44 = .ok (.iadd, 1) := by decide +kernel
theorem dX8_readBraced_45 : decode cX8_readBraced 45 = .ok (.putfield 23, 3) := by decide +kernel
theorem dX8_readBraced_48 : decode cX8_readBraced 48 = .ok (.iconst 1, 1) := by decide +kernel
theorem dX8_readBraced_49 : decode cX8_readBraced 49 = .ok (.ireturn, 1) := by decide +kernel
theorem dX9_init_0 : decode cX9_init 0 = .ok (.aload_n 0, 1) := by decide +kernel
theorem dX9_init_1 : decode cX9_init 1 = .ok (.invokespecial 3, 3) := by decide +kernel
theorem dX9_init_4 : decode cX9_init 4 = .ok (.aload_n 0, 1) := by decide +kernel
theorem dX9_init_5 : decode cX9_init 5 = .ok (.sipush 480, 3) := by decide +kernel
theorem dX9_init_8 : decode cX9_init 8 = .ok (.newarray .boolean, 2) := by decide +kernel
theorem dX9_init_10 : decode cX9_init 10 = .ok (.putfield 9, 3) := by decide +kernel
theorem dX9_init_13 : decode cX9_init 13 = .ok (.aload_n 0, 1) := by decide +kernel
theorem dX9_init_14 : decode cX9_init 14 = .ok (.sipush 480, 3) := by decide +kernel
theorem dX9_init_17 : decode cX9_init 17 = .ok (.newarray .long, 2) := by decide +kernel
theorem dX9_init_19 : decode cX9_init 19 = .ok (.putfield 15, 3) := by decide +kernel
theorem dX9_init_22 : decode cX9_init 22 = .ok (.aload_n 0, 1) := by decide +kernel
theorem dX9_init_23 : decode cX9_init 23 = .ok (.sipush 480, 3) := by decide +kernel
theorem dX9_init_26 : decode cX9_init 26 = .ok (.newarray .int, 2) := by decide +kernel
theorem dX9_init_28 : decode cX9_init 28 = .ok (.putfield 19, 3) := by decide +kernel
theorem dX9_init_31 : decode cX9_init 31 = .ok (.aload_n 0, 1) := by decide +kernel
theorem dX9_init_32 : decode cX9_init 32 = .ok (.sipush 480, 3) := by decide +kernel
theorem dX9_init_35 : decode cX9_init 35 = .ok (.newarray .int, 2) := by decide +kernel
theorem dX9_init_37 : decode cX9_init 37 = .ok (.putfield 23, 3) := by decide +kernel
theorem dX9_init_40 : decode cX9_init 40 = .ok (.aload_n 0, 1) := by decide +kernel
theorem dX9_init_41 : decode cX9_init 41 = .ok (.sipush 480, 3) := by decide +kernel
theorem dX9_init_44 : decode cX9_init 44 = .ok (.newarray .int, 2) := by decide +kernel
theorem dX9_init_46 : decode cX9_init 46 = .ok (.putfield 26, 3) := by decide +kernel
theorem dX9_init_49 : decode cX9_init 49 = .ok (.aload_n 0, 1) := by decide +kernel
theorem dX9_init_50 : decode cX9_init 50 = .ok (.aload_n 1, 1) := by decide +kernel
theorem dX9_init_51 : decode cX9_init 51 = .ok (.putfield 29, 3) := by decide +kernel
theorem dX9_init_54 : decode cX9_init 54 = .ok (.aload_n 0, 1) := by decide +kernel
theorem dX9_init_55 : decode cX9_init 55 = .ok (.aload_n 2, 1) := by decide +kernel
theorem dX9_init_56 : decode cX9_init 56 = .ok (.putfield 33, 3) := by decide +kernel
theorem dX9_init_59 : decode cX9_init 59 = .ok (.return_, 1) := by decide +kernel
theorem dX9_isRight_0 : decode cX9_isRight 0 = .ok (.iload_n 1, 1) := by decide +kernel
theorem dX9_isRight_1 : decode cX9_isRight 1 = .ok (.aload_n 0, 1) := by decide +kernel
theorem dX9_isRight_2 : decode cX9_isRight 2 = .ok (.getfield 37, 3) := by decide +kernel
theorem dX9_isRight_5 : decode cX9_isRight 5 = .ok (.if_icmp .ge 21, 3) := by decide +kernel
theorem dX9_isRight_8 : decode cX9_isRight 8 = .ok (.aload_n 0, 1) := by decide +kernel
theorem dX9_isRight_9 : decode cX9_isRight 9 = .ok (.getfield 9, 3) := by decide +kernel
theorem dX9_isRight_12 : decode cX9_isRight 12 = .ok (.iload_n 1, 1) := by decide +kernel
theorem dX9_isRight_13 : decode cX9_isRight 13 = .ok (.bipush 40, 2) := by decide +kernel
theorem dX9_isRight_15 : decode cX9_isRight 15 = .ok (.imul, 1) := by decide +kernel
theorem dX9_isRight_16 : decode cX9_isRight 16 = .ok (.iload_n 2, 1) := by decide +kernel
theorem dX9_isRight_17 : decode cX9_isRight 17 = .ok (.iadd, 1) := by decide +kernel
theorem dX9_isRight_18 : decode cX9_isRight 18 = .ok (.baload, 1) := by decide +kernel
theorem dX9_isRight_19 : decode cX9_isRight 19 = .ok (.ifCond .eq 7, 3) := by decide +kernel
theorem dX9_isRight_22 : decode cX9_isRight 22 = .ok (.iconst 1, 1) := by decide +kernel
theorem dX9_isRight_23 : decode cX9_isRight 23 = .ok (.goto 4, 3) := by decide +kernel
theorem dX9_isRight_26 : decode cX9_isRight 26 = .ok (.iconst 0, 1) := by decide +kernel
theorem dX9_isRight_27 : decode cX9_isRight 27 = .ok (.ireturn, 1) := by decide +kernel
theorem dX9_judge_0 : decode cX9_judge 0 = .ok (.aload_n 0, 1) := by decide +kernel
theorem dX9_judge_1 : decode cX9_judge 1 = .ok (.aload_n 1, 1) := by decide +kernel
theorem dX9_judge_2 : decode cX9_judge 2 = .ok (.getfield 41, 3) := by decide +kernel
theorem dX9_judge_5 : decode cX9_judge 5 = .ok (.putfield 37, 3) := by decide +kernel
theorem dX9_judge_8 : decode cX9_judge 8 = .ok (.aload_n 0, 1) := by decide +kernel
theorem dX9_judge_9 : decode cX9_judge 9 = .ok (.iload_n 2, 1) := by decide +kernel
theorem dX9_judge_10 : decode cX9_judge 10 = .ok (.putfield 46, 3) := by decide +kernel
theorem dX9_judge_13 : decode cX9_judge 13 = .ok (.iconst 0, 1) := by decide +kernel
theorem dX9_judge_14 : decode cX9_judge 14 = .ok (.istore_n 3, 1) := by decide +kernel
theorem dX9_judge_15 : decode cX9_judge 15 = .ok (.iconst 1, 1) := by decide +kernel
theorem dX9_judge_16 : decode cX9_judge 16 = .ok (.istore 4, 2) := by decide +kernel
theorem dX9_judge_18 : decode cX9_judge 18 = .ok (.iload 4, 2) := by decide +kernel
theorem dX9_judge_20 : decode cX9_judge 20 = .ok (.aload_n 0, 1) := by decide +kernel
theorem dX9_judge_21 : decode cX9_judge 21 = .ok (.getfield 37, 3) := by decide +kernel
theorem dX9_judge_24 : decode cX9_judge 24 = .ok (.if_icmp .ge 148, 3) := by decide +kernel
theorem dX9_judge_27 : decode cX9_judge 27 = .ok (.iload_n 3, 1) := by decide +kernel
theorem dX9_judge_28 : decode cX9_judge 28 = .ok (.aload_n 1, 1) := by decide +kernel
theorem dX9_judge_29 : decode cX9_judge 29 = .ok (.getfield 49, 3) := by decide +kernel
theorem dX9_judge_32 : decode cX9_judge 32 = .ok (.iload 4, 2) := by decide +kernel
theorem dX9_judge_34 : decode cX9_judge 34 = .ok (.iconst 1, 1) := by decide +kernel
theorem dX9_judge_35 : decode cX9_judge 35 = .ok (.isub, 1) := by decide +kernel
theorem dX9_judge_36 : decode cX9_judge 36 = .ok (.iaload, 1) := by decide +kernel
theorem dX9_judge_37 : decode cX9_judge 37 = .ok (.iadd, 1) := by decide +kernel
theorem dX9_judge_38 : decode cX9_judge 38 = .ok (.istore_n 3, 1) := by decide +kernel
theorem dX9_judge_39 : decode cX9_judge 39 = .ok (.aload_n 0, 1) := by decide +kernel
theorem dX9_judge_40 : decode cX9_judge 40 = .ok (.getfield 33, 3) := by decide +kernel
theorem dX9_judge_43 : decode cX9_judge 43 = .ok (.iload 4, 2) := by decide +kernel
theorem dX9_judge_45 : decode cX9_judge 45 = .ok (.aload_n 1, 1) := by decide +kernel
theorem dX9_judge_46 : decode cX9_judge 46 = .ok (.getfield 49, 3) := by decide +kernel
theorem dX9_judge_49 : decode cX9_judge 49 = .ok (.iconst 0, 1) := by decide +kernel
theorem dX9_judge_50 : decode cX9_judge 50 = .ok (.iaload, 1) := by decide +kernel
theorem dX9_judge_51 : decode cX9_judge 51 = .ok (.aload_n 1, 1) := by decide +kernel
theorem dX9_judge_52 : decode cX9_judge 52 = .ok (.getfield 49, 3) := by decide +kernel
theorem dX9_judge_55 : decode cX9_judge 55 = .ok (.iload 4, 2) := by decide +kernel
theorem dX9_judge_57 : decode cX9_judge 57 = .ok (.iconst 1, 1) := by decide +kernel
theorem dX9_judge_58 : decode cX9_judge 58 = .ok (.isub, 1) := by decide +kernel
theorem dX9_judge_59 : decode cX9_judge 59 = .ok (.iaload, 1) := by decide +kernel
theorem dX9_judge_60 : decode cX9_judge 60 = .ok (.iload_n 3, 1) := by decide +kernel
theorem dX9_judge_61 : decode cX9_judge 61 = .ok (.invokevirtual 52, 3) := by decide +kernel
theorem dX9_judge_64 : decode cX9_judge 64 = .ok (.iconst 0, 1) := by decide +kernel
theorem dX9_judge_65 : decode cX9_judge 65 = .ok (.istore 5, 2) := by decide +kernel
theorem dX9_judge_67 : decode cX9_judge 67 = .ok (.iload 5, 2) := by decide +kernel
theorem dX9_judge_69 : decode cX9_judge 69 = .ok (.iconst 2, 1) := by decide +kernel
theorem dX9_judge_70 : decode cX9_judge 70 = .ok (.aload_n 0, 1) := by decide +kernel
theorem dX9_judge_71 : decode cX9_judge 71 = .ok (.getfield 29, 3) := by decide +kernel
theorem dX9_judge_74 : decode cX9_judge 74 = .ok (.getfield 58, 3) := by decide +kernel
theorem dX9_judge_77 : decode cX9_judge 77 = .ok (.imul, 1) := by decide +kernel
theorem dX9_judge_78 : decode cX9_judge 78 = .ok (.if_icmp .ge 88, 3) := by decide +kernel
theorem dX9_judge_81 : decode cX9_judge 81 = .ok (.iload 5, 2) := by decide +kernel
theorem dX9_judge_83 : decode cX9_judge 83 = .ok (.iconst 1, 1) := by decide +kernel
theorem dX9_judge_84 : decode cX9_judge 84 = .ok (.ishr, 1) := by decide +kernel
theorem dX9_judge_85 : decode cX9_judge 85 = .ok (.istore 6, 2) := by decide +kernel
theorem dX9_judge_87 : decode cX9_judge 87 = .ok (.aload_n 0, 1) := by decide +kernel
theorem dX9_judge_88 : decode cX9_judge 88 = .ok (.getfield 29, 3) := by decide +kernel
theorem dX9_judge_91 : decode cX9_judge 91 = .ok (.iload 5, 2) := by decide +kernel
theorem dX9_judge_93 : decode cX9_judge 93 = .ok (.invokevirtual 63, 3) := by decide +kernel
theorem dX9_judge_96 : decode cX9_judge 96 = .ok (.istore 7, 2) := by decide +kernel
theorem dX9_judge_98 : decode cX9_judge 98 = .ok (.aload_n 0, 1) := by decide +kernel
theorem dX9_judge_99 : decode cX9_judge 99 = .ok (.getfield 33, 3) := by decide +kernel
theorem dX9_judge_102 : decode cX9_judge 102 = .ok (.iload 7, 2) := by decide +kernel
theorem dX9_judge_104 : decode cX9_judge 104 = .ok (.aload_n 0, 1) := by decide +kernel
theorem dX9_judge_105 : decode cX9_judge 105 = .ok (.getfield 29, 3) := by decide +kernel
theorem dX9_judge_108 : decode cX9_judge 108 = .ok (.iload 6, 2) := by decide +kernel
theorem dX9_judge_110 : decode cX9_judge 110 = .ok (.iload 7, 2) := by decide +kernel
theorem dX9_judge_112 : decode cX9_judge 112 = .ok (.invokevirtual 67, 3) := by decide +kernel
theorem dX9_judge_115 : decode cX9_judge 115 = .ok (.aload_n 0, 1) := by decide +kernel
theorem dX9_judge_116 : decode cX9_judge 116 = .ok (.getfield 29, 3) := by decide +kernel
theorem dX9_judge_119 : decode cX9_judge 119 = .ok (.getfield 71, 3) := by decide +kernel
theorem dX9_judge_122 : decode cX9_judge 122 = .ok (.iload 6, 2) := by decide +kernel
theorem dX9_judge_124 : decode cX9_judge 124 = .ok (.iaload, 1) := by decide +kernel
theorem dX9_judge_125 : decode cX9_judge 125 = .ok (.invokevirtual 74, 3) := by decide +kernel
theorem dX9_judge_128 : decode cX9_judge 128 = .ok (.istore 8, 2) := by decide +kernel
theorem dX9_judge_130 : decode cX9_judge 130 = .ok (.aload_n 0, 1) := by decide +kernel
theorem dX9_judge_131 : decode cX9_judge 131 = .ok (.getfield 9, 3) := by decide +kernel
theorem dX9_judge_134 : decode cX9_judge 134 = .ok (.iload 4, 2) := by decide +kernel
theorem dX9_judge_136 : decode cX9_judge 136 = .ok (.bipush 40, 2) := by decide +kernel
theorem dX9_judge_138 : decode cX9_judge 138 = .ok (.imul, 1) := by decide +kernel
theorem dX9_judge_139 : decode cX9_judge 139 = .ok (.iload 5, 2) := by decide +kernel
theorem dX9_judge_141 : decode cX9_judge 141 = .ok (.iadd, 1) := by decide +kernel
theorem dX9_judge_142 : decode cX9_judge 142 = .ok (.iload 8, 2) := by decide +kernel
theorem dX9_judge_144 : decode cX9_judge 144 = .ok (.aload_n 1, 1) := by decide +kernel
theorem dX9_judge_145 : decode cX9_judge 145 = .ok (.getfield 49, 3) := by decide +kernel
theorem dX9_judge_148 : decode cX9_judge 148 = .ok (.iload 4, 2) := by decide +kernel
theorem dX9_judge_150 : decode cX9_judge 150 = .ok (.iaload, 1) := by decide +kernel
theorem dX9_judge_151 : decode cX9_judge 151 = .ok (.if_icmp .ne 7, 3) := by decide +kernel
theorem dX9_judge_154 : decode cX9_judge 154 = .ok (.iconst 1, 1) := by decide +kernel
theorem dX9_judge_155 : decode cX9_judge 155 = .ok (.goto 4, 3) := by decide +kernel
theorem dX9_judge_158 : decode cX9_judge 158 = .ok (.iconst 0, 1) := by decide +kernel
theorem dX9_judge_159 : decode cX9_judge 159 = .ok (.bastore, 1) := by decide +kernel
theorem dX9_judge_160 : decode cX9_judge 160 = .ok (.iinc 5 1, 3) := by decide +kernel
theorem dX9_judge_163 : decode cX9_judge 163 = .ok (.goto (-96), 3) := by decide +kernel
theorem dX9_judge_166 : decode cX9_judge 166 = .ok (.iinc 4 1, 3) := by decide +kernel
theorem dX9_judge_169 : decode cX9_judge 169 = .ok (.goto (-151), 3) := by decide +kernel
theorem dX9_judge_172 : decode cX9_judge 172 = .ok (.return_, 1) := by decide +kernel
theorem dX9_countFits_0 : decode cX9_countFits 0 = .ok (.aload_n 0, 1) := by decide +kernel
theorem dX9_countFits_1 : decode cX9_countFits 1 = .ok (.aload_n 1, 1) := by decide +kernel
theorem dX9_countFits_2 : decode cX9_countFits 2 = .ok (.iload_n 2, 1) := by decide +kernel
theorem dX9_countFits_3 : decode cX9_countFits 3 = .ok (.invokevirtual 78, 3) := by decide +kernel
theorem dX9_countFits_6 : decode cX9_countFits 6 = .ok (.aload_n 0, 1) := by decide +kernel
theorem dX9_countFits_7 : decode cX9_countFits 7 = .ok (.getfield 37, 3) := by decide +kernel
theorem dX9_countFits_10 : decode cX9_countFits 10 = .ok (.iconst 1, 1) := by decide +kernel
theorem dX9_countFits_11 : decode cX9_countFits 11 = .ok (.isub, 1) := by decide +kernel
theorem dX9_countFits_12 : decode cX9_countFits 12 = .ok (.istore_n 3, 1) := by decide +kernel
theorem dX9_countFits_13 : decode cX9_countFits 13 = .ok (.iload_n 3, 1) := by decide +kernel
theorem dX9_countFits_14 : decode cX9_countFits 14 = .ok (.iconst 1, 1) := by decide +kernel
theorem dX9_countFits_15 : decode cX9_countFits 15 = .ok (.if_icmp .lt 65, 3) := by decide +kernel
theorem dX9_countFits_18 : decode cX9_countFits 18 = .ok (.iconst 0, 1) := by decide +kernel
theorem dX9_countFits_19 : decode cX9_countFits 19 = .ok (.istore 4, 2) := by decide +kernel
theorem dX9_countFits_21 : decode cX9_countFits 21 = .ok (.iload 4, 2) := by decide +kernel
theorem dX9_countFits_23 : decode cX9_countFits 23 = .ok (.iconst 2, 1) := by decide +kernel
theorem dX9_countFits_24 : decode cX9_countFits 24 = .ok (.aload_n 0, 1) := by decide +kernel
theorem dX9_countFits_25 : decode cX9_countFits 25 = .ok (.getfield 29, 3) := by decide +kernel
theorem dX9_countFits_28 : decode cX9_countFits 28 = .ok (.getfield 58, 3) := by decide +kernel
theorem dX9_countFits_31 : decode cX9_countFits 31 = .ok (.imul, 1) := by decide +kernel
theorem dX9_countFits_32 : decode cX9_countFits 32 = .ok (.if_icmp .ge 42, 3) := by decide +kernel
theorem dX9_countFits_35 : decode cX9_countFits 35 = .ok (.aload_n 0, 1) := by decide +kernel
theorem dX9_countFits_36 : decode cX9_countFits 36 = .ok (.getfield 15, 3) := by decide +kernel
theorem dX9_countFits_39 : decode cX9_countFits 39 = .ok (.iload_n 3, 1) := by decide +kernel
theorem dX9_countFits_40 : decode cX9_countFits 40 = .ok (.bipush 40, 2) := by decide +kernel
theorem dX9_countFits_42 : decode cX9_countFits 42 = .ok (.imul, 1) := by decide +kernel
theorem dX9_countFits_43 : decode cX9_countFits 43 = .ok (.iload 4, 2) := by decide +kernel
theorem dX9_countFits_45 : decode cX9_countFits 45 = .ok (.iadd, 1) := by decide +kernel
theorem dX9_countFits_46 : decode cX9_countFits 46 = .ok (.aload_n 0, 1) := by decide +kernel
theorem dX9_countFits_47 : decode cX9_countFits 47 = .ok (.iload_n 3, 1) := by decide +kernel
theorem dX9_countFits_48 : decode cX9_countFits 48 = .ok (.iload 4, 2) := by decide +kernel
theorem dX9_countFits_50 : decode cX9_countFits 50 = .ok (.invokevirtual 82, 3) := by decide +kernel
theorem dX9_countFits_53 : decode cX9_countFits 53 = .ok (.ifCond .eq 13, 3) := by decide +kernel
theorem dX9_countFits_56 : decode cX9_countFits 56 = .ok (.aload_n 0, 1) := by decide +kernel
theorem dX9_countFits_57 : decode cX9_countFits 57 = .ok (.iload_n 3, 1) := by decide +kernel
theorem dX9_countFits_58 : decode cX9_countFits 58 = .ok (.iload 4, 2) := by decide +kernel
theorem dX9_countFits_60 : decode cX9_countFits 60 = .ok (.invokevirtual 86, 3) := by decide +kernel
theorem dX9_countFits_63 : decode cX9_countFits 63 = .ok (.goto 4, 3) := by decide +kernel
theorem dX9_countFits_66 : decode cX9_countFits 66 = .ok (.lconst 0, 1) := by decide +kernel
theorem dX9_countFits_67 : decode cX9_countFits 67 = .ok (.lastore, 1) := by decide +kernel
theorem dX9_countFits_68 : decode cX9_countFits 68 = .ok (.iinc 4 1, 3) := by decide +kernel
theorem dX9_countFits_71 : decode cX9_countFits 71 = .ok (.goto (-50), 3) := by decide +kernel
theorem dX9_countFits_74 : decode cX9_countFits 74 = .ok (.iinc 3 (-1), 3) := by decide +kernel
theorem dX9_countFits_77 : decode cX9_countFits 77 = .ok (.goto (-64), 3) := by decide +kernel
theorem dX9_countFits_80 : decode cX9_countFits 80 = .ok (.return_, 1) := by decide +kernel
theorem dX9_numberAt_0 : decode cX9_numberAt 0 = .ok (.aload_n 0, 1) := by decide +kernel
theorem dX9_numberAt_1 : decode cX9_numberAt 1 = .ok (.getfield 29, 3) := by decide +kernel
theorem dX9_numberAt_4 : decode cX9_numberAt 4 = .ok (.iload_n 2, 1) := by decide +kernel
theorem dX9_numberAt_5 : decode cX9_numberAt 5 = .ok (.invokevirtual 63, 3) := by decide +kernel
theorem dX9_numberAt_8 : decode cX9_numberAt 8 = .ok (.istore_n 3, 1) := by decide +kernel
theorem dX9_numberAt_9 : decode cX9_numberAt 9 = .ok (.iload_n 1, 1) := by decide +kernel
theorem dX9_numberAt_10 : decode cX9_numberAt 10 = .ok (.aload_n 0, 1) := by decide +kernel
theorem dX9_numberAt_11 : decode cX9_numberAt 11 = .ok (.getfield 37, 3) := by decide +kernel
theorem dX9_numberAt_14 : decode cX9_numberAt 14 = .ok (.iconst 1, 1) := by decide +kernel
theorem dX9_numberAt_15 : decode cX9_numberAt 15 = .ok (.isub, 1) := by decide +kernel
theorem dX9_numberAt_16 : decode cX9_numberAt 16 = .ok (.if_icmp .ne 17, 3) := by decide +kernel
theorem dX9_numberAt_19 : decode cX9_numberAt 19 = .ok (.iload_n 3, 1) := by decide +kernel
theorem dX9_numberAt_20 : decode cX9_numberAt 20 = .ok (.aload_n 0, 1) := by decide +kernel
theorem dX9_numberAt_21 : decode cX9_numberAt 21 = .ok (.getfield 46, 3) := by decide +kernel
theorem dX9_numberAt_24 : decode cX9_numberAt 24 = .ok (.if_icmp .ne 7, 3) := by decide +kernel
theorem dX9_numberAt_27 : decode cX9_numberAt 27 = .ok (.lconst 1, 1) := by decide +kernel
theorem dX9_numberAt_28 : decode cX9_numberAt 28 = .ok (.goto 4, 3) := by decide +kernel
theorem dX9_numberAt_31 : decode cX9_numberAt 31 = .ok (.lconst 0, 1) := by decide +kernel
theorem dX9_numberAt_32 : decode cX9_numberAt 32 = .ok (.lreturn, 1) := by decide +kernel
theorem dX9_numberAt_33 : decode cX9_numberAt 33 = .ok (.aload_n 0, 1) := by decide +kernel
theorem dX9_numberAt_34 : decode cX9_numberAt 34 = .ok (.iload_n 3, 1) := by decide +kernel
theorem dX9_numberAt_35 : decode cX9_numberAt 35 = .ok (.aload_n 0, 1) := by decide +kernel
theorem dX9_numberAt_36 : decode cX9_numberAt 36 = .ok (.getfield 29, 3) := by decide +kernel
theorem dX9_numberAt_39 : decode cX9_numberAt 39 = .ok (.iload_n 2, 1) := by decide +kernel
theorem dX9_numberAt_40 : decode cX9_numberAt 40 = .ok (.invokevirtual 90, 3) := by decide +kernel
theorem dX9_numberAt_43 : decode cX9_numberAt 43 = .ok (.iload_n 1, 1) := by decide +kernel
theorem dX9_numberAt_44 : decode cX9_numberAt 44 = .ok (.iconst 1, 1) := by decide +kernel
theorem dX9_numberAt_45 : decode cX9_numberAt 45 = .ok (.iadd, 1) := by decide +kernel
theorem dX9_numberAt_46 : decode cX9_numberAt 46 = .ok (.invokevirtual 93, 3) := by decide +kernel
theorem dX9_numberAt_49 : decode cX9_numberAt 49 = .ok (.lreturn, 1) := by decide +kernel
theorem dX9_waysOn_0 : decode cX9_waysOn 0 = .ok (.lconst 0, 1) := by decide +kernel
theorem dX9_waysOn_1 : decode cX9_waysOn 1 = .ok (.lstore 4, 2) := by decide +kernel
theorem dX9_waysOn_3 : decode cX9_waysOn 3 = .ok (.iconst 0, 1) := by decide +kernel
theorem dX9_waysOn_4 : decode cX9_waysOn 4 = .ok (.istore 6, 2) := by decide +kernel
theorem dX9_waysOn_6 : decode cX9_waysOn 6 = .ok (.iload 6, 2) := by decide +kernel
theorem dX9_waysOn_8 : decode cX9_waysOn 8 = .ok (.aload_n 0, 1) := by decide +kernel
theorem dX9_waysOn_9 : decode cX9_waysOn 9 = .ok (.getfield 29, 3) := by decide +kernel
theorem dX9_waysOn_12 : decode cX9_waysOn 12 = .ok (.getfield 58, 3) := by decide +kernel
theorem dX9_waysOn_15 : decode cX9_waysOn 15 = .ok (.if_icmp .ge 38, 3) := by decide +kernel
theorem dX9_waysOn_18 : decode cX9_waysOn 18 = .ok (.aload_n 0, 1) := by decide +kernel
theorem dX9_waysOn_19 : decode cX9_waysOn 19 = .ok (.iload 6, 2) := by decide +kernel
theorem dX9_waysOn_21 : decode cX9_waysOn 21 = .ok (.iload_n 1, 1) := by decide +kernel
theorem dX9_waysOn_22 : decode cX9_waysOn 22 = .ok (.iload_n 2, 1) := by decide +kernel
theorem dX9_waysOn_23 : decode cX9_waysOn 23 = .ok (.iload_n 3, 1) := by decide +kernel
theorem dX9_waysOn_24 : decode cX9_waysOn 24 = .ok (.invokevirtual 97, 3) := by decide +kernel
theorem dX9_waysOn_27 : decode cX9_waysOn 27 = .ok (.istore 7, 2) := by decide +kernel
theorem dX9_waysOn_29 : decode cX9_waysOn 29 = .ok (.iload 7, 2) := by decide +kernel
theorem dX9_waysOn_31 : decode cX9_waysOn 31 = .ok (.iconst (-1), 1) := by decide +kernel
theorem dX9_waysOn_32 : decode cX9_waysOn 32 = .ok (.if_icmp .eq 15, 3) := by decide +kernel
theorem dX9_waysOn_35 : decode cX9_waysOn 35 = .ok (.lload 4, 2) := by decide +kernel
theorem dX9_waysOn_37 : decode cX9_waysOn 37 = .ok (.aload_n 0, 1) := by decide +kernel
theorem dX9_waysOn_38 : decode cX9_waysOn 38 = .ok (.getfield 15, 3) := by decide +kernel
theorem dX9_waysOn_41 : decode cX9_waysOn 41 = .ok (.iload 7, 2) := by decide +kernel
theorem dX9_waysOn_43 : decode cX9_waysOn 43 = .ok (.laload, 1) := by decide +kernel
theorem dX9_waysOn_44 : decode cX9_waysOn 44 = .ok (.ladd, 1) := by decide +kernel
theorem dX9_waysOn_45 : decode cX9_waysOn 45 = .ok (.lstore 4, 2) := by decide +kernel
theorem dX9_waysOn_47 : decode cX9_waysOn 47 = .ok (.iinc 6 1, 3) := by decide +kernel
theorem dX9_waysOn_50 : decode cX9_waysOn 50 = .ok (.goto (-44), 3) := by decide +kernel
theorem dX9_waysOn_53 : decode cX9_waysOn 53 = .ok (.lload 4, 2) := by decide +kernel
theorem dX9_waysOn_55 : decode cX9_waysOn 55 = .ok (.lreturn, 1) := by decide +kernel
theorem dX9_nextOf_0 : decode cX9_nextOf 0 = .ok (.aload_n 0, 1) := by decide +kernel
theorem dX9_nextOf_1 : decode cX9_nextOf 1 = .ok (.getfield 29, 3) := by decide +kernel
theorem dX9_nextOf_4 : decode cX9_nextOf 4 = .ok (.iload_n 2, 1) := by decide +kernel
theorem dX9_nextOf_5 : decode cX9_nextOf 5 = .ok (.iload_n 1, 1) := by decide +kernel
theorem dX9_nextOf_6 : decode cX9_nextOf 6 = .ok (.invokevirtual 101, 3) := by decide +kernel
theorem dX9_nextOf_9 : decode cX9_nextOf 9 = .ok (.ifCond .eq 16, 3) := by decide +kernel
theorem dX9_nextOf_12 : decode cX9_nextOf 12 = .ok (.aload_n 0, 1) := by decide +kernel
theorem dX9_nextOf_13 : decode cX9_nextOf 13 = .ok (.getfield 29, 3) := by decide +kernel
theorem dX9_nextOf_16 : decode cX9_nextOf 16 = .ok (.getfield 71, 3) := by decide +kernel
theorem dX9_nextOf_19 : decode cX9_nextOf 19 = .ok (.iload_n 1, 1) := by decide +kernel
theorem dX9_nextOf_20 : decode cX9_nextOf 20 = .ok (.iaload, 1) := by decide +kernel
theorem dX9_nextOf_21 : decode cX9_nextOf 21 = .ok (.iload_n 3, 1) := by decide +kernel
theorem dX9_nextOf_22 : decode cX9_nextOf 22 = .ok (.if_icmp .ge 5, 3) := by decide +kernel
theorem dX9_nextOf_25 : decode cX9_nextOf 25 = .ok (.iconst (-1), 1) := by decide +kernel
theorem dX9_nextOf_26 : decode cX9_nextOf 26 = .ok (.ireturn, 1) := by decide +kernel
theorem dX9_nextOf_27 : decode cX9_nextOf 27 = .ok (.aload_n 0, 1) := by decide +kernel
theorem dX9_nextOf_28 : decode cX9_nextOf 28 = .ok (.getfield 29, 3) := by decide +kernel
theorem dX9_nextOf_31 : decode cX9_nextOf 31 = .ok (.iload_n 1, 1) := by decide +kernel
theorem dX9_nextOf_32 : decode cX9_nextOf 32 = .ok (.aload_n 0, 1) := by decide +kernel
theorem dX9_nextOf_33 : decode cX9_nextOf 33 = .ok (.getfield 29, 3) := by decide +kernel
theorem dX9_nextOf_36 : decode cX9_nextOf 36 = .ok (.iload_n 1, 1) := by decide +kernel
theorem dX9_nextOf_37 : decode cX9_nextOf 37 = .ok (.iload_n 2, 1) := by decide +kernel
theorem dX9_nextOf_38 : decode cX9_nextOf 38 = .ok (.invokevirtual 67, 3) := by decide +kernel
theorem dX9_nextOf_41 : decode cX9_nextOf 41 = .ok (.invokevirtual 104, 3) := by decide +kernel
theorem dX9_nextOf_44 : decode cX9_nextOf 44 = .ok (.istore 5, 2) := by decide +kernel
theorem dX9_nextOf_46 : decode cX9_nextOf 46 = .ok (.iload 4, 2) := by decide +kernel
theorem dX9_nextOf_48 : decode cX9_nextOf 48 = .ok (.aload_n 0, 1) := by decide +kernel
theorem dX9_nextOf_49 : decode cX9_nextOf 49 = .ok (.getfield 37, 3) := by decide +kernel
theorem dX9_nextOf_52 : decode cX9_nextOf 52 = .ok (.if_icmp .ge 32, 3) := by decide +kernel
theorem dX9_nextOf_55 : decode cX9_nextOf 55 = .ok (.aload_n 0, 1) := by decide +kernel
theorem dX9_nextOf_56 : decode cX9_nextOf 56 = .ok (.getfield 15, 3) := by decide +kernel
theorem dX9_nextOf_59 : decode cX9_nextOf 59 = .ok (.iload 4, 2) := by decide +kernel
theorem dX9_nextOf_61 : decode cX9_nextOf 61 = .ok (.bipush 40, 2) := by decide +kernel
theorem dX9_nextOf_63 : decode cX9_nextOf 63 = .ok (.imul, 1) := by decide +kernel
theorem dX9_nextOf_64 : decode cX9_nextOf 64 = .ok (.iload 5, 2) := by decide +kernel
theorem dX9_nextOf_66 : decode cX9_nextOf 66 = .ok (.iadd, 1) := by decide +kernel
theorem dX9_nextOf_67 : decode cX9_nextOf 67 = .ok (.laload, 1) := by decide +kernel
theorem dX9_nextOf_68 : decode cX9_nextOf 68 = .ok (.lconst 0, 1) := by decide +kernel
theorem dX9_nextOf_69 : decode cX9_nextOf 69 = .ok (.lcmp, 1) := by decide +kernel
theorem dX9_nextOf_70 : decode cX9_nextOf 70 = .ok (.ifCond .le 14, 3) := by decide +kernel
theorem dX9_nextOf_73 : decode cX9_nextOf 73 = .ok (.iload 4, 2) := by decide +kernel
theorem dX9_nextOf_75 : decode cX9_nextOf 75 = .ok (.bipush 40, 2) := by decide +kernel
theorem dX9_nextOf_77 : decode cX9_nextOf 77 = .ok (.imul, 1) := by decide +kernel
theorem dX9_nextOf_78 : decode cX9_nextOf 78 = .ok (.iload 5, 2) := by decide +kernel
theorem dX9_nextOf_80 : decode cX9_nextOf 80 = .ok (.iadd, 1) := by decide +kernel
theorem dX9_nextOf_81 : decode cX9_nextOf 81 = .ok (.goto 4, 3) := by decide +kernel
theorem dX9_nextOf_84 : decode cX9_nextOf 84 = .ok (.iconst (-1), 1) := by decide +kernel
theorem dX9_nextOf_85 : decode cX9_nextOf 85 = .ok (.ireturn, 1) := by decide +kernel
theorem dX9_fitting_0 : decode cX9_fitting 0 = .ok (.aload_n 0, 1) := by decide +kernel
theorem dX9_fitting_1 : decode cX9_fitting 1 = .ok (.getfield 37, 3) := by decide +kernel
theorem dX9_fitting_4 : decode cX9_fitting 4 = .ok (.iconst 1, 1) := by decide +kernel
theorem dX9_fitting_5 : decode cX9_fitting 5 = .ok (.if_icmp .ne 17, 3) := by decide +kernel
theorem dX9_fitting_8 : decode cX9_fitting 8 = .ok (.iload_n 1, 1) := by decide +kernel
theorem dX9_fitting_9 : decode cX9_fitting 9 = .ok (.aload_n 0, 1) := by decide +kernel
theorem dX9_fitting_10 : decode cX9_fitting 10 = .ok (.getfield 46, 3) := by decide +kernel
theorem dX9_fitting_13 : decode cX9_fitting 13 = .ok (.if_icmp .ne 7, 3) := by decide +kernel
theorem dX9_fitting_16 : decode cX9_fitting 16 = .ok (.lconst 1, 1) := by decide +kernel
theorem dX9_fitting_17 : decode cX9_fitting 17 = .ok (.goto 4, 3) := by decide +kernel
theorem dX9_fitting_20 : decode cX9_fitting 20 = .ok (.lconst 0, 1) := by decide +kernel
theorem dX9_fitting_21 : decode cX9_fitting 21 = .ok (.lreturn, 1) := by decide +kernel
theorem dX9_fitting_22 : decode cX9_fitting 22 = .ok (.aload_n 0, 1) := by decide +kernel
theorem dX9_fitting_23 : decode cX9_fitting 23 = .ok (.iload_n 1, 1) := by decide +kernel
theorem dX9_fitting_24 : decode cX9_fitting 24 = .ok (.iload_n 2, 1) := by decide +kernel
theorem dX9_fitting_25 : decode cX9_fitting 25 = .ok (.iconst 1, 1) := by decide +kernel
theorem dX9_fitting_26 : decode cX9_fitting 26 = .ok (.invokevirtual 93, 3) := by decide +kernel
theorem dX9_fitting_29 : decode cX9_fitting 29 = .ok (.lreturn, 1) := by decide +kernel
theorem dX9_traceFit_0 : decode cX9_traceFit 0 = .ok (.iload_n 1, 1) := by decide +kernel
theorem dX9_traceFit_1 : decode cX9_traceFit 1 = .ok (.istore 4, 2) := by decide +kernel
theorem dX9_traceFit_3 : decode cX9_traceFit 3 = .ok (.iload_n 2, 1) := by decide +kernel
theorem dX9_traceFit_4 : decode cX9_traceFit 4 = .ok (.istore 5, 2) := by decide +kernel
theorem dX9_traceFit_6 : decode cX9_traceFit 6 = .ok (.aload_n 3, 1) := by decide +kernel
theorem dX9_traceFit_7 : decode cX9_traceFit 7 = .ok (.invokevirtual 107, 3) := by decide +kernel
theorem dX9_traceFit_10 : decode cX9_traceFit 10 = .ok (.iconst 1, 1) := by decide +kernel
theorem dX9_traceFit_11 : decode cX9_traceFit 11 = .ok (.istore 6, 2) := by decide +kernel
theorem dX9_traceFit_13 : decode cX9_traceFit 13 = .ok (.iload 6, 2) := by decide +kernel
theorem dX9_traceFit_15 : decode cX9_traceFit 15 = .ok (.aload_n 0, 1) := by decide +kernel
theorem dX9_traceFit_16 : decode cX9_traceFit 16 = .ok (.getfield 37, 3) := by decide +kernel
theorem dX9_traceFit_19 : decode cX9_traceFit 19 = .ok (.if_icmp .ge 67, 3) := by decide +kernel
theorem dX9_traceFit_22 : decode cX9_traceFit 22 = .ok (.aload_n 0, 1) := by decide +kernel
theorem dX9_traceFit_23 : decode cX9_traceFit 23 = .ok (.iload 4, 2) := by decide +kernel
theorem dX9_traceFit_25 : decode cX9_traceFit 25 = .ok (.iload 5, 2) := by decide +kernel
theorem dX9_traceFit_27 : decode cX9_traceFit 27 = .ok (.iload 6, 2) := by decide +kernel
theorem dX9_traceFit_29 : decode cX9_traceFit 29 = .ok (.invokevirtual 110, 3) := by decide +kernel
theorem dX9_traceFit_32 : decode cX9_traceFit 32 = .ok (.istore 7, 2) := by decide +kernel
theorem dX9_traceFit_34 : decode cX9_traceFit 34 = .ok (.iload 7, 2) := by decide +kernel
theorem dX9_traceFit_36 : decode cX9_traceFit 36 = .ok (.iconst (-1), 1) := by decide +kernel
theorem dX9_traceFit_37 : decode cX9_traceFit 37 = .ok (.if_icmp .ne 4, 3) := by decide +kernel
theorem dX9_traceFit_40 : decode cX9_traceFit 40 = .ok (.return_, 1) := by decide +kernel
theorem dX9_traceFit_41 : decode cX9_traceFit 41 = .ok (.aload_n 3, 1) := by decide +kernel
theorem dX9_traceFit_42 : decode cX9_traceFit 42 = .ok (.iload 7, 2) := by decide +kernel
theorem dX9_traceFit_44 : decode cX9_traceFit 44 = .ok (.invokevirtual 113, 3) := by decide +kernel
theorem dX9_traceFit_47 : decode cX9_traceFit 47 = .ok (.aload_n 0, 1) := by decide +kernel
theorem dX9_traceFit_48 : decode cX9_traceFit 48 = .ok (.getfield 29, 3) := by decide +kernel
theorem dX9_traceFit_51 : decode cX9_traceFit 51 = .ok (.iload 7, 2) := by decide +kernel
theorem dX9_traceFit_53 : decode cX9_traceFit 53 = .ok (.iload 4, 2) := by decide +kernel
theorem dX9_traceFit_55 : decode cX9_traceFit 55 = .ok (.invokevirtual 67, 3) := by decide +kernel
theorem dX9_traceFit_58 : decode cX9_traceFit 58 = .ok (.istore 4, 2) := by decide +kernel
theorem dX9_traceFit_60 : decode cX9_traceFit 60 = .ok (.aload_n 0, 1) := by decide +kernel
theorem dX9_traceFit_61 : decode cX9_traceFit 61 = .ok (.getfield 29, 3) := by decide +kernel
theorem dX9_traceFit_64 : decode cX9_traceFit 64 = .ok (.aload_n 0, 1) := by decide +kernel
theorem dX9_traceFit_65 : decode cX9_traceFit 65 = .ok (.getfield 29, 3) := by decide +kernel
theorem dX9_traceFit_68 : decode cX9_traceFit 68 = .ok (.iload 7, 2) := by decide +kernel
theorem dX9_traceFit_70 : decode cX9_traceFit 70 = .ok (.iload 4, 2) := by decide +kernel
theorem dX9_traceFit_72 : decode cX9_traceFit 72 = .ok (.invokevirtual 104, 3) := by decide +kernel
theorem dX9_traceFit_75 : decode cX9_traceFit 75 = .ok (.invokevirtual 90, 3) := by decide +kernel
theorem dX9_traceFit_78 : decode cX9_traceFit 78 = .ok (.istore 5, 2) := by decide +kernel
theorem dX9_traceFit_80 : decode cX9_traceFit 80 = .ok (.iinc 6 1, 3) := by decide +kernel
theorem dX9_traceFit_83 : decode cX9_traceFit 83 = .ok (.goto (-70), 3) := by decide +kernel
theorem dX9_traceFit_86 : decode cX9_traceFit 86 = .ok (.return_, 1) := by decide +kernel
theorem dX9_stepFit_0 : decode cX9_stepFit 0 = .ok (.iconst 0, 1) := by decide +kernel
theorem dX9_stepFit_1 : decode cX9_stepFit 1 = .ok (.istore 4, 2) := by decide +kernel
theorem dX9_stepFit_3 : decode cX9_stepFit 3 = .ok (.iload 4, 2) := by decide +kernel
theorem dX9_stepFit_5 : decode cX9_stepFit 5 = .ok (.aload_n 0, 1) := by decide +kernel
theorem dX9_stepFit_6 : decode cX9_stepFit 6 = .ok (.getfield 29, 3) := by decide +kernel
theorem dX9_stepFit_9 : decode cX9_stepFit 9 = .ok (.getfield 58, 3) := by decide +kernel
theorem dX9_stepFit_12 : decode cX9_stepFit 12 = .ok (.if_icmp .ge 25, 3) := by decide +kernel
theorem dX9_stepFit_15 : decode cX9_stepFit 15 = .ok (.aload_n 0, 1) := by decide +kernel
theorem dX9_stepFit_16 : decode cX9_stepFit 16 = .ok (.iload 4, 2) := by decide +kernel
theorem dX9_stepFit_18 : decode cX9_stepFit 18 = .ok (.iload_n 1, 1) := by decide +kernel
theorem dX9_stepFit_19 : decode cX9_stepFit 19 = .ok (.iload_n 2, 1) := by decide +kernel
theorem dX9_stepFit_20 : decode cX9_stepFit 20 = .ok (.iload_n 3, 1) := by decide +kernel
theorem dX9_stepFit_21 : decode cX9_stepFit 21 = .ok (.invokevirtual 97, 3) := by decide +kernel
theorem dX9_stepFit_24 : decode cX9_stepFit 24 = .ok (.iconst (-1), 1) := by decide +kernel
theorem dX9_stepFit_25 : decode cX9_stepFit 25 = .ok (.if_icmp .eq 6, 3) := by decide +kernel
theorem dX9_stepFit_28 : decode cX9_stepFit 28 = .ok (.iload 4, 2) := by decide +kernel
theorem dX9_stepFit_30 : decode cX9_stepFit 30 = .ok (.ireturn, 1) := by decide +kernel
theorem dX9_stepFit_31 : decode cX9_stepFit 31 = .ok (.iinc 4 1, 3) := by decide +kernel
theorem dX9_stepFit_34 : decode cX9_stepFit 34 = .ok (.goto (-31), 3) := by decide +kernel
theorem dX9_stepFit_37 : decode cX9_stepFit 37 = .ok (.iconst (-1), 1) := by decide +kernel
theorem dX9_stepFit_38 : decode cX9_stepFit 38 = .ok (.ireturn, 1) := by decide +kernel
theorem dX9_gatherGetters_0 : decode cX9_gatherGetters 0 = .ok (.aload_n 0, 1) := by decide +kernel
theorem dX9_gatherGetters_1 : decode cX9_gatherGetters 1 = .ok (.iload_n 1, 1) := by decide +kernel
theorem dX9_gatherGetters_2 : decode cX9_gatherGetters 2 = .ok (.iload_n 2, 1) := by decide +kernel
theorem dX9_gatherGetters_3 : decode cX9_gatherGetters 3 = .ok (.invokevirtual 117, 3) := by decide +kernel
theorem dX9_gatherGetters_6 : decode cX9_gatherGetters 6 = .ok (.lconst 0, 1) := by decide +kernel
theorem dX9_gatherGetters_7 : decode cX9_gatherGetters 7 = .ok (.lcmp, 1) := by decide +kernel
theorem dX9_gatherGetters_8 : decode cX9_gatherGetters 8 = .ok (.ifCond .le 7, 3) := by decide +kernel
theorem dX9_gatherGetters_11 : decode cX9_gatherGetters 11 = .ok (.iconst 1, 1) := by decide +kernel
theorem dX9_gatherGetters_12 : decode cX9_gatherGetters 12 = .ok (.goto 4, 3) := by decide +kernel
theorem dX9_gatherGetters_15 : decode cX9_gatherGetters 15 = .ok (.iconst 0, 1) := by decide +kernel
theorem dX9_gatherGetters_16 : decode cX9_gatherGetters 16 = .ok (.istore_n 3, 1) := by decide +kernel
theorem dX9_gatherGetters_17 : decode cX9_gatherGetters 17 = .ok (.aload_n 0, 1) := by decide +kernel
theorem dX9_gatherGetters_18 : decode cX9_gatherGetters 18 = .ok (.getfield 37, 3) := by decide +kernel
theorem dX9_gatherGetters_21 : decode cX9_gatherGetters 21 = .ok (.iconst 1, 1) := by decide +kernel
theorem dX9_gatherGetters_22 : decode cX9_gatherGetters 22 = .ok (.isub, 1) := by decide +kernel
theorem dX9_gatherGetters_23 : decode cX9_gatherGetters 23 = .ok (.istore 4, 2) := by decide +kernel
theorem dX9_gatherGetters_25 : decode cX9_gatherGetters 25 = .ok (.iload 4, 2) := by decide +kernel
theorem dX9_gatherGetters_27 : decode cX9_gatherGetters 27 = .ok (.iconst 1, 1) := by decide +kernel
theorem dX9_gatherGetters_28 : decode cX9_gatherGetters 28 = .ok (.if_icmp .lt 127, 3) := by decide +kernel
theorem dX9_gatherGetters_31 : decode cX9_gatherGetters 31 = .ok (.iconst 0, 1) := by decide +kernel
theorem dX9_gatherGetters_32 : decode cX9_gatherGetters 32 = .ok (.istore 5, 2) := by decide +kernel
theorem dX9_gatherGetters_34 : decode cX9_gatherGetters 34 = .ok (.iload 5, 2) := by decide +kernel
theorem dX9_gatherGetters_36 : decode cX9_gatherGetters 36 = .ok (.iconst 2, 1) := by decide +kernel
theorem dX9_gatherGetters_37 : decode cX9_gatherGetters 37 = .ok (.aload_n 0, 1) := by decide +kernel
theorem dX9_gatherGetters_38 : decode cX9_gatherGetters 38 = .ok (.getfield 29, 3) := by decide +kernel
theorem dX9_gatherGetters_41 : decode cX9_gatherGetters 41 = .ok (.getfield 58, 3) := by decide +kernel
theorem dX9_gatherGetters_44 : decode cX9_gatherGetters 44 = .ok (.imul, 1) := by decide +kernel
theorem dX9_gatherGetters_45 : decode cX9_gatherGetters 45 = .ok (.if_icmp .ge 104, 3) := by decide +kernel
theorem dX9_gatherGetters_48 : decode cX9_gatherGetters 48 = .ok (.aload_n 0, 1) := by decide +kernel
theorem dX9_gatherGetters_49 : decode cX9_gatherGetters 49 = .ok (.getfield 15, 3) := by decide +kernel
theorem dX9_gatherGetters_52 : decode cX9_gatherGetters 52 = .ok (.iload 4, 2) := by decide +kernel
theorem dX9_gatherGetters_54 : decode cX9_gatherGetters 54 = .ok (.bipush 40, 2) := by decide +kernel
theorem dX9_gatherGetters_56 : decode cX9_gatherGetters 56 = .ok (.imul, 1) := by decide +kernel
theorem dX9_gatherGetters_57 : decode cX9_gatherGetters 57 = .ok (.iload 5, 2) := by decide +kernel
theorem dX9_gatherGetters_59 : decode cX9_gatherGetters 59 = .ok (.iadd, 1) := by decide +kernel
theorem dX9_gatherGetters_60 : decode cX9_gatherGetters 60 = .ok (.laload, 1) := by decide +kernel
theorem dX9_gatherGetters_61 : decode cX9_gatherGetters 61 = .ok (.lconst 0, 1) := by decide +kernel
theorem dX9_gatherGetters_62 : decode cX9_gatherGetters 62 = .ok (.lcmp, 1) := by decide +kernel
theorem dX9_gatherGetters_63 : decode cX9_gatherGetters 63 = .ok (.ifCond .ne 6, 3) := by decide +kernel
theorem dX9_gatherGetters_66 : decode cX9_gatherGetters 66 = .ok (.goto 77, 3) := by decide +kernel
theorem dX9_gatherGetters_69 : decode cX9_gatherGetters 69 = .ok (.aload_n 0, 1) := by decide +kernel
theorem dX9_gatherGetters_70 : decode cX9_gatherGetters 70 = .ok (.getfield 29, 3) := by decide +kernel
theorem dX9_gatherGetters_73 : decode cX9_gatherGetters 73 = .ok (.iload 5, 2) := by decide +kernel
theorem dX9_gatherGetters_75 : decode cX9_gatherGetters 75 = .ok (.invokevirtual 63, 3) := by decide +kernel
theorem dX9_gatherGetters_78 : decode cX9_gatherGetters 78 = .ok (.istore 6, 2) := by decide +kernel
theorem dX9_gatherGetters_80 : decode cX9_gatherGetters 80 = .ok (.aload_n 0, 1) := by decide +kernel
theorem dX9_gatherGetters_81 : decode cX9_gatherGetters 81 = .ok (.iload 6, 2) := by decide +kernel
theorem dX9_gatherGetters_83 : decode cX9_gatherGetters 83 = .ok (.aload_n 0, 1) := by decide +kernel
theorem dX9_gatherGetters_84 : decode cX9_gatherGetters 84 = .ok (.getfield 29, 3) := by decide +kernel
theorem dX9_gatherGetters_87 : decode cX9_gatherGetters 87 = .ok (.iload 5, 2) := by decide +kernel
theorem dX9_gatherGetters_89 : decode cX9_gatherGetters 89 = .ok (.invokevirtual 90, 3) := by decide +kernel
theorem dX9_gatherGetters_92 : decode cX9_gatherGetters 92 = .ok (.iload 4, 2) := by decide +kernel
theorem dX9_gatherGetters_94 : decode cX9_gatherGetters 94 = .ok (.iconst 1, 1) := by decide +kernel
theorem dX9_gatherGetters_95 : decode cX9_gatherGetters 95 = .ok (.iadd, 1) := by decide +kernel
theorem dX9_gatherGetters_96 : decode cX9_gatherGetters 96 = .ok (.invokevirtual 120, 3) := by decide +kernel
theorem dX9_gatherGetters_99 : decode cX9_gatherGetters 99 = .ok (.aload_n 0, 1) := by decide +kernel
theorem dX9_gatherGetters_100 : decode cX9_gatherGetters 100 = .ok (.getfield 19, 3) := by decide +kernel
theorem dX9_gatherGetters_103 : decode cX9_gatherGetters 103 = .ok (.iload 4, 2) := by decide +kernel
theorem dX9_gatherGetters_105 : decode cX9_gatherGetters 105 = .ok (.bipush 40, 2) := by decide +kernel
theorem dX9_gatherGetters_107 : decode cX9_gatherGetters 107 = .ok (.imul, 1) := by decide +kernel
theorem dX9_gatherGetters_108 : decode cX9_gatherGetters 108 = .ok (.iload 5, 2) := by decide +kernel
theorem dX9_gatherGetters_110 : decode cX9_gatherGetters 110 = .ok (.iadd, 1) := by decide +kernel
theorem dX9_gatherGetters_111 : decode cX9_gatherGetters 111 = .ok (.aload_n 0, 1) := by decide +kernel
theorem dX9_gatherGetters_112 : decode cX9_gatherGetters 112 = .ok (.getfield 124, 3) := by decide +kernel
theorem dX9_gatherGetters_115 : decode cX9_gatherGetters 115 = .ok (.iconst 1, 1) := by decide +kernel
theorem dX9_gatherGetters_116 : decode cX9_gatherGetters 116 = .ok (.iload 6, 2) := by decide +kernel
theorem dX9_gatherGetters_118 : decode cX9_gatherGetters 118 = .ok (.ishl, 1) := by decide +kernel
theorem dX9_gatherGetters_119 : decode cX9_gatherGetters 119 = .ok (.ior, 1) := by decide +kernel
theorem dX9_gatherGetters_120 : decode cX9_gatherGetters 120 = .ok (.iastore, 1) := by decide +kernel
theorem dX9_gatherGetters_121 : decode cX9_gatherGetters 121 = .ok (.aload_n 0, 1) := by decide +kernel
theorem dX9_gatherGetters_122 : decode cX9_gatherGetters 122 = .ok (.getfield 23, 3) := by decide +kernel
theorem dX9_gatherGetters_125 : decode cX9_gatherGetters 125 = .ok (.iload 4, 2) := by decide +kernel
theorem dX9_gatherGetters_127 : decode cX9_gatherGetters 127 = .ok (.bipush 40, 2) := by decide +kernel
theorem dX9_gatherGetters_129 : decode cX9_gatherGetters 129 = .ok (.imul, 1) := by decide +kernel
theorem dX9_gatherGetters_130 : decode cX9_gatherGetters 130 = .ok (.iload 5, 2) := by decide +kernel
theorem dX9_gatherGetters_132 : decode cX9_gatherGetters 132 = .ok (.iadd, 1) := by decide +kernel
theorem dX9_gatherGetters_133 : decode cX9_gatherGetters 133 = .ok (.aload_n 0, 1) := by decide +kernel
theorem dX9_gatherGetters_134 : decode cX9_gatherGetters 134 = .ok (.getfield 127, 3) := by decide +kernel
theorem dX9_gatherGetters_137 : decode cX9_gatherGetters 137 = .ok (.iconst 1, 1) := by decide +kernel
theorem dX9_gatherGetters_138 : decode cX9_gatherGetters 138 = .ok (.iload 6, 2) := by decide +kernel
theorem dX9_gatherGetters_140 : decode cX9_gatherGetters 140 = .ok (.ishl, 1) := by decide +kernel
theorem dX9_gatherGetters_141 : decode cX9_gatherGetters 141 = .ok (.ior, 1) := by decide +kernel
theorem dX9_gatherGetters_142 : decode cX9_gatherGetters 142 = .ok (.iastore, 1) := by decide +kernel
theorem dX9_gatherGetters_143 : decode cX9_gatherGetters 143 = .ok (.iinc 5 1, 3) := by decide +kernel
theorem dX9_gatherGetters_146 : decode cX9_gatherGetters 146 = .ok (.goto (-112), 3) := by decide +kernel
theorem dX9_gatherGetters_149 : decode cX9_gatherGetters 149 = .ok (.iinc 4 (-1), 3) := by decide +kernel
theorem dX9_gatherGetters_152 : decode cX9_gatherGetters 152 = .ok (.goto (-127), 3) := by decide +kernel
theorem dX9_gatherGetters_155 : decode cX9_gatherGetters 155 = .ok (.aload_n 0, 1) := by decide +kernel
theorem dX9_gatherGetters_156 : decode cX9_gatherGetters 156 = .ok (.iload_n 1, 1) := by decide +kernel
theorem dX9_gatherGetters_157 : decode cX9_gatherGetters 157 = .ok (.iload_n 2, 1) := by decide +kernel
theorem dX9_gatherGetters_158 : decode cX9_gatherGetters 158 = .ok (.iconst 1, 1) := by decide +kernel
theorem dX9_gatherGetters_159 : decode cX9_gatherGetters 159 = .ok (.invokevirtual 120, 3) := by decide +kernel
theorem dX9_gatherGetters_162 : decode cX9_gatherGetters 162 = .ok (.aload_n 0, 1) := by decide +kernel
theorem dX9_gatherGetters_163 : decode cX9_gatherGetters 163 = .ok (.iload_n 3, 1) := by decide +kernel
theorem dX9_gatherGetters_164 : decode cX9_gatherGetters 164 = .ok (.ifCond .eq 14, 3) := by decide +kernel
theorem dX9_gatherGetters_167 : decode cX9_gatherGetters 167 = .ok (.aload_n 0, 1) := by decide +kernel
theorem dX9_gatherGetters_168 : decode cX9_gatherGetters 168 = .ok (.getfield 124, 3) := by decide +kernel
theorem dX9_gatherGetters_171 : decode cX9_gatherGetters 171 = .ok (.iconst 1, 1) := by decide +kernel
theorem dX9_gatherGetters_172 : decode cX9_gatherGetters 172 = .ok (.iload_n 1, 1) := by decide +kernel
theorem dX9_gatherGetters_173 : decode cX9_gatherGetters 173 = .ok (.ishl, 1) := by decide +kernel
theorem dX9_gatherGetters_174 : decode cX9_gatherGetters 174 = .ok (.ior, 1) := by decide +kernel
theorem dX9_gatherGetters_175 : decode cX9_gatherGetters 175 = .ok (.goto 4, 3) := by decide +kernel
theorem dX9_gatherGetters_178 : decode cX9_gatherGetters 178 = .ok (.iconst 0, 1) := by decide +kernel
theorem dX9_gatherGetters_179 : decode cX9_gatherGetters 179 = .ok (.putfield 124, 3) := by decide +kernel
theorem dX9_gatherGetters_182 : decode cX9_gatherGetters 182 = .ok (.aload_n 0, 1) := by decide +kernel
theorem dX9_gatherGetters_183 : decode cX9_gatherGetters 183 = .ok (.iload_n 3, 1) := by decide +kernel
theorem dX9_gatherGetters_184 : decode cX9_gatherGetters 184 = .ok (.ifCond .eq 14, 3) := by decide +kernel
theorem dX9_gatherGetters_187 : decode cX9_gatherGetters 187 = .ok (.aload_n 0, 1) := by decide +kernel
theorem dX9_gatherGetters_188 : decode cX9_gatherGetters 188 = .ok (.getfield 127, 3) := by decide +kernel
theorem dX9_gatherGetters_191 : decode cX9_gatherGetters 191 = .ok (.iconst 1, 1) := by decide +kernel
theorem dX9_gatherGetters_192 : decode cX9_gatherGetters 192 = .ok (.iload_n 1, 1) := by decide +kernel
theorem dX9_gatherGetters_193 : decode cX9_gatherGetters 193 = .ok (.ishl, 1) := by decide +kernel
theorem dX9_gatherGetters_194 : decode cX9_gatherGetters 194 = .ok (.ior, 1) := by decide +kernel
theorem dX9_gatherGetters_195 : decode cX9_gatherGetters 195 = .ok (.goto 4, 3) := by decide +kernel
theorem dX9_gatherGetters_198 : decode cX9_gatherGetters 198 = .ok (.iconst 0, 1) := by decide +kernel
theorem dX9_gatherGetters_199 : decode cX9_gatherGetters 199 = .ok (.putfield 127, 3) := by decide +kernel
theorem dX9_gatherGetters_202 : decode cX9_gatherGetters 202 = .ok (.return_, 1) := by decide +kernel
theorem dX9_gather_0 : decode cX9_gather 0 = .ok (.aload_n 0, 1) := by decide +kernel
theorem dX9_gather_1 : decode cX9_gather 1 = .ok (.iconst 0, 1) := by decide +kernel
theorem dX9_gather_2 : decode cX9_gather 2 = .ok (.putfield 124, 3) := by decide +kernel
theorem dX9_gather_5 : decode cX9_gather 5 = .ok (.aload_n 0, 1) := by decide +kernel
theorem dX9_gather_6 : decode cX9_gather 6 = .ok (.iload_n 3, 1) := by decide +kernel
theorem dX9_gather_7 : decode cX9_gather 7 = .ok (.aload_n 0, 1) := by decide +kernel
theorem dX9_gather_8 : decode cX9_gather 8 = .ok (.getfield 37, 3) := by decide +kernel
theorem dX9_gather_11 : decode cX9_gather 11 = .ok (.if_icmp .ge 13, 3) := by decide +kernel
theorem dX9_gather_14 : decode cX9_gather 14 = .ok (.aload_n 0, 1) := by decide +kernel
theorem dX9_gather_15 : decode cX9_gather 15 = .ok (.getfield 29, 3) := by decide +kernel
theorem dX9_gather_18 : decode cX9_gather 18 = .ok (.invokevirtual 130, 3) := by decide +kernel
theorem dX9_gather_21 : decode cX9_gather 21 = .ok (.goto 4, 3) := by decide +kernel
theorem dX9_gather_24 : decode cX9_gather 24 = .ok (.iconst 0, 1) := by decide +kernel
theorem dX9_gather_25 : decode cX9_gather 25 = .ok (.putfield 127, 3) := by decide +kernel
theorem dX9_gather_28 : decode cX9_gather 28 = .ok (.iconst 0, 1) := by decide +kernel
theorem dX9_gather_29 : decode cX9_gather 29 = .ok (.istore 4, 2) := by decide +kernel
theorem dX9_gather_31 : decode cX9_gather 31 = .ok (.iload 4, 2) := by decide +kernel
theorem dX9_gather_33 : decode cX9_gather 33 = .ok (.aload_n 0, 1) := by decide +kernel
theorem dX9_gather_34 : decode cX9_gather 34 = .ok (.getfield 29, 3) := by decide +kernel
theorem dX9_gather_37 : decode cX9_gather 37 = .ok (.getfield 58, 3) := by decide +kernel
theorem dX9_gather_40 : decode cX9_gather 40 = .ok (.if_icmp .ge 58, 3) := by decide +kernel
theorem dX9_gather_43 : decode cX9_gather 43 = .ok (.aload_n 0, 1) := by decide +kernel
theorem dX9_gather_44 : decode cX9_gather 44 = .ok (.iload 4, 2) := by decide +kernel
theorem dX9_gather_46 : decode cX9_gather 46 = .ok (.iload_n 1, 1) := by decide +kernel
theorem dX9_gather_47 : decode cX9_gather 47 = .ok (.iload_n 2, 1) := by decide +kernel
theorem dX9_gather_48 : decode cX9_gather 48 = .ok (.iload_n 3, 1) := by decide +kernel
theorem dX9_gather_49 : decode cX9_gather 49 = .ok (.invokevirtual 97, 3) := by decide +kernel
theorem dX9_gather_52 : decode cX9_gather 52 = .ok (.istore 5, 2) := by decide +kernel
theorem dX9_gather_54 : decode cX9_gather 54 = .ok (.iload 5, 2) := by decide +kernel
theorem dX9_gather_56 : decode cX9_gather 56 = .ok (.iconst (-1), 1) := by decide +kernel
theorem dX9_gather_57 : decode cX9_gather 57 = .ok (.if_icmp .eq 35, 3) := by decide +kernel
theorem dX9_gather_60 : decode cX9_gather 60 = .ok (.aload_n 0, 1) := by decide +kernel
theorem dX9_gather_61 : decode cX9_gather 61 = .ok (.dup, 1) := by decide +kernel
theorem dX9_gather_62 : decode cX9_gather 62 = .ok (.getfield 124, 3) := by decide +kernel
theorem dX9_gather_65 : decode cX9_gather 65 = .ok (.aload_n 0, 1) := by decide +kernel
theorem dX9_gather_66 : decode cX9_gather 66 = .ok (.getfield 19, 3) := by decide +kernel
theorem dX9_gather_69 : decode cX9_gather 69 = .ok (.iload 5, 2) := by decide +kernel
theorem dX9_gather_71 : decode cX9_gather 71 = .ok (.iaload, 1) := by decide +kernel
theorem dX9_gather_72 : decode cX9_gather 72 = .ok (.ior, 1) := by decide +kernel
theorem dX9_gather_73 : decode cX9_gather 73 = .ok (.putfield 124, 3) := by decide +kernel
theorem dX9_gather_76 : decode cX9_gather 76 = .ok (.aload_n 0, 1) := by decide +kernel
theorem dX9_gather_77 : decode cX9_gather 77 = .ok (.dup, 1) := by decide +kernel
theorem dX9_gather_78 : decode cX9_gather 78 = .ok (.getfield 127, 3) := by decide +kernel
theorem dX9_gather_81 : decode cX9_gather 81 = .ok (.aload_n 0, 1) := by decide +kernel
theorem dX9_gather_82 : decode cX9_gather 82 = .ok (.getfield 23, 3) := by decide +kernel
theorem dX9_gather_85 : decode cX9_gather 85 = .ok (.iload 5, 2) := by decide +kernel
theorem dX9_gather_87 : decode cX9_gather 87 = .ok (.iaload, 1) := by decide +kernel
theorem dX9_gather_88 : decode cX9_gather 88 = .ok (.iand, 1) := by decide +kernel
theorem dX9_gather_89 : decode cX9_gather 89 = .ok (.putfield 127, 3) := by decide +kernel
theorem dX9_gather_92 : decode cX9_gather 92 = .ok (.iinc 4 1, 3) := by decide +kernel
theorem dX9_gather_95 : decode cX9_gather 95 = .ok (.goto (-64), 3) := by decide +kernel
theorem dX9_gather_98 : decode cX9_gather 98 = .ok (.return_, 1) := by decide +kernel
theorem dX9_latestStart_0 : decode cX9_latestStart 0 = .ok (.aload_n 0, 1) := by decide +kernel
theorem dX9_latestStart_1 : decode cX9_latestStart 1 = .ok (.getfield 37, 3) := by decide +kernel
theorem dX9_latestStart_4 : decode cX9_latestStart 4 = .ok (.iconst 1, 1) := by decide +kernel
theorem dX9_latestStart_5 : decode cX9_latestStart 5 = .ok (.if_icmp .ne 18, 3) := by decide +kernel
theorem dX9_latestStart_8 : decode cX9_latestStart 8 = .ok (.iload_n 1, 1) := by decide +kernel
theorem dX9_latestStart_9 : decode cX9_latestStart 9 = .ok (.aload_n 0, 1) := by decide +kernel
theorem dX9_latestStart_10 : decode cX9_latestStart 10 = .ok (.getfield 46, 3) := by decide +kernel
theorem dX9_latestStart_13 : decode cX9_latestStart 13 = .ok (.if_icmp .ne 8, 3) := by decide +kernel
theorem dX9_latestStart_16 : decode cX9_latestStart 16 = .ok (.bipush 99, 2) := by decide +kernel
theorem dX9_latestStart_18 : decode cX9_latestStart 18 = .ok (.goto 4, 3) := by decide +kernel
theorem dX9_latestStart_21 : decode cX9_latestStart 21 = .ok (.iconst (-1), 1) := by decide +kernel
theorem dX9_latestStart_22 : decode cX9_latestStart 22 = .ok (.ireturn, 1) := by decide +kernel
theorem dX9_latestStart_23 : decode cX9_latestStart 23 = .ok (.iconst (-1), 1) := by decide +kernel
theorem dX9_latestStart_24 : decode cX9_latestStart 24 = .ok (.istore_n 2, 1) := by decide +kernel
theorem dX9_latestStart_25 : decode cX9_latestStart 25 = .ok (.iconst 0, 1) := by decide +kernel
theorem dX9_latestStart_26 : decode cX9_latestStart 26 = .ok (.istore_n 3, 1) := by decide +kernel
theorem dX9_latestStart_27 : decode cX9_latestStart 27 = .ok (.iload_n 3, 1) := by decide +kernel
theorem dX9_latestStart_28 : decode cX9_latestStart 28 = .ok (.aload_n 0, 1) := by decide +kernel
theorem dX9_latestStart_29 : decode cX9_latestStart 29 = .ok (.getfield 29, 3) := by decide +kernel
theorem dX9_latestStart_32 : decode cX9_latestStart 32 = .ok (.getfield 58, 3) := by decide +kernel
theorem dX9_latestStart_35 : decode cX9_latestStart 35 = .ok (.if_icmp .ge 35, 3) := by decide +kernel
theorem dX9_latestStart_38 : decode cX9_latestStart 38 = .ok (.aload_n 0, 1) := by decide +kernel
theorem dX9_latestStart_39 : decode cX9_latestStart 39 = .ok (.iload_n 3, 1) := by decide +kernel
theorem dX9_latestStart_40 : decode cX9_latestStart 40 = .ok (.iload_n 1, 1) := by decide +kernel
theorem dX9_latestStart_41 : decode cX9_latestStart 41 = .ok (.iconst 0, 1) := by decide +kernel
theorem dX9_latestStart_42 : decode cX9_latestStart 42 = .ok (.iconst 1, 1) := by decide +kernel
theorem dX9_latestStart_43 : decode cX9_latestStart 43 = .ok (.invokevirtual 97, 3) := by decide +kernel
theorem dX9_latestStart_46 : decode cX9_latestStart 46 = .ok (.iconst (-1), 1) := by decide +kernel
theorem dX9_latestStart_47 : decode cX9_latestStart 47 = .ok (.if_icmp .eq 17, 3) := by decide +kernel
theorem dX9_latestStart_50 : decode cX9_latestStart 50 = .ok (.iload_n 2, 1) := by decide +kernel
theorem dX9_latestStart_51 : decode cX9_latestStart 51 = .ok (.aload_n 0, 1) := by decide +kernel
theorem dX9_latestStart_52 : decode cX9_latestStart 52 = .ok (.getfield 29, 3) := by decide +kernel
theorem dX9_latestStart_55 : decode cX9_latestStart 55 = .ok (.getfield 71, 3) := by decide +kernel
theorem dX9_latestStart_58 : decode cX9_latestStart 58 = .ok (.iload_n 3, 1) := by decide +kernel
theorem dX9_latestStart_59 : decode cX9_latestStart 59 = .ok (.iaload, 1) := by decide +kernel
theorem dX9_latestStart_60 : decode cX9_latestStart 60 = .ok (.invokestatic 134, 3) := by decide +kernel
theorem dX9_latestStart_63 : decode cX9_latestStart 63 = .ok (.istore_n 2, 1) := by decide +kernel
theorem dX9_latestStart_64 : decode cX9_latestStart 64 = .ok (.iinc 3 1, 3) := by decide +kernel
theorem dX9_latestStart_67 : decode cX9_latestStart 67 = .ok (.goto (-40), 3) := by decide +kernel
theorem dX9_latestStart_70 : decode cX9_latestStart 70 = .ok (.iload_n 2, 1) := by decide +kernel
theorem dX9_latestStart_71 : decode cX9_latestStart 71 = .ok (.ireturn, 1) := by decide +kernel
theorem dX9_weighLies_0 : decode cX9_weighLies 0 = .ok (.aload_n 0, 1) := by decide +kernel
theorem dX9_weighLies_1 : decode cX9_weighLies 1 = .ok (.aload_n 1, 1) := by decide +kernel
theorem dX9_weighLies_2 : decode cX9_weighLies 2 = .ok (.iload_n 2, 1) := by decide +kernel
theorem dX9_weighLies_3 : decode cX9_weighLies 3 = .ok (.invokevirtual 78, 3) := by decide +kernel
theorem dX9_weighLies_6 : decode cX9_weighLies 6 = .ok (.aload_n 0, 1) := by decide +kernel
theorem dX9_weighLies_7 : decode cX9_weighLies 7 = .ok (.getfield 37, 3) := by decide +kernel
theorem dX9_weighLies_10 : decode cX9_weighLies 10 = .ok (.iconst 1, 1) := by decide +kernel
theorem dX9_weighLies_11 : decode cX9_weighLies 11 = .ok (.isub, 1) := by decide +kernel
theorem dX9_weighLies_12 : decode cX9_weighLies 12 = .ok (.istore_n 3, 1) := by decide +kernel
theorem dX9_weighLies_13 : decode cX9_weighLies 13 = .ok (.iload_n 3, 1) := by decide +kernel
theorem dX9_weighLies_14 : decode cX9_weighLies 14 = .ok (.iconst 1, 1) := by decide +kernel
theorem dX9_weighLies_15 : decode cX9_weighLies 15 = .ok (.if_icmp .lt 51, 3) := by decide +kernel
theorem dX9_weighLies_18 : decode cX9_weighLies 18 = .ok (.iconst 0, 1) := by decide +kernel
theorem dX9_weighLies_19 : decode cX9_weighLies 19 = .ok (.istore 4, 2) := by decide +kernel
theorem dX9_weighLies_21 : decode cX9_weighLies 21 = .ok (.iload 4, 2) := by decide +kernel
theorem dX9_weighLies_23 : decode cX9_weighLies 23 = .ok (.iconst 2, 1) := by decide +kernel
theorem dX9_weighLies_24 : decode cX9_weighLies 24 = .ok (.aload_n 0, 1) := by decide +kernel
theorem dX9_weighLies_25 : decode cX9_weighLies 25 = .ok (.getfield 29, 3) := by decide +kernel
theorem dX9_weighLies_28 : decode cX9_weighLies 28 = .ok (.getfield 58, 3) := by decide +kernel
theorem dX9_weighLies_31 : decode cX9_weighLies 31 = .ok (.imul, 1) := by decide +kernel
theorem dX9_weighLies_32 : decode cX9_weighLies 32 = .ok (.if_icmp .ge 28, 3) := by decide +kernel
theorem dX9_weighLies_35 : decode cX9_weighLies 35 = .ok (.aload_n 0, 1) := by decide +kernel
theorem dX9_weighLies_36 : decode cX9_weighLies 36 = .ok (.getfield 26, 3) := by decide +kernel
theorem dX9_weighLies_39 : decode cX9_weighLies 39 = .ok (.iload_n 3, 1) := by decide +kernel
theorem dX9_weighLies_40 : decode cX9_weighLies 40 = .ok (.bipush 40, 2) := by decide +kernel
theorem dX9_weighLies_42 : decode cX9_weighLies 42 = .ok (.imul, 1) := by decide +kernel
theorem dX9_weighLies_43 : decode cX9_weighLies 43 = .ok (.iload 4, 2) := by decide +kernel
theorem dX9_weighLies_45 : decode cX9_weighLies 45 = .ok (.iadd, 1) := by decide +kernel
theorem dX9_weighLies_46 : decode cX9_weighLies 46 = .ok (.aload_n 0, 1) := by decide +kernel
theorem dX9_weighLies_47 : decode cX9_weighLies 47 = .ok (.iload_n 3, 1) := by decide +kernel
theorem dX9_weighLies_48 : decode cX9_weighLies 48 = .ok (.iload 4, 2) := by decide +kernel
theorem dX9_weighLies_50 : decode cX9_weighLies 50 = .ok (.invokevirtual 139, 3) := by decide +kernel
theorem dX9_weighLies_53 : decode cX9_weighLies 53 = .ok (.iastore, 1) := by decide +kernel
theorem dX9_weighLies_54 : decode cX9_weighLies 54 = .ok (.iinc 4 1, 3) := by decide +kernel
theorem dX9_weighLies_57 : decode cX9_weighLies 57 = .ok (.goto (-36), 3) := by decide +kernel
theorem dX9_weighLies_60 : decode cX9_weighLies 60 = .ok (.iinc 3 (-1), 3) := by decide +kernel
theorem dX9_weighLies_63 : decode cX9_weighLies 63 = .ok (.goto (-50), 3) := by decide +kernel
theorem dX9_weighLies_66 : decode cX9_weighLies 66 = .ok (.return_, 1) := by decide +kernel
theorem dX9_liesAt_0 : decode cX9_liesAt 0 = .ok (.aload_n 0, 1) := by decide +kernel
theorem dX9_liesAt_1 : decode cX9_liesAt 1 = .ok (.getfield 29, 3) := by decide +kernel
theorem dX9_liesAt_4 : decode cX9_liesAt 4 = .ok (.iload_n 2, 1) := by decide +kernel
theorem dX9_liesAt_5 : decode cX9_liesAt 5 = .ok (.invokevirtual 63, 3) := by decide +kernel
theorem dX9_liesAt_8 : decode cX9_liesAt 8 = .ok (.istore_n 3, 1) := by decide +kernel
theorem dX9_liesAt_9 : decode cX9_liesAt 9 = .ok (.iload_n 1, 1) := by decide +kernel
theorem dX9_liesAt_10 : decode cX9_liesAt 10 = .ok (.aload_n 0, 1) := by decide +kernel
theorem dX9_liesAt_11 : decode cX9_liesAt 11 = .ok (.getfield 37, 3) := by decide +kernel
theorem dX9_liesAt_14 : decode cX9_liesAt 14 = .ok (.iconst 1, 1) := by decide +kernel
theorem dX9_liesAt_15 : decode cX9_liesAt 15 = .ok (.isub, 1) := by decide +kernel
theorem dX9_liesAt_16 : decode cX9_liesAt 16 = .ok (.if_icmp .ne 18, 3) := by decide +kernel
theorem dX9_liesAt_19 : decode cX9_liesAt 19 = .ok (.iload_n 3, 1) := by decide +kernel
theorem dX9_liesAt_20 : decode cX9_liesAt 20 = .ok (.aload_n 0, 1) := by decide +kernel
theorem dX9_liesAt_21 : decode cX9_liesAt 21 = .ok (.getfield 46, 3) := by decide +kernel
theorem dX9_liesAt_24 : decode cX9_liesAt 24 = .ok (.if_icmp .ne 7, 3) := by decide +kernel
theorem dX9_liesAt_27 : decode cX9_liesAt 27 = .ok (.iconst 0, 1) := by decide +kernel
theorem dX9_liesAt_28 : decode cX9_liesAt 28 = .ok (.goto 5, 3) := by decide +kernel
theorem dX9_liesAt_31 : decode cX9_liesAt 31 = .ok (.ldc 142, 2) := by decide +kernel
theorem dX9_liesAt_33 : decode cX9_liesAt 33 = .ok (.ireturn, 1) := by decide +kernel
theorem dX9_liesAt_34 : decode cX9_liesAt 34 = .ok (.aload_n 0, 1) := by decide +kernel
theorem dX9_liesAt_35 : decode cX9_liesAt 35 = .ok (.iload_n 3, 1) := by decide +kernel
theorem dX9_liesAt_36 : decode cX9_liesAt 36 = .ok (.aload_n 0, 1) := by decide +kernel
theorem dX9_liesAt_37 : decode cX9_liesAt 37 = .ok (.getfield 29, 3) := by decide +kernel
theorem dX9_liesAt_40 : decode cX9_liesAt 40 = .ok (.iload_n 2, 1) := by decide +kernel
theorem dX9_liesAt_41 : decode cX9_liesAt 41 = .ok (.invokevirtual 90, 3) := by decide +kernel
theorem dX9_liesAt_44 : decode cX9_liesAt 44 = .ok (.iload_n 1, 1) := by decide +kernel
theorem dX9_liesAt_45 : decode cX9_liesAt 45 = .ok (.iconst 1, 1) := by decide +kernel
theorem dX9_liesAt_46 : decode cX9_liesAt 46 = .ok (.iadd, 1) := by decide +kernel
theorem dX9_liesAt_47 : decode cX9_liesAt 47 = .ok (.invokevirtual 143, 3) := by decide +kernel
theorem dX9_liesAt_50 : decode cX9_liesAt 50 = .ok (.ireturn, 1) := by decide +kernel
theorem dX9_fewestFrom_0 : decode cX9_fewestFrom 0 = .ok (.ldc 142, 2) := by decide +kernel
theorem dX9_fewestFrom_2 : decode cX9_fewestFrom 2 = .ok (.istore 4, 2) := by decide +kernel
theorem dX9_fewestFrom_4 : decode cX9_fewestFrom 4 = .ok (.iconst 0, 1) := by decide +kernel
theorem dX9_fewestFrom_5 : decode cX9_fewestFrom 5 = .ok (.istore 5, 2) := by decide +kernel
theorem dX9_fewestFrom_7 : decode cX9_fewestFrom 7 = .ok (.iload 5, 2) := by decide +kernel
theorem dX9_fewestFrom_9 : decode cX9_fewestFrom 9 = .ok (.aload_n 0, 1) := by decide +kernel
theorem dX9_fewestFrom_10 : decode cX9_fewestFrom 10 = .ok (.getfield 29, 3) := by decide +kernel
theorem dX9_fewestFrom_13 : decode cX9_fewestFrom 13 = .ok (.getfield 58, 3) := by decide +kernel
theorem dX9_fewestFrom_16 : decode cX9_fewestFrom 16 = .ok (.if_icmp .ge 25, 3) := by decide +kernel
theorem dX9_fewestFrom_19 : decode cX9_fewestFrom 19 = .ok (.iload 4, 2) := by decide +kernel
theorem dX9_fewestFrom_21 : decode cX9_fewestFrom 21 = .ok (.aload_n 0, 1) := by decide +kernel
theorem dX9_fewestFrom_22 : decode cX9_fewestFrom 22 = .ok (.iload 5, 2) := by decide +kernel
theorem dX9_fewestFrom_24 : decode cX9_fewestFrom 24 = .ok (.iload_n 1, 1) := by decide +kernel
theorem dX9_fewestFrom_25 : decode cX9_fewestFrom 25 = .ok (.iload_n 2, 1) := by decide +kernel
theorem dX9_fewestFrom_26 : decode cX9_fewestFrom 26 = .ok (.iload_n 3, 1) := by decide +kernel
theorem dX9_fewestFrom_27 : decode cX9_fewestFrom 27 = .ok (.invokevirtual 146, 3) := by decide +kernel
theorem dX9_fewestFrom_30 : decode cX9_fewestFrom 30 = .ok (.invokestatic 149, 3) := by decide +kernel
theorem dX9_fewestFrom_33 : decode cX9_fewestFrom 33 = .ok (.istore 4, 2) := by decide +kernel
theorem dX9_fewestFrom_35 : decode cX9_fewestFrom 35 = .ok (.iinc 5 1, 3) := by decide +kernel
theorem dX9_fewestFrom_38 : decode cX9_fewestFrom 38 = .ok (.goto (-31), 3) := by decide +kernel
theorem dX9_fewestFrom_41 : decode cX9_fewestFrom 41 = .ok (.iload 4, 2) := by decide +kernel
theorem dX9_fewestFrom_43 : decode cX9_fewestFrom 43 = .ok (.ireturn, 1) := by decide +kernel
theorem dX9_liesBy_0 : decode cX9_liesBy 0 = .ok (.aload_n 0, 1) := by decide +kernel
theorem dX9_liesBy_1 : decode cX9_liesBy 1 = .ok (.getfield 29, 3) := by decide +kernel
theorem dX9_liesBy_4 : decode cX9_liesBy 4 = .ok (.iload_n 2, 1) := by decide +kernel
theorem dX9_liesBy_5 : decode cX9_liesBy 5 = .ok (.iload_n 1, 1) := by decide +kernel
theorem dX9_liesBy_6 : decode cX9_liesBy 6 = .ok (.invokevirtual 101, 3) := by decide +kernel
theorem dX9_liesBy_9 : decode cX9_liesBy 9 = .ok (.ifCond .eq 16, 3) := by decide +kernel
theorem dX9_liesBy_12 : decode cX9_liesBy 12 = .ok (.aload_n 0, 1) := by decide +kernel
theorem dX9_liesBy_13 : decode cX9_liesBy 13 = .ok (.getfield 29, 3) := by decide +kernel
theorem dX9_liesBy_16 : decode cX9_liesBy 16 = .ok (.getfield 71, 3) := by decide +kernel
theorem dX9_liesBy_19 : decode cX9_liesBy 19 = .ok (.iload_n 1, 1) := by decide +kernel
theorem dX9_liesBy_20 : decode cX9_liesBy 20 = .ok (.iaload, 1) := by decide +kernel
theorem dX9_liesBy_21 : decode cX9_liesBy 21 = .ok (.iload_n 3, 1) := by decide +kernel
theorem dX9_liesBy_22 : decode cX9_liesBy 22 = .ok (.if_icmp .ge 6, 3) := by decide +kernel
theorem dX9_liesBy_25 : decode cX9_liesBy 25 = .ok (.ldc 142, 2) := by decide +kernel
theorem dX9_liesBy_27 : decode cX9_liesBy 27 = .ok (.ireturn, 1) := by decide +kernel
theorem dX9_liesBy_28 : decode cX9_liesBy 28 = .ok (.aload_n 0, 1) := by decide +kernel
theorem dX9_liesBy_29 : decode cX9_liesBy 29 = .ok (.getfield 29, 3) := by decide +kernel
theorem dX9_liesBy_32 : decode cX9_liesBy 32 = .ok (.iload_n 1, 1) := by decide +kernel
theorem dX9_liesBy_33 : decode cX9_liesBy 33 = .ok (.aload_n 0, 1) := by decide +kernel
theorem dX9_liesBy_34 : decode cX9_liesBy 34 = .ok (.getfield 29, 3) := by decide +kernel
theorem dX9_liesBy_37 : decode cX9_liesBy 37 = .ok (.iload_n 1, 1) := by decide +kernel
theorem dX9_liesBy_38 : decode cX9_liesBy 38 = .ok (.iload_n 2, 1) := by decide +kernel
theorem dX9_liesBy_39 : decode cX9_liesBy 39 = .ok (.invokevirtual 67, 3) := by decide +kernel
theorem dX9_liesBy_42 : decode cX9_liesBy 42 = .ok (.invokevirtual 104, 3) := by decide +kernel
theorem dX9_liesBy_45 : decode cX9_liesBy 45 = .ok (.istore 5, 2) := by decide +kernel
theorem dX9_liesBy_47 : decode cX9_liesBy 47 = .ok (.aload_n 0, 1) := by decide +kernel
theorem dX9_liesBy_48 : decode cX9_liesBy 48 = .ok (.getfield 26, 3) := by decide +kernel
theorem dX9_liesBy_51 : decode cX9_liesBy 51 = .ok (.iload 4, 2) := by decide +kernel
theorem dX9_liesBy_53 : decode cX9_liesBy 53 = .ok (.bipush 40, 2) := by decide +kernel
theorem dX9_liesBy_55 : decode cX9_liesBy 55 = .ok (.imul, 1) := by decide +kernel
theorem dX9_liesBy_56 : decode cX9_liesBy 56 = .ok (.iload 5, 2) := by decide +kernel
theorem dX9_liesBy_58 : decode cX9_liesBy 58 = .ok (.iadd, 1) := by decide +kernel
theorem dX9_liesBy_59 : decode cX9_liesBy 59 = .ok (.iaload, 1) := by decide +kernel
theorem dX9_liesBy_60 : decode cX9_liesBy 60 = .ok (.istore 6, 2) := by decide +kernel
theorem dX9_liesBy_62 : decode cX9_liesBy 62 = .ok (.iload 6, 2) := by decide +kernel
theorem dX9_liesBy_64 : decode cX9_liesBy 64 = .ok (.ldc 142, 2) := by decide +kernel
theorem dX9_liesBy_66 : decode cX9_liesBy 66 = .ok (.if_icmp .ne 8, 3) := by decide +kernel
theorem dX9_liesBy_69 : decode cX9_liesBy 69 = .ok (.ldc 142, 2) := by decide +kernel
theorem dX9_liesBy_71 : decode cX9_liesBy 71 = .ok (.goto 22, 3) := by decide +kernel
theorem dX9_liesBy_74 : decode cX9_liesBy 74 = .ok (.iload 6, 2) := by decide +kernel
theorem dX9_liesBy_76 : decode cX9_liesBy 76 = .ok (.aload_n 0, 1) := by decide +kernel
theorem dX9_liesBy_77 : decode cX9_liesBy 77 = .ok (.iload 4, 2) := by decide +kernel
theorem dX9_liesBy_79 : decode cX9_liesBy 79 = .ok (.iload 5, 2) := by decide +kernel
theorem dX9_liesBy_81 : decode cX9_liesBy 81 = .ok (.invokevirtual 82, 3) := by decide +kernel
theorem dX9_liesBy_84 : decode cX9_liesBy 84 = .ok (.ifCond .eq 7, 3) := by decide +kernel
theorem dX9_liesBy_87 : decode cX9_liesBy 87 = .ok (.iconst 0, 1) := by decide +kernel
theorem dX9_liesBy_88 : decode cX9_liesBy 88 = .ok (.goto 4, 3) := by decide +kernel
theorem dX9_liesBy_91 : decode cX9_liesBy 91 = .ok (.iconst 1, 1) := by decide +kernel
theorem dX9_liesBy_92 : decode cX9_liesBy 92 = .ok (.iadd, 1) := by decide +kernel
theorem dX9_liesBy_93 : decode cX9_liesBy 93 = .ok (.ireturn, 1) := by decide +kernel
theorem dX9_traceLies_0 : decode cX9_traceLies 0 = .ok (.aload_n 0, 1) := by decide +kernel
theorem dX9_traceLies_1 : decode cX9_traceLies 1 = .ok (.getfield 37, 3) := by decide +kernel
theorem dX9_traceLies_4 : decode cX9_traceLies 4 = .ok (.iconst 1, 1) := by decide +kernel
theorem dX9_traceLies_5 : decode cX9_traceLies 5 = .ok (.if_icmp .ne 17, 3) := by decide +kernel
theorem dX9_traceLies_8 : decode cX9_traceLies 8 = .ok (.iload_n 1, 1) := by decide +kernel
theorem dX9_traceLies_9 : decode cX9_traceLies 9 = .ok (.aload_n 0, 1) := by decide +kernel
theorem dX9_traceLies_10 : decode cX9_traceLies 10 = .ok (.getfield 46, 3) := by decide +kernel
theorem dX9_traceLies_13 : decode cX9_traceLies 13 = .ok (.if_icmp .ne 9, 3) := by decide +kernel
theorem dX9_traceLies_16 : decode cX9_traceLies 16 = .ok (.aload_n 3, 1) := by decide +kernel
theorem dX9_traceLies_17 : decode cX9_traceLies 17 = .ok (.invokevirtual 107, 3) := by decide +kernel
theorem dX9_traceLies_20 : decode cX9_traceLies 20 = .ok (.iconst 0, 1) := by decide +kernel
theorem dX9_traceLies_21 : decode cX9_traceLies 21 = .ok (.ireturn, 1) := by decide +kernel
theorem dX9_traceLies_22 : decode cX9_traceLies 22 = .ok (.aload_n 0, 1) := by decide +kernel
theorem dX9_traceLies_23 : decode cX9_traceLies 23 = .ok (.getfield 37, 3) := by decide +kernel
theorem dX9_traceLies_26 : decode cX9_traceLies 26 = .ok (.iconst 1, 1) := by decide +kernel
theorem dX9_traceLies_27 : decode cX9_traceLies 27 = .ok (.if_icmp .ne 8, 3) := by decide +kernel
theorem dX9_traceLies_30 : decode cX9_traceLies 30 = .ok (.ldc 142, 2) := by decide +kernel
theorem dX9_traceLies_32 : decode cX9_traceLies 32 = .ok (.goto 10, 3) := by decide +kernel
theorem dX9_traceLies_35 : decode cX9_traceLies 35 = .ok (.aload_n 0, 1) := by decide +kernel
theorem dX9_traceLies_36 : decode cX9_traceLies 36 = .ok (.iload_n 1, 1) := by decide +kernel
theorem dX9_traceLies_37 : decode cX9_traceLies 37 = .ok (.iload_n 2, 1) := by decide +kernel
theorem dX9_traceLies_38 : decode cX9_traceLies 38 = .ok (.iconst 1, 1) := by decide +kernel
theorem dX9_traceLies_39 : decode cX9_traceLies 39 = .ok (.invokevirtual 143, 3) := by decide +kernel
theorem dX9_traceLies_42 : decode cX9_traceLies 42 = .ok (.istore 4, 2) := by decide +kernel
theorem dX9_traceLies_44 : decode cX9_traceLies 44 = .ok (.iload 4, 2) := by decide +kernel
theorem dX9_traceLies_46 : decode cX9_traceLies 46 = .ok (.ldc 142, 2) := by decide +kernel
theorem dX9_traceLies_48 : decode cX9_traceLies 48 = .ok (.if_icmp .ne 6, 3) := by decide +kernel
theorem dX9_traceLies_51 : decode cX9_traceLies 51 = .ok (.bipush (-3), 2) := by decide +kernel
theorem dX9_traceLies_53 : decode cX9_traceLies 53 = .ok (.ireturn, 1) := by decide +kernel
theorem dX9_traceLies_54 : decode cX9_traceLies 54 = .ok (.iload 4, 2) := by decide +kernel
theorem dX9_traceLies_56 : decode cX9_traceLies 56 = .ok (.istore 5, 2) := by decide +kernel
theorem dX9_traceLies_58 : decode cX9_traceLies 58 = .ok (.iload_n 1, 1) := by decide +kernel
theorem dX9_traceLies_59 : decode cX9_traceLies 59 = .ok (.istore 6, 2) := by decide +kernel
theorem dX9_traceLies_61 : decode cX9_traceLies 61 = .ok (.iload_n 2, 1) := by decide +kernel
theorem dX9_traceLies_62 : decode cX9_traceLies 62 = .ok (.istore 7, 2) := by decide +kernel
theorem dX9_traceLies_64 : decode cX9_traceLies 64 = .ok (.aload_n 3, 1) := by decide +kernel
theorem dX9_traceLies_65 : decode cX9_traceLies 65 = .ok (.invokevirtual 107, 3) := by decide +kernel
theorem dX9_traceLies_68 : decode cX9_traceLies 68 = .ok (.iconst 1, 1) := by decide +kernel
theorem dX9_traceLies_69 : decode cX9_traceLies 69 = .ok (.istore 8, 2) := by decide +kernel
theorem dX9_traceLies_71 : decode cX9_traceLies 71 = .ok (.iload 8, 2) := by decide +kernel
theorem dX9_traceLies_73 : decode cX9_traceLies 73 = .ok (.aload_n 0, 1) := by decide +kernel
theorem dX9_traceLies_74 : decode cX9_traceLies 74 = .ok (.getfield 37, 3) := by decide +kernel
theorem dX9_traceLies_77 : decode cX9_traceLies 77 = .ok (.if_icmp .ge 96, 3) := by decide +kernel
theorem dX9_traceLies_80 : decode cX9_traceLies 80 = .ok (.aload_n 0, 1) := by decide +kernel
theorem dX9_traceLies_81 : decode cX9_traceLies 81 = .ok (.iload 6, 2) := by decide +kernel
theorem dX9_traceLies_83 : decode cX9_traceLies 83 = .ok (.iload 7, 2) := by decide +kernel
theorem dX9_traceLies_85 : decode cX9_traceLies 85 = .ok (.iload 8, 2) := by decide +kernel
theorem dX9_traceLies_87 : decode cX9_traceLies 87 = .ok (.iload 5, 2) := by decide +kernel
theorem dX9_traceLies_89 : decode cX9_traceLies 89 = .ok (.invokevirtual 152, 3) := by decide +kernel
theorem dX9_traceLies_92 : decode cX9_traceLies 92 = .ok (.istore 9, 2) := by decide +kernel
theorem dX9_traceLies_94 : decode cX9_traceLies 94 = .ok (.iload 9, 2) := by decide +kernel
theorem dX9_traceLies_96 : decode cX9_traceLies 96 = .ok (.iconst (-1), 1) := by decide +kernel
theorem dX9_traceLies_97 : decode cX9_traceLies 97 = .ok (.if_icmp .ne 6, 3) := by decide +kernel
theorem dX9_traceLies_100 : decode cX9_traceLies 100 = .ok (.goto 73, 3) := by decide +kernel
theorem dX9_traceLies_103 : decode cX9_traceLies 103 = .ok (.aload_n 3, 1) := by decide +kernel
theorem dX9_traceLies_104 : decode cX9_traceLies 104 = .ok (.iload 9, 2) := by decide +kernel
theorem dX9_traceLies_106 : decode cX9_traceLies 106 = .ok (.invokevirtual 113, 3) := by decide +kernel
theorem dX9_traceLies_109 : decode cX9_traceLies 109 = .ok (.aload_n 0, 1) := by decide +kernel
theorem dX9_traceLies_110 : decode cX9_traceLies 110 = .ok (.getfield 29, 3) := by decide +kernel
theorem dX9_traceLies_113 : decode cX9_traceLies 113 = .ok (.iload 9, 2) := by decide +kernel
theorem dX9_traceLies_115 : decode cX9_traceLies 115 = .ok (.iload 6, 2) := by decide +kernel
theorem dX9_traceLies_117 : decode cX9_traceLies 117 = .ok (.invokevirtual 67, 3) := by decide +kernel
theorem dX9_traceLies_120 : decode cX9_traceLies 120 = .ok (.istore 6, 2) := by decide +kernel
theorem dX9_traceLies_122 : decode cX9_traceLies 122 = .ok (.aload_n 0, 1) := by decide +kernel
theorem dX9_traceLies_123 : decode cX9_traceLies 123 = .ok (.getfield 29, 3) := by decide +kernel
theorem dX9_traceLies_126 : decode cX9_traceLies 126 = .ok (.iload 9, 2) := by decide +kernel
theorem dX9_traceLies_128 : decode cX9_traceLies 128 = .ok (.iload 6, 2) := by decide +kernel
theorem dX9_traceLies_130 : decode cX9_traceLies 130 = .ok (.invokevirtual 104, 3) := by decide +kernel
theorem dX9_traceLies_133 : decode cX9_traceLies 133 = .ok (.istore 10, 2) := by decide +kernel
theorem dX9_traceLies_135 : decode cX9_traceLies 135 = .ok (.aload_n 0, 1) := by decide +kernel
theorem dX9_traceLies_136 : decode cX9_traceLies 136 = .ok (.getfield 29, 3) := by decide +kernel
theorem dX9_traceLies_139 : decode cX9_traceLies 139 = .ok (.iload 10, 2) := by decide +kernel
theorem dX9_traceLies_141 : decode cX9_traceLies 141 = .ok (.invokevirtual 90, 3) := by decide +kernel
theorem dX9_traceLies_144 : decode cX9_traceLies 144 = .ok (.istore 7, 2) := by decide +kernel
theorem dX9_traceLies_146 : decode cX9_traceLies 146 = .ok (.iload 5, 2) := by decide +kernel
theorem dX9_traceLies_148 : decode cX9_traceLies 148 = .ok (.aload_n 0, 1) := by decide +kernel
theorem dX9_traceLies_149 : decode cX9_traceLies 149 = .ok (.iload 8, 2) := by decide +kernel
theorem dX9_traceLies_151 : decode cX9_traceLies 151 = .ok (.iload 10, 2) := by decide +kernel
theorem dX9_traceLies_153 : decode cX9_traceLies 153 = .ok (.invokevirtual 82, 3) := by decide +kernel
theorem dX9_traceLies_156 : decode cX9_traceLies 156 = .ok (.ifCond .eq 7, 3) := by decide +kernel
theorem dX9_traceLies_159 : decode cX9_traceLies 159 = .ok (.iconst 0, 1) := by decide +kernel
theorem dX9_traceLies_160 : decode cX9_traceLies 160 = .ok (.goto 4, 3) := by decide +kernel
theorem dX9_traceLies_163 : decode cX9_traceLies 163 = .ok (.iconst 1, 1) := by decide +kernel
theorem dX9_traceLies_164 : decode cX9_traceLies 164 = .ok (.isub, 1) := by decide +kernel
theorem dX9_traceLies_165 : decode cX9_traceLies 165 = .ok (.istore 5, 2) := by decide +kernel
theorem dX9_traceLies_167 : decode cX9_traceLies 167 = .ok (.iinc 8 1, 3) := by decide +kernel
theorem dX9_traceLies_170 : decode cX9_traceLies 170 = .ok (.goto (-99), 3) := by decide +kernel
theorem dX9_traceLies_173 : decode cX9_traceLies 173 = .ok (.iload 4, 2) := by decide +kernel
theorem dX9_traceLies_175 : decode cX9_traceLies 175 = .ok (.ireturn, 1) := by decide +kernel
theorem dX9_stepLies_0 : decode cX9_stepLies 0 = .ok (.iconst 0, 1) := by decide +kernel
theorem dX9_stepLies_1 : decode cX9_stepLies 1 = .ok (.istore 5, 2) := by decide +kernel
theorem dX9_stepLies_3 : decode cX9_stepLies 3 = .ok (.iload 5, 2) := by decide +kernel
theorem dX9_stepLies_5 : decode cX9_stepLies 5 = .ok (.aload_n 0, 1) := by decide +kernel
theorem dX9_stepLies_6 : decode cX9_stepLies 6 = .ok (.getfield 29, 3) := by decide +kernel
theorem dX9_stepLies_9 : decode cX9_stepLies 9 = .ok (.getfield 58, 3) := by decide +kernel
theorem dX9_stepLies_12 : decode cX9_stepLies 12 = .ok (.if_icmp .ge 26, 3) := by decide +kernel
theorem dX9_stepLies_15 : decode cX9_stepLies 15 = .ok (.aload_n 0, 1) := by decide +kernel
theorem dX9_stepLies_16 : decode cX9_stepLies 16 = .ok (.iload 5, 2) := by decide +kernel
theorem dX9_stepLies_18 : decode cX9_stepLies 18 = .ok (.iload_n 1, 1) := by decide +kernel
theorem dX9_stepLies_19 : decode cX9_stepLies 19 = .ok (.iload_n 2, 1) := by decide +kernel
theorem dX9_stepLies_20 : decode cX9_stepLies 20 = .ok (.iload_n 3, 1) := by decide +kernel
theorem dX9_stepLies_21 : decode cX9_stepLies 21 = .ok (.invokevirtual 146, 3) := by decide +kernel
theorem dX9_stepLies_24 : decode cX9_stepLies 24 = .ok (.iload 4, 2) := by decide +kernel
theorem dX9_stepLies_26 : decode cX9_stepLies 26 = .ok (.if_icmp .ne 6, 3) := by decide +kernel
theorem dX9_stepLies_29 : decode cX9_stepLies 29 = .ok (.iload 5, 2) := by decide +kernel
theorem dX9_stepLies_31 : decode cX9_stepLies 31 = .ok (.ireturn, 1) := by decide +kernel
theorem dX9_stepLies_32 : decode cX9_stepLies 32 = .ok (.iinc 5 1, 3) := by decide +kernel
theorem dX9_stepLies_35 : decode cX9_stepLies 35 = .ok (.goto (-32), 3) := by decide +kernel
theorem dX9_stepLies_38 : decode cX9_stepLies 38 = .ok (.iconst (-1), 1) := by decide +kernel
theorem dX9_stepLies_39 : decode cX9_stepLies 39 = .ok (.ireturn, 1) := by decide +kernel
theorem dX10_init_0 : decode cX10_init 0 = .ok (.aload_n 0, 1) := by decide +kernel
theorem dX10_init_1 : decode cX10_init 1 = .ok (.invokespecial 3, 3) := by decide +kernel
theorem dX10_init_4 : decode cX10_init 4 = .ok (.aload_n 0, 1) := by decide +kernel
theorem dX10_init_5 : decode cX10_init 5 = .ok (.bipush 80, 2) := by decide +kernel
theorem dX10_init_7 : decode cX10_init 7 = .ok (.newarray .char, 2) := by decide +kernel
theorem dX10_init_9 : decode cX10_init 9 = .ok (.putfield 9, 3) := by decide +kernel
theorem dX10_init_12 : decode cX10_init 12 = .ok (.return_, 1) := by decide +kernel
theorem dX10_addFour_0 : decode cX10_addFour 0 = .ok (.aload_n 0, 1) := by decide +kernel
theorem dX10_addFour_1 : decode cX10_addFour 1 = .ok (.getfield 15, 3) := by decide +kernel
theorem dX10_addFour_4 : decode cX10_addFour 4 = .ok (.bipush 76, 2) := by decide +kernel
theorem dX10_addFour_6 : decode cX10_addFour 6 = .ok (.if_icmp .le 5, 3) := by decide +kernel
theorem dX10_addFour_9 : decode cX10_addFour 9 = .ok (.iconst 0, 1) := by decide +kernel
theorem dX10_addFour_10 : decode cX10_addFour 10 = .ok (.ireturn, 1) := by decide +kernel
theorem dX10_addFour_11 : decode cX10_addFour 11 = .ok (.bipush 24, 2) := by decide +kernel
theorem dX10_addFour_13 : decode cX10_addFour 13 = .ok (.istore_n 2, 1) := by decide +kernel
theorem dX10_addFour_14 : decode cX10_addFour 14 = .ok (.iload_n 2, 1) := by decide +kernel
theorem dX10_addFour_15 : decode cX10_addFour 15 = .ok (.ifCond .lt 36, 3) := by decide +kernel
theorem dX10_addFour_18 : decode cX10_addFour 18 = .ok (.aload_n 0, 1) := by decide +kernel
theorem dX10_addFour_19 : decode cX10_addFour 19 = .ok (.getfield 9, 3) := by decide +kernel
theorem dX10_addFour_22 : decode cX10_addFour 22 = .ok (.aload_n 0, 1) := by decide +kernel
theorem dX10_addFour_23 : decode cX10_addFour 23 = .ok (.getfield 15, 3) := by decide +kernel
theorem dX10_addFour_26 : decode cX10_addFour 26 = .ok (.iload_n 1, 1) := by decide +kernel
theorem dX10_addFour_27 : decode cX10_addFour 27 = .ok (.iload_n 2, 1) := by decide +kernel
theorem dX10_addFour_28 : decode cX10_addFour 28 = .ok (.iushr, 1) := by decide +kernel
theorem dX10_addFour_29 : decode cX10_addFour 29 = .ok (.sipush 255, 3) := by decide +kernel
theorem dX10_addFour_32 : decode cX10_addFour 32 = .ok (.iand, 1) := by decide +kernel
theorem dX10_addFour_33 : decode cX10_addFour 33 = .ok (.i2c, 1) := by decide +kernel
theorem dX10_addFour_34 : decode cX10_addFour 34 = .ok (.castore, 1) := by decide +kernel
theorem dX10_addFour_35 : decode cX10_addFour 35 = .ok (.aload_n 0, 1) := by decide +kernel
theorem dX10_addFour_36 : decode cX10_addFour 36 = .ok (.dup, 1) := by decide +kernel
theorem dX10_addFour_37 : decode cX10_addFour 37 = .ok (.getfield 15, 3) := by decide +kernel
theorem dX10_addFour_40 : decode cX10_addFour 40 = .ok (.iconst 1, 1) := by decide +kernel
theorem dX10_addFour_41 : decode cX10_addFour 41 = .ok (.iadd, 1) := by decide +kernel
theorem dX10_addFour_42 : decode cX10_addFour 42 = .ok (.putfield 15, 3) := by decide +kernel
theorem dX10_addFour_45 : decode cX10_addFour 45 = .ok (.iinc 2 (-8), 3) := by decide +kernel
theorem dX10_addFour_48 : decode cX10_addFour 48 = .ok (.goto (-34), 3) := by decide +kernel
theorem dX10_addFour_51 : decode cX10_addFour 51 = .ok (.iconst 1, 1) := by decide +kernel
theorem dX10_addFour_52 : decode cX10_addFour 52 = .ok (.ireturn, 1) := by decide +kernel
theorem dX10_cutTo_0 : decode cX10_cutTo 0 = .ok (.iload_n 1, 1) := by decide +kernel
theorem dX10_cutTo_1 : decode cX10_cutTo 1 = .ok (.ifCond .lt 11, 3) := by decide +kernel
theorem dX10_cutTo_4 : decode cX10_cutTo 4 = .ok (.iload_n 1, 1) := by decide +kernel
theorem dX10_cutTo_5 : decode cX10_cutTo 5 = .ok (.aload_n 0, 1) := by decide +kernel
theorem dX10_cutTo_6 : decode cX10_cutTo 6 = .ok (.getfield 15, 3) := by decide +kernel
theorem dX10_cutTo_9 : decode cX10_cutTo 9 = .ok (.if_icmp .le 5, 3) := by decide +kernel
theorem dX10_cutTo_12 : decode cX10_cutTo 12 = .ok (.iconst 0, 1) := by decide +kernel
theorem dX10_cutTo_13 : decode cX10_cutTo 13 = .ok (.ireturn, 1) := by decide +kernel
theorem dX10_cutTo_14 : decode cX10_cutTo 14 = .ok (.aload_n 0, 1) := by decide +kernel
theorem dX10_cutTo_15 : decode cX10_cutTo 15 = .ok (.iload_n 1, 1) := by decide +kernel
theorem dX10_cutTo_16 : decode cX10_cutTo 16 = .ok (.putfield 15, 3) := by decide +kernel
theorem dX10_cutTo_19 : decode cX10_cutTo 19 = .ok (.iconst 1, 1) := by decide +kernel
theorem dX10_cutTo_20 : decode cX10_cutTo 20 = .ok (.ireturn, 1) := by decide +kernel
theorem dX10_clear_0 : decode cX10_clear 0 = .ok (.aload_n 0, 1) := by decide +kernel
theorem dX10_clear_1 : decode cX10_clear 1 = .ok (.iconst 0, 1) := by decide +kernel
theorem dX10_clear_2 : decode cX10_clear 2 = .ok (.putfield 15, 3) := by decide +kernel
theorem dX10_clear_5 : decode cX10_clear 5 = .ok (.return_, 1) := by decide +kernel
theorem dX10_signAt_0 : decode cX10_signAt 0 = .ok (.iload_n 1, 1) := by decide +kernel
theorem dX10_signAt_1 : decode cX10_signAt 1 = .ok (.ifCond .lt 20, 3) := by decide +kernel
theorem dX10_signAt_4 : decode cX10_signAt 4 = .ok (.iload_n 1, 1) := by decide +kernel
theorem dX10_signAt_5 : decode cX10_signAt 5 = .ok (.aload_n 0, 1) := by decide +kernel
theorem dX10_signAt_6 : decode cX10_signAt 6 = .ok (.getfield 15, 3) := by decide +kernel
theorem dX10_signAt_9 : decode cX10_signAt 9 = .ok (.if_icmp .ge 12, 3) := by decide +kernel
theorem dX10_signAt_12 : decode cX10_signAt 12 = .ok (.aload_n 0, 1) := by decide +kernel
theorem dX10_signAt_13 : decode cX10_signAt 13 = .ok (.getfield 9, 3) := by decide +kernel
theorem dX10_signAt_16 : decode cX10_signAt 16 = .ok (.iload_n 1, 1) := by decide +kernel
theorem dX10_signAt_17 : decode cX10_signAt 17 = .ok (.caload, 1) := by decide +kernel
theorem dX10_signAt_18 : decode cX10_signAt 18 = .ok (.goto 4, 3) := by decide +kernel
theorem dX10_signAt_21 : decode cX10_signAt 21 = .ok (.iconst (-1), 1) := by decide +kernel
theorem dX10_signAt_22 : decode cX10_signAt 22 = .ok (.ireturn, 1) := by decide +kernel
theorem dX10_isDigit_0 : decode cX10_isDigit 0 = .ok (.iload_n 0, 1) := by decide +kernel
theorem dX10_isDigit_1 : decode cX10_isDigit 1 = .ok (.bipush 48, 2) := by decide +kernel
theorem dX10_isDigit_3 : decode cX10_isDigit 3 = .ok (.if_icmp .lt 13, 3) := by decide +kernel
theorem dX10_isDigit_6 : decode cX10_isDigit 6 = .ok (.iload_n 0, 1) := by decide +kernel
theorem dX10_isDigit_7 : decode cX10_isDigit 7 = .ok (.bipush 57, 2) := by decide +kernel
theorem dX10_isDigit_9 : decode cX10_isDigit 9 = .ok (.if_icmp .gt 7, 3) := by decide +kernel
theorem dX10_isDigit_12 : decode cX10_isDigit 12 = .ok (.iconst 1, 1) := by decide +kernel
theorem dX10_isDigit_13 : decode cX10_isDigit 13 = .ok (.goto 4, 3) := by decide +kernel
theorem dX10_isDigit_16 : decode cX10_isDigit 16 = .ok (.iconst 0, 1) := by decide +kernel
theorem dX10_isDigit_17 : decode cX10_isDigit 17 = .ok (.ireturn, 1) := by decide +kernel
theorem dX11_init_0 : decode cX11_init 0 = .ok (.aload_n 0, 1) := by decide +kernel
theorem dX11_init_1 : decode cX11_init 1 = .ok (.invokespecial 3, 3) := by decide +kernel
theorem dX11_init_4 : decode cX11_init 4 = .ok (.aload_n 0, 1) := by decide +kernel
theorem dX11_init_5 : decode cX11_init 5 = .ok (.new 9, 3) := by decide +kernel
theorem dX11_init_8 : decode cX11_init 8 = .ok (.dup, 1) := by decide +kernel
theorem dX11_init_9 : decode cX11_init 9 = .ok (.invokespecial 11, 3) := by decide +kernel
theorem dX11_init_12 : decode cX11_init 12 = .ok (.putfield 12, 3) := by decide +kernel
theorem dX11_init_15 : decode cX11_init 15 = .ok (.aload_n 0, 1) := by decide +kernel
theorem dX11_init_16 : decode cX11_init 16 = .ok (.new 16, 3) := by decide +kernel
theorem dX11_init_19 : decode cX11_init 19 = .ok (.dup, 1) := by decide +kernel
theorem dX11_init_20 : decode cX11_init 20 = .ok (.invokespecial 18, 3) := by decide +kernel
theorem dX11_init_23 : decode cX11_init 23 = .ok (.putfield 19, 3) := by decide +kernel
theorem dX11_init_26 : decode cX11_init 26 = .ok (.aload_n 0, 1) := by decide +kernel
theorem dX11_init_27 : decode cX11_init 27 = .ok (.new 23, 3) := by decide +kernel
theorem dX11_init_30 : decode cX11_init 30 = .ok (.dup, 1) := by decide +kernel
theorem dX11_init_31 : decode cX11_init 31 = .ok (.invokespecial 25, 3) := by decide +kernel
theorem dX11_init_34 : decode cX11_init 34 = .ok (.putfield 26, 3) := by decide +kernel
theorem dX11_init_37 : decode cX11_init 37 = .ok (.aload_n 0, 1) := by decide +kernel
theorem dX11_init_38 : decode cX11_init 38 = .ok (.new 30, 3) := by decide +kernel
theorem dX11_init_41 : decode cX11_init 41 = .ok (.dup, 1) := by decide +kernel
theorem dX11_init_42 : decode cX11_init 42 = .ok (.aload_n 0, 1) := by decide +kernel
theorem dX11_init_43 : decode cX11_init 43 = .ok (.getfield 12, 3) := by decide +kernel
theorem dX11_init_46 : decode cX11_init 46 = .ok (.aload_n 0, 1) := by decide +kernel
theorem dX11_init_47 : decode cX11_init 47 = .ok (.getfield 26, 3) := by decide +kernel
theorem dX11_init_50 : decode cX11_init 50 = .ok (.invokespecial 32, 3) := by decide +kernel
theorem dX11_init_53 : decode cX11_init 53 = .ok (.putfield 35, 3) := by decide +kernel
theorem dX11_init_56 : decode cX11_init 56 = .ok (.aload_n 0, 1) := by decide +kernel
theorem dX11_init_57 : decode cX11_init 57 = .ok (.new 39, 3) := by decide +kernel
theorem dX11_init_60 : decode cX11_init 60 = .ok (.dup, 1) := by decide +kernel
theorem dX11_init_61 : decode cX11_init 61 = .ok (.invokespecial 41, 3) := by decide +kernel
theorem dX11_init_64 : decode cX11_init 64 = .ok (.putfield 42, 3) := by decide +kernel
theorem dX11_init_67 : decode cX11_init 67 = .ok (.aload_n 0, 1) := by decide +kernel
theorem dX11_init_68 : decode cX11_init 68 = .ok (.new 46, 3) := by decide +kernel
theorem dX11_init_71 : decode cX11_init 71 = .ok (.dup, 1) := by decide +kernel
theorem dX11_init_72 : decode cX11_init 72 = .ok (.aload_n 0, 1) := by decide +kernel
theorem dX11_init_73 : decode cX11_init 73 = .ok (.getfield 12, 3) := by decide +kernel
theorem dX11_init_76 : decode cX11_init 76 = .ok (.aload_n 0, 1) := by decide +kernel
theorem dX11_init_77 : decode cX11_init 77 = .ok (.getfield 42, 3) := by decide +kernel
theorem dX11_init_80 : decode cX11_init 80 = .ok (.invokespecial 48, 3) := by decide +kernel
theorem dX11_init_83 : decode cX11_init 83 = .ok (.putfield 51, 3) := by decide +kernel
theorem dX11_init_86 : decode cX11_init 86 = .ok (.aload_n 0, 1) := by decide +kernel
theorem dX11_init_87 : decode cX11_init 87 = .ok (.new 55, 3) := by decide +kernel
theorem dX11_init_90 : decode cX11_init 90 = .ok (.dup, 1) := by decide +kernel
theorem dX11_init_91 : decode cX11_init 91 = .ok (.aload_n 0, 1) := by decide +kernel
theorem dX11_init_92 : decode cX11_init 92 = .ok (.getfield 26, 3) := by decide +kernel
theorem dX11_init_95 : decode cX11_init 95 = .ok (.aload_n 0, 1) := by decide +kernel
theorem dX11_init_96 : decode cX11_init 96 = .ok (.getfield 42, 3) := by decide +kernel
theorem dX11_init_99 : decode cX11_init 99 = .ok (.invokespecial 57, 3) := by decide +kernel
theorem dX11_init_102 : decode cX11_init 102 = .ok (.putfield 60, 3) := by decide +kernel
theorem dX11_init_105 : decode cX11_init 105 = .ok (.aload_n 0, 1) := by decide +kernel
theorem dX11_init_106 : decode cX11_init 106 = .ok (.new 64, 3) := by decide +kernel
theorem dX11_init_109 : decode cX11_init 109 = .ok (.dup, 1) := by decide +kernel
theorem dX11_init_110 : decode cX11_init 110 = .ok (.aload_n 0, 1) := by decide +kernel
theorem dX11_init_111 : decode cX11_init 111 = .ok (.getfield 26, 3) := by decide +kernel
theorem dX11_init_114 : decode cX11_init 114 = .ok (.invokespecial 66, 3) := by decide +kernel
theorem dX11_init_117 : decode cX11_init 117 = .ok (.putfield 69, 3) := by decide +kernel
theorem dX11_init_120 : decode cX11_init 120 = .ok (.aload_n 0, 1) := by decide +kernel
theorem dX11_init_121 : decode cX11_init 121 = .ok (.new 16, 3) := by decide +kernel
theorem dX11_init_124 : decode cX11_init 124 = .ok (.dup, 1) := by decide +kernel
theorem dX11_init_125 : decode cX11_init 125 = .ok (.invokespecial 18, 3) := by decide +kernel
theorem dX11_init_128 : decode cX11_init 128 = .ok (.putfield 73, 3) := by decide +kernel
theorem dX11_init_131 : decode cX11_init 131 = .ok (.aload_n 0, 1) := by decide +kernel
theorem dX11_init_132 : decode cX11_init 132 = .ok (.new 16, 3) := by decide +kernel
theorem dX11_init_135 : decode cX11_init 135 = .ok (.dup, 1) := by decide +kernel
theorem dX11_init_136 : decode cX11_init 136 = .ok (.invokespecial 18, 3) := by decide +kernel
theorem dX11_init_139 : decode cX11_init 139 = .ok (.putfield 76, 3) := by decide +kernel
theorem dX11_init_142 : decode cX11_init 142 = .ok (.aload_n 0, 1) := by decide +kernel
theorem dX11_init_143 : decode cX11_init 143 = .ok (.new 79, 3) := by decide +kernel
theorem dX11_init_146 : decode cX11_init 146 = .ok (.dup, 1) := by decide +kernel
theorem dX11_init_147 : decode cX11_init 147 = .ok (.aload_n 0, 1) := by decide +kernel
theorem dX11_init_148 : decode cX11_init 148 = .ok (.getfield 26, 3) := by decide +kernel
theorem dX11_init_151 : decode cX11_init 151 = .ok (.aload_n 0, 1) := by decide +kernel
theorem dX11_init_152 : decode cX11_init 152 = .ok (.getfield 42, 3) := by decide +kernel
theorem dX11_init_155 : decode cX11_init 155 = .ok (.invokespecial 81, 3) := by decide +kernel
theorem dX11_init_158 : decode cX11_init 158 = .ok (.putfield 82, 3) := by decide +kernel
theorem dX11_init_161 : decode cX11_init 161 = .ok (.aload_n 0, 1) := by decide +kernel
theorem dX11_init_162 : decode cX11_init 162 = .ok (.new 86, 3) := by decide +kernel
theorem dX11_init_165 : decode cX11_init 165 = .ok (.dup, 1) := by decide +kernel
theorem dX11_init_166 : decode cX11_init 166 = .ok (.aload_n 0, 1) := by decide +kernel
theorem dX11_init_167 : decode cX11_init 167 = .ok (.getfield 82, 3) := by decide +kernel
theorem dX11_init_170 : decode cX11_init 170 = .ok (.invokespecial 88, 3) := by decide +kernel
theorem dX11_init_173 : decode cX11_init 173 = .ok (.putfield 91, 3) := by decide +kernel
theorem dX11_init_176 : decode cX11_init 176 = .ok (.return_, 1) := by decide +kernel
theorem dX11_sign_0 : decode cX11_sign 0 = .ok (.aload_n 0, 1) := by decide +kernel
theorem dX11_sign_1 : decode cX11_sign 1 = .ok (.getfield 12, 3) := by decide +kernel
theorem dX11_sign_4 : decode cX11_sign 4 = .ok (.iload_n 1, 1) := by decide +kernel
theorem dX11_sign_5 : decode cX11_sign 5 = .ok (.invokevirtual 95, 3) := by decide +kernel
theorem dX11_sign_8 : decode cX11_sign 8 = .ok (.ifCond .eq 13, 3) := by decide +kernel
theorem dX11_sign_11 : decode cX11_sign 11 = .ok (.aload_n 0, 1) := by decide +kernel
theorem dX11_sign_12 : decode cX11_sign 12 = .ok (.getfield 12, 3) := by decide +kernel
theorem dX11_sign_15 : decode cX11_sign 15 = .ok (.getfield 99, 3) := by decide +kernel
theorem dX11_sign_18 : decode cX11_sign 18 = .ok (.goto 4, 3) := by decide +kernel
theorem dX11_sign_21 : decode cX11_sign 21 = .ok (.iconst (-1), 1) := by decide +kernel
theorem dX11_sign_22 : decode cX11_sign 22 = .ok (.ireturn, 1) := by decide +kernel
theorem dX11_end_0 : decode cX11_end 0 = .ok (.aload_n 0, 1) := by decide +kernel
theorem dX11_end_1 : decode cX11_end 1 = .ok (.getfield 12, 3) := by decide +kernel
theorem dX11_end_4 : decode cX11_end 4 = .ok (.iload_n 1, 1) := by decide +kernel
theorem dX11_end_5 : decode cX11_end 5 = .ok (.invokevirtual 103, 3) := by decide +kernel
theorem dX11_end_8 : decode cX11_end 8 = .ok (.ireturn, 1) := by decide +kernel
theorem dX11_roads_0 : decode cX11_roads 0 = .ok (.aload_n 0, 1) := by decide +kernel
theorem dX11_roads_1 : decode cX11_roads 1 = .ok (.getfield 35, 3) := by decide +kernel
theorem dX11_roads_4 : decode cX11_roads 4 = .ok (.invokevirtual 106, 3) := by decide +kernel
theorem dX11_roads_7 : decode cX11_roads 7 = .ok (.istore_n 1, 1) := by decide +kernel
theorem dX11_roads_8 : decode cX11_roads 8 = .ok (.aload_n 0, 1) := by decide +kernel
theorem dX11_roads_9 : decode cX11_roads 9 = .ok (.getfield 12, 3) := by decide +kernel
theorem dX11_roads_12 : decode cX11_roads 12 = .ok (.invokevirtual 110, 3) := by decide +kernel
theorem dX11_roads_15 : decode cX11_roads 15 = .ok (.iload_n 1, 1) := by decide +kernel
theorem dX11_roads_16 : decode cX11_roads 16 = .ok (.ireturn, 1) := by decide +kernel
theorem dX11_rule_0 : decode cX11_rule 0 = .ok (.aload_n 0, 1) := by decide +kernel
theorem dX11_rule_1 : decode cX11_rule 1 = .ok (.getfield 51, 3) := by decide +kernel
theorem dX11_rule_4 : decode cX11_rule 4 = .ok (.invokevirtual 113, 3) := by decide +kernel
theorem dX11_rule_7 : decode cX11_rule 7 = .ok (.istore_n 1, 1) := by decide +kernel
theorem dX11_rule_8 : decode cX11_rule 8 = .ok (.aload_n 0, 1) := by decide +kernel
theorem dX11_rule_9 : decode cX11_rule 9 = .ok (.getfield 12, 3) := by decide +kernel
theorem dX11_rule_12 : decode cX11_rule 12 = .ok (.invokevirtual 110, 3) := by decide +kernel
theorem dX11_rule_15 : decode cX11_rule 15 = .ok (.iload_n 1, 1) := by decide +kernel
theorem dX11_rule_16 : decode cX11_rule 16 = .ok (.ireturn, 1) := by decide +kernel
theorem dX11_reads_0 : decode cX11_reads 0 = .ok (.aload_n 0, 1) := by decide +kernel
theorem dX11_reads_1 : decode cX11_reads 1 = .ok (.getfield 26, 3) := by decide +kernel
theorem dX11_reads_4 : decode cX11_reads 4 = .ok (.iload_n 1, 1) := by decide +kernel
theorem dX11_reads_5 : decode cX11_reads 5 = .ok (.invokevirtual 114, 3) := by decide +kernel
theorem dX11_reads_8 : decode cX11_reads 8 = .ok (.ifCond .eq 15, 3) := by decide +kernel
theorem dX11_reads_11 : decode cX11_reads 11 = .ok (.aload_n 0, 1) := by decide +kernel
theorem dX11_reads_12 : decode cX11_reads 12 = .ok (.getfield 26, 3) := by decide +kernel
theorem dX11_reads_15 : decode cX11_reads 15 = .ok (.getfield 117, 3) := by decide +kernel
theorem dX11_reads_18 : decode cX11_reads 18 = .ok (.iload_n 1, 1) := by decide +kernel
theorem dX11_reads_19 : decode cX11_reads 19 = .ok (.iaload, 1) := by decide +kernel
theorem dX11_reads_20 : decode cX11_reads 20 = .ok (.goto 4, 3) := by decide +kernel
theorem dX11_reads_23 : decode cX11_reads 23 = .ok (.iconst (-1), 1) := by decide +kernel
theorem dX11_reads_24 : decode cX11_reads 24 = .ok (.ireturn, 1) := by decide +kernel
theorem dX11_meeting_0 : decode cX11_meeting 0 = .ok (.aload_n 0, 1) := by decide +kernel
theorem dX11_meeting_1 : decode cX11_meeting 1 = .ok (.getfield 26, 3) := by decide +kernel
theorem dX11_meeting_4 : decode cX11_meeting 4 = .ok (.iload_n 1, 1) := by decide +kernel
theorem dX11_meeting_5 : decode cX11_meeting 5 = .ok (.invokevirtual 121, 3) := by decide +kernel
theorem dX11_meeting_8 : decode cX11_meeting 8 = .ok (.ifCond .ne 13, 3) := by decide +kernel
theorem dX11_meeting_11 : decode cX11_meeting 11 = .ok (.new 124, 3) := by decide +kernel
theorem dX11_meeting_14 : decode cX11_meeting 14 = .ok (.dup, 1) := by decide +kernel
theorem dX11_meeting_15 : decode cX11_meeting 15 = .ok (.ldc 126, 2) := by decide +kernel
theorem dX11_meeting_17 : decode cX11_meeting 17 = .ok (.invokespecial 128, 3) := by decide +kernel
theorem dX11_meeting_20 : decode cX11_meeting 20 = .ok (.athrow, 1) := by decide +kernel
theorem dX11_meeting_21 : decode cX11_meeting 21 = .ok (.iload_n 2, 1) := by decide +kernel
theorem dX11_meeting_22 : decode cX11_meeting 22 = .ok (.tableswitch 70 0 3 #[30, 40, 50, 60], 30) := by decide +kernel
theorem dX11_meeting_52 : decode cX11_meeting 52 = .ok (.aload_n 0, 1) := by decide +kernel
theorem dX11_meeting_53 : decode cX11_meeting 53 = .ok (.getfield 26, 3) := by decide +kernel
theorem dX11_meeting_56 : decode cX11_meeting 56 = .ok (.getfield 131, 3) := by decide +kernel
theorem dX11_meeting_59 : decode cX11_meeting 59 = .ok (.iload_n 1, 1) := by decide +kernel
theorem dX11_meeting_60 : decode cX11_meeting 60 = .ok (.iaload, 1) := by decide +kernel
theorem dX11_meeting_61 : decode cX11_meeting 61 = .ok (.ireturn, 1) := by decide +kernel
theorem dX11_meeting_62 : decode cX11_meeting 62 = .ok (.aload_n 0, 1) := by decide +kernel
theorem dX11_meeting_63 : decode cX11_meeting 63 = .ok (.getfield 26, 3) := by decide +kernel
theorem dX11_meeting_66 : decode cX11_meeting 66 = .ok (.getfield 134, 3) := by decide +kernel
theorem dX11_meeting_69 : decode cX11_meeting 69 = .ok (.iload_n 1, 1) := by decide +kernel
theorem dX11_meeting_70 : decode cX11_meeting 70 = .ok (.iaload, 1) := by decide +kernel
theorem dX11_meeting_71 : decode cX11_meeting 71 = .ok (.ireturn, 1) := by decide +kernel
theorem dX11_meeting_72 : decode cX11_meeting 72 = .ok (.aload_n 0, 1) := by decide +kernel
theorem dX11_meeting_73 : decode cX11_meeting 73 = .ok (.getfield 26, 3) := by decide +kernel
theorem dX11_meeting_76 : decode cX11_meeting 76 = .ok (.getfield 137, 3) := by decide +kernel
theorem dX11_meeting_79 : decode cX11_meeting 79 = .ok (.iload_n 1, 1) := by decide +kernel
theorem dX11_meeting_80 : decode cX11_meeting 80 = .ok (.iaload, 1) := by decide +kernel
theorem dX11_meeting_81 : decode cX11_meeting 81 = .ok (.ireturn, 1) := by decide +kernel
theorem dX11_meeting_82 : decode cX11_meeting 82 = .ok (.aload_n 0, 1) := by decide +kernel
theorem dX11_meeting_83 : decode cX11_meeting 83 = .ok (.getfield 26, 3) := by decide +kernel
theorem dX11_meeting_86 : decode cX11_meeting 86 = .ok (.getfield 140, 3) := by decide +kernel
theorem dX11_meeting_89 : decode cX11_meeting 89 = .ok (.iload_n 1, 1) := by decide +kernel
theorem dX11_meeting_90 : decode cX11_meeting 90 = .ok (.iaload, 1) := by decide +kernel
theorem dX11_meeting_91 : decode cX11_meeting 91 = .ok (.ireturn, 1) := by decide +kernel
theorem dX11_meeting_92 : decode cX11_meeting 92 = .ok (.new 124, 3) := by decide +kernel
theorem dX11_meeting_95 : decode cX11_meeting 95 = .ok (.dup, 1) := by decide +kernel
theorem dX11_meeting_96 : decode cX11_meeting 96 = .ok (.ldc 143, 2) := by decide +kernel
theorem dX11_meeting_98 : decode cX11_meeting 98 = .ok (.invokespecial 128, 3) := by decide +kernel
theorem dX11_meeting_101 : decode cX11_meeting 101 = .ok (.athrow, 1) := by decide +kernel
theorem dX11_slow_0 : decode cX11_slow 0 = .ok (.aload_n 0, 1) := by decide +kernel
theorem dX11_slow_1 : decode cX11_slow 1 = .ok (.getfield 26, 3) := by decide +kernel
theorem dX11_slow_4 : decode cX11_slow 4 = .ok (.iload_n 1, 1) := by decide +kernel
theorem dX11_slow_5 : decode cX11_slow 5 = .ok (.invokevirtual 114, 3) := by decide +kernel
theorem dX11_slow_8 : decode cX11_slow 8 = .ok (.ifCond .eq 14, 3) := by decide +kernel
theorem dX11_slow_11 : decode cX11_slow 11 = .ok (.iload_n 2, 1) := by decide +kernel
theorem dX11_slow_12 : decode cX11_slow 12 = .ok (.iconst 1, 1) := by decide +kernel
theorem dX11_slow_13 : decode cX11_slow 13 = .ok (.if_icmp .lt 9, 3) := by decide +kernel
theorem dX11_slow_16 : decode cX11_slow 16 = .ok (.iload_n 2, 1) := by decide +kernel
theorem dX11_slow_17 : decode cX11_slow 17 = .ok (.bipush 9, 2) := by decide +kernel
theorem dX11_slow_19 : decode cX11_slow 19 = .ok (.if_icmp .le 5, 3) := by decide +kernel
theorem dX11_slow_22 : decode cX11_slow 22 = .ok (.iconst (-1), 1) := by decide +kernel
theorem dX11_slow_23 : decode cX11_slow 23 = .ok (.ireturn, 1) := by decide +kernel
theorem dX11_slow_24 : decode cX11_slow 24 = .ok (.aload_n 0, 1) := by decide +kernel
theorem dX11_slow_25 : decode cX11_slow 25 = .ok (.getfield 26, 3) := by decide +kernel
theorem dX11_slow_28 : decode cX11_slow 28 = .ok (.getfield 117, 3) := by decide +kernel
theorem dX11_slow_31 : decode cX11_slow 31 = .ok (.iload_n 1, 1) := by decide +kernel
theorem dX11_slow_32 : decode cX11_slow 32 = .ok (.iaload, 1) := by decide +kernel
theorem dX11_slow_33 : decode cX11_slow 33 = .ok (.istore_n 3, 1) := by decide +kernel
theorem dX11_slow_34 : decode cX11_slow 34 = .ok (.aload_n 0, 1) := by decide +kernel
theorem dX11_slow_35 : decode cX11_slow 35 = .ok (.getfield 26, 3) := by decide +kernel
theorem dX11_slow_38 : decode cX11_slow 38 = .ok (.getfield 117, 3) := by decide +kernel
theorem dX11_slow_41 : decode cX11_slow 41 = .ok (.iload_n 1, 1) := by decide +kernel
theorem dX11_slow_42 : decode cX11_slow 42 = .ok (.iload_n 2, 1) := by decide +kernel
theorem dX11_slow_43 : decode cX11_slow 43 = .ok (.iastore, 1) := by decide +kernel
theorem dX11_slow_44 : decode cX11_slow 44 = .ok (.iload_n 3, 1) := by decide +kernel
theorem dX11_slow_45 : decode cX11_slow 45 = .ok (.ireturn, 1) := by decide +kernel
theorem dX11_move_0 : decode cX11_move 0 = .ok (.aload_n 0, 1) := by decide +kernel
theorem dX11_move_1 : decode cX11_move 1 = .ok (.getfield 26, 3) := by decide +kernel
theorem dX11_move_4 : decode cX11_move 4 = .ok (.iload_n 1, 1) := by decide +kernel
theorem dX11_move_5 : decode cX11_move 5 = .ok (.invokevirtual 121, 3) := by decide +kernel
theorem dX11_move_8 : decode cX11_move 8 = .ok (.ifCond .ne 5, 3) := by decide +kernel
theorem dX11_move_11 : decode cX11_move 11 = .ok (.iconst (-1), 1) := by decide +kernel
theorem dX11_move_12 : decode cX11_move 12 = .ok (.ireturn, 1) := by decide +kernel
theorem dX11_move_13 : decode cX11_move 13 = .ok (.iload_n 2, 1) := by decide +kernel
theorem dX11_move_14 : decode cX11_move 14 = .ok (.ifCond .ne 20, 3) := by decide +kernel
theorem dX11_move_17 : decode cX11_move 17 = .ok (.iload_n 3, 1) := by decide +kernel
theorem dX11_move_18 : decode cX11_move 18 = .ok (.invokestatic 145, 3) := by decide +kernel
theorem dX11_move_21 : decode cX11_move 21 = .ok (.ifCond .eq 13, 3) := by decide +kernel
theorem dX11_move_24 : decode cX11_move 24 = .ok (.aload_n 0, 1) := by decide +kernel
theorem dX11_move_25 : decode cX11_move 25 = .ok (.getfield 26, 3) := by decide +kernel
theorem dX11_move_28 : decode cX11_move 28 = .ok (.iload_n 1, 1) := by decide +kernel
theorem dX11_move_29 : decode cX11_move 29 = .ok (.iload_n 3, 1) := by decide +kernel
theorem dX11_move_30 : decode cX11_move 30 = .ok (.invokevirtual 148, 3) := by decide +kernel
theorem dX11_move_33 : decode cX11_move 33 = .ok (.ireturn, 1) := by decide +kernel
theorem dX11_move_34 : decode cX11_move 34 = .ok (.iload_n 2, 1) := by decide +kernel
theorem dX11_move_35 : decode cX11_move 35 = .ok (.iconst 1, 1) := by decide +kernel
theorem dX11_move_36 : decode cX11_move 36 = .ok (.if_icmp .ne 37, 3) := by decide +kernel
theorem dX11_move_39 : decode cX11_move 39 = .ok (.iload_n 3, 1) := by decide +kernel
theorem dX11_move_40 : decode cX11_move 40 = .ok (.ifCond .lt 33, 3) := by decide +kernel
theorem dX11_move_43 : decode cX11_move 43 = .ok (.iload_n 3, 1) := by decide +kernel
theorem dX11_move_44 : decode cX11_move 44 = .ok (.bipush 9, 2) := by decide +kernel
theorem dX11_move_46 : decode cX11_move 46 = .ok (.if_icmp .gt 27, 3) := by decide +kernel
theorem dX11_move_49 : decode cX11_move 49 = .ok (.aload_n 0, 1) := by decide +kernel
theorem dX11_move_50 : decode cX11_move 50 = .ok (.getfield 26, 3) := by decide +kernel
theorem dX11_move_53 : decode cX11_move 53 = .ok (.getfield 140, 3) := by decide +kernel
theorem dX11_move_56 : decode cX11_move 56 = .ok (.iload_n 1, 1) := by decide +kernel
theorem dX11_move_57 : decode cX11_move 57 = .ok (.iaload, 1) := by decide +kernel
theorem dX11_move_58 : decode cX11_move 58 = .ok (.istore 4, 2) := by decide +kernel
theorem dX11_move_60 : decode cX11_move 60 = .ok (.aload_n 0, 1) := by decide +kernel
theorem dX11_move_61 : decode cX11_move 61 = .ok (.getfield 26, 3) := by decide +kernel
theorem dX11_move_64 : decode cX11_move 64 = .ok (.getfield 140, 3) := by decide +kernel
theorem dX11_move_67 : decode cX11_move 67 = .ok (.iload_n 1, 1) := by decide +kernel
theorem dX11_move_68 : decode cX11_move 68 = .ok (.iload_n 3, 1) := by decide +kernel
theorem dX11_move_69 : decode cX11_move 69 = .ok (.iastore, 1) := by decide +kernel
theorem dX11_move_70 : decode cX11_move 70 = .ok (.iload 4, 2) := by decide +kernel
theorem dX11_move_72 : decode cX11_move 72 = .ok (.ireturn, 1) := by decide +kernel
theorem dX11_move_73 : decode cX11_move 73 = .ok (.iconst (-1), 1) := by decide +kernel
theorem dX11_move_74 : decode cX11_move 74 = .ok (.ireturn, 1) := by decide +kernel
theorem dX11_sheet_0 : decode cX11_sheet 0 = .ok (.iload_n 1, 1) := by decide +kernel
theorem dX11_sheet_1 : decode cX11_sheet 1 = .ok (.ifCond .lt 14, 3) := by decide +kernel
theorem dX11_sheet_4 : decode cX11_sheet 4 = .ok (.iload_n 1, 1) := by decide +kernel
theorem dX11_sheet_5 : decode cX11_sheet 5 = .ok (.iconst 3, 1) := by decide +kernel
theorem dX11_sheet_6 : decode cX11_sheet 6 = .ok (.if_icmp .gt 9, 3) := by decide +kernel
theorem dX11_sheet_9 : decode cX11_sheet 9 = .ok (.iload_n 2, 1) := by decide +kernel
theorem dX11_sheet_10 : decode cX11_sheet 10 = .ok (.bipush 20, 2) := by decide +kernel
theorem dX11_sheet_12 : decode cX11_sheet 12 = .ok (.if_icmp .le 5, 3) := by decide +kernel
theorem dX11_sheet_15 : decode cX11_sheet 15 = .ok (.iconst (-1), 1) := by decide +kernel
theorem dX11_sheet_16 : decode cX11_sheet 16 = .ok (.ireturn, 1) := by decide +kernel
theorem dX11_sheet_17 : decode cX11_sheet 17 = .ok (.iload_n 1, 1) := by decide +kernel
theorem dX11_sheet_18 : decode cX11_sheet 18 = .ok (.iconst 3, 1) := by decide +kernel
theorem dX11_sheet_19 : decode cX11_sheet 19 = .ok (.if_icmp .ne 18, 3) := by decide +kernel
theorem dX11_sheet_22 : decode cX11_sheet 22 = .ok (.aload_n 0, 1) := by decide +kernel
theorem dX11_sheet_23 : decode cX11_sheet 23 = .ok (.getfield 26, 3) := by decide +kernel
theorem dX11_sheet_26 : decode cX11_sheet 26 = .ok (.iload_n 1, 1) := by decide +kernel
theorem dX11_sheet_27 : decode cX11_sheet 27 = .ok (.iconst 0, 1) := by decide +kernel
theorem dX11_sheet_28 : decode cX11_sheet 28 = .ok (.iconst 0, 1) := by decide +kernel
theorem dX11_sheet_29 : decode cX11_sheet 29 = .ok (.iconst 0, 1) := by decide +kernel
theorem dX11_sheet_30 : decode cX11_sheet 30 = .ok (.invokevirtual 152, 3) := by decide +kernel
theorem dX11_sheet_33 : decode cX11_sheet 33 = .ok (.pop, 1) := by decide +kernel
theorem dX11_sheet_34 : decode cX11_sheet 34 = .ok (.bipush (-3), 2) := by decide +kernel
theorem dX11_sheet_36 : decode cX11_sheet 36 = .ok (.ireturn, 1) := by decide +kernel
theorem dX11_sheet_37 : decode cX11_sheet 37 = .ok (.iload_n 2, 1) := by decide +kernel
theorem dX11_sheet_38 : decode cX11_sheet 38 = .ok (.ifCond .ge 6, 3) := by decide +kernel
theorem dX11_sheet_41 : decode cX11_sheet 41 = .ok (.bipush (-2), 2) := by decide +kernel
theorem dX11_sheet_43 : decode cX11_sheet 43 = .ok (.ireturn, 1) := by decide +kernel
theorem dX11_sheet_44 : decode cX11_sheet 44 = .ok (.aload_n 0, 1) := by decide +kernel
theorem dX11_sheet_45 : decode cX11_sheet 45 = .ok (.getfield 26, 3) := by decide +kernel
theorem dX11_sheet_48 : decode cX11_sheet 48 = .ok (.iload_n 1, 1) := by decide +kernel
theorem dX11_sheet_49 : decode cX11_sheet 49 = .ok (.iload_n 2, 1) := by decide +kernel
theorem dX11_sheet_50 : decode cX11_sheet 50 = .ok (.iload_n 3, 1) := by decide +kernel
theorem dX11_sheet_51 : decode cX11_sheet 51 = .ok (.iload 4, 2) := by decide +kernel
theorem dX11_sheet_53 : decode cX11_sheet 53 = .ok (.invokevirtual 152, 3) := by decide +kernel
theorem dX11_sheet_56 : decode cX11_sheet 56 = .ok (.ireturn, 1) := by decide +kernel
theorem dX11_write_0 : decode cX11_write 0 = .ok (.iload_n 1, 1) := by decide +kernel
theorem dX11_write_1 : decode cX11_write 1 = .ok (.ifCond .lt 19, 3) := by decide +kernel
theorem dX11_write_4 : decode cX11_write 4 = .ok (.iload_n 1, 1) := by decide +kernel
theorem dX11_write_5 : decode cX11_write 5 = .ok (.iconst 3, 1) := by decide +kernel
theorem dX11_write_6 : decode cX11_write 6 = .ok (.if_icmp .ge 14, 3) := by decide +kernel
theorem dX11_write_9 : decode cX11_write 9 = .ok (.aload_n 0, 1) := by decide +kernel
theorem dX11_write_10 : decode cX11_write 10 = .ok (.getfield 26, 3) := by decide +kernel
theorem dX11_write_13 : decode cX11_write 13 = .ok (.iload_n 2, 1) := by decide +kernel
theorem dX11_write_14 : decode cX11_write 14 = .ok (.invokevirtual 114, 3) := by decide +kernel
theorem dX11_write_17 : decode cX11_write 17 = .ok (.ifCond .ne 5, 3) := by decide +kernel
theorem dX11_write_20 : decode cX11_write 20 = .ok (.iconst 0, 1) := by decide +kernel
theorem dX11_write_21 : decode cX11_write 21 = .ok (.ireturn, 1) := by decide +kernel
theorem dX11_write_22 : decode cX11_write 22 = .ok (.iload_n 3, 1) := by decide +kernel
theorem dX11_write_23 : decode cX11_write 23 = .ok (.invokestatic 145, 3) := by decide +kernel
theorem dX11_write_26 : decode cX11_write 26 = .ok (.ifCond .eq 15, 3) := by decide +kernel
theorem dX11_write_29 : decode cX11_write 29 = .ok (.iload 4, 2) := by decide +kernel
theorem dX11_write_31 : decode cX11_write 31 = .ok (.ifCond .lt 10, 3) := by decide +kernel
theorem dX11_write_34 : decode cX11_write 34 = .ok (.iload 4, 2) := by decide +kernel
theorem dX11_write_36 : decode cX11_write 36 = .ok (.bipush 9, 2) := by decide +kernel
theorem dX11_write_38 : decode cX11_write 38 = .ok (.if_icmp .le 5, 3) := by decide +kernel
theorem dX11_write_41 : decode cX11_write 41 = .ok (.iconst 0, 1) := by decide +kernel
theorem dX11_write_42 : decode cX11_write 42 = .ok (.ireturn, 1) := by decide +kernel
theorem dX11_write_43 : decode cX11_write 43 = .ok (.aload_n 0, 1) := by decide +kernel
theorem dX11_write_44 : decode cX11_write 44 = .ok (.getfield 60, 3) := by decide +kernel
theorem dX11_write_47 : decode cX11_write 47 = .ok (.getfield 156, 3) := by decide +kernel
theorem dX11_write_50 : decode cX11_write 50 = .ok (.iload_n 1, 1) := by decide +kernel
theorem dX11_write_51 : decode cX11_write 51 = .ok (.iload_n 2, 1) := by decide +kernel
theorem dX11_write_52 : decode cX11_write 52 = .ok (.iload_n 3, 1) := by decide +kernel
theorem dX11_write_53 : decode cX11_write 53 = .ok (.iload 4, 2) := by decide +kernel
theorem dX11_write_55 : decode cX11_write 55 = .ok (.invokevirtual 160, 3) := by decide +kernel
theorem dX11_write_58 : decode cX11_write 58 = .ok (.iconst 1, 1) := by decide +kernel
theorem dX11_write_59 : decode cX11_write 59 = .ok (.ireturn, 1) := by decide +kernel
theorem dX11_hand_0 : decode cX11_hand 0 = .ok (.aload_n 0, 1) := by decide +kernel
theorem dX11_hand_1 : decode cX11_hand 1 = .ok (.getfield 60, 3) := by decide +kernel
theorem dX11_hand_4 : decode cX11_hand 4 = .ok (.getfield 156, 3) := by decide +kernel
theorem dX11_hand_7 : decode cX11_hand 7 = .ok (.iload_n 1, 1) := by decide +kernel
theorem dX11_hand_8 : decode cX11_hand 8 = .ok (.invokevirtual 166, 3) := by decide +kernel
theorem dX11_hand_11 : decode cX11_hand 11 = .ok (.ifCond .eq 14, 3) := by decide +kernel
theorem dX11_hand_14 : decode cX11_hand 14 = .ok (.aload_n 0, 1) := by decide +kernel
theorem dX11_hand_15 : decode cX11_hand 15 = .ok (.getfield 26, 3) := by decide +kernel
theorem dX11_hand_18 : decode cX11_hand 18 = .ok (.iload_n 2, 1) := by decide +kernel
theorem dX11_hand_19 : decode cX11_hand 19 = .ok (.invokevirtual 121, 3) := by decide +kernel
theorem dX11_hand_22 : decode cX11_hand 22 = .ok (.ifCond .ne 5, 3) := by decide +kernel
theorem dX11_hand_25 : decode cX11_hand 25 = .ok (.iconst (-1), 1) := by decide +kernel
theorem dX11_hand_26 : decode cX11_hand 26 = .ok (.ireturn, 1) := by decide +kernel
theorem dX11_hand_27 : decode cX11_hand 27 = .ok (.aload_n 0, 1) := by decide +kernel
theorem dX11_hand_28 : decode cX11_hand 28 = .ok (.getfield 60, 3) := by decide +kernel
theorem dX11_hand_31 : decode cX11_hand 31 = .ok (.iload_n 1, 1) := by decide +kernel
theorem dX11_hand_32 : decode cX11_hand 32 = .ok (.iload_n 2, 1) := by decide +kernel
theorem dX11_hand_33 : decode cX11_hand 33 = .ok (.invokevirtual 169, 3) := by decide +kernel
theorem dX11_hand_36 : decode cX11_hand 36 = .ok (.ireturn, 1) := by decide +kernel
theorem dX11_undo_0 : decode cX11_undo 0 = .ok (.aload_n 0, 1) := by decide +kernel
theorem dX11_undo_1 : decode cX11_undo 1 = .ok (.getfield 60, 3) := by decide +kernel
theorem dX11_undo_4 : decode cX11_undo 4 = .ok (.getfield 156, 3) := by decide +kernel
theorem dX11_undo_7 : decode cX11_undo 7 = .ok (.iload_n 1, 1) := by decide +kernel
theorem dX11_undo_8 : decode cX11_undo 8 = .ok (.invokevirtual 166, 3) := by decide +kernel
theorem dX11_undo_11 : decode cX11_undo 11 = .ok (.ifCond .eq 17, 3) := by decide +kernel
theorem dX11_undo_14 : decode cX11_undo 14 = .ok (.aload_n 0, 1) := by decide +kernel
theorem dX11_undo_15 : decode cX11_undo 15 = .ok (.getfield 60, 3) := by decide +kernel
theorem dX11_undo_18 : decode cX11_undo 18 = .ok (.getfield 156, 3) := by decide +kernel
theorem dX11_undo_21 : decode cX11_undo 21 = .ok (.iload_n 1, 1) := by decide +kernel
theorem dX11_undo_22 : decode cX11_undo 22 = .ok (.invokevirtual 172, 3) := by decide +kernel
theorem dX11_undo_25 : decode cX11_undo 25 = .ok (.goto 4, 3) := by decide +kernel
theorem dX11_undo_28 : decode cX11_undo 28 = .ok (.iconst (-1), 1) := by decide +kernel
theorem dX11_undo_29 : decode cX11_undo 29 = .ok (.ireturn, 1) := by decide +kernel
theorem dX11_lines_0 : decode cX11_lines 0 = .ok (.aload_n 0, 1) := by decide +kernel
theorem dX11_lines_1 : decode cX11_lines 1 = .ok (.getfield 60, 3) := by decide +kernel
theorem dX11_lines_4 : decode cX11_lines 4 = .ok (.getfield 156, 3) := by decide +kernel
theorem dX11_lines_7 : decode cX11_lines 7 = .ok (.iload_n 1, 1) := by decide +kernel
theorem dX11_lines_8 : decode cX11_lines 8 = .ok (.invokevirtual 166, 3) := by decide +kernel
theorem dX11_lines_11 : decode cX11_lines 11 = .ok (.ifCond .ne 5, 3) := by decide +kernel
theorem dX11_lines_14 : decode cX11_lines 14 = .ok (.iconst (-1), 1) := by decide +kernel
theorem dX11_lines_15 : decode cX11_lines 15 = .ok (.ireturn, 1) := by decide +kernel
theorem dX11_lines_16 : decode cX11_lines 16 = .ok (.aload_n 0, 1) := by decide +kernel
theorem dX11_lines_17 : decode cX11_lines 17 = .ok (.getfield 19, 3) := by decide +kernel
theorem dX11_lines_20 : decode cX11_lines 20 = .ok (.invokevirtual 176, 3) := by decide +kernel
theorem dX11_lines_23 : decode cX11_lines 23 = .ok (.iconst 0, 1) := by decide +kernel
theorem dX11_lines_24 : decode cX11_lines 24 = .ok (.istore_n 2, 1) := by decide +kernel
theorem dX11_lines_25 : decode cX11_lines 25 = .ok (.iload_n 2, 1) := by decide +kernel
theorem dX11_lines_26 : decode cX11_lines 26 = .ok (.aload_n 0, 1) := by decide +kernel
theorem dX11_lines_27 : decode cX11_lines 27 = .ok (.getfield 60, 3) := by decide +kernel
theorem dX11_lines_30 : decode cX11_lines 30 = .ok (.getfield 156, 3) := by decide +kernel
theorem dX11_lines_33 : decode cX11_lines 33 = .ok (.getfield 177, 3) := by decide +kernel
theorem dX11_lines_36 : decode cX11_lines 36 = .ok (.iload_n 1, 1) := by decide +kernel
theorem dX11_lines_37 : decode cX11_lines 37 = .ok (.iaload, 1) := by decide +kernel
theorem dX11_lines_38 : decode cX11_lines 38 = .ok (.if_icmp .ge 28, 3) := by decide +kernel
theorem dX11_lines_41 : decode cX11_lines 41 = .ok (.aload_n 0, 1) := by decide +kernel
theorem dX11_lines_42 : decode cX11_lines 42 = .ok (.getfield 19, 3) := by decide +kernel
theorem dX11_lines_45 : decode cX11_lines 45 = .ok (.aload_n 0, 1) := by decide +kernel
theorem dX11_lines_46 : decode cX11_lines 46 = .ok (.getfield 60, 3) := by decide +kernel
theorem dX11_lines_49 : decode cX11_lines 49 = .ok (.getfield 156, 3) := by decide +kernel
theorem dX11_lines_52 : decode cX11_lines 52 = .ok (.iload_n 1, 1) := by decide +kernel
theorem dX11_lines_53 : decode cX11_lines 53 = .ok (.iload_n 2, 1) := by decide +kernel
theorem dX11_lines_54 : decode cX11_lines 54 = .ok (.invokevirtual 179, 3) := by decide +kernel
theorem dX11_lines_57 : decode cX11_lines 57 = .ok (.invokevirtual 182, 3) := by decide +kernel
theorem dX11_lines_60 : decode cX11_lines 60 = .ok (.iinc 2 1, 3) := by decide +kernel
theorem dX11_lines_63 : decode cX11_lines 63 = .ok (.goto (-38), 3) := by decide +kernel
theorem dX11_lines_66 : decode cX11_lines 66 = .ok (.aload_n 0, 1) := by decide +kernel
theorem dX11_lines_67 : decode cX11_lines 67 = .ok (.getfield 60, 3) := by decide +kernel
theorem dX11_lines_70 : decode cX11_lines 70 = .ok (.getfield 156, 3) := by decide +kernel
theorem dX11_lines_73 : decode cX11_lines 73 = .ok (.getfield 177, 3) := by decide +kernel
theorem dX11_lines_76 : decode cX11_lines 76 = .ok (.iload_n 1, 1) := by decide +kernel
theorem dX11_lines_77 : decode cX11_lines 77 = .ok (.iaload, 1) := by decide +kernel
theorem dX11_lines_78 : decode cX11_lines 78 = .ok (.ireturn, 1) := by decide +kernel
theorem dX11_of_0 : decode cX11_of 0 = .ok (.aload_n 0, 1) := by decide +kernel
theorem dX11_of_1 : decode cX11_of 1 = .ok (.getfield 60, 3) := by decide +kernel
theorem dX11_of_4 : decode cX11_of 4 = .ok (.getfield 156, 3) := by decide +kernel
theorem dX11_of_7 : decode cX11_of 7 = .ok (.iload_n 1, 1) := by decide +kernel
theorem dX11_of_8 : decode cX11_of 8 = .ok (.invokevirtual 166, 3) := by decide +kernel
theorem dX11_of_11 : decode cX11_of 11 = .ok (.ifCond .ne 5, 3) := by decide +kernel
theorem dX11_of_14 : decode cX11_of 14 = .ok (.iconst (-1), 1) := by decide +kernel
theorem dX11_of_15 : decode cX11_of 15 = .ok (.ireturn, 1) := by decide +kernel
theorem dX11_of_16 : decode cX11_of 16 = .ok (.aload_n 0, 1) := by decide +kernel
theorem dX11_of_17 : decode cX11_of 17 = .ok (.getfield 60, 3) := by decide +kernel
theorem dX11_of_20 : decode cX11_of 20 = .ok (.getfield 156, 3) := by decide +kernel
theorem dX11_of_23 : decode cX11_of 23 = .ok (.astore_n 3, 1) := by decide +kernel
theorem dX11_of_24 : decode cX11_of 24 = .ok (.aload_n 3, 1) := by decide +kernel
theorem dX11_of_25 : decode cX11_of 25 = .ok (.getfield 177, 3) := by decide +kernel
theorem dX11_of_28 : decode cX11_of 28 = .ok (.iload_n 1, 1) := by decide +kernel
theorem dX11_of_29 : decode cX11_of 29 = .ok (.iaload, 1) := by decide +kernel
theorem dX11_of_30 : decode cX11_of 30 = .ok (.iconst 1, 1) := by decide +kernel
theorem dX11_of_31 : decode cX11_of 31 = .ok (.isub, 1) := by decide +kernel
theorem dX11_of_32 : decode cX11_of 32 = .ok (.istore 4, 2) := by decide +kernel
theorem dX11_of_34 : decode cX11_of 34 = .ok (.iload_n 2, 1) := by decide +kernel
theorem dX11_of_35 : decode cX11_of 35 = .ok (.tableswitch 69 0 4 #[33, 40, 47, 55, 63], 33) := by decide +kernel
theorem dX11_of_68 : decode cX11_of 68 = .ok (.aload_n 3, 1) := by decide +kernel
theorem dX11_of_69 : decode cX11_of 69 = .ok (.iload_n 1, 1) := by decide +kernel
theorem dX11_of_70 : decode cX11_of 70 = .ok (.iconst 0, 1) := by decide +kernel
theorem dX11_of_71 : decode cX11_of 71 = .ok (.invokevirtual 186, 3) := by decide +kernel
theorem dX11_of_74 : decode cX11_of 74 = .ok (.ireturn, 1) := by decide +kernel
theorem dX11_of_75 : decode cX11_of 75 = .ok (.aload_n 3, 1) := by decide +kernel
theorem dX11_of_76 : decode cX11_of 76 = .ok (.iload_n 1, 1) := by decide +kernel
theorem dX11_of_77 : decode cX11_of 77 = .ok (.iconst 0, 1) := by decide +kernel
theorem dX11_of_78 : decode cX11_of 78 = .ok (.invokevirtual 189, 3) := by decide +kernel
theorem dX11_of_81 : decode cX11_of 81 = .ok (.ireturn, 1) := by decide +kernel
theorem dX11_of_82 : decode cX11_of 82 = .ok (.aload_n 3, 1) := by decide +kernel
theorem dX11_of_83 : decode cX11_of 83 = .ok (.iload_n 1, 1) := by decide +kernel
theorem dX11_of_84 : decode cX11_of 84 = .ok (.iload 4, 2) := by decide +kernel
theorem dX11_of_86 : decode cX11_of 86 = .ok (.invokevirtual 186, 3) := by decide +kernel
theorem dX11_of_89 : decode cX11_of 89 = .ok (.ireturn, 1) := by decide +kernel
theorem dX11_of_90 : decode cX11_of 90 = .ok (.aload_n 3, 1) := by decide +kernel
theorem dX11_of_91 : decode cX11_of 91 = .ok (.iload_n 1, 1) := by decide +kernel
theorem dX11_of_92 : decode cX11_of 92 = .ok (.iload 4, 2) := by decide +kernel
theorem dX11_of_94 : decode cX11_of 94 = .ok (.invokevirtual 189, 3) := by decide +kernel
theorem dX11_of_97 : decode cX11_of 97 = .ok (.ireturn, 1) := by decide +kernel
theorem dX11_of_98 : decode cX11_of 98 = .ok (.aload_n 3, 1) := by decide +kernel
theorem dX11_of_99 : decode cX11_of 99 = .ok (.iload_n 1, 1) := by decide +kernel
theorem dX11_of_100 : decode cX11_of 100 = .ok (.invokevirtual 192, 3) := by decide +kernel
theorem dX11_of_103 : decode cX11_of 103 = .ok (.ireturn, 1) := by decide +kernel
theorem dX11_of_104 : decode cX11_of 104 = .ok (.iconst (-1), 1) := by decide +kernel
theorem dX11_of_105 : decode cX11_of 105 = .ok (.ireturn, 1) := by decide +kernel
theorem dX11_can_0 : decode cX11_can 0 = .ok (.aload_n 0, 1) := by decide +kernel
theorem dX11_can_1 : decode cX11_can 1 = .ok (.getfield 60, 3) := by decide +kernel
theorem dX11_can_4 : decode cX11_can 4 = .ok (.getfield 156, 3) := by decide +kernel
theorem dX11_can_7 : decode cX11_can 7 = .ok (.iload_n 1, 1) := by decide +kernel
theorem dX11_can_8 : decode cX11_can 8 = .ok (.invokevirtual 166, 3) := by decide +kernel
theorem dX11_can_11 : decode cX11_can 11 = .ok (.ifCond .eq 14, 3) := by decide +kernel
theorem dX11_can_14 : decode cX11_can 14 = .ok (.aload_n 0, 1) := by decide +kernel
theorem dX11_can_15 : decode cX11_can 15 = .ok (.getfield 60, 3) := by decide +kernel
theorem dX11_can_18 : decode cX11_can 18 = .ok (.iload_n 1, 1) := by decide +kernel
theorem dX11_can_19 : decode cX11_can 19 = .ok (.invokevirtual 195, 3) := by decide +kernel
theorem dX11_can_22 : decode cX11_can 22 = .ok (.goto 4, 3) := by decide +kernel
theorem dX11_can_25 : decode cX11_can 25 = .ok (.iconst (-1), 1) := by decide +kernel
theorem dX11_can_26 : decode cX11_can 26 = .ok (.ireturn, 1) := by decide +kernel
theorem dX11_goes_0 : decode cX11_goes 0 = .ok (.aload_n 0, 1) := by decide +kernel
theorem dX11_goes_1 : decode cX11_goes 1 = .ok (.getfield 60, 3) := by decide +kernel
theorem dX11_goes_4 : decode cX11_goes 4 = .ok (.getfield 156, 3) := by decide +kernel
theorem dX11_goes_7 : decode cX11_goes 7 = .ok (.iload_n 1, 1) := by decide +kernel
theorem dX11_goes_8 : decode cX11_goes 8 = .ok (.invokevirtual 166, 3) := by decide +kernel
theorem dX11_goes_11 : decode cX11_goes 11 = .ok (.ifCond .eq 13, 3) := by decide +kernel
theorem dX11_goes_14 : decode cX11_goes 14 = .ok (.iload_n 2, 1) := by decide +kernel
theorem dX11_goes_15 : decode cX11_goes 15 = .ok (.ifCond .lt 9, 3) := by decide +kernel
theorem dX11_goes_18 : decode cX11_goes 18 = .ok (.iload_n 2, 1) := by decide +kernel
theorem dX11_goes_19 : decode cX11_goes 19 = .ok (.bipush 20, 2) := by decide +kernel
theorem dX11_goes_21 : decode cX11_goes 21 = .ok (.if_icmp .le 5, 3) := by decide +kernel
theorem dX11_goes_24 : decode cX11_goes 24 = .ok (.iconst (-1), 1) := by decide +kernel
theorem dX11_goes_25 : decode cX11_goes 25 = .ok (.ireturn, 1) := by decide +kernel
theorem dX11_goes_26 : decode cX11_goes 26 = .ok (.aload_n 0, 1) := by decide +kernel
theorem dX11_goes_27 : decode cX11_goes 27 = .ok (.getfield 60, 3) := by decide +kernel
theorem dX11_goes_30 : decode cX11_goes 30 = .ok (.iload_n 1, 1) := by decide +kernel
theorem dX11_goes_31 : decode cX11_goes 31 = .ok (.iload_n 2, 1) := by decide +kernel
theorem dX11_goes_32 : decode cX11_goes 32 = .ok (.invokevirtual 198, 3) := by decide +kernel
theorem dX11_goes_35 : decode cX11_goes 35 = .ok (.istore_n 3, 1) := by decide +kernel
theorem dX11_goes_36 : decode cX11_goes 36 = .ok (.aload_n 0, 1) := by decide +kernel
theorem dX11_goes_37 : decode cX11_goes 37 = .ok (.getfield 60, 3) := by decide +kernel
theorem dX11_goes_40 : decode cX11_goes 40 = .ok (.getfield 156, 3) := by decide +kernel
theorem dX11_goes_43 : decode cX11_goes 43 = .ok (.getfield 177, 3) := by decide +kernel
theorem dX11_goes_46 : decode cX11_goes 46 = .ok (.iload_n 1, 1) := by decide +kernel
theorem dX11_goes_47 : decode cX11_goes 47 = .ok (.iaload, 1) := by decide +kernel
theorem dX11_goes_48 : decode cX11_goes 48 = .ok (.iconst 1, 1) := by decide +kernel
theorem dX11_goes_49 : decode cX11_goes 49 = .ok (.isub, 1) := by decide +kernel
theorem dX11_goes_50 : decode cX11_goes 50 = .ok (.istore 4, 2) := by decide +kernel
theorem dX11_goes_52 : decode cX11_goes 52 = .ok (.aload_n 0, 1) := by decide +kernel
theorem dX11_goes_53 : decode cX11_goes 53 = .ok (.getfield 19, 3) := by decide +kernel
theorem dX11_goes_56 : decode cX11_goes 56 = .ok (.invokevirtual 176, 3) := by decide +kernel
theorem dX11_goes_59 : decode cX11_goes 59 = .ok (.aload_n 0, 1) := by decide +kernel
theorem dX11_goes_60 : decode cX11_goes 60 = .ok (.getfield 19, 3) := by decide +kernel
theorem dX11_goes_63 : decode cX11_goes 63 = .ok (.aload_n 0, 1) := by decide +kernel
theorem dX11_goes_64 : decode cX11_goes 64 = .ok (.getfield 60, 3) := by decide +kernel
theorem dX11_goes_67 : decode cX11_goes 67 = .ok (.getfield 156, 3) := by decide +kernel
theorem dX11_goes_70 : decode cX11_goes 70 = .ok (.iload_n 1, 1) := by decide +kernel
theorem dX11_goes_71 : decode cX11_goes 71 = .ok (.iload 4, 2) := by decide +kernel
theorem dX11_goes_73 : decode cX11_goes 73 = .ok (.invokevirtual 186, 3) := by decide +kernel
theorem dX11_goes_76 : decode cX11_goes 76 = .ok (.invokevirtual 182, 3) := by decide +kernel
theorem dX11_goes_79 : decode cX11_goes 79 = .ok (.aload_n 0, 1) := by decide +kernel
theorem dX11_goes_80 : decode cX11_goes 80 = .ok (.getfield 19, 3) := by decide +kernel
theorem dX11_goes_83 : decode cX11_goes 83 = .ok (.aload_n 0, 1) := by decide +kernel
theorem dX11_goes_84 : decode cX11_goes 84 = .ok (.getfield 60, 3) := by decide +kernel
theorem dX11_goes_87 : decode cX11_goes 87 = .ok (.getfield 156, 3) := by decide +kernel
theorem dX11_goes_90 : decode cX11_goes 90 = .ok (.iload_n 1, 1) := by decide +kernel
theorem dX11_goes_91 : decode cX11_goes 91 = .ok (.iload 4, 2) := by decide +kernel
theorem dX11_goes_93 : decode cX11_goes 93 = .ok (.invokevirtual 189, 3) := by decide +kernel
theorem dX11_goes_96 : decode cX11_goes 96 = .ok (.invokevirtual 182, 3) := by decide +kernel
theorem dX11_goes_99 : decode cX11_goes 99 = .ok (.iload_n 3, 1) := by decide +kernel
theorem dX11_goes_100 : decode cX11_goes 100 = .ok (.ireturn, 1) := by decide +kernel
theorem dX11_read_0 : decode cX11_read 0 = .ok (.aload_n 0, 1) := by decide +kernel
theorem dX11_read_1 : decode cX11_read 1 = .ok (.getfield 26, 3) := by decide +kernel
theorem dX11_read_4 : decode cX11_read 4 = .ok (.iload_n 1, 1) := by decide +kernel
theorem dX11_read_5 : decode cX11_read 5 = .ok (.invokevirtual 114, 3) := by decide +kernel
theorem dX11_read_8 : decode cX11_read 8 = .ok (.ifCond .ne 5, 3) := by decide +kernel
theorem dX11_read_11 : decode cX11_read 11 = .ok (.iconst (-1), 1) := by decide +kernel
theorem dX11_read_12 : decode cX11_read 12 = .ok (.ireturn, 1) := by decide +kernel
theorem dX11_read_13 : decode cX11_read 13 = .ok (.iconst 0, 1) := by decide +kernel
theorem dX11_read_14 : decode cX11_read 14 = .ok (.istore_n 2, 1) := by decide +kernel
theorem dX11_read_15 : decode cX11_read 15 = .ok (.iconst 0, 1) := by decide +kernel
theorem dX11_read_16 : decode cX11_read 16 = .ok (.istore_n 3, 1) := by decide +kernel
theorem dX11_read_17 : decode cX11_read 17 = .ok (.iload_n 3, 1) := by decide +kernel
theorem dX11_read_18 : decode cX11_read 18 = .ok (.iconst 3, 1) := by decide +kernel
theorem dX11_read_19 : decode cX11_read 19 = .ok (.if_icmp .ge 33, 3) := by decide +kernel
theorem dX11_read_22 : decode cX11_read 22 = .ok (.aload_n 0, 1) := by decide +kernel
theorem dX11_read_23 : decode cX11_read 23 = .ok (.getfield 60, 3) := by decide +kernel
theorem dX11_read_26 : decode cX11_read 26 = .ok (.getfield 156, 3) := by decide +kernel
theorem dX11_read_29 : decode cX11_read 29 = .ok (.iload_n 3, 1) := by decide +kernel
theorem dX11_read_30 : decode cX11_read 30 = .ok (.invokevirtual 192, 3) := by decide +kernel
theorem dX11_read_33 : decode cX11_read 33 = .ok (.iconst 1, 1) := by decide +kernel
theorem dX11_read_34 : decode cX11_read 34 = .ok (.iload_n 1, 1) := by decide +kernel
theorem dX11_read_35 : decode cX11_read 35 = .ok (.ishl, 1) := by decide +kernel
theorem dX11_read_36 : decode cX11_read 36 = .ok (.iand, 1) := by decide +kernel
theorem dX11_read_37 : decode cX11_read 37 = .ok (.ifCond .eq 9, 3) := by decide +kernel
theorem dX11_read_40 : decode cX11_read 40 = .ok (.iload_n 2, 1) := by decide +kernel
theorem dX11_read_41 : decode cX11_read 41 = .ok (.iconst 1, 1) := by decide +kernel
theorem dX11_read_42 : decode cX11_read 42 = .ok (.iload_n 3, 1) := by decide +kernel
theorem dX11_read_43 : decode cX11_read 43 = .ok (.ishl, 1) := by decide +kernel
theorem dX11_read_44 : decode cX11_read 44 = .ok (.ior, 1) := by decide +kernel
theorem dX11_read_45 : decode cX11_read 45 = .ok (.istore_n 2, 1) := by decide +kernel
theorem dX11_read_46 : decode cX11_read 46 = .ok (.iinc 3 1, 3) := by decide +kernel
theorem dX11_read_49 : decode cX11_read 49 = .ok (.goto (-32), 3) := by decide +kernel
theorem dX11_read_52 : decode cX11_read 52 = .ok (.iload_n 2, 1) := by decide +kernel
theorem dX11_read_53 : decode cX11_read 53 = .ok (.ireturn, 1) := by decide +kernel
theorem dX11_soonest_0 : decode cX11_soonest 0 = .ok (.aload_n 0, 1) := by decide +kernel
theorem dX11_soonest_1 : decode cX11_soonest 1 = .ok (.iload_n 1, 1) := by decide +kernel
theorem dX11_soonest_2 : decode cX11_soonest 2 = .ok (.iload_n 2, 1) := by decide +kernel
theorem dX11_soonest_3 : decode cX11_soonest 3 = .ok (.iload_n 3, 1) := by decide +kernel
theorem dX11_soonest_4 : decode cX11_soonest 4 = .ok (.invokevirtual 201, 3) := by decide +kernel
theorem dX11_soonest_7 : decode cX11_soonest 7 = .ok (.ifCond .eq 14, 3) := by decide +kernel
theorem dX11_soonest_10 : decode cX11_soonest 10 = .ok (.aload_n 0, 1) := by decide +kernel
theorem dX11_soonest_11 : decode cX11_soonest 11 = .ok (.iload_n 1, 1) := by decide +kernel
theorem dX11_soonest_12 : decode cX11_soonest 12 = .ok (.iload_n 2, 1) := by decide +kernel
theorem dX11_soonest_13 : decode cX11_soonest 13 = .ok (.iload_n 3, 1) := by decide +kernel
theorem dX11_soonest_14 : decode cX11_soonest 14 = .ok (.iconst 0, 1) := by decide +kernel
theorem dX11_soonest_15 : decode cX11_soonest 15 = .ok (.invokevirtual 205, 3) := by decide +kernel
theorem dX11_soonest_18 : decode cX11_soonest 18 = .ok (.goto 4, 3) := by decide +kernel
theorem dX11_soonest_21 : decode cX11_soonest 21 = .ok (.iconst (-1), 1) := by decide +kernel
theorem dX11_soonest_22 : decode cX11_soonest 22 = .ok (.ireturn, 1) := by decide +kernel
theorem dX11_latest_0 : decode cX11_latest 0 = .ok (.aload_n 0, 1) := by decide +kernel
theorem dX11_latest_1 : decode cX11_latest 1 = .ok (.iload_n 1, 1) := by decide +kernel
theorem dX11_latest_2 : decode cX11_latest 2 = .ok (.iload_n 2, 1) := by decide +kernel
theorem dX11_latest_3 : decode cX11_latest 3 = .ok (.iload_n 3, 1) := by decide +kernel
theorem dX11_latest_4 : decode cX11_latest 4 = .ok (.invokevirtual 201, 3) := by decide +kernel
theorem dX11_latest_7 : decode cX11_latest 7 = .ok (.ifCond .eq 16, 3) := by decide +kernel
theorem dX11_latest_10 : decode cX11_latest 10 = .ok (.aload_n 0, 1) := by decide +kernel
theorem dX11_latest_11 : decode cX11_latest 11 = .ok (.getfield 69, 3) := by decide +kernel
theorem dX11_latest_14 : decode cX11_latest 14 = .ok (.iload_n 1, 1) := by decide +kernel
theorem dX11_latest_15 : decode cX11_latest 15 = .ok (.iload_n 2, 1) := by decide +kernel
theorem dX11_latest_16 : decode cX11_latest 16 = .ok (.iload_n 3, 1) := by decide +kernel
theorem dX11_latest_17 : decode cX11_latest 17 = .ok (.invokevirtual 208, 3) := by decide +kernel
theorem dX11_latest_20 : decode cX11_latest 20 = .ok (.goto 4, 3) := by decide +kernel
theorem dX11_latest_23 : decode cX11_latest 23 = .ok (.iconst (-1), 1) := by decide +kernel
theorem dX11_latest_24 : decode cX11_latest 24 = .ok (.ireturn, 1) := by decide +kernel
theorem dX11_hands_0 : decode cX11_hands 0 = .ok (.aload_n 0, 1) := by decide +kernel
theorem dX11_hands_1 : decode cX11_hands 1 = .ok (.iload_n 1, 1) := by decide +kernel
theorem dX11_hands_2 : decode cX11_hands 2 = .ok (.iload_n 2, 1) := by decide +kernel
theorem dX11_hands_3 : decode cX11_hands 3 = .ok (.iload_n 3, 1) := by decide +kernel
theorem dX11_hands_4 : decode cX11_hands 4 = .ok (.invokevirtual 201, 3) := by decide +kernel
theorem dX11_hands_7 : decode cX11_hands 7 = .ok (.ifCond .ne 5, 3) := by decide +kernel
theorem dX11_hands_10 : decode cX11_hands 10 = .ok (.iconst (-1), 1) := by decide +kernel
theorem dX11_hands_11 : decode cX11_hands 11 = .ok (.ireturn, 1) := by decide +kernel
theorem dX11_hands_12 : decode cX11_hands 12 = .ok (.aload_n 0, 1) := by decide +kernel
theorem dX11_hands_13 : decode cX11_hands 13 = .ok (.getfield 69, 3) := by decide +kernel
theorem dX11_hands_16 : decode cX11_hands 16 = .ok (.iload_n 2, 1) := by decide +kernel
theorem dX11_hands_17 : decode cX11_hands 17 = .ok (.bipush 99, 2) := by decide +kernel
theorem dX11_hands_19 : decode cX11_hands 19 = .ok (.iconst 0, 1) := by decide +kernel
theorem dX11_hands_20 : decode cX11_hands 20 = .ok (.iconst 0, 1) := by decide +kernel
theorem dX11_hands_21 : decode cX11_hands 21 = .ok (.invokevirtual 212, 3) := by decide +kernel
theorem dX11_hands_24 : decode cX11_hands 24 = .ok (.aload_n 0, 1) := by decide +kernel
theorem dX11_hands_25 : decode cX11_hands 25 = .ok (.getfield 69, 3) := by decide +kernel
theorem dX11_hands_28 : decode cX11_hands 28 = .ok (.iload_n 1, 1) := by decide +kernel
theorem dX11_hands_29 : decode cX11_hands 29 = .ok (.iload_n 3, 1) := by decide +kernel
theorem dX11_hands_30 : decode cX11_hands 30 = .ok (.aload_n 0, 1) := by decide +kernel
theorem dX11_hands_31 : decode cX11_hands 31 = .ok (.getfield 19, 3) := by decide +kernel
theorem dX11_hands_34 : decode cX11_hands 34 = .ok (.invokevirtual 215, 3) := by decide +kernel
theorem dX11_hands_37 : decode cX11_hands 37 = .ok (.ireturn, 1) := by decide +kernel
theorem dX11_cheapest_0 : decode cX11_cheapest 0 = .ok (.aload_n 0, 1) := by decide +kernel
theorem dX11_cheapest_1 : decode cX11_cheapest 1 = .ok (.iload_n 1, 1) := by decide +kernel
theorem dX11_cheapest_2 : decode cX11_cheapest 2 = .ok (.iload_n 2, 1) := by decide +kernel
theorem dX11_cheapest_3 : decode cX11_cheapest 3 = .ok (.iload_n 3, 1) := by decide +kernel
theorem dX11_cheapest_4 : decode cX11_cheapest 4 = .ok (.bipush 99, 2) := by decide +kernel
theorem dX11_cheapest_6 : decode cX11_cheapest 6 = .ok (.invokevirtual 219, 3) := by decide +kernel
theorem dX11_cheapest_9 : decode cX11_cheapest 9 = .ok (.ireturn, 1) := by decide +kernel
theorem dX11_without_0 : decode cX11_without 0 = .ok (.aload_n 0, 1) := by decide +kernel
theorem dX11_without_1 : decode cX11_without 1 = .ok (.iload_n 1, 1) := by decide +kernel
theorem dX11_without_2 : decode cX11_without 2 = .ok (.iload_n 2, 1) := by decide +kernel
theorem dX11_without_3 : decode cX11_without 3 = .ok (.iload_n 3, 1) := by decide +kernel
theorem dX11_without_4 : decode cX11_without 4 = .ok (.invokevirtual 201, 3) := by decide +kernel
theorem dX11_without_7 : decode cX11_without 7 = .ok (.ifCond .eq 18, 3) := by decide +kernel
theorem dX11_without_10 : decode cX11_without 10 = .ok (.iload 4, 2) := by decide +kernel
theorem dX11_without_12 : decode cX11_without 12 = .ok (.aload_n 0, 1) := by decide +kernel
theorem dX11_without_13 : decode cX11_without 13 = .ok (.getfield 26, 3) := by decide +kernel
theorem dX11_without_16 : decode cX11_without 16 = .ok (.invokevirtual 222, 3) := by decide +kernel
theorem dX11_without_19 : decode cX11_without 19 = .ok (.iconst (-1), 1) := by decide +kernel
theorem dX11_without_20 : decode cX11_without 20 = .ok (.ixor, 1) := by decide +kernel
theorem dX11_without_21 : decode cX11_without 21 = .ok (.iand, 1) := by decide +kernel
theorem dX11_without_22 : decode cX11_without 22 = .ok (.ifCond .eq 5, 3) := by decide +kernel
theorem dX11_without_25 : decode cX11_without 25 = .ok (.iconst (-1), 1) := by decide +kernel
theorem dX11_without_26 : decode cX11_without 26 = .ok (.ireturn, 1) := by decide +kernel
theorem dX11_without_27 : decode cX11_without 27 = .ok (.aload_n 0, 1) := by decide +kernel
theorem dX11_without_28 : decode cX11_without 28 = .ok (.iload_n 1, 1) := by decide +kernel
theorem dX11_without_29 : decode cX11_without 29 = .ok (.iload_n 2, 1) := by decide +kernel
theorem dX11_without_30 : decode cX11_without 30 = .ok (.iload_n 3, 1) := by decide +kernel
theorem dX11_without_31 : decode cX11_without 31 = .ok (.iload 4, 2) := by decide +kernel
theorem dX11_without_33 : decode cX11_without 33 = .ok (.invokevirtual 205, 3) := by decide +kernel
theorem dX11_without_36 : decode cX11_without 36 = .ok (.ireturn, 1) := by decide +kernel
theorem dX11_ways_0 : decode cX11_ways 0 = .ok (.aload_n 0, 1) := by decide +kernel
theorem dX11_ways_1 : decode cX11_ways 1 = .ok (.iload_n 1, 1) := by decide +kernel
theorem dX11_ways_2 : decode cX11_ways 2 = .ok (.iload_n 2, 1) := by decide +kernel
theorem dX11_ways_3 : decode cX11_ways 3 = .ok (.iload_n 3, 1) := by decide +kernel
theorem dX11_ways_4 : decode cX11_ways 4 = .ok (.invokevirtual 201, 3) := by decide +kernel
theorem dX11_ways_7 : decode cX11_ways 7 = .ok (.ifCond .eq 16, 3) := by decide +kernel
theorem dX11_ways_10 : decode cX11_ways 10 = .ok (.aload_n 0, 1) := by decide +kernel
theorem dX11_ways_11 : decode cX11_ways 11 = .ok (.getfield 69, 3) := by decide +kernel
theorem dX11_ways_14 : decode cX11_ways 14 = .ok (.iload_n 1, 1) := by decide +kernel
theorem dX11_ways_15 : decode cX11_ways 15 = .ok (.iload_n 2, 1) := by decide +kernel
theorem dX11_ways_16 : decode cX11_ways 16 = .ok (.iload_n 3, 1) := by decide +kernel
theorem dX11_ways_17 : decode cX11_ways 17 = .ok (.invokevirtual 225, 3) := by decide +kernel
theorem dX11_ways_20 : decode cX11_ways 20 = .ok (.goto 6, 3) := by decide +kernel
theorem dX11_ways_23 : decode cX11_ways 23 = .ok (.ldc2_w 229, 3) := by decide +kernel
theorem dX11_ways_26 : decode cX11_ways 26 = .ok (.lreturn, 1) := by decide +kernel
theorem dX11_needs_0 : decode cX11_needs 0 = .ok (.aload_n 0, 1) := by decide +kernel
theorem dX11_needs_1 : decode cX11_needs 1 = .ok (.iload_n 1, 1) := by decide +kernel
theorem dX11_needs_2 : decode cX11_needs 2 = .ok (.iload_n 2, 1) := by decide +kernel
theorem dX11_needs_3 : decode cX11_needs 3 = .ok (.iload_n 3, 1) := by decide +kernel
theorem dX11_needs_4 : decode cX11_needs 4 = .ok (.invokevirtual 201, 3) := by decide +kernel
theorem dX11_needs_7 : decode cX11_needs 7 = .ok (.ifCond .eq 16, 3) := by decide +kernel
theorem dX11_needs_10 : decode cX11_needs 10 = .ok (.aload_n 0, 1) := by decide +kernel
theorem dX11_needs_11 : decode cX11_needs 11 = .ok (.getfield 69, 3) := by decide +kernel
theorem dX11_needs_14 : decode cX11_needs 14 = .ok (.iload_n 1, 1) := by decide +kernel
theorem dX11_needs_15 : decode cX11_needs 15 = .ok (.iload_n 2, 1) := by decide +kernel
theorem dX11_needs_16 : decode cX11_needs 16 = .ok (.iload_n 3, 1) := by decide +kernel
theorem dX11_needs_17 : decode cX11_needs 17 = .ok (.invokevirtual 231, 3) := by decide +kernel
theorem dX11_needs_20 : decode cX11_needs 20 = .ok (.goto 4, 3) := by decide +kernel
theorem dX11_needs_23 : decode cX11_needs 23 = .ok (.iconst (-1), 1) := by decide +kernel
theorem dX11_needs_24 : decode cX11_needs 24 = .ok (.ireturn, 1) := by decide +kernel
theorem dX11_idle_0 : decode cX11_idle 0 = .ok (.aload_n 0, 1) := by decide +kernel
theorem dX11_idle_1 : decode cX11_idle 1 = .ok (.iload_n 1, 1) := by decide +kernel
theorem dX11_idle_2 : decode cX11_idle 2 = .ok (.iload_n 2, 1) := by decide +kernel
theorem dX11_idle_3 : decode cX11_idle 3 = .ok (.iload_n 3, 1) := by decide +kernel
theorem dX11_idle_4 : decode cX11_idle 4 = .ok (.invokevirtual 201, 3) := by decide +kernel
theorem dX11_idle_7 : decode cX11_idle 7 = .ok (.ifCond .eq 16, 3) := by decide +kernel
theorem dX11_idle_10 : decode cX11_idle 10 = .ok (.aload_n 0, 1) := by decide +kernel
theorem dX11_idle_11 : decode cX11_idle 11 = .ok (.getfield 69, 3) := by decide +kernel
theorem dX11_idle_14 : decode cX11_idle 14 = .ok (.iload_n 1, 1) := by decide +kernel
theorem dX11_idle_15 : decode cX11_idle 15 = .ok (.iload_n 2, 1) := by decide +kernel
theorem dX11_idle_16 : decode cX11_idle 16 = .ok (.iload_n 3, 1) := by decide +kernel
theorem dX11_idle_17 : decode cX11_idle 17 = .ok (.invokevirtual 234, 3) := by decide +kernel
theorem dX11_idle_20 : decode cX11_idle 20 = .ok (.goto 4, 3) := by decide +kernel
theorem dX11_idle_23 : decode cX11_idle 23 = .ok (.iconst (-1), 1) := by decide +kernel
theorem dX11_idle_24 : decode cX11_idle 24 = .ok (.ireturn, 1) := by decide +kernel
theorem dX11_longest_0 : decode cX11_longest 0 = .ok (.aload_n 0, 1) := by decide +kernel
theorem dX11_longest_1 : decode cX11_longest 1 = .ok (.iload_n 1, 1) := by decide +kernel
theorem dX11_longest_2 : decode cX11_longest 2 = .ok (.iload_n 2, 1) := by decide +kernel
theorem dX11_longest_3 : decode cX11_longest 3 = .ok (.iload_n 3, 1) := by decide +kernel
theorem dX11_longest_4 : decode cX11_longest 4 = .ok (.invokevirtual 201, 3) := by decide +kernel
theorem dX11_longest_7 : decode cX11_longest 7 = .ok (.ifCond .ne 5, 3) := by decide +kernel
theorem dX11_longest_10 : decode cX11_longest 10 = .ok (.iconst (-1), 1) := by decide +kernel
theorem dX11_longest_11 : decode cX11_longest 11 = .ok (.ireturn, 1) := by decide +kernel
theorem dX11_longest_12 : decode cX11_longest 12 = .ok (.aload_n 0, 1) := by decide +kernel
theorem dX11_longest_13 : decode cX11_longest 13 = .ok (.getfield 69, 3) := by decide +kernel
theorem dX11_longest_16 : decode cX11_longest 16 = .ok (.iload_n 2, 1) := by decide +kernel
theorem dX11_longest_17 : decode cX11_longest 17 = .ok (.bipush 99, 2) := by decide +kernel
theorem dX11_longest_19 : decode cX11_longest 19 = .ok (.iconst 0, 1) := by decide +kernel
theorem dX11_longest_20 : decode cX11_longest 20 = .ok (.iconst 2, 1) := by decide +kernel
theorem dX11_longest_21 : decode cX11_longest 21 = .ok (.invokevirtual 212, 3) := by decide +kernel
theorem dX11_longest_24 : decode cX11_longest 24 = .ok (.aload_n 0, 1) := by decide +kernel
theorem dX11_longest_25 : decode cX11_longest 25 = .ok (.getfield 69, 3) := by decide +kernel
theorem dX11_longest_28 : decode cX11_longest 28 = .ok (.iload_n 1, 1) := by decide +kernel
theorem dX11_longest_29 : decode cX11_longest 29 = .ok (.iload_n 3, 1) := by decide +kernel
theorem dX11_longest_30 : decode cX11_longest 30 = .ok (.aload_n 0, 1) := by decide +kernel
theorem dX11_longest_31 : decode cX11_longest 31 = .ok (.getfield 19, 3) := by decide +kernel
theorem dX11_longest_34 : decode cX11_longest 34 = .ok (.invokevirtual 215, 3) := by decide +kernel
theorem dX11_longest_37 : decode cX11_longest 37 = .ok (.ireturn, 1) := by decide +kernel
theorem dX11_pairs_0 : decode cX11_pairs 0 = .ok (.iload_n 1, 1) := by decide +kernel
theorem dX11_pairs_1 : decode cX11_pairs 1 = .ok (.invokestatic 145, 3) := by decide +kernel
theorem dX11_pairs_4 : decode cX11_pairs 4 = .ok (.ifCond .eq 18, 3) := by decide +kernel
theorem dX11_pairs_7 : decode cX11_pairs 7 = .ok (.aload_n 0, 1) := by decide +kernel
theorem dX11_pairs_8 : decode cX11_pairs 8 = .ok (.getfield 69, 3) := by decide +kernel
theorem dX11_pairs_11 : decode cX11_pairs 11 = .ok (.iload_n 1, 1) := by decide +kernel
theorem dX11_pairs_12 : decode cX11_pairs 12 = .ok (.aload_n 0, 1) := by decide +kernel
theorem dX11_pairs_13 : decode cX11_pairs 13 = .ok (.getfield 19, 3) := by decide +kernel
theorem dX11_pairs_16 : decode cX11_pairs 16 = .ok (.invokevirtual 237, 3) := by decide +kernel
theorem dX11_pairs_19 : decode cX11_pairs 19 = .ok (.goto 4, 3) := by decide +kernel
theorem dX11_pairs_22 : decode cX11_pairs 22 = .ok (.iconst (-1), 1) := by decide +kernel
theorem dX11_pairs_23 : decode cX11_pairs 23 = .ok (.ireturn, 1) := by decide +kernel
theorem dX11_bargain_0 : decode cX11_bargain 0 = .ok (.aload_n 0, 1) := by decide +kernel
theorem dX11_bargain_1 : decode cX11_bargain 1 = .ok (.iload_n 1, 1) := by decide +kernel
theorem dX11_bargain_2 : decode cX11_bargain 2 = .ok (.iload_n 2, 1) := by decide +kernel
theorem dX11_bargain_3 : decode cX11_bargain 3 = .ok (.iload_n 3, 1) := by decide +kernel
theorem dX11_bargain_4 : decode cX11_bargain 4 = .ok (.invokevirtual 201, 3) := by decide +kernel
theorem dX11_bargain_7 : decode cX11_bargain 7 = .ok (.ifCond .eq 11, 3) := by decide +kernel
theorem dX11_bargain_10 : decode cX11_bargain 10 = .ok (.iload 4, 2) := by decide +kernel
theorem dX11_bargain_12 : decode cX11_bargain 12 = .ok (.invokestatic 145, 3) := by decide +kernel
theorem dX11_bargain_15 : decode cX11_bargain 15 = .ok (.ifCond .ne 5, 3) := by decide +kernel
theorem dX11_bargain_18 : decode cX11_bargain 18 = .ok (.iconst (-1), 1) := by decide +kernel
theorem dX11_bargain_19 : decode cX11_bargain 19 = .ok (.ireturn, 1) := by decide +kernel
theorem dX11_bargain_20 : decode cX11_bargain 20 = .ok (.aload_n 0, 1) := by decide +kernel
theorem dX11_bargain_21 : decode cX11_bargain 21 = .ok (.getfield 69, 3) := by decide +kernel
theorem dX11_bargain_24 : decode cX11_bargain 24 = .ok (.iload_n 2, 1) := by decide +kernel
theorem dX11_bargain_25 : decode cX11_bargain 25 = .ok (.iload 4, 2) := by decide +kernel
theorem dX11_bargain_27 : decode cX11_bargain 27 = .ok (.iconst 0, 1) := by decide +kernel
theorem dX11_bargain_28 : decode cX11_bargain 28 = .ok (.iconst 1, 1) := by decide +kernel
theorem dX11_bargain_29 : decode cX11_bargain 29 = .ok (.invokevirtual 212, 3) := by decide +kernel
theorem dX11_bargain_32 : decode cX11_bargain 32 = .ok (.aload_n 0, 1) := by decide +kernel
theorem dX11_bargain_33 : decode cX11_bargain 33 = .ok (.getfield 69, 3) := by decide +kernel
theorem dX11_bargain_36 : decode cX11_bargain 36 = .ok (.iload_n 1, 1) := by decide +kernel
theorem dX11_bargain_37 : decode cX11_bargain 37 = .ok (.iload_n 3, 1) := by decide +kernel
theorem dX11_bargain_38 : decode cX11_bargain 38 = .ok (.aload_n 0, 1) := by decide +kernel
theorem dX11_bargain_39 : decode cX11_bargain 39 = .ok (.getfield 19, 3) := by decide +kernel
theorem dX11_bargain_42 : decode cX11_bargain 42 = .ok (.invokevirtual 215, 3) := by decide +kernel
theorem dX11_bargain_45 : decode cX11_bargain 45 = .ok (.ireturn, 1) := by decide +kernel
theorem dX11_apart_0 : decode cX11_apart 0 = .ok (.aload_n 0, 1) := by decide +kernel
theorem dX11_apart_1 : decode cX11_apart 1 = .ok (.iload_n 1, 1) := by decide +kernel
theorem dX11_apart_2 : decode cX11_apart 2 = .ok (.iload_n 2, 1) := by decide +kernel
theorem dX11_apart_3 : decode cX11_apart 3 = .ok (.iload_n 3, 1) := by decide +kernel
theorem dX11_apart_4 : decode cX11_apart 4 = .ok (.invokevirtual 201, 3) := by decide +kernel
theorem dX11_apart_7 : decode cX11_apart 7 = .ok (.ifCond .eq 8, 3) := by decide +kernel
theorem dX11_apart_10 : decode cX11_apart 10 = .ok (.iload_n 1, 1) := by decide +kernel
theorem dX11_apart_11 : decode cX11_apart 11 = .ok (.iload_n 2, 1) := by decide +kernel
theorem dX11_apart_12 : decode cX11_apart 12 = .ok (.if_icmp .ne 5, 3) := by decide +kernel
theorem dX11_apart_15 : decode cX11_apart 15 = .ok (.iconst (-1), 1) := by decide +kernel
theorem dX11_apart_16 : decode cX11_apart 16 = .ok (.ireturn, 1) := by decide +kernel
theorem dX11_apart_17 : decode cX11_apart 17 = .ok (.aload_n 0, 1) := by decide +kernel
theorem dX11_apart_18 : decode cX11_apart 18 = .ok (.getfield 69, 3) := by decide +kernel
theorem dX11_apart_21 : decode cX11_apart 21 = .ok (.iload_n 1, 1) := by decide +kernel
theorem dX11_apart_22 : decode cX11_apart 22 = .ok (.iload_n 2, 1) := by decide +kernel
theorem dX11_apart_23 : decode cX11_apart 23 = .ok (.iload_n 3, 1) := by decide +kernel
theorem dX11_apart_24 : decode cX11_apart 24 = .ok (.invokevirtual 241, 3) := by decide +kernel
theorem dX11_apart_27 : decode cX11_apart 27 = .ok (.istore 4, 2) := by decide +kernel
theorem dX11_apart_29 : decode cX11_apart 29 = .ok (.aload_n 0, 1) := by decide +kernel
theorem dX11_apart_30 : decode cX11_apart 30 = .ok (.getfield 19, 3) := by decide +kernel
theorem dX11_apart_33 : decode cX11_apart 33 = .ok (.invokevirtual 176, 3) := by decide +kernel
theorem dX11_apart_36 : decode cX11_apart 36 = .ok (.iload 4, 2) := by decide +kernel
theorem dX11_apart_38 : decode cX11_apart 38 = .ok (.iconst (-1), 1) := by decide +kernel
theorem dX11_apart_39 : decode cX11_apart 39 = .ok (.if_icmp .ne 5, 3) := by decide +kernel
theorem dX11_apart_42 : decode cX11_apart 42 = .ok (.iconst 0, 1) := by decide +kernel
theorem dX11_apart_43 : decode cX11_apart 43 = .ok (.ireturn, 1) := by decide +kernel
theorem dX11_apart_44 : decode cX11_apart 44 = .ok (.aload_n 0, 1) := by decide +kernel
theorem dX11_apart_45 : decode cX11_apart 45 = .ok (.getfield 19, 3) := by decide +kernel
theorem dX11_apart_48 : decode cX11_apart 48 = .ok (.iload 4, 2) := by decide +kernel
theorem dX11_apart_50 : decode cX11_apart 50 = .ok (.invokevirtual 182, 3) := by decide +kernel
theorem dX11_apart_53 : decode cX11_apart 53 = .ok (.iconst 1, 1) := by decide +kernel
theorem dX11_apart_54 : decode cX11_apart 54 = .ok (.ireturn, 1) := by decide +kernel
theorem dX11_far_0 : decode cX11_far 0 = .ok (.aload_n 0, 1) := by decide +kernel
theorem dX11_far_1 : decode cX11_far 1 = .ok (.getfield 26, 3) := by decide +kernel
theorem dX11_far_4 : decode cX11_far 4 = .ok (.iload_n 1, 1) := by decide +kernel
theorem dX11_far_5 : decode cX11_far 5 = .ok (.invokevirtual 114, 3) := by decide +kernel
theorem dX11_far_8 : decode cX11_far 8 = .ok (.ifCond .eq 10, 3) := by decide +kernel
theorem dX11_far_11 : decode cX11_far 11 = .ok (.iload_n 2, 1) := by decide +kernel
theorem dX11_far_12 : decode cX11_far 12 = .ok (.invokestatic 145, 3) := by decide +kernel
theorem dX11_far_15 : decode cX11_far 15 = .ok (.ifCond .ne 5, 3) := by decide +kernel
theorem dX11_far_18 : decode cX11_far 18 = .ok (.iconst (-1), 1) := by decide +kernel
theorem dX11_far_19 : decode cX11_far 19 = .ok (.ireturn, 1) := by decide +kernel
theorem dX11_far_20 : decode cX11_far 20 = .ok (.aload_n 0, 1) := by decide +kernel
theorem dX11_far_21 : decode cX11_far 21 = .ok (.getfield 69, 3) := by decide +kernel
theorem dX11_far_24 : decode cX11_far 24 = .ok (.iload_n 1, 1) := by decide +kernel
theorem dX11_far_25 : decode cX11_far 25 = .ok (.iload_n 2, 1) := by decide +kernel
theorem dX11_far_26 : decode cX11_far 26 = .ok (.iconst 0, 1) := by decide +kernel
theorem dX11_far_27 : decode cX11_far 27 = .ok (.iconst (-1), 1) := by decide +kernel
theorem dX11_far_28 : decode cX11_far 28 = .ok (.invokevirtual 244, 3) := by decide +kernel
theorem dX11_far_31 : decode cX11_far 31 = .ok (.aload_n 0, 1) := by decide +kernel
theorem dX11_far_32 : decode cX11_far 32 = .ok (.getfield 19, 3) := by decide +kernel
theorem dX11_far_35 : decode cX11_far 35 = .ok (.invokevirtual 176, 3) := by decide +kernel
theorem dX11_far_38 : decode cX11_far 38 = .ok (.iconst 0, 1) := by decide +kernel
theorem dX11_far_39 : decode cX11_far 39 = .ok (.istore_n 3, 1) := by decide +kernel
theorem dX11_far_40 : decode cX11_far 40 = .ok (.iconst 0, 1) := by decide +kernel
theorem dX11_far_41 : decode cX11_far 41 = .ok (.istore 4, 2) := by decide +kernel
theorem dX11_far_43 : decode cX11_far 43 = .ok (.iload 4, 2) := by decide +kernel
theorem dX11_far_45 : decode cX11_far 45 = .ok (.aload_n 0, 1) := by decide +kernel
theorem dX11_far_46 : decode cX11_far 46 = .ok (.getfield 26, 3) := by decide +kernel
theorem dX11_far_49 : decode cX11_far 49 = .ok (.getfield 247, 3) := by decide +kernel
theorem dX11_far_52 : decode cX11_far 52 = .ok (.if_icmp .ge 49, 3) := by decide +kernel
theorem dX11_far_55 : decode cX11_far 55 = .ok (.aload_n 0, 1) := by decide +kernel
theorem dX11_far_56 : decode cX11_far 56 = .ok (.getfield 19, 3) := by decide +kernel
theorem dX11_far_59 : decode cX11_far 59 = .ok (.aload_n 0, 1) := by decide +kernel
theorem dX11_far_60 : decode cX11_far 60 = .ok (.getfield 69, 3) := by decide +kernel
theorem dX11_far_63 : decode cX11_far 63 = .ok (.getfield 250, 3) := by decide +kernel
theorem dX11_far_66 : decode cX11_far 66 = .ok (.iload 4, 2) := by decide +kernel
theorem dX11_far_68 : decode cX11_far 68 = .ok (.iaload, 1) := by decide +kernel
theorem dX11_far_69 : decode cX11_far 69 = .ok (.invokevirtual 182, 3) := by decide +kernel
theorem dX11_far_72 : decode cX11_far 72 = .ok (.iload 4, 2) := by decide +kernel
theorem dX11_far_74 : decode cX11_far 74 = .ok (.iload_n 1, 1) := by decide +kernel
theorem dX11_far_75 : decode cX11_far 75 = .ok (.if_icmp .eq 20, 3) := by decide +kernel
theorem dX11_far_78 : decode cX11_far 78 = .ok (.aload_n 0, 1) := by decide +kernel
theorem dX11_far_79 : decode cX11_far 79 = .ok (.getfield 69, 3) := by decide +kernel
theorem dX11_far_82 : decode cX11_far 82 = .ok (.getfield 250, 3) := by decide +kernel
theorem dX11_far_85 : decode cX11_far 85 = .ok (.iload 4, 2) := by decide +kernel
theorem dX11_far_87 : decode cX11_far 87 = .ok (.iaload, 1) := by decide +kernel
theorem dX11_far_88 : decode cX11_far 88 = .ok (.iconst (-1), 1) := by decide +kernel
theorem dX11_far_89 : decode cX11_far 89 = .ok (.if_icmp .eq 6, 3) := by decide +kernel
theorem dX11_far_92 : decode cX11_far 92 = .ok (.iinc 3 1, 3) := by decide +kernel
theorem dX11_far_95 : decode cX11_far 95 = .ok (.iinc 4 1, 3) := by decide +kernel
theorem dX11_far_98 : decode cX11_far 98 = .ok (.goto (-55), 3) := by decide +kernel
theorem dX11_far_101 : decode cX11_far 101 = .ok (.iload_n 3, 1) := by decide +kernel
theorem dX11_far_102 : decode cX11_far 102 = .ok (.ireturn, 1) := by decide +kernel
theorem dX11_worst_0 : decode cX11_worst 0 = .ok (.aload_n 0, 1) := by decide +kernel
theorem dX11_worst_1 : decode cX11_worst 1 = .ok (.iload_n 1, 1) := by decide +kernel
theorem dX11_worst_2 : decode cX11_worst 2 = .ok (.iload_n 2, 1) := by decide +kernel
theorem dX11_worst_3 : decode cX11_worst 3 = .ok (.iload_n 3, 1) := by decide +kernel
theorem dX11_worst_4 : decode cX11_worst 4 = .ok (.invokevirtual 201, 3) := by decide +kernel
theorem dX11_worst_7 : decode cX11_worst 7 = .ok (.ifCond .eq 20, 3) := by decide +kernel
theorem dX11_worst_10 : decode cX11_worst 10 = .ok (.aload_n 0, 1) := by decide +kernel
theorem dX11_worst_11 : decode cX11_worst 11 = .ok (.getfield 69, 3) := by decide +kernel
theorem dX11_worst_14 : decode cX11_worst 14 = .ok (.iload_n 1, 1) := by decide +kernel
theorem dX11_worst_15 : decode cX11_worst 15 = .ok (.iload_n 2, 1) := by decide +kernel
theorem dX11_worst_16 : decode cX11_worst 16 = .ok (.iload_n 3, 1) := by decide +kernel
theorem dX11_worst_17 : decode cX11_worst 17 = .ok (.aload_n 0, 1) := by decide +kernel
theorem dX11_worst_18 : decode cX11_worst 18 = .ok (.getfield 19, 3) := by decide +kernel
theorem dX11_worst_21 : decode cX11_worst 21 = .ok (.invokevirtual 253, 3) := by decide +kernel
theorem dX11_worst_24 : decode cX11_worst 24 = .ok (.goto 4, 3) := by decide +kernel
theorem dX11_worst_27 : decode cX11_worst 27 = .ok (.iconst (-1), 1) := by decide +kernel
theorem dX11_worst_28 : decode cX11_worst 28 = .ok (.ireturn, 1) := by decide +kernel
theorem dX11_way_0 : decode cX11_way 0 = .ok (.sipush (-200), 3) := by decide +kernel
theorem dX11_way_3 : decode cX11_way 3 = .ok (.istore_n 3, 1) := by decide +kernel
theorem dX11_way_4 : decode cX11_way 4 = .ok (.aload_n 0, 1) := by decide +kernel
theorem dX11_way_5 : decode cX11_way 5 = .ok (.getfield 26, 3) := by decide +kernel
theorem dX11_way_8 : decode cX11_way 8 = .ok (.iload_n 1, 1) := by decide +kernel
theorem dX11_way_9 : decode cX11_way 9 = .ok (.invokevirtual 114, 3) := by decide +kernel
theorem dX11_way_12 : decode cX11_way 12 = .ok (.ifCond .eq 47, 3) := by decide +kernel
theorem dX11_way_15 : decode cX11_way 15 = .ok (.iload_n 2, 1) := by decide +kernel
theorem dX11_way_16 : decode cX11_way 16 = .ok (.invokestatic 145, 3) := by decide +kernel
theorem dX11_way_19 : decode cX11_way 19 = .ok (.ifCond .eq 40, 3) := by decide +kernel
theorem dX11_way_22 : decode cX11_way 22 = .ok (.aload_n 0, 1) := by decide +kernel
theorem dX11_way_23 : decode cX11_way 23 = .ok (.invokevirtual 257, 3) := by decide +kernel
theorem dX11_way_26 : decode cX11_way 26 = .ok (.istore 4, 2) := by decide +kernel
theorem dX11_way_28 : decode cX11_way 28 = .ok (.iload 4, 2) := by decide +kernel
theorem dX11_way_30 : decode cX11_way 30 = .ok (.iconst (-1), 1) := by decide +kernel
theorem dX11_way_31 : decode cX11_way 31 = .ok (.if_icmp .ne 23, 3) := by decide +kernel
theorem dX11_way_34 : decode cX11_way 34 = .ok (.aload_n 0, 1) := by decide +kernel
theorem dX11_way_35 : decode cX11_way 35 = .ok (.getfield 69, 3) := by decide +kernel
theorem dX11_way_38 : decode cX11_way 38 = .ok (.aload_n 0, 1) := by decide +kernel
theorem dX11_way_39 : decode cX11_way 39 = .ok (.getfield 12, 3) := by decide +kernel
theorem dX11_way_42 : decode cX11_way 42 = .ok (.iload_n 1, 1) := by decide +kernel
theorem dX11_way_43 : decode cX11_way 43 = .ok (.iload_n 2, 1) := by decide +kernel
theorem dX11_way_44 : decode cX11_way 44 = .ok (.aload_n 0, 1) := by decide +kernel
theorem dX11_way_45 : decode cX11_way 45 = .ok (.getfield 19, 3) := by decide +kernel
theorem dX11_way_48 : decode cX11_way 48 = .ok (.invokevirtual 260, 3) := by decide +kernel
theorem dX11_way_51 : decode cX11_way 51 = .ok (.goto 7, 3) := by decide +kernel
theorem dX11_way_54 : decode cX11_way 54 = .ok (.iconst (-1), 1) := by decide +kernel
theorem dX11_way_55 : decode cX11_way 55 = .ok (.iload 4, 2) := by decide +kernel
theorem dX11_way_57 : decode cX11_way 57 = .ok (.isub, 1) := by decide +kernel
theorem dX11_way_58 : decode cX11_way 58 = .ok (.istore_n 3, 1) := by decide +kernel
theorem dX11_way_59 : decode cX11_way 59 = .ok (.aload_n 0, 1) := by decide +kernel
theorem dX11_way_60 : decode cX11_way 60 = .ok (.getfield 12, 3) := by decide +kernel
theorem dX11_way_63 : decode cX11_way 63 = .ok (.invokevirtual 110, 3) := by decide +kernel
theorem dX11_way_66 : decode cX11_way 66 = .ok (.iload_n 3, 1) := by decide +kernel
theorem dX11_way_67 : decode cX11_way 67 = .ok (.ireturn, 1) := by decide +kernel
theorem dX11_tale_0 : decode cX11_tale 0 = .ok (.aload_n 0, 1) := by decide +kernel
theorem dX11_tale_1 : decode cX11_tale 1 = .ok (.invokevirtual 264, 3) := by decide +kernel
theorem dX11_tale_4 : decode cX11_tale 4 = .ok (.istore_n 1, 1) := by decide +kernel
theorem dX11_tale_5 : decode cX11_tale 5 = .ok (.iconst (-1), 1) := by decide +kernel
theorem dX11_tale_6 : decode cX11_tale 6 = .ok (.iload_n 1, 1) := by decide +kernel
theorem dX11_tale_7 : decode cX11_tale 7 = .ok (.isub, 1) := by decide +kernel
theorem dX11_tale_8 : decode cX11_tale 8 = .ok (.istore_n 2, 1) := by decide +kernel
theorem dX11_tale_9 : decode cX11_tale 9 = .ok (.iload_n 1, 1) := by decide +kernel
theorem dX11_tale_10 : decode cX11_tale 10 = .ok (.iconst (-1), 1) := by decide +kernel
theorem dX11_tale_11 : decode cX11_tale 11 = .ok (.if_icmp .ne 55, 3) := by decide +kernel
theorem dX11_tale_14 : decode cX11_tale 14 = .ok (.aload_n 0, 1) := by decide +kernel
theorem dX11_tale_15 : decode cX11_tale 15 = .ok (.getfield 73, 3) := by decide +kernel
theorem dX11_tale_18 : decode cX11_tale 18 = .ok (.invokevirtual 176, 3) := by decide +kernel
theorem dX11_tale_21 : decode cX11_tale 21 = .ok (.iconst 0, 1) := by decide +kernel
theorem dX11_tale_22 : decode cX11_tale 22 = .ok (.istore_n 3, 1) := by decide +kernel
theorem dX11_tale_23 : decode cX11_tale 23 = .ok (.iload_n 3, 1) := by decide +kernel
theorem dX11_tale_24 : decode cX11_tale 24 = .ok (.aload_n 0, 1) := by decide +kernel
theorem dX11_tale_25 : decode cX11_tale 25 = .ok (.getfield 12, 3) := by decide +kernel
theorem dX11_tale_28 : decode cX11_tale 28 = .ok (.getfield 99, 3) := by decide +kernel
theorem dX11_tale_31 : decode cX11_tale 31 = .ok (.if_icmp .ge 27, 3) := by decide +kernel
theorem dX11_tale_34 : decode cX11_tale 34 = .ok (.aload_n 0, 1) := by decide +kernel
theorem dX11_tale_35 : decode cX11_tale 35 = .ok (.getfield 73, 3) := by decide +kernel
theorem dX11_tale_38 : decode cX11_tale 38 = .ok (.aload_n 0, 1) := by decide +kernel
theorem dX11_tale_39 : decode cX11_tale 39 = .ok (.getfield 12, 3) := by decide +kernel
theorem dX11_tale_42 : decode cX11_tale 42 = .ok (.iload_n 3, 1) := by decide +kernel
theorem dX11_tale_43 : decode cX11_tale 43 = .ok (.invokevirtual 267, 3) := by decide +kernel
theorem dX11_tale_46 : decode cX11_tale 46 = .ok (.bipush 48, 2) := by decide +kernel
theorem dX11_tale_48 : decode cX11_tale 48 = .ok (.isub, 1) := by decide +kernel
theorem dX11_tale_49 : decode cX11_tale 49 = .ok (.invokevirtual 182, 3) := by decide +kernel
theorem dX11_tale_52 : decode cX11_tale 52 = .ok (.iinc 3 1, 3) := by decide +kernel
theorem dX11_tale_55 : decode cX11_tale 55 = .ok (.goto (-32), 3) := by decide +kernel
theorem dX11_tale_58 : decode cX11_tale 58 = .ok (.aload_n 0, 1) := by decide +kernel
theorem dX11_tale_59 : decode cX11_tale 59 = .ok (.getfield 73, 3) := by decide +kernel
theorem dX11_tale_62 : decode cX11_tale 62 = .ok (.getfield 270, 3) := by decide +kernel
theorem dX11_tale_65 : decode cX11_tale 65 = .ok (.istore_n 2, 1) := by decide +kernel
theorem dX11_tale_66 : decode cX11_tale 66 = .ok (.aload_n 0, 1) := by decide +kernel
theorem dX11_tale_67 : decode cX11_tale 67 = .ok (.getfield 12, 3) := by decide +kernel
theorem dX11_tale_70 : decode cX11_tale 70 = .ok (.invokevirtual 110, 3) := by decide +kernel
theorem dX11_tale_73 : decode cX11_tale 73 = .ok (.iload_n 2, 1) := by decide +kernel
theorem dX11_tale_74 : decode cX11_tale 74 = .ok (.ireturn, 1) := by decide +kernel
theorem dX11_check_0 : decode cX11_check 0 = .ok (.aload_n 0, 1) := by decide +kernel
theorem dX11_check_1 : decode cX11_check 1 = .ok (.getfield 60, 3) := by decide +kernel
theorem dX11_check_4 : decode cX11_check 4 = .ok (.getfield 156, 3) := by decide +kernel
theorem dX11_check_7 : decode cX11_check 7 = .ok (.iload_n 1, 1) := by decide +kernel
theorem dX11_check_8 : decode cX11_check 8 = .ok (.invokevirtual 166, 3) := by decide +kernel
theorem dX11_check_11 : decode cX11_check 11 = .ok (.ifCond .eq 14, 3) := by decide +kernel
theorem dX11_check_14 : decode cX11_check 14 = .ok (.aload_n 0, 1) := by decide +kernel
theorem dX11_check_15 : decode cX11_check 15 = .ok (.getfield 60, 3) := by decide +kernel
theorem dX11_check_18 : decode cX11_check 18 = .ok (.iload_n 1, 1) := by decide +kernel
theorem dX11_check_19 : decode cX11_check 19 = .ok (.invokevirtual 273, 3) := by decide +kernel
theorem dX11_check_22 : decode cX11_check 22 = .ok (.goto 4, 3) := by decide +kernel
theorem dX11_check_25 : decode cX11_check 25 = .ok (.iconst (-1), 1) := by decide +kernel
theorem dX11_check_26 : decode cX11_check 26 = .ok (.ireturn, 1) := by decide +kernel
theorem dX11_copy_0 : decode cX11_copy 0 = .ok (.aload_n 0, 1) := by decide +kernel
theorem dX11_copy_1 : decode cX11_copy 1 = .ok (.getfield 60, 3) := by decide +kernel
theorem dX11_copy_4 : decode cX11_copy 4 = .ok (.getfield 156, 3) := by decide +kernel
theorem dX11_copy_7 : decode cX11_copy 7 = .ok (.iload_n 1, 1) := by decide +kernel
theorem dX11_copy_8 : decode cX11_copy 8 = .ok (.invokevirtual 166, 3) := by decide +kernel
theorem dX11_copy_11 : decode cX11_copy 11 = .ok (.ifCond .ne 5, 3) := by decide +kernel
theorem dX11_copy_14 : decode cX11_copy 14 = .ok (.iconst (-1), 1) := by decide +kernel
theorem dX11_copy_15 : decode cX11_copy 15 = .ok (.ireturn, 1) := by decide +kernel
theorem dX11_copy_16 : decode cX11_copy 16 = .ok (.aload_n 0, 1) := by decide +kernel
theorem dX11_copy_17 : decode cX11_copy 17 = .ok (.getfield 73, 3) := by decide +kernel
theorem dX11_copy_20 : decode cX11_copy 20 = .ok (.invokevirtual 176, 3) := by decide +kernel
theorem dX11_copy_23 : decode cX11_copy 23 = .ok (.iconst 0, 1) := by decide +kernel
theorem dX11_copy_24 : decode cX11_copy 24 = .ok (.istore_n 2, 1) := by decide +kernel
theorem dX11_copy_25 : decode cX11_copy 25 = .ok (.iload_n 2, 1) := by decide +kernel
theorem dX11_copy_26 : decode cX11_copy 26 = .ok (.aload_n 0, 1) := by decide +kernel
theorem dX11_copy_27 : decode cX11_copy 27 = .ok (.getfield 60, 3) := by decide +kernel
theorem dX11_copy_30 : decode cX11_copy 30 = .ok (.getfield 156, 3) := by decide +kernel
theorem dX11_copy_33 : decode cX11_copy 33 = .ok (.getfield 177, 3) := by decide +kernel
theorem dX11_copy_36 : decode cX11_copy 36 = .ok (.iload_n 1, 1) := by decide +kernel
theorem dX11_copy_37 : decode cX11_copy 37 = .ok (.iaload, 1) := by decide +kernel
