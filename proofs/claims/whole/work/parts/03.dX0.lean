theorem dX0_init_0 : decode cX0_init 0 = .ok (.aload_n 0, 1) := by decide +kernel
theorem dX0_init_1 : decode cX0_init 1 = .ok (.invokespecial 3, 3) := by decide +kernel
theorem dX0_init_4 : decode cX0_init 4 = .ok (.aload_n 0, 1) := by decide +kernel
theorem dX0_init_5 : decode cX0_init 5 = .ok (.iconst 4, 1) := by decide +kernel
theorem dX0_init_6 : decode cX0_init 6 = .ok (.newarray .int, 2) := by decide +kernel
theorem dX0_init_8 : decode cX0_init 8 = .ok (.putfield 9, 3) := by decide +kernel
theorem dX0_init_11 : decode cX0_init 11 = .ok (.return_, 1) := by decide +kernel
set_option maxRecDepth 20000 in
theorem ggX0_set_J7_fill_53178 : GoodIn wsX0_set wsJ7_fill_53178 := goodIn_r _ [5] (by decide +kernel) (by decide +kernel)
set_option maxRecDepth 20000 in
theorem gX0_set_J7_fill_53178 : GoodIn wsX0_set (va_wsS RX0 13 yJ7_fill_53178 wsJ7_fill_53178) := goodIn_app (goodIn_of _ (by decide +kernel)) ggX0_set_J7_fill_53178
theorem dX0_set_0 : decode cX0_set 0 = .ok (.aload_n 0, 1) := by decide +kernel
theorem dX0_set_1 : decode cX0_set 1 = .ok (.getfield 9, 3) := by decide +kernel
theorem dX0_set_4 : decode cX0_set 4 = .ok (.iconst 0, 1) := by decide +kernel
theorem dX0_set_5 : decode cX0_set 5 = .ok (.invokestatic 13, 3) := by decide +kernel
theorem dX0_set_8 : decode cX0_set 8 = .ok (.aload_n 0, 1) := by decide +kernel
theorem dX0_set_9 : decode cX0_set 9 = .ok (.getfield 9, 3) := by decide +kernel
theorem dX0_set_12 : decode cX0_set 12 = .ok (.iconst 0, 1) := by decide +kernel
theorem dX0_set_13 : decode cX0_set 13 = .ok (.iload_n 1, 1) := by decide +kernel
theorem dX0_set_14 : decode cX0_set 14 = .ok (.iastore, 1) := by decide +kernel
theorem dX0_set_15 : decode cX0_set 15 = .ok (.return_, 1) := by decide +kernel
theorem dX0_copy_0 : decode cX0_copy 0 = .ok (.aload_n 1, 1) := by decide +kernel
theorem dX0_copy_1 : decode cX0_copy 1 = .ok (.getfield 9, 3) := by decide +kernel
theorem dX0_copy_4 : decode cX0_copy 4 = .ok (.iconst 0, 1) := by decide +kernel
theorem dX0_copy_5 : decode cX0_copy 5 = .ok (.aload_n 0, 1) := by decide +kernel
theorem dX0_copy_6 : decode cX0_copy 6 = .ok (.getfield 9, 3) := by decide +kernel
theorem dX0_copy_9 : decode cX0_copy 9 = .ok (.iconst 0, 1) := by decide +kernel
theorem dX0_copy_10 : decode cX0_copy 10 = .ok (.iconst 4, 1) := by decide +kernel
theorem dX0_copy_11 : decode cX0_copy 11 = .ok (.invokestatic 19, 3) := by decide +kernel
theorem dX0_copy_14 : decode cX0_copy 14 = .ok (.return_, 1) := by decide +kernel
theorem dX0_wordAt_0 : decode cX0_wordAt 0 = .ok (.iload_n 1, 1) := by decide +kernel
theorem dX0_wordAt_1 : decode cX0_wordAt 1 = .ok (.ifCond .lt 17, 3) := by decide +kernel
theorem dX0_wordAt_4 : decode cX0_wordAt 4 = .ok (.iload_n 1, 1) := by decide +kernel
theorem dX0_wordAt_5 : decode cX0_wordAt 5 = .ok (.iconst 4, 1) := by decide +kernel
theorem dX0_wordAt_6 : decode cX0_wordAt 6 = .ok (.if_icmp .ge 12, 3) := by decide +kernel
theorem dX0_wordAt_9 : decode cX0_wordAt 9 = .ok (.aload_n 0, 1) := by decide +kernel
theorem dX0_wordAt_10 : decode cX0_wordAt 10 = .ok (.getfield 9, 3) := by decide +kernel
theorem dX0_wordAt_13 : decode cX0_wordAt 13 = .ok (.iload_n 1, 1) := by decide +kernel
theorem dX0_wordAt_14 : decode cX0_wordAt 14 = .ok (.iaload, 1) := by decide +kernel
theorem dX0_wordAt_15 : decode cX0_wordAt 15 = .ok (.goto 4, 3) := by decide +kernel
theorem dX0_wordAt_18 : decode cX0_wordAt 18 = .ok (.iconst 0, 1) := by decide +kernel
theorem dX0_wordAt_19 : decode cX0_wordAt 19 = .ok (.ireturn, 1) := by decide +kernel
theorem dX0_isZero_0 : decode cX0_isZero 0 = .ok (.aload_n 0, 1) := by decide +kernel
theorem dX0_isZero_1 : decode cX0_isZero 1 = .ok (.getfield 9, 3) := by decide +kernel
theorem dX0_isZero_4 : decode cX0_isZero 4 = .ok (.iconst 0, 1) := by decide +kernel
theorem dX0_isZero_5 : decode cX0_isZero 5 = .ok (.iaload, 1) := by decide +kernel
theorem dX0_isZero_6 : decode cX0_isZero 6 = .ok (.aload_n 0, 1) := by decide +kernel
theorem dX0_isZero_7 : decode cX0_isZero 7 = .ok (.getfield 9, 3) := by decide +kernel
theorem dX0_isZero_10 : decode cX0_isZero 10 = .ok (.iconst 1, 1) := by decide +kernel
theorem dX0_isZero_11 : decode cX0_isZero 11 = .ok (.iaload, 1) := by decide +kernel
theorem dX0_isZero_12 : decode cX0_isZero 12 = .ok (.ior, 1) := by decide +kernel
theorem dX0_isZero_13 : decode cX0_isZero 13 = .ok (.aload_n 0, 1) := by decide +kernel
theorem dX0_isZero_14 : decode cX0_isZero 14 = .ok (.getfield 9, 3) := by decide +kernel
theorem dX0_isZero_17 : decode cX0_isZero 17 = .ok (.iconst 2, 1) := by decide +kernel
theorem dX0_isZero_18 : decode cX0_isZero 18 = .ok (.iaload, 1) := by decide +kernel
theorem dX0_isZero_19 : decode cX0_isZero 19 = .ok (.ior, 1) := by decide +kernel
theorem dX0_isZero_20 : decode cX0_isZero 20 = .ok (.aload_n 0, 1) := by decide +kernel
theorem dX0_isZero_21 : decode cX0_isZero 21 = .ok (.getfield 9, 3) := by decide +kernel
theorem dX0_isZero_24 : decode cX0_isZero 24 = .ok (.iconst 3, 1) := by decide +kernel
theorem dX0_isZero_25 : decode cX0_isZero 25 = .ok (.iaload, 1) := by decide +kernel
theorem dX0_isZero_26 : decode cX0_isZero 26 = .ok (.ior, 1) := by decide +kernel
theorem dX0_isZero_27 : decode cX0_isZero 27 = .ok (.ifCond .ne 7, 3) := by decide +kernel
theorem dX0_isZero_30 : decode cX0_isZero 30 = .ok (.iconst 1, 1) := by decide +kernel
theorem dX0_isZero_31 : decode cX0_isZero 31 = .ok (.goto 4, 3) := by decide +kernel
theorem dX0_isZero_34 : decode cX0_isZero 34 = .ok (.iconst 0, 1) := by decide +kernel
theorem dX0_isZero_35 : decode cX0_isZero 35 = .ok (.ireturn, 1) := by decide +kernel
theorem dX0_isOne_0 : decode cX0_isOne 0 = .ok (.aload_n 0, 1) := by decide +kernel
theorem dX0_isOne_1 : decode cX0_isOne 1 = .ok (.getfield 9, 3) := by decide +kernel
theorem dX0_isOne_4 : decode cX0_isOne 4 = .ok (.iconst 0, 1) := by decide +kernel
theorem dX0_isOne_5 : decode cX0_isOne 5 = .ok (.iaload, 1) := by decide +kernel
theorem dX0_isOne_6 : decode cX0_isOne 6 = .ok (.iconst 1, 1) := by decide +kernel
theorem dX0_isOne_7 : decode cX0_isOne 7 = .ok (.if_icmp .ne 30, 3) := by decide +kernel
theorem dX0_isOne_10 : decode cX0_isOne 10 = .ok (.aload_n 0, 1) := by decide +kernel
theorem dX0_isOne_11 : decode cX0_isOne 11 = .ok (.getfield 9, 3) := by decide +kernel
theorem dX0_isOne_14 : decode cX0_isOne 14 = .ok (.iconst 1, 1) := by decide +kernel
theorem dX0_isOne_15 : decode cX0_isOne 15 = .ok (.iaload, 1) := by decide +kernel
theorem dX0_isOne_16 : decode cX0_isOne 16 = .ok (.aload_n 0, 1) := by decide +kernel
theorem dX0_isOne_17 : decode cX0_isOne 17 = .ok (.getfield 9, 3) := by decide +kernel
theorem dX0_isOne_20 : decode cX0_isOne 20 = .ok (.iconst 2, 1) := by decide +kernel
theorem dX0_isOne_21 : decode cX0_isOne 21 = .ok (.iaload, 1) := by decide +kernel
theorem dX0_isOne_22 : decode cX0_isOne 22 = .ok (.ior, 1) := by decide +kernel
theorem dX0_isOne_23 : decode cX0_isOne 23 = .ok (.aload_n 0, 1) := by decide +kernel
theorem dX0_isOne_24 : decode cX0_isOne 24 = .ok (.getfield 9, 3) := by decide +kernel
theorem dX0_isOne_27 : decode cX0_isOne 27 = .ok (.iconst 3, 1) := by decide +kernel
theorem dX0_isOne_28 : decode cX0_isOne 28 = .ok (.iaload, 1) := by decide +kernel
theorem dX0_isOne_29 : decode cX0_isOne 29 = .ok (.ior, 1) := by decide +kernel
theorem dX0_isOne_30 : decode cX0_isOne 30 = .ok (.ifCond .ne 7, 3) := by decide +kernel
theorem dX0_isOne_33 : decode cX0_isOne 33 = .ok (.iconst 1, 1) := by decide +kernel
theorem dX0_isOne_34 : decode cX0_isOne 34 = .ok (.goto 4, 3) := by decide +kernel
theorem dX0_isOne_37 : decode cX0_isOne 37 = .ok (.iconst 0, 1) := by decide +kernel
theorem dX0_isOne_38 : decode cX0_isOne 38 = .ok (.ireturn, 1) := by decide +kernel
theorem dX0_against_0 : decode cX0_against 0 = .ok (.iconst 3, 1) := by decide +kernel
theorem dX0_against_1 : decode cX0_against 1 = .ok (.istore_n 2, 1) := by decide +kernel
theorem dX0_against_2 : decode cX0_against 2 = .ok (.iload_n 2, 1) := by decide +kernel
theorem dX0_against_3 : decode cX0_against 3 = .ok (.ifCond .lt 56, 3) := by decide +kernel
theorem dX0_against_6 : decode cX0_against 6 = .ok (.aload_n 0, 1) := by decide +kernel
theorem dX0_against_7 : decode cX0_against 7 = .ok (.getfield 9, 3) := by decide +kernel
theorem dX0_against_10 : decode cX0_against 10 = .ok (.iload_n 2, 1) := by decide +kernel
theorem dX0_against_11 : decode cX0_against 11 = .ok (.iaload, 1) := by decide +kernel
theorem dX0_against_12 : decode cX0_against 12 = .ok (.aload_n 1, 1) := by decide +kernel
theorem dX0_against_13 : decode cX0_against 13 = .ok (.getfield 9, 3) := by decide +kernel
theorem dX0_against_16 : decode cX0_against 16 = .ok (.iload_n 2, 1) := by decide +kernel
theorem dX0_against_17 : decode cX0_against 17 = .ok (.iaload, 1) := by decide +kernel
theorem dX0_against_18 : decode cX0_against 18 = .ok (.if_icmp .eq 35, 3) := by decide +kernel
theorem dX0_against_21 : decode cX0_against 21 = .ok (.aload_n 0, 1) := by decide +kernel
theorem dX0_against_22 : decode cX0_against 22 = .ok (.getfield 9, 3) := by decide +kernel
theorem dX0_against_25 : decode cX0_against 25 = .ok (.iload_n 2, 1) := by decide +kernel
theorem dX0_against_26 : decode cX0_against 26 = .ok (.iaload, 1) := by decide +kernel
theorem dX0_against_27 : decode cX0_against 27 = .ok (.i2l, 1) := by decide +kernel
theorem dX0_against_28 : decode cX0_against 28 = .ok (.ldc2_w 25, 3) := by decide +kernel
theorem dX0_against_31 : decode cX0_against 31 = .ok (.land, 1) := by decide +kernel
theorem dX0_against_32 : decode cX0_against 32 = .ok (.aload_n 1, 1) := by decide +kernel
theorem dX0_against_33 : decode cX0_against 33 = .ok (.getfield 9, 3) := by decide +kernel
theorem dX0_against_36 : decode cX0_against 36 = .ok (.iload_n 2, 1) := by decide +kernel
theorem dX0_against_37 : decode cX0_against 37 = .ok (.iaload, 1) := by decide +kernel
theorem dX0_against_38 : decode cX0_against 38 = .ok (.i2l, 1) := by decide +kernel
theorem dX0_against_39 : decode cX0_against 39 = .ok (.ldc2_w 25, 3) := by decide +kernel
theorem dX0_against_42 : decode cX0_against 42 = .ok (.land, 1) := by decide +kernel
theorem dX0_against_43 : decode cX0_against 43 = .ok (.lcmp, 1) := by decide +kernel
theorem dX0_against_44 : decode cX0_against 44 = .ok (.ifCond .ge 7, 3) := by decide +kernel
theorem dX0_against_47 : decode cX0_against 47 = .ok (.iconst (-1), 1) := by decide +kernel
theorem dX0_against_48 : decode cX0_against 48 = .ok (.goto 4, 3) := by decide +kernel
theorem dX0_against_51 : decode cX0_against 51 = .ok (.iconst 1, 1) := by decide +kernel
theorem dX0_against_52 : decode cX0_against 52 = .ok (.ireturn, 1) := by decide +kernel
theorem dX0_against_53 : decode cX0_against 53 = .ok (.iinc 2 (-1), 3) := by decide +kernel
theorem dX0_against_56 : decode cX0_against 56 = .ok (.goto (-54), 3) := by decide +kernel
theorem dX0_against_59 : decode cX0_against 59 = .ok (.iconst 0, 1) := by decide +kernel
theorem dX0_against_60 : decode cX0_against 60 = .ok (.ireturn, 1) := by decide +kernel
theorem dX0_minus_0 : decode cX0_minus 0 = .ok (.lconst 0, 1) := by decide +kernel
theorem dX0_minus_1 : decode cX0_minus 1 = .ok (.lstore_n 2, 1) := by decide +kernel
theorem dX0_minus_2 : decode cX0_minus 2 = .ok (.iconst 0, 1) := by decide +kernel
theorem dX0_minus_3 : decode cX0_minus 3 = .ok (.istore 4, 2) := by decide +kernel
theorem dX0_minus_5 : decode cX0_minus 5 = .ok (.iload 4, 2) := by decide +kernel
theorem dX0_minus_7 : decode cX0_minus 7 = .ok (.iconst 4, 1) := by decide +kernel
theorem dX0_minus_8 : decode cX0_minus 8 = .ok (.if_icmp .ge 54, 3) := by decide +kernel
theorem dX0_minus_11 : decode cX0_minus 11 = .ok (.aload_n 0, 1) := by decide +kernel
theorem dX0_minus_12 : decode cX0_minus 12 = .ok (.getfield 9, 3) := by decide +kernel
theorem dX0_minus_15 : decode cX0_minus 15 = .ok (.iload 4, 2) := by decide +kernel
theorem dX0_minus_17 : decode cX0_minus 17 = .ok (.iaload, 1) := by decide +kernel
theorem dX0_minus_18 : decode cX0_minus 18 = .ok (.i2l, 1) := by decide +kernel
theorem dX0_minus_19 : decode cX0_minus 19 = .ok (.ldc2_w 25, 3) := by decide +kernel
theorem dX0_minus_22 : decode cX0_minus 22 = .ok (.land, 1) := by decide +kernel
theorem dX0_minus_23 : decode cX0_minus 23 = .ok (.aload_n 1, 1) := by decide +kernel
theorem dX0_minus_24 : decode cX0_minus 24 = .ok (.getfield 9, 3) := by decide +kernel
theorem dX0_minus_27 : decode cX0_minus 27 = .ok (.iload 4, 2) := by decide +kernel
theorem dX0_minus_29 : decode cX0_minus 29 = .ok (.iaload, 1) := by decide +kernel
theorem dX0_minus_30 : decode cX0_minus 30 = .ok (.i2l, 1) := by decide +kernel
theorem dX0_minus_31 : decode cX0_minus 31 = .ok (.ldc2_w 25, 3) := by decide +kernel
theorem dX0_minus_34 : decode cX0_minus 34 = .ok (.land, 1) := by decide +kernel
theorem dX0_minus_35 : decode cX0_minus 35 = .ok (.lsub, 1) := by decide +kernel
theorem dX0_minus_36 : decode cX0_minus 36 = .ok (.lload_n 2, 1) := by decide +kernel
theorem dX0_minus_37 : decode cX0_minus 37 = .ok (.ladd, 1) := by decide +kernel
theorem dX0_minus_38 : decode cX0_minus 38 = .ok (.lstore 5, 2) := by decide +kernel
theorem dX0_minus_40 : decode cX0_minus 40 = .ok (.aload_n 0, 1) := by decide +kernel
theorem dX0_minus_41 : decode cX0_minus 41 = .ok (.getfield 9, 3) := by decide +kernel
theorem dX0_minus_44 : decode cX0_minus 44 = .ok (.iload 4, 2) := by decide +kernel
theorem dX0_minus_46 : decode cX0_minus 46 = .ok (.lload 5, 2) := by decide +kernel
theorem dX0_minus_48 : decode cX0_minus 48 = .ok (.l2i, 1) := by decide +kernel
theorem dX0_minus_49 : decode cX0_minus 49 = .ok (.iastore, 1) := by decide +kernel
theorem dX0_minus_50 : decode cX0_minus 50 = .ok (.lload 5, 2) := by decide +kernel
theorem dX0_minus_52 : decode cX0_minus 52 = .ok (.bipush 32, 2) := by decide +kernel
theorem dX0_minus_54 : decode cX0_minus 54 = .ok (.lshr, 1) := by decide +kernel
theorem dX0_minus_55 : decode cX0_minus 55 = .ok (.lstore_n 2, 1) := by decide +kernel
theorem dX0_minus_56 : decode cX0_minus 56 = .ok (.iinc 4 1, 3) := by decide +kernel
theorem dX0_minus_59 : decode cX0_minus 59 = .ok (.goto (-54), 3) := by decide +kernel
theorem dX0_minus_62 : decode cX0_minus 62 = .ok (.return_, 1) := by decide +kernel
theorem dX0_times_0 : decode cX0_times 0 = .ok (.lconst 0, 1) := by decide +kernel
theorem dX0_times_1 : decode cX0_times 1 = .ok (.lstore_n 2, 1) := by decide +kernel
theorem dX0_times_2 : decode cX0_times 2 = .ok (.iconst 0, 1) := by decide +kernel
theorem dX0_times_3 : decode cX0_times 3 = .ok (.istore 4, 2) := by decide +kernel
theorem dX0_times_5 : decode cX0_times 5 = .ok (.iload 4, 2) := by decide +kernel
theorem dX0_times_7 : decode cX0_times 7 = .ok (.iconst 4, 1) := by decide +kernel
theorem dX0_times_8 : decode cX0_times 8 = .ok (.if_icmp .ge 44, 3) := by decide +kernel
theorem dX0_times_11 : decode cX0_times 11 = .ok (.aload_n 0, 1) := by decide +kernel
theorem dX0_times_12 : decode cX0_times 12 = .ok (.getfield 9, 3) := by decide +kernel
theorem dX0_times_15 : decode cX0_times 15 = .ok (.iload 4, 2) := by decide +kernel
theorem dX0_times_17 : decode cX0_times 17 = .ok (.iaload, 1) := by decide +kernel
theorem dX0_times_18 : decode cX0_times 18 = .ok (.i2l, 1) := by decide +kernel
theorem dX0_times_19 : decode cX0_times 19 = .ok (.ldc2_w 25, 3) := by decide +kernel
theorem dX0_times_22 : decode cX0_times 22 = .ok (.land, 1) := by decide +kernel
theorem dX0_times_23 : decode cX0_times 23 = .ok (.iload_n 1, 1) := by decide +kernel
theorem dX0_times_24 : decode cX0_times 24 = .ok (.i2l, 1) := by decide +kernel
theorem dX0_times_25 : decode cX0_times 25 = .ok (.lmul, 1) := by decide +kernel
theorem dX0_times_26 : decode cX0_times 26 = .ok (.lload_n 2, 1) := by decide +kernel
theorem dX0_times_27 : decode cX0_times 27 = .ok (.ladd, 1) := by decide +kernel
theorem dX0_times_28 : decode cX0_times 28 = .ok (.lstore 5, 2) := by decide +kernel
theorem dX0_times_30 : decode cX0_times 30 = .ok (.aload_n 0, 1) := by decide +kernel
theorem dX0_times_31 : decode cX0_times 31 = .ok (.getfield 9, 3) := by decide +kernel
theorem dX0_times_34 : decode cX0_times 34 = .ok (.iload 4, 2) := by decide +kernel
theorem dX0_times_36 : decode cX0_times 36 = .ok (.lload 5, 2) := by decide +kernel
theorem dX0_times_38 : decode cX0_times 38 = .ok (.l2i, 1) := by decide +kernel
theorem dX0_times_39 : decode cX0_times 39 = .ok (.iastore, 1) := by decide +kernel
theorem dX0_times_40 : decode cX0_times 40 = .ok (.lload 5, 2) := by decide +kernel
theorem dX0_times_42 : decode cX0_times 42 = .ok (.bipush 32, 2) := by decide +kernel
theorem dX0_times_44 : decode cX0_times 44 = .ok (.lushr, 1) := by decide +kernel
theorem dX0_times_45 : decode cX0_times 45 = .ok (.lstore_n 2, 1) := by decide +kernel
theorem dX0_times_46 : decode cX0_times 46 = .ok (.iinc 4 1, 3) := by decide +kernel
theorem dX0_times_49 : decode cX0_times 49 = .ok (.goto (-44), 3) := by decide +kernel
theorem dX0_times_52 : decode cX0_times 52 = .ok (.return_, 1) := by decide +kernel
theorem dX0_divide_0 : decode cX0_divide 0 = .ok (.iload_n 1, 1) := by decide +kernel
theorem dX0_divide_1 : decode cX0_divide 1 = .ok (.iconst 1, 1) := by decide +kernel
theorem dX0_divide_2 : decode cX0_divide 2 = .ok (.if_icmp .ge 5, 3) := by decide +kernel
theorem dX0_divide_5 : decode cX0_divide 5 = .ok (.iconst 0, 1) := by decide +kernel
theorem dX0_divide_6 : decode cX0_divide 6 = .ok (.ireturn, 1) := by decide +kernel
theorem dX0_divide_7 : decode cX0_divide 7 = .ok (.lconst 0, 1) := by decide +kernel
theorem dX0_divide_8 : decode cX0_divide 8 = .ok (.lstore_n 2, 1) := by decide +kernel
theorem dX0_divide_9 : decode cX0_divide 9 = .ok (.iconst 3, 1) := by decide +kernel
theorem dX0_divide_10 : decode cX0_divide 10 = .ok (.istore 4, 2) := by decide +kernel
theorem dX0_divide_12 : decode cX0_divide 12 = .ok (.iload 4, 2) := by decide +kernel
theorem dX0_divide_14 : decode cX0_divide 14 = .ok (.ifCond .lt 47, 3) := by decide +kernel
theorem dX0_divide_17 : decode cX0_divide 17 = .ok (.lload_n 2, 1) := by decide +kernel
theorem dX0_divide_18 : decode cX0_divide 18 = .ok (.bipush 32, 2) := by decide +kernel
theorem dX0_divide_20 : decode cX0_divide 20 = .ok (.lshl, 1) := by decide +kernel
theorem dX0_divide_21 : decode cX0_divide 21 = .ok (.aload_n 0, 1) := by decide +kernel
theorem dX0_divide_22 : decode cX0_divide 22 = .ok (.getfield 9, 3) := by decide +kernel
theorem dX0_divide_25 : decode cX0_divide 25 = .ok (.iload 4, 2) := by decide +kernel
theorem dX0_divide_27 : decode cX0_divide 27 = .ok (.iaload, 1) := by decide +kernel
theorem dX0_divide_28 : decode cX0_divide 28 = .ok (.i2l, 1) := by decide +kernel
theorem dX0_divide_29 : decode cX0_divide 29 = .ok (.ldc2_w 25, 3) := by decide +kernel
theorem dX0_divide_32 : decode cX0_divide 32 = .ok (.land, 1) := by decide +kernel
theorem dX0_divide_33 : decode cX0_divide 33 = .ok (.lor, 1) := by decide +kernel
theorem dX0_divide_34 : decode cX0_divide 34 = .ok (.lstore 5, 2) := by decide +kernel
theorem dX0_divide_36 : decode cX0_divide 36 = .ok (.aload_n 0, 1) := by decide +kernel
theorem dX0_divide_37 : decode cX0_divide 37 = .ok (.getfield 9, 3) := by decide +kernel
theorem dX0_divide_40 : decode cX0_divide 40 = .ok (.iload 4, 2) := by decide +kernel
theorem dX0_divide_42 : decode cX0_divide 42 = .ok (.lload 5, 2) := by decide +kernel
theorem dX0_divide_44 : decode cX0_divide 44 = .ok (.iload_n 1, 1) := by decide +kernel
theorem dX0_divide_45 : decode cX0_divide 45 = .ok (.i2l, 1) := by decide +kernel
theorem dX0_divide_46 : decode cX0_divide 46 = .ok (.ldiv, 1) := by decide +kernel
theorem dX0_divide_47 : decode cX0_divide 47 = .ok (.l2i, 1) := by decide +kernel
theorem dX0_divide_48 : decode cX0_divide 48 = .ok (.iastore, 1) := by decide +kernel
theorem dX0_divide_49 : decode cX0_divide 49 = .ok (.lload 5, 2) := by decide +kernel
theorem dX0_divide_51 : decode cX0_divide 51 = .ok (.iload_n 1, 1) := by decide +kernel
theorem dX0_divide_52 : decode cX0_divide 52 = .ok (.i2l, 1) := by decide +kernel
theorem dX0_divide_53 : decode cX0_divide 53 = .ok (.lrem, 1) := by decide +kernel
theorem dX0_divide_54 : decode cX0_divide 54 = .ok (.lstore_n 2, 1) := by decide +kernel
theorem dX0_divide_55 : decode cX0_divide 55 = .ok (.iinc 4 (-1), 3) := by decide +kernel
theorem dX0_divide_58 : decode cX0_divide 58 = .ok (.goto (-46), 3) := by decide +kernel
theorem dX0_divide_61 : decode cX0_divide 61 = .ok (.lload_n 2, 1) := by decide +kernel
theorem dX0_divide_62 : decode cX0_divide 62 = .ok (.l2i, 1) := by decide +kernel
theorem dX0_divide_63 : decode cX0_divide 63 = .ok (.ireturn, 1) := by decide +kernel
theorem dX0_modulo_0 : decode cX0_modulo 0 = .ok (.iload_n 1, 1) := by decide +kernel
theorem dX0_modulo_1 : decode cX0_modulo 1 = .ok (.iconst 1, 1) := by decide +kernel
theorem dX0_modulo_2 : decode cX0_modulo 2 = .ok (.if_icmp .ge 5, 3) := by decide +kernel
theorem dX0_modulo_5 : decode cX0_modulo 5 = .ok (.iconst 0, 1) := by decide +kernel
theorem dX0_modulo_6 : decode cX0_modulo 6 = .ok (.ireturn, 1) := by decide +kernel
theorem dX0_modulo_7 : decode cX0_modulo 7 = .ok (.lconst 0, 1) := by decide +kernel
theorem dX0_modulo_8 : decode cX0_modulo 8 = .ok (.lstore_n 2, 1) := by decide +kernel
theorem dX0_modulo_9 : decode cX0_modulo 9 = .ok (.iconst 3, 1) := by decide +kernel
theorem dX0_modulo_10 : decode cX0_modulo 10 = .ok (.istore 4, 2) := by decide +kernel
theorem dX0_modulo_12 : decode cX0_modulo 12 = .ok (.iload 4, 2) := by decide +kernel
theorem dX0_modulo_14 : decode cX0_modulo 14 = .ok (.ifCond .lt 30, 3) := by decide +kernel
theorem dX0_modulo_17 : decode cX0_modulo 17 = .ok (.lload_n 2, 1) := by decide +kernel
theorem dX0_modulo_18 : decode cX0_modulo 18 = .ok (.bipush 32, 2) := by decide +kernel
theorem dX0_modulo_20 : decode cX0_modulo 20 = .ok (.lshl, 1) := by decide +kernel
theorem dX0_modulo_21 : decode cX0_modulo 21 = .ok (.aload_n 0, 1) := by decide +kernel
theorem dX0_modulo_22 : decode cX0_modulo 22 = .ok (.getfield 9, 3) := by decide +kernel
theorem dX0_modulo_25 : decode cX0_modulo 25 = .ok (.iload 4, 2) := by decide +kernel
theorem dX0_modulo_27 : decode cX0_modulo 27 = .ok (.iaload, 1) := by decide +kernel
theorem dX0_modulo_28 : decode cX0_modulo 28 = .ok (.i2l, 1) := by decide +kernel
theorem dX0_modulo_29 : decode cX0_modulo 29 = .ok (.ldc2_w 25, 3) := by decide +kernel
theorem dX0_modulo_32 : decode cX0_modulo 32 = .ok (.land, 1) := by decide +kernel
theorem dX0_modulo_33 : decode cX0_modulo 33 = .ok (.lor, 1) := by decide +kernel
theorem dX0_modulo_34 : decode cX0_modulo 34 = .ok (.iload_n 1, 1) := by decide +kernel
theorem dX0_modulo_35 : decode cX0_modulo 35 = .ok (.i2l, 1) := by decide +kernel
theorem dX0_modulo_36 : decode cX0_modulo 36 = .ok (.lrem, 1) := by decide +kernel
theorem dX0_modulo_37 : decode cX0_modulo 37 = .ok (.lstore_n 2, 1) := by decide +kernel
theorem dX0_modulo_38 : decode cX0_modulo 38 = .ok (.iinc 4 (-1), 3) := by decide +kernel
theorem dX0_modulo_41 : decode cX0_modulo 41 = .ok (.goto (-29), 3) := by decide +kernel
theorem dX0_modulo_44 : decode cX0_modulo 44 = .ok (.lload_n 2, 1) := by decide +kernel
theorem dX0_modulo_45 : decode cX0_modulo 45 = .ok (.l2i, 1) := by decide +kernel
theorem dX0_modulo_46 : decode cX0_modulo 46 = .ok (.ireturn, 1) := by decide +kernel
