theorem dX7_init_0 : decode cX7_init 0 = .ok (.aload_n 0, 1) := by decide +kernel
theorem dX7_init_1 : decode cX7_init 1 = .ok (.invokespecial 1, 3) := by decide +kernel
theorem dX7_init_4 : decode cX7_init 4 = .ok (.aload_n 0, 1) := by decide +kernel
theorem dX7_init_5 : decode cX7_init 5 = .ok (.sipush 10320, 3) := by decide +kernel
theorem dX7_init_8 : decode cX7_init 8 = .ok (.newarray .int, 2) := by decide +kernel
theorem dX7_init_10 : decode cX7_init 10 = .ok (.putfield 7, 3) := by decide +kernel
theorem dX7_init_13 : decode cX7_init 13 = .ok (.aload_n 0, 1) := by decide +kernel
theorem dX7_init_14 : decode cX7_init 14 = .ok (.bipush 16, 2) := by decide +kernel
theorem dX7_init_16 : decode cX7_init 16 = .ok (.newarray .int, 2) := by decide +kernel
theorem dX7_init_18 : decode cX7_init 18 = .ok (.putfield 13, 3) := by decide +kernel
theorem dX7_init_21 : decode cX7_init 21 = .ok (.aload_n 0, 1) := by decide +kernel
theorem dX7_init_22 : decode cX7_init 22 = .ok (.bipush 48, 2) := by decide +kernel
theorem dX7_init_24 : decode cX7_init 24 = .ok (.newarray .boolean, 2) := by decide +kernel
theorem dX7_init_26 : decode cX7_init 26 = .ok (.putfield 16, 3) := by decide +kernel
theorem dX7_init_29 : decode cX7_init 29 = .ok (.aload_n 0, 1) := by decide +kernel
theorem dX7_init_30 : decode cX7_init 30 = .ok (.bipush 48, 2) := by decide +kernel
theorem dX7_init_32 : decode cX7_init 32 = .ok (.newarray .int, 2) := by decide +kernel
theorem dX7_init_34 : decode cX7_init 34 = .ok (.putfield 20, 3) := by decide +kernel
theorem dX7_init_37 : decode cX7_init 37 = .ok (.aload_n 0, 1) := by decide +kernel
theorem dX7_init_38 : decode cX7_init 38 = .ok (.iconst 1, 1) := by decide +kernel
theorem dX7_init_39 : decode cX7_init 39 = .ok (.putfield 23, 3) := by decide +kernel
theorem dX7_init_42 : decode cX7_init 42 = .ok (.aload_n 0, 1) := by decide +kernel
theorem dX7_init_43 : decode cX7_init 43 = .ok (.bipush 16, 2) := by decide +kernel
theorem dX7_init_45 : decode cX7_init 45 = .ok (.newarray .int, 2) := by decide +kernel
theorem dX7_init_47 : decode cX7_init 47 = .ok (.putfield 27, 3) := by decide +kernel
theorem dX7_init_50 : decode cX7_init 50 = .ok (.aload_n 0, 1) := by decide +kernel
theorem dX7_init_51 : decode cX7_init 51 = .ok (.bipush 48, 2) := by decide +kernel
theorem dX7_init_53 : decode cX7_init 53 = .ok (.newarray .boolean, 2) := by decide +kernel
theorem dX7_init_55 : decode cX7_init 55 = .ok (.putfield 30, 3) := by decide +kernel
theorem dX7_init_58 : decode cX7_init 58 = .ok (.aload_n 0, 1) := by decide +kernel
theorem dX7_init_59 : decode cX7_init 59 = .ok (.bipush 48, 2) := by decide +kernel
theorem dX7_init_61 : decode cX7_init 61 = .ok (.newarray .int, 2) := by decide +kernel
theorem dX7_init_63 : decode cX7_init 63 = .ok (.putfield 33, 3) := by decide +kernel
theorem dX7_init_66 : decode cX7_init 66 = .ok (.aload_n 0, 1) := by decide +kernel
theorem dX7_init_67 : decode cX7_init 67 = .ok (.iconst 1, 1) := by decide +kernel
theorem dX7_init_68 : decode cX7_init 68 = .ok (.putfield 36, 3) := by decide +kernel
theorem dX7_init_71 : decode cX7_init 71 = .ok (.aload_n 0, 1) := by decide +kernel
theorem dX7_init_72 : decode cX7_init 72 = .ok (.bipush 16, 2) := by decide +kernel
theorem dX7_init_74 : decode cX7_init 74 = .ok (.newarray .int, 2) := by decide +kernel
theorem dX7_init_76 : decode cX7_init 76 = .ok (.putfield 39, 3) := by decide +kernel
theorem dX7_init_79 : decode cX7_init 79 = .ok (.aload_n 0, 1) := by decide +kernel
theorem dX7_init_80 : decode cX7_init 80 = .ok (.bipush 16, 2) := by decide +kernel
theorem dX7_init_82 : decode cX7_init 82 = .ok (.newarray .boolean, 2) := by decide +kernel
theorem dX7_init_84 : decode cX7_init 84 = .ok (.putfield 42, 3) := by decide +kernel
theorem dX7_init_87 : decode cX7_init 87 = .ok (.aload_n 0, 1) := by decide +kernel
theorem dX7_init_88 : decode cX7_init 88 = .ok (.bipush 48, 2) := by decide +kernel
theorem dX7_init_90 : decode cX7_init 90 = .ok (.newarray .boolean, 2) := by decide +kernel
theorem dX7_init_92 : decode cX7_init 92 = .ok (.putfield 45, 3) := by decide +kernel
theorem dX7_init_95 : decode cX7_init 95 = .ok (.aload_n 0, 1) := by decide +kernel
theorem dX7_init_96 : decode cX7_init 96 = .ok (.sipush 2400, 3) := by decide +kernel
theorem dX7_init_99 : decode cX7_init 99 = .ok (.newarray .int, 2) := by decide +kernel
theorem dX7_init_101 : decode cX7_init 101 = .ok (.putfield 48, 3) := by decide +kernel
theorem dX7_init_104 : decode cX7_init 104 = .ok (.return_, 1) := by decide +kernel
theorem dX7_thrown_0 : decode cX7_thrown 0 = .ok (.aload_n 0, 1) := by decide +kernel
theorem dX7_thrown_1 : decode cX7_thrown 1 = .ok (.getfield 51, 3) := by decide +kernel
theorem dX7_thrown_4 : decode cX7_thrown 4 = .ok (.ireturn, 1) := by decide +kernel
theorem dX7_set_0 : decode cX7_set 0 = .ok (.iconst 0, 1) := by decide +kernel
theorem dX7_set_1 : decode cX7_set 1 = .ok (.istore 4, 2) := by decide +kernel
theorem dX7_set_3 : decode cX7_set 3 = .ok (.iload 4, 2) := by decide +kernel
theorem dX7_set_5 : decode cX7_set 5 = .ok (.bipush 12, 2) := by decide +kernel
theorem dX7_set_7 : decode cX7_set 7 = .ok (.if_icmp .ge 43, 3) := by decide +kernel
theorem dX7_set_10 : decode cX7_set 10 = .ok (.aload_n 0, 1) := by decide +kernel
theorem dX7_set_11 : decode cX7_set 11 = .ok (.getfield 7, 3) := by decide +kernel
theorem dX7_set_14 : decode cX7_set 14 = .ok (.bipush 12, 2) := by decide +kernel
theorem dX7_set_16 : decode cX7_set 16 = .ok (.iload_n 1, 1) := by decide +kernel
theorem dX7_set_17 : decode cX7_set 17 = .ok (.imul, 1) := by decide +kernel
theorem dX7_set_18 : decode cX7_set 18 = .ok (.iload 4, 2) := by decide +kernel
theorem dX7_set_20 : decode cX7_set 20 = .ok (.iadd, 1) := by decide +kernel
theorem dX7_set_21 : decode cX7_set 21 = .ok (.iload 4, 2) := by decide +kernel
theorem dX7_set_23 : decode cX7_set 23 = .ok (.iconst 4, 1) := by decide +kernel
theorem dX7_set_24 : decode cX7_set 24 = .ok (.if_icmp .ge 18, 3) := by decide +kernel
theorem dX7_set_27 : decode cX7_set 27 = .ok (.lload_n 2, 1) := by decide +kernel
theorem dX7_set_28 : decode cX7_set 28 = .ok (.bipush 16, 2) := by decide +kernel
theorem dX7_set_30 : decode cX7_set 30 = .ok (.iload 4, 2) := by decide +kernel
theorem dX7_set_32 : decode cX7_set 32 = .ok (.imul, 1) := by decide +kernel
theorem dX7_set_33 : decode cX7_set 33 = .ok (.lshr, 1) := by decide +kernel
theorem dX7_set_34 : decode cX7_set 34 = .ok (.ldc2_w 54, 3) := by decide +kernel
theorem dX7_set_37 : decode cX7_set 37 = .ok (.land, 1) := by decide +kernel
theorem dX7_set_38 : decode cX7_set 38 = .ok (.l2i, 1) := by decide +kernel
theorem dX7_set_39 : decode cX7_set 39 = .ok (.goto 4, 3) := by decide +kernel
theorem dX7_set_42 : decode cX7_set 42 = .ok (.iconst 0, 1) := by decide +kernel
theorem dX7_set_43 : decode cX7_set 43 = .ok (.iastore, 1) := by decide +kernel
theorem dX7_set_44 : decode cX7_set 44 = .ok (.iinc 4 1, 3) := by decide +kernel
theorem dX7_set_47 : decode cX7_set 47 = .ok (.goto (-44), 3) := by decide +kernel
theorem dX7_set_50 : decode cX7_set 50 = .ok (.return_, 1) := by decide +kernel
theorem dX7_copy_0 : decode cX7_copy 0 = .ok (.iconst 0, 1) := by decide +kernel
theorem dX7_copy_1 : decode cX7_copy 1 = .ok (.istore_n 3, 1) := by decide +kernel
theorem dX7_copy_2 : decode cX7_copy 2 = .ok (.iload_n 3, 1) := by decide +kernel
theorem dX7_copy_3 : decode cX7_copy 3 = .ok (.bipush 12, 2) := by decide +kernel
theorem dX7_copy_5 : decode cX7_copy 5 = .ok (.if_icmp .ge 31, 3) := by decide +kernel
theorem dX7_copy_8 : decode cX7_copy 8 = .ok (.aload_n 0, 1) := by decide +kernel
theorem dX7_copy_9 : decode cX7_copy 9 = .ok (.getfield 7, 3) := by decide +kernel
theorem dX7_copy_12 : decode cX7_copy 12 = .ok (.bipush 12, 2) := by decide +kernel
theorem dX7_copy_14 : decode cX7_copy 14 = .ok (.iload_n 1, 1) := by decide +kernel
theorem dX7_copy_15 : decode cX7_copy 15 = .ok (.imul, 1) := by decide +kernel
theorem dX7_copy_16 : decode cX7_copy 16 = .ok (.iload_n 3, 1) := by decide +kernel
theorem dX7_copy_17 : decode cX7_copy 17 = .ok (.iadd, 1) := by decide +kernel
theorem dX7_copy_18 : decode cX7_copy 18 = .ok (.aload_n 0, 1) := by decide +kernel
theorem dX7_copy_19 : decode cX7_copy 19 = .ok (.getfield 7, 3) := by decide +kernel
theorem dX7_copy_22 : decode cX7_copy 22 = .ok (.bipush 12, 2) := by decide +kernel
theorem dX7_copy_24 : decode cX7_copy 24 = .ok (.iload_n 2, 1) := by decide +kernel
theorem dX7_copy_25 : decode cX7_copy 25 = .ok (.imul, 1) := by decide +kernel
theorem dX7_copy_26 : decode cX7_copy 26 = .ok (.iload_n 3, 1) := by decide +kernel
theorem dX7_copy_27 : decode cX7_copy 27 = .ok (.iadd, 1) := by decide +kernel
theorem dX7_copy_28 : decode cX7_copy 28 = .ok (.iaload, 1) := by decide +kernel
theorem dX7_copy_29 : decode cX7_copy 29 = .ok (.iastore, 1) := by decide +kernel
theorem dX7_copy_30 : decode cX7_copy 30 = .ok (.iinc 3 1, 3) := by decide +kernel
theorem dX7_copy_33 : decode cX7_copy 33 = .ok (.goto (-31), 3) := by decide +kernel
theorem dX7_copy_36 : decode cX7_copy 36 = .ok (.return_, 1) := by decide +kernel
theorem dX7_compare_0 : decode cX7_compare 0 = .ok (.bipush 11, 2) := by decide +kernel
theorem dX7_compare_2 : decode cX7_compare 2 = .ok (.istore_n 3, 1) := by decide +kernel
theorem dX7_compare_3 : decode cX7_compare 3 = .ok (.iload_n 3, 1) := by decide +kernel
theorem dX7_compare_4 : decode cX7_compare 4 = .ok (.ifCond .lt 65, 3) := by decide +kernel
theorem dX7_compare_7 : decode cX7_compare 7 = .ok (.aload_n 0, 1) := by decide +kernel
theorem dX7_compare_8 : decode cX7_compare 8 = .ok (.getfield 7, 3) := by decide +kernel
theorem dX7_compare_11 : decode cX7_compare 11 = .ok (.bipush 12, 2) := by decide +kernel
theorem dX7_compare_13 : decode cX7_compare 13 = .ok (.iload_n 1, 1) := by decide +kernel
theorem dX7_compare_14 : decode cX7_compare 14 = .ok (.imul, 1) := by decide +kernel
theorem dX7_compare_15 : decode cX7_compare 15 = .ok (.iload_n 3, 1) := by decide +kernel
theorem dX7_compare_16 : decode cX7_compare 16 = .ok (.iadd, 1) := by decide +kernel
theorem dX7_compare_17 : decode cX7_compare 17 = .ok (.iaload, 1) := by decide +kernel
theorem dX7_compare_18 : decode cX7_compare 18 = .ok (.aload_n 0, 1) := by decide +kernel
theorem dX7_compare_19 : decode cX7_compare 19 = .ok (.getfield 7, 3) := by decide +kernel
theorem dX7_compare_22 : decode cX7_compare 22 = .ok (.bipush 12, 2) := by decide +kernel
theorem dX7_compare_24 : decode cX7_compare 24 = .ok (.iload_n 2, 1) := by decide +kernel
theorem dX7_compare_25 : decode cX7_compare 25 = .ok (.imul, 1) := by decide +kernel
theorem dX7_compare_26 : decode cX7_compare 26 = .ok (.iload_n 3, 1) := by decide +kernel
theorem dX7_compare_27 : decode cX7_compare 27 = .ok (.iadd, 1) := by decide +kernel
theorem dX7_compare_28 : decode cX7_compare 28 = .ok (.iaload, 1) := by decide +kernel
theorem dX7_compare_29 : decode cX7_compare 29 = .ok (.if_icmp .eq 34, 3) := by decide +kernel
theorem dX7_compare_32 : decode cX7_compare 32 = .ok (.aload_n 0, 1) := by decide +kernel
theorem dX7_compare_33 : decode cX7_compare 33 = .ok (.getfield 7, 3) := by decide +kernel
theorem dX7_compare_36 : decode cX7_compare 36 = .ok (.bipush 12, 2) := by decide +kernel
theorem dX7_compare_38 : decode cX7_compare 38 = .ok (.iload_n 1, 1) := by decide +kernel
theorem dX7_compare_39 : decode cX7_compare 39 = .ok (.imul, 1) := by decide +kernel
theorem dX7_compare_40 : decode cX7_compare 40 = .ok (.iload_n 3, 1) := by decide +kernel
theorem dX7_compare_41 : decode cX7_compare 41 = .ok (.iadd, 1) := by decide +kernel
theorem dX7_compare_42 : decode cX7_compare 42 = .ok (.iaload, 1) := by decide +kernel
theorem dX7_compare_43 : decode cX7_compare 43 = .ok (.aload_n 0, 1) := by decide +kernel
theorem dX7_compare_44 : decode cX7_compare 44 = .ok (.getfield 7, 3) := by decide +kernel
theorem dX7_compare_47 : decode cX7_compare 47 = .ok (.bipush 12, 2) := by decide +kernel
theorem dX7_compare_49 : decode cX7_compare 49 = .ok (.iload_n 2, 1) := by decide +kernel
theorem dX7_compare_50 : decode cX7_compare 50 = .ok (.imul, 1) := by decide +kernel
theorem dX7_compare_51 : decode cX7_compare 51 = .ok (.iload_n 3, 1) := by decide +kernel
theorem dX7_compare_52 : decode cX7_compare 52 = .ok (.iadd, 1) := by decide +kernel
theorem dX7_compare_53 : decode cX7_compare 53 = .ok (.iaload, 1) := by decide +kernel
theorem dX7_compare_54 : decode cX7_compare 54 = .ok (.if_icmp .ge 7, 3) := by decide +kernel
theorem dX7_compare_57 : decode cX7_compare 57 = .ok (.iconst (-1), 1) := by decide +kernel
theorem dX7_compare_58 : decode cX7_compare 58 = .ok (.goto 4, 3) := by decide +kernel
theorem dX7_compare_61 : decode cX7_compare 61 = .ok (.iconst 1, 1) := by decide +kernel
theorem dX7_compare_62 : decode cX7_compare 62 = .ok (.ireturn, 1) := by decide +kernel
theorem dX7_compare_63 : decode cX7_compare 63 = .ok (.iinc 3 (-1), 3) := by decide +kernel
theorem dX7_compare_66 : decode cX7_compare 66 = .ok (.goto (-63), 3) := by decide +kernel
theorem dX7_compare_69 : decode cX7_compare 69 = .ok (.iconst 0, 1) := by decide +kernel
theorem dX7_compare_70 : decode cX7_compare 70 = .ok (.ireturn, 1) := by decide +kernel
theorem dX7_isNone_0 : decode cX7_isNone 0 = .ok (.iconst 0, 1) := by decide +kernel
theorem dX7_isNone_1 : decode cX7_isNone 1 = .ok (.istore_n 2, 1) := by decide +kernel
theorem dX7_isNone_2 : decode cX7_isNone 2 = .ok (.iload_n 2, 1) := by decide +kernel
theorem dX7_isNone_3 : decode cX7_isNone 3 = .ok (.bipush 12, 2) := by decide +kernel
theorem dX7_isNone_5 : decode cX7_isNone 5 = .ok (.if_icmp .ge 25, 3) := by decide +kernel
theorem dX7_isNone_8 : decode cX7_isNone 8 = .ok (.aload_n 0, 1) := by decide +kernel
theorem dX7_isNone_9 : decode cX7_isNone 9 = .ok (.getfield 7, 3) := by decide +kernel
theorem dX7_isNone_12 : decode cX7_isNone 12 = .ok (.bipush 12, 2) := by decide +kernel
theorem dX7_isNone_14 : decode cX7_isNone 14 = .ok (.iload_n 1, 1) := by decide +kernel
theorem dX7_isNone_15 : decode cX7_isNone 15 = .ok (.imul, 1) := by decide +kernel
theorem dX7_isNone_16 : decode cX7_isNone 16 = .ok (.iload_n 2, 1) := by decide +kernel
theorem dX7_isNone_17 : decode cX7_isNone 17 = .ok (.iadd, 1) := by decide +kernel
theorem dX7_isNone_18 : decode cX7_isNone 18 = .ok (.iaload, 1) := by decide +kernel
theorem dX7_isNone_19 : decode cX7_isNone 19 = .ok (.ifCond .eq 5, 3) := by decide +kernel
theorem dX7_isNone_22 : decode cX7_isNone 22 = .ok (.iconst 0, 1) := by decide +kernel
theorem dX7_isNone_23 : decode cX7_isNone 23 = .ok (.ireturn, 1) := by decide +kernel
theorem dX7_isNone_24 : decode cX7_isNone 24 = .ok (.iinc 2 1, 3) := by decide +kernel
theorem dX7_isNone_27 : decode cX7_isNone 27 = .ok (.goto (-25), 3) := by decide +kernel
theorem dX7_isNone_30 : decode cX7_isNone 30 = .ok (.iconst 1, 1) := by decide +kernel
theorem dX7_isNone_31 : decode cX7_isNone 31 = .ok (.ireturn, 1) := by decide +kernel
theorem dX7_add_0 : decode cX7_add 0 = .ok (.iconst 0, 1) := by decide +kernel
theorem dX7_add_1 : decode cX7_add 1 = .ok (.istore 4, 2) := by decide +kernel
theorem dX7_add_3 : decode cX7_add 3 = .ok (.iconst 0, 1) := by decide +kernel
theorem dX7_add_4 : decode cX7_add 4 = .ok (.istore 5, 2) := by decide +kernel
theorem dX7_add_6 : decode cX7_add 6 = .ok (.iload 5, 2) := by decide +kernel
theorem dX7_add_8 : decode cX7_add 8 = .ok (.bipush 12, 2) := by decide +kernel
theorem dX7_add_10 : decode cX7_add 10 = .ok (.if_icmp .ge 63, 3) := by decide +kernel
theorem dX7_add_13 : decode cX7_add 13 = .ok (.aload_n 0, 1) := by decide +kernel
theorem dX7_add_14 : decode cX7_add 14 = .ok (.getfield 7, 3) := by decide +kernel
theorem dX7_add_17 : decode cX7_add 17 = .ok (.bipush 12, 2) := by decide +kernel
theorem dX7_add_19 : decode cX7_add 19 = .ok (.iload_n 2, 1) := by decide +kernel
theorem dX7_add_20 : decode cX7_add 20 = .ok (.imul, 1) := by decide +kernel
theorem dX7_add_21 : decode cX7_add 21 = .ok (.iload 5, 2) := by decide +kernel
theorem dX7_add_23 : decode cX7_add 23 = .ok (.iadd, 1) := by decide +kernel
theorem dX7_add_24 : decode cX7_add 24 = .ok (.iaload, 1) := by decide +kernel
theorem dX7_add_25 : decode cX7_add 25 = .ok (.aload_n 0, 1) := by decide +kernel
theorem dX7_add_26 : decode cX7_add 26 = .ok (.getfield 7, 3) := by decide +kernel
theorem dX7_add_29 : decode cX7_add 29 = .ok (.bipush 12, 2) := by decide +kernel
theorem dX7_add_31 : decode cX7_add 31 = .ok (.iload_n 3, 1) := by decide +kernel
theorem dX7_add_32 : decode cX7_add 32 = .ok (.imul, 1) := by decide +kernel
theorem dX7_add_33 : decode cX7_add 33 = .ok (.iload 5, 2) := by decide +kernel
theorem dX7_add_35 : decode cX7_add 35 = .ok (.iadd, 1) := by decide +kernel
theorem dX7_add_36 : decode cX7_add 36 = .ok (.iaload, 1) := by decide +kernel
theorem dX7_add_37 : decode cX7_add 37 = .ok (.iadd, 1) := by decide +kernel
theorem dX7_add_38 : decode cX7_add 38 = .ok (.iload 4, 2) := by decide +kernel
theorem dX7_add_40 : decode cX7_add 40 = .ok (.iadd, 1) := by decide +kernel
theorem dX7_add_41 : decode cX7_add 41 = .ok (.istore 6, 2) := by decide +kernel
theorem dX7_add_43 : decode cX7_add 43 = .ok (.aload_n 0, 1) := by decide +kernel
theorem dX7_add_44 : decode cX7_add 44 = .ok (.getfield 7, 3) := by decide +kernel
theorem dX7_add_47 : decode cX7_add 47 = .ok (.bipush 12, 2) := by decide +kernel
theorem dX7_add_49 : decode cX7_add 49 = .ok (.iload_n 1, 1) := by decide +kernel
theorem dX7_add_50 : decode cX7_add 50 = .ok (.imul, 1) := by decide +kernel
theorem dX7_add_51 : decode cX7_add 51 = .ok (.iload 5, 2) := by decide +kernel
theorem dX7_add_53 : decode cX7_add 53 = .ok (.iadd, 1) := by decide +kernel
theorem dX7_add_54 : decode cX7_add 54 = .ok (.iload 6, 2) := by decide +kernel
theorem dX7_add_56 : decode cX7_add 56 = .ok (.ldc 56, 2) := by decide +kernel
theorem dX7_add_58 : decode cX7_add 58 = .ok (.iand, 1) := by decide +kernel
theorem dX7_add_59 : decode cX7_add 59 = .ok (.iastore, 1) := by decide +kernel
theorem dX7_add_60 : decode cX7_add 60 = .ok (.iload 6, 2) := by decide +kernel
theorem dX7_add_62 : decode cX7_add 62 = .ok (.bipush 16, 2) := by decide +kernel
theorem dX7_add_64 : decode cX7_add 64 = .ok (.ishr, 1) := by decide +kernel
theorem dX7_add_65 : decode cX7_add 65 = .ok (.istore 4, 2) := by decide +kernel
theorem dX7_add_67 : decode cX7_add 67 = .ok (.iinc 5 1, 3) := by decide +kernel
theorem dX7_add_70 : decode cX7_add 70 = .ok (.goto (-64), 3) := by decide +kernel
theorem dX7_add_73 : decode cX7_add 73 = .ok (.return_, 1) := by decide +kernel
theorem dX7_lessen_0 : decode cX7_lessen 0 = .ok (.iconst 0, 1) := by decide +kernel
theorem dX7_lessen_1 : decode cX7_lessen 1 = .ok (.istore 4, 2) := by decide +kernel
theorem dX7_lessen_3 : decode cX7_lessen 3 = .ok (.iconst 0, 1) := by decide +kernel
theorem dX7_lessen_4 : decode cX7_lessen 4 = .ok (.istore 5, 2) := by decide +kernel
theorem dX7_lessen_6 : decode cX7_lessen 6 = .ok (.iload 5, 2) := by decide +kernel
theorem dX7_lessen_8 : decode cX7_lessen 8 = .ok (.bipush 12, 2) := by decide +kernel
theorem dX7_lessen_10 : decode cX7_lessen 10 = .ok (.if_icmp .ge 68, 3) := by decide +kernel
theorem dX7_lessen_13 : decode cX7_lessen 13 = .ok (.aload_n 0, 1) := by decide +kernel
theorem dX7_lessen_14 : decode cX7_lessen 14 = .ok (.getfield 7, 3) := by decide +kernel
theorem dX7_lessen_17 : decode cX7_lessen 17 = .ok (.bipush 12, 2) := by decide +kernel
theorem dX7_lessen_19 : decode cX7_lessen 19 = .ok (.iload_n 2, 1) := by decide +kernel
theorem dX7_lessen_20 : decode cX7_lessen 20 = .ok (.imul, 1) := by decide +kernel
theorem dX7_lessen_21 : decode cX7_lessen 21 = .ok (.iload 5, 2) := by decide +kernel
theorem dX7_lessen_23 : decode cX7_lessen 23 = .ok (.iadd, 1) := by decide +kernel
theorem dX7_lessen_24 : decode cX7_lessen 24 = .ok (.iaload, 1) := by decide +kernel
theorem dX7_lessen_25 : decode cX7_lessen 25 = .ok (.aload_n 0, 1) := by decide +kernel
theorem dX7_lessen_26 : decode cX7_lessen 26 = .ok (.getfield 7, 3) := by decide +kernel
theorem dX7_lessen_29 : decode cX7_lessen 29 = .ok (.bipush 12, 2) := by decide +kernel
theorem dX7_lessen_31 : decode cX7_lessen 31 = .ok (.iload_n 3, 1) := by decide +kernel
theorem dX7_lessen_32 : decode cX7_lessen 32 = .ok (.imul, 1) := by decide +kernel
theorem dX7_lessen_33 : decode cX7_lessen 33 = .ok (.iload 5, 2) := by decide +kernel
theorem dX7_lessen_35 : decode cX7_lessen 35 = .ok (.iadd, 1) := by decide +kernel
theorem dX7_lessen_36 : decode cX7_lessen 36 = .ok (.iaload, 1) := by decide +kernel
theorem dX7_lessen_37 : decode cX7_lessen 37 = .ok (.isub, 1) := by decide +kernel
theorem dX7_lessen_38 : decode cX7_lessen 38 = .ok (.iload 4, 2) := by decide +kernel
theorem dX7_lessen_40 : decode cX7_lessen 40 = .ok (.isub, 1) := by decide +kernel
theorem dX7_lessen_41 : decode cX7_lessen 41 = .ok (.istore 6, 2) := by decide +kernel
theorem dX7_lessen_43 : decode cX7_lessen 43 = .ok (.aload_n 0, 1) := by decide +kernel
theorem dX7_lessen_44 : decode cX7_lessen 44 = .ok (.getfield 7, 3) := by decide +kernel
theorem dX7_lessen_47 : decode cX7_lessen 47 = .ok (.bipush 12, 2) := by decide +kernel
theorem dX7_lessen_49 : decode cX7_lessen 49 = .ok (.iload_n 1, 1) := by decide +kernel
theorem dX7_lessen_50 : decode cX7_lessen 50 = .ok (.imul, 1) := by decide +kernel
theorem dX7_lessen_51 : decode cX7_lessen 51 = .ok (.iload 5, 2) := by decide +kernel
theorem dX7_lessen_53 : decode cX7_lessen 53 = .ok (.iadd, 1) := by decide +kernel
theorem dX7_lessen_54 : decode cX7_lessen 54 = .ok (.iload 6, 2) := by decide +kernel
theorem dX7_lessen_56 : decode cX7_lessen 56 = .ok (.ldc 56, 2) := by decide +kernel
theorem dX7_lessen_58 : decode cX7_lessen 58 = .ok (.iand, 1) := by decide +kernel
theorem dX7_lessen_59 : decode cX7_lessen 59 = .ok (.iastore, 1) := by decide +kernel
theorem dX7_lessen_60 : decode cX7_lessen 60 = .ok (.iload 6, 2) := by decide +kernel
theorem dX7_lessen_62 : decode cX7_lessen 62 = .ok (.ifCond .ge 7, 3) := by decide +kernel
theorem dX7_lessen_65 : decode cX7_lessen 65 = .ok (.iconst 1, 1) := by decide +kernel
theorem dX7_lessen_66 : decode cX7_lessen 66 = .ok (.goto 4, 3) := by decide +kernel
theorem dX7_lessen_69 : decode cX7_lessen 69 = .ok (.iconst 0, 1) := by decide +kernel
theorem dX7_lessen_70 : decode cX7_lessen 70 = .ok (.istore 4, 2) := by decide +kernel
theorem dX7_lessen_72 : decode cX7_lessen 72 = .ok (.iinc 5 1, 3) := by decide +kernel
theorem dX7_lessen_75 : decode cX7_lessen 75 = .ok (.goto (-69), 3) := by decide +kernel
theorem dX7_lessen_78 : decode cX7_lessen 78 = .ok (.return_, 1) := by decide +kernel
theorem dX7_times_0 : decode cX7_times 0 = .ok (.lconst 0, 1) := by decide +kernel
theorem dX7_times_1 : decode cX7_times 1 = .ok (.lstore 4, 2) := by decide +kernel
theorem dX7_times_3 : decode cX7_times 3 = .ok (.iconst 0, 1) := by decide +kernel
theorem dX7_times_4 : decode cX7_times 4 = .ok (.istore 6, 2) := by decide +kernel
theorem dX7_times_6 : decode cX7_times 6 = .ok (.iload 6, 2) := by decide +kernel
theorem dX7_times_8 : decode cX7_times 8 = .ok (.bipush 12, 2) := by decide +kernel
theorem dX7_times_10 : decode cX7_times 10 = .ok (.if_icmp .ge 56, 3) := by decide +kernel
theorem dX7_times_13 : decode cX7_times 13 = .ok (.aload_n 0, 1) := by decide +kernel
theorem dX7_times_14 : decode cX7_times 14 = .ok (.getfield 7, 3) := by decide +kernel
theorem dX7_times_17 : decode cX7_times 17 = .ok (.bipush 12, 2) := by decide +kernel
theorem dX7_times_19 : decode cX7_times 19 = .ok (.iload_n 2, 1) := by decide +kernel
theorem dX7_times_20 : decode cX7_times 20 = .ok (.imul, 1) := by decide +kernel
theorem dX7_times_21 : decode cX7_times 21 = .ok (.iload 6, 2) := by decide +kernel
theorem dX7_times_23 : decode cX7_times 23 = .ok (.iadd, 1) := by decide +kernel
theorem dX7_times_24 : decode cX7_times 24 = .ok (.iaload, 1) := by decide +kernel
theorem dX7_times_25 : decode cX7_times 25 = .ok (.i2l, 1) := by decide +kernel
theorem dX7_times_26 : decode cX7_times 26 = .ok (.iload_n 3, 1) := by decide +kernel
theorem dX7_times_27 : decode cX7_times 27 = .ok (.i2l, 1) := by decide +kernel
theorem dX7_times_28 : decode cX7_times 28 = .ok (.lmul, 1) := by decide +kernel
theorem dX7_times_29 : decode cX7_times 29 = .ok (.lload 4, 2) := by decide +kernel
theorem dX7_times_31 : decode cX7_times 31 = .ok (.ladd, 1) := by decide +kernel
theorem dX7_times_32 : decode cX7_times 32 = .ok (.lstore 7, 2) := by decide +kernel
theorem dX7_times_34 : decode cX7_times 34 = .ok (.aload_n 0, 1) := by decide +kernel
theorem dX7_times_35 : decode cX7_times 35 = .ok (.getfield 7, 3) := by decide +kernel
theorem dX7_times_38 : decode cX7_times 38 = .ok (.bipush 12, 2) := by decide +kernel
theorem dX7_times_40 : decode cX7_times 40 = .ok (.iload_n 1, 1) := by decide +kernel
theorem dX7_times_41 : decode cX7_times 41 = .ok (.imul, 1) := by decide +kernel
theorem dX7_times_42 : decode cX7_times 42 = .ok (.iload 6, 2) := by decide +kernel
theorem dX7_times_44 : decode cX7_times 44 = .ok (.iadd, 1) := by decide +kernel
theorem dX7_times_45 : decode cX7_times 45 = .ok (.lload 7, 2) := by decide +kernel
theorem dX7_times_47 : decode cX7_times 47 = .ok (.ldc2_w 54, 3) := by decide +kernel
theorem dX7_times_50 : decode cX7_times 50 = .ok (.land, 1) := by decide +kernel
theorem dX7_times_51 : decode cX7_times 51 = .ok (.l2i, 1) := by decide +kernel
theorem dX7_times_52 : decode cX7_times 52 = .ok (.iastore, 1) := by decide +kernel
theorem dX7_times_53 : decode cX7_times 53 = .ok (.lload 7, 2) := by decide +kernel
theorem dX7_times_55 : decode cX7_times 55 = .ok (.bipush 16, 2) := by decide +kernel
theorem dX7_times_57 : decode cX7_times 57 = .ok (.lshr, 1) := by decide +kernel
theorem dX7_times_58 : decode cX7_times 58 = .ok (.lstore 4, 2) := by decide +kernel
theorem dX7_times_60 : decode cX7_times 60 = .ok (.iinc 6 1, 3) := by decide +kernel
theorem dX7_times_63 : decode cX7_times 63 = .ok (.goto (-57), 3) := by decide +kernel
theorem dX7_times_66 : decode cX7_times 66 = .ok (.return_, 1) := by decide +kernel
theorem dX7_tenth_0 : decode cX7_tenth 0 = .ok (.iconst 0, 1) := by decide +kernel
theorem dX7_tenth_1 : decode cX7_tenth 1 = .ok (.istore_n 2, 1) := by decide +kernel
theorem dX7_tenth_2 : decode cX7_tenth 2 = .ok (.bipush 11, 2) := by decide +kernel
theorem dX7_tenth_4 : decode cX7_tenth 4 = .ok (.istore_n 3, 1) := by decide +kernel
theorem dX7_tenth_5 : decode cX7_tenth 5 = .ok (.iload_n 3, 1) := by decide +kernel
theorem dX7_tenth_6 : decode cX7_tenth 6 = .ok (.ifCond .lt 49, 3) := by decide +kernel
theorem dX7_tenth_9 : decode cX7_tenth 9 = .ok (.iload_n 2, 1) := by decide +kernel
theorem dX7_tenth_10 : decode cX7_tenth 10 = .ok (.ldc 57, 2) := by decide +kernel
theorem dX7_tenth_12 : decode cX7_tenth 12 = .ok (.imul, 1) := by decide +kernel
theorem dX7_tenth_13 : decode cX7_tenth 13 = .ok (.aload_n 0, 1) := by decide +kernel
theorem dX7_tenth_14 : decode cX7_tenth 14 = .ok (.getfield 7, 3) := by decide +kernel
theorem dX7_tenth_17 : decode cX7_tenth 17 = .ok (.bipush 12, 2) := by decide +kernel
theorem dX7_tenth_19 : decode cX7_tenth 19 = .ok (.iload_n 1, 1) := by decide +kernel
theorem dX7_tenth_20 : decode cX7_tenth 20 = .ok (.imul, 1) := by decide +kernel
theorem dX7_tenth_21 : decode cX7_tenth 21 = .ok (.iload_n 3, 1) := by decide +kernel
theorem dX7_tenth_22 : decode cX7_tenth 22 = .ok (.iadd, 1) := by decide +kernel
theorem dX7_tenth_23 : decode cX7_tenth 23 = .ok (.iaload, 1) := by decide +kernel
theorem dX7_tenth_24 : decode cX7_tenth 24 = .ok (.iadd, 1) := by decide +kernel
theorem dX7_tenth_25 : decode cX7_tenth 25 = .ok (.istore 4, 2) := by decide +kernel
theorem dX7_tenth_27 : decode cX7_tenth 27 = .ok (.aload_n 0, 1) := by decide +kernel
theorem dX7_tenth_28 : decode cX7_tenth 28 = .ok (.getfield 7, 3) := by decide +kernel
theorem dX7_tenth_31 : decode cX7_tenth 31 = .ok (.bipush 12, 2) := by decide +kernel
theorem dX7_tenth_33 : decode cX7_tenth 33 = .ok (.iload_n 1, 1) := by decide +kernel
theorem dX7_tenth_34 : decode cX7_tenth 34 = .ok (.imul, 1) := by decide +kernel
theorem dX7_tenth_35 : decode cX7_tenth 35 = .ok (.iload_n 3, 1) := by decide +kernel
theorem dX7_tenth_36 : decode cX7_tenth 36 = .ok (.iadd, 1) := by decide +kernel
theorem dX7_tenth_37 : decode cX7_tenth 37 = .ok (.iload 4, 2) := by decide +kernel
theorem dX7_tenth_39 : decode cX7_tenth 39 = .ok (.bipush 10, 2) := by decide +kernel
theorem dX7_tenth_41 : decode cX7_tenth 41 = .ok (.idiv, 1) := by decide +kernel
theorem dX7_tenth_42 : decode cX7_tenth 42 = .ok (.iastore, 1) := by decide +kernel
theorem dX7_tenth_43 : decode cX7_tenth 43 = .ok (.iload 4, 2) := by decide +kernel
theorem dX7_tenth_45 : decode cX7_tenth 45 = .ok (.bipush 10, 2) := by decide +kernel
theorem dX7_tenth_47 : decode cX7_tenth 47 = .ok (.irem, 1) := by decide +kernel
theorem dX7_tenth_48 : decode cX7_tenth 48 = .ok (.istore_n 2, 1) := by decide +kernel
theorem dX7_tenth_49 : decode cX7_tenth 49 = .ok (.iinc 3 (-1), 3) := by decide +kernel
theorem dX7_tenth_52 : decode cX7_tenth 52 = .ok (.goto (-47), 3) := by decide +kernel
theorem dX7_tenth_55 : decode cX7_tenth 55 = .ok (.iload_n 2, 1) := by decide +kernel
theorem dX7_tenth_56 : decode cX7_tenth 56 = .ok (.ireturn, 1) := by decide +kernel
theorem dX7_twice_0 : decode cX7_twice 0 = .ok (.iload_n 2, 1) := by decide +kernel
theorem dX7_twice_1 : decode cX7_twice 1 = .ok (.istore_n 3, 1) := by decide +kernel
theorem dX7_twice_2 : decode cX7_twice 2 = .ok (.iconst 0, 1) := by decide +kernel
theorem dX7_twice_3 : decode cX7_twice 3 = .ok (.istore 4, 2) := by decide +kernel
theorem dX7_twice_5 : decode cX7_twice 5 = .ok (.iload 4, 2) := by decide +kernel
theorem dX7_twice_7 : decode cX7_twice 7 = .ok (.bipush 12, 2) := by decide +kernel
theorem dX7_twice_9 : decode cX7_twice 9 = .ok (.if_icmp .ge 50, 3) := by decide +kernel
theorem dX7_twice_12 : decode cX7_twice 12 = .ok (.iconst 2, 1) := by decide +kernel
theorem dX7_twice_13 : decode cX7_twice 13 = .ok (.aload_n 0, 1) := by decide +kernel
theorem dX7_twice_14 : decode cX7_twice 14 = .ok (.getfield 7, 3) := by decide +kernel
theorem dX7_twice_17 : decode cX7_twice 17 = .ok (.bipush 12, 2) := by decide +kernel
theorem dX7_twice_19 : decode cX7_twice 19 = .ok (.iload_n 1, 1) := by decide +kernel
theorem dX7_twice_20 : decode cX7_twice 20 = .ok (.imul, 1) := by decide +kernel
theorem dX7_twice_21 : decode cX7_twice 21 = .ok (.iload 4, 2) := by decide +kernel
theorem dX7_twice_23 : decode cX7_twice 23 = .ok (.iadd, 1) := by decide +kernel
theorem dX7_twice_24 : decode cX7_twice 24 = .ok (.iaload, 1) := by decide +kernel
theorem dX7_twice_25 : decode cX7_twice 25 = .ok (.imul, 1) := by decide +kernel
theorem dX7_twice_26 : decode cX7_twice 26 = .ok (.iload_n 3, 1) := by decide +kernel
theorem dX7_twice_27 : decode cX7_twice 27 = .ok (.iadd, 1) := by decide +kernel
theorem dX7_twice_28 : decode cX7_twice 28 = .ok (.istore 5, 2) := by decide +kernel
theorem dX7_twice_30 : decode cX7_twice 30 = .ok (.aload_n 0, 1) := by decide +kernel
theorem dX7_twice_31 : decode cX7_twice 31 = .ok (.getfield 7, 3) := by decide +kernel
theorem dX7_twice_34 : decode cX7_twice 34 = .ok (.bipush 12, 2) := by decide +kernel
theorem dX7_twice_36 : decode cX7_twice 36 = .ok (.iload_n 1, 1) := by decide +kernel
theorem dX7_twice_37 : decode cX7_twice 37 = .ok (.imul, 1) := by decide +kernel
theorem dX7_twice_38 : decode cX7_twice 38 = .ok (.iload 4, 2) := by decide +kernel
theorem dX7_twice_40 : decode cX7_twice 40 = .ok (.iadd, 1) := by decide +kernel
theorem dX7_twice_41 : decode cX7_twice 41 = .ok (.iload 5, 2) := by decide +kernel
theorem dX7_twice_43 : decode cX7_twice 43 = .ok (.ldc 56, 2) := by decide +kernel
theorem dX7_twice_45 : decode cX7_twice 45 = .ok (.iand, 1) := by decide +kernel
theorem dX7_twice_46 : decode cX7_twice 46 = .ok (.iastore, 1) := by decide +kernel
theorem dX7_twice_47 : decode cX7_twice 47 = .ok (.iload 5, 2) := by decide +kernel
theorem dX7_twice_49 : decode cX7_twice 49 = .ok (.bipush 16, 2) := by decide +kernel
theorem dX7_twice_51 : decode cX7_twice 51 = .ok (.ishr, 1) := by decide +kernel
theorem dX7_twice_52 : decode cX7_twice 52 = .ok (.istore_n 3, 1) := by decide +kernel
theorem dX7_twice_53 : decode cX7_twice 53 = .ok (.iinc 4 1, 3) := by decide +kernel
theorem dX7_twice_56 : decode cX7_twice 56 = .ok (.goto (-51), 3) := by decide +kernel
theorem dX7_twice_59 : decode cX7_twice 59 = .ok (.return_, 1) := by decide +kernel
theorem dX7_bitOf_0 : decode cX7_bitOf 0 = .ok (.aload_n 0, 1) := by decide +kernel
theorem dX7_bitOf_1 : decode cX7_bitOf 1 = .ok (.getfield 7, 3) := by decide +kernel
theorem dX7_bitOf_4 : decode cX7_bitOf 4 = .ok (.bipush 12, 2) := by decide +kernel
theorem dX7_bitOf_6 : decode cX7_bitOf 6 = .ok (.iload_n 1, 1) := by decide +kernel
theorem dX7_bitOf_7 : decode cX7_bitOf 7 = .ok (.imul, 1) := by decide +kernel
theorem dX7_bitOf_8 : decode cX7_bitOf 8 = .ok (.iload_n 2, 1) := by decide +kernel
theorem dX7_bitOf_9 : decode cX7_bitOf 9 = .ok (.bipush 16, 2) := by decide +kernel
theorem dX7_bitOf_11 : decode cX7_bitOf 11 = .ok (.idiv, 1) := by decide +kernel
theorem dX7_bitOf_12 : decode cX7_bitOf 12 = .ok (.iadd, 1) := by decide +kernel
theorem dX7_bitOf_13 : decode cX7_bitOf 13 = .ok (.iaload, 1) := by decide +kernel
theorem dX7_bitOf_14 : decode cX7_bitOf 14 = .ok (.iload_n 2, 1) := by decide +kernel
theorem dX7_bitOf_15 : decode cX7_bitOf 15 = .ok (.bipush 16, 2) := by decide +kernel
theorem dX7_bitOf_17 : decode cX7_bitOf 17 = .ok (.irem, 1) := by decide +kernel
theorem dX7_bitOf_18 : decode cX7_bitOf 18 = .ok (.ishr, 1) := by decide +kernel
theorem dX7_bitOf_19 : decode cX7_bitOf 19 = .ok (.iconst 1, 1) := by decide +kernel
theorem dX7_bitOf_20 : decode cX7_bitOf 20 = .ok (.iand, 1) := by decide +kernel
theorem dX7_bitOf_21 : decode cX7_bitOf 21 = .ok (.ireturn, 1) := by decide +kernel
set_option maxRecDepth 20000 in
theorem ggX7_bits_X7_bitOf : GoodIn wsX7_bits wsX7_bitOf := goodIn_r _ [5, 6, 7, 8, 9, 10, 11, 12, 13, 14, 15, 16, 17, 18, 19, 20, 21, 22, 23, 24] (by decide +kernel) (by decide +kernel)
set_option maxRecDepth 20000 in
theorem gX7_bits_X7_bitOf : GoodIn wsX7_bits (wsV RX7 58 RX7 yX7_bitOf wsX7_bitOf) := goodIn_app (goodIn_of _ (by decide +kernel)) ggX7_bits_X7_bitOf
theorem dX7_bits_0 : decode cX7_bits 0 = .ok (.sipush 192, 3) := by decide +kernel
theorem dX7_bits_3 : decode cX7_bits 3 = .ok (.istore_n 2, 1) := by decide +kernel
theorem dX7_bits_4 : decode cX7_bits 4 = .ok (.iload_n 2, 1) := by decide +kernel
theorem dX7_bits_5 : decode cX7_bits 5 = .ok (.ifCond .le 20, 3) := by decide +kernel
theorem dX7_bits_8 : decode cX7_bits 8 = .ok (.aload_n 0, 1) := by decide +kernel
theorem dX7_bits_9 : decode cX7_bits 9 = .ok (.iload_n 1, 1) := by decide +kernel
theorem dX7_bits_10 : decode cX7_bits 10 = .ok (.iload_n 2, 1) := by decide +kernel
theorem dX7_bits_11 : decode cX7_bits 11 = .ok (.iconst 1, 1) := by decide +kernel
theorem dX7_bits_12 : decode cX7_bits 12 = .ok (.isub, 1) := by decide +kernel
theorem dX7_bits_13 : decode cX7_bits 13 = .ok (.invokevirtual 58, 3) := by decide +kernel
theorem dX7_bits_16 : decode cX7_bits 16 = .ok (.ifCond .ne 9, 3) := by decide +kernel
theorem dX7_bits_19 : decode cX7_bits 19 = .ok (.iinc 2 (-1), 3) := by decide +kernel
theorem dX7_bits_22 : decode cX7_bits 22 = .ok (.goto (-18), 3) := by decide +kernel
theorem dX7_bits_25 : decode cX7_bits 25 = .ok (.iload_n 2, 1) := by decide +kernel
theorem dX7_bits_26 : decode cX7_bits 26 = .ok (.ireturn, 1) := by decide +kernel
set_option maxRecDepth 20000 in
theorem ggX7_quotient_X7_bits : GoodIn wsX7_quotient wsX7_bits := goodIn_r _ [7, 8, 9, 10, 6, 11, 1, 29, 30, 31, 32, 33, 34, 35, 36, 37, 38, 39, 40, 41, 42, 43, 44, 45, 46] (by decide +kernel) (by decide +kernel)
set_option maxRecDepth 20000 in
theorem gX7_quotient_X7_bits : GoodIn wsX7_quotient (wsV RX7 62 RX7 yX7_bits wsX7_bits) := goodIn_app (goodIn_of _ (by decide +kernel)) ggX7_quotient_X7_bits
set_option maxRecDepth 20000 in
theorem ggX7_quotient_X7_set : GoodIn wsX7_quotient wsX7_set := goodIn_r _ [15, 1, 16, 29, 30, 31, 32, 33, 34, 35, 36, 37, 38, 39, 40, 41, 42, 43, 44, 45, 46] (by decide +kernel) (by decide +kernel)
set_option maxRecDepth 20000 in
theorem gX7_quotient_X7_set : GoodIn wsX7_quotient (wsV RX7 66 RX7 yX7_set wsX7_set) := goodIn_app (goodIn_of _ (by decide +kernel)) ggX7_quotient_X7_set
set_option maxRecDepth 20000 in
theorem ggX7_quotient_X7_bitOf : GoodIn wsX7_quotient wsX7_bitOf := goodIn_r _ [11, 1, 29, 30, 31, 32, 33, 34, 35, 36, 37, 38, 39, 40, 41, 42, 43, 44, 45, 46] (by decide +kernel) (by decide +kernel)
set_option maxRecDepth 20000 in
theorem gX7_quotient_X7_bitOf : GoodIn wsX7_quotient (wsV RX7 58 RX7 yX7_bitOf wsX7_bitOf) := goodIn_app (goodIn_of _ (by decide +kernel)) ggX7_quotient_X7_bitOf
set_option maxRecDepth 20000 in
theorem ggX7_quotient_X7_twice : GoodIn wsX7_quotient wsX7_twice := goodIn_r _ [20, 1, 2, 29, 30, 31, 32, 33, 34, 35, 36, 37, 38, 39, 40, 41, 42, 43, 44, 45, 46] (by decide +kernel) (by decide +kernel)
set_option maxRecDepth 20000 in
theorem gX7_quotient_X7_twice : GoodIn wsX7_quotient (wsV RX7 70 RX7 yX7_twice wsX7_twice) := goodIn_app (goodIn_of _ (by decide +kernel)) ggX7_quotient_X7_twice
set_option maxRecDepth 20000 in
theorem ggX7_quotient_X7_compare : GoodIn wsX7_quotient wsX7_compare := goodIn_r _ [24, 1, 29, 30, 31, 32, 33, 34, 35, 36, 37, 38, 39, 40, 41, 42, 43, 44, 45, 46] (by decide +kernel) (by decide +kernel)
set_option maxRecDepth 20000 in
theorem gX7_quotient_X7_compare : GoodIn wsX7_quotient (wsV RX7 74 RX7 yX7_compare wsX7_compare) := goodIn_app (goodIn_of _ (by decide +kernel)) ggX7_quotient_X7_compare
set_option maxRecDepth 20000 in
theorem ggX7_quotient_X7_lessen : GoodIn wsX7_quotient wsX7_lessen := goodIn_r _ [28, 1, 2, 29, 30, 31, 32, 33, 34, 35, 36, 37, 38, 39, 40, 41, 42, 43, 44, 45, 46] (by decide +kernel) (by decide +kernel)
set_option maxRecDepth 20000 in
theorem gX7_quotient_X7_lessen : GoodIn wsX7_quotient (wsV RX7 77 RX7 yX7_lessen wsX7_lessen) := goodIn_app (goodIn_of _ (by decide +kernel)) ggX7_quotient_X7_lessen
theorem dX7_quotient_0 : decode cX7_quotient 0 = .ok (.aload_n 0, 1) := by decide +kernel
theorem dX7_quotient_1 : decode cX7_quotient 1 = .ok (.iload_n 1, 1) := by decide +kernel
theorem dX7_quotient_2 : decode cX7_quotient 2 = .ok (.invokevirtual 62, 3) := by decide +kernel
theorem dX7_quotient_5 : decode cX7_quotient 5 = .ok (.aload_n 0, 1) := by decide +kernel
theorem dX7_quotient_6 : decode cX7_quotient 6 = .ok (.iload_n 2, 1) := by decide +kernel
theorem dX7_quotient_7 : decode cX7_quotient 7 = .ok (.invokevirtual 62, 3) := by decide +kernel
theorem dX7_quotient_10 : decode cX7_quotient 10 = .ok (.isub, 1) := by decide +kernel
theorem dX7_quotient_11 : decode cX7_quotient 11 = .ok (.iconst 1, 1) := by decide +kernel
theorem dX7_quotient_12 : decode cX7_quotient 12 = .ok (.iadd, 1) := by decide +kernel
theorem dX7_quotient_13 : decode cX7_quotient 13 = .ok (.istore_n 3, 1) := by decide +kernel
theorem dX7_quotient_14 : decode cX7_quotient 14 = .ok (.iload_n 3, 1) := by decide +kernel
theorem dX7_quotient_15 : decode cX7_quotient 15 = .ok (.ifCond .ge 7, 3) := by decide +kernel
theorem dX7_quotient_18 : decode cX7_quotient 18 = .ok (.iconst 0, 1) := by decide +kernel
theorem dX7_quotient_19 : decode cX7_quotient 19 = .ok (.goto 4, 3) := by decide +kernel
theorem dX7_quotient_22 : decode cX7_quotient 22 = .ok (.iload_n 3, 1) := by decide +kernel
theorem dX7_quotient_23 : decode cX7_quotient 23 = .ok (.istore_n 3, 1) := by decide +kernel
theorem dX7_quotient_24 : decode cX7_quotient 24 = .ok (.aload_n 0, 1) := by decide +kernel
theorem dX7_quotient_25 : decode cX7_quotient 25 = .ok (.sipush 856, 3) := by decide +kernel
theorem dX7_quotient_28 : decode cX7_quotient 28 = .ok (.lconst 0, 1) := by decide +kernel
theorem dX7_quotient_29 : decode cX7_quotient 29 = .ok (.invokevirtual 66, 3) := by decide +kernel
theorem dX7_quotient_32 : decode cX7_quotient 32 = .ok (.iconst 0, 1) := by decide +kernel
theorem dX7_quotient_33 : decode cX7_quotient 33 = .ok (.istore 4, 2) := by decide +kernel
theorem dX7_quotient_35 : decode cX7_quotient 35 = .ok (.iload 4, 2) := by decide +kernel
theorem dX7_quotient_37 : decode cX7_quotient 37 = .ok (.bipush 12, 2) := by decide +kernel
theorem dX7_quotient_39 : decode cX7_quotient 39 = .ok (.if_icmp .ge 110, 3) := by decide +kernel
theorem dX7_quotient_42 : decode cX7_quotient 42 = .ok (.iload 4, 2) := by decide +kernel
theorem dX7_quotient_44 : decode cX7_quotient 44 = .ok (.iload_n 3, 1) := by decide +kernel
theorem dX7_quotient_45 : decode cX7_quotient 45 = .ok (.bipush 16, 2) := by decide +kernel
theorem dX7_quotient_47 : decode cX7_quotient 47 = .ok (.idiv, 1) := by decide +kernel
theorem dX7_quotient_48 : decode cX7_quotient 48 = .ok (.iadd, 1) := by decide +kernel
theorem dX7_quotient_49 : decode cX7_quotient 49 = .ok (.bipush 12, 2) := by decide +kernel
theorem dX7_quotient_51 : decode cX7_quotient 51 = .ok (.if_icmp .ge 23, 3) := by decide +kernel
theorem dX7_quotient_54 : decode cX7_quotient 54 = .ok (.aload_n 0, 1) := by decide +kernel
theorem dX7_quotient_55 : decode cX7_quotient 55 = .ok (.getfield 7, 3) := by decide +kernel
theorem dX7_quotient_58 : decode cX7_quotient 58 = .ok (.bipush 12, 2) := by decide +kernel
theorem dX7_quotient_60 : decode cX7_quotient 60 = .ok (.iload_n 1, 1) := by decide +kernel
theorem dX7_quotient_61 : decode cX7_quotient 61 = .ok (.imul, 1) := by decide +kernel
theorem dX7_quotient_62 : decode cX7_quotient 62 = .ok (.iload 4, 2) := by decide +kernel
theorem dX7_quotient_64 : decode cX7_quotient 64 = .ok (.iadd, 1) := by decide +kernel
theorem dX7_quotient_65 : decode cX7_quotient 65 = .ok (.iload_n 3, 1) := by decide +kernel
theorem dX7_quotient_66 : decode cX7_quotient 66 = .ok (.bipush 16, 2) := by decide +kernel
theorem dX7_quotient_68 : decode cX7_quotient 68 = .ok (.idiv, 1) := by decide +kernel
theorem dX7_quotient_69 : decode cX7_quotient 69 = .ok (.iadd, 1) := by decide +kernel
theorem dX7_quotient_70 : decode cX7_quotient 70 = .ok (.iaload, 1) := by decide +kernel
theorem dX7_quotient_71 : decode cX7_quotient 71 = .ok (.goto 4, 3) := by decide +kernel
theorem dX7_quotient_74 : decode cX7_quotient 74 = .ok (.iconst 0, 1) := by decide +kernel
theorem dX7_quotient_75 : decode cX7_quotient 75 = .ok (.istore 5, 2) := by decide +kernel
theorem dX7_quotient_77 : decode cX7_quotient 77 = .ok (.iload 4, 2) := by decide +kernel
theorem dX7_quotient_79 : decode cX7_quotient 79 = .ok (.iconst 1, 1) := by decide +kernel
theorem dX7_quotient_80 : decode cX7_quotient 80 = .ok (.iadd, 1) := by decide +kernel
theorem dX7_quotient_81 : decode cX7_quotient 81 = .ok (.iload_n 3, 1) := by decide +kernel
theorem dX7_quotient_82 : decode cX7_quotient 82 = .ok (.bipush 16, 2) := by decide +kernel
theorem dX7_quotient_84 : decode cX7_quotient 84 = .ok (.idiv, 1) := by decide +kernel
theorem dX7_quotient_85 : decode cX7_quotient 85 = .ok (.iadd, 1) := by decide +kernel
theorem dX7_quotient_86 : decode cX7_quotient 86 = .ok (.bipush 12, 2) := by decide +kernel
theorem dX7_quotient_88 : decode cX7_quotient 88 = .ok (.if_icmp .ge 25, 3) := by decide +kernel
theorem dX7_quotient_91 : decode cX7_quotient 91 = .ok (.aload_n 0, 1) := by decide +kernel
theorem dX7_quotient_92 : decode cX7_quotient 92 = .ok (.getfield 7, 3) := by decide +kernel
theorem dX7_quotient_95 : decode cX7_quotient 95 = .ok (.bipush 12, 2) := by decide +kernel
theorem dX7_quotient_97 : decode cX7_quotient 97 = .ok (.iload_n 1, 1) := by decide +kernel
theorem dX7_quotient_98 : decode cX7_quotient 98 = .ok (.imul, 1) := by decide +kernel
theorem dX7_quotient_99 : decode cX7_quotient 99 = .ok (.iload 4, 2) := by decide +kernel
theorem dX7_quotient_101 : decode cX7_quotient 101 = .ok (.iadd, 1) := by decide +kernel
theorem dX7_quotient_102 : decode cX7_quotient 102 = .ok (.iconst 1, 1) := by decide +kernel
theorem dX7_quotient_103 : decode cX7_quotient 103 = .ok (.iadd, 1) := by decide +kernel
theorem dX7_quotient_104 : decode cX7_quotient 104 = .ok (.iload_n 3, 1) := by decide +kernel
theorem dX7_quotient_105 : decode cX7_quotient 105 = .ok (.bipush 16, 2) := by decide +kernel
theorem dX7_quotient_107 : decode cX7_quotient 107 = .ok (.idiv, 1) := by decide +kernel
theorem dX7_quotient_108 : decode cX7_quotient 108 = .ok (.iadd, 1) := by decide +kernel
theorem dX7_quotient_109 : decode cX7_quotient 109 = .ok (.iaload, 1) := by decide +kernel
theorem dX7_quotient_110 : decode cX7_quotient 110 = .ok (.goto 4, 3) := by decide +kernel
theorem dX7_quotient_113 : decode cX7_quotient 113 = .ok (.iconst 0, 1) := by decide +kernel
theorem dX7_quotient_114 : decode cX7_quotient 114 = .ok (.istore 6, 2) := by decide +kernel
theorem dX7_quotient_116 : decode cX7_quotient 116 = .ok (.aload_n 0, 1) := by decide +kernel
theorem dX7_quotient_117 : decode cX7_quotient 117 = .ok (.getfield 7, 3) := by decide +kernel
theorem dX7_quotient_120 : decode cX7_quotient 120 = .ok (.sipush 10284, 3) := by decide +kernel
theorem dX7_quotient_123 : decode cX7_quotient 123 = .ok (.iload 4, 2) := by decide +kernel
theorem dX7_quotient_125 : decode cX7_quotient 125 = .ok (.iadd, 1) := by decide +kernel
theorem dX7_quotient_126 : decode cX7_quotient 126 = .ok (.iload 5, 2) := by decide +kernel
theorem dX7_quotient_128 : decode cX7_quotient 128 = .ok (.iload 6, 2) := by decide +kernel
theorem dX7_quotient_130 : decode cX7_quotient 130 = .ok (.bipush 16, 2) := by decide +kernel
theorem dX7_quotient_132 : decode cX7_quotient 132 = .ok (.ishl, 1) := by decide +kernel
theorem dX7_quotient_133 : decode cX7_quotient 133 = .ok (.ior, 1) := by decide +kernel
theorem dX7_quotient_134 : decode cX7_quotient 134 = .ok (.iload_n 3, 1) := by decide +kernel
theorem dX7_quotient_135 : decode cX7_quotient 135 = .ok (.bipush 16, 2) := by decide +kernel
theorem dX7_quotient_137 : decode cX7_quotient 137 = .ok (.irem, 1) := by decide +kernel
theorem dX7_quotient_138 : decode cX7_quotient 138 = .ok (.iushr, 1) := by decide +kernel
theorem dX7_quotient_139 : decode cX7_quotient 139 = .ok (.ldc 56, 2) := by decide +kernel
theorem dX7_quotient_141 : decode cX7_quotient 141 = .ok (.iand, 1) := by decide +kernel
theorem dX7_quotient_142 : decode cX7_quotient 142 = .ok (.iastore, 1) := by decide +kernel
theorem dX7_quotient_143 : decode cX7_quotient 143 = .ok (.iinc 4 1, 3) := by decide +kernel
theorem dX7_quotient_146 : decode cX7_quotient 146 = .ok (.goto (-111), 3) := by decide +kernel
theorem dX7_quotient_149 : decode cX7_quotient 149 = .ok (.iload_n 3, 1) := by decide +kernel
theorem dX7_quotient_150 : decode cX7_quotient 150 = .ok (.iconst 1, 1) := by decide +kernel
theorem dX7_quotient_151 : decode cX7_quotient 151 = .ok (.isub, 1) := by decide +kernel
theorem dX7_quotient_152 : decode cX7_quotient 152 = .ok (.istore 4, 2) := by decide +kernel
theorem dX7_quotient_154 : decode cX7_quotient 154 = .ok (.iload 4, 2) := by decide +kernel
theorem dX7_quotient_156 : decode cX7_quotient 156 = .ok (.ifCond .lt 74, 3) := by decide +kernel
theorem dX7_quotient_159 : decode cX7_quotient 159 = .ok (.aload_n 0, 1) := by decide +kernel
theorem dX7_quotient_160 : decode cX7_quotient 160 = .ok (.sipush 857, 3) := by decide +kernel
theorem dX7_quotient_163 : decode cX7_quotient 163 = .ok (.aload_n 0, 1) := by decide +kernel
theorem dX7_quotient_164 : decode cX7_quotient 164 = .ok (.iload_n 1, 1) := by decide +kernel
theorem dX7_quotient_165 : decode cX7_quotient 165 = .ok (.iload 4, 2) := by decide +kernel
theorem dX7_quotient_167 : decode cX7_quotient 167 = .ok (.invokevirtual 58, 3) := by decide +kernel
theorem dX7_quotient_170 : decode cX7_quotient 170 = .ok (.invokevirtual 70, 3) := by decide +kernel
theorem dX7_quotient_173 : decode cX7_quotient 173 = .ok (.aload_n 0, 1) := by decide +kernel
theorem dX7_quotient_174 : decode cX7_quotient 174 = .ok (.sipush 857, 3) := by decide +kernel
theorem dX7_quotient_177 : decode cX7_quotient 177 = .ok (.iload_n 2, 1) := by decide +kernel
theorem dX7_quotient_178 : decode cX7_quotient 178 = .ok (.invokevirtual 74, 3) := by decide +kernel
theorem dX7_quotient_181 : decode cX7_quotient 181 = .ok (.ifCond .lt 7, 3) := by decide +kernel
theorem dX7_quotient_184 : decode cX7_quotient 184 = .ok (.iconst 1, 1) := by decide +kernel
theorem dX7_quotient_185 : decode cX7_quotient 185 = .ok (.goto 4, 3) := by decide +kernel
theorem dX7_quotient_188 : decode cX7_quotient 188 = .ok (.iconst 0, 1) := by decide +kernel
theorem dX7_quotient_189 : decode cX7_quotient 189 = .ok (.istore 5, 2) := by decide +kernel
theorem dX7_quotient_191 : decode cX7_quotient 191 = .ok (.iload 5, 2) := by decide +kernel
theorem dX7_quotient_193 : decode cX7_quotient 193 = .ok (.ifCond .eq 14, 3) := by decide +kernel
theorem dX7_quotient_196 : decode cX7_quotient 196 = .ok (.aload_n 0, 1) := by decide +kernel
theorem dX7_quotient_197 : decode cX7_quotient 197 = .ok (.sipush 857, 3) := by decide +kernel
theorem dX7_quotient_200 : decode cX7_quotient 200 = .ok (.sipush 857, 3) := by decide +kernel
theorem dX7_quotient_203 : decode cX7_quotient 203 = .ok (.iload_n 2, 1) := by decide +kernel
theorem dX7_quotient_204 : decode cX7_quotient 204 = .ok (.invokevirtual 77, 3) := by decide +kernel
theorem dX7_quotient_207 : decode cX7_quotient 207 = .ok (.aload_n 0, 1) := by decide +kernel
theorem dX7_quotient_208 : decode cX7_quotient 208 = .ok (.sipush 856, 3) := by decide +kernel
theorem dX7_quotient_211 : decode cX7_quotient 211 = .ok (.iload 5, 2) := by decide +kernel
theorem dX7_quotient_213 : decode cX7_quotient 213 = .ok (.ifCond .eq 7, 3) := by decide +kernel
theorem dX7_quotient_216 : decode cX7_quotient 216 = .ok (.iconst 1, 1) := by decide +kernel
theorem dX7_quotient_217 : decode cX7_quotient 217 = .ok (.goto 4, 3) := by decide +kernel
theorem dX7_quotient_220 : decode cX7_quotient 220 = .ok (.iconst 0, 1) := by decide +kernel
theorem dX7_quotient_221 : decode cX7_quotient 221 = .ok (.invokevirtual 70, 3) := by decide +kernel
theorem dX7_quotient_224 : decode cX7_quotient 224 = .ok (.iinc 4 (-1), 3) := by decide +kernel
theorem dX7_quotient_227 : decode cX7_quotient 227 = .ok (.goto (-73), 3) := by decide +kernel
theorem dX7_quotient_230 : decode cX7_quotient 230 = .ok (.return_, 1) := by decide +kernel
set_option maxRecDepth 20000 in
theorem ggX7_reduce_X7_copy : GoodIn wsX7_reduce wsX7_copy := goodIn_r _ [5, 6, 41, 42, 43, 44, 45, 46, 47, 48, 49, 50, 51, 52, 53, 54, 55, 56, 57, 58] (by decide +kernel) (by decide +kernel)
set_option maxRecDepth 20000 in
theorem gX7_reduce_X7_copy : GoodIn wsX7_reduce (wsV RX7 81 RX7 yX7_copy wsX7_copy) := goodIn_app (goodIn_of _ (by decide +kernel)) ggX7_reduce_X7_copy
set_option maxRecDepth 20000 in
theorem ggX7_reduce_X7_isNone : GoodIn wsX7_reduce wsX7_isNone := goodIn_r _ [10, 6, 41, 42, 43, 44, 45, 46, 47, 48, 49, 50, 51, 52, 53, 54, 55, 56, 57, 58] (by decide +kernel) (by decide +kernel)
set_option maxRecDepth 20000 in
theorem gX7_reduce_X7_isNone : GoodIn wsX7_reduce (wsV RX7 84 RX7 yX7_isNone wsX7_isNone) := goodIn_app (goodIn_of _ (by decide +kernel)) ggX7_reduce_X7_isNone
set_option maxRecDepth 20000 in
theorem ggX7_reduce_X7_quotient : GoodIn wsX7_reduce wsX7_quotient := goodIn_r _ [14, 6, 15, 16, 17, 18, 4, 19, 20, 21, 22, 23, 24, 25, 26, 27, 28, 29, 30, 31, 32, 33, 34, 35, 36, 37, 38, 39, 40, 41, 42, 43, 44, 45, 46, 47, 48, 49, 50, 51, 52, 53, 54, 55, 56, 57, 58] (by decide +kernel) (by decide +kernel)
set_option maxRecDepth 20000 in
theorem gX7_reduce_X7_quotient : GoodIn wsX7_reduce (wsV RX7 88 RX7 yX7_quotient wsX7_quotient) := goodIn_app (goodIn_of _ (by decide +kernel)) ggX7_reduce_X7_quotient
theorem dX7_reduce_0 : decode cX7_reduce 0 = .ok (.aload_n 0, 1) := by decide +kernel
theorem dX7_reduce_1 : decode cX7_reduce 1 = .ok (.sipush 854, 3) := by decide +kernel
theorem dX7_reduce_4 : decode cX7_reduce 4 = .ok (.iload_n 1, 1) := by decide +kernel
theorem dX7_reduce_5 : decode cX7_reduce 5 = .ok (.invokevirtual 81, 3) := by decide +kernel
theorem dX7_reduce_8 : decode cX7_reduce 8 = .ok (.aload_n 0, 1) := by decide +kernel
theorem dX7_reduce_9 : decode cX7_reduce 9 = .ok (.sipush 855, 3) := by decide +kernel
theorem dX7_reduce_12 : decode cX7_reduce 12 = .ok (.iload_n 2, 1) := by decide +kernel
theorem dX7_reduce_13 : decode cX7_reduce 13 = .ok (.invokevirtual 81, 3) := by decide +kernel
theorem dX7_reduce_16 : decode cX7_reduce 16 = .ok (.aload_n 0, 1) := by decide +kernel
theorem dX7_reduce_17 : decode cX7_reduce 17 = .ok (.sipush 855, 3) := by decide +kernel
theorem dX7_reduce_20 : decode cX7_reduce 20 = .ok (.invokevirtual 84, 3) := by decide +kernel
theorem dX7_reduce_23 : decode cX7_reduce 23 = .ok (.ifCond .ne 36, 3) := by decide +kernel
theorem dX7_reduce_26 : decode cX7_reduce 26 = .ok (.aload_n 0, 1) := by decide +kernel
theorem dX7_reduce_27 : decode cX7_reduce 27 = .ok (.sipush 854, 3) := by decide +kernel
theorem dX7_reduce_30 : decode cX7_reduce 30 = .ok (.sipush 855, 3) := by decide +kernel
theorem dX7_reduce_33 : decode cX7_reduce 33 = .ok (.invokevirtual 88, 3) := by decide +kernel
theorem dX7_reduce_36 : decode cX7_reduce 36 = .ok (.aload_n 0, 1) := by decide +kernel
theorem dX7_reduce_37 : decode cX7_reduce 37 = .ok (.sipush 854, 3) := by decide +kernel
theorem dX7_reduce_40 : decode cX7_reduce 40 = .ok (.sipush 855, 3) := by decide +kernel
theorem dX7_reduce_43 : decode cX7_reduce 43 = .ok (.invokevirtual 81, 3) := by decide +kernel
theorem dX7_reduce_46 : decode cX7_reduce 46 = .ok (.aload_n 0, 1) := by decide +kernel
theorem dX7_reduce_47 : decode cX7_reduce 47 = .ok (.sipush 855, 3) := by decide +kernel
theorem dX7_reduce_50 : decode cX7_reduce 50 = .ok (.sipush 857, 3) := by decide +kernel
theorem dX7_reduce_53 : decode cX7_reduce 53 = .ok (.invokevirtual 81, 3) := by decide +kernel
theorem dX7_reduce_56 : decode cX7_reduce 56 = .ok (.goto (-40), 3) := by decide +kernel
theorem dX7_reduce_59 : decode cX7_reduce 59 = .ok (.aload_n 0, 1) := by decide +kernel
theorem dX7_reduce_60 : decode cX7_reduce 60 = .ok (.iload_n 1, 1) := by decide +kernel
theorem dX7_reduce_61 : decode cX7_reduce 61 = .ok (.sipush 854, 3) := by decide +kernel
theorem dX7_reduce_64 : decode cX7_reduce 64 = .ok (.invokevirtual 88, 3) := by decide +kernel
theorem dX7_reduce_67 : decode cX7_reduce 67 = .ok (.aload_n 0, 1) := by decide +kernel
theorem dX7_reduce_68 : decode cX7_reduce 68 = .ok (.sipush 852, 3) := by decide +kernel
theorem dX7_reduce_71 : decode cX7_reduce 71 = .ok (.sipush 856, 3) := by decide +kernel
theorem dX7_reduce_74 : decode cX7_reduce 74 = .ok (.invokevirtual 81, 3) := by decide +kernel
theorem dX7_reduce_77 : decode cX7_reduce 77 = .ok (.aload_n 0, 1) := by decide +kernel
theorem dX7_reduce_78 : decode cX7_reduce 78 = .ok (.iload_n 2, 1) := by decide +kernel
theorem dX7_reduce_79 : decode cX7_reduce 79 = .ok (.sipush 854, 3) := by decide +kernel
theorem dX7_reduce_82 : decode cX7_reduce 82 = .ok (.invokevirtual 88, 3) := by decide +kernel
theorem dX7_reduce_85 : decode cX7_reduce 85 = .ok (.aload_n 0, 1) := by decide +kernel
theorem dX7_reduce_86 : decode cX7_reduce 86 = .ok (.sipush 853, 3) := by decide +kernel
theorem dX7_reduce_89 : decode cX7_reduce 89 = .ok (.sipush 856, 3) := by decide +kernel
theorem dX7_reduce_92 : decode cX7_reduce 92 = .ok (.invokevirtual 81, 3) := by decide +kernel
theorem dX7_reduce_95 : decode cX7_reduce 95 = .ok (.return_, 1) := by decide +kernel
theorem dX7_within_0 : decode cX7_within 0 = .ok (.iload_n 0, 1) := by decide +kernel
theorem dX7_within_1 : decode cX7_within 1 = .ok (.iload_n 1, 1) := by decide +kernel
theorem dX7_within_2 : decode cX7_within 2 = .ok (.if_icmp .lt 12, 3) := by decide +kernel
theorem dX7_within_5 : decode cX7_within 5 = .ok (.iload_n 0, 1) := by decide +kernel
theorem dX7_within_6 : decode cX7_within 6 = .ok (.iload_n 2, 1) := by decide +kernel
theorem dX7_within_7 : decode cX7_within 7 = .ok (.if_icmp .gt 7, 3) := by decide +kernel
theorem dX7_within_10 : decode cX7_within 10 = .ok (.iconst 1, 1) := by decide +kernel
theorem dX7_within_11 : decode cX7_within 11 = .ok (.goto 4, 3) := by decide +kernel
theorem dX7_within_14 : decode cX7_within 14 = .ok (.iconst 0, 1) := by decide +kernel
theorem dX7_within_15 : decode cX7_within 15 = .ok (.ireturn, 1) := by decide +kernel
set_option maxRecDepth 20000 in
theorem ggX7_project_X7_within : GoodIn wsX7_project wsX7_within := goodIn_r _ [7] (by decide +kernel) (by decide +kernel)
set_option maxRecDepth 20000 in
theorem gX7_project_X7_within : GoodIn wsX7_project (va_wsS RX7 91 yX7_within wsX7_within) := goodIn_app (goodIn_of _ (by decide +kernel)) ggX7_project_X7_within
theorem dX7_project_0 : decode cX7_project 0 = .ok (.aload_n 0, 1) := by decide +kernel
theorem dX7_project_1 : decode cX7_project 1 = .ok (.iconst 0, 1) := by decide +kernel
theorem dX7_project_2 : decode cX7_project 2 = .ok (.putfield 51, 3) := by decide +kernel
theorem dX7_project_5 : decode cX7_project 5 = .ok (.iload_n 1, 1) := by decide +kernel
theorem dX7_project_6 : decode cX7_project 6 = .ok (.iconst 0, 1) := by decide +kernel
theorem dX7_project_7 : decode cX7_project 7 = .ok (.bipush 15, 2) := by decide +kernel
theorem dX7_project_9 : decode cX7_project 9 = .ok (.invokestatic 91, 3) := by decide +kernel
theorem dX7_project_12 : decode cX7_project 12 = .ok (.ifCond .eq 13, 3) := by decide +kernel
theorem dX7_project_15 : decode cX7_project 15 = .ok (.iload_n 2, 1) := by decide +kernel
theorem dX7_project_16 : decode cX7_project 16 = .ok (.iconst 1, 1) := by decide +kernel
theorem dX7_project_17 : decode cX7_project 17 = .ok (.ldc 95, 2) := by decide +kernel
theorem dX7_project_19 : decode cX7_project 19 = .ok (.invokestatic 91, 3) := by decide +kernel
theorem dX7_project_22 : decode cX7_project 22 = .ok (.ifCond .ne 5, 3) := by decide +kernel
theorem dX7_project_25 : decode cX7_project 25 = .ok (.iconst 0, 1) := by decide +kernel
theorem dX7_project_26 : decode cX7_project 26 = .ok (.ireturn, 1) := by decide +kernel
theorem dX7_project_27 : decode cX7_project 27 = .ok (.aload_n 0, 1) := by decide +kernel
theorem dX7_project_28 : decode cX7_project 28 = .ok (.getfield 13, 3) := by decide +kernel
theorem dX7_project_31 : decode cX7_project 31 = .ok (.iload_n 1, 1) := by decide +kernel
theorem dX7_project_32 : decode cX7_project 32 = .ok (.iload_n 2, 1) := by decide +kernel
theorem dX7_project_33 : decode cX7_project 33 = .ok (.iastore, 1) := by decide +kernel
theorem dX7_project_34 : decode cX7_project 34 = .ok (.iconst 1, 1) := by decide +kernel
theorem dX7_project_35 : decode cX7_project 35 = .ok (.ireturn, 1) := by decide +kernel
set_option maxRecDepth 20000 in
theorem ggX7_drop_X7_within : GoodIn wsX7_drop wsX7_within := goodIn_r _ [6] (by decide +kernel) (by decide +kernel)
set_option maxRecDepth 20000 in
theorem gX7_drop_X7_within : GoodIn wsX7_drop (va_wsS RX7 91 yX7_within wsX7_within) := goodIn_app (goodIn_of _ (by decide +kernel)) ggX7_drop_X7_within
theorem dX7_drop_0 : decode cX7_drop 0 = .ok (.aload_n 0, 1) := by decide +kernel
theorem dX7_drop_1 : decode cX7_drop 1 = .ok (.iconst 0, 1) := by decide +kernel
theorem dX7_drop_2 : decode cX7_drop 2 = .ok (.putfield 51, 3) := by decide +kernel
theorem dX7_drop_5 : decode cX7_drop 5 = .ok (.iload_n 1, 1) := by decide +kernel
theorem dX7_drop_6 : decode cX7_drop 6 = .ok (.iconst 0, 1) := by decide +kernel
theorem dX7_drop_7 : decode cX7_drop 7 = .ok (.bipush 15, 2) := by decide +kernel
theorem dX7_drop_9 : decode cX7_drop 9 = .ok (.invokestatic 91, 3) := by decide +kernel
theorem dX7_drop_12 : decode cX7_drop 12 = .ok (.ifCond .eq 12, 3) := by decide +kernel
theorem dX7_drop_15 : decode cX7_drop 15 = .ok (.aload_n 0, 1) := by decide +kernel
theorem dX7_drop_16 : decode cX7_drop 16 = .ok (.getfield 13, 3) := by decide +kernel
theorem dX7_drop_19 : decode cX7_drop 19 = .ok (.iload_n 1, 1) := by decide +kernel
theorem dX7_drop_20 : decode cX7_drop 20 = .ok (.iaload, 1) := by decide +kernel
theorem dX7_drop_21 : decode cX7_drop 21 = .ok (.ifCond .ne 5, 3) := by decide +kernel
theorem dX7_drop_24 : decode cX7_drop 24 = .ok (.iconst 0, 1) := by decide +kernel
theorem dX7_drop_25 : decode cX7_drop 25 = .ok (.ireturn, 1) := by decide +kernel
theorem dX7_drop_26 : decode cX7_drop 26 = .ok (.aload_n 0, 1) := by decide +kernel
theorem dX7_drop_27 : decode cX7_drop 27 = .ok (.getfield 13, 3) := by decide +kernel
theorem dX7_drop_30 : decode cX7_drop 30 = .ok (.iload_n 1, 1) := by decide +kernel
theorem dX7_drop_31 : decode cX7_drop 31 = .ok (.iconst 0, 1) := by decide +kernel
theorem dX7_drop_32 : decode cX7_drop 32 = .ok (.iastore, 1) := by decide +kernel
theorem dX7_drop_33 : decode cX7_drop 33 = .ok (.iconst 1, 1) := by decide +kernel
theorem dX7_drop_34 : decode cX7_drop 34 = .ok (.ireturn, 1) := by decide +kernel
set_option maxRecDepth 20000 in
theorem ggX7_budget_X7_within : GoodIn wsX7_budget wsX7_within := goodIn_r _ [7] (by decide +kernel) (by decide +kernel)
set_option maxRecDepth 20000 in
theorem gX7_budget_X7_within : GoodIn wsX7_budget (va_wsS RX7 91 yX7_within wsX7_within) := goodIn_app (goodIn_of _ (by decide +kernel)) ggX7_budget_X7_within
theorem dX7_budget_0 : decode cX7_budget 0 = .ok (.aload_n 0, 1) := by decide +kernel
theorem dX7_budget_1 : decode cX7_budget 1 = .ok (.iconst 0, 1) := by decide +kernel
theorem dX7_budget_2 : decode cX7_budget 2 = .ok (.putfield 51, 3) := by decide +kernel
theorem dX7_budget_5 : decode cX7_budget 5 = .ok (.iload_n 1, 1) := by decide +kernel
theorem dX7_budget_6 : decode cX7_budget 6 = .ok (.iconst 1, 1) := by decide +kernel
theorem dX7_budget_7 : decode cX7_budget 7 = .ok (.ldc 96, 2) := by decide +kernel
theorem dX7_budget_9 : decode cX7_budget 9 = .ok (.invokestatic 91, 3) := by decide +kernel
theorem dX7_budget_12 : decode cX7_budget 12 = .ok (.ifCond .ne 5, 3) := by decide +kernel
theorem dX7_budget_15 : decode cX7_budget 15 = .ok (.iconst 0, 1) := by decide +kernel
theorem dX7_budget_16 : decode cX7_budget 16 = .ok (.ireturn, 1) := by decide +kernel
theorem dX7_budget_17 : decode cX7_budget 17 = .ok (.aload_n 0, 1) := by decide +kernel
theorem dX7_budget_18 : decode cX7_budget 18 = .ok (.iload_n 1, 1) := by decide +kernel
theorem dX7_budget_19 : decode cX7_budget 19 = .ok (.putfield 23, 3) := by decide +kernel
theorem dX7_budget_22 : decode cX7_budget 22 = .ok (.iconst 1, 1) := by decide +kernel
theorem dX7_budget_23 : decode cX7_budget 23 = .ok (.ireturn, 1) := by decide +kernel
set_option maxRecDepth 20000 in
theorem ggX7_voter_X7_within : GoodIn wsX7_voter wsX7_within := goodIn_r _ [7] (by decide +kernel) (by decide +kernel)
set_option maxRecDepth 20000 in
theorem gX7_voter_X7_within : GoodIn wsX7_voter (va_wsS RX7 91 yX7_within wsX7_within) := goodIn_app (goodIn_of _ (by decide +kernel)) ggX7_voter_X7_within
theorem dX7_voter_0 : decode cX7_voter 0 = .ok (.aload_n 0, 1) := by decide +kernel
theorem dX7_voter_1 : decode cX7_voter 1 = .ok (.iconst 0, 1) := by decide +kernel
theorem dX7_voter_2 : decode cX7_voter 2 = .ok (.putfield 51, 3) := by decide +kernel
theorem dX7_voter_5 : decode cX7_voter 5 = .ok (.iload_n 1, 1) := by decide +kernel
theorem dX7_voter_6 : decode cX7_voter 6 = .ok (.iconst 0, 1) := by decide +kernel
theorem dX7_voter_7 : decode cX7_voter 7 = .ok (.bipush 47, 2) := by decide +kernel
theorem dX7_voter_9 : decode cX7_voter 9 = .ok (.invokestatic 91, 3) := by decide +kernel
theorem dX7_voter_12 : decode cX7_voter 12 = .ok (.ifCond .eq 12, 3) := by decide +kernel
theorem dX7_voter_15 : decode cX7_voter 15 = .ok (.aload_n 0, 1) := by decide +kernel
theorem dX7_voter_16 : decode cX7_voter 16 = .ok (.getfield 16, 3) := by decide +kernel
theorem dX7_voter_19 : decode cX7_voter 19 = .ok (.iload_n 1, 1) := by decide +kernel
theorem dX7_voter_20 : decode cX7_voter 20 = .ok (.baload, 1) := by decide +kernel
theorem dX7_voter_21 : decode cX7_voter 21 = .ok (.ifCond .eq 5, 3) := by decide +kernel
theorem dX7_voter_24 : decode cX7_voter 24 = .ok (.iconst 0, 1) := by decide +kernel
theorem dX7_voter_25 : decode cX7_voter 25 = .ok (.ireturn, 1) := by decide +kernel
theorem dX7_voter_26 : decode cX7_voter 26 = .ok (.aload_n 0, 1) := by decide +kernel
theorem dX7_voter_27 : decode cX7_voter 27 = .ok (.getfield 16, 3) := by decide +kernel
theorem dX7_voter_30 : decode cX7_voter 30 = .ok (.iload_n 1, 1) := by decide +kernel
theorem dX7_voter_31 : decode cX7_voter 31 = .ok (.iconst 1, 1) := by decide +kernel
theorem dX7_voter_32 : decode cX7_voter 32 = .ok (.bastore, 1) := by decide +kernel
theorem dX7_voter_33 : decode cX7_voter 33 = .ok (.aload_n 0, 1) := by decide +kernel
theorem dX7_voter_34 : decode cX7_voter 34 = .ok (.getfield 20, 3) := by decide +kernel
theorem dX7_voter_37 : decode cX7_voter 37 = .ok (.iload_n 1, 1) := by decide +kernel
theorem dX7_voter_38 : decode cX7_voter 38 = .ok (.iconst 0, 1) := by decide +kernel
theorem dX7_voter_39 : decode cX7_voter 39 = .ok (.iastore, 1) := by decide +kernel
theorem dX7_voter_40 : decode cX7_voter 40 = .ok (.iconst 1, 1) := by decide +kernel
theorem dX7_voter_41 : decode cX7_voter 41 = .ok (.ireturn, 1) := by decide +kernel
set_option maxRecDepth 20000 in
theorem ggX7_strike_X7_within : GoodIn wsX7_strike wsX7_within := goodIn_r _ [6] (by decide +kernel) (by decide +kernel)
set_option maxRecDepth 20000 in
theorem gX7_strike_X7_within : GoodIn wsX7_strike (va_wsS RX7 91 yX7_within wsX7_within) := goodIn_app (goodIn_of _ (by decide +kernel)) ggX7_strike_X7_within
theorem dX7_strike_0 : decode cX7_strike 0 = .ok (.aload_n 0, 1) := by decide +kernel
theorem dX7_strike_1 : decode cX7_strike 1 = .ok (.iconst 0, 1) := by decide +kernel
theorem dX7_strike_2 : decode cX7_strike 2 = .ok (.putfield 51, 3) := by decide +kernel
theorem dX7_strike_5 : decode cX7_strike 5 = .ok (.iload_n 1, 1) := by decide +kernel
theorem dX7_strike_6 : decode cX7_strike 6 = .ok (.iconst 0, 1) := by decide +kernel
theorem dX7_strike_7 : decode cX7_strike 7 = .ok (.bipush 47, 2) := by decide +kernel
theorem dX7_strike_9 : decode cX7_strike 9 = .ok (.invokestatic 91, 3) := by decide +kernel
theorem dX7_strike_12 : decode cX7_strike 12 = .ok (.ifCond .eq 12, 3) := by decide +kernel
theorem dX7_strike_15 : decode cX7_strike 15 = .ok (.aload_n 0, 1) := by decide +kernel
theorem dX7_strike_16 : decode cX7_strike 16 = .ok (.getfield 16, 3) := by decide +kernel
theorem dX7_strike_19 : decode cX7_strike 19 = .ok (.iload_n 1, 1) := by decide +kernel
theorem dX7_strike_20 : decode cX7_strike 20 = .ok (.baload, 1) := by decide +kernel
theorem dX7_strike_21 : decode cX7_strike 21 = .ok (.ifCond .ne 5, 3) := by decide +kernel
theorem dX7_strike_24 : decode cX7_strike 24 = .ok (.iconst 0, 1) := by decide +kernel
theorem dX7_strike_25 : decode cX7_strike 25 = .ok (.ireturn, 1) := by decide +kernel
theorem dX7_strike_26 : decode cX7_strike 26 = .ok (.aload_n 0, 1) := by decide +kernel
theorem dX7_strike_27 : decode cX7_strike 27 = .ok (.getfield 16, 3) := by decide +kernel
theorem dX7_strike_30 : decode cX7_strike 30 = .ok (.iload_n 1, 1) := by decide +kernel
theorem dX7_strike_31 : decode cX7_strike 31 = .ok (.iconst 0, 1) := by decide +kernel
theorem dX7_strike_32 : decode cX7_strike 32 = .ok (.bastore, 1) := by decide +kernel
theorem dX7_strike_33 : decode cX7_strike 33 = .ok (.iconst 1, 1) := by decide +kernel
theorem dX7_strike_34 : decode cX7_strike 34 = .ok (.ireturn, 1) := by decide +kernel
set_option maxRecDepth 20000 in
theorem ggX7_approve_X7_within : GoodIn wsX7_approve wsX7_within := goodIn_r _ [7] (by decide +kernel) (by decide +kernel)
set_option maxRecDepth 20000 in
theorem gX7_approve_X7_within : GoodIn wsX7_approve (va_wsS RX7 91 yX7_within wsX7_within) := goodIn_app (goodIn_of _ (by decide +kernel)) ggX7_approve_X7_within
theorem dX7_approve_0 : decode cX7_approve 0 = .ok (.aload_n 0, 1) := by decide +kernel
theorem dX7_approve_1 : decode cX7_approve 1 = .ok (.iconst 0, 1) := by decide +kernel
theorem dX7_approve_2 : decode cX7_approve 2 = .ok (.putfield 51, 3) := by decide +kernel
theorem dX7_approve_5 : decode cX7_approve 5 = .ok (.iload_n 1, 1) := by decide +kernel
theorem dX7_approve_6 : decode cX7_approve 6 = .ok (.iconst 0, 1) := by decide +kernel
theorem dX7_approve_7 : decode cX7_approve 7 = .ok (.bipush 47, 2) := by decide +kernel
theorem dX7_approve_9 : decode cX7_approve 9 = .ok (.invokestatic 91, 3) := by decide +kernel
theorem dX7_approve_12 : decode cX7_approve 12 = .ok (.ifCond .eq 22, 3) := by decide +kernel
theorem dX7_approve_15 : decode cX7_approve 15 = .ok (.aload_n 0, 1) := by decide +kernel
theorem dX7_approve_16 : decode cX7_approve 16 = .ok (.getfield 16, 3) := by decide +kernel
theorem dX7_approve_19 : decode cX7_approve 19 = .ok (.iload_n 1, 1) := by decide +kernel
theorem dX7_approve_20 : decode cX7_approve 20 = .ok (.baload, 1) := by decide +kernel
theorem dX7_approve_21 : decode cX7_approve 21 = .ok (.ifCond .eq 13, 3) := by decide +kernel
theorem dX7_approve_24 : decode cX7_approve 24 = .ok (.iload_n 2, 1) := by decide +kernel
theorem dX7_approve_25 : decode cX7_approve 25 = .ok (.iconst 0, 1) := by decide +kernel
theorem dX7_approve_26 : decode cX7_approve 26 = .ok (.bipush 15, 2) := by decide +kernel
theorem dX7_approve_28 : decode cX7_approve 28 = .ok (.invokestatic 91, 3) := by decide +kernel
theorem dX7_approve_31 : decode cX7_approve 31 = .ok (.ifCond .ne 5, 3) := by decide +kernel
theorem dX7_approve_34 : decode cX7_approve 34 = .ok (.iconst 0, 1) := by decide +kernel
theorem dX7_approve_35 : decode cX7_approve 35 = .ok (.ireturn, 1) := by decide +kernel
theorem dX7_approve_36 : decode cX7_approve 36 = .ok (.aload_n 0, 1) := by decide +kernel
theorem dX7_approve_37 : decode cX7_approve 37 = .ok (.getfield 20, 3) := by decide +kernel
theorem dX7_approve_40 : decode cX7_approve 40 = .ok (.iload_n 1, 1) := by decide +kernel
theorem dX7_approve_41 : decode cX7_approve 41 = .ok (.iload_n 3, 1) := by decide +kernel
theorem dX7_approve_42 : decode cX7_approve 42 = .ok (.ifCond .eq 16, 3) := by decide +kernel
theorem dX7_approve_45 : decode cX7_approve 45 = .ok (.aload_n 0, 1) := by decide +kernel
theorem dX7_approve_46 : decode cX7_approve 46 = .ok (.getfield 20, 3) := by decide +kernel
theorem dX7_approve_49 : decode cX7_approve 49 = .ok (.iload_n 1, 1) := by decide +kernel
theorem dX7_approve_50 : decode cX7_approve 50 = .ok (.iaload, 1) := by decide +kernel
theorem dX7_approve_51 : decode cX7_approve 51 = .ok (.iconst 1, 1) := by decide +kernel
theorem dX7_approve_52 : decode cX7_approve 52 = .ok (.iload_n 2, 1) := by decide +kernel
theorem dX7_approve_53 : decode cX7_approve 53 = .ok (.ishl, 1) := by decide +kernel
theorem dX7_approve_54 : decode cX7_approve 54 = .ok (.ior, 1) := by decide +kernel
theorem dX7_approve_55 : decode cX7_approve 55 = .ok (.goto 15, 3) := by decide +kernel
theorem dX7_approve_58 : decode cX7_approve 58 = .ok (.aload_n 0, 1) := by decide +kernel
theorem dX7_approve_59 : decode cX7_approve 59 = .ok (.getfield 20, 3) := by decide +kernel
theorem dX7_approve_62 : decode cX7_approve 62 = .ok (.iload_n 1, 1) := by decide +kernel
theorem dX7_approve_63 : decode cX7_approve 63 = .ok (.iaload, 1) := by decide +kernel
theorem dX7_approve_64 : decode cX7_approve 64 = .ok (.iconst 1, 1) := by decide +kernel
theorem dX7_approve_65 : decode cX7_approve 65 = .ok (.iload_n 2, 1) := by decide +kernel
theorem dX7_approve_66 : decode cX7_approve 66 = .ok (.ishl, 1) := by decide +kernel
theorem dX7_approve_67 : decode cX7_approve 67 = .ok (.iconst (-1), 1) := by decide +kernel
theorem dX7_approve_68 : decode cX7_approve 68 = .ok (.ixor, 1) := by decide +kernel
theorem dX7_approve_69 : decode cX7_approve 69 = .ok (.iand, 1) := by decide +kernel
theorem dX7_approve_70 : decode cX7_approve 70 = .ok (.iastore, 1) := by decide +kernel
theorem dX7_approve_71 : decode cX7_approve 71 = .ok (.iconst 1, 1) := by decide +kernel
theorem dX7_approve_72 : decode cX7_approve 72 = .ok (.ireturn, 1) := by decide +kernel
theorem dX7_supports_0 : decode cX7_supports 0 = .ok (.aload_n 0, 1) := by decide +kernel
theorem dX7_supports_1 : decode cX7_supports 1 = .ok (.getfield 30, 3) := by decide +kernel
theorem dX7_supports_4 : decode cX7_supports 4 = .ok (.iload_n 1, 1) := by decide +kernel
theorem dX7_supports_5 : decode cX7_supports 5 = .ok (.baload, 1) := by decide +kernel
theorem dX7_supports_6 : decode cX7_supports 6 = .ok (.ifCond .eq 21, 3) := by decide +kernel
theorem dX7_supports_9 : decode cX7_supports 9 = .ok (.aload_n 0, 1) := by decide +kernel
theorem dX7_supports_10 : decode cX7_supports 10 = .ok (.getfield 33, 3) := by decide +kernel
theorem dX7_supports_13 : decode cX7_supports 13 = .ok (.iload_n 1, 1) := by decide +kernel
theorem dX7_supports_14 : decode cX7_supports 14 = .ok (.iaload, 1) := by decide +kernel
theorem dX7_supports_15 : decode cX7_supports 15 = .ok (.iload_n 2, 1) := by decide +kernel
theorem dX7_supports_16 : decode cX7_supports 16 = .ok (.ishr, 1) := by decide +kernel
theorem dX7_supports_17 : decode cX7_supports 17 = .ok (.iconst 1, 1) := by decide +kernel
theorem dX7_supports_18 : decode cX7_supports 18 = .ok (.iand, 1) := by decide +kernel
theorem dX7_supports_19 : decode cX7_supports 19 = .ok (.iconst 1, 1) := by decide +kernel
theorem dX7_supports_20 : decode cX7_supports 20 = .ok (.if_icmp .ne 7, 3) := by decide +kernel
theorem dX7_supports_23 : decode cX7_supports 23 = .ok (.iconst 1, 1) := by decide +kernel
theorem dX7_supports_24 : decode cX7_supports 24 = .ok (.goto 4, 3) := by decide +kernel
theorem dX7_supports_27 : decode cX7_supports 27 = .ok (.iconst 0, 1) := by decide +kernel
theorem dX7_supports_28 : decode cX7_supports 28 = .ok (.ireturn, 1) := by decide +kernel
set_option maxRecDepth 20000 in
theorem ggX7_gather_X7_set : GoodIn wsX7_gather wsX7_set := goodIn_r _ [6, 7, 8, 24, 25, 26, 27, 28, 29, 30, 31, 32, 33, 34, 35, 36, 37, 38, 39, 40, 41] (by decide +kernel) (by decide +kernel)
set_option maxRecDepth 20000 in
theorem gX7_gather_X7_set : GoodIn wsX7_gather (wsV RX7 66 RX7 yX7_set wsX7_set) := goodIn_app (goodIn_of _ (by decide +kernel)) ggX7_gather_X7_set
set_option maxRecDepth 20000 in
theorem ggX7_gather_X7_supports : GoodIn wsX7_gather wsX7_supports := goodIn_r _ [12, 13, 14, 24, 25, 26, 27, 28, 29, 30, 31, 32, 33, 34, 35, 36, 37, 38, 39, 40, 41] (by decide +kernel) (by decide +kernel)
set_option maxRecDepth 20000 in
theorem gX7_gather_X7_supports : GoodIn wsX7_gather (wsV RX7 97 RX7 yX7_supports wsX7_supports) := goodIn_app (goodIn_of _ (by decide +kernel)) ggX7_gather_X7_supports
set_option maxRecDepth 20000 in
theorem ggX7_gather_X7_add : GoodIn wsX7_gather wsX7_add := goodIn_r _ [18, 7, 19, 24, 25, 26, 27, 28, 29, 30, 31, 32, 33, 34, 35, 36, 37, 38, 39, 40, 41] (by decide +kernel) (by decide +kernel)
set_option maxRecDepth 20000 in
theorem gX7_gather_X7_add : GoodIn wsX7_gather (wsV RX7 101 RX7 yX7_add wsX7_add) := goodIn_app (goodIn_of _ (by decide +kernel)) ggX7_gather_X7_add
set_option maxRecDepth 20000 in
theorem ggX7_gather_X7_times : GoodIn wsX7_gather wsX7_times := goodIn_r _ [23, 7, 8, 24, 25, 26, 27, 28, 29, 30, 31, 32, 33, 34, 35, 36, 37, 38, 39, 40, 41] (by decide +kernel) (by decide +kernel)
set_option maxRecDepth 20000 in
theorem gX7_gather_X7_times : GoodIn wsX7_gather (wsV RX7 104 RX7 yX7_times wsX7_times) := goodIn_app (goodIn_of _ (by decide +kernel)) ggX7_gather_X7_times
theorem dX7_gather_0 : decode cX7_gather 0 = .ok (.aload_n 0, 1) := by decide +kernel
theorem dX7_gather_1 : decode cX7_gather 1 = .ok (.sipush 849, 3) := by decide +kernel
theorem dX7_gather_4 : decode cX7_gather 4 = .ok (.lconst 0, 1) := by decide +kernel
theorem dX7_gather_5 : decode cX7_gather 5 = .ok (.invokevirtual 66, 3) := by decide +kernel
theorem dX7_gather_8 : decode cX7_gather 8 = .ok (.iconst 0, 1) := by decide +kernel
theorem dX7_gather_9 : decode cX7_gather 9 = .ok (.istore_n 2, 1) := by decide +kernel
theorem dX7_gather_10 : decode cX7_gather 10 = .ok (.iload_n 2, 1) := by decide +kernel
theorem dX7_gather_11 : decode cX7_gather 11 = .ok (.bipush 48, 2) := by decide +kernel
theorem dX7_gather_13 : decode cX7_gather 13 = .ok (.if_icmp .ge 29, 3) := by decide +kernel
theorem dX7_gather_16 : decode cX7_gather 16 = .ok (.aload_n 0, 1) := by decide +kernel
theorem dX7_gather_17 : decode cX7_gather 17 = .ok (.iload_n 2, 1) := by decide +kernel
theorem dX7_gather_18 : decode cX7_gather 18 = .ok (.iload_n 1, 1) := by decide +kernel
theorem dX7_gather_19 : decode cX7_gather 19 = .ok (.invokevirtual 97, 3) := by decide +kernel
theorem dX7_gather_22 : decode cX7_gather 22 = .ok (.ifCond .eq 14, 3) := by decide +kernel
theorem dX7_gather_25 : decode cX7_gather 25 = .ok (.aload_n 0, 1) := by decide +kernel
theorem dX7_gather_26 : decode cX7_gather 26 = .ok (.sipush 849, 3) := by decide +kernel
theorem dX7_gather_29 : decode cX7_gather 29 = .ok (.sipush 849, 3) := by decide +kernel
theorem dX7_gather_32 : decode cX7_gather 32 = .ok (.iload_n 2, 1) := by decide +kernel
theorem dX7_gather_33 : decode cX7_gather 33 = .ok (.invokevirtual 101, 3) := by decide +kernel
theorem dX7_gather_36 : decode cX7_gather 36 = .ok (.iinc 2 1, 3) := by decide +kernel
theorem dX7_gather_39 : decode cX7_gather 39 = .ok (.goto (-29), 3) := by decide +kernel
theorem dX7_gather_42 : decode cX7_gather 42 = .ok (.aload_n 0, 1) := by decide +kernel
theorem dX7_gather_43 : decode cX7_gather 43 = .ok (.sipush 850, 3) := by decide +kernel
theorem dX7_gather_46 : decode cX7_gather 46 = .ok (.sipush 848, 3) := by decide +kernel
theorem dX7_gather_49 : decode cX7_gather 49 = .ok (.aload_n 0, 1) := by decide +kernel
theorem dX7_gather_50 : decode cX7_gather 50 = .ok (.getfield 27, 3) := by decide +kernel
theorem dX7_gather_53 : decode cX7_gather 53 = .ok (.iload_n 1, 1) := by decide +kernel
theorem dX7_gather_54 : decode cX7_gather 54 = .ok (.iaload, 1) := by decide +kernel
theorem dX7_gather_55 : decode cX7_gather 55 = .ok (.invokevirtual 104, 3) := by decide +kernel
theorem dX7_gather_58 : decode cX7_gather 58 = .ok (.return_, 1) := by decide +kernel
set_option maxRecDepth 20000 in
theorem ggX7_isAfforded_X7_gather : GoodIn wsX7_isAfforded wsX7_gather := goodIn_r _ [7, 1, 8, 9, 10, 6, 11, 12, 13, 14, 15, 16, 17, 18, 19, 20, 21, 22, 23, 24, 25, 26, 27, 28, 33, 34, 35, 36, 37, 38, 39, 40, 41, 42, 43, 44, 45, 46, 47, 48, 49, 50] (by decide +kernel) (by decide +kernel)
set_option maxRecDepth 20000 in
theorem gX7_isAfforded_X7_gather : GoodIn wsX7_isAfforded (wsV RX7 107 RX7 yX7_gather wsX7_gather) := goodIn_app (goodIn_of _ (by decide +kernel)) ggX7_isAfforded_X7_gather
set_option maxRecDepth 20000 in
theorem ggX7_isAfforded_X7_compare : GoodIn wsX7_isAfforded wsX7_compare := goodIn_r _ [32, 12, 33, 34, 35, 36, 37, 38, 39, 40, 41, 42, 43, 44, 45, 46, 47, 48, 49, 50] (by decide +kernel) (by decide +kernel)
set_option maxRecDepth 20000 in
theorem gX7_isAfforded_X7_compare : GoodIn wsX7_isAfforded (wsV RX7 74 RX7 yX7_compare wsX7_compare) := goodIn_app (goodIn_of _ (by decide +kernel)) ggX7_isAfforded_X7_compare
theorem dX7_isAfforded_0 : decode cX7_isAfforded 0 = .ok (.aload_n 0, 1) := by decide +kernel
theorem dX7_isAfforded_1 : decode cX7_isAfforded 1 = .ok (.getfield 27, 3) := by decide +kernel
theorem dX7_isAfforded_4 : decode cX7_isAfforded 4 = .ok (.iload_n 1, 1) := by decide +kernel
theorem dX7_isAfforded_5 : decode cX7_isAfforded 5 = .ok (.iaload, 1) := by decide +kernel
theorem dX7_isAfforded_6 : decode cX7_isAfforded 6 = .ok (.ifCond .eq 12, 3) := by decide +kernel
theorem dX7_isAfforded_9 : decode cX7_isAfforded 9 = .ok (.aload_n 0, 1) := by decide +kernel
theorem dX7_isAfforded_10 : decode cX7_isAfforded 10 = .ok (.getfield 42, 3) := by decide +kernel
theorem dX7_isAfforded_13 : decode cX7_isAfforded 13 = .ok (.iload_n 1, 1) := by decide +kernel
theorem dX7_isAfforded_14 : decode cX7_isAfforded 14 = .ok (.baload, 1) := by decide +kernel
theorem dX7_isAfforded_15 : decode cX7_isAfforded 15 = .ok (.ifCond .eq 5, 3) := by decide +kernel
theorem dX7_isAfforded_18 : decode cX7_isAfforded 18 = .ok (.iconst 0, 1) := by decide +kernel
theorem dX7_isAfforded_19 : decode cX7_isAfforded 19 = .ok (.ireturn, 1) := by decide +kernel
theorem dX7_isAfforded_20 : decode cX7_isAfforded 20 = .ok (.aload_n 0, 1) := by decide +kernel
theorem dX7_isAfforded_21 : decode cX7_isAfforded 21 = .ok (.iload_n 1, 1) := by decide +kernel
theorem dX7_isAfforded_22 : decode cX7_isAfforded 22 = .ok (.invokevirtual 107, 3) := by decide +kernel
theorem dX7_isAfforded_25 : decode cX7_isAfforded 25 = .ok (.aload_n 0, 1) := by decide +kernel
theorem dX7_isAfforded_26 : decode cX7_isAfforded 26 = .ok (.sipush 849, 3) := by decide +kernel
theorem dX7_isAfforded_29 : decode cX7_isAfforded 29 = .ok (.sipush 850, 3) := by decide +kernel
theorem dX7_isAfforded_32 : decode cX7_isAfforded 32 = .ok (.invokevirtual 74, 3) := by decide +kernel
theorem dX7_isAfforded_35 : decode cX7_isAfforded 35 = .ok (.ifCond .lt 7, 3) := by decide +kernel
theorem dX7_isAfforded_38 : decode cX7_isAfforded 38 = .ok (.iconst 1, 1) := by decide +kernel
theorem dX7_isAfforded_39 : decode cX7_isAfforded 39 = .ok (.goto 4, 3) := by decide +kernel
theorem dX7_isAfforded_42 : decode cX7_isAfforded 42 = .ok (.iconst 0, 1) := by decide +kernel
theorem dX7_isAfforded_43 : decode cX7_isAfforded 43 = .ok (.ireturn, 1) := by decide +kernel
set_option maxRecDepth 20000 in
theorem ggX7_share_X7_times : GoodIn wsX7_share wsX7_times := goodIn_r _ [8, 9, 10, 30, 31, 32, 33, 34, 35, 36, 37, 38, 39, 40, 41, 42, 43, 44, 45, 46, 47] (by decide +kernel) (by decide +kernel)
set_option maxRecDepth 20000 in
theorem gX7_share_X7_times : GoodIn wsX7_share (wsV RX7 104 RX7 yX7_times wsX7_times) := goodIn_app (goodIn_of _ (by decide +kernel)) ggX7_share_X7_times
set_option maxRecDepth 20000 in
theorem ggX7_share_X7_supports : GoodIn wsX7_share wsX7_supports := goodIn_r _ [14, 15, 16, 30, 31, 32, 33, 34, 35, 36, 37, 38, 39, 40, 41, 42, 43, 44, 45, 46, 47] (by decide +kernel) (by decide +kernel)
set_option maxRecDepth 20000 in
theorem gX7_share_X7_supports : GoodIn wsX7_share (wsV RX7 97 RX7 yX7_supports wsX7_supports) := goodIn_app (goodIn_of _ (by decide +kernel)) ggX7_share_X7_supports
set_option maxRecDepth 20000 in
theorem ggX7_share_X7_copy : GoodIn wsX7_share wsX7_copy := goodIn_r _ [20, 9, 30, 31, 32, 33, 34, 35, 36, 37, 38, 39, 40, 41, 42, 43, 44, 45, 46, 47] (by decide +kernel) (by decide +kernel)
set_option maxRecDepth 20000 in
theorem gX7_share_X7_copy : GoodIn wsX7_share (wsV RX7 81 RX7 yX7_copy wsX7_copy) := goodIn_app (goodIn_of _ (by decide +kernel)) ggX7_share_X7_copy
set_option maxRecDepth 20000 in
theorem ggX7_share_X7_compare : GoodIn wsX7_share wsX7_compare := goodIn_r _ [24, 9, 30, 31, 32, 33, 34, 35, 36, 37, 38, 39, 40, 41, 42, 43, 44, 45, 46, 47] (by decide +kernel) (by decide +kernel)
set_option maxRecDepth 20000 in
theorem gX7_share_X7_compare : GoodIn wsX7_share (wsV RX7 74 RX7 yX7_compare wsX7_compare) := goodIn_app (goodIn_of _ (by decide +kernel)) ggX7_share_X7_compare
set_option maxRecDepth 20000 in
theorem ggX7_share_X7_lessen : GoodIn wsX7_share wsX7_lessen := goodIn_r _ [28, 9, 29, 30, 31, 32, 33, 34, 35, 36, 37, 38, 39, 40, 41, 42, 43, 44, 45, 46, 47] (by decide +kernel) (by decide +kernel)
set_option maxRecDepth 20000 in
theorem gX7_share_X7_lessen : GoodIn wsX7_share (wsV RX7 77 RX7 yX7_lessen wsX7_lessen) := goodIn_app (goodIn_of _ (by decide +kernel)) ggX7_share_X7_lessen
theorem dX7_share_0 : decode cX7_share 0 = .ok (.aload_n 0, 1) := by decide +kernel
theorem dX7_share_1 : decode cX7_share 1 = .ok (.sipush 850, 3) := by decide +kernel
theorem dX7_share_4 : decode cX7_share 4 = .ok (.sipush 848, 3) := by decide +kernel
theorem dX7_share_7 : decode cX7_share 7 = .ok (.aload_n 0, 1) := by decide +kernel
theorem dX7_share_8 : decode cX7_share 8 = .ok (.getfield 27, 3) := by decide +kernel
theorem dX7_share_11 : decode cX7_share 11 = .ok (.iload_n 1, 1) := by decide +kernel
theorem dX7_share_12 : decode cX7_share 12 = .ok (.iaload, 1) := by decide +kernel
theorem dX7_share_13 : decode cX7_share 13 = .ok (.invokevirtual 104, 3) := by decide +kernel
theorem dX7_share_16 : decode cX7_share 16 = .ok (.aload_n 0, 1) := by decide +kernel
theorem dX7_share_17 : decode cX7_share 17 = .ok (.iconst 0, 1) := by decide +kernel
theorem dX7_share_18 : decode cX7_share 18 = .ok (.putfield 111, 3) := by decide +kernel
theorem dX7_share_21 : decode cX7_share 21 = .ok (.iconst 0, 1) := by decide +kernel
theorem dX7_share_22 : decode cX7_share 22 = .ok (.istore_n 2, 1) := by decide +kernel
theorem dX7_share_23 : decode cX7_share 23 = .ok (.iload_n 2, 1) := by decide +kernel
theorem dX7_share_24 : decode cX7_share 24 = .ok (.bipush 48, 2) := by decide +kernel
theorem dX7_share_26 : decode cX7_share 26 = .ok (.if_icmp .ge 39, 3) := by decide +kernel
theorem dX7_share_29 : decode cX7_share 29 = .ok (.aload_n 0, 1) := by decide +kernel
theorem dX7_share_30 : decode cX7_share 30 = .ok (.getfield 45, 3) := by decide +kernel
theorem dX7_share_33 : decode cX7_share 33 = .ok (.iload_n 2, 1) := by decide +kernel
theorem dX7_share_34 : decode cX7_share 34 = .ok (.iconst 0, 1) := by decide +kernel
theorem dX7_share_35 : decode cX7_share 35 = .ok (.bastore, 1) := by decide +kernel
theorem dX7_share_36 : decode cX7_share 36 = .ok (.aload_n 0, 1) := by decide +kernel
theorem dX7_share_37 : decode cX7_share 37 = .ok (.dup, 1) := by decide +kernel
theorem dX7_share_38 : decode cX7_share 38 = .ok (.getfield 111, 3) := by decide +kernel
theorem dX7_share_41 : decode cX7_share 41 = .ok (.aload_n 0, 1) := by decide +kernel
theorem dX7_share_42 : decode cX7_share 42 = .ok (.iload_n 2, 1) := by decide +kernel
theorem dX7_share_43 : decode cX7_share 43 = .ok (.iload_n 1, 1) := by decide +kernel
theorem dX7_share_44 : decode cX7_share 44 = .ok (.invokevirtual 97, 3) := by decide +kernel
theorem dX7_share_47 : decode cX7_share 47 = .ok (.ifCond .eq 7, 3) := by decide +kernel
theorem dX7_share_50 : decode cX7_share 50 = .ok (.iconst 1, 1) := by decide +kernel
theorem dX7_share_51 : decode cX7_share 51 = .ok (.goto 4, 3) := by decide +kernel
theorem dX7_share_54 : decode cX7_share 54 = .ok (.iconst 0, 1) := by decide +kernel
theorem dX7_share_55 : decode cX7_share 55 = .ok (.iadd, 1) := by decide +kernel
theorem dX7_share_56 : decode cX7_share 56 = .ok (.putfield 111, 3) := by decide +kernel
theorem dX7_share_59 : decode cX7_share 59 = .ok (.iinc 2 1, 3) := by decide +kernel
theorem dX7_share_62 : decode cX7_share 62 = .ok (.goto (-39), 3) := by decide +kernel
theorem dX7_share_65 : decode cX7_share 65 = .ok (.iconst 1, 1) := by decide +kernel
theorem dX7_share_66 : decode cX7_share 66 = .ok (.istore_n 2, 1) := by decide +kernel
theorem dX7_share_67 : decode cX7_share 67 = .ok (.iload_n 2, 1) := by decide +kernel
theorem dX7_share_68 : decode cX7_share 68 = .ok (.ifCond .eq 120, 3) := by decide +kernel
theorem dX7_share_71 : decode cX7_share 71 = .ok (.iconst 0, 1) := by decide +kernel
theorem dX7_share_72 : decode cX7_share 72 = .ok (.istore_n 2, 1) := by decide +kernel
theorem dX7_share_73 : decode cX7_share 73 = .ok (.aload_n 0, 1) := by decide +kernel
theorem dX7_share_74 : decode cX7_share 74 = .ok (.sipush 851, 3) := by decide +kernel
theorem dX7_share_77 : decode cX7_share 77 = .ok (.sipush 850, 3) := by decide +kernel
theorem dX7_share_80 : decode cX7_share 80 = .ok (.invokevirtual 81, 3) := by decide +kernel
theorem dX7_share_83 : decode cX7_share 83 = .ok (.aload_n 0, 1) := by decide +kernel
theorem dX7_share_84 : decode cX7_share 84 = .ok (.getfield 111, 3) := by decide +kernel
theorem dX7_share_87 : decode cX7_share 87 = .ok (.istore_n 3, 1) := by decide +kernel
theorem dX7_share_88 : decode cX7_share 88 = .ok (.iconst 0, 1) := by decide +kernel
theorem dX7_share_89 : decode cX7_share 89 = .ok (.istore 4, 2) := by decide +kernel
theorem dX7_share_91 : decode cX7_share 91 = .ok (.iload 4, 2) := by decide +kernel
theorem dX7_share_93 : decode cX7_share 93 = .ok (.bipush 48, 2) := by decide +kernel
theorem dX7_share_95 : decode cX7_share 95 = .ok (.if_icmp .ge 90, 3) := by decide +kernel
theorem dX7_share_98 : decode cX7_share 98 = .ok (.aload_n 0, 1) := by decide +kernel
theorem dX7_share_99 : decode cX7_share 99 = .ok (.iload 4, 2) := by decide +kernel
theorem dX7_share_101 : decode cX7_share 101 = .ok (.iload_n 1, 1) := by decide +kernel
theorem dX7_share_102 : decode cX7_share 102 = .ok (.invokevirtual 97, 3) := by decide +kernel
theorem dX7_share_105 : decode cX7_share 105 = .ok (.ifCond .eq 74, 3) := by decide +kernel
theorem dX7_share_108 : decode cX7_share 108 = .ok (.aload_n 0, 1) := by decide +kernel
theorem dX7_share_109 : decode cX7_share 109 = .ok (.getfield 45, 3) := by decide +kernel
theorem dX7_share_112 : decode cX7_share 112 = .ok (.iload 4, 2) := by decide +kernel
theorem dX7_share_114 : decode cX7_share 114 = .ok (.baload, 1) := by decide +kernel
theorem dX7_share_115 : decode cX7_share 115 = .ok (.ifCond .eq 6, 3) := by decide +kernel
theorem dX7_share_118 : decode cX7_share 118 = .ok (.goto 61, 3) := by decide +kernel
theorem dX7_share_121 : decode cX7_share 121 = .ok (.aload_n 0, 1) := by decide +kernel
theorem dX7_share_122 : decode cX7_share 122 = .ok (.sipush 849, 3) := by decide +kernel
theorem dX7_share_125 : decode cX7_share 125 = .ok (.iload 4, 2) := by decide +kernel
theorem dX7_share_127 : decode cX7_share 127 = .ok (.iload_n 3, 1) := by decide +kernel
theorem dX7_share_128 : decode cX7_share 128 = .ok (.invokevirtual 104, 3) := by decide +kernel
theorem dX7_share_131 : decode cX7_share 131 = .ok (.aload_n 0, 1) := by decide +kernel
theorem dX7_share_132 : decode cX7_share 132 = .ok (.sipush 849, 3) := by decide +kernel
theorem dX7_share_135 : decode cX7_share 135 = .ok (.sipush 851, 3) := by decide +kernel
theorem dX7_share_138 : decode cX7_share 138 = .ok (.invokevirtual 74, 3) := by decide +kernel
theorem dX7_share_141 : decode cX7_share 141 = .ok (.ifCond .lt 6, 3) := by decide +kernel
theorem dX7_share_144 : decode cX7_share 144 = .ok (.goto 35, 3) := by decide +kernel
theorem dX7_share_147 : decode cX7_share 147 = .ok (.aload_n 0, 1) := by decide +kernel
theorem dX7_share_148 : decode cX7_share 148 = .ok (.getfield 45, 3) := by decide +kernel
theorem dX7_share_151 : decode cX7_share 151 = .ok (.iload 4, 2) := by decide +kernel
theorem dX7_share_153 : decode cX7_share 153 = .ok (.iconst 1, 1) := by decide +kernel
theorem dX7_share_154 : decode cX7_share 154 = .ok (.bastore, 1) := by decide +kernel
theorem dX7_share_155 : decode cX7_share 155 = .ok (.aload_n 0, 1) := by decide +kernel
theorem dX7_share_156 : decode cX7_share 156 = .ok (.sipush 850, 3) := by decide +kernel
theorem dX7_share_159 : decode cX7_share 159 = .ok (.sipush 850, 3) := by decide +kernel
theorem dX7_share_162 : decode cX7_share 162 = .ok (.iload 4, 2) := by decide +kernel
theorem dX7_share_164 : decode cX7_share 164 = .ok (.invokevirtual 77, 3) := by decide +kernel
theorem dX7_share_167 : decode cX7_share 167 = .ok (.aload_n 0, 1) := by decide +kernel
theorem dX7_share_168 : decode cX7_share 168 = .ok (.dup, 1) := by decide +kernel
theorem dX7_share_169 : decode cX7_share 169 = .ok (.getfield 111, 3) := by decide +kernel
theorem dX7_share_172 : decode cX7_share 172 = .ok (.iconst 1, 1) := by decide +kernel
theorem dX7_share_173 : decode cX7_share 173 = .ok (.isub, 1) := by decide +kernel
theorem dX7_share_174 : decode cX7_share 174 = .ok (.putfield 111, 3) := by decide +kernel
theorem dX7_share_177 : decode cX7_share 177 = .ok (.iconst 1, 1) := by decide +kernel
theorem dX7_share_178 : decode cX7_share 178 = .ok (.istore_n 2, 1) := by decide +kernel
theorem dX7_share_179 : decode cX7_share 179 = .ok (.iinc 4 1, 3) := by decide +kernel
theorem dX7_share_182 : decode cX7_share 182 = .ok (.goto (-91), 3) := by decide +kernel
theorem dX7_share_185 : decode cX7_share 185 = .ok (.goto (-118), 3) := by decide +kernel
theorem dX7_share_188 : decode cX7_share 188 = .ok (.return_, 1) := by decide +kernel
set_option maxRecDepth 20000 in
theorem ggX7_next_X7_isAfforded : GoodIn wsX7_next wsX7_isAfforded := goodIn_r _ [7, 2, 8, 9, 10, 11, 6, 12, 13, 14, 15, 16, 17, 18, 19, 20, 21, 22, 23, 24, 25, 26, 27, 28, 29, 30, 31, 32, 33, 34, 35, 36, 37, 51, 52, 53, 54, 55, 56, 57, 58, 59, 60, 61, 62, 63, 64, 65, 66, 67, 68] (by decide +kernel) (by decide +kernel)
set_option maxRecDepth 20000 in
theorem gX7_next_X7_isAfforded : GoodIn wsX7_next (wsV RX7 114 RX7 yX7_isAfforded wsX7_isAfforded) := goodIn_app (goodIn_of _ (by decide +kernel)) ggX7_next_X7_isAfforded
set_option maxRecDepth 20000 in
theorem ggX7_next_X7_share : GoodIn wsX7_next wsX7_share := goodIn_r _ [41, 2, 1, 42, 30, 31, 32, 6, 33, 17, 18, 19, 20, 21, 22, 23, 24, 43, 44, 45, 46, 34, 35, 36, 37, 47, 48, 49, 50, 29, 51, 52, 53, 54, 55, 56, 57, 58, 59, 60, 61, 62, 63, 64, 65, 66, 67, 68] (by decide +kernel) (by decide +kernel)
set_option maxRecDepth 20000 in
theorem gX7_next_X7_share : GoodIn wsX7_next (wsV RX7 117 RX7 yX7_share wsX7_share) := goodIn_app (goodIn_of _ (by decide +kernel)) ggX7_next_X7_share
set_option maxRecDepth 20000 in
theorem ggX7_next_X7_times : GoodIn wsX7_next wsX7_times := goodIn_r _ [33, 17, 18, 51, 52, 53, 54, 55, 56, 57, 58, 59, 60, 61, 62, 63, 64, 65, 66, 67, 68] (by decide +kernel) (by decide +kernel)
set_option maxRecDepth 20000 in
theorem gX7_next_X7_times : GoodIn wsX7_next (wsV RX7 104 RX7 yX7_times wsX7_times) := goodIn_app (goodIn_of _ (by decide +kernel)) ggX7_next_X7_times
set_option maxRecDepth 20000 in
theorem ggX7_next_X7_compare : GoodIn wsX7_next wsX7_compare := goodIn_r _ [37, 17, 51, 52, 53, 54, 55, 56, 57, 58, 59, 60, 61, 62, 63, 64, 65, 66, 67, 68] (by decide +kernel) (by decide +kernel)
set_option maxRecDepth 20000 in
theorem gX7_next_X7_compare : GoodIn wsX7_next (wsV RX7 74 RX7 yX7_compare wsX7_compare) := goodIn_app (goodIn_of _ (by decide +kernel)) ggX7_next_X7_compare
set_option maxRecDepth 20000 in
theorem ggX7_next_X7_copy : GoodIn wsX7_next wsX7_copy := goodIn_r _ [46, 17, 51, 52, 53, 54, 55, 56, 57, 58, 59, 60, 61, 62, 63, 64, 65, 66, 67, 68] (by decide +kernel) (by decide +kernel)
set_option maxRecDepth 20000 in
theorem gX7_next_X7_copy : GoodIn wsX7_next (wsV RX7 81 RX7 yX7_copy wsX7_copy) := goodIn_app (goodIn_of _ (by decide +kernel)) ggX7_next_X7_copy
theorem dX7_next_0 : decode cX7_next 0 = .ok (.iconst (-1), 1) := by decide +kernel
theorem dX7_next_1 : decode cX7_next 1 = .ok (.istore_n 1, 1) := by decide +kernel
theorem dX7_next_2 : decode cX7_next 2 = .ok (.iconst 1, 1) := by decide +kernel
theorem dX7_next_3 : decode cX7_next 3 = .ok (.istore_n 2, 1) := by decide +kernel
theorem dX7_next_4 : decode cX7_next 4 = .ok (.iconst 0, 1) := by decide +kernel
theorem dX7_next_5 : decode cX7_next 5 = .ok (.istore_n 3, 1) := by decide +kernel
theorem dX7_next_6 : decode cX7_next 6 = .ok (.iload_n 3, 1) := by decide +kernel
theorem dX7_next_7 : decode cX7_next 7 = .ok (.bipush 16, 2) := by decide +kernel
theorem dX7_next_9 : decode cX7_next 9 = .ok (.if_icmp .ge 134, 3) := by decide +kernel
theorem dX7_next_12 : decode cX7_next 12 = .ok (.aload_n 0, 1) := by decide +kernel
theorem dX7_next_13 : decode cX7_next 13 = .ok (.iload_n 3, 1) := by decide +kernel
theorem dX7_next_14 : decode cX7_next 14 = .ok (.invokevirtual 114, 3) := by decide +kernel
theorem dX7_next_17 : decode cX7_next 17 = .ok (.ifCond .ne 6, 3) := by decide +kernel
theorem dX7_next_20 : decode cX7_next 20 = .ok (.goto 117, 3) := by decide +kernel
theorem dX7_next_23 : decode cX7_next 23 = .ok (.aload_n 0, 1) := by decide +kernel
theorem dX7_next_24 : decode cX7_next 24 = .ok (.iload_n 3, 1) := by decide +kernel
theorem dX7_next_25 : decode cX7_next 25 = .ok (.invokevirtual 117, 3) := by decide +kernel
theorem dX7_next_28 : decode cX7_next 28 = .ok (.iload_n 1, 1) := by decide +kernel
theorem dX7_next_29 : decode cX7_next 29 = .ok (.ifCond .ge 7, 3) := by decide +kernel
theorem dX7_next_32 : decode cX7_next 32 = .ok (.iconst 1, 1) := by decide +kernel
theorem dX7_next_33 : decode cX7_next 33 = .ok (.goto 4, 3) := by decide +kernel
theorem dX7_next_36 : decode cX7_next 36 = .ok (.iconst 0, 1) := by decide +kernel
theorem dX7_next_37 : decode cX7_next 37 = .ok (.istore 4, 2) := by decide +kernel
theorem dX7_next_39 : decode cX7_next 39 = .ok (.iload_n 1, 1) := by decide +kernel
theorem dX7_next_40 : decode cX7_next 40 = .ok (.ifCond .lt 72, 3) := by decide +kernel
theorem dX7_next_43 : decode cX7_next 43 = .ok (.aload_n 0, 1) := by decide +kernel
theorem dX7_next_44 : decode cX7_next 44 = .ok (.sipush 854, 3) := by decide +kernel
theorem dX7_next_47 : decode cX7_next 47 = .ok (.sipush 850, 3) := by decide +kernel
theorem dX7_next_50 : decode cX7_next 50 = .ok (.iload_n 2, 1) := by decide +kernel
theorem dX7_next_51 : decode cX7_next 51 = .ok (.invokevirtual 104, 3) := by decide +kernel
theorem dX7_next_54 : decode cX7_next 54 = .ok (.aload_n 0, 1) := by decide +kernel
theorem dX7_next_55 : decode cX7_next 55 = .ok (.sipush 855, 3) := by decide +kernel
theorem dX7_next_58 : decode cX7_next 58 = .ok (.sipush 858, 3) := by decide +kernel
theorem dX7_next_61 : decode cX7_next 61 = .ok (.aload_n 0, 1) := by decide +kernel
theorem dX7_next_62 : decode cX7_next 62 = .ok (.getfield 111, 3) := by decide +kernel
theorem dX7_next_65 : decode cX7_next 65 = .ok (.invokevirtual 104, 3) := by decide +kernel
theorem dX7_next_68 : decode cX7_next 68 = .ok (.aload_n 0, 1) := by decide +kernel
theorem dX7_next_69 : decode cX7_next 69 = .ok (.sipush 854, 3) := by decide +kernel
theorem dX7_next_72 : decode cX7_next 72 = .ok (.sipush 855, 3) := by decide +kernel
theorem dX7_next_75 : decode cX7_next 75 = .ok (.invokevirtual 74, 3) := by decide +kernel
theorem dX7_next_78 : decode cX7_next 78 = .ok (.istore 5, 2) := by decide +kernel
theorem dX7_next_80 : decode cX7_next 80 = .ok (.iload 5, 2) := by decide +kernel
theorem dX7_next_82 : decode cX7_next 82 = .ok (.ifCond .lt 23, 3) := by decide +kernel
theorem dX7_next_85 : decode cX7_next 85 = .ok (.iload 5, 2) := by decide +kernel
theorem dX7_next_87 : decode cX7_next 87 = .ok (.ifCond .ne 22, 3) := by decide +kernel
theorem dX7_next_90 : decode cX7_next 90 = .ok (.aload_n 0, 1) := by decide +kernel
theorem dX7_next_91 : decode cX7_next 91 = .ok (.getfield 27, 3) := by decide +kernel
theorem dX7_next_94 : decode cX7_next 94 = .ok (.iload_n 3, 1) := by decide +kernel
theorem dX7_next_95 : decode cX7_next 95 = .ok (.iaload, 1) := by decide +kernel
theorem dX7_next_96 : decode cX7_next 96 = .ok (.aload_n 0, 1) := by decide +kernel
theorem dX7_next_97 : decode cX7_next 97 = .ok (.getfield 27, 3) := by decide +kernel
theorem dX7_next_100 : decode cX7_next 100 = .ok (.iload_n 1, 1) := by decide +kernel
theorem dX7_next_101 : decode cX7_next 101 = .ok (.iaload, 1) := by decide +kernel
theorem dX7_next_102 : decode cX7_next 102 = .ok (.if_icmp .ge 7, 3) := by decide +kernel
theorem dX7_next_105 : decode cX7_next 105 = .ok (.iconst 1, 1) := by decide +kernel
theorem dX7_next_106 : decode cX7_next 106 = .ok (.goto 4, 3) := by decide +kernel
theorem dX7_next_109 : decode cX7_next 109 = .ok (.iconst 0, 1) := by decide +kernel
theorem dX7_next_110 : decode cX7_next 110 = .ok (.istore 4, 2) := by decide +kernel
theorem dX7_next_112 : decode cX7_next 112 = .ok (.iload 4, 2) := by decide +kernel
theorem dX7_next_114 : decode cX7_next 114 = .ok (.ifCond .ne 6, 3) := by decide +kernel
theorem dX7_next_117 : decode cX7_next 117 = .ok (.goto 20, 3) := by decide +kernel
theorem dX7_next_120 : decode cX7_next 120 = .ok (.iload_n 3, 1) := by decide +kernel
theorem dX7_next_121 : decode cX7_next 121 = .ok (.istore_n 1, 1) := by decide +kernel
theorem dX7_next_122 : decode cX7_next 122 = .ok (.aload_n 0, 1) := by decide +kernel
theorem dX7_next_123 : decode cX7_next 123 = .ok (.getfield 111, 3) := by decide +kernel
theorem dX7_next_126 : decode cX7_next 126 = .ok (.istore_n 2, 1) := by decide +kernel
theorem dX7_next_127 : decode cX7_next 127 = .ok (.aload_n 0, 1) := by decide +kernel
theorem dX7_next_128 : decode cX7_next 128 = .ok (.sipush 858, 3) := by decide +kernel
theorem dX7_next_131 : decode cX7_next 131 = .ok (.sipush 850, 3) := by decide +kernel
theorem dX7_next_134 : decode cX7_next 134 = .ok (.invokevirtual 81, 3) := by decide +kernel
theorem dX7_next_137 : decode cX7_next 137 = .ok (.iinc 3 1, 3) := by decide +kernel
theorem dX7_next_140 : decode cX7_next 140 = .ok (.goto (-134), 3) := by decide +kernel
theorem dX7_next_143 : decode cX7_next 143 = .ok (.iload_n 1, 1) := by decide +kernel
theorem dX7_next_144 : decode cX7_next 144 = .ok (.ireturn, 1) := by decide +kernel
set_option maxRecDepth 20000 in
theorem ggX7_pay_X7_share : GoodIn wsX7_pay wsX7_share := goodIn_r _ [11, 12, 1, 4, 13, 14, 15, 10, 16, 17, 18, 19, 20, 21, 22, 2, 23, 24, 25, 26, 27, 28, 29, 30, 31, 32, 33, 34, 35, 36, 41, 42, 43, 44, 45, 46, 47, 48, 49, 50, 51, 52, 53, 54, 55, 56, 57, 58] (by decide +kernel) (by decide +kernel)
set_option maxRecDepth 20000 in
theorem gX7_pay_X7_share : GoodIn wsX7_pay (wsV RX7 117 RX7 yX7_share wsX7_share) := goodIn_app (goodIn_of _ (by decide +kernel)) ggX7_pay_X7_share
set_option maxRecDepth 20000 in
theorem ggX7_pay_X7_times : GoodIn wsX7_pay wsX7_times := goodIn_r _ [16, 17, 18, 41, 42, 43, 44, 45, 46, 47, 48, 49, 50, 51, 52, 53, 54, 55, 56, 57, 58] (by decide +kernel) (by decide +kernel)
set_option maxRecDepth 20000 in
theorem gX7_pay_X7_times : GoodIn wsX7_pay (wsV RX7 104 RX7 yX7_times wsX7_times) := goodIn_app (goodIn_of _ (by decide +kernel)) ggX7_pay_X7_times
set_option maxRecDepth 20000 in
theorem ggX7_pay_X7_set : GoodIn wsX7_pay wsX7_set := goodIn_r _ [40, 17, 18, 41, 42, 43, 44, 45, 46, 47, 48, 49, 50, 51, 52, 53, 54, 55, 56, 57, 58] (by decide +kernel) (by decide +kernel)
set_option maxRecDepth 20000 in
theorem gX7_pay_X7_set : GoodIn wsX7_pay (wsV RX7 66 RX7 yX7_set wsX7_set) := goodIn_app (goodIn_of _ (by decide +kernel)) ggX7_pay_X7_set
set_option maxRecDepth 20000 in
theorem ggX7_pay_X7_supports : GoodIn wsX7_pay wsX7_supports := goodIn_r _ [22, 2, 23, 41, 42, 43, 44, 45, 46, 47, 48, 49, 50, 51, 52, 53, 54, 55, 56, 57, 58] (by decide +kernel) (by decide +kernel)
set_option maxRecDepth 20000 in
theorem gX7_pay_X7_supports : GoodIn wsX7_pay (wsV RX7 97 RX7 yX7_supports wsX7_supports) := goodIn_app (goodIn_of _ (by decide +kernel)) ggX7_pay_X7_supports
set_option maxRecDepth 20000 in
theorem ggX7_pay_X7_copy : GoodIn wsX7_pay wsX7_copy := goodIn_r _ [27, 17, 41, 42, 43, 44, 45, 46, 47, 48, 49, 50, 51, 52, 53, 54, 55, 56, 57, 58] (by decide +kernel) (by decide +kernel)
set_option maxRecDepth 20000 in
theorem gX7_pay_X7_copy : GoodIn wsX7_pay (wsV RX7 81 RX7 yX7_copy wsX7_copy) := goodIn_app (goodIn_of _ (by decide +kernel)) ggX7_pay_X7_copy
set_option maxRecDepth 20000 in
theorem ggX7_pay_X7_lessen : GoodIn wsX7_pay wsX7_lessen := goodIn_r _ [35, 17, 36, 41, 42, 43, 44, 45, 46, 47, 48, 49, 50, 51, 52, 53, 54, 55, 56, 57, 58] (by decide +kernel) (by decide +kernel)
set_option maxRecDepth 20000 in
theorem gX7_pay_X7_lessen : GoodIn wsX7_pay (wsV RX7 77 RX7 yX7_lessen wsX7_lessen) := goodIn_app (goodIn_of _ (by decide +kernel)) ggX7_pay_X7_lessen
theorem dX7_pay_0 : decode cX7_pay 0 = .ok (.aload_n 0, 1) := by decide +kernel
theorem dX7_pay_1 : decode cX7_pay 1 = .ok (.iload_n 1, 1) := by decide +kernel
theorem dX7_pay_2 : decode cX7_pay 2 = .ok (.invokevirtual 117, 3) := by decide +kernel
theorem dX7_pay_5 : decode cX7_pay 5 = .ok (.aload_n 0, 1) := by decide +kernel
theorem dX7_pay_6 : decode cX7_pay 6 = .ok (.sipush 848, 3) := by decide +kernel
theorem dX7_pay_9 : decode cX7_pay 9 = .ok (.sipush 848, 3) := by decide +kernel
theorem dX7_pay_12 : decode cX7_pay 12 = .ok (.aload_n 0, 1) := by decide +kernel
theorem dX7_pay_13 : decode cX7_pay 13 = .ok (.getfield 111, 3) := by decide +kernel
theorem dX7_pay_16 : decode cX7_pay 16 = .ok (.invokevirtual 104, 3) := by decide +kernel
theorem dX7_pay_19 : decode cX7_pay 19 = .ok (.iconst 0, 1) := by decide +kernel
theorem dX7_pay_20 : decode cX7_pay 20 = .ok (.istore_n 2, 1) := by decide +kernel
theorem dX7_pay_21 : decode cX7_pay 21 = .ok (.iload_n 2, 1) := by decide +kernel
theorem dX7_pay_22 : decode cX7_pay 22 = .ok (.bipush 48, 2) := by decide +kernel
theorem dX7_pay_24 : decode cX7_pay 24 = .ok (.if_icmp .ge 90, 3) := by decide +kernel
theorem dX7_pay_27 : decode cX7_pay 27 = .ok (.aload_n 0, 1) := by decide +kernel
theorem dX7_pay_28 : decode cX7_pay 28 = .ok (.getfield 30, 3) := by decide +kernel
theorem dX7_pay_31 : decode cX7_pay 31 = .ok (.iload_n 2, 1) := by decide +kernel
theorem dX7_pay_32 : decode cX7_pay 32 = .ok (.baload, 1) := by decide +kernel
theorem dX7_pay_33 : decode cX7_pay 33 = .ok (.ifCond .ne 6, 3) := by decide +kernel
theorem dX7_pay_36 : decode cX7_pay 36 = .ok (.goto 72, 3) := by decide +kernel
theorem dX7_pay_39 : decode cX7_pay 39 = .ok (.aload_n 0, 1) := by decide +kernel
theorem dX7_pay_40 : decode cX7_pay 40 = .ok (.iload_n 2, 1) := by decide +kernel
theorem dX7_pay_41 : decode cX7_pay 41 = .ok (.iload_n 2, 1) := by decide +kernel
theorem dX7_pay_42 : decode cX7_pay 42 = .ok (.aload_n 0, 1) := by decide +kernel
theorem dX7_pay_43 : decode cX7_pay 43 = .ok (.getfield 111, 3) := by decide +kernel
theorem dX7_pay_46 : decode cX7_pay 46 = .ok (.invokevirtual 104, 3) := by decide +kernel
theorem dX7_pay_49 : decode cX7_pay 49 = .ok (.bipush 48, 2) := by decide +kernel
theorem dX7_pay_51 : decode cX7_pay 51 = .ok (.bipush 48, 2) := by decide +kernel
theorem dX7_pay_53 : decode cX7_pay 53 = .ok (.aload_n 0, 1) := by decide +kernel
theorem dX7_pay_54 : decode cX7_pay 54 = .ok (.getfield 120, 3) := by decide +kernel
theorem dX7_pay_57 : decode cX7_pay 57 = .ok (.imul, 1) := by decide +kernel
theorem dX7_pay_58 : decode cX7_pay 58 = .ok (.iadd, 1) := by decide +kernel
theorem dX7_pay_59 : decode cX7_pay 59 = .ok (.iload_n 2, 1) := by decide +kernel
theorem dX7_pay_60 : decode cX7_pay 60 = .ok (.iadd, 1) := by decide +kernel
theorem dX7_pay_61 : decode cX7_pay 61 = .ok (.istore_n 3, 1) := by decide +kernel
theorem dX7_pay_62 : decode cX7_pay 62 = .ok (.aload_n 0, 1) := by decide +kernel
theorem dX7_pay_63 : decode cX7_pay 63 = .ok (.iload_n 3, 1) := by decide +kernel
theorem dX7_pay_64 : decode cX7_pay 64 = .ok (.lconst 0, 1) := by decide +kernel
theorem dX7_pay_65 : decode cX7_pay 65 = .ok (.invokevirtual 66, 3) := by decide +kernel
theorem dX7_pay_68 : decode cX7_pay 68 = .ok (.aload_n 0, 1) := by decide +kernel
theorem dX7_pay_69 : decode cX7_pay 69 = .ok (.iload_n 2, 1) := by decide +kernel
theorem dX7_pay_70 : decode cX7_pay 70 = .ok (.iload_n 1, 1) := by decide +kernel
theorem dX7_pay_71 : decode cX7_pay 71 = .ok (.invokevirtual 97, 3) := by decide +kernel
theorem dX7_pay_74 : decode cX7_pay 74 = .ok (.ifCond .ne 6, 3) := by decide +kernel
theorem dX7_pay_77 : decode cX7_pay 77 = .ok (.goto 31, 3) := by decide +kernel
theorem dX7_pay_80 : decode cX7_pay 80 = .ok (.aload_n 0, 1) := by decide +kernel
theorem dX7_pay_81 : decode cX7_pay 81 = .ok (.iload_n 3, 1) := by decide +kernel
theorem dX7_pay_82 : decode cX7_pay 82 = .ok (.aload_n 0, 1) := by decide +kernel
theorem dX7_pay_83 : decode cX7_pay 83 = .ok (.getfield 45, 3) := by decide +kernel
theorem dX7_pay_86 : decode cX7_pay 86 = .ok (.iload_n 2, 1) := by decide +kernel
theorem dX7_pay_87 : decode cX7_pay 87 = .ok (.baload, 1) := by decide +kernel
theorem dX7_pay_88 : decode cX7_pay 88 = .ok (.ifCond .eq 7, 3) := by decide +kernel
theorem dX7_pay_91 : decode cX7_pay 91 = .ok (.iload_n 2, 1) := by decide +kernel
theorem dX7_pay_92 : decode cX7_pay 92 = .ok (.goto 6, 3) := by decide +kernel
theorem dX7_pay_95 : decode cX7_pay 95 = .ok (.sipush 850, 3) := by decide +kernel
theorem dX7_pay_98 : decode cX7_pay 98 = .ok (.invokevirtual 81, 3) := by decide +kernel
theorem dX7_pay_101 : decode cX7_pay 101 = .ok (.aload_n 0, 1) := by decide +kernel
theorem dX7_pay_102 : decode cX7_pay 102 = .ok (.iload_n 2, 1) := by decide +kernel
theorem dX7_pay_103 : decode cX7_pay 103 = .ok (.iload_n 2, 1) := by decide +kernel
theorem dX7_pay_104 : decode cX7_pay 104 = .ok (.iload_n 3, 1) := by decide +kernel
theorem dX7_pay_105 : decode cX7_pay 105 = .ok (.invokevirtual 77, 3) := by decide +kernel
theorem dX7_pay_108 : decode cX7_pay 108 = .ok (.iinc 2 1, 3) := by decide +kernel
theorem dX7_pay_111 : decode cX7_pay 111 = .ok (.goto (-90), 3) := by decide +kernel
theorem dX7_pay_114 : decode cX7_pay 114 = .ok (.aload_n 0, 1) := by decide +kernel
theorem dX7_pay_115 : decode cX7_pay 115 = .ok (.sipush 816, 3) := by decide +kernel
theorem dX7_pay_118 : decode cX7_pay 118 = .ok (.aload_n 0, 1) := by decide +kernel
theorem dX7_pay_119 : decode cX7_pay 119 = .ok (.getfield 120, 3) := by decide +kernel
theorem dX7_pay_122 : decode cX7_pay 122 = .ok (.iadd, 1) := by decide +kernel
theorem dX7_pay_123 : decode cX7_pay 123 = .ok (.sipush 848, 3) := by decide +kernel
theorem dX7_pay_126 : decode cX7_pay 126 = .ok (.invokevirtual 81, 3) := by decide +kernel
theorem dX7_pay_129 : decode cX7_pay 129 = .ok (.aload_n 0, 1) := by decide +kernel
theorem dX7_pay_130 : decode cX7_pay 130 = .ok (.sipush 832, 3) := by decide +kernel
theorem dX7_pay_133 : decode cX7_pay 133 = .ok (.aload_n 0, 1) := by decide +kernel
theorem dX7_pay_134 : decode cX7_pay 134 = .ok (.getfield 120, 3) := by decide +kernel
theorem dX7_pay_137 : decode cX7_pay 137 = .ok (.iadd, 1) := by decide +kernel
theorem dX7_pay_138 : decode cX7_pay 138 = .ok (.sipush 850, 3) := by decide +kernel
theorem dX7_pay_141 : decode cX7_pay 141 = .ok (.invokevirtual 81, 3) := by decide +kernel
theorem dX7_pay_144 : decode cX7_pay 144 = .ok (.aload_n 0, 1) := by decide +kernel
theorem dX7_pay_145 : decode cX7_pay 145 = .ok (.getfield 39, 3) := by decide +kernel
theorem dX7_pay_148 : decode cX7_pay 148 = .ok (.aload_n 0, 1) := by decide +kernel
theorem dX7_pay_149 : decode cX7_pay 149 = .ok (.getfield 120, 3) := by decide +kernel
theorem dX7_pay_152 : decode cX7_pay 152 = .ok (.iload_n 1, 1) := by decide +kernel
theorem dX7_pay_153 : decode cX7_pay 153 = .ok (.iastore, 1) := by decide +kernel
theorem dX7_pay_154 : decode cX7_pay 154 = .ok (.aload_n 0, 1) := by decide +kernel
theorem dX7_pay_155 : decode cX7_pay 155 = .ok (.getfield 42, 3) := by decide +kernel
theorem dX7_pay_158 : decode cX7_pay 158 = .ok (.iload_n 1, 1) := by decide +kernel
theorem dX7_pay_159 : decode cX7_pay 159 = .ok (.iconst 1, 1) := by decide +kernel
theorem dX7_pay_160 : decode cX7_pay 160 = .ok (.bastore, 1) := by decide +kernel
theorem dX7_pay_161 : decode cX7_pay 161 = .ok (.aload_n 0, 1) := by decide +kernel
theorem dX7_pay_162 : decode cX7_pay 162 = .ok (.dup, 1) := by decide +kernel
theorem dX7_pay_163 : decode cX7_pay 163 = .ok (.getfield 120, 3) := by decide +kernel
theorem dX7_pay_166 : decode cX7_pay 166 = .ok (.iconst 1, 1) := by decide +kernel
theorem dX7_pay_167 : decode cX7_pay 167 = .ok (.iadd, 1) := by decide +kernel
theorem dX7_pay_168 : decode cX7_pay 168 = .ok (.putfield 120, 3) := by decide +kernel
theorem dX7_pay_171 : decode cX7_pay 171 = .ok (.return_, 1) := by decide +kernel
set_option maxRecDepth 20000 in
theorem ggX7_phase_X7_set : GoodIn wsX7_phase wsX7_set := goodIn_r _ [16, 17, 18, 71, 72, 73, 74, 75, 76, 77, 78, 79, 80, 81, 82, 83, 84, 85, 86, 87, 88] (by decide +kernel) (by decide +kernel)
set_option maxRecDepth 20000 in
theorem gX7_phase_X7_set : GoodIn wsX7_phase (wsV RX7 66 RX7 yX7_set wsX7_set) := goodIn_app (goodIn_of _ (by decide +kernel)) ggX7_phase_X7_set
set_option maxRecDepth 20000 in
theorem ggX7_phase_X7_next : GoodIn wsX7_phase wsX7_next := goodIn_r _ [22, 23, 5, 24, 25, 26, 15, 27, 7, 28, 29, 30, 31, 12, 13, 14, 16, 17, 18, 32, 33, 34, 35, 8, 10, 36, 37, 38, 39, 40, 41, 42, 43, 44, 45, 46, 47, 48, 49, 50, 51, 52, 53, 54, 55, 56, 57, 58, 59, 60, 61, 71, 72, 73, 74, 75, 76, 77, 78, 79, 80, 81, 82, 83, 84, 85, 86, 87, 88] (by decide +kernel) (by decide +kernel)
set_option maxRecDepth 20000 in
theorem gX7_phase_X7_next : GoodIn wsX7_phase (wsV RX7 126 RX7 yX7_next wsX7_next) := goodIn_app (goodIn_of _ (by decide +kernel)) ggX7_phase_X7_next
set_option maxRecDepth 20000 in
theorem ggX7_phase_X7_pay : GoodIn wsX7_phase wsX7_pay := goodIn_r _ [65, 23, 8, 2, 53, 66, 7, 49, 50, 51, 15, 52, 5, 41, 42, 43, 44, 17, 18, 32, 33, 34, 35, 10, 54, 55, 56, 57, 45, 46, 47, 48, 58, 59, 60, 61, 40, 12, 13, 14, 16, 71, 72, 73, 74, 75, 76, 77, 78, 79, 80, 81, 82, 83, 84, 85, 86, 87, 88] (by decide +kernel) (by decide +kernel)
set_option maxRecDepth 20000 in
theorem gX7_phase_X7_pay : GoodIn wsX7_phase (wsV RX7 130 RX7 yX7_pay wsX7_pay) := goodIn_app (goodIn_of _ (by decide +kernel)) ggX7_phase_X7_pay
set_option maxRecDepth 20000 in
theorem ggX7_phase_X7_cost : GoodIn wsX7_phase wsX7_cost := goodIn_r _ [70, 2, 5, 66, 71, 72, 73, 74, 75, 76, 77, 78, 79, 80, 81, 82, 83, 84, 85, 86, 87, 88] (by decide +kernel) (by decide +kernel)
set_option maxRecDepth 20000 in
theorem gX7_phase_X7_cost : GoodIn wsX7_phase (wsV RX7 133 RX7 yX7_cost wsX7_cost) := goodIn_app (goodIn_of _ (by decide +kernel)) ggX7_phase_X7_cost
theorem dX7_phase_0 : decode cX7_phase 0 = .ok (.aload_n 0, 1) := by decide +kernel
theorem dX7_phase_1 : decode cX7_phase 1 = .ok (.iconst 0, 1) := by decide +kernel
theorem dX7_phase_2 : decode cX7_phase 2 = .ok (.putfield 123, 3) := by decide +kernel
theorem dX7_phase_5 : decode cX7_phase 5 = .ok (.aload_n 0, 1) := by decide +kernel
theorem dX7_phase_6 : decode cX7_phase 6 = .ok (.iconst 0, 1) := by decide +kernel
theorem dX7_phase_7 : decode cX7_phase 7 = .ok (.putfield 120, 3) := by decide +kernel
theorem dX7_phase_10 : decode cX7_phase 10 = .ok (.aload_n 0, 1) := by decide +kernel
theorem dX7_phase_11 : decode cX7_phase 11 = .ok (.aload_n 0, 1) := by decide +kernel
theorem dX7_phase_12 : decode cX7_phase 12 = .ok (.getfield 23, 3) := by decide +kernel
theorem dX7_phase_15 : decode cX7_phase 15 = .ok (.putfield 36, 3) := by decide +kernel
theorem dX7_phase_18 : decode cX7_phase 18 = .ok (.iconst 0, 1) := by decide +kernel
theorem dX7_phase_19 : decode cX7_phase 19 = .ok (.istore_n 2, 1) := by decide +kernel
theorem dX7_phase_20 : decode cX7_phase 20 = .ok (.iload_n 2, 1) := by decide +kernel
theorem dX7_phase_21 : decode cX7_phase 21 = .ok (.bipush 16, 2) := by decide +kernel
theorem dX7_phase_23 : decode cX7_phase 23 = .ok (.if_icmp .ge 28, 3) := by decide +kernel
theorem dX7_phase_26 : decode cX7_phase 26 = .ok (.aload_n 0, 1) := by decide +kernel
theorem dX7_phase_27 : decode cX7_phase 27 = .ok (.getfield 27, 3) := by decide +kernel
theorem dX7_phase_30 : decode cX7_phase 30 = .ok (.iload_n 2, 1) := by decide +kernel
theorem dX7_phase_31 : decode cX7_phase 31 = .ok (.aload_n 0, 1) := by decide +kernel
theorem dX7_phase_32 : decode cX7_phase 32 = .ok (.getfield 13, 3) := by decide +kernel
theorem dX7_phase_35 : decode cX7_phase 35 = .ok (.iload_n 2, 1) := by decide +kernel
theorem dX7_phase_36 : decode cX7_phase 36 = .ok (.iaload, 1) := by decide +kernel
theorem dX7_phase_37 : decode cX7_phase 37 = .ok (.iastore, 1) := by decide +kernel
theorem dX7_phase_38 : decode cX7_phase 38 = .ok (.aload_n 0, 1) := by decide +kernel
theorem dX7_phase_39 : decode cX7_phase 39 = .ok (.getfield 42, 3) := by decide +kernel
theorem dX7_phase_42 : decode cX7_phase 42 = .ok (.iload_n 2, 1) := by decide +kernel
theorem dX7_phase_43 : decode cX7_phase 43 = .ok (.iconst 0, 1) := by decide +kernel
theorem dX7_phase_44 : decode cX7_phase 44 = .ok (.bastore, 1) := by decide +kernel
theorem dX7_phase_45 : decode cX7_phase 45 = .ok (.iinc 2 1, 3) := by decide +kernel
theorem dX7_phase_48 : decode cX7_phase 48 = .ok (.goto (-28), 3) := by decide +kernel
theorem dX7_phase_51 : decode cX7_phase 51 = .ok (.iconst 0, 1) := by decide +kernel
theorem dX7_phase_52 : decode cX7_phase 52 = .ok (.istore_n 2, 1) := by decide +kernel
theorem dX7_phase_53 : decode cX7_phase 53 = .ok (.iload_n 2, 1) := by decide +kernel
theorem dX7_phase_54 : decode cX7_phase 54 = .ok (.bipush 48, 2) := by decide +kernel
theorem dX7_phase_56 : decode cX7_phase 56 = .ok (.if_icmp .ge 56, 3) := by decide +kernel
theorem dX7_phase_59 : decode cX7_phase 59 = .ok (.aload_n 0, 1) := by decide +kernel
theorem dX7_phase_60 : decode cX7_phase 60 = .ok (.getfield 30, 3) := by decide +kernel
theorem dX7_phase_63 : decode cX7_phase 63 = .ok (.iload_n 2, 1) := by decide +kernel
theorem dX7_phase_64 : decode cX7_phase 64 = .ok (.aload_n 0, 1) := by decide +kernel
theorem dX7_phase_65 : decode cX7_phase 65 = .ok (.getfield 16, 3) := by decide +kernel
theorem dX7_phase_68 : decode cX7_phase 68 = .ok (.iload_n 2, 1) := by decide +kernel
theorem dX7_phase_69 : decode cX7_phase 69 = .ok (.baload, 1) := by decide +kernel
theorem dX7_phase_70 : decode cX7_phase 70 = .ok (.bastore, 1) := by decide +kernel
theorem dX7_phase_71 : decode cX7_phase 71 = .ok (.aload_n 0, 1) := by decide +kernel
theorem dX7_phase_72 : decode cX7_phase 72 = .ok (.getfield 33, 3) := by decide +kernel
theorem dX7_phase_75 : decode cX7_phase 75 = .ok (.iload_n 2, 1) := by decide +kernel
theorem dX7_phase_76 : decode cX7_phase 76 = .ok (.aload_n 0, 1) := by decide +kernel
theorem dX7_phase_77 : decode cX7_phase 77 = .ok (.getfield 20, 3) := by decide +kernel
theorem dX7_phase_80 : decode cX7_phase 80 = .ok (.iload_n 2, 1) := by decide +kernel
theorem dX7_phase_81 : decode cX7_phase 81 = .ok (.iaload, 1) := by decide +kernel
theorem dX7_phase_82 : decode cX7_phase 82 = .ok (.iastore, 1) := by decide +kernel
theorem dX7_phase_83 : decode cX7_phase 83 = .ok (.aload_n 0, 1) := by decide +kernel
theorem dX7_phase_84 : decode cX7_phase 84 = .ok (.dup, 1) := by decide +kernel
theorem dX7_phase_85 : decode cX7_phase 85 = .ok (.getfield 123, 3) := by decide +kernel
theorem dX7_phase_88 : decode cX7_phase 88 = .ok (.aload_n 0, 1) := by decide +kernel
theorem dX7_phase_89 : decode cX7_phase 89 = .ok (.getfield 16, 3) := by decide +kernel
theorem dX7_phase_92 : decode cX7_phase 92 = .ok (.iload_n 2, 1) := by decide +kernel
theorem dX7_phase_93 : decode cX7_phase 93 = .ok (.baload, 1) := by decide +kernel
theorem dX7_phase_94 : decode cX7_phase 94 = .ok (.ifCond .eq 7, 3) := by decide +kernel
theorem dX7_phase_97 : decode cX7_phase 97 = .ok (.iconst 1, 1) := by decide +kernel
theorem dX7_phase_98 : decode cX7_phase 98 = .ok (.goto 4, 3) := by decide +kernel
theorem dX7_phase_101 : decode cX7_phase 101 = .ok (.iconst 0, 1) := by decide +kernel
theorem dX7_phase_102 : decode cX7_phase 102 = .ok (.iadd, 1) := by decide +kernel
theorem dX7_phase_103 : decode cX7_phase 103 = .ok (.putfield 123, 3) := by decide +kernel
theorem dX7_phase_106 : decode cX7_phase 106 = .ok (.iinc 2 1, 3) := by decide +kernel
theorem dX7_phase_109 : decode cX7_phase 109 = .ok (.goto (-56), 3) := by decide +kernel
theorem dX7_phase_112 : decode cX7_phase 112 = .ok (.aload_n 0, 1) := by decide +kernel
theorem dX7_phase_113 : decode cX7_phase 113 = .ok (.sipush 848, 3) := by decide +kernel
theorem dX7_phase_116 : decode cX7_phase 116 = .ok (.aload_n 0, 1) := by decide +kernel
theorem dX7_phase_117 : decode cX7_phase 117 = .ok (.getfield 123, 3) := by decide +kernel
theorem dX7_phase_120 : decode cX7_phase 120 = .ok (.ifCond .ne 7, 3) := by decide +kernel
theorem dX7_phase_123 : decode cX7_phase 123 = .ok (.lconst 1, 1) := by decide +kernel
theorem dX7_phase_124 : decode cX7_phase 124 = .ok (.goto 8, 3) := by decide +kernel
theorem dX7_phase_127 : decode cX7_phase 127 = .ok (.aload_n 0, 1) := by decide +kernel
theorem dX7_phase_128 : decode cX7_phase 128 = .ok (.getfield 123, 3) := by decide +kernel
theorem dX7_phase_131 : decode cX7_phase 131 = .ok (.i2l, 1) := by decide +kernel
theorem dX7_phase_132 : decode cX7_phase 132 = .ok (.invokevirtual 66, 3) := by decide +kernel
theorem dX7_phase_135 : decode cX7_phase 135 = .ok (.iconst 0, 1) := by decide +kernel
theorem dX7_phase_136 : decode cX7_phase 136 = .ok (.istore_n 2, 1) := by decide +kernel
theorem dX7_phase_137 : decode cX7_phase 137 = .ok (.iload_n 2, 1) := by decide +kernel
theorem dX7_phase_138 : decode cX7_phase 138 = .ok (.bipush 48, 2) := by decide +kernel
theorem dX7_phase_140 : decode cX7_phase 140 = .ok (.if_icmp .ge 41, 3) := by decide +kernel
theorem dX7_phase_143 : decode cX7_phase 143 = .ok (.aload_n 0, 1) := by decide +kernel
theorem dX7_phase_144 : decode cX7_phase 144 = .ok (.iload_n 2, 1) := by decide +kernel
theorem dX7_phase_145 : decode cX7_phase 145 = .ok (.aload_n 0, 1) := by decide +kernel
theorem dX7_phase_146 : decode cX7_phase 146 = .ok (.getfield 30, 3) := by decide +kernel
theorem dX7_phase_149 : decode cX7_phase 149 = .ok (.iload_n 2, 1) := by decide +kernel
theorem dX7_phase_150 : decode cX7_phase 150 = .ok (.baload, 1) := by decide +kernel
theorem dX7_phase_151 : decode cX7_phase 151 = .ok (.ifCond .eq 20, 3) := by decide +kernel
theorem dX7_phase_154 : decode cX7_phase 154 = .ok (.aload_n 0, 1) := by decide +kernel
theorem dX7_phase_155 : decode cX7_phase 155 = .ok (.getfield 23, 3) := by decide +kernel
theorem dX7_phase_158 : decode cX7_phase 158 = .ok (.i2l, 1) := by decide +kernel
theorem dX7_phase_159 : decode cX7_phase 159 = .ok (.iload_n 1, 1) := by decide +kernel
theorem dX7_phase_160 : decode cX7_phase 160 = .ok (.i2l, 1) := by decide +kernel
theorem dX7_phase_161 : decode cX7_phase 161 = .ok (.aload_n 0, 1) := by decide +kernel
theorem dX7_phase_162 : decode cX7_phase 162 = .ok (.getfield 123, 3) := by decide +kernel
theorem dX7_phase_165 : decode cX7_phase 165 = .ok (.i2l, 1) := by decide +kernel
theorem dX7_phase_166 : decode cX7_phase 166 = .ok (.lmul, 1) := by decide +kernel
theorem dX7_phase_167 : decode cX7_phase 167 = .ok (.ladd, 1) := by decide +kernel
theorem dX7_phase_168 : decode cX7_phase 168 = .ok (.goto 4, 3) := by decide +kernel
theorem dX7_phase_171 : decode cX7_phase 171 = .ok (.lconst 0, 1) := by decide +kernel
theorem dX7_phase_172 : decode cX7_phase 172 = .ok (.invokevirtual 66, 3) := by decide +kernel
theorem dX7_phase_175 : decode cX7_phase 175 = .ok (.iinc 2 1, 3) := by decide +kernel
theorem dX7_phase_178 : decode cX7_phase 178 = .ok (.goto (-41), 3) := by decide +kernel
theorem dX7_phase_181 : decode cX7_phase 181 = .ok (.aload_n 0, 1) := by decide +kernel
theorem dX7_phase_182 : decode cX7_phase 182 = .ok (.invokevirtual 126, 3) := by decide +kernel
theorem dX7_phase_185 : decode cX7_phase 185 = .ok (.istore_n 2, 1) := by decide +kernel
theorem dX7_phase_186 : decode cX7_phase 186 = .ok (.iload_n 2, 1) := by decide +kernel
theorem dX7_phase_187 : decode cX7_phase 187 = .ok (.ifCond .lt 16, 3) := by decide +kernel
theorem dX7_phase_190 : decode cX7_phase 190 = .ok (.aload_n 0, 1) := by decide +kernel
theorem dX7_phase_191 : decode cX7_phase 191 = .ok (.iload_n 2, 1) := by decide +kernel
theorem dX7_phase_192 : decode cX7_phase 192 = .ok (.invokevirtual 130, 3) := by decide +kernel
theorem dX7_phase_195 : decode cX7_phase 195 = .ok (.aload_n 0, 1) := by decide +kernel
theorem dX7_phase_196 : decode cX7_phase 196 = .ok (.invokevirtual 126, 3) := by decide +kernel
theorem dX7_phase_199 : decode cX7_phase 199 = .ok (.istore_n 2, 1) := by decide +kernel
theorem dX7_phase_200 : decode cX7_phase 200 = .ok (.goto (-14), 3) := by decide +kernel
theorem dX7_phase_203 : decode cX7_phase 203 = .ok (.aload_n 0, 1) := by decide +kernel
theorem dX7_phase_204 : decode cX7_phase 204 = .ok (.invokevirtual 133, 3) := by decide +kernel
theorem dX7_phase_207 : decode cX7_phase 207 = .ok (.ireturn, 1) := by decide +kernel
theorem dX7_cost_0 : decode cX7_cost 0 = .ok (.iconst 0, 1) := by decide +kernel
theorem dX7_cost_1 : decode cX7_cost 1 = .ok (.istore_n 1, 1) := by decide +kernel
theorem dX7_cost_2 : decode cX7_cost 2 = .ok (.iconst 0, 1) := by decide +kernel
theorem dX7_cost_3 : decode cX7_cost 3 = .ok (.istore_n 2, 1) := by decide +kernel
theorem dX7_cost_4 : decode cX7_cost 4 = .ok (.iload_n 2, 1) := by decide +kernel
theorem dX7_cost_5 : decode cX7_cost 5 = .ok (.aload_n 0, 1) := by decide +kernel
theorem dX7_cost_6 : decode cX7_cost 6 = .ok (.getfield 120, 3) := by decide +kernel
theorem dX7_cost_9 : decode cX7_cost 9 = .ok (.if_icmp .ge 23, 3) := by decide +kernel
theorem dX7_cost_12 : decode cX7_cost 12 = .ok (.iload_n 1, 1) := by decide +kernel
theorem dX7_cost_13 : decode cX7_cost 13 = .ok (.aload_n 0, 1) := by decide +kernel
theorem dX7_cost_14 : decode cX7_cost 14 = .ok (.getfield 27, 3) := by decide +kernel
theorem dX7_cost_17 : decode cX7_cost 17 = .ok (.aload_n 0, 1) := by decide +kernel
theorem dX7_cost_18 : decode cX7_cost 18 = .ok (.getfield 39, 3) := by decide +kernel
theorem dX7_cost_21 : decode cX7_cost 21 = .ok (.iload_n 2, 1) := by decide +kernel
theorem dX7_cost_22 : decode cX7_cost 22 = .ok (.iaload, 1) := by decide +kernel
theorem dX7_cost_23 : decode cX7_cost 23 = .ok (.iaload, 1) := by decide +kernel
theorem dX7_cost_24 : decode cX7_cost 24 = .ok (.iadd, 1) := by decide +kernel
theorem dX7_cost_25 : decode cX7_cost 25 = .ok (.istore_n 1, 1) := by decide +kernel
theorem dX7_cost_26 : decode cX7_cost 26 = .ok (.iinc 2 1, 3) := by decide +kernel
theorem dX7_cost_29 : decode cX7_cost 29 = .ok (.goto (-25), 3) := by decide +kernel
theorem dX7_cost_32 : decode cX7_cost 32 = .ok (.iload_n 1, 1) := by decide +kernel
theorem dX7_cost_33 : decode cX7_cost 33 = .ok (.ireturn, 1) := by decide +kernel
set_option maxRecDepth 20000 in
theorem ggX7_run_X7_phase : GoodIn wsX7_run wsX7_phase := goodIn_r _ [7, 8, 2, 9, 10, 11, 12, 13, 14, 15, 16, 17, 18, 19, 20, 6, 21, 22, 23, 24, 25, 26, 27, 28, 29, 30, 31, 32, 33, 34, 35, 36, 37, 38, 39, 40, 41, 42, 43, 44, 45, 46, 47, 48, 49, 50, 51, 52, 53, 54, 55, 56, 57, 58, 59, 60, 61, 62, 63, 64, 65, 66, 67, 68, 69, 70, 71, 72, 73, 74, 75, 76, 77, 78, 79, 80, 81, 82, 83, 84, 85, 86, 87, 88, 89, 90, 91, 92, 93] (by decide +kernel) (by decide +kernel)
set_option maxRecDepth 20000 in
theorem gX7_run_X7_phase : GoodIn wsX7_run (wsV RX7 136 RX7 yX7_phase wsX7_phase) := goodIn_app (goodIn_of _ (by decide +kernel)) ggX7_run_X7_phase
theorem dX7_run_0 : decode cX7_run 0 = .ok (.aload_n 0, 1) := by decide +kernel
theorem dX7_run_1 : decode cX7_run 1 = .ok (.iconst 0, 1) := by decide +kernel
theorem dX7_run_2 : decode cX7_run 2 = .ok (.putfield 51, 3) := by decide +kernel
theorem dX7_run_5 : decode cX7_run 5 = .ok (.aload_n 0, 1) := by decide +kernel
theorem dX7_run_6 : decode cX7_run 6 = .ok (.iconst 0, 1) := by decide +kernel
theorem dX7_run_7 : decode cX7_run 7 = .ok (.invokevirtual 136, 3) := by decide +kernel
theorem dX7_run_10 : decode cX7_run 10 = .ok (.istore_n 1, 1) := by decide +kernel
theorem dX7_run_11 : decode cX7_run 11 = .ok (.aload_n 0, 1) := by decide +kernel
theorem dX7_run_12 : decode cX7_run 12 = .ok (.getfield 120, 3) := by decide +kernel
theorem dX7_run_15 : decode cX7_run 15 = .ok (.ireturn, 1) := by decide +kernel
set_option maxRecDepth 20000 in
theorem ggX7_raise_X7_within : GoodIn wsX7_raise wsX7_within := goodIn_r _ [7] (by decide +kernel) (by decide +kernel)
set_option maxRecDepth 20000 in
theorem gX7_raise_X7_within : GoodIn wsX7_raise (va_wsS RX7 91 yX7_within wsX7_within) := goodIn_app (goodIn_of _ (by decide +kernel)) ggX7_raise_X7_within
set_option maxRecDepth 20000 in
theorem ggX7_raise_X7_phase : GoodIn wsX7_raise wsX7_phase := goodIn_r _ [11, 12, 13, 3, 14, 15, 16, 17, 18, 19, 20, 21, 22, 23, 24, 6, 25, 26, 27, 28, 29, 30, 31, 32, 33, 34, 35, 36, 37, 38, 39, 40, 41, 42, 43, 44, 45, 46, 47, 48, 49, 50, 51, 52, 53, 54, 55, 56, 57, 58, 59, 60, 61, 62, 63, 64, 65, 66, 67, 68, 69, 70, 71, 72, 73, 74, 75, 76, 77, 78, 79, 80, 81, 82, 83, 84, 85, 86, 87, 88, 89, 90, 91, 92, 93, 94, 95, 96, 97] (by decide +kernel) (by decide +kernel)
set_option maxRecDepth 20000 in
theorem gX7_raise_X7_phase : GoodIn wsX7_raise (wsV RX7 136 RX7 yX7_phase wsX7_phase) := goodIn_app (goodIn_of _ (by decide +kernel)) ggX7_raise_X7_phase
theorem dX7_raise_0 : decode cX7_raise 0 = .ok (.aload_n 0, 1) := by decide +kernel
theorem dX7_raise_1 : decode cX7_raise 1 = .ok (.iload_n 1, 1) := by decide +kernel
theorem dX7_raise_2 : decode cX7_raise 2 = .ok (.iconst 1, 1) := by decide +kernel
theorem dX7_raise_3 : decode cX7_raise 3 = .ok (.ldc 139, 2) := by decide +kernel
theorem dX7_raise_5 : decode cX7_raise 5 = .ok (.invokestatic 91, 3) := by decide +kernel
theorem dX7_raise_8 : decode cX7_raise 8 = .ok (.ifCond .eq 13, 3) := by decide +kernel
theorem dX7_raise_11 : decode cX7_raise 11 = .ok (.iload_n 2, 1) := by decide +kernel
theorem dX7_raise_12 : decode cX7_raise 12 = .ok (.iconst 0, 1) := by decide +kernel
theorem dX7_raise_13 : decode cX7_raise 13 = .ok (.bipush 100, 2) := by decide +kernel
theorem dX7_raise_15 : decode cX7_raise 15 = .ok (.invokestatic 91, 3) := by decide +kernel
theorem dX7_raise_18 : decode cX7_raise 18 = .ok (.ifCond .ne 7, 3) := by decide +kernel
theorem dX7_raise_21 : decode cX7_raise 21 = .ok (.iconst 1, 1) := by decide +kernel
theorem dX7_raise_22 : decode cX7_raise 22 = .ok (.goto 4, 3) := by decide +kernel
theorem dX7_raise_25 : decode cX7_raise 25 = .ok (.iconst 0, 1) := by decide +kernel
theorem dX7_raise_26 : decode cX7_raise 26 = .ok (.putfield 51, 3) := by decide +kernel
theorem dX7_raise_29 : decode cX7_raise 29 = .ok (.aload_n 0, 1) := by decide +kernel
theorem dX7_raise_30 : decode cX7_raise 30 = .ok (.getfield 51, 3) := by decide +kernel
theorem dX7_raise_33 : decode cX7_raise 33 = .ok (.ifCond .eq 5, 3) := by decide +kernel
theorem dX7_raise_36 : decode cX7_raise 36 = .ok (.iconst 0, 1) := by decide +kernel
theorem dX7_raise_37 : decode cX7_raise 37 = .ok (.ireturn, 1) := by decide +kernel
theorem dX7_raise_38 : decode cX7_raise 38 = .ok (.iconst 0, 1) := by decide +kernel
theorem dX7_raise_39 : decode cX7_raise 39 = .ok (.istore_n 3, 1) := by decide +kernel
theorem dX7_raise_40 : decode cX7_raise 40 = .ok (.iconst 0, 1) := by decide +kernel
theorem dX7_raise_41 : decode cX7_raise 41 = .ok (.istore 4, 2) := by decide +kernel
theorem dX7_raise_43 : decode cX7_raise 43 = .ok (.iload 4, 2) := by decide +kernel
theorem dX7_raise_45 : decode cX7_raise 45 = .ok (.iload_n 2, 1) := by decide +kernel
theorem dX7_raise_46 : decode cX7_raise 46 = .ok (.if_icmp .gt 42, 3) := by decide +kernel
theorem dX7_raise_49 : decode cX7_raise 49 = .ok (.aload_n 0, 1) := by decide +kernel
theorem dX7_raise_50 : decode cX7_raise 50 = .ok (.iload 4, 2) := by decide +kernel
theorem dX7_raise_52 : decode cX7_raise 52 = .ok (.iload_n 1, 1) := by decide +kernel
theorem dX7_raise_53 : decode cX7_raise 53 = .ok (.imul, 1) := by decide +kernel
theorem dX7_raise_54 : decode cX7_raise 54 = .ok (.invokevirtual 136, 3) := by decide +kernel
theorem dX7_raise_57 : decode cX7_raise 57 = .ok (.istore_n 3, 1) := by decide +kernel
theorem dX7_raise_58 : decode cX7_raise 58 = .ok (.iload_n 3, 1) := by decide +kernel
theorem dX7_raise_59 : decode cX7_raise 59 = .ok (.aload_n 0, 1) := by decide +kernel
theorem dX7_raise_60 : decode cX7_raise 60 = .ok (.getfield 23, 3) := by decide +kernel
theorem dX7_raise_63 : decode cX7_raise 63 = .ok (.if_icmp .le 19, 3) := by decide +kernel
theorem dX7_raise_66 : decode cX7_raise 66 = .ok (.aload_n 0, 1) := by decide +kernel
theorem dX7_raise_67 : decode cX7_raise 67 = .ok (.iload 4, 2) := by decide +kernel
theorem dX7_raise_69 : decode cX7_raise 69 = .ok (.iconst 1, 1) := by decide +kernel
theorem dX7_raise_70 : decode cX7_raise 70 = .ok (.isub, 1) := by decide +kernel
theorem dX7_raise_71 : decode cX7_raise 71 = .ok (.iload_n 1, 1) := by decide +kernel
theorem dX7_raise_72 : decode cX7_raise 72 = .ok (.imul, 1) := by decide +kernel
theorem dX7_raise_73 : decode cX7_raise 73 = .ok (.invokevirtual 136, 3) := by decide +kernel
theorem dX7_raise_76 : decode cX7_raise 76 = .ok (.istore_n 3, 1) := by decide +kernel
theorem dX7_raise_77 : decode cX7_raise 77 = .ok (.iload 4, 2) := by decide +kernel
theorem dX7_raise_79 : decode cX7_raise 79 = .ok (.iconst 1, 1) := by decide +kernel
theorem dX7_raise_80 : decode cX7_raise 80 = .ok (.isub, 1) := by decide +kernel
theorem dX7_raise_81 : decode cX7_raise 81 = .ok (.ireturn, 1) := by decide +kernel
theorem dX7_raise_82 : decode cX7_raise 82 = .ok (.iinc 4 1, 3) := by decide +kernel
theorem dX7_raise_85 : decode cX7_raise 85 = .ok (.goto (-42), 3) := by decide +kernel
theorem dX7_raise_88 : decode cX7_raise 88 = .ok (.iload_n 2, 1) := by decide +kernel
theorem dX7_raise_89 : decode cX7_raise 89 = .ok (.ireturn, 1) := by decide +kernel
set_option maxRecDepth 20000 in
theorem ggX7_chosen_X7_within : GoodIn wsX7_chosen wsX7_within := goodIn_r _ [7] (by decide +kernel) (by decide +kernel)
set_option maxRecDepth 20000 in
theorem gX7_chosen_X7_within : GoodIn wsX7_chosen (va_wsS RX7 91 yX7_within wsX7_within) := goodIn_app (goodIn_of _ (by decide +kernel)) ggX7_chosen_X7_within
theorem dX7_chosen_0 : decode cX7_chosen 0 = .ok (.aload_n 0, 1) := by decide +kernel
theorem dX7_chosen_1 : decode cX7_chosen 1 = .ok (.iconst 0, 1) := by decide +kernel
theorem dX7_chosen_2 : decode cX7_chosen 2 = .ok (.putfield 51, 3) := by decide +kernel
theorem dX7_chosen_5 : decode cX7_chosen 5 = .ok (.iload_n 1, 1) := by decide +kernel
theorem dX7_chosen_6 : decode cX7_chosen 6 = .ok (.iconst 0, 1) := by decide +kernel
theorem dX7_chosen_7 : decode cX7_chosen 7 = .ok (.aload_n 0, 1) := by decide +kernel
theorem dX7_chosen_8 : decode cX7_chosen 8 = .ok (.getfield 120, 3) := by decide +kernel
theorem dX7_chosen_11 : decode cX7_chosen 11 = .ok (.iconst 1, 1) := by decide +kernel
theorem dX7_chosen_12 : decode cX7_chosen 12 = .ok (.isub, 1) := by decide +kernel
theorem dX7_chosen_13 : decode cX7_chosen 13 = .ok (.invokestatic 91, 3) := by decide +kernel
theorem dX7_chosen_16 : decode cX7_chosen 16 = .ok (.ifCond .eq 12, 3) := by decide +kernel
theorem dX7_chosen_19 : decode cX7_chosen 19 = .ok (.aload_n 0, 1) := by decide +kernel
theorem dX7_chosen_20 : decode cX7_chosen 20 = .ok (.getfield 39, 3) := by decide +kernel
theorem dX7_chosen_23 : decode cX7_chosen 23 = .ok (.iload_n 1, 1) := by decide +kernel
theorem dX7_chosen_24 : decode cX7_chosen 24 = .ok (.iaload, 1) := by decide +kernel
theorem dX7_chosen_25 : decode cX7_chosen 25 = .ok (.goto 4, 3) := by decide +kernel
theorem dX7_chosen_28 : decode cX7_chosen 28 = .ok (.iconst (-1), 1) := by decide +kernel
theorem dX7_chosen_29 : decode cX7_chosen 29 = .ok (.ireturn, 1) := by decide +kernel
set_option maxRecDepth 20000 in
theorem ggX7_spent_X7_cost : GoodIn wsX7_spent wsX7_cost := goodIn_r _ [6, 7, 8, 9, 10, 11, 12, 13, 14, 15, 16, 17, 18, 19, 20, 21, 22, 23, 24, 25, 26, 27] (by decide +kernel) (by decide +kernel)
set_option maxRecDepth 20000 in
theorem gX7_spent_X7_cost : GoodIn wsX7_spent (wsV RX7 133 RX7 yX7_cost wsX7_cost) := goodIn_app (goodIn_of _ (by decide +kernel)) ggX7_spent_X7_cost
theorem dX7_spent_0 : decode cX7_spent 0 = .ok (.aload_n 0, 1) := by decide +kernel
theorem dX7_spent_1 : decode cX7_spent 1 = .ok (.iconst 0, 1) := by decide +kernel
theorem dX7_spent_2 : decode cX7_spent 2 = .ok (.putfield 51, 3) := by decide +kernel
theorem dX7_spent_5 : decode cX7_spent 5 = .ok (.aload_n 0, 1) := by decide +kernel
theorem dX7_spent_6 : decode cX7_spent 6 = .ok (.invokevirtual 133, 3) := by decide +kernel
theorem dX7_spent_9 : decode cX7_spent 9 = .ok (.ireturn, 1) := by decide +kernel
set_option maxRecDepth 20000 in
theorem ggX7_isVoter_X7_within : GoodIn wsX7_isVoter wsX7_within := goodIn_r _ [5] (by decide +kernel) (by decide +kernel)
set_option maxRecDepth 20000 in
theorem gX7_isVoter_X7_within : GoodIn wsX7_isVoter (va_wsS RX7 91 yX7_within wsX7_within) := goodIn_app (goodIn_of _ (by decide +kernel)) ggX7_isVoter_X7_within
theorem dX7_isVoter_0 : decode cX7_isVoter 0 = .ok (.iload_n 1, 1) := by decide +kernel
theorem dX7_isVoter_1 : decode cX7_isVoter 1 = .ok (.iconst 0, 1) := by decide +kernel
theorem dX7_isVoter_2 : decode cX7_isVoter 2 = .ok (.bipush 47, 2) := by decide +kernel
theorem dX7_isVoter_4 : decode cX7_isVoter 4 = .ok (.invokestatic 91, 3) := by decide +kernel
theorem dX7_isVoter_7 : decode cX7_isVoter 7 = .ok (.ifCond .eq 16, 3) := by decide +kernel
theorem dX7_isVoter_10 : decode cX7_isVoter 10 = .ok (.aload_n 0, 1) := by decide +kernel
theorem dX7_isVoter_11 : decode cX7_isVoter 11 = .ok (.getfield 30, 3) := by decide +kernel
theorem dX7_isVoter_14 : decode cX7_isVoter 14 = .ok (.iload_n 1, 1) := by decide +kernel
theorem dX7_isVoter_15 : decode cX7_isVoter 15 = .ok (.baload, 1) := by decide +kernel
theorem dX7_isVoter_16 : decode cX7_isVoter 16 = .ok (.ifCond .eq 7, 3) := by decide +kernel
theorem dX7_isVoter_19 : decode cX7_isVoter 19 = .ok (.iconst 1, 1) := by decide +kernel
theorem dX7_isVoter_20 : decode cX7_isVoter 20 = .ok (.goto 4, 3) := by decide +kernel
theorem dX7_isVoter_23 : decode cX7_isVoter 23 = .ok (.iconst 0, 1) := by decide +kernel
theorem dX7_isVoter_24 : decode cX7_isVoter 24 = .ok (.ireturn, 1) := by decide +kernel
set_option maxRecDepth 20000 in
theorem ggX7_word_X7_reduce : GoodIn wsX7_word wsX7_reduce := goodIn_r _ [6, 7, 8, 9, 5, 10, 1, 11, 12, 13, 14, 15, 16, 17, 18, 19, 20, 21, 22, 23, 24, 25, 26, 27, 28, 29, 30, 31, 32, 33, 34, 35, 36, 37, 38, 39, 40, 41, 42, 43, 44, 45, 46, 47, 48, 49, 50, 51, 52, 53, 54, 55, 56, 57, 58, 59, 60, 61, 62] (by decide +kernel) (by decide +kernel)
set_option maxRecDepth 20000 in
theorem gX7_word_X7_reduce : GoodIn wsX7_word (wsV RX7 140 RX7 yX7_reduce wsX7_reduce) := goodIn_app (goodIn_of _ (by decide +kernel)) ggX7_word_X7_reduce
theorem dX7_word_0 : decode cX7_word 0 = .ok (.iload 4, 2) := by decide +kernel
theorem dX7_word_2 : decode cX7_word 2 = .ok (.iconst 5, 1) := by decide +kernel
theorem dX7_word_3 : decode cX7_word 3 = .ok (.if_icmp .le 5, 3) := by decide +kernel
theorem dX7_word_6 : decode cX7_word 6 = .ok (.iconst 0, 1) := by decide +kernel
theorem dX7_word_7 : decode cX7_word 7 = .ok (.ireturn, 1) := by decide +kernel
theorem dX7_word_8 : decode cX7_word 8 = .ok (.aload_n 0, 1) := by decide +kernel
theorem dX7_word_9 : decode cX7_word 9 = .ok (.iload_n 1, 1) := by decide +kernel
theorem dX7_word_10 : decode cX7_word 10 = .ok (.iload_n 2, 1) := by decide +kernel
theorem dX7_word_11 : decode cX7_word 11 = .ok (.invokevirtual 140, 3) := by decide +kernel
theorem dX7_word_14 : decode cX7_word 14 = .ok (.iload_n 3, 1) := by decide +kernel
theorem dX7_word_15 : decode cX7_word 15 = .ok (.ifCond .ne 9, 3) := by decide +kernel
theorem dX7_word_18 : decode cX7_word 18 = .ok (.sipush 852, 3) := by decide +kernel
theorem dX7_word_21 : decode cX7_word 21 = .ok (.goto 6, 3) := by decide +kernel
theorem dX7_word_24 : decode cX7_word 24 = .ok (.sipush 853, 3) := by decide +kernel
theorem dX7_word_27 : decode cX7_word 27 = .ok (.istore 5, 2) := by decide +kernel
theorem dX7_word_29 : decode cX7_word 29 = .ok (.aload_n 0, 1) := by decide +kernel
theorem dX7_word_30 : decode cX7_word 30 = .ok (.getfield 7, 3) := by decide +kernel
theorem dX7_word_33 : decode cX7_word 33 = .ok (.bipush 12, 2) := by decide +kernel
theorem dX7_word_35 : decode cX7_word 35 = .ok (.iload 5, 2) := by decide +kernel
theorem dX7_word_37 : decode cX7_word 37 = .ok (.imul, 1) := by decide +kernel
theorem dX7_word_38 : decode cX7_word 38 = .ok (.iconst 2, 1) := by decide +kernel
theorem dX7_word_39 : decode cX7_word 39 = .ok (.iload 4, 2) := by decide +kernel
theorem dX7_word_41 : decode cX7_word 41 = .ok (.imul, 1) := by decide +kernel
theorem dX7_word_42 : decode cX7_word 42 = .ok (.iadd, 1) := by decide +kernel
theorem dX7_word_43 : decode cX7_word 43 = .ok (.iaload, 1) := by decide +kernel
theorem dX7_word_44 : decode cX7_word 44 = .ok (.aload_n 0, 1) := by decide +kernel
theorem dX7_word_45 : decode cX7_word 45 = .ok (.getfield 7, 3) := by decide +kernel
theorem dX7_word_48 : decode cX7_word 48 = .ok (.bipush 12, 2) := by decide +kernel
theorem dX7_word_50 : decode cX7_word 50 = .ok (.iload 5, 2) := by decide +kernel
theorem dX7_word_52 : decode cX7_word 52 = .ok (.imul, 1) := by decide +kernel
theorem dX7_word_53 : decode cX7_word 53 = .ok (.iconst 2, 1) := by decide +kernel
theorem dX7_word_54 : decode cX7_word 54 = .ok (.iload 4, 2) := by decide +kernel
theorem dX7_word_56 : decode cX7_word 56 = .ok (.imul, 1) := by decide +kernel
theorem dX7_word_57 : decode cX7_word 57 = .ok (.iadd, 1) := by decide +kernel
theorem dX7_word_58 : decode cX7_word 58 = .ok (.iconst 1, 1) := by decide +kernel
theorem dX7_word_59 : decode cX7_word 59 = .ok (.iadd, 1) := by decide +kernel
theorem dX7_word_60 : decode cX7_word 60 = .ok (.iaload, 1) := by decide +kernel
theorem dX7_word_61 : decode cX7_word 61 = .ok (.bipush 16, 2) := by decide +kernel
theorem dX7_word_63 : decode cX7_word 63 = .ok (.ishl, 1) := by decide +kernel
theorem dX7_word_64 : decode cX7_word 64 = .ok (.ior, 1) := by decide +kernel
theorem dX7_word_65 : decode cX7_word 65 = .ok (.ireturn, 1) := by decide +kernel
set_option maxRecDepth 20000 in
theorem ggX7_isPart_X7_within : GoodIn wsX7_isPart wsX7_within := goodIn_r _ [4] (by decide +kernel) (by decide +kernel)
set_option maxRecDepth 20000 in
theorem gX7_isPart_X7_within : GoodIn wsX7_isPart (va_wsS RX7 91 yX7_within wsX7_within) := goodIn_app (goodIn_of _ (by decide +kernel)) ggX7_isPart_X7_within
theorem dX7_isPart_0 : decode cX7_isPart 0 = .ok (.iload_n 0, 1) := by decide +kernel
theorem dX7_isPart_1 : decode cX7_isPart 1 = .ok (.iconst 0, 1) := by decide +kernel
theorem dX7_isPart_2 : decode cX7_isPart 2 = .ok (.iconst 1, 1) := by decide +kernel
theorem dX7_isPart_3 : decode cX7_isPart 3 = .ok (.invokestatic 91, 3) := by decide +kernel
theorem dX7_isPart_6 : decode cX7_isPart 6 = .ok (.ifCond .eq 11, 3) := by decide +kernel
theorem dX7_isPart_9 : decode cX7_isPart 9 = .ok (.iload_n 1, 1) := by decide +kernel
theorem dX7_isPart_10 : decode cX7_isPart 10 = .ok (.ifCond .lt 7, 3) := by decide +kernel
theorem dX7_isPart_13 : decode cX7_isPart 13 = .ok (.iconst 1, 1) := by decide +kernel
theorem dX7_isPart_14 : decode cX7_isPart 14 = .ok (.goto 4, 3) := by decide +kernel
theorem dX7_isPart_17 : decode cX7_isPart 17 = .ok (.iconst 0, 1) := by decide +kernel
theorem dX7_isPart_18 : decode cX7_isPart 18 = .ok (.ireturn, 1) := by decide +kernel
set_option maxRecDepth 20000 in
theorem ggX7_purse_X7_isVoter : GoodIn wsX7_purse wsX7_isVoter := goodIn_r _ [6, 7, 8, 9, 5, 10, 61, 62, 63, 64, 65, 66, 67, 68, 69, 70, 71, 72, 73, 74, 75, 76, 77, 78] (by decide +kernel) (by decide +kernel)
set_option maxRecDepth 20000 in
theorem gX7_purse_X7_isVoter : GoodIn wsX7_purse (wsV RX7 143 RX7 yX7_isVoter wsX7_isVoter) := goodIn_app (goodIn_of _ (by decide +kernel)) ggX7_purse_X7_isVoter
set_option maxRecDepth 20000 in
theorem ggX7_purse_X7_isPart : GoodIn wsX7_purse wsX7_isPart := goodIn_r _ [13, 8, 9, 5, 10] (by decide +kernel) (by decide +kernel)
set_option maxRecDepth 20000 in
theorem gX7_purse_X7_isPart : GoodIn wsX7_purse (va_wsS RX7 146 yX7_isPart wsX7_isPart) := goodIn_app (goodIn_of _ (by decide +kernel)) ggX7_purse_X7_isPart
set_option maxRecDepth 20000 in
theorem ggX7_purse_X7_word : GoodIn wsX7_purse wsX7_word := goodIn_r _ [17, 18, 19, 20, 21, 5, 22, 23, 24, 25, 26, 27, 28, 29, 30, 31, 32, 33, 34, 35, 36, 37, 38, 39, 40, 41, 42, 43, 44, 45, 46, 47, 48, 49, 50, 51, 52, 53, 54, 55, 56, 57, 58, 59, 60, 61, 62, 63, 64, 65, 66, 67, 68, 69, 70, 71, 72, 73, 74, 75, 76, 77, 78] (by decide +kernel) (by decide +kernel)
set_option maxRecDepth 20000 in
theorem gX7_purse_X7_word : GoodIn wsX7_purse (wsV RX7 149 RX7 yX7_word wsX7_word) := goodIn_app (goodIn_of _ (by decide +kernel)) ggX7_purse_X7_word
theorem dX7_purse_0 : decode cX7_purse 0 = .ok (.aload_n 0, 1) := by decide +kernel
theorem dX7_purse_1 : decode cX7_purse 1 = .ok (.iconst 0, 1) := by decide +kernel
theorem dX7_purse_2 : decode cX7_purse 2 = .ok (.putfield 51, 3) := by decide +kernel
theorem dX7_purse_5 : decode cX7_purse 5 = .ok (.aload_n 0, 1) := by decide +kernel
theorem dX7_purse_6 : decode cX7_purse 6 = .ok (.iload_n 1, 1) := by decide +kernel
theorem dX7_purse_7 : decode cX7_purse 7 = .ok (.invokevirtual 143, 3) := by decide +kernel
theorem dX7_purse_10 : decode cX7_purse 10 = .ok (.ifCond .eq 24, 3) := by decide +kernel
theorem dX7_purse_13 : decode cX7_purse 13 = .ok (.iload_n 2, 1) := by decide +kernel
theorem dX7_purse_14 : decode cX7_purse 14 = .ok (.iload_n 3, 1) := by decide +kernel
theorem dX7_purse_15 : decode cX7_purse 15 = .ok (.invokestatic 146, 3) := by decide +kernel
theorem dX7_purse_18 : decode cX7_purse 18 = .ok (.ifCond .eq 16, 3) := by decide +kernel
theorem dX7_purse_21 : decode cX7_purse 21 = .ok (.aload_n 0, 1) := by decide +kernel
theorem dX7_purse_22 : decode cX7_purse 22 = .ok (.iload_n 1, 1) := by decide +kernel
theorem dX7_purse_23 : decode cX7_purse 23 = .ok (.sipush 848, 3) := by decide +kernel
theorem dX7_purse_26 : decode cX7_purse 26 = .ok (.iload_n 2, 1) := by decide +kernel
theorem dX7_purse_27 : decode cX7_purse 27 = .ok (.iload_n 3, 1) := by decide +kernel
theorem dX7_purse_28 : decode cX7_purse 28 = .ok (.invokevirtual 149, 3) := by decide +kernel
theorem dX7_purse_31 : decode cX7_purse 31 = .ok (.goto 4, 3) := by decide +kernel
theorem dX7_purse_34 : decode cX7_purse 34 = .ok (.iconst 0, 1) := by decide +kernel
theorem dX7_purse_35 : decode cX7_purse 35 = .ok (.ireturn, 1) := by decide +kernel
theorem dX7_roundOf_0 : decode cX7_roundOf 0 = .ok (.iconst 0, 1) := by decide +kernel
theorem dX7_roundOf_1 : decode cX7_roundOf 1 = .ok (.istore_n 2, 1) := by decide +kernel
theorem dX7_roundOf_2 : decode cX7_roundOf 2 = .ok (.iload_n 2, 1) := by decide +kernel
theorem dX7_roundOf_3 : decode cX7_roundOf 3 = .ok (.aload_n 0, 1) := by decide +kernel
theorem dX7_roundOf_4 : decode cX7_roundOf 4 = .ok (.getfield 120, 3) := by decide +kernel
theorem dX7_roundOf_7 : decode cX7_roundOf 7 = .ok (.if_icmp .ge 21, 3) := by decide +kernel
theorem dX7_roundOf_10 : decode cX7_roundOf 10 = .ok (.aload_n 0, 1) := by decide +kernel
theorem dX7_roundOf_11 : decode cX7_roundOf 11 = .ok (.getfield 39, 3) := by decide +kernel
theorem dX7_roundOf_14 : decode cX7_roundOf 14 = .ok (.iload_n 2, 1) := by decide +kernel
theorem dX7_roundOf_15 : decode cX7_roundOf 15 = .ok (.iaload, 1) := by decide +kernel
theorem dX7_roundOf_16 : decode cX7_roundOf 16 = .ok (.iload_n 1, 1) := by decide +kernel
theorem dX7_roundOf_17 : decode cX7_roundOf 17 = .ok (.if_icmp .ne 5, 3) := by decide +kernel
theorem dX7_roundOf_20 : decode cX7_roundOf 20 = .ok (.iload_n 2, 1) := by decide +kernel
theorem dX7_roundOf_21 : decode cX7_roundOf 21 = .ok (.ireturn, 1) := by decide +kernel
theorem dX7_roundOf_22 : decode cX7_roundOf 22 = .ok (.iinc 2 1, 3) := by decide +kernel
theorem dX7_roundOf_25 : decode cX7_roundOf 25 = .ok (.goto (-23), 3) := by decide +kernel
theorem dX7_roundOf_28 : decode cX7_roundOf 28 = .ok (.iconst (-1), 1) := by decide +kernel
theorem dX7_roundOf_29 : decode cX7_roundOf 29 = .ok (.ireturn, 1) := by decide +kernel
set_option maxRecDepth 20000 in
theorem ggX7_paid_X7_isVoter : GoodIn wsX7_paid wsX7_isVoter := goodIn_r _ [6, 7, 8, 9, 5, 10, 67, 68, 69, 70, 71, 72, 73, 74, 75, 76, 77, 78, 79, 80, 81, 82, 83, 84] (by decide +kernel) (by decide +kernel)
set_option maxRecDepth 20000 in
theorem gX7_paid_X7_isVoter : GoodIn wsX7_paid (wsV RX7 143 RX7 yX7_isVoter wsX7_isVoter) := goodIn_app (goodIn_of _ (by decide +kernel)) ggX7_paid_X7_isVoter
set_option maxRecDepth 20000 in
theorem ggX7_paid_X7_isPart : GoodIn wsX7_paid wsX7_isPart := goodIn_r _ [13, 8, 9, 5, 10] (by decide +kernel) (by decide +kernel)
set_option maxRecDepth 20000 in
theorem gX7_paid_X7_isPart : GoodIn wsX7_paid (va_wsS RX7 146 yX7_isPart wsX7_isPart) := goodIn_app (goodIn_of _ (by decide +kernel)) ggX7_paid_X7_isPart
set_option maxRecDepth 20000 in
theorem ggX7_paid_X7_roundOf : GoodIn wsX7_paid wsX7_roundOf := goodIn_r _ [17, 18, 19, 67, 68, 69, 70, 71, 72, 73, 74, 75, 76, 77, 78, 79, 80, 81, 82, 83, 84] (by decide +kernel) (by decide +kernel)
set_option maxRecDepth 20000 in
theorem gX7_paid_X7_roundOf : GoodIn wsX7_paid (wsV RX7 153 RX7 yX7_roundOf wsX7_roundOf) := goodIn_app (goodIn_of _ (by decide +kernel)) ggX7_paid_X7_roundOf
set_option maxRecDepth 20000 in
theorem ggX7_paid_X7_word : GoodIn wsX7_paid wsX7_word := goodIn_r _ [23, 24, 25, 26, 27, 5, 28, 29, 30, 31, 32, 33, 34, 35, 36, 37, 38, 39, 40, 41, 42, 43, 44, 45, 46, 47, 48, 49, 50, 51, 52, 53, 54, 55, 56, 57, 58, 59, 60, 61, 62, 63, 64, 65, 66, 67, 68, 69, 70, 71, 72, 73, 74, 75, 76, 77, 78, 79, 80, 81, 82, 83, 84] (by decide +kernel) (by decide +kernel)
set_option maxRecDepth 20000 in
theorem gX7_paid_X7_word : GoodIn wsX7_paid (wsV RX7 149 RX7 yX7_word wsX7_word) := goodIn_app (goodIn_of _ (by decide +kernel)) ggX7_paid_X7_word
theorem dX7_paid_0 : decode cX7_paid 0 = .ok (.aload_n 0, 1) := by decide +kernel
theorem dX7_paid_1 : decode cX7_paid 1 = .ok (.iconst 0, 1) := by decide +kernel
theorem dX7_paid_2 : decode cX7_paid 2 = .ok (.putfield 51, 3) := by decide +kernel
theorem dX7_paid_5 : decode cX7_paid 5 = .ok (.aload_n 0, 1) := by decide +kernel
theorem dX7_paid_6 : decode cX7_paid 6 = .ok (.iload_n 1, 1) := by decide +kernel
theorem dX7_paid_7 : decode cX7_paid 7 = .ok (.invokevirtual 143, 3) := by decide +kernel
theorem dX7_paid_10 : decode cX7_paid 10 = .ok (.ifCond .eq 12, 3) := by decide +kernel
theorem dX7_paid_13 : decode cX7_paid 13 = .ok (.iload_n 3, 1) := by decide +kernel
theorem dX7_paid_14 : decode cX7_paid 14 = .ok (.iload 4, 2) := by decide +kernel
theorem dX7_paid_16 : decode cX7_paid 16 = .ok (.invokestatic 146, 3) := by decide +kernel
theorem dX7_paid_19 : decode cX7_paid 19 = .ok (.ifCond .ne 5, 3) := by decide +kernel
theorem dX7_paid_22 : decode cX7_paid 22 = .ok (.iconst 0, 1) := by decide +kernel
theorem dX7_paid_23 : decode cX7_paid 23 = .ok (.ireturn, 1) := by decide +kernel
theorem dX7_paid_24 : decode cX7_paid 24 = .ok (.aload_n 0, 1) := by decide +kernel
theorem dX7_paid_25 : decode cX7_paid 25 = .ok (.iload_n 2, 1) := by decide +kernel
theorem dX7_paid_26 : decode cX7_paid 26 = .ok (.invokevirtual 153, 3) := by decide +kernel
theorem dX7_paid_29 : decode cX7_paid 29 = .ok (.istore 5, 2) := by decide +kernel
theorem dX7_paid_31 : decode cX7_paid 31 = .ok (.iload 5, 2) := by decide +kernel
theorem dX7_paid_33 : decode cX7_paid 33 = .ok (.ifCond .ge 19, 3) := by decide +kernel
theorem dX7_paid_36 : decode cX7_paid 36 = .ok (.iload_n 3, 1) := by decide +kernel
theorem dX7_paid_37 : decode cX7_paid 37 = .ok (.iconst 1, 1) := by decide +kernel
theorem dX7_paid_38 : decode cX7_paid 38 = .ok (.if_icmp .ne 12, 3) := by decide +kernel
theorem dX7_paid_41 : decode cX7_paid 41 = .ok (.iload 4, 2) := by decide +kernel
theorem dX7_paid_43 : decode cX7_paid 43 = .ok (.ifCond .ne 7, 3) := by decide +kernel
theorem dX7_paid_46 : decode cX7_paid 46 = .ok (.iconst 1, 1) := by decide +kernel
theorem dX7_paid_47 : decode cX7_paid 47 = .ok (.goto 4, 3) := by decide +kernel
theorem dX7_paid_50 : decode cX7_paid 50 = .ok (.iconst 0, 1) := by decide +kernel
theorem dX7_paid_51 : decode cX7_paid 51 = .ok (.ireturn, 1) := by decide +kernel
theorem dX7_paid_52 : decode cX7_paid 52 = .ok (.aload_n 0, 1) := by decide +kernel
theorem dX7_paid_53 : decode cX7_paid 53 = .ok (.bipush 48, 2) := by decide +kernel
theorem dX7_paid_55 : decode cX7_paid 55 = .ok (.bipush 48, 2) := by decide +kernel
theorem dX7_paid_57 : decode cX7_paid 57 = .ok (.iload 5, 2) := by decide +kernel
theorem dX7_paid_59 : decode cX7_paid 59 = .ok (.imul, 1) := by decide +kernel
theorem dX7_paid_60 : decode cX7_paid 60 = .ok (.iadd, 1) := by decide +kernel
theorem dX7_paid_61 : decode cX7_paid 61 = .ok (.iload_n 1, 1) := by decide +kernel
theorem dX7_paid_62 : decode cX7_paid 62 = .ok (.iadd, 1) := by decide +kernel
theorem dX7_paid_63 : decode cX7_paid 63 = .ok (.sipush 816, 3) := by decide +kernel
theorem dX7_paid_66 : decode cX7_paid 66 = .ok (.iload 5, 2) := by decide +kernel
theorem dX7_paid_68 : decode cX7_paid 68 = .ok (.iadd, 1) := by decide +kernel
theorem dX7_paid_69 : decode cX7_paid 69 = .ok (.iload_n 3, 1) := by decide +kernel
theorem dX7_paid_70 : decode cX7_paid 70 = .ok (.iload 4, 2) := by decide +kernel
theorem dX7_paid_72 : decode cX7_paid 72 = .ok (.invokevirtual 149, 3) := by decide +kernel
theorem dX7_paid_75 : decode cX7_paid 75 = .ok (.ireturn, 1) := by decide +kernel
set_option maxRecDepth 20000 in
theorem ggX7_rate_X7_roundOf : GoodIn wsX7_rate wsX7_roundOf := goodIn_r _ [6, 7, 8, 62, 63, 64, 65, 66, 67, 68, 69, 70, 71, 72, 73, 74, 75, 76, 77, 78, 79] (by decide +kernel) (by decide +kernel)
set_option maxRecDepth 20000 in
theorem gX7_rate_X7_roundOf : GoodIn wsX7_rate (wsV RX7 153 RX7 yX7_roundOf wsX7_roundOf) := goodIn_app (goodIn_of _ (by decide +kernel)) ggX7_rate_X7_roundOf
set_option maxRecDepth 20000 in
theorem ggX7_rate_X7_isPart : GoodIn wsX7_rate wsX7_isPart := goodIn_r _ [11, 12, 13, 5, 14] (by decide +kernel) (by decide +kernel)
set_option maxRecDepth 20000 in
theorem gX7_rate_X7_isPart : GoodIn wsX7_rate (va_wsS RX7 146 yX7_isPart wsX7_isPart) := goodIn_app (goodIn_of _ (by decide +kernel)) ggX7_rate_X7_isPart
set_option maxRecDepth 20000 in
theorem ggX7_rate_X7_word : GoodIn wsX7_rate wsX7_word := goodIn_r _ [18, 19, 20, 21, 22, 5, 23, 24, 25, 26, 27, 28, 29, 30, 31, 32, 33, 34, 35, 36, 37, 38, 39, 40, 41, 42, 43, 44, 45, 46, 47, 48, 49, 50, 51, 52, 53, 54, 55, 56, 57, 58, 59, 60, 61, 62, 63, 64, 65, 66, 67, 68, 69, 70, 71, 72, 73, 74, 75, 76, 77, 78, 79] (by decide +kernel) (by decide +kernel)
set_option maxRecDepth 20000 in
theorem gX7_rate_X7_word : GoodIn wsX7_rate (wsV RX7 149 RX7 yX7_word wsX7_word) := goodIn_app (goodIn_of _ (by decide +kernel)) ggX7_rate_X7_word
theorem dX7_rate_0 : decode cX7_rate 0 = .ok (.aload_n 0, 1) := by decide +kernel
theorem dX7_rate_1 : decode cX7_rate 1 = .ok (.iconst 0, 1) := by decide +kernel
theorem dX7_rate_2 : decode cX7_rate 2 = .ok (.putfield 51, 3) := by decide +kernel
theorem dX7_rate_5 : decode cX7_rate 5 = .ok (.aload_n 0, 1) := by decide +kernel
theorem dX7_rate_6 : decode cX7_rate 6 = .ok (.iload_n 1, 1) := by decide +kernel
theorem dX7_rate_7 : decode cX7_rate 7 = .ok (.invokevirtual 153, 3) := by decide +kernel
theorem dX7_rate_10 : decode cX7_rate 10 = .ok (.istore 4, 2) := by decide +kernel
theorem dX7_rate_12 : decode cX7_rate 12 = .ok (.iload 4, 2) := by decide +kernel
theorem dX7_rate_14 : decode cX7_rate 14 = .ok (.ifCond .lt 11, 3) := by decide +kernel
theorem dX7_rate_17 : decode cX7_rate 17 = .ok (.iload_n 2, 1) := by decide +kernel
theorem dX7_rate_18 : decode cX7_rate 18 = .ok (.iload_n 3, 1) := by decide +kernel
theorem dX7_rate_19 : decode cX7_rate 19 = .ok (.invokestatic 146, 3) := by decide +kernel
theorem dX7_rate_22 : decode cX7_rate 22 = .ok (.ifCond .ne 7, 3) := by decide +kernel
theorem dX7_rate_25 : decode cX7_rate 25 = .ok (.iconst 0, 1) := by decide +kernel
theorem dX7_rate_26 : decode cX7_rate 26 = .ok (.goto 21, 3) := by decide +kernel
theorem dX7_rate_29 : decode cX7_rate 29 = .ok (.aload_n 0, 1) := by decide +kernel
theorem dX7_rate_30 : decode cX7_rate 30 = .ok (.sipush 832, 3) := by decide +kernel
theorem dX7_rate_33 : decode cX7_rate 33 = .ok (.iload 4, 2) := by decide +kernel
theorem dX7_rate_35 : decode cX7_rate 35 = .ok (.iadd, 1) := by decide +kernel
theorem dX7_rate_36 : decode cX7_rate 36 = .ok (.sipush 816, 3) := by decide +kernel
theorem dX7_rate_39 : decode cX7_rate 39 = .ok (.iload 4, 2) := by decide +kernel
theorem dX7_rate_41 : decode cX7_rate 41 = .ok (.iadd, 1) := by decide +kernel
theorem dX7_rate_42 : decode cX7_rate 42 = .ok (.iload_n 2, 1) := by decide +kernel
theorem dX7_rate_43 : decode cX7_rate 43 = .ok (.iload_n 3, 1) := by decide +kernel
theorem dX7_rate_44 : decode cX7_rate 44 = .ok (.invokevirtual 149, 3) := by decide +kernel
theorem dX7_rate_47 : decode cX7_rate 47 = .ok (.ireturn, 1) := by decide +kernel
set_option maxRecDepth 20000 in
theorem ggX7_missing_X7_within : GoodIn wsX7_missing wsX7_within := goodIn_r _ [7] (by decide +kernel) (by decide +kernel)
set_option maxRecDepth 20000 in
theorem gX7_missing_X7_within : GoodIn wsX7_missing (va_wsS RX7 91 yX7_within wsX7_within) := goodIn_app (goodIn_of _ (by decide +kernel)) ggX7_missing_X7_within
set_option maxRecDepth 20000 in
theorem ggX7_missing_X7_isPart : GoodIn wsX7_missing wsX7_isPart := goodIn_r _ [10, 4, 5, 6, 7] (by decide +kernel) (by decide +kernel)
set_option maxRecDepth 20000 in
theorem gX7_missing_X7_isPart : GoodIn wsX7_missing (va_wsS RX7 146 yX7_isPart wsX7_isPart) := goodIn_app (goodIn_of _ (by decide +kernel)) ggX7_missing_X7_isPart
set_option maxRecDepth 20000 in
theorem ggX7_missing_X7_gather : GoodIn wsX7_missing wsX7_gather := goodIn_r _ [14, 2, 15, 16, 17, 6, 18, 19, 20, 21, 22, 23, 24, 25, 26, 27, 28, 29, 30, 31, 32, 33, 34, 35, 76, 77, 78, 79, 80, 81, 82, 83, 84, 85, 86, 87, 88, 89, 90, 91, 92, 93] (by decide +kernel) (by decide +kernel)
set_option maxRecDepth 20000 in
theorem gX7_missing_X7_gather : GoodIn wsX7_missing (wsV RX7 107 RX7 yX7_gather wsX7_gather) := goodIn_app (goodIn_of _ (by decide +kernel)) ggX7_missing_X7_gather
set_option maxRecDepth 20000 in
theorem ggX7_missing_X7_lessen : GoodIn wsX7_missing wsX7_lessen := goodIn_r _ [39, 19, 31, 76, 77, 78, 79, 80, 81, 82, 83, 84, 85, 86, 87, 88, 89, 90, 91, 92, 93] (by decide +kernel) (by decide +kernel)
set_option maxRecDepth 20000 in
theorem gX7_missing_X7_lessen : GoodIn wsX7_missing (wsV RX7 77 RX7 yX7_lessen wsX7_lessen) := goodIn_app (goodIn_of _ (by decide +kernel)) ggX7_missing_X7_lessen
set_option maxRecDepth 20000 in
theorem ggX7_missing_X7_word : GoodIn wsX7_missing wsX7_word := goodIn_r _ [43, 19, 44, 45, 46, 6, 47, 48, 49, 50, 51, 52, 53, 54, 55, 56, 57, 58, 59, 31, 60, 61, 62, 63, 64, 65, 66, 67, 15, 16, 17, 18, 20, 68, 69, 70, 71, 72, 73, 74, 75, 36, 37, 38, 39, 76, 77, 78, 79, 80, 81, 82, 83, 84, 85, 86, 87, 88, 89, 90, 91, 92, 93] (by decide +kernel) (by decide +kernel)
set_option maxRecDepth 20000 in
theorem gX7_missing_X7_word : GoodIn wsX7_missing (wsV RX7 149 RX7 yX7_word wsX7_word) := goodIn_app (goodIn_of _ (by decide +kernel)) ggX7_missing_X7_word
theorem dX7_missing_0 : decode cX7_missing 0 = .ok (.aload_n 0, 1) := by decide +kernel
theorem dX7_missing_1 : decode cX7_missing 1 = .ok (.iconst 0, 1) := by decide +kernel
theorem dX7_missing_2 : decode cX7_missing 2 = .ok (.putfield 51, 3) := by decide +kernel
theorem dX7_missing_5 : decode cX7_missing 5 = .ok (.iload_n 1, 1) := by decide +kernel
theorem dX7_missing_6 : decode cX7_missing 6 = .ok (.iconst 0, 1) := by decide +kernel
theorem dX7_missing_7 : decode cX7_missing 7 = .ok (.bipush 15, 2) := by decide +kernel
theorem dX7_missing_9 : decode cX7_missing 9 = .ok (.invokestatic 91, 3) := by decide +kernel
theorem dX7_missing_12 : decode cX7_missing 12 = .ok (.ifCond .eq 29, 3) := by decide +kernel
theorem dX7_missing_15 : decode cX7_missing 15 = .ok (.aload_n 0, 1) := by decide +kernel
theorem dX7_missing_16 : decode cX7_missing 16 = .ok (.getfield 27, 3) := by decide +kernel
theorem dX7_missing_19 : decode cX7_missing 19 = .ok (.iload_n 1, 1) := by decide +kernel
theorem dX7_missing_20 : decode cX7_missing 20 = .ok (.iaload, 1) := by decide +kernel
theorem dX7_missing_21 : decode cX7_missing 21 = .ok (.ifCond .eq 20, 3) := by decide +kernel
theorem dX7_missing_24 : decode cX7_missing 24 = .ok (.aload_n 0, 1) := by decide +kernel
theorem dX7_missing_25 : decode cX7_missing 25 = .ok (.getfield 42, 3) := by decide +kernel
theorem dX7_missing_28 : decode cX7_missing 28 = .ok (.iload_n 1, 1) := by decide +kernel
theorem dX7_missing_29 : decode cX7_missing 29 = .ok (.baload, 1) := by decide +kernel
theorem dX7_missing_30 : decode cX7_missing 30 = .ok (.ifCond .ne 11, 3) := by decide +kernel
theorem dX7_missing_33 : decode cX7_missing 33 = .ok (.iload_n 2, 1) := by decide +kernel
theorem dX7_missing_34 : decode cX7_missing 34 = .ok (.iload_n 3, 1) := by decide +kernel
theorem dX7_missing_35 : decode cX7_missing 35 = .ok (.invokestatic 146, 3) := by decide +kernel
theorem dX7_missing_38 : decode cX7_missing 38 = .ok (.ifCond .ne 5, 3) := by decide +kernel
theorem dX7_missing_41 : decode cX7_missing 41 = .ok (.iconst 0, 1) := by decide +kernel
theorem dX7_missing_42 : decode cX7_missing 42 = .ok (.ireturn, 1) := by decide +kernel
theorem dX7_missing_43 : decode cX7_missing 43 = .ok (.aload_n 0, 1) := by decide +kernel
theorem dX7_missing_44 : decode cX7_missing 44 = .ok (.iload_n 1, 1) := by decide +kernel
theorem dX7_missing_45 : decode cX7_missing 45 = .ok (.invokevirtual 107, 3) := by decide +kernel
theorem dX7_missing_48 : decode cX7_missing 48 = .ok (.aload_n 0, 1) := by decide +kernel
theorem dX7_missing_49 : decode cX7_missing 49 = .ok (.sipush 850, 3) := by decide +kernel
theorem dX7_missing_52 : decode cX7_missing 52 = .ok (.sipush 850, 3) := by decide +kernel
theorem dX7_missing_55 : decode cX7_missing 55 = .ok (.sipush 849, 3) := by decide +kernel
theorem dX7_missing_58 : decode cX7_missing 58 = .ok (.invokevirtual 77, 3) := by decide +kernel
theorem dX7_missing_61 : decode cX7_missing 61 = .ok (.aload_n 0, 1) := by decide +kernel
theorem dX7_missing_62 : decode cX7_missing 62 = .ok (.sipush 850, 3) := by decide +kernel
theorem dX7_missing_65 : decode cX7_missing 65 = .ok (.sipush 848, 3) := by decide +kernel
theorem dX7_missing_68 : decode cX7_missing 68 = .ok (.iload_n 2, 1) := by decide +kernel
theorem dX7_missing_69 : decode cX7_missing 69 = .ok (.iload_n 3, 1) := by decide +kernel
theorem dX7_missing_70 : decode cX7_missing 70 = .ok (.invokevirtual 149, 3) := by decide +kernel
theorem dX7_missing_73 : decode cX7_missing 73 = .ok (.ireturn, 1) := by decide +kernel
theorem dX7_servedOf_0 : decode cX7_servedOf 0 = .ok (.iconst 0, 1) := by decide +kernel
theorem dX7_servedOf_1 : decode cX7_servedOf 1 = .ok (.istore_n 2, 1) := by decide +kernel
theorem dX7_servedOf_2 : decode cX7_servedOf 2 = .ok (.iconst 0, 1) := by decide +kernel
theorem dX7_servedOf_3 : decode cX7_servedOf 3 = .ok (.istore_n 3, 1) := by decide +kernel
theorem dX7_servedOf_4 : decode cX7_servedOf 4 = .ok (.iload_n 3, 1) := by decide +kernel
theorem dX7_servedOf_5 : decode cX7_servedOf 5 = .ok (.bipush 16, 2) := by decide +kernel
theorem dX7_servedOf_7 : decode cX7_servedOf 7 = .ok (.if_icmp .ge 40, 3) := by decide +kernel
theorem dX7_servedOf_10 : decode cX7_servedOf 10 = .ok (.iload_n 2, 1) := by decide +kernel
theorem dX7_servedOf_11 : decode cX7_servedOf 11 = .ok (.aload_n 0, 1) := by decide +kernel
theorem dX7_servedOf_12 : decode cX7_servedOf 12 = .ok (.getfield 42, 3) := by decide +kernel
theorem dX7_servedOf_15 : decode cX7_servedOf 15 = .ok (.iload_n 3, 1) := by decide +kernel
theorem dX7_servedOf_16 : decode cX7_servedOf 16 = .ok (.baload, 1) := by decide +kernel
theorem dX7_servedOf_17 : decode cX7_servedOf 17 = .ok (.ifCond .eq 21, 3) := by decide +kernel
theorem dX7_servedOf_20 : decode cX7_servedOf 20 = .ok (.aload_n 0, 1) := by decide +kernel
theorem dX7_servedOf_21 : decode cX7_servedOf 21 = .ok (.getfield 33, 3) := by decide +kernel
theorem dX7_servedOf_24 : decode cX7_servedOf 24 = .ok (.iload_n 1, 1) := by decide +kernel
theorem dX7_servedOf_25 : decode cX7_servedOf 25 = .ok (.iaload, 1) := by decide +kernel
theorem dX7_servedOf_26 : decode cX7_servedOf 26 = .ok (.iload_n 3, 1) := by decide +kernel
theorem dX7_servedOf_27 : decode cX7_servedOf 27 = .ok (.ishr, 1) := by decide +kernel
theorem dX7_servedOf_28 : decode cX7_servedOf 28 = .ok (.iconst 1, 1) := by decide +kernel
theorem dX7_servedOf_29 : decode cX7_servedOf 29 = .ok (.iand, 1) := by decide +kernel
theorem dX7_servedOf_30 : decode cX7_servedOf 30 = .ok (.iconst 1, 1) := by decide +kernel
theorem dX7_servedOf_31 : decode cX7_servedOf 31 = .ok (.if_icmp .ne 7, 3) := by decide +kernel
theorem dX7_servedOf_34 : decode cX7_servedOf 34 = .ok (.iconst 1, 1) := by decide +kernel
theorem dX7_servedOf_35 : decode cX7_servedOf 35 = .ok (.goto 4, 3) := by decide +kernel
theorem dX7_servedOf_38 : decode cX7_servedOf 38 = .ok (.iconst 0, 1) := by decide +kernel
theorem dX7_servedOf_39 : decode cX7_servedOf 39 = .ok (.iadd, 1) := by decide +kernel
theorem dX7_servedOf_40 : decode cX7_servedOf 40 = .ok (.istore_n 2, 1) := by decide +kernel
theorem dX7_servedOf_41 : decode cX7_servedOf 41 = .ok (.iinc 3 1, 3) := by decide +kernel
theorem dX7_servedOf_44 : decode cX7_servedOf 44 = .ok (.goto (-40), 3) := by decide +kernel
theorem dX7_servedOf_47 : decode cX7_servedOf 47 = .ok (.iload_n 2, 1) := by decide +kernel
theorem dX7_servedOf_48 : decode cX7_servedOf 48 = .ok (.ireturn, 1) := by decide +kernel
set_option maxRecDepth 20000 in
theorem ggX7_served_X7_isVoter : GoodIn wsX7_served wsX7_isVoter := goodIn_r _ [6, 7, 8, 9, 5, 10, 17, 18, 19, 20, 21, 22, 23, 24, 25, 26, 27, 28, 29, 30, 31, 32, 33, 34] (by decide +kernel) (by decide +kernel)
set_option maxRecDepth 20000 in
theorem gX7_served_X7_isVoter : GoodIn wsX7_served (wsV RX7 143 RX7 yX7_isVoter wsX7_isVoter) := goodIn_app (goodIn_of _ (by decide +kernel)) ggX7_served_X7_isVoter
set_option maxRecDepth 20000 in
theorem ggX7_served_X7_servedOf : GoodIn wsX7_served wsX7_servedOf := goodIn_r _ [14, 15, 16, 17, 18, 19, 20, 21, 22, 23, 24, 25, 26, 27, 28, 29, 30, 31, 32, 33, 34] (by decide +kernel) (by decide +kernel)
set_option maxRecDepth 20000 in
theorem gX7_served_X7_servedOf : GoodIn wsX7_served (wsV RX7 156 RX7 yX7_servedOf wsX7_servedOf) := goodIn_app (goodIn_of _ (by decide +kernel)) ggX7_served_X7_servedOf
theorem dX7_served_0 : decode cX7_served 0 = .ok (.aload_n 0, 1) := by decide +kernel
theorem dX7_served_1 : decode cX7_served 1 = .ok (.iconst 0, 1) := by decide +kernel
theorem dX7_served_2 : decode cX7_served 2 = .ok (.putfield 51, 3) := by decide +kernel
theorem dX7_served_5 : decode cX7_served 5 = .ok (.aload_n 0, 1) := by decide +kernel
theorem dX7_served_6 : decode cX7_served 6 = .ok (.iload_n 1, 1) := by decide +kernel
theorem dX7_served_7 : decode cX7_served 7 = .ok (.invokevirtual 143, 3) := by decide +kernel
theorem dX7_served_10 : decode cX7_served 10 = .ok (.ifCond .eq 11, 3) := by decide +kernel
theorem dX7_served_13 : decode cX7_served 13 = .ok (.aload_n 0, 1) := by decide +kernel
theorem dX7_served_14 : decode cX7_served 14 = .ok (.iload_n 1, 1) := by decide +kernel
theorem dX7_served_15 : decode cX7_served 15 = .ok (.invokevirtual 156, 3) := by decide +kernel
theorem dX7_served_18 : decode cX7_served 18 = .ok (.goto 4, 3) := by decide +kernel
theorem dX7_served_21 : decode cX7_served 21 = .ok (.iconst 0, 1) := by decide +kernel
theorem dX7_served_22 : decode cX7_served 22 = .ok (.ireturn, 1) := by decide +kernel
theorem dX7_size_0 : decode cX7_size 0 = .ok (.iconst 0, 1) := by decide +kernel
theorem dX7_size_1 : decode cX7_size 1 = .ok (.istore_n 1, 1) := by decide +kernel
theorem dX7_size_2 : decode cX7_size 2 = .ok (.iconst 0, 1) := by decide +kernel
theorem dX7_size_3 : decode cX7_size 3 = .ok (.istore_n 2, 1) := by decide +kernel
theorem dX7_size_4 : decode cX7_size 4 = .ok (.iload_n 2, 1) := by decide +kernel
theorem dX7_size_5 : decode cX7_size 5 = .ok (.bipush 16, 2) := by decide +kernel
theorem dX7_size_7 : decode cX7_size 7 = .ok (.if_icmp .ge 17, 3) := by decide +kernel
theorem dX7_size_10 : decode cX7_size 10 = .ok (.iload_n 1, 1) := by decide +kernel
theorem dX7_size_11 : decode cX7_size 11 = .ok (.iload_n 0, 1) := by decide +kernel
theorem dX7_size_12 : decode cX7_size 12 = .ok (.iload_n 2, 1) := by decide +kernel
theorem dX7_size_13 : decode cX7_size 13 = .ok (.ishr, 1) := by decide +kernel
theorem dX7_size_14 : decode cX7_size 14 = .ok (.iconst 1, 1) := by decide +kernel
theorem dX7_size_15 : decode cX7_size 15 = .ok (.iand, 1) := by decide +kernel
theorem dX7_size_16 : decode cX7_size 16 = .ok (.iadd, 1) := by decide +kernel
theorem dX7_size_17 : decode cX7_size 17 = .ok (.istore_n 1, 1) := by decide +kernel
theorem dX7_size_18 : decode cX7_size 18 = .ok (.iinc 2 1, 3) := by decide +kernel
theorem dX7_size_21 : decode cX7_size 21 = .ok (.goto (-17), 3) := by decide +kernel
theorem dX7_size_24 : decode cX7_size 24 = .ok (.iload_n 1, 1) := by decide +kernel
theorem dX7_size_25 : decode cX7_size 25 = .ok (.ireturn, 1) := by decide +kernel
set_option maxRecDepth 20000 in
theorem ggX7_passedOver_X7_within : GoodIn wsX7_passedOver wsX7_within := goodIn_r _ [11] (by decide +kernel) (by decide +kernel)
set_option maxRecDepth 20000 in
theorem gX7_passedOver_X7_within : GoodIn wsX7_passedOver (va_wsS RX7 91 yX7_within wsX7_within) := goodIn_app (goodIn_of _ (by decide +kernel)) ggX7_passedOver_X7_within
set_option maxRecDepth 20000 in
theorem ggX7_passedOver_X7_size : GoodIn wsX7_passedOver wsX7_size := goodIn_r _ [14] (by decide +kernel) (by decide +kernel)
set_option maxRecDepth 20000 in
theorem gX7_passedOver_X7_size : GoodIn wsX7_passedOver (va_wsS RX7 159 yX7_size wsX7_size) := goodIn_app (goodIn_of _ (by decide +kernel)) ggX7_passedOver_X7_size
set_option maxRecDepth 20000 in
theorem ggX7_passedOver_X7_servedOf : GoodIn wsX7_passedOver wsX7_servedOf := goodIn_r _ [18, 19, 6, 20, 21, 22, 23, 24, 25, 26, 27, 28, 29, 30, 31, 32, 33, 34, 35, 36, 37] (by decide +kernel) (by decide +kernel)
set_option maxRecDepth 20000 in
theorem gX7_passedOver_X7_servedOf : GoodIn wsX7_passedOver (wsV RX7 156 RX7 yX7_servedOf wsX7_servedOf) := goodIn_app (goodIn_of _ (by decide +kernel)) ggX7_passedOver_X7_servedOf
theorem dX7_passedOver_0 : decode cX7_passedOver 0 = .ok (.aload_n 0, 1) := by decide +kernel
theorem dX7_passedOver_1 : decode cX7_passedOver 1 = .ok (.iload_n 1, 1) := by decide +kernel
theorem dX7_passedOver_2 : decode cX7_passedOver 2 = .ok (.iconst 1, 1) := by decide +kernel
theorem dX7_passedOver_3 : decode cX7_passedOver 3 = .ok (.iconst 4, 1) := by decide +kernel
theorem dX7_passedOver_4 : decode cX7_passedOver 4 = .ok (.invokestatic 91, 3) := by decide +kernel
theorem dX7_passedOver_7 : decode cX7_passedOver 7 = .ok (.ifCond .eq 7, 3) := by decide +kernel
theorem dX7_passedOver_10 : decode cX7_passedOver 10 = .ok (.iconst 0, 1) := by decide +kernel
theorem dX7_passedOver_11 : decode cX7_passedOver 11 = .ok (.goto 4, 3) := by decide +kernel
theorem dX7_passedOver_14 : decode cX7_passedOver 14 = .ok (.iconst 1, 1) := by decide +kernel
theorem dX7_passedOver_15 : decode cX7_passedOver 15 = .ok (.putfield 51, 3) := by decide +kernel
theorem dX7_passedOver_18 : decode cX7_passedOver 18 = .ok (.aload_n 0, 1) := by decide +kernel
theorem dX7_passedOver_19 : decode cX7_passedOver 19 = .ok (.getfield 51, 3) := by decide +kernel
theorem dX7_passedOver_22 : decode cX7_passedOver 22 = .ok (.ifCond .ne 10, 3) := by decide +kernel
theorem dX7_passedOver_25 : decode cX7_passedOver 25 = .ok (.aload_n 0, 1) := by decide +kernel
theorem dX7_passedOver_26 : decode cX7_passedOver 26 = .ok (.getfield 123, 3) := by decide +kernel
theorem dX7_passedOver_29 : decode cX7_passedOver 29 = .ok (.ifCond .ne 5, 3) := by decide +kernel
theorem dX7_passedOver_32 : decode cX7_passedOver 32 = .ok (.iconst 0, 1) := by decide +kernel
theorem dX7_passedOver_33 : decode cX7_passedOver 33 = .ok (.ireturn, 1) := by decide +kernel
theorem dX7_passedOver_34 : decode cX7_passedOver 34 = .ok (.iconst 1, 1) := by decide +kernel
theorem dX7_passedOver_35 : decode cX7_passedOver 35 = .ok (.istore_n 2, 1) := by decide +kernel
theorem dX7_passedOver_36 : decode cX7_passedOver 36 = .ok (.iload_n 2, 1) := by decide +kernel
theorem dX7_passedOver_37 : decode cX7_passedOver 37 = .ok (.ldc 57, 2) := by decide +kernel
theorem dX7_passedOver_39 : decode cX7_passedOver 39 = .ok (.if_icmp .ge 177, 3) := by decide +kernel
theorem dX7_passedOver_42 : decode cX7_passedOver 42 = .ok (.iload_n 2, 1) := by decide +kernel
theorem dX7_passedOver_43 : decode cX7_passedOver 43 = .ok (.invokestatic 159, 3) := by decide +kernel
theorem dX7_passedOver_46 : decode cX7_passedOver 46 = .ok (.iload_n 1, 1) := by decide +kernel
theorem dX7_passedOver_47 : decode cX7_passedOver 47 = .ok (.if_icmp .eq 6, 3) := by decide +kernel
theorem dX7_passedOver_50 : decode cX7_passedOver 50 = .ok (.goto 160, 3) := by decide +kernel
theorem dX7_passedOver_53 : decode cX7_passedOver 53 = .ok (.iconst 1, 1) := by decide +kernel
theorem dX7_passedOver_54 : decode cX7_passedOver 54 = .ok (.istore_n 3, 1) := by decide +kernel
theorem dX7_passedOver_55 : decode cX7_passedOver 55 = .ok (.lconst 0, 1) := by decide +kernel
theorem dX7_passedOver_56 : decode cX7_passedOver 56 = .ok (.lstore 4, 2) := by decide +kernel
theorem dX7_passedOver_58 : decode cX7_passedOver 58 = .ok (.iconst 0, 1) := by decide +kernel
theorem dX7_passedOver_59 : decode cX7_passedOver 59 = .ok (.istore 6, 2) := by decide +kernel
theorem dX7_passedOver_61 : decode cX7_passedOver 61 = .ok (.iload 6, 2) := by decide +kernel
theorem dX7_passedOver_63 : decode cX7_passedOver 63 = .ok (.bipush 16, 2) := by decide +kernel
theorem dX7_passedOver_65 : decode cX7_passedOver 65 = .ok (.if_icmp .ge 54, 3) := by decide +kernel
theorem dX7_passedOver_68 : decode cX7_passedOver 68 = .ok (.iload_n 2, 1) := by decide +kernel
theorem dX7_passedOver_69 : decode cX7_passedOver 69 = .ok (.iload 6, 2) := by decide +kernel
theorem dX7_passedOver_71 : decode cX7_passedOver 71 = .ok (.ishr, 1) := by decide +kernel
theorem dX7_passedOver_72 : decode cX7_passedOver 72 = .ok (.iconst 1, 1) := by decide +kernel
theorem dX7_passedOver_73 : decode cX7_passedOver 73 = .ok (.iand, 1) := by decide +kernel
theorem dX7_passedOver_74 : decode cX7_passedOver 74 = .ok (.ifCond .ne 6, 3) := by decide +kernel
theorem dX7_passedOver_77 : decode cX7_passedOver 77 = .ok (.goto 36, 3) := by decide +kernel
theorem dX7_passedOver_80 : decode cX7_passedOver 80 = .ok (.iload_n 3, 1) := by decide +kernel
theorem dX7_passedOver_81 : decode cX7_passedOver 81 = .ok (.ifCond .eq 17, 3) := by decide +kernel
theorem dX7_passedOver_84 : decode cX7_passedOver 84 = .ok (.aload_n 0, 1) := by decide +kernel
theorem dX7_passedOver_85 : decode cX7_passedOver 85 = .ok (.getfield 27, 3) := by decide +kernel
theorem dX7_passedOver_88 : decode cX7_passedOver 88 = .ok (.iload 6, 2) := by decide +kernel
theorem dX7_passedOver_90 : decode cX7_passedOver 90 = .ok (.iaload, 1) := by decide +kernel
theorem dX7_passedOver_91 : decode cX7_passedOver 91 = .ok (.ifCond .le 7, 3) := by decide +kernel
theorem dX7_passedOver_94 : decode cX7_passedOver 94 = .ok (.iconst 1, 1) := by decide +kernel
theorem dX7_passedOver_95 : decode cX7_passedOver 95 = .ok (.goto 4, 3) := by decide +kernel
theorem dX7_passedOver_98 : decode cX7_passedOver 98 = .ok (.iconst 0, 1) := by decide +kernel
theorem dX7_passedOver_99 : decode cX7_passedOver 99 = .ok (.istore_n 3, 1) := by decide +kernel
theorem dX7_passedOver_100 : decode cX7_passedOver 100 = .ok (.lload 4, 2) := by decide +kernel
theorem dX7_passedOver_102 : decode cX7_passedOver 102 = .ok (.aload_n 0, 1) := by decide +kernel
theorem dX7_passedOver_103 : decode cX7_passedOver 103 = .ok (.getfield 27, 3) := by decide +kernel
theorem dX7_passedOver_106 : decode cX7_passedOver 106 = .ok (.iload 6, 2) := by decide +kernel
theorem dX7_passedOver_108 : decode cX7_passedOver 108 = .ok (.iaload, 1) := by decide +kernel
theorem dX7_passedOver_109 : decode cX7_passedOver 109 = .ok (.i2l, 1) := by decide +kernel
theorem dX7_passedOver_110 : decode cX7_passedOver 110 = .ok (.ladd, 1) := by decide +kernel
theorem dX7_passedOver_111 : decode cX7_passedOver 111 = .ok (.lstore 4, 2) := by decide +kernel
theorem dX7_passedOver_113 : decode cX7_passedOver 113 = .ok (.iinc 6 1, 3) := by decide +kernel
theorem dX7_passedOver_116 : decode cX7_passedOver 116 = .ok (.goto (-55), 3) := by decide +kernel
theorem dX7_passedOver_119 : decode cX7_passedOver 119 = .ok (.iload_n 3, 1) := by decide +kernel
theorem dX7_passedOver_120 : decode cX7_passedOver 120 = .ok (.ifCond .ne 6, 3) := by decide +kernel
theorem dX7_passedOver_123 : decode cX7_passedOver 123 = .ok (.goto 87, 3) := by decide +kernel
theorem dX7_passedOver_126 : decode cX7_passedOver 126 = .ok (.lconst 0, 1) := by decide +kernel
theorem dX7_passedOver_127 : decode cX7_passedOver 127 = .ok (.lstore 6, 2) := by decide +kernel
theorem dX7_passedOver_129 : decode cX7_passedOver 129 = .ok (.iconst 0, 1) := by decide +kernel
theorem dX7_passedOver_130 : decode cX7_passedOver 130 = .ok (.istore 8, 2) := by decide +kernel
theorem dX7_passedOver_132 : decode cX7_passedOver 132 = .ok (.iload 8, 2) := by decide +kernel
theorem dX7_passedOver_134 : decode cX7_passedOver 134 = .ok (.bipush 48, 2) := by decide +kernel
theorem dX7_passedOver_136 : decode cX7_passedOver 136 = .ok (.if_icmp .ge 52, 3) := by decide +kernel
theorem dX7_passedOver_139 : decode cX7_passedOver 139 = .ok (.lload 6, 2) := by decide +kernel
theorem dX7_passedOver_141 : decode cX7_passedOver 141 = .ok (.aload_n 0, 1) := by decide +kernel
theorem dX7_passedOver_142 : decode cX7_passedOver 142 = .ok (.getfield 30, 3) := by decide +kernel
theorem dX7_passedOver_145 : decode cX7_passedOver 145 = .ok (.iload 8, 2) := by decide +kernel
theorem dX7_passedOver_147 : decode cX7_passedOver 147 = .ok (.baload, 1) := by decide +kernel
theorem dX7_passedOver_148 : decode cX7_passedOver 148 = .ok (.ifCond .eq 30, 3) := by decide +kernel
theorem dX7_passedOver_151 : decode cX7_passedOver 151 = .ok (.aload_n 0, 1) := by decide +kernel
theorem dX7_passedOver_152 : decode cX7_passedOver 152 = .ok (.getfield 33, 3) := by decide +kernel
theorem dX7_passedOver_155 : decode cX7_passedOver 155 = .ok (.iload 8, 2) := by decide +kernel
theorem dX7_passedOver_157 : decode cX7_passedOver 157 = .ok (.iaload, 1) := by decide +kernel
theorem dX7_passedOver_158 : decode cX7_passedOver 158 = .ok (.iload_n 2, 1) := by decide +kernel
theorem dX7_passedOver_159 : decode cX7_passedOver 159 = .ok (.iand, 1) := by decide +kernel
theorem dX7_passedOver_160 : decode cX7_passedOver 160 = .ok (.iload_n 2, 1) := by decide +kernel
theorem dX7_passedOver_161 : decode cX7_passedOver 161 = .ok (.if_icmp .ne 17, 3) := by decide +kernel
theorem dX7_passedOver_164 : decode cX7_passedOver 164 = .ok (.aload_n 0, 1) := by decide +kernel
theorem dX7_passedOver_165 : decode cX7_passedOver 165 = .ok (.iload 8, 2) := by decide +kernel
theorem dX7_passedOver_167 : decode cX7_passedOver 167 = .ok (.invokevirtual 156, 3) := by decide +kernel
theorem dX7_passedOver_170 : decode cX7_passedOver 170 = .ok (.iload_n 1, 1) := by decide +kernel
theorem dX7_passedOver_171 : decode cX7_passedOver 171 = .ok (.if_icmp .ge 7, 3) := by decide +kernel
theorem dX7_passedOver_174 : decode cX7_passedOver 174 = .ok (.lconst 1, 1) := by decide +kernel
theorem dX7_passedOver_175 : decode cX7_passedOver 175 = .ok (.goto 4, 3) := by decide +kernel
theorem dX7_passedOver_178 : decode cX7_passedOver 178 = .ok (.lconst 0, 1) := by decide +kernel
theorem dX7_passedOver_179 : decode cX7_passedOver 179 = .ok (.ladd, 1) := by decide +kernel
theorem dX7_passedOver_180 : decode cX7_passedOver 180 = .ok (.lstore 6, 2) := by decide +kernel
theorem dX7_passedOver_182 : decode cX7_passedOver 182 = .ok (.iinc 8 1, 3) := by decide +kernel
theorem dX7_passedOver_185 : decode cX7_passedOver 185 = .ok (.goto (-53), 3) := by decide +kernel
theorem dX7_passedOver_188 : decode cX7_passedOver 188 = .ok (.lload 6, 2) := by decide +kernel
theorem dX7_passedOver_190 : decode cX7_passedOver 190 = .ok (.aload_n 0, 1) := by decide +kernel
theorem dX7_passedOver_191 : decode cX7_passedOver 191 = .ok (.getfield 36, 3) := by decide +kernel
theorem dX7_passedOver_194 : decode cX7_passedOver 194 = .ok (.i2l, 1) := by decide +kernel
theorem dX7_passedOver_195 : decode cX7_passedOver 195 = .ok (.lmul, 1) := by decide +kernel
theorem dX7_passedOver_196 : decode cX7_passedOver 196 = .ok (.aload_n 0, 1) := by decide +kernel
theorem dX7_passedOver_197 : decode cX7_passedOver 197 = .ok (.getfield 123, 3) := by decide +kernel
theorem dX7_passedOver_200 : decode cX7_passedOver 200 = .ok (.i2l, 1) := by decide +kernel
theorem dX7_passedOver_201 : decode cX7_passedOver 201 = .ok (.lload 4, 2) := by decide +kernel
theorem dX7_passedOver_203 : decode cX7_passedOver 203 = .ok (.lmul, 1) := by decide +kernel
theorem dX7_passedOver_204 : decode cX7_passedOver 204 = .ok (.lcmp, 1) := by decide +kernel
theorem dX7_passedOver_205 : decode cX7_passedOver 205 = .ok (.ifCond .lt 5, 3) := by decide +kernel
theorem dX7_passedOver_208 : decode cX7_passedOver 208 = .ok (.iload_n 2, 1) := by decide +kernel
theorem dX7_passedOver_209 : decode cX7_passedOver 209 = .ok (.ireturn, 1) := by decide +kernel
theorem dX7_passedOver_210 : decode cX7_passedOver 210 = .ok (.iinc 2 1, 3) := by decide +kernel
theorem dX7_passedOver_213 : decode cX7_passedOver 213 = .ok (.goto (-177), 3) := by decide +kernel
theorem dX7_passedOver_216 : decode cX7_passedOver 216 = .ok (.iconst 0, 1) := by decide +kernel
theorem dX7_passedOver_217 : decode cX7_passedOver 217 = .ok (.ireturn, 1) := by decide +kernel
theorem dX7_say_0 : decode cX7_say 0 = .ok (.aload_n 0, 1) := by decide +kernel
theorem dX7_say_1 : decode cX7_say 1 = .ok (.getfield 48, 3) := by decide +kernel
theorem dX7_say_4 : decode cX7_say 4 = .ok (.aload_n 0, 1) := by decide +kernel
theorem dX7_say_5 : decode cX7_say 5 = .ok (.getfield 162, 3) := by decide +kernel
theorem dX7_say_8 : decode cX7_say 8 = .ok (.iload_n 1, 1) := by decide +kernel
theorem dX7_say_9 : decode cX7_say 9 = .ok (.iastore, 1) := by decide +kernel
theorem dX7_say_10 : decode cX7_say 10 = .ok (.aload_n 0, 1) := by decide +kernel
theorem dX7_say_11 : decode cX7_say 11 = .ok (.dup, 1) := by decide +kernel
theorem dX7_say_12 : decode cX7_say 12 = .ok (.getfield 162, 3) := by decide +kernel
theorem dX7_say_15 : decode cX7_say 15 = .ok (.iconst 1, 1) := by decide +kernel
theorem dX7_say_16 : decode cX7_say 16 = .ok (.iadd, 1) := by decide +kernel
theorem dX7_say_17 : decode cX7_say 17 = .ok (.putfield 162, 3) := by decide +kernel
theorem dX7_say_20 : decode cX7_say 20 = .ok (.return_, 1) := by decide +kernel
set_option maxRecDepth 20000 in
theorem ggX7_sayNumber_X7_tenth : GoodIn wsX7_sayNumber wsX7_tenth := goodIn_r _ [7, 8, 9, 18, 19, 20, 21, 22, 23, 24, 25, 26, 27, 28, 29, 30, 31, 32, 33, 34, 35] (by decide +kernel) (by decide +kernel)
set_option maxRecDepth 20000 in
theorem gX7_sayNumber_X7_tenth : GoodIn wsX7_sayNumber (wsV RX7 165 RX7 yX7_tenth wsX7_tenth) := goodIn_app (goodIn_of _ (by decide +kernel)) ggX7_sayNumber_X7_tenth
set_option maxRecDepth 20000 in
theorem ggX7_sayNumber_X7_say : GoodIn wsX7_sayNumber wsX7_say := goodIn_r _ [13, 2, 1, 18, 19, 20, 21, 22, 23, 24, 25, 26, 27, 28, 29, 30, 31, 32, 33, 34, 35] (by decide +kernel) (by decide +kernel)
set_option maxRecDepth 20000 in
theorem gX7_sayNumber_X7_say : GoodIn wsX7_sayNumber (wsV RX7 168 RX7 yX7_say wsX7_say) := goodIn_app (goodIn_of _ (by decide +kernel)) ggX7_sayNumber_X7_say
set_option maxRecDepth 20000 in
theorem ggX7_sayNumber_X7_isNone : GoodIn wsX7_sayNumber wsX7_isNone := goodIn_r _ [17, 9, 18, 19, 20, 21, 22, 23, 24, 25, 26, 27, 28, 29, 30, 31, 32, 33, 34, 35] (by decide +kernel) (by decide +kernel)
set_option maxRecDepth 20000 in
theorem gX7_sayNumber_X7_isNone : GoodIn wsX7_sayNumber (wsV RX7 84 RX7 yX7_isNone wsX7_isNone) := goodIn_app (goodIn_of _ (by decide +kernel)) ggX7_sayNumber_X7_isNone
theorem dX7_sayNumber_0 : decode cX7_sayNumber 0 = .ok (.aload_n 0, 1) := by decide +kernel
theorem dX7_sayNumber_1 : decode cX7_sayNumber 1 = .ok (.getfield 162, 3) := by decide +kernel
theorem dX7_sayNumber_4 : decode cX7_sayNumber 4 = .ok (.istore_n 2, 1) := by decide +kernel
theorem dX7_sayNumber_5 : decode cX7_sayNumber 5 = .ok (.iconst 1, 1) := by decide +kernel
theorem dX7_sayNumber_6 : decode cX7_sayNumber 6 = .ok (.istore_n 3, 1) := by decide +kernel
theorem dX7_sayNumber_7 : decode cX7_sayNumber 7 = .ok (.iload_n 3, 1) := by decide +kernel
theorem dX7_sayNumber_8 : decode cX7_sayNumber 8 = .ok (.ifCond .eq 32, 3) := by decide +kernel
theorem dX7_sayNumber_11 : decode cX7_sayNumber 11 = .ok (.aload_n 0, 1) := by decide +kernel
theorem dX7_sayNumber_12 : decode cX7_sayNumber 12 = .ok (.bipush 48, 2) := by decide +kernel
theorem dX7_sayNumber_14 : decode cX7_sayNumber 14 = .ok (.aload_n 0, 1) := by decide +kernel
theorem dX7_sayNumber_15 : decode cX7_sayNumber 15 = .ok (.iload_n 1, 1) := by decide +kernel
theorem dX7_sayNumber_16 : decode cX7_sayNumber 16 = .ok (.invokevirtual 165, 3) := by decide +kernel
theorem dX7_sayNumber_19 : decode cX7_sayNumber 19 = .ok (.iadd, 1) := by decide +kernel
theorem dX7_sayNumber_20 : decode cX7_sayNumber 20 = .ok (.invokevirtual 168, 3) := by decide +kernel
theorem dX7_sayNumber_23 : decode cX7_sayNumber 23 = .ok (.aload_n 0, 1) := by decide +kernel
theorem dX7_sayNumber_24 : decode cX7_sayNumber 24 = .ok (.iload_n 1, 1) := by decide +kernel
theorem dX7_sayNumber_25 : decode cX7_sayNumber 25 = .ok (.invokevirtual 84, 3) := by decide +kernel
theorem dX7_sayNumber_28 : decode cX7_sayNumber 28 = .ok (.ifCond .ne 7, 3) := by decide +kernel
theorem dX7_sayNumber_31 : decode cX7_sayNumber 31 = .ok (.iconst 1, 1) := by decide +kernel
theorem dX7_sayNumber_32 : decode cX7_sayNumber 32 = .ok (.goto 4, 3) := by decide +kernel
theorem dX7_sayNumber_35 : decode cX7_sayNumber 35 = .ok (.iconst 0, 1) := by decide +kernel
theorem dX7_sayNumber_36 : decode cX7_sayNumber 36 = .ok (.istore_n 3, 1) := by decide +kernel
theorem dX7_sayNumber_37 : decode cX7_sayNumber 37 = .ok (.goto (-30), 3) := by decide +kernel
theorem dX7_sayNumber_40 : decode cX7_sayNumber 40 = .ok (.iload_n 2, 1) := by decide +kernel
theorem dX7_sayNumber_41 : decode cX7_sayNumber 41 = .ok (.istore 4, 2) := by decide +kernel
theorem dX7_sayNumber_43 : decode cX7_sayNumber 43 = .ok (.aload_n 0, 1) := by decide +kernel
theorem dX7_sayNumber_44 : decode cX7_sayNumber 44 = .ok (.getfield 162, 3) := by decide +kernel
theorem dX7_sayNumber_47 : decode cX7_sayNumber 47 = .ok (.iconst 1, 1) := by decide +kernel
theorem dX7_sayNumber_48 : decode cX7_sayNumber 48 = .ok (.isub, 1) := by decide +kernel
theorem dX7_sayNumber_49 : decode cX7_sayNumber 49 = .ok (.istore 5, 2) := by decide +kernel
theorem dX7_sayNumber_51 : decode cX7_sayNumber 51 = .ok (.iload 4, 2) := by decide +kernel
theorem dX7_sayNumber_53 : decode cX7_sayNumber 53 = .ok (.iload 5, 2) := by decide +kernel
theorem dX7_sayNumber_55 : decode cX7_sayNumber 55 = .ok (.if_icmp .ge 44, 3) := by decide +kernel
theorem dX7_sayNumber_58 : decode cX7_sayNumber 58 = .ok (.aload_n 0, 1) := by decide +kernel
theorem dX7_sayNumber_59 : decode cX7_sayNumber 59 = .ok (.getfield 48, 3) := by decide +kernel
theorem dX7_sayNumber_62 : decode cX7_sayNumber 62 = .ok (.iload 4, 2) := by decide +kernel
theorem dX7_sayNumber_64 : decode cX7_sayNumber 64 = .ok (.iaload, 1) := by decide +kernel
theorem dX7_sayNumber_65 : decode cX7_sayNumber 65 = .ok (.istore 6, 2) := by decide +kernel
theorem dX7_sayNumber_67 : decode cX7_sayNumber 67 = .ok (.aload_n 0, 1) := by decide +kernel
theorem dX7_sayNumber_68 : decode cX7_sayNumber 68 = .ok (.getfield 48, 3) := by decide +kernel
theorem dX7_sayNumber_71 : decode cX7_sayNumber 71 = .ok (.iload 4, 2) := by decide +kernel
theorem dX7_sayNumber_73 : decode cX7_sayNumber 73 = .ok (.aload_n 0, 1) := by decide +kernel
theorem dX7_sayNumber_74 : decode cX7_sayNumber 74 = .ok (.getfield 48, 3) := by decide +kernel
theorem dX7_sayNumber_77 : decode cX7_sayNumber 77 = .ok (.iload 5, 2) := by decide +kernel
theorem dX7_sayNumber_79 : decode cX7_sayNumber 79 = .ok (.iaload, 1) := by decide +kernel
theorem dX7_sayNumber_80 : decode cX7_sayNumber 80 = .ok (.iastore, 1) := by decide +kernel
theorem dX7_sayNumber_81 : decode cX7_sayNumber 81 = .ok (.aload_n 0, 1) := by decide +kernel
theorem dX7_sayNumber_82 : decode cX7_sayNumber 82 = .ok (.getfield 48, 3) := by decide +kernel
theorem dX7_sayNumber_85 : decode cX7_sayNumber 85 = .ok (.iload 5, 2) := by decide +kernel
theorem dX7_sayNumber_87 : decode cX7_sayNumber 87 = .ok (.iload 6, 2) := by decide +kernel
theorem dX7_sayNumber_89 : decode cX7_sayNumber 89 = .ok (.iastore, 1) := by decide +kernel
theorem dX7_sayNumber_90 : decode cX7_sayNumber 90 = .ok (.iinc 4 1, 3) := by decide +kernel
theorem dX7_sayNumber_93 : decode cX7_sayNumber 93 = .ok (.iinc 5 (-1), 3) := by decide +kernel
theorem dX7_sayNumber_96 : decode cX7_sayNumber 96 = .ok (.goto (-45), 3) := by decide +kernel
theorem dX7_sayNumber_99 : decode cX7_sayNumber 99 = .ok (.return_, 1) := by decide +kernel
set_option maxRecDepth 20000 in
theorem ggX7_sayFraction_X7_reduce : GoodIn wsX7_sayFraction wsX7_reduce := goodIn_r _ [5, 6, 7, 8, 4, 9, 10, 11, 12, 13, 14, 15, 16, 17, 18, 19, 20, 21, 22, 23, 24, 25, 26, 27, 28, 29, 30, 31, 32, 33, 34, 35, 36, 37, 38, 39, 40, 41, 42, 43, 44, 60, 61, 62, 63, 64, 65, 66, 67, 68, 69, 70, 71, 72, 73, 74, 75, 76, 77] (by decide +kernel) (by decide +kernel)
set_option maxRecDepth 20000 in
theorem gX7_sayFraction_X7_reduce : GoodIn wsX7_sayFraction (wsV RX7 140 RX7 yX7_reduce wsX7_reduce) := goodIn_app (goodIn_of _ (by decide +kernel)) ggX7_sayFraction_X7_reduce
set_option maxRecDepth 20000 in
theorem ggX7_sayFraction_X7_set : GoodIn wsX7_sayFraction wsX7_set := goodIn_r _ [31, 10, 32, 60, 61, 62, 63, 64, 65, 66, 67, 68, 69, 70, 71, 72, 73, 74, 75, 76, 77] (by decide +kernel) (by decide +kernel)
set_option maxRecDepth 20000 in
theorem gX7_sayFraction_X7_set : GoodIn wsX7_sayFraction (wsV RX7 66 RX7 yX7_set wsX7_set) := goodIn_app (goodIn_of _ (by decide +kernel)) ggX7_sayFraction_X7_set
set_option maxRecDepth 20000 in
theorem ggX7_sayFraction_X7_compare : GoodIn wsX7_sayFraction wsX7_compare := goodIn_r _ [40, 10, 60, 61, 62, 63, 64, 65, 66, 67, 68, 69, 70, 71, 72, 73, 74, 75, 76, 77] (by decide +kernel) (by decide +kernel)
set_option maxRecDepth 20000 in
theorem gX7_sayFraction_X7_compare : GoodIn wsX7_sayFraction (wsV RX7 74 RX7 yX7_compare wsX7_compare) := goodIn_app (goodIn_of _ (by decide +kernel)) ggX7_sayFraction_X7_compare
set_option maxRecDepth 20000 in
theorem ggX7_sayFraction_X7_sayNumber : GoodIn wsX7_sayFraction wsX7_sayNumber := goodIn_r _ [48, 49, 50, 51, 52, 53, 4, 54, 55, 10, 56, 57, 58, 59, 11, 12, 13, 14, 60, 61, 62, 63, 64, 65, 66, 67, 68, 69, 70, 71, 72, 73, 74, 75, 76, 77] (by decide +kernel) (by decide +kernel)
set_option maxRecDepth 20000 in
theorem gX7_sayFraction_X7_sayNumber : GoodIn wsX7_sayFraction (wsV RX7 171 RX7 yX7_sayNumber wsX7_sayNumber) := goodIn_app (goodIn_of _ (by decide +kernel)) ggX7_sayFraction_X7_sayNumber
set_option maxRecDepth 20000 in
theorem ggX7_sayFraction_X7_say : GoodIn wsX7_sayFraction wsX7_say := goodIn_r _ [59, 50, 49, 60, 61, 62, 63, 64, 65, 66, 67, 68, 69, 70, 71, 72, 73, 74, 75, 76, 77] (by decide +kernel) (by decide +kernel)
set_option maxRecDepth 20000 in
theorem gX7_sayFraction_X7_say : GoodIn wsX7_sayFraction (wsV RX7 168 RX7 yX7_say wsX7_say) := goodIn_app (goodIn_of _ (by decide +kernel)) ggX7_sayFraction_X7_say
theorem dX7_sayFraction_0 : decode cX7_sayFraction 0 = .ok (.aload_n 0, 1) := by decide +kernel
theorem dX7_sayFraction_1 : decode cX7_sayFraction 1 = .ok (.iload_n 1, 1) := by decide +kernel
theorem dX7_sayFraction_2 : decode cX7_sayFraction 2 = .ok (.iload_n 2, 1) := by decide +kernel
theorem dX7_sayFraction_3 : decode cX7_sayFraction 3 = .ok (.invokevirtual 140, 3) := by decide +kernel
theorem dX7_sayFraction_6 : decode cX7_sayFraction 6 = .ok (.aload_n 0, 1) := by decide +kernel
theorem dX7_sayFraction_7 : decode cX7_sayFraction 7 = .ok (.sipush 854, 3) := by decide +kernel
theorem dX7_sayFraction_10 : decode cX7_sayFraction 10 = .ok (.lconst 1, 1) := by decide +kernel
theorem dX7_sayFraction_11 : decode cX7_sayFraction 11 = .ok (.invokevirtual 66, 3) := by decide +kernel
theorem dX7_sayFraction_14 : decode cX7_sayFraction 14 = .ok (.aload_n 0, 1) := by decide +kernel
theorem dX7_sayFraction_15 : decode cX7_sayFraction 15 = .ok (.sipush 853, 3) := by decide +kernel
theorem dX7_sayFraction_18 : decode cX7_sayFraction 18 = .ok (.sipush 854, 3) := by decide +kernel
theorem dX7_sayFraction_21 : decode cX7_sayFraction 21 = .ok (.invokevirtual 74, 3) := by decide +kernel
theorem dX7_sayFraction_24 : decode cX7_sayFraction 24 = .ok (.ifCond .ne 7, 3) := by decide +kernel
theorem dX7_sayFraction_27 : decode cX7_sayFraction 27 = .ok (.iconst 1, 1) := by decide +kernel
theorem dX7_sayFraction_28 : decode cX7_sayFraction 28 = .ok (.goto 4, 3) := by decide +kernel
theorem dX7_sayFraction_31 : decode cX7_sayFraction 31 = .ok (.iconst 0, 1) := by decide +kernel
theorem dX7_sayFraction_32 : decode cX7_sayFraction 32 = .ok (.istore_n 3, 1) := by decide +kernel
theorem dX7_sayFraction_33 : decode cX7_sayFraction 33 = .ok (.aload_n 0, 1) := by decide +kernel
theorem dX7_sayFraction_34 : decode cX7_sayFraction 34 = .ok (.sipush 852, 3) := by decide +kernel
theorem dX7_sayFraction_37 : decode cX7_sayFraction 37 = .ok (.invokevirtual 171, 3) := by decide +kernel
theorem dX7_sayFraction_40 : decode cX7_sayFraction 40 = .ok (.iload_n 3, 1) := by decide +kernel
theorem dX7_sayFraction_41 : decode cX7_sayFraction 41 = .ok (.ifCond .eq 4, 3) := by decide +kernel
theorem dX7_sayFraction_44 : decode cX7_sayFraction 44 = .ok (.return_, 1) := by decide +kernel
theorem dX7_sayFraction_45 : decode cX7_sayFraction 45 = .ok (.aload_n 0, 1) := by decide +kernel
theorem dX7_sayFraction_46 : decode cX7_sayFraction 46 = .ok (.bipush 47, 2) := by decide +kernel
theorem dX7_sayFraction_48 : decode cX7_sayFraction 48 = .ok (.invokevirtual 168, 3) := by decide +kernel
theorem dX7_sayFraction_51 : decode cX7_sayFraction 51 = .ok (.aload_n 0, 1) := by decide +kernel
theorem dX7_sayFraction_52 : decode cX7_sayFraction 52 = .ok (.sipush 853, 3) := by decide +kernel
theorem dX7_sayFraction_55 : decode cX7_sayFraction 55 = .ok (.invokevirtual 171, 3) := by decide +kernel
theorem dX7_sayFraction_58 : decode cX7_sayFraction 58 = .ok (.return_, 1) := by decide +kernel
set_option maxRecDepth 20000 in
theorem ggX7_receipt_X7_isVoter : GoodIn wsX7_receipt wsX7_isVoter := goodIn_r _ [10, 11, 12, 13, 9, 14, 75, 76, 77, 78, 79, 80, 81, 82, 83, 84, 85, 86, 87, 88, 89, 90, 91, 92] (by decide +kernel) (by decide +kernel)
set_option maxRecDepth 20000 in
theorem gX7_receipt_X7_isVoter : GoodIn wsX7_receipt (wsV RX7 143 RX7 yX7_isVoter wsX7_isVoter) := goodIn_app (goodIn_of _ (by decide +kernel)) ggX7_receipt_X7_isVoter
set_option maxRecDepth 20000 in
theorem ggX7_receipt_X7_isNone : GoodIn wsX7_receipt wsX7_isNone := goodIn_r _ [18, 19, 75, 76, 77, 78, 79, 80, 81, 82, 83, 84, 85, 86, 87, 88, 89, 90, 91, 92] (by decide +kernel) (by decide +kernel)
set_option maxRecDepth 20000 in
theorem gX7_receipt_X7_isNone : GoodIn wsX7_receipt (wsV RX7 84 RX7 yX7_isNone wsX7_isNone) := goodIn_app (goodIn_of _ (by decide +kernel)) ggX7_receipt_X7_isNone
set_option maxRecDepth 20000 in
theorem ggX7_receipt_X7_say : GoodIn wsX7_receipt wsX7_say := goodIn_r _ [23, 5, 2, 75, 76, 77, 78, 79, 80, 81, 82, 83, 84, 85, 86, 87, 88, 89, 90, 91, 92] (by decide +kernel) (by decide +kernel)
set_option maxRecDepth 20000 in
theorem gX7_receipt_X7_say : GoodIn wsX7_receipt (wsV RX7 168 RX7 yX7_say wsX7_say) := goodIn_app (goodIn_of _ (by decide +kernel)) ggX7_receipt_X7_say
set_option maxRecDepth 20000 in
theorem ggX7_receipt_X7_sayFraction : GoodIn wsX7_receipt wsX7_sayFraction := goodIn_r _ [27, 28, 29, 30, 9, 31, 32, 33, 34, 35, 19, 15, 16, 17, 18, 36, 37, 38, 39, 40, 41, 42, 43, 44, 45, 46, 47, 48, 49, 50, 51, 52, 53, 54, 55, 56, 57, 58, 59, 60, 61, 62, 63, 64, 65, 66, 67, 68, 69, 2, 5, 70, 71, 72, 73, 74, 20, 21, 22, 23, 75, 76, 77, 78, 79, 80, 81, 82, 83, 84, 85, 86, 87, 88, 89, 90, 91, 92] (by decide +kernel) (by decide +kernel)
set_option maxRecDepth 20000 in
theorem gX7_receipt_X7_sayFraction : GoodIn wsX7_receipt (wsV RX7 174 RX7 yX7_sayFraction wsX7_sayFraction) := goodIn_app (goodIn_of _ (by decide +kernel)) ggX7_receipt_X7_sayFraction
theorem dX7_receipt_0 : decode cX7_receipt 0 = .ok (.aload_n 0, 1) := by decide +kernel
theorem dX7_receipt_1 : decode cX7_receipt 1 = .ok (.iconst 0, 1) := by decide +kernel
theorem dX7_receipt_2 : decode cX7_receipt 2 = .ok (.putfield 51, 3) := by decide +kernel
theorem dX7_receipt_5 : decode cX7_receipt 5 = .ok (.aload_n 0, 1) := by decide +kernel
theorem dX7_receipt_6 : decode cX7_receipt 6 = .ok (.iload_n 1, 1) := by decide +kernel
theorem dX7_receipt_7 : decode cX7_receipt 7 = .ok (.invokevirtual 143, 3) := by decide +kernel
theorem dX7_receipt_10 : decode cX7_receipt 10 = .ok (.ifCond .eq 7, 3) := by decide +kernel
theorem dX7_receipt_13 : decode cX7_receipt 13 = .ok (.iload_n 2, 1) := by decide +kernel
theorem dX7_receipt_14 : decode cX7_receipt 14 = .ok (.ifCond .ge 5, 3) := by decide +kernel
theorem dX7_receipt_17 : decode cX7_receipt 17 = .ok (.iconst (-1), 1) := by decide +kernel
theorem dX7_receipt_18 : decode cX7_receipt 18 = .ok (.ireturn, 1) := by decide +kernel
theorem dX7_receipt_19 : decode cX7_receipt 19 = .ok (.aload_n 0, 1) := by decide +kernel
theorem dX7_receipt_20 : decode cX7_receipt 20 = .ok (.iconst 0, 1) := by decide +kernel
theorem dX7_receipt_21 : decode cX7_receipt 21 = .ok (.putfield 162, 3) := by decide +kernel
theorem dX7_receipt_24 : decode cX7_receipt 24 = .ok (.iconst 0, 1) := by decide +kernel
theorem dX7_receipt_25 : decode cX7_receipt 25 = .ok (.istore_n 3, 1) := by decide +kernel
theorem dX7_receipt_26 : decode cX7_receipt 26 = .ok (.iload_n 3, 1) := by decide +kernel
theorem dX7_receipt_27 : decode cX7_receipt 27 = .ok (.aload_n 0, 1) := by decide +kernel
theorem dX7_receipt_28 : decode cX7_receipt 28 = .ok (.getfield 120, 3) := by decide +kernel
theorem dX7_receipt_31 : decode cX7_receipt 31 = .ok (.if_icmp .ge 87, 3) := by decide +kernel
theorem dX7_receipt_34 : decode cX7_receipt 34 = .ok (.bipush 48, 2) := by decide +kernel
theorem dX7_receipt_36 : decode cX7_receipt 36 = .ok (.bipush 48, 2) := by decide +kernel
theorem dX7_receipt_38 : decode cX7_receipt 38 = .ok (.iload_n 3, 1) := by decide +kernel
theorem dX7_receipt_39 : decode cX7_receipt 39 = .ok (.imul, 1) := by decide +kernel
theorem dX7_receipt_40 : decode cX7_receipt 40 = .ok (.iadd, 1) := by decide +kernel
theorem dX7_receipt_41 : decode cX7_receipt 41 = .ok (.iload_n 1, 1) := by decide +kernel
theorem dX7_receipt_42 : decode cX7_receipt 42 = .ok (.iadd, 1) := by decide +kernel
theorem dX7_receipt_43 : decode cX7_receipt 43 = .ok (.istore 4, 2) := by decide +kernel
theorem dX7_receipt_45 : decode cX7_receipt 45 = .ok (.aload_n 0, 1) := by decide +kernel
theorem dX7_receipt_46 : decode cX7_receipt 46 = .ok (.iload 4, 2) := by decide +kernel
theorem dX7_receipt_48 : decode cX7_receipt 48 = .ok (.invokevirtual 84, 3) := by decide +kernel
theorem dX7_receipt_51 : decode cX7_receipt 51 = .ok (.ifCond .eq 6, 3) := by decide +kernel
theorem dX7_receipt_54 : decode cX7_receipt 54 = .ok (.goto 58, 3) := by decide +kernel
theorem dX7_receipt_57 : decode cX7_receipt 57 = .ok (.aload_n 0, 1) := by decide +kernel
theorem dX7_receipt_58 : decode cX7_receipt 58 = .ok (.bipush 48, 2) := by decide +kernel
theorem dX7_receipt_60 : decode cX7_receipt 60 = .ok (.aload_n 0, 1) := by decide +kernel
theorem dX7_receipt_61 : decode cX7_receipt 61 = .ok (.getfield 39, 3) := by decide +kernel
theorem dX7_receipt_64 : decode cX7_receipt 64 = .ok (.iload_n 3, 1) := by decide +kernel
theorem dX7_receipt_65 : decode cX7_receipt 65 = .ok (.iaload, 1) := by decide +kernel
theorem dX7_receipt_66 : decode cX7_receipt 66 = .ok (.bipush 10, 2) := by decide +kernel
theorem dX7_receipt_68 : decode cX7_receipt 68 = .ok (.idiv, 1) := by decide +kernel
theorem dX7_receipt_69 : decode cX7_receipt 69 = .ok (.iadd, 1) := by decide +kernel
theorem dX7_receipt_70 : decode cX7_receipt 70 = .ok (.invokevirtual 168, 3) := by decide +kernel
theorem dX7_receipt_73 : decode cX7_receipt 73 = .ok (.aload_n 0, 1) := by decide +kernel
theorem dX7_receipt_74 : decode cX7_receipt 74 = .ok (.bipush 48, 2) := by decide +kernel
theorem dX7_receipt_76 : decode cX7_receipt 76 = .ok (.aload_n 0, 1) := by decide +kernel
theorem dX7_receipt_77 : decode cX7_receipt 77 = .ok (.getfield 39, 3) := by decide +kernel
theorem dX7_receipt_80 : decode cX7_receipt 80 = .ok (.iload_n 3, 1) := by decide +kernel
theorem dX7_receipt_81 : decode cX7_receipt 81 = .ok (.iaload, 1) := by decide +kernel
theorem dX7_receipt_82 : decode cX7_receipt 82 = .ok (.bipush 10, 2) := by decide +kernel
theorem dX7_receipt_84 : decode cX7_receipt 84 = .ok (.irem, 1) := by decide +kernel
theorem dX7_receipt_85 : decode cX7_receipt 85 = .ok (.iadd, 1) := by decide +kernel
theorem dX7_receipt_86 : decode cX7_receipt 86 = .ok (.invokevirtual 168, 3) := by decide +kernel
theorem dX7_receipt_89 : decode cX7_receipt 89 = .ok (.aload_n 0, 1) := by decide +kernel
theorem dX7_receipt_90 : decode cX7_receipt 90 = .ok (.bipush 32, 2) := by decide +kernel
theorem dX7_receipt_92 : decode cX7_receipt 92 = .ok (.invokevirtual 168, 3) := by decide +kernel
theorem dX7_receipt_95 : decode cX7_receipt 95 = .ok (.aload_n 0, 1) := by decide +kernel
theorem dX7_receipt_96 : decode cX7_receipt 96 = .ok (.iload 4, 2) := by decide +kernel
theorem dX7_receipt_98 : decode cX7_receipt 98 = .ok (.sipush 816, 3) := by decide +kernel
theorem dX7_receipt_101 : decode cX7_receipt 101 = .ok (.iload_n 3, 1) := by decide +kernel
theorem dX7_receipt_102 : decode cX7_receipt 102 = .ok (.iadd, 1) := by decide +kernel
theorem dX7_receipt_103 : decode cX7_receipt 103 = .ok (.invokevirtual 174, 3) := by decide +kernel
theorem dX7_receipt_106 : decode cX7_receipt 106 = .ok (.aload_n 0, 1) := by decide +kernel
theorem dX7_receipt_107 : decode cX7_receipt 107 = .ok (.bipush 59, 2) := by decide +kernel
theorem dX7_receipt_109 : decode cX7_receipt 109 = .ok (.invokevirtual 168, 3) := by decide +kernel
theorem dX7_receipt_112 : decode cX7_receipt 112 = .ok (.iinc 3 1, 3) := by decide +kernel
theorem dX7_receipt_115 : decode cX7_receipt 115 = .ok (.goto (-89), 3) := by decide +kernel
theorem dX7_receipt_118 : decode cX7_receipt 118 = .ok (.aload_n 0, 1) := by decide +kernel
theorem dX7_receipt_119 : decode cX7_receipt 119 = .ok (.bipush 61, 2) := by decide +kernel
theorem dX7_receipt_121 : decode cX7_receipt 121 = .ok (.invokevirtual 168, 3) := by decide +kernel
theorem dX7_receipt_124 : decode cX7_receipt 124 = .ok (.aload_n 0, 1) := by decide +kernel
theorem dX7_receipt_125 : decode cX7_receipt 125 = .ok (.iload_n 1, 1) := by decide +kernel
theorem dX7_receipt_126 : decode cX7_receipt 126 = .ok (.sipush 848, 3) := by decide +kernel
theorem dX7_receipt_129 : decode cX7_receipt 129 = .ok (.invokevirtual 174, 3) := by decide +kernel
theorem dX7_receipt_132 : decode cX7_receipt 132 = .ok (.aload_n 0, 1) := by decide +kernel
theorem dX7_receipt_133 : decode cX7_receipt 133 = .ok (.bipush 46, 2) := by decide +kernel
theorem dX7_receipt_135 : decode cX7_receipt 135 = .ok (.invokevirtual 168, 3) := by decide +kernel
theorem dX7_receipt_138 : decode cX7_receipt 138 = .ok (.iload_n 2, 1) := by decide +kernel
theorem dX7_receipt_139 : decode cX7_receipt 139 = .ok (.aload_n 0, 1) := by decide +kernel
theorem dX7_receipt_140 : decode cX7_receipt 140 = .ok (.getfield 162, 3) := by decide +kernel
theorem dX7_receipt_143 : decode cX7_receipt 143 = .ok (.if_icmp .ge 12, 3) := by decide +kernel
theorem dX7_receipt_146 : decode cX7_receipt 146 = .ok (.aload_n 0, 1) := by decide +kernel
theorem dX7_receipt_147 : decode cX7_receipt 147 = .ok (.getfield 48, 3) := by decide +kernel
theorem dX7_receipt_150 : decode cX7_receipt 150 = .ok (.iload_n 2, 1) := by decide +kernel
theorem dX7_receipt_151 : decode cX7_receipt 151 = .ok (.iaload, 1) := by decide +kernel
theorem dX7_receipt_152 : decode cX7_receipt 152 = .ok (.goto 4, 3) := by decide +kernel
theorem dX7_receipt_155 : decode cX7_receipt 155 = .ok (.iconst (-1), 1) := by decide +kernel
theorem dX7_receipt_156 : decode cX7_receipt 156 = .ok (.ireturn, 1) := by decide +kernel
