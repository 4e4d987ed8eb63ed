theorem dX0_init_0 : decode cX0_init 0 = .ok (.aload_n 0, 1) := by decide +kernel
theorem dX0_init_1 : decode cX0_init 1 = .ok (.invokespecial 1, 3) := by decide +kernel
theorem dX0_init_4 : decode cX0_init 4 = .ok (.return_, 1) := by decide +kernel
theorem dX0_covers_0 : decode cX0_covers 0 = .ok (.iload_n 1, 1) := by decide +kernel
theorem dX0_covers_1 : decode cX0_covers 1 = .ok (.aload_n 0, 1) := by decide +kernel
theorem dX0_covers_2 : decode cX0_covers 2 = .ok (.getfield 7, 3) := by decide +kernel
theorem dX0_covers_5 : decode cX0_covers 5 = .ok (.if_icmp .eq 21, 3) := by decide +kernel
theorem dX0_covers_8 : decode cX0_covers 8 = .ok (.aload_n 0, 1) := by decide +kernel
theorem dX0_covers_9 : decode cX0_covers 9 = .ok (.getfield 13, 3) := by decide +kernel
theorem dX0_covers_12 : decode cX0_covers 12 = .ok (.ifCond .eq 18, 3) := by decide +kernel
theorem dX0_covers_15 : decode cX0_covers 15 = .ok (.aload_n 0, 1) := by decide +kernel
theorem dX0_covers_16 : decode cX0_covers 16 = .ok (.getfield 7, 3) := by decide +kernel
theorem dX0_covers_19 : decode cX0_covers 19 = .ok (.iload_n 1, 1) := by decide +kernel
theorem dX0_covers_20 : decode cX0_covers 20 = .ok (.invokestatic 17, 3) := by decide +kernel
theorem dX0_covers_23 : decode cX0_covers 23 = .ok (.ifCond .eq 7, 3) := by decide +kernel
theorem dX0_covers_26 : decode cX0_covers 26 = .ok (.iconst 1, 1) := by decide +kernel
theorem dX0_covers_27 : decode cX0_covers 27 = .ok (.goto 4, 3) := by decide +kernel
theorem dX0_covers_30 : decode cX0_covers 30 = .ok (.iconst 0, 1) := by decide +kernel
theorem dX0_covers_31 : decode cX0_covers 31 = .ok (.ireturn, 1) := by decide +kernel
theorem dX1_init_0 : decode cX1_init 0 = .ok (.aload_n 0, 1) := by decide +kernel
theorem dX1_init_1 : decode cX1_init 1 = .ok (.invokespecial 3, 3) := by decide +kernel
theorem dX1_init_4 : decode cX1_init 4 = .ok (.aload_n 0, 1) := by decide +kernel
theorem dX1_init_5 : decode cX1_init 5 = .ok (.bipush 30, 2) := by decide +kernel
theorem dX1_init_7 : decode cX1_init 7 = .ok (.anewarray 9, 3) := by decide +kernel
theorem dX1_init_10 : decode cX1_init 10 = .ok (.putfield 11, 3) := by decide +kernel
theorem dX1_init_13 : decode cX1_init 13 = .ok (.iconst 0, 1) := by decide +kernel
theorem dX1_init_14 : decode cX1_init 14 = .ok (.istore_n 1, 1) := by decide +kernel
theorem dX1_init_15 : decode cX1_init 15 = .ok (.iload_n 1, 1) := by decide +kernel
theorem dX1_init_16 : decode cX1_init 16 = .ok (.aload_n 0, 1) := by decide +kernel
theorem dX1_init_17 : decode cX1_init 17 = .ok (.getfield 11, 3) := by decide +kernel
theorem dX1_init_20 : decode cX1_init 20 = .ok (.arraylength, 1) := by decide +kernel
theorem dX1_init_21 : decode cX1_init 21 = .ok (.if_icmp .ge 22, 3) := by decide +kernel
theorem dX1_init_24 : decode cX1_init 24 = .ok (.aload_n 0, 1) := by decide +kernel
theorem dX1_init_25 : decode cX1_init 25 = .ok (.getfield 11, 3) := by decide +kernel
theorem dX1_init_28 : decode cX1_init 28 = .ok (.iload_n 1, 1) := by decide +kernel
theorem dX1_init_29 : decode cX1_init 29 = .ok (.new 9, 3) := by decide +kernel
theorem dX1_init_32 : decode cX1_init 32 = .ok (.dup, 1) := by decide +kernel
theorem dX1_init_33 : decode cX1_init 33 = .ok (.invokespecial 17, 3) := by decide +kernel
theorem dX1_init_36 : decode cX1_init 36 = .ok (.aastore, 1) := by decide +kernel
theorem dX1_init_37 : decode cX1_init 37 = .ok (.iinc 1 1, 3) := by decide +kernel
theorem dX1_init_40 : decode cX1_init 40 = .ok (.goto (-25), 3) := by decide +kernel
theorem dX1_init_43 : decode cX1_init 43 = .ok (.aload_n 0, 1) := by decide +kernel
theorem dX1_init_44 : decode cX1_init 44 = .ok (.iconst 0, 1) := by decide +kernel
theorem dX1_init_45 : decode cX1_init 45 = .ok (.putfield 18, 3) := by decide +kernel
theorem dX1_init_48 : decode cX1_init 48 = .ok (.aload_n 0, 1) := by decide +kernel
theorem dX1_init_49 : decode cX1_init 49 = .ok (.iconst 0, 1) := by decide +kernel
theorem dX1_init_50 : decode cX1_init 50 = .ok (.putfield 22, 3) := by decide +kernel
theorem dX1_init_53 : decode cX1_init 53 = .ok (.return_, 1) := by decide +kernel
theorem dX1_find_0 : decode cX1_find 0 = .ok (.iload_n 1, 1) := by decide +kernel
theorem dX1_find_1 : decode cX1_find 1 = .ok (.ifCond .lt 20, 3) := by decide +kernel
theorem dX1_find_4 : decode cX1_find 4 = .ok (.iload_n 1, 1) := by decide +kernel
theorem dX1_find_5 : decode cX1_find 5 = .ok (.aload_n 0, 1) := by decide +kernel
theorem dX1_find_6 : decode cX1_find 6 = .ok (.getfield 18, 3) := by decide +kernel
theorem dX1_find_9 : decode cX1_find 9 = .ok (.if_icmp .ge 12, 3) := by decide +kernel
theorem dX1_find_12 : decode cX1_find 12 = .ok (.iload_n 1, 1) := by decide +kernel
theorem dX1_find_13 : decode cX1_find 13 = .ok (.aload_n 0, 1) := by decide +kernel
theorem dX1_find_14 : decode cX1_find 14 = .ok (.getfield 11, 3) := by decide +kernel
theorem dX1_find_17 : decode cX1_find 17 = .ok (.arraylength, 1) := by decide +kernel
theorem dX1_find_18 : decode cX1_find 18 = .ok (.if_icmp .lt 5, 3) := by decide +kernel
theorem dX1_find_21 : decode cX1_find 21 = .ok (.aconst_null, 1) := by decide +kernel
theorem dX1_find_22 : decode cX1_find 22 = .ok (.areturn, 1) := by decide +kernel
theorem dX1_find_23 : decode cX1_find 23 = .ok (.aload_n 0, 1) := by decide +kernel
theorem dX1_find_24 : decode cX1_find 24 = .ok (.getfield 11, 3) := by decide +kernel
theorem dX1_find_27 : decode cX1_find 27 = .ok (.iload_n 1, 1) := by decide +kernel
theorem dX1_find_28 : decode cX1_find 28 = .ok (.aaload, 1) := by decide +kernel
theorem dX1_find_29 : decode cX1_find 29 = .ok (.getfield 25, 3) := by decide +kernel
theorem dX1_find_32 : decode cX1_find 32 = .ok (.aload_n 0, 1) := by decide +kernel
theorem dX1_find_33 : decode cX1_find 33 = .ok (.getfield 22, 3) := by decide +kernel
theorem dX1_find_36 : decode cX1_find 36 = .ok (.if_icmp .le 12, 3) := by decide +kernel
theorem dX1_find_39 : decode cX1_find 39 = .ok (.aload_n 0, 1) := by decide +kernel
theorem dX1_find_40 : decode cX1_find 40 = .ok (.getfield 11, 3) := by decide +kernel
theorem dX1_find_43 : decode cX1_find 43 = .ok (.iload_n 1, 1) := by decide +kernel
theorem dX1_find_44 : decode cX1_find 44 = .ok (.aaload, 1) := by decide +kernel
theorem dX1_find_45 : decode cX1_find 45 = .ok (.goto 4, 3) := by decide +kernel
theorem dX1_find_48 : decode cX1_find 48 = .ok (.aconst_null, 1) := by decide +kernel
theorem dX1_find_49 : decode cX1_find 49 = .ok (.areturn, 1) := by decide +kernel
theorem dX1_tokensOver_0 : decode cX1_tokensOver 0 = .ok (.iconst 0, 1) := by decide +kernel
theorem dX1_tokensOver_1 : decode cX1_tokensOver 1 = .ok (.istore_n 2, 1) := by decide +kernel
theorem dX1_tokensOver_2 : decode cX1_tokensOver 2 = .ok (.iconst 0, 1) := by decide +kernel
theorem dX1_tokensOver_3 : decode cX1_tokensOver 3 = .ok (.istore_n 3, 1) := by decide +kernel
theorem dX1_tokensOver_4 : decode cX1_tokensOver 4 = .ok (.iload_n 3, 1) := by decide +kernel
theorem dX1_tokensOver_5 : decode cX1_tokensOver 5 = .ok (.aload_n 0, 1) := by decide +kernel
theorem dX1_tokensOver_6 : decode cX1_tokensOver 6 = .ok (.getfield 18, 3) := by decide +kernel
theorem dX1_tokensOver_9 : decode cX1_tokensOver 9 = .ok (.if_icmp .ge 36, 3) := by decide +kernel
theorem dX1_tokensOver_12 : decode cX1_tokensOver 12 = .ok (.aload_n 0, 1) := by decide +kernel
theorem dX1_tokensOver_13 : decode cX1_tokensOver 13 = .ok (.iload_n 3, 1) := by decide +kernel
theorem dX1_tokensOver_14 : decode cX1_tokensOver 14 = .ok (.invokevirtual 28, 3) := by decide +kernel
theorem dX1_tokensOver_17 : decode cX1_tokensOver 17 = .ok (.astore 4, 2) := by decide +kernel
theorem dX1_tokensOver_19 : decode cX1_tokensOver 19 = .ok (.aload 4, 2) := by decide +kernel
theorem dX1_tokensOver_21 : decode cX1_tokensOver 21 = .ok (.ifnull 18, 3) := by decide +kernel
theorem dX1_tokensOver_24 : decode cX1_tokensOver 24 = .ok (.aload 4, 2) := by decide +kernel
theorem dX1_tokensOver_26 : decode cX1_tokensOver 26 = .ok (.iload_n 1, 1) := by decide +kernel
theorem dX1_tokensOver_27 : decode cX1_tokensOver 27 = .ok (.invokevirtual 32, 3) := by decide +kernel
theorem dX1_tokensOver_30 : decode cX1_tokensOver 30 = .ok (.ifCond .eq 9, 3) := by decide +kernel
theorem dX1_tokensOver_33 : decode cX1_tokensOver 33 = .ok (.iload_n 2, 1) := by decide +kernel
theorem dX1_tokensOver_34 : decode cX1_tokensOver 34 = .ok (.iconst 1, 1) := by decide +kernel
theorem dX1_tokensOver_35 : decode cX1_tokensOver 35 = .ok (.iload_n 3, 1) := by decide +kernel
theorem dX1_tokensOver_36 : decode cX1_tokensOver 36 = .ok (.ishl, 1) := by decide +kernel
theorem dX1_tokensOver_37 : decode cX1_tokensOver 37 = .ok (.ior, 1) := by decide +kernel
theorem dX1_tokensOver_38 : decode cX1_tokensOver 38 = .ok (.istore_n 2, 1) := by decide +kernel
theorem dX1_tokensOver_39 : decode cX1_tokensOver 39 = .ok (.iinc 3 1, 3) := by decide +kernel
theorem dX1_tokensOver_42 : decode cX1_tokensOver 42 = .ok (.goto (-38), 3) := by decide +kernel
theorem dX1_tokensOver_45 : decode cX1_tokensOver 45 = .ok (.iload_n 2, 1) := by decide +kernel
theorem dX1_tokensOver_46 : decode cX1_tokensOver 46 = .ok (.ireturn, 1) := by decide +kernel
theorem dX1_allows_0 : decode cX1_allows 0 = .ok (.aload_n 0, 1) := by decide +kernel
theorem dX1_allows_1 : decode cX1_allows 1 = .ok (.iload_n 2, 1) := by decide +kernel
theorem dX1_allows_2 : decode cX1_allows 2 = .ok (.invokevirtual 36, 3) := by decide +kernel
theorem dX1_allows_5 : decode cX1_allows 5 = .ok (.istore 4, 2) := by decide +kernel
theorem dX1_allows_7 : decode cX1_allows 7 = .ok (.iload 4, 2) := by decide +kernel
theorem dX1_allows_9 : decode cX1_allows 9 = .ok (.ifCond .ne 5, 3) := by decide +kernel
theorem dX1_allows_12 : decode cX1_allows 12 = .ok (.iconst 1, 1) := by decide +kernel
theorem dX1_allows_13 : decode cX1_allows 13 = .ok (.ireturn, 1) := by decide +kernel
theorem dX1_allows_14 : decode cX1_allows 14 = .ok (.iload 4, 2) := by decide +kernel
theorem dX1_allows_16 : decode cX1_allows 16 = .ok (.iload_n 3, 1) := by decide +kernel
theorem dX1_allows_17 : decode cX1_allows 17 = .ok (.iand, 1) := by decide +kernel
theorem dX1_allows_18 : decode cX1_allows 18 = .ok (.istore 5, 2) := by decide +kernel
theorem dX1_allows_20 : decode cX1_allows 20 = .ok (.iconst 0, 1) := by decide +kernel
theorem dX1_allows_21 : decode cX1_allows 21 = .ok (.istore 6, 2) := by decide +kernel
theorem dX1_allows_23 : decode cX1_allows 23 = .ok (.iload 6, 2) := by decide +kernel
theorem dX1_allows_25 : decode cX1_allows 25 = .ok (.aload_n 0, 1) := by decide +kernel
theorem dX1_allows_26 : decode cX1_allows 26 = .ok (.getfield 18, 3) := by decide +kernel
theorem dX1_allows_29 : decode cX1_allows 29 = .ok (.if_icmp .ge 43, 3) := by decide +kernel
theorem dX1_allows_32 : decode cX1_allows 32 = .ok (.aload_n 0, 1) := by decide +kernel
theorem dX1_allows_33 : decode cX1_allows 33 = .ok (.iload 6, 2) := by decide +kernel
theorem dX1_allows_35 : decode cX1_allows 35 = .ok (.invokevirtual 28, 3) := by decide +kernel
theorem dX1_allows_38 : decode cX1_allows 38 = .ok (.astore 7, 2) := by decide +kernel
theorem dX1_allows_40 : decode cX1_allows 40 = .ok (.aload 7, 2) := by decide +kernel
theorem dX1_allows_42 : decode cX1_allows 42 = .ok (.ifnull 24, 3) := by decide +kernel
theorem dX1_allows_45 : decode cX1_allows 45 = .ok (.aload 7, 2) := by decide +kernel
theorem dX1_allows_47 : decode cX1_allows 47 = .ok (.getfield 40, 3) := by decide +kernel
theorem dX1_allows_50 : decode cX1_allows 50 = .ok (.iload_n 1, 1) := by decide +kernel
theorem dX1_allows_51 : decode cX1_allows 51 = .ok (.if_icmp .ne 15, 3) := by decide +kernel
theorem dX1_allows_54 : decode cX1_allows 54 = .ok (.iload 5, 2) := by decide +kernel
theorem dX1_allows_56 : decode cX1_allows 56 = .ok (.iconst 1, 1) := by decide +kernel
theorem dX1_allows_57 : decode cX1_allows 57 = .ok (.iload 6, 2) := by decide +kernel
theorem dX1_allows_59 : decode cX1_allows 59 = .ok (.ishl, 1) := by decide +kernel
theorem dX1_allows_60 : decode cX1_allows 60 = .ok (.iand, 1) := by decide +kernel
theorem dX1_allows_61 : decode cX1_allows 61 = .ok (.ifCond .eq 5, 3) := by decide +kernel
theorem dX1_allows_64 : decode cX1_allows 64 = .ok (.iconst 1, 1) := by decide +kernel
theorem dX1_allows_65 : decode cX1_allows 65 = .ok (.ireturn, 1) := by decide +kernel
theorem dX1_allows_66 : decode cX1_allows 66 = .ok (.iinc 6 1, 3) := by decide +kernel
theorem dX1_allows_69 : decode cX1_allows 69 = .ok (.goto (-46), 3) := by decide +kernel
theorem dX1_allows_72 : decode cX1_allows 72 = .ok (.iconst 0, 1) := by decide +kernel
theorem dX1_allows_73 : decode cX1_allows 73 = .ok (.ireturn, 1) := by decide +kernel
theorem dX1_bar_0 : decode cX1_bar 0 = .ok (.iconst 0, 1) := by decide +kernel
theorem dX1_bar_1 : decode cX1_bar 1 = .ok (.istore 4, 2) := by decide +kernel
theorem dX1_bar_3 : decode cX1_bar 3 = .ok (.iload 4, 2) := by decide +kernel
theorem dX1_bar_5 : decode cX1_bar 5 = .ok (.aload_n 0, 1) := by decide +kernel
theorem dX1_bar_6 : decode cX1_bar 6 = .ok (.getfield 18, 3) := by decide +kernel
theorem dX1_bar_9 : decode cX1_bar 9 = .ok (.if_icmp .ge 61, 3) := by decide +kernel
theorem dX1_bar_12 : decode cX1_bar 12 = .ok (.aload_n 0, 1) := by decide +kernel
theorem dX1_bar_13 : decode cX1_bar 13 = .ok (.iload 4, 2) := by decide +kernel
theorem dX1_bar_15 : decode cX1_bar 15 = .ok (.invokevirtual 28, 3) := by decide +kernel
theorem dX1_bar_18 : decode cX1_bar 18 = .ok (.astore 5, 2) := by decide +kernel
theorem dX1_bar_20 : decode cX1_bar 20 = .ok (.aload 5, 2) := by decide +kernel
theorem dX1_bar_22 : decode cX1_bar 22 = .ok (.ifnull 42, 3) := by decide +kernel
theorem dX1_bar_25 : decode cX1_bar 25 = .ok (.iload_n 2, 1) := by decide +kernel
theorem dX1_bar_26 : decode cX1_bar 26 = .ok (.ifCond .eq 11, 3) := by decide +kernel
theorem dX1_bar_29 : decode cX1_bar 29 = .ok (.aload 5, 2) := by decide +kernel
theorem dX1_bar_31 : decode cX1_bar 31 = .ok (.getfield 43, 3) := by decide +kernel
theorem dX1_bar_34 : decode cX1_bar 34 = .ok (.ifCond .ne 30, 3) := by decide +kernel
theorem dX1_bar_37 : decode cX1_bar 37 = .ok (.aload 5, 2) := by decide +kernel
theorem dX1_bar_39 : decode cX1_bar 39 = .ok (.iload_n 1, 1) := by decide +kernel
theorem dX1_bar_40 : decode cX1_bar 40 = .ok (.invokevirtual 32, 3) := by decide +kernel
theorem dX1_bar_43 : decode cX1_bar 43 = .ok (.ifCond .ne 19, 3) := by decide +kernel
theorem dX1_bar_46 : decode cX1_bar 46 = .ok (.iload_n 3, 1) := by decide +kernel
theorem dX1_bar_47 : decode cX1_bar 47 = .ok (.ifCond .eq 17, 3) := by decide +kernel
theorem dX1_bar_50 : decode cX1_bar 50 = .ok (.iload_n 1, 1) := by decide +kernel
theorem dX1_bar_51 : decode cX1_bar 51 = .ok (.aload 5, 2) := by decide +kernel
theorem dX1_bar_53 : decode cX1_bar 53 = .ok (.getfield 47, 3) := by decide +kernel
theorem dX1_bar_56 : decode cX1_bar 56 = .ok (.invokestatic 50, 3) := by decide +kernel
theorem dX1_bar_59 : decode cX1_bar 59 = .ok (.ifCond .eq 5, 3) := by decide +kernel
theorem dX1_bar_62 : decode cX1_bar 62 = .ok (.iconst 1, 1) := by decide +kernel
theorem dX1_bar_63 : decode cX1_bar 63 = .ok (.ireturn, 1) := by decide +kernel
theorem dX1_bar_64 : decode cX1_bar 64 = .ok (.iinc 4 1, 3) := by decide +kernel
theorem dX1_bar_67 : decode cX1_bar 67 = .ok (.goto (-64), 3) := by decide +kernel
theorem dX1_bar_70 : decode cX1_bar 70 = .ok (.iconst 0, 1) := by decide +kernel
theorem dX1_bar_71 : decode cX1_bar 71 = .ok (.ireturn, 1) := by decide +kernel
theorem dX1_add_0 : decode cX1_add 0 = .ok (.aload_n 0, 1) := by decide +kernel
theorem dX1_add_1 : decode cX1_add 1 = .ok (.getfield 18, 3) := by decide +kernel
theorem dX1_add_4 : decode cX1_add 4 = .ok (.aload_n 0, 1) := by decide +kernel
theorem dX1_add_5 : decode cX1_add 5 = .ok (.getfield 11, 3) := by decide +kernel
theorem dX1_add_8 : decode cX1_add 8 = .ok (.arraylength, 1) := by decide +kernel
theorem dX1_add_9 : decode cX1_add 9 = .ok (.if_icmp .lt 5, 3) := by decide +kernel
theorem dX1_add_12 : decode cX1_add 12 = .ok (.iconst (-1), 1) := by decide +kernel
theorem dX1_add_13 : decode cX1_add 13 = .ok (.ireturn, 1) := by decide +kernel
theorem dX1_add_14 : decode cX1_add 14 = .ok (.aload_n 0, 1) := by decide +kernel
theorem dX1_add_15 : decode cX1_add 15 = .ok (.getfield 11, 3) := by decide +kernel
theorem dX1_add_18 : decode cX1_add 18 = .ok (.aload_n 0, 1) := by decide +kernel
theorem dX1_add_19 : decode cX1_add 19 = .ok (.getfield 18, 3) := by decide +kernel
theorem dX1_add_22 : decode cX1_add 22 = .ok (.aaload, 1) := by decide +kernel
theorem dX1_add_23 : decode cX1_add 23 = .ok (.astore 6, 2) := by decide +kernel
theorem dX1_add_25 : decode cX1_add 25 = .ok (.aload 6, 2) := by decide +kernel
theorem dX1_add_27 : decode cX1_add 27 = .ok (.iload_n 1, 1) := by decide +kernel
theorem dX1_add_28 : decode cX1_add 28 = .ok (.putfield 40, 3) := by decide +kernel
theorem dX1_add_31 : decode cX1_add 31 = .ok (.aload 6, 2) := by decide +kernel
theorem dX1_add_33 : decode cX1_add 33 = .ok (.iload_n 2, 1) := by decide +kernel
theorem dX1_add_34 : decode cX1_add 34 = .ok (.putfield 47, 3) := by decide +kernel
theorem dX1_add_37 : decode cX1_add 37 = .ok (.aload 6, 2) := by decide +kernel
theorem dX1_add_39 : decode cX1_add 39 = .ok (.iload_n 3, 1) := by decide +kernel
theorem dX1_add_40 : decode cX1_add 40 = .ok (.putfield 43, 3) := by decide +kernel
theorem dX1_add_43 : decode cX1_add 43 = .ok (.aload 6, 2) := by decide +kernel
theorem dX1_add_45 : decode cX1_add 45 = .ok (.iload 4, 2) := by decide +kernel
theorem dX1_add_47 : decode cX1_add 47 = .ok (.putfield 54, 3) := by decide +kernel
theorem dX1_add_50 : decode cX1_add 50 = .ok (.aload 6, 2) := by decide +kernel
theorem dX1_add_52 : decode cX1_add 52 = .ok (.aload_n 0, 1) := by decide +kernel
theorem dX1_add_53 : decode cX1_add 53 = .ok (.getfield 22, 3) := by decide +kernel
theorem dX1_add_56 : decode cX1_add 56 = .ok (.iload 5, 2) := by decide +kernel
theorem dX1_add_58 : decode cX1_add 58 = .ok (.iadd, 1) := by decide +kernel
theorem dX1_add_59 : decode cX1_add 59 = .ok (.putfield 25, 3) := by decide +kernel
theorem dX1_add_62 : decode cX1_add 62 = .ok (.aload_n 0, 1) := by decide +kernel
theorem dX1_add_63 : decode cX1_add 63 = .ok (.dup, 1) := by decide +kernel
theorem dX1_add_64 : decode cX1_add 64 = .ok (.getfield 18, 3) := by decide +kernel
theorem dX1_add_67 : decode cX1_add 67 = .ok (.iconst 1, 1) := by decide +kernel
theorem dX1_add_68 : decode cX1_add 68 = .ok (.iadd, 1) := by decide +kernel
theorem dX1_add_69 : decode cX1_add 69 = .ok (.putfield 18, 3) := by decide +kernel
theorem dX1_add_72 : decode cX1_add 72 = .ok (.aload_n 0, 1) := by decide +kernel
theorem dX1_add_73 : decode cX1_add 73 = .ok (.getfield 18, 3) := by decide +kernel
theorem dX1_add_76 : decode cX1_add 76 = .ok (.iconst 1, 1) := by decide +kernel
theorem dX1_add_77 : decode cX1_add 77 = .ok (.isub, 1) := by decide +kernel
theorem dX1_add_78 : decode cX1_add 78 = .ok (.ireturn, 1) := by decide +kernel
theorem dX1_dropAt_0 : decode cX1_dropAt 0 = .ok (.iconst 0, 1) := by decide +kernel
theorem dX1_dropAt_1 : decode cX1_dropAt 1 = .ok (.istore_n 2, 1) := by decide +kernel
theorem dX1_dropAt_2 : decode cX1_dropAt 2 = .ok (.iload_n 2, 1) := by decide +kernel
theorem dX1_dropAt_3 : decode cX1_dropAt 3 = .ok (.aload_n 0, 1) := by decide +kernel
theorem dX1_dropAt_4 : decode cX1_dropAt 4 = .ok (.getfield 18, 3) := by decide +kernel
theorem dX1_dropAt_7 : decode cX1_dropAt 7 = .ok (.if_icmp .ge 35, 3) := by decide +kernel
theorem dX1_dropAt_10 : decode cX1_dropAt 10 = .ok (.aload_n 0, 1) := by decide +kernel
theorem dX1_dropAt_11 : decode cX1_dropAt 11 = .ok (.iload_n 2, 1) := by decide +kernel
theorem dX1_dropAt_12 : decode cX1_dropAt 12 = .ok (.invokevirtual 28, 3) := by decide +kernel
theorem dX1_dropAt_15 : decode cX1_dropAt 15 = .ok (.astore_n 3, 1) := by decide +kernel
theorem dX1_dropAt_16 : decode cX1_dropAt 16 = .ok (.aload_n 3, 1) := by decide +kernel
theorem dX1_dropAt_17 : decode cX1_dropAt 17 = .ok (.ifnull 19, 3) := by decide +kernel
theorem dX1_dropAt_20 : decode cX1_dropAt 20 = .ok (.aload_n 3, 1) := by decide +kernel
theorem dX1_dropAt_21 : decode cX1_dropAt 21 = .ok (.getfield 47, 3) := by decide +kernel
theorem dX1_dropAt_24 : decode cX1_dropAt 24 = .ok (.iload_n 1, 1) := by decide +kernel
theorem dX1_dropAt_25 : decode cX1_dropAt 25 = .ok (.if_icmp .ne 11, 3) := by decide +kernel
theorem dX1_dropAt_28 : decode cX1_dropAt 28 = .ok (.aload_n 3, 1) := by decide +kernel
theorem dX1_dropAt_29 : decode cX1_dropAt 29 = .ok (.aload_n 0, 1) := by decide +kernel
theorem dX1_dropAt_30 : decode cX1_dropAt 30 = .ok (.getfield 22, 3) := by decide +kernel
theorem dX1_dropAt_33 : decode cX1_dropAt 33 = .ok (.putfield 25, 3) := by decide +kernel
theorem dX1_dropAt_36 : decode cX1_dropAt 36 = .ok (.iinc 2 1, 3) := by decide +kernel
theorem dX1_dropAt_39 : decode cX1_dropAt 39 = .ok (.goto (-37), 3) := by decide +kernel
theorem dX1_dropAt_42 : decode cX1_dropAt 42 = .ok (.return_, 1) := by decide +kernel
theorem dX1_advance_0 : decode cX1_advance 0 = .ok (.aload_n 0, 1) := by decide +kernel
theorem dX1_advance_1 : decode cX1_advance 1 = .ok (.getfield 22, 3) := by decide +kernel
theorem dX1_advance_4 : decode cX1_advance 4 = .ok (.iload_n 1, 1) := by decide +kernel
theorem dX1_advance_5 : decode cX1_advance 5 = .ok (.iadd, 1) := by decide +kernel
theorem dX1_advance_6 : decode cX1_advance 6 = .ok (.istore_n 2, 1) := by decide +kernel
theorem dX1_advance_7 : decode cX1_advance 7 = .ok (.iconst 0, 1) := by decide +kernel
theorem dX1_advance_8 : decode cX1_advance 8 = .ok (.istore_n 3, 1) := by decide +kernel
theorem dX1_advance_9 : decode cX1_advance 9 = .ok (.iconst 0, 1) := by decide +kernel
theorem dX1_advance_10 : decode cX1_advance 10 = .ok (.istore 4, 2) := by decide +kernel
theorem dX1_advance_12 : decode cX1_advance 12 = .ok (.iload 4, 2) := by decide +kernel
theorem dX1_advance_14 : decode cX1_advance 14 = .ok (.aload_n 0, 1) := by decide +kernel
theorem dX1_advance_15 : decode cX1_advance 15 = .ok (.getfield 18, 3) := by decide +kernel
theorem dX1_advance_18 : decode cX1_advance 18 = .ok (.if_icmp .ge 34, 3) := by decide +kernel
theorem dX1_advance_21 : decode cX1_advance 21 = .ok (.aload_n 0, 1) := by decide +kernel
theorem dX1_advance_22 : decode cX1_advance 22 = .ok (.iload 4, 2) := by decide +kernel
theorem dX1_advance_24 : decode cX1_advance 24 = .ok (.invokevirtual 28, 3) := by decide +kernel
theorem dX1_advance_27 : decode cX1_advance 27 = .ok (.astore 5, 2) := by decide +kernel
theorem dX1_advance_29 : decode cX1_advance 29 = .ok (.aload 5, 2) := by decide +kernel
theorem dX1_advance_31 : decode cX1_advance 31 = .ok (.ifnull 15, 3) := by decide +kernel
theorem dX1_advance_34 : decode cX1_advance 34 = .ok (.aload 5, 2) := by decide +kernel
theorem dX1_advance_36 : decode cX1_advance 36 = .ok (.getfield 25, 3) := by decide +kernel
theorem dX1_advance_39 : decode cX1_advance 39 = .ok (.iload_n 2, 1) := by decide +kernel
theorem dX1_advance_40 : decode cX1_advance 40 = .ok (.if_icmp .gt 6, 3) := by decide +kernel
theorem dX1_advance_43 : decode cX1_advance 43 = .ok (.iinc 3 1, 3) := by decide +kernel
theorem dX1_advance_46 : decode cX1_advance 46 = .ok (.iinc 4 1, 3) := by decide +kernel
theorem dX1_advance_49 : decode cX1_advance 49 = .ok (.goto (-37), 3) := by decide +kernel
theorem dX1_advance_52 : decode cX1_advance 52 = .ok (.aload_n 0, 1) := by decide +kernel
theorem dX1_advance_53 : decode cX1_advance 53 = .ok (.iload_n 2, 1) := by decide +kernel
theorem dX1_advance_54 : decode cX1_advance 54 = .ok (.putfield 22, 3) := by decide +kernel
theorem dX1_advance_57 : decode cX1_advance 57 = .ok (.iload_n 3, 1) := by decide +kernel
theorem dX1_advance_58 : decode cX1_advance 58 = .ok (.ireturn, 1) := by decide +kernel
theorem dX2_init_0 : decode cX2_init 0 = .ok (.aload_n 0, 1) := by decide +kernel
theorem dX2_init_1 : decode cX2_init 1 = .ok (.invokespecial 3, 3) := by decide +kernel
theorem dX2_init_4 : decode cX2_init 4 = .ok (.aload_n 0, 1) := by decide +kernel
theorem dX2_init_5 : decode cX2_init 5 = .ok (.bipush 10, 2) := by decide +kernel
theorem dX2_init_7 : decode cX2_init 7 = .ok (.newarray .int, 2) := by decide +kernel
theorem dX2_init_9 : decode cX2_init 9 = .ok (.putfield 9, 3) := by decide +kernel
theorem dX2_init_12 : decode cX2_init 12 = .ok (.return_, 1) := by decide +kernel
theorem dX2_begin_0 : decode cX2_begin 0 = .ok (.aload_n 0, 1) := by decide +kernel
theorem dX2_begin_1 : decode cX2_begin 1 = .ok (.iload_n 1, 1) := by decide +kernel
theorem dX2_begin_2 : decode cX2_begin 2 = .ok (.putfield 15, 3) := by decide +kernel
theorem dX2_begin_5 : decode cX2_begin 5 = .ok (.aload_n 0, 1) := by decide +kernel
theorem dX2_begin_6 : decode cX2_begin 6 = .ok (.iload_n 2, 1) := by decide +kernel
theorem dX2_begin_7 : decode cX2_begin 7 = .ok (.putfield 19, 3) := by decide +kernel
theorem dX2_begin_10 : decode cX2_begin 10 = .ok (.aload_n 0, 1) := by decide +kernel
theorem dX2_begin_11 : decode cX2_begin 11 = .ok (.iload_n 3, 1) := by decide +kernel
theorem dX2_begin_12 : decode cX2_begin 12 = .ok (.putfield 22, 3) := by decide +kernel
theorem dX2_begin_15 : decode cX2_begin 15 = .ok (.aload_n 0, 1) := by decide +kernel
theorem dX2_begin_16 : decode cX2_begin 16 = .ok (.iconst 0, 1) := by decide +kernel
theorem dX2_begin_17 : decode cX2_begin 17 = .ok (.putfield 25, 3) := by decide +kernel
theorem dX2_begin_20 : decode cX2_begin 20 = .ok (.aload_n 0, 1) := by decide +kernel
theorem dX2_begin_21 : decode cX2_begin 21 = .ok (.iconst 0, 1) := by decide +kernel
theorem dX2_begin_22 : decode cX2_begin 22 = .ok (.putfield 29, 3) := by decide +kernel
theorem dX2_begin_25 : decode cX2_begin 25 = .ok (.return_, 1) := by decide +kernel
theorem dX2_versionAt_0 : decode cX2_versionAt 0 = .ok (.iload_n 1, 1) := by decide +kernel
theorem dX2_versionAt_1 : decode cX2_versionAt 1 = .ok (.ifCond .lt 20, 3) := by decide +kernel
theorem dX2_versionAt_4 : decode cX2_versionAt 4 = .ok (.iload_n 1, 1) := by decide +kernel
theorem dX2_versionAt_5 : decode cX2_versionAt 5 = .ok (.aload_n 0, 1) := by decide +kernel
theorem dX2_versionAt_6 : decode cX2_versionAt 6 = .ok (.getfield 29, 3) := by decide +kernel
theorem dX2_versionAt_9 : decode cX2_versionAt 9 = .ok (.if_icmp .ge 12, 3) := by decide +kernel
theorem dX2_versionAt_12 : decode cX2_versionAt 12 = .ok (.iload_n 1, 1) := by decide +kernel
theorem dX2_versionAt_13 : decode cX2_versionAt 13 = .ok (.aload_n 0, 1) := by decide +kernel
theorem dX2_versionAt_14 : decode cX2_versionAt 14 = .ok (.getfield 9, 3) := by decide +kernel
theorem dX2_versionAt_17 : decode cX2_versionAt 17 = .ok (.arraylength, 1) := by decide +kernel
theorem dX2_versionAt_18 : decode cX2_versionAt 18 = .ok (.if_icmp .lt 7, 3) := by decide +kernel
theorem dX2_versionAt_21 : decode cX2_versionAt 21 = .ok (.iconst (-1), 1) := by decide +kernel
theorem dX2_versionAt_22 : decode cX2_versionAt 22 = .ok (.goto 9, 3) := by decide +kernel
theorem dX2_versionAt_25 : decode cX2_versionAt 25 = .ok (.aload_n 0, 1) := by decide +kernel
theorem dX2_versionAt_26 : decode cX2_versionAt 26 = .ok (.getfield 9, 3) := by decide +kernel
theorem dX2_versionAt_29 : decode cX2_versionAt 29 = .ok (.iload_n 1, 1) := by decide +kernel
theorem dX2_versionAt_30 : decode cX2_versionAt 30 = .ok (.iaload, 1) := by decide +kernel
theorem dX2_versionAt_31 : decode cX2_versionAt 31 = .ok (.ireturn, 1) := by decide +kernel
theorem dX2_addVersion_0 : decode cX2_addVersion 0 = .ok (.aload_n 0, 1) := by decide +kernel
theorem dX2_addVersion_1 : decode cX2_addVersion 1 = .ok (.getfield 29, 3) := by decide +kernel
theorem dX2_addVersion_4 : decode cX2_addVersion 4 = .ok (.aload_n 0, 1) := by decide +kernel
theorem dX2_addVersion_5 : decode cX2_addVersion 5 = .ok (.getfield 9, 3) := by decide +kernel
theorem dX2_addVersion_8 : decode cX2_addVersion 8 = .ok (.arraylength, 1) := by decide +kernel
theorem dX2_addVersion_9 : decode cX2_addVersion 9 = .ok (.if_icmp .lt 5, 3) := by decide +kernel
theorem dX2_addVersion_12 : decode cX2_addVersion 12 = .ok (.iconst (-1), 1) := by decide +kernel
theorem dX2_addVersion_13 : decode cX2_addVersion 13 = .ok (.ireturn, 1) := by decide +kernel
theorem dX2_addVersion_14 : decode cX2_addVersion 14 = .ok (.aload_n 0, 1) := by decide +kernel
theorem dX2_addVersion_15 : decode cX2_addVersion 15 = .ok (.getfield 9, 3) := by decide +kernel
theorem dX2_addVersion_18 : decode cX2_addVersion 18 = .ok (.aload_n 0, 1) := by decide +kernel
theorem dX2_addVersion_19 : decode cX2_addVersion 19 = .ok (.getfield 29, 3) := by decide +kernel
theorem dX2_addVersion_22 : decode cX2_addVersion 22 = .ok (.aload_n 0, 1) := by decide +kernel
theorem dX2_addVersion_23 : decode cX2_addVersion 23 = .ok (.getfield 22, 3) := by decide +kernel
theorem dX2_addVersion_26 : decode cX2_addVersion 26 = .ok (.iastore, 1) := by decide +kernel
theorem dX2_addVersion_27 : decode cX2_addVersion 27 = .ok (.aload_n 0, 1) := by decide +kernel
theorem dX2_addVersion_28 : decode cX2_addVersion 28 = .ok (.dup, 1) := by decide +kernel
theorem dX2_addVersion_29 : decode cX2_addVersion 29 = .ok (.getfield 29, 3) := by decide +kernel
theorem dX2_addVersion_32 : decode cX2_addVersion 32 = .ok (.iconst 1, 1) := by decide +kernel
theorem dX2_addVersion_33 : decode cX2_addVersion 33 = .ok (.iadd, 1) := by decide +kernel
theorem dX2_addVersion_34 : decode cX2_addVersion 34 = .ok (.putfield 29, 3) := by decide +kernel
theorem dX2_addVersion_37 : decode cX2_addVersion 37 = .ok (.aload_n 0, 1) := by decide +kernel
theorem dX2_addVersion_38 : decode cX2_addVersion 38 = .ok (.getfield 29, 3) := by decide +kernel
theorem dX2_addVersion_41 : decode cX2_addVersion 41 = .ok (.iconst 1, 1) := by decide +kernel
theorem dX2_addVersion_42 : decode cX2_addVersion 42 = .ok (.isub, 1) := by decide +kernel
theorem dX2_addVersion_43 : decode cX2_addVersion 43 = .ok (.ireturn, 1) := by decide +kernel
theorem dX3_init_0 : decode cX3_init 0 = .ok (.aload_n 0, 1) := by decide +kernel
theorem dX3_init_1 : decode cX3_init 1 = .ok (.invokespecial 3, 3) := by decide +kernel
theorem dX3_init_4 : decode cX3_init 4 = .ok (.aload_n 0, 1) := by decide +kernel
theorem dX3_init_5 : decode cX3_init 5 = .ok (.bipush 60, 2) := by decide +kernel
theorem dX3_init_7 : decode cX3_init 7 = .ok (.anewarray 9, 3) := by decide +kernel
theorem dX3_init_10 : decode cX3_init 10 = .ok (.putfield 11, 3) := by decide +kernel
theorem dX3_init_13 : decode cX3_init 13 = .ok (.iconst 0, 1) := by decide +kernel
theorem dX3_init_14 : decode cX3_init 14 = .ok (.istore_n 1, 1) := by decide +kernel
theorem dX3_init_15 : decode cX3_init 15 = .ok (.iload_n 1, 1) := by decide +kernel
theorem dX3_init_16 : decode cX3_init 16 = .ok (.aload_n 0, 1) := by decide +kernel
theorem dX3_init_17 : decode cX3_init 17 = .ok (.getfield 11, 3) := by decide +kernel
theorem dX3_init_20 : decode cX3_init 20 = .ok (.arraylength, 1) := by decide +kernel
theorem dX3_init_21 : decode cX3_init 21 = .ok (.if_icmp .ge 22, 3) := by decide +kernel
theorem dX3_init_24 : decode cX3_init 24 = .ok (.aload_n 0, 1) := by decide +kernel
theorem dX3_init_25 : decode cX3_init 25 = .ok (.getfield 11, 3) := by decide +kernel
theorem dX3_init_28 : decode cX3_init 28 = .ok (.iload_n 1, 1) := by decide +kernel
theorem dX3_init_29 : decode cX3_init 29 = .ok (.new 9, 3) := by decide +kernel
theorem dX3_init_32 : decode cX3_init 32 = .ok (.dup, 1) := by decide +kernel
theorem dX3_init_33 : decode cX3_init 33 = .ok (.invokespecial 17, 3) := by decide +kernel
theorem dX3_init_36 : decode cX3_init 36 = .ok (.aastore, 1) := by decide +kernel
theorem dX3_init_37 : decode cX3_init 37 = .ok (.iinc 1 1, 3) := by decide +kernel
theorem dX3_init_40 : decode cX3_init 40 = .ok (.goto (-25), 3) := by decide +kernel
theorem dX3_init_43 : decode cX3_init 43 = .ok (.aload_n 0, 1) := by decide +kernel
theorem dX3_init_44 : decode cX3_init 44 = .ok (.iconst 0, 1) := by decide +kernel
theorem dX3_init_45 : decode cX3_init 45 = .ok (.putfield 18, 3) := by decide +kernel
theorem dX3_init_48 : decode cX3_init 48 = .ok (.return_, 1) := by decide +kernel
theorem dX3_indexOf_0 : decode cX3_indexOf 0 = .ok (.iconst 0, 1) := by decide +kernel
theorem dX3_indexOf_1 : decode cX3_indexOf 1 = .ok (.istore_n 2, 1) := by decide +kernel
theorem dX3_indexOf_2 : decode cX3_indexOf 2 = .ok (.iload_n 2, 1) := by decide +kernel
theorem dX3_indexOf_3 : decode cX3_indexOf 3 = .ok (.aload_n 0, 1) := by decide +kernel
theorem dX3_indexOf_4 : decode cX3_indexOf 4 = .ok (.getfield 18, 3) := by decide +kernel
theorem dX3_indexOf_7 : decode cX3_indexOf 7 = .ok (.if_icmp .ge 33, 3) := by decide +kernel
theorem dX3_indexOf_10 : decode cX3_indexOf 10 = .ok (.iload_n 2, 1) := by decide +kernel
theorem dX3_indexOf_11 : decode cX3_indexOf 11 = .ok (.aload_n 0, 1) := by decide +kernel
theorem dX3_indexOf_12 : decode cX3_indexOf 12 = .ok (.getfield 11, 3) := by decide +kernel
theorem dX3_indexOf_15 : decode cX3_indexOf 15 = .ok (.arraylength, 1) := by decide +kernel
theorem dX3_indexOf_16 : decode cX3_indexOf 16 = .ok (.if_icmp .ge 24, 3) := by decide +kernel
theorem dX3_indexOf_19 : decode cX3_indexOf 19 = .ok (.aload_n 0, 1) := by decide +kernel
theorem dX3_indexOf_20 : decode cX3_indexOf 20 = .ok (.getfield 11, 3) := by decide +kernel
theorem dX3_indexOf_23 : decode cX3_indexOf 23 = .ok (.iload_n 2, 1) := by decide +kernel
theorem dX3_indexOf_24 : decode cX3_indexOf 24 = .ok (.aaload, 1) := by decide +kernel
theorem dX3_indexOf_25 : decode cX3_indexOf 25 = .ok (.getfield 22, 3) := by decide +kernel
theorem dX3_indexOf_28 : decode cX3_indexOf 28 = .ok (.iload_n 1, 1) := by decide +kernel
theorem dX3_indexOf_29 : decode cX3_indexOf 29 = .ok (.if_icmp .ne 5, 3) := by decide +kernel
theorem dX3_indexOf_32 : decode cX3_indexOf 32 = .ok (.iload_n 2, 1) := by decide +kernel
theorem dX3_indexOf_33 : decode cX3_indexOf 33 = .ok (.ireturn, 1) := by decide +kernel
theorem dX3_indexOf_34 : decode cX3_indexOf 34 = .ok (.iinc 2 1, 3) := by decide +kernel
theorem dX3_indexOf_37 : decode cX3_indexOf 37 = .ok (.goto (-35), 3) := by decide +kernel
theorem dX3_indexOf_40 : decode cX3_indexOf 40 = .ok (.iconst (-1), 1) := by decide +kernel
theorem dX3_indexOf_41 : decode cX3_indexOf 41 = .ok (.ireturn, 1) := by decide +kernel
theorem dX3_find_0 : decode cX3_find 0 = .ok (.aload_n 0, 1) := by decide +kernel
theorem dX3_find_1 : decode cX3_find 1 = .ok (.iload_n 1, 1) := by decide +kernel
theorem dX3_find_2 : decode cX3_find 2 = .ok (.invokevirtual 25, 3) := by decide +kernel
theorem dX3_find_5 : decode cX3_find 5 = .ok (.istore_n 2, 1) := by decide +kernel
theorem dX3_find_6 : decode cX3_find 6 = .ok (.iload_n 2, 1) := by decide +kernel
theorem dX3_find_7 : decode cX3_find 7 = .ok (.ifCond .lt 12, 3) := by decide +kernel
theorem dX3_find_10 : decode cX3_find 10 = .ok (.iload_n 2, 1) := by decide +kernel
theorem dX3_find_11 : decode cX3_find 11 = .ok (.aload_n 0, 1) := by decide +kernel
theorem dX3_find_12 : decode cX3_find 12 = .ok (.getfield 11, 3) := by decide +kernel
theorem dX3_find_15 : decode cX3_find 15 = .ok (.arraylength, 1) := by decide +kernel
theorem dX3_find_16 : decode cX3_find 16 = .ok (.if_icmp .lt 7, 3) := by decide +kernel
theorem dX3_find_19 : decode cX3_find 19 = .ok (.aconst_null, 1) := by decide +kernel
theorem dX3_find_20 : decode cX3_find 20 = .ok (.goto 9, 3) := by decide +kernel
theorem dX3_find_23 : decode cX3_find 23 = .ok (.aload_n 0, 1) := by decide +kernel
theorem dX3_find_24 : decode cX3_find 24 = .ok (.getfield 11, 3) := by decide +kernel
theorem dX3_find_27 : decode cX3_find 27 = .ok (.iload_n 2, 1) := by decide +kernel
theorem dX3_find_28 : decode cX3_find 28 = .ok (.aaload, 1) := by decide +kernel
theorem dX3_find_29 : decode cX3_find 29 = .ok (.areturn, 1) := by decide +kernel
theorem dX3_pathAt_0 : decode cX3_pathAt 0 = .ok (.iload_n 1, 1) := by decide +kernel
theorem dX3_pathAt_1 : decode cX3_pathAt 1 = .ok (.ifCond .lt 20, 3) := by decide +kernel
theorem dX3_pathAt_4 : decode cX3_pathAt 4 = .ok (.iload_n 1, 1) := by decide +kernel
theorem dX3_pathAt_5 : decode cX3_pathAt 5 = .ok (.aload_n 0, 1) := by decide +kernel
theorem dX3_pathAt_6 : decode cX3_pathAt 6 = .ok (.getfield 18, 3) := by decide +kernel
theorem dX3_pathAt_9 : decode cX3_pathAt 9 = .ok (.if_icmp .ge 12, 3) := by decide +kernel
theorem dX3_pathAt_12 : decode cX3_pathAt 12 = .ok (.iload_n 1, 1) := by decide +kernel
theorem dX3_pathAt_13 : decode cX3_pathAt 13 = .ok (.aload_n 0, 1) := by decide +kernel
theorem dX3_pathAt_14 : decode cX3_pathAt 14 = .ok (.getfield 11, 3) := by decide +kernel
theorem dX3_pathAt_17 : decode cX3_pathAt 17 = .ok (.arraylength, 1) := by decide +kernel
theorem dX3_pathAt_18 : decode cX3_pathAt 18 = .ok (.if_icmp .lt 7, 3) := by decide +kernel
theorem dX3_pathAt_21 : decode cX3_pathAt 21 = .ok (.iconst (-1), 1) := by decide +kernel
theorem dX3_pathAt_22 : decode cX3_pathAt 22 = .ok (.goto 12, 3) := by decide +kernel
theorem dX3_pathAt_25 : decode cX3_pathAt 25 = .ok (.aload_n 0, 1) := by decide +kernel
theorem dX3_pathAt_26 : decode cX3_pathAt 26 = .ok (.getfield 11, 3) := by decide +kernel
theorem dX3_pathAt_29 : decode cX3_pathAt 29 = .ok (.iload_n 1, 1) := by decide +kernel
theorem dX3_pathAt_30 : decode cX3_pathAt 30 = .ok (.aaload, 1) := by decide +kernel
theorem dX3_pathAt_31 : decode cX3_pathAt 31 = .ok (.getfield 22, 3) := by decide +kernel
theorem dX3_pathAt_34 : decode cX3_pathAt 34 = .ok (.ireturn, 1) := by decide +kernel
theorem dX3_isGoingAt_0 : decode cX3_isGoingAt 0 = .ok (.iload_n 1, 1) := by decide +kernel
theorem dX3_isGoingAt_1 : decode cX3_isGoingAt 1 = .ok (.ifCond .lt 36, 3) := by decide +kernel
theorem dX3_isGoingAt_4 : decode cX3_isGoingAt 4 = .ok (.iload_n 1, 1) := by decide +kernel
theorem dX3_isGoingAt_5 : decode cX3_isGoingAt 5 = .ok (.aload_n 0, 1) := by decide +kernel
theorem dX3_isGoingAt_6 : decode cX3_isGoingAt 6 = .ok (.getfield 18, 3) := by decide +kernel
theorem dX3_isGoingAt_9 : decode cX3_isGoingAt 9 = .ok (.if_icmp .ge 28, 3) := by decide +kernel
theorem dX3_isGoingAt_12 : decode cX3_isGoingAt 12 = .ok (.iload_n 1, 1) := by decide +kernel
theorem dX3_isGoingAt_13 : decode cX3_isGoingAt 13 = .ok (.aload_n 0, 1) := by decide +kernel
theorem dX3_isGoingAt_14 : decode cX3_isGoingAt 14 = .ok (.getfield 11, 3) := by decide +kernel
theorem dX3_isGoingAt_17 : decode cX3_isGoingAt 17 = .ok (.arraylength, 1) := by decide +kernel
theorem dX3_isGoingAt_18 : decode cX3_isGoingAt 18 = .ok (.if_icmp .ge 19, 3) := by decide +kernel
theorem dX3_isGoingAt_21 : decode cX3_isGoingAt 21 = .ok (.aload_n 0, 1) := by decide +kernel
theorem dX3_isGoingAt_22 : decode cX3_isGoingAt 22 = .ok (.getfield 11, 3) := by decide +kernel
theorem dX3_isGoingAt_25 : decode cX3_isGoingAt 25 = .ok (.iload_n 1, 1) := by decide +kernel
theorem dX3_isGoingAt_26 : decode cX3_isGoingAt 26 = .ok (.aaload, 1) := by decide +kernel
theorem dX3_isGoingAt_27 : decode cX3_isGoingAt 27 = .ok (.getfield 29, 3) := by decide +kernel
theorem dX3_isGoingAt_30 : decode cX3_isGoingAt 30 = .ok (.ifCond .eq 7, 3) := by decide +kernel
theorem dX3_isGoingAt_33 : decode cX3_isGoingAt 33 = .ok (.iconst 1, 1) := by decide +kernel
theorem dX3_isGoingAt_34 : decode cX3_isGoingAt 34 = .ok (.goto 4, 3) := by decide +kernel
theorem dX3_isGoingAt_37 : decode cX3_isGoingAt 37 = .ok (.iconst 0, 1) := by decide +kernel
theorem dX3_isGoingAt_38 : decode cX3_isGoingAt 38 = .ok (.ireturn, 1) := by decide +kernel
theorem dX3_findFile_0 : decode cX3_findFile 0 = .ok (.aload_n 0, 1) := by decide +kernel
theorem dX3_findFile_1 : decode cX3_findFile 1 = .ok (.iload_n 1, 1) := by decide +kernel
theorem dX3_findFile_2 : decode cX3_findFile 2 = .ok (.invokevirtual 33, 3) := by decide +kernel
theorem dX3_findFile_5 : decode cX3_findFile 5 = .ok (.astore_n 2, 1) := by decide +kernel
theorem dX3_findFile_6 : decode cX3_findFile 6 = .ok (.aload_n 2, 1) := by decide +kernel
theorem dX3_findFile_7 : decode cX3_findFile 7 = .ok (.ifnull 11, 3) := by decide +kernel
theorem dX3_findFile_10 : decode cX3_findFile 10 = .ok (.aload_n 2, 1) := by decide +kernel
theorem dX3_findFile_11 : decode cX3_findFile 11 = .ok (.getfield 37, 3) := by decide +kernel
theorem dX3_findFile_14 : decode cX3_findFile 14 = .ok (.iconst 1, 1) := by decide +kernel
theorem dX3_findFile_15 : decode cX3_findFile 15 = .ok (.if_icmp .eq 7, 3) := by decide +kernel
theorem dX3_findFile_18 : decode cX3_findFile 18 = .ok (.aconst_null, 1) := by decide +kernel
theorem dX3_findFile_19 : decode cX3_findFile 19 = .ok (.goto 4, 3) := by decide +kernel
theorem dX3_findFile_22 : decode cX3_findFile 22 = .ok (.aload_n 2, 1) := by decide +kernel
theorem dX3_findFile_23 : decode cX3_findFile 23 = .ok (.areturn, 1) := by decide +kernel
theorem dX3_kindAt_0 : decode cX3_kindAt 0 = .ok (.iload_n 1, 1) := by decide +kernel
theorem dX3_kindAt_1 : decode cX3_kindAt 1 = .ok (.ifCond .ne 5, 3) := by decide +kernel
theorem dX3_kindAt_4 : decode cX3_kindAt 4 = .ok (.iconst 2, 1) := by decide +kernel
theorem dX3_kindAt_5 : decode cX3_kindAt 5 = .ok (.ireturn, 1) := by decide +kernel
theorem dX3_kindAt_6 : decode cX3_kindAt 6 = .ok (.aload_n 0, 1) := by decide +kernel
theorem dX3_kindAt_7 : decode cX3_kindAt 7 = .ok (.iload_n 1, 1) := by decide +kernel
theorem dX3_kindAt_8 : decode cX3_kindAt 8 = .ok (.invokevirtual 33, 3) := by decide +kernel
theorem dX3_kindAt_11 : decode cX3_kindAt 11 = .ok (.astore_n 2, 1) := by decide +kernel
theorem dX3_kindAt_12 : decode cX3_kindAt 12 = .ok (.aload_n 2, 1) := by decide +kernel
theorem dX3_kindAt_13 : decode cX3_kindAt 13 = .ok (.ifnonnull 7, 3) := by decide +kernel
theorem dX3_kindAt_16 : decode cX3_kindAt 16 = .ok (.iconst (-1), 1) := by decide +kernel
theorem dX3_kindAt_17 : decode cX3_kindAt 17 = .ok (.goto 7, 3) := by decide +kernel
theorem dX3_kindAt_20 : decode cX3_kindAt 20 = .ok (.aload_n 2, 1) := by decide +kernel
theorem dX3_kindAt_21 : decode cX3_kindAt 21 = .ok (.getfield 37, 3) := by decide +kernel
theorem dX3_kindAt_24 : decode cX3_kindAt 24 = .ok (.ireturn, 1) := by decide +kernel
theorem dX3_isCollection_0 : decode cX3_isCollection 0 = .ok (.aload_n 0, 1) := by decide +kernel
theorem dX3_isCollection_1 : decode cX3_isCollection 1 = .ok (.iload_n 1, 1) := by decide +kernel
theorem dX3_isCollection_2 : decode cX3_isCollection 2 = .ok (.invokevirtual 40, 3) := by decide +kernel
theorem dX3_isCollection_5 : decode cX3_isCollection 5 = .ok (.iconst 2, 1) := by decide +kernel
theorem dX3_isCollection_6 : decode cX3_isCollection 6 = .ok (.if_icmp .ne 7, 3) := by decide +kernel
theorem dX3_isCollection_9 : decode cX3_isCollection 9 = .ok (.iconst 1, 1) := by decide +kernel
theorem dX3_isCollection_10 : decode cX3_isCollection 10 = .ok (.goto 4, 3) := by decide +kernel
theorem dX3_isCollection_13 : decode cX3_isCollection 13 = .ok (.iconst 0, 1) := by decide +kernel
theorem dX3_isCollection_14 : decode cX3_isCollection 14 = .ok (.ireturn, 1) := by decide +kernel
theorem dX3_append_0 : decode cX3_append 0 = .ok (.aload_n 0, 1) := by decide +kernel
theorem dX3_append_1 : decode cX3_append 1 = .ok (.getfield 18, 3) := by decide +kernel
theorem dX3_append_4 : decode cX3_append 4 = .ok (.aload_n 0, 1) := by decide +kernel
theorem dX3_append_5 : decode cX3_append 5 = .ok (.getfield 11, 3) := by decide +kernel
theorem dX3_append_8 : decode cX3_append 8 = .ok (.arraylength, 1) := by decide +kernel
theorem dX3_append_9 : decode cX3_append 9 = .ok (.if_icmp .lt 4, 3) := by decide +kernel
theorem dX3_append_12 : decode cX3_append 12 = .ok (.return_, 1) := by decide +kernel
theorem dX3_append_13 : decode cX3_append 13 = .ok (.aload_n 0, 1) := by decide +kernel
theorem dX3_append_14 : decode cX3_append 14 = .ok (.getfield 11, 3) := by decide +kernel
theorem dX3_append_17 : decode cX3_append 17 = .ok (.aload_n 0, 1) := by decide +kernel
theorem dX3_append_18 : decode cX3_append 18 = .ok (.getfield 18, 3) := by decide +kernel
theorem dX3_append_21 : decode cX3_append 21 = .ok (.aaload, 1) := by decide +kernel
theorem dX3_append_22 : decode cX3_append 22 = .ok (.iload_n 1, 1) := by decide +kernel
theorem dX3_append_23 : decode cX3_append 23 = .ok (.iload_n 2, 1) := by decide +kernel
theorem dX3_append_24 : decode cX3_append 24 = .ok (.iload_n 3, 1) := by decide +kernel
theorem dX3_append_25 : decode cX3_append 25 = .ok (.invokevirtual 43, 3) := by decide +kernel
theorem dX3_append_28 : decode cX3_append 28 = .ok (.aload_n 0, 1) := by decide +kernel
theorem dX3_append_29 : decode cX3_append 29 = .ok (.dup, 1) := by decide +kernel
theorem dX3_append_30 : decode cX3_append 30 = .ok (.getfield 18, 3) := by decide +kernel
theorem dX3_append_33 : decode cX3_append 33 = .ok (.iconst 1, 1) := by decide +kernel
theorem dX3_append_34 : decode cX3_append 34 = .ok (.iadd, 1) := by decide +kernel
theorem dX3_append_35 : decode cX3_append 35 = .ok (.putfield 18, 3) := by decide +kernel
theorem dX3_append_38 : decode cX3_append 38 = .ok (.return_, 1) := by decide +kernel
theorem dX3_treeSize_0 : decode cX3_treeSize 0 = .ok (.iconst 0, 1) := by decide +kernel
theorem dX3_treeSize_1 : decode cX3_treeSize 1 = .ok (.istore_n 2, 1) := by decide +kernel
theorem dX3_treeSize_2 : decode cX3_treeSize 2 = .ok (.iconst 0, 1) := by decide +kernel
theorem dX3_treeSize_3 : decode cX3_treeSize 3 = .ok (.istore_n 3, 1) := by decide +kernel
theorem dX3_treeSize_4 : decode cX3_treeSize 4 = .ok (.iload_n 3, 1) := by decide +kernel
theorem dX3_treeSize_5 : decode cX3_treeSize 5 = .ok (.aload_n 0, 1) := by decide +kernel
theorem dX3_treeSize_6 : decode cX3_treeSize 6 = .ok (.getfield 18, 3) := by decide +kernel
theorem dX3_treeSize_9 : decode cX3_treeSize 9 = .ok (.if_icmp .ge 37, 3) := by decide +kernel
theorem dX3_treeSize_12 : decode cX3_treeSize 12 = .ok (.iload_n 3, 1) := by decide +kernel
theorem dX3_treeSize_13 : decode cX3_treeSize 13 = .ok (.aload_n 0, 1) := by decide +kernel
theorem dX3_treeSize_14 : decode cX3_treeSize 14 = .ok (.getfield 11, 3) := by decide +kernel
theorem dX3_treeSize_17 : decode cX3_treeSize 17 = .ok (.arraylength, 1) := by decide +kernel
theorem dX3_treeSize_18 : decode cX3_treeSize 18 = .ok (.if_icmp .ge 28, 3) := by decide +kernel
theorem dX3_treeSize_21 : decode cX3_treeSize 21 = .ok (.iload_n 1, 1) := by decide +kernel
theorem dX3_treeSize_22 : decode cX3_treeSize 22 = .ok (.aload_n 0, 1) := by decide +kernel
theorem dX3_treeSize_23 : decode cX3_treeSize 23 = .ok (.getfield 11, 3) := by decide +kernel
theorem dX3_treeSize_26 : decode cX3_treeSize 26 = .ok (.iload_n 3, 1) := by decide +kernel
theorem dX3_treeSize_27 : decode cX3_treeSize 27 = .ok (.aaload, 1) := by decide +kernel
theorem dX3_treeSize_28 : decode cX3_treeSize 28 = .ok (.getfield 22, 3) := by decide +kernel
theorem dX3_treeSize_31 : decode cX3_treeSize 31 = .ok (.invokestatic 47, 3) := by decide +kernel
theorem dX3_treeSize_34 : decode cX3_treeSize 34 = .ok (.ifCond .eq 6, 3) := by decide +kernel
theorem dX3_treeSize_37 : decode cX3_treeSize 37 = .ok (.iinc 2 1, 3) := by decide +kernel
theorem dX3_treeSize_40 : decode cX3_treeSize 40 = .ok (.iinc 3 1, 3) := by decide +kernel
theorem dX3_treeSize_43 : decode cX3_treeSize 43 = .ok (.goto (-39), 3) := by decide +kernel
theorem dX3_treeSize_46 : decode cX3_treeSize 46 = .ok (.iload_n 2, 1) := by decide +kernel
theorem dX3_treeSize_47 : decode cX3_treeSize 47 = .ok (.ireturn, 1) := by decide +kernel
theorem dX3_fits_0 : decode cX3_fits 0 = .ok (.iconst 0, 1) := by decide +kernel
theorem dX3_fits_1 : decode cX3_fits 1 = .ok (.istore_n 3, 1) := by decide +kernel
theorem dX3_fits_2 : decode cX3_fits 2 = .ok (.iload_n 3, 1) := by decide +kernel
theorem dX3_fits_3 : decode cX3_fits 3 = .ok (.aload_n 0, 1) := by decide +kernel
theorem dX3_fits_4 : decode cX3_fits 4 = .ok (.getfield 18, 3) := by decide +kernel
theorem dX3_fits_7 : decode cX3_fits 7 = .ok (.if_icmp .ge 56, 3) := by decide +kernel
theorem dX3_fits_10 : decode cX3_fits 10 = .ok (.iload_n 3, 1) := by decide +kernel
theorem dX3_fits_11 : decode cX3_fits 11 = .ok (.aload_n 0, 1) := by decide +kernel
theorem dX3_fits_12 : decode cX3_fits 12 = .ok (.getfield 11, 3) := by decide +kernel
theorem dX3_fits_15 : decode cX3_fits 15 = .ok (.arraylength, 1) := by decide +kernel
theorem dX3_fits_16 : decode cX3_fits 16 = .ok (.if_icmp .ge 47, 3) := by decide +kernel
theorem dX3_fits_19 : decode cX3_fits 19 = .ok (.iload_n 1, 1) := by decide +kernel
theorem dX3_fits_20 : decode cX3_fits 20 = .ok (.aload_n 0, 1) := by decide +kernel
theorem dX3_fits_21 : decode cX3_fits 21 = .ok (.getfield 11, 3) := by decide +kernel
theorem dX3_fits_24 : decode cX3_fits 24 = .ok (.iload_n 3, 1) := by decide +kernel
theorem dX3_fits_25 : decode cX3_fits 25 = .ok (.aaload, 1) := by decide +kernel
theorem dX3_fits_26 : decode cX3_fits 26 = .ok (.getfield 22, 3) := by decide +kernel
theorem dX3_fits_29 : decode cX3_fits 29 = .ok (.invokestatic 47, 3) := by decide +kernel
theorem dX3_fits_32 : decode cX3_fits 32 = .ok (.ifCond .eq 25, 3) := by decide +kernel
theorem dX3_fits_35 : decode cX3_fits 35 = .ok (.aload_n 0, 1) := by decide +kernel
theorem dX3_fits_36 : decode cX3_fits 36 = .ok (.getfield 11, 3) := by decide +kernel
theorem dX3_fits_39 : decode cX3_fits 39 = .ok (.iload_n 3, 1) := by decide +kernel
theorem dX3_fits_40 : decode cX3_fits 40 = .ok (.aaload, 1) := by decide +kernel
theorem dX3_fits_41 : decode cX3_fits 41 = .ok (.getfield 22, 3) := by decide +kernel
theorem dX3_fits_44 : decode cX3_fits 44 = .ok (.iload_n 1, 1) := by decide +kernel
theorem dX3_fits_45 : decode cX3_fits 45 = .ok (.iload_n 2, 1) := by decide +kernel
theorem dX3_fits_46 : decode cX3_fits 46 = .ok (.invokestatic 51, 3) := by decide +kernel
theorem dX3_fits_49 : decode cX3_fits 49 = .ok (.sipush 9999, 3) := by decide +kernel
theorem dX3_fits_52 : decode cX3_fits 52 = .ok (.if_icmp .le 5, 3) := by decide +kernel
theorem dX3_fits_55 : decode cX3_fits 55 = .ok (.iconst 0, 1) := by decide +kernel
theorem dX3_fits_56 : decode cX3_fits 56 = .ok (.ireturn, 1) := by decide +kernel
theorem dX3_fits_57 : decode cX3_fits 57 = .ok (.iinc 3 1, 3) := by decide +kernel
theorem dX3_fits_60 : decode cX3_fits 60 = .ok (.goto (-58), 3) := by decide +kernel
theorem dX3_fits_63 : decode cX3_fits 63 = .ok (.iconst 1, 1) := by decide +kernel
theorem dX3_fits_64 : decode cX3_fits 64 = .ok (.ireturn, 1) := by decide +kernel
theorem dX3_appendCopyOfTree_0 : decode cX3_appendCopyOfTree 0 = .ok (.aload_n 0, 1) := by decide +kernel
theorem dX3_appendCopyOfTree_1 : decode cX3_appendCopyOfTree 1 = .ok (.getfield 18, 3) := by decide +kernel
theorem dX3_appendCopyOfTree_4 : decode cX3_appendCopyOfTree 4 = .ok (.istore_n 3, 1) := by decide +kernel
theorem dX3_appendCopyOfTree_5 : decode cX3_appendCopyOfTree 5 = .ok (.iconst 0, 1) := by decide +kernel
theorem dX3_appendCopyOfTree_6 : decode cX3_appendCopyOfTree 6 = .ok (.istore 4, 2) := by decide +kernel
theorem dX3_appendCopyOfTree_8 : decode cX3_appendCopyOfTree 8 = .ok (.iload 4, 2) := by decide +kernel
theorem dX3_appendCopyOfTree_10 : decode cX3_appendCopyOfTree 10 = .ok (.iload_n 3, 1) := by decide +kernel
theorem dX3_appendCopyOfTree_11 : decode cX3_appendCopyOfTree 11 = .ok (.if_icmp .ge 64, 3) := by decide +kernel
theorem dX3_appendCopyOfTree_14 : decode cX3_appendCopyOfTree 14 = .ok (.iload 4, 2) := by decide +kernel
theorem dX3_appendCopyOfTree_16 : decode cX3_appendCopyOfTree 16 = .ok (.aload_n 0, 1) := by decide +kernel
theorem dX3_appendCopyOfTree_17 : decode cX3_appendCopyOfTree 17 = .ok (.getfield 11, 3) := by decide +kernel
theorem dX3_appendCopyOfTree_20 : decode cX3_appendCopyOfTree 20 = .ok (.arraylength, 1) := by decide +kernel
theorem dX3_appendCopyOfTree_21 : decode cX3_appendCopyOfTree 21 = .ok (.if_icmp .ge 54, 3) := by decide +kernel
theorem dX3_appendCopyOfTree_24 : decode cX3_appendCopyOfTree 24 = .ok (.aload_n 0, 1) := by decide +kernel
theorem dX3_appendCopyOfTree_25 : decode cX3_appendCopyOfTree 25 = .ok (.getfield 11, 3) := by decide +kernel
theorem dX3_appendCopyOfTree_28 : decode cX3_appendCopyOfTree 28 = .ok (.iload 4, 2) := by decide +kernel
theorem dX3_appendCopyOfTree_30 : decode cX3_appendCopyOfTree 30 = .ok (.aaload, 1) := by decide +kernel
theorem dX3_appendCopyOfTree_31 : decode cX3_appendCopyOfTree 31 = .ok (.astore 5, 2) := by decide +kernel
theorem dX3_appendCopyOfTree_33 : decode cX3_appendCopyOfTree 33 = .ok (.iload_n 1, 1) := by decide +kernel
theorem dX3_appendCopyOfTree_34 : decode cX3_appendCopyOfTree 34 = .ok (.aload 5, 2) := by decide +kernel
theorem dX3_appendCopyOfTree_36 : decode cX3_appendCopyOfTree 36 = .ok (.getfield 22, 3) := by decide +kernel
theorem dX3_appendCopyOfTree_39 : decode cX3_appendCopyOfTree 39 = .ok (.invokestatic 47, 3) := by decide +kernel
theorem dX3_appendCopyOfTree_42 : decode cX3_appendCopyOfTree 42 = .ok (.ifCond .eq 27, 3) := by decide +kernel
theorem dX3_appendCopyOfTree_45 : decode cX3_appendCopyOfTree 45 = .ok (.aload_n 0, 1) := by decide +kernel
theorem dX3_appendCopyOfTree_46 : decode cX3_appendCopyOfTree 46 = .ok (.aload 5, 2) := by decide +kernel
theorem dX3_appendCopyOfTree_48 : decode cX3_appendCopyOfTree 48 = .ok (.getfield 22, 3) := by decide +kernel
theorem dX3_appendCopyOfTree_51 : decode cX3_appendCopyOfTree 51 = .ok (.iload_n 1, 1) := by decide +kernel
theorem dX3_appendCopyOfTree_52 : decode cX3_appendCopyOfTree 52 = .ok (.iload_n 2, 1) := by decide +kernel
theorem dX3_appendCopyOfTree_53 : decode cX3_appendCopyOfTree 53 = .ok (.invokestatic 51, 3) := by decide +kernel
theorem dX3_appendCopyOfTree_56 : decode cX3_appendCopyOfTree 56 = .ok (.aload 5, 2) := by decide +kernel
theorem dX3_appendCopyOfTree_58 : decode cX3_appendCopyOfTree 58 = .ok (.getfield 37, 3) := by decide +kernel
theorem dX3_appendCopyOfTree_61 : decode cX3_appendCopyOfTree 61 = .ok (.aload 5, 2) := by decide +kernel
theorem dX3_appendCopyOfTree_63 : decode cX3_appendCopyOfTree 63 = .ok (.getfield 55, 3) := by decide +kernel
theorem dX3_appendCopyOfTree_66 : decode cX3_appendCopyOfTree 66 = .ok (.invokevirtual 58, 3) := by decide +kernel
theorem dX3_appendCopyOfTree_69 : decode cX3_appendCopyOfTree 69 = .ok (.iinc 4 1, 3) := by decide +kernel
theorem dX3_appendCopyOfTree_72 : decode cX3_appendCopyOfTree 72 = .ok (.goto (-64), 3) := by decide +kernel
theorem dX3_appendCopyOfTree_75 : decode cX3_appendCopyOfTree 75 = .ok (.return_, 1) := by decide +kernel
theorem dX3_renameTree_0 : decode cX3_renameTree 0 = .ok (.iconst 0, 1) := by decide +kernel
theorem dX3_renameTree_1 : decode cX3_renameTree 1 = .ok (.istore_n 3, 1) := by decide +kernel
theorem dX3_renameTree_2 : decode cX3_renameTree 2 = .ok (.iload_n 3, 1) := by decide +kernel
theorem dX3_renameTree_3 : decode cX3_renameTree 3 = .ok (.aload_n 0, 1) := by decide +kernel
theorem dX3_renameTree_4 : decode cX3_renameTree 4 = .ok (.getfield 18, 3) := by decide +kernel
theorem dX3_renameTree_7 : decode cX3_renameTree 7 = .ok (.if_icmp .ge 57, 3) := by decide +kernel
theorem dX3_renameTree_10 : decode cX3_renameTree 10 = .ok (.iload_n 3, 1) := by decide +kernel
theorem dX3_renameTree_11 : decode cX3_renameTree 11 = .ok (.aload_n 0, 1) := by decide +kernel
theorem dX3_renameTree_12 : decode cX3_renameTree 12 = .ok (.getfield 11, 3) := by decide +kernel
theorem dX3_renameTree_15 : decode cX3_renameTree 15 = .ok (.arraylength, 1) := by decide +kernel
theorem dX3_renameTree_16 : decode cX3_renameTree 16 = .ok (.if_icmp .ge 48, 3) := by decide +kernel
theorem dX3_renameTree_19 : decode cX3_renameTree 19 = .ok (.iload_n 1, 1) := by decide +kernel
theorem dX3_renameTree_20 : decode cX3_renameTree 20 = .ok (.aload_n 0, 1) := by decide +kernel
theorem dX3_renameTree_21 : decode cX3_renameTree 21 = .ok (.getfield 11, 3) := by decide +kernel
theorem dX3_renameTree_24 : decode cX3_renameTree 24 = .ok (.iload_n 3, 1) := by decide +kernel
theorem dX3_renameTree_25 : decode cX3_renameTree 25 = .ok (.aaload, 1) := by decide +kernel
theorem dX3_renameTree_26 : decode cX3_renameTree 26 = .ok (.getfield 22, 3) := by decide +kernel
theorem dX3_renameTree_29 : decode cX3_renameTree 29 = .ok (.invokestatic 47, 3) := by decide +kernel
theorem dX3_renameTree_32 : decode cX3_renameTree 32 = .ok (.ifCond .eq 26, 3) := by decide +kernel
theorem dX3_renameTree_35 : decode cX3_renameTree 35 = .ok (.aload_n 0, 1) := by decide +kernel
theorem dX3_renameTree_36 : decode cX3_renameTree 36 = .ok (.getfield 11, 3) := by decide +kernel
theorem dX3_renameTree_39 : decode cX3_renameTree 39 = .ok (.iload_n 3, 1) := by decide +kernel
theorem dX3_renameTree_40 : decode cX3_renameTree 40 = .ok (.aaload, 1) := by decide +kernel
theorem dX3_renameTree_41 : decode cX3_renameTree 41 = .ok (.aload_n 0, 1) := by decide +kernel
theorem dX3_renameTree_42 : decode cX3_renameTree 42 = .ok (.getfield 11, 3) := by decide +kernel
theorem dX3_renameTree_45 : decode cX3_renameTree 45 = .ok (.iload_n 3, 1) := by decide +kernel
theorem dX3_renameTree_46 : decode cX3_renameTree 46 = .ok (.aaload, 1) := by decide +kernel
theorem dX3_renameTree_47 : decode cX3_renameTree 47 = .ok (.getfield 22, 3) := by decide +kernel
theorem dX3_renameTree_50 : decode cX3_renameTree 50 = .ok (.iload_n 1, 1) := by decide +kernel
theorem dX3_renameTree_51 : decode cX3_renameTree 51 = .ok (.iload_n 2, 1) := by decide +kernel
theorem dX3_renameTree_52 : decode cX3_renameTree 52 = .ok (.invokestatic 51, 3) := by decide +kernel
theorem dX3_renameTree_55 : decode cX3_renameTree 55 = .ok (.putfield 22, 3) := by decide +kernel
theorem dX3_renameTree_58 : decode cX3_renameTree 58 = .ok (.iinc 3 1, 3) := by decide +kernel
theorem dX3_renameTree_61 : decode cX3_renameTree 61 = .ok (.goto (-59), 3) := by decide +kernel
theorem dX3_renameTree_64 : decode cX3_renameTree 64 = .ok (.aload_n 0, 1) := by decide +kernel
theorem dX3_renameTree_65 : decode cX3_renameTree 65 = .ok (.iload_n 2, 1) := by decide +kernel
theorem dX3_renameTree_66 : decode cX3_renameTree 66 = .ok (.aload_n 0, 1) := by decide +kernel
theorem dX3_renameTree_67 : decode cX3_renameTree 67 = .ok (.getfield 18, 3) := by decide +kernel
theorem dX3_renameTree_70 : decode cX3_renameTree 70 = .ok (.invokevirtual 61, 3) := by decide +kernel
theorem dX3_renameTree_73 : decode cX3_renameTree 73 = .ok (.return_, 1) := by decide +kernel
theorem dX3_markTree_0 : decode cX3_markTree 0 = .ok (.iconst 0, 1) := by decide +kernel
theorem dX3_markTree_1 : decode cX3_markTree 1 = .ok (.istore_n 2, 1) := by decide +kernel
theorem dX3_markTree_2 : decode cX3_markTree 2 = .ok (.iload_n 2, 1) := by decide +kernel
theorem dX3_markTree_3 : decode cX3_markTree 3 = .ok (.aload_n 0, 1) := by decide +kernel
theorem dX3_markTree_4 : decode cX3_markTree 4 = .ok (.getfield 18, 3) := by decide +kernel
theorem dX3_markTree_7 : decode cX3_markTree 7 = .ok (.if_icmp .ge 40, 3) := by decide +kernel
theorem dX3_markTree_10 : decode cX3_markTree 10 = .ok (.iload_n 2, 1) := by decide +kernel
theorem dX3_markTree_11 : decode cX3_markTree 11 = .ok (.aload_n 0, 1) := by decide +kernel
theorem dX3_markTree_12 : decode cX3_markTree 12 = .ok (.getfield 11, 3) := by decide +kernel
theorem dX3_markTree_15 : decode cX3_markTree 15 = .ok (.arraylength, 1) := by decide +kernel
theorem dX3_markTree_16 : decode cX3_markTree 16 = .ok (.if_icmp .ge 31, 3) := by decide +kernel
theorem dX3_markTree_19 : decode cX3_markTree 19 = .ok (.aload_n 0, 1) := by decide +kernel
theorem dX3_markTree_20 : decode cX3_markTree 20 = .ok (.getfield 11, 3) := by decide +kernel
theorem dX3_markTree_23 : decode cX3_markTree 23 = .ok (.iload_n 2, 1) := by decide +kernel
theorem dX3_markTree_24 : decode cX3_markTree 24 = .ok (.aaload, 1) := by decide +kernel
theorem dX3_markTree_25 : decode cX3_markTree 25 = .ok (.iload_n 1, 1) := by decide +kernel
theorem dX3_markTree_26 : decode cX3_markTree 26 = .ok (.aload_n 0, 1) := by decide +kernel
theorem dX3_markTree_27 : decode cX3_markTree 27 = .ok (.getfield 11, 3) := by decide +kernel
theorem dX3_markTree_30 : decode cX3_markTree 30 = .ok (.iload_n 2, 1) := by decide +kernel
theorem dX3_markTree_31 : decode cX3_markTree 31 = .ok (.aaload, 1) := by decide +kernel
theorem dX3_markTree_32 : decode cX3_markTree 32 = .ok (.getfield 22, 3) := by decide +kernel
theorem dX3_markTree_35 : decode cX3_markTree 35 = .ok (.invokestatic 47, 3) := by decide +kernel
theorem dX3_markTree_38 : decode cX3_markTree 38 = .ok (.putfield 29, 3) := by decide +kernel
theorem dX3_markTree_41 : decode cX3_markTree 41 = .ok (.iinc 2 1, 3) := by decide +kernel
theorem dX3_markTree_44 : decode cX3_markTree 44 = .ok (.goto (-42), 3) := by decide +kernel
theorem dX3_markTree_47 : decode cX3_markTree 47 = .ok (.return_, 1) := by decide +kernel
theorem dX3_spareUpFrom_0 : decode cX3_spareUpFrom 0 = .ok (.iconst 0, 1) := by decide +kernel
theorem dX3_spareUpFrom_1 : decode cX3_spareUpFrom 1 = .ok (.istore_n 2, 1) := by decide +kernel
theorem dX3_spareUpFrom_2 : decode cX3_spareUpFrom 2 = .ok (.iload_n 2, 1) := by decide +kernel
theorem dX3_spareUpFrom_3 : decode cX3_spareUpFrom 3 = .ok (.aload_n 0, 1) := by decide +kernel
theorem dX3_spareUpFrom_4 : decode cX3_spareUpFrom 4 = .ok (.getfield 18, 3) := by decide +kernel
theorem dX3_spareUpFrom_7 : decode cX3_spareUpFrom 7 = .ok (.if_icmp .ge 44, 3) := by decide +kernel
theorem dX3_spareUpFrom_10 : decode cX3_spareUpFrom 10 = .ok (.iload_n 2, 1) := by decide +kernel
theorem dX3_spareUpFrom_11 : decode cX3_spareUpFrom 11 = .ok (.aload_n 0, 1) := by decide +kernel
theorem dX3_spareUpFrom_12 : decode cX3_spareUpFrom 12 = .ok (.getfield 11, 3) := by decide +kernel
theorem dX3_spareUpFrom_15 : decode cX3_spareUpFrom 15 = .ok (.arraylength, 1) := by decide +kernel
theorem dX3_spareUpFrom_16 : decode cX3_spareUpFrom 16 = .ok (.if_icmp .ge 35, 3) := by decide +kernel
theorem dX3_spareUpFrom_19 : decode cX3_spareUpFrom 19 = .ok (.aload_n 0, 1) := by decide +kernel
theorem dX3_spareUpFrom_20 : decode cX3_spareUpFrom 20 = .ok (.getfield 11, 3) := by decide +kernel
theorem dX3_spareUpFrom_23 : decode cX3_spareUpFrom 23 = .ok (.iload_n 2, 1) := by decide +kernel
theorem dX3_spareUpFrom_24 : decode cX3_spareUpFrom 24 = .ok (.aaload, 1) := by decide +kernel
theorem dX3_spareUpFrom_25 : decode cX3_spareUpFrom 25 = .ok (.getfield 22, 3) := by decide +kernel
theorem dX3_spareUpFrom_28 : decode cX3_spareUpFrom 28 = .ok (.iload_n 1, 1) := by decide +kernel
theorem dX3_spareUpFrom_29 : decode cX3_spareUpFrom 29 = .ok (.invokestatic 47, 3) := by decide +kernel
theorem dX3_spareUpFrom_32 : decode cX3_spareUpFrom 32 = .ok (.ifCond .eq 13, 3) := by decide +kernel
theorem dX3_spareUpFrom_35 : decode cX3_spareUpFrom 35 = .ok (.aload_n 0, 1) := by decide +kernel
theorem dX3_spareUpFrom_36 : decode cX3_spareUpFrom 36 = .ok (.getfield 11, 3) := by decide +kernel
theorem dX3_spareUpFrom_39 : decode cX3_spareUpFrom 39 = .ok (.iload_n 2, 1) := by decide +kernel
theorem dX3_spareUpFrom_40 : decode cX3_spareUpFrom 40 = .ok (.aaload, 1) := by decide +kernel
theorem dX3_spareUpFrom_41 : decode cX3_spareUpFrom 41 = .ok (.iconst 0, 1) := by decide +kernel
theorem dX3_spareUpFrom_42 : decode cX3_spareUpFrom 42 = .ok (.putfield 29, 3) := by decide +kernel
theorem dX3_spareUpFrom_45 : decode cX3_spareUpFrom 45 = .ok (.iinc 2 1, 3) := by decide +kernel
theorem dX3_spareUpFrom_48 : decode cX3_spareUpFrom 48 = .ok (.goto (-46), 3) := by decide +kernel
theorem dX3_spareUpFrom_51 : decode cX3_spareUpFrom 51 = .ok (.return_, 1) := by decide +kernel
theorem dX3_removeMarked_0 : decode cX3_removeMarked 0 = .ok (.iconst 0, 1) := by decide +kernel
theorem dX3_removeMarked_1 : decode cX3_removeMarked 1 = .ok (.istore_n 1, 1) := by decide +kernel
theorem dX3_removeMarked_2 : decode cX3_removeMarked 2 = .ok (.iconst 0, 1) := by decide +kernel
theorem dX3_removeMarked_3 : decode cX3_removeMarked 3 = .ok (.istore_n 2, 1) := by decide +kernel
theorem dX3_removeMarked_4 : decode cX3_removeMarked 4 = .ok (.iload_n 2, 1) := by decide +kernel
theorem dX3_removeMarked_5 : decode cX3_removeMarked 5 = .ok (.aload_n 0, 1) := by decide +kernel
theorem dX3_removeMarked_6 : decode cX3_removeMarked 6 = .ok (.getfield 18, 3) := by decide +kernel
theorem dX3_removeMarked_9 : decode cX3_removeMarked 9 = .ok (.if_icmp .ge 54, 3) := by decide +kernel
theorem dX3_removeMarked_12 : decode cX3_removeMarked 12 = .ok (.iload_n 2, 1) := by decide +kernel
theorem dX3_removeMarked_13 : decode cX3_removeMarked 13 = .ok (.aload_n 0, 1) := by decide +kernel
theorem dX3_removeMarked_14 : decode cX3_removeMarked 14 = .ok (.getfield 11, 3) := by decide +kernel
theorem dX3_removeMarked_17 : decode cX3_removeMarked 17 = .ok (.arraylength, 1) := by decide +kernel
theorem dX3_removeMarked_18 : decode cX3_removeMarked 18 = .ok (.if_icmp .ge 45, 3) := by decide +kernel
theorem dX3_removeMarked_21 : decode cX3_removeMarked 21 = .ok (.aload_n 0, 1) := by decide +kernel
theorem dX3_removeMarked_22 : decode cX3_removeMarked 22 = .ok (.getfield 11, 3) := by decide +kernel
theorem dX3_removeMarked_25 : decode cX3_removeMarked 25 = .ok (.iload_n 2, 1) := by decide +kernel
theorem dX3_removeMarked_26 : decode cX3_removeMarked 26 = .ok (.aaload, 1) := by decide +kernel
theorem dX3_removeMarked_27 : decode cX3_removeMarked 27 = .ok (.astore_n 3, 1) := by decide +kernel
theorem dX3_removeMarked_28 : decode cX3_removeMarked 28 = .ok (.aload_n 3, 1) := by decide +kernel
theorem dX3_removeMarked_29 : decode cX3_removeMarked 29 = .ok (.getfield 29, 3) := by decide +kernel
theorem dX3_removeMarked_32 : decode cX3_removeMarked 32 = .ok (.ifCond .ne 25, 3) := by decide +kernel
theorem dX3_removeMarked_35 : decode cX3_removeMarked 35 = .ok (.aload_n 0, 1) := by decide +kernel
theorem dX3_removeMarked_36 : decode cX3_removeMarked 36 = .ok (.getfield 11, 3) := by decide +kernel
theorem dX3_removeMarked_39 : decode cX3_removeMarked 39 = .ok (.iload_n 2, 1) := by decide +kernel
theorem dX3_removeMarked_40 : decode cX3_removeMarked 40 = .ok (.aload_n 0, 1) := by decide +kernel
theorem dX3_removeMarked_41 : decode cX3_removeMarked 41 = .ok (.getfield 11, 3) := by decide +kernel
theorem dX3_removeMarked_44 : decode cX3_removeMarked 44 = .ok (.iload_n 1, 1) := by decide +kernel
theorem dX3_removeMarked_45 : decode cX3_removeMarked 45 = .ok (.aaload, 1) := by decide +kernel
theorem dX3_removeMarked_46 : decode cX3_removeMarked 46 = .ok (.aastore, 1) := by decide +kernel
theorem dX3_removeMarked_47 : decode cX3_removeMarked 47 = .ok (.aload_n 0, 1) := by decide +kernel
theorem dX3_removeMarked_48 : decode cX3_removeMarked 48 = .ok (.getfield 11, 3) := by decide +kernel
theorem dX3_removeMarked_51 : decode cX3_removeMarked 51 = .ok (.iload_n 1, 1) := by decide +kernel
theorem dX3_removeMarked_52 : decode cX3_removeMarked 52 = .ok (.aload_n 3, 1) := by decide +kernel
theorem dX3_removeMarked_53 : decode cX3_removeMarked 53 = .ok (.aastore, 1) := by decide +kernel
theorem dX3_removeMarked_54 : decode cX3_removeMarked 54 = .ok (.iinc 1 1, 3) := by decide +kernel
theorem dX3_removeMarked_57 : decode cX3_removeMarked 57 = .ok (.iinc 2 1, 3) := by decide +kernel
theorem dX3_removeMarked_60 : decode cX3_removeMarked 60 = .ok (.goto (-56), 3) := by decide +kernel
theorem dX3_removeMarked_63 : decode cX3_removeMarked 63 = .ok (.aload_n 0, 1) := by decide +kernel
theorem dX3_removeMarked_64 : decode cX3_removeMarked 64 = .ok (.iload_n 1, 1) := by decide +kernel
theorem dX3_removeMarked_65 : decode cX3_removeMarked 65 = .ok (.putfield 18, 3) := by decide +kernel
theorem dX3_removeMarked_68 : decode cX3_removeMarked 68 = .ok (.return_, 1) := by decide +kernel
theorem dX3_memberCount_0 : decode cX3_memberCount 0 = .ok (.iconst 0, 1) := by decide +kernel
theorem dX3_memberCount_1 : decode cX3_memberCount 1 = .ok (.istore_n 2, 1) := by decide +kernel
theorem dX3_memberCount_2 : decode cX3_memberCount 2 = .ok (.iconst 0, 1) := by decide +kernel
theorem dX3_memberCount_3 : decode cX3_memberCount 3 = .ok (.istore_n 3, 1) := by decide +kernel
theorem dX3_memberCount_4 : decode cX3_memberCount 4 = .ok (.iload_n 3, 1) := by decide +kernel
theorem dX3_memberCount_5 : decode cX3_memberCount 5 = .ok (.aload_n 0, 1) := by decide +kernel
theorem dX3_memberCount_6 : decode cX3_memberCount 6 = .ok (.getfield 18, 3) := by decide +kernel
theorem dX3_memberCount_9 : decode cX3_memberCount 9 = .ok (.if_icmp .ge 37, 3) := by decide +kernel
theorem dX3_memberCount_12 : decode cX3_memberCount 12 = .ok (.iload_n 3, 1) := by decide +kernel
theorem dX3_memberCount_13 : decode cX3_memberCount 13 = .ok (.aload_n 0, 1) := by decide +kernel
theorem dX3_memberCount_14 : decode cX3_memberCount 14 = .ok (.getfield 11, 3) := by decide +kernel
theorem dX3_memberCount_17 : decode cX3_memberCount 17 = .ok (.arraylength, 1) := by decide +kernel
theorem dX3_memberCount_18 : decode cX3_memberCount 18 = .ok (.if_icmp .ge 28, 3) := by decide +kernel
theorem dX3_memberCount_21 : decode cX3_memberCount 21 = .ok (.aload_n 0, 1) := by decide +kernel
theorem dX3_memberCount_22 : decode cX3_memberCount 22 = .ok (.getfield 11, 3) := by decide +kernel
theorem dX3_memberCount_25 : decode cX3_memberCount 25 = .ok (.iload_n 3, 1) := by decide +kernel
theorem dX3_memberCount_26 : decode cX3_memberCount 26 = .ok (.aaload, 1) := by decide +kernel
theorem dX3_memberCount_27 : decode cX3_memberCount 27 = .ok (.getfield 22, 3) := by decide +kernel
theorem dX3_memberCount_30 : decode cX3_memberCount 30 = .ok (.invokestatic 65, 3) := by decide +kernel
theorem dX3_memberCount_33 : decode cX3_memberCount 33 = .ok (.iload_n 1, 1) := by decide +kernel
theorem dX3_memberCount_34 : decode cX3_memberCount 34 = .ok (.if_icmp .ne 6, 3) := by decide +kernel
theorem dX3_memberCount_37 : decode cX3_memberCount 37 = .ok (.iinc 2 1, 3) := by decide +kernel
theorem dX3_memberCount_40 : decode cX3_memberCount 40 = .ok (.iinc 3 1, 3) := by decide +kernel
theorem dX3_memberCount_43 : decode cX3_memberCount 43 = .ok (.goto (-39), 3) := by decide +kernel
theorem dX3_memberCount_46 : decode cX3_memberCount 46 = .ok (.iload_n 2, 1) := by decide +kernel
theorem dX3_memberCount_47 : decode cX3_memberCount 47 = .ok (.ireturn, 1) := by decide +kernel
theorem dX3_memberIndex_0 : decode cX3_memberIndex 0 = .ok (.iconst 0, 1) := by decide +kernel
theorem dX3_memberIndex_1 : decode cX3_memberIndex 1 = .ok (.istore_n 3, 1) := by decide +kernel
theorem dX3_memberIndex_2 : decode cX3_memberIndex 2 = .ok (.iconst 0, 1) := by decide +kernel
theorem dX3_memberIndex_3 : decode cX3_memberIndex 3 = .ok (.istore 4, 2) := by decide +kernel
theorem dX3_memberIndex_5 : decode cX3_memberIndex 5 = .ok (.iload 4, 2) := by decide +kernel
theorem dX3_memberIndex_7 : decode cX3_memberIndex 7 = .ok (.aload_n 0, 1) := by decide +kernel
theorem dX3_memberIndex_8 : decode cX3_memberIndex 8 = .ok (.getfield 18, 3) := by decide +kernel
theorem dX3_memberIndex_11 : decode cX3_memberIndex 11 = .ok (.if_icmp .ge 47, 3) := by decide +kernel
theorem dX3_memberIndex_14 : decode cX3_memberIndex 14 = .ok (.iload 4, 2) := by decide +kernel
theorem dX3_memberIndex_16 : decode cX3_memberIndex 16 = .ok (.aload_n 0, 1) := by decide +kernel
theorem dX3_memberIndex_17 : decode cX3_memberIndex 17 = .ok (.getfield 11, 3) := by decide +kernel
theorem dX3_memberIndex_20 : decode cX3_memberIndex 20 = .ok (.arraylength, 1) := by decide +kernel
theorem dX3_memberIndex_21 : decode cX3_memberIndex 21 = .ok (.if_icmp .ge 37, 3) := by decide +kernel
theorem dX3_memberIndex_24 : decode cX3_memberIndex 24 = .ok (.aload_n 0, 1) := by decide +kernel
theorem dX3_memberIndex_25 : decode cX3_memberIndex 25 = .ok (.getfield 11, 3) := by decide +kernel
theorem dX3_memberIndex_28 : decode cX3_memberIndex 28 = .ok (.iload 4, 2) := by decide +kernel
theorem dX3_memberIndex_30 : decode cX3_memberIndex 30 = .ok (.aaload, 1) := by decide +kernel
theorem dX3_memberIndex_31 : decode cX3_memberIndex 31 = .ok (.getfield 22, 3) := by decide +kernel
theorem dX3_memberIndex_34 : decode cX3_memberIndex 34 = .ok (.invokestatic 65, 3) := by decide +kernel
theorem dX3_memberIndex_37 : decode cX3_memberIndex 37 = .ok (.iload_n 1, 1) := by decide +kernel
theorem dX3_memberIndex_38 : decode cX3_memberIndex 38 = .ok (.if_icmp .ne 14, 3) := by decide +kernel
theorem dX3_memberIndex_41 : decode cX3_memberIndex 41 = .ok (.iload_n 3, 1) := by decide +kernel
theorem dX3_memberIndex_42 : decode cX3_memberIndex 42 = .ok (.iload_n 2, 1) := by decide +kernel
theorem dX3_memberIndex_43 : decode cX3_memberIndex 43 = .ok (.if_icmp .ne 6, 3) := by decide +kernel
theorem dX3_memberIndex_46 : decode cX3_memberIndex 46 = .ok (.iload 4, 2) := by decide +kernel
theorem dX3_memberIndex_48 : decode cX3_memberIndex 48 = .ok (.ireturn, 1) := by decide +kernel
theorem dX3_memberIndex_49 : decode cX3_memberIndex 49 = .ok (.iinc 3 1, 3) := by decide +kernel
theorem dX3_memberIndex_52 : decode cX3_memberIndex 52 = .ok (.iinc 4 1, 3) := by decide +kernel
theorem dX3_memberIndex_55 : decode cX3_memberIndex 55 = .ok (.goto (-50), 3) := by decide +kernel
theorem dX3_memberIndex_58 : decode cX3_memberIndex 58 = .ok (.iconst (-1), 1) := by decide +kernel
theorem dX3_memberIndex_59 : decode cX3_memberIndex 59 = .ok (.ireturn, 1) := by decide +kernel
theorem dX3_placeMember_0 : decode cX3_placeMember 0 = .ok (.aload_n 0, 1) := by decide +kernel
theorem dX3_placeMember_1 : decode cX3_placeMember 1 = .ok (.iload_n 1, 1) := by decide +kernel
theorem dX3_placeMember_2 : decode cX3_placeMember 2 = .ok (.invokevirtual 25, 3) := by decide +kernel
theorem dX3_placeMember_5 : decode cX3_placeMember 5 = .ok (.istore_n 3, 1) := by decide +kernel
theorem dX3_placeMember_6 : decode cX3_placeMember 6 = .ok (.iload_n 3, 1) := by decide +kernel
theorem dX3_placeMember_7 : decode cX3_placeMember 7 = .ok (.ifCond .ge 4, 3) := by decide +kernel
theorem dX3_placeMember_10 : decode cX3_placeMember 10 = .ok (.return_, 1) := by decide +kernel
theorem dX3_placeMember_11 : decode cX3_placeMember 11 = .ok (.aload_n 0, 1) := by decide +kernel
theorem dX3_placeMember_12 : decode cX3_placeMember 12 = .ok (.iload_n 3, 1) := by decide +kernel
theorem dX3_placeMember_13 : decode cX3_placeMember 13 = .ok (.aload_n 0, 1) := by decide +kernel
theorem dX3_placeMember_14 : decode cX3_placeMember 14 = .ok (.getfield 18, 3) := by decide +kernel
theorem dX3_placeMember_17 : decode cX3_placeMember 17 = .ok (.iconst 1, 1) := by decide +kernel
theorem dX3_placeMember_18 : decode cX3_placeMember 18 = .ok (.isub, 1) := by decide +kernel
theorem dX3_placeMember_19 : decode cX3_placeMember 19 = .ok (.invokevirtual 68, 3) := by decide +kernel
theorem dX3_placeMember_22 : decode cX3_placeMember 22 = .ok (.aload_n 0, 1) := by decide +kernel
theorem dX3_placeMember_23 : decode cX3_placeMember 23 = .ok (.iload_n 1, 1) := by decide +kernel
theorem dX3_placeMember_24 : decode cX3_placeMember 24 = .ok (.invokestatic 65, 3) := by decide +kernel
theorem dX3_placeMember_27 : decode cX3_placeMember 27 = .ok (.iload_n 2, 1) := by decide +kernel
theorem dX3_placeMember_28 : decode cX3_placeMember 28 = .ok (.invokevirtual 71, 3) := by decide +kernel
theorem dX3_placeMember_31 : decode cX3_placeMember 31 = .ok (.istore 4, 2) := by decide +kernel
theorem dX3_placeMember_33 : decode cX3_placeMember 33 = .ok (.iload 4, 2) := by decide +kernel
theorem dX3_placeMember_35 : decode cX3_placeMember 35 = .ok (.ifCond .lt 15, 3) := by decide +kernel
theorem dX3_placeMember_38 : decode cX3_placeMember 38 = .ok (.aload_n 0, 1) := by decide +kernel
theorem dX3_placeMember_39 : decode cX3_placeMember 39 = .ok (.aload_n 0, 1) := by decide +kernel
theorem dX3_placeMember_40 : decode cX3_placeMember 40 = .ok (.getfield 18, 3) := by decide +kernel
theorem dX3_placeMember_43 : decode cX3_placeMember 43 = .ok (.iconst 1, 1) := by decide +kernel
theorem dX3_placeMember_44 : decode cX3_placeMember 44 = .ok (.isub, 1) := by decide +kernel
theorem dX3_placeMember_45 : decode cX3_placeMember 45 = .ok (.iload 4, 2) := by decide +kernel
theorem dX3_placeMember_47 : decode cX3_placeMember 47 = .ok (.invokevirtual 68, 3) := by decide +kernel
theorem dX3_placeMember_50 : decode cX3_placeMember 50 = .ok (.return_, 1) := by decide +kernel
theorem dX3_shift_0 : decode cX3_shift 0 = .ok (.iload_n 1, 1) := by decide +kernel
theorem dX3_shift_1 : decode cX3_shift 1 = .ok (.ifCond .lt 25, 3) := by decide +kernel
theorem dX3_shift_4 : decode cX3_shift 4 = .ok (.iload_n 1, 1) := by decide +kernel
theorem dX3_shift_5 : decode cX3_shift 5 = .ok (.aload_n 0, 1) := by decide +kernel
theorem dX3_shift_6 : decode cX3_shift 6 = .ok (.getfield 11, 3) := by decide +kernel
theorem dX3_shift_9 : decode cX3_shift 9 = .ok (.arraylength, 1) := by decide +kernel
theorem dX3_shift_10 : decode cX3_shift 10 = .ok (.if_icmp .ge 16, 3) := by decide +kernel
theorem dX3_shift_13 : decode cX3_shift 13 = .ok (.iload_n 2, 1) := by decide +kernel
theorem dX3_shift_14 : decode cX3_shift 14 = .ok (.ifCond .lt 12, 3) := by decide +kernel
theorem dX3_shift_17 : decode cX3_shift 17 = .ok (.iload_n 2, 1) := by decide +kernel
theorem dX3_shift_18 : decode cX3_shift 18 = .ok (.aload_n 0, 1) := by decide +kernel
theorem dX3_shift_19 : decode cX3_shift 19 = .ok (.getfield 11, 3) := by decide +kernel
theorem dX3_shift_22 : decode cX3_shift 22 = .ok (.arraylength, 1) := by decide +kernel
theorem dX3_shift_23 : decode cX3_shift 23 = .ok (.if_icmp .lt 4, 3) := by decide +kernel
theorem dX3_shift_26 : decode cX3_shift 26 = .ok (.return_, 1) := by decide +kernel
theorem dX3_shift_27 : decode cX3_shift 27 = .ok (.aload_n 0, 1) := by decide +kernel
theorem dX3_shift_28 : decode cX3_shift 28 = .ok (.getfield 11, 3) := by decide +kernel
theorem dX3_shift_31 : decode cX3_shift 31 = .ok (.iload_n 1, 1) := by decide +kernel
theorem dX3_shift_32 : decode cX3_shift 32 = .ok (.aaload, 1) := by decide +kernel
theorem dX3_shift_33 : decode cX3_shift 33 = .ok (.astore_n 3, 1) := by decide +kernel
theorem dX3_shift_34 : decode cX3_shift 34 = .ok (.iload_n 1, 1) := by decide +kernel
theorem dX3_shift_35 : decode cX3_shift 35 = .ok (.istore 4, 2) := by decide +kernel
theorem dX3_shift_37 : decode cX3_shift 37 = .ok (.iload 4, 2) := by decide +kernel
theorem dX3_shift_39 : decode cX3_shift 39 = .ok (.iload_n 2, 1) := by decide +kernel
theorem dX3_shift_40 : decode cX3_shift 40 = .ok (.if_icmp .ge 25, 3) := by decide +kernel
theorem dX3_shift_43 : decode cX3_shift 43 = .ok (.aload_n 0, 1) := by decide +kernel
theorem dX3_shift_44 : decode cX3_shift 44 = .ok (.getfield 11, 3) := by decide +kernel
theorem dX3_shift_47 : decode cX3_shift 47 = .ok (.iload 4, 2) := by decide +kernel
theorem dX3_shift_49 : decode cX3_shift 49 = .ok (.aload_n 0, 1) := by decide +kernel
theorem dX3_shift_50 : decode cX3_shift 50 = .ok (.getfield 11, 3) := by decide +kernel
theorem dX3_shift_53 : decode cX3_shift 53 = .ok (.iload 4, 2) := by decide +kernel
theorem dX3_shift_55 : decode cX3_shift 55 = .ok (.iconst 1, 1) := by decide +kernel
theorem dX3_shift_56 : decode cX3_shift 56 = .ok (.iadd, 1) := by decide +kernel
theorem dX3_shift_57 : decode cX3_shift 57 = .ok (.aaload, 1) := by decide +kernel
theorem dX3_shift_58 : decode cX3_shift 58 = .ok (.aastore, 1) := by decide +kernel
theorem dX3_shift_59 : decode cX3_shift 59 = .ok (.iinc 4 1, 3) := by decide +kernel
theorem dX3_shift_62 : decode cX3_shift 62 = .ok (.goto (-25), 3) := by decide +kernel
theorem dX3_shift_65 : decode cX3_shift 65 = .ok (.iload_n 1, 1) := by decide +kernel
theorem dX3_shift_66 : decode cX3_shift 66 = .ok (.istore 4, 2) := by decide +kernel
theorem dX3_shift_68 : decode cX3_shift 68 = .ok (.iload 4, 2) := by decide +kernel
theorem dX3_shift_70 : decode cX3_shift 70 = .ok (.iload_n 2, 1) := by decide +kernel
theorem dX3_shift_71 : decode cX3_shift 71 = .ok (.if_icmp .le 25, 3) := by decide +kernel
theorem dX3_shift_74 : decode cX3_shift 74 = .ok (.aload_n 0, 1) := by decide +kernel
theorem dX3_shift_75 : decode cX3_shift 75 = .ok (.getfield 11, 3) := by decide +kernel
theorem dX3_shift_78 : decode cX3_shift 78 = .ok (.iload 4, 2) := by decide +kernel
theorem dX3_shift_80 : decode cX3_shift 80 = .ok (.aload_n 0, 1) := by decide +kernel
theorem dX3_shift_81 : decode cX3_shift 81 = .ok (.getfield 11, 3) := by decide +kernel
theorem dX3_shift_84 : decode cX3_shift 84 = .ok (.iload 4, 2) := by decide +kernel
theorem dX3_shift_86 : decode cX3_shift 86 = .ok (.iconst 1, 1) := by decide +kernel
theorem dX3_shift_87 : decode cX3_shift 87 = .ok (.isub, 1) := by decide +kernel
theorem dX3_shift_88 : decode cX3_shift 88 = .ok (.aaload, 1) := by decide +kernel
theorem dX3_shift_89 : decode cX3_shift 89 = .ok (.aastore, 1) := by decide +kernel
theorem dX3_shift_90 : decode cX3_shift 90 = .ok (.iinc 4 (-1), 3) := by decide +kernel
theorem dX3_shift_93 : decode cX3_shift 93 = .ok (.goto (-25), 3) := by decide +kernel
theorem dX3_shift_96 : decode cX3_shift 96 = .ok (.aload_n 0, 1) := by decide +kernel
theorem dX3_shift_97 : decode cX3_shift 97 = .ok (.getfield 11, 3) := by decide +kernel
theorem dX3_shift_100 : decode cX3_shift 100 = .ok (.iload_n 2, 1) := by decide +kernel
theorem dX3_shift_101 : decode cX3_shift 101 = .ok (.aload_n 3, 1) := by decide +kernel
theorem dX3_shift_102 : decode cX3_shift 102 = .ok (.aastore, 1) := by decide +kernel
theorem dX3_shift_103 : decode cX3_shift 103 = .ok (.return_, 1) := by decide +kernel
theorem dX4_init_0 : decode cX4_init 0 = .ok (.aload_n 0, 1) := by decide +kernel
theorem dX4_init_1 : decode cX4_init 1 = .ok (.invokespecial 1, 3) := by decide +kernel
theorem dX4_init_4 : decode cX4_init 4 = .ok (.aload_n 0, 1) := by decide +kernel
theorem dX4_init_5 : decode cX4_init 5 = .ok (.new 7, 3) := by decide +kernel
theorem dX4_init_8 : decode cX4_init 8 = .ok (.dup, 1) := by decide +kernel
theorem dX4_init_9 : decode cX4_init 9 = .ok (.invokespecial 9, 3) := by decide +kernel
theorem dX4_init_12 : decode cX4_init 12 = .ok (.putfield 10, 3) := by decide +kernel
theorem dX4_init_15 : decode cX4_init 15 = .ok (.aload_n 0, 1) := by decide +kernel
theorem dX4_init_16 : decode cX4_init 16 = .ok (.new 16, 3) := by decide +kernel
theorem dX4_init_19 : decode cX4_init 19 = .ok (.dup, 1) := by decide +kernel
theorem dX4_init_20 : decode cX4_init 20 = .ok (.invokespecial 18, 3) := by decide +kernel
theorem dX4_init_23 : decode cX4_init 23 = .ok (.putfield 19, 3) := by decide +kernel
theorem dX4_init_26 : decode cX4_init 26 = .ok (.aload_n 0, 1) := by decide +kernel
theorem dX4_init_27 : decode cX4_init 27 = .ok (.bipush 60, 2) := by decide +kernel
theorem dX4_init_29 : decode cX4_init 29 = .ok (.newarray .int, 2) := by decide +kernel
theorem dX4_init_31 : decode cX4_init 31 = .ok (.putfield 23, 3) := by decide +kernel
theorem dX4_init_34 : decode cX4_init 34 = .ok (.aload_n 0, 1) := by decide +kernel
theorem dX4_init_35 : decode cX4_init 35 = .ok (.iconst 0, 1) := by decide +kernel
theorem dX4_init_36 : decode cX4_init 36 = .ok (.putfield 27, 3) := by decide +kernel
theorem dX4_init_39 : decode cX4_init 39 = .ok (.return_, 1) := by decide +kernel
theorem dX4_makeCollection_0 : decode cX4_makeCollection 0 = .ok (.iload_n 1, 1) := by decide +kernel
theorem dX4_makeCollection_1 : decode cX4_makeCollection 1 = .ok (.invokestatic 31, 3) := by decide +kernel
theorem dX4_makeCollection_4 : decode cX4_makeCollection 4 = .ok (.iload_n 2, 1) := by decide +kernel
theorem dX4_makeCollection_5 : decode cX4_makeCollection 5 = .ok (.invokestatic 35, 3) := by decide +kernel
theorem dX4_makeCollection_8 : decode cX4_makeCollection 8 = .ok (.iload_n 3, 1) := by decide +kernel
theorem dX4_makeCollection_9 : decode cX4_makeCollection 9 = .ok (.invokestatic 38, 3) := by decide +kernel
theorem dX4_makeCollection_12 : decode cX4_makeCollection 12 = .ok (.aload_n 0, 1) := by decide +kernel
theorem dX4_makeCollection_13 : decode cX4_makeCollection 13 = .ok (.getfield 10, 3) := by decide +kernel
theorem dX4_makeCollection_16 : decode cX4_makeCollection 16 = .ok (.iload_n 2, 1) := by decide +kernel
theorem dX4_makeCollection_17 : decode cX4_makeCollection 17 = .ok (.invokestatic 41, 3) := by decide +kernel
theorem dX4_makeCollection_20 : decode cX4_makeCollection 20 = .ok (.invokevirtual 45, 3) := by decide +kernel
theorem dX4_makeCollection_23 : decode cX4_makeCollection 23 = .ok (.ifCond .ne 5, 3) := by decide +kernel
theorem dX4_makeCollection_26 : decode cX4_makeCollection 26 = .ok (.iconst 1, 1) := by decide +kernel
theorem dX4_makeCollection_27 : decode cX4_makeCollection 27 = .ok (.ireturn, 1) := by decide +kernel
theorem dX4_makeCollection_28 : decode cX4_makeCollection 28 = .ok (.aload_n 0, 1) := by decide +kernel
theorem dX4_makeCollection_29 : decode cX4_makeCollection 29 = .ok (.getfield 10, 3) := by decide +kernel
theorem dX4_makeCollection_32 : decode cX4_makeCollection 32 = .ok (.iload_n 2, 1) := by decide +kernel
theorem dX4_makeCollection_33 : decode cX4_makeCollection 33 = .ok (.invokevirtual 49, 3) := by decide +kernel
theorem dX4_makeCollection_36 : decode cX4_makeCollection 36 = .ok (.ifnull 5, 3) := by decide +kernel
theorem dX4_makeCollection_39 : decode cX4_makeCollection 39 = .ok (.iconst 2, 1) := by decide +kernel
theorem dX4_makeCollection_40 : decode cX4_makeCollection 40 = .ok (.ireturn, 1) := by decide +kernel
theorem dX4_makeCollection_41 : decode cX4_makeCollection 41 = .ok (.aload_n 0, 1) := by decide +kernel
theorem dX4_makeCollection_42 : decode cX4_makeCollection 42 = .ok (.iload_n 1, 1) := by decide +kernel
theorem dX4_makeCollection_43 : decode cX4_makeCollection 43 = .ok (.iload_n 2, 1) := by decide +kernel
theorem dX4_makeCollection_44 : decode cX4_makeCollection 44 = .ok (.iload_n 3, 1) := by decide +kernel
theorem dX4_makeCollection_45 : decode cX4_makeCollection 45 = .ok (.invokevirtual 53, 3) := by decide +kernel
theorem dX4_makeCollection_48 : decode cX4_makeCollection 48 = .ok (.ifCond .ne 5, 3) := by decide +kernel
theorem dX4_makeCollection_51 : decode cX4_makeCollection 51 = .ok (.iconst 4, 1) := by decide +kernel
theorem dX4_makeCollection_52 : decode cX4_makeCollection 52 = .ok (.ireturn, 1) := by decide +kernel
theorem dX4_makeCollection_53 : decode cX4_makeCollection 53 = .ok (.aload_n 0, 1) := by decide +kernel
theorem dX4_makeCollection_54 : decode cX4_makeCollection 54 = .ok (.getfield 10, 3) := by decide +kernel
theorem dX4_makeCollection_57 : decode cX4_makeCollection 57 = .ok (.getfield 57, 3) := by decide +kernel
theorem dX4_makeCollection_60 : decode cX4_makeCollection 60 = .ok (.bipush 60, 2) := by decide +kernel
theorem dX4_makeCollection_62 : decode cX4_makeCollection 62 = .ok (.if_icmp .lt 5, 3) := by decide +kernel
theorem dX4_makeCollection_65 : decode cX4_makeCollection 65 = .ok (.iconst 5, 1) := by decide +kernel
theorem dX4_makeCollection_66 : decode cX4_makeCollection 66 = .ok (.ireturn, 1) := by decide +kernel
theorem dX4_makeCollection_67 : decode cX4_makeCollection 67 = .ok (.aload_n 0, 1) := by decide +kernel
theorem dX4_makeCollection_68 : decode cX4_makeCollection 68 = .ok (.getfield 10, 3) := by decide +kernel
theorem dX4_makeCollection_71 : decode cX4_makeCollection 71 = .ok (.iload_n 2, 1) := by decide +kernel
theorem dX4_makeCollection_72 : decode cX4_makeCollection 72 = .ok (.iconst 2, 1) := by decide +kernel
theorem dX4_makeCollection_73 : decode cX4_makeCollection 73 = .ok (.iconst 0, 1) := by decide +kernel
theorem dX4_makeCollection_74 : decode cX4_makeCollection 74 = .ok (.invokevirtual 60, 3) := by decide +kernel
theorem dX4_makeCollection_77 : decode cX4_makeCollection 77 = .ok (.iconst 0, 1) := by decide +kernel
theorem dX4_makeCollection_78 : decode cX4_makeCollection 78 = .ok (.ireturn, 1) := by decide +kernel
theorem dX4_put_0 : decode cX4_put 0 = .ok (.iload_n 1, 1) := by decide +kernel
theorem dX4_put_1 : decode cX4_put 1 = .ok (.invokestatic 31, 3) := by decide +kernel
theorem dX4_put_4 : decode cX4_put 4 = .ok (.iload_n 2, 1) := by decide +kernel
theorem dX4_put_5 : decode cX4_put 5 = .ok (.invokestatic 35, 3) := by decide +kernel
theorem dX4_put_8 : decode cX4_put 8 = .ok (.iload_n 3, 1) := by decide +kernel
theorem dX4_put_9 : decode cX4_put 9 = .ok (.iconst 0, 1) := by decide +kernel
theorem dX4_put_10 : decode cX4_put 10 = .ok (.sipush 999, 3) := by decide +kernel
theorem dX4_put_13 : decode cX4_put 13 = .ok (.invokestatic 64, 3) := by decide +kernel
theorem dX4_put_16 : decode cX4_put 16 = .ok (.iload 4, 2) := by decide +kernel
theorem dX4_put_18 : decode cX4_put 18 = .ok (.iconst (-1), 1) := by decide +kernel
theorem dX4_put_19 : decode cX4_put 19 = .ok (.sipush 999, 3) := by decide +kernel
theorem dX4_put_22 : decode cX4_put 22 = .ok (.invokestatic 64, 3) := by decide +kernel
theorem dX4_put_25 : decode cX4_put 25 = .ok (.iload 5, 2) := by decide +kernel
theorem dX4_put_27 : decode cX4_put 27 = .ok (.invokestatic 38, 3) := by decide +kernel
theorem dX4_put_30 : decode cX4_put 30 = .ok (.aload_n 0, 1) := by decide +kernel
theorem dX4_put_31 : decode cX4_put 31 = .ok (.iload_n 1, 1) := by decide +kernel
theorem dX4_put_32 : decode cX4_put 32 = .ok (.iload_n 2, 1) := by decide +kernel
theorem dX4_put_33 : decode cX4_put 33 = .ok (.iload 4, 2) := by decide +kernel
theorem dX4_put_35 : decode cX4_put 35 = .ok (.iload 5, 2) := by decide +kernel
theorem dX4_put_37 : decode cX4_put 37 = .ok (.invokevirtual 67, 3) := by decide +kernel
theorem dX4_put_40 : decode cX4_put 40 = .ok (.istore 6, 2) := by decide +kernel
theorem dX4_put_42 : decode cX4_put 42 = .ok (.iload 6, 2) := by decide +kernel
theorem dX4_put_44 : decode cX4_put 44 = .ok (.ifCond .ne 9, 3) := by decide +kernel
theorem dX4_put_47 : decode cX4_put 47 = .ok (.aload_n 0, 1) := by decide +kernel
theorem dX4_put_48 : decode cX4_put 48 = .ok (.iload_n 2, 1) := by decide +kernel
theorem dX4_put_49 : decode cX4_put 49 = .ok (.iload_n 3, 1) := by decide +kernel
theorem dX4_put_50 : decode cX4_put 50 = .ok (.invokevirtual 71, 3) := by decide +kernel
theorem dX4_put_53 : decode cX4_put 53 = .ok (.iload 6, 2) := by decide +kernel
theorem dX4_put_55 : decode cX4_put 55 = .ok (.ireturn, 1) := by decide +kernel
theorem dX4_delete_0 : decode cX4_delete 0 = .ok (.iload_n 1, 1) := by decide +kernel
theorem dX4_delete_1 : decode cX4_delete 1 = .ok (.invokestatic 31, 3) := by decide +kernel
theorem dX4_delete_4 : decode cX4_delete 4 = .ok (.iload_n 2, 1) := by decide +kernel
theorem dX4_delete_5 : decode cX4_delete 5 = .ok (.invokestatic 35, 3) := by decide +kernel
theorem dX4_delete_8 : decode cX4_delete 8 = .ok (.iload_n 3, 1) := by decide +kernel
theorem dX4_delete_9 : decode cX4_delete 9 = .ok (.invokestatic 38, 3) := by decide +kernel
theorem dX4_delete_12 : decode cX4_delete 12 = .ok (.aload_n 0, 1) := by decide +kernel
theorem dX4_delete_13 : decode cX4_delete 13 = .ok (.iconst 0, 1) := by decide +kernel
theorem dX4_delete_14 : decode cX4_delete 14 = .ok (.putfield 27, 3) := by decide +kernel
theorem dX4_delete_17 : decode cX4_delete 17 = .ok (.aload_n 0, 1) := by decide +kernel
theorem dX4_delete_18 : decode cX4_delete 18 = .ok (.getfield 10, 3) := by decide +kernel
theorem dX4_delete_21 : decode cX4_delete 21 = .ok (.iload_n 2, 1) := by decide +kernel
theorem dX4_delete_22 : decode cX4_delete 22 = .ok (.invokevirtual 49, 3) := by decide +kernel
theorem dX4_delete_25 : decode cX4_delete 25 = .ok (.ifnonnull 5, 3) := by decide +kernel
theorem dX4_delete_28 : decode cX4_delete 28 = .ok (.iconst 1, 1) := by decide +kernel
theorem dX4_delete_29 : decode cX4_delete 29 = .ok (.ireturn, 1) := by decide +kernel
theorem dX4_delete_30 : decode cX4_delete 30 = .ok (.aload_n 0, 1) := by decide +kernel
theorem dX4_delete_31 : decode cX4_delete 31 = .ok (.iload_n 1, 1) := by decide +kernel
theorem dX4_delete_32 : decode cX4_delete 32 = .ok (.iload_n 2, 1) := by decide +kernel
theorem dX4_delete_33 : decode cX4_delete 33 = .ok (.iload_n 3, 1) := by decide +kernel
theorem dX4_delete_34 : decode cX4_delete 34 = .ok (.invokevirtual 53, 3) := by decide +kernel
theorem dX4_delete_37 : decode cX4_delete 37 = .ok (.ifCond .ne 5, 3) := by decide +kernel
theorem dX4_delete_40 : decode cX4_delete 40 = .ok (.iconst 4, 1) := by decide +kernel
theorem dX4_delete_41 : decode cX4_delete 41 = .ok (.ireturn, 1) := by decide +kernel
theorem dX4_delete_42 : decode cX4_delete 42 = .ok (.aload_n 0, 1) := by decide +kernel
theorem dX4_delete_43 : decode cX4_delete 43 = .ok (.iload_n 1, 1) := by decide +kernel
theorem dX4_delete_44 : decode cX4_delete 44 = .ok (.iload_n 2, 1) := by decide +kernel
theorem dX4_delete_45 : decode cX4_delete 45 = .ok (.iload_n 3, 1) := by decide +kernel
theorem dX4_delete_46 : decode cX4_delete 46 = .ok (.invokevirtual 75, 3) := by decide +kernel
theorem dX4_delete_49 : decode cX4_delete 49 = .ok (.aload_n 0, 1) := by decide +kernel
theorem dX4_delete_50 : decode cX4_delete 50 = .ok (.getfield 10, 3) := by decide +kernel
theorem dX4_delete_53 : decode cX4_delete 53 = .ok (.iload_n 2, 1) := by decide +kernel
theorem dX4_delete_54 : decode cX4_delete 54 = .ok (.invokevirtual 78, 3) := by decide +kernel
theorem dX4_delete_57 : decode cX4_delete 57 = .ok (.aload_n 0, 1) := by decide +kernel
theorem dX4_delete_58 : decode cX4_delete 58 = .ok (.invokevirtual 81, 3) := by decide +kernel
theorem dX4_delete_61 : decode cX4_delete 61 = .ok (.aload_n 0, 1) := by decide +kernel
theorem dX4_delete_62 : decode cX4_delete 62 = .ok (.invokevirtual 84, 3) := by decide +kernel
theorem dX4_delete_65 : decode cX4_delete 65 = .ok (.aload_n 0, 1) := by decide +kernel
theorem dX4_delete_66 : decode cX4_delete 66 = .ok (.getfield 27, 3) := by decide +kernel
theorem dX4_delete_69 : decode cX4_delete 69 = .ok (.ifCond .ne 7, 3) := by decide +kernel
theorem dX4_delete_72 : decode cX4_delete 72 = .ok (.iconst 0, 1) := by decide +kernel
theorem dX4_delete_73 : decode cX4_delete 73 = .ok (.goto 5, 3) := by decide +kernel
theorem dX4_delete_76 : decode cX4_delete 76 = .ok (.bipush 6, 2) := by decide +kernel
theorem dX4_delete_78 : decode cX4_delete 78 = .ok (.ireturn, 1) := by decide +kernel
theorem dX4_failures_0 : decode cX4_failures 0 = .ok (.aload_n 0, 1) := by decide +kernel
theorem dX4_failures_1 : decode cX4_failures 1 = .ok (.getfield 27, 3) := by decide +kernel
theorem dX4_failures_4 : decode cX4_failures 4 = .ok (.ireturn, 1) := by decide +kernel
theorem dX4_failureAt_0 : decode cX4_failureAt 0 = .ok (.iload_n 1, 1) := by decide +kernel
theorem dX4_failureAt_1 : decode cX4_failureAt 1 = .ok (.ifCond .lt 20, 3) := by decide +kernel
theorem dX4_failureAt_4 : decode cX4_failureAt 4 = .ok (.iload_n 1, 1) := by decide +kernel
theorem dX4_failureAt_5 : decode cX4_failureAt 5 = .ok (.aload_n 0, 1) := by decide +kernel
theorem dX4_failureAt_6 : decode cX4_failureAt 6 = .ok (.getfield 27, 3) := by decide +kernel
theorem dX4_failureAt_9 : decode cX4_failureAt 9 = .ok (.if_icmp .ge 12, 3) := by decide +kernel
theorem dX4_failureAt_12 : decode cX4_failureAt 12 = .ok (.iload_n 1, 1) := by decide +kernel
theorem dX4_failureAt_13 : decode cX4_failureAt 13 = .ok (.aload_n 0, 1) := by decide +kernel
theorem dX4_failureAt_14 : decode cX4_failureAt 14 = .ok (.getfield 23, 3) := by decide +kernel
theorem dX4_failureAt_17 : decode cX4_failureAt 17 = .ok (.arraylength, 1) := by decide +kernel
theorem dX4_failureAt_18 : decode cX4_failureAt 18 = .ok (.if_icmp .lt 13, 3) := by decide +kernel
theorem dX4_failureAt_21 : decode cX4_failureAt 21 = .ok (.new 87, 3) := by decide +kernel
theorem dX4_failureAt_24 : decode cX4_failureAt 24 = .ok (.dup, 1) := by decide +kernel
theorem dX4_failureAt_25 : decode cX4_failureAt 25 = .ok (.ldc 89, 2) := by decide +kernel
theorem dX4_failureAt_27 : decode cX4_failureAt 27 = .ok (.invokespecial 91, 3) := by decide +kernel
theorem dX4_failureAt_30 : decode cX4_failureAt 30 = .ok (.athrow, 1) := by decide +kernel
theorem dX4_failureAt_31 : decode cX4_failureAt 31 = .ok (.aload_n 0, 1) := by decide +kernel
theorem dX4_failureAt_32 : decode cX4_failureAt 32 = .ok (.getfield 23, 3) := by decide +kernel
theorem dX4_failureAt_35 : decode cX4_failureAt 35 = .ok (.iload_n 1, 1) := by decide +kernel
theorem dX4_failureAt_36 : decode cX4_failureAt 36 = .ok (.iaload, 1) := by decide +kernel
theorem dX4_failureAt_37 : decode cX4_failureAt 37 = .ok (.ireturn, 1) := by decide +kernel
theorem dX4_copy_0 : decode cX4_copy 0 = .ok (.iload_n 1, 1) := by decide +kernel
theorem dX4_copy_1 : decode cX4_copy 1 = .ok (.iload_n 2, 1) := by decide +kernel
theorem dX4_copy_2 : decode cX4_copy 2 = .ok (.iload_n 3, 1) := by decide +kernel
theorem dX4_copy_3 : decode cX4_copy 3 = .ok (.iload 5, 2) := by decide +kernel
theorem dX4_copy_5 : decode cX4_copy 5 = .ok (.invokestatic 94, 3) := by decide +kernel
theorem dX4_copy_8 : decode cX4_copy 8 = .ok (.aload_n 0, 1) := by decide +kernel
theorem dX4_copy_9 : decode cX4_copy 9 = .ok (.iload_n 1, 1) := by decide +kernel
theorem dX4_copy_10 : decode cX4_copy 10 = .ok (.iload_n 2, 1) := by decide +kernel
theorem dX4_copy_11 : decode cX4_copy 11 = .ok (.iload_n 3, 1) := by decide +kernel
theorem dX4_copy_12 : decode cX4_copy 12 = .ok (.iload 4, 2) := by decide +kernel
theorem dX4_copy_14 : decode cX4_copy 14 = .ok (.iload 5, 2) := by decide +kernel
theorem dX4_copy_16 : decode cX4_copy 16 = .ok (.invokevirtual 98, 3) := by decide +kernel
theorem dX4_copy_19 : decode cX4_copy 19 = .ok (.istore 6, 2) := by decide +kernel
theorem dX4_copy_21 : decode cX4_copy 21 = .ok (.iload 6, 2) := by decide +kernel
theorem dX4_copy_23 : decode cX4_copy 23 = .ok (.ifCond .eq 6, 3) := by decide +kernel
theorem dX4_copy_26 : decode cX4_copy 26 = .ok (.iload 6, 2) := by decide +kernel
theorem dX4_copy_28 : decode cX4_copy 28 = .ok (.ireturn, 1) := by decide +kernel
theorem dX4_copy_29 : decode cX4_copy 29 = .ok (.aload_n 0, 1) := by decide +kernel
theorem dX4_copy_30 : decode cX4_copy 30 = .ok (.getfield 10, 3) := by decide +kernel
theorem dX4_copy_33 : decode cX4_copy 33 = .ok (.getfield 57, 3) := by decide +kernel
theorem dX4_copy_36 : decode cX4_copy 36 = .ok (.aload_n 0, 1) := by decide +kernel
theorem dX4_copy_37 : decode cX4_copy 37 = .ok (.getfield 10, 3) := by decide +kernel
theorem dX4_copy_40 : decode cX4_copy 40 = .ok (.iload_n 3, 1) := by decide +kernel
theorem dX4_copy_41 : decode cX4_copy 41 = .ok (.invokevirtual 102, 3) := by decide +kernel
theorem dX4_copy_44 : decode cX4_copy 44 = .ok (.isub, 1) := by decide +kernel
theorem dX4_copy_45 : decode cX4_copy 45 = .ok (.aload_n 0, 1) := by decide +kernel
theorem dX4_copy_46 : decode cX4_copy 46 = .ok (.getfield 10, 3) := by decide +kernel
theorem dX4_copy_49 : decode cX4_copy 49 = .ok (.iload_n 2, 1) := by decide +kernel
theorem dX4_copy_50 : decode cX4_copy 50 = .ok (.invokevirtual 102, 3) := by decide +kernel
theorem dX4_copy_53 : decode cX4_copy 53 = .ok (.iadd, 1) := by decide +kernel
theorem dX4_copy_54 : decode cX4_copy 54 = .ok (.bipush 60, 2) := by decide +kernel
theorem dX4_copy_56 : decode cX4_copy 56 = .ok (.if_icmp .le 5, 3) := by decide +kernel
theorem dX4_copy_59 : decode cX4_copy 59 = .ok (.iconst 5, 1) := by decide +kernel
theorem dX4_copy_60 : decode cX4_copy 60 = .ok (.ireturn, 1) := by decide +kernel
theorem dX4_copy_61 : decode cX4_copy 61 = .ok (.aload_n 0, 1) := by decide +kernel
theorem dX4_copy_62 : decode cX4_copy 62 = .ok (.iload_n 3, 1) := by decide +kernel
theorem dX4_copy_63 : decode cX4_copy 63 = .ok (.invokevirtual 105, 3) := by decide +kernel
theorem dX4_copy_66 : decode cX4_copy 66 = .ok (.aload_n 0, 1) := by decide +kernel
theorem dX4_copy_67 : decode cX4_copy 67 = .ok (.getfield 10, 3) := by decide +kernel
theorem dX4_copy_70 : decode cX4_copy 70 = .ok (.iload_n 2, 1) := by decide +kernel
theorem dX4_copy_71 : decode cX4_copy 71 = .ok (.iload_n 3, 1) := by decide +kernel
theorem dX4_copy_72 : decode cX4_copy 72 = .ok (.invokevirtual 108, 3) := by decide +kernel
theorem dX4_copy_75 : decode cX4_copy 75 = .ok (.iconst 0, 1) := by decide +kernel
theorem dX4_copy_76 : decode cX4_copy 76 = .ok (.ireturn, 1) := by decide +kernel
theorem dX4_move_0 : decode cX4_move 0 = .ok (.iload_n 1, 1) := by decide +kernel
theorem dX4_move_1 : decode cX4_move 1 = .ok (.iload_n 2, 1) := by decide +kernel
theorem dX4_move_2 : decode cX4_move 2 = .ok (.iload_n 3, 1) := by decide +kernel
theorem dX4_move_3 : decode cX4_move 3 = .ok (.iload 5, 2) := by decide +kernel
theorem dX4_move_5 : decode cX4_move 5 = .ok (.invokestatic 94, 3) := by decide +kernel
theorem dX4_move_8 : decode cX4_move 8 = .ok (.aload_n 0, 1) := by decide +kernel
theorem dX4_move_9 : decode cX4_move 9 = .ok (.iload_n 1, 1) := by decide +kernel
theorem dX4_move_10 : decode cX4_move 10 = .ok (.iload_n 2, 1) := by decide +kernel
theorem dX4_move_11 : decode cX4_move 11 = .ok (.iload_n 3, 1) := by decide +kernel
theorem dX4_move_12 : decode cX4_move 12 = .ok (.iload 4, 2) := by decide +kernel
theorem dX4_move_14 : decode cX4_move 14 = .ok (.iload 5, 2) := by decide +kernel
theorem dX4_move_16 : decode cX4_move 16 = .ok (.invokevirtual 98, 3) := by decide +kernel
theorem dX4_move_19 : decode cX4_move 19 = .ok (.istore 6, 2) := by decide +kernel
theorem dX4_move_21 : decode cX4_move 21 = .ok (.iload 6, 2) := by decide +kernel
theorem dX4_move_23 : decode cX4_move 23 = .ok (.ifCond .eq 6, 3) := by decide +kernel
theorem dX4_move_26 : decode cX4_move 26 = .ok (.iload 6, 2) := by decide +kernel
theorem dX4_move_28 : decode cX4_move 28 = .ok (.ireturn, 1) := by decide +kernel
theorem dX4_move_29 : decode cX4_move 29 = .ok (.aload_n 0, 1) := by decide +kernel
theorem dX4_move_30 : decode cX4_move 30 = .ok (.getfield 19, 3) := by decide +kernel
theorem dX4_move_33 : decode cX4_move 33 = .ok (.iload_n 1, 1) := by decide +kernel
theorem dX4_move_34 : decode cX4_move 34 = .ok (.iload_n 2, 1) := by decide +kernel
theorem dX4_move_35 : decode cX4_move 35 = .ok (.invokestatic 41, 3) := by decide +kernel
theorem dX4_move_38 : decode cX4_move 38 = .ok (.iload 5, 2) := by decide +kernel
theorem dX4_move_40 : decode cX4_move 40 = .ok (.invokevirtual 111, 3) := by decide +kernel
theorem dX4_move_43 : decode cX4_move 43 = .ok (.ifCond .eq 14, 3) := by decide +kernel
theorem dX4_move_46 : decode cX4_move 46 = .ok (.aload_n 0, 1) := by decide +kernel
theorem dX4_move_47 : decode cX4_move 47 = .ok (.iload_n 1, 1) := by decide +kernel
theorem dX4_move_48 : decode cX4_move 48 = .ok (.iload_n 2, 1) := by decide +kernel
theorem dX4_move_49 : decode cX4_move 49 = .ok (.iload 5, 2) := by decide +kernel
theorem dX4_move_51 : decode cX4_move 51 = .ok (.invokevirtual 114, 3) := by decide +kernel
theorem dX4_move_54 : decode cX4_move 54 = .ok (.ifCond .ne 5, 3) := by decide +kernel
theorem dX4_move_57 : decode cX4_move 57 = .ok (.iconst 4, 1) := by decide +kernel
theorem dX4_move_58 : decode cX4_move 58 = .ok (.ireturn, 1) := by decide +kernel
theorem dX4_move_59 : decode cX4_move 59 = .ok (.aload_n 0, 1) := by decide +kernel
theorem dX4_move_60 : decode cX4_move 60 = .ok (.iload_n 3, 1) := by decide +kernel
theorem dX4_move_61 : decode cX4_move 61 = .ok (.invokevirtual 105, 3) := by decide +kernel
theorem dX4_move_64 : decode cX4_move 64 = .ok (.aload_n 0, 1) := by decide +kernel
theorem dX4_move_65 : decode cX4_move 65 = .ok (.iload_n 2, 1) := by decide +kernel
theorem dX4_move_66 : decode cX4_move 66 = .ok (.invokevirtual 117, 3) := by decide +kernel
theorem dX4_move_69 : decode cX4_move 69 = .ok (.aload_n 0, 1) := by decide +kernel
theorem dX4_move_70 : decode cX4_move 70 = .ok (.getfield 10, 3) := by decide +kernel
theorem dX4_move_73 : decode cX4_move 73 = .ok (.iload_n 2, 1) := by decide +kernel
theorem dX4_move_74 : decode cX4_move 74 = .ok (.iload_n 3, 1) := by decide +kernel
theorem dX4_move_75 : decode cX4_move 75 = .ok (.invokevirtual 120, 3) := by decide +kernel
theorem dX4_move_78 : decode cX4_move 78 = .ok (.iconst 0, 1) := by decide +kernel
theorem dX4_move_79 : decode cX4_move 79 = .ok (.ireturn, 1) := by decide +kernel
theorem dX4_kindOf_0 : decode cX4_kindOf 0 = .ok (.iload_n 1, 1) := by decide +kernel
theorem dX4_kindOf_1 : decode cX4_kindOf 1 = .ok (.invokestatic 123, 3) := by decide +kernel
theorem dX4_kindOf_4 : decode cX4_kindOf 4 = .ok (.aload_n 0, 1) := by decide +kernel
theorem dX4_kindOf_5 : decode cX4_kindOf 5 = .ok (.getfield 10, 3) := by decide +kernel
theorem dX4_kindOf_8 : decode cX4_kindOf 8 = .ok (.iload_n 1, 1) := by decide +kernel
theorem dX4_kindOf_9 : decode cX4_kindOf 9 = .ok (.invokevirtual 126, 3) := by decide +kernel
theorem dX4_kindOf_12 : decode cX4_kindOf 12 = .ok (.ireturn, 1) := by decide +kernel
theorem dX4_content_0 : decode cX4_content 0 = .ok (.iload_n 1, 1) := by decide +kernel
theorem dX4_content_1 : decode cX4_content 1 = .ok (.invokestatic 123, 3) := by decide +kernel
theorem dX4_content_4 : decode cX4_content 4 = .ok (.aload_n 0, 1) := by decide +kernel
theorem dX4_content_5 : decode cX4_content 5 = .ok (.getfield 10, 3) := by decide +kernel
theorem dX4_content_8 : decode cX4_content 8 = .ok (.iload_n 1, 1) := by decide +kernel
theorem dX4_content_9 : decode cX4_content 9 = .ok (.invokevirtual 129, 3) := by decide +kernel
theorem dX4_content_12 : decode cX4_content 12 = .ok (.astore_n 2, 1) := by decide +kernel
theorem dX4_content_13 : decode cX4_content 13 = .ok (.aload_n 2, 1) := by decide +kernel
theorem dX4_content_14 : decode cX4_content 14 = .ok (.ifnonnull 7, 3) := by decide +kernel
theorem dX4_content_17 : decode cX4_content 17 = .ok (.iconst (-1), 1) := by decide +kernel
theorem dX4_content_18 : decode cX4_content 18 = .ok (.goto 7, 3) := by decide +kernel
theorem dX4_content_21 : decode cX4_content 21 = .ok (.aload_n 2, 1) := by decide +kernel
theorem dX4_content_22 : decode cX4_content 22 = .ok (.getfield 132, 3) := by decide +kernel
theorem dX4_content_25 : decode cX4_content 25 = .ok (.ireturn, 1) := by decide +kernel
theorem dX4_resources_0 : decode cX4_resources 0 = .ok (.aload_n 0, 1) := by decide +kernel
theorem dX4_resources_1 : decode cX4_resources 1 = .ok (.getfield 10, 3) := by decide +kernel
theorem dX4_resources_4 : decode cX4_resources 4 = .ok (.getfield 57, 3) := by decide +kernel
theorem dX4_resources_7 : decode cX4_resources 7 = .ok (.ireturn, 1) := by decide +kernel
theorem dX4_members_0 : decode cX4_members 0 = .ok (.iload_n 1, 1) := by decide +kernel
theorem dX4_members_1 : decode cX4_members 1 = .ok (.invokestatic 123, 3) := by decide +kernel
theorem dX4_members_4 : decode cX4_members 4 = .ok (.aload_n 0, 1) := by decide +kernel
theorem dX4_members_5 : decode cX4_members 5 = .ok (.getfield 10, 3) := by decide +kernel
theorem dX4_members_8 : decode cX4_members 8 = .ok (.iload_n 1, 1) := by decide +kernel
theorem dX4_members_9 : decode cX4_members 9 = .ok (.invokevirtual 137, 3) := by decide +kernel
theorem dX4_members_12 : decode cX4_members 12 = .ok (.ireturn, 1) := by decide +kernel
theorem dX4_memberAt_0 : decode cX4_memberAt 0 = .ok (.iload_n 1, 1) := by decide +kernel
theorem dX4_memberAt_1 : decode cX4_memberAt 1 = .ok (.invokestatic 123, 3) := by decide +kernel
theorem dX4_memberAt_4 : decode cX4_memberAt 4 = .ok (.aload_n 0, 1) := by decide +kernel
theorem dX4_memberAt_5 : decode cX4_memberAt 5 = .ok (.getfield 10, 3) := by decide +kernel
theorem dX4_memberAt_8 : decode cX4_memberAt 8 = .ok (.aload_n 0, 1) := by decide +kernel
theorem dX4_memberAt_9 : decode cX4_memberAt 9 = .ok (.getfield 10, 3) := by decide +kernel
theorem dX4_memberAt_12 : decode cX4_memberAt 12 = .ok (.iload_n 1, 1) := by decide +kernel
theorem dX4_memberAt_13 : decode cX4_memberAt 13 = .ok (.iload_n 2, 1) := by decide +kernel
theorem dX4_memberAt_14 : decode cX4_memberAt 14 = .ok (.invokevirtual 140, 3) := by decide +kernel
theorem dX4_memberAt_17 : decode cX4_memberAt 17 = .ok (.invokevirtual 144, 3) := by decide +kernel
theorem dX4_memberAt_20 : decode cX4_memberAt 20 = .ok (.istore_n 3, 1) := by decide +kernel
theorem dX4_memberAt_21 : decode cX4_memberAt 21 = .ok (.iload_n 3, 1) := by decide +kernel
theorem dX4_memberAt_22 : decode cX4_memberAt 22 = .ok (.iconst (-1), 1) := by decide +kernel
theorem dX4_memberAt_23 : decode cX4_memberAt 23 = .ok (.if_icmp .ne 13, 3) := by decide +kernel
theorem dX4_memberAt_26 : decode cX4_memberAt 26 = .ok (.new 87, 3) := by decide +kernel
theorem dX4_memberAt_29 : decode cX4_memberAt 29 = .ok (.dup, 1) := by decide +kernel
theorem dX4_memberAt_30 : decode cX4_memberAt 30 = .ok (.ldc 147, 2) := by decide +kernel
theorem dX4_memberAt_32 : decode cX4_memberAt 32 = .ok (.invokespecial 91, 3) := by decide +kernel
theorem dX4_memberAt_35 : decode cX4_memberAt 35 = .ok (.athrow, 1) := by decide +kernel
theorem dX4_memberAt_36 : decode cX4_memberAt 36 = .ok (.iload_n 3, 1) := by decide +kernel
theorem dX4_memberAt_37 : decode cX4_memberAt 37 = .ok (.ireturn, 1) := by decide +kernel
theorem dX4_order_0 : decode cX4_order 0 = .ok (.iload_n 1, 1) := by decide +kernel
theorem dX4_order_1 : decode cX4_order 1 = .ok (.invokestatic 31, 3) := by decide +kernel
theorem dX4_order_4 : decode cX4_order 4 = .ok (.iload_n 2, 1) := by decide +kernel
theorem dX4_order_5 : decode cX4_order 5 = .ok (.invokestatic 35, 3) := by decide +kernel
theorem dX4_order_8 : decode cX4_order 8 = .ok (.iload_n 3, 1) := by decide +kernel
theorem dX4_order_9 : decode cX4_order 9 = .ok (.invokestatic 38, 3) := by decide +kernel
theorem dX4_order_12 : decode cX4_order 12 = .ok (.iload 4, 2) := by decide +kernel
theorem dX4_order_14 : decode cX4_order 14 = .ok (.invokestatic 38, 3) := by decide +kernel
theorem dX4_order_17 : decode cX4_order 17 = .ok (.aload_n 0, 1) := by decide +kernel
theorem dX4_order_18 : decode cX4_order 18 = .ok (.getfield 10, 3) := by decide +kernel
theorem dX4_order_21 : decode cX4_order 21 = .ok (.iload_n 2, 1) := by decide +kernel
theorem dX4_order_22 : decode cX4_order 22 = .ok (.invokevirtual 49, 3) := by decide +kernel
theorem dX4_order_25 : decode cX4_order 25 = .ok (.ifnonnull 5, 3) := by decide +kernel
theorem dX4_order_28 : decode cX4_order 28 = .ok (.iconst 1, 1) := by decide +kernel
theorem dX4_order_29 : decode cX4_order 29 = .ok (.ireturn, 1) := by decide +kernel
theorem dX4_order_30 : decode cX4_order 30 = .ok (.aload_n 0, 1) := by decide +kernel
theorem dX4_order_31 : decode cX4_order 31 = .ok (.getfield 19, 3) := by decide +kernel
theorem dX4_order_34 : decode cX4_order 34 = .ok (.iload_n 1, 1) := by decide +kernel
theorem dX4_order_35 : decode cX4_order 35 = .ok (.iload_n 2, 1) := by decide +kernel
theorem dX4_order_36 : decode cX4_order 36 = .ok (.invokestatic 41, 3) := by decide +kernel
theorem dX4_order_39 : decode cX4_order 39 = .ok (.iload 4, 2) := by decide +kernel
theorem dX4_order_41 : decode cX4_order 41 = .ok (.invokevirtual 111, 3) := by decide +kernel
theorem dX4_order_44 : decode cX4_order 44 = .ok (.ifCond .ne 5, 3) := by decide +kernel
theorem dX4_order_47 : decode cX4_order 47 = .ok (.iconst 4, 1) := by decide +kernel
theorem dX4_order_48 : decode cX4_order 48 = .ok (.ireturn, 1) := by decide +kernel
theorem dX4_order_49 : decode cX4_order 49 = .ok (.aload_n 0, 1) := by decide +kernel
theorem dX4_order_50 : decode cX4_order 50 = .ok (.getfield 10, 3) := by decide +kernel
theorem dX4_order_53 : decode cX4_order 53 = .ok (.iload_n 2, 1) := by decide +kernel
theorem dX4_order_54 : decode cX4_order 54 = .ok (.iload_n 3, 1) := by decide +kernel
theorem dX4_order_55 : decode cX4_order 55 = .ok (.invokevirtual 149, 3) := by decide +kernel
theorem dX4_order_58 : decode cX4_order 58 = .ok (.iconst 0, 1) := by decide +kernel
theorem dX4_order_59 : decode cX4_order 59 = .ok (.ireturn, 1) := by decide +kernel
theorem dX4_lock_0 : decode cX4_lock 0 = .ok (.iload_n 1, 1) := by decide +kernel
theorem dX4_lock_1 : decode cX4_lock 1 = .ok (.invokestatic 31, 3) := by decide +kernel
theorem dX4_lock_4 : decode cX4_lock 4 = .ok (.iload_n 2, 1) := by decide +kernel
theorem dX4_lock_5 : decode cX4_lock 5 = .ok (.invokestatic 123, 3) := by decide +kernel
theorem dX4_lock_8 : decode cX4_lock 8 = .ok (.iload 5, 2) := by decide +kernel
theorem dX4_lock_10 : decode cX4_lock 10 = .ok (.iconst 1, 1) := by decide +kernel
theorem dX4_lock_11 : decode cX4_lock 11 = .ok (.sipush 1000, 3) := by decide +kernel
theorem dX4_lock_14 : decode cX4_lock 14 = .ok (.invokestatic 64, 3) := by decide +kernel
theorem dX4_lock_17 : decode cX4_lock 17 = .ok (.iload 6, 2) := by decide +kernel
theorem dX4_lock_19 : decode cX4_lock 19 = .ok (.invokestatic 38, 3) := by decide +kernel
theorem dX4_lock_22 : decode cX4_lock 22 = .ok (.aload_n 0, 1) := by decide +kernel
theorem dX4_lock_23 : decode cX4_lock 23 = .ok (.getfield 19, 3) := by decide +kernel
theorem dX4_lock_26 : decode cX4_lock 26 = .ok (.getfield 152, 3) := by decide +kernel
theorem dX4_lock_29 : decode cX4_lock 29 = .ok (.bipush 30, 2) := by decide +kernel
theorem dX4_lock_31 : decode cX4_lock 31 = .ok (.if_icmp .lt 13, 3) := by decide +kernel
theorem dX4_lock_34 : decode cX4_lock 34 = .ok (.new 153, 3) := by decide +kernel
theorem dX4_lock_37 : decode cX4_lock 37 = .ok (.dup, 1) := by decide +kernel
theorem dX4_lock_38 : decode cX4_lock 38 = .ok (.ldc 155, 2) := by decide +kernel
theorem dX4_lock_40 : decode cX4_lock 40 = .ok (.invokespecial 157, 3) := by decide +kernel
theorem dX4_lock_43 : decode cX4_lock 43 = .ok (.athrow, 1) := by decide +kernel
theorem dX4_lock_44 : decode cX4_lock 44 = .ok (.aload_n 0, 1) := by decide +kernel
theorem dX4_lock_45 : decode cX4_lock 45 = .ok (.getfield 19, 3) := by decide +kernel
theorem dX4_lock_48 : decode cX4_lock 48 = .ok (.iload_n 2, 1) := by decide +kernel
theorem dX4_lock_49 : decode cX4_lock 49 = .ok (.iload_n 3, 1) := by decide +kernel
theorem dX4_lock_50 : decode cX4_lock 50 = .ok (.iload 4, 2) := by decide +kernel
theorem dX4_lock_52 : decode cX4_lock 52 = .ok (.invokevirtual 158, 3) := by decide +kernel
theorem dX4_lock_55 : decode cX4_lock 55 = .ok (.ifCond .eq 13, 3) := by decide +kernel
theorem dX4_lock_58 : decode cX4_lock 58 = .ok (.new 153, 3) := by decide +kernel
theorem dX4_lock_61 : decode cX4_lock 61 = .ok (.dup, 1) := by decide +kernel
theorem dX4_lock_62 : decode cX4_lock 62 = .ok (.ldc 162, 2) := by decide +kernel
theorem dX4_lock_64 : decode cX4_lock 64 = .ok (.invokespecial 157, 3) := by decide +kernel
theorem dX4_lock_67 : decode cX4_lock 67 = .ok (.athrow, 1) := by decide +kernel
theorem dX4_lock_68 : decode cX4_lock 68 = .ok (.aload_n 0, 1) := by decide +kernel
theorem dX4_lock_69 : decode cX4_lock 69 = .ok (.getfield 10, 3) := by decide +kernel
theorem dX4_lock_72 : decode cX4_lock 72 = .ok (.iload_n 2, 1) := by decide +kernel
theorem dX4_lock_73 : decode cX4_lock 73 = .ok (.invokevirtual 126, 3) := by decide +kernel
theorem dX4_lock_76 : decode cX4_lock 76 = .ok (.iconst (-1), 1) := by decide +kernel
theorem dX4_lock_77 : decode cX4_lock 77 = .ok (.if_icmp .ne 31, 3) := by decide +kernel
theorem dX4_lock_80 : decode cX4_lock 80 = .ok (.aload_n 0, 1) := by decide +kernel
theorem dX4_lock_81 : decode cX4_lock 81 = .ok (.iload_n 1, 1) := by decide +kernel
theorem dX4_lock_82 : decode cX4_lock 82 = .ok (.iload_n 2, 1) := by decide +kernel
theorem dX4_lock_83 : decode cX4_lock 83 = .ok (.iconst (-1), 1) := by decide +kernel
theorem dX4_lock_84 : decode cX4_lock 84 = .ok (.iload 6, 2) := by decide +kernel
theorem dX4_lock_86 : decode cX4_lock 86 = .ok (.invokevirtual 67, 3) := by decide +kernel
theorem dX4_lock_89 : decode cX4_lock 89 = .ok (.ifCond .eq 13, 3) := by decide +kernel
theorem dX4_lock_92 : decode cX4_lock 92 = .ok (.new 153, 3) := by decide +kernel
theorem dX4_lock_95 : decode cX4_lock 95 = .ok (.dup, 1) := by decide +kernel
theorem dX4_lock_96 : decode cX4_lock 96 = .ok (.ldc 164, 2) := by decide +kernel
theorem dX4_lock_98 : decode cX4_lock 98 = .ok (.invokespecial 157, 3) := by decide +kernel
theorem dX4_lock_101 : decode cX4_lock 101 = .ok (.athrow, 1) := by decide +kernel
theorem dX4_lock_102 : decode cX4_lock 102 = .ok (.aload_n 0, 1) := by decide +kernel
theorem dX4_lock_103 : decode cX4_lock 103 = .ok (.iload_n 2, 1) := by decide +kernel
theorem dX4_lock_104 : decode cX4_lock 104 = .ok (.iconst 0, 1) := by decide +kernel
theorem dX4_lock_105 : decode cX4_lock 105 = .ok (.invokevirtual 71, 3) := by decide +kernel
theorem dX4_lock_108 : decode cX4_lock 108 = .ok (.aload_n 0, 1) := by decide +kernel
theorem dX4_lock_109 : decode cX4_lock 109 = .ok (.getfield 19, 3) := by decide +kernel
theorem dX4_lock_112 : decode cX4_lock 112 = .ok (.iload_n 1, 1) := by decide +kernel
theorem dX4_lock_113 : decode cX4_lock 113 = .ok (.iload_n 2, 1) := by decide +kernel
theorem dX4_lock_114 : decode cX4_lock 114 = .ok (.iload_n 3, 1) := by decide +kernel
theorem dX4_lock_115 : decode cX4_lock 115 = .ok (.iload 4, 2) := by decide +kernel
theorem dX4_lock_117 : decode cX4_lock 117 = .ok (.iload 5, 2) := by decide +kernel
theorem dX4_lock_119 : decode cX4_lock 119 = .ok (.invokevirtual 166, 3) := by decide +kernel
theorem dX4_lock_122 : decode cX4_lock 122 = .ok (.ireturn, 1) := by decide +kernel
theorem dX4_refresh_0 : decode cX4_refresh 0 = .ok (.aload_n 0, 1) := by decide +kernel
theorem dX4_refresh_1 : decode cX4_refresh 1 = .ok (.getfield 19, 3) := by decide +kernel
theorem dX4_refresh_4 : decode cX4_refresh 4 = .ok (.iload_n 2, 1) := by decide +kernel
theorem dX4_refresh_5 : decode cX4_refresh 5 = .ok (.invokevirtual 170, 3) := by decide +kernel
theorem dX4_refresh_8 : decode cX4_refresh 8 = .ok (.astore 4, 2) := by decide +kernel
theorem dX4_refresh_10 : decode cX4_refresh 10 = .ok (.aload 4, 2) := by decide +kernel
theorem dX4_refresh_12 : decode cX4_refresh 12 = .ok (.ifnonnull 13, 3) := by decide +kernel
theorem dX4_refresh_15 : decode cX4_refresh 15 = .ok (.new 87, 3) := by decide +kernel
theorem dX4_refresh_18 : decode cX4_refresh 18 = .ok (.dup, 1) := by decide +kernel
theorem dX4_refresh_19 : decode cX4_refresh 19 = .ok (.ldc 173, 2) := by decide +kernel
theorem dX4_refresh_21 : decode cX4_refresh 21 = .ok (.invokespecial 91, 3) := by decide +kernel
theorem dX4_refresh_24 : decode cX4_refresh 24 = .ok (.athrow, 1) := by decide +kernel
theorem dX4_refresh_25 : decode cX4_refresh 25 = .ok (.iload_n 1, 1) := by decide +kernel
theorem dX4_refresh_26 : decode cX4_refresh 26 = .ok (.invokestatic 31, 3) := by decide +kernel
theorem dX4_refresh_29 : decode cX4_refresh 29 = .ok (.iload_n 3, 1) := by decide +kernel
theorem dX4_refresh_30 : decode cX4_refresh 30 = .ok (.iconst 0, 1) := by decide +kernel
theorem dX4_refresh_31 : decode cX4_refresh 31 = .ok (.sipush 1000, 3) := by decide +kernel
theorem dX4_refresh_34 : decode cX4_refresh 34 = .ok (.invokestatic 64, 3) := by decide +kernel
theorem dX4_refresh_37 : decode cX4_refresh 37 = .ok (.aload 4, 2) := by decide +kernel
theorem dX4_refresh_39 : decode cX4_refresh 39 = .ok (.getfield 175, 3) := by decide +kernel
theorem dX4_refresh_42 : decode cX4_refresh 42 = .ok (.iload_n 1, 1) := by decide +kernel
theorem dX4_refresh_43 : decode cX4_refresh 43 = .ok (.if_icmp .eq 13, 3) := by decide +kernel
theorem dX4_refresh_46 : decode cX4_refresh 46 = .ok (.new 153, 3) := by decide +kernel
theorem dX4_refresh_49 : decode cX4_refresh 49 = .ok (.dup, 1) := by decide +kernel
theorem dX4_refresh_50 : decode cX4_refresh 50 = .ok (.ldc 180, 2) := by decide +kernel
theorem dX4_refresh_52 : decode cX4_refresh 52 = .ok (.invokespecial 157, 3) := by decide +kernel
theorem dX4_refresh_55 : decode cX4_refresh 55 = .ok (.athrow, 1) := by decide +kernel
theorem dX4_refresh_56 : decode cX4_refresh 56 = .ok (.aload 4, 2) := by decide +kernel
theorem dX4_refresh_58 : decode cX4_refresh 58 = .ok (.getfield 182, 3) := by decide +kernel
theorem dX4_refresh_61 : decode cX4_refresh 61 = .ok (.aload_n 0, 1) := by decide +kernel
theorem dX4_refresh_62 : decode cX4_refresh 62 = .ok (.getfield 19, 3) := by decide +kernel
theorem dX4_refresh_65 : decode cX4_refresh 65 = .ok (.getfield 185, 3) := by decide +kernel
theorem dX4_refresh_68 : decode cX4_refresh 68 = .ok (.isub, 1) := by decide +kernel
theorem dX4_refresh_69 : decode cX4_refresh 69 = .ok (.istore 5, 2) := by decide +kernel
theorem dX4_refresh_71 : decode cX4_refresh 71 = .ok (.aload 4, 2) := by decide +kernel
theorem dX4_refresh_73 : decode cX4_refresh 73 = .ok (.aload_n 0, 1) := by decide +kernel
theorem dX4_refresh_74 : decode cX4_refresh 74 = .ok (.getfield 19, 3) := by decide +kernel
theorem dX4_refresh_77 : decode cX4_refresh 77 = .ok (.getfield 185, 3) := by decide +kernel
theorem dX4_refresh_80 : decode cX4_refresh 80 = .ok (.iload_n 3, 1) := by decide +kernel
theorem dX4_refresh_81 : decode cX4_refresh 81 = .ok (.iadd, 1) := by decide +kernel
theorem dX4_refresh_82 : decode cX4_refresh 82 = .ok (.putfield 182, 3) := by decide +kernel
theorem dX4_refresh_85 : decode cX4_refresh 85 = .ok (.iload 5, 2) := by decide +kernel
theorem dX4_refresh_87 : decode cX4_refresh 87 = .ok (.ireturn, 1) := by decide +kernel
theorem dX4_pass_0 : decode cX4_pass 0 = .ok (.iload_n 1, 1) := by decide +kernel
theorem dX4_pass_1 : decode cX4_pass 1 = .ok (.iconst 1, 1) := by decide +kernel
theorem dX4_pass_2 : decode cX4_pass 2 = .ok (.sipush 1000, 3) := by decide +kernel
theorem dX4_pass_5 : decode cX4_pass 5 = .ok (.invokestatic 64, 3) := by decide +kernel
theorem dX4_pass_8 : decode cX4_pass 8 = .ok (.aload_n 0, 1) := by decide +kernel
theorem dX4_pass_9 : decode cX4_pass 9 = .ok (.getfield 19, 3) := by decide +kernel
theorem dX4_pass_12 : decode cX4_pass 12 = .ok (.getfield 185, 3) := by decide +kernel
theorem dX4_pass_15 : decode cX4_pass 15 = .ok (.iload_n 1, 1) := by decide +kernel
theorem dX4_pass_16 : decode cX4_pass 16 = .ok (.iadd, 1) := by decide +kernel
theorem dX4_pass_17 : decode cX4_pass 17 = .ok (.ldc 188, 2) := by decide +kernel
theorem dX4_pass_19 : decode cX4_pass 19 = .ok (.if_icmp .le 13, 3) := by decide +kernel
theorem dX4_pass_22 : decode cX4_pass 22 = .ok (.new 153, 3) := by decide +kernel
theorem dX4_pass_25 : decode cX4_pass 25 = .ok (.dup, 1) := by decide +kernel
theorem dX4_pass_26 : decode cX4_pass 26 = .ok (.ldc 189, 2) := by decide +kernel
theorem dX4_pass_28 : decode cX4_pass 28 = .ok (.invokespecial 157, 3) := by decide +kernel
theorem dX4_pass_31 : decode cX4_pass 31 = .ok (.athrow, 1) := by decide +kernel
theorem dX4_pass_32 : decode cX4_pass 32 = .ok (.aload_n 0, 1) := by decide +kernel
theorem dX4_pass_33 : decode cX4_pass 33 = .ok (.getfield 19, 3) := by decide +kernel
theorem dX4_pass_36 : decode cX4_pass 36 = .ok (.iload_n 1, 1) := by decide +kernel
theorem dX4_pass_37 : decode cX4_pass 37 = .ok (.invokevirtual 191, 3) := by decide +kernel
theorem dX4_pass_40 : decode cX4_pass 40 = .ok (.ireturn, 1) := by decide +kernel
theorem dX4_covering_0 : decode cX4_covering 0 = .ok (.iload_n 1, 1) := by decide +kernel
theorem dX4_covering_1 : decode cX4_covering 1 = .ok (.invokestatic 123, 3) := by decide +kernel
theorem dX4_covering_4 : decode cX4_covering 4 = .ok (.aload_n 0, 1) := by decide +kernel
theorem dX4_covering_5 : decode cX4_covering 5 = .ok (.getfield 19, 3) := by decide +kernel
theorem dX4_covering_8 : decode cX4_covering 8 = .ok (.iload_n 1, 1) := by decide +kernel
theorem dX4_covering_9 : decode cX4_covering 9 = .ok (.invokevirtual 194, 3) := by decide +kernel
theorem dX4_covering_12 : decode cX4_covering 12 = .ok (.ireturn, 1) := by decide +kernel
theorem dX4_mayChange_0 : decode cX4_mayChange 0 = .ok (.iload_n 1, 1) := by decide +kernel
theorem dX4_mayChange_1 : decode cX4_mayChange 1 = .ok (.invokestatic 31, 3) := by decide +kernel
theorem dX4_mayChange_4 : decode cX4_mayChange 4 = .ok (.iload_n 2, 1) := by decide +kernel
theorem dX4_mayChange_5 : decode cX4_mayChange 5 = .ok (.invokestatic 123, 3) := by decide +kernel
theorem dX4_mayChange_8 : decode cX4_mayChange 8 = .ok (.iload_n 3, 1) := by decide +kernel
theorem dX4_mayChange_9 : decode cX4_mayChange 9 = .ok (.invokestatic 38, 3) := by decide +kernel
theorem dX4_mayChange_12 : decode cX4_mayChange 12 = .ok (.aload_n 0, 1) := by decide +kernel
theorem dX4_mayChange_13 : decode cX4_mayChange 13 = .ok (.getfield 19, 3) := by decide +kernel
theorem dX4_mayChange_16 : decode cX4_mayChange 16 = .ok (.iload_n 1, 1) := by decide +kernel
theorem dX4_mayChange_17 : decode cX4_mayChange 17 = .ok (.iload_n 2, 1) := by decide +kernel
theorem dX4_mayChange_18 : decode cX4_mayChange 18 = .ok (.iload_n 3, 1) := by decide +kernel
theorem dX4_mayChange_19 : decode cX4_mayChange 19 = .ok (.invokevirtual 111, 3) := by decide +kernel
theorem dX4_mayChange_22 : decode cX4_mayChange 22 = .ok (.ireturn, 1) := by decide +kernel
theorem dX4_keep_0 : decode cX4_keep 0 = .ok (.iload_n 1, 1) := by decide +kernel
theorem dX4_keep_1 : decode cX4_keep 1 = .ok (.invokestatic 123, 3) := by decide +kernel
theorem dX4_keep_4 : decode cX4_keep 4 = .ok (.aload_n 0, 1) := by decide +kernel
theorem dX4_keep_5 : decode cX4_keep 5 = .ok (.getfield 10, 3) := by decide +kernel
theorem dX4_keep_8 : decode cX4_keep 8 = .ok (.iload_n 1, 1) := by decide +kernel
theorem dX4_keep_9 : decode cX4_keep 9 = .ok (.invokevirtual 129, 3) := by decide +kernel
theorem dX4_keep_12 : decode cX4_keep 12 = .ok (.astore_n 2, 1) := by decide +kernel
theorem dX4_keep_13 : decode cX4_keep 13 = .ok (.aload_n 2, 1) := by decide +kernel
theorem dX4_keep_14 : decode cX4_keep 14 = .ok (.ifnonnull 13, 3) := by decide +kernel
theorem dX4_keep_17 : decode cX4_keep 17 = .ok (.new 153, 3) := by decide +kernel
theorem dX4_keep_20 : decode cX4_keep 20 = .ok (.dup, 1) := by decide +kernel
theorem dX4_keep_21 : decode cX4_keep 21 = .ok (.ldc 197, 2) := by decide +kernel
theorem dX4_keep_23 : decode cX4_keep 23 = .ok (.invokespecial 157, 3) := by decide +kernel
theorem dX4_keep_26 : decode cX4_keep 26 = .ok (.athrow, 1) := by decide +kernel
theorem dX4_keep_27 : decode cX4_keep 27 = .ok (.aload_n 2, 1) := by decide +kernel
theorem dX4_keep_28 : decode cX4_keep 28 = .ok (.getfield 199, 3) := by decide +kernel
theorem dX4_keep_31 : decode cX4_keep 31 = .ok (.bipush 10, 2) := by decide +kernel
theorem dX4_keep_33 : decode cX4_keep 33 = .ok (.if_icmp .lt 13, 3) := by decide +kernel
theorem dX4_keep_36 : decode cX4_keep 36 = .ok (.new 153, 3) := by decide +kernel
theorem dX4_keep_39 : decode cX4_keep 39 = .ok (.dup, 1) := by decide +kernel
theorem dX4_keep_40 : decode cX4_keep 40 = .ok (.ldc 202, 2) := by decide +kernel
theorem dX4_keep_42 : decode cX4_keep 42 = .ok (.invokespecial 157, 3) := by decide +kernel
theorem dX4_keep_45 : decode cX4_keep 45 = .ok (.athrow, 1) := by decide +kernel
theorem dX4_keep_46 : decode cX4_keep 46 = .ok (.aload_n 2, 1) := by decide +kernel
theorem dX4_keep_47 : decode cX4_keep 47 = .ok (.invokevirtual 204, 3) := by decide +kernel
theorem dX4_keep_50 : decode cX4_keep 50 = .ok (.ireturn, 1) := by decide +kernel
theorem dX4_restore_0 : decode cX4_restore 0 = .ok (.iload_n 1, 1) := by decide +kernel
theorem dX4_restore_1 : decode cX4_restore 1 = .ok (.invokestatic 31, 3) := by decide +kernel
theorem dX4_restore_4 : decode cX4_restore 4 = .ok (.iload_n 2, 1) := by decide +kernel
theorem dX4_restore_5 : decode cX4_restore 5 = .ok (.invokestatic 123, 3) := by decide +kernel
theorem dX4_restore_8 : decode cX4_restore 8 = .ok (.iload_n 3, 1) := by decide +kernel
theorem dX4_restore_9 : decode cX4_restore 9 = .ok (.invokestatic 38, 3) := by decide +kernel
theorem dX4_restore_12 : decode cX4_restore 12 = .ok (.iload 4, 2) := by decide +kernel
theorem dX4_restore_14 : decode cX4_restore 14 = .ok (.invokestatic 38, 3) := by decide +kernel
theorem dX4_restore_17 : decode cX4_restore 17 = .ok (.aload_n 0, 1) := by decide +kernel
theorem dX4_restore_18 : decode cX4_restore 18 = .ok (.getfield 10, 3) := by decide +kernel
theorem dX4_restore_21 : decode cX4_restore 21 = .ok (.iload_n 2, 1) := by decide +kernel
theorem dX4_restore_22 : decode cX4_restore 22 = .ok (.invokevirtual 129, 3) := by decide +kernel
theorem dX4_restore_25 : decode cX4_restore 25 = .ok (.astore 5, 2) := by decide +kernel
theorem dX4_restore_27 : decode cX4_restore 27 = .ok (.aload 5, 2) := by decide +kernel
theorem dX4_restore_29 : decode cX4_restore 29 = .ok (.ifnonnull 7, 3) := by decide +kernel
theorem dX4_restore_32 : decode cX4_restore 32 = .ok (.iconst (-1), 1) := by decide +kernel
theorem dX4_restore_33 : decode cX4_restore 33 = .ok (.goto 9, 3) := by decide +kernel
theorem dX4_restore_36 : decode cX4_restore 36 = .ok (.aload 5, 2) := by decide +kernel
theorem dX4_restore_38 : decode cX4_restore 38 = .ok (.iload_n 3, 1) := by decide +kernel
theorem dX4_restore_39 : decode cX4_restore 39 = .ok (.invokevirtual 208, 3) := by decide +kernel
theorem dX4_restore_42 : decode cX4_restore 42 = .ok (.istore 6, 2) := by decide +kernel
theorem dX4_restore_44 : decode cX4_restore 44 = .ok (.aload 5, 2) := by decide +kernel
theorem dX4_restore_46 : decode cX4_restore 46 = .ok (.ifnull 9, 3) := by decide +kernel
theorem dX4_restore_49 : decode cX4_restore 49 = .ok (.iload 6, 2) := by decide +kernel
theorem dX4_restore_51 : decode cX4_restore 51 = .ok (.iconst (-1), 1) := by decide +kernel
theorem dX4_restore_52 : decode cX4_restore 52 = .ok (.if_icmp .ne 5, 3) := by decide +kernel
theorem dX4_restore_55 : decode cX4_restore 55 = .ok (.iconst 1, 1) := by decide +kernel
theorem dX4_restore_56 : decode cX4_restore 56 = .ok (.ireturn, 1) := by decide +kernel
theorem dX4_restore_57 : decode cX4_restore 57 = .ok (.aload_n 0, 1) := by decide +kernel
theorem dX4_restore_58 : decode cX4_restore 58 = .ok (.getfield 19, 3) := by decide +kernel
theorem dX4_restore_61 : decode cX4_restore 61 = .ok (.iload_n 1, 1) := by decide +kernel
theorem dX4_restore_62 : decode cX4_restore 62 = .ok (.iload_n 2, 1) := by decide +kernel
theorem dX4_restore_63 : decode cX4_restore 63 = .ok (.iload 4, 2) := by decide +kernel
theorem dX4_restore_65 : decode cX4_restore 65 = .ok (.invokevirtual 111, 3) := by decide +kernel
theorem dX4_restore_68 : decode cX4_restore 68 = .ok (.ifCond .ne 5, 3) := by decide +kernel
theorem dX4_restore_71 : decode cX4_restore 71 = .ok (.iconst 4, 1) := by decide +kernel
theorem dX4_restore_72 : decode cX4_restore 72 = .ok (.ireturn, 1) := by decide +kernel
theorem dX4_restore_73 : decode cX4_restore 73 = .ok (.aload 5, 2) := by decide +kernel
theorem dX4_restore_75 : decode cX4_restore 75 = .ok (.iload 6, 2) := by decide +kernel
theorem dX4_restore_77 : decode cX4_restore 77 = .ok (.putfield 132, 3) := by decide +kernel
theorem dX4_restore_80 : decode cX4_restore 80 = .ok (.iconst 0, 1) := by decide +kernel
theorem dX4_restore_81 : decode cX4_restore 81 = .ok (.ireturn, 1) := by decide +kernel
theorem dX4_requireRange_0 : decode cX4_requireRange 0 = .ok (.iload_n 0, 1) := by decide +kernel
theorem dX4_requireRange_1 : decode cX4_requireRange 1 = .ok (.iload_n 1, 1) := by decide +kernel
theorem dX4_requireRange_2 : decode cX4_requireRange 2 = .ok (.if_icmp .lt 8, 3) := by decide +kernel
theorem dX4_requireRange_5 : decode cX4_requireRange 5 = .ok (.iload_n 0, 1) := by decide +kernel
theorem dX4_requireRange_6 : decode cX4_requireRange 6 = .ok (.iload_n 2, 1) := by decide +kernel
theorem dX4_requireRange_7 : decode cX4_requireRange 7 = .ok (.if_icmp .le 13, 3) := by decide +kernel
theorem dX4_requireRange_10 : decode cX4_requireRange 10 = .ok (.new 211, 3) := by decide +kernel
theorem dX4_requireRange_13 : decode cX4_requireRange 13 = .ok (.dup, 1) := by decide +kernel
theorem dX4_requireRange_14 : decode cX4_requireRange 14 = .ok (.ldc 213, 2) := by decide +kernel
theorem dX4_requireRange_16 : decode cX4_requireRange 16 = .ok (.invokespecial 215, 3) := by decide +kernel
theorem dX4_requireRange_19 : decode cX4_requireRange 19 = .ok (.athrow, 1) := by decide +kernel
theorem dX4_requireRange_20 : decode cX4_requireRange 20 = .ok (.return_, 1) := by decide +kernel
theorem dX4_requireNotNegative_0 : decode cX4_requireNotNegative 0 = .ok (.iload_n 0, 1) := by decide +kernel
theorem dX4_requireNotNegative_1 : decode cX4_requireNotNegative 1 = .ok (.ifCond .ge 13, 3) := by decide +kernel
theorem dX4_requireNotNegative_4 : decode cX4_requireNotNegative 4 = .ok (.new 211, 3) := by decide +kernel
theorem dX4_requireNotNegative_7 : decode cX4_requireNotNegative 7 = .ok (.dup, 1) := by decide +kernel
theorem dX4_requireNotNegative_8 : decode cX4_requireNotNegative 8 = .ok (.ldc 216, 2) := by decide +kernel
theorem dX4_requireNotNegative_10 : decode cX4_requireNotNegative 10 = .ok (.invokespecial 215, 3) := by decide +kernel
theorem dX4_requireNotNegative_13 : decode cX4_requireNotNegative 13 = .ok (.athrow, 1) := by decide +kernel
theorem dX4_requireNotNegative_14 : decode cX4_requireNotNegative 14 = .ok (.return_, 1) := by decide +kernel
theorem dX4_requireClient_0 : decode cX4_requireClient 0 = .ok (.iload_n 0, 1) := by decide +kernel
theorem dX4_requireClient_1 : decode cX4_requireClient 1 = .ok (.iconst 0, 1) := by decide +kernel
theorem dX4_requireClient_2 : decode cX4_requireClient 2 = .ok (.iconst 3, 1) := by decide +kernel
theorem dX4_requireClient_3 : decode cX4_requireClient 3 = .ok (.invokestatic 64, 3) := by decide +kernel
theorem dX4_requireClient_6 : decode cX4_requireClient 6 = .ok (.return_, 1) := by decide +kernel
theorem dX4_requirePath_0 : decode cX4_requirePath 0 = .ok (.iload_n 0, 1) := by decide +kernel
theorem dX4_requirePath_1 : decode cX4_requirePath 1 = .ok (.invokestatic 218, 3) := by decide +kernel
theorem dX4_requirePath_4 : decode cX4_requirePath 4 = .ok (.ifCond .ne 13, 3) := by decide +kernel
theorem dX4_requirePath_7 : decode cX4_requirePath 7 = .ok (.new 211, 3) := by decide +kernel
theorem dX4_requirePath_10 : decode cX4_requirePath 10 = .ok (.dup, 1) := by decide +kernel
theorem dX4_requirePath_11 : decode cX4_requirePath 11 = .ok (.ldc 221, 2) := by decide +kernel
theorem dX4_requirePath_13 : decode cX4_requirePath 13 = .ok (.invokespecial 215, 3) := by decide +kernel
theorem dX4_requirePath_16 : decode cX4_requirePath 16 = .ok (.athrow, 1) := by decide +kernel
theorem dX4_requirePath_17 : decode cX4_requirePath 17 = .ok (.return_, 1) := by decide +kernel
theorem dX4_requirePathBelowTop_0 : decode cX4_requirePathBelowTop 0 = .ok (.iload_n 0, 1) := by decide +kernel
theorem dX4_requirePathBelowTop_1 : decode cX4_requirePathBelowTop 1 = .ok (.invokestatic 123, 3) := by decide +kernel
theorem dX4_requirePathBelowTop_4 : decode cX4_requirePathBelowTop 4 = .ok (.iload_n 0, 1) := by decide +kernel
theorem dX4_requirePathBelowTop_5 : decode cX4_requirePathBelowTop 5 = .ok (.ifCond .ne 13, 3) := by decide +kernel
theorem dX4_requirePathBelowTop_8 : decode cX4_requirePathBelowTop 8 = .ok (.new 211, 3) := by decide +kernel
theorem dX4_requirePathBelowTop_11 : decode cX4_requirePathBelowTop 11 = .ok (.dup, 1) := by decide +kernel
theorem dX4_requirePathBelowTop_12 : decode cX4_requirePathBelowTop 12 = .ok (.ldc 223, 2) := by decide +kernel
theorem dX4_requirePathBelowTop_14 : decode cX4_requirePathBelowTop 14 = .ok (.invokespecial 215, 3) := by decide +kernel
theorem dX4_requirePathBelowTop_17 : decode cX4_requirePathBelowTop 17 = .ok (.athrow, 1) := by decide +kernel
theorem dX4_requirePathBelowTop_18 : decode cX4_requirePathBelowTop 18 = .ok (.return_, 1) := by decide +kernel
theorem dX4_requireTransfer_0 : decode cX4_requireTransfer 0 = .ok (.iload_n 0, 1) := by decide +kernel
theorem dX4_requireTransfer_1 : decode cX4_requireTransfer 1 = .ok (.invokestatic 31, 3) := by decide +kernel
theorem dX4_requireTransfer_4 : decode cX4_requireTransfer 4 = .ok (.iload_n 1, 1) := by decide +kernel
theorem dX4_requireTransfer_5 : decode cX4_requireTransfer 5 = .ok (.invokestatic 35, 3) := by decide +kernel
theorem dX4_requireTransfer_8 : decode cX4_requireTransfer 8 = .ok (.iload_n 2, 1) := by decide +kernel
theorem dX4_requireTransfer_9 : decode cX4_requireTransfer 9 = .ok (.invokestatic 35, 3) := by decide +kernel
theorem dX4_requireTransfer_12 : decode cX4_requireTransfer 12 = .ok (.iload_n 3, 1) := by decide +kernel
theorem dX4_requireTransfer_13 : decode cX4_requireTransfer 13 = .ok (.invokestatic 38, 3) := by decide +kernel
theorem dX4_requireTransfer_16 : decode cX4_requireTransfer 16 = .ok (.iload_n 1, 1) := by decide +kernel
theorem dX4_requireTransfer_17 : decode cX4_requireTransfer 17 = .ok (.iload_n 2, 1) := by decide +kernel
theorem dX4_requireTransfer_18 : decode cX4_requireTransfer 18 = .ok (.invokestatic 225, 3) := by decide +kernel
theorem dX4_requireTransfer_21 : decode cX4_requireTransfer 21 = .ok (.ifCond .ne 11, 3) := by decide +kernel
theorem dX4_requireTransfer_24 : decode cX4_requireTransfer 24 = .ok (.iload_n 2, 1) := by decide +kernel
theorem dX4_requireTransfer_25 : decode cX4_requireTransfer 25 = .ok (.iload_n 1, 1) := by decide +kernel
theorem dX4_requireTransfer_26 : decode cX4_requireTransfer 26 = .ok (.invokestatic 225, 3) := by decide +kernel
theorem dX4_requireTransfer_29 : decode cX4_requireTransfer 29 = .ok (.ifCond .eq 13, 3) := by decide +kernel
theorem dX4_requireTransfer_32 : decode cX4_requireTransfer 32 = .ok (.new 211, 3) := by decide +kernel
theorem dX4_requireTransfer_35 : decode cX4_requireTransfer 35 = .ok (.dup, 1) := by decide +kernel
theorem dX4_requireTransfer_36 : decode cX4_requireTransfer 36 = .ok (.ldc 229, 2) := by decide +kernel
theorem dX4_requireTransfer_38 : decode cX4_requireTransfer 38 = .ok (.invokespecial 215, 3) := by decide +kernel
theorem dX4_requireTransfer_41 : decode cX4_requireTransfer 41 = .ok (.athrow, 1) := by decide +kernel
theorem dX4_requireTransfer_42 : decode cX4_requireTransfer 42 = .ok (.return_, 1) := by decide +kernel
theorem dX4_isPath_0 : decode cX4_isPath 0 = .ok (.iload_n 0, 1) := by decide +kernel
theorem dX4_isPath_1 : decode cX4_isPath 1 = .ok (.ifCond .lt 10, 3) := by decide +kernel
theorem dX4_isPath_4 : decode cX4_isPath 4 = .ok (.iload_n 0, 1) := by decide +kernel
theorem dX4_isPath_5 : decode cX4_isPath 5 = .ok (.sipush 9999, 3) := by decide +kernel
theorem dX4_isPath_8 : decode cX4_isPath 8 = .ok (.if_icmp .le 5, 3) := by decide +kernel
theorem dX4_isPath_11 : decode cX4_isPath 11 = .ok (.iconst 0, 1) := by decide +kernel
theorem dX4_isPath_12 : decode cX4_isPath 12 = .ok (.ireturn, 1) := by decide +kernel
theorem dX4_isPath_13 : decode cX4_isPath 13 = .ok (.iload_n 0, 1) := by decide +kernel
theorem dX4_isPath_14 : decode cX4_isPath 14 = .ok (.istore_n 1, 1) := by decide +kernel
theorem dX4_isPath_15 : decode cX4_isPath 15 = .ok (.iconst 0, 1) := by decide +kernel
theorem dX4_isPath_16 : decode cX4_isPath 16 = .ok (.istore_n 2, 1) := by decide +kernel
theorem dX4_isPath_17 : decode cX4_isPath 17 = .ok (.iload_n 2, 1) := by decide +kernel
theorem dX4_isPath_18 : decode cX4_isPath 18 = .ok (.iconst 4, 1) := by decide +kernel
theorem dX4_isPath_19 : decode cX4_isPath 19 = .ok (.if_icmp .ge 27, 3) := by decide +kernel
theorem dX4_isPath_22 : decode cX4_isPath 22 = .ok (.iload_n 1, 1) := by decide +kernel
theorem dX4_isPath_23 : decode cX4_isPath 23 = .ok (.ifCond .le 23, 3) := by decide +kernel
theorem dX4_isPath_26 : decode cX4_isPath 26 = .ok (.iload_n 1, 1) := by decide +kernel
theorem dX4_isPath_27 : decode cX4_isPath 27 = .ok (.bipush 10, 2) := by decide +kernel
theorem dX4_isPath_29 : decode cX4_isPath 29 = .ok (.irem, 1) := by decide +kernel
theorem dX4_isPath_30 : decode cX4_isPath 30 = .ok (.ifCond .ne 5, 3) := by decide +kernel
theorem dX4_isPath_33 : decode cX4_isPath 33 = .ok (.iconst 0, 1) := by decide +kernel
theorem dX4_isPath_34 : decode cX4_isPath 34 = .ok (.ireturn, 1) := by decide +kernel
theorem dX4_isPath_35 : decode cX4_isPath 35 = .ok (.iload_n 1, 1) := by decide +kernel
theorem dX4_isPath_36 : decode cX4_isPath 36 = .ok (.bipush 10, 2) := by decide +kernel
theorem dX4_isPath_38 : decode cX4_isPath 38 = .ok (.idiv, 1) := by decide +kernel
theorem dX4_isPath_39 : decode cX4_isPath 39 = .ok (.istore_n 1, 1) := by decide +kernel
theorem dX4_isPath_40 : decode cX4_isPath 40 = .ok (.iinc 2 1, 3) := by decide +kernel
theorem dX4_isPath_43 : decode cX4_isPath 43 = .ok (.goto (-26), 3) := by decide +kernel
theorem dX4_isPath_46 : decode cX4_isPath 46 = .ok (.iconst 1, 1) := by decide +kernel
theorem dX4_isPath_47 : decode cX4_isPath 47 = .ok (.ireturn, 1) := by decide +kernel
theorem dX4_parentOf_0 : decode cX4_parentOf 0 = .ok (.iload_n 0, 1) := by decide +kernel
theorem dX4_parentOf_1 : decode cX4_parentOf 1 = .ok (.bipush 10, 2) := by decide +kernel
theorem dX4_parentOf_3 : decode cX4_parentOf 3 = .ok (.idiv, 1) := by decide +kernel
theorem dX4_parentOf_4 : decode cX4_parentOf 4 = .ok (.ireturn, 1) := by decide +kernel
theorem dX4_isAbove_0 : decode cX4_isAbove 0 = .ok (.iload_n 1, 1) := by decide +kernel
theorem dX4_isAbove_1 : decode cX4_isAbove 1 = .ok (.istore_n 2, 1) := by decide +kernel
theorem dX4_isAbove_2 : decode cX4_isAbove 2 = .ok (.iconst 0, 1) := by decide +kernel
theorem dX4_isAbove_3 : decode cX4_isAbove 3 = .ok (.istore_n 3, 1) := by decide +kernel
theorem dX4_isAbove_4 : decode cX4_isAbove 4 = .ok (.iload_n 3, 1) := by decide +kernel
theorem dX4_isAbove_5 : decode cX4_isAbove 5 = .ok (.iconst 4, 1) := by decide +kernel
theorem dX4_isAbove_6 : decode cX4_isAbove 6 = .ok (.if_icmp .ge 25, 3) := by decide +kernel
theorem dX4_isAbove_9 : decode cX4_isAbove 9 = .ok (.iload_n 2, 1) := by decide +kernel
theorem dX4_isAbove_10 : decode cX4_isAbove 10 = .ok (.ifCond .le 21, 3) := by decide +kernel
theorem dX4_isAbove_13 : decode cX4_isAbove 13 = .ok (.iload_n 2, 1) := by decide +kernel
theorem dX4_isAbove_14 : decode cX4_isAbove 14 = .ok (.bipush 10, 2) := by decide +kernel
theorem dX4_isAbove_16 : decode cX4_isAbove 16 = .ok (.idiv, 1) := by decide +kernel
theorem dX4_isAbove_17 : decode cX4_isAbove 17 = .ok (.istore_n 2, 1) := by decide +kernel
theorem dX4_isAbove_18 : decode cX4_isAbove 18 = .ok (.iload_n 2, 1) := by decide +kernel
theorem dX4_isAbove_19 : decode cX4_isAbove 19 = .ok (.iload_n 0, 1) := by decide +kernel
theorem dX4_isAbove_20 : decode cX4_isAbove 20 = .ok (.if_icmp .ne 5, 3) := by decide +kernel
theorem dX4_isAbove_23 : decode cX4_isAbove 23 = .ok (.iconst 1, 1) := by decide +kernel
theorem dX4_isAbove_24 : decode cX4_isAbove 24 = .ok (.ireturn, 1) := by decide +kernel
theorem dX4_isAbove_25 : decode cX4_isAbove 25 = .ok (.iinc 3 1, 3) := by decide +kernel
theorem dX4_isAbove_28 : decode cX4_isAbove 28 = .ok (.goto (-24), 3) := by decide +kernel
theorem dX4_isAbove_31 : decode cX4_isAbove 31 = .ok (.iconst 0, 1) := by decide +kernel
theorem dX4_isAbove_32 : decode cX4_isAbove 32 = .ok (.ireturn, 1) := by decide +kernel
theorem dX4_isIn_0 : decode cX4_isIn 0 = .ok (.iload_n 1, 1) := by decide +kernel
theorem dX4_isIn_1 : decode cX4_isIn 1 = .ok (.iload_n 0, 1) := by decide +kernel
theorem dX4_isIn_2 : decode cX4_isIn 2 = .ok (.if_icmp .eq 11, 3) := by decide +kernel
theorem dX4_isIn_5 : decode cX4_isIn 5 = .ok (.iload_n 0, 1) := by decide +kernel
theorem dX4_isIn_6 : decode cX4_isIn 6 = .ok (.iload_n 1, 1) := by decide +kernel
theorem dX4_isIn_7 : decode cX4_isIn 7 = .ok (.invokestatic 231, 3) := by decide +kernel
theorem dX4_isIn_10 : decode cX4_isIn 10 = .ok (.ifCond .eq 7, 3) := by decide +kernel
theorem dX4_isIn_13 : decode cX4_isIn 13 = .ok (.iconst 1, 1) := by decide +kernel
theorem dX4_isIn_14 : decode cX4_isIn 14 = .ok (.goto 4, 3) := by decide +kernel
theorem dX4_isIn_17 : decode cX4_isIn 17 = .ok (.iconst 0, 1) := by decide +kernel
theorem dX4_isIn_18 : decode cX4_isIn 18 = .ok (.ireturn, 1) := by decide +kernel
theorem dX4_moved_0 : decode cX4_moved 0 = .ok (.iload_n 0, 1) := by decide +kernel
theorem dX4_moved_1 : decode cX4_moved 1 = .ok (.istore_n 3, 1) := by decide +kernel
theorem dX4_moved_2 : decode cX4_moved 2 = .ok (.iconst 1, 1) := by decide +kernel
theorem dX4_moved_3 : decode cX4_moved 3 = .ok (.istore 4, 2) := by decide +kernel
theorem dX4_moved_5 : decode cX4_moved 5 = .ok (.iconst 0, 1) := by decide +kernel
theorem dX4_moved_6 : decode cX4_moved 6 = .ok (.istore 5, 2) := by decide +kernel
theorem dX4_moved_8 : decode cX4_moved 8 = .ok (.iload 5, 2) := by decide +kernel
theorem dX4_moved_10 : decode cX4_moved 10 = .ok (.iconst 4, 1) := by decide +kernel
theorem dX4_moved_11 : decode cX4_moved 11 = .ok (.if_icmp .ge 26, 3) := by decide +kernel
theorem dX4_moved_14 : decode cX4_moved 14 = .ok (.iload_n 3, 1) := by decide +kernel
theorem dX4_moved_15 : decode cX4_moved 15 = .ok (.iload_n 1, 1) := by decide +kernel
theorem dX4_moved_16 : decode cX4_moved 16 = .ok (.if_icmp .le 21, 3) := by decide +kernel
theorem dX4_moved_19 : decode cX4_moved 19 = .ok (.iload_n 3, 1) := by decide +kernel
theorem dX4_moved_20 : decode cX4_moved 20 = .ok (.bipush 10, 2) := by decide +kernel
theorem dX4_moved_22 : decode cX4_moved 22 = .ok (.idiv, 1) := by decide +kernel
theorem dX4_moved_23 : decode cX4_moved 23 = .ok (.istore_n 3, 1) := by decide +kernel
theorem dX4_moved_24 : decode cX4_moved 24 = .ok (.iload 4, 2) := by decide +kernel
theorem dX4_moved_26 : decode cX4_moved 26 = .ok (.bipush 10, 2) := by decide +kernel
theorem dX4_moved_28 : decode cX4_moved 28 = .ok (.imul, 1) := by decide +kernel
theorem dX4_moved_29 : decode cX4_moved 29 = .ok (.istore 4, 2) := by decide +kernel
theorem dX4_moved_31 : decode cX4_moved 31 = .ok (.iinc 5 1, 3) := by decide +kernel
theorem dX4_moved_34 : decode cX4_moved 34 = .ok (.goto (-26), 3) := by decide +kernel
theorem dX4_moved_37 : decode cX4_moved 37 = .ok (.iload_n 0, 1) := by decide +kernel
theorem dX4_moved_38 : decode cX4_moved 38 = .ok (.iload_n 2, 1) := by decide +kernel
theorem dX4_moved_39 : decode cX4_moved 39 = .ok (.iload_n 1, 1) := by decide +kernel
theorem dX4_moved_40 : decode cX4_moved 40 = .ok (.isub, 1) := by decide +kernel
theorem dX4_moved_41 : decode cX4_moved 41 = .ok (.iload 4, 2) := by decide +kernel
theorem dX4_moved_43 : decode cX4_moved 43 = .ok (.imul, 1) := by decide +kernel
theorem dX4_moved_44 : decode cX4_moved 44 = .ok (.iadd, 1) := by decide +kernel
theorem dX4_moved_45 : decode cX4_moved 45 = .ok (.ireturn, 1) := by decide +kernel
theorem dX4_allowsWithParent_0 : decode cX4_allowsWithParent 0 = .ok (.aload_n 0, 1) := by decide +kernel
theorem dX4_allowsWithParent_1 : decode cX4_allowsWithParent 1 = .ok (.getfield 19, 3) := by decide +kernel
theorem dX4_allowsWithParent_4 : decode cX4_allowsWithParent 4 = .ok (.iload_n 1, 1) := by decide +kernel
theorem dX4_allowsWithParent_5 : decode cX4_allowsWithParent 5 = .ok (.iload_n 2, 1) := by decide +kernel
theorem dX4_allowsWithParent_6 : decode cX4_allowsWithParent 6 = .ok (.iload_n 3, 1) := by decide +kernel
theorem dX4_allowsWithParent_7 : decode cX4_allowsWithParent 7 = .ok (.invokevirtual 111, 3) := by decide +kernel
theorem dX4_allowsWithParent_10 : decode cX4_allowsWithParent 10 = .ok (.ifCond .eq 23, 3) := by decide +kernel
theorem dX4_allowsWithParent_13 : decode cX4_allowsWithParent 13 = .ok (.aload_n 0, 1) := by decide +kernel
theorem dX4_allowsWithParent_14 : decode cX4_allowsWithParent 14 = .ok (.getfield 19, 3) := by decide +kernel
theorem dX4_allowsWithParent_17 : decode cX4_allowsWithParent 17 = .ok (.iload_n 1, 1) := by decide +kernel
theorem dX4_allowsWithParent_18 : decode cX4_allowsWithParent 18 = .ok (.iload_n 2, 1) := by decide +kernel
theorem dX4_allowsWithParent_19 : decode cX4_allowsWithParent 19 = .ok (.invokestatic 41, 3) := by decide +kernel
theorem dX4_allowsWithParent_22 : decode cX4_allowsWithParent 22 = .ok (.iload_n 3, 1) := by decide +kernel
theorem dX4_allowsWithParent_23 : decode cX4_allowsWithParent 23 = .ok (.invokevirtual 111, 3) := by decide +kernel
theorem dX4_allowsWithParent_26 : decode cX4_allowsWithParent 26 = .ok (.ifCond .eq 7, 3) := by decide +kernel
theorem dX4_allowsWithParent_29 : decode cX4_allowsWithParent 29 = .ok (.iconst 1, 1) := by decide +kernel
theorem dX4_allowsWithParent_30 : decode cX4_allowsWithParent 30 = .ok (.goto 4, 3) := by decide +kernel
theorem dX4_allowsWithParent_33 : decode cX4_allowsWithParent 33 = .ok (.iconst 0, 1) := by decide +kernel
theorem dX4_allowsWithParent_34 : decode cX4_allowsWithParent 34 = .ok (.ireturn, 1) := by decide +kernel
theorem dX4_allowsTree_0 : decode cX4_allowsTree 0 = .ok (.iconst 0, 1) := by decide +kernel
theorem dX4_allowsTree_1 : decode cX4_allowsTree 1 = .ok (.istore 4, 2) := by decide +kernel
theorem dX4_allowsTree_3 : decode cX4_allowsTree 3 = .ok (.iload 4, 2) := by decide +kernel
theorem dX4_allowsTree_5 : decode cX4_allowsTree 5 = .ok (.aload_n 0, 1) := by decide +kernel
theorem dX4_allowsTree_6 : decode cX4_allowsTree 6 = .ok (.getfield 10, 3) := by decide +kernel
theorem dX4_allowsTree_9 : decode cX4_allowsTree 9 = .ok (.getfield 57, 3) := by decide +kernel
theorem dX4_allowsTree_12 : decode cX4_allowsTree 12 = .ok (.if_icmp .ge 45, 3) := by decide +kernel
theorem dX4_allowsTree_15 : decode cX4_allowsTree 15 = .ok (.aload_n 0, 1) := by decide +kernel
theorem dX4_allowsTree_16 : decode cX4_allowsTree 16 = .ok (.getfield 10, 3) := by decide +kernel
theorem dX4_allowsTree_19 : decode cX4_allowsTree 19 = .ok (.iload 4, 2) := by decide +kernel
theorem dX4_allowsTree_21 : decode cX4_allowsTree 21 = .ok (.invokevirtual 144, 3) := by decide +kernel
theorem dX4_allowsTree_24 : decode cX4_allowsTree 24 = .ok (.istore 5, 2) := by decide +kernel
theorem dX4_allowsTree_26 : decode cX4_allowsTree 26 = .ok (.iload_n 2, 1) := by decide +kernel
theorem dX4_allowsTree_27 : decode cX4_allowsTree 27 = .ok (.iload 5, 2) := by decide +kernel
theorem dX4_allowsTree_29 : decode cX4_allowsTree 29 = .ok (.invokestatic 225, 3) := by decide +kernel
theorem dX4_allowsTree_32 : decode cX4_allowsTree 32 = .ok (.ifCond .eq 19, 3) := by decide +kernel
theorem dX4_allowsTree_35 : decode cX4_allowsTree 35 = .ok (.aload_n 0, 1) := by decide +kernel
theorem dX4_allowsTree_36 : decode cX4_allowsTree 36 = .ok (.getfield 19, 3) := by decide +kernel
theorem dX4_allowsTree_39 : decode cX4_allowsTree 39 = .ok (.iload_n 1, 1) := by decide +kernel
theorem dX4_allowsTree_40 : decode cX4_allowsTree 40 = .ok (.iload 5, 2) := by decide +kernel
theorem dX4_allowsTree_42 : decode cX4_allowsTree 42 = .ok (.iload_n 3, 1) := by decide +kernel
theorem dX4_allowsTree_43 : decode cX4_allowsTree 43 = .ok (.invokevirtual 111, 3) := by decide +kernel
theorem dX4_allowsTree_46 : decode cX4_allowsTree 46 = .ok (.ifCond .ne 5, 3) := by decide +kernel
theorem dX4_allowsTree_49 : decode cX4_allowsTree 49 = .ok (.iconst 0, 1) := by decide +kernel
theorem dX4_allowsTree_50 : decode cX4_allowsTree 50 = .ok (.ireturn, 1) := by decide +kernel
theorem dX4_allowsTree_51 : decode cX4_allowsTree 51 = .ok (.iinc 4 1, 3) := by decide +kernel
theorem dX4_allowsTree_54 : decode cX4_allowsTree 54 = .ok (.goto (-51), 3) := by decide +kernel
theorem dX4_allowsTree_57 : decode cX4_allowsTree 57 = .ok (.iconst 1, 1) := by decide +kernel
theorem dX4_allowsTree_58 : decode cX4_allowsTree 58 = .ok (.ireturn, 1) := by decide +kernel
theorem dX4_outcomeOfWriting_0 : decode cX4_outcomeOfWriting 0 = .ok (.aload_n 0, 1) := by decide +kernel
theorem dX4_outcomeOfWriting_1 : decode cX4_outcomeOfWriting 1 = .ok (.getfield 10, 3) := by decide +kernel
theorem dX4_outcomeOfWriting_4 : decode cX4_outcomeOfWriting 4 = .ok (.iload_n 2, 1) := by decide +kernel
theorem dX4_outcomeOfWriting_5 : decode cX4_outcomeOfWriting 5 = .ok (.invokestatic 41, 3) := by decide +kernel
theorem dX4_outcomeOfWriting_8 : decode cX4_outcomeOfWriting 8 = .ok (.invokevirtual 45, 3) := by decide +kernel
theorem dX4_outcomeOfWriting_11 : decode cX4_outcomeOfWriting 11 = .ok (.ifCond .ne 5, 3) := by decide +kernel
theorem dX4_outcomeOfWriting_14 : decode cX4_outcomeOfWriting 14 = .ok (.iconst 1, 1) := by decide +kernel
theorem dX4_outcomeOfWriting_15 : decode cX4_outcomeOfWriting 15 = .ok (.ireturn, 1) := by decide +kernel
theorem dX4_outcomeOfWriting_16 : decode cX4_outcomeOfWriting 16 = .ok (.aload_n 0, 1) := by decide +kernel
theorem dX4_outcomeOfWriting_17 : decode cX4_outcomeOfWriting 17 = .ok (.getfield 10, 3) := by decide +kernel
theorem dX4_outcomeOfWriting_20 : decode cX4_outcomeOfWriting 20 = .ok (.iload_n 2, 1) := by decide +kernel
theorem dX4_outcomeOfWriting_21 : decode cX4_outcomeOfWriting 21 = .ok (.invokevirtual 45, 3) := by decide +kernel
theorem dX4_outcomeOfWriting_24 : decode cX4_outcomeOfWriting 24 = .ok (.ifCond .eq 5, 3) := by decide +kernel
theorem dX4_outcomeOfWriting_27 : decode cX4_outcomeOfWriting 27 = .ok (.iconst 2, 1) := by decide +kernel
theorem dX4_outcomeOfWriting_28 : decode cX4_outcomeOfWriting 28 = .ok (.ireturn, 1) := by decide +kernel
theorem dX4_outcomeOfWriting_29 : decode cX4_outcomeOfWriting 29 = .ok (.aload_n 0, 1) := by decide +kernel
theorem dX4_outcomeOfWriting_30 : decode cX4_outcomeOfWriting 30 = .ok (.getfield 10, 3) := by decide +kernel
theorem dX4_outcomeOfWriting_33 : decode cX4_outcomeOfWriting 33 = .ok (.iload_n 2, 1) := by decide +kernel
theorem dX4_outcomeOfWriting_34 : decode cX4_outcomeOfWriting 34 = .ok (.invokevirtual 129, 3) := by decide +kernel
theorem dX4_outcomeOfWriting_37 : decode cX4_outcomeOfWriting 37 = .ok (.astore 5, 2) := by decide +kernel
theorem dX4_outcomeOfWriting_39 : decode cX4_outcomeOfWriting 39 = .ok (.iload_n 3, 1) := by decide +kernel
theorem dX4_outcomeOfWriting_40 : decode cX4_outcomeOfWriting 40 = .ok (.iconst (-1), 1) := by decide +kernel
theorem dX4_outcomeOfWriting_41 : decode cX4_outcomeOfWriting 41 = .ok (.if_icmp .eq 19, 3) := by decide +kernel
theorem dX4_outcomeOfWriting_44 : decode cX4_outcomeOfWriting 44 = .ok (.aload 5, 2) := by decide +kernel
theorem dX4_outcomeOfWriting_46 : decode cX4_outcomeOfWriting 46 = .ok (.ifnull 12, 3) := by decide +kernel
theorem dX4_outcomeOfWriting_49 : decode cX4_outcomeOfWriting 49 = .ok (.aload 5, 2) := by decide +kernel
theorem dX4_outcomeOfWriting_51 : decode cX4_outcomeOfWriting 51 = .ok (.getfield 132, 3) := by decide +kernel
theorem dX4_outcomeOfWriting_54 : decode cX4_outcomeOfWriting 54 = .ok (.iload_n 3, 1) := by decide +kernel
theorem dX4_outcomeOfWriting_55 : decode cX4_outcomeOfWriting 55 = .ok (.if_icmp .eq 5, 3) := by decide +kernel
theorem dX4_outcomeOfWriting_58 : decode cX4_outcomeOfWriting 58 = .ok (.iconst 3, 1) := by decide +kernel
theorem dX4_outcomeOfWriting_59 : decode cX4_outcomeOfWriting 59 = .ok (.ireturn, 1) := by decide +kernel
theorem dX4_outcomeOfWriting_60 : decode cX4_outcomeOfWriting 60 = .ok (.aload 5, 2) := by decide +kernel
theorem dX4_outcomeOfWriting_62 : decode cX4_outcomeOfWriting 62 = .ok (.ifnull 23, 3) := by decide +kernel
theorem dX4_outcomeOfWriting_65 : decode cX4_outcomeOfWriting 65 = .ok (.aload_n 0, 1) := by decide +kernel
theorem dX4_outcomeOfWriting_66 : decode cX4_outcomeOfWriting 66 = .ok (.getfield 19, 3) := by decide +kernel
theorem dX4_outcomeOfWriting_69 : decode cX4_outcomeOfWriting 69 = .ok (.iload_n 1, 1) := by decide +kernel
theorem dX4_outcomeOfWriting_70 : decode cX4_outcomeOfWriting 70 = .ok (.iload_n 2, 1) := by decide +kernel
theorem dX4_outcomeOfWriting_71 : decode cX4_outcomeOfWriting 71 = .ok (.iload 4, 2) := by decide +kernel
theorem dX4_outcomeOfWriting_73 : decode cX4_outcomeOfWriting 73 = .ok (.invokevirtual 111, 3) := by decide +kernel
theorem dX4_outcomeOfWriting_76 : decode cX4_outcomeOfWriting 76 = .ok (.ifCond .eq 7, 3) := by decide +kernel
theorem dX4_outcomeOfWriting_79 : decode cX4_outcomeOfWriting 79 = .ok (.iconst 0, 1) := by decide +kernel
theorem dX4_outcomeOfWriting_80 : decode cX4_outcomeOfWriting 80 = .ok (.goto 4, 3) := by decide +kernel
theorem dX4_outcomeOfWriting_83 : decode cX4_outcomeOfWriting 83 = .ok (.iconst 4, 1) := by decide +kernel
theorem dX4_outcomeOfWriting_84 : decode cX4_outcomeOfWriting 84 = .ok (.ireturn, 1) := by decide +kernel
theorem dX4_outcomeOfWriting_85 : decode cX4_outcomeOfWriting 85 = .ok (.aload_n 0, 1) := by decide +kernel
theorem dX4_outcomeOfWriting_86 : decode cX4_outcomeOfWriting 86 = .ok (.iload_n 1, 1) := by decide +kernel
theorem dX4_outcomeOfWriting_87 : decode cX4_outcomeOfWriting 87 = .ok (.iload_n 2, 1) := by decide +kernel
theorem dX4_outcomeOfWriting_88 : decode cX4_outcomeOfWriting 88 = .ok (.iload 4, 2) := by decide +kernel
theorem dX4_outcomeOfWriting_90 : decode cX4_outcomeOfWriting 90 = .ok (.invokevirtual 53, 3) := by decide +kernel
theorem dX4_outcomeOfWriting_93 : decode cX4_outcomeOfWriting 93 = .ok (.ifCond .ne 5, 3) := by decide +kernel
theorem dX4_outcomeOfWriting_96 : decode cX4_outcomeOfWriting 96 = .ok (.iconst 4, 1) := by decide +kernel
theorem dX4_outcomeOfWriting_97 : decode cX4_outcomeOfWriting 97 = .ok (.ireturn, 1) := by decide +kernel
theorem dX4_outcomeOfWriting_98 : decode cX4_outcomeOfWriting 98 = .ok (.aload_n 0, 1) := by decide +kernel
theorem dX4_outcomeOfWriting_99 : decode cX4_outcomeOfWriting 99 = .ok (.getfield 10, 3) := by decide +kernel
theorem dX4_outcomeOfWriting_102 : decode cX4_outcomeOfWriting 102 = .ok (.getfield 57, 3) := by decide +kernel
theorem dX4_outcomeOfWriting_105 : decode cX4_outcomeOfWriting 105 = .ok (.bipush 60, 2) := by decide +kernel
theorem dX4_outcomeOfWriting_107 : decode cX4_outcomeOfWriting 107 = .ok (.if_icmp .lt 7, 3) := by decide +kernel
theorem dX4_outcomeOfWriting_110 : decode cX4_outcomeOfWriting 110 = .ok (.iconst 5, 1) := by decide +kernel
theorem dX4_outcomeOfWriting_111 : decode cX4_outcomeOfWriting 111 = .ok (.goto 4, 3) := by decide +kernel
theorem dX4_outcomeOfWriting_114 : decode cX4_outcomeOfWriting 114 = .ok (.iconst 0, 1) := by decide +kernel
theorem dX4_outcomeOfWriting_115 : decode cX4_outcomeOfWriting 115 = .ok (.ireturn, 1) := by decide +kernel
theorem dX4_outcomeOfTarget_0 : decode cX4_outcomeOfTarget 0 = .ok (.aload_n 0, 1) := by decide +kernel
theorem dX4_outcomeOfTarget_1 : decode cX4_outcomeOfTarget 1 = .ok (.getfield 10, 3) := by decide +kernel
theorem dX4_outcomeOfTarget_4 : decode cX4_outcomeOfTarget 4 = .ok (.iload_n 2, 1) := by decide +kernel
theorem dX4_outcomeOfTarget_5 : decode cX4_outcomeOfTarget 5 = .ok (.invokevirtual 49, 3) := by decide +kernel
theorem dX4_outcomeOfTarget_8 : decode cX4_outcomeOfTarget 8 = .ok (.ifnull 29, 3) := by decide +kernel
theorem dX4_outcomeOfTarget_11 : decode cX4_outcomeOfTarget 11 = .ok (.aload_n 0, 1) := by decide +kernel
theorem dX4_outcomeOfTarget_12 : decode cX4_outcomeOfTarget 12 = .ok (.getfield 10, 3) := by decide +kernel
theorem dX4_outcomeOfTarget_15 : decode cX4_outcomeOfTarget 15 = .ok (.iload_n 3, 1) := by decide +kernel
theorem dX4_outcomeOfTarget_16 : decode cX4_outcomeOfTarget 16 = .ok (.invokestatic 41, 3) := by decide +kernel
theorem dX4_outcomeOfTarget_19 : decode cX4_outcomeOfTarget 19 = .ok (.invokevirtual 45, 3) := by decide +kernel
theorem dX4_outcomeOfTarget_22 : decode cX4_outcomeOfTarget 22 = .ok (.ifCond .eq 15, 3) := by decide +kernel
theorem dX4_outcomeOfTarget_25 : decode cX4_outcomeOfTarget 25 = .ok (.aload_n 0, 1) := by decide +kernel
theorem dX4_outcomeOfTarget_26 : decode cX4_outcomeOfTarget 26 = .ok (.getfield 10, 3) := by decide +kernel
theorem dX4_outcomeOfTarget_29 : decode cX4_outcomeOfTarget 29 = .ok (.iload_n 2, 1) := by decide +kernel
theorem dX4_outcomeOfTarget_30 : decode cX4_outcomeOfTarget 30 = .ok (.iload_n 3, 1) := by decide +kernel
theorem dX4_outcomeOfTarget_31 : decode cX4_outcomeOfTarget 31 = .ok (.invokevirtual 234, 3) := by decide +kernel
theorem dX4_outcomeOfTarget_34 : decode cX4_outcomeOfTarget 34 = .ok (.ifCond .ne 5, 3) := by decide +kernel
theorem dX4_outcomeOfTarget_37 : decode cX4_outcomeOfTarget 37 = .ok (.iconst 1, 1) := by decide +kernel
theorem dX4_outcomeOfTarget_38 : decode cX4_outcomeOfTarget 38 = .ok (.ireturn, 1) := by decide +kernel
theorem dX4_outcomeOfTarget_39 : decode cX4_outcomeOfTarget 39 = .ok (.iload 4, 2) := by decide +kernel
theorem dX4_outcomeOfTarget_41 : decode cX4_outcomeOfTarget 41 = .ok (.ifCond .ne 16, 3) := by decide +kernel
theorem dX4_outcomeOfTarget_44 : decode cX4_outcomeOfTarget 44 = .ok (.aload_n 0, 1) := by decide +kernel
theorem dX4_outcomeOfTarget_45 : decode cX4_outcomeOfTarget 45 = .ok (.getfield 10, 3) := by decide +kernel
theorem dX4_outcomeOfTarget_48 : decode cX4_outcomeOfTarget 48 = .ok (.iload_n 3, 1) := by decide +kernel
theorem dX4_outcomeOfTarget_49 : decode cX4_outcomeOfTarget 49 = .ok (.invokevirtual 49, 3) := by decide +kernel
theorem dX4_outcomeOfTarget_52 : decode cX4_outcomeOfTarget 52 = .ok (.ifnull 5, 3) := by decide +kernel
theorem dX4_outcomeOfTarget_55 : decode cX4_outcomeOfTarget 55 = .ok (.iconst 2, 1) := by decide +kernel
theorem dX4_outcomeOfTarget_56 : decode cX4_outcomeOfTarget 56 = .ok (.ireturn, 1) := by decide +kernel
theorem dX4_outcomeOfTarget_57 : decode cX4_outcomeOfTarget 57 = .ok (.aload_n 0, 1) := by decide +kernel
theorem dX4_outcomeOfTarget_58 : decode cX4_outcomeOfTarget 58 = .ok (.iload_n 1, 1) := by decide +kernel
theorem dX4_outcomeOfTarget_59 : decode cX4_outcomeOfTarget 59 = .ok (.iload_n 3, 1) := by decide +kernel
theorem dX4_outcomeOfTarget_60 : decode cX4_outcomeOfTarget 60 = .ok (.iload 5, 2) := by decide +kernel
theorem dX4_outcomeOfTarget_62 : decode cX4_outcomeOfTarget 62 = .ok (.invokevirtual 53, 3) := by decide +kernel
theorem dX4_outcomeOfTarget_65 : decode cX4_outcomeOfTarget 65 = .ok (.ifCond .eq 14, 3) := by decide +kernel
theorem dX4_outcomeOfTarget_68 : decode cX4_outcomeOfTarget 68 = .ok (.aload_n 0, 1) := by decide +kernel
theorem dX4_outcomeOfTarget_69 : decode cX4_outcomeOfTarget 69 = .ok (.iload_n 1, 1) := by decide +kernel
theorem dX4_outcomeOfTarget_70 : decode cX4_outcomeOfTarget 70 = .ok (.iload_n 3, 1) := by decide +kernel
theorem dX4_outcomeOfTarget_71 : decode cX4_outcomeOfTarget 71 = .ok (.iload 5, 2) := by decide +kernel
theorem dX4_outcomeOfTarget_73 : decode cX4_outcomeOfTarget 73 = .ok (.invokevirtual 114, 3) := by decide +kernel
theorem dX4_outcomeOfTarget_76 : decode cX4_outcomeOfTarget 76 = .ok (.ifCond .ne 5, 3) := by decide +kernel
theorem dX4_outcomeOfTarget_79 : decode cX4_outcomeOfTarget 79 = .ok (.iconst 4, 1) := by decide +kernel
theorem dX4_outcomeOfTarget_80 : decode cX4_outcomeOfTarget 80 = .ok (.ireturn, 1) := by decide +kernel
theorem dX4_outcomeOfTarget_81 : decode cX4_outcomeOfTarget 81 = .ok (.iconst 0, 1) := by decide +kernel
theorem dX4_outcomeOfTarget_82 : decode cX4_outcomeOfTarget 82 = .ok (.ireturn, 1) := by decide +kernel
theorem dX4_write_0 : decode cX4_write 0 = .ok (.aload_n 0, 1) := by decide +kernel
theorem dX4_write_1 : decode cX4_write 1 = .ok (.getfield 10, 3) := by decide +kernel
theorem dX4_write_4 : decode cX4_write 4 = .ok (.iload_n 1, 1) := by decide +kernel
theorem dX4_write_5 : decode cX4_write 5 = .ok (.invokevirtual 129, 3) := by decide +kernel
theorem dX4_write_8 : decode cX4_write 8 = .ok (.astore_n 3, 1) := by decide +kernel
theorem dX4_write_9 : decode cX4_write 9 = .ok (.aload_n 3, 1) := by decide +kernel
theorem dX4_write_10 : decode cX4_write 10 = .ok (.ifnonnull 16, 3) := by decide +kernel
theorem dX4_write_13 : decode cX4_write 13 = .ok (.aload_n 0, 1) := by decide +kernel
theorem dX4_write_14 : decode cX4_write 14 = .ok (.getfield 10, 3) := by decide +kernel
theorem dX4_write_17 : decode cX4_write 17 = .ok (.iload_n 1, 1) := by decide +kernel
theorem dX4_write_18 : decode cX4_write 18 = .ok (.iconst 1, 1) := by decide +kernel
theorem dX4_write_19 : decode cX4_write 19 = .ok (.iload_n 2, 1) := by decide +kernel
theorem dX4_write_20 : decode cX4_write 20 = .ok (.invokevirtual 60, 3) := by decide +kernel
theorem dX4_write_23 : decode cX4_write 23 = .ok (.goto 8, 3) := by decide +kernel
theorem dX4_write_26 : decode cX4_write 26 = .ok (.aload_n 3, 1) := by decide +kernel
theorem dX4_write_27 : decode cX4_write 27 = .ok (.iload_n 2, 1) := by decide +kernel
theorem dX4_write_28 : decode cX4_write 28 = .ok (.putfield 132, 3) := by decide +kernel
theorem dX4_write_31 : decode cX4_write 31 = .ok (.return_, 1) := by decide +kernel
theorem dX4_noteFailures_0 : decode cX4_noteFailures 0 = .ok (.iconst 0, 1) := by decide +kernel
theorem dX4_noteFailures_1 : decode cX4_noteFailures 1 = .ok (.istore 4, 2) := by decide +kernel
theorem dX4_noteFailures_3 : decode cX4_noteFailures 3 = .ok (.iload 4, 2) := by decide +kernel
theorem dX4_noteFailures_5 : decode cX4_noteFailures 5 = .ok (.aload_n 0, 1) := by decide +kernel
theorem dX4_noteFailures_6 : decode cX4_noteFailures 6 = .ok (.getfield 10, 3) := by decide +kernel
theorem dX4_noteFailures_9 : decode cX4_noteFailures 9 = .ok (.getfield 57, 3) := by decide +kernel
theorem dX4_noteFailures_12 : decode cX4_noteFailures 12 = .ok (.if_icmp .ge 49, 3) := by decide +kernel
theorem dX4_noteFailures_15 : decode cX4_noteFailures 15 = .ok (.aload_n 0, 1) := by decide +kernel
theorem dX4_noteFailures_16 : decode cX4_noteFailures 16 = .ok (.getfield 10, 3) := by decide +kernel
theorem dX4_noteFailures_19 : decode cX4_noteFailures 19 = .ok (.iload 4, 2) := by decide +kernel
theorem dX4_noteFailures_21 : decode cX4_noteFailures 21 = .ok (.invokevirtual 144, 3) := by decide +kernel
theorem dX4_noteFailures_24 : decode cX4_noteFailures 24 = .ok (.istore 5, 2) := by decide +kernel
theorem dX4_noteFailures_26 : decode cX4_noteFailures 26 = .ok (.iload_n 2, 1) := by decide +kernel
theorem dX4_noteFailures_27 : decode cX4_noteFailures 27 = .ok (.iload 5, 2) := by decide +kernel
theorem dX4_noteFailures_29 : decode cX4_noteFailures 29 = .ok (.invokestatic 231, 3) := by decide +kernel
theorem dX4_noteFailures_32 : decode cX4_noteFailures 32 = .ok (.ifCond .eq 23, 3) := by decide +kernel
theorem dX4_noteFailures_35 : decode cX4_noteFailures 35 = .ok (.aload_n 0, 1) := by decide +kernel
theorem dX4_noteFailures_36 : decode cX4_noteFailures 36 = .ok (.getfield 19, 3) := by decide +kernel
theorem dX4_noteFailures_39 : decode cX4_noteFailures 39 = .ok (.iload_n 1, 1) := by decide +kernel
theorem dX4_noteFailures_40 : decode cX4_noteFailures 40 = .ok (.iload 5, 2) := by decide +kernel
theorem dX4_noteFailures_42 : decode cX4_noteFailures 42 = .ok (.iload_n 3, 1) := by decide +kernel
theorem dX4_noteFailures_43 : decode cX4_noteFailures 43 = .ok (.invokevirtual 111, 3) := by decide +kernel
theorem dX4_noteFailures_46 : decode cX4_noteFailures 46 = .ok (.ifCond .ne 9, 3) := by decide +kernel
theorem dX4_noteFailures_49 : decode cX4_noteFailures 49 = .ok (.aload_n 0, 1) := by decide +kernel
theorem dX4_noteFailures_50 : decode cX4_noteFailures 50 = .ok (.iload 5, 2) := by decide +kernel
theorem dX4_noteFailures_52 : decode cX4_noteFailures 52 = .ok (.invokevirtual 237, 3) := by decide +kernel
theorem dX4_noteFailures_55 : decode cX4_noteFailures 55 = .ok (.iinc 4 1, 3) := by decide +kernel
theorem dX4_noteFailures_58 : decode cX4_noteFailures 58 = .ok (.goto (-55), 3) := by decide +kernel
theorem dX4_noteFailures_61 : decode cX4_noteFailures 61 = .ok (.return_, 1) := by decide +kernel
theorem dX4_insertFailure_0 : decode cX4_insertFailure 0 = .ok (.aload_n 0, 1) := by decide +kernel
theorem dX4_insertFailure_1 : decode cX4_insertFailure 1 = .ok (.getfield 27, 3) := by decide +kernel
theorem dX4_insertFailure_4 : decode cX4_insertFailure 4 = .ok (.aload_n 0, 1) := by decide +kernel
theorem dX4_insertFailure_5 : decode cX4_insertFailure 5 = .ok (.getfield 23, 3) := by decide +kernel
theorem dX4_insertFailure_8 : decode cX4_insertFailure 8 = .ok (.arraylength, 1) := by decide +kernel
theorem dX4_insertFailure_9 : decode cX4_insertFailure 9 = .ok (.if_icmp .lt 4, 3) := by decide +kernel
theorem dX4_insertFailure_12 : decode cX4_insertFailure 12 = .ok (.return_, 1) := by decide +kernel
theorem dX4_insertFailure_13 : decode cX4_insertFailure 13 = .ok (.aload_n 0, 1) := by decide +kernel
theorem dX4_insertFailure_14 : decode cX4_insertFailure 14 = .ok (.getfield 27, 3) := by decide +kernel
theorem dX4_insertFailure_17 : decode cX4_insertFailure 17 = .ok (.istore_n 2, 1) := by decide +kernel
theorem dX4_insertFailure_18 : decode cX4_insertFailure 18 = .ok (.iload_n 2, 1) := by decide +kernel
theorem dX4_insertFailure_19 : decode cX4_insertFailure 19 = .ok (.ifCond .le 35, 3) := by decide +kernel
theorem dX4_insertFailure_22 : decode cX4_insertFailure 22 = .ok (.aload_n 0, 1) := by decide +kernel
theorem dX4_insertFailure_23 : decode cX4_insertFailure 23 = .ok (.getfield 23, 3) := by decide +kernel
theorem dX4_insertFailure_26 : decode cX4_insertFailure 26 = .ok (.iload_n 2, 1) := by decide +kernel
theorem dX4_insertFailure_27 : decode cX4_insertFailure 27 = .ok (.iconst 1, 1) := by decide +kernel
theorem dX4_insertFailure_28 : decode cX4_insertFailure 28 = .ok (.isub, 1) := by decide +kernel
theorem dX4_insertFailure_29 : decode cX4_insertFailure 29 = .ok (.iaload, 1) := by decide +kernel
theorem dX4_insertFailure_30 : decode cX4_insertFailure 30 = .ok (.iload_n 1, 1) := by decide +kernel
theorem dX4_insertFailure_31 : decode cX4_insertFailure 31 = .ok (.if_icmp .le 23, 3) := by decide +kernel
theorem dX4_insertFailure_34 : decode cX4_insertFailure 34 = .ok (.aload_n 0, 1) := by decide +kernel
theorem dX4_insertFailure_35 : decode cX4_insertFailure 35 = .ok (.getfield 23, 3) := by decide +kernel
theorem dX4_insertFailure_38 : decode cX4_insertFailure 38 = .ok (.iload_n 2, 1) := by decide +kernel
theorem dX4_insertFailure_39 : decode cX4_insertFailure 39 = .ok (.aload_n 0, 1) := by decide +kernel
theorem dX4_insertFailure_40 : decode cX4_insertFailure 40 = .ok (.getfield 23, 3) := by decide +kernel
theorem dX4_insertFailure_43 : decode cX4_insertFailure 43 = .ok (.iload_n 2, 1) := by decide +kernel
theorem dX4_insertFailure_44 : decode cX4_insertFailure 44 = .ok (.iconst 1, 1) := by decide +kernel
theorem dX4_insertFailure_45 : decode cX4_insertFailure 45 = .ok (.isub, 1) := by decide +kernel
theorem dX4_insertFailure_46 : decode cX4_insertFailure 46 = .ok (.iaload, 1) := by decide +kernel
theorem dX4_insertFailure_47 : decode cX4_insertFailure 47 = .ok (.iastore, 1) := by decide +kernel
theorem dX4_insertFailure_48 : decode cX4_insertFailure 48 = .ok (.iinc 2 (-1), 3) := by decide +kernel
theorem dX4_insertFailure_51 : decode cX4_insertFailure 51 = .ok (.goto (-33), 3) := by decide +kernel
theorem dX4_insertFailure_54 : decode cX4_insertFailure 54 = .ok (.aload_n 0, 1) := by decide +kernel
theorem dX4_insertFailure_55 : decode cX4_insertFailure 55 = .ok (.getfield 23, 3) := by decide +kernel
theorem dX4_insertFailure_58 : decode cX4_insertFailure 58 = .ok (.iload_n 2, 1) := by decide +kernel
theorem dX4_insertFailure_59 : decode cX4_insertFailure 59 = .ok (.iload_n 1, 1) := by decide +kernel
theorem dX4_insertFailure_60 : decode cX4_insertFailure 60 = .ok (.iastore, 1) := by decide +kernel
theorem dX4_insertFailure_61 : decode cX4_insertFailure 61 = .ok (.aload_n 0, 1) := by decide +kernel
theorem dX4_insertFailure_62 : decode cX4_insertFailure 62 = .ok (.dup, 1) := by decide +kernel
theorem dX4_insertFailure_63 : decode cX4_insertFailure 63 = .ok (.getfield 27, 3) := by decide +kernel
theorem dX4_insertFailure_66 : decode cX4_insertFailure 66 = .ok (.iconst 1, 1) := by decide +kernel
theorem dX4_insertFailure_67 : decode cX4_insertFailure 67 = .ok (.iadd, 1) := by decide +kernel
theorem dX4_insertFailure_68 : decode cX4_insertFailure 68 = .ok (.putfield 27, 3) := by decide +kernel
theorem dX4_insertFailure_71 : decode cX4_insertFailure 71 = .ok (.return_, 1) := by decide +kernel
theorem dX4_spareFailures_0 : decode cX4_spareFailures 0 = .ok (.iconst 0, 1) := by decide +kernel
theorem dX4_spareFailures_1 : decode cX4_spareFailures 1 = .ok (.istore_n 1, 1) := by decide +kernel
theorem dX4_spareFailures_2 : decode cX4_spareFailures 2 = .ok (.iload_n 1, 1) := by decide +kernel
theorem dX4_spareFailures_3 : decode cX4_spareFailures 3 = .ok (.aload_n 0, 1) := by decide +kernel
theorem dX4_spareFailures_4 : decode cX4_spareFailures 4 = .ok (.getfield 27, 3) := by decide +kernel
theorem dX4_spareFailures_7 : decode cX4_spareFailures 7 = .ok (.if_icmp .ge 31, 3) := by decide +kernel
theorem dX4_spareFailures_10 : decode cX4_spareFailures 10 = .ok (.iload_n 1, 1) := by decide +kernel
theorem dX4_spareFailures_11 : decode cX4_spareFailures 11 = .ok (.aload_n 0, 1) := by decide +kernel
theorem dX4_spareFailures_12 : decode cX4_spareFailures 12 = .ok (.getfield 23, 3) := by decide +kernel
theorem dX4_spareFailures_15 : decode cX4_spareFailures 15 = .ok (.arraylength, 1) := by decide +kernel
theorem dX4_spareFailures_16 : decode cX4_spareFailures 16 = .ok (.if_icmp .ge 22, 3) := by decide +kernel
theorem dX4_spareFailures_19 : decode cX4_spareFailures 19 = .ok (.aload_n 0, 1) := by decide +kernel
theorem dX4_spareFailures_20 : decode cX4_spareFailures 20 = .ok (.getfield 10, 3) := by decide +kernel
theorem dX4_spareFailures_23 : decode cX4_spareFailures 23 = .ok (.aload_n 0, 1) := by decide +kernel
theorem dX4_spareFailures_24 : decode cX4_spareFailures 24 = .ok (.getfield 23, 3) := by decide +kernel
theorem dX4_spareFailures_27 : decode cX4_spareFailures 27 = .ok (.iload_n 1, 1) := by decide +kernel
theorem dX4_spareFailures_28 : decode cX4_spareFailures 28 = .ok (.iaload, 1) := by decide +kernel
theorem dX4_spareFailures_29 : decode cX4_spareFailures 29 = .ok (.invokevirtual 240, 3) := by decide +kernel
theorem dX4_spareFailures_32 : decode cX4_spareFailures 32 = .ok (.iinc 1 1, 3) := by decide +kernel
theorem dX4_spareFailures_35 : decode cX4_spareFailures 35 = .ok (.goto (-33), 3) := by decide +kernel
theorem dX4_spareFailures_38 : decode cX4_spareFailures 38 = .ok (.return_, 1) := by decide +kernel
theorem dX4_removeTree_0 : decode cX4_removeTree 0 = .ok (.aload_n 0, 1) := by decide +kernel
theorem dX4_removeTree_1 : decode cX4_removeTree 1 = .ok (.getfield 10, 3) := by decide +kernel
theorem dX4_removeTree_4 : decode cX4_removeTree 4 = .ok (.iload_n 1, 1) := by decide +kernel
theorem dX4_removeTree_5 : decode cX4_removeTree 5 = .ok (.invokevirtual 78, 3) := by decide +kernel
theorem dX4_removeTree_8 : decode cX4_removeTree 8 = .ok (.aload_n 0, 1) := by decide +kernel
theorem dX4_removeTree_9 : decode cX4_removeTree 9 = .ok (.invokevirtual 84, 3) := by decide +kernel
theorem dX4_removeTree_12 : decode cX4_removeTree 12 = .ok (.return_, 1) := by decide +kernel
theorem dX4_removeMarked_0 : decode cX4_removeMarked 0 = .ok (.iconst 0, 1) := by decide +kernel
theorem dX4_removeMarked_1 : decode cX4_removeMarked 1 = .ok (.istore_n 1, 1) := by decide +kernel
theorem dX4_removeMarked_2 : decode cX4_removeMarked 2 = .ok (.iload_n 1, 1) := by decide +kernel
theorem dX4_removeMarked_3 : decode cX4_removeMarked 3 = .ok (.aload_n 0, 1) := by decide +kernel
theorem dX4_removeMarked_4 : decode cX4_removeMarked 4 = .ok (.getfield 10, 3) := by decide +kernel
theorem dX4_removeMarked_7 : decode cX4_removeMarked 7 = .ok (.getfield 57, 3) := by decide +kernel
theorem dX4_removeMarked_10 : decode cX4_removeMarked 10 = .ok (.if_icmp .ge 35, 3) := by decide +kernel
theorem dX4_removeMarked_13 : decode cX4_removeMarked 13 = .ok (.aload_n 0, 1) := by decide +kernel
theorem dX4_removeMarked_14 : decode cX4_removeMarked 14 = .ok (.getfield 10, 3) := by decide +kernel
theorem dX4_removeMarked_17 : decode cX4_removeMarked 17 = .ok (.iload_n 1, 1) := by decide +kernel
theorem dX4_removeMarked_18 : decode cX4_removeMarked 18 = .ok (.invokevirtual 243, 3) := by decide +kernel
theorem dX4_removeMarked_21 : decode cX4_removeMarked 21 = .ok (.ifCond .eq 18, 3) := by decide +kernel
theorem dX4_removeMarked_24 : decode cX4_removeMarked 24 = .ok (.aload_n 0, 1) := by decide +kernel
theorem dX4_removeMarked_25 : decode cX4_removeMarked 25 = .ok (.getfield 19, 3) := by decide +kernel
theorem dX4_removeMarked_28 : decode cX4_removeMarked 28 = .ok (.aload_n 0, 1) := by decide +kernel
theorem dX4_removeMarked_29 : decode cX4_removeMarked 29 = .ok (.getfield 10, 3) := by decide +kernel
theorem dX4_removeMarked_32 : decode cX4_removeMarked 32 = .ok (.iload_n 1, 1) := by decide +kernel
theorem dX4_removeMarked_33 : decode cX4_removeMarked 33 = .ok (.invokevirtual 144, 3) := by decide +kernel
theorem dX4_removeMarked_36 : decode cX4_removeMarked 36 = .ok (.invokevirtual 246, 3) := by decide +kernel
theorem dX4_removeMarked_39 : decode cX4_removeMarked 39 = .ok (.iinc 1 1, 3) := by decide +kernel
theorem dX4_removeMarked_42 : decode cX4_removeMarked 42 = .ok (.goto (-40), 3) := by decide +kernel
theorem dX4_removeMarked_45 : decode cX4_removeMarked 45 = .ok (.aload_n 0, 1) := by decide +kernel
theorem dX4_removeMarked_46 : decode cX4_removeMarked 46 = .ok (.getfield 10, 3) := by decide +kernel
theorem dX4_removeMarked_49 : decode cX4_removeMarked 49 = .ok (.invokevirtual 249, 3) := by decide +kernel
theorem dX4_removeMarked_52 : decode cX4_removeMarked 52 = .ok (.return_, 1) := by decide +kernel
theorem dX4_dropLocksOfTree_0 : decode cX4_dropLocksOfTree 0 = .ok (.iconst 0, 1) := by decide +kernel
theorem dX4_dropLocksOfTree_1 : decode cX4_dropLocksOfTree 1 = .ok (.istore_n 2, 1) := by decide +kernel
theorem dX4_dropLocksOfTree_2 : decode cX4_dropLocksOfTree 2 = .ok (.iload_n 2, 1) := by decide +kernel
theorem dX4_dropLocksOfTree_3 : decode cX4_dropLocksOfTree 3 = .ok (.aload_n 0, 1) := by decide +kernel
theorem dX4_dropLocksOfTree_4 : decode cX4_dropLocksOfTree 4 = .ok (.getfield 10, 3) := by decide +kernel
theorem dX4_dropLocksOfTree_7 : decode cX4_dropLocksOfTree 7 = .ok (.getfield 57, 3) := by decide +kernel
theorem dX4_dropLocksOfTree_10 : decode cX4_dropLocksOfTree 10 = .ok (.if_icmp .ge 34, 3) := by decide +kernel
theorem dX4_dropLocksOfTree_13 : decode cX4_dropLocksOfTree 13 = .ok (.aload_n 0, 1) := by decide +kernel
theorem dX4_dropLocksOfTree_14 : decode cX4_dropLocksOfTree 14 = .ok (.getfield 10, 3) := by decide +kernel
theorem dX4_dropLocksOfTree_17 : decode cX4_dropLocksOfTree 17 = .ok (.iload_n 2, 1) := by decide +kernel
theorem dX4_dropLocksOfTree_18 : decode cX4_dropLocksOfTree 18 = .ok (.invokevirtual 144, 3) := by decide +kernel
theorem dX4_dropLocksOfTree_21 : decode cX4_dropLocksOfTree 21 = .ok (.istore_n 3, 1) := by decide +kernel
theorem dX4_dropLocksOfTree_22 : decode cX4_dropLocksOfTree 22 = .ok (.iload_n 1, 1) := by decide +kernel
theorem dX4_dropLocksOfTree_23 : decode cX4_dropLocksOfTree 23 = .ok (.iload_n 3, 1) := by decide +kernel
theorem dX4_dropLocksOfTree_24 : decode cX4_dropLocksOfTree 24 = .ok (.invokestatic 225, 3) := by decide +kernel
theorem dX4_dropLocksOfTree_27 : decode cX4_dropLocksOfTree 27 = .ok (.ifCond .eq 11, 3) := by decide +kernel
theorem dX4_dropLocksOfTree_30 : decode cX4_dropLocksOfTree 30 = .ok (.aload_n 0, 1) := by decide +kernel
theorem dX4_dropLocksOfTree_31 : decode cX4_dropLocksOfTree 31 = .ok (.getfield 19, 3) := by decide +kernel
theorem dX4_dropLocksOfTree_34 : decode cX4_dropLocksOfTree 34 = .ok (.iload_n 3, 1) := by decide +kernel
theorem dX4_dropLocksOfTree_35 : decode cX4_dropLocksOfTree 35 = .ok (.invokevirtual 246, 3) := by decide +kernel
theorem dX4_dropLocksOfTree_38 : decode cX4_dropLocksOfTree 38 = .ok (.iinc 2 1, 3) := by decide +kernel
theorem dX4_dropLocksOfTree_41 : decode cX4_dropLocksOfTree 41 = .ok (.goto (-39), 3) := by decide +kernel
theorem dX4_dropLocksOfTree_44 : decode cX4_dropLocksOfTree 44 = .ok (.return_, 1) := by decide +kernel
