theorem dX5_kinds_27 : decode cX5_kinds 27 = .ok (.iaload, 1) := by decide +kernel
theorem dX5_kinds_28 : decode cX5_kinds 28 = .ok (.ireturn, 1) := by decide +kernel
theorem dX5_count_0 : decode cX5_count 0 = .ok (.iconst 0, 1) := by decide +kernel
theorem dX5_count_1 : decode cX5_count 1 = .ok (.istore_n 1, 1) := by decide +kernel
theorem dX5_count_2 : decode cX5_count 2 = .ok (.iconst 0, 1) := by decide +kernel
theorem dX5_count_3 : decode cX5_count 3 = .ok (.istore_n 2, 1) := by decide +kernel
theorem dX5_count_4 : decode cX5_count 4 = .ok (.iload_n 2, 1) := by decide +kernel
theorem dX5_count_5 : decode cX5_count 5 = .ok (.bipush 60, 2) := by decide +kernel
theorem dX5_count_7 : decode cX5_count 7 = .ok (.if_icmp .ge 26, 3) := by decide +kernel
theorem dX5_count_10 : decode cX5_count 10 = .ok (.iload_n 1, 1) := by decide +kernel
theorem dX5_count_11 : decode cX5_count 11 = .ok (.aload_n 0, 1) := by decide +kernel
theorem dX5_count_12 : decode cX5_count 12 = .ok (.getfield 7, 3) := by decide +kernel
theorem dX5_count_15 : decode cX5_count 15 = .ok (.iload_n 2, 1) := by decide +kernel
theorem dX5_count_16 : decode cX5_count 16 = .ok (.baload, 1) := by decide +kernel
theorem dX5_count_17 : decode cX5_count 17 = .ok (.ifCond .eq 7, 3) := by decide +kernel
theorem dX5_count_20 : decode cX5_count 20 = .ok (.iconst 1, 1) := by decide +kernel
theorem dX5_count_21 : decode cX5_count 21 = .ok (.goto 4, 3) := by decide +kernel
theorem dX5_count_24 : decode cX5_count 24 = .ok (.iconst 0, 1) := by decide +kernel
theorem dX5_count_25 : decode cX5_count 25 = .ok (.iadd, 1) := by decide +kernel
theorem dX5_count_26 : decode cX5_count 26 = .ok (.istore_n 1, 1) := by decide +kernel
theorem dX5_count_27 : decode cX5_count 27 = .ok (.iinc 2 1, 3) := by decide +kernel
theorem dX5_count_30 : decode cX5_count 30 = .ok (.goto (-26), 3) := by decide +kernel
theorem dX5_count_33 : decode cX5_count 33 = .ok (.iload_n 1, 1) := by decide +kernel
theorem dX5_count_34 : decode cX5_count 34 = .ok (.ireturn, 1) := by decide +kernel
theorem dX5_isAbove_0 : decode cX5_isAbove 0 = .ok (.iload_n 1, 1) := by decide +kernel
theorem dX5_isAbove_1 : decode cX5_isAbove 1 = .ok (.istore_n 2, 1) := by decide +kernel
theorem dX5_isAbove_2 : decode cX5_isAbove 2 = .ok (.iload_n 2, 1) := by decide +kernel
theorem dX5_isAbove_3 : decode cX5_isAbove 3 = .ok (.ifCond .eq 19, 3) := by decide +kernel
theorem dX5_isAbove_6 : decode cX5_isAbove 6 = .ok (.iload_n 2, 1) := by decide +kernel
theorem dX5_isAbove_7 : decode cX5_isAbove 7 = .ok (.bipush 10, 2) := by decide +kernel
theorem dX5_isAbove_9 : decode cX5_isAbove 9 = .ok (.idiv, 1) := by decide +kernel
theorem dX5_isAbove_10 : decode cX5_isAbove 10 = .ok (.iload_n 0, 1) := by decide +kernel
theorem dX5_isAbove_11 : decode cX5_isAbove 11 = .ok (.if_icmp .eq 11, 3) := by decide +kernel
theorem dX5_isAbove_14 : decode cX5_isAbove 14 = .ok (.iload_n 2, 1) := by decide +kernel
theorem dX5_isAbove_15 : decode cX5_isAbove 15 = .ok (.bipush 10, 2) := by decide +kernel
theorem dX5_isAbove_17 : decode cX5_isAbove 17 = .ok (.idiv, 1) := by decide +kernel
theorem dX5_isAbove_18 : decode cX5_isAbove 18 = .ok (.istore_n 2, 1) := by decide +kernel
theorem dX5_isAbove_19 : decode cX5_isAbove 19 = .ok (.goto (-17), 3) := by decide +kernel
theorem dX5_isAbove_22 : decode cX5_isAbove 22 = .ok (.iload_n 2, 1) := by decide +kernel
theorem dX5_isAbove_23 : decode cX5_isAbove 23 = .ok (.ifCond .eq 7, 3) := by decide +kernel
theorem dX5_isAbove_26 : decode cX5_isAbove 26 = .ok (.iconst 1, 1) := by decide +kernel
theorem dX5_isAbove_27 : decode cX5_isAbove 27 = .ok (.goto 4, 3) := by decide +kernel
theorem dX5_isAbove_30 : decode cX5_isAbove 30 = .ok (.iconst 0, 1) := by decide +kernel
theorem dX5_isAbove_31 : decode cX5_isAbove 31 = .ok (.ireturn, 1) := by decide +kernel
theorem dX5_isOf_0 : decode cX5_isOf 0 = .ok (.aload_n 0, 1) := by decide +kernel
theorem dX5_isOf_1 : decode cX5_isOf 1 = .ok (.getfield 7, 3) := by decide +kernel
theorem dX5_isOf_4 : decode cX5_isOf 4 = .ok (.iload_n 1, 1) := by decide +kernel
theorem dX5_isOf_5 : decode cX5_isOf 5 = .ok (.baload, 1) := by decide +kernel
theorem dX5_isOf_6 : decode cX5_isOf 6 = .ok (.ifCond .eq 30, 3) := by decide +kernel
theorem dX5_isOf_9 : decode cX5_isOf 9 = .ok (.aload_n 0, 1) := by decide +kernel
theorem dX5_isOf_10 : decode cX5_isOf 10 = .ok (.getfield 13, 3) := by decide +kernel
theorem dX5_isOf_13 : decode cX5_isOf 13 = .ok (.iload_n 1, 1) := by decide +kernel
theorem dX5_isOf_14 : decode cX5_isOf 14 = .ok (.iaload, 1) := by decide +kernel
theorem dX5_isOf_15 : decode cX5_isOf 15 = .ok (.iload_n 2, 1) := by decide +kernel
theorem dX5_isOf_16 : decode cX5_isOf 16 = .ok (.if_icmp .eq 16, 3) := by decide +kernel
theorem dX5_isOf_19 : decode cX5_isOf 19 = .ok (.iload_n 2, 1) := by decide +kernel
theorem dX5_isOf_20 : decode cX5_isOf 20 = .ok (.aload_n 0, 1) := by decide +kernel
theorem dX5_isOf_21 : decode cX5_isOf 21 = .ok (.getfield 13, 3) := by decide +kernel
theorem dX5_isOf_24 : decode cX5_isOf 24 = .ok (.iload_n 1, 1) := by decide +kernel
theorem dX5_isOf_25 : decode cX5_isOf 25 = .ok (.iaload, 1) := by decide +kernel
theorem dX5_isOf_26 : decode cX5_isOf 26 = .ok (.invokestatic 78, 3) := by decide +kernel
theorem dX5_isOf_29 : decode cX5_isOf 29 = .ok (.ifCond .eq 7, 3) := by decide +kernel
theorem dX5_isOf_32 : decode cX5_isOf 32 = .ok (.iconst 1, 1) := by decide +kernel
theorem dX5_isOf_33 : decode cX5_isOf 33 = .ok (.goto 4, 3) := by decide +kernel
theorem dX5_isOf_36 : decode cX5_isOf 36 = .ok (.iconst 0, 1) := by decide +kernel
theorem dX5_isOf_37 : decode cX5_isOf 37 = .ok (.ireturn, 1) := by decide +kernel
theorem dX5_makes_0 : decode cX5_makes 0 = .ok (.iconst 0, 1) := by decide +kernel
theorem dX5_makes_1 : decode cX5_makes 1 = .ok (.istore 4, 2) := by decide +kernel
theorem dX5_makes_3 : decode cX5_makes 3 = .ok (.aload_n 0, 1) := by decide +kernel
theorem dX5_makes_4 : decode cX5_makes 4 = .ok (.getfield 7, 3) := by decide +kernel
theorem dX5_makes_7 : decode cX5_makes 7 = .ok (.iload 4, 2) := by decide +kernel
theorem dX5_makes_9 : decode cX5_makes 9 = .ok (.baload, 1) := by decide +kernel
theorem dX5_makes_10 : decode cX5_makes 10 = .ok (.ifCond .eq 9, 3) := by decide +kernel
theorem dX5_makes_13 : decode cX5_makes 13 = .ok (.iinc 4 1, 3) := by decide +kernel
theorem dX5_makes_16 : decode cX5_makes 16 = .ok (.goto (-13), 3) := by decide +kernel
theorem dX5_makes_19 : decode cX5_makes 19 = .ok (.aload_n 0, 1) := by decide +kernel
theorem dX5_makes_20 : decode cX5_makes 20 = .ok (.getfield 7, 3) := by decide +kernel
theorem dX5_makes_23 : decode cX5_makes 23 = .ok (.iload 4, 2) := by decide +kernel
theorem dX5_makes_25 : decode cX5_makes 25 = .ok (.iconst 1, 1) := by decide +kernel
theorem dX5_makes_26 : decode cX5_makes 26 = .ok (.bastore, 1) := by decide +kernel
theorem dX5_makes_27 : decode cX5_makes 27 = .ok (.aload_n 0, 1) := by decide +kernel
theorem dX5_makes_28 : decode cX5_makes 28 = .ok (.getfield 13, 3) := by decide +kernel
theorem dX5_makes_31 : decode cX5_makes 31 = .ok (.iload 4, 2) := by decide +kernel
theorem dX5_makes_33 : decode cX5_makes 33 = .ok (.iload_n 1, 1) := by decide +kernel
theorem dX5_makes_34 : decode cX5_makes 34 = .ok (.iastore, 1) := by decide +kernel
theorem dX5_makes_35 : decode cX5_makes 35 = .ok (.aload_n 0, 1) := by decide +kernel
theorem dX5_makes_36 : decode cX5_makes 36 = .ok (.getfield 17, 3) := by decide +kernel
theorem dX5_makes_39 : decode cX5_makes 39 = .ok (.iload 4, 2) := by decide +kernel
theorem dX5_makes_41 : decode cX5_makes 41 = .ok (.iload_n 2, 1) := by decide +kernel
theorem dX5_makes_42 : decode cX5_makes 42 = .ok (.iastore, 1) := by decide +kernel
theorem dX5_makes_43 : decode cX5_makes 43 = .ok (.aload_n 0, 1) := by decide +kernel
theorem dX5_makes_44 : decode cX5_makes 44 = .ok (.getfield 20, 3) := by decide +kernel
theorem dX5_makes_47 : decode cX5_makes 47 = .ok (.iload 4, 2) := by decide +kernel
theorem dX5_makes_49 : decode cX5_makes 49 = .ok (.iload_n 3, 1) := by decide +kernel
theorem dX5_makes_50 : decode cX5_makes 50 = .ok (.iastore, 1) := by decide +kernel
theorem dX5_makes_51 : decode cX5_makes 51 = .ok (.aload_n 0, 1) := by decide +kernel
theorem dX5_makes_52 : decode cX5_makes 52 = .ok (.getfield 26, 3) := by decide +kernel
theorem dX5_makes_55 : decode cX5_makes 55 = .ok (.iload 4, 2) := by decide +kernel
theorem dX5_makes_57 : decode cX5_makes 57 = .ok (.iconst 0, 1) := by decide +kernel
theorem dX5_makes_58 : decode cX5_makes 58 = .ok (.iastore, 1) := by decide +kernel
theorem dX5_makes_59 : decode cX5_makes 59 = .ok (.aload_n 0, 1) := by decide +kernel
theorem dX5_makes_60 : decode cX5_makes 60 = .ok (.dup, 1) := by decide +kernel
theorem dX5_makes_61 : decode cX5_makes 61 = .ok (.getfield 82, 3) := by decide +kernel
theorem dX5_makes_64 : decode cX5_makes 64 = .ok (.iconst 1, 1) := by decide +kernel
theorem dX5_makes_65 : decode cX5_makes 65 = .ok (.iadd, 1) := by decide +kernel
theorem dX5_makes_66 : decode cX5_makes 66 = .ok (.putfield 82, 3) := by decide +kernel
theorem dX5_makes_69 : decode cX5_makes 69 = .ok (.aload_n 0, 1) := by decide +kernel
theorem dX5_makes_70 : decode cX5_makes 70 = .ok (.getfield 23, 3) := by decide +kernel
theorem dX5_makes_73 : decode cX5_makes 73 = .ok (.iload 4, 2) := by decide +kernel
theorem dX5_makes_75 : decode cX5_makes 75 = .ok (.aload_n 0, 1) := by decide +kernel
theorem dX5_makes_76 : decode cX5_makes 76 = .ok (.getfield 82, 3) := by decide +kernel
theorem dX5_makes_79 : decode cX5_makes 79 = .ok (.iastore, 1) := by decide +kernel
theorem dX5_makes_80 : decode cX5_makes 80 = .ok (.iload 4, 2) := by decide +kernel
theorem dX5_makes_82 : decode cX5_makes 82 = .ok (.ireturn, 1) := by decide +kernel
theorem dX5_goes_0 : decode cX5_goes 0 = .ok (.aload_n 0, 1) := by decide +kernel
theorem dX5_goes_1 : decode cX5_goes 1 = .ok (.getfield 7, 3) := by decide +kernel
theorem dX5_goes_4 : decode cX5_goes 4 = .ok (.iload_n 1, 1) := by decide +kernel
theorem dX5_goes_5 : decode cX5_goes 5 = .ok (.iconst 0, 1) := by decide +kernel
theorem dX5_goes_6 : decode cX5_goes 6 = .ok (.bastore, 1) := by decide +kernel
theorem dX5_goes_7 : decode cX5_goes 7 = .ok (.iconst 0, 1) := by decide +kernel
theorem dX5_goes_8 : decode cX5_goes 8 = .ok (.istore_n 2, 1) := by decide +kernel
theorem dX5_goes_9 : decode cX5_goes 9 = .ok (.iload_n 2, 1) := by decide +kernel
theorem dX5_goes_10 : decode cX5_goes 10 = .ok (.aload_n 0, 1) := by decide +kernel
theorem dX5_goes_11 : decode cX5_goes 11 = .ok (.getfield 85, 3) := by decide +kernel
theorem dX5_goes_14 : decode cX5_goes 14 = .ok (.if_icmp .ge 40, 3) := by decide +kernel
theorem dX5_goes_17 : decode cX5_goes 17 = .ok (.aload_n 0, 1) := by decide +kernel
theorem dX5_goes_18 : decode cX5_goes 18 = .ok (.getfield 44, 3) := by decide +kernel
theorem dX5_goes_21 : decode cX5_goes 21 = .ok (.iload_n 2, 1) := by decide +kernel
theorem dX5_goes_22 : decode cX5_goes 22 = .ok (.aload_n 0, 1) := by decide +kernel
theorem dX5_goes_23 : decode cX5_goes 23 = .ok (.getfield 35, 3) := by decide +kernel
theorem dX5_goes_26 : decode cX5_goes 26 = .ok (.iload_n 2, 1) := by decide +kernel
theorem dX5_goes_27 : decode cX5_goes 27 = .ok (.iaload, 1) := by decide +kernel
theorem dX5_goes_28 : decode cX5_goes 28 = .ok (.aload_n 0, 1) := by decide +kernel
theorem dX5_goes_29 : decode cX5_goes 29 = .ok (.getfield 13, 3) := by decide +kernel
theorem dX5_goes_32 : decode cX5_goes 32 = .ok (.iload_n 1, 1) := by decide +kernel
theorem dX5_goes_33 : decode cX5_goes 33 = .ok (.iaload, 1) := by decide +kernel
theorem dX5_goes_34 : decode cX5_goes 34 = .ok (.if_icmp .ne 7, 3) := by decide +kernel
theorem dX5_goes_37 : decode cX5_goes 37 = .ok (.iconst 0, 1) := by decide +kernel
theorem dX5_goes_38 : decode cX5_goes 38 = .ok (.goto 9, 3) := by decide +kernel
theorem dX5_goes_41 : decode cX5_goes 41 = .ok (.aload_n 0, 1) := by decide +kernel
theorem dX5_goes_42 : decode cX5_goes 42 = .ok (.getfield 44, 3) := by decide +kernel
theorem dX5_goes_45 : decode cX5_goes 45 = .ok (.iload_n 2, 1) := by decide +kernel
theorem dX5_goes_46 : decode cX5_goes 46 = .ok (.iaload, 1) := by decide +kernel
theorem dX5_goes_47 : decode cX5_goes 47 = .ok (.iastore, 1) := by decide +kernel
theorem dX5_goes_48 : decode cX5_goes 48 = .ok (.iinc 2 1, 3) := by decide +kernel
theorem dX5_goes_51 : decode cX5_goes 51 = .ok (.goto (-42), 3) := by decide +kernel
theorem dX5_goes_54 : decode cX5_goes 54 = .ok (.return_, 1) := by decide +kernel
theorem dX5_isOn_0 : decode cX5_isOn 0 = .ok (.aload_n 0, 1) := by decide +kernel
theorem dX5_isOn_1 : decode cX5_isOn 1 = .ok (.getfield 44, 3) := by decide +kernel
theorem dX5_isOn_4 : decode cX5_isOn 4 = .ok (.iload_n 1, 1) := by decide +kernel
theorem dX5_isOn_5 : decode cX5_isOn 5 = .ok (.iaload, 1) := by decide +kernel
theorem dX5_isOn_6 : decode cX5_isOn 6 = .ok (.aload_n 0, 1) := by decide +kernel
theorem dX5_isOn_7 : decode cX5_isOn 7 = .ok (.getfield 88, 3) := by decide +kernel
theorem dX5_isOn_10 : decode cX5_isOn 10 = .ok (.if_icmp .le 7, 3) := by decide +kernel
theorem dX5_isOn_13 : decode cX5_isOn 13 = .ok (.iconst 1, 1) := by decide +kernel
theorem dX5_isOn_14 : decode cX5_isOn 14 = .ok (.goto 4, 3) := by decide +kernel
theorem dX5_isOn_17 : decode cX5_isOn 17 = .ok (.iconst 0, 1) := by decide +kernel
theorem dX5_isOn_18 : decode cX5_isOn 18 = .ok (.ireturn, 1) := by decide +kernel
theorem dX5_covers_0 : decode cX5_covers 0 = .ok (.aload_n 0, 1) := by decide +kernel
theorem dX5_covers_1 : decode cX5_covers 1 = .ok (.iload_n 1, 1) := by decide +kernel
theorem dX5_covers_2 : decode cX5_covers 2 = .ok (.invokevirtual 91, 3) := by decide +kernel
theorem dX5_covers_5 : decode cX5_covers 5 = .ok (.ifCond .eq 39, 3) := by decide +kernel
theorem dX5_covers_8 : decode cX5_covers 8 = .ok (.aload_n 0, 1) := by decide +kernel
theorem dX5_covers_9 : decode cX5_covers 9 = .ok (.getfield 35, 3) := by decide +kernel
theorem dX5_covers_12 : decode cX5_covers 12 = .ok (.iload_n 1, 1) := by decide +kernel
theorem dX5_covers_13 : decode cX5_covers 13 = .ok (.iaload, 1) := by decide +kernel
theorem dX5_covers_14 : decode cX5_covers 14 = .ok (.iload_n 2, 1) := by decide +kernel
theorem dX5_covers_15 : decode cX5_covers 15 = .ok (.if_icmp .eq 25, 3) := by decide +kernel
theorem dX5_covers_18 : decode cX5_covers 18 = .ok (.aload_n 0, 1) := by decide +kernel
theorem dX5_covers_19 : decode cX5_covers 19 = .ok (.getfield 41, 3) := by decide +kernel
theorem dX5_covers_22 : decode cX5_covers 22 = .ok (.iload_n 1, 1) := by decide +kernel
theorem dX5_covers_23 : decode cX5_covers 23 = .ok (.baload, 1) := by decide +kernel
theorem dX5_covers_24 : decode cX5_covers 24 = .ok (.ifCond .eq 20, 3) := by decide +kernel
theorem dX5_covers_27 : decode cX5_covers 27 = .ok (.aload_n 0, 1) := by decide +kernel
theorem dX5_covers_28 : decode cX5_covers 28 = .ok (.getfield 35, 3) := by decide +kernel
theorem dX5_covers_31 : decode cX5_covers 31 = .ok (.iload_n 1, 1) := by decide +kernel
theorem dX5_covers_32 : decode cX5_covers 32 = .ok (.iaload, 1) := by decide +kernel
theorem dX5_covers_33 : decode cX5_covers 33 = .ok (.iload_n 2, 1) := by decide +kernel
theorem dX5_covers_34 : decode cX5_covers 34 = .ok (.invokestatic 78, 3) := by decide +kernel
theorem dX5_covers_37 : decode cX5_covers 37 = .ok (.ifCond .eq 7, 3) := by decide +kernel
theorem dX5_covers_40 : decode cX5_covers 40 = .ok (.iconst 1, 1) := by decide +kernel
theorem dX5_covers_41 : decode cX5_covers 41 = .ok (.goto 4, 3) := by decide +kernel
theorem dX5_covers_44 : decode cX5_covers 44 = .ok (.iconst 0, 1) := by decide +kernel
theorem dX5_covers_45 : decode cX5_covers 45 = .ok (.ireturn, 1) := by decide +kernel
theorem dX5_set_0 : decode cX5_set 0 = .ok (.iconst 0, 1) := by decide +kernel
theorem dX5_set_1 : decode cX5_set 1 = .ok (.istore_n 2, 1) := by decide +kernel
theorem dX5_set_2 : decode cX5_set 2 = .ok (.iconst 0, 1) := by decide +kernel
theorem dX5_set_3 : decode cX5_set 3 = .ok (.istore_n 3, 1) := by decide +kernel
theorem dX5_set_4 : decode cX5_set 4 = .ok (.iload_n 3, 1) := by decide +kernel
theorem dX5_set_5 : decode cX5_set 5 = .ok (.aload_n 0, 1) := by decide +kernel
theorem dX5_set_6 : decode cX5_set 6 = .ok (.getfield 85, 3) := by decide +kernel
theorem dX5_set_9 : decode cX5_set 9 = .ok (.if_icmp .ge 28, 3) := by decide +kernel
theorem dX5_set_12 : decode cX5_set 12 = .ok (.iload_n 2, 1) := by decide +kernel
theorem dX5_set_13 : decode cX5_set 13 = .ok (.aload_n 0, 1) := by decide +kernel
theorem dX5_set_14 : decode cX5_set 14 = .ok (.iload_n 3, 1) := by decide +kernel
theorem dX5_set_15 : decode cX5_set 15 = .ok (.iload_n 1, 1) := by decide +kernel
theorem dX5_set_16 : decode cX5_set 16 = .ok (.invokevirtual 94, 3) := by decide +kernel
theorem dX5_set_19 : decode cX5_set 19 = .ok (.ifCond .eq 9, 3) := by decide +kernel
theorem dX5_set_22 : decode cX5_set 22 = .ok (.iconst 1, 1) := by decide +kernel
theorem dX5_set_23 : decode cX5_set 23 = .ok (.iload_n 3, 1) := by decide +kernel
theorem dX5_set_24 : decode cX5_set 24 = .ok (.ishl, 1) := by decide +kernel
theorem dX5_set_25 : decode cX5_set 25 = .ok (.goto 4, 3) := by decide +kernel
theorem dX5_set_28 : decode cX5_set 28 = .ok (.iconst 0, 1) := by decide +kernel
theorem dX5_set_29 : decode cX5_set 29 = .ok (.ior, 1) := by decide +kernel
theorem dX5_set_30 : decode cX5_set 30 = .ok (.istore_n 2, 1) := by decide +kernel
theorem dX5_set_31 : decode cX5_set 31 = .ok (.iinc 3 1, 3) := by decide +kernel
theorem dX5_set_34 : decode cX5_set 34 = .ok (.goto (-30), 3) := by decide +kernel
theorem dX5_set_37 : decode cX5_set 37 = .ok (.iload_n 2, 1) := by decide +kernel
theorem dX5_set_38 : decode cX5_set 38 = .ok (.ireturn, 1) := by decide +kernel
theorem dX5_may_0 : decode cX5_may 0 = .ok (.aload_n 0, 1) := by decide +kernel
theorem dX5_may_1 : decode cX5_may 1 = .ok (.iload_n 2, 1) := by decide +kernel
theorem dX5_may_2 : decode cX5_may 2 = .ok (.invokevirtual 97, 3) := by decide +kernel
theorem dX5_may_5 : decode cX5_may 5 = .ok (.istore 4, 2) := by decide +kernel
theorem dX5_may_7 : decode cX5_may 7 = .ok (.iload 4, 2) := by decide +kernel
theorem dX5_may_9 : decode cX5_may 9 = .ok (.ifCond .ne 7, 3) := by decide +kernel
theorem dX5_may_12 : decode cX5_may 12 = .ok (.iconst 1, 1) := by decide +kernel
theorem dX5_may_13 : decode cX5_may 13 = .ok (.goto 4, 3) := by decide +kernel
theorem dX5_may_16 : decode cX5_may 16 = .ok (.iconst 0, 1) := by decide +kernel
theorem dX5_may_17 : decode cX5_may 17 = .ok (.istore 5, 2) := by decide +kernel
theorem dX5_may_19 : decode cX5_may 19 = .ok (.iconst 0, 1) := by decide +kernel
theorem dX5_may_20 : decode cX5_may 20 = .ok (.istore 6, 2) := by decide +kernel
theorem dX5_may_22 : decode cX5_may 22 = .ok (.iload 6, 2) := by decide +kernel
theorem dX5_may_24 : decode cX5_may 24 = .ok (.aload_n 0, 1) := by decide +kernel
theorem dX5_may_25 : decode cX5_may 25 = .ok (.getfield 85, 3) := by decide +kernel
theorem dX5_may_28 : decode cX5_may 28 = .ok (.if_icmp .ge 42, 3) := by decide +kernel
theorem dX5_may_31 : decode cX5_may 31 = .ok (.iload 5, 2) := by decide +kernel
theorem dX5_may_33 : decode cX5_may 33 = .ok (.iload 4, 2) := by decide +kernel
theorem dX5_may_35 : decode cX5_may 35 = .ok (.iload_n 3, 1) := by decide +kernel
theorem dX5_may_36 : decode cX5_may 36 = .ok (.iand, 1) := by decide +kernel
theorem dX5_may_37 : decode cX5_may 37 = .ok (.iconst 1, 1) := by decide +kernel
theorem dX5_may_38 : decode cX5_may 38 = .ok (.iload 6, 2) := by decide +kernel
theorem dX5_may_40 : decode cX5_may 40 = .ok (.ishl, 1) := by decide +kernel
theorem dX5_may_41 : decode cX5_may 41 = .ok (.iand, 1) := by decide +kernel
theorem dX5_may_42 : decode cX5_may 42 = .ok (.ifCond .eq 18, 3) := by decide +kernel
theorem dX5_may_45 : decode cX5_may 45 = .ok (.aload_n 0, 1) := by decide +kernel
theorem dX5_may_46 : decode cX5_may 46 = .ok (.getfield 32, 3) := by decide +kernel
theorem dX5_may_49 : decode cX5_may 49 = .ok (.iload 6, 2) := by decide +kernel
theorem dX5_may_51 : decode cX5_may 51 = .ok (.iaload, 1) := by decide +kernel
theorem dX5_may_52 : decode cX5_may 52 = .ok (.iload_n 1, 1) := by decide +kernel
theorem dX5_may_53 : decode cX5_may 53 = .ok (.if_icmp .ne 7, 3) := by decide +kernel
theorem dX5_may_56 : decode cX5_may 56 = .ok (.iconst 1, 1) := by decide +kernel
theorem dX5_may_57 : decode cX5_may 57 = .ok (.goto 4, 3) := by decide +kernel
theorem dX5_may_60 : decode cX5_may 60 = .ok (.iconst 0, 1) := by decide +kernel
theorem dX5_may_61 : decode cX5_may 61 = .ok (.ior, 1) := by decide +kernel
theorem dX5_may_62 : decode cX5_may 62 = .ok (.istore 5, 2) := by decide +kernel
theorem dX5_may_64 : decode cX5_may 64 = .ok (.iinc 6 1, 3) := by decide +kernel
theorem dX5_may_67 : decode cX5_may 67 = .ok (.goto (-45), 3) := by decide +kernel
theorem dX5_may_70 : decode cX5_may 70 = .ok (.iload 5, 2) := by decide +kernel
theorem dX5_may_72 : decode cX5_may 72 = .ok (.ireturn, 1) := by decide +kernel
theorem dX5_mayAll_0 : decode cX5_mayAll 0 = .ok (.iconst 1, 1) := by decide +kernel
theorem dX5_mayAll_1 : decode cX5_mayAll 1 = .ok (.istore 4, 2) := by decide +kernel
theorem dX5_mayAll_3 : decode cX5_mayAll 3 = .ok (.iconst 0, 1) := by decide +kernel
theorem dX5_mayAll_4 : decode cX5_mayAll 4 = .ok (.istore 5, 2) := by decide +kernel
theorem dX5_mayAll_6 : decode cX5_mayAll 6 = .ok (.iload 5, 2) := by decide +kernel
theorem dX5_mayAll_8 : decode cX5_mayAll 8 = .ok (.bipush 60, 2) := by decide +kernel
theorem dX5_mayAll_10 : decode cX5_mayAll 10 = .ok (.if_icmp .ge 45, 3) := by decide +kernel
theorem dX5_mayAll_13 : decode cX5_mayAll 13 = .ok (.iload 4, 2) := by decide +kernel
theorem dX5_mayAll_15 : decode cX5_mayAll 15 = .ok (.aload_n 0, 1) := by decide +kernel
theorem dX5_mayAll_16 : decode cX5_mayAll 16 = .ok (.iload 5, 2) := by decide +kernel
theorem dX5_mayAll_18 : decode cX5_mayAll 18 = .ok (.iload_n 2, 1) := by decide +kernel
theorem dX5_mayAll_19 : decode cX5_mayAll 19 = .ok (.invokevirtual 100, 3) := by decide +kernel
theorem dX5_mayAll_22 : decode cX5_mayAll 22 = .ok (.ifCond .eq 19, 3) := by decide +kernel
theorem dX5_mayAll_25 : decode cX5_mayAll 25 = .ok (.aload_n 0, 1) := by decide +kernel
theorem dX5_mayAll_26 : decode cX5_mayAll 26 = .ok (.iload_n 1, 1) := by decide +kernel
theorem dX5_mayAll_27 : decode cX5_mayAll 27 = .ok (.aload_n 0, 1) := by decide +kernel
theorem dX5_mayAll_28 : decode cX5_mayAll 28 = .ok (.getfield 13, 3) := by decide +kernel
theorem dX5_mayAll_31 : decode cX5_mayAll 31 = .ok (.iload 5, 2) := by decide +kernel
theorem dX5_mayAll_33 : decode cX5_mayAll 33 = .ok (.iaload, 1) := by decide +kernel
theorem dX5_mayAll_34 : decode cX5_mayAll 34 = .ok (.iload_n 3, 1) := by decide +kernel
theorem dX5_mayAll_35 : decode cX5_mayAll 35 = .ok (.invokevirtual 103, 3) := by decide +kernel
theorem dX5_mayAll_38 : decode cX5_mayAll 38 = .ok (.ifCond .eq 7, 3) := by decide +kernel
theorem dX5_mayAll_41 : decode cX5_mayAll 41 = .ok (.iconst 1, 1) := by decide +kernel
theorem dX5_mayAll_42 : decode cX5_mayAll 42 = .ok (.goto 4, 3) := by decide +kernel
theorem dX5_mayAll_45 : decode cX5_mayAll 45 = .ok (.iconst 0, 1) := by decide +kernel
theorem dX5_mayAll_46 : decode cX5_mayAll 46 = .ok (.iand, 1) := by decide +kernel
theorem dX5_mayAll_47 : decode cX5_mayAll 47 = .ok (.istore 4, 2) := by decide +kernel
theorem dX5_mayAll_49 : decode cX5_mayAll 49 = .ok (.iinc 5 1, 3) := by decide +kernel
theorem dX5_mayAll_52 : decode cX5_mayAll 52 = .ok (.goto (-46), 3) := by decide +kernel
theorem dX5_mayAll_55 : decode cX5_mayAll 55 = .ok (.iload 4, 2) := by decide +kernel
theorem dX5_mayAll_57 : decode cX5_mayAll 57 = .ok (.ireturn, 1) := by decide +kernel
theorem dX5_mayMake_0 : decode cX5_mayMake 0 = .ok (.aload_n 0, 1) := by decide +kernel
theorem dX5_mayMake_1 : decode cX5_mayMake 1 = .ok (.iload_n 1, 1) := by decide +kernel
theorem dX5_mayMake_2 : decode cX5_mayMake 2 = .ok (.iload_n 2, 1) := by decide +kernel
theorem dX5_mayMake_3 : decode cX5_mayMake 3 = .ok (.iload_n 3, 1) := by decide +kernel
theorem dX5_mayMake_4 : decode cX5_mayMake 4 = .ok (.invokevirtual 103, 3) := by decide +kernel
theorem dX5_mayMake_7 : decode cX5_mayMake 7 = .ok (.ifCond .eq 20, 3) := by decide +kernel
theorem dX5_mayMake_10 : decode cX5_mayMake 10 = .ok (.aload_n 0, 1) := by decide +kernel
theorem dX5_mayMake_11 : decode cX5_mayMake 11 = .ok (.iload_n 1, 1) := by decide +kernel
theorem dX5_mayMake_12 : decode cX5_mayMake 12 = .ok (.iload_n 2, 1) := by decide +kernel
theorem dX5_mayMake_13 : decode cX5_mayMake 13 = .ok (.bipush 10, 2) := by decide +kernel
theorem dX5_mayMake_15 : decode cX5_mayMake 15 = .ok (.idiv, 1) := by decide +kernel
theorem dX5_mayMake_16 : decode cX5_mayMake 16 = .ok (.iload_n 3, 1) := by decide +kernel
theorem dX5_mayMake_17 : decode cX5_mayMake 17 = .ok (.invokevirtual 103, 3) := by decide +kernel
theorem dX5_mayMake_20 : decode cX5_mayMake 20 = .ok (.ifCond .eq 7, 3) := by decide +kernel
theorem dX5_mayMake_23 : decode cX5_mayMake 23 = .ok (.iconst 1, 1) := by decide +kernel
theorem dX5_mayMake_24 : decode cX5_mayMake 24 = .ok (.goto 4, 3) := by decide +kernel
theorem dX5_mayMake_27 : decode cX5_mayMake 27 = .ok (.iconst 0, 1) := by decide +kernel
theorem dX5_mayMake_28 : decode cX5_mayMake 28 = .ok (.ireturn, 1) := by decide +kernel
theorem dX5_makeCollection_0 : decode cX5_makeCollection 0 = .ok (.aload_n 0, 1) := by decide +kernel
theorem dX5_makeCollection_1 : decode cX5_makeCollection 1 = .ok (.iload_n 1, 1) := by decide +kernel
theorem dX5_makeCollection_2 : decode cX5_makeCollection 2 = .ok (.iload_n 2, 1) := by decide +kernel
theorem dX5_makeCollection_3 : decode cX5_makeCollection 3 = .ok (.iload_n 3, 1) := by decide +kernel
theorem dX5_makeCollection_4 : decode cX5_makeCollection 4 = .ok (.invokevirtual 106, 3) := by decide +kernel
theorem dX5_makeCollection_7 : decode cX5_makeCollection 7 = .ok (.ifCond .ne 5, 3) := by decide +kernel
theorem dX5_makeCollection_10 : decode cX5_makeCollection 10 = .ok (.iconst 0, 1) := by decide +kernel
theorem dX5_makeCollection_11 : decode cX5_makeCollection 11 = .ok (.ireturn, 1) := by decide +kernel
theorem dX5_makeCollection_12 : decode cX5_makeCollection 12 = .ok (.aload_n 0, 1) := by decide +kernel
theorem dX5_makeCollection_13 : decode cX5_makeCollection 13 = .ok (.iload_n 2, 1) := by decide +kernel
theorem dX5_makeCollection_14 : decode cX5_makeCollection 14 = .ok (.bipush 10, 2) := by decide +kernel
theorem dX5_makeCollection_16 : decode cX5_makeCollection 16 = .ok (.idiv, 1) := by decide +kernel
theorem dX5_makeCollection_17 : decode cX5_makeCollection 17 = .ok (.invokevirtual 109, 3) := by decide +kernel
theorem dX5_makeCollection_20 : decode cX5_makeCollection 20 = .ok (.iconst 2, 1) := by decide +kernel
theorem dX5_makeCollection_21 : decode cX5_makeCollection 21 = .ok (.if_icmp .eq 7, 3) := by decide +kernel
theorem dX5_makeCollection_24 : decode cX5_makeCollection 24 = .ok (.iconst 1, 1) := by decide +kernel
theorem dX5_makeCollection_25 : decode cX5_makeCollection 25 = .ok (.goto 43, 3) := by decide +kernel
theorem dX5_makeCollection_28 : decode cX5_makeCollection 28 = .ok (.aload_n 0, 1) := by decide +kernel
theorem dX5_makeCollection_29 : decode cX5_makeCollection 29 = .ok (.iload_n 2, 1) := by decide +kernel
theorem dX5_makeCollection_30 : decode cX5_makeCollection 30 = .ok (.invokevirtual 74, 3) := by decide +kernel
theorem dX5_makeCollection_33 : decode cX5_makeCollection 33 = .ok (.ifCond .lt 7, 3) := by decide +kernel
theorem dX5_makeCollection_36 : decode cX5_makeCollection 36 = .ok (.iconst 2, 1) := by decide +kernel
theorem dX5_makeCollection_37 : decode cX5_makeCollection 37 = .ok (.goto 31, 3) := by decide +kernel
theorem dX5_makeCollection_40 : decode cX5_makeCollection 40 = .ok (.aload_n 0, 1) := by decide +kernel
theorem dX5_makeCollection_41 : decode cX5_makeCollection 41 = .ok (.iload_n 1, 1) := by decide +kernel
theorem dX5_makeCollection_42 : decode cX5_makeCollection 42 = .ok (.iload_n 2, 1) := by decide +kernel
theorem dX5_makeCollection_43 : decode cX5_makeCollection 43 = .ok (.iload_n 3, 1) := by decide +kernel
theorem dX5_makeCollection_44 : decode cX5_makeCollection 44 = .ok (.invokevirtual 112, 3) := by decide +kernel
theorem dX5_makeCollection_47 : decode cX5_makeCollection 47 = .ok (.ifCond .ne 7, 3) := by decide +kernel
theorem dX5_makeCollection_50 : decode cX5_makeCollection 50 = .ok (.iconst 4, 1) := by decide +kernel
theorem dX5_makeCollection_51 : decode cX5_makeCollection 51 = .ok (.goto 17, 3) := by decide +kernel
theorem dX5_makeCollection_54 : decode cX5_makeCollection 54 = .ok (.aload_n 0, 1) := by decide +kernel
theorem dX5_makeCollection_55 : decode cX5_makeCollection 55 = .ok (.invokevirtual 115, 3) := by decide +kernel
theorem dX5_makeCollection_58 : decode cX5_makeCollection 58 = .ok (.bipush 60, 2) := by decide +kernel
theorem dX5_makeCollection_60 : decode cX5_makeCollection 60 = .ok (.if_icmp .ne 7, 3) := by decide +kernel
theorem dX5_makeCollection_63 : decode cX5_makeCollection 63 = .ok (.iconst 5, 1) := by decide +kernel
theorem dX5_makeCollection_64 : decode cX5_makeCollection 64 = .ok (.goto 4, 3) := by decide +kernel
theorem dX5_makeCollection_67 : decode cX5_makeCollection 67 = .ok (.iconst 0, 1) := by decide +kernel
theorem dX5_makeCollection_68 : decode cX5_makeCollection 68 = .ok (.istore 4, 2) := by decide +kernel
theorem dX5_makeCollection_70 : decode cX5_makeCollection 70 = .ok (.iload 4, 2) := by decide +kernel
theorem dX5_makeCollection_72 : decode cX5_makeCollection 72 = .ok (.ifCond .ne 11, 3) := by decide +kernel
theorem dX5_makeCollection_75 : decode cX5_makeCollection 75 = .ok (.aload_n 0, 1) := by decide +kernel
theorem dX5_makeCollection_76 : decode cX5_makeCollection 76 = .ok (.iload_n 2, 1) := by decide +kernel
theorem dX5_makeCollection_77 : decode cX5_makeCollection 77 = .ok (.iconst 2, 1) := by decide +kernel
theorem dX5_makeCollection_78 : decode cX5_makeCollection 78 = .ok (.iconst 0, 1) := by decide +kernel
theorem dX5_makeCollection_79 : decode cX5_makeCollection 79 = .ok (.invokevirtual 119, 3) := by decide +kernel
theorem dX5_makeCollection_82 : decode cX5_makeCollection 82 = .ok (.pop, 1) := by decide +kernel
theorem dX5_makeCollection_83 : decode cX5_makeCollection 83 = .ok (.iload 4, 2) := by decide +kernel
theorem dX5_makeCollection_85 : decode cX5_makeCollection 85 = .ok (.ireturn, 1) := by decide +kernel
theorem dX5_puts_0 : decode cX5_puts 0 = .ok (.aload_n 0, 1) := by decide +kernel
theorem dX5_puts_1 : decode cX5_puts 1 = .ok (.iload_n 2, 1) := by decide +kernel
theorem dX5_puts_2 : decode cX5_puts 2 = .ok (.invokevirtual 74, 3) := by decide +kernel
theorem dX5_puts_5 : decode cX5_puts 5 = .ok (.istore 5, 2) := by decide +kernel
theorem dX5_puts_7 : decode cX5_puts 7 = .ok (.iload_n 3, 1) := by decide +kernel
theorem dX5_puts_8 : decode cX5_puts 8 = .ok (.ifCond .lt 19, 3) := by decide +kernel
theorem dX5_puts_11 : decode cX5_puts 11 = .ok (.iload 5, 2) := by decide +kernel
theorem dX5_puts_13 : decode cX5_puts 13 = .ok (.ifCond .lt 18, 3) := by decide +kernel
theorem dX5_puts_16 : decode cX5_puts 16 = .ok (.aload_n 0, 1) := by decide +kernel
theorem dX5_puts_17 : decode cX5_puts 17 = .ok (.getfield 20, 3) := by decide +kernel
theorem dX5_puts_20 : decode cX5_puts 20 = .ok (.iload 5, 2) := by decide +kernel
theorem dX5_puts_22 : decode cX5_puts 22 = .ok (.iaload, 1) := by decide +kernel
theorem dX5_puts_23 : decode cX5_puts 23 = .ok (.iload_n 3, 1) := by decide +kernel
theorem dX5_puts_24 : decode cX5_puts 24 = .ok (.if_icmp .ne 7, 3) := by decide +kernel
theorem dX5_puts_27 : decode cX5_puts 27 = .ok (.iconst 1, 1) := by decide +kernel
theorem dX5_puts_28 : decode cX5_puts 28 = .ok (.goto 4, 3) := by decide +kernel
theorem dX5_puts_31 : decode cX5_puts 31 = .ok (.iconst 0, 1) := by decide +kernel
theorem dX5_puts_32 : decode cX5_puts 32 = .ok (.istore 6, 2) := by decide +kernel
theorem dX5_puts_34 : decode cX5_puts 34 = .ok (.aload_n 0, 1) := by decide +kernel
theorem dX5_puts_35 : decode cX5_puts 35 = .ok (.iload_n 1, 1) := by decide +kernel
theorem dX5_puts_36 : decode cX5_puts 36 = .ok (.iload_n 2, 1) := by decide +kernel
theorem dX5_puts_37 : decode cX5_puts 37 = .ok (.iload 4, 2) := by decide +kernel
theorem dX5_puts_39 : decode cX5_puts 39 = .ok (.invokevirtual 103, 3) := by decide +kernel
theorem dX5_puts_42 : decode cX5_puts 42 = .ok (.ifCond .eq 26, 3) := by decide +kernel
theorem dX5_puts_45 : decode cX5_puts 45 = .ok (.iload 5, 2) := by decide +kernel
theorem dX5_puts_47 : decode cX5_puts 47 = .ok (.ifCond .ge 17, 3) := by decide +kernel
theorem dX5_puts_50 : decode cX5_puts 50 = .ok (.aload_n 0, 1) := by decide +kernel
theorem dX5_puts_51 : decode cX5_puts 51 = .ok (.iload_n 1, 1) := by decide +kernel
theorem dX5_puts_52 : decode cX5_puts 52 = .ok (.iload_n 2, 1) := by decide +kernel
theorem dX5_puts_53 : decode cX5_puts 53 = .ok (.bipush 10, 2) := by decide +kernel
theorem dX5_puts_55 : decode cX5_puts 55 = .ok (.idiv, 1) := by decide +kernel
theorem dX5_puts_56 : decode cX5_puts 56 = .ok (.iload 4, 2) := by decide +kernel
theorem dX5_puts_58 : decode cX5_puts 58 = .ok (.invokevirtual 103, 3) := by decide +kernel
theorem dX5_puts_61 : decode cX5_puts 61 = .ok (.ifCond .eq 7, 3) := by decide +kernel
theorem dX5_puts_64 : decode cX5_puts 64 = .ok (.iconst 1, 1) := by decide +kernel
theorem dX5_puts_65 : decode cX5_puts 65 = .ok (.goto 4, 3) := by decide +kernel
theorem dX5_puts_68 : decode cX5_puts 68 = .ok (.iconst 0, 1) := by decide +kernel
theorem dX5_puts_69 : decode cX5_puts 69 = .ok (.istore 7, 2) := by decide +kernel
theorem dX5_puts_71 : decode cX5_puts 71 = .ok (.aload_n 0, 1) := by decide +kernel
theorem dX5_puts_72 : decode cX5_puts 72 = .ok (.iload_n 2, 1) := by decide +kernel
theorem dX5_puts_73 : decode cX5_puts 73 = .ok (.bipush 10, 2) := by decide +kernel
theorem dX5_puts_75 : decode cX5_puts 75 = .ok (.idiv, 1) := by decide +kernel
theorem dX5_puts_76 : decode cX5_puts 76 = .ok (.invokevirtual 109, 3) := by decide +kernel
theorem dX5_puts_79 : decode cX5_puts 79 = .ok (.iconst 2, 1) := by decide +kernel
theorem dX5_puts_80 : decode cX5_puts 80 = .ok (.if_icmp .eq 7, 3) := by decide +kernel
theorem dX5_puts_83 : decode cX5_puts 83 = .ok (.iconst 1, 1) := by decide +kernel
theorem dX5_puts_84 : decode cX5_puts 84 = .ok (.goto 60, 3) := by decide +kernel
theorem dX5_puts_87 : decode cX5_puts 87 = .ok (.iload 5, 2) := by decide +kernel
theorem dX5_puts_89 : decode cX5_puts 89 = .ok (.ifCond .lt 18, 3) := by decide +kernel
theorem dX5_puts_92 : decode cX5_puts 92 = .ok (.aload_n 0, 1) := by decide +kernel
theorem dX5_puts_93 : decode cX5_puts 93 = .ok (.getfield 17, 3) := by decide +kernel
theorem dX5_puts_96 : decode cX5_puts 96 = .ok (.iload 5, 2) := by decide +kernel
theorem dX5_puts_98 : decode cX5_puts 98 = .ok (.iaload, 1) := by decide +kernel
theorem dX5_puts_99 : decode cX5_puts 99 = .ok (.iconst 2, 1) := by decide +kernel
theorem dX5_puts_100 : decode cX5_puts 100 = .ok (.if_icmp .ne 7, 3) := by decide +kernel
theorem dX5_puts_103 : decode cX5_puts 103 = .ok (.iconst 2, 1) := by decide +kernel
theorem dX5_puts_104 : decode cX5_puts 104 = .ok (.goto 40, 3) := by decide +kernel
theorem dX5_puts_107 : decode cX5_puts 107 = .ok (.iload 6, 2) := by decide +kernel
theorem dX5_puts_109 : decode cX5_puts 109 = .ok (.ifCond .ne 7, 3) := by decide +kernel
theorem dX5_puts_112 : decode cX5_puts 112 = .ok (.iconst 3, 1) := by decide +kernel
theorem dX5_puts_113 : decode cX5_puts 113 = .ok (.goto 31, 3) := by decide +kernel
theorem dX5_puts_116 : decode cX5_puts 116 = .ok (.iload 7, 2) := by decide +kernel
theorem dX5_puts_118 : decode cX5_puts 118 = .ok (.ifCond .ne 7, 3) := by decide +kernel
theorem dX5_puts_121 : decode cX5_puts 121 = .ok (.iconst 4, 1) := by decide +kernel
theorem dX5_puts_122 : decode cX5_puts 122 = .ok (.goto 22, 3) := by decide +kernel
theorem dX5_puts_125 : decode cX5_puts 125 = .ok (.iload 5, 2) := by decide +kernel
theorem dX5_puts_127 : decode cX5_puts 127 = .ok (.ifCond .ge 16, 3) := by decide +kernel
theorem dX5_puts_130 : decode cX5_puts 130 = .ok (.aload_n 0, 1) := by decide +kernel
theorem dX5_puts_131 : decode cX5_puts 131 = .ok (.invokevirtual 115, 3) := by decide +kernel
theorem dX5_puts_134 : decode cX5_puts 134 = .ok (.bipush 60, 2) := by decide +kernel
theorem dX5_puts_136 : decode cX5_puts 136 = .ok (.if_icmp .ne 7, 3) := by decide +kernel
theorem dX5_puts_139 : decode cX5_puts 139 = .ok (.iconst 5, 1) := by decide +kernel
theorem dX5_puts_140 : decode cX5_puts 140 = .ok (.goto 4, 3) := by decide +kernel
theorem dX5_puts_143 : decode cX5_puts 143 = .ok (.iconst 0, 1) := by decide +kernel
theorem dX5_puts_144 : decode cX5_puts 144 = .ok (.ireturn, 1) := by decide +kernel
theorem dX5_put_0 : decode cX5_put 0 = .ok (.aload_n 0, 1) := by decide +kernel
theorem dX5_put_1 : decode cX5_put 1 = .ok (.iload_n 1, 1) := by decide +kernel
theorem dX5_put_2 : decode cX5_put 2 = .ok (.iload_n 2, 1) := by decide +kernel
theorem dX5_put_3 : decode cX5_put 3 = .ok (.iload 5, 2) := by decide +kernel
theorem dX5_put_5 : decode cX5_put 5 = .ok (.invokevirtual 106, 3) := by decide +kernel
theorem dX5_put_8 : decode cX5_put 8 = .ok (.ifCond .eq 30, 3) := by decide +kernel
theorem dX5_put_11 : decode cX5_put 11 = .ok (.iload_n 3, 1) := by decide +kernel
theorem dX5_put_12 : decode cX5_put 12 = .ok (.iconst 0, 1) := by decide +kernel
theorem dX5_put_13 : decode cX5_put 13 = .ok (.sipush 999, 3) := by decide +kernel
theorem dX5_put_16 : decode cX5_put 16 = .ok (.invokestatic 60, 3) := by decide +kernel
theorem dX5_put_19 : decode cX5_put 19 = .ok (.ifCond .eq 19, 3) := by decide +kernel
theorem dX5_put_22 : decode cX5_put 22 = .ok (.iload 4, 2) := by decide +kernel
theorem dX5_put_24 : decode cX5_put 24 = .ok (.iconst (-1), 1) := by decide +kernel
theorem dX5_put_25 : decode cX5_put 25 = .ok (.sipush 999, 3) := by decide +kernel
theorem dX5_put_28 : decode cX5_put 28 = .ok (.invokestatic 60, 3) := by decide +kernel
theorem dX5_put_31 : decode cX5_put 31 = .ok (.ifCond .eq 7, 3) := by decide +kernel
theorem dX5_put_34 : decode cX5_put 34 = .ok (.iconst 1, 1) := by decide +kernel
theorem dX5_put_35 : decode cX5_put 35 = .ok (.goto 4, 3) := by decide +kernel
theorem dX5_put_38 : decode cX5_put 38 = .ok (.iconst 0, 1) := by decide +kernel
theorem dX5_put_39 : decode cX5_put 39 = .ok (.istore 6, 2) := by decide +kernel
theorem dX5_put_41 : decode cX5_put 41 = .ok (.aload_n 0, 1) := by decide +kernel
theorem dX5_put_42 : decode cX5_put 42 = .ok (.iload 6, 2) := by decide +kernel
theorem dX5_put_44 : decode cX5_put 44 = .ok (.ifCond .eq 7, 3) := by decide +kernel
theorem dX5_put_47 : decode cX5_put 47 = .ok (.iconst 0, 1) := by decide +kernel
theorem dX5_put_48 : decode cX5_put 48 = .ok (.goto 4, 3) := by decide +kernel
theorem dX5_put_51 : decode cX5_put 51 = .ok (.iconst 1, 1) := by decide +kernel
theorem dX5_put_52 : decode cX5_put 52 = .ok (.putfield 56, 3) := by decide +kernel
theorem dX5_put_55 : decode cX5_put 55 = .ok (.iload 6, 2) := by decide +kernel
theorem dX5_put_57 : decode cX5_put 57 = .ok (.ifCond .ne 5, 3) := by decide +kernel
theorem dX5_put_60 : decode cX5_put 60 = .ok (.iconst 0, 1) := by decide +kernel
theorem dX5_put_61 : decode cX5_put 61 = .ok (.ireturn, 1) := by decide +kernel
theorem dX5_put_62 : decode cX5_put 62 = .ok (.aload_n 0, 1) := by decide +kernel
theorem dX5_put_63 : decode cX5_put 63 = .ok (.iload_n 1, 1) := by decide +kernel
theorem dX5_put_64 : decode cX5_put 64 = .ok (.iload_n 2, 1) := by decide +kernel
theorem dX5_put_65 : decode cX5_put 65 = .ok (.iload 4, 2) := by decide +kernel
theorem dX5_put_67 : decode cX5_put 67 = .ok (.iload 5, 2) := by decide +kernel
theorem dX5_put_69 : decode cX5_put 69 = .ok (.invokevirtual 123, 3) := by decide +kernel
theorem dX5_put_72 : decode cX5_put 72 = .ok (.istore 7, 2) := by decide +kernel
theorem dX5_put_74 : decode cX5_put 74 = .ok (.iload 7, 2) := by decide +kernel
theorem dX5_put_76 : decode cX5_put 76 = .ok (.ifCond .ne 37, 3) := by decide +kernel
theorem dX5_put_79 : decode cX5_put 79 = .ok (.aload_n 0, 1) := by decide +kernel
theorem dX5_put_80 : decode cX5_put 80 = .ok (.iload_n 2, 1) := by decide +kernel
theorem dX5_put_81 : decode cX5_put 81 = .ok (.invokevirtual 74, 3) := by decide +kernel
theorem dX5_put_84 : decode cX5_put 84 = .ok (.istore 8, 2) := by decide +kernel
theorem dX5_put_86 : decode cX5_put 86 = .ok (.iload 8, 2) := by decide +kernel
theorem dX5_put_88 : decode cX5_put 88 = .ok (.ifCond .ge 13, 3) := by decide +kernel
theorem dX5_put_91 : decode cX5_put 91 = .ok (.aload_n 0, 1) := by decide +kernel
theorem dX5_put_92 : decode cX5_put 92 = .ok (.iload_n 2, 1) := by decide +kernel
theorem dX5_put_93 : decode cX5_put 93 = .ok (.iconst 1, 1) := by decide +kernel
theorem dX5_put_94 : decode cX5_put 94 = .ok (.iconst 0, 1) := by decide +kernel
theorem dX5_put_95 : decode cX5_put 95 = .ok (.invokevirtual 119, 3) := by decide +kernel
theorem dX5_put_98 : decode cX5_put 98 = .ok (.goto 5, 3) := by decide +kernel
theorem dX5_put_101 : decode cX5_put 101 = .ok (.iload 8, 2) := by decide +kernel
theorem dX5_put_103 : decode cX5_put 103 = .ok (.istore 8, 2) := by decide +kernel
theorem dX5_put_105 : decode cX5_put 105 = .ok (.aload_n 0, 1) := by decide +kernel
theorem dX5_put_106 : decode cX5_put 106 = .ok (.getfield 20, 3) := by decide +kernel
theorem dX5_put_109 : decode cX5_put 109 = .ok (.iload 8, 2) := by decide +kernel
theorem dX5_put_111 : decode cX5_put 111 = .ok (.iload_n 3, 1) := by decide +kernel
theorem dX5_put_112 : decode cX5_put 112 = .ok (.iastore, 1) := by decide +kernel
theorem dX5_put_113 : decode cX5_put 113 = .ok (.iload 7, 2) := by decide +kernel
theorem dX5_put_115 : decode cX5_put 115 = .ok (.ireturn, 1) := by decide +kernel
theorem dX5_delete_0 : decode cX5_delete 0 = .ok (.aload_n 0, 1) := by decide +kernel
theorem dX5_delete_1 : decode cX5_delete 1 = .ok (.iload_n 1, 1) := by decide +kernel
theorem dX5_delete_2 : decode cX5_delete 2 = .ok (.iload_n 2, 1) := by decide +kernel
theorem dX5_delete_3 : decode cX5_delete 3 = .ok (.iload_n 3, 1) := by decide +kernel
theorem dX5_delete_4 : decode cX5_delete 4 = .ok (.invokevirtual 106, 3) := by decide +kernel
theorem dX5_delete_7 : decode cX5_delete 7 = .ok (.ifCond .ne 5, 3) := by decide +kernel
theorem dX5_delete_10 : decode cX5_delete 10 = .ok (.iconst 0, 1) := by decide +kernel
theorem dX5_delete_11 : decode cX5_delete 11 = .ok (.ireturn, 1) := by decide +kernel
theorem dX5_delete_12 : decode cX5_delete 12 = .ok (.aload_n 0, 1) := by decide +kernel
theorem dX5_delete_13 : decode cX5_delete 13 = .ok (.iconst 0, 1) := by decide +kernel
theorem dX5_delete_14 : decode cX5_delete 14 = .ok (.putfield 127, 3) := by decide +kernel
theorem dX5_delete_17 : decode cX5_delete 17 = .ok (.aload_n 0, 1) := by decide +kernel
theorem dX5_delete_18 : decode cX5_delete 18 = .ok (.iload_n 2, 1) := by decide +kernel
theorem dX5_delete_19 : decode cX5_delete 19 = .ok (.invokevirtual 74, 3) := by decide +kernel
theorem dX5_delete_22 : decode cX5_delete 22 = .ok (.ifCond .ge 7, 3) := by decide +kernel
theorem dX5_delete_25 : decode cX5_delete 25 = .ok (.iconst 1, 1) := by decide +kernel
theorem dX5_delete_26 : decode cX5_delete 26 = .ok (.goto 18, 3) := by decide +kernel
theorem dX5_delete_29 : decode cX5_delete 29 = .ok (.aload_n 0, 1) := by decide +kernel
theorem dX5_delete_30 : decode cX5_delete 30 = .ok (.iload_n 1, 1) := by decide +kernel
theorem dX5_delete_31 : decode cX5_delete 31 = .ok (.iload_n 2, 1) := by decide +kernel
theorem dX5_delete_32 : decode cX5_delete 32 = .ok (.iload_n 3, 1) := by decide +kernel
theorem dX5_delete_33 : decode cX5_delete 33 = .ok (.invokevirtual 112, 3) := by decide +kernel
theorem dX5_delete_36 : decode cX5_delete 36 = .ok (.ifCond .eq 7, 3) := by decide +kernel
theorem dX5_delete_39 : decode cX5_delete 39 = .ok (.iconst 0, 1) := by decide +kernel
theorem dX5_delete_40 : decode cX5_delete 40 = .ok (.goto 4, 3) := by decide +kernel
theorem dX5_delete_43 : decode cX5_delete 43 = .ok (.iconst 4, 1) := by decide +kernel
theorem dX5_delete_44 : decode cX5_delete 44 = .ok (.istore 4, 2) := by decide +kernel
theorem dX5_delete_46 : decode cX5_delete 46 = .ok (.iload 4, 2) := by decide +kernel
theorem dX5_delete_48 : decode cX5_delete 48 = .ok (.ifCond .le 6, 3) := by decide +kernel
theorem dX5_delete_51 : decode cX5_delete 51 = .ok (.iload 4, 2) := by decide +kernel
theorem dX5_delete_53 : decode cX5_delete 53 = .ok (.ireturn, 1) := by decide +kernel
theorem dX5_delete_54 : decode cX5_delete 54 = .ok (.iconst 0, 1) := by decide +kernel
theorem dX5_delete_55 : decode cX5_delete 55 = .ok (.istore 5, 2) := by decide +kernel
theorem dX5_delete_57 : decode cX5_delete 57 = .ok (.iload 5, 2) := by decide +kernel
theorem dX5_delete_59 : decode cX5_delete 59 = .ok (.bipush 60, 2) := by decide +kernel
theorem dX5_delete_61 : decode cX5_delete 61 = .ok (.if_icmp .ge 47, 3) := by decide +kernel
theorem dX5_delete_64 : decode cX5_delete 64 = .ok (.aload_n 0, 1) := by decide +kernel
theorem dX5_delete_65 : decode cX5_delete 65 = .ok (.getfield 53, 3) := by decide +kernel
theorem dX5_delete_68 : decode cX5_delete 68 = .ok (.iload 5, 2) := by decide +kernel
theorem dX5_delete_70 : decode cX5_delete 70 = .ok (.aload_n 0, 1) := by decide +kernel
theorem dX5_delete_71 : decode cX5_delete 71 = .ok (.iload 5, 2) := by decide +kernel
theorem dX5_delete_73 : decode cX5_delete 73 = .ok (.iload_n 2, 1) := by decide +kernel
theorem dX5_delete_74 : decode cX5_delete 74 = .ok (.invokevirtual 100, 3) := by decide +kernel
theorem dX5_delete_77 : decode cX5_delete 77 = .ok (.ifCond .eq 23, 3) := by decide +kernel
theorem dX5_delete_80 : decode cX5_delete 80 = .ok (.aload_n 0, 1) := by decide +kernel
theorem dX5_delete_81 : decode cX5_delete 81 = .ok (.iload_n 1, 1) := by decide +kernel
theorem dX5_delete_82 : decode cX5_delete 82 = .ok (.aload_n 0, 1) := by decide +kernel
theorem dX5_delete_83 : decode cX5_delete 83 = .ok (.getfield 13, 3) := by decide +kernel
theorem dX5_delete_86 : decode cX5_delete 86 = .ok (.iload 5, 2) := by decide +kernel
theorem dX5_delete_88 : decode cX5_delete 88 = .ok (.iaload, 1) := by decide +kernel
theorem dX5_delete_89 : decode cX5_delete 89 = .ok (.iload_n 3, 1) := by decide +kernel
theorem dX5_delete_90 : decode cX5_delete 90 = .ok (.invokevirtual 103, 3) := by decide +kernel
theorem dX5_delete_93 : decode cX5_delete 93 = .ok (.ifCond .ne 7, 3) := by decide +kernel
theorem dX5_delete_96 : decode cX5_delete 96 = .ok (.iconst 1, 1) := by decide +kernel
theorem dX5_delete_97 : decode cX5_delete 97 = .ok (.goto 4, 3) := by decide +kernel
theorem dX5_delete_100 : decode cX5_delete 100 = .ok (.iconst 0, 1) := by decide +kernel
theorem dX5_delete_101 : decode cX5_delete 101 = .ok (.bastore, 1) := by decide +kernel
theorem dX5_delete_102 : decode cX5_delete 102 = .ok (.iinc 5 1, 3) := by decide +kernel
theorem dX5_delete_105 : decode cX5_delete 105 = .ok (.goto (-48), 3) := by decide +kernel
theorem dX5_delete_108 : decode cX5_delete 108 = .ok (.iconst 0, 1) := by decide +kernel
theorem dX5_delete_109 : decode cX5_delete 109 = .ok (.istore 5, 2) := by decide +kernel
theorem dX5_delete_111 : decode cX5_delete 111 = .ok (.iload 5, 2) := by decide +kernel
theorem dX5_delete_113 : decode cX5_delete 113 = .ok (.bipush 60, 2) := by decide +kernel
theorem dX5_delete_115 : decode cX5_delete 115 = .ok (.if_icmp .ge 94, 3) := by decide +kernel
theorem dX5_delete_118 : decode cX5_delete 118 = .ok (.aload_n 0, 1) := by decide +kernel
theorem dX5_delete_119 : decode cX5_delete 119 = .ok (.getfield 50, 3) := by decide +kernel
theorem dX5_delete_122 : decode cX5_delete 122 = .ok (.iload 5, 2) := by decide +kernel
theorem dX5_delete_124 : decode cX5_delete 124 = .ok (.aload_n 0, 1) := by decide +kernel
theorem dX5_delete_125 : decode cX5_delete 125 = .ok (.getfield 53, 3) := by decide +kernel
theorem dX5_delete_128 : decode cX5_delete 128 = .ok (.iload 5, 2) := by decide +kernel
theorem dX5_delete_130 : decode cX5_delete 130 = .ok (.baload, 1) := by decide +kernel
theorem dX5_delete_131 : decode cX5_delete 131 = .ok (.bastore, 1) := by decide +kernel
theorem dX5_delete_132 : decode cX5_delete 132 = .ok (.iconst 0, 1) := by decide +kernel
theorem dX5_delete_133 : decode cX5_delete 133 = .ok (.istore 6, 2) := by decide +kernel
theorem dX5_delete_135 : decode cX5_delete 135 = .ok (.iload 6, 2) := by decide +kernel
theorem dX5_delete_137 : decode cX5_delete 137 = .ok (.bipush 60, 2) := by decide +kernel
theorem dX5_delete_139 : decode cX5_delete 139 = .ok (.if_icmp .ge 64, 3) := by decide +kernel
theorem dX5_delete_142 : decode cX5_delete 142 = .ok (.aload_n 0, 1) := by decide +kernel
theorem dX5_delete_143 : decode cX5_delete 143 = .ok (.getfield 50, 3) := by decide +kernel
theorem dX5_delete_146 : decode cX5_delete 146 = .ok (.iload 5, 2) := by decide +kernel
theorem dX5_delete_148 : decode cX5_delete 148 = .ok (.dup2, 1) := by decide +kernel
theorem dX5_delete_149 : decode cX5_delete 149 = .ok (.baload, 1) := by decide +kernel
theorem dX5_delete_150 : decode cX5_delete 150 = .ok (.aload_n 0, 1) := by decide +kernel
theorem dX5_delete_151 : decode cX5_delete 151 = .ok (.iload 5, 2) := by decide +kernel
theorem dX5_delete_153 : decode cX5_delete 153 = .ok (.iload_n 2, 1) := by decide +kernel
theorem dX5_delete_154 : decode cX5_delete 154 = .ok (.invokevirtual 100, 3) := by decide +kernel
theorem dX5_delete_157 : decode cX5_delete 157 = .ok (.ifCond .eq 37, 3) := by decide +kernel
theorem dX5_delete_160 : decode cX5_delete 160 = .ok (.aload_n 0, 1) := by decide +kernel
theorem dX5_delete_161 : decode cX5_delete 161 = .ok (.getfield 53, 3) := by decide +kernel
theorem dX5_delete_164 : decode cX5_delete 164 = .ok (.iload 6, 2) := by decide +kernel
theorem dX5_delete_166 : decode cX5_delete 166 = .ok (.baload, 1) := by decide +kernel
theorem dX5_delete_167 : decode cX5_delete 167 = .ok (.ifCond .eq 27, 3) := by decide +kernel
theorem dX5_delete_170 : decode cX5_delete 170 = .ok (.aload_n 0, 1) := by decide +kernel
theorem dX5_delete_171 : decode cX5_delete 171 = .ok (.getfield 13, 3) := by decide +kernel
theorem dX5_delete_174 : decode cX5_delete 174 = .ok (.iload 5, 2) := by decide +kernel
theorem dX5_delete_176 : decode cX5_delete 176 = .ok (.iaload, 1) := by decide +kernel
theorem dX5_delete_177 : decode cX5_delete 177 = .ok (.aload_n 0, 1) := by decide +kernel
theorem dX5_delete_178 : decode cX5_delete 178 = .ok (.getfield 13, 3) := by decide +kernel
theorem dX5_delete_181 : decode cX5_delete 181 = .ok (.iload 6, 2) := by decide +kernel
theorem dX5_delete_183 : decode cX5_delete 183 = .ok (.iaload, 1) := by decide +kernel
theorem dX5_delete_184 : decode cX5_delete 184 = .ok (.invokestatic 78, 3) := by decide +kernel
theorem dX5_delete_187 : decode cX5_delete 187 = .ok (.ifCond .eq 7, 3) := by decide +kernel
theorem dX5_delete_190 : decode cX5_delete 190 = .ok (.iconst 1, 1) := by decide +kernel
theorem dX5_delete_191 : decode cX5_delete 191 = .ok (.goto 4, 3) := by decide +kernel
theorem dX5_delete_194 : decode cX5_delete 194 = .ok (.iconst 0, 1) := by decide +kernel
theorem dX5_delete_195 : decode cX5_delete 195 = .ok (.ior, 1) := by decide +kernel
theorem dX5_delete_196 : decode cX5_delete 196 = .ok (.bastore, 1) := by decide +kernel
theorem dX5_delete_197 : decode cX5_delete 197 = .ok (.iinc 6 1, 3) := by decide +kernel
theorem dX5_delete_200 : decode cX5_delete 200 = .ok (.goto (-65), 3) := by decide +kernel
theorem dX5_delete_203 : decode cX5_delete 203 = .ok (.iinc 5 1, 3) := by decide +kernel
theorem dX5_delete_206 : decode cX5_delete 206 = .ok (.goto (-95), 3) := by decide +kernel
theorem dX5_delete_209 : decode cX5_delete 209 = .ok (.iconst 0, 1) := by decide +kernel
theorem dX5_delete_210 : decode cX5_delete 210 = .ok (.istore 5, 2) := by decide +kernel
theorem dX5_delete_212 : decode cX5_delete 212 = .ok (.iload 5, 2) := by decide +kernel
theorem dX5_delete_214 : decode cX5_delete 214 = .ok (.bipush 60, 2) := by decide +kernel
theorem dX5_delete_216 : decode cX5_delete 216 = .ok (.if_icmp .ge 71, 3) := by decide +kernel
theorem dX5_delete_219 : decode cX5_delete 219 = .ok (.aload_n 0, 1) := by decide +kernel
theorem dX5_delete_220 : decode cX5_delete 220 = .ok (.getfield 53, 3) := by decide +kernel
theorem dX5_delete_223 : decode cX5_delete 223 = .ok (.iload 5, 2) := by decide +kernel
theorem dX5_delete_225 : decode cX5_delete 225 = .ok (.baload, 1) := by decide +kernel
theorem dX5_delete_226 : decode cX5_delete 226 = .ok (.ifCond .eq 29, 3) := by decide +kernel
theorem dX5_delete_229 : decode cX5_delete 229 = .ok (.aload_n 0, 1) := by decide +kernel
theorem dX5_delete_230 : decode cX5_delete 230 = .ok (.getfield 47, 3) := by decide +kernel
theorem dX5_delete_233 : decode cX5_delete 233 = .ok (.aload_n 0, 1) := by decide +kernel
theorem dX5_delete_234 : decode cX5_delete 234 = .ok (.getfield 127, 3) := by decide +kernel
theorem dX5_delete_237 : decode cX5_delete 237 = .ok (.aload_n 0, 1) := by decide +kernel
theorem dX5_delete_238 : decode cX5_delete 238 = .ok (.getfield 13, 3) := by decide +kernel
theorem dX5_delete_241 : decode cX5_delete 241 = .ok (.iload 5, 2) := by decide +kernel
theorem dX5_delete_243 : decode cX5_delete 243 = .ok (.iaload, 1) := by decide +kernel
theorem dX5_delete_244 : decode cX5_delete 244 = .ok (.iastore, 1) := by decide +kernel
theorem dX5_delete_245 : decode cX5_delete 245 = .ok (.aload_n 0, 1) := by decide +kernel
theorem dX5_delete_246 : decode cX5_delete 246 = .ok (.dup, 1) := by decide +kernel
theorem dX5_delete_247 : decode cX5_delete 247 = .ok (.getfield 127, 3) := by decide +kernel
theorem dX5_delete_250 : decode cX5_delete 250 = .ok (.iconst 1, 1) := by decide +kernel
theorem dX5_delete_251 : decode cX5_delete 251 = .ok (.iadd, 1) := by decide +kernel
theorem dX5_delete_252 : decode cX5_delete 252 = .ok (.putfield 127, 3) := by decide +kernel
theorem dX5_delete_255 : decode cX5_delete 255 = .ok (.aload_n 0, 1) := by decide +kernel
theorem dX5_delete_256 : decode cX5_delete 256 = .ok (.iload 5, 2) := by decide +kernel
theorem dX5_delete_258 : decode cX5_delete 258 = .ok (.iload_n 2, 1) := by decide +kernel
theorem dX5_delete_259 : decode cX5_delete 259 = .ok (.invokevirtual 100, 3) := by decide +kernel
theorem dX5_delete_262 : decode cX5_delete 262 = .ok (.ifCond .eq 19, 3) := by decide +kernel
theorem dX5_delete_265 : decode cX5_delete 265 = .ok (.aload_n 0, 1) := by decide +kernel
theorem dX5_delete_266 : decode cX5_delete 266 = .ok (.getfield 50, 3) := by decide +kernel
theorem dX5_delete_269 : decode cX5_delete 269 = .ok (.iload 5, 2) := by decide +kernel
theorem dX5_delete_271 : decode cX5_delete 271 = .ok (.baload, 1) := by decide +kernel
theorem dX5_delete_272 : decode cX5_delete 272 = .ok (.ifCond .ne 9, 3) := by decide +kernel
theorem dX5_delete_275 : decode cX5_delete 275 = .ok (.aload_n 0, 1) := by decide +kernel
theorem dX5_delete_276 : decode cX5_delete 276 = .ok (.iload 5, 2) := by decide +kernel
theorem dX5_delete_278 : decode cX5_delete 278 = .ok (.invokevirtual 130, 3) := by decide +kernel
theorem dX5_delete_281 : decode cX5_delete 281 = .ok (.iinc 5 1, 3) := by decide +kernel
theorem dX5_delete_284 : decode cX5_delete 284 = .ok (.goto (-72), 3) := by decide +kernel
theorem dX5_delete_287 : decode cX5_delete 287 = .ok (.aload_n 0, 1) := by decide +kernel
theorem dX5_delete_288 : decode cX5_delete 288 = .ok (.getfield 127, 3) := by decide +kernel
theorem dX5_delete_291 : decode cX5_delete 291 = .ok (.ifCond .le 8, 3) := by decide +kernel
theorem dX5_delete_294 : decode cX5_delete 294 = .ok (.bipush 6, 2) := by decide +kernel
theorem dX5_delete_296 : decode cX5_delete 296 = .ok (.goto 4, 3) := by decide +kernel
theorem dX5_delete_299 : decode cX5_delete 299 = .ok (.iconst 0, 1) := by decide +kernel
theorem dX5_delete_300 : decode cX5_delete 300 = .ok (.ireturn, 1) := by decide +kernel
theorem dX5_failures_0 : decode cX5_failures 0 = .ok (.aload_n 0, 1) := by decide +kernel
theorem dX5_failures_1 : decode cX5_failures 1 = .ok (.iconst 0, 1) := by decide +kernel
theorem dX5_failures_2 : decode cX5_failures 2 = .ok (.putfield 56, 3) := by decide +kernel
theorem dX5_failures_5 : decode cX5_failures 5 = .ok (.aload_n 0, 1) := by decide +kernel
theorem dX5_failures_6 : decode cX5_failures 6 = .ok (.getfield 127, 3) := by decide +kernel
theorem dX5_failures_9 : decode cX5_failures 9 = .ok (.ireturn, 1) := by decide +kernel
theorem dX5_failureAt_0 : decode cX5_failureAt 0 = .ok (.iconst (-1), 1) := by decide +kernel
theorem dX5_failureAt_1 : decode cX5_failureAt 1 = .ok (.istore_n 2, 1) := by decide +kernel
theorem dX5_failureAt_2 : decode cX5_failureAt 2 = .ok (.iconst 0, 1) := by decide +kernel
theorem dX5_failureAt_3 : decode cX5_failureAt 3 = .ok (.istore_n 3, 1) := by decide +kernel
theorem dX5_failureAt_4 : decode cX5_failureAt 4 = .ok (.iload_n 3, 1) := by decide +kernel
theorem dX5_failureAt_5 : decode cX5_failureAt 5 = .ok (.aload_n 0, 1) := by decide +kernel
theorem dX5_failureAt_6 : decode cX5_failureAt 6 = .ok (.getfield 127, 3) := by decide +kernel
theorem dX5_failureAt_9 : decode cX5_failureAt 9 = .ok (.if_icmp .ge 73, 3) := by decide +kernel
theorem dX5_failureAt_12 : decode cX5_failureAt 12 = .ok (.iconst 0, 1) := by decide +kernel
theorem dX5_failureAt_13 : decode cX5_failureAt 13 = .ok (.istore 4, 2) := by decide +kernel
theorem dX5_failureAt_15 : decode cX5_failureAt 15 = .ok (.iconst 0, 1) := by decide +kernel
theorem dX5_failureAt_16 : decode cX5_failureAt 16 = .ok (.istore 5, 2) := by decide +kernel
theorem dX5_failureAt_18 : decode cX5_failureAt 18 = .ok (.iload 5, 2) := by decide +kernel
theorem dX5_failureAt_20 : decode cX5_failureAt 20 = .ok (.aload_n 0, 1) := by decide +kernel
theorem dX5_failureAt_21 : decode cX5_failureAt 21 = .ok (.getfield 127, 3) := by decide +kernel
theorem dX5_failureAt_24 : decode cX5_failureAt 24 = .ok (.if_icmp .ge 35, 3) := by decide +kernel
theorem dX5_failureAt_27 : decode cX5_failureAt 27 = .ok (.iload 4, 2) := by decide +kernel
theorem dX5_failureAt_29 : decode cX5_failureAt 29 = .ok (.aload_n 0, 1) := by decide +kernel
theorem dX5_failureAt_30 : decode cX5_failureAt 30 = .ok (.getfield 47, 3) := by decide +kernel
theorem dX5_failureAt_33 : decode cX5_failureAt 33 = .ok (.iload 5, 2) := by decide +kernel
theorem dX5_failureAt_35 : decode cX5_failureAt 35 = .ok (.iaload, 1) := by decide +kernel
theorem dX5_failureAt_36 : decode cX5_failureAt 36 = .ok (.aload_n 0, 1) := by decide +kernel
theorem dX5_failureAt_37 : decode cX5_failureAt 37 = .ok (.getfield 47, 3) := by decide +kernel
theorem dX5_failureAt_40 : decode cX5_failureAt 40 = .ok (.iload_n 3, 1) := by decide +kernel
theorem dX5_failureAt_41 : decode cX5_failureAt 41 = .ok (.iaload, 1) := by decide +kernel
theorem dX5_failureAt_42 : decode cX5_failureAt 42 = .ok (.if_icmp .ge 7, 3) := by decide +kernel
theorem dX5_failureAt_45 : decode cX5_failureAt 45 = .ok (.iconst 1, 1) := by decide +kernel
theorem dX5_failureAt_46 : decode cX5_failureAt 46 = .ok (.goto 4, 3) := by decide +kernel
theorem dX5_failureAt_49 : decode cX5_failureAt 49 = .ok (.iconst 0, 1) := by decide +kernel
theorem dX5_failureAt_50 : decode cX5_failureAt 50 = .ok (.iadd, 1) := by decide +kernel
theorem dX5_failureAt_51 : decode cX5_failureAt 51 = .ok (.istore 4, 2) := by decide +kernel
theorem dX5_failureAt_53 : decode cX5_failureAt 53 = .ok (.iinc 5 1, 3) := by decide +kernel
theorem dX5_failureAt_56 : decode cX5_failureAt 56 = .ok (.goto (-38), 3) := by decide +kernel
theorem dX5_failureAt_59 : decode cX5_failureAt 59 = .ok (.iload 4, 2) := by decide +kernel
theorem dX5_failureAt_61 : decode cX5_failureAt 61 = .ok (.iload_n 1, 1) := by decide +kernel
theorem dX5_failureAt_62 : decode cX5_failureAt 62 = .ok (.if_icmp .ne 12, 3) := by decide +kernel
theorem dX5_failureAt_65 : decode cX5_failureAt 65 = .ok (.aload_n 0, 1) := by decide +kernel
theorem dX5_failureAt_66 : decode cX5_failureAt 66 = .ok (.getfield 47, 3) := by decide +kernel
theorem dX5_failureAt_69 : decode cX5_failureAt 69 = .ok (.iload_n 3, 1) := by decide +kernel
theorem dX5_failureAt_70 : decode cX5_failureAt 70 = .ok (.iaload, 1) := by decide +kernel
theorem dX5_failureAt_71 : decode cX5_failureAt 71 = .ok (.goto 4, 3) := by decide +kernel
theorem dX5_failureAt_74 : decode cX5_failureAt 74 = .ok (.iload_n 2, 1) := by decide +kernel
theorem dX5_failureAt_75 : decode cX5_failureAt 75 = .ok (.istore_n 2, 1) := by decide +kernel
theorem dX5_failureAt_76 : decode cX5_failureAt 76 = .ok (.iinc 3 1, 3) := by decide +kernel
theorem dX5_failureAt_79 : decode cX5_failureAt 79 = .ok (.goto (-75), 3) := by decide +kernel
theorem dX5_failureAt_82 : decode cX5_failureAt 82 = .ok (.aload_n 0, 1) := by decide +kernel
theorem dX5_failureAt_83 : decode cX5_failureAt 83 = .ok (.iload_n 2, 1) := by decide +kernel
theorem dX5_failureAt_84 : decode cX5_failureAt 84 = .ok (.ifCond .ge 7, 3) := by decide +kernel
theorem dX5_failureAt_87 : decode cX5_failureAt 87 = .ok (.iconst 1, 1) := by decide +kernel
theorem dX5_failureAt_88 : decode cX5_failureAt 88 = .ok (.goto 4, 3) := by decide +kernel
theorem dX5_failureAt_91 : decode cX5_failureAt 91 = .ok (.iconst 0, 1) := by decide +kernel
theorem dX5_failureAt_92 : decode cX5_failureAt 92 = .ok (.putfield 56, 3) := by decide +kernel
theorem dX5_failureAt_95 : decode cX5_failureAt 95 = .ok (.aload_n 0, 1) := by decide +kernel
theorem dX5_failureAt_96 : decode cX5_failureAt 96 = .ok (.getfield 56, 3) := by decide +kernel
theorem dX5_failureAt_99 : decode cX5_failureAt 99 = .ok (.ifCond .le 7, 3) := by decide +kernel
theorem dX5_failureAt_102 : decode cX5_failureAt 102 = .ok (.iconst 0, 1) := by decide +kernel
theorem dX5_failureAt_103 : decode cX5_failureAt 103 = .ok (.goto 4, 3) := by decide +kernel
theorem dX5_failureAt_106 : decode cX5_failureAt 106 = .ok (.iload_n 2, 1) := by decide +kernel
theorem dX5_failureAt_107 : decode cX5_failureAt 107 = .ok (.ireturn, 1) := by decide +kernel
theorem dX5_digits_0 : decode cX5_digits 0 = .ok (.iload_n 0, 1) := by decide +kernel
theorem dX5_digits_1 : decode cX5_digits 1 = .ok (.sipush 999, 3) := by decide +kernel
theorem dX5_digits_4 : decode cX5_digits 4 = .ok (.if_icmp .le 7, 3) := by decide +kernel
theorem dX5_digits_7 : decode cX5_digits 7 = .ok (.iconst 4, 1) := by decide +kernel
theorem dX5_digits_8 : decode cX5_digits 8 = .ok (.goto 32, 3) := by decide +kernel
theorem dX5_digits_11 : decode cX5_digits 11 = .ok (.iload_n 0, 1) := by decide +kernel
theorem dX5_digits_12 : decode cX5_digits 12 = .ok (.bipush 99, 2) := by decide +kernel
theorem dX5_digits_14 : decode cX5_digits 14 = .ok (.if_icmp .le 7, 3) := by decide +kernel
theorem dX5_digits_17 : decode cX5_digits 17 = .ok (.iconst 3, 1) := by decide +kernel
theorem dX5_digits_18 : decode cX5_digits 18 = .ok (.goto 22, 3) := by decide +kernel
theorem dX5_digits_21 : decode cX5_digits 21 = .ok (.iload_n 0, 1) := by decide +kernel
theorem dX5_digits_22 : decode cX5_digits 22 = .ok (.bipush 9, 2) := by decide +kernel
theorem dX5_digits_24 : decode cX5_digits 24 = .ok (.if_icmp .le 7, 3) := by decide +kernel
theorem dX5_digits_27 : decode cX5_digits 27 = .ok (.iconst 2, 1) := by decide +kernel
theorem dX5_digits_28 : decode cX5_digits 28 = .ok (.goto 12, 3) := by decide +kernel
theorem dX5_digits_31 : decode cX5_digits 31 = .ok (.iload_n 0, 1) := by decide +kernel
theorem dX5_digits_32 : decode cX5_digits 32 = .ok (.ifCond .le 7, 3) := by decide +kernel
theorem dX5_digits_35 : decode cX5_digits 35 = .ok (.iconst 1, 1) := by decide +kernel
theorem dX5_digits_36 : decode cX5_digits 36 = .ok (.goto 4, 3) := by decide +kernel
theorem dX5_digits_39 : decode cX5_digits 39 = .ok (.iconst 0, 1) := by decide +kernel
theorem dX5_digits_40 : decode cX5_digits 40 = .ok (.ireturn, 1) := by decide +kernel
theorem dX5_power_0 : decode cX5_power 0 = .ok (.iconst 1, 1) := by decide +kernel
theorem dX5_power_1 : decode cX5_power 1 = .ok (.istore_n 2, 1) := by decide +kernel
theorem dX5_power_2 : decode cX5_power 2 = .ok (.iload_n 1, 1) := by decide +kernel
theorem dX5_power_3 : decode cX5_power 3 = .ok (.invokestatic 134, 3) := by decide +kernel
theorem dX5_power_6 : decode cX5_power 6 = .ok (.istore_n 3, 1) := by decide +kernel
theorem dX5_power_7 : decode cX5_power 7 = .ok (.iload_n 3, 1) := by decide +kernel
theorem dX5_power_8 : decode cX5_power 8 = .ok (.iload_n 0, 1) := by decide +kernel
theorem dX5_power_9 : decode cX5_power 9 = .ok (.invokestatic 134, 3) := by decide +kernel
theorem dX5_power_12 : decode cX5_power 12 = .ok (.if_icmp .ge 14, 3) := by decide +kernel
theorem dX5_power_15 : decode cX5_power 15 = .ok (.iload_n 2, 1) := by decide +kernel
theorem dX5_power_16 : decode cX5_power 16 = .ok (.bipush 10, 2) := by decide +kernel
theorem dX5_power_18 : decode cX5_power 18 = .ok (.imul, 1) := by decide +kernel
theorem dX5_power_19 : decode cX5_power 19 = .ok (.istore_n 2, 1) := by decide +kernel
theorem dX5_power_20 : decode cX5_power 20 = .ok (.iinc 3 1, 3) := by decide +kernel
theorem dX5_power_23 : decode cX5_power 23 = .ok (.goto (-16), 3) := by decide +kernel
theorem dX5_power_26 : decode cX5_power 26 = .ok (.iload_n 2, 1) := by decide +kernel
theorem dX5_power_27 : decode cX5_power 27 = .ok (.ireturn, 1) := by decide +kernel
theorem dX5_brings_0 : decode cX5_brings 0 = .ok (.aload_n 0, 1) := by decide +kernel
theorem dX5_brings_1 : decode cX5_brings 1 = .ok (.iload_n 1, 1) := by decide +kernel
theorem dX5_brings_2 : decode cX5_brings 2 = .ok (.iload_n 2, 1) := by decide +kernel
theorem dX5_brings_3 : decode cX5_brings 3 = .ok (.iload 5, 2) := by decide +kernel
theorem dX5_brings_5 : decode cX5_brings 5 = .ok (.invokevirtual 106, 3) := by decide +kernel
theorem dX5_brings_8 : decode cX5_brings 8 = .ok (.ifCond .eq 35, 3) := by decide +kernel
theorem dX5_brings_11 : decode cX5_brings 11 = .ok (.iload_n 3, 1) := by decide +kernel
theorem dX5_brings_12 : decode cX5_brings 12 = .ok (.invokestatic 71, 3) := by decide +kernel
theorem dX5_brings_15 : decode cX5_brings 15 = .ok (.ifCond .eq 28, 3) := by decide +kernel
theorem dX5_brings_18 : decode cX5_brings 18 = .ok (.iload_n 2, 1) := by decide +kernel
theorem dX5_brings_19 : decode cX5_brings 19 = .ok (.iload_n 3, 1) := by decide +kernel
theorem dX5_brings_20 : decode cX5_brings 20 = .ok (.if_icmp .eq 23, 3) := by decide +kernel
theorem dX5_brings_23 : decode cX5_brings 23 = .ok (.iload_n 2, 1) := by decide +kernel
theorem dX5_brings_24 : decode cX5_brings 24 = .ok (.iload_n 3, 1) := by decide +kernel
theorem dX5_brings_25 : decode cX5_brings 25 = .ok (.invokestatic 78, 3) := by decide +kernel
theorem dX5_brings_28 : decode cX5_brings 28 = .ok (.ifCond .ne 15, 3) := by decide +kernel
theorem dX5_brings_31 : decode cX5_brings 31 = .ok (.iload_n 3, 1) := by decide +kernel
theorem dX5_brings_32 : decode cX5_brings 32 = .ok (.iload_n 2, 1) := by decide +kernel
theorem dX5_brings_33 : decode cX5_brings 33 = .ok (.invokestatic 78, 3) := by decide +kernel
theorem dX5_brings_36 : decode cX5_brings 36 = .ok (.ifCond .ne 7, 3) := by decide +kernel
theorem dX5_brings_39 : decode cX5_brings 39 = .ok (.iconst 1, 1) := by decide +kernel
theorem dX5_brings_40 : decode cX5_brings 40 = .ok (.goto 4, 3) := by decide +kernel
theorem dX5_brings_43 : decode cX5_brings 43 = .ok (.iconst 0, 1) := by decide +kernel
theorem dX5_brings_44 : decode cX5_brings 44 = .ok (.istore 7, 2) := by decide +kernel
theorem dX5_brings_46 : decode cX5_brings 46 = .ok (.aload_n 0, 1) := by decide +kernel
theorem dX5_brings_47 : decode cX5_brings 47 = .ok (.iload 7, 2) := by decide +kernel
theorem dX5_brings_49 : decode cX5_brings 49 = .ok (.ifCond .eq 7, 3) := by decide +kernel
theorem dX5_brings_52 : decode cX5_brings 52 = .ok (.iconst 0, 1) := by decide +kernel
theorem dX5_brings_53 : decode cX5_brings 53 = .ok (.goto 4, 3) := by decide +kernel
theorem dX5_brings_56 : decode cX5_brings 56 = .ok (.iconst 1, 1) := by decide +kernel
theorem dX5_brings_57 : decode cX5_brings 57 = .ok (.putfield 56, 3) := by decide +kernel
theorem dX5_brings_60 : decode cX5_brings 60 = .ok (.iload 7, 2) := by decide +kernel
theorem dX5_brings_62 : decode cX5_brings 62 = .ok (.ifCond .ne 5, 3) := by decide +kernel
theorem dX5_brings_65 : decode cX5_brings 65 = .ok (.iconst 0, 1) := by decide +kernel
theorem dX5_brings_66 : decode cX5_brings 66 = .ok (.ireturn, 1) := by decide +kernel
theorem dX5_brings_67 : decode cX5_brings 67 = .ok (.aload_n 0, 1) := by decide +kernel
theorem dX5_brings_68 : decode cX5_brings 68 = .ok (.iload_n 2, 1) := by decide +kernel
theorem dX5_brings_69 : decode cX5_brings 69 = .ok (.invokevirtual 74, 3) := by decide +kernel
theorem dX5_brings_72 : decode cX5_brings 72 = .ok (.ifCond .lt 19, 3) := by decide +kernel
theorem dX5_brings_75 : decode cX5_brings 75 = .ok (.aload_n 0, 1) := by decide +kernel
theorem dX5_brings_76 : decode cX5_brings 76 = .ok (.iload_n 3, 1) := by decide +kernel
theorem dX5_brings_77 : decode cX5_brings 77 = .ok (.bipush 10, 2) := by decide +kernel
theorem dX5_brings_79 : decode cX5_brings 79 = .ok (.idiv, 1) := by decide +kernel
theorem dX5_brings_80 : decode cX5_brings 80 = .ok (.invokevirtual 109, 3) := by decide +kernel
theorem dX5_brings_83 : decode cX5_brings 83 = .ok (.iconst 2, 1) := by decide +kernel
theorem dX5_brings_84 : decode cX5_brings 84 = .ok (.if_icmp .ne 7, 3) := by decide +kernel
theorem dX5_brings_87 : decode cX5_brings 87 = .ok (.iconst 1, 1) := by decide +kernel
theorem dX5_brings_88 : decode cX5_brings 88 = .ok (.goto 4, 3) := by decide +kernel
theorem dX5_brings_91 : decode cX5_brings 91 = .ok (.iconst 0, 1) := by decide +kernel
theorem dX5_brings_92 : decode cX5_brings 92 = .ok (.istore 8, 2) := by decide +kernel
theorem dX5_brings_94 : decode cX5_brings 94 = .ok (.iconst 0, 1) := by decide +kernel
theorem dX5_brings_95 : decode cX5_brings 95 = .ok (.istore 9, 2) := by decide +kernel
theorem dX5_brings_97 : decode cX5_brings 97 = .ok (.iconst 0, 1) := by decide +kernel
theorem dX5_brings_98 : decode cX5_brings 98 = .ok (.istore 10, 2) := by decide +kernel
theorem dX5_brings_100 : decode cX5_brings 100 = .ok (.iconst 0, 1) := by decide +kernel
theorem dX5_brings_101 : decode cX5_brings 101 = .ok (.istore 11, 2) := by decide +kernel
theorem dX5_brings_103 : decode cX5_brings 103 = .ok (.iload 11, 2) := by decide +kernel
theorem dX5_brings_105 : decode cX5_brings 105 = .ok (.bipush 60, 2) := by decide +kernel
theorem dX5_brings_107 : decode cX5_brings 107 = .ok (.if_icmp .ge 107, 3) := by decide +kernel
theorem dX5_brings_110 : decode cX5_brings 110 = .ok (.aload_n 0, 1) := by decide +kernel
theorem dX5_brings_111 : decode cX5_brings 111 = .ok (.getfield 50, 3) := by decide +kernel
theorem dX5_brings_114 : decode cX5_brings 114 = .ok (.iload 11, 2) := by decide +kernel
theorem dX5_brings_116 : decode cX5_brings 116 = .ok (.aload_n 0, 1) := by decide +kernel
theorem dX5_brings_117 : decode cX5_brings 117 = .ok (.iload 11, 2) := by decide +kernel
theorem dX5_brings_119 : decode cX5_brings 119 = .ok (.iload_n 2, 1) := by decide +kernel
theorem dX5_brings_120 : decode cX5_brings 120 = .ok (.invokevirtual 100, 3) := by decide +kernel
theorem dX5_brings_123 : decode cX5_brings 123 = .ok (.bastore, 1) := by decide +kernel
theorem dX5_brings_124 : decode cX5_brings 124 = .ok (.iload 8, 2) := by decide +kernel
theorem dX5_brings_126 : decode cX5_brings 126 = .ok (.aload_n 0, 1) := by decide +kernel
theorem dX5_brings_127 : decode cX5_brings 127 = .ok (.getfield 50, 3) := by decide +kernel
theorem dX5_brings_130 : decode cX5_brings 130 = .ok (.iload 11, 2) := by decide +kernel
theorem dX5_brings_132 : decode cX5_brings 132 = .ok (.baload, 1) := by decide +kernel
theorem dX5_brings_133 : decode cX5_brings 133 = .ok (.ifCond .eq 27, 3) := by decide +kernel
theorem dX5_brings_136 : decode cX5_brings 136 = .ok (.iload_n 3, 1) := by decide +kernel
theorem dX5_brings_137 : decode cX5_brings 137 = .ok (.invokestatic 134, 3) := by decide +kernel
theorem dX5_brings_140 : decode cX5_brings 140 = .ok (.aload_n 0, 1) := by decide +kernel
theorem dX5_brings_141 : decode cX5_brings 141 = .ok (.getfield 13, 3) := by decide +kernel
theorem dX5_brings_144 : decode cX5_brings 144 = .ok (.iload 11, 2) := by decide +kernel
theorem dX5_brings_146 : decode cX5_brings 146 = .ok (.iaload, 1) := by decide +kernel
theorem dX5_brings_147 : decode cX5_brings 147 = .ok (.invokestatic 134, 3) := by decide +kernel
theorem dX5_brings_150 : decode cX5_brings 150 = .ok (.iadd, 1) := by decide +kernel
theorem dX5_brings_151 : decode cX5_brings 151 = .ok (.iload_n 2, 1) := by decide +kernel
theorem dX5_brings_152 : decode cX5_brings 152 = .ok (.invokestatic 134, 3) := by decide +kernel
theorem dX5_brings_155 : decode cX5_brings 155 = .ok (.isub, 1) := by decide +kernel
theorem dX5_brings_156 : decode cX5_brings 156 = .ok (.iconst 5, 1) := by decide +kernel
theorem dX5_brings_157 : decode cX5_brings 157 = .ok (.if_icmp .ge 7, 3) := by decide +kernel
theorem dX5_brings_160 : decode cX5_brings 160 = .ok (.iconst 1, 1) := by decide +kernel
theorem dX5_brings_161 : decode cX5_brings 161 = .ok (.goto 4, 3) := by decide +kernel
theorem dX5_brings_164 : decode cX5_brings 164 = .ok (.iconst 0, 1) := by decide +kernel
theorem dX5_brings_165 : decode cX5_brings 165 = .ok (.iand, 1) := by decide +kernel
theorem dX5_brings_166 : decode cX5_brings 166 = .ok (.istore 8, 2) := by decide +kernel
theorem dX5_brings_168 : decode cX5_brings 168 = .ok (.iload 9, 2) := by decide +kernel
theorem dX5_brings_170 : decode cX5_brings 170 = .ok (.aload_n 0, 1) := by decide +kernel
theorem dX5_brings_171 : decode cX5_brings 171 = .ok (.getfield 50, 3) := by decide +kernel
theorem dX5_brings_174 : decode cX5_brings 174 = .ok (.iload 11, 2) := by decide +kernel
theorem dX5_brings_176 : decode cX5_brings 176 = .ok (.baload, 1) := by decide +kernel
theorem dX5_brings_177 : decode cX5_brings 177 = .ok (.ifCond .eq 7, 3) := by decide +kernel
theorem dX5_brings_180 : decode cX5_brings 180 = .ok (.iconst 1, 1) := by decide +kernel
theorem dX5_brings_181 : decode cX5_brings 181 = .ok (.goto 4, 3) := by decide +kernel
theorem dX5_brings_184 : decode cX5_brings 184 = .ok (.iconst 0, 1) := by decide +kernel
theorem dX5_brings_185 : decode cX5_brings 185 = .ok (.iadd, 1) := by decide +kernel
theorem dX5_brings_186 : decode cX5_brings 186 = .ok (.istore 9, 2) := by decide +kernel
theorem dX5_brings_188 : decode cX5_brings 188 = .ok (.iload 10, 2) := by decide +kernel
theorem dX5_brings_190 : decode cX5_brings 190 = .ok (.aload_n 0, 1) := by decide +kernel
theorem dX5_brings_191 : decode cX5_brings 191 = .ok (.iload 11, 2) := by decide +kernel
theorem dX5_brings_193 : decode cX5_brings 193 = .ok (.iload_n 3, 1) := by decide +kernel
theorem dX5_brings_194 : decode cX5_brings 194 = .ok (.invokevirtual 100, 3) := by decide +kernel
theorem dX5_brings_197 : decode cX5_brings 197 = .ok (.ifCond .eq 7, 3) := by decide +kernel
theorem dX5_brings_200 : decode cX5_brings 200 = .ok (.iconst 1, 1) := by decide +kernel
theorem dX5_brings_201 : decode cX5_brings 201 = .ok (.goto 4, 3) := by decide +kernel
theorem dX5_brings_204 : decode cX5_brings 204 = .ok (.iconst 0, 1) := by decide +kernel
theorem dX5_brings_205 : decode cX5_brings 205 = .ok (.iadd, 1) := by decide +kernel
theorem dX5_brings_206 : decode cX5_brings 206 = .ok (.istore 10, 2) := by decide +kernel
theorem dX5_brings_208 : decode cX5_brings 208 = .ok (.iinc 11 1, 3) := by decide +kernel
theorem dX5_brings_211 : decode cX5_brings 211 = .ok (.goto (-108), 3) := by decide +kernel
theorem dX5_brings_214 : decode cX5_brings 214 = .ok (.aload_n 0, 1) := by decide +kernel
theorem dX5_brings_215 : decode cX5_brings 215 = .ok (.iload_n 1, 1) := by decide +kernel
theorem dX5_brings_216 : decode cX5_brings 216 = .ok (.iload_n 3, 1) := by decide +kernel
theorem dX5_brings_217 : decode cX5_brings 217 = .ok (.iload 5, 2) := by decide +kernel
theorem dX5_brings_219 : decode cX5_brings 219 = .ok (.invokevirtual 112, 3) := by decide +kernel
theorem dX5_brings_222 : decode cX5_brings 222 = .ok (.ifCond .eq 18, 3) := by decide +kernel
theorem dX5_brings_225 : decode cX5_brings 225 = .ok (.aload_n 0, 1) := by decide +kernel
theorem dX5_brings_226 : decode cX5_brings 226 = .ok (.iload_n 1, 1) := by decide +kernel
theorem dX5_brings_227 : decode cX5_brings 227 = .ok (.iload_n 3, 1) := by decide +kernel
theorem dX5_brings_228 : decode cX5_brings 228 = .ok (.iload 5, 2) := by decide +kernel
theorem dX5_brings_230 : decode cX5_brings 230 = .ok (.invokevirtual 137, 3) := by decide +kernel
theorem dX5_brings_233 : decode cX5_brings 233 = .ok (.ifCond .eq 7, 3) := by decide +kernel
theorem dX5_brings_236 : decode cX5_brings 236 = .ok (.iconst 1, 1) := by decide +kernel
theorem dX5_brings_237 : decode cX5_brings 237 = .ok (.goto 4, 3) := by decide +kernel
theorem dX5_brings_240 : decode cX5_brings 240 = .ok (.iconst 0, 1) := by decide +kernel
theorem dX5_brings_241 : decode cX5_brings 241 = .ok (.istore 11, 2) := by decide +kernel
theorem dX5_brings_243 : decode cX5_brings 243 = .ok (.iload 11, 2) := by decide +kernel
theorem dX5_brings_245 : decode cX5_brings 245 = .ok (.ifCond .eq 37, 3) := by decide +kernel
theorem dX5_brings_248 : decode cX5_brings 248 = .ok (.iload 6, 2) := by decide +kernel
theorem dX5_brings_250 : decode cX5_brings 250 = .ok (.ifCond .eq 28, 3) := by decide +kernel
theorem dX5_brings_253 : decode cX5_brings 253 = .ok (.aload_n 0, 1) := by decide +kernel
theorem dX5_brings_254 : decode cX5_brings 254 = .ok (.iload_n 1, 1) := by decide +kernel
theorem dX5_brings_255 : decode cX5_brings 255 = .ok (.iload_n 2, 1) := by decide +kernel
theorem dX5_brings_256 : decode cX5_brings 256 = .ok (.bipush 10, 2) := by decide +kernel
theorem dX5_brings_258 : decode cX5_brings 258 = .ok (.idiv, 1) := by decide +kernel
theorem dX5_brings_259 : decode cX5_brings 259 = .ok (.iload 5, 2) := by decide +kernel
theorem dX5_brings_261 : decode cX5_brings 261 = .ok (.invokevirtual 103, 3) := by decide +kernel
theorem dX5_brings_264 : decode cX5_brings 264 = .ok (.ifCond .eq 18, 3) := by decide +kernel
theorem dX5_brings_267 : decode cX5_brings 267 = .ok (.aload_n 0, 1) := by decide +kernel
theorem dX5_brings_268 : decode cX5_brings 268 = .ok (.iload_n 1, 1) := by decide +kernel
theorem dX5_brings_269 : decode cX5_brings 269 = .ok (.iload_n 2, 1) := by decide +kernel
theorem dX5_brings_270 : decode cX5_brings 270 = .ok (.iload 5, 2) := by decide +kernel
theorem dX5_brings_272 : decode cX5_brings 272 = .ok (.invokevirtual 137, 3) := by decide +kernel
theorem dX5_brings_275 : decode cX5_brings 275 = .ok (.ifCond .eq 7, 3) := by decide +kernel
theorem dX5_brings_278 : decode cX5_brings 278 = .ok (.iconst 1, 1) := by decide +kernel
theorem dX5_brings_279 : decode cX5_brings 279 = .ok (.goto 4, 3) := by decide +kernel
theorem dX5_brings_282 : decode cX5_brings 282 = .ok (.iconst 0, 1) := by decide +kernel
theorem dX5_brings_283 : decode cX5_brings 283 = .ok (.istore 11, 2) := by decide +kernel
theorem dX5_brings_285 : decode cX5_brings 285 = .ok (.iload 8, 2) := by decide +kernel
theorem dX5_brings_287 : decode cX5_brings 287 = .ok (.ifCond .ne 7, 3) := by decide +kernel
theorem dX5_brings_290 : decode cX5_brings 290 = .ok (.iconst 1, 1) := by decide +kernel
theorem dX5_brings_291 : decode cX5_brings 291 = .ok (.goto 54, 3) := by decide +kernel
theorem dX5_brings_294 : decode cX5_brings 294 = .ok (.aload_n 0, 1) := by decide +kernel
theorem dX5_brings_295 : decode cX5_brings 295 = .ok (.iload_n 3, 1) := by decide +kernel
theorem dX5_brings_296 : decode cX5_brings 296 = .ok (.invokevirtual 74, 3) := by decide +kernel
theorem dX5_brings_299 : decode cX5_brings 299 = .ok (.ifCond .lt 12, 3) := by decide +kernel
theorem dX5_brings_302 : decode cX5_brings 302 = .ok (.iload 4, 2) := by decide +kernel
theorem dX5_brings_304 : decode cX5_brings 304 = .ok (.ifCond .ne 7, 3) := by decide +kernel
theorem dX5_brings_307 : decode cX5_brings 307 = .ok (.iconst 2, 1) := by decide +kernel
theorem dX5_brings_308 : decode cX5_brings 308 = .ok (.goto 37, 3) := by decide +kernel
theorem dX5_brings_311 : decode cX5_brings 311 = .ok (.iload 11, 2) := by decide +kernel
theorem dX5_brings_313 : decode cX5_brings 313 = .ok (.ifCond .ne 7, 3) := by decide +kernel
theorem dX5_brings_316 : decode cX5_brings 316 = .ok (.iconst 4, 1) := by decide +kernel
theorem dX5_brings_317 : decode cX5_brings 317 = .ok (.goto 28, 3) := by decide +kernel
theorem dX5_brings_320 : decode cX5_brings 320 = .ok (.iload 6, 2) := by decide +kernel
theorem dX5_brings_322 : decode cX5_brings 322 = .ok (.ifCond .ne 22, 3) := by decide +kernel
theorem dX5_brings_325 : decode cX5_brings 325 = .ok (.aload_n 0, 1) := by decide +kernel
theorem dX5_brings_326 : decode cX5_brings 326 = .ok (.invokevirtual 115, 3) := by decide +kernel
theorem dX5_brings_329 : decode cX5_brings 329 = .ok (.iload 10, 2) := by decide +kernel
theorem dX5_brings_331 : decode cX5_brings 331 = .ok (.isub, 1) := by decide +kernel
theorem dX5_brings_332 : decode cX5_brings 332 = .ok (.iload 9, 2) := by decide +kernel
theorem dX5_brings_334 : decode cX5_brings 334 = .ok (.iadd, 1) := by decide +kernel
theorem dX5_brings_335 : decode cX5_brings 335 = .ok (.bipush 60, 2) := by decide +kernel
theorem dX5_brings_337 : decode cX5_brings 337 = .ok (.if_icmp .le 7, 3) := by decide +kernel
theorem dX5_brings_340 : decode cX5_brings 340 = .ok (.iconst 5, 1) := by decide +kernel
theorem dX5_brings_341 : decode cX5_brings 341 = .ok (.goto 4, 3) := by decide +kernel
theorem dX5_brings_344 : decode cX5_brings 344 = .ok (.iconst 0, 1) := by decide +kernel
theorem dX5_brings_345 : decode cX5_brings 345 = .ok (.istore 12, 2) := by decide +kernel
theorem dX5_brings_347 : decode cX5_brings 347 = .ok (.iload 12, 2) := by decide +kernel
theorem dX5_brings_349 : decode cX5_brings 349 = .ok (.ifCond .ne 11, 3) := by decide +kernel
theorem dX5_brings_352 : decode cX5_brings 352 = .ok (.aload_n 0, 1) := by decide +kernel
theorem dX5_brings_353 : decode cX5_brings 353 = .ok (.iload_n 2, 1) := by decide +kernel
theorem dX5_brings_354 : decode cX5_brings 354 = .ok (.iload_n 3, 1) := by decide +kernel
theorem dX5_brings_355 : decode cX5_brings 355 = .ok (.iload 6, 2) := by decide +kernel
theorem dX5_brings_357 : decode cX5_brings 357 = .ok (.invokevirtual 140, 3) := by decide +kernel
theorem dX5_brings_360 : decode cX5_brings 360 = .ok (.iload 12, 2) := by decide +kernel
theorem dX5_brings_362 : decode cX5_brings 362 = .ok (.ireturn, 1) := by decide +kernel
theorem dX5_carries_0 : decode cX5_carries 0 = .ok (.iconst 0, 1) := by decide +kernel
theorem dX5_carries_1 : decode cX5_carries 1 = .ok (.istore 4, 2) := by decide +kernel
theorem dX5_carries_3 : decode cX5_carries 3 = .ok (.iload 4, 2) := by decide +kernel
theorem dX5_carries_5 : decode cX5_carries 5 = .ok (.bipush 60, 2) := by decide +kernel
theorem dX5_carries_7 : decode cX5_carries 7 = .ok (.if_icmp .ge 25, 3) := by decide +kernel
theorem dX5_carries_10 : decode cX5_carries 10 = .ok (.aload_n 0, 1) := by decide +kernel
theorem dX5_carries_11 : decode cX5_carries 11 = .ok (.iload 4, 2) := by decide +kernel
theorem dX5_carries_13 : decode cX5_carries 13 = .ok (.iload_n 2, 1) := by decide +kernel
theorem dX5_carries_14 : decode cX5_carries 14 = .ok (.invokevirtual 100, 3) := by decide +kernel
theorem dX5_carries_17 : decode cX5_carries 17 = .ok (.ifCond .eq 9, 3) := by decide +kernel
theorem dX5_carries_20 : decode cX5_carries 20 = .ok (.aload_n 0, 1) := by decide +kernel
theorem dX5_carries_21 : decode cX5_carries 21 = .ok (.iload 4, 2) := by decide +kernel
theorem dX5_carries_23 : decode cX5_carries 23 = .ok (.invokevirtual 130, 3) := by decide +kernel
theorem dX5_carries_26 : decode cX5_carries 26 = .ok (.iinc 4 1, 3) := by decide +kernel
theorem dX5_carries_29 : decode cX5_carries 29 = .ok (.goto (-26), 3) := by decide +kernel
theorem dX5_carries_32 : decode cX5_carries 32 = .ok (.aload_n 0, 1) := by decide +kernel
theorem dX5_carries_33 : decode cX5_carries 33 = .ok (.invokevirtual 144, 3) := by decide +kernel
theorem dX5_carries_36 : decode cX5_carries 36 = .ok (.istore 4, 2) := by decide +kernel
theorem dX5_carries_38 : decode cX5_carries 38 = .ok (.iload 4, 2) := by decide +kernel
theorem dX5_carries_40 : decode cX5_carries 40 = .ok (.ifCond .lt 122, 3) := by decide +kernel
theorem dX5_carries_43 : decode cX5_carries 43 = .ok (.aload_n 0, 1) := by decide +kernel
theorem dX5_carries_44 : decode cX5_carries 44 = .ok (.getfield 50, 3) := by decide +kernel
theorem dX5_carries_47 : decode cX5_carries 47 = .ok (.iload 4, 2) := by decide +kernel
theorem dX5_carries_49 : decode cX5_carries 49 = .ok (.iconst 0, 1) := by decide +kernel
theorem dX5_carries_50 : decode cX5_carries 50 = .ok (.bastore, 1) := by decide +kernel
theorem dX5_carries_51 : decode cX5_carries 51 = .ok (.aload_n 0, 1) := by decide +kernel
theorem dX5_carries_52 : decode cX5_carries 52 = .ok (.getfield 13, 3) := by decide +kernel
theorem dX5_carries_55 : decode cX5_carries 55 = .ok (.iload 4, 2) := by decide +kernel
theorem dX5_carries_57 : decode cX5_carries 57 = .ok (.iaload, 1) := by decide +kernel
theorem dX5_carries_58 : decode cX5_carries 58 = .ok (.iload_n 1, 1) := by decide +kernel
theorem dX5_carries_59 : decode cX5_carries 59 = .ok (.invokestatic 147, 3) := by decide +kernel
theorem dX5_carries_62 : decode cX5_carries 62 = .ok (.istore 5, 2) := by decide +kernel
theorem dX5_carries_64 : decode cX5_carries 64 = .ok (.iload_n 2, 1) := by decide +kernel
theorem dX5_carries_65 : decode cX5_carries 65 = .ok (.iload 5, 2) := by decide +kernel
theorem dX5_carries_67 : decode cX5_carries 67 = .ok (.imul, 1) := by decide +kernel
theorem dX5_carries_68 : decode cX5_carries 68 = .ok (.aload_n 0, 1) := by decide +kernel
theorem dX5_carries_69 : decode cX5_carries 69 = .ok (.getfield 13, 3) := by decide +kernel
theorem dX5_carries_72 : decode cX5_carries 72 = .ok (.iload 4, 2) := by decide +kernel
theorem dX5_carries_74 : decode cX5_carries 74 = .ok (.iaload, 1) := by decide +kernel
theorem dX5_carries_75 : decode cX5_carries 75 = .ok (.iload 5, 2) := by decide +kernel
theorem dX5_carries_77 : decode cX5_carries 77 = .ok (.irem, 1) := by decide +kernel
theorem dX5_carries_78 : decode cX5_carries 78 = .ok (.iadd, 1) := by decide +kernel
theorem dX5_carries_79 : decode cX5_carries 79 = .ok (.istore 6, 2) := by decide +kernel
theorem dX5_carries_81 : decode cX5_carries 81 = .ok (.iload_n 3, 1) := by decide +kernel
theorem dX5_carries_82 : decode cX5_carries 82 = .ok (.ifCond .eq 50, 3) := by decide +kernel
theorem dX5_carries_85 : decode cX5_carries 85 = .ok (.aload_n 0, 1) := by decide +kernel
theorem dX5_carries_86 : decode cX5_carries 86 = .ok (.iload 4, 2) := by decide +kernel
theorem dX5_carries_88 : decode cX5_carries 88 = .ok (.invokevirtual 130, 3) := by decide +kernel
theorem dX5_carries_91 : decode cX5_carries 91 = .ok (.aload_n 0, 1) := by decide +kernel
theorem dX5_carries_92 : decode cX5_carries 92 = .ok (.getfield 7, 3) := by decide +kernel
theorem dX5_carries_95 : decode cX5_carries 95 = .ok (.iload 4, 2) := by decide +kernel
theorem dX5_carries_97 : decode cX5_carries 97 = .ok (.iconst 1, 1) := by decide +kernel
theorem dX5_carries_98 : decode cX5_carries 98 = .ok (.bastore, 1) := by decide +kernel
theorem dX5_carries_99 : decode cX5_carries 99 = .ok (.aload_n 0, 1) := by decide +kernel
theorem dX5_carries_100 : decode cX5_carries 100 = .ok (.getfield 13, 3) := by decide +kernel
theorem dX5_carries_103 : decode cX5_carries 103 = .ok (.iload 4, 2) := by decide +kernel
theorem dX5_carries_105 : decode cX5_carries 105 = .ok (.iload 6, 2) := by decide +kernel
theorem dX5_carries_107 : decode cX5_carries 107 = .ok (.iastore, 1) := by decide +kernel
theorem dX5_carries_108 : decode cX5_carries 108 = .ok (.aload_n 0, 1) := by decide +kernel
theorem dX5_carries_109 : decode cX5_carries 109 = .ok (.dup, 1) := by decide +kernel
theorem dX5_carries_110 : decode cX5_carries 110 = .ok (.getfield 82, 3) := by decide +kernel
theorem dX5_carries_113 : decode cX5_carries 113 = .ok (.iconst 1, 1) := by decide +kernel
theorem dX5_carries_114 : decode cX5_carries 114 = .ok (.iadd, 1) := by decide +kernel
theorem dX5_carries_115 : decode cX5_carries 115 = .ok (.putfield 82, 3) := by decide +kernel
theorem dX5_carries_118 : decode cX5_carries 118 = .ok (.aload_n 0, 1) := by decide +kernel
theorem dX5_carries_119 : decode cX5_carries 119 = .ok (.getfield 23, 3) := by decide +kernel
theorem dX5_carries_122 : decode cX5_carries 122 = .ok (.iload 4, 2) := by decide +kernel
theorem dX5_carries_124 : decode cX5_carries 124 = .ok (.aload_n 0, 1) := by decide +kernel
theorem dX5_carries_125 : decode cX5_carries 125 = .ok (.getfield 82, 3) := by decide +kernel
theorem dX5_carries_128 : decode cX5_carries 128 = .ok (.iastore, 1) := by decide +kernel
theorem dX5_carries_129 : decode cX5_carries 129 = .ok (.goto 24, 3) := by decide +kernel
theorem dX5_carries_132 : decode cX5_carries 132 = .ok (.aload_n 0, 1) := by decide +kernel
theorem dX5_carries_133 : decode cX5_carries 133 = .ok (.iload 6, 2) := by decide +kernel
theorem dX5_carries_135 : decode cX5_carries 135 = .ok (.aload_n 0, 1) := by decide +kernel
theorem dX5_carries_136 : decode cX5_carries 136 = .ok (.getfield 17, 3) := by decide +kernel
theorem dX5_carries_139 : decode cX5_carries 139 = .ok (.iload 4, 2) := by decide +kernel
theorem dX5_carries_141 : decode cX5_carries 141 = .ok (.iaload, 1) := by decide +kernel
theorem dX5_carries_142 : decode cX5_carries 142 = .ok (.aload_n 0, 1) := by decide +kernel
theorem dX5_carries_143 : decode cX5_carries 143 = .ok (.getfield 20, 3) := by decide +kernel
theorem dX5_carries_146 : decode cX5_carries 146 = .ok (.iload 4, 2) := by decide +kernel
theorem dX5_carries_148 : decode cX5_carries 148 = .ok (.iaload, 1) := by decide +kernel
theorem dX5_carries_149 : decode cX5_carries 149 = .ok (.invokevirtual 119, 3) := by decide +kernel
theorem dX5_carries_152 : decode cX5_carries 152 = .ok (.pop, 1) := by decide +kernel
theorem dX5_carries_153 : decode cX5_carries 153 = .ok (.aload_n 0, 1) := by decide +kernel
theorem dX5_carries_154 : decode cX5_carries 154 = .ok (.invokevirtual 144, 3) := by decide +kernel
theorem dX5_carries_157 : decode cX5_carries 157 = .ok (.istore 4, 2) := by decide +kernel
theorem dX5_carries_159 : decode cX5_carries 159 = .ok (.goto (-121), 3) := by decide +kernel
theorem dX5_carries_162 : decode cX5_carries 162 = .ok (.return_, 1) := by decide +kernel
theorem dX5_lowest_0 : decode cX5_lowest 0 = .ok (.iconst (-1), 1) := by decide +kernel
theorem dX5_lowest_1 : decode cX5_lowest 1 = .ok (.istore_n 1, 1) := by decide +kernel
theorem dX5_lowest_2 : decode cX5_lowest 2 = .ok (.iconst 0, 1) := by decide +kernel
theorem dX5_lowest_3 : decode cX5_lowest 3 = .ok (.istore_n 2, 1) := by decide +kernel
theorem dX5_lowest_4 : decode cX5_lowest 4 = .ok (.iload_n 2, 1) := by decide +kernel
theorem dX5_lowest_5 : decode cX5_lowest 5 = .ok (.bipush 60, 2) := by decide +kernel
theorem dX5_lowest_7 : decode cX5_lowest 7 = .ok (.if_icmp .ge 43, 3) := by decide +kernel
theorem dX5_lowest_10 : decode cX5_lowest 10 = .ok (.aload_n 0, 1) := by decide +kernel
theorem dX5_lowest_11 : decode cX5_lowest 11 = .ok (.getfield 50, 3) := by decide +kernel
theorem dX5_lowest_14 : decode cX5_lowest 14 = .ok (.iload_n 2, 1) := by decide +kernel
theorem dX5_lowest_15 : decode cX5_lowest 15 = .ok (.baload, 1) := by decide +kernel
theorem dX5_lowest_16 : decode cX5_lowest 16 = .ok (.ifCond .eq 26, 3) := by decide +kernel
theorem dX5_lowest_19 : decode cX5_lowest 19 = .ok (.iload_n 1, 1) := by decide +kernel
theorem dX5_lowest_20 : decode cX5_lowest 20 = .ok (.ifCond .lt 18, 3) := by decide +kernel
theorem dX5_lowest_23 : decode cX5_lowest 23 = .ok (.aload_n 0, 1) := by decide +kernel
theorem dX5_lowest_24 : decode cX5_lowest 24 = .ok (.getfield 23, 3) := by decide +kernel
theorem dX5_lowest_27 : decode cX5_lowest 27 = .ok (.iload_n 2, 1) := by decide +kernel
theorem dX5_lowest_28 : decode cX5_lowest 28 = .ok (.iaload, 1) := by decide +kernel
theorem dX5_lowest_29 : decode cX5_lowest 29 = .ok (.aload_n 0, 1) := by decide +kernel
theorem dX5_lowest_30 : decode cX5_lowest 30 = .ok (.getfield 23, 3) := by decide +kernel
theorem dX5_lowest_33 : decode cX5_lowest 33 = .ok (.iload_n 1, 1) := by decide +kernel
theorem dX5_lowest_34 : decode cX5_lowest 34 = .ok (.iaload, 1) := by decide +kernel
theorem dX5_lowest_35 : decode cX5_lowest 35 = .ok (.if_icmp .ge 7, 3) := by decide +kernel
theorem dX5_lowest_38 : decode cX5_lowest 38 = .ok (.iload_n 2, 1) := by decide +kernel
theorem dX5_lowest_39 : decode cX5_lowest 39 = .ok (.goto 4, 3) := by decide +kernel
theorem dX5_lowest_42 : decode cX5_lowest 42 = .ok (.iload_n 1, 1) := by decide +kernel
theorem dX5_lowest_43 : decode cX5_lowest 43 = .ok (.istore_n 1, 1) := by decide +kernel
theorem dX5_lowest_44 : decode cX5_lowest 44 = .ok (.iinc 2 1, 3) := by decide +kernel
theorem dX5_lowest_47 : decode cX5_lowest 47 = .ok (.goto (-43), 3) := by decide +kernel
theorem dX5_lowest_50 : decode cX5_lowest 50 = .ok (.iload_n 1, 1) := by decide +kernel
theorem dX5_lowest_51 : decode cX5_lowest 51 = .ok (.ireturn, 1) := by decide +kernel
theorem dX5_copy_0 : decode cX5_copy 0 = .ok (.aload_n 0, 1) := by decide +kernel
theorem dX5_copy_1 : decode cX5_copy 1 = .ok (.iload_n 1, 1) := by decide +kernel
theorem dX5_copy_2 : decode cX5_copy 2 = .ok (.iload_n 2, 1) := by decide +kernel
theorem dX5_copy_3 : decode cX5_copy 3 = .ok (.iload_n 3, 1) := by decide +kernel
theorem dX5_copy_4 : decode cX5_copy 4 = .ok (.iload 4, 2) := by decide +kernel
theorem dX5_copy_6 : decode cX5_copy 6 = .ok (.iload 5, 2) := by decide +kernel
theorem dX5_copy_8 : decode cX5_copy 8 = .ok (.iconst 0, 1) := by decide +kernel
theorem dX5_copy_9 : decode cX5_copy 9 = .ok (.invokevirtual 151, 3) := by decide +kernel
theorem dX5_copy_12 : decode cX5_copy 12 = .ok (.ireturn, 1) := by decide +kernel
theorem dX5_move_0 : decode cX5_move 0 = .ok (.aload_n 0, 1) := by decide +kernel
theorem dX5_move_1 : decode cX5_move 1 = .ok (.iload_n 1, 1) := by decide +kernel
theorem dX5_move_2 : decode cX5_move 2 = .ok (.iload_n 2, 1) := by decide +kernel
theorem dX5_move_3 : decode cX5_move 3 = .ok (.iload_n 3, 1) := by decide +kernel
theorem dX5_move_4 : decode cX5_move 4 = .ok (.iload 4, 2) := by decide +kernel
theorem dX5_move_6 : decode cX5_move 6 = .ok (.iload 5, 2) := by decide +kernel
theorem dX5_move_8 : decode cX5_move 8 = .ok (.iconst 1, 1) := by decide +kernel
theorem dX5_move_9 : decode cX5_move 9 = .ok (.invokevirtual 151, 3) := by decide +kernel
theorem dX5_move_12 : decode cX5_move 12 = .ok (.ireturn, 1) := by decide +kernel
theorem dX5_asks_0 : decode cX5_asks 0 = .ok (.aload_n 0, 1) := by decide +kernel
theorem dX5_asks_1 : decode cX5_asks 1 = .ok (.iload_n 1, 1) := by decide +kernel
theorem dX5_asks_2 : decode cX5_asks 2 = .ok (.invokestatic 64, 3) := by decide +kernel
theorem dX5_asks_5 : decode cX5_asks 5 = .ok (.ifCond .eq 7, 3) := by decide +kernel
theorem dX5_asks_8 : decode cX5_asks 8 = .ok (.iconst 0, 1) := by decide +kernel
theorem dX5_asks_9 : decode cX5_asks 9 = .ok (.goto 4, 3) := by decide +kernel
theorem dX5_asks_12 : decode cX5_asks 12 = .ok (.iconst 1, 1) := by decide +kernel
theorem dX5_asks_13 : decode cX5_asks 13 = .ok (.putfield 56, 3) := by decide +kernel
theorem dX5_asks_16 : decode cX5_asks 16 = .ok (.aload_n 0, 1) := by decide +kernel
theorem dX5_asks_17 : decode cX5_asks 17 = .ok (.getfield 56, 3) := by decide +kernel
theorem dX5_asks_20 : decode cX5_asks 20 = .ok (.ifCond .ne 7, 3) := by decide +kernel
theorem dX5_asks_23 : decode cX5_asks 23 = .ok (.iconst 1, 1) := by decide +kernel
theorem dX5_asks_24 : decode cX5_asks 24 = .ok (.goto 4, 3) := by decide +kernel
theorem dX5_asks_27 : decode cX5_asks 27 = .ok (.iconst 0, 1) := by decide +kernel
theorem dX5_asks_28 : decode cX5_asks 28 = .ok (.ireturn, 1) := by decide +kernel
theorem dX5_kindOf_0 : decode cX5_kindOf 0 = .ok (.aload_n 0, 1) := by decide +kernel
theorem dX5_kindOf_1 : decode cX5_kindOf 1 = .ok (.iload_n 1, 1) := by decide +kernel
theorem dX5_kindOf_2 : decode cX5_kindOf 2 = .ok (.invokevirtual 155, 3) := by decide +kernel
theorem dX5_kindOf_5 : decode cX5_kindOf 5 = .ok (.ifCond .eq 11, 3) := by decide +kernel
theorem dX5_kindOf_8 : decode cX5_kindOf 8 = .ok (.aload_n 0, 1) := by decide +kernel
theorem dX5_kindOf_9 : decode cX5_kindOf 9 = .ok (.iload_n 1, 1) := by decide +kernel
theorem dX5_kindOf_10 : decode cX5_kindOf 10 = .ok (.invokevirtual 109, 3) := by decide +kernel
theorem dX5_kindOf_13 : decode cX5_kindOf 13 = .ok (.goto 4, 3) := by decide +kernel
theorem dX5_kindOf_16 : decode cX5_kindOf 16 = .ok (.iconst 0, 1) := by decide +kernel
theorem dX5_kindOf_17 : decode cX5_kindOf 17 = .ok (.ireturn, 1) := by decide +kernel
theorem dX5_content_0 : decode cX5_content 0 = .ok (.aload_n 0, 1) := by decide +kernel
theorem dX5_content_1 : decode cX5_content 1 = .ok (.iload_n 1, 1) := by decide +kernel
theorem dX5_content_2 : decode cX5_content 2 = .ok (.invokevirtual 155, 3) := by decide +kernel
theorem dX5_content_5 : decode cX5_content 5 = .ok (.ifCond .ne 7, 3) := by decide +kernel
theorem dX5_content_8 : decode cX5_content 8 = .ok (.iconst 0, 1) := by decide +kernel
theorem dX5_content_9 : decode cX5_content 9 = .ok (.goto 26, 3) := by decide +kernel
theorem dX5_content_12 : decode cX5_content 12 = .ok (.aload_n 0, 1) := by decide +kernel
theorem dX5_content_13 : decode cX5_content 13 = .ok (.iload_n 1, 1) := by decide +kernel
theorem dX5_content_14 : decode cX5_content 14 = .ok (.invokevirtual 109, 3) := by decide +kernel
theorem dX5_content_17 : decode cX5_content 17 = .ok (.iconst 1, 1) := by decide +kernel
theorem dX5_content_18 : decode cX5_content 18 = .ok (.if_icmp .ne 16, 3) := by decide +kernel
theorem dX5_content_21 : decode cX5_content 21 = .ok (.aload_n 0, 1) := by decide +kernel
theorem dX5_content_22 : decode cX5_content 22 = .ok (.getfield 20, 3) := by decide +kernel
theorem dX5_content_25 : decode cX5_content 25 = .ok (.aload_n 0, 1) := by decide +kernel
theorem dX5_content_26 : decode cX5_content 26 = .ok (.iload_n 1, 1) := by decide +kernel
theorem dX5_content_27 : decode cX5_content 27 = .ok (.invokevirtual 74, 3) := by decide +kernel
theorem dX5_content_30 : decode cX5_content 30 = .ok (.iaload, 1) := by decide +kernel
theorem dX5_content_31 : decode cX5_content 31 = .ok (.goto 4, 3) := by decide +kernel
theorem dX5_content_34 : decode cX5_content 34 = .ok (.iconst (-1), 1) := by decide +kernel
theorem dX5_content_35 : decode cX5_content 35 = .ok (.ireturn, 1) := by decide +kernel
theorem dX5_resources_0 : decode cX5_resources 0 = .ok (.aload_n 0, 1) := by decide +kernel
theorem dX5_resources_1 : decode cX5_resources 1 = .ok (.iconst 0, 1) := by decide +kernel
theorem dX5_resources_2 : decode cX5_resources 2 = .ok (.putfield 56, 3) := by decide +kernel
theorem dX5_resources_5 : decode cX5_resources 5 = .ok (.aload_n 0, 1) := by decide +kernel
theorem dX5_resources_6 : decode cX5_resources 6 = .ok (.invokevirtual 115, 3) := by decide +kernel
theorem dX5_resources_9 : decode cX5_resources 9 = .ok (.ireturn, 1) := by decide +kernel
theorem dX5_isMember_0 : decode cX5_isMember 0 = .ok (.aload_n 0, 1) := by decide +kernel
theorem dX5_isMember_1 : decode cX5_isMember 1 = .ok (.getfield 7, 3) := by decide +kernel
theorem dX5_isMember_4 : decode cX5_isMember 4 = .ok (.iload_n 1, 1) := by decide +kernel
theorem dX5_isMember_5 : decode cX5_isMember 5 = .ok (.baload, 1) := by decide +kernel
theorem dX5_isMember_6 : decode cX5_isMember 6 = .ok (.ifCond .eq 20, 3) := by decide +kernel
theorem dX5_isMember_9 : decode cX5_isMember 9 = .ok (.aload_n 0, 1) := by decide +kernel
theorem dX5_isMember_10 : decode cX5_isMember 10 = .ok (.getfield 13, 3) := by decide +kernel
theorem dX5_isMember_13 : decode cX5_isMember 13 = .ok (.iload_n 1, 1) := by decide +kernel
theorem dX5_isMember_14 : decode cX5_isMember 14 = .ok (.iaload, 1) := by decide +kernel
theorem dX5_isMember_15 : decode cX5_isMember 15 = .ok (.bipush 10, 2) := by decide +kernel
theorem dX5_isMember_17 : decode cX5_isMember 17 = .ok (.idiv, 1) := by decide +kernel
theorem dX5_isMember_18 : decode cX5_isMember 18 = .ok (.iload_n 2, 1) := by decide +kernel
theorem dX5_isMember_19 : decode cX5_isMember 19 = .ok (.if_icmp .ne 7, 3) := by decide +kernel
theorem dX5_isMember_22 : decode cX5_isMember 22 = .ok (.iconst 1, 1) := by decide +kernel
theorem dX5_isMember_23 : decode cX5_isMember 23 = .ok (.goto 4, 3) := by decide +kernel
theorem dX5_isMember_26 : decode cX5_isMember 26 = .ok (.iconst 0, 1) := by decide +kernel
theorem dX5_isMember_27 : decode cX5_isMember 27 = .ok (.ireturn, 1) := by decide +kernel
theorem dX5_membersOf_0 : decode cX5_membersOf 0 = .ok (.iconst 0, 1) := by decide +kernel
theorem dX5_membersOf_1 : decode cX5_membersOf 1 = .ok (.istore_n 2, 1) := by decide +kernel
theorem dX5_membersOf_2 : decode cX5_membersOf 2 = .ok (.iconst 0, 1) := by decide +kernel
theorem dX5_membersOf_3 : decode cX5_membersOf 3 = .ok (.istore_n 3, 1) := by decide +kernel
theorem dX5_membersOf_4 : decode cX5_membersOf 4 = .ok (.iload_n 3, 1) := by decide +kernel
theorem dX5_membersOf_5 : decode cX5_membersOf 5 = .ok (.bipush 60, 2) := by decide +kernel
theorem dX5_membersOf_7 : decode cX5_membersOf 7 = .ok (.if_icmp .ge 26, 3) := by decide +kernel
theorem dX5_membersOf_10 : decode cX5_membersOf 10 = .ok (.iload_n 2, 1) := by decide +kernel
theorem dX5_membersOf_11 : decode cX5_membersOf 11 = .ok (.aload_n 0, 1) := by decide +kernel
theorem dX5_membersOf_12 : decode cX5_membersOf 12 = .ok (.iload_n 3, 1) := by decide +kernel
theorem dX5_membersOf_13 : decode cX5_membersOf 13 = .ok (.iload_n 1, 1) := by decide +kernel
theorem dX5_membersOf_14 : decode cX5_membersOf 14 = .ok (.invokevirtual 158, 3) := by decide +kernel
theorem dX5_membersOf_17 : decode cX5_membersOf 17 = .ok (.ifCond .eq 7, 3) := by decide +kernel
theorem dX5_membersOf_20 : decode cX5_membersOf 20 = .ok (.iconst 1, 1) := by decide +kernel
theorem dX5_membersOf_21 : decode cX5_membersOf 21 = .ok (.goto 4, 3) := by decide +kernel
theorem dX5_membersOf_24 : decode cX5_membersOf 24 = .ok (.iconst 0, 1) := by decide +kernel
theorem dX5_membersOf_25 : decode cX5_membersOf 25 = .ok (.iadd, 1) := by decide +kernel
theorem dX5_membersOf_26 : decode cX5_membersOf 26 = .ok (.istore_n 2, 1) := by decide +kernel
theorem dX5_membersOf_27 : decode cX5_membersOf 27 = .ok (.iinc 3 1, 3) := by decide +kernel
theorem dX5_membersOf_30 : decode cX5_membersOf 30 = .ok (.goto (-26), 3) := by decide +kernel
theorem dX5_membersOf_33 : decode cX5_membersOf 33 = .ok (.iload_n 2, 1) := by decide +kernel
theorem dX5_membersOf_34 : decode cX5_membersOf 34 = .ok (.ireturn, 1) := by decide +kernel
theorem dX5_members_0 : decode cX5_members 0 = .ok (.aload_n 0, 1) := by decide +kernel
theorem dX5_members_1 : decode cX5_members 1 = .ok (.iload_n 1, 1) := by decide +kernel
theorem dX5_members_2 : decode cX5_members 2 = .ok (.invokevirtual 155, 3) := by decide +kernel
theorem dX5_members_5 : decode cX5_members 5 = .ok (.ifCond .eq 11, 3) := by decide +kernel
theorem dX5_members_8 : decode cX5_members 8 = .ok (.aload_n 0, 1) := by decide +kernel
theorem dX5_members_9 : decode cX5_members 9 = .ok (.iload_n 1, 1) := by decide +kernel
theorem dX5_members_10 : decode cX5_members 10 = .ok (.invokevirtual 161, 3) := by decide +kernel
theorem dX5_members_13 : decode cX5_members 13 = .ok (.goto 4, 3) := by decide +kernel
theorem dX5_members_16 : decode cX5_members 16 = .ok (.iconst 0, 1) := by decide +kernel
theorem dX5_members_17 : decode cX5_members 17 = .ok (.ireturn, 1) := by decide +kernel
theorem dX5_memberOf_0 : decode cX5_memberOf 0 = .ok (.iconst (-1), 1) := by decide +kernel
theorem dX5_memberOf_1 : decode cX5_memberOf 1 = .ok (.istore_n 3, 1) := by decide +kernel
theorem dX5_memberOf_2 : decode cX5_memberOf 2 = .ok (.iconst 0, 1) := by decide +kernel
theorem dX5_memberOf_3 : decode cX5_memberOf 3 = .ok (.istore 4, 2) := by decide +kernel
theorem dX5_memberOf_5 : decode cX5_memberOf 5 = .ok (.iload 4, 2) := by decide +kernel
theorem dX5_memberOf_7 : decode cX5_memberOf 7 = .ok (.bipush 60, 2) := by decide +kernel
theorem dX5_memberOf_9 : decode cX5_memberOf 9 = .ok (.if_icmp .ge 88, 3) := by decide +kernel
theorem dX5_memberOf_12 : decode cX5_memberOf 12 = .ok (.iconst 0, 1) := by decide +kernel
theorem dX5_memberOf_13 : decode cX5_memberOf 13 = .ok (.istore 5, 2) := by decide +kernel
theorem dX5_memberOf_15 : decode cX5_memberOf 15 = .ok (.iconst 0, 1) := by decide +kernel
theorem dX5_memberOf_16 : decode cX5_memberOf 16 = .ok (.istore 6, 2) := by decide +kernel
theorem dX5_memberOf_18 : decode cX5_memberOf 18 = .ok (.iload 6, 2) := by decide +kernel
theorem dX5_memberOf_20 : decode cX5_memberOf 20 = .ok (.bipush 60, 2) := by decide +kernel
theorem dX5_memberOf_22 : decode cX5_memberOf 22 = .ok (.if_icmp .ge 46, 3) := by decide +kernel
theorem dX5_memberOf_25 : decode cX5_memberOf 25 = .ok (.iload 5, 2) := by decide +kernel
theorem dX5_memberOf_27 : decode cX5_memberOf 27 = .ok (.aload_n 0, 1) := by decide +kernel
theorem dX5_memberOf_28 : decode cX5_memberOf 28 = .ok (.iload 6, 2) := by decide +kernel
theorem dX5_memberOf_30 : decode cX5_memberOf 30 = .ok (.iload_n 1, 1) := by decide +kernel
theorem dX5_memberOf_31 : decode cX5_memberOf 31 = .ok (.invokevirtual 158, 3) := by decide +kernel
theorem dX5_memberOf_34 : decode cX5_memberOf 34 = .ok (.ifCond .eq 24, 3) := by decide +kernel
theorem dX5_memberOf_37 : decode cX5_memberOf 37 = .ok (.aload_n 0, 1) := by decide +kernel
theorem dX5_memberOf_38 : decode cX5_memberOf 38 = .ok (.getfield 23, 3) := by decide +kernel
theorem dX5_memberOf_41 : decode cX5_memberOf 41 = .ok (.iload 6, 2) := by decide +kernel
theorem dX5_memberOf_43 : decode cX5_memberOf 43 = .ok (.iaload, 1) := by decide +kernel
theorem dX5_memberOf_44 : decode cX5_memberOf 44 = .ok (.aload_n 0, 1) := by decide +kernel
theorem dX5_memberOf_45 : decode cX5_memberOf 45 = .ok (.getfield 23, 3) := by decide +kernel
theorem dX5_memberOf_48 : decode cX5_memberOf 48 = .ok (.iload 4, 2) := by decide +kernel
theorem dX5_memberOf_50 : decode cX5_memberOf 50 = .ok (.iaload, 1) := by decide +kernel
theorem dX5_memberOf_51 : decode cX5_memberOf 51 = .ok (.if_icmp .ge 7, 3) := by decide +kernel
theorem dX5_memberOf_54 : decode cX5_memberOf 54 = .ok (.iconst 1, 1) := by decide +kernel
theorem dX5_memberOf_55 : decode cX5_memberOf 55 = .ok (.goto 4, 3) := by decide +kernel
theorem dX5_memberOf_58 : decode cX5_memberOf 58 = .ok (.iconst 0, 1) := by decide +kernel
theorem dX5_memberOf_59 : decode cX5_memberOf 59 = .ok (.iadd, 1) := by decide +kernel
theorem dX5_memberOf_60 : decode cX5_memberOf 60 = .ok (.istore 5, 2) := by decide +kernel
theorem dX5_memberOf_62 : decode cX5_memberOf 62 = .ok (.iinc 6 1, 3) := by decide +kernel
theorem dX5_memberOf_65 : decode cX5_memberOf 65 = .ok (.goto (-47), 3) := by decide +kernel
theorem dX5_memberOf_68 : decode cX5_memberOf 68 = .ok (.aload_n 0, 1) := by decide +kernel
theorem dX5_memberOf_69 : decode cX5_memberOf 69 = .ok (.iload 4, 2) := by decide +kernel
theorem dX5_memberOf_71 : decode cX5_memberOf 71 = .ok (.iload_n 1, 1) := by decide +kernel
theorem dX5_memberOf_72 : decode cX5_memberOf 72 = .ok (.invokevirtual 158, 3) := by decide +kernel
theorem dX5_memberOf_75 : decode cX5_memberOf 75 = .ok (.ifCond .eq 14, 3) := by decide +kernel
theorem dX5_memberOf_78 : decode cX5_memberOf 78 = .ok (.iload 5, 2) := by decide +kernel
theorem dX5_memberOf_80 : decode cX5_memberOf 80 = .ok (.iload_n 2, 1) := by decide +kernel
theorem dX5_memberOf_81 : decode cX5_memberOf 81 = .ok (.if_icmp .ne 8, 3) := by decide +kernel
theorem dX5_memberOf_84 : decode cX5_memberOf 84 = .ok (.iload 4, 2) := by decide +kernel
theorem dX5_memberOf_86 : decode cX5_memberOf 86 = .ok (.goto 4, 3) := by decide +kernel
theorem dX5_memberOf_89 : decode cX5_memberOf 89 = .ok (.iload_n 3, 1) := by decide +kernel
theorem dX5_memberOf_90 : decode cX5_memberOf 90 = .ok (.istore_n 3, 1) := by decide +kernel
theorem dX5_memberOf_91 : decode cX5_memberOf 91 = .ok (.iinc 4 1, 3) := by decide +kernel
theorem dX5_memberOf_94 : decode cX5_memberOf 94 = .ok (.goto (-89), 3) := by decide +kernel
theorem dX5_memberOf_97 : decode cX5_memberOf 97 = .ok (.iload_n 3, 1) := by decide +kernel
theorem dX5_memberOf_98 : decode cX5_memberOf 98 = .ok (.ireturn, 1) := by decide +kernel
theorem dX5_memberAt_0 : decode cX5_memberAt 0 = .ok (.aload_n 0, 1) := by decide +kernel
theorem dX5_memberAt_1 : decode cX5_memberAt 1 = .ok (.iload_n 1, 1) := by decide +kernel
theorem dX5_memberAt_2 : decode cX5_memberAt 2 = .ok (.invokevirtual 155, 3) := by decide +kernel
theorem dX5_memberAt_5 : decode cX5_memberAt 5 = .ok (.ifCond .ne 5, 3) := by decide +kernel
theorem dX5_memberAt_8 : decode cX5_memberAt 8 = .ok (.iconst 0, 1) := by decide +kernel
theorem dX5_memberAt_9 : decode cX5_memberAt 9 = .ok (.ireturn, 1) := by decide +kernel
theorem dX5_memberAt_10 : decode cX5_memberAt 10 = .ok (.aload_n 0, 1) := by decide +kernel
theorem dX5_memberAt_11 : decode cX5_memberAt 11 = .ok (.iload_n 1, 1) := by decide +kernel
theorem dX5_memberAt_12 : decode cX5_memberAt 12 = .ok (.iload_n 2, 1) := by decide +kernel
theorem dX5_memberAt_13 : decode cX5_memberAt 13 = .ok (.invokevirtual 164, 3) := by decide +kernel
theorem dX5_memberAt_16 : decode cX5_memberAt 16 = .ok (.istore_n 3, 1) := by decide +kernel
theorem dX5_memberAt_17 : decode cX5_memberAt 17 = .ok (.aload_n 0, 1) := by decide +kernel
theorem dX5_memberAt_18 : decode cX5_memberAt 18 = .ok (.iload_n 3, 1) := by decide +kernel
theorem dX5_memberAt_19 : decode cX5_memberAt 19 = .ok (.ifCond .ge 7, 3) := by decide +kernel
theorem dX5_memberAt_22 : decode cX5_memberAt 22 = .ok (.iconst 2, 1) := by decide +kernel
theorem dX5_memberAt_23 : decode cX5_memberAt 23 = .ok (.goto 4, 3) := by decide +kernel
theorem dX5_memberAt_26 : decode cX5_memberAt 26 = .ok (.iconst 0, 1) := by decide +kernel
theorem dX5_memberAt_27 : decode cX5_memberAt 27 = .ok (.putfield 56, 3) := by decide +kernel
theorem dX5_memberAt_30 : decode cX5_memberAt 30 = .ok (.aload_n 0, 1) := by decide +kernel
theorem dX5_memberAt_31 : decode cX5_memberAt 31 = .ok (.getfield 56, 3) := by decide +kernel
theorem dX5_memberAt_34 : decode cX5_memberAt 34 = .ok (.ifCond .le 7, 3) := by decide +kernel
theorem dX5_memberAt_37 : decode cX5_memberAt 37 = .ok (.iconst 0, 1) := by decide +kernel
theorem dX5_memberAt_38 : decode cX5_memberAt 38 = .ok (.goto 9, 3) := by decide +kernel
theorem dX5_memberAt_41 : decode cX5_memberAt 41 = .ok (.aload_n 0, 1) := by decide +kernel
theorem dX5_memberAt_42 : decode cX5_memberAt 42 = .ok (.getfield 13, 3) := by decide +kernel
theorem dX5_memberAt_45 : decode cX5_memberAt 45 = .ok (.iload_n 3, 1) := by decide +kernel
theorem dX5_memberAt_46 : decode cX5_memberAt 46 = .ok (.iaload, 1) := by decide +kernel
theorem dX5_memberAt_47 : decode cX5_memberAt 47 = .ok (.ireturn, 1) := by decide +kernel
theorem dX5_order_0 : decode cX5_order 0 = .ok (.aload_n 0, 1) := by decide +kernel
theorem dX5_order_1 : decode cX5_order 1 = .ok (.iload_n 1, 1) := by decide +kernel
theorem dX5_order_2 : decode cX5_order 2 = .ok (.iload_n 2, 1) := by decide +kernel
theorem dX5_order_3 : decode cX5_order 3 = .ok (.iload 4, 2) := by decide +kernel
theorem dX5_order_5 : decode cX5_order 5 = .ok (.invokevirtual 106, 3) := by decide +kernel
theorem dX5_order_8 : decode cX5_order 8 = .ok (.ifCond .eq 11, 3) := by decide +kernel
theorem dX5_order_11 : decode cX5_order 11 = .ok (.iload_n 3, 1) := by decide +kernel
theorem dX5_order_12 : decode cX5_order 12 = .ok (.ifCond .lt 7, 3) := by decide +kernel
theorem dX5_order_15 : decode cX5_order 15 = .ok (.iconst 1, 1) := by decide +kernel
theorem dX5_order_16 : decode cX5_order 16 = .ok (.goto 4, 3) := by decide +kernel
theorem dX5_order_19 : decode cX5_order 19 = .ok (.iconst 0, 1) := by decide +kernel
theorem dX5_order_20 : decode cX5_order 20 = .ok (.istore 5, 2) := by decide +kernel
theorem dX5_order_22 : decode cX5_order 22 = .ok (.aload_n 0, 1) := by decide +kernel
theorem dX5_order_23 : decode cX5_order 23 = .ok (.iload 5, 2) := by decide +kernel
theorem dX5_order_25 : decode cX5_order 25 = .ok (.ifCond .eq 7, 3) := by decide +kernel
theorem dX5_order_28 : decode cX5_order 28 = .ok (.iconst 0, 1) := by decide +kernel
theorem dX5_order_29 : decode cX5_order 29 = .ok (.goto 4, 3) := by decide +kernel
theorem dX5_order_32 : decode cX5_order 32 = .ok (.iconst 1, 1) := by decide +kernel
theorem dX5_order_33 : decode cX5_order 33 = .ok (.putfield 56, 3) := by decide +kernel
theorem dX5_order_36 : decode cX5_order 36 = .ok (.iload 5, 2) := by decide +kernel
theorem dX5_order_38 : decode cX5_order 38 = .ok (.ifCond .ne 5, 3) := by decide +kernel
theorem dX5_order_41 : decode cX5_order 41 = .ok (.iconst 0, 1) := by decide +kernel
theorem dX5_order_42 : decode cX5_order 42 = .ok (.ireturn, 1) := by decide +kernel
theorem dX5_order_43 : decode cX5_order 43 = .ok (.aload_n 0, 1) := by decide +kernel
theorem dX5_order_44 : decode cX5_order 44 = .ok (.iload_n 2, 1) := by decide +kernel
theorem dX5_order_45 : decode cX5_order 45 = .ok (.invokevirtual 74, 3) := by decide +kernel
theorem dX5_order_48 : decode cX5_order 48 = .ok (.istore 6, 2) := by decide +kernel
theorem dX5_order_50 : decode cX5_order 50 = .ok (.iload 6, 2) := by decide +kernel
theorem dX5_order_52 : decode cX5_order 52 = .ok (.ifCond .ge 7, 3) := by decide +kernel
theorem dX5_order_55 : decode cX5_order 55 = .ok (.iconst 1, 1) := by decide +kernel
theorem dX5_order_56 : decode cX5_order 56 = .ok (.goto 22, 3) := by decide +kernel
theorem dX5_order_59 : decode cX5_order 59 = .ok (.aload_n 0, 1) := by decide +kernel
theorem dX5_order_60 : decode cX5_order 60 = .ok (.iload_n 1, 1) := by decide +kernel
theorem dX5_order_61 : decode cX5_order 61 = .ok (.iload_n 2, 1) := by decide +kernel
theorem dX5_order_62 : decode cX5_order 62 = .ok (.bipush 10, 2) := by decide +kernel
theorem dX5_order_64 : decode cX5_order 64 = .ok (.idiv, 1) := by decide +kernel
theorem dX5_order_65 : decode cX5_order 65 = .ok (.iload 4, 2) := by decide +kernel
theorem dX5_order_67 : decode cX5_order 67 = .ok (.invokevirtual 103, 3) := by decide +kernel
theorem dX5_order_70 : decode cX5_order 70 = .ok (.ifCond .eq 7, 3) := by decide +kernel
theorem dX5_order_73 : decode cX5_order 73 = .ok (.iconst 0, 1) := by decide +kernel
theorem dX5_order_74 : decode cX5_order 74 = .ok (.goto 4, 3) := by decide +kernel
theorem dX5_order_77 : decode cX5_order 77 = .ok (.iconst 4, 1) := by decide +kernel
theorem dX5_order_78 : decode cX5_order 78 = .ok (.istore 7, 2) := by decide +kernel
theorem dX5_order_80 : decode cX5_order 80 = .ok (.iload 7, 2) := by decide +kernel
theorem dX5_order_82 : decode cX5_order 82 = .ok (.ifCond .ne 86, 3) := by decide +kernel
theorem dX5_order_85 : decode cX5_order 85 = .ok (.aload_n 0, 1) := by decide +kernel
theorem dX5_order_86 : decode cX5_order 86 = .ok (.dup, 1) := by decide +kernel
theorem dX5_order_87 : decode cX5_order 87 = .ok (.getfield 82, 3) := by decide +kernel
theorem dX5_order_90 : decode cX5_order 90 = .ok (.iconst 1, 1) := by decide +kernel
theorem dX5_order_91 : decode cX5_order 91 = .ok (.iadd, 1) := by decide +kernel
theorem dX5_order_92 : decode cX5_order 92 = .ok (.putfield 82, 3) := by decide +kernel
theorem dX5_order_95 : decode cX5_order 95 = .ok (.aload_n 0, 1) := by decide +kernel
theorem dX5_order_96 : decode cX5_order 96 = .ok (.getfield 23, 3) := by decide +kernel
theorem dX5_order_99 : decode cX5_order 99 = .ok (.iload 6, 2) := by decide +kernel
theorem dX5_order_101 : decode cX5_order 101 = .ok (.aload_n 0, 1) := by decide +kernel
theorem dX5_order_102 : decode cX5_order 102 = .ok (.getfield 82, 3) := by decide +kernel
theorem dX5_order_105 : decode cX5_order 105 = .ok (.iastore, 1) := by decide +kernel
theorem dX5_order_106 : decode cX5_order 106 = .ok (.aload_n 0, 1) := by decide +kernel
theorem dX5_order_107 : decode cX5_order 107 = .ok (.iload_n 2, 1) := by decide +kernel
theorem dX5_order_108 : decode cX5_order 108 = .ok (.bipush 10, 2) := by decide +kernel
theorem dX5_order_110 : decode cX5_order 110 = .ok (.idiv, 1) := by decide +kernel
theorem dX5_order_111 : decode cX5_order 111 = .ok (.invokevirtual 161, 3) := by decide +kernel
theorem dX5_order_114 : decode cX5_order 114 = .ok (.iconst 1, 1) := by decide +kernel
theorem dX5_order_115 : decode cX5_order 115 = .ok (.isub, 1) := by decide +kernel
theorem dX5_order_116 : decode cX5_order 116 = .ok (.iload_n 3, 1) := by decide +kernel
theorem dX5_order_117 : decode cX5_order 117 = .ok (.isub, 1) := by decide +kernel
theorem dX5_order_118 : decode cX5_order 118 = .ok (.istore 8, 2) := by decide +kernel
theorem dX5_order_120 : decode cX5_order 120 = .ok (.iconst 0, 1) := by decide +kernel
theorem dX5_order_121 : decode cX5_order 121 = .ok (.istore 9, 2) := by decide +kernel
theorem dX5_order_123 : decode cX5_order 123 = .ok (.iload 9, 2) := by decide +kernel
theorem dX5_order_125 : decode cX5_order 125 = .ok (.iload 8, 2) := by decide +kernel
theorem dX5_order_127 : decode cX5_order 127 = .ok (.if_icmp .ge 41, 3) := by decide +kernel
theorem dX5_order_130 : decode cX5_order 130 = .ok (.aload_n 0, 1) := by decide +kernel
theorem dX5_order_131 : decode cX5_order 131 = .ok (.iload_n 2, 1) := by decide +kernel
theorem dX5_order_132 : decode cX5_order 132 = .ok (.bipush 10, 2) := by decide +kernel
theorem dX5_order_134 : decode cX5_order 134 = .ok (.idiv, 1) := by decide +kernel
theorem dX5_order_135 : decode cX5_order 135 = .ok (.iload_n 3, 1) := by decide +kernel
theorem dX5_order_136 : decode cX5_order 136 = .ok (.invokevirtual 164, 3) := by decide +kernel
theorem dX5_order_139 : decode cX5_order 139 = .ok (.istore 10, 2) := by decide +kernel
theorem dX5_order_141 : decode cX5_order 141 = .ok (.aload_n 0, 1) := by decide +kernel
theorem dX5_order_142 : decode cX5_order 142 = .ok (.dup, 1) := by decide +kernel
theorem dX5_order_143 : decode cX5_order 143 = .ok (.getfield 82, 3) := by decide +kernel
theorem dX5_order_146 : decode cX5_order 146 = .ok (.iconst 1, 1) := by decide +kernel
theorem dX5_order_147 : decode cX5_order 147 = .ok (.iadd, 1) := by decide +kernel
theorem dX5_order_148 : decode cX5_order 148 = .ok (.putfield 82, 3) := by decide +kernel
theorem dX5_order_151 : decode cX5_order 151 = .ok (.aload_n 0, 1) := by decide +kernel
theorem dX5_order_152 : decode cX5_order 152 = .ok (.getfield 23, 3) := by decide +kernel
theorem dX5_order_155 : decode cX5_order 155 = .ok (.iload 10, 2) := by decide +kernel
theorem dX5_order_157 : decode cX5_order 157 = .ok (.aload_n 0, 1) := by decide +kernel
theorem dX5_order_158 : decode cX5_order 158 = .ok (.getfield 82, 3) := by decide +kernel
theorem dX5_order_161 : decode cX5_order 161 = .ok (.iastore, 1) := by decide +kernel
theorem dX5_order_162 : decode cX5_order 162 = .ok (.iinc 9 1, 3) := by decide +kernel
theorem dX5_order_165 : decode cX5_order 165 = .ok (.goto (-42), 3) := by decide +kernel
theorem dX5_order_168 : decode cX5_order 168 = .ok (.iload 7, 2) := by decide +kernel
theorem dX5_order_170 : decode cX5_order 170 = .ok (.ireturn, 1) := by decide +kernel
theorem dX5_clashes_0 : decode cX5_clashes 0 = .ok (.iconst 0, 1) := by decide +kernel
theorem dX5_clashes_1 : decode cX5_clashes 1 = .ok (.istore 4, 2) := by decide +kernel
theorem dX5_clashes_3 : decode cX5_clashes 3 = .ok (.iconst 0, 1) := by decide +kernel
theorem dX5_clashes_4 : decode cX5_clashes 4 = .ok (.istore 5, 2) := by decide +kernel
theorem dX5_clashes_6 : decode cX5_clashes 6 = .ok (.iload 5, 2) := by decide +kernel
theorem dX5_clashes_8 : decode cX5_clashes 8 = .ok (.aload_n 0, 1) := by decide +kernel
theorem dX5_clashes_9 : decode cX5_clashes 9 = .ok (.getfield 85, 3) := by decide +kernel
theorem dX5_clashes_12 : decode cX5_clashes 12 = .ok (.if_icmp .ge 82, 3) := by decide +kernel
theorem dX5_clashes_15 : decode cX5_clashes 15 = .ok (.aload_n 0, 1) := by decide +kernel
theorem dX5_clashes_16 : decode cX5_clashes 16 = .ok (.iload 5, 2) := by decide +kernel
theorem dX5_clashes_18 : decode cX5_clashes 18 = .ok (.iload_n 1, 1) := by decide +kernel
theorem dX5_clashes_19 : decode cX5_clashes 19 = .ok (.invokevirtual 94, 3) := by decide +kernel
theorem dX5_clashes_22 : decode cX5_clashes 22 = .ok (.ifCond .ne 30, 3) := by decide +kernel
theorem dX5_clashes_25 : decode cX5_clashes 25 = .ok (.iload_n 3, 1) := by decide +kernel
theorem dX5_clashes_26 : decode cX5_clashes 26 = .ok (.ifCond .eq 30, 3) := by decide +kernel
theorem dX5_clashes_29 : decode cX5_clashes 29 = .ok (.aload_n 0, 1) := by decide +kernel
theorem dX5_clashes_30 : decode cX5_clashes 30 = .ok (.iload 5, 2) := by decide +kernel
theorem dX5_clashes_32 : decode cX5_clashes 32 = .ok (.invokevirtual 91, 3) := by decide +kernel
theorem dX5_clashes_35 : decode cX5_clashes 35 = .ok (.ifCond .eq 21, 3) := by decide +kernel
theorem dX5_clashes_38 : decode cX5_clashes 38 = .ok (.iload_n 1, 1) := by decide +kernel
theorem dX5_clashes_39 : decode cX5_clashes 39 = .ok (.aload_n 0, 1) := by decide +kernel
theorem dX5_clashes_40 : decode cX5_clashes 40 = .ok (.getfield 35, 3) := by decide +kernel
theorem dX5_clashes_43 : decode cX5_clashes 43 = .ok (.iload 5, 2) := by decide +kernel
theorem dX5_clashes_45 : decode cX5_clashes 45 = .ok (.iaload, 1) := by decide +kernel
theorem dX5_clashes_46 : decode cX5_clashes 46 = .ok (.invokestatic 78, 3) := by decide +kernel
theorem dX5_clashes_49 : decode cX5_clashes 49 = .ok (.ifCond .eq 7, 3) := by decide +kernel
theorem dX5_clashes_52 : decode cX5_clashes 52 = .ok (.iconst 1, 1) := by decide +kernel
theorem dX5_clashes_53 : decode cX5_clashes 53 = .ok (.goto 4, 3) := by decide +kernel
theorem dX5_clashes_56 : decode cX5_clashes 56 = .ok (.iconst 0, 1) := by decide +kernel
theorem dX5_clashes_57 : decode cX5_clashes 57 = .ok (.istore 6, 2) := by decide +kernel
theorem dX5_clashes_59 : decode cX5_clashes 59 = .ok (.iload 4, 2) := by decide +kernel
theorem dX5_clashes_61 : decode cX5_clashes 61 = .ok (.iload 6, 2) := by decide +kernel
theorem dX5_clashes_63 : decode cX5_clashes 63 = .ok (.ifCond .eq 21, 3) := by decide +kernel
theorem dX5_clashes_66 : decode cX5_clashes 66 = .ok (.iload_n 2, 1) := by decide +kernel
theorem dX5_clashes_67 : decode cX5_clashes 67 = .ok (.ifCond .eq 13, 3) := by decide +kernel
theorem dX5_clashes_70 : decode cX5_clashes 70 = .ok (.aload_n 0, 1) := by decide +kernel
theorem dX5_clashes_71 : decode cX5_clashes 71 = .ok (.getfield 38, 3) := by decide +kernel
theorem dX5_clashes_74 : decode cX5_clashes 74 = .ok (.iload 5, 2) := by decide +kernel
theorem dX5_clashes_76 : decode cX5_clashes 76 = .ok (.baload, 1) := by decide +kernel
theorem dX5_clashes_77 : decode cX5_clashes 77 = .ok (.ifCond .ne 7, 3) := by decide +kernel
theorem dX5_clashes_80 : decode cX5_clashes 80 = .ok (.iconst 1, 1) := by decide +kernel
theorem dX5_clashes_81 : decode cX5_clashes 81 = .ok (.goto 4, 3) := by decide +kernel
theorem dX5_clashes_84 : decode cX5_clashes 84 = .ok (.iconst 0, 1) := by decide +kernel
theorem dX5_clashes_85 : decode cX5_clashes 85 = .ok (.ior, 1) := by decide +kernel
theorem dX5_clashes_86 : decode cX5_clashes 86 = .ok (.istore 4, 2) := by decide +kernel
theorem dX5_clashes_88 : decode cX5_clashes 88 = .ok (.iinc 5 1, 3) := by decide +kernel
theorem dX5_clashes_91 : decode cX5_clashes 91 = .ok (.goto (-85), 3) := by decide +kernel
theorem dX5_clashes_94 : decode cX5_clashes 94 = .ok (.iload 4, 2) := by decide +kernel
theorem dX5_clashes_96 : decode cX5_clashes 96 = .ok (.ireturn, 1) := by decide +kernel
theorem dX5_lock_0 : decode cX5_lock 0 = .ok (.iload_n 1, 1) := by decide +kernel
theorem dX5_lock_1 : decode cX5_lock 1 = .ok (.invokestatic 68, 3) := by decide +kernel
theorem dX5_lock_4 : decode cX5_lock 4 = .ok (.ifCond .eq 31, 3) := by decide +kernel
theorem dX5_lock_7 : decode cX5_lock 7 = .ok (.iload_n 2, 1) := by decide +kernel
theorem dX5_lock_8 : decode cX5_lock 8 = .ok (.invokestatic 64, 3) := by decide +kernel
theorem dX5_lock_11 : decode cX5_lock 11 = .ok (.ifCond .eq 24, 3) := by decide +kernel
theorem dX5_lock_14 : decode cX5_lock 14 = .ok (.iload 5, 2) := by decide +kernel
theorem dX5_lock_16 : decode cX5_lock 16 = .ok (.iconst 1, 1) := by decide +kernel
theorem dX5_lock_17 : decode cX5_lock 17 = .ok (.sipush 1000, 3) := by decide +kernel
theorem dX5_lock_20 : decode cX5_lock 20 = .ok (.invokestatic 60, 3) := by decide +kernel
theorem dX5_lock_23 : decode cX5_lock 23 = .ok (.ifCond .eq 12, 3) := by decide +kernel
theorem dX5_lock_26 : decode cX5_lock 26 = .ok (.iload 6, 2) := by decide +kernel
theorem dX5_lock_28 : decode cX5_lock 28 = .ok (.ifCond .lt 7, 3) := by decide +kernel
theorem dX5_lock_31 : decode cX5_lock 31 = .ok (.iconst 1, 1) := by decide +kernel
theorem dX5_lock_32 : decode cX5_lock 32 = .ok (.goto 4, 3) := by decide +kernel
theorem dX5_lock_35 : decode cX5_lock 35 = .ok (.iconst 0, 1) := by decide +kernel
theorem dX5_lock_36 : decode cX5_lock 36 = .ok (.istore 7, 2) := by decide +kernel
theorem dX5_lock_38 : decode cX5_lock 38 = .ok (.aload_n 0, 1) := by decide +kernel
theorem dX5_lock_39 : decode cX5_lock 39 = .ok (.iload 7, 2) := by decide +kernel
theorem dX5_lock_41 : decode cX5_lock 41 = .ok (.ifCond .eq 7, 3) := by decide +kernel
theorem dX5_lock_44 : decode cX5_lock 44 = .ok (.iconst 0, 1) := by decide +kernel
theorem dX5_lock_45 : decode cX5_lock 45 = .ok (.goto 4, 3) := by decide +kernel
theorem dX5_lock_48 : decode cX5_lock 48 = .ok (.iconst 1, 1) := by decide +kernel
theorem dX5_lock_49 : decode cX5_lock 49 = .ok (.putfield 56, 3) := by decide +kernel
theorem dX5_lock_52 : decode cX5_lock 52 = .ok (.iload 7, 2) := by decide +kernel
theorem dX5_lock_54 : decode cX5_lock 54 = .ok (.ifCond .ne 5, 3) := by decide +kernel
theorem dX5_lock_57 : decode cX5_lock 57 = .ok (.iconst 0, 1) := by decide +kernel
theorem dX5_lock_58 : decode cX5_lock 58 = .ok (.ireturn, 1) := by decide +kernel
theorem dX5_lock_59 : decode cX5_lock 59 = .ok (.aload_n 0, 1) := by decide +kernel
theorem dX5_lock_60 : decode cX5_lock 60 = .ok (.iload_n 2, 1) := by decide +kernel
theorem dX5_lock_61 : decode cX5_lock 61 = .ok (.invokevirtual 109, 3) := by decide +kernel
theorem dX5_lock_64 : decode cX5_lock 64 = .ok (.ifCond .ge 7, 3) := by decide +kernel
theorem dX5_lock_67 : decode cX5_lock 67 = .ok (.iconst 1, 1) := by decide +kernel
theorem dX5_lock_68 : decode cX5_lock 68 = .ok (.goto 4, 3) := by decide +kernel
theorem dX5_lock_71 : decode cX5_lock 71 = .ok (.iconst 0, 1) := by decide +kernel
theorem dX5_lock_72 : decode cX5_lock 72 = .ok (.istore 8, 2) := by decide +kernel
theorem dX5_lock_74 : decode cX5_lock 74 = .ok (.aload_n 0, 1) := by decide +kernel
theorem dX5_lock_75 : decode cX5_lock 75 = .ok (.aload_n 0, 1) := by decide +kernel
theorem dX5_lock_76 : decode cX5_lock 76 = .ok (.getfield 85, 3) := by decide +kernel
theorem dX5_lock_79 : decode cX5_lock 79 = .ok (.bipush 30, 2) := by decide +kernel
theorem dX5_lock_81 : decode cX5_lock 81 = .ok (.if_icmp .eq 31, 3) := by decide +kernel
theorem dX5_lock_84 : decode cX5_lock 84 = .ok (.aload_n 0, 1) := by decide +kernel
theorem dX5_lock_85 : decode cX5_lock 85 = .ok (.iload_n 2, 1) := by decide +kernel
theorem dX5_lock_86 : decode cX5_lock 86 = .ok (.iload_n 3, 1) := by decide +kernel
theorem dX5_lock_87 : decode cX5_lock 87 = .ok (.iload 4, 2) := by decide +kernel
theorem dX5_lock_89 : decode cX5_lock 89 = .ok (.invokevirtual 167, 3) := by decide +kernel
theorem dX5_lock_92 : decode cX5_lock 92 = .ok (.ifCond .ne 20, 3) := by decide +kernel
theorem dX5_lock_95 : decode cX5_lock 95 = .ok (.iload 8, 2) := by decide +kernel
theorem dX5_lock_97 : decode cX5_lock 97 = .ok (.ifCond .eq 19, 3) := by decide +kernel
theorem dX5_lock_100 : decode cX5_lock 100 = .ok (.aload_n 0, 1) := by decide +kernel
theorem dX5_lock_101 : decode cX5_lock 101 = .ok (.iload_n 1, 1) := by decide +kernel
theorem dX5_lock_102 : decode cX5_lock 102 = .ok (.iload_n 2, 1) := by decide +kernel
theorem dX5_lock_103 : decode cX5_lock 103 = .ok (.iconst (-1), 1) := by decide +kernel
theorem dX5_lock_104 : decode cX5_lock 104 = .ok (.iload 6, 2) := by decide +kernel
theorem dX5_lock_106 : decode cX5_lock 106 = .ok (.invokevirtual 123, 3) := by decide +kernel
theorem dX5_lock_109 : decode cX5_lock 109 = .ok (.ifCond .le 7, 3) := by decide +kernel
theorem dX5_lock_112 : decode cX5_lock 112 = .ok (.iconst 2, 1) := by decide +kernel
theorem dX5_lock_113 : decode cX5_lock 113 = .ok (.goto 4, 3) := by decide +kernel
theorem dX5_lock_116 : decode cX5_lock 116 = .ok (.iconst 0, 1) := by decide +kernel
theorem dX5_lock_117 : decode cX5_lock 117 = .ok (.putfield 56, 3) := by decide +kernel
theorem dX5_lock_120 : decode cX5_lock 120 = .ok (.aload_n 0, 1) := by decide +kernel
theorem dX5_lock_121 : decode cX5_lock 121 = .ok (.getfield 56, 3) := by decide +kernel
theorem dX5_lock_124 : decode cX5_lock 124 = .ok (.ifCond .le 5, 3) := by decide +kernel
theorem dX5_lock_127 : decode cX5_lock 127 = .ok (.iconst 0, 1) := by decide +kernel
theorem dX5_lock_128 : decode cX5_lock 128 = .ok (.ireturn, 1) := by decide +kernel
theorem dX5_lock_129 : decode cX5_lock 129 = .ok (.iload 8, 2) := by decide +kernel
theorem dX5_lock_131 : decode cX5_lock 131 = .ok (.ifCond .eq 11, 3) := by decide +kernel
theorem dX5_lock_134 : decode cX5_lock 134 = .ok (.aload_n 0, 1) := by decide +kernel
theorem dX5_lock_135 : decode cX5_lock 135 = .ok (.iload_n 2, 1) := by decide +kernel
theorem dX5_lock_136 : decode cX5_lock 136 = .ok (.iconst 1, 1) := by decide +kernel
theorem dX5_lock_137 : decode cX5_lock 137 = .ok (.iconst 0, 1) := by decide +kernel
theorem dX5_lock_138 : decode cX5_lock 138 = .ok (.invokevirtual 119, 3) := by decide +kernel
theorem dX5_lock_141 : decode cX5_lock 141 = .ok (.pop, 1) := by decide +kernel
theorem dX5_lock_142 : decode cX5_lock 142 = .ok (.aload_n 0, 1) := by decide +kernel
theorem dX5_lock_143 : decode cX5_lock 143 = .ok (.getfield 32, 3) := by decide +kernel
theorem dX5_lock_146 : decode cX5_lock 146 = .ok (.aload_n 0, 1) := by decide +kernel
theorem dX5_lock_147 : decode cX5_lock 147 = .ok (.getfield 85, 3) := by decide +kernel
theorem dX5_lock_150 : decode cX5_lock 150 = .ok (.iload_n 1, 1) := by decide +kernel
theorem dX5_lock_151 : decode cX5_lock 151 = .ok (.iastore, 1) := by decide +kernel
theorem dX5_lock_152 : decode cX5_lock 152 = .ok (.aload_n 0, 1) := by decide +kernel
theorem dX5_lock_153 : decode cX5_lock 153 = .ok (.getfield 35, 3) := by decide +kernel
theorem dX5_lock_156 : decode cX5_lock 156 = .ok (.aload_n 0, 1) := by decide +kernel
theorem dX5_lock_157 : decode cX5_lock 157 = .ok (.getfield 85, 3) := by decide +kernel
theorem dX5_lock_160 : decode cX5_lock 160 = .ok (.iload_n 2, 1) := by decide +kernel
theorem dX5_lock_161 : decode cX5_lock 161 = .ok (.iastore, 1) := by decide +kernel
theorem dX5_lock_162 : decode cX5_lock 162 = .ok (.aload_n 0, 1) := by decide +kernel
theorem dX5_lock_163 : decode cX5_lock 163 = .ok (.getfield 38, 3) := by decide +kernel
theorem dX5_lock_166 : decode cX5_lock 166 = .ok (.aload_n 0, 1) := by decide +kernel
theorem dX5_lock_167 : decode cX5_lock 167 = .ok (.getfield 85, 3) := by decide +kernel
theorem dX5_lock_170 : decode cX5_lock 170 = .ok (.iload_n 3, 1) := by decide +kernel
theorem dX5_lock_171 : decode cX5_lock 171 = .ok (.bastore, 1) := by decide +kernel
theorem dX5_lock_172 : decode cX5_lock 172 = .ok (.aload_n 0, 1) := by decide +kernel
theorem dX5_lock_173 : decode cX5_lock 173 = .ok (.getfield 41, 3) := by decide +kernel
theorem dX5_lock_176 : decode cX5_lock 176 = .ok (.aload_n 0, 1) := by decide +kernel
theorem dX5_lock_177 : decode cX5_lock 177 = .ok (.getfield 85, 3) := by decide +kernel
theorem dX5_lock_180 : decode cX5_lock 180 = .ok (.iload 4, 2) := by decide +kernel
theorem dX5_lock_182 : decode cX5_lock 182 = .ok (.bastore, 1) := by decide +kernel
theorem dX5_lock_183 : decode cX5_lock 183 = .ok (.aload_n 0, 1) := by decide +kernel
theorem dX5_lock_184 : decode cX5_lock 184 = .ok (.getfield 44, 3) := by decide +kernel
theorem dX5_lock_187 : decode cX5_lock 187 = .ok (.aload_n 0, 1) := by decide +kernel
theorem dX5_lock_188 : decode cX5_lock 188 = .ok (.getfield 85, 3) := by decide +kernel
theorem dX5_lock_191 : decode cX5_lock 191 = .ok (.aload_n 0, 1) := by decide +kernel
theorem dX5_lock_192 : decode cX5_lock 192 = .ok (.getfield 88, 3) := by decide +kernel
theorem dX5_lock_195 : decode cX5_lock 195 = .ok (.iload 5, 2) := by decide +kernel
theorem dX5_lock_197 : decode cX5_lock 197 = .ok (.iadd, 1) := by decide +kernel
theorem dX5_lock_198 : decode cX5_lock 198 = .ok (.iastore, 1) := by decide +kernel
theorem dX5_lock_199 : decode cX5_lock 199 = .ok (.aload_n 0, 1) := by decide +kernel
theorem dX5_lock_200 : decode cX5_lock 200 = .ok (.dup, 1) := by decide +kernel
theorem dX5_lock_201 : decode cX5_lock 201 = .ok (.getfield 85, 3) := by decide +kernel
theorem dX5_lock_204 : decode cX5_lock 204 = .ok (.iconst 1, 1) := by decide +kernel
theorem dX5_lock_205 : decode cX5_lock 205 = .ok (.iadd, 1) := by decide +kernel
theorem dX5_lock_206 : decode cX5_lock 206 = .ok (.putfield 85, 3) := by decide +kernel
theorem dX5_lock_209 : decode cX5_lock 209 = .ok (.aload_n 0, 1) := by decide +kernel
theorem dX5_lock_210 : decode cX5_lock 210 = .ok (.getfield 85, 3) := by decide +kernel
theorem dX5_lock_213 : decode cX5_lock 213 = .ok (.iconst 1, 1) := by decide +kernel
theorem dX5_lock_214 : decode cX5_lock 214 = .ok (.isub, 1) := by decide +kernel
theorem dX5_lock_215 : decode cX5_lock 215 = .ok (.ireturn, 1) := by decide +kernel
theorem dX5_refresh_0 : decode cX5_refresh 0 = .ok (.aload_n 0, 1) := by decide +kernel
theorem dX5_refresh_1 : decode cX5_refresh 1 = .ok (.iload_n 2, 1) := by decide +kernel
theorem dX5_refresh_2 : decode cX5_refresh 2 = .ok (.iconst 0, 1) := by decide +kernel
theorem dX5_refresh_3 : decode cX5_refresh 3 = .ok (.aload_n 0, 1) := by decide +kernel
theorem dX5_refresh_4 : decode cX5_refresh 4 = .ok (.getfield 85, 3) := by decide +kernel
theorem dX5_refresh_7 : decode cX5_refresh 7 = .ok (.iconst 1, 1) := by decide +kernel
theorem dX5_refresh_8 : decode cX5_refresh 8 = .ok (.isub, 1) := by decide +kernel
theorem dX5_refresh_9 : decode cX5_refresh 9 = .ok (.invokestatic 60, 3) := by decide +kernel
theorem dX5_refresh_12 : decode cX5_refresh 12 = .ok (.ifCond .ne 7, 3) := by decide +kernel
theorem dX5_refresh_15 : decode cX5_refresh 15 = .ok (.iconst 1, 1) := by decide +kernel
theorem dX5_refresh_16 : decode cX5_refresh 16 = .ok (.goto 52, 3) := by decide +kernel
theorem dX5_refresh_19 : decode cX5_refresh 19 = .ok (.aload_n 0, 1) := by decide +kernel
theorem dX5_refresh_20 : decode cX5_refresh 20 = .ok (.iload_n 2, 1) := by decide +kernel
theorem dX5_refresh_21 : decode cX5_refresh 21 = .ok (.invokevirtual 91, 3) := by decide +kernel
theorem dX5_refresh_24 : decode cX5_refresh 24 = .ok (.ifCond .ne 7, 3) := by decide +kernel
theorem dX5_refresh_27 : decode cX5_refresh 27 = .ok (.iconst 1, 1) := by decide +kernel
theorem dX5_refresh_28 : decode cX5_refresh 28 = .ok (.goto 40, 3) := by decide +kernel
theorem dX5_refresh_31 : decode cX5_refresh 31 = .ok (.iload_n 1, 1) := by decide +kernel
theorem dX5_refresh_32 : decode cX5_refresh 32 = .ok (.invokestatic 68, 3) := by decide +kernel
theorem dX5_refresh_35 : decode cX5_refresh 35 = .ok (.ifCond .eq 14, 3) := by decide +kernel
theorem dX5_refresh_38 : decode cX5_refresh 38 = .ok (.iload_n 3, 1) := by decide +kernel
theorem dX5_refresh_39 : decode cX5_refresh 39 = .ok (.iconst 0, 1) := by decide +kernel
theorem dX5_refresh_40 : decode cX5_refresh 40 = .ok (.sipush 1000, 3) := by decide +kernel
theorem dX5_refresh_43 : decode cX5_refresh 43 = .ok (.invokestatic 60, 3) := by decide +kernel
theorem dX5_refresh_46 : decode cX5_refresh 46 = .ok (.ifCond .ne 7, 3) := by decide +kernel
theorem dX5_refresh_49 : decode cX5_refresh 49 = .ok (.iconst 2, 1) := by decide +kernel
theorem dX5_refresh_50 : decode cX5_refresh 50 = .ok (.goto 18, 3) := by decide +kernel
theorem dX5_refresh_53 : decode cX5_refresh 53 = .ok (.aload_n 0, 1) := by decide +kernel
theorem dX5_refresh_54 : decode cX5_refresh 54 = .ok (.getfield 32, 3) := by decide +kernel
theorem dX5_refresh_57 : decode cX5_refresh 57 = .ok (.iload_n 2, 1) := by decide +kernel
theorem dX5_refresh_58 : decode cX5_refresh 58 = .ok (.iaload, 1) := by decide +kernel
theorem dX5_refresh_59 : decode cX5_refresh 59 = .ok (.iload_n 1, 1) := by decide +kernel
theorem dX5_refresh_60 : decode cX5_refresh 60 = .ok (.if_icmp .ne 7, 3) := by decide +kernel
theorem dX5_refresh_63 : decode cX5_refresh 63 = .ok (.iconst 0, 1) := by decide +kernel
theorem dX5_refresh_64 : decode cX5_refresh 64 = .ok (.goto 4, 3) := by decide +kernel
theorem dX5_refresh_67 : decode cX5_refresh 67 = .ok (.iconst 3, 1) := by decide +kernel
theorem dX5_refresh_68 : decode cX5_refresh 68 = .ok (.putfield 56, 3) := by decide +kernel
theorem dX5_refresh_71 : decode cX5_refresh 71 = .ok (.aload_n 0, 1) := by decide +kernel
theorem dX5_refresh_72 : decode cX5_refresh 72 = .ok (.getfield 56, 3) := by decide +kernel
theorem dX5_refresh_75 : decode cX5_refresh 75 = .ok (.ifCond .le 5, 3) := by decide +kernel
theorem dX5_refresh_78 : decode cX5_refresh 78 = .ok (.iconst 0, 1) := by decide +kernel
theorem dX5_refresh_79 : decode cX5_refresh 79 = .ok (.ireturn, 1) := by decide +kernel
theorem dX5_refresh_80 : decode cX5_refresh 80 = .ok (.aload_n 0, 1) := by decide +kernel
theorem dX5_refresh_81 : decode cX5_refresh 81 = .ok (.getfield 44, 3) := by decide +kernel
theorem dX5_refresh_84 : decode cX5_refresh 84 = .ok (.iload_n 2, 1) := by decide +kernel
theorem dX5_refresh_85 : decode cX5_refresh 85 = .ok (.iaload, 1) := by decide +kernel
theorem dX5_refresh_86 : decode cX5_refresh 86 = .ok (.aload_n 0, 1) := by decide +kernel
theorem dX5_refresh_87 : decode cX5_refresh 87 = .ok (.getfield 88, 3) := by decide +kernel
theorem dX5_refresh_90 : decode cX5_refresh 90 = .ok (.isub, 1) := by decide +kernel
theorem dX5_refresh_91 : decode cX5_refresh 91 = .ok (.istore 4, 2) := by decide +kernel
theorem dX5_refresh_93 : decode cX5_refresh 93 = .ok (.aload_n 0, 1) := by decide +kernel
theorem dX5_refresh_94 : decode cX5_refresh 94 = .ok (.getfield 44, 3) := by decide +kernel
theorem dX5_refresh_97 : decode cX5_refresh 97 = .ok (.iload_n 2, 1) := by decide +kernel
theorem dX5_refresh_98 : decode cX5_refresh 98 = .ok (.aload_n 0, 1) := by decide +kernel
theorem dX5_refresh_99 : decode cX5_refresh 99 = .ok (.getfield 88, 3) := by decide +kernel
theorem dX5_refresh_102 : decode cX5_refresh 102 = .ok (.iload_n 3, 1) := by decide +kernel
theorem dX5_refresh_103 : decode cX5_refresh 103 = .ok (.iadd, 1) := by decide +kernel
theorem dX5_refresh_104 : decode cX5_refresh 104 = .ok (.iastore, 1) := by decide +kernel
theorem dX5_refresh_105 : decode cX5_refresh 105 = .ok (.iload 4, 2) := by decide +kernel
theorem dX5_refresh_107 : decode cX5_refresh 107 = .ok (.ireturn, 1) := by decide +kernel
theorem dX5_pass_0 : decode cX5_pass 0 = .ok (.aload_n 0, 1) := by decide +kernel
theorem dX5_pass_1 : decode cX5_pass 1 = .ok (.iload_n 1, 1) := by decide +kernel
theorem dX5_pass_2 : decode cX5_pass 2 = .ok (.iconst 1, 1) := by decide +kernel
theorem dX5_pass_3 : decode cX5_pass 3 = .ok (.sipush 1000, 3) := by decide +kernel
theorem dX5_pass_6 : decode cX5_pass 6 = .ok (.invokestatic 60, 3) := by decide +kernel
theorem dX5_pass_9 : decode cX5_pass 9 = .ok (.ifCond .ne 7, 3) := by decide +kernel
theorem dX5_pass_12 : decode cX5_pass 12 = .ok (.iconst 1, 1) := by decide +kernel
theorem dX5_pass_13 : decode cX5_pass 13 = .ok (.goto 19, 3) := by decide +kernel
theorem dX5_pass_16 : decode cX5_pass 16 = .ok (.aload_n 0, 1) := by decide +kernel
theorem dX5_pass_17 : decode cX5_pass 17 = .ok (.getfield 88, 3) := by decide +kernel
theorem dX5_pass_20 : decode cX5_pass 20 = .ok (.iload_n 1, 1) := by decide +kernel
theorem dX5_pass_21 : decode cX5_pass 21 = .ok (.iadd, 1) := by decide +kernel
theorem dX5_pass_22 : decode cX5_pass 22 = .ok (.ldc 171, 2) := by decide +kernel
theorem dX5_pass_24 : decode cX5_pass 24 = .ok (.if_icmp .le 7, 3) := by decide +kernel
theorem dX5_pass_27 : decode cX5_pass 27 = .ok (.iconst 2, 1) := by decide +kernel
theorem dX5_pass_28 : decode cX5_pass 28 = .ok (.goto 4, 3) := by decide +kernel
theorem dX5_pass_31 : decode cX5_pass 31 = .ok (.iconst 0, 1) := by decide +kernel
theorem dX5_pass_32 : decode cX5_pass 32 = .ok (.putfield 56, 3) := by decide +kernel
theorem dX5_pass_35 : decode cX5_pass 35 = .ok (.iconst 0, 1) := by decide +kernel
theorem dX5_pass_36 : decode cX5_pass 36 = .ok (.istore_n 2, 1) := by decide +kernel
theorem dX5_pass_37 : decode cX5_pass 37 = .ok (.iconst 0, 1) := by decide +kernel
theorem dX5_pass_38 : decode cX5_pass 38 = .ok (.istore_n 3, 1) := by decide +kernel
theorem dX5_pass_39 : decode cX5_pass 39 = .ok (.iload_n 3, 1) := by decide +kernel
theorem dX5_pass_40 : decode cX5_pass 40 = .ok (.aload_n 0, 1) := by decide +kernel
theorem dX5_pass_41 : decode cX5_pass 41 = .ok (.getfield 85, 3) := by decide +kernel
theorem dX5_pass_44 : decode cX5_pass 44 = .ok (.if_icmp .ge 47, 3) := by decide +kernel
theorem dX5_pass_47 : decode cX5_pass 47 = .ok (.aload_n 0, 1) := by decide +kernel
theorem dX5_pass_48 : decode cX5_pass 48 = .ok (.getfield 56, 3) := by decide +kernel
theorem dX5_pass_51 : decode cX5_pass 51 = .ok (.ifCond .ne 40, 3) := by decide +kernel
theorem dX5_pass_54 : decode cX5_pass 54 = .ok (.iload_n 2, 1) := by decide +kernel
theorem dX5_pass_55 : decode cX5_pass 55 = .ok (.aload_n 0, 1) := by decide +kernel
theorem dX5_pass_56 : decode cX5_pass 56 = .ok (.iload_n 3, 1) := by decide +kernel
theorem dX5_pass_57 : decode cX5_pass 57 = .ok (.invokevirtual 91, 3) := by decide +kernel
theorem dX5_pass_60 : decode cX5_pass 60 = .ok (.ifCond .eq 22, 3) := by decide +kernel
theorem dX5_pass_63 : decode cX5_pass 63 = .ok (.aload_n 0, 1) := by decide +kernel
theorem dX5_pass_64 : decode cX5_pass 64 = .ok (.getfield 44, 3) := by decide +kernel
theorem dX5_pass_67 : decode cX5_pass 67 = .ok (.iload_n 3, 1) := by decide +kernel
theorem dX5_pass_68 : decode cX5_pass 68 = .ok (.iaload, 1) := by decide +kernel
theorem dX5_pass_69 : decode cX5_pass 69 = .ok (.aload_n 0, 1) := by decide +kernel
theorem dX5_pass_70 : decode cX5_pass 70 = .ok (.getfield 88, 3) := by decide +kernel
theorem dX5_pass_73 : decode cX5_pass 73 = .ok (.iload_n 1, 1) := by decide +kernel
theorem dX5_pass_74 : decode cX5_pass 74 = .ok (.iadd, 1) := by decide +kernel
theorem dX5_pass_75 : decode cX5_pass 75 = .ok (.if_icmp .gt 7, 3) := by decide +kernel
theorem dX5_pass_78 : decode cX5_pass 78 = .ok (.iconst 1, 1) := by decide +kernel
theorem dX5_pass_79 : decode cX5_pass 79 = .ok (.goto 4, 3) := by decide +kernel
theorem dX5_pass_82 : decode cX5_pass 82 = .ok (.iconst 0, 1) := by decide +kernel
theorem dX5_pass_83 : decode cX5_pass 83 = .ok (.iadd, 1) := by decide +kernel
theorem dX5_pass_84 : decode cX5_pass 84 = .ok (.istore_n 2, 1) := by decide +kernel
theorem dX5_pass_85 : decode cX5_pass 85 = .ok (.iinc 3 1, 3) := by decide +kernel
theorem dX5_pass_88 : decode cX5_pass 88 = .ok (.goto (-49), 3) := by decide +kernel
theorem dX5_pass_91 : decode cX5_pass 91 = .ok (.aload_n 0, 1) := by decide +kernel
theorem dX5_pass_92 : decode cX5_pass 92 = .ok (.dup, 1) := by decide +kernel
theorem dX5_pass_93 : decode cX5_pass 93 = .ok (.getfield 88, 3) := by decide +kernel
theorem dX5_pass_96 : decode cX5_pass 96 = .ok (.aload_n 0, 1) := by decide +kernel
theorem dX5_pass_97 : decode cX5_pass 97 = .ok (.getfield 56, 3) := by decide +kernel
theorem dX5_pass_100 : decode cX5_pass 100 = .ok (.ifCond .ne 7, 3) := by decide +kernel
theorem dX5_pass_103 : decode cX5_pass 103 = .ok (.iload_n 1, 1) := by decide +kernel
theorem dX5_pass_104 : decode cX5_pass 104 = .ok (.goto 4, 3) := by decide +kernel
theorem dX5_pass_107 : decode cX5_pass 107 = .ok (.iconst 0, 1) := by decide +kernel
theorem dX5_pass_108 : decode cX5_pass 108 = .ok (.iadd, 1) := by decide +kernel
theorem dX5_pass_109 : decode cX5_pass 109 = .ok (.putfield 88, 3) := by decide +kernel
theorem dX5_pass_112 : decode cX5_pass 112 = .ok (.iload_n 2, 1) := by decide +kernel
theorem dX5_pass_113 : decode cX5_pass 113 = .ok (.ireturn, 1) := by decide +kernel
theorem dX5_covering_0 : decode cX5_covering 0 = .ok (.aload_n 0, 1) := by decide +kernel
theorem dX5_covering_1 : decode cX5_covering 1 = .ok (.iload_n 1, 1) := by decide +kernel
theorem dX5_covering_2 : decode cX5_covering 2 = .ok (.invokevirtual 155, 3) := by decide +kernel
theorem dX5_covering_5 : decode cX5_covering 5 = .ok (.ifCond .eq 11, 3) := by decide +kernel
theorem dX5_covering_8 : decode cX5_covering 8 = .ok (.aload_n 0, 1) := by decide +kernel
theorem dX5_covering_9 : decode cX5_covering 9 = .ok (.iload_n 1, 1) := by decide +kernel
theorem dX5_covering_10 : decode cX5_covering 10 = .ok (.invokevirtual 97, 3) := by decide +kernel
theorem dX5_covering_13 : decode cX5_covering 13 = .ok (.goto 4, 3) := by decide +kernel
theorem dX5_covering_16 : decode cX5_covering 16 = .ok (.iconst 0, 1) := by decide +kernel
theorem dX5_covering_17 : decode cX5_covering 17 = .ok (.ireturn, 1) := by decide +kernel
theorem dX5_mayChange_0 : decode cX5_mayChange 0 = .ok (.aload_n 0, 1) := by decide +kernel
theorem dX5_mayChange_1 : decode cX5_mayChange 1 = .ok (.iload_n 1, 1) := by decide +kernel
theorem dX5_mayChange_2 : decode cX5_mayChange 2 = .ok (.invokestatic 68, 3) := by decide +kernel
theorem dX5_mayChange_5 : decode cX5_mayChange 5 = .ok (.ifCond .eq 18, 3) := by decide +kernel
theorem dX5_mayChange_8 : decode cX5_mayChange 8 = .ok (.iload_n 2, 1) := by decide +kernel
theorem dX5_mayChange_9 : decode cX5_mayChange 9 = .ok (.invokestatic 64, 3) := by decide +kernel
theorem dX5_mayChange_12 : decode cX5_mayChange 12 = .ok (.ifCond .eq 11, 3) := by decide +kernel
theorem dX5_mayChange_15 : decode cX5_mayChange 15 = .ok (.iload_n 3, 1) := by decide +kernel
theorem dX5_mayChange_16 : decode cX5_mayChange 16 = .ok (.ifCond .lt 7, 3) := by decide +kernel
theorem dX5_mayChange_19 : decode cX5_mayChange 19 = .ok (.iconst 0, 1) := by decide +kernel
theorem dX5_mayChange_20 : decode cX5_mayChange 20 = .ok (.goto 4, 3) := by decide +kernel
theorem dX5_mayChange_23 : decode cX5_mayChange 23 = .ok (.iconst 1, 1) := by decide +kernel
theorem dX5_mayChange_24 : decode cX5_mayChange 24 = .ok (.putfield 56, 3) := by decide +kernel
theorem dX5_mayChange_27 : decode cX5_mayChange 27 = .ok (.aload_n 0, 1) := by decide +kernel
theorem dX5_mayChange_28 : decode cX5_mayChange 28 = .ok (.getfield 56, 3) := by decide +kernel
theorem dX5_mayChange_31 : decode cX5_mayChange 31 = .ok (.ifCond .ne 17, 3) := by decide +kernel
theorem dX5_mayChange_34 : decode cX5_mayChange 34 = .ok (.aload_n 0, 1) := by decide +kernel
theorem dX5_mayChange_35 : decode cX5_mayChange 35 = .ok (.iload_n 1, 1) := by decide +kernel
theorem dX5_mayChange_36 : decode cX5_mayChange 36 = .ok (.iload_n 2, 1) := by decide +kernel
theorem dX5_mayChange_37 : decode cX5_mayChange 37 = .ok (.iload_n 3, 1) := by decide +kernel
theorem dX5_mayChange_38 : decode cX5_mayChange 38 = .ok (.invokevirtual 103, 3) := by decide +kernel
theorem dX5_mayChange_41 : decode cX5_mayChange 41 = .ok (.ifCond .eq 7, 3) := by decide +kernel
theorem dX5_mayChange_44 : decode cX5_mayChange 44 = .ok (.iconst 1, 1) := by decide +kernel
theorem dX5_mayChange_45 : decode cX5_mayChange 45 = .ok (.goto 4, 3) := by decide +kernel
theorem dX5_mayChange_48 : decode cX5_mayChange 48 = .ok (.iconst 0, 1) := by decide +kernel
theorem dX5_mayChange_49 : decode cX5_mayChange 49 = .ok (.ireturn, 1) := by decide +kernel
theorem dX5_keep_0 : decode cX5_keep 0 = .ok (.aload_n 0, 1) := by decide +kernel
theorem dX5_keep_1 : decode cX5_keep 1 = .ok (.iload_n 1, 1) := by decide +kernel
theorem dX5_keep_2 : decode cX5_keep 2 = .ok (.invokevirtual 155, 3) := by decide +kernel
theorem dX5_keep_5 : decode cX5_keep 5 = .ok (.ifCond .ne 5, 3) := by decide +kernel
theorem dX5_keep_8 : decode cX5_keep 8 = .ok (.iconst 0, 1) := by decide +kernel
theorem dX5_keep_9 : decode cX5_keep 9 = .ok (.ireturn, 1) := by decide +kernel
theorem dX5_keep_10 : decode cX5_keep 10 = .ok (.aload_n 0, 1) := by decide +kernel
theorem dX5_keep_11 : decode cX5_keep 11 = .ok (.iload_n 1, 1) := by decide +kernel
theorem dX5_keep_12 : decode cX5_keep 12 = .ok (.invokevirtual 74, 3) := by decide +kernel
theorem dX5_keep_15 : decode cX5_keep 15 = .ok (.istore_n 2, 1) := by decide +kernel
theorem dX5_keep_16 : decode cX5_keep 16 = .ok (.iload_n 2, 1) := by decide +kernel
theorem dX5_keep_17 : decode cX5_keep 17 = .ok (.ifCond .lt 28, 3) := by decide +kernel
theorem dX5_keep_20 : decode cX5_keep 20 = .ok (.aload_n 0, 1) := by decide +kernel
theorem dX5_keep_21 : decode cX5_keep 21 = .ok (.getfield 17, 3) := by decide +kernel
theorem dX5_keep_24 : decode cX5_keep 24 = .ok (.iload_n 2, 1) := by decide +kernel
theorem dX5_keep_25 : decode cX5_keep 25 = .ok (.iaload, 1) := by decide +kernel
theorem dX5_keep_26 : decode cX5_keep 26 = .ok (.iconst 1, 1) := by decide +kernel
theorem dX5_keep_27 : decode cX5_keep 27 = .ok (.if_icmp .ne 18, 3) := by decide +kernel
theorem dX5_keep_30 : decode cX5_keep 30 = .ok (.aload_n 0, 1) := by decide +kernel
theorem dX5_keep_31 : decode cX5_keep 31 = .ok (.getfield 26, 3) := by decide +kernel
theorem dX5_keep_34 : decode cX5_keep 34 = .ok (.iload_n 2, 1) := by decide +kernel
theorem dX5_keep_35 : decode cX5_keep 35 = .ok (.iaload, 1) := by decide +kernel
theorem dX5_keep_36 : decode cX5_keep 36 = .ok (.bipush 10, 2) := by decide +kernel
theorem dX5_keep_38 : decode cX5_keep 38 = .ok (.if_icmp .ge 7, 3) := by decide +kernel
theorem dX5_keep_41 : decode cX5_keep 41 = .ok (.iconst 1, 1) := by decide +kernel
theorem dX5_keep_42 : decode cX5_keep 42 = .ok (.goto 4, 3) := by decide +kernel
theorem dX5_keep_45 : decode cX5_keep 45 = .ok (.iconst 0, 1) := by decide +kernel
theorem dX5_keep_46 : decode cX5_keep 46 = .ok (.istore_n 3, 1) := by decide +kernel
theorem dX5_keep_47 : decode cX5_keep 47 = .ok (.aload_n 0, 1) := by decide +kernel
theorem dX5_keep_48 : decode cX5_keep 48 = .ok (.iload_n 3, 1) := by decide +kernel
theorem dX5_keep_49 : decode cX5_keep 49 = .ok (.ifCond .eq 7, 3) := by decide +kernel
theorem dX5_keep_52 : decode cX5_keep 52 = .ok (.iconst 0, 1) := by decide +kernel
theorem dX5_keep_53 : decode cX5_keep 53 = .ok (.goto 4, 3) := by decide +kernel
theorem dX5_keep_56 : decode cX5_keep 56 = .ok (.iconst 2, 1) := by decide +kernel
theorem dX5_keep_57 : decode cX5_keep 57 = .ok (.putfield 56, 3) := by decide +kernel
theorem dX5_keep_60 : decode cX5_keep 60 = .ok (.iload_n 3, 1) := by decide +kernel
theorem dX5_keep_61 : decode cX5_keep 61 = .ok (.ifCond .ne 5, 3) := by decide +kernel
theorem dX5_keep_64 : decode cX5_keep 64 = .ok (.iconst 0, 1) := by decide +kernel
theorem dX5_keep_65 : decode cX5_keep 65 = .ok (.ireturn, 1) := by decide +kernel
theorem dX5_keep_66 : decode cX5_keep 66 = .ok (.aload_n 0, 1) := by decide +kernel
theorem dX5_keep_67 : decode cX5_keep 67 = .ok (.getfield 29, 3) := by decide +kernel
theorem dX5_keep_70 : decode cX5_keep 70 = .ok (.bipush 10, 2) := by decide +kernel
theorem dX5_keep_72 : decode cX5_keep 72 = .ok (.iload_n 2, 1) := by decide +kernel
theorem dX5_keep_73 : decode cX5_keep 73 = .ok (.imul, 1) := by decide +kernel
theorem dX5_keep_74 : decode cX5_keep 74 = .ok (.aload_n 0, 1) := by decide +kernel
theorem dX5_keep_75 : decode cX5_keep 75 = .ok (.getfield 26, 3) := by decide +kernel
theorem dX5_keep_78 : decode cX5_keep 78 = .ok (.iload_n 2, 1) := by decide +kernel
theorem dX5_keep_79 : decode cX5_keep 79 = .ok (.iaload, 1) := by decide +kernel
theorem dX5_keep_80 : decode cX5_keep 80 = .ok (.iadd, 1) := by decide +kernel
theorem dX5_keep_81 : decode cX5_keep 81 = .ok (.aload_n 0, 1) := by decide +kernel
theorem dX5_keep_82 : decode cX5_keep 82 = .ok (.getfield 20, 3) := by decide +kernel
theorem dX5_keep_85 : decode cX5_keep 85 = .ok (.iload_n 2, 1) := by decide +kernel
theorem dX5_keep_86 : decode cX5_keep 86 = .ok (.iaload, 1) := by decide +kernel
theorem dX5_keep_87 : decode cX5_keep 87 = .ok (.iastore, 1) := by decide +kernel
theorem dX5_keep_88 : decode cX5_keep 88 = .ok (.aload_n 0, 1) := by decide +kernel
theorem dX5_keep_89 : decode cX5_keep 89 = .ok (.getfield 26, 3) := by decide +kernel
theorem dX5_keep_92 : decode cX5_keep 92 = .ok (.iload_n 2, 1) := by decide +kernel
theorem dX5_keep_93 : decode cX5_keep 93 = .ok (.dup2, 1) := by decide +kernel
theorem dX5_keep_94 : decode cX5_keep 94 = .ok (.iaload, 1) := by decide +kernel
theorem dX5_keep_95 : decode cX5_keep 95 = .ok (.iconst 1, 1) := by decide +kernel
theorem dX5_keep_96 : decode cX5_keep 96 = .ok (.iadd, 1) := by decide +kernel
theorem dX5_keep_97 : decode cX5_keep 97 = .ok (.iastore, 1) := by decide +kernel
theorem dX5_keep_98 : decode cX5_keep 98 = .ok (.aload_n 0, 1) := by decide +kernel
theorem dX5_keep_99 : decode cX5_keep 99 = .ok (.getfield 26, 3) := by decide +kernel
theorem dX5_keep_102 : decode cX5_keep 102 = .ok (.iload_n 2, 1) := by decide +kernel
theorem dX5_keep_103 : decode cX5_keep 103 = .ok (.iaload, 1) := by decide +kernel
theorem dX5_keep_104 : decode cX5_keep 104 = .ok (.iconst 1, 1) := by decide +kernel
theorem dX5_keep_105 : decode cX5_keep 105 = .ok (.isub, 1) := by decide +kernel
theorem dX5_keep_106 : decode cX5_keep 106 = .ok (.ireturn, 1) := by decide +kernel
theorem dX5_restore_0 : decode cX5_restore 0 = .ok (.aload_n 0, 1) := by decide +kernel
theorem dX5_restore_1 : decode cX5_restore 1 = .ok (.iload_n 1, 1) := by decide +kernel
theorem dX5_restore_2 : decode cX5_restore 2 = .ok (.invokestatic 68, 3) := by decide +kernel
theorem dX5_restore_5 : decode cX5_restore 5 = .ok (.ifCond .eq 23, 3) := by decide +kernel
theorem dX5_restore_8 : decode cX5_restore 8 = .ok (.iload_n 2, 1) := by decide +kernel
theorem dX5_restore_9 : decode cX5_restore 9 = .ok (.invokestatic 64, 3) := by decide +kernel
theorem dX5_restore_12 : decode cX5_restore 12 = .ok (.ifCond .eq 16, 3) := by decide +kernel
theorem dX5_restore_15 : decode cX5_restore 15 = .ok (.iload_n 3, 1) := by decide +kernel
theorem dX5_restore_16 : decode cX5_restore 16 = .ok (.ifCond .lt 12, 3) := by decide +kernel
theorem dX5_restore_19 : decode cX5_restore 19 = .ok (.iload 4, 2) := by decide +kernel
theorem dX5_restore_21 : decode cX5_restore 21 = .ok (.ifCond .lt 7, 3) := by decide +kernel
theorem dX5_restore_24 : decode cX5_restore 24 = .ok (.iconst 0, 1) := by decide +kernel
theorem dX5_restore_25 : decode cX5_restore 25 = .ok (.goto 4, 3) := by decide +kernel
theorem dX5_restore_28 : decode cX5_restore 28 = .ok (.iconst 1, 1) := by decide +kernel
theorem dX5_restore_29 : decode cX5_restore 29 = .ok (.putfield 56, 3) := by decide +kernel
theorem dX5_restore_32 : decode cX5_restore 32 = .ok (.aload_n 0, 1) := by decide +kernel
theorem dX5_restore_33 : decode cX5_restore 33 = .ok (.getfield 56, 3) := by decide +kernel
theorem dX5_restore_36 : decode cX5_restore 36 = .ok (.ifCond .le 5, 3) := by decide +kernel
theorem dX5_restore_39 : decode cX5_restore 39 = .ok (.iconst 0, 1) := by decide +kernel
theorem dX5_restore_40 : decode cX5_restore 40 = .ok (.ireturn, 1) := by decide +kernel
theorem dX5_restore_41 : decode cX5_restore 41 = .ok (.aload_n 0, 1) := by decide +kernel
theorem dX5_restore_42 : decode cX5_restore 42 = .ok (.iload_n 2, 1) := by decide +kernel
theorem dX5_restore_43 : decode cX5_restore 43 = .ok (.invokevirtual 74, 3) := by decide +kernel
theorem dX5_restore_46 : decode cX5_restore 46 = .ok (.istore 5, 2) := by decide +kernel
theorem dX5_restore_48 : decode cX5_restore 48 = .ok (.iload 5, 2) := by decide +kernel
theorem dX5_restore_50 : decode cX5_restore 50 = .ok (.ifCond .lt 29, 3) := by decide +kernel
theorem dX5_restore_53 : decode cX5_restore 53 = .ok (.aload_n 0, 1) := by decide +kernel
theorem dX5_restore_54 : decode cX5_restore 54 = .ok (.getfield 17, 3) := by decide +kernel
theorem dX5_restore_57 : decode cX5_restore 57 = .ok (.iload 5, 2) := by decide +kernel
theorem dX5_restore_59 : decode cX5_restore 59 = .ok (.iaload, 1) := by decide +kernel
theorem dX5_restore_60 : decode cX5_restore 60 = .ok (.iconst 1, 1) := by decide +kernel
theorem dX5_restore_61 : decode cX5_restore 61 = .ok (.if_icmp .ne 18, 3) := by decide +kernel
theorem dX5_restore_64 : decode cX5_restore 64 = .ok (.iload_n 3, 1) := by decide +kernel
theorem dX5_restore_65 : decode cX5_restore 65 = .ok (.aload_n 0, 1) := by decide +kernel
theorem dX5_restore_66 : decode cX5_restore 66 = .ok (.getfield 26, 3) := by decide +kernel
theorem dX5_restore_69 : decode cX5_restore 69 = .ok (.iload 5, 2) := by decide +kernel
theorem dX5_restore_71 : decode cX5_restore 71 = .ok (.iaload, 1) := by decide +kernel
theorem dX5_restore_72 : decode cX5_restore 72 = .ok (.if_icmp .ge 7, 3) := by decide +kernel
theorem dX5_restore_75 : decode cX5_restore 75 = .ok (.iconst 1, 1) := by decide +kernel
theorem dX5_restore_76 : decode cX5_restore 76 = .ok (.goto 4, 3) := by decide +kernel
theorem dX5_restore_79 : decode cX5_restore 79 = .ok (.iconst 0, 1) := by decide +kernel
theorem dX5_restore_80 : decode cX5_restore 80 = .ok (.istore 6, 2) := by decide +kernel
theorem dX5_restore_82 : decode cX5_restore 82 = .ok (.iload 6, 2) := by decide +kernel
theorem dX5_restore_84 : decode cX5_restore 84 = .ok (.ifCond .ne 7, 3) := by decide +kernel
theorem dX5_restore_87 : decode cX5_restore 87 = .ok (.iconst 1, 1) := by decide +kernel
theorem dX5_restore_88 : decode cX5_restore 88 = .ok (.goto 19, 3) := by decide +kernel
theorem dX5_restore_91 : decode cX5_restore 91 = .ok (.aload_n 0, 1) := by decide +kernel
theorem dX5_restore_92 : decode cX5_restore 92 = .ok (.iload_n 1, 1) := by decide +kernel
theorem dX5_restore_93 : decode cX5_restore 93 = .ok (.iload_n 2, 1) := by decide +kernel
theorem dX5_restore_94 : decode cX5_restore 94 = .ok (.iload 4, 2) := by decide +kernel
theorem dX5_restore_96 : decode cX5_restore 96 = .ok (.invokevirtual 103, 3) := by decide +kernel
theorem dX5_restore_99 : decode cX5_restore 99 = .ok (.ifCond .eq 7, 3) := by decide +kernel
theorem dX5_restore_102 : decode cX5_restore 102 = .ok (.iconst 0, 1) := by decide +kernel
theorem dX5_restore_103 : decode cX5_restore 103 = .ok (.goto 4, 3) := by decide +kernel
theorem dX5_restore_106 : decode cX5_restore 106 = .ok (.iconst 4, 1) := by decide +kernel
theorem dX5_restore_107 : decode cX5_restore 107 = .ok (.istore 7, 2) := by decide +kernel
theorem dX5_restore_109 : decode cX5_restore 109 = .ok (.iload 7, 2) := by decide +kernel
theorem dX5_restore_111 : decode cX5_restore 111 = .ok (.ifCond .ne 22, 3) := by decide +kernel
theorem dX5_restore_114 : decode cX5_restore 114 = .ok (.aload_n 0, 1) := by decide +kernel
theorem dX5_restore_115 : decode cX5_restore 115 = .ok (.getfield 20, 3) := by decide +kernel
theorem dX5_restore_118 : decode cX5_restore 118 = .ok (.iload 5, 2) := by decide +kernel
theorem dX5_restore_120 : decode cX5_restore 120 = .ok (.aload_n 0, 1) := by decide +kernel
theorem dX5_restore_121 : decode cX5_restore 121 = .ok (.getfield 29, 3) := by decide +kernel
theorem dX5_restore_124 : decode cX5_restore 124 = .ok (.bipush 10, 2) := by decide +kernel
theorem dX5_restore_126 : decode cX5_restore 126 = .ok (.iload 5, 2) := by decide +kernel
theorem dX5_restore_128 : decode cX5_restore 128 = .ok (.imul, 1) := by decide +kernel
theorem dX5_restore_129 : decode cX5_restore 129 = .ok (.iload_n 3, 1) := by decide +kernel
theorem dX5_restore_130 : decode cX5_restore 130 = .ok (.iadd, 1) := by decide +kernel
theorem dX5_restore_131 : decode cX5_restore 131 = .ok (.iaload, 1) := by decide +kernel
theorem dX5_restore_132 : decode cX5_restore 132 = .ok (.iastore, 1) := by decide +kernel
theorem dX5_restore_133 : decode cX5_restore 133 = .ok (.iload 7, 2) := by decide +kernel
theorem dX5_restore_135 : decode cX5_restore 135 = .ok (.ireturn, 1) := by decide +kernel
theorem dL_makeCollection_0 : decode cL_makeCollection 0 = .ok (.aload 4, 2) := by decide +kernel
theorem dL_makeCollection_2 : decode cL_makeCollection 2 = .ok (.iconst 0, 1) := by decide +kernel
theorem dL_makeCollection_3 : decode cL_makeCollection 3 = .ok (.aload_n 0, 1) := by decide +kernel
theorem dL_makeCollection_4 : decode cL_makeCollection 4 = .ok (.iload_n 1, 1) := by decide +kernel
theorem dL_makeCollection_5 : decode cL_makeCollection 5 = .ok (.iload_n 2, 1) := by decide +kernel
theorem dL_makeCollection_6 : decode cL_makeCollection 6 = .ok (.iload_n 3, 1) := by decide +kernel
theorem dL_makeCollection_7 : decode cL_makeCollection 7 = .ok (.invokevirtual 7, 3) := by decide +kernel
theorem dL_makeCollection_10 : decode cL_makeCollection 10 = .ok (.i2l, 1) := by decide +kernel
theorem dL_makeCollection_11 : decode cL_makeCollection 11 = .ok (.lastore, 1) := by decide +kernel
theorem dL_makeCollection_12 : decode cL_makeCollection 12 = .ok (.goto 7, 3) := by decide +kernel
theorem dL_makeCollection_15 : decode cL_makeCollection 15 = .ok (.astore 5, 2) := by decide +kernel
theorem dL_makeCollection_17 : decode cL_makeCollection 17 = .ok (.iconst 1, 1) := by decide +kernel
theorem dL_makeCollection_18 : decode cL_makeCollection 18 = .ok (.ireturn, 1) := by decide +kernel
theorem dL_makeCollection_19 : decode cL_makeCollection 19 = .ok (.iconst 0, 1) := by decide +kernel
theorem dL_makeCollection_20 : decode cL_makeCollection 20 = .ok (.ireturn, 1) := by decide +kernel
theorem dL_put_0 : decode cL_put 0 = .ok (.aload 6, 2) := by decide +kernel
theorem dL_put_2 : decode cL_put 2 = .ok (.iconst 0, 1) := by decide +kernel
theorem dL_put_3 : decode cL_put 3 = .ok (.aload_n 0, 1) := by decide +kernel
theorem dL_put_4 : decode cL_put 4 = .ok (.iload_n 1, 1) := by decide +kernel
theorem dL_put_5 : decode cL_put 5 = .ok (.iload_n 2, 1) := by decide +kernel
theorem dL_put_6 : decode cL_put 6 = .ok (.iload_n 3, 1) := by decide +kernel
theorem dL_put_7 : decode cL_put 7 = .ok (.iload 4, 2) := by decide +kernel
theorem dL_put_9 : decode cL_put 9 = .ok (.iload 5, 2) := by decide +kernel
theorem dL_put_11 : decode cL_put 11 = .ok (.invokevirtual 15, 3) := by decide +kernel
theorem dL_put_14 : decode cL_put 14 = .ok (.i2l, 1) := by decide +kernel
theorem dL_put_15 : decode cL_put 15 = .ok (.lastore, 1) := by decide +kernel
theorem dL_put_16 : decode cL_put 16 = .ok (.goto 7, 3) := by decide +kernel
theorem dL_put_19 : decode cL_put 19 = .ok (.astore 7, 2) := by decide +kernel
theorem dL_put_21 : decode cL_put 21 = .ok (.iconst 1, 1) := by decide +kernel
theorem dL_put_22 : decode cL_put 22 = .ok (.ireturn, 1) := by decide +kernel
theorem dL_put_23 : decode cL_put 23 = .ok (.iconst 0, 1) := by decide +kernel
theorem dL_put_24 : decode cL_put 24 = .ok (.ireturn, 1) := by decide +kernel
theorem dL_delete_0 : decode cL_delete 0 = .ok (.aload 4, 2) := by decide +kernel
theorem dL_delete_2 : decode cL_delete 2 = .ok (.iconst 0, 1) := by decide +kernel
theorem dL_delete_3 : decode cL_delete 3 = .ok (.aload_n 0, 1) := by decide +kernel
theorem dL_delete_4 : decode cL_delete 4 = .ok (.iload_n 1, 1) := by decide +kernel
theorem dL_delete_5 : decode cL_delete 5 = .ok (.iload_n 2, 1) := by decide +kernel
theorem dL_delete_6 : decode cL_delete 6 = .ok (.iload_n 3, 1) := by decide +kernel
theorem dL_delete_7 : decode cL_delete 7 = .ok (.invokevirtual 19, 3) := by decide +kernel
theorem dL_delete_10 : decode cL_delete 10 = .ok (.i2l, 1) := by decide +kernel
theorem dL_delete_11 : decode cL_delete 11 = .ok (.lastore, 1) := by decide +kernel
theorem dL_delete_12 : decode cL_delete 12 = .ok (.goto 7, 3) := by decide +kernel
theorem dL_delete_15 : decode cL_delete 15 = .ok (.astore 5, 2) := by decide +kernel
theorem dL_delete_17 : decode cL_delete 17 = .ok (.iconst 1, 1) := by decide +kernel
theorem dL_delete_18 : decode cL_delete 18 = .ok (.ireturn, 1) := by decide +kernel
theorem dL_delete_19 : decode cL_delete 19 = .ok (.iconst 0, 1) := by decide +kernel
theorem dL_delete_20 : decode cL_delete 20 = .ok (.ireturn, 1) := by decide +kernel
theorem dL_failureAt_0 : decode cL_failureAt 0 = .ok (.aload_n 2, 1) := by decide +kernel
theorem dL_failureAt_1 : decode cL_failureAt 1 = .ok (.iconst 0, 1) := by decide +kernel
theorem dL_failureAt_2 : decode cL_failureAt 2 = .ok (.aload_n 0, 1) := by decide +kernel
theorem dL_failureAt_3 : decode cL_failureAt 3 = .ok (.iload_n 1, 1) := by decide +kernel
theorem dL_failureAt_4 : decode cL_failureAt 4 = .ok (.invokevirtual 22, 3) := by decide +kernel
theorem dL_failureAt_7 : decode cL_failureAt 7 = .ok (.i2l, 1) := by decide +kernel
theorem dL_failureAt_8 : decode cL_failureAt 8 = .ok (.lastore, 1) := by decide +kernel
theorem dL_failureAt_9 : decode cL_failureAt 9 = .ok (.goto 6, 3) := by decide +kernel
theorem dL_failureAt_12 : decode cL_failureAt 12 = .ok (.astore_n 3, 1) := by decide +kernel
theorem dL_failureAt_13 : decode cL_failureAt 13 = .ok (.iconst 1, 1) := by decide +kernel
theorem dL_failureAt_14 : decode cL_failureAt 14 = .ok (.ireturn, 1) := by decide +kernel
theorem dL_failureAt_15 : decode cL_failureAt 15 = .ok (.iconst 0, 1) := by decide +kernel
theorem dL_failureAt_16 : decode cL_failureAt 16 = .ok (.ireturn, 1) := by decide +kernel
theorem dL_copy_0 : decode cL_copy 0 = .ok (.aload 6, 2) := by decide +kernel
theorem dL_copy_2 : decode cL_copy 2 = .ok (.iconst 0, 1) := by decide +kernel
theorem dL_copy_3 : decode cL_copy 3 = .ok (.aload_n 0, 1) := by decide +kernel
theorem dL_copy_4 : decode cL_copy 4 = .ok (.iload_n 1, 1) := by decide +kernel
theorem dL_copy_5 : decode cL_copy 5 = .ok (.iload_n 2, 1) := by decide +kernel
theorem dL_copy_6 : decode cL_copy 6 = .ok (.iload_n 3, 1) := by decide +kernel
theorem dL_copy_7 : decode cL_copy 7 = .ok (.iload 4, 2) := by decide +kernel
theorem dL_copy_9 : decode cL_copy 9 = .ok (.iload 5, 2) := by decide +kernel
theorem dL_copy_11 : decode cL_copy 11 = .ok (.invokevirtual 28, 3) := by decide +kernel
theorem dL_copy_14 : decode cL_copy 14 = .ok (.i2l, 1) := by decide +kernel
theorem dL_copy_15 : decode cL_copy 15 = .ok (.lastore, 1) := by decide +kernel
theorem dL_copy_16 : decode cL_copy 16 = .ok (.goto 7, 3) := by decide +kernel
theorem dL_copy_19 : decode cL_copy 19 = .ok (.astore 7, 2) := by decide +kernel
theorem dL_copy_21 : decode cL_copy 21 = .ok (.iconst 1, 1) := by decide +kernel
theorem dL_copy_22 : decode cL_copy 22 = .ok (.ireturn, 1) := by decide +kernel
theorem dL_copy_23 : decode cL_copy 23 = .ok (.iconst 0, 1) := by decide +kernel
theorem dL_copy_24 : decode cL_copy 24 = .ok (.ireturn, 1) := by decide +kernel
theorem dL_move_0 : decode cL_move 0 = .ok (.aload 6, 2) := by decide +kernel
theorem dL_move_2 : decode cL_move 2 = .ok (.iconst 0, 1) := by decide +kernel
theorem dL_move_3 : decode cL_move 3 = .ok (.aload_n 0, 1) := by decide +kernel
theorem dL_move_4 : decode cL_move 4 = .ok (.iload_n 1, 1) := by decide +kernel
theorem dL_move_5 : decode cL_move 5 = .ok (.iload_n 2, 1) := by decide +kernel
theorem dL_move_6 : decode cL_move 6 = .ok (.iload_n 3, 1) := by decide +kernel
theorem dL_move_7 : decode cL_move 7 = .ok (.iload 4, 2) := by decide +kernel
theorem dL_move_9 : decode cL_move 9 = .ok (.iload 5, 2) := by decide +kernel
theorem dL_move_11 : decode cL_move 11 = .ok (.invokevirtual 32, 3) := by decide +kernel
theorem dL_move_14 : decode cL_move 14 = .ok (.i2l, 1) := by decide +kernel
theorem dL_move_15 : decode cL_move 15 = .ok (.lastore, 1) := by decide +kernel
theorem dL_move_16 : decode cL_move 16 = .ok (.goto 7, 3) := by decide +kernel
theorem dL_move_19 : decode cL_move 19 = .ok (.astore 7, 2) := by decide +kernel
theorem dL_move_21 : decode cL_move 21 = .ok (.iconst 1, 1) := by decide +kernel
theorem dL_move_22 : decode cL_move 22 = .ok (.ireturn, 1) := by decide +kernel
theorem dL_move_23 : decode cL_move 23 = .ok (.iconst 0, 1) := by decide +kernel
theorem dL_move_24 : decode cL_move 24 = .ok (.ireturn, 1) := by decide +kernel
theorem dL_kindOf_0 : decode cL_kindOf 0 = .ok (.aload_n 2, 1) := by decide +kernel
theorem dL_kindOf_1 : decode cL_kindOf 1 = .ok (.iconst 0, 1) := by decide +kernel
theorem dL_kindOf_2 : decode cL_kindOf 2 = .ok (.aload_n 0, 1) := by decide +kernel
theorem dL_kindOf_3 : decode cL_kindOf 3 = .ok (.iload_n 1, 1) := by decide +kernel
theorem dL_kindOf_4 : decode cL_kindOf 4 = .ok (.invokevirtual 35, 3) := by decide +kernel
theorem dL_kindOf_7 : decode cL_kindOf 7 = .ok (.i2l, 1) := by decide +kernel
theorem dL_kindOf_8 : decode cL_kindOf 8 = .ok (.lastore, 1) := by decide +kernel
theorem dL_kindOf_9 : decode cL_kindOf 9 = .ok (.goto 6, 3) := by decide +kernel
theorem dL_kindOf_12 : decode cL_kindOf 12 = .ok (.astore_n 3, 1) := by decide +kernel
theorem dL_kindOf_13 : decode cL_kindOf 13 = .ok (.iconst 1, 1) := by decide +kernel
theorem dL_kindOf_14 : decode cL_kindOf 14 = .ok (.ireturn, 1) := by decide +kernel
theorem dL_kindOf_15 : decode cL_kindOf 15 = .ok (.iconst 0, 1) := by decide +kernel
theorem dL_kindOf_16 : decode cL_kindOf 16 = .ok (.ireturn, 1) := by decide +kernel
theorem dL_content_0 : decode cL_content 0 = .ok (.aload_n 2, 1) := by decide +kernel
theorem dL_content_1 : decode cL_content 1 = .ok (.iconst 0, 1) := by decide +kernel
theorem dL_content_2 : decode cL_content 2 = .ok (.aload_n 0, 1) := by decide +kernel
theorem dL_content_3 : decode cL_content 3 = .ok (.iload_n 1, 1) := by decide +kernel
theorem dL_content_4 : decode cL_content 4 = .ok (.invokevirtual 38, 3) := by decide +kernel
theorem dL_content_7 : decode cL_content 7 = .ok (.i2l, 1) := by decide +kernel
theorem dL_content_8 : decode cL_content 8 = .ok (.lastore, 1) := by decide +kernel
theorem dL_content_9 : decode cL_content 9 = .ok (.goto 6, 3) := by decide +kernel
theorem dL_content_12 : decode cL_content 12 = .ok (.astore_n 3, 1) := by decide +kernel
theorem dL_content_13 : decode cL_content 13 = .ok (.iconst 1, 1) := by decide +kernel
theorem dL_content_14 : decode cL_content 14 = .ok (.ireturn, 1) := by decide +kernel
theorem dL_content_15 : decode cL_content 15 = .ok (.iconst 0, 1) := by decide +kernel
theorem dL_content_16 : decode cL_content 16 = .ok (.ireturn, 1) := by decide +kernel
theorem dL_members_0 : decode cL_members 0 = .ok (.aload_n 2, 1) := by decide +kernel
theorem dL_members_1 : decode cL_members 1 = .ok (.iconst 0, 1) := by decide +kernel
theorem dL_members_2 : decode cL_members 2 = .ok (.aload_n 0, 1) := by decide +kernel
theorem dL_members_3 : decode cL_members 3 = .ok (.iload_n 1, 1) := by decide +kernel
theorem dL_members_4 : decode cL_members 4 = .ok (.invokevirtual 41, 3) := by decide +kernel
theorem dL_members_7 : decode cL_members 7 = .ok (.i2l, 1) := by decide +kernel
theorem dL_members_8 : decode cL_members 8 = .ok (.lastore, 1) := by decide +kernel
theorem dL_members_9 : decode cL_members 9 = .ok (.goto 6, 3) := by decide +kernel
theorem dL_members_12 : decode cL_members 12 = .ok (.astore_n 3, 1) := by decide +kernel
theorem dL_members_13 : decode cL_members 13 = .ok (.iconst 1, 1) := by decide +kernel
theorem dL_members_14 : decode cL_members 14 = .ok (.ireturn, 1) := by decide +kernel
theorem dL_members_15 : decode cL_members 15 = .ok (.iconst 0, 1) := by decide +kernel
theorem dL_members_16 : decode cL_members 16 = .ok (.ireturn, 1) := by decide +kernel
theorem dL_memberAt_0 : decode cL_memberAt 0 = .ok (.aload_n 3, 1) := by decide +kernel
theorem dL_memberAt_1 : decode cL_memberAt 1 = .ok (.iconst 0, 1) := by decide +kernel
theorem dL_memberAt_2 : decode cL_memberAt 2 = .ok (.aload_n 0, 1) := by decide +kernel
theorem dL_memberAt_3 : decode cL_memberAt 3 = .ok (.iload_n 1, 1) := by decide +kernel
theorem dL_memberAt_4 : decode cL_memberAt 4 = .ok (.iload_n 2, 1) := by decide +kernel
theorem dL_memberAt_5 : decode cL_memberAt 5 = .ok (.invokevirtual 44, 3) := by decide +kernel
theorem dL_memberAt_8 : decode cL_memberAt 8 = .ok (.i2l, 1) := by decide +kernel
theorem dL_memberAt_9 : decode cL_memberAt 9 = .ok (.lastore, 1) := by decide +kernel
theorem dL_memberAt_10 : decode cL_memberAt 10 = .ok (.goto 11, 3) := by decide +kernel
theorem dL_memberAt_13 : decode cL_memberAt 13 = .ok (.astore 4, 2) := by decide +kernel
theorem dL_memberAt_15 : decode cL_memberAt 15 = .ok (.iconst 1, 1) := by decide +kernel
theorem dL_memberAt_16 : decode cL_memberAt 16 = .ok (.ireturn, 1) := by decide +kernel
theorem dL_memberAt_17 : decode cL_memberAt 17 = .ok (.astore 4, 2) := by decide +kernel
theorem dL_memberAt_19 : decode cL_memberAt 19 = .ok (.iconst 2, 1) := by decide +kernel
theorem dL_memberAt_20 : decode cL_memberAt 20 = .ok (.ireturn, 1) := by decide +kernel
theorem dL_memberAt_21 : decode cL_memberAt 21 = .ok (.iconst 0, 1) := by decide +kernel
theorem dL_memberAt_22 : decode cL_memberAt 22 = .ok (.ireturn, 1) := by decide +kernel
theorem dL_order_0 : decode cL_order 0 = .ok (.aload 5, 2) := by decide +kernel
theorem dL_order_2 : decode cL_order 2 = .ok (.iconst 0, 1) := by decide +kernel
theorem dL_order_3 : decode cL_order 3 = .ok (.aload_n 0, 1) := by decide +kernel
theorem dL_order_4 : decode cL_order 4 = .ok (.iload_n 1, 1) := by decide +kernel
theorem dL_order_5 : decode cL_order 5 = .ok (.iload_n 2, 1) := by decide +kernel
theorem dL_order_6 : decode cL_order 6 = .ok (.iload_n 3, 1) := by decide +kernel
theorem dL_order_7 : decode cL_order 7 = .ok (.iload 4, 2) := by decide +kernel
theorem dL_order_9 : decode cL_order 9 = .ok (.invokevirtual 48, 3) := by decide +kernel
theorem dL_order_12 : decode cL_order 12 = .ok (.i2l, 1) := by decide +kernel
theorem dL_order_13 : decode cL_order 13 = .ok (.lastore, 1) := by decide +kernel
theorem dL_order_14 : decode cL_order 14 = .ok (.goto 7, 3) := by decide +kernel
theorem dL_order_17 : decode cL_order 17 = .ok (.astore 6, 2) := by decide +kernel
theorem dL_order_19 : decode cL_order 19 = .ok (.iconst 1, 1) := by decide +kernel
theorem dL_order_20 : decode cL_order 20 = .ok (.ireturn, 1) := by decide +kernel
theorem dL_order_21 : decode cL_order 21 = .ok (.iconst 0, 1) := by decide +kernel
theorem dL_order_22 : decode cL_order 22 = .ok (.ireturn, 1) := by decide +kernel
theorem dL_lock_0 : decode cL_lock 0 = .ok (.aload 7, 2) := by decide +kernel
theorem dL_lock_2 : decode cL_lock 2 = .ok (.iconst 0, 1) := by decide +kernel
theorem dL_lock_3 : decode cL_lock 3 = .ok (.aload_n 0, 1) := by decide +kernel
theorem dL_lock_4 : decode cL_lock 4 = .ok (.iload_n 1, 1) := by decide +kernel
theorem dL_lock_5 : decode cL_lock 5 = .ok (.iload_n 2, 1) := by decide +kernel
theorem dL_lock_6 : decode cL_lock 6 = .ok (.iload_n 3, 1) := by decide +kernel
theorem dL_lock_7 : decode cL_lock 7 = .ok (.iload 4, 2) := by decide +kernel
theorem dL_lock_9 : decode cL_lock 9 = .ok (.iload 5, 2) := by decide +kernel
theorem dL_lock_11 : decode cL_lock 11 = .ok (.iload 6, 2) := by decide +kernel
theorem dL_lock_13 : decode cL_lock 13 = .ok (.invokevirtual 52, 3) := by decide +kernel
theorem dL_lock_16 : decode cL_lock 16 = .ok (.i2l, 1) := by decide +kernel
theorem dL_lock_17 : decode cL_lock 17 = .ok (.lastore, 1) := by decide +kernel
theorem dL_lock_18 : decode cL_lock 18 = .ok (.goto 11, 3) := by decide +kernel
theorem dL_lock_21 : decode cL_lock 21 = .ok (.astore 8, 2) := by decide +kernel
theorem dL_lock_23 : decode cL_lock 23 = .ok (.iconst 1, 1) := by decide +kernel
theorem dL_lock_24 : decode cL_lock 24 = .ok (.ireturn, 1) := by decide +kernel
theorem dL_lock_25 : decode cL_lock 25 = .ok (.astore 8, 2) := by decide +kernel
theorem dL_lock_27 : decode cL_lock 27 = .ok (.iconst 2, 1) := by decide +kernel
theorem dL_lock_28 : decode cL_lock 28 = .ok (.ireturn, 1) := by decide +kernel
theorem dL_lock_29 : decode cL_lock 29 = .ok (.iconst 0, 1) := by decide +kernel
theorem dL_lock_30 : decode cL_lock 30 = .ok (.ireturn, 1) := by decide +kernel
theorem dL_refresh_0 : decode cL_refresh 0 = .ok (.aload 4, 2) := by decide +kernel
theorem dL_refresh_2 : decode cL_refresh 2 = .ok (.iconst 0, 1) := by decide +kernel
theorem dL_refresh_3 : decode cL_refresh 3 = .ok (.aload_n 0, 1) := by decide +kernel
theorem dL_refresh_4 : decode cL_refresh 4 = .ok (.iload_n 1, 1) := by decide +kernel
theorem dL_refresh_5 : decode cL_refresh 5 = .ok (.iload_n 2, 1) := by decide +kernel
theorem dL_refresh_6 : decode cL_refresh 6 = .ok (.iload_n 3, 1) := by decide +kernel
theorem dL_refresh_7 : decode cL_refresh 7 = .ok (.invokevirtual 58, 3) := by decide +kernel
theorem dL_refresh_10 : decode cL_refresh 10 = .ok (.i2l, 1) := by decide +kernel
theorem dL_refresh_11 : decode cL_refresh 11 = .ok (.lastore, 1) := by decide +kernel
theorem dL_refresh_12 : decode cL_refresh 12 = .ok (.goto 15, 3) := by decide +kernel
theorem dL_refresh_15 : decode cL_refresh 15 = .ok (.astore 5, 2) := by decide +kernel
theorem dL_refresh_17 : decode cL_refresh 17 = .ok (.iconst 1, 1) := by decide +kernel
theorem dL_refresh_18 : decode cL_refresh 18 = .ok (.ireturn, 1) := by decide +kernel
theorem dL_refresh_19 : decode cL_refresh 19 = .ok (.astore 5, 2) := by decide +kernel
theorem dL_refresh_21 : decode cL_refresh 21 = .ok (.iconst 2, 1) := by decide +kernel
theorem dL_refresh_22 : decode cL_refresh 22 = .ok (.ireturn, 1) := by decide +kernel
theorem dL_refresh_23 : decode cL_refresh 23 = .ok (.astore 5, 2) := by decide +kernel
theorem dL_refresh_25 : decode cL_refresh 25 = .ok (.iconst 3, 1) := by decide +kernel
theorem dL_refresh_26 : decode cL_refresh 26 = .ok (.ireturn, 1) := by decide +kernel
theorem dL_refresh_27 : decode cL_refresh 27 = .ok (.iconst 0, 1) := by decide +kernel
theorem dL_refresh_28 : decode cL_refresh 28 = .ok (.ireturn, 1) := by decide +kernel
theorem dL_pass_0 : decode cL_pass 0 = .ok (.aload_n 2, 1) := by decide +kernel
theorem dL_pass_1 : decode cL_pass 1 = .ok (.iconst 0, 1) := by decide +kernel
theorem dL_pass_2 : decode cL_pass 2 = .ok (.aload_n 0, 1) := by decide +kernel
theorem dL_pass_3 : decode cL_pass 3 = .ok (.iload_n 1, 1) := by decide +kernel
theorem dL_pass_4 : decode cL_pass 4 = .ok (.invokevirtual 61, 3) := by decide +kernel
theorem dL_pass_7 : decode cL_pass 7 = .ok (.i2l, 1) := by decide +kernel
theorem dL_pass_8 : decode cL_pass 8 = .ok (.lastore, 1) := by decide +kernel
theorem dL_pass_9 : decode cL_pass 9 = .ok (.goto 9, 3) := by decide +kernel
theorem dL_pass_12 : decode cL_pass 12 = .ok (.astore_n 3, 1) := by decide +kernel
theorem dL_pass_13 : decode cL_pass 13 = .ok (.iconst 1, 1) := by decide +kernel
theorem dL_pass_14 : decode cL_pass 14 = .ok (.ireturn, 1) := by decide +kernel
theorem dL_pass_15 : decode cL_pass 15 = .ok (.astore_n 3, 1) := by decide +kernel
theorem dL_pass_16 : decode cL_pass 16 = .ok (.iconst 2, 1) := by decide +kernel
theorem dL_pass_17 : decode cL_pass 17 = .ok (.ireturn, 1) := by decide +kernel
theorem dL_pass_18 : decode cL_pass 18 = .ok (.iconst 0, 1) := by decide +kernel
theorem dL_pass_19 : decode cL_pass 19 = .ok (.ireturn, 1) := by decide +kernel
theorem dL_covering_0 : decode cL_covering 0 = .ok (.aload_n 2, 1) := by decide +kernel
theorem dL_covering_1 : decode cL_covering 1 = .ok (.iconst 0, 1) := by decide +kernel
theorem dL_covering_2 : decode cL_covering 2 = .ok (.aload_n 0, 1) := by decide +kernel
theorem dL_covering_3 : decode cL_covering 3 = .ok (.iload_n 1, 1) := by decide +kernel
theorem dL_covering_4 : decode cL_covering 4 = .ok (.invokevirtual 64, 3) := by decide +kernel
theorem dL_covering_7 : decode cL_covering 7 = .ok (.i2l, 1) := by decide +kernel
theorem dL_covering_8 : decode cL_covering 8 = .ok (.lastore, 1) := by decide +kernel
theorem dL_covering_9 : decode cL_covering 9 = .ok (.goto 6, 3) := by decide +kernel
theorem dL_covering_12 : decode cL_covering 12 = .ok (.astore_n 3, 1) := by decide +kernel
theorem dL_covering_13 : decode cL_covering 13 = .ok (.iconst 1, 1) := by decide +kernel
theorem dL_covering_14 : decode cL_covering 14 = .ok (.ireturn, 1) := by decide +kernel
theorem dL_covering_15 : decode cL_covering 15 = .ok (.iconst 0, 1) := by decide +kernel
theorem dL_covering_16 : decode cL_covering 16 = .ok (.ireturn, 1) := by decide +kernel
theorem dL_mayChange_0 : decode cL_mayChange 0 = .ok (.aload 4, 2) := by decide +kernel
theorem dL_mayChange_2 : decode cL_mayChange 2 = .ok (.iconst 0, 1) := by decide +kernel
theorem dL_mayChange_3 : decode cL_mayChange 3 = .ok (.aload_n 0, 1) := by decide +kernel
theorem dL_mayChange_4 : decode cL_mayChange 4 = .ok (.iload_n 1, 1) := by decide +kernel
theorem dL_mayChange_5 : decode cL_mayChange 5 = .ok (.iload_n 2, 1) := by decide +kernel
theorem dL_mayChange_6 : decode cL_mayChange 6 = .ok (.iload_n 3, 1) := by decide +kernel
theorem dL_mayChange_7 : decode cL_mayChange 7 = .ok (.invokevirtual 67, 3) := by decide +kernel
theorem dL_mayChange_10 : decode cL_mayChange 10 = .ok (.ifCond .eq 7, 3) := by decide +kernel
theorem dL_mayChange_13 : decode cL_mayChange 13 = .ok (.lconst 1, 1) := by decide +kernel
theorem dL_mayChange_14 : decode cL_mayChange 14 = .ok (.goto 4, 3) := by decide +kernel
theorem dL_mayChange_17 : decode cL_mayChange 17 = .ok (.lconst 0, 1) := by decide +kernel
theorem dL_mayChange_18 : decode cL_mayChange 18 = .ok (.lastore, 1) := by decide +kernel
theorem dL_mayChange_19 : decode cL_mayChange 19 = .ok (.goto 7, 3) := by decide +kernel
theorem dL_mayChange_22 : decode cL_mayChange 22 = .ok (.astore 5, 2) := by decide +kernel
theorem dL_mayChange_24 : decode cL_mayChange 24 = .ok (.iconst 1, 1) := by decide +kernel
theorem dL_mayChange_25 : decode cL_mayChange 25 = .ok (.ireturn, 1) := by decide +kernel
theorem dL_mayChange_26 : decode cL_mayChange 26 = .ok (.iconst 0, 1) := by decide +kernel
theorem dL_mayChange_27 : decode cL_mayChange 27 = .ok (.ireturn, 1) := by decide +kernel
theorem dL_keep_0 : decode cL_keep 0 = .ok (.aload_n 2, 1) := by decide +kernel
theorem dL_keep_1 : decode cL_keep 1 = .ok (.iconst 0, 1) := by decide +kernel
theorem dL_keep_2 : decode cL_keep 2 = .ok (.aload_n 0, 1) := by decide +kernel
theorem dL_keep_3 : decode cL_keep 3 = .ok (.iload_n 1, 1) := by decide +kernel
theorem dL_keep_4 : decode cL_keep 4 = .ok (.invokevirtual 71, 3) := by decide +kernel
theorem dL_keep_7 : decode cL_keep 7 = .ok (.i2l, 1) := by decide +kernel
theorem dL_keep_8 : decode cL_keep 8 = .ok (.lastore, 1) := by decide +kernel
theorem dL_keep_9 : decode cL_keep 9 = .ok (.goto 9, 3) := by decide +kernel
theorem dL_keep_12 : decode cL_keep 12 = .ok (.astore_n 3, 1) := by decide +kernel
theorem dL_keep_13 : decode cL_keep 13 = .ok (.iconst 1, 1) := by decide +kernel
theorem dL_keep_14 : decode cL_keep 14 = .ok (.ireturn, 1) := by decide +kernel
theorem dL_keep_15 : decode cL_keep 15 = .ok (.astore_n 3, 1) := by decide +kernel
theorem dL_keep_16 : decode cL_keep 16 = .ok (.iconst 2, 1) := by decide +kernel
theorem dL_keep_17 : decode cL_keep 17 = .ok (.ireturn, 1) := by decide +kernel
theorem dL_keep_18 : decode cL_keep 18 = .ok (.iconst 0, 1) := by decide +kernel
theorem dL_keep_19 : decode cL_keep 19 = .ok (.ireturn, 1) := by decide +kernel
theorem dL_restore_0 : decode cL_restore 0 = .ok (.aload 5, 2) := by decide +kernel
theorem dL_restore_2 : decode cL_restore 2 = .ok (.iconst 0, 1) := by decide +kernel
theorem dL_restore_3 : decode cL_restore 3 = .ok (.aload_n 0, 1) := by decide +kernel
theorem dL_restore_4 : decode cL_restore 4 = .ok (.iload_n 1, 1) := by decide +kernel
theorem dL_restore_5 : decode cL_restore 5 = .ok (.iload_n 2, 1) := by decide +kernel
theorem dL_restore_6 : decode cL_restore 6 = .ok (.iload_n 3, 1) := by decide +kernel
theorem dL_restore_7 : decode cL_restore 7 = .ok (.iload 4, 2) := by decide +kernel
theorem dL_restore_9 : decode cL_restore 9 = .ok (.invokevirtual 74, 3) := by decide +kernel
theorem dL_restore_12 : decode cL_restore 12 = .ok (.i2l, 1) := by decide +kernel
theorem dL_restore_13 : decode cL_restore 13 = .ok (.lastore, 1) := by decide +kernel
theorem dL_restore_14 : decode cL_restore 14 = .ok (.goto 7, 3) := by decide +kernel
theorem dL_restore_17 : decode cL_restore 17 = .ok (.astore 6, 2) := by decide +kernel
theorem dL_restore_19 : decode cL_restore 19 = .ok (.iconst 1, 1) := by decide +kernel
theorem dL_restore_20 : decode cL_restore 20 = .ok (.ireturn, 1) := by decide +kernel
theorem dL_restore_21 : decode cL_restore 21 = .ok (.iconst 0, 1) := by decide +kernel
theorem dL_restore_22 : decode cL_restore 22 = .ok (.ireturn, 1) := by decide +kernel
