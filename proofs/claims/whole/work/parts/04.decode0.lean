theorem dX0_init_0 : decode cX0_init 0 = .ok (.aload_n 0, 1) := by decide +kernel
theorem dX0_init_1 : decode cX0_init 1 = .ok (.invokespecial 3, 3) := by decide +kernel
theorem dX0_init_4 : decode cX0_init 4 = .ok (.aload_n 0, 1) := by decide +kernel
theorem dX0_init_5 : decode cX0_init 5 = .ok (.iload_n 1, 1) := by decide +kernel
theorem dX0_init_6 : decode cX0_init 6 = .ok (.iconst 3, 1) := by decide +kernel
theorem dX0_init_7 : decode cX0_init 7 = .ok (.imul, 1) := by decide +kernel
theorem dX0_init_8 : decode cX0_init 8 = .ok (.newarray .int, 2) := by decide +kernel
theorem dX0_init_10 : decode cX0_init 10 = .ok (.putfield 9, 3) := by decide +kernel
theorem dX0_init_13 : decode cX0_init 13 = .ok (.aload_n 0, 1) := by decide +kernel
theorem dX0_init_14 : decode cX0_init 14 = .ok (.iload_n 1, 1) := by decide +kernel
theorem dX0_init_15 : decode cX0_init 15 = .ok (.newarray .int, 2) := by decide +kernel
theorem dX0_init_17 : decode cX0_init 17 = .ok (.putfield 15, 3) := by decide +kernel
theorem dX0_init_20 : decode cX0_init 20 = .ok (.aload_n 0, 1) := by decide +kernel
theorem dX0_init_21 : decode cX0_init 21 = .ok (.iconst 0, 1) := by decide +kernel
theorem dX0_init_22 : decode cX0_init 22 = .ok (.putfield 18, 3) := by decide +kernel
theorem dX0_init_25 : decode cX0_init 25 = .ok (.return_, 1) := by decide +kernel
theorem dX0_add_0 : decode cX0_add 0 = .ok (.aload_n 0, 1) := by decide +kernel
theorem dX0_add_1 : decode cX0_add 1 = .ok (.getfield 18, 3) := by decide +kernel
theorem dX0_add_4 : decode cX0_add 4 = .ok (.aload_n 0, 1) := by decide +kernel
theorem dX0_add_5 : decode cX0_add 5 = .ok (.getfield 15, 3) := by decide +kernel
theorem dX0_add_8 : decode cX0_add 8 = .ok (.arraylength, 1) := by decide +kernel
theorem dX0_add_9 : decode cX0_add 9 = .ok (.if_icmp .ge 8, 3) := by decide +kernel
theorem dX0_add_12 : decode cX0_add 12 = .ok (.iload_n 3, 1) := by decide +kernel
theorem dX0_add_13 : decode cX0_add 13 = .ok (.iconst 3, 1) := by decide +kernel
theorem dX0_add_14 : decode cX0_add 14 = .ok (.if_icmp .le 4, 3) := by decide +kernel
theorem dX0_add_17 : decode cX0_add 17 = .ok (.return_, 1) := by decide +kernel
theorem dX0_add_18 : decode cX0_add 18 = .ok (.iconst 0, 1) := by decide +kernel
theorem dX0_add_19 : decode cX0_add 19 = .ok (.istore 4, 2) := by decide +kernel
theorem dX0_add_21 : decode cX0_add 21 = .ok (.iload 4, 2) := by decide +kernel
theorem dX0_add_23 : decode cX0_add 23 = .ok (.iload_n 3, 1) := by decide +kernel
theorem dX0_add_24 : decode cX0_add 24 = .ok (.if_icmp .ge 29, 3) := by decide +kernel
theorem dX0_add_27 : decode cX0_add 27 = .ok (.aload_n 0, 1) := by decide +kernel
theorem dX0_add_28 : decode cX0_add 28 = .ok (.getfield 9, 3) := by decide +kernel
theorem dX0_add_31 : decode cX0_add 31 = .ok (.aload_n 0, 1) := by decide +kernel
theorem dX0_add_32 : decode cX0_add 32 = .ok (.getfield 18, 3) := by decide +kernel
theorem dX0_add_35 : decode cX0_add 35 = .ok (.iconst 3, 1) := by decide +kernel
theorem dX0_add_36 : decode cX0_add 36 = .ok (.imul, 1) := by decide +kernel
theorem dX0_add_37 : decode cX0_add 37 = .ok (.iload 4, 2) := by decide +kernel
theorem dX0_add_39 : decode cX0_add 39 = .ok (.iadd, 1) := by decide +kernel
theorem dX0_add_40 : decode cX0_add 40 = .ok (.aload_n 1, 1) := by decide +kernel
theorem dX0_add_41 : decode cX0_add 41 = .ok (.iload_n 2, 1) := by decide +kernel
theorem dX0_add_42 : decode cX0_add 42 = .ok (.iload 4, 2) := by decide +kernel
theorem dX0_add_44 : decode cX0_add 44 = .ok (.iadd, 1) := by decide +kernel
theorem dX0_add_45 : decode cX0_add 45 = .ok (.iaload, 1) := by decide +kernel
theorem dX0_add_46 : decode cX0_add 46 = .ok (.iastore, 1) := by decide +kernel
theorem dX0_add_47 : decode cX0_add 47 = .ok (.iinc 4 1, 3) := by decide +kernel
theorem dX0_add_50 : decode cX0_add 50 = .ok (.goto (-29), 3) := by decide +kernel
theorem dX0_add_53 : decode cX0_add 53 = .ok (.aload_n 0, 1) := by decide +kernel
theorem dX0_add_54 : decode cX0_add 54 = .ok (.getfield 15, 3) := by decide +kernel
theorem dX0_add_57 : decode cX0_add 57 = .ok (.aload_n 0, 1) := by decide +kernel
theorem dX0_add_58 : decode cX0_add 58 = .ok (.getfield 18, 3) := by decide +kernel
theorem dX0_add_61 : decode cX0_add 61 = .ok (.iload_n 3, 1) := by decide +kernel
theorem dX0_add_62 : decode cX0_add 62 = .ok (.iastore, 1) := by decide +kernel
theorem dX0_add_63 : decode cX0_add 63 = .ok (.aload_n 0, 1) := by decide +kernel
theorem dX0_add_64 : decode cX0_add 64 = .ok (.dup, 1) := by decide +kernel
theorem dX0_add_65 : decode cX0_add 65 = .ok (.getfield 18, 3) := by decide +kernel
theorem dX0_add_68 : decode cX0_add 68 = .ok (.iconst 1, 1) := by decide +kernel
theorem dX0_add_69 : decode cX0_add 69 = .ok (.iadd, 1) := by decide +kernel
theorem dX0_add_70 : decode cX0_add 70 = .ok (.putfield 18, 3) := by decide +kernel
theorem dX0_add_73 : decode cX0_add 73 = .ok (.return_, 1) := by decide +kernel
theorem dX0_addFrom_0 : decode cX0_addFrom 0 = .ok (.aload_n 0, 1) := by decide +kernel
theorem dX0_addFrom_1 : decode cX0_addFrom 1 = .ok (.aload_n 1, 1) := by decide +kernel
theorem dX0_addFrom_2 : decode cX0_addFrom 2 = .ok (.getfield 9, 3) := by decide +kernel
theorem dX0_addFrom_5 : decode cX0_addFrom 5 = .ok (.iload_n 2, 1) := by decide +kernel
theorem dX0_addFrom_6 : decode cX0_addFrom 6 = .ok (.iconst 3, 1) := by decide +kernel
theorem dX0_addFrom_7 : decode cX0_addFrom 7 = .ok (.imul, 1) := by decide +kernel
theorem dX0_addFrom_8 : decode cX0_addFrom 8 = .ok (.aload_n 1, 1) := by decide +kernel
theorem dX0_addFrom_9 : decode cX0_addFrom 9 = .ok (.getfield 15, 3) := by decide +kernel
theorem dX0_addFrom_12 : decode cX0_addFrom 12 = .ok (.iload_n 2, 1) := by decide +kernel
theorem dX0_addFrom_13 : decode cX0_addFrom 13 = .ok (.iaload, 1) := by decide +kernel
theorem dX0_addFrom_14 : decode cX0_addFrom 14 = .ok (.invokevirtual 22, 3) := by decide +kernel
theorem dX0_addFrom_17 : decode cX0_addFrom 17 = .ok (.return_, 1) := by decide +kernel
theorem dX0_addSingle_0 : decode cX0_addSingle 0 = .ok (.aload_n 0, 1) := by decide +kernel
theorem dX0_addSingle_1 : decode cX0_addSingle 1 = .ok (.getfield 18, 3) := by decide +kernel
theorem dX0_addSingle_4 : decode cX0_addSingle 4 = .ok (.aload_n 0, 1) := by decide +kernel
theorem dX0_addSingle_5 : decode cX0_addSingle 5 = .ok (.getfield 15, 3) := by decide +kernel
theorem dX0_addSingle_8 : decode cX0_addSingle 8 = .ok (.arraylength, 1) := by decide +kernel
theorem dX0_addSingle_9 : decode cX0_addSingle 9 = .ok (.if_icmp .lt 4, 3) := by decide +kernel
theorem dX0_addSingle_12 : decode cX0_addSingle 12 = .ok (.return_, 1) := by decide +kernel
theorem dX0_addSingle_13 : decode cX0_addSingle 13 = .ok (.aload_n 0, 1) := by decide +kernel
theorem dX0_addSingle_14 : decode cX0_addSingle 14 = .ok (.getfield 9, 3) := by decide +kernel
theorem dX0_addSingle_17 : decode cX0_addSingle 17 = .ok (.aload_n 0, 1) := by decide +kernel
theorem dX0_addSingle_18 : decode cX0_addSingle 18 = .ok (.getfield 18, 3) := by decide +kernel
theorem dX0_addSingle_21 : decode cX0_addSingle 21 = .ok (.iconst 3, 1) := by decide +kernel
theorem dX0_addSingle_22 : decode cX0_addSingle 22 = .ok (.imul, 1) := by decide +kernel
theorem dX0_addSingle_23 : decode cX0_addSingle 23 = .ok (.iload_n 1, 1) := by decide +kernel
theorem dX0_addSingle_24 : decode cX0_addSingle 24 = .ok (.iastore, 1) := by decide +kernel
theorem dX0_addSingle_25 : decode cX0_addSingle 25 = .ok (.aload_n 0, 1) := by decide +kernel
theorem dX0_addSingle_26 : decode cX0_addSingle 26 = .ok (.getfield 15, 3) := by decide +kernel
theorem dX0_addSingle_29 : decode cX0_addSingle 29 = .ok (.aload_n 0, 1) := by decide +kernel
theorem dX0_addSingle_30 : decode cX0_addSingle 30 = .ok (.getfield 18, 3) := by decide +kernel
theorem dX0_addSingle_33 : decode cX0_addSingle 33 = .ok (.iconst 1, 1) := by decide +kernel
theorem dX0_addSingle_34 : decode cX0_addSingle 34 = .ok (.iastore, 1) := by decide +kernel
theorem dX0_addSingle_35 : decode cX0_addSingle 35 = .ok (.aload_n 0, 1) := by decide +kernel
theorem dX0_addSingle_36 : decode cX0_addSingle 36 = .ok (.dup, 1) := by decide +kernel
theorem dX0_addSingle_37 : decode cX0_addSingle 37 = .ok (.getfield 18, 3) := by decide +kernel
theorem dX0_addSingle_40 : decode cX0_addSingle 40 = .ok (.iconst 1, 1) := by decide +kernel
theorem dX0_addSingle_41 : decode cX0_addSingle 41 = .ok (.iadd, 1) := by decide +kernel
theorem dX0_addSingle_42 : decode cX0_addSingle 42 = .ok (.putfield 18, 3) := by decide +kernel
theorem dX0_addSingle_45 : decode cX0_addSingle 45 = .ok (.return_, 1) := by decide +kernel
theorem dX0_cutTo_0 : decode cX0_cutTo 0 = .ok (.iload_n 1, 1) := by decide +kernel
theorem dX0_cutTo_1 : decode cX0_cutTo 1 = .ok (.ifCond .lt 16, 3) := by decide +kernel
theorem dX0_cutTo_4 : decode cX0_cutTo 4 = .ok (.iload_n 1, 1) := by decide +kernel
theorem dX0_cutTo_5 : decode cX0_cutTo 5 = .ok (.aload_n 0, 1) := by decide +kernel
theorem dX0_cutTo_6 : decode cX0_cutTo 6 = .ok (.getfield 18, 3) := by decide +kernel
theorem dX0_cutTo_9 : decode cX0_cutTo 9 = .ok (.if_icmp .ge 8, 3) := by decide +kernel
theorem dX0_cutTo_12 : decode cX0_cutTo 12 = .ok (.aload_n 0, 1) := by decide +kernel
theorem dX0_cutTo_13 : decode cX0_cutTo 13 = .ok (.iload_n 1, 1) := by decide +kernel
theorem dX0_cutTo_14 : decode cX0_cutTo 14 = .ok (.putfield 18, 3) := by decide +kernel
theorem dX0_cutTo_17 : decode cX0_cutTo 17 = .ok (.return_, 1) := by decide +kernel
theorem dX0_sizeOf_0 : decode cX0_sizeOf 0 = .ok (.aload_n 0, 1) := by decide +kernel
theorem dX0_sizeOf_1 : decode cX0_sizeOf 1 = .ok (.getfield 15, 3) := by decide +kernel
theorem dX0_sizeOf_4 : decode cX0_sizeOf 4 = .ok (.iload_n 1, 1) := by decide +kernel
theorem dX0_sizeOf_5 : decode cX0_sizeOf 5 = .ok (.iaload, 1) := by decide +kernel
theorem dX0_sizeOf_6 : decode cX0_sizeOf 6 = .ok (.ireturn, 1) := by decide +kernel
theorem dX0_at_0 : decode cX0_at 0 = .ok (.aload_n 0, 1) := by decide +kernel
theorem dX0_at_1 : decode cX0_at 1 = .ok (.getfield 9, 3) := by decide +kernel
theorem dX0_at_4 : decode cX0_at 4 = .ok (.iload_n 1, 1) := by decide +kernel
theorem dX0_at_5 : decode cX0_at 5 = .ok (.iconst 3, 1) := by decide +kernel
theorem dX0_at_6 : decode cX0_at 6 = .ok (.imul, 1) := by decide +kernel
theorem dX0_at_7 : decode cX0_at 7 = .ok (.iload_n 2, 1) := by decide +kernel
theorem dX0_at_8 : decode cX0_at 8 = .ok (.iadd, 1) := by decide +kernel
theorem dX0_at_9 : decode cX0_at 9 = .ok (.iaload, 1) := by decide +kernel
theorem dX0_at_10 : decode cX0_at 10 = .ok (.ireturn, 1) := by decide +kernel
theorem dX1_of_0 : decode cX1_of 0 = .ok (.iload_n 0, 1) := by decide +kernel
theorem dX1_of_1 : decode cX1_of 1 = .ok (.iload_n 1, 1) := by decide +kernel
theorem dX1_of_2 : decode cX1_of 2 = .ok (.iconst 5, 1) := by decide +kernel
theorem dX1_of_3 : decode cX1_of 3 = .ok (.ishl, 1) := by decide +kernel
theorem dX1_of_4 : decode cX1_of 4 = .ok (.ior, 1) := by decide +kernel
theorem dX1_of_5 : decode cX1_of 5 = .ok (.iload_n 2, 1) := by decide +kernel
theorem dX1_of_6 : decode cX1_of 6 = .ok (.ifCond .eq 9, 3) := by decide +kernel
theorem dX1_of_9 : decode cX1_of 9 = .ok (.sipush 1024, 3) := by decide +kernel
theorem dX1_of_12 : decode cX1_of 12 = .ok (.goto 4, 3) := by decide +kernel
theorem dX1_of_15 : decode cX1_of 15 = .ok (.iconst 0, 1) := by decide +kernel
theorem dX1_of_16 : decode cX1_of 16 = .ok (.ior, 1) := by decide +kernel
theorem dX1_of_17 : decode cX1_of 17 = .ok (.ireturn, 1) := by decide +kernel
theorem dX1_left_0 : decode cX1_left 0 = .ok (.iload_n 0, 1) := by decide +kernel
theorem dX1_left_1 : decode cX1_left 1 = .ok (.bipush 31, 2) := by decide +kernel
theorem dX1_left_3 : decode cX1_left 3 = .ok (.iand, 1) := by decide +kernel
theorem dX1_left_4 : decode cX1_left 4 = .ok (.ireturn, 1) := by decide +kernel
theorem dX1_right_0 : decode cX1_right 0 = .ok (.iload_n 0, 1) := by decide +kernel
theorem dX1_right_1 : decode cX1_right 1 = .ok (.iconst 5, 1) := by decide +kernel
theorem dX1_right_2 : decode cX1_right 2 = .ok (.ishr, 1) := by decide +kernel
theorem dX1_right_3 : decode cX1_right 3 = .ok (.bipush 31, 2) := by decide +kernel
theorem dX1_right_5 : decode cX1_right 5 = .ok (.iand, 1) := by decide +kernel
theorem dX1_right_6 : decode cX1_right 6 = .ok (.ireturn, 1) := by decide +kernel
theorem dX1_saysSame_0 : decode cX1_saysSame 0 = .ok (.iload_n 0, 1) := by decide +kernel
theorem dX1_saysSame_1 : decode cX1_saysSame 1 = .ok (.sipush 1024, 3) := by decide +kernel
theorem dX1_saysSame_4 : decode cX1_saysSame 4 = .ok (.iand, 1) := by decide +kernel
theorem dX1_saysSame_5 : decode cX1_saysSame 5 = .ok (.ifCond .eq 7, 3) := by decide +kernel
theorem dX1_saysSame_8 : decode cX1_saysSame 8 = .ok (.iconst 1, 1) := by decide +kernel
theorem dX1_saysSame_9 : decode cX1_saysSame 9 = .ok (.goto 4, 3) := by decide +kernel
theorem dX1_saysSame_12 : decode cX1_saysSame 12 = .ok (.iconst 0, 1) := by decide +kernel
theorem dX1_saysSame_13 : decode cX1_saysSame 13 = .ok (.ireturn, 1) := by decide +kernel
theorem dX1_opposite_0 : decode cX1_opposite 0 = .ok (.iload_n 0, 1) := by decide +kernel
theorem dX1_opposite_1 : decode cX1_opposite 1 = .ok (.sipush 1024, 3) := by decide +kernel
theorem dX1_opposite_4 : decode cX1_opposite 4 = .ok (.ixor, 1) := by decide +kernel
theorem dX1_opposite_5 : decode cX1_opposite 5 = .ok (.ireturn, 1) := by decide +kernel
theorem dX2_init_0 : decode cX2_init 0 = .ok (.aload_n 0, 1) := by decide +kernel
theorem dX2_init_1 : decode cX2_init 1 = .ok (.invokespecial 5, 3) := by decide +kernel
theorem dX2_init_4 : decode cX2_init 4 = .ok (.aload_n 0, 1) := by decide +kernel
theorem dX2_init_5 : decode cX2_init 5 = .ok (.bipush 96, 2) := by decide +kernel
theorem dX2_init_7 : decode cX2_init 7 = .ok (.newarray .int, 2) := by decide +kernel
theorem dX2_init_9 : decode cX2_init 9 = .ok (.putfield 11, 3) := by decide +kernel
theorem dX2_init_12 : decode cX2_init 12 = .ok (.aload_n 0, 1) := by decide +kernel
theorem dX2_init_13 : decode cX2_init 13 = .ok (.bipush 10, 2) := by decide +kernel
theorem dX2_init_15 : decode cX2_init 15 = .ok (.newarray .int, 2) := by decide +kernel
theorem dX2_init_17 : decode cX2_init 17 = .ok (.putfield 15, 3) := by decide +kernel
theorem dX2_init_20 : decode cX2_init 20 = .ok (.return_, 1) := by decide +kernel
theorem dX2_finds_0 : decode cX2_finds 0 = .ok (.iconst 0, 1) := by decide +kernel
theorem dX2_finds_1 : decode cX2_finds 1 = .ok (.istore 5, 2) := by decide +kernel
theorem dX2_finds_3 : decode cX2_finds 3 = .ok (.iload 5, 2) := by decide +kernel
theorem dX2_finds_5 : decode cX2_finds 5 = .ok (.iconst 5, 1) := by decide +kernel
theorem dX2_finds_6 : decode cX2_finds 6 = .ok (.if_icmp .ge 65, 3) := by decide +kernel
theorem dX2_finds_9 : decode cX2_finds 9 = .ok (.getstatic 18, 3) := by decide +kernel
theorem dX2_finds_12 : decode cX2_finds 12 = .ok (.iload 5, 2) := by decide +kernel
theorem dX2_finds_14 : decode cX2_finds 14 = .ok (.iaload, 1) := by decide +kernel
theorem dX2_finds_15 : decode cX2_finds 15 = .ok (.iload_n 3, 1) := by decide +kernel
theorem dX2_finds_16 : decode cX2_finds 16 = .ok (.if_icmp .lt 49, 3) := by decide +kernel
theorem dX2_finds_19 : decode cX2_finds 19 = .ok (.getstatic 18, 3) := by decide +kernel
theorem dX2_finds_22 : decode cX2_finds 22 = .ok (.iload 5, 2) := by decide +kernel
theorem dX2_finds_24 : decode cX2_finds 24 = .ok (.iaload, 1) := by decide +kernel
theorem dX2_finds_25 : decode cX2_finds 25 = .ok (.iload 4, 2) := by decide +kernel
theorem dX2_finds_27 : decode cX2_finds 27 = .ok (.if_icmp .gt 38, 3) := by decide +kernel
theorem dX2_finds_30 : decode cX2_finds 30 = .ok (.aload_n 0, 1) := by decide +kernel
theorem dX2_finds_31 : decode cX2_finds 31 = .ok (.aload_n 1, 1) := by decide +kernel
theorem dX2_finds_32 : decode cX2_finds 32 = .ok (.iload 5, 2) := by decide +kernel
theorem dX2_finds_34 : decode cX2_finds 34 = .ok (.invokevirtual 21, 3) := by decide +kernel
theorem dX2_finds_37 : decode cX2_finds 37 = .ok (.aload_n 0, 1) := by decide +kernel
theorem dX2_finds_38 : decode cX2_finds 38 = .ok (.getfield 15, 3) := by decide +kernel
theorem dX2_finds_41 : decode cX2_finds 41 = .ok (.iconst (-1), 1) := by decide +kernel
theorem dX2_finds_42 : decode cX2_finds 42 = .ok (.invokestatic 25, 3) := by decide +kernel
theorem dX2_finds_45 : decode cX2_finds 45 = .ok (.aload_n 0, 1) := by decide +kernel
theorem dX2_finds_46 : decode cX2_finds 46 = .ok (.getfield 15, 3) := by decide +kernel
theorem dX2_finds_49 : decode cX2_finds 49 = .ok (.iconst 5, 1) := by decide +kernel
theorem dX2_finds_50 : decode cX2_finds 50 = .ok (.iconst 0, 1) := by decide +kernel
theorem dX2_finds_51 : decode cX2_finds 51 = .ok (.iastore, 1) := by decide +kernel
theorem dX2_finds_52 : decode cX2_finds 52 = .ok (.aload_n 0, 1) := by decide +kernel
theorem dX2_finds_53 : decode cX2_finds 53 = .ok (.aload_n 1, 1) := by decide +kernel
theorem dX2_finds_54 : decode cX2_finds 54 = .ok (.aload_n 2, 1) := by decide +kernel
theorem dX2_finds_55 : decode cX2_finds 55 = .ok (.iconst 2, 1) := by decide +kernel
theorem dX2_finds_56 : decode cX2_finds 56 = .ok (.iconst 0, 1) := by decide +kernel
theorem dX2_finds_57 : decode cX2_finds 57 = .ok (.invokevirtual 31, 3) := by decide +kernel
theorem dX2_finds_60 : decode cX2_finds 60 = .ok (.ifCond .eq 5, 3) := by decide +kernel
theorem dX2_finds_63 : decode cX2_finds 63 = .ok (.iconst 1, 1) := by decide +kernel
theorem dX2_finds_64 : decode cX2_finds 64 = .ok (.ireturn, 1) := by decide +kernel
theorem dX2_finds_65 : decode cX2_finds 65 = .ok (.iinc 5 1, 3) := by decide +kernel
theorem dX2_finds_68 : decode cX2_finds 68 = .ok (.goto (-65), 3) := by decide +kernel
theorem dX2_finds_71 : decode cX2_finds 71 = .ok (.iconst 0, 1) := by decide +kernel
theorem dX2_finds_72 : decode cX2_finds 72 = .ok (.ireturn, 1) := by decide +kernel
theorem dX2_lowest_0 : decode cX2_lowest 0 = .ok (.getstatic 35, 3) := by decide +kernel
theorem dX2_lowest_3 : decode cX2_lowest 3 = .ok (.iload_n 0, 1) := by decide +kernel
theorem dX2_lowest_4 : decode cX2_lowest 4 = .ok (.iconst 3, 1) := by decide +kernel
theorem dX2_lowest_5 : decode cX2_lowest 5 = .ok (.imul, 1) := by decide +kernel
theorem dX2_lowest_6 : decode cX2_lowest 6 = .ok (.iload_n 1, 1) := by decide +kernel
theorem dX2_lowest_7 : decode cX2_lowest 7 = .ok (.iadd, 1) := by decide +kernel
theorem dX2_lowest_8 : decode cX2_lowest 8 = .ok (.iaload, 1) := by decide +kernel
theorem dX2_lowest_9 : decode cX2_lowest 9 = .ok (.ireturn, 1) := by decide +kernel
theorem dX2_spellOut_0 : decode cX2_spellOut 0 = .ok (.aload_n 0, 1) := by decide +kernel
theorem dX2_spellOut_1 : decode cX2_spellOut 1 = .ok (.iload_n 2, 1) := by decide +kernel
theorem dX2_spellOut_2 : decode cX2_spellOut 2 = .ok (.invokevirtual 38, 3) := by decide +kernel
theorem dX2_spellOut_5 : decode cX2_spellOut 5 = .ok (.bipush 7, 2) := by decide +kernel
theorem dX2_spellOut_7 : decode cX2_spellOut 7 = .ok (.istore_n 3, 1) := by decide +kernel
theorem dX2_spellOut_8 : decode cX2_spellOut 8 = .ok (.iload_n 3, 1) := by decide +kernel
theorem dX2_spellOut_9 : decode cX2_spellOut 9 = .ok (.aload_n 1, 1) := by decide +kernel
theorem dX2_spellOut_10 : decode cX2_spellOut 10 = .ok (.getfield 42, 3) := by decide +kernel
theorem dX2_spellOut_13 : decode cX2_spellOut 13 = .ok (.if_icmp .ge 147, 3) := by decide +kernel
theorem dX2_spellOut_16 : decode cX2_spellOut 16 = .ok (.aload_n 1, 1) := by decide +kernel
theorem dX2_spellOut_17 : decode cX2_spellOut 17 = .ok (.getfield 48, 3) := by decide +kernel
theorem dX2_spellOut_20 : decode cX2_spellOut 20 = .ok (.iload_n 3, 1) := by decide +kernel
theorem dX2_spellOut_21 : decode cX2_spellOut 21 = .ok (.iaload, 1) := by decide +kernel
theorem dX2_spellOut_22 : decode cX2_spellOut 22 = .ok (.iconst 4, 1) := by decide +kernel
theorem dX2_spellOut_23 : decode cX2_spellOut 23 = .ok (.imul, 1) := by decide +kernel
theorem dX2_spellOut_24 : decode cX2_spellOut 24 = .ok (.istore 4, 2) := by decide +kernel
theorem dX2_spellOut_26 : decode cX2_spellOut 26 = .ok (.iload_n 2, 1) := by decide +kernel
theorem dX2_spellOut_27 : decode cX2_spellOut 27 = .ok (.aload_n 1, 1) := by decide +kernel
theorem dX2_spellOut_28 : decode cX2_spellOut 28 = .ok (.getfield 51, 3) := by decide +kernel
theorem dX2_spellOut_31 : decode cX2_spellOut 31 = .ok (.iload_n 3, 1) := by decide +kernel
theorem dX2_spellOut_32 : decode cX2_spellOut 32 = .ok (.iaload, 1) := by decide +kernel
theorem dX2_spellOut_33 : decode cX2_spellOut 33 = .ok (.invokestatic 54, 3) := by decide +kernel
theorem dX2_spellOut_36 : decode cX2_spellOut 36 = .ok (.istore 5, 2) := by decide +kernel
theorem dX2_spellOut_38 : decode cX2_spellOut 38 = .ok (.aload_n 1, 1) := by decide +kernel
theorem dX2_spellOut_39 : decode cX2_spellOut 39 = .ok (.getfield 58, 3) := by decide +kernel
theorem dX2_spellOut_42 : decode cX2_spellOut 42 = .ok (.iload_n 3, 1) := by decide +kernel
theorem dX2_spellOut_43 : decode cX2_spellOut 43 = .ok (.iaload, 1) := by decide +kernel
theorem dX2_spellOut_44 : decode cX2_spellOut 44 = .ok (.iconst 1, 1) := by decide +kernel
theorem dX2_spellOut_45 : decode cX2_spellOut 45 = .ok (.if_icmp .ne 24, 3) := by decide +kernel
theorem dX2_spellOut_48 : decode cX2_spellOut 48 = .ok (.aload_n 0, 1) := by decide +kernel
theorem dX2_spellOut_49 : decode cX2_spellOut 49 = .ok (.getfield 11, 3) := by decide +kernel
theorem dX2_spellOut_52 : decode cX2_spellOut 52 = .ok (.iload_n 3, 1) := by decide +kernel
theorem dX2_spellOut_53 : decode cX2_spellOut 53 = .ok (.iconst 4, 1) := by decide +kernel
theorem dX2_spellOut_54 : decode cX2_spellOut 54 = .ok (.imul, 1) := by decide +kernel
theorem dX2_spellOut_55 : decode cX2_spellOut 55 = .ok (.aload_n 0, 1) := by decide +kernel
theorem dX2_spellOut_56 : decode cX2_spellOut 56 = .ok (.getfield 11, 3) := by decide +kernel
theorem dX2_spellOut_59 : decode cX2_spellOut 59 = .ok (.iload 4, 2) := by decide +kernel
theorem dX2_spellOut_61 : decode cX2_spellOut 61 = .ok (.iload 5, 2) := by decide +kernel
theorem dX2_spellOut_63 : decode cX2_spellOut 63 = .ok (.iadd, 1) := by decide +kernel
theorem dX2_spellOut_64 : decode cX2_spellOut 64 = .ok (.iaload, 1) := by decide +kernel
theorem dX2_spellOut_65 : decode cX2_spellOut 65 = .ok (.iastore, 1) := by decide +kernel
theorem dX2_spellOut_66 : decode cX2_spellOut 66 = .ok (.goto 88, 3) := by decide +kernel
theorem dX2_spellOut_69 : decode cX2_spellOut 69 = .ok (.aload_n 0, 1) := by decide +kernel
theorem dX2_spellOut_70 : decode cX2_spellOut 70 = .ok (.getfield 11, 3) := by decide +kernel
theorem dX2_spellOut_73 : decode cX2_spellOut 73 = .ok (.aload_n 1, 1) := by decide +kernel
theorem dX2_spellOut_74 : decode cX2_spellOut 74 = .ok (.getfield 61, 3) := by decide +kernel
theorem dX2_spellOut_77 : decode cX2_spellOut 77 = .ok (.iload_n 3, 1) := by decide +kernel
theorem dX2_spellOut_78 : decode cX2_spellOut 78 = .ok (.iaload, 1) := by decide +kernel
theorem dX2_spellOut_79 : decode cX2_spellOut 79 = .ok (.iconst 4, 1) := by decide +kernel
theorem dX2_spellOut_80 : decode cX2_spellOut 80 = .ok (.imul, 1) := by decide +kernel
theorem dX2_spellOut_81 : decode cX2_spellOut 81 = .ok (.iaload, 1) := by decide +kernel
theorem dX2_spellOut_82 : decode cX2_spellOut 82 = .ok (.istore 6, 2) := by decide +kernel
theorem dX2_spellOut_84 : decode cX2_spellOut 84 = .ok (.iconst 0, 1) := by decide +kernel
theorem dX2_spellOut_85 : decode cX2_spellOut 85 = .ok (.istore 7, 2) := by decide +kernel
theorem dX2_spellOut_87 : decode cX2_spellOut 87 = .ok (.iload 7, 2) := by decide +kernel
theorem dX2_spellOut_89 : decode cX2_spellOut 89 = .ok (.iconst 4, 1) := by decide +kernel
theorem dX2_spellOut_90 : decode cX2_spellOut 90 = .ok (.if_icmp .ge 64, 3) := by decide +kernel
theorem dX2_spellOut_93 : decode cX2_spellOut 93 = .ok (.iload 7, 2) := by decide +kernel
theorem dX2_spellOut_95 : decode cX2_spellOut 95 = .ok (.iconst 3, 1) := by decide +kernel
theorem dX2_spellOut_96 : decode cX2_spellOut 96 = .ok (.if_icmp .eq 18, 3) := by decide +kernel
theorem dX2_spellOut_99 : decode cX2_spellOut 99 = .ok (.iload_n 2, 1) := by decide +kernel
theorem dX2_spellOut_100 : decode cX2_spellOut 100 = .ok (.iload 7, 2) := by decide +kernel
theorem dX2_spellOut_102 : decode cX2_spellOut 102 = .ok (.invokestatic 54, 3) := by decide +kernel
theorem dX2_spellOut_105 : decode cX2_spellOut 105 = .ok (.iload 5, 2) := by decide +kernel
theorem dX2_spellOut_107 : decode cX2_spellOut 107 = .ok (.if_icmp .ne 7, 3) := by decide +kernel
theorem dX2_spellOut_110 : decode cX2_spellOut 110 = .ok (.iconst 1, 1) := by decide +kernel
theorem dX2_spellOut_111 : decode cX2_spellOut 111 = .ok (.goto 4, 3) := by decide +kernel
theorem dX2_spellOut_114 : decode cX2_spellOut 114 = .ok (.iconst 0, 1) := by decide +kernel
theorem dX2_spellOut_115 : decode cX2_spellOut 115 = .ok (.istore 8, 2) := by decide +kernel
theorem dX2_spellOut_117 : decode cX2_spellOut 117 = .ok (.aload_n 0, 1) := by decide +kernel
theorem dX2_spellOut_118 : decode cX2_spellOut 118 = .ok (.getfield 11, 3) := by decide +kernel
theorem dX2_spellOut_121 : decode cX2_spellOut 121 = .ok (.iload_n 3, 1) := by decide +kernel
theorem dX2_spellOut_122 : decode cX2_spellOut 122 = .ok (.iconst 4, 1) := by decide +kernel
theorem dX2_spellOut_123 : decode cX2_spellOut 123 = .ok (.imul, 1) := by decide +kernel
theorem dX2_spellOut_124 : decode cX2_spellOut 124 = .ok (.iload 7, 2) := by decide +kernel
theorem dX2_spellOut_126 : decode cX2_spellOut 126 = .ok (.iadd, 1) := by decide +kernel
theorem dX2_spellOut_127 : decode cX2_spellOut 127 = .ok (.iload 8, 2) := by decide +kernel
theorem dX2_spellOut_129 : decode cX2_spellOut 129 = .ok (.ifCond .eq 8, 3) := by decide +kernel
theorem dX2_spellOut_132 : decode cX2_spellOut 132 = .ok (.iload 6, 2) := by decide +kernel
theorem dX2_spellOut_134 : decode cX2_spellOut 134 = .ok (.goto 13, 3) := by decide +kernel
theorem dX2_spellOut_137 : decode cX2_spellOut 137 = .ok (.aload_n 0, 1) := by decide +kernel
theorem dX2_spellOut_138 : decode cX2_spellOut 138 = .ok (.getfield 11, 3) := by decide +kernel
theorem dX2_spellOut_141 : decode cX2_spellOut 141 = .ok (.iload 4, 2) := by decide +kernel
theorem dX2_spellOut_143 : decode cX2_spellOut 143 = .ok (.iload 7, 2) := by decide +kernel
theorem dX2_spellOut_145 : decode cX2_spellOut 145 = .ok (.iadd, 1) := by decide +kernel
theorem dX2_spellOut_146 : decode cX2_spellOut 146 = .ok (.iaload, 1) := by decide +kernel
theorem dX2_spellOut_147 : decode cX2_spellOut 147 = .ok (.iastore, 1) := by decide +kernel
theorem dX2_spellOut_148 : decode cX2_spellOut 148 = .ok (.iinc 7 1, 3) := by decide +kernel
theorem dX2_spellOut_151 : decode cX2_spellOut 151 = .ok (.goto (-64), 3) := by decide +kernel
theorem dX2_spellOut_154 : decode cX2_spellOut 154 = .ok (.iinc 3 1, 3) := by decide +kernel
theorem dX2_spellOut_157 : decode cX2_spellOut 157 = .ok (.goto (-149), 3) := by decide +kernel
theorem dX2_spellOut_160 : decode cX2_spellOut 160 = .ok (.return_, 1) := by decide +kernel
theorem dX2_spellOutNames_0 : decode cX2_spellOutNames 0 = .ok (.iconst 0, 1) := by decide +kernel
theorem dX2_spellOutNames_1 : decode cX2_spellOutNames 1 = .ok (.istore_n 2, 1) := by decide +kernel
theorem dX2_spellOutNames_2 : decode cX2_spellOutNames 2 = .ok (.iload_n 2, 1) := by decide +kernel
theorem dX2_spellOutNames_3 : decode cX2_spellOutNames 3 = .ok (.iconst 3, 1) := by decide +kernel
theorem dX2_spellOutNames_4 : decode cX2_spellOutNames 4 = .ok (.if_icmp .ge 22, 3) := by decide +kernel
theorem dX2_spellOutNames_7 : decode cX2_spellOutNames 7 = .ok (.aload_n 0, 1) := by decide +kernel
theorem dX2_spellOutNames_8 : decode cX2_spellOutNames 8 = .ok (.getfield 11, 3) := by decide +kernel
theorem dX2_spellOutNames_11 : decode cX2_spellOutNames 11 = .ok (.iload_n 2, 1) := by decide +kernel
theorem dX2_spellOutNames_12 : decode cX2_spellOutNames 12 = .ok (.iconst 4, 1) := by decide +kernel
theorem dX2_spellOutNames_13 : decode cX2_spellOutNames 13 = .ok (.imul, 1) := by decide +kernel
theorem dX2_spellOutNames_14 : decode cX2_spellOutNames 14 = .ok (.iload_n 1, 1) := by decide +kernel
theorem dX2_spellOutNames_15 : decode cX2_spellOutNames 15 = .ok (.iload_n 2, 1) := by decide +kernel
theorem dX2_spellOutNames_16 : decode cX2_spellOutNames 16 = .ok (.invokestatic 54, 3) := by decide +kernel
theorem dX2_spellOutNames_19 : decode cX2_spellOutNames 19 = .ok (.iastore, 1) := by decide +kernel
theorem dX2_spellOutNames_20 : decode cX2_spellOutNames 20 = .ok (.iinc 2 1, 3) := by decide +kernel
theorem dX2_spellOutNames_23 : decode cX2_spellOutNames 23 = .ok (.goto (-21), 3) := by decide +kernel
theorem dX2_spellOutNames_26 : decode cX2_spellOutNames 26 = .ok (.iconst 0, 1) := by decide +kernel
theorem dX2_spellOutNames_27 : decode cX2_spellOutNames 27 = .ok (.istore_n 2, 1) := by decide +kernel
theorem dX2_spellOutNames_28 : decode cX2_spellOutNames 28 = .ok (.iload_n 2, 1) := by decide +kernel
theorem dX2_spellOutNames_29 : decode cX2_spellOutNames 29 = .ok (.iconst 2, 1) := by decide +kernel
theorem dX2_spellOutNames_30 : decode cX2_spellOutNames 30 = .ok (.if_icmp .ge 20, 3) := by decide +kernel
theorem dX2_spellOutNames_33 : decode cX2_spellOutNames 33 = .ok (.aload_n 0, 1) := by decide +kernel
theorem dX2_spellOutNames_34 : decode cX2_spellOutNames 34 = .ok (.getfield 11, 3) := by decide +kernel
theorem dX2_spellOutNames_37 : decode cX2_spellOutNames 37 = .ok (.iconst 3, 1) := by decide +kernel
theorem dX2_spellOutNames_38 : decode cX2_spellOutNames 38 = .ok (.iload_n 2, 1) := by decide +kernel
theorem dX2_spellOutNames_39 : decode cX2_spellOutNames 39 = .ok (.iadd, 1) := by decide +kernel
theorem dX2_spellOutNames_40 : decode cX2_spellOutNames 40 = .ok (.iconst 4, 1) := by decide +kernel
theorem dX2_spellOutNames_41 : decode cX2_spellOutNames 41 = .ok (.imul, 1) := by decide +kernel
theorem dX2_spellOutNames_42 : decode cX2_spellOutNames 42 = .ok (.iload_n 2, 1) := by decide +kernel
theorem dX2_spellOutNames_43 : decode cX2_spellOutNames 43 = .ok (.iastore, 1) := by decide +kernel
theorem dX2_spellOutNames_44 : decode cX2_spellOutNames 44 = .ok (.iinc 2 1, 3) := by decide +kernel
theorem dX2_spellOutNames_47 : decode cX2_spellOutNames 47 = .ok (.goto (-19), 3) := by decide +kernel
theorem dX2_spellOutNames_50 : decode cX2_spellOutNames 50 = .ok (.iconst 0, 1) := by decide +kernel
theorem dX2_spellOutNames_51 : decode cX2_spellOutNames 51 = .ok (.istore_n 2, 1) := by decide +kernel
theorem dX2_spellOutNames_52 : decode cX2_spellOutNames 52 = .ok (.iload_n 2, 1) := by decide +kernel
theorem dX2_spellOutNames_53 : decode cX2_spellOutNames 53 = .ok (.iconst 2, 1) := by decide +kernel
theorem dX2_spellOutNames_54 : decode cX2_spellOutNames 54 = .ok (.if_icmp .ge 65, 3) := by decide +kernel
theorem dX2_spellOutNames_57 : decode cX2_spellOutNames 57 = .ok (.iconst 2, 1) := by decide +kernel
theorem dX2_spellOutNames_58 : decode cX2_spellOutNames 58 = .ok (.iload_n 2, 1) := by decide +kernel
theorem dX2_spellOutNames_59 : decode cX2_spellOutNames 59 = .ok (.iconst 4, 1) := by decide +kernel
theorem dX2_spellOutNames_60 : decode cX2_spellOutNames 60 = .ok (.imul, 1) := by decide +kernel
theorem dX2_spellOutNames_61 : decode cX2_spellOutNames 61 = .ok (.iadd, 1) := by decide +kernel
theorem dX2_spellOutNames_62 : decode cX2_spellOutNames 62 = .ok (.istore_n 3, 1) := by decide +kernel
theorem dX2_spellOutNames_63 : decode cX2_spellOutNames 63 = .ok (.iconst 0, 1) := by decide +kernel
theorem dX2_spellOutNames_64 : decode cX2_spellOutNames 64 = .ok (.istore 4, 2) := by decide +kernel
theorem dX2_spellOutNames_66 : decode cX2_spellOutNames 66 = .ok (.iload 4, 2) := by decide +kernel
theorem dX2_spellOutNames_68 : decode cX2_spellOutNames 68 = .ok (.iconst 4, 1) := by decide +kernel
theorem dX2_spellOutNames_69 : decode cX2_spellOutNames 69 = .ok (.if_icmp .ge 44, 3) := by decide +kernel
theorem dX2_spellOutNames_72 : decode cX2_spellOutNames 72 = .ok (.iload 4, 2) := by decide +kernel
theorem dX2_spellOutNames_74 : decode cX2_spellOutNames 74 = .ok (.iconst 3, 1) := by decide +kernel
theorem dX2_spellOutNames_75 : decode cX2_spellOutNames 75 = .ok (.if_icmp .ne 7, 3) := by decide +kernel
theorem dX2_spellOutNames_78 : decode cX2_spellOutNames 78 = .ok (.iconst 3, 1) := by decide +kernel
theorem dX2_spellOutNames_79 : decode cX2_spellOutNames 79 = .ok (.goto 9, 3) := by decide +kernel
theorem dX2_spellOutNames_82 : decode cX2_spellOutNames 82 = .ok (.iload_n 1, 1) := by decide +kernel
theorem dX2_spellOutNames_83 : decode cX2_spellOutNames 83 = .ok (.iload 4, 2) := by decide +kernel
theorem dX2_spellOutNames_85 : decode cX2_spellOutNames 85 = .ok (.invokestatic 54, 3) := by decide +kernel
theorem dX2_spellOutNames_88 : decode cX2_spellOutNames 88 = .ok (.istore 5, 2) := by decide +kernel
theorem dX2_spellOutNames_90 : decode cX2_spellOutNames 90 = .ok (.aload_n 0, 1) := by decide +kernel
theorem dX2_spellOutNames_91 : decode cX2_spellOutNames 91 = .ok (.getfield 11, 3) := by decide +kernel
theorem dX2_spellOutNames_94 : decode cX2_spellOutNames 94 = .ok (.iconst 5, 1) := by decide +kernel
theorem dX2_spellOutNames_95 : decode cX2_spellOutNames 95 = .ok (.iload_n 2, 1) := by decide +kernel
theorem dX2_spellOutNames_96 : decode cX2_spellOutNames 96 = .ok (.iadd, 1) := by decide +kernel
theorem dX2_spellOutNames_97 : decode cX2_spellOutNames 97 = .ok (.iconst 4, 1) := by decide +kernel
theorem dX2_spellOutNames_98 : decode cX2_spellOutNames 98 = .ok (.imul, 1) := by decide +kernel
theorem dX2_spellOutNames_99 : decode cX2_spellOutNames 99 = .ok (.iload 4, 2) := by decide +kernel
theorem dX2_spellOutNames_101 : decode cX2_spellOutNames 101 = .ok (.iadd, 1) := by decide +kernel
theorem dX2_spellOutNames_102 : decode cX2_spellOutNames 102 = .ok (.iload_n 3, 1) := by decide +kernel
theorem dX2_spellOutNames_103 : decode cX2_spellOutNames 103 = .ok (.iload 5, 2) := by decide +kernel
theorem dX2_spellOutNames_105 : decode cX2_spellOutNames 105 = .ok (.iadd, 1) := by decide +kernel
theorem dX2_spellOutNames_106 : decode cX2_spellOutNames 106 = .ok (.iastore, 1) := by decide +kernel
theorem dX2_spellOutNames_107 : decode cX2_spellOutNames 107 = .ok (.iinc 4 1, 3) := by decide +kernel
theorem dX2_spellOutNames_110 : decode cX2_spellOutNames 110 = .ok (.goto (-44), 3) := by decide +kernel
theorem dX2_spellOutNames_113 : decode cX2_spellOutNames 113 = .ok (.iinc 2 1, 3) := by decide +kernel
theorem dX2_spellOutNames_116 : decode cX2_spellOutNames 116 = .ok (.goto (-64), 3) := by decide +kernel
theorem dX2_spellOutNames_119 : decode cX2_spellOutNames 119 = .ok (.return_, 1) := by decide +kernel
theorem dX2_completes_0 : decode cX2_completes 0 = .ok (.iconst (-1), 1) := by decide +kernel
theorem dX2_completes_1 : decode cX2_completes 1 = .ok (.istore 5, 2) := by decide +kernel
theorem dX2_completes_3 : decode cX2_completes 3 = .ok (.aload_n 2, 1) := by decide +kernel
theorem dX2_completes_4 : decode cX2_completes 4 = .ok (.getfield 64, 3) := by decide +kernel
theorem dX2_completes_7 : decode cX2_completes 7 = .ok (.iconst 1, 1) := by decide +kernel
theorem dX2_completes_8 : decode cX2_completes 8 = .ok (.isub, 1) := by decide +kernel
theorem dX2_completes_9 : decode cX2_completes 9 = .ok (.istore 6, 2) := by decide +kernel
theorem dX2_completes_11 : decode cX2_completes 11 = .ok (.iload 6, 2) := by decide +kernel
theorem dX2_completes_13 : decode cX2_completes 13 = .ok (.ifCond .lt 36, 3) := by decide +kernel
theorem dX2_completes_16 : decode cX2_completes 16 = .ok (.aload_n 0, 1) := by decide +kernel
theorem dX2_completes_17 : decode cX2_completes 17 = .ok (.aload_n 1, 1) := by decide +kernel
theorem dX2_completes_18 : decode cX2_completes 18 = .ok (.aload_n 2, 1) := by decide +kernel
theorem dX2_completes_19 : decode cX2_completes 19 = .ok (.iload 6, 2) := by decide +kernel
theorem dX2_completes_21 : decode cX2_completes 21 = .ok (.invokevirtual 67, 3) := by decide +kernel
theorem dX2_completes_24 : decode cX2_completes 24 = .ok (.istore 7, 2) := by decide +kernel
theorem dX2_completes_26 : decode cX2_completes 26 = .ok (.iload 7, 2) := by decide +kernel
theorem dX2_completes_28 : decode cX2_completes 28 = .ok (.ifCond .ne 5, 3) := by decide +kernel
theorem dX2_completes_31 : decode cX2_completes 31 = .ok (.iconst 0, 1) := by decide +kernel
theorem dX2_completes_32 : decode cX2_completes 32 = .ok (.ireturn, 1) := by decide +kernel
theorem dX2_completes_33 : decode cX2_completes 33 = .ok (.iload 7, 2) := by decide +kernel
theorem dX2_completes_35 : decode cX2_completes 35 = .ok (.iconst 2, 1) := by decide +kernel
theorem dX2_completes_36 : decode cX2_completes 36 = .ok (.if_icmp .ne 7, 3) := by decide +kernel
theorem dX2_completes_39 : decode cX2_completes 39 = .ok (.iload 6, 2) := by decide +kernel
theorem dX2_completes_41 : decode cX2_completes 41 = .ok (.istore 5, 2) := by decide +kernel
theorem dX2_completes_43 : decode cX2_completes 43 = .ok (.iinc 6 (-1), 3) := by decide +kernel
theorem dX2_completes_46 : decode cX2_completes 46 = .ok (.goto (-35), 3) := by decide +kernel
theorem dX2_completes_49 : decode cX2_completes 49 = .ok (.iload 5, 2) := by decide +kernel
theorem dX2_completes_51 : decode cX2_completes 51 = .ok (.iconst (-1), 1) := by decide +kernel
theorem dX2_completes_52 : decode cX2_completes 52 = .ok (.if_icmp .ne 5, 3) := by decide +kernel
theorem dX2_completes_55 : decode cX2_completes 55 = .ok (.iconst 1, 1) := by decide +kernel
theorem dX2_completes_56 : decode cX2_completes 56 = .ok (.ireturn, 1) := by decide +kernel
theorem dX2_completes_57 : decode cX2_completes 57 = .ok (.aload_n 0, 1) := by decide +kernel
theorem dX2_completes_58 : decode cX2_completes 58 = .ok (.aload_n 1, 1) := by decide +kernel
theorem dX2_completes_59 : decode cX2_completes 59 = .ok (.aload_n 2, 1) := by decide +kernel
theorem dX2_completes_60 : decode cX2_completes 60 = .ok (.iload 5, 2) := by decide +kernel
theorem dX2_completes_62 : decode cX2_completes 62 = .ok (.invokevirtual 71, 3) := by decide +kernel
theorem dX2_completes_65 : decode cX2_completes 65 = .ok (.istore 6, 2) := by decide +kernel
theorem dX2_completes_67 : decode cX2_completes 67 = .ok (.iload 6, 2) := by decide +kernel
theorem dX2_completes_69 : decode cX2_completes 69 = .ok (.iconst (-1), 1) := by decide +kernel
theorem dX2_completes_70 : decode cX2_completes 70 = .ok (.if_icmp .eq 10, 3) := by decide +kernel
theorem dX2_completes_73 : decode cX2_completes 73 = .ok (.iload 4, 2) := by decide +kernel
theorem dX2_completes_75 : decode cX2_completes 75 = .ok (.bipush 10, 2) := by decide +kernel
theorem dX2_completes_77 : decode cX2_completes 77 = .ok (.if_icmp .le 5, 3) := by decide +kernel
theorem dX2_completes_80 : decode cX2_completes 80 = .ok (.iconst 0, 1) := by decide +kernel
theorem dX2_completes_81 : decode cX2_completes 81 = .ok (.ireturn, 1) := by decide +kernel
theorem dX2_completes_82 : decode cX2_completes 82 = .ok (.iload 6, 2) := by decide +kernel
theorem dX2_completes_84 : decode cX2_completes 84 = .ok (.bipush 9, 2) := by decide +kernel
theorem dX2_completes_86 : decode cX2_completes 86 = .ok (.if_icmp .ne 7, 3) := by decide +kernel
theorem dX2_completes_89 : decode cX2_completes 89 = .ok (.iconst 0, 1) := by decide +kernel
theorem dX2_completes_90 : decode cX2_completes 90 = .ok (.goto 4, 3) := by decide +kernel
theorem dX2_completes_93 : decode cX2_completes 93 = .ok (.iconst 2, 1) := by decide +kernel
theorem dX2_completes_94 : decode cX2_completes 94 = .ok (.istore 7, 2) := by decide +kernel
theorem dX2_completes_96 : decode cX2_completes 96 = .ok (.iload 6, 2) := by decide +kernel
theorem dX2_completes_98 : decode cX2_completes 98 = .ok (.bipush 9, 2) := by decide +kernel
theorem dX2_completes_100 : decode cX2_completes 100 = .ok (.if_icmp .ne 7, 3) := by decide +kernel
theorem dX2_completes_103 : decode cX2_completes 103 = .ok (.iconst 1, 1) := by decide +kernel
theorem dX2_completes_104 : decode cX2_completes 104 = .ok (.goto 4, 3) := by decide +kernel
theorem dX2_completes_107 : decode cX2_completes 107 = .ok (.iload_n 3, 1) := by decide +kernel
theorem dX2_completes_108 : decode cX2_completes 108 = .ok (.istore 8, 2) := by decide +kernel
theorem dX2_completes_110 : decode cX2_completes 110 = .ok (.iload 7, 2) := by decide +kernel
theorem dX2_completes_112 : decode cX2_completes 112 = .ok (.istore 9, 2) := by decide +kernel
theorem dX2_completes_114 : decode cX2_completes 114 = .ok (.iload 9, 2) := by decide +kernel
theorem dX2_completes_116 : decode cX2_completes 116 = .ok (.iload 8, 2) := by decide +kernel
theorem dX2_completes_118 : decode cX2_completes 118 = .ok (.if_icmp .gt 46, 3) := by decide +kernel
theorem dX2_completes_121 : decode cX2_completes 121 = .ok (.aload_n 0, 1) := by decide +kernel
theorem dX2_completes_122 : decode cX2_completes 122 = .ok (.getfield 15, 3) := by decide +kernel
theorem dX2_completes_125 : decode cX2_completes 125 = .ok (.iload 6, 2) := by decide +kernel
theorem dX2_completes_127 : decode cX2_completes 127 = .ok (.iload 9, 2) := by decide +kernel
theorem dX2_completes_129 : decode cX2_completes 129 = .ok (.iastore, 1) := by decide +kernel
theorem dX2_completes_130 : decode cX2_completes 130 = .ok (.aload_n 0, 1) := by decide +kernel
theorem dX2_completes_131 : decode cX2_completes 131 = .ok (.aload_n 1, 1) := by decide +kernel
theorem dX2_completes_132 : decode cX2_completes 132 = .ok (.aload_n 2, 1) := by decide +kernel
theorem dX2_completes_133 : decode cX2_completes 133 = .ok (.iload 9, 2) := by decide +kernel
theorem dX2_completes_135 : decode cX2_completes 135 = .ok (.iload_n 3, 1) := by decide +kernel
theorem dX2_completes_136 : decode cX2_completes 136 = .ok (.if_icmp .ne 9, 3) := by decide +kernel
theorem dX2_completes_139 : decode cX2_completes 139 = .ok (.iload_n 3, 1) := by decide +kernel
theorem dX2_completes_140 : decode cX2_completes 140 = .ok (.iconst 1, 1) := by decide +kernel
theorem dX2_completes_141 : decode cX2_completes 141 = .ok (.iadd, 1) := by decide +kernel
theorem dX2_completes_142 : decode cX2_completes 142 = .ok (.goto 4, 3) := by decide +kernel
theorem dX2_completes_145 : decode cX2_completes 145 = .ok (.iload_n 3, 1) := by decide +kernel
theorem dX2_completes_146 : decode cX2_completes 146 = .ok (.iload 4, 2) := by decide +kernel
theorem dX2_completes_148 : decode cX2_completes 148 = .ok (.iconst 1, 1) := by decide +kernel
theorem dX2_completes_149 : decode cX2_completes 149 = .ok (.iadd, 1) := by decide +kernel
theorem dX2_completes_150 : decode cX2_completes 150 = .ok (.invokevirtual 31, 3) := by decide +kernel
theorem dX2_completes_153 : decode cX2_completes 153 = .ok (.ifCond .eq 5, 3) := by decide +kernel
theorem dX2_completes_156 : decode cX2_completes 156 = .ok (.iconst 1, 1) := by decide +kernel
theorem dX2_completes_157 : decode cX2_completes 157 = .ok (.ireturn, 1) := by decide +kernel
theorem dX2_completes_158 : decode cX2_completes 158 = .ok (.iinc 9 1, 3) := by decide +kernel
theorem dX2_completes_161 : decode cX2_completes 161 = .ok (.goto (-47), 3) := by decide +kernel
theorem dX2_completes_164 : decode cX2_completes 164 = .ok (.aload_n 0, 1) := by decide +kernel
theorem dX2_completes_165 : decode cX2_completes 165 = .ok (.getfield 15, 3) := by decide +kernel
theorem dX2_completes_168 : decode cX2_completes 168 = .ok (.iload 6, 2) := by decide +kernel
theorem dX2_completes_170 : decode cX2_completes 170 = .ok (.iconst (-1), 1) := by decide +kernel
theorem dX2_completes_171 : decode cX2_completes 171 = .ok (.iastore, 1) := by decide +kernel
theorem dX2_completes_172 : decode cX2_completes 172 = .ok (.iconst 0, 1) := by decide +kernel
theorem dX2_completes_173 : decode cX2_completes 173 = .ok (.ireturn, 1) := by decide +kernel
theorem dX2_holding_0 : decode cX2_holding 0 = .ok (.iconst 0, 1) := by decide +kernel
theorem dX2_holding_1 : decode cX2_holding 1 = .ok (.istore 4, 2) := by decide +kernel
theorem dX2_holding_3 : decode cX2_holding 3 = .ok (.iconst 0, 1) := by decide +kernel
theorem dX2_holding_4 : decode cX2_holding 4 = .ok (.istore 5, 2) := by decide +kernel
theorem dX2_holding_6 : decode cX2_holding 6 = .ok (.iload 5, 2) := by decide +kernel
theorem dX2_holding_8 : decode cX2_holding 8 = .ok (.aload_n 2, 1) := by decide +kernel
theorem dX2_holding_9 : decode cX2_holding 9 = .ok (.iload_n 3, 1) := by decide +kernel
theorem dX2_holding_10 : decode cX2_holding 10 = .ok (.invokevirtual 74, 3) := by decide +kernel
theorem dX2_holding_13 : decode cX2_holding 13 = .ok (.if_icmp .ge 40, 3) := by decide +kernel
theorem dX2_holding_16 : decode cX2_holding 16 = .ok (.aload_n 0, 1) := by decide +kernel
theorem dX2_holding_17 : decode cX2_holding 17 = .ok (.aload_n 1, 1) := by decide +kernel
theorem dX2_holding_18 : decode cX2_holding 18 = .ok (.aload_n 2, 1) := by decide +kernel
theorem dX2_holding_19 : decode cX2_holding 19 = .ok (.iload_n 3, 1) := by decide +kernel
theorem dX2_holding_20 : decode cX2_holding 20 = .ok (.iload 5, 2) := by decide +kernel
theorem dX2_holding_22 : decode cX2_holding 22 = .ok (.invokevirtual 78, 3) := by decide +kernel
theorem dX2_holding_25 : decode cX2_holding 25 = .ok (.invokevirtual 81, 3) := by decide +kernel
theorem dX2_holding_28 : decode cX2_holding 28 = .ok (.istore 6, 2) := by decide +kernel
theorem dX2_holding_30 : decode cX2_holding 30 = .ok (.iload 6, 2) := by decide +kernel
theorem dX2_holding_32 : decode cX2_holding 32 = .ok (.iconst 1, 1) := by decide +kernel
theorem dX2_holding_33 : decode cX2_holding 33 = .ok (.if_icmp .ne 5, 3) := by decide +kernel
theorem dX2_holding_36 : decode cX2_holding 36 = .ok (.iconst 1, 1) := by decide +kernel
theorem dX2_holding_37 : decode cX2_holding 37 = .ok (.ireturn, 1) := by decide +kernel
theorem dX2_holding_38 : decode cX2_holding 38 = .ok (.iload 6, 2) := by decide +kernel
theorem dX2_holding_40 : decode cX2_holding 40 = .ok (.iconst 2, 1) := by decide +kernel
theorem dX2_holding_41 : decode cX2_holding 41 = .ok (.if_icmp .ne 6, 3) := by decide +kernel
theorem dX2_holding_44 : decode cX2_holding 44 = .ok (.iconst 2, 1) := by decide +kernel
theorem dX2_holding_45 : decode cX2_holding 45 = .ok (.istore 4, 2) := by decide +kernel
theorem dX2_holding_47 : decode cX2_holding 47 = .ok (.iinc 5 1, 3) := by decide +kernel
theorem dX2_holding_50 : decode cX2_holding 50 = .ok (.goto (-44), 3) := by decide +kernel
theorem dX2_holding_53 : decode cX2_holding 53 = .ok (.iload 4, 2) := by decide +kernel
theorem dX2_holding_55 : decode cX2_holding 55 = .ok (.ireturn, 1) := by decide +kernel
theorem dX2_rightness_0 : decode cX2_rightness 0 = .ok (.iload_n 2, 1) := by decide +kernel
theorem dX2_rightness_1 : decode cX2_rightness 1 = .ok (.invokestatic 85, 3) := by decide +kernel
theorem dX2_rightness_4 : decode cX2_rightness 4 = .ok (.istore_n 3, 1) := by decide +kernel
theorem dX2_rightness_5 : decode cX2_rightness 5 = .ok (.iload_n 2, 1) := by decide +kernel
theorem dX2_rightness_6 : decode cX2_rightness 6 = .ok (.invokestatic 90, 3) := by decide +kernel
theorem dX2_rightness_9 : decode cX2_rightness 9 = .ok (.istore 4, 2) := by decide +kernel
theorem dX2_rightness_11 : decode cX2_rightness 11 = .ok (.iconst 1, 1) := by decide +kernel
theorem dX2_rightness_12 : decode cX2_rightness 12 = .ok (.istore 5, 2) := by decide +kernel
theorem dX2_rightness_14 : decode cX2_rightness 14 = .ok (.iconst 0, 1) := by decide +kernel
theorem dX2_rightness_15 : decode cX2_rightness 15 = .ok (.istore 6, 2) := by decide +kernel
theorem dX2_rightness_17 : decode cX2_rightness 17 = .ok (.iload 6, 2) := by decide +kernel
theorem dX2_rightness_19 : decode cX2_rightness 19 = .ok (.aload_n 1, 1) := by decide +kernel
theorem dX2_rightness_20 : decode cX2_rightness 20 = .ok (.getfield 58, 3) := by decide +kernel
theorem dX2_rightness_23 : decode cX2_rightness 23 = .ok (.iload_n 3, 1) := by decide +kernel
theorem dX2_rightness_24 : decode cX2_rightness 24 = .ok (.iaload, 1) := by decide +kernel
theorem dX2_rightness_25 : decode cX2_rightness 25 = .ok (.invokestatic 93, 3) := by decide +kernel
theorem dX2_rightness_28 : decode cX2_rightness 28 = .ok (.if_icmp .ge 59, 3) := by decide +kernel
theorem dX2_rightness_31 : decode cX2_rightness 31 = .ok (.iload 5, 2) := by decide +kernel
theorem dX2_rightness_33 : decode cX2_rightness 33 = .ok (.ifCond .eq 54, 3) := by decide +kernel
theorem dX2_rightness_36 : decode cX2_rightness 36 = .ok (.aload_n 0, 1) := by decide +kernel
theorem dX2_rightness_37 : decode cX2_rightness 37 = .ok (.aload_n 1, 1) := by decide +kernel
theorem dX2_rightness_38 : decode cX2_rightness 38 = .ok (.getfield 58, 3) := by decide +kernel
theorem dX2_rightness_41 : decode cX2_rightness 41 = .ok (.iload_n 3, 1) := by decide +kernel
theorem dX2_rightness_42 : decode cX2_rightness 42 = .ok (.iaload, 1) := by decide +kernel
theorem dX2_rightness_43 : decode cX2_rightness 43 = .ok (.aload_n 0, 1) := by decide +kernel
theorem dX2_rightness_44 : decode cX2_rightness 44 = .ok (.getfield 11, 3) := by decide +kernel
theorem dX2_rightness_47 : decode cX2_rightness 47 = .ok (.iload_n 3, 1) := by decide +kernel
theorem dX2_rightness_48 : decode cX2_rightness 48 = .ok (.iconst 4, 1) := by decide +kernel
theorem dX2_rightness_49 : decode cX2_rightness 49 = .ok (.imul, 1) := by decide +kernel
theorem dX2_rightness_50 : decode cX2_rightness 50 = .ok (.iload 6, 2) := by decide +kernel
theorem dX2_rightness_52 : decode cX2_rightness 52 = .ok (.iadd, 1) := by decide +kernel
theorem dX2_rightness_53 : decode cX2_rightness 53 = .ok (.iaload, 1) := by decide +kernel
theorem dX2_rightness_54 : decode cX2_rightness 54 = .ok (.aload_n 0, 1) := by decide +kernel
theorem dX2_rightness_55 : decode cX2_rightness 55 = .ok (.getfield 11, 3) := by decide +kernel
theorem dX2_rightness_58 : decode cX2_rightness 58 = .ok (.iload 4, 2) := by decide +kernel
theorem dX2_rightness_60 : decode cX2_rightness 60 = .ok (.iconst 4, 1) := by decide +kernel
theorem dX2_rightness_61 : decode cX2_rightness 61 = .ok (.imul, 1) := by decide +kernel
theorem dX2_rightness_62 : decode cX2_rightness 62 = .ok (.iload 6, 2) := by decide +kernel
theorem dX2_rightness_64 : decode cX2_rightness 64 = .ok (.iadd, 1) := by decide +kernel
theorem dX2_rightness_65 : decode cX2_rightness 65 = .ok (.iaload, 1) := by decide +kernel
theorem dX2_rightness_66 : decode cX2_rightness 66 = .ok (.invokevirtual 96, 3) := by decide +kernel
theorem dX2_rightness_69 : decode cX2_rightness 69 = .ok (.istore 7, 2) := by decide +kernel
theorem dX2_rightness_71 : decode cX2_rightness 71 = .ok (.iload 7, 2) := by decide +kernel
theorem dX2_rightness_73 : decode cX2_rightness 73 = .ok (.iconst 1, 1) := by decide +kernel
theorem dX2_rightness_74 : decode cX2_rightness 74 = .ok (.if_icmp .eq 7, 3) := by decide +kernel
theorem dX2_rightness_77 : decode cX2_rightness 77 = .ok (.iload 7, 2) := by decide +kernel
theorem dX2_rightness_79 : decode cX2_rightness 79 = .ok (.istore 5, 2) := by decide +kernel
theorem dX2_rightness_81 : decode cX2_rightness 81 = .ok (.iinc 6 1, 3) := by decide +kernel
theorem dX2_rightness_84 : decode cX2_rightness 84 = .ok (.goto (-67), 3) := by decide +kernel
theorem dX2_rightness_87 : decode cX2_rightness 87 = .ok (.iload 5, 2) := by decide +kernel
theorem dX2_rightness_89 : decode cX2_rightness 89 = .ok (.iconst 2, 1) := by decide +kernel
theorem dX2_rightness_90 : decode cX2_rightness 90 = .ok (.if_icmp .eq 10, 3) := by decide +kernel
theorem dX2_rightness_93 : decode cX2_rightness 93 = .ok (.iload_n 2, 1) := by decide +kernel
theorem dX2_rightness_94 : decode cX2_rightness 94 = .ok (.invokestatic 100, 3) := by decide +kernel
theorem dX2_rightness_97 : decode cX2_rightness 97 = .ok (.ifCond .eq 6, 3) := by decide +kernel
theorem dX2_rightness_100 : decode cX2_rightness 100 = .ok (.iload 5, 2) := by decide +kernel
theorem dX2_rightness_102 : decode cX2_rightness 102 = .ok (.ireturn, 1) := by decide +kernel
theorem dX2_rightness_103 : decode cX2_rightness 103 = .ok (.iload 5, 2) := by decide +kernel
theorem dX2_rightness_105 : decode cX2_rightness 105 = .ok (.iconst 1, 1) := by decide +kernel
theorem dX2_rightness_106 : decode cX2_rightness 106 = .ok (.if_icmp .ne 7, 3) := by decide +kernel
theorem dX2_rightness_109 : decode cX2_rightness 109 = .ok (.iconst 0, 1) := by decide +kernel
theorem dX2_rightness_110 : decode cX2_rightness 110 = .ok (.goto 4, 3) := by decide +kernel
theorem dX2_rightness_113 : decode cX2_rightness 113 = .ok (.iconst 1, 1) := by decide +kernel
theorem dX2_rightness_114 : decode cX2_rightness 114 = .ok (.ireturn, 1) := by decide +kernel
theorem dX2_width_0 : decode cX2_width 0 = .ok (.iload_n 0, 1) := by decide +kernel
theorem dX2_width_1 : decode cX2_width 1 = .ok (.iconst 2, 1) := by decide +kernel
theorem dX2_width_2 : decode cX2_width 2 = .ok (.if_icmp .ne 7, 3) := by decide +kernel
theorem dX2_width_5 : decode cX2_width 5 = .ok (.iconst 4, 1) := by decide +kernel
theorem dX2_width_6 : decode cX2_width 6 = .ok (.goto 4, 3) := by decide +kernel
theorem dX2_width_9 : decode cX2_width 9 = .ok (.iconst 1, 1) := by decide +kernel
theorem dX2_width_10 : decode cX2_width 10 = .ok (.ireturn, 1) := by decide +kernel
theorem dX2_partLikeness_0 : decode cX2_partLikeness 0 = .ok (.iload_n 2, 1) := by decide +kernel
theorem dX2_partLikeness_1 : decode cX2_partLikeness 1 = .ok (.iload_n 3, 1) := by decide +kernel
theorem dX2_partLikeness_2 : decode cX2_partLikeness 2 = .ok (.if_icmp .ne 5, 3) := by decide +kernel
theorem dX2_partLikeness_5 : decode cX2_partLikeness 5 = .ok (.iconst 1, 1) := by decide +kernel
theorem dX2_partLikeness_6 : decode cX2_partLikeness 6 = .ok (.ireturn, 1) := by decide +kernel
theorem dX2_partLikeness_7 : decode cX2_partLikeness 7 = .ok (.iload_n 1, 1) := by decide +kernel
theorem dX2_partLikeness_8 : decode cX2_partLikeness 8 = .ok (.ifCond .ne 5, 3) := by decide +kernel
theorem dX2_partLikeness_11 : decode cX2_partLikeness 11 = .ok (.iconst 0, 1) := by decide +kernel
theorem dX2_partLikeness_12 : decode cX2_partLikeness 12 = .ok (.ireturn, 1) := by decide +kernel
theorem dX2_partLikeness_13 : decode cX2_partLikeness 13 = .ok (.aload_n 0, 1) := by decide +kernel
theorem dX2_partLikeness_14 : decode cX2_partLikeness 14 = .ok (.getfield 15, 3) := by decide +kernel
theorem dX2_partLikeness_17 : decode cX2_partLikeness 17 = .ok (.iload_n 2, 1) := by decide +kernel
theorem dX2_partLikeness_18 : decode cX2_partLikeness 18 = .ok (.iaload, 1) := by decide +kernel
theorem dX2_partLikeness_19 : decode cX2_partLikeness 19 = .ok (.iconst (-1), 1) := by decide +kernel
theorem dX2_partLikeness_20 : decode cX2_partLikeness 20 = .ok (.if_icmp .eq 13, 3) := by decide +kernel
theorem dX2_partLikeness_23 : decode cX2_partLikeness 23 = .ok (.aload_n 0, 1) := by decide +kernel
theorem dX2_partLikeness_24 : decode cX2_partLikeness 24 = .ok (.getfield 15, 3) := by decide +kernel
theorem dX2_partLikeness_27 : decode cX2_partLikeness 27 = .ok (.iload_n 3, 1) := by decide +kernel
theorem dX2_partLikeness_28 : decode cX2_partLikeness 28 = .ok (.iaload, 1) := by decide +kernel
theorem dX2_partLikeness_29 : decode cX2_partLikeness 29 = .ok (.iconst (-1), 1) := by decide +kernel
theorem dX2_partLikeness_30 : decode cX2_partLikeness 30 = .ok (.if_icmp .ne 5, 3) := by decide +kernel
theorem dX2_partLikeness_33 : decode cX2_partLikeness 33 = .ok (.iconst 2, 1) := by decide +kernel
theorem dX2_partLikeness_34 : decode cX2_partLikeness 34 = .ok (.ireturn, 1) := by decide +kernel
theorem dX2_partLikeness_35 : decode cX2_partLikeness 35 = .ok (.aload_n 0, 1) := by decide +kernel
theorem dX2_partLikeness_36 : decode cX2_partLikeness 36 = .ok (.getfield 15, 3) := by decide +kernel
theorem dX2_partLikeness_39 : decode cX2_partLikeness 39 = .ok (.iload_n 2, 1) := by decide +kernel
theorem dX2_partLikeness_40 : decode cX2_partLikeness 40 = .ok (.iaload, 1) := by decide +kernel
theorem dX2_partLikeness_41 : decode cX2_partLikeness 41 = .ok (.aload_n 0, 1) := by decide +kernel
theorem dX2_partLikeness_42 : decode cX2_partLikeness 42 = .ok (.getfield 15, 3) := by decide +kernel
theorem dX2_partLikeness_45 : decode cX2_partLikeness 45 = .ok (.iload_n 3, 1) := by decide +kernel
theorem dX2_partLikeness_46 : decode cX2_partLikeness 46 = .ok (.iaload, 1) := by decide +kernel
theorem dX2_partLikeness_47 : decode cX2_partLikeness 47 = .ok (.if_icmp .ne 7, 3) := by decide +kernel
theorem dX2_partLikeness_50 : decode cX2_partLikeness 50 = .ok (.iconst 1, 1) := by decide +kernel
theorem dX2_partLikeness_51 : decode cX2_partLikeness 51 = .ok (.goto 4, 3) := by decide +kernel
theorem dX2_partLikeness_54 : decode cX2_partLikeness 54 = .ok (.iconst 0, 1) := by decide +kernel
theorem dX2_partLikeness_55 : decode cX2_partLikeness 55 = .ok (.ireturn, 1) := by decide +kernel
theorem dX2_openSpot_0 : decode cX2_openSpot 0 = .ok (.iconst 0, 1) := by decide +kernel
theorem dX2_openSpot_1 : decode cX2_openSpot 1 = .ok (.istore 4, 2) := by decide +kernel
theorem dX2_openSpot_3 : decode cX2_openSpot 3 = .ok (.iload 4, 2) := by decide +kernel
theorem dX2_openSpot_5 : decode cX2_openSpot 5 = .ok (.aload_n 2, 1) := by decide +kernel
theorem dX2_openSpot_6 : decode cX2_openSpot 6 = .ok (.iload_n 3, 1) := by decide +kernel
theorem dX2_openSpot_7 : decode cX2_openSpot 7 = .ok (.invokevirtual 74, 3) := by decide +kernel
theorem dX2_openSpot_10 : decode cX2_openSpot 10 = .ok (.if_icmp .ge 45, 3) := by decide +kernel
theorem dX2_openSpot_13 : decode cX2_openSpot 13 = .ok (.aload_n 2, 1) := by decide +kernel
theorem dX2_openSpot_14 : decode cX2_openSpot 14 = .ok (.iload_n 3, 1) := by decide +kernel
theorem dX2_openSpot_15 : decode cX2_openSpot 15 = .ok (.iload 4, 2) := by decide +kernel
theorem dX2_openSpot_17 : decode cX2_openSpot 17 = .ok (.invokevirtual 78, 3) := by decide +kernel
theorem dX2_openSpot_20 : decode cX2_openSpot 20 = .ok (.istore 5, 2) := by decide +kernel
theorem dX2_openSpot_22 : decode cX2_openSpot 22 = .ok (.aload_n 0, 1) := by decide +kernel
theorem dX2_openSpot_23 : decode cX2_openSpot 23 = .ok (.aload_n 1, 1) := by decide +kernel
theorem dX2_openSpot_24 : decode cX2_openSpot 24 = .ok (.iload 5, 2) := by decide +kernel
theorem dX2_openSpot_26 : decode cX2_openSpot 26 = .ok (.invokevirtual 81, 3) := by decide +kernel
theorem dX2_openSpot_29 : decode cX2_openSpot 29 = .ok (.iconst 2, 1) := by decide +kernel
theorem dX2_openSpot_30 : decode cX2_openSpot 30 = .ok (.if_icmp .ne 19, 3) := by decide +kernel
theorem dX2_openSpot_33 : decode cX2_openSpot 33 = .ok (.aload_n 0, 1) := by decide +kernel
theorem dX2_openSpot_34 : decode cX2_openSpot 34 = .ok (.aload_n 1, 1) := by decide +kernel
theorem dX2_openSpot_35 : decode cX2_openSpot 35 = .ok (.iload 5, 2) := by decide +kernel
theorem dX2_openSpot_37 : decode cX2_openSpot 37 = .ok (.invokestatic 85, 3) := by decide +kernel
theorem dX2_openSpot_40 : decode cX2_openSpot 40 = .ok (.iload 5, 2) := by decide +kernel
theorem dX2_openSpot_42 : decode cX2_openSpot 42 = .ok (.invokestatic 90, 3) := by decide +kernel
theorem dX2_openSpot_45 : decode cX2_openSpot 45 = .ok (.invokevirtual 104, 3) := by decide +kernel
theorem dX2_openSpot_48 : decode cX2_openSpot 48 = .ok (.ireturn, 1) := by decide +kernel
theorem dX2_openSpot_49 : decode cX2_openSpot 49 = .ok (.iinc 4 1, 3) := by decide +kernel
theorem dX2_openSpot_52 : decode cX2_openSpot 52 = .ok (.goto (-49), 3) := by decide +kernel
theorem dX2_openSpot_55 : decode cX2_openSpot 55 = .ok (.iconst (-1), 1) := by decide +kernel
theorem dX2_openSpot_56 : decode cX2_openSpot 56 = .ok (.ireturn, 1) := by decide +kernel
theorem dX2_openSpotOf_0 : decode cX2_openSpotOf 0 = .ok (.aload_n 1, 1) := by decide +kernel
theorem dX2_openSpotOf_1 : decode cX2_openSpotOf 1 = .ok (.getfield 58, 3) := by decide +kernel
theorem dX2_openSpotOf_4 : decode cX2_openSpotOf 4 = .ok (.iload_n 2, 1) := by decide +kernel
theorem dX2_openSpotOf_5 : decode cX2_openSpotOf 5 = .ok (.iaload, 1) := by decide +kernel
theorem dX2_openSpotOf_6 : decode cX2_openSpotOf 6 = .ok (.istore 4, 2) := by decide +kernel
theorem dX2_openSpotOf_8 : decode cX2_openSpotOf 8 = .ok (.iconst 0, 1) := by decide +kernel
theorem dX2_openSpotOf_9 : decode cX2_openSpotOf 9 = .ok (.istore 5, 2) := by decide +kernel
theorem dX2_openSpotOf_11 : decode cX2_openSpotOf 11 = .ok (.iload 5, 2) := by decide +kernel
theorem dX2_openSpotOf_13 : decode cX2_openSpotOf 13 = .ok (.iload 4, 2) := by decide +kernel
theorem dX2_openSpotOf_15 : decode cX2_openSpotOf 15 = .ok (.invokestatic 93, 3) := by decide +kernel
theorem dX2_openSpotOf_18 : decode cX2_openSpotOf 18 = .ok (.if_icmp .ge 68, 3) := by decide +kernel
theorem dX2_openSpotOf_21 : decode cX2_openSpotOf 21 = .ok (.aload_n 0, 1) := by decide +kernel
theorem dX2_openSpotOf_22 : decode cX2_openSpotOf 22 = .ok (.getfield 11, 3) := by decide +kernel
theorem dX2_openSpotOf_25 : decode cX2_openSpotOf 25 = .ok (.iload_n 2, 1) := by decide +kernel
theorem dX2_openSpotOf_26 : decode cX2_openSpotOf 26 = .ok (.iconst 4, 1) := by decide +kernel
theorem dX2_openSpotOf_27 : decode cX2_openSpotOf 27 = .ok (.imul, 1) := by decide +kernel
theorem dX2_openSpotOf_28 : decode cX2_openSpotOf 28 = .ok (.iload 5, 2) := by decide +kernel
theorem dX2_openSpotOf_30 : decode cX2_openSpotOf 30 = .ok (.iadd, 1) := by decide +kernel
theorem dX2_openSpotOf_31 : decode cX2_openSpotOf 31 = .ok (.iaload, 1) := by decide +kernel
theorem dX2_openSpotOf_32 : decode cX2_openSpotOf 32 = .ok (.istore 6, 2) := by decide +kernel
theorem dX2_openSpotOf_34 : decode cX2_openSpotOf 34 = .ok (.aload_n 0, 1) := by decide +kernel
theorem dX2_openSpotOf_35 : decode cX2_openSpotOf 35 = .ok (.getfield 11, 3) := by decide +kernel
theorem dX2_openSpotOf_38 : decode cX2_openSpotOf 38 = .ok (.iload_n 3, 1) := by decide +kernel
theorem dX2_openSpotOf_39 : decode cX2_openSpotOf 39 = .ok (.iconst 4, 1) := by decide +kernel
theorem dX2_openSpotOf_40 : decode cX2_openSpotOf 40 = .ok (.imul, 1) := by decide +kernel
theorem dX2_openSpotOf_41 : decode cX2_openSpotOf 41 = .ok (.iload 5, 2) := by decide +kernel
theorem dX2_openSpotOf_43 : decode cX2_openSpotOf 43 = .ok (.iadd, 1) := by decide +kernel
theorem dX2_openSpotOf_44 : decode cX2_openSpotOf 44 = .ok (.iaload, 1) := by decide +kernel
theorem dX2_openSpotOf_45 : decode cX2_openSpotOf 45 = .ok (.istore 7, 2) := by decide +kernel
theorem dX2_openSpotOf_47 : decode cX2_openSpotOf 47 = .ok (.aload_n 0, 1) := by decide +kernel
theorem dX2_openSpotOf_48 : decode cX2_openSpotOf 48 = .ok (.iload 4, 2) := by decide +kernel
theorem dX2_openSpotOf_50 : decode cX2_openSpotOf 50 = .ok (.iload 6, 2) := by decide +kernel
theorem dX2_openSpotOf_52 : decode cX2_openSpotOf 52 = .ok (.iload 7, 2) := by decide +kernel
theorem dX2_openSpotOf_54 : decode cX2_openSpotOf 54 = .ok (.invokevirtual 96, 3) := by decide +kernel
theorem dX2_openSpotOf_57 : decode cX2_openSpotOf 57 = .ok (.iconst 2, 1) := by decide +kernel
theorem dX2_openSpotOf_58 : decode cX2_openSpotOf 58 = .ok (.if_icmp .ne 22, 3) := by decide +kernel
theorem dX2_openSpotOf_61 : decode cX2_openSpotOf 61 = .ok (.aload_n 0, 1) := by decide +kernel
theorem dX2_openSpotOf_62 : decode cX2_openSpotOf 62 = .ok (.getfield 15, 3) := by decide +kernel
theorem dX2_openSpotOf_65 : decode cX2_openSpotOf 65 = .ok (.iload 6, 2) := by decide +kernel
theorem dX2_openSpotOf_67 : decode cX2_openSpotOf 67 = .ok (.iaload, 1) := by decide +kernel
theorem dX2_openSpotOf_68 : decode cX2_openSpotOf 68 = .ok (.iconst (-1), 1) := by decide +kernel
theorem dX2_openSpotOf_69 : decode cX2_openSpotOf 69 = .ok (.if_icmp .ne 8, 3) := by decide +kernel
theorem dX2_openSpotOf_72 : decode cX2_openSpotOf 72 = .ok (.iload 6, 2) := by decide +kernel
theorem dX2_openSpotOf_74 : decode cX2_openSpotOf 74 = .ok (.goto 5, 3) := by decide +kernel
theorem dX2_openSpotOf_77 : decode cX2_openSpotOf 77 = .ok (.iload 7, 2) := by decide +kernel
theorem dX2_openSpotOf_79 : decode cX2_openSpotOf 79 = .ok (.ireturn, 1) := by decide +kernel
theorem dX2_openSpotOf_80 : decode cX2_openSpotOf 80 = .ok (.iinc 5 1, 3) := by decide +kernel
theorem dX2_openSpotOf_83 : decode cX2_openSpotOf 83 = .ok (.goto (-72), 3) := by decide +kernel
theorem dX2_openSpotOf_86 : decode cX2_openSpotOf 86 = .ok (.iconst (-1), 1) := by decide +kernel
theorem dX2_openSpotOf_87 : decode cX2_openSpotOf 87 = .ok (.ireturn, 1) := by decide +kernel
theorem dX3_init_0 : decode cX3_init 0 = .ok (.aload_n 0, 1) := by decide +kernel
theorem dX3_init_1 : decode cX3_init 1 = .ok (.invokespecial 3, 3) := by decide +kernel
theorem dX3_init_4 : decode cX3_init 4 = .ok (.aload_n 0, 1) := by decide +kernel
theorem dX3_init_5 : decode cX3_init 5 = .ok (.bipush 24, 2) := by decide +kernel
theorem dX3_init_7 : decode cX3_init 7 = .ok (.newarray .int, 2) := by decide +kernel
theorem dX3_init_9 : decode cX3_init 9 = .ok (.putfield 9, 3) := by decide +kernel
theorem dX3_init_12 : decode cX3_init 12 = .ok (.aload_n 0, 1) := by decide +kernel
theorem dX3_init_13 : decode cX3_init 13 = .ok (.bipush 24, 2) := by decide +kernel
theorem dX3_init_15 : decode cX3_init 15 = .ok (.newarray .int, 2) := by decide +kernel
theorem dX3_init_17 : decode cX3_init 17 = .ok (.putfield 15, 3) := by decide +kernel
theorem dX3_init_20 : decode cX3_init 20 = .ok (.aload_n 0, 1) := by decide +kernel
theorem dX3_init_21 : decode cX3_init 21 = .ok (.bipush 24, 2) := by decide +kernel
theorem dX3_init_23 : decode cX3_init 23 = .ok (.newarray .int, 2) := by decide +kernel
theorem dX3_init_25 : decode cX3_init 25 = .ok (.putfield 18, 3) := by decide +kernel
theorem dX3_init_28 : decode cX3_init 28 = .ok (.aload_n 0, 1) := by decide +kernel
theorem dX3_init_29 : decode cX3_init 29 = .ok (.bipush 24, 2) := by decide +kernel
theorem dX3_init_31 : decode cX3_init 31 = .ok (.newarray .int, 2) := by decide +kernel
theorem dX3_init_33 : decode cX3_init 33 = .ok (.putfield 21, 3) := by decide +kernel
theorem dX3_init_36 : decode cX3_init 36 = .ok (.iconst 0, 1) := by decide +kernel
theorem dX3_init_37 : decode cX3_init 37 = .ok (.istore_n 1, 1) := by decide +kernel
theorem dX3_init_38 : decode cX3_init 38 = .ok (.iload_n 1, 1) := by decide +kernel
theorem dX3_init_39 : decode cX3_init 39 = .ok (.bipush 7, 2) := by decide +kernel
theorem dX3_init_41 : decode cX3_init 41 = .ok (.if_icmp .ge 55, 3) := by decide +kernel
theorem dX3_init_44 : decode cX3_init 44 = .ok (.aload_n 0, 1) := by decide +kernel
theorem dX3_init_45 : decode cX3_init 45 = .ok (.getfield 9, 3) := by decide +kernel
theorem dX3_init_48 : decode cX3_init 48 = .ok (.iload_n 1, 1) := by decide +kernel
theorem dX3_init_49 : decode cX3_init 49 = .ok (.iload_n 1, 1) := by decide +kernel
theorem dX3_init_50 : decode cX3_init 50 = .ok (.iconst 3, 1) := by decide +kernel
theorem dX3_init_51 : decode cX3_init 51 = .ok (.if_icmp .ge 7, 3) := by decide +kernel
theorem dX3_init_54 : decode cX3_init 54 = .ok (.iconst 0, 1) := by decide +kernel
theorem dX3_init_55 : decode cX3_init 55 = .ok (.goto 13, 3) := by decide +kernel
theorem dX3_init_58 : decode cX3_init 58 = .ok (.iload_n 1, 1) := by decide +kernel
theorem dX3_init_59 : decode cX3_init 59 = .ok (.iconst 5, 1) := by decide +kernel
theorem dX3_init_60 : decode cX3_init 60 = .ok (.if_icmp .ge 7, 3) := by decide +kernel
theorem dX3_init_63 : decode cX3_init 63 = .ok (.iconst 1, 1) := by decide +kernel
theorem dX3_init_64 : decode cX3_init 64 = .ok (.goto 4, 3) := by decide +kernel
theorem dX3_init_67 : decode cX3_init 67 = .ok (.iconst 2, 1) := by decide +kernel
theorem dX3_init_68 : decode cX3_init 68 = .ok (.iastore, 1) := by decide +kernel
theorem dX3_init_69 : decode cX3_init 69 = .ok (.aload_n 0, 1) := by decide +kernel
theorem dX3_init_70 : decode cX3_init 70 = .ok (.getfield 15, 3) := by decide +kernel
theorem dX3_init_73 : decode cX3_init 73 = .ok (.iload_n 1, 1) := by decide +kernel
theorem dX3_init_74 : decode cX3_init 74 = .ok (.iconst (-1), 1) := by decide +kernel
theorem dX3_init_75 : decode cX3_init 75 = .ok (.iastore, 1) := by decide +kernel
theorem dX3_init_76 : decode cX3_init 76 = .ok (.aload_n 0, 1) := by decide +kernel
theorem dX3_init_77 : decode cX3_init 77 = .ok (.getfield 18, 3) := by decide +kernel
theorem dX3_init_80 : decode cX3_init 80 = .ok (.iload_n 1, 1) := by decide +kernel
theorem dX3_init_81 : decode cX3_init 81 = .ok (.iconst (-1), 1) := by decide +kernel
theorem dX3_init_82 : decode cX3_init 82 = .ok (.iastore, 1) := by decide +kernel
theorem dX3_init_83 : decode cX3_init 83 = .ok (.aload_n 0, 1) := by decide +kernel
theorem dX3_init_84 : decode cX3_init 84 = .ok (.getfield 21, 3) := by decide +kernel
theorem dX3_init_87 : decode cX3_init 87 = .ok (.iload_n 1, 1) := by decide +kernel
theorem dX3_init_88 : decode cX3_init 88 = .ok (.iconst (-1), 1) := by decide +kernel
theorem dX3_init_89 : decode cX3_init 89 = .ok (.iastore, 1) := by decide +kernel
theorem dX3_init_90 : decode cX3_init 90 = .ok (.iinc 1 1, 3) := by decide +kernel
theorem dX3_init_93 : decode cX3_init 93 = .ok (.goto (-55), 3) := by decide +kernel
theorem dX3_init_96 : decode cX3_init 96 = .ok (.aload_n 0, 1) := by decide +kernel
theorem dX3_init_97 : decode cX3_init 97 = .ok (.bipush 7, 2) := by decide +kernel
theorem dX3_init_99 : decode cX3_init 99 = .ok (.putfield 24, 3) := by decide +kernel
theorem dX3_init_102 : decode cX3_init 102 = .ok (.return_, 1) := by decide +kernel
theorem dX3_has_0 : decode cX3_has 0 = .ok (.iload_n 1, 1) := by decide +kernel
theorem dX3_has_1 : decode cX3_has 1 = .ok (.ifCond .lt 15, 3) := by decide +kernel
theorem dX3_has_4 : decode cX3_has 4 = .ok (.iload_n 1, 1) := by decide +kernel
theorem dX3_has_5 : decode cX3_has 5 = .ok (.aload_n 0, 1) := by decide +kernel
theorem dX3_has_6 : decode cX3_has 6 = .ok (.getfield 24, 3) := by decide +kernel
theorem dX3_has_9 : decode cX3_has 9 = .ok (.if_icmp .ge 7, 3) := by decide +kernel
theorem dX3_has_12 : decode cX3_has 12 = .ok (.iconst 1, 1) := by decide +kernel
theorem dX3_has_13 : decode cX3_has 13 = .ok (.goto 4, 3) := by decide +kernel
theorem dX3_has_16 : decode cX3_has 16 = .ok (.iconst 0, 1) := by decide +kernel
theorem dX3_has_17 : decode cX3_has 17 = .ok (.ireturn, 1) := by decide +kernel
theorem dX3_sortOf_0 : decode cX3_sortOf 0 = .ok (.aload_n 0, 1) := by decide +kernel
theorem dX3_sortOf_1 : decode cX3_sortOf 1 = .ok (.iload_n 1, 1) := by decide +kernel
theorem dX3_sortOf_2 : decode cX3_sortOf 2 = .ok (.invokevirtual 28, 3) := by decide +kernel
theorem dX3_sortOf_5 : decode cX3_sortOf 5 = .ok (.ifCond .eq 12, 3) := by decide +kernel
theorem dX3_sortOf_8 : decode cX3_sortOf 8 = .ok (.aload_n 0, 1) := by decide +kernel
theorem dX3_sortOf_9 : decode cX3_sortOf 9 = .ok (.getfield 9, 3) := by decide +kernel
theorem dX3_sortOf_12 : decode cX3_sortOf 12 = .ok (.iload_n 1, 1) := by decide +kernel
theorem dX3_sortOf_13 : decode cX3_sortOf 13 = .ok (.iaload, 1) := by decide +kernel
theorem dX3_sortOf_14 : decode cX3_sortOf 14 = .ok (.goto 4, 3) := by decide +kernel
theorem dX3_sortOf_17 : decode cX3_sortOf 17 = .ok (.iconst (-1), 1) := by decide +kernel
theorem dX3_sortOf_18 : decode cX3_sortOf 18 = .ok (.ireturn, 1) := by decide +kernel
theorem dX3_find_0 : decode cX3_find 0 = .ok (.bipush 7, 2) := by decide +kernel
theorem dX3_find_2 : decode cX3_find 2 = .ok (.istore 5, 2) := by decide +kernel
theorem dX3_find_4 : decode cX3_find 4 = .ok (.iload 5, 2) := by decide +kernel
theorem dX3_find_6 : decode cX3_find 6 = .ok (.aload_n 0, 1) := by decide +kernel
theorem dX3_find_7 : decode cX3_find 7 = .ok (.getfield 24, 3) := by decide +kernel
theorem dX3_find_10 : decode cX3_find 10 = .ok (.if_icmp .ge 57, 3) := by decide +kernel
theorem dX3_find_13 : decode cX3_find 13 = .ok (.aload_n 0, 1) := by decide +kernel
theorem dX3_find_14 : decode cX3_find 14 = .ok (.getfield 9, 3) := by decide +kernel
theorem dX3_find_17 : decode cX3_find 17 = .ok (.iload 5, 2) := by decide +kernel
theorem dX3_find_19 : decode cX3_find 19 = .ok (.iaload, 1) := by decide +kernel
theorem dX3_find_20 : decode cX3_find 20 = .ok (.iload_n 1, 1) := by decide +kernel
theorem dX3_find_21 : decode cX3_find 21 = .ok (.if_icmp .ne 40, 3) := by decide +kernel
theorem dX3_find_24 : decode cX3_find 24 = .ok (.aload_n 0, 1) := by decide +kernel
theorem dX3_find_25 : decode cX3_find 25 = .ok (.getfield 15, 3) := by decide +kernel
theorem dX3_find_28 : decode cX3_find 28 = .ok (.iload 5, 2) := by decide +kernel
theorem dX3_find_30 : decode cX3_find 30 = .ok (.iaload, 1) := by decide +kernel
theorem dX3_find_31 : decode cX3_find 31 = .ok (.iload_n 2, 1) := by decide +kernel
theorem dX3_find_32 : decode cX3_find 32 = .ok (.if_icmp .ne 29, 3) := by decide +kernel
theorem dX3_find_35 : decode cX3_find 35 = .ok (.aload_n 0, 1) := by decide +kernel
theorem dX3_find_36 : decode cX3_find 36 = .ok (.getfield 18, 3) := by decide +kernel
theorem dX3_find_39 : decode cX3_find 39 = .ok (.iload 5, 2) := by decide +kernel
theorem dX3_find_41 : decode cX3_find 41 = .ok (.iaload, 1) := by decide +kernel
theorem dX3_find_42 : decode cX3_find 42 = .ok (.iload_n 3, 1) := by decide +kernel
theorem dX3_find_43 : decode cX3_find 43 = .ok (.if_icmp .ne 18, 3) := by decide +kernel
theorem dX3_find_46 : decode cX3_find 46 = .ok (.aload_n 0, 1) := by decide +kernel
theorem dX3_find_47 : decode cX3_find 47 = .ok (.getfield 21, 3) := by decide +kernel
theorem dX3_find_50 : decode cX3_find 50 = .ok (.iload 5, 2) := by decide +kernel
theorem dX3_find_52 : decode cX3_find 52 = .ok (.iaload, 1) := by decide +kernel
theorem dX3_find_53 : decode cX3_find 53 = .ok (.iload 4, 2) := by decide +kernel
theorem dX3_find_55 : decode cX3_find 55 = .ok (.if_icmp .ne 6, 3) := by decide +kernel
theorem dX3_find_58 : decode cX3_find 58 = .ok (.iload 5, 2) := by decide +kernel
theorem dX3_find_60 : decode cX3_find 60 = .ok (.ireturn, 1) := by decide +kernel
theorem dX3_find_61 : decode cX3_find 61 = .ok (.iinc 5 1, 3) := by decide +kernel
theorem dX3_find_64 : decode cX3_find 64 = .ok (.goto (-60), 3) := by decide +kernel
theorem dX3_find_67 : decode cX3_find 67 = .ok (.iconst (-1), 1) := by decide +kernel
theorem dX3_find_68 : decode cX3_find 68 = .ok (.ireturn, 1) := by decide +kernel
theorem dX3_add_0 : decode cX3_add 0 = .ok (.aload_n 0, 1) := by decide +kernel
theorem dX3_add_1 : decode cX3_add 1 = .ok (.getfield 24, 3) := by decide +kernel
theorem dX3_add_4 : decode cX3_add 4 = .ok (.bipush 24, 2) := by decide +kernel
theorem dX3_add_6 : decode cX3_add 6 = .ok (.if_icmp .lt 5, 3) := by decide +kernel
theorem dX3_add_9 : decode cX3_add 9 = .ok (.iconst (-1), 1) := by decide +kernel
theorem dX3_add_10 : decode cX3_add 10 = .ok (.ireturn, 1) := by decide +kernel
theorem dX3_add_11 : decode cX3_add 11 = .ok (.aload_n 0, 1) := by decide +kernel
theorem dX3_add_12 : decode cX3_add 12 = .ok (.getfield 9, 3) := by decide +kernel
theorem dX3_add_15 : decode cX3_add 15 = .ok (.aload_n 0, 1) := by decide +kernel
theorem dX3_add_16 : decode cX3_add 16 = .ok (.getfield 24, 3) := by decide +kernel
theorem dX3_add_19 : decode cX3_add 19 = .ok (.iload_n 1, 1) := by decide +kernel
theorem dX3_add_20 : decode cX3_add 20 = .ok (.iastore, 1) := by decide +kernel
theorem dX3_add_21 : decode cX3_add 21 = .ok (.aload_n 0, 1) := by decide +kernel
theorem dX3_add_22 : decode cX3_add 22 = .ok (.getfield 15, 3) := by decide +kernel
theorem dX3_add_25 : decode cX3_add 25 = .ok (.aload_n 0, 1) := by decide +kernel
theorem dX3_add_26 : decode cX3_add 26 = .ok (.getfield 24, 3) := by decide +kernel
theorem dX3_add_29 : decode cX3_add 29 = .ok (.iload_n 2, 1) := by decide +kernel
theorem dX3_add_30 : decode cX3_add 30 = .ok (.iastore, 1) := by decide +kernel
theorem dX3_add_31 : decode cX3_add 31 = .ok (.aload_n 0, 1) := by decide +kernel
theorem dX3_add_32 : decode cX3_add 32 = .ok (.getfield 18, 3) := by decide +kernel
theorem dX3_add_35 : decode cX3_add 35 = .ok (.aload_n 0, 1) := by decide +kernel
theorem dX3_add_36 : decode cX3_add 36 = .ok (.getfield 24, 3) := by decide +kernel
theorem dX3_add_39 : decode cX3_add 39 = .ok (.iload_n 3, 1) := by decide +kernel
theorem dX3_add_40 : decode cX3_add 40 = .ok (.iastore, 1) := by decide +kernel
theorem dX3_add_41 : decode cX3_add 41 = .ok (.aload_n 0, 1) := by decide +kernel
theorem dX3_add_42 : decode cX3_add 42 = .ok (.getfield 21, 3) := by decide +kernel
theorem dX3_add_45 : decode cX3_add 45 = .ok (.aload_n 0, 1) := by decide +kernel
theorem dX3_add_46 : decode cX3_add 46 = .ok (.getfield 24, 3) := by decide +kernel
theorem dX3_add_49 : decode cX3_add 49 = .ok (.iload 4, 2) := by decide +kernel
theorem dX3_add_51 : decode cX3_add 51 = .ok (.iastore, 1) := by decide +kernel
theorem dX3_add_52 : decode cX3_add 52 = .ok (.aload_n 0, 1) := by decide +kernel
theorem dX3_add_53 : decode cX3_add 53 = .ok (.dup, 1) := by decide +kernel
theorem dX3_add_54 : decode cX3_add 54 = .ok (.getfield 24, 3) := by decide +kernel
theorem dX3_add_57 : decode cX3_add 57 = .ok (.iconst 1, 1) := by decide +kernel
theorem dX3_add_58 : decode cX3_add 58 = .ok (.iadd, 1) := by decide +kernel
theorem dX3_add_59 : decode cX3_add 59 = .ok (.putfield 24, 3) := by decide +kernel
theorem dX3_add_62 : decode cX3_add 62 = .ok (.aload_n 0, 1) := by decide +kernel
theorem dX3_add_63 : decode cX3_add 63 = .ok (.getfield 24, 3) := by decide +kernel
theorem dX3_add_66 : decode cX3_add 66 = .ok (.iconst 1, 1) := by decide +kernel
theorem dX3_add_67 : decode cX3_add 67 = .ok (.isub, 1) := by decide +kernel
theorem dX3_add_68 : decode cX3_add 68 = .ok (.ireturn, 1) := by decide +kernel
theorem dX4_init_0 : decode cX4_init 0 = .ok (.aload_n 0, 1) := by decide +kernel
theorem dX4_init_1 : decode cX4_init 1 = .ok (.invokespecial 3, 3) := by decide +kernel
theorem dX4_init_4 : decode cX4_init 4 = .ok (.aload_n 0, 1) := by decide +kernel
theorem dX4_init_5 : decode cX4_init 5 = .ok (.new 9, 3) := by decide +kernel
theorem dX4_init_8 : decode cX4_init 8 = .ok (.dup, 1) := by decide +kernel
theorem dX4_init_9 : decode cX4_init 9 = .ok (.invokespecial 11, 3) := by decide +kernel
theorem dX4_init_12 : decode cX4_init 12 = .ok (.putfield 12, 3) := by decide +kernel
theorem dX4_init_15 : decode cX4_init 15 = .ok (.aload_n 0, 1) := by decide +kernel
theorem dX4_init_16 : decode cX4_init 16 = .ok (.new 16, 3) := by decide +kernel
theorem dX4_init_19 : decode cX4_init 19 = .ok (.dup, 1) := by decide +kernel
theorem dX4_init_20 : decode cX4_init 20 = .ok (.bipush 8, 2) := by decide +kernel
theorem dX4_init_22 : decode cX4_init 22 = .ok (.invokespecial 18, 3) := by decide +kernel
theorem dX4_init_25 : decode cX4_init 25 = .ok (.putfield 21, 3) := by decide +kernel
theorem dX4_init_28 : decode cX4_init 28 = .ok (.aload_n 0, 1) := by decide +kernel
theorem dX4_init_29 : decode cX4_init 29 = .ok (.iconst 3, 1) := by decide +kernel
theorem dX4_init_30 : decode cX4_init 30 = .ok (.newarray .int, 2) := by decide +kernel
theorem dX4_init_32 : decode cX4_init 32 = .ok (.putfield 25, 3) := by decide +kernel
theorem dX4_init_35 : decode cX4_init 35 = .ok (.aload_n 0, 1) := by decide +kernel
theorem dX4_init_36 : decode cX4_init 36 = .ok (.iconst 0, 1) := by decide +kernel
theorem dX4_init_37 : decode cX4_init 37 = .ok (.putfield 29, 3) := by decide +kernel
theorem dX4_init_40 : decode cX4_init 40 = .ok (.aload_n 0, 1) := by decide +kernel
theorem dX4_init_41 : decode cX4_init 41 = .ok (.new 16, 3) := by decide +kernel
theorem dX4_init_44 : decode cX4_init 44 = .ok (.dup, 1) := by decide +kernel
theorem dX4_init_45 : decode cX4_init 45 = .ok (.bipush 11, 2) := by decide +kernel
theorem dX4_init_47 : decode cX4_init 47 = .ok (.invokespecial 18, 3) := by decide +kernel
theorem dX4_init_50 : decode cX4_init 50 = .ok (.putfield 33, 3) := by decide +kernel
theorem dX4_init_53 : decode cX4_init 53 = .ok (.aload_n 0, 1) := by decide +kernel
theorem dX4_init_54 : decode cX4_init 54 = .ok (.new 36, 3) := by decide +kernel
theorem dX4_init_57 : decode cX4_init 57 = .ok (.dup, 1) := by decide +kernel
theorem dX4_init_58 : decode cX4_init 58 = .ok (.invokespecial 38, 3) := by decide +kernel
theorem dX4_init_61 : decode cX4_init 61 = .ok (.putfield 39, 3) := by decide +kernel
theorem dX4_init_64 : decode cX4_init 64 = .ok (.return_, 1) := by decide +kernel
theorem dX4_select_0 : decode cX4_select 0 = .ok (.aload_n 0, 1) := by decide +kernel
theorem dX4_select_1 : decode cX4_select 1 = .ok (.getfield 12, 3) := by decide +kernel
theorem dX4_select_4 : decode cX4_select 4 = .ok (.iload_n 1, 1) := by decide +kernel
theorem dX4_select_5 : decode cX4_select 5 = .ok (.invokevirtual 43, 3) := by decide +kernel
theorem dX4_select_8 : decode cX4_select 8 = .ok (.ifCond .eq 14, 3) := by decide +kernel
theorem dX4_select_11 : decode cX4_select 11 = .ok (.aload_n 0, 1) := by decide +kernel
theorem dX4_select_12 : decode cX4_select 12 = .ok (.getfield 12, 3) := by decide +kernel
theorem dX4_select_15 : decode cX4_select 15 = .ok (.iload_n 2, 1) := by decide +kernel
theorem dX4_select_16 : decode cX4_select 16 = .ok (.invokevirtual 43, 3) := by decide +kernel
theorem dX4_select_19 : decode cX4_select 19 = .ok (.ifCond .ne 11, 3) := by decide +kernel
theorem dX4_select_22 : decode cX4_select 22 = .ok (.new 47, 3) := by decide +kernel
theorem dX4_select_25 : decode cX4_select 25 = .ok (.dup, 1) := by decide +kernel
