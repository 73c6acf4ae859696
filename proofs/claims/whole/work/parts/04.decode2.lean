theorem dX5_found_67 : decode cX5_found 67 = .ok (.iconst (-1), 1) := by decide +kernel
theorem dX5_found_68 : decode cX5_found 68 = .ok (.ireturn, 1) := by decide +kernel
theorem dX5_make_0 : decode cX5_make 0 = .ok (.aload_n 0, 1) := by decide +kernel
theorem dX5_make_1 : decode cX5_make 1 = .ok (.iload_n 1, 1) := by decide +kernel
theorem dX5_make_2 : decode cX5_make 2 = .ok (.iload_n 2, 1) := by decide +kernel
theorem dX5_make_3 : decode cX5_make 3 = .ok (.iload_n 3, 1) := by decide +kernel
theorem dX5_make_4 : decode cX5_make 4 = .ok (.iload 4, 2) := by decide +kernel
theorem dX5_make_6 : decode cX5_make 6 = .ok (.invokevirtual 80, 3) := by decide +kernel
theorem dX5_make_9 : decode cX5_make 9 = .ok (.istore 5, 2) := by decide +kernel
theorem dX5_make_11 : decode cX5_make 11 = .ok (.iload 5, 2) := by decide +kernel
theorem dX5_make_13 : decode cX5_make 13 = .ok (.ifCond .lt 6, 3) := by decide +kernel
theorem dX5_make_16 : decode cX5_make 16 = .ok (.iload 5, 2) := by decide +kernel
theorem dX5_make_18 : decode cX5_make 18 = .ok (.ireturn, 1) := by decide +kernel
theorem dX5_make_19 : decode cX5_make 19 = .ok (.aload_n 0, 1) := by decide +kernel
theorem dX5_make_20 : decode cX5_make 20 = .ok (.getfield 7, 3) := by decide +kernel
theorem dX5_make_23 : decode cX5_make 23 = .ok (.bipush 24, 2) := by decide +kernel
theorem dX5_make_25 : decode cX5_make 25 = .ok (.if_icmp .ne 9, 3) := by decide +kernel
theorem dX5_make_28 : decode cX5_make 28 = .ok (.aload_n 0, 1) := by decide +kernel
theorem dX5_make_29 : decode cX5_make 29 = .ok (.iconst 3, 1) := by decide +kernel
theorem dX5_make_30 : decode cX5_make 30 = .ok (.invokevirtual 84, 3) := by decide +kernel
theorem dX5_make_33 : decode cX5_make 33 = .ok (.ireturn, 1) := by decide +kernel
theorem dX5_make_34 : decode cX5_make 34 = .ok (.aload_n 0, 1) := by decide +kernel
theorem dX5_make_35 : decode cX5_make 35 = .ok (.getfield 7, 3) := by decide +kernel
theorem dX5_make_38 : decode cX5_make 38 = .ok (.istore 5, 2) := by decide +kernel
theorem dX5_make_40 : decode cX5_make 40 = .ok (.aload_n 0, 1) := by decide +kernel
theorem dX5_make_41 : decode cX5_make 41 = .ok (.dup, 1) := by decide +kernel
theorem dX5_make_42 : decode cX5_make 42 = .ok (.getfield 7, 3) := by decide +kernel
theorem dX5_make_45 : decode cX5_make 45 = .ok (.iconst 1, 1) := by decide +kernel
theorem dX5_make_46 : decode cX5_make 46 = .ok (.iadd, 1) := by decide +kernel
theorem dX5_make_47 : decode cX5_make 47 = .ok (.putfield 7, 3) := by decide +kernel
theorem dX5_make_50 : decode cX5_make 50 = .ok (.aload_n 0, 1) := by decide +kernel
theorem dX5_make_51 : decode cX5_make 51 = .ok (.getfield 17, 3) := by decide +kernel
theorem dX5_make_54 : decode cX5_make 54 = .ok (.iload 5, 2) := by decide +kernel
theorem dX5_make_56 : decode cX5_make 56 = .ok (.iload_n 1, 1) := by decide +kernel
theorem dX5_make_57 : decode cX5_make 57 = .ok (.iastore, 1) := by decide +kernel
theorem dX5_make_58 : decode cX5_make 58 = .ok (.aload_n 0, 1) := by decide +kernel
theorem dX5_make_59 : decode cX5_make 59 = .ok (.getfield 20, 3) := by decide +kernel
theorem dX5_make_62 : decode cX5_make 62 = .ok (.iload 5, 2) := by decide +kernel
theorem dX5_make_64 : decode cX5_make 64 = .ok (.iload_n 2, 1) := by decide +kernel
theorem dX5_make_65 : decode cX5_make 65 = .ok (.iastore, 1) := by decide +kernel
theorem dX5_make_66 : decode cX5_make 66 = .ok (.aload_n 0, 1) := by decide +kernel
theorem dX5_make_67 : decode cX5_make 67 = .ok (.getfield 23, 3) := by decide +kernel
theorem dX5_make_70 : decode cX5_make 70 = .ok (.iload 5, 2) := by decide +kernel
theorem dX5_make_72 : decode cX5_make 72 = .ok (.iload_n 3, 1) := by decide +kernel
theorem dX5_make_73 : decode cX5_make 73 = .ok (.iastore, 1) := by decide +kernel
theorem dX5_make_74 : decode cX5_make 74 = .ok (.aload_n 0, 1) := by decide +kernel
theorem dX5_make_75 : decode cX5_make 75 = .ok (.getfield 26, 3) := by decide +kernel
theorem dX5_make_78 : decode cX5_make 78 = .ok (.iload 5, 2) := by decide +kernel
theorem dX5_make_80 : decode cX5_make 80 = .ok (.iload 4, 2) := by decide +kernel
theorem dX5_make_82 : decode cX5_make 82 = .ok (.iastore, 1) := by decide +kernel
theorem dX5_make_83 : decode cX5_make 83 = .ok (.aload_n 0, 1) := by decide +kernel
theorem dX5_make_84 : decode cX5_make 84 = .ok (.getfield 13, 3) := by decide +kernel
theorem dX5_make_87 : decode cX5_make 87 = .ok (.iload 5, 2) := by decide +kernel
theorem dX5_make_89 : decode cX5_make 89 = .ok (.iload_n 1, 1) := by decide +kernel
theorem dX5_make_90 : decode cX5_make 90 = .ok (.iastore, 1) := by decide +kernel
theorem dX5_make_91 : decode cX5_make 91 = .ok (.iconst 0, 1) := by decide +kernel
theorem dX5_make_92 : decode cX5_make 92 = .ok (.istore 6, 2) := by decide +kernel
theorem dX5_make_94 : decode cX5_make 94 = .ok (.iload 6, 2) := by decide +kernel
theorem dX5_make_96 : decode cX5_make 96 = .ok (.iconst 5, 1) := by decide +kernel
theorem dX5_make_97 : decode cX5_make 97 = .ok (.if_icmp .ge 100, 3) := by decide +kernel
theorem dX5_make_100 : decode cX5_make 100 = .ok (.aload_n 0, 1) := by decide +kernel
theorem dX5_make_101 : decode cX5_make 101 = .ok (.getfield 35, 3) := by decide +kernel
theorem dX5_make_104 : decode cX5_make 104 = .ok (.bipush 24, 2) := by decide +kernel
theorem dX5_make_106 : decode cX5_make 106 = .ok (.iload 6, 2) := by decide +kernel
theorem dX5_make_108 : decode cX5_make 108 = .ok (.imul, 1) := by decide +kernel
theorem dX5_make_109 : decode cX5_make 109 = .ok (.iload_n 2, 1) := by decide +kernel
theorem dX5_make_110 : decode cX5_make 110 = .ok (.iadd, 1) := by decide +kernel
theorem dX5_make_111 : decode cX5_make 111 = .ok (.iaload, 1) := by decide +kernel
theorem dX5_make_112 : decode cX5_make 112 = .ok (.istore 7, 2) := by decide +kernel
theorem dX5_make_114 : decode cX5_make 114 = .ok (.aload_n 0, 1) := by decide +kernel
theorem dX5_make_115 : decode cX5_make 115 = .ok (.getfield 35, 3) := by decide +kernel
theorem dX5_make_118 : decode cX5_make 118 = .ok (.bipush 24, 2) := by decide +kernel
theorem dX5_make_120 : decode cX5_make 120 = .ok (.iload 6, 2) := by decide +kernel
theorem dX5_make_122 : decode cX5_make 122 = .ok (.imul, 1) := by decide +kernel
theorem dX5_make_123 : decode cX5_make 123 = .ok (.iload_n 3, 1) := by decide +kernel
theorem dX5_make_124 : decode cX5_make 124 = .ok (.iadd, 1) := by decide +kernel
theorem dX5_make_125 : decode cX5_make 125 = .ok (.iaload, 1) := by decide +kernel
theorem dX5_make_126 : decode cX5_make 126 = .ok (.istore 8, 2) := by decide +kernel
theorem dX5_make_128 : decode cX5_make 128 = .ok (.iconst 1, 1) := by decide +kernel
theorem dX5_make_129 : decode cX5_make 129 = .ok (.iconst 3, 1) := by decide +kernel
theorem dX5_make_130 : decode cX5_make 130 = .ok (.iload 8, 2) := by decide +kernel
theorem dX5_make_132 : decode cX5_make 132 = .ok (.imul, 1) := by decide +kernel
theorem dX5_make_133 : decode cX5_make 133 = .ok (.iadd, 1) := by decide +kernel
theorem dX5_make_134 : decode cX5_make 134 = .ok (.istore 9, 2) := by decide +kernel
theorem dX5_make_136 : decode cX5_make 136 = .ok (.aload_n 0, 1) := by decide +kernel
theorem dX5_make_137 : decode cX5_make 137 = .ok (.getfield 35, 3) := by decide +kernel
theorem dX5_make_140 : decode cX5_make 140 = .ok (.bipush 24, 2) := by decide +kernel
theorem dX5_make_142 : decode cX5_make 142 = .ok (.iload 6, 2) := by decide +kernel
theorem dX5_make_144 : decode cX5_make 144 = .ok (.imul, 1) := by decide +kernel
theorem dX5_make_145 : decode cX5_make 145 = .ok (.iload 5, 2) := by decide +kernel
theorem dX5_make_147 : decode cX5_make 147 = .ok (.iadd, 1) := by decide +kernel
theorem dX5_make_148 : decode cX5_make 148 = .ok (.iload_n 1, 1) := by decide +kernel
theorem dX5_make_149 : decode cX5_make 149 = .ok (.iconst 1, 1) := by decide +kernel
theorem dX5_make_150 : decode cX5_make 150 = .ok (.if_icmp .ne 13, 3) := by decide +kernel
theorem dX5_make_153 : decode cX5_make 153 = .ok (.iload 7, 2) := by decide +kernel
theorem dX5_make_155 : decode cX5_make 155 = .ok (.iload 8, 2) := by decide +kernel
theorem dX5_make_157 : decode cX5_make 157 = .ok (.invokestatic 88, 3) := by decide +kernel
theorem dX5_make_160 : decode cX5_make 160 = .ok (.goto 30, 3) := by decide +kernel
theorem dX5_make_163 : decode cX5_make 163 = .ok (.iload 7, 2) := by decide +kernel
theorem dX5_make_165 : decode cX5_make 165 = .ok (.bipush 7, 2) := by decide +kernel
theorem dX5_make_167 : decode cX5_make 167 = .ok (.iload 9, 2) := by decide +kernel
theorem dX5_make_169 : decode cX5_make 169 = .ok (.ishl, 1) := by decide +kernel
theorem dX5_make_170 : decode cX5_make 170 = .ok (.iconst (-1), 1) := by decide +kernel
theorem dX5_make_171 : decode cX5_make 171 = .ok (.ixor, 1) := by decide +kernel
theorem dX5_make_172 : decode cX5_make 172 = .ok (.iand, 1) := by decide +kernel
theorem dX5_make_173 : decode cX5_make 173 = .ok (.aload_n 0, 1) := by decide +kernel
theorem dX5_make_174 : decode cX5_make 174 = .ok (.getfield 35, 3) := by decide +kernel
theorem dX5_make_177 : decode cX5_make 177 = .ok (.bipush 24, 2) := by decide +kernel
theorem dX5_make_179 : decode cX5_make 179 = .ok (.iload 6, 2) := by decide +kernel
theorem dX5_make_181 : decode cX5_make 181 = .ok (.imul, 1) := by decide +kernel
theorem dX5_make_182 : decode cX5_make 182 = .ok (.iload 4, 2) := by decide +kernel
theorem dX5_make_184 : decode cX5_make 184 = .ok (.iadd, 1) := by decide +kernel
theorem dX5_make_185 : decode cX5_make 185 = .ok (.iaload, 1) := by decide +kernel
theorem dX5_make_186 : decode cX5_make 186 = .ok (.iload 9, 2) := by decide +kernel
theorem dX5_make_188 : decode cX5_make 188 = .ok (.ishl, 1) := by decide +kernel
theorem dX5_make_189 : decode cX5_make 189 = .ok (.ior, 1) := by decide +kernel
theorem dX5_make_190 : decode cX5_make 190 = .ok (.iastore, 1) := by decide +kernel
theorem dX5_make_191 : decode cX5_make 191 = .ok (.iinc 6 1, 3) := by decide +kernel
theorem dX5_make_194 : decode cX5_make 194 = .ok (.goto (-100), 3) := by decide +kernel
theorem dX5_make_197 : decode cX5_make 197 = .ok (.iload 5, 2) := by decide +kernel
theorem dX5_make_199 : decode cX5_make 199 = .ok (.ireturn, 1) := by decide +kernel
theorem dX5_select_0 : decode cX5_select 0 = .ok (.aload_n 0, 1) := by decide +kernel
theorem dX5_select_1 : decode cX5_select 1 = .ok (.aload_n 0, 1) := by decide +kernel
theorem dX5_select_2 : decode cX5_select 2 = .ok (.iload_n 1, 1) := by decide +kernel
theorem dX5_select_3 : decode cX5_select 3 = .ok (.invokevirtual 91, 3) := by decide +kernel
theorem dX5_select_6 : decode cX5_select 6 = .ok (.ifCond .eq 11, 3) := by decide +kernel
theorem dX5_select_9 : decode cX5_select 9 = .ok (.aload_n 0, 1) := by decide +kernel
theorem dX5_select_10 : decode cX5_select 10 = .ok (.iload_n 2, 1) := by decide +kernel
theorem dX5_select_11 : decode cX5_select 11 = .ok (.invokevirtual 91, 3) := by decide +kernel
theorem dX5_select_14 : decode cX5_select 14 = .ok (.ifCond .ne 7, 3) := by decide +kernel
theorem dX5_select_17 : decode cX5_select 17 = .ok (.iconst 1, 1) := by decide +kernel
theorem dX5_select_18 : decode cX5_select 18 = .ok (.goto 27, 3) := by decide +kernel
theorem dX5_select_21 : decode cX5_select 21 = .ok (.aload_n 0, 1) := by decide +kernel
theorem dX5_select_22 : decode cX5_select 22 = .ok (.getfield 13, 3) := by decide +kernel
theorem dX5_select_25 : decode cX5_select 25 = .ok (.iload_n 1, 1) := by decide +kernel
theorem dX5_select_26 : decode cX5_select 26 = .ok (.iaload, 1) := by decide +kernel
theorem dX5_select_27 : decode cX5_select 27 = .ok (.iconst 2, 1) := by decide +kernel
theorem dX5_select_28 : decode cX5_select 28 = .ok (.if_icmp .ne 12, 3) := by decide +kernel
theorem dX5_select_31 : decode cX5_select 31 = .ok (.aload_n 0, 1) := by decide +kernel
theorem dX5_select_32 : decode cX5_select 32 = .ok (.getfield 13, 3) := by decide +kernel
theorem dX5_select_35 : decode cX5_select 35 = .ok (.iload_n 2, 1) := by decide +kernel
theorem dX5_select_36 : decode cX5_select 36 = .ok (.iaload, 1) := by decide +kernel
theorem dX5_select_37 : decode cX5_select 37 = .ok (.ifCond .eq 7, 3) := by decide +kernel
theorem dX5_select_40 : decode cX5_select 40 = .ok (.iconst 2, 1) := by decide +kernel
theorem dX5_select_41 : decode cX5_select 41 = .ok (.goto 4, 3) := by decide +kernel
theorem dX5_select_44 : decode cX5_select 44 = .ok (.iconst 0, 1) := by decide +kernel
theorem dX5_select_45 : decode cX5_select 45 = .ok (.putfield 67, 3) := by decide +kernel
theorem dX5_select_48 : decode cX5_select 48 = .ok (.aload_n 0, 1) := by decide +kernel
theorem dX5_select_49 : decode cX5_select 49 = .ok (.getfield 67, 3) := by decide +kernel
theorem dX5_select_52 : decode cX5_select 52 = .ok (.ifCond .ne 14, 3) := by decide +kernel
theorem dX5_select_55 : decode cX5_select 55 = .ok (.aload_n 0, 1) := by decide +kernel
theorem dX5_select_56 : decode cX5_select 56 = .ok (.iconst 1, 1) := by decide +kernel
theorem dX5_select_57 : decode cX5_select 57 = .ok (.iload_n 1, 1) := by decide +kernel
theorem dX5_select_58 : decode cX5_select 58 = .ok (.iload_n 2, 1) := by decide +kernel
theorem dX5_select_59 : decode cX5_select 59 = .ok (.iconst 0, 1) := by decide +kernel
theorem dX5_select_60 : decode cX5_select 60 = .ok (.invokevirtual 95, 3) := by decide +kernel
theorem dX5_select_63 : decode cX5_select 63 = .ok (.goto 4, 3) := by decide +kernel
theorem dX5_select_66 : decode cX5_select 66 = .ok (.iconst 0, 1) := by decide +kernel
theorem dX5_select_67 : decode cX5_select 67 = .ok (.ireturn, 1) := by decide +kernel
theorem dX5_store_0 : decode cX5_store 0 = .ok (.aload_n 0, 1) := by decide +kernel
theorem dX5_store_1 : decode cX5_store 1 = .ok (.aload_n 0, 1) := by decide +kernel
theorem dX5_store_2 : decode cX5_store 2 = .ok (.iload_n 1, 1) := by decide +kernel
theorem dX5_store_3 : decode cX5_store 3 = .ok (.invokevirtual 91, 3) := by decide +kernel
theorem dX5_store_6 : decode cX5_store 6 = .ok (.ifCond .eq 19, 3) := by decide +kernel
theorem dX5_store_9 : decode cX5_store 9 = .ok (.aload_n 0, 1) := by decide +kernel
theorem dX5_store_10 : decode cX5_store 10 = .ok (.iload_n 2, 1) := by decide +kernel
theorem dX5_store_11 : decode cX5_store 11 = .ok (.invokevirtual 91, 3) := by decide +kernel
theorem dX5_store_14 : decode cX5_store 14 = .ok (.ifCond .eq 11, 3) := by decide +kernel
theorem dX5_store_17 : decode cX5_store 17 = .ok (.aload_n 0, 1) := by decide +kernel
theorem dX5_store_18 : decode cX5_store 18 = .ok (.iload_n 3, 1) := by decide +kernel
theorem dX5_store_19 : decode cX5_store 19 = .ok (.invokevirtual 91, 3) := by decide +kernel
theorem dX5_store_22 : decode cX5_store 22 = .ok (.ifCond .ne 7, 3) := by decide +kernel
theorem dX5_store_25 : decode cX5_store 25 = .ok (.iconst 1, 1) := by decide +kernel
theorem dX5_store_26 : decode cX5_store 26 = .ok (.goto 37, 3) := by decide +kernel
theorem dX5_store_29 : decode cX5_store 29 = .ok (.aload_n 0, 1) := by decide +kernel
theorem dX5_store_30 : decode cX5_store 30 = .ok (.getfield 13, 3) := by decide +kernel
theorem dX5_store_33 : decode cX5_store 33 = .ok (.iload_n 1, 1) := by decide +kernel
theorem dX5_store_34 : decode cX5_store 34 = .ok (.iaload, 1) := by decide +kernel
theorem dX5_store_35 : decode cX5_store 35 = .ok (.iconst 2, 1) := by decide +kernel
theorem dX5_store_36 : decode cX5_store 36 = .ok (.if_icmp .ne 22, 3) := by decide +kernel
theorem dX5_store_39 : decode cX5_store 39 = .ok (.aload_n 0, 1) := by decide +kernel
theorem dX5_store_40 : decode cX5_store 40 = .ok (.getfield 13, 3) := by decide +kernel
theorem dX5_store_43 : decode cX5_store 43 = .ok (.iload_n 2, 1) := by decide +kernel
theorem dX5_store_44 : decode cX5_store 44 = .ok (.iaload, 1) := by decide +kernel
theorem dX5_store_45 : decode cX5_store 45 = .ok (.ifCond .ne 13, 3) := by decide +kernel
theorem dX5_store_48 : decode cX5_store 48 = .ok (.aload_n 0, 1) := by decide +kernel
theorem dX5_store_49 : decode cX5_store 49 = .ok (.getfield 13, 3) := by decide +kernel
theorem dX5_store_52 : decode cX5_store 52 = .ok (.iload_n 3, 1) := by decide +kernel
theorem dX5_store_53 : decode cX5_store 53 = .ok (.iaload, 1) := by decide +kernel
theorem dX5_store_54 : decode cX5_store 54 = .ok (.iconst 1, 1) := by decide +kernel
theorem dX5_store_55 : decode cX5_store 55 = .ok (.if_icmp .eq 7, 3) := by decide +kernel
theorem dX5_store_58 : decode cX5_store 58 = .ok (.iconst 2, 1) := by decide +kernel
theorem dX5_store_59 : decode cX5_store 59 = .ok (.goto 4, 3) := by decide +kernel
theorem dX5_store_62 : decode cX5_store 62 = .ok (.iconst 0, 1) := by decide +kernel
theorem dX5_store_63 : decode cX5_store 63 = .ok (.putfield 67, 3) := by decide +kernel
theorem dX5_store_66 : decode cX5_store 66 = .ok (.aload_n 0, 1) := by decide +kernel
theorem dX5_store_67 : decode cX5_store 67 = .ok (.getfield 67, 3) := by decide +kernel
theorem dX5_store_70 : decode cX5_store 70 = .ok (.ifCond .ne 14, 3) := by decide +kernel
theorem dX5_store_73 : decode cX5_store 73 = .ok (.aload_n 0, 1) := by decide +kernel
theorem dX5_store_74 : decode cX5_store 74 = .ok (.iconst 2, 1) := by decide +kernel
theorem dX5_store_75 : decode cX5_store 75 = .ok (.iload_n 1, 1) := by decide +kernel
theorem dX5_store_76 : decode cX5_store 76 = .ok (.iload_n 2, 1) := by decide +kernel
theorem dX5_store_77 : decode cX5_store 77 = .ok (.iload_n 3, 1) := by decide +kernel
theorem dX5_store_78 : decode cX5_store 78 = .ok (.invokevirtual 95, 3) := by decide +kernel
theorem dX5_store_81 : decode cX5_store 81 = .ok (.goto 4, 3) := by decide +kernel
theorem dX5_store_84 : decode cX5_store 84 = .ok (.iconst 0, 1) := by decide +kernel
theorem dX5_store_85 : decode cX5_store 85 = .ok (.ireturn, 1) := by decide +kernel
theorem dX5_terms_0 : decode cX5_terms 0 = .ok (.aload_n 0, 1) := by decide +kernel
theorem dX5_terms_1 : decode cX5_terms 1 = .ok (.iconst 0, 1) := by decide +kernel
theorem dX5_terms_2 : decode cX5_terms 2 = .ok (.putfield 67, 3) := by decide +kernel
theorem dX5_terms_5 : decode cX5_terms 5 = .ok (.aload_n 0, 1) := by decide +kernel
theorem dX5_terms_6 : decode cX5_terms 6 = .ok (.getfield 7, 3) := by decide +kernel
theorem dX5_terms_9 : decode cX5_terms 9 = .ok (.ireturn, 1) := by decide +kernel
theorem dX5_sort_0 : decode cX5_sort 0 = .ok (.aload_n 0, 1) := by decide +kernel
theorem dX5_sort_1 : decode cX5_sort 1 = .ok (.iconst 0, 1) := by decide +kernel
theorem dX5_sort_2 : decode cX5_sort 2 = .ok (.putfield 67, 3) := by decide +kernel
theorem dX5_sort_5 : decode cX5_sort 5 = .ok (.aload_n 0, 1) := by decide +kernel
theorem dX5_sort_6 : decode cX5_sort 6 = .ok (.iload_n 1, 1) := by decide +kernel
theorem dX5_sort_7 : decode cX5_sort 7 = .ok (.invokevirtual 91, 3) := by decide +kernel
theorem dX5_sort_10 : decode cX5_sort 10 = .ok (.ifCond .eq 12, 3) := by decide +kernel
theorem dX5_sort_13 : decode cX5_sort 13 = .ok (.aload_n 0, 1) := by decide +kernel
theorem dX5_sort_14 : decode cX5_sort 14 = .ok (.getfield 13, 3) := by decide +kernel
theorem dX5_sort_17 : decode cX5_sort 17 = .ok (.iload_n 1, 1) := by decide +kernel
theorem dX5_sort_18 : decode cX5_sort 18 = .ok (.iaload, 1) := by decide +kernel
theorem dX5_sort_19 : decode cX5_sort 19 = .ok (.goto 4, 3) := by decide +kernel
theorem dX5_sort_22 : decode cX5_sort 22 = .ok (.iconst (-1), 1) := by decide +kernel
theorem dX5_sort_23 : decode cX5_sort 23 = .ok (.ireturn, 1) := by decide +kernel
theorem dX5_areSame_0 : decode cX5_areSame 0 = .ok (.aload_n 0, 1) := by decide +kernel
theorem dX5_areSame_1 : decode cX5_areSame 1 = .ok (.getfield 35, 3) := by decide +kernel
theorem dX5_areSame_4 : decode cX5_areSame 4 = .ok (.bipush 24, 2) := by decide +kernel
theorem dX5_areSame_6 : decode cX5_areSame 6 = .ok (.iload_n 3, 1) := by decide +kernel
theorem dX5_areSame_7 : decode cX5_areSame 7 = .ok (.imul, 1) := by decide +kernel
theorem dX5_areSame_8 : decode cX5_areSame 8 = .ok (.iload_n 1, 1) := by decide +kernel
theorem dX5_areSame_9 : decode cX5_areSame 9 = .ok (.iadd, 1) := by decide +kernel
theorem dX5_areSame_10 : decode cX5_areSame 10 = .ok (.iaload, 1) := by decide +kernel
theorem dX5_areSame_11 : decode cX5_areSame 11 = .ok (.istore 6, 2) := by decide +kernel
theorem dX5_areSame_13 : decode cX5_areSame 13 = .ok (.aload_n 0, 1) := by decide +kernel
theorem dX5_areSame_14 : decode cX5_areSame 14 = .ok (.getfield 35, 3) := by decide +kernel
theorem dX5_areSame_17 : decode cX5_areSame 17 = .ok (.bipush 24, 2) := by decide +kernel
theorem dX5_areSame_19 : decode cX5_areSame 19 = .ok (.iload_n 3, 1) := by decide +kernel
theorem dX5_areSame_20 : decode cX5_areSame 20 = .ok (.imul, 1) := by decide +kernel
theorem dX5_areSame_21 : decode cX5_areSame 21 = .ok (.iload_n 2, 1) := by decide +kernel
theorem dX5_areSame_22 : decode cX5_areSame 22 = .ok (.iadd, 1) := by decide +kernel
theorem dX5_areSame_23 : decode cX5_areSame 23 = .ok (.iaload, 1) := by decide +kernel
theorem dX5_areSame_24 : decode cX5_areSame 24 = .ok (.istore 7, 2) := by decide +kernel
theorem dX5_areSame_26 : decode cX5_areSame 26 = .ok (.aload_n 0, 1) := by decide +kernel
theorem dX5_areSame_27 : decode cX5_areSame 27 = .ok (.getfield 13, 3) := by decide +kernel
theorem dX5_areSame_30 : decode cX5_areSame 30 = .ok (.iload_n 1, 1) := by decide +kernel
theorem dX5_areSame_31 : decode cX5_areSame 31 = .ok (.iaload, 1) := by decide +kernel
theorem dX5_areSame_32 : decode cX5_areSame 32 = .ok (.ifCond .ne 16, 3) := by decide +kernel
theorem dX5_areSame_35 : decode cX5_areSame 35 = .ok (.iload 6, 2) := by decide +kernel
theorem dX5_areSame_37 : decode cX5_areSame 37 = .ok (.iload 7, 2) := by decide +kernel
theorem dX5_areSame_39 : decode cX5_areSame 39 = .ok (.if_icmp .ne 7, 3) := by decide +kernel
theorem dX5_areSame_42 : decode cX5_areSame 42 = .ok (.iconst 1, 1) := by decide +kernel
theorem dX5_areSame_43 : decode cX5_areSame 43 = .ok (.goto 4, 3) := by decide +kernel
theorem dX5_areSame_46 : decode cX5_areSame 46 = .ok (.iconst 0, 1) := by decide +kernel
theorem dX5_areSame_47 : decode cX5_areSame 47 = .ok (.ireturn, 1) := by decide +kernel
theorem dX5_areSame_48 : decode cX5_areSame 48 = .ok (.aload_n 0, 1) := by decide +kernel
theorem dX5_areSame_49 : decode cX5_areSame 49 = .ok (.getfield 13, 3) := by decide +kernel
theorem dX5_areSame_52 : decode cX5_areSame 52 = .ok (.iload_n 1, 1) := by decide +kernel
theorem dX5_areSame_53 : decode cX5_areSame 53 = .ok (.iaload, 1) := by decide +kernel
theorem dX5_areSame_54 : decode cX5_areSame 54 = .ok (.iconst 1, 1) := by decide +kernel
theorem dX5_areSame_55 : decode cX5_areSame 55 = .ok (.if_icmp .ne 26, 3) := by decide +kernel
theorem dX5_areSame_58 : decode cX5_areSame 58 = .ok (.iload 4, 2) := by decide +kernel
theorem dX5_areSame_60 : decode cX5_areSame 60 = .ok (.iload 6, 2) := by decide +kernel
theorem dX5_areSame_62 : decode cX5_areSame 62 = .ok (.invokestatic 74, 3) := by decide +kernel
theorem dX5_areSame_65 : decode cX5_areSame 65 = .ok (.iload 4, 2) := by decide +kernel
theorem dX5_areSame_67 : decode cX5_areSame 67 = .ok (.iload 7, 2) := by decide +kernel
theorem dX5_areSame_69 : decode cX5_areSame 69 = .ok (.invokestatic 74, 3) := by decide +kernel
theorem dX5_areSame_72 : decode cX5_areSame 72 = .ok (.if_icmp .ne 7, 3) := by decide +kernel
theorem dX5_areSame_75 : decode cX5_areSame 75 = .ok (.iconst 1, 1) := by decide +kernel
theorem dX5_areSame_76 : decode cX5_areSame 76 = .ok (.goto 4, 3) := by decide +kernel
theorem dX5_areSame_79 : decode cX5_areSame 79 = .ok (.iconst 0, 1) := by decide +kernel
theorem dX5_areSame_80 : decode cX5_areSame 80 = .ok (.ireturn, 1) := by decide +kernel
theorem dX5_areSame_81 : decode cX5_areSame 81 = .ok (.iload 5, 2) := by decide +kernel
theorem dX5_areSame_83 : decode cX5_areSame 83 = .ok (.ifCond .ne 14, 3) := by decide +kernel
theorem dX5_areSame_86 : decode cX5_areSame 86 = .ok (.iload 6, 2) := by decide +kernel
theorem dX5_areSame_88 : decode cX5_areSame 88 = .ok (.iconst 1, 1) := by decide +kernel
theorem dX5_areSame_89 : decode cX5_areSame 89 = .ok (.iand, 1) := by decide +kernel
theorem dX5_areSame_90 : decode cX5_areSame 90 = .ok (.iload 7, 2) := by decide +kernel
theorem dX5_areSame_92 : decode cX5_areSame 92 = .ok (.iconst 1, 1) := by decide +kernel
theorem dX5_areSame_93 : decode cX5_areSame 93 = .ok (.iand, 1) := by decide +kernel
theorem dX5_areSame_94 : decode cX5_areSame 94 = .ok (.if_icmp .ne 7, 3) := by decide +kernel
theorem dX5_areSame_97 : decode cX5_areSame 97 = .ok (.iconst 1, 1) := by decide +kernel
theorem dX5_areSame_98 : decode cX5_areSame 98 = .ok (.goto 4, 3) := by decide +kernel
theorem dX5_areSame_101 : decode cX5_areSame 101 = .ok (.iconst 0, 1) := by decide +kernel
theorem dX5_areSame_102 : decode cX5_areSame 102 = .ok (.istore 8, 2) := by decide +kernel
theorem dX5_areSame_104 : decode cX5_areSame 104 = .ok (.iconst 0, 1) := by decide +kernel
theorem dX5_areSame_105 : decode cX5_areSame 105 = .ok (.istore 9, 2) := by decide +kernel
theorem dX5_areSame_107 : decode cX5_areSame 107 = .ok (.iload 9, 2) := by decide +kernel
theorem dX5_areSame_109 : decode cX5_areSame 109 = .ok (.aload_n 0, 1) := by decide +kernel
theorem dX5_areSame_110 : decode cX5_areSame 110 = .ok (.getfield 32, 3) := by decide +kernel
theorem dX5_areSame_113 : decode cX5_areSame 113 = .ok (.iload_n 3, 1) := by decide +kernel
theorem dX5_areSame_114 : decode cX5_areSame 114 = .ok (.iaload, 1) := by decide +kernel
theorem dX5_areSame_115 : decode cX5_areSame 115 = .ok (.if_icmp .ge 48, 3) := by decide +kernel
theorem dX5_areSame_118 : decode cX5_areSame 118 = .ok (.iload 8, 2) := by decide +kernel
theorem dX5_areSame_120 : decode cX5_areSame 120 = .ok (.ifCond .eq 34, 3) := by decide +kernel
theorem dX5_areSame_123 : decode cX5_areSame 123 = .ok (.iload 4, 2) := by decide +kernel
theorem dX5_areSame_125 : decode cX5_areSame 125 = .ok (.iload 6, 2) := by decide +kernel
theorem dX5_areSame_127 : decode cX5_areSame 127 = .ok (.iload 9, 2) := by decide +kernel
theorem dX5_areSame_129 : decode cX5_areSame 129 = .ok (.invokestatic 88, 3) := by decide +kernel
theorem dX5_areSame_132 : decode cX5_areSame 132 = .ok (.invokestatic 74, 3) := by decide +kernel
theorem dX5_areSame_135 : decode cX5_areSame 135 = .ok (.iload 4, 2) := by decide +kernel
theorem dX5_areSame_137 : decode cX5_areSame 137 = .ok (.iload 7, 2) := by decide +kernel
theorem dX5_areSame_139 : decode cX5_areSame 139 = .ok (.iload 9, 2) := by decide +kernel
theorem dX5_areSame_141 : decode cX5_areSame 141 = .ok (.invokestatic 88, 3) := by decide +kernel
theorem dX5_areSame_144 : decode cX5_areSame 144 = .ok (.invokestatic 74, 3) := by decide +kernel
theorem dX5_areSame_147 : decode cX5_areSame 147 = .ok (.if_icmp .ne 7, 3) := by decide +kernel
theorem dX5_areSame_150 : decode cX5_areSame 150 = .ok (.iconst 1, 1) := by decide +kernel
theorem dX5_areSame_151 : decode cX5_areSame 151 = .ok (.goto 4, 3) := by decide +kernel
theorem dX5_areSame_154 : decode cX5_areSame 154 = .ok (.iconst 0, 1) := by decide +kernel
theorem dX5_areSame_155 : decode cX5_areSame 155 = .ok (.istore 8, 2) := by decide +kernel
theorem dX5_areSame_157 : decode cX5_areSame 157 = .ok (.iinc 9 1, 3) := by decide +kernel
theorem dX5_areSame_160 : decode cX5_areSame 160 = .ok (.goto (-53), 3) := by decide +kernel
theorem dX5_areSame_163 : decode cX5_areSame 163 = .ok (.iload 8, 2) := by decide +kernel
theorem dX5_areSame_165 : decode cX5_areSame 165 = .ok (.ireturn, 1) := by decide +kernel
theorem dX5_sameIn_0 : decode cX5_sameIn 0 = .ok (.iload 4, 2) := by decide +kernel
theorem dX5_sameIn_2 : decode cX5_sameIn 2 = .ok (.aload_n 0, 1) := by decide +kernel
theorem dX5_sameIn_3 : decode cX5_sameIn 3 = .ok (.getfield 50, 3) := by decide +kernel
theorem dX5_sameIn_6 : decode cX5_sameIn 6 = .ok (.iload_n 3, 1) := by decide +kernel
theorem dX5_sameIn_7 : decode cX5_sameIn 7 = .ok (.iaload, 1) := by decide +kernel
theorem dX5_sameIn_8 : decode cX5_sameIn 8 = .ok (.isub, 1) := by decide +kernel
theorem dX5_sameIn_9 : decode cX5_sameIn 9 = .ok (.istore 5, 2) := by decide +kernel
theorem dX5_sameIn_11 : decode cX5_sameIn 11 = .ok (.aload_n 0, 1) := by decide +kernel
theorem dX5_sameIn_12 : decode cX5_sameIn 12 = .ok (.iload_n 1, 1) := by decide +kernel
theorem dX5_sameIn_13 : decode cX5_sameIn 13 = .ok (.iload_n 2, 1) := by decide +kernel
theorem dX5_sameIn_14 : decode cX5_sameIn 14 = .ok (.iload_n 3, 1) := by decide +kernel
theorem dX5_sameIn_15 : decode cX5_sameIn 15 = .ok (.aload_n 0, 1) := by decide +kernel
theorem dX5_sameIn_16 : decode cX5_sameIn 16 = .ok (.getfield 38, 3) := by decide +kernel
theorem dX5_sameIn_19 : decode cX5_sameIn 19 = .ok (.aload_n 0, 1) := by decide +kernel
theorem dX5_sameIn_20 : decode cX5_sameIn 20 = .ok (.getfield 41, 3) := by decide +kernel
theorem dX5_sameIn_23 : decode cX5_sameIn 23 = .ok (.aload_n 0, 1) := by decide +kernel
theorem dX5_sameIn_24 : decode cX5_sameIn 24 = .ok (.getfield 32, 3) := by decide +kernel
theorem dX5_sameIn_27 : decode cX5_sameIn 27 = .ok (.iload_n 3, 1) := by decide +kernel
theorem dX5_sameIn_28 : decode cX5_sameIn 28 = .ok (.iaload, 1) := by decide +kernel
theorem dX5_sameIn_29 : decode cX5_sameIn 29 = .ok (.iconst 1, 1) := by decide +kernel
theorem dX5_sameIn_30 : decode cX5_sameIn 30 = .ok (.isub, 1) := by decide +kernel
theorem dX5_sameIn_31 : decode cX5_sameIn 31 = .ok (.iaload, 1) := by decide +kernel
theorem dX5_sameIn_32 : decode cX5_sameIn 32 = .ok (.iload 5, 2) := by decide +kernel
theorem dX5_sameIn_34 : decode cX5_sameIn 34 = .ok (.iconst 2, 1) := by decide +kernel
theorem dX5_sameIn_35 : decode cX5_sameIn 35 = .ok (.idiv, 1) := by decide +kernel
theorem dX5_sameIn_36 : decode cX5_sameIn 36 = .ok (.iadd, 1) := by decide +kernel
theorem dX5_sameIn_37 : decode cX5_sameIn 37 = .ok (.iaload, 1) := by decide +kernel
theorem dX5_sameIn_38 : decode cX5_sameIn 38 = .ok (.iload 5, 2) := by decide +kernel
theorem dX5_sameIn_40 : decode cX5_sameIn 40 = .ok (.iconst 2, 1) := by decide +kernel
theorem dX5_sameIn_41 : decode cX5_sameIn 41 = .ok (.irem, 1) := by decide +kernel
theorem dX5_sameIn_42 : decode cX5_sameIn 42 = .ok (.iconst 1, 1) := by decide +kernel
theorem dX5_sameIn_43 : decode cX5_sameIn 43 = .ok (.if_icmp .ne 7, 3) := by decide +kernel
theorem dX5_sameIn_46 : decode cX5_sameIn 46 = .ok (.iconst 1, 1) := by decide +kernel
theorem dX5_sameIn_47 : decode cX5_sameIn 47 = .ok (.goto 4, 3) := by decide +kernel
theorem dX5_sameIn_50 : decode cX5_sameIn 50 = .ok (.iconst 0, 1) := by decide +kernel
theorem dX5_sameIn_51 : decode cX5_sameIn 51 = .ok (.invokevirtual 98, 3) := by decide +kernel
theorem dX5_sameIn_54 : decode cX5_sameIn 54 = .ok (.ireturn, 1) := by decide +kernel
theorem dX5_draftHolds_0 : decode cX5_draftHolds 0 = .ok (.iconst 0, 1) := by decide +kernel
theorem dX5_draftHolds_1 : decode cX5_draftHolds 1 = .ok (.istore_n 3, 1) := by decide +kernel
theorem dX5_draftHolds_2 : decode cX5_draftHolds 2 = .ok (.iconst 0, 1) := by decide +kernel
theorem dX5_draftHolds_3 : decode cX5_draftHolds 3 = .ok (.istore 4, 2) := by decide +kernel
theorem dX5_draftHolds_5 : decode cX5_draftHolds 5 = .ok (.iload 4, 2) := by decide +kernel
theorem dX5_draftHolds_7 : decode cX5_draftHolds 7 = .ok (.aload_n 0, 1) := by decide +kernel
theorem dX5_draftHolds_8 : decode cX5_draftHolds 8 = .ok (.getfield 102, 3) := by decide +kernel
theorem dX5_draftHolds_11 : decode cX5_draftHolds 11 = .ok (.if_icmp .ge 49, 3) := by decide +kernel
theorem dX5_draftHolds_14 : decode cX5_draftHolds 14 = .ok (.iload_n 3, 1) := by decide +kernel
theorem dX5_draftHolds_15 : decode cX5_draftHolds 15 = .ok (.ifCond .ne 33, 3) := by decide +kernel
theorem dX5_draftHolds_18 : decode cX5_draftHolds 18 = .ok (.aload_n 0, 1) := by decide +kernel
theorem dX5_draftHolds_19 : decode cX5_draftHolds 19 = .ok (.aload_n 0, 1) := by decide +kernel
theorem dX5_draftHolds_20 : decode cX5_draftHolds 20 = .ok (.getfield 53, 3) := by decide +kernel
theorem dX5_draftHolds_23 : decode cX5_draftHolds 23 = .ok (.iload 4, 2) := by decide +kernel
theorem dX5_draftHolds_25 : decode cX5_draftHolds 25 = .ok (.iaload, 1) := by decide +kernel
theorem dX5_draftHolds_26 : decode cX5_draftHolds 26 = .ok (.aload_n 0, 1) := by decide +kernel
theorem dX5_draftHolds_27 : decode cX5_draftHolds 27 = .ok (.getfield 56, 3) := by decide +kernel
theorem dX5_draftHolds_30 : decode cX5_draftHolds 30 = .ok (.iload 4, 2) := by decide +kernel
theorem dX5_draftHolds_32 : decode cX5_draftHolds 32 = .ok (.iaload, 1) := by decide +kernel
theorem dX5_draftHolds_33 : decode cX5_draftHolds 33 = .ok (.iload_n 1, 1) := by decide +kernel
theorem dX5_draftHolds_34 : decode cX5_draftHolds 34 = .ok (.iload_n 2, 1) := by decide +kernel
theorem dX5_draftHolds_35 : decode cX5_draftHolds 35 = .ok (.invokevirtual 105, 3) := by decide +kernel
theorem dX5_draftHolds_38 : decode cX5_draftHolds 38 = .ok (.aload_n 0, 1) := by decide +kernel
theorem dX5_draftHolds_39 : decode cX5_draftHolds 39 = .ok (.getfield 59, 3) := by decide +kernel
theorem dX5_draftHolds_42 : decode cX5_draftHolds 42 = .ok (.iload 4, 2) := by decide +kernel
theorem dX5_draftHolds_44 : decode cX5_draftHolds 44 = .ok (.baload, 1) := by decide +kernel
theorem dX5_draftHolds_45 : decode cX5_draftHolds 45 = .ok (.if_icmp .ne 7, 3) := by decide +kernel
theorem dX5_draftHolds_48 : decode cX5_draftHolds 48 = .ok (.iconst 1, 1) := by decide +kernel
theorem dX5_draftHolds_49 : decode cX5_draftHolds 49 = .ok (.goto 4, 3) := by decide +kernel
theorem dX5_draftHolds_52 : decode cX5_draftHolds 52 = .ok (.iconst 0, 1) := by decide +kernel
theorem dX5_draftHolds_53 : decode cX5_draftHolds 53 = .ok (.istore_n 3, 1) := by decide +kernel
theorem dX5_draftHolds_54 : decode cX5_draftHolds 54 = .ok (.iinc 4 1, 3) := by decide +kernel
theorem dX5_draftHolds_57 : decode cX5_draftHolds 57 = .ok (.goto (-52), 3) := by decide +kernel
theorem dX5_draftHolds_60 : decode cX5_draftHolds 60 = .ok (.iload_n 3, 1) := by decide +kernel
theorem dX5_draftHolds_61 : decode cX5_draftHolds 61 = .ok (.ireturn, 1) := by decide +kernel
theorem dX5_literal_0 : decode cX5_literal 0 = .ok (.aload_n 0, 1) := by decide +kernel
theorem dX5_literal_1 : decode cX5_literal 1 = .ok (.aload_n 0, 1) := by decide +kernel
theorem dX5_literal_2 : decode cX5_literal 2 = .ok (.iload_n 1, 1) := by decide +kernel
theorem dX5_literal_3 : decode cX5_literal 3 = .ok (.invokevirtual 91, 3) := by decide +kernel
theorem dX5_literal_6 : decode cX5_literal 6 = .ok (.ifCond .eq 11, 3) := by decide +kernel
theorem dX5_literal_9 : decode cX5_literal 9 = .ok (.aload_n 0, 1) := by decide +kernel
theorem dX5_literal_10 : decode cX5_literal 10 = .ok (.iload_n 2, 1) := by decide +kernel
theorem dX5_literal_11 : decode cX5_literal 11 = .ok (.invokevirtual 91, 3) := by decide +kernel
theorem dX5_literal_14 : decode cX5_literal 14 = .ok (.ifCond .ne 7, 3) := by decide +kernel
theorem dX5_literal_17 : decode cX5_literal 17 = .ok (.iconst 1, 1) := by decide +kernel
theorem dX5_literal_18 : decode cX5_literal 18 = .ok (.goto 35, 3) := by decide +kernel
theorem dX5_literal_21 : decode cX5_literal 21 = .ok (.aload_n 0, 1) := by decide +kernel
theorem dX5_literal_22 : decode cX5_literal 22 = .ok (.getfield 13, 3) := by decide +kernel
theorem dX5_literal_25 : decode cX5_literal 25 = .ok (.iload_n 1, 1) := by decide +kernel
theorem dX5_literal_26 : decode cX5_literal 26 = .ok (.iaload, 1) := by decide +kernel
theorem dX5_literal_27 : decode cX5_literal 27 = .ok (.aload_n 0, 1) := by decide +kernel
theorem dX5_literal_28 : decode cX5_literal 28 = .ok (.getfield 13, 3) := by decide +kernel
theorem dX5_literal_31 : decode cX5_literal 31 = .ok (.iload_n 2, 1) := by decide +kernel
theorem dX5_literal_32 : decode cX5_literal 32 = .ok (.iaload, 1) := by decide +kernel
theorem dX5_literal_33 : decode cX5_literal 33 = .ok (.if_icmp .eq 7, 3) := by decide +kernel
theorem dX5_literal_36 : decode cX5_literal 36 = .ok (.iconst 2, 1) := by decide +kernel
theorem dX5_literal_37 : decode cX5_literal 37 = .ok (.goto 16, 3) := by decide +kernel
theorem dX5_literal_40 : decode cX5_literal 40 = .ok (.aload_n 0, 1) := by decide +kernel
theorem dX5_literal_41 : decode cX5_literal 41 = .ok (.getfield 102, 3) := by decide +kernel
theorem dX5_literal_44 : decode cX5_literal 44 = .ok (.iconst 3, 1) := by decide +kernel
theorem dX5_literal_45 : decode cX5_literal 45 = .ok (.if_icmp .ne 7, 3) := by decide +kernel
theorem dX5_literal_48 : decode cX5_literal 48 = .ok (.iconst 3, 1) := by decide +kernel
theorem dX5_literal_49 : decode cX5_literal 49 = .ok (.goto 4, 3) := by decide +kernel
theorem dX5_literal_52 : decode cX5_literal 52 = .ok (.iconst 0, 1) := by decide +kernel
theorem dX5_literal_53 : decode cX5_literal 53 = .ok (.putfield 67, 3) := by decide +kernel
theorem dX5_literal_56 : decode cX5_literal 56 = .ok (.aload_n 0, 1) := by decide +kernel
theorem dX5_literal_57 : decode cX5_literal 57 = .ok (.getfield 67, 3) := by decide +kernel
theorem dX5_literal_60 : decode cX5_literal 60 = .ok (.ifCond .le 5, 3) := by decide +kernel
theorem dX5_literal_63 : decode cX5_literal 63 = .ok (.iconst 0, 1) := by decide +kernel
theorem dX5_literal_64 : decode cX5_literal 64 = .ok (.ireturn, 1) := by decide +kernel
theorem dX5_literal_65 : decode cX5_literal 65 = .ok (.aload_n 0, 1) := by decide +kernel
theorem dX5_literal_66 : decode cX5_literal 66 = .ok (.getfield 53, 3) := by decide +kernel
theorem dX5_literal_69 : decode cX5_literal 69 = .ok (.aload_n 0, 1) := by decide +kernel
theorem dX5_literal_70 : decode cX5_literal 70 = .ok (.getfield 102, 3) := by decide +kernel
theorem dX5_literal_73 : decode cX5_literal 73 = .ok (.iload_n 1, 1) := by decide +kernel
theorem dX5_literal_74 : decode cX5_literal 74 = .ok (.iastore, 1) := by decide +kernel
theorem dX5_literal_75 : decode cX5_literal 75 = .ok (.aload_n 0, 1) := by decide +kernel
theorem dX5_literal_76 : decode cX5_literal 76 = .ok (.getfield 56, 3) := by decide +kernel
theorem dX5_literal_79 : decode cX5_literal 79 = .ok (.aload_n 0, 1) := by decide +kernel
theorem dX5_literal_80 : decode cX5_literal 80 = .ok (.getfield 102, 3) := by decide +kernel
theorem dX5_literal_83 : decode cX5_literal 83 = .ok (.iload_n 2, 1) := by decide +kernel
theorem dX5_literal_84 : decode cX5_literal 84 = .ok (.iastore, 1) := by decide +kernel
theorem dX5_literal_85 : decode cX5_literal 85 = .ok (.aload_n 0, 1) := by decide +kernel
theorem dX5_literal_86 : decode cX5_literal 86 = .ok (.getfield 59, 3) := by decide +kernel
theorem dX5_literal_89 : decode cX5_literal 89 = .ok (.aload_n 0, 1) := by decide +kernel
theorem dX5_literal_90 : decode cX5_literal 90 = .ok (.getfield 102, 3) := by decide +kernel
theorem dX5_literal_93 : decode cX5_literal 93 = .ok (.iload_n 3, 1) := by decide +kernel
theorem dX5_literal_94 : decode cX5_literal 94 = .ok (.bastore, 1) := by decide +kernel
theorem dX5_literal_95 : decode cX5_literal 95 = .ok (.aload_n 0, 1) := by decide +kernel
theorem dX5_literal_96 : decode cX5_literal 96 = .ok (.dup, 1) := by decide +kernel
theorem dX5_literal_97 : decode cX5_literal 97 = .ok (.getfield 102, 3) := by decide +kernel
theorem dX5_literal_100 : decode cX5_literal 100 = .ok (.iconst 1, 1) := by decide +kernel
theorem dX5_literal_101 : decode cX5_literal 101 = .ok (.iadd, 1) := by decide +kernel
theorem dX5_literal_102 : decode cX5_literal 102 = .ok (.putfield 102, 3) := by decide +kernel
theorem dX5_literal_105 : decode cX5_literal 105 = .ok (.aload_n 0, 1) := by decide +kernel
theorem dX5_literal_106 : decode cX5_literal 106 = .ok (.getfield 102, 3) := by decide +kernel
theorem dX5_literal_109 : decode cX5_literal 109 = .ok (.ireturn, 1) := by decide +kernel
theorem dX5_draft_0 : decode cX5_draft 0 = .ok (.aload_n 0, 1) := by decide +kernel
theorem dX5_draft_1 : decode cX5_draft 1 = .ok (.iconst 0, 1) := by decide +kernel
theorem dX5_draft_2 : decode cX5_draft 2 = .ok (.putfield 67, 3) := by decide +kernel
theorem dX5_draft_5 : decode cX5_draft 5 = .ok (.aload_n 0, 1) := by decide +kernel
theorem dX5_draft_6 : decode cX5_draft 6 = .ok (.getfield 102, 3) := by decide +kernel
theorem dX5_draft_9 : decode cX5_draft 9 = .ok (.ireturn, 1) := by decide +kernel
theorem dX5_clear_0 : decode cX5_clear 0 = .ok (.aload_n 0, 1) := by decide +kernel
theorem dX5_clear_1 : decode cX5_clear 1 = .ok (.iconst 0, 1) := by decide +kernel
theorem dX5_clear_2 : decode cX5_clear 2 = .ok (.putfield 67, 3) := by decide +kernel
theorem dX5_clear_5 : decode cX5_clear 5 = .ok (.aload_n 0, 1) := by decide +kernel
theorem dX5_clear_6 : decode cX5_clear 6 = .ok (.iconst 0, 1) := by decide +kernel
theorem dX5_clear_7 : decode cX5_clear 7 = .ok (.putfield 102, 3) := by decide +kernel
theorem dX5_clear_10 : decode cX5_clear 10 = .ok (.return_, 1) := by decide +kernel
theorem dX5_claim_0 : decode cX5_claim 0 = .ok (.aload_n 0, 1) := by decide +kernel
theorem dX5_claim_1 : decode cX5_claim 1 = .ok (.aload_n 0, 1) := by decide +kernel
theorem dX5_claim_2 : decode cX5_claim 2 = .ok (.getfield 102, 3) := by decide +kernel
theorem dX5_claim_5 : decode cX5_claim 5 = .ok (.ifCond .ne 7, 3) := by decide +kernel
theorem dX5_claim_8 : decode cX5_claim 8 = .ok (.iconst 1, 1) := by decide +kernel
theorem dX5_claim_9 : decode cX5_claim 9 = .ok (.goto 17, 3) := by decide +kernel
theorem dX5_claim_12 : decode cX5_claim 12 = .ok (.aload_n 0, 1) := by decide +kernel
theorem dX5_claim_13 : decode cX5_claim 13 = .ok (.getfield 109, 3) := by decide +kernel
theorem dX5_claim_16 : decode cX5_claim 16 = .ok (.bipush 8, 2) := by decide +kernel
theorem dX5_claim_18 : decode cX5_claim 18 = .ok (.if_icmp .ne 7, 3) := by decide +kernel
theorem dX5_claim_21 : decode cX5_claim 21 = .ok (.iconst 2, 1) := by decide +kernel
theorem dX5_claim_22 : decode cX5_claim 22 = .ok (.goto 4, 3) := by decide +kernel
theorem dX5_claim_25 : decode cX5_claim 25 = .ok (.iconst 0, 1) := by decide +kernel
theorem dX5_claim_26 : decode cX5_claim 26 = .ok (.putfield 67, 3) := by decide +kernel
theorem dX5_claim_29 : decode cX5_claim 29 = .ok (.aload_n 0, 1) := by decide +kernel
theorem dX5_claim_30 : decode cX5_claim 30 = .ok (.getfield 67, 3) := by decide +kernel
theorem dX5_claim_33 : decode cX5_claim 33 = .ok (.ifCond .le 5, 3) := by decide +kernel
theorem dX5_claim_36 : decode cX5_claim 36 = .ok (.iconst 0, 1) := by decide +kernel
theorem dX5_claim_37 : decode cX5_claim 37 = .ok (.ireturn, 1) := by decide +kernel
theorem dX5_claim_38 : decode cX5_claim 38 = .ok (.iconst 1, 1) := by decide +kernel
theorem dX5_claim_39 : decode cX5_claim 39 = .ok (.aload_n 0, 1) := by decide +kernel
theorem dX5_claim_40 : decode cX5_claim 40 = .ok (.getfield 109, 3) := by decide +kernel
theorem dX5_claim_43 : decode cX5_claim 43 = .ok (.ishl, 1) := by decide +kernel
theorem dX5_claim_44 : decode cX5_claim 44 = .ok (.istore_n 1, 1) := by decide +kernel
theorem dX5_claim_45 : decode cX5_claim 45 = .ok (.iconst 0, 1) := by decide +kernel
theorem dX5_claim_46 : decode cX5_claim 46 = .ok (.istore_n 2, 1) := by decide +kernel
theorem dX5_claim_47 : decode cX5_claim 47 = .ok (.iload_n 2, 1) := by decide +kernel
theorem dX5_claim_48 : decode cX5_claim 48 = .ok (.iconst 5, 1) := by decide +kernel
theorem dX5_claim_49 : decode cX5_claim 49 = .ok (.if_icmp .ge 70, 3) := by decide +kernel
theorem dX5_claim_52 : decode cX5_claim 52 = .ok (.aload_n 0, 1) := by decide +kernel
theorem dX5_claim_53 : decode cX5_claim 53 = .ok (.getfield 50, 3) := by decide +kernel
theorem dX5_claim_56 : decode cX5_claim 56 = .ok (.iload_n 2, 1) := by decide +kernel
theorem dX5_claim_57 : decode cX5_claim 57 = .ok (.iaload, 1) := by decide +kernel
theorem dX5_claim_58 : decode cX5_claim 58 = .ok (.istore_n 3, 1) := by decide +kernel
theorem dX5_claim_59 : decode cX5_claim 59 = .ok (.iload_n 3, 1) := by decide +kernel
theorem dX5_claim_60 : decode cX5_claim 60 = .ok (.aload_n 0, 1) := by decide +kernel
theorem dX5_claim_61 : decode cX5_claim 61 = .ok (.getfield 50, 3) := by decide +kernel
theorem dX5_claim_64 : decode cX5_claim 64 = .ok (.iload_n 2, 1) := by decide +kernel
theorem dX5_claim_65 : decode cX5_claim 65 = .ok (.iconst 1, 1) := by decide +kernel
theorem dX5_claim_66 : decode cX5_claim 66 = .ok (.iadd, 1) := by decide +kernel
theorem dX5_claim_67 : decode cX5_claim 67 = .ok (.iaload, 1) := by decide +kernel
theorem dX5_claim_68 : decode cX5_claim 68 = .ok (.if_icmp .ge 45, 3) := by decide +kernel
theorem dX5_claim_71 : decode cX5_claim 71 = .ok (.aload_n 0, 1) := by decide +kernel
theorem dX5_claim_72 : decode cX5_claim 72 = .ok (.getfield 47, 3) := by decide +kernel
theorem dX5_claim_75 : decode cX5_claim 75 = .ok (.iload_n 3, 1) := by decide +kernel
theorem dX5_claim_76 : decode cX5_claim 76 = .ok (.aload_n 0, 1) := by decide +kernel
theorem dX5_claim_77 : decode cX5_claim 77 = .ok (.iload_n 2, 1) := by decide +kernel
theorem dX5_claim_78 : decode cX5_claim 78 = .ok (.iload_n 3, 1) := by decide +kernel
theorem dX5_claim_79 : decode cX5_claim 79 = .ok (.invokevirtual 112, 3) := by decide +kernel
theorem dX5_claim_82 : decode cX5_claim 82 = .ok (.ifCond .eq 14, 3) := by decide +kernel
theorem dX5_claim_85 : decode cX5_claim 85 = .ok (.aload_n 0, 1) := by decide +kernel
theorem dX5_claim_86 : decode cX5_claim 86 = .ok (.getfield 47, 3) := by decide +kernel
theorem dX5_claim_89 : decode cX5_claim 89 = .ok (.iload_n 3, 1) := by decide +kernel
theorem dX5_claim_90 : decode cX5_claim 90 = .ok (.iaload, 1) := by decide +kernel
theorem dX5_claim_91 : decode cX5_claim 91 = .ok (.iload_n 1, 1) := by decide +kernel
theorem dX5_claim_92 : decode cX5_claim 92 = .ok (.ior, 1) := by decide +kernel
theorem dX5_claim_93 : decode cX5_claim 93 = .ok (.goto 13, 3) := by decide +kernel
theorem dX5_claim_96 : decode cX5_claim 96 = .ok (.aload_n 0, 1) := by decide +kernel
theorem dX5_claim_97 : decode cX5_claim 97 = .ok (.getfield 47, 3) := by decide +kernel
theorem dX5_claim_100 : decode cX5_claim 100 = .ok (.iload_n 3, 1) := by decide +kernel
theorem dX5_claim_101 : decode cX5_claim 101 = .ok (.iaload, 1) := by decide +kernel
theorem dX5_claim_102 : decode cX5_claim 102 = .ok (.iload_n 1, 1) := by decide +kernel
theorem dX5_claim_103 : decode cX5_claim 103 = .ok (.iconst (-1), 1) := by decide +kernel
theorem dX5_claim_104 : decode cX5_claim 104 = .ok (.ixor, 1) := by decide +kernel
theorem dX5_claim_105 : decode cX5_claim 105 = .ok (.iand, 1) := by decide +kernel
theorem dX5_claim_106 : decode cX5_claim 106 = .ok (.iastore, 1) := by decide +kernel
theorem dX5_claim_107 : decode cX5_claim 107 = .ok (.iinc 3 1, 3) := by decide +kernel
theorem dX5_claim_110 : decode cX5_claim 110 = .ok (.goto (-51), 3) := by decide +kernel
theorem dX5_claim_113 : decode cX5_claim 113 = .ok (.iinc 2 1, 3) := by decide +kernel
theorem dX5_claim_116 : decode cX5_claim 116 = .ok (.goto (-69), 3) := by decide +kernel
theorem dX5_claim_119 : decode cX5_claim 119 = .ok (.aload_n 0, 1) := by decide +kernel
theorem dX5_claim_120 : decode cX5_claim 120 = .ok (.iconst 0, 1) := by decide +kernel
theorem dX5_claim_121 : decode cX5_claim 121 = .ok (.putfield 102, 3) := by decide +kernel
theorem dX5_claim_124 : decode cX5_claim 124 = .ok (.aload_n 0, 1) := by decide +kernel
theorem dX5_claim_125 : decode cX5_claim 125 = .ok (.dup, 1) := by decide +kernel
theorem dX5_claim_126 : decode cX5_claim 126 = .ok (.getfield 109, 3) := by decide +kernel
theorem dX5_claim_129 : decode cX5_claim 129 = .ok (.iconst 1, 1) := by decide +kernel
theorem dX5_claim_130 : decode cX5_claim 130 = .ok (.iadd, 1) := by decide +kernel
theorem dX5_claim_131 : decode cX5_claim 131 = .ok (.putfield 109, 3) := by decide +kernel
theorem dX5_claim_134 : decode cX5_claim 134 = .ok (.aload_n 0, 1) := by decide +kernel
theorem dX5_claim_135 : decode cX5_claim 135 = .ok (.getfield 109, 3) := by decide +kernel
theorem dX5_claim_138 : decode cX5_claim 138 = .ok (.iconst 1, 1) := by decide +kernel
theorem dX5_claim_139 : decode cX5_claim 139 = .ok (.isub, 1) := by decide +kernel
theorem dX5_claim_140 : decode cX5_claim 140 = .ok (.ireturn, 1) := by decide +kernel
theorem dX5_keep_0 : decode cX5_keep 0 = .ok (.aload_n 0, 1) := by decide +kernel
theorem dX5_keep_1 : decode cX5_keep 1 = .ok (.iconst 0, 1) := by decide +kernel
theorem dX5_keep_2 : decode cX5_keep 2 = .ok (.putfield 67, 3) := by decide +kernel
theorem dX5_keep_5 : decode cX5_keep 5 = .ok (.iload_n 1, 1) := by decide +kernel
theorem dX5_keep_6 : decode cX5_keep 6 = .ok (.ifCond .lt 11, 3) := by decide +kernel
theorem dX5_keep_9 : decode cX5_keep 9 = .ok (.iload_n 1, 1) := by decide +kernel
theorem dX5_keep_10 : decode cX5_keep 10 = .ok (.aload_n 0, 1) := by decide +kernel
theorem dX5_keep_11 : decode cX5_keep 11 = .ok (.getfield 109, 3) := by decide +kernel
theorem dX5_keep_14 : decode cX5_keep 14 = .ok (.if_icmp .le 5, 3) := by decide +kernel
theorem dX5_keep_17 : decode cX5_keep 17 = .ok (.iconst 0, 1) := by decide +kernel
theorem dX5_keep_18 : decode cX5_keep 18 = .ok (.ireturn, 1) := by decide +kernel
theorem dX5_keep_19 : decode cX5_keep 19 = .ok (.aload_n 0, 1) := by decide +kernel
theorem dX5_keep_20 : decode cX5_keep 20 = .ok (.iload_n 1, 1) := by decide +kernel
theorem dX5_keep_21 : decode cX5_keep 21 = .ok (.putfield 109, 3) := by decide +kernel
theorem dX5_keep_24 : decode cX5_keep 24 = .ok (.iconst 1, 1) := by decide +kernel
theorem dX5_keep_25 : decode cX5_keep 25 = .ok (.ireturn, 1) := by decide +kernel
theorem dX5_claims_0 : decode cX5_claims 0 = .ok (.aload_n 0, 1) := by decide +kernel
theorem dX5_claims_1 : decode cX5_claims 1 = .ok (.iconst 0, 1) := by decide +kernel
theorem dX5_claims_2 : decode cX5_claims 2 = .ok (.putfield 67, 3) := by decide +kernel
theorem dX5_claims_5 : decode cX5_claims 5 = .ok (.aload_n 0, 1) := by decide +kernel
theorem dX5_claims_6 : decode cX5_claims 6 = .ok (.getfield 109, 3) := by decide +kernel
theorem dX5_claims_9 : decode cX5_claims 9 = .ok (.ireturn, 1) := by decide +kernel
theorem dX5_canHold_0 : decode cX5_canHold 0 = .ok (.iconst 0, 1) := by decide +kernel
theorem dX5_canHold_1 : decode cX5_canHold 1 = .ok (.istore_n 2, 1) := by decide +kernel
theorem dX5_canHold_2 : decode cX5_canHold 2 = .ok (.iload_n 2, 1) := by decide +kernel
theorem dX5_canHold_3 : decode cX5_canHold 3 = .ok (.aload_n 0, 1) := by decide +kernel
theorem dX5_canHold_4 : decode cX5_canHold 4 = .ok (.getfield 50, 3) := by decide +kernel
theorem dX5_canHold_7 : decode cX5_canHold 7 = .ok (.iconst 5, 1) := by decide +kernel
theorem dX5_canHold_8 : decode cX5_canHold 8 = .ok (.iaload, 1) := by decide +kernel
theorem dX5_canHold_9 : decode cX5_canHold 9 = .ok (.if_icmp .ge 23, 3) := by decide +kernel
theorem dX5_canHold_12 : decode cX5_canHold 12 = .ok (.aload_n 0, 1) := by decide +kernel
theorem dX5_canHold_13 : decode cX5_canHold 13 = .ok (.getfield 47, 3) := by decide +kernel
theorem dX5_canHold_16 : decode cX5_canHold 16 = .ok (.iload_n 2, 1) := by decide +kernel
theorem dX5_canHold_17 : decode cX5_canHold 17 = .ok (.iaload, 1) := by decide +kernel
theorem dX5_canHold_18 : decode cX5_canHold 18 = .ok (.iload_n 1, 1) := by decide +kernel
theorem dX5_canHold_19 : decode cX5_canHold 19 = .ok (.iand, 1) := by decide +kernel
theorem dX5_canHold_20 : decode cX5_canHold 20 = .ok (.iload_n 1, 1) := by decide +kernel
theorem dX5_canHold_21 : decode cX5_canHold 21 = .ok (.if_icmp .ne 5, 3) := by decide +kernel
theorem dX5_canHold_24 : decode cX5_canHold 24 = .ok (.iconst 1, 1) := by decide +kernel
theorem dX5_canHold_25 : decode cX5_canHold 25 = .ok (.ireturn, 1) := by decide +kernel
theorem dX5_canHold_26 : decode cX5_canHold 26 = .ok (.iinc 2 1, 3) := by decide +kernel
theorem dX5_canHold_29 : decode cX5_canHold 29 = .ok (.goto (-27), 3) := by decide +kernel
theorem dX5_canHold_32 : decode cX5_canHold 32 = .ok (.iconst 0, 1) := by decide +kernel
theorem dX5_canHold_33 : decode cX5_canHold 33 = .ok (.ireturn, 1) := by decide +kernel
theorem dX5_all_0 : decode cX5_all 0 = .ok (.iconst 1, 1) := by decide +kernel
theorem dX5_all_1 : decode cX5_all 1 = .ok (.aload_n 0, 1) := by decide +kernel
theorem dX5_all_2 : decode cX5_all 2 = .ok (.getfield 109, 3) := by decide +kernel
theorem dX5_all_5 : decode cX5_all 5 = .ok (.ishl, 1) := by decide +kernel
theorem dX5_all_6 : decode cX5_all 6 = .ok (.iconst 1, 1) := by decide +kernel
theorem dX5_all_7 : decode cX5_all 7 = .ok (.isub, 1) := by decide +kernel
theorem dX5_all_8 : decode cX5_all 8 = .ok (.ireturn, 1) := by decide +kernel
theorem dX5_can_0 : decode cX5_can 0 = .ok (.aload_n 0, 1) := by decide +kernel
theorem dX5_can_1 : decode cX5_can 1 = .ok (.iconst 0, 1) := by decide +kernel
theorem dX5_can_2 : decode cX5_can 2 = .ok (.putfield 67, 3) := by decide +kernel
theorem dX5_can_5 : decode cX5_can 5 = .ok (.aload_n 0, 1) := by decide +kernel
theorem dX5_can_6 : decode cX5_can 6 = .ok (.aload_n 0, 1) := by decide +kernel
theorem dX5_can_7 : decode cX5_can 7 = .ok (.invokevirtual 116, 3) := by decide +kernel
theorem dX5_can_10 : decode cX5_can 10 = .ok (.invokevirtual 120, 3) := by decide +kernel
theorem dX5_can_13 : decode cX5_can 13 = .ok (.ireturn, 1) := by decide +kernel
theorem dX5_first_0 : decode cX5_first 0 = .ok (.aload_n 0, 1) := by decide +kernel
theorem dX5_first_1 : decode cX5_first 1 = .ok (.iconst 0, 1) := by decide +kernel
theorem dX5_first_2 : decode cX5_first 2 = .ok (.putfield 67, 3) := by decide +kernel
theorem dX5_first_5 : decode cX5_first 5 = .ok (.iconst 0, 1) := by decide +kernel
theorem dX5_first_6 : decode cX5_first 6 = .ok (.istore_n 1, 1) := by decide +kernel
theorem dX5_first_7 : decode cX5_first 7 = .ok (.iload_n 1, 1) := by decide +kernel
theorem dX5_first_8 : decode cX5_first 8 = .ok (.aload_n 0, 1) := by decide +kernel
theorem dX5_first_9 : decode cX5_first 9 = .ok (.getfield 109, 3) := by decide +kernel
theorem dX5_first_12 : decode cX5_first 12 = .ok (.if_icmp .ge 23, 3) := by decide +kernel
theorem dX5_first_15 : decode cX5_first 15 = .ok (.aload_n 0, 1) := by decide +kernel
theorem dX5_first_16 : decode cX5_first 16 = .ok (.iconst 2, 1) := by decide +kernel
theorem dX5_first_17 : decode cX5_first 17 = .ok (.iload_n 1, 1) := by decide +kernel
theorem dX5_first_18 : decode cX5_first 18 = .ok (.ishl, 1) := by decide +kernel
theorem dX5_first_19 : decode cX5_first 19 = .ok (.iconst 1, 1) := by decide +kernel
theorem dX5_first_20 : decode cX5_first 20 = .ok (.isub, 1) := by decide +kernel
theorem dX5_first_21 : decode cX5_first 21 = .ok (.invokevirtual 120, 3) := by decide +kernel
theorem dX5_first_24 : decode cX5_first 24 = .ok (.ifCond .ne 5, 3) := by decide +kernel
theorem dX5_first_27 : decode cX5_first 27 = .ok (.iload_n 1, 1) := by decide +kernel
theorem dX5_first_28 : decode cX5_first 28 = .ok (.ireturn, 1) := by decide +kernel
theorem dX5_first_29 : decode cX5_first 29 = .ok (.iinc 1 1, 3) := by decide +kernel
theorem dX5_first_32 : decode cX5_first 32 = .ok (.goto (-25), 3) := by decide +kernel
theorem dX5_first_35 : decode cX5_first 35 = .ok (.iconst (-1), 1) := by decide +kernel
theorem dX5_first_36 : decode cX5_first 36 = .ok (.ireturn, 1) := by decide +kernel
theorem dX5_without_0 : decode cX5_without 0 = .ok (.aload_n 0, 1) := by decide +kernel
theorem dX5_without_1 : decode cX5_without 1 = .ok (.iload_n 1, 1) := by decide +kernel
theorem dX5_without_2 : decode cX5_without 2 = .ok (.ifCond .lt 11, 3) := by decide +kernel
theorem dX5_without_5 : decode cX5_without 5 = .ok (.iload_n 1, 1) := by decide +kernel
theorem dX5_without_6 : decode cX5_without 6 = .ok (.aload_n 0, 1) := by decide +kernel
theorem dX5_without_7 : decode cX5_without 7 = .ok (.getfield 109, 3) := by decide +kernel
theorem dX5_without_10 : decode cX5_without 10 = .ok (.if_icmp .lt 7, 3) := by decide +kernel
theorem dX5_without_13 : decode cX5_without 13 = .ok (.iconst 1, 1) := by decide +kernel
theorem dX5_without_14 : decode cX5_without 14 = .ok (.goto 4, 3) := by decide +kernel
theorem dX5_without_17 : decode cX5_without 17 = .ok (.iconst 0, 1) := by decide +kernel
theorem dX5_without_18 : decode cX5_without 18 = .ok (.putfield 67, 3) := by decide +kernel
theorem dX5_without_21 : decode cX5_without 21 = .ok (.aload_n 0, 1) := by decide +kernel
theorem dX5_without_22 : decode cX5_without 22 = .ok (.getfield 67, 3) := by decide +kernel
theorem dX5_without_25 : decode cX5_without 25 = .ok (.ifCond .ne 24, 3) := by decide +kernel
theorem dX5_without_28 : decode cX5_without 28 = .ok (.aload_n 0, 1) := by decide +kernel
theorem dX5_without_29 : decode cX5_without 29 = .ok (.aload_n 0, 1) := by decide +kernel
theorem dX5_without_30 : decode cX5_without 30 = .ok (.invokevirtual 116, 3) := by decide +kernel
theorem dX5_without_33 : decode cX5_without 33 = .ok (.iconst 1, 1) := by decide +kernel
theorem dX5_without_34 : decode cX5_without 34 = .ok (.iload_n 1, 1) := by decide +kernel
theorem dX5_without_35 : decode cX5_without 35 = .ok (.ishl, 1) := by decide +kernel
theorem dX5_without_36 : decode cX5_without 36 = .ok (.iconst (-1), 1) := by decide +kernel
theorem dX5_without_37 : decode cX5_without 37 = .ok (.ixor, 1) := by decide +kernel
theorem dX5_without_38 : decode cX5_without 38 = .ok (.iand, 1) := by decide +kernel
theorem dX5_without_39 : decode cX5_without 39 = .ok (.invokevirtual 120, 3) := by decide +kernel
theorem dX5_without_42 : decode cX5_without 42 = .ok (.ifCond .eq 7, 3) := by decide +kernel
theorem dX5_without_45 : decode cX5_without 45 = .ok (.iconst 1, 1) := by decide +kernel
theorem dX5_without_46 : decode cX5_without 46 = .ok (.goto 4, 3) := by decide +kernel
theorem dX5_without_49 : decode cX5_without 49 = .ok (.iconst 0, 1) := by decide +kernel
theorem dX5_without_50 : decode cX5_without 50 = .ok (.ireturn, 1) := by decide +kernel
theorem dX5_same_0 : decode cX5_same 0 = .ok (.aload_n 0, 1) := by decide +kernel
theorem dX5_same_1 : decode cX5_same 1 = .ok (.aload_n 0, 1) := by decide +kernel
theorem dX5_same_2 : decode cX5_same 2 = .ok (.iload_n 1, 1) := by decide +kernel
theorem dX5_same_3 : decode cX5_same 3 = .ok (.invokevirtual 91, 3) := by decide +kernel
theorem dX5_same_6 : decode cX5_same 6 = .ok (.ifCond .eq 11, 3) := by decide +kernel
theorem dX5_same_9 : decode cX5_same 9 = .ok (.aload_n 0, 1) := by decide +kernel
theorem dX5_same_10 : decode cX5_same 10 = .ok (.iload_n 2, 1) := by decide +kernel
theorem dX5_same_11 : decode cX5_same 11 = .ok (.invokevirtual 91, 3) := by decide +kernel
theorem dX5_same_14 : decode cX5_same 14 = .ok (.ifCond .ne 7, 3) := by decide +kernel
theorem dX5_same_17 : decode cX5_same 17 = .ok (.iconst 1, 1) := by decide +kernel
theorem dX5_same_18 : decode cX5_same 18 = .ok (.goto 38, 3) := by decide +kernel
theorem dX5_same_21 : decode cX5_same 21 = .ok (.aload_n 0, 1) := by decide +kernel
theorem dX5_same_22 : decode cX5_same 22 = .ok (.getfield 13, 3) := by decide +kernel
theorem dX5_same_25 : decode cX5_same 25 = .ok (.iload_n 1, 1) := by decide +kernel
theorem dX5_same_26 : decode cX5_same 26 = .ok (.iaload, 1) := by decide +kernel
theorem dX5_same_27 : decode cX5_same 27 = .ok (.aload_n 0, 1) := by decide +kernel
theorem dX5_same_28 : decode cX5_same 28 = .ok (.getfield 13, 3) := by decide +kernel
theorem dX5_same_31 : decode cX5_same 31 = .ok (.iload_n 2, 1) := by decide +kernel
theorem dX5_same_32 : decode cX5_same 32 = .ok (.iaload, 1) := by decide +kernel
theorem dX5_same_33 : decode cX5_same 33 = .ok (.if_icmp .eq 7, 3) := by decide +kernel
theorem dX5_same_36 : decode cX5_same 36 = .ok (.iconst 2, 1) := by decide +kernel
theorem dX5_same_37 : decode cX5_same 37 = .ok (.goto 19, 3) := by decide +kernel
theorem dX5_same_40 : decode cX5_same 40 = .ok (.aload_n 0, 1) := by decide +kernel
theorem dX5_same_41 : decode cX5_same 41 = .ok (.aload_n 0, 1) := by decide +kernel
theorem dX5_same_42 : decode cX5_same 42 = .ok (.invokevirtual 116, 3) := by decide +kernel
theorem dX5_same_45 : decode cX5_same 45 = .ok (.invokevirtual 120, 3) := by decide +kernel
theorem dX5_same_48 : decode cX5_same 48 = .ok (.ifCond .ne 7, 3) := by decide +kernel
theorem dX5_same_51 : decode cX5_same 51 = .ok (.iconst 3, 1) := by decide +kernel
theorem dX5_same_52 : decode cX5_same 52 = .ok (.goto 4, 3) := by decide +kernel
theorem dX5_same_55 : decode cX5_same 55 = .ok (.iconst 0, 1) := by decide +kernel
theorem dX5_same_56 : decode cX5_same 56 = .ok (.putfield 67, 3) := by decide +kernel
theorem dX5_same_59 : decode cX5_same 59 = .ok (.aload_n 0, 1) := by decide +kernel
theorem dX5_same_60 : decode cX5_same 60 = .ok (.getfield 67, 3) := by decide +kernel
theorem dX5_same_63 : decode cX5_same 63 = .ok (.ifCond .le 5, 3) := by decide +kernel
theorem dX5_same_66 : decode cX5_same 66 = .ok (.iconst 0, 1) := by decide +kernel
theorem dX5_same_67 : decode cX5_same 67 = .ok (.ireturn, 1) := by decide +kernel
theorem dX5_same_68 : decode cX5_same 68 = .ok (.iconst 0, 1) := by decide +kernel
theorem dX5_same_69 : decode cX5_same 69 = .ok (.istore_n 3, 1) := by decide +kernel
theorem dX5_same_70 : decode cX5_same 70 = .ok (.iconst 1, 1) := by decide +kernel
theorem dX5_same_71 : decode cX5_same 71 = .ok (.istore 4, 2) := by decide +kernel
theorem dX5_same_73 : decode cX5_same 73 = .ok (.aload_n 0, 1) := by decide +kernel
theorem dX5_same_74 : decode cX5_same 74 = .ok (.invokevirtual 116, 3) := by decide +kernel
theorem dX5_same_77 : decode cX5_same 77 = .ok (.istore 5, 2) := by decide +kernel
theorem dX5_same_79 : decode cX5_same 79 = .ok (.iconst 0, 1) := by decide +kernel
theorem dX5_same_80 : decode cX5_same 80 = .ok (.istore 6, 2) := by decide +kernel
theorem dX5_same_82 : decode cX5_same 82 = .ok (.iload 6, 2) := by decide +kernel
theorem dX5_same_84 : decode cX5_same 84 = .ok (.iconst 5, 1) := by decide +kernel
theorem dX5_same_85 : decode cX5_same 85 = .ok (.if_icmp .ge 97, 3) := by decide +kernel
theorem dX5_same_88 : decode cX5_same 88 = .ok (.aload_n 0, 1) := by decide +kernel
theorem dX5_same_89 : decode cX5_same 89 = .ok (.getfield 50, 3) := by decide +kernel
theorem dX5_same_92 : decode cX5_same 92 = .ok (.iload 6, 2) := by decide +kernel
theorem dX5_same_94 : decode cX5_same 94 = .ok (.iaload, 1) := by decide +kernel
theorem dX5_same_95 : decode cX5_same 95 = .ok (.istore 7, 2) := by decide +kernel
theorem dX5_same_97 : decode cX5_same 97 = .ok (.iload 7, 2) := by decide +kernel
theorem dX5_same_99 : decode cX5_same 99 = .ok (.aload_n 0, 1) := by decide +kernel
theorem dX5_same_100 : decode cX5_same 100 = .ok (.getfield 50, 3) := by decide +kernel
theorem dX5_same_103 : decode cX5_same 103 = .ok (.iload 6, 2) := by decide +kernel
theorem dX5_same_105 : decode cX5_same 105 = .ok (.iconst 1, 1) := by decide +kernel
theorem dX5_same_106 : decode cX5_same 106 = .ok (.iadd, 1) := by decide +kernel
theorem dX5_same_107 : decode cX5_same 107 = .ok (.iaload, 1) := by decide +kernel
theorem dX5_same_108 : decode cX5_same 108 = .ok (.if_icmp .ge 68, 3) := by decide +kernel
theorem dX5_same_111 : decode cX5_same 111 = .ok (.aload_n 0, 1) := by decide +kernel
theorem dX5_same_112 : decode cX5_same 112 = .ok (.getfield 47, 3) := by decide +kernel
theorem dX5_same_115 : decode cX5_same 115 = .ok (.iload 7, 2) := by decide +kernel
theorem dX5_same_117 : decode cX5_same 117 = .ok (.iaload, 1) := by decide +kernel
theorem dX5_same_118 : decode cX5_same 118 = .ok (.iload 5, 2) := by decide +kernel
theorem dX5_same_120 : decode cX5_same 120 = .ok (.iand, 1) := by decide +kernel
theorem dX5_same_121 : decode cX5_same 121 = .ok (.iload 5, 2) := by decide +kernel
theorem dX5_same_123 : decode cX5_same 123 = .ok (.if_icmp .ne 47, 3) := by decide +kernel
theorem dX5_same_126 : decode cX5_same 126 = .ok (.aload_n 0, 1) := by decide +kernel
theorem dX5_same_127 : decode cX5_same 127 = .ok (.iload_n 1, 1) := by decide +kernel
theorem dX5_same_128 : decode cX5_same 128 = .ok (.iload_n 2, 1) := by decide +kernel
theorem dX5_same_129 : decode cX5_same 129 = .ok (.iload 6, 2) := by decide +kernel
theorem dX5_same_131 : decode cX5_same 131 = .ok (.iload 7, 2) := by decide +kernel
theorem dX5_same_133 : decode cX5_same 133 = .ok (.invokevirtual 105, 3) := by decide +kernel
theorem dX5_same_136 : decode cX5_same 136 = .ok (.istore 8, 2) := by decide +kernel
theorem dX5_same_138 : decode cX5_same 138 = .ok (.iload_n 3, 1) := by decide +kernel
theorem dX5_same_139 : decode cX5_same 139 = .ok (.ifCond .ne 8, 3) := by decide +kernel
theorem dX5_same_142 : decode cX5_same 142 = .ok (.iload 8, 2) := by decide +kernel
theorem dX5_same_144 : decode cX5_same 144 = .ok (.ifCond .eq 7, 3) := by decide +kernel
theorem dX5_same_147 : decode cX5_same 147 = .ok (.iconst 1, 1) := by decide +kernel
theorem dX5_same_148 : decode cX5_same 148 = .ok (.goto 4, 3) := by decide +kernel
theorem dX5_same_151 : decode cX5_same 151 = .ok (.iconst 0, 1) := by decide +kernel
theorem dX5_same_152 : decode cX5_same 152 = .ok (.istore_n 3, 1) := by decide +kernel
theorem dX5_same_153 : decode cX5_same 153 = .ok (.iload 4, 2) := by decide +kernel
theorem dX5_same_155 : decode cX5_same 155 = .ok (.ifCond .eq 12, 3) := by decide +kernel
theorem dX5_same_158 : decode cX5_same 158 = .ok (.iload 8, 2) := by decide +kernel
theorem dX5_same_160 : decode cX5_same 160 = .ok (.ifCond .eq 7, 3) := by decide +kernel
theorem dX5_same_163 : decode cX5_same 163 = .ok (.iconst 1, 1) := by decide +kernel
theorem dX5_same_164 : decode cX5_same 164 = .ok (.goto 4, 3) := by decide +kernel
theorem dX5_same_167 : decode cX5_same 167 = .ok (.iconst 0, 1) := by decide +kernel
theorem dX5_same_168 : decode cX5_same 168 = .ok (.istore 4, 2) := by decide +kernel
theorem dX5_same_170 : decode cX5_same 170 = .ok (.iinc 7 1, 3) := by decide +kernel
theorem dX5_same_173 : decode cX5_same 173 = .ok (.goto (-76), 3) := by decide +kernel
theorem dX5_same_176 : decode cX5_same 176 = .ok (.iinc 6 1, 3) := by decide +kernel
theorem dX5_same_179 : decode cX5_same 179 = .ok (.goto (-97), 3) := by decide +kernel
theorem dX5_same_182 : decode cX5_same 182 = .ok (.iload 4, 2) := by decide +kernel
theorem dX5_same_184 : decode cX5_same 184 = .ok (.ifCond .eq 7, 3) := by decide +kernel
theorem dX5_same_187 : decode cX5_same 187 = .ok (.iconst 1, 1) := by decide +kernel
theorem dX5_same_188 : decode cX5_same 188 = .ok (.goto 12, 3) := by decide +kernel
theorem dX5_same_191 : decode cX5_same 191 = .ok (.iload_n 3, 1) := by decide +kernel
theorem dX5_same_192 : decode cX5_same 192 = .ok (.ifCond .eq 7, 3) := by decide +kernel
theorem dX5_same_195 : decode cX5_same 195 = .ok (.iconst 2, 1) := by decide +kernel
theorem dX5_same_196 : decode cX5_same 196 = .ok (.goto 4, 3) := by decide +kernel
theorem dX5_same_199 : decode cX5_same 199 = .ok (.iconst 0, 1) := by decide +kernel
theorem dX5_same_200 : decode cX5_same 200 = .ok (.ireturn, 1) := by decide +kernel
theorem dX5_follows_0 : decode cX5_follows 0 = .ok (.aload_n 0, 1) := by decide +kernel
theorem dX5_follows_1 : decode cX5_follows 1 = .ok (.aload_n 0, 1) := by decide +kernel
theorem dX5_follows_2 : decode cX5_follows 2 = .ok (.getfield 102, 3) := by decide +kernel
theorem dX5_follows_5 : decode cX5_follows 5 = .ok (.ifCond .ne 7, 3) := by decide +kernel
theorem dX5_follows_8 : decode cX5_follows 8 = .ok (.iconst 1, 1) := by decide +kernel
theorem dX5_follows_9 : decode cX5_follows 9 = .ok (.goto 4, 3) := by decide +kernel
theorem dX5_follows_12 : decode cX5_follows 12 = .ok (.iconst 0, 1) := by decide +kernel
theorem dX5_follows_13 : decode cX5_follows 13 = .ok (.putfield 67, 3) := by decide +kernel
theorem dX5_follows_16 : decode cX5_follows 16 = .ok (.aload_n 0, 1) := by decide +kernel
theorem dX5_follows_17 : decode cX5_follows 17 = .ok (.getfield 67, 3) := by decide +kernel
theorem dX5_follows_20 : decode cX5_follows 20 = .ok (.ifCond .ne 7, 3) := by decide +kernel
theorem dX5_follows_23 : decode cX5_follows 23 = .ok (.iconst 1, 1) := by decide +kernel
theorem dX5_follows_24 : decode cX5_follows 24 = .ok (.goto 4, 3) := by decide +kernel
theorem dX5_follows_27 : decode cX5_follows 27 = .ok (.iconst 0, 1) := by decide +kernel
theorem dX5_follows_28 : decode cX5_follows 28 = .ok (.istore_n 1, 1) := by decide +kernel
theorem dX5_follows_29 : decode cX5_follows 29 = .ok (.aload_n 0, 1) := by decide +kernel
theorem dX5_follows_30 : decode cX5_follows 30 = .ok (.invokevirtual 116, 3) := by decide +kernel
theorem dX5_follows_33 : decode cX5_follows 33 = .ok (.istore_n 2, 1) := by decide +kernel
theorem dX5_follows_34 : decode cX5_follows 34 = .ok (.iconst 0, 1) := by decide +kernel
theorem dX5_follows_35 : decode cX5_follows 35 = .ok (.istore_n 3, 1) := by decide +kernel
theorem dX5_follows_36 : decode cX5_follows 36 = .ok (.iload_n 3, 1) := by decide +kernel
theorem dX5_follows_37 : decode cX5_follows 37 = .ok (.iconst 5, 1) := by decide +kernel
theorem dX5_follows_38 : decode cX5_follows 38 = .ok (.if_icmp .ge 73, 3) := by decide +kernel
theorem dX5_follows_41 : decode cX5_follows 41 = .ok (.iload_n 1, 1) := by decide +kernel
theorem dX5_follows_42 : decode cX5_follows 42 = .ok (.ifCond .eq 69, 3) := by decide +kernel
theorem dX5_follows_45 : decode cX5_follows 45 = .ok (.aload_n 0, 1) := by decide +kernel
theorem dX5_follows_46 : decode cX5_follows 46 = .ok (.getfield 50, 3) := by decide +kernel
theorem dX5_follows_49 : decode cX5_follows 49 = .ok (.iload_n 3, 1) := by decide +kernel
theorem dX5_follows_50 : decode cX5_follows 50 = .ok (.iaload, 1) := by decide +kernel
theorem dX5_follows_51 : decode cX5_follows 51 = .ok (.istore 4, 2) := by decide +kernel
theorem dX5_follows_53 : decode cX5_follows 53 = .ok (.iload 4, 2) := by decide +kernel
theorem dX5_follows_55 : decode cX5_follows 55 = .ok (.aload_n 0, 1) := by decide +kernel
theorem dX5_follows_56 : decode cX5_follows 56 = .ok (.getfield 50, 3) := by decide +kernel
theorem dX5_follows_59 : decode cX5_follows 59 = .ok (.iload_n 3, 1) := by decide +kernel
theorem dX5_follows_60 : decode cX5_follows 60 = .ok (.iconst 1, 1) := by decide +kernel
theorem dX5_follows_61 : decode cX5_follows 61 = .ok (.iadd, 1) := by decide +kernel
theorem dX5_follows_62 : decode cX5_follows 62 = .ok (.iaload, 1) := by decide +kernel
theorem dX5_follows_63 : decode cX5_follows 63 = .ok (.if_icmp .ge 42, 3) := by decide +kernel
theorem dX5_follows_66 : decode cX5_follows 66 = .ok (.iload_n 1, 1) := by decide +kernel
theorem dX5_follows_67 : decode cX5_follows 67 = .ok (.ifCond .eq 38, 3) := by decide +kernel
theorem dX5_follows_70 : decode cX5_follows 70 = .ok (.aload_n 0, 1) := by decide +kernel
theorem dX5_follows_71 : decode cX5_follows 71 = .ok (.getfield 47, 3) := by decide +kernel
theorem dX5_follows_74 : decode cX5_follows 74 = .ok (.iload 4, 2) := by decide +kernel
theorem dX5_follows_76 : decode cX5_follows 76 = .ok (.iaload, 1) := by decide +kernel
theorem dX5_follows_77 : decode cX5_follows 77 = .ok (.iload_n 2, 1) := by decide +kernel
theorem dX5_follows_78 : decode cX5_follows 78 = .ok (.iand, 1) := by decide +kernel
theorem dX5_follows_79 : decode cX5_follows 79 = .ok (.iload_n 2, 1) := by decide +kernel
theorem dX5_follows_80 : decode cX5_follows 80 = .ok (.if_icmp .ne 13, 3) := by decide +kernel
theorem dX5_follows_83 : decode cX5_follows 83 = .ok (.aload_n 0, 1) := by decide +kernel
theorem dX5_follows_84 : decode cX5_follows 84 = .ok (.iload_n 3, 1) := by decide +kernel
theorem dX5_follows_85 : decode cX5_follows 85 = .ok (.iload 4, 2) := by decide +kernel
theorem dX5_follows_87 : decode cX5_follows 87 = .ok (.invokevirtual 112, 3) := by decide +kernel
theorem dX5_follows_90 : decode cX5_follows 90 = .ok (.ifCond .eq 7, 3) := by decide +kernel
theorem dX5_follows_93 : decode cX5_follows 93 = .ok (.iconst 1, 1) := by decide +kernel
theorem dX5_follows_94 : decode cX5_follows 94 = .ok (.goto 4, 3) := by decide +kernel
theorem dX5_follows_97 : decode cX5_follows 97 = .ok (.iconst 0, 1) := by decide +kernel
theorem dX5_follows_98 : decode cX5_follows 98 = .ok (.istore_n 1, 1) := by decide +kernel
theorem dX5_follows_99 : decode cX5_follows 99 = .ok (.iinc 4 1, 3) := by decide +kernel
theorem dX5_follows_102 : decode cX5_follows 102 = .ok (.goto (-49), 3) := by decide +kernel
theorem dX5_follows_105 : decode cX5_follows 105 = .ok (.iinc 3 1, 3) := by decide +kernel
theorem dX5_follows_108 : decode cX5_follows 108 = .ok (.goto (-72), 3) := by decide +kernel
theorem dX5_follows_111 : decode cX5_follows 111 = .ok (.iload_n 1, 1) := by decide +kernel
theorem dX5_follows_112 : decode cX5_follows 112 = .ok (.ireturn, 1) := by decide +kernel
theorem dX5_apart_0 : decode cX5_apart 0 = .ok (.aload_n 0, 1) := by decide +kernel
theorem dX5_apart_1 : decode cX5_apart 1 = .ok (.aload_n 0, 1) := by decide +kernel
theorem dX5_apart_2 : decode cX5_apart 2 = .ok (.aload_n 0, 1) := by decide +kernel
theorem dX5_apart_3 : decode cX5_apart 3 = .ok (.invokevirtual 116, 3) := by decide +kernel
theorem dX5_apart_6 : decode cX5_apart 6 = .ok (.invokevirtual 120, 3) := by decide +kernel
theorem dX5_apart_9 : decode cX5_apart 9 = .ok (.ifCond .eq 7, 3) := by decide +kernel
theorem dX5_apart_12 : decode cX5_apart 12 = .ok (.iconst 0, 1) := by decide +kernel
theorem dX5_apart_13 : decode cX5_apart 13 = .ok (.goto 4, 3) := by decide +kernel
theorem dX5_apart_16 : decode cX5_apart 16 = .ok (.iconst 1, 1) := by decide +kernel
theorem dX5_apart_17 : decode cX5_apart 17 = .ok (.putfield 67, 3) := by decide +kernel
theorem dX5_apart_20 : decode cX5_apart 20 = .ok (.iload_n 1, 1) := by decide +kernel
theorem dX5_apart_21 : decode cX5_apart 21 = .ok (.ifCond .eq 7, 3) := by decide +kernel
theorem dX5_apart_24 : decode cX5_apart 24 = .ok (.iconst 3, 1) := by decide +kernel
theorem dX5_apart_25 : decode cX5_apart 25 = .ok (.goto 4, 3) := by decide +kernel
theorem dX5_apart_28 : decode cX5_apart 28 = .ok (.iconst 0, 1) := by decide +kernel
theorem dX5_apart_29 : decode cX5_apart 29 = .ok (.istore_n 2, 1) := by decide +kernel
theorem dX5_apart_30 : decode cX5_apart 30 = .ok (.aload_n 0, 1) := by decide +kernel
theorem dX5_apart_31 : decode cX5_apart 31 = .ok (.invokevirtual 116, 3) := by decide +kernel
theorem dX5_apart_34 : decode cX5_apart 34 = .ok (.istore_n 3, 1) := by decide +kernel
theorem dX5_apart_35 : decode cX5_apart 35 = .ok (.iconst 0, 1) := by decide +kernel
theorem dX5_apart_36 : decode cX5_apart 36 = .ok (.istore 4, 2) := by decide +kernel
theorem dX5_apart_38 : decode cX5_apart 38 = .ok (.iload 4, 2) := by decide +kernel
theorem dX5_apart_40 : decode cX5_apart 40 = .ok (.iconst 5, 1) := by decide +kernel
theorem dX5_apart_41 : decode cX5_apart 41 = .ok (.if_icmp .ge 129, 3) := by decide +kernel
theorem dX5_apart_44 : decode cX5_apart 44 = .ok (.iconst 0, 1) := by decide +kernel
theorem dX5_apart_45 : decode cX5_apart 45 = .ok (.istore 5, 2) := by decide +kernel
theorem dX5_apart_47 : decode cX5_apart 47 = .ok (.aload_n 0, 1) := by decide +kernel
theorem dX5_apart_48 : decode cX5_apart 48 = .ok (.getfield 50, 3) := by decide +kernel
theorem dX5_apart_51 : decode cX5_apart 51 = .ok (.iload 4, 2) := by decide +kernel
theorem dX5_apart_53 : decode cX5_apart 53 = .ok (.iaload, 1) := by decide +kernel
theorem dX5_apart_54 : decode cX5_apart 54 = .ok (.istore 6, 2) := by decide +kernel
theorem dX5_apart_56 : decode cX5_apart 56 = .ok (.iload 6, 2) := by decide +kernel
theorem dX5_apart_58 : decode cX5_apart 58 = .ok (.aload_n 0, 1) := by decide +kernel
theorem dX5_apart_59 : decode cX5_apart 59 = .ok (.getfield 50, 3) := by decide +kernel
theorem dX5_apart_62 : decode cX5_apart 62 = .ok (.iload 4, 2) := by decide +kernel
theorem dX5_apart_64 : decode cX5_apart 64 = .ok (.iconst 1, 1) := by decide +kernel
theorem dX5_apart_65 : decode cX5_apart 65 = .ok (.iadd, 1) := by decide +kernel
theorem dX5_apart_66 : decode cX5_apart 66 = .ok (.iaload, 1) := by decide +kernel
theorem dX5_apart_67 : decode cX5_apart 67 = .ok (.if_icmp .ge 34, 3) := by decide +kernel
theorem dX5_apart_70 : decode cX5_apart 70 = .ok (.iload 5, 2) := by decide +kernel
theorem dX5_apart_72 : decode cX5_apart 72 = .ok (.ifCond .ne 16, 3) := by decide +kernel
theorem dX5_apart_75 : decode cX5_apart 75 = .ok (.aload_n 0, 1) := by decide +kernel
theorem dX5_apart_76 : decode cX5_apart 76 = .ok (.getfield 47, 3) := by decide +kernel
theorem dX5_apart_79 : decode cX5_apart 79 = .ok (.iload 6, 2) := by decide +kernel
theorem dX5_apart_81 : decode cX5_apart 81 = .ok (.iaload, 1) := by decide +kernel
theorem dX5_apart_82 : decode cX5_apart 82 = .ok (.iload_n 3, 1) := by decide +kernel
theorem dX5_apart_83 : decode cX5_apart 83 = .ok (.iand, 1) := by decide +kernel
theorem dX5_apart_84 : decode cX5_apart 84 = .ok (.iload_n 3, 1) := by decide +kernel
theorem dX5_apart_85 : decode cX5_apart 85 = .ok (.if_icmp .ne 7, 3) := by decide +kernel
theorem dX5_apart_88 : decode cX5_apart 88 = .ok (.iconst 1, 1) := by decide +kernel
theorem dX5_apart_89 : decode cX5_apart 89 = .ok (.goto 4, 3) := by decide +kernel
theorem dX5_apart_92 : decode cX5_apart 92 = .ok (.iconst 0, 1) := by decide +kernel
theorem dX5_apart_93 : decode cX5_apart 93 = .ok (.istore 5, 2) := by decide +kernel
theorem dX5_apart_95 : decode cX5_apart 95 = .ok (.iinc 6 1, 3) := by decide +kernel
theorem dX5_apart_98 : decode cX5_apart 98 = .ok (.goto (-42), 3) := by decide +kernel
theorem dX5_apart_101 : decode cX5_apart 101 = .ok (.iload_n 1, 1) := by decide +kernel
theorem dX5_apart_102 : decode cX5_apart 102 = .ok (.ifCond .eq 22, 3) := by decide +kernel
theorem dX5_apart_105 : decode cX5_apart 105 = .ok (.aload_n 0, 1) := by decide +kernel
theorem dX5_apart_106 : decode cX5_apart 106 = .ok (.getfield 32, 3) := by decide +kernel
theorem dX5_apart_109 : decode cX5_apart 109 = .ok (.iload 4, 2) := by decide +kernel
theorem dX5_apart_111 : decode cX5_apart 111 = .ok (.iaload, 1) := by decide +kernel
theorem dX5_apart_112 : decode cX5_apart 112 = .ok (.iload_n 2, 1) := by decide +kernel
theorem dX5_apart_113 : decode cX5_apart 113 = .ok (.if_icmp .ge 7, 3) := by decide +kernel
theorem dX5_apart_116 : decode cX5_apart 116 = .ok (.iconst 1, 1) := by decide +kernel
theorem dX5_apart_117 : decode cX5_apart 117 = .ok (.goto 23, 3) := by decide +kernel
theorem dX5_apart_120 : decode cX5_apart 120 = .ok (.iconst 0, 1) := by decide +kernel
theorem dX5_apart_121 : decode cX5_apart 121 = .ok (.goto 19, 3) := by decide +kernel
theorem dX5_apart_124 : decode cX5_apart 124 = .ok (.aload_n 0, 1) := by decide +kernel
theorem dX5_apart_125 : decode cX5_apart 125 = .ok (.getfield 32, 3) := by decide +kernel
theorem dX5_apart_128 : decode cX5_apart 128 = .ok (.iload 4, 2) := by decide +kernel
theorem dX5_apart_130 : decode cX5_apart 130 = .ok (.iaload, 1) := by decide +kernel
theorem dX5_apart_131 : decode cX5_apart 131 = .ok (.iload_n 2, 1) := by decide +kernel
theorem dX5_apart_132 : decode cX5_apart 132 = .ok (.if_icmp .le 7, 3) := by decide +kernel
