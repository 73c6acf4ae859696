theorem dX4_select_26 : decode cX4_select 26 = .ok (.invokespecial 49, 3) := by decide +kernel
theorem dX4_select_29 : decode cX4_select 29 = .ok (.athrow, 1) := by decide +kernel
theorem dX4_select_30 : decode cX4_select 30 = .ok (.aload_n 0, 1) := by decide +kernel
theorem dX4_select_31 : decode cX4_select 31 = .ok (.getfield 12, 3) := by decide +kernel
theorem dX4_select_34 : decode cX4_select 34 = .ok (.iload_n 1, 1) := by decide +kernel
theorem dX4_select_35 : decode cX4_select 35 = .ok (.invokevirtual 50, 3) := by decide +kernel
theorem dX4_select_38 : decode cX4_select 38 = .ok (.iconst 2, 1) := by decide +kernel
theorem dX4_select_39 : decode cX4_select 39 = .ok (.if_icmp .ne 14, 3) := by decide +kernel
theorem dX4_select_42 : decode cX4_select 42 = .ok (.aload_n 0, 1) := by decide +kernel
theorem dX4_select_43 : decode cX4_select 43 = .ok (.getfield 12, 3) := by decide +kernel
theorem dX4_select_46 : decode cX4_select 46 = .ok (.iload_n 2, 1) := by decide +kernel
theorem dX4_select_47 : decode cX4_select 47 = .ok (.invokevirtual 50, 3) := by decide +kernel
theorem dX4_select_50 : decode cX4_select 50 = .ok (.ifCond .eq 11, 3) := by decide +kernel
theorem dX4_select_53 : decode cX4_select 53 = .ok (.new 54, 3) := by decide +kernel
theorem dX4_select_56 : decode cX4_select 56 = .ok (.dup, 1) := by decide +kernel
theorem dX4_select_57 : decode cX4_select 57 = .ok (.invokespecial 56, 3) := by decide +kernel
theorem dX4_select_60 : decode cX4_select 60 = .ok (.athrow, 1) := by decide +kernel
theorem dX4_select_61 : decode cX4_select 61 = .ok (.aload_n 0, 1) := by decide +kernel
theorem dX4_select_62 : decode cX4_select 62 = .ok (.iconst 1, 1) := by decide +kernel
theorem dX4_select_63 : decode cX4_select 63 = .ok (.iload_n 1, 1) := by decide +kernel
theorem dX4_select_64 : decode cX4_select 64 = .ok (.iload_n 2, 1) := by decide +kernel
theorem dX4_select_65 : decode cX4_select 65 = .ok (.iconst (-1), 1) := by decide +kernel
theorem dX4_select_66 : decode cX4_select 66 = .ok (.invokevirtual 57, 3) := by decide +kernel
theorem dX4_select_69 : decode cX4_select 69 = .ok (.ireturn, 1) := by decide +kernel
theorem dX4_store_0 : decode cX4_store 0 = .ok (.aload_n 0, 1) := by decide +kernel
theorem dX4_store_1 : decode cX4_store 1 = .ok (.getfield 12, 3) := by decide +kernel
theorem dX4_store_4 : decode cX4_store 4 = .ok (.iload_n 1, 1) := by decide +kernel
theorem dX4_store_5 : decode cX4_store 5 = .ok (.invokevirtual 43, 3) := by decide +kernel
theorem dX4_store_8 : decode cX4_store 8 = .ok (.ifCond .eq 25, 3) := by decide +kernel
theorem dX4_store_11 : decode cX4_store 11 = .ok (.aload_n 0, 1) := by decide +kernel
theorem dX4_store_12 : decode cX4_store 12 = .ok (.getfield 12, 3) := by decide +kernel
theorem dX4_store_15 : decode cX4_store 15 = .ok (.iload_n 2, 1) := by decide +kernel
theorem dX4_store_16 : decode cX4_store 16 = .ok (.invokevirtual 43, 3) := by decide +kernel
theorem dX4_store_19 : decode cX4_store 19 = .ok (.ifCond .eq 14, 3) := by decide +kernel
theorem dX4_store_22 : decode cX4_store 22 = .ok (.aload_n 0, 1) := by decide +kernel
theorem dX4_store_23 : decode cX4_store 23 = .ok (.getfield 12, 3) := by decide +kernel
theorem dX4_store_26 : decode cX4_store 26 = .ok (.iload_n 3, 1) := by decide +kernel
theorem dX4_store_27 : decode cX4_store 27 = .ok (.invokevirtual 43, 3) := by decide +kernel
theorem dX4_store_30 : decode cX4_store 30 = .ok (.ifCond .ne 11, 3) := by decide +kernel
theorem dX4_store_33 : decode cX4_store 33 = .ok (.new 47, 3) := by decide +kernel
theorem dX4_store_36 : decode cX4_store 36 = .ok (.dup, 1) := by decide +kernel
theorem dX4_store_37 : decode cX4_store 37 = .ok (.invokespecial 49, 3) := by decide +kernel
theorem dX4_store_40 : decode cX4_store 40 = .ok (.athrow, 1) := by decide +kernel
theorem dX4_store_41 : decode cX4_store 41 = .ok (.aload_n 0, 1) := by decide +kernel
theorem dX4_store_42 : decode cX4_store 42 = .ok (.getfield 12, 3) := by decide +kernel
theorem dX4_store_45 : decode cX4_store 45 = .ok (.iload_n 1, 1) := by decide +kernel
theorem dX4_store_46 : decode cX4_store 46 = .ok (.invokevirtual 50, 3) := by decide +kernel
theorem dX4_store_49 : decode cX4_store 49 = .ok (.iconst 2, 1) := by decide +kernel
theorem dX4_store_50 : decode cX4_store 50 = .ok (.if_icmp .ne 26, 3) := by decide +kernel
theorem dX4_store_53 : decode cX4_store 53 = .ok (.aload_n 0, 1) := by decide +kernel
theorem dX4_store_54 : decode cX4_store 54 = .ok (.getfield 12, 3) := by decide +kernel
theorem dX4_store_57 : decode cX4_store 57 = .ok (.iload_n 2, 1) := by decide +kernel
theorem dX4_store_58 : decode cX4_store 58 = .ok (.invokevirtual 50, 3) := by decide +kernel
theorem dX4_store_61 : decode cX4_store 61 = .ok (.ifCond .ne 15, 3) := by decide +kernel
theorem dX4_store_64 : decode cX4_store 64 = .ok (.aload_n 0, 1) := by decide +kernel
theorem dX4_store_65 : decode cX4_store 65 = .ok (.getfield 12, 3) := by decide +kernel
theorem dX4_store_68 : decode cX4_store 68 = .ok (.iload_n 3, 1) := by decide +kernel
theorem dX4_store_69 : decode cX4_store 69 = .ok (.invokevirtual 50, 3) := by decide +kernel
theorem dX4_store_72 : decode cX4_store 72 = .ok (.iconst 1, 1) := by decide +kernel
theorem dX4_store_73 : decode cX4_store 73 = .ok (.if_icmp .eq 11, 3) := by decide +kernel
theorem dX4_store_76 : decode cX4_store 76 = .ok (.new 54, 3) := by decide +kernel
theorem dX4_store_79 : decode cX4_store 79 = .ok (.dup, 1) := by decide +kernel
theorem dX4_store_80 : decode cX4_store 80 = .ok (.invokespecial 56, 3) := by decide +kernel
theorem dX4_store_83 : decode cX4_store 83 = .ok (.athrow, 1) := by decide +kernel
theorem dX4_store_84 : decode cX4_store 84 = .ok (.aload_n 0, 1) := by decide +kernel
theorem dX4_store_85 : decode cX4_store 85 = .ok (.iconst 2, 1) := by decide +kernel
theorem dX4_store_86 : decode cX4_store 86 = .ok (.iload_n 1, 1) := by decide +kernel
theorem dX4_store_87 : decode cX4_store 87 = .ok (.iload_n 2, 1) := by decide +kernel
theorem dX4_store_88 : decode cX4_store 88 = .ok (.iload_n 3, 1) := by decide +kernel
theorem dX4_store_89 : decode cX4_store 89 = .ok (.invokevirtual 57, 3) := by decide +kernel
theorem dX4_store_92 : decode cX4_store 92 = .ok (.ireturn, 1) := by decide +kernel
theorem dX4_terms_0 : decode cX4_terms 0 = .ok (.aload_n 0, 1) := by decide +kernel
theorem dX4_terms_1 : decode cX4_terms 1 = .ok (.getfield 12, 3) := by decide +kernel
theorem dX4_terms_4 : decode cX4_terms 4 = .ok (.getfield 61, 3) := by decide +kernel
theorem dX4_terms_7 : decode cX4_terms 7 = .ok (.ireturn, 1) := by decide +kernel
theorem dX4_sort_0 : decode cX4_sort 0 = .ok (.aload_n 0, 1) := by decide +kernel
theorem dX4_sort_1 : decode cX4_sort 1 = .ok (.getfield 12, 3) := by decide +kernel
theorem dX4_sort_4 : decode cX4_sort 4 = .ok (.iload_n 1, 1) := by decide +kernel
theorem dX4_sort_5 : decode cX4_sort 5 = .ok (.invokevirtual 50, 3) := by decide +kernel
theorem dX4_sort_8 : decode cX4_sort 8 = .ok (.ireturn, 1) := by decide +kernel
theorem dX4_literal_0 : decode cX4_literal 0 = .ok (.aload_n 0, 1) := by decide +kernel
theorem dX4_literal_1 : decode cX4_literal 1 = .ok (.iload_n 1, 1) := by decide +kernel
theorem dX4_literal_2 : decode cX4_literal 2 = .ok (.iload_n 2, 1) := by decide +kernel
theorem dX4_literal_3 : decode cX4_literal 3 = .ok (.invokevirtual 64, 3) := by decide +kernel
theorem dX4_literal_6 : decode cX4_literal 6 = .ok (.aload_n 0, 1) := by decide +kernel
theorem dX4_literal_7 : decode cX4_literal 7 = .ok (.getfield 29, 3) := by decide +kernel
theorem dX4_literal_10 : decode cX4_literal 10 = .ok (.iconst 3, 1) := by decide +kernel
theorem dX4_literal_11 : decode cX4_literal 11 = .ok (.if_icmp .lt 11, 3) := by decide +kernel
theorem dX4_literal_14 : decode cX4_literal 14 = .ok (.new 68, 3) := by decide +kernel
theorem dX4_literal_17 : decode cX4_literal 17 = .ok (.dup, 1) := by decide +kernel
theorem dX4_literal_18 : decode cX4_literal 18 = .ok (.invokespecial 70, 3) := by decide +kernel
theorem dX4_literal_21 : decode cX4_literal 21 = .ok (.athrow, 1) := by decide +kernel
theorem dX4_literal_22 : decode cX4_literal 22 = .ok (.aload_n 0, 1) := by decide +kernel
theorem dX4_literal_23 : decode cX4_literal 23 = .ok (.getfield 25, 3) := by decide +kernel
theorem dX4_literal_26 : decode cX4_literal 26 = .ok (.aload_n 0, 1) := by decide +kernel
theorem dX4_literal_27 : decode cX4_literal 27 = .ok (.getfield 29, 3) := by decide +kernel
theorem dX4_literal_30 : decode cX4_literal 30 = .ok (.iload_n 1, 1) := by decide +kernel
theorem dX4_literal_31 : decode cX4_literal 31 = .ok (.iload_n 2, 1) := by decide +kernel
theorem dX4_literal_32 : decode cX4_literal 32 = .ok (.iload_n 3, 1) := by decide +kernel
theorem dX4_literal_33 : decode cX4_literal 33 = .ok (.invokestatic 71, 3) := by decide +kernel
theorem dX4_literal_36 : decode cX4_literal 36 = .ok (.iastore, 1) := by decide +kernel
theorem dX4_literal_37 : decode cX4_literal 37 = .ok (.aload_n 0, 1) := by decide +kernel
theorem dX4_literal_38 : decode cX4_literal 38 = .ok (.dup, 1) := by decide +kernel
theorem dX4_literal_39 : decode cX4_literal 39 = .ok (.getfield 29, 3) := by decide +kernel
theorem dX4_literal_42 : decode cX4_literal 42 = .ok (.iconst 1, 1) := by decide +kernel
theorem dX4_literal_43 : decode cX4_literal 43 = .ok (.iadd, 1) := by decide +kernel
theorem dX4_literal_44 : decode cX4_literal 44 = .ok (.putfield 29, 3) := by decide +kernel
theorem dX4_literal_47 : decode cX4_literal 47 = .ok (.aload_n 0, 1) := by decide +kernel
theorem dX4_literal_48 : decode cX4_literal 48 = .ok (.getfield 29, 3) := by decide +kernel
theorem dX4_literal_51 : decode cX4_literal 51 = .ok (.ireturn, 1) := by decide +kernel
theorem dX4_draft_0 : decode cX4_draft 0 = .ok (.aload_n 0, 1) := by decide +kernel
theorem dX4_draft_1 : decode cX4_draft 1 = .ok (.getfield 29, 3) := by decide +kernel
theorem dX4_draft_4 : decode cX4_draft 4 = .ok (.ireturn, 1) := by decide +kernel
theorem dX4_clear_0 : decode cX4_clear 0 = .ok (.aload_n 0, 1) := by decide +kernel
theorem dX4_clear_1 : decode cX4_clear 1 = .ok (.iconst 0, 1) := by decide +kernel
theorem dX4_clear_2 : decode cX4_clear 2 = .ok (.putfield 29, 3) := by decide +kernel
theorem dX4_clear_5 : decode cX4_clear 5 = .ok (.return_, 1) := by decide +kernel
theorem dX4_claim_0 : decode cX4_claim 0 = .ok (.aload_n 0, 1) := by decide +kernel
theorem dX4_claim_1 : decode cX4_claim 1 = .ok (.getfield 29, 3) := by decide +kernel
theorem dX4_claim_4 : decode cX4_claim 4 = .ok (.ifCond .ne 11, 3) := by decide +kernel
theorem dX4_claim_7 : decode cX4_claim 7 = .ok (.new 68, 3) := by decide +kernel
theorem dX4_claim_10 : decode cX4_claim 10 = .ok (.dup, 1) := by decide +kernel
theorem dX4_claim_11 : decode cX4_claim 11 = .ok (.invokespecial 70, 3) := by decide +kernel
theorem dX4_claim_14 : decode cX4_claim 14 = .ok (.athrow, 1) := by decide +kernel
theorem dX4_claim_15 : decode cX4_claim 15 = .ok (.aload_n 0, 1) := by decide +kernel
theorem dX4_claim_16 : decode cX4_claim 16 = .ok (.getfield 21, 3) := by decide +kernel
theorem dX4_claim_19 : decode cX4_claim 19 = .ok (.getfield 77, 3) := by decide +kernel
theorem dX4_claim_22 : decode cX4_claim 22 = .ok (.bipush 8, 2) := by decide +kernel
theorem dX4_claim_24 : decode cX4_claim 24 = .ok (.if_icmp .lt 11, 3) := by decide +kernel
theorem dX4_claim_27 : decode cX4_claim 27 = .ok (.new 78, 3) := by decide +kernel
theorem dX4_claim_30 : decode cX4_claim 30 = .ok (.dup, 1) := by decide +kernel
theorem dX4_claim_31 : decode cX4_claim 31 = .ok (.invokespecial 80, 3) := by decide +kernel
theorem dX4_claim_34 : decode cX4_claim 34 = .ok (.athrow, 1) := by decide +kernel
theorem dX4_claim_35 : decode cX4_claim 35 = .ok (.aload_n 0, 1) := by decide +kernel
theorem dX4_claim_36 : decode cX4_claim 36 = .ok (.getfield 21, 3) := by decide +kernel
theorem dX4_claim_39 : decode cX4_claim 39 = .ok (.aload_n 0, 1) := by decide +kernel
theorem dX4_claim_40 : decode cX4_claim 40 = .ok (.getfield 25, 3) := by decide +kernel
theorem dX4_claim_43 : decode cX4_claim 43 = .ok (.iconst 0, 1) := by decide +kernel
theorem dX4_claim_44 : decode cX4_claim 44 = .ok (.aload_n 0, 1) := by decide +kernel
theorem dX4_claim_45 : decode cX4_claim 45 = .ok (.getfield 29, 3) := by decide +kernel
theorem dX4_claim_48 : decode cX4_claim 48 = .ok (.invokevirtual 81, 3) := by decide +kernel
theorem dX4_claim_51 : decode cX4_claim 51 = .ok (.aload_n 0, 1) := by decide +kernel
theorem dX4_claim_52 : decode cX4_claim 52 = .ok (.iconst 0, 1) := by decide +kernel
theorem dX4_claim_53 : decode cX4_claim 53 = .ok (.putfield 29, 3) := by decide +kernel
theorem dX4_claim_56 : decode cX4_claim 56 = .ok (.aload_n 0, 1) := by decide +kernel
theorem dX4_claim_57 : decode cX4_claim 57 = .ok (.getfield 21, 3) := by decide +kernel
theorem dX4_claim_60 : decode cX4_claim 60 = .ok (.getfield 77, 3) := by decide +kernel
theorem dX4_claim_63 : decode cX4_claim 63 = .ok (.iconst 1, 1) := by decide +kernel
theorem dX4_claim_64 : decode cX4_claim 64 = .ok (.isub, 1) := by decide +kernel
theorem dX4_claim_65 : decode cX4_claim 65 = .ok (.ireturn, 1) := by decide +kernel
theorem dX4_keep_0 : decode cX4_keep 0 = .ok (.iload_n 1, 1) := by decide +kernel
theorem dX4_keep_1 : decode cX4_keep 1 = .ok (.ifCond .lt 14, 3) := by decide +kernel
theorem dX4_keep_4 : decode cX4_keep 4 = .ok (.iload_n 1, 1) := by decide +kernel
theorem dX4_keep_5 : decode cX4_keep 5 = .ok (.aload_n 0, 1) := by decide +kernel
theorem dX4_keep_6 : decode cX4_keep 6 = .ok (.getfield 21, 3) := by decide +kernel
theorem dX4_keep_9 : decode cX4_keep 9 = .ok (.getfield 77, 3) := by decide +kernel
theorem dX4_keep_12 : decode cX4_keep 12 = .ok (.if_icmp .le 5, 3) := by decide +kernel
theorem dX4_keep_15 : decode cX4_keep 15 = .ok (.iconst 0, 1) := by decide +kernel
theorem dX4_keep_16 : decode cX4_keep 16 = .ok (.ireturn, 1) := by decide +kernel
theorem dX4_keep_17 : decode cX4_keep 17 = .ok (.aload_n 0, 1) := by decide +kernel
theorem dX4_keep_18 : decode cX4_keep 18 = .ok (.getfield 21, 3) := by decide +kernel
theorem dX4_keep_21 : decode cX4_keep 21 = .ok (.iload_n 1, 1) := by decide +kernel
theorem dX4_keep_22 : decode cX4_keep 22 = .ok (.invokevirtual 85, 3) := by decide +kernel
theorem dX4_keep_25 : decode cX4_keep 25 = .ok (.iconst 1, 1) := by decide +kernel
theorem dX4_keep_26 : decode cX4_keep 26 = .ok (.ireturn, 1) := by decide +kernel
theorem dX4_claims_0 : decode cX4_claims 0 = .ok (.aload_n 0, 1) := by decide +kernel
theorem dX4_claims_1 : decode cX4_claims 1 = .ok (.getfield 21, 3) := by decide +kernel
theorem dX4_claims_4 : decode cX4_claims 4 = .ok (.getfield 77, 3) := by decide +kernel
theorem dX4_claims_7 : decode cX4_claims 7 = .ok (.ireturn, 1) := by decide +kernel
theorem dX4_can_0 : decode cX4_can 0 = .ok (.aload_n 0, 1) := by decide +kernel
theorem dX4_can_1 : decode cX4_can 1 = .ok (.aload_n 0, 1) := by decide +kernel
theorem dX4_can_2 : decode cX4_can 2 = .ok (.getfield 21, 3) := by decide +kernel
theorem dX4_can_5 : decode cX4_can 5 = .ok (.getfield 77, 3) := by decide +kernel
theorem dX4_can_8 : decode cX4_can 8 = .ok (.iconst (-1), 1) := by decide +kernel
theorem dX4_can_9 : decode cX4_can 9 = .ok (.invokevirtual 88, 3) := by decide +kernel
theorem dX4_can_12 : decode cX4_can 12 = .ok (.aload_n 0, 1) := by decide +kernel
theorem dX4_can_13 : decode cX4_can 13 = .ok (.invokevirtual 91, 3) := by decide +kernel
theorem dX4_can_16 : decode cX4_can 16 = .ok (.ireturn, 1) := by decide +kernel
theorem dX4_first_0 : decode cX4_first 0 = .ok (.iconst 0, 1) := by decide +kernel
theorem dX4_first_1 : decode cX4_first 1 = .ok (.istore_n 1, 1) := by decide +kernel
theorem dX4_first_2 : decode cX4_first 2 = .ok (.iload_n 1, 1) := by decide +kernel
theorem dX4_first_3 : decode cX4_first 3 = .ok (.aload_n 0, 1) := by decide +kernel
theorem dX4_first_4 : decode cX4_first 4 = .ok (.getfield 21, 3) := by decide +kernel
theorem dX4_first_7 : decode cX4_first 7 = .ok (.getfield 77, 3) := by decide +kernel
theorem dX4_first_10 : decode cX4_first 10 = .ok (.if_icmp .ge 26, 3) := by decide +kernel
theorem dX4_first_13 : decode cX4_first 13 = .ok (.aload_n 0, 1) := by decide +kernel
theorem dX4_first_14 : decode cX4_first 14 = .ok (.iload_n 1, 1) := by decide +kernel
theorem dX4_first_15 : decode cX4_first 15 = .ok (.iconst 1, 1) := by decide +kernel
theorem dX4_first_16 : decode cX4_first 16 = .ok (.iadd, 1) := by decide +kernel
theorem dX4_first_17 : decode cX4_first 17 = .ok (.iconst (-1), 1) := by decide +kernel
theorem dX4_first_18 : decode cX4_first 18 = .ok (.invokevirtual 88, 3) := by decide +kernel
theorem dX4_first_21 : decode cX4_first 21 = .ok (.aload_n 0, 1) := by decide +kernel
theorem dX4_first_22 : decode cX4_first 22 = .ok (.invokevirtual 91, 3) := by decide +kernel
theorem dX4_first_25 : decode cX4_first 25 = .ok (.ifCond .ne 5, 3) := by decide +kernel
theorem dX4_first_28 : decode cX4_first 28 = .ok (.iload_n 1, 1) := by decide +kernel
theorem dX4_first_29 : decode cX4_first 29 = .ok (.ireturn, 1) := by decide +kernel
theorem dX4_first_30 : decode cX4_first 30 = .ok (.iinc 1 1, 3) := by decide +kernel
theorem dX4_first_33 : decode cX4_first 33 = .ok (.goto (-31), 3) := by decide +kernel
theorem dX4_first_36 : decode cX4_first 36 = .ok (.iconst (-1), 1) := by decide +kernel
theorem dX4_first_37 : decode cX4_first 37 = .ok (.ireturn, 1) := by decide +kernel
theorem dX4_without_0 : decode cX4_without 0 = .ok (.iload_n 1, 1) := by decide +kernel
theorem dX4_without_1 : decode cX4_without 1 = .ok (.ifCond .lt 14, 3) := by decide +kernel
theorem dX4_without_4 : decode cX4_without 4 = .ok (.iload_n 1, 1) := by decide +kernel
theorem dX4_without_5 : decode cX4_without 5 = .ok (.aload_n 0, 1) := by decide +kernel
theorem dX4_without_6 : decode cX4_without 6 = .ok (.getfield 21, 3) := by decide +kernel
theorem dX4_without_9 : decode cX4_without 9 = .ok (.getfield 77, 3) := by decide +kernel
theorem dX4_without_12 : decode cX4_without 12 = .ok (.if_icmp .lt 11, 3) := by decide +kernel
theorem dX4_without_15 : decode cX4_without 15 = .ok (.new 47, 3) := by decide +kernel
theorem dX4_without_18 : decode cX4_without 18 = .ok (.dup, 1) := by decide +kernel
theorem dX4_without_19 : decode cX4_without 19 = .ok (.invokespecial 49, 3) := by decide +kernel
theorem dX4_without_22 : decode cX4_without 22 = .ok (.athrow, 1) := by decide +kernel
theorem dX4_without_23 : decode cX4_without 23 = .ok (.aload_n 0, 1) := by decide +kernel
theorem dX4_without_24 : decode cX4_without 24 = .ok (.aload_n 0, 1) := by decide +kernel
theorem dX4_without_25 : decode cX4_without 25 = .ok (.getfield 21, 3) := by decide +kernel
theorem dX4_without_28 : decode cX4_without 28 = .ok (.getfield 77, 3) := by decide +kernel
theorem dX4_without_31 : decode cX4_without 31 = .ok (.iload_n 1, 1) := by decide +kernel
theorem dX4_without_32 : decode cX4_without 32 = .ok (.invokevirtual 88, 3) := by decide +kernel
theorem dX4_without_35 : decode cX4_without 35 = .ok (.aload_n 0, 1) := by decide +kernel
theorem dX4_without_36 : decode cX4_without 36 = .ok (.invokevirtual 91, 3) := by decide +kernel
theorem dX4_without_39 : decode cX4_without 39 = .ok (.ireturn, 1) := by decide +kernel
theorem dX4_same_0 : decode cX4_same 0 = .ok (.aload_n 0, 1) := by decide +kernel
theorem dX4_same_1 : decode cX4_same 1 = .ok (.iload_n 1, 1) := by decide +kernel
theorem dX4_same_2 : decode cX4_same 2 = .ok (.iload_n 2, 1) := by decide +kernel
theorem dX4_same_3 : decode cX4_same 3 = .ok (.invokevirtual 64, 3) := by decide +kernel
theorem dX4_same_6 : decode cX4_same 6 = .ok (.aload_n 0, 1) := by decide +kernel
theorem dX4_same_7 : decode cX4_same 7 = .ok (.aload_n 0, 1) := by decide +kernel
theorem dX4_same_8 : decode cX4_same 8 = .ok (.getfield 21, 3) := by decide +kernel
theorem dX4_same_11 : decode cX4_same 11 = .ok (.getfield 77, 3) := by decide +kernel
theorem dX4_same_14 : decode cX4_same 14 = .ok (.iconst (-1), 1) := by decide +kernel
theorem dX4_same_15 : decode cX4_same 15 = .ok (.invokevirtual 88, 3) := by decide +kernel
theorem dX4_same_18 : decode cX4_same 18 = .ok (.aload_n 0, 1) := by decide +kernel
theorem dX4_same_19 : decode cX4_same 19 = .ok (.getfield 33, 3) := by decide +kernel
theorem dX4_same_22 : decode cX4_same 22 = .ok (.iload_n 1, 1) := by decide +kernel
theorem dX4_same_23 : decode cX4_same 23 = .ok (.iload_n 2, 1) := by decide +kernel
theorem dX4_same_24 : decode cX4_same 24 = .ok (.iconst 1, 1) := by decide +kernel
theorem dX4_same_25 : decode cX4_same 25 = .ok (.invokestatic 71, 3) := by decide +kernel
theorem dX4_same_28 : decode cX4_same 28 = .ok (.invokevirtual 95, 3) := by decide +kernel
theorem dX4_same_31 : decode cX4_same 31 = .ok (.aload_n 0, 1) := by decide +kernel
theorem dX4_same_32 : decode cX4_same 32 = .ok (.invokevirtual 91, 3) := by decide +kernel
theorem dX4_same_35 : decode cX4_same 35 = .ok (.istore_n 3, 1) := by decide +kernel
theorem dX4_same_36 : decode cX4_same 36 = .ok (.aload_n 0, 1) := by decide +kernel
theorem dX4_same_37 : decode cX4_same 37 = .ok (.getfield 33, 3) := by decide +kernel
theorem dX4_same_40 : decode cX4_same 40 = .ok (.aload_n 0, 1) := by decide +kernel
theorem dX4_same_41 : decode cX4_same 41 = .ok (.getfield 21, 3) := by decide +kernel
theorem dX4_same_44 : decode cX4_same 44 = .ok (.getfield 77, 3) := by decide +kernel
theorem dX4_same_47 : decode cX4_same 47 = .ok (.invokevirtual 85, 3) := by decide +kernel
theorem dX4_same_50 : decode cX4_same 50 = .ok (.aload_n 0, 1) := by decide +kernel
theorem dX4_same_51 : decode cX4_same 51 = .ok (.getfield 33, 3) := by decide +kernel
theorem dX4_same_54 : decode cX4_same 54 = .ok (.iload_n 1, 1) := by decide +kernel
theorem dX4_same_55 : decode cX4_same 55 = .ok (.iload_n 2, 1) := by decide +kernel
theorem dX4_same_56 : decode cX4_same 56 = .ok (.iconst 0, 1) := by decide +kernel
theorem dX4_same_57 : decode cX4_same 57 = .ok (.invokestatic 71, 3) := by decide +kernel
theorem dX4_same_60 : decode cX4_same 60 = .ok (.invokevirtual 95, 3) := by decide +kernel
theorem dX4_same_63 : decode cX4_same 63 = .ok (.aload_n 0, 1) := by decide +kernel
theorem dX4_same_64 : decode cX4_same 64 = .ok (.invokevirtual 91, 3) := by decide +kernel
theorem dX4_same_67 : decode cX4_same 67 = .ok (.istore 4, 2) := by decide +kernel
theorem dX4_same_69 : decode cX4_same 69 = .ok (.iload_n 3, 1) := by decide +kernel
theorem dX4_same_70 : decode cX4_same 70 = .ok (.ifCond .ne 16, 3) := by decide +kernel
theorem dX4_same_73 : decode cX4_same 73 = .ok (.iload 4, 2) := by decide +kernel
theorem dX4_same_75 : decode cX4_same 75 = .ok (.ifCond .ne 11, 3) := by decide +kernel
theorem dX4_same_78 : decode cX4_same 78 = .ok (.new 68, 3) := by decide +kernel
theorem dX4_same_81 : decode cX4_same 81 = .ok (.dup, 1) := by decide +kernel
theorem dX4_same_82 : decode cX4_same 82 = .ok (.invokespecial 70, 3) := by decide +kernel
theorem dX4_same_85 : decode cX4_same 85 = .ok (.athrow, 1) := by decide +kernel
theorem dX4_same_86 : decode cX4_same 86 = .ok (.iload_n 3, 1) := by decide +kernel
theorem dX4_same_87 : decode cX4_same 87 = .ok (.ifCond .eq 10, 3) := by decide +kernel
theorem dX4_same_90 : decode cX4_same 90 = .ok (.iload 4, 2) := by decide +kernel
theorem dX4_same_92 : decode cX4_same 92 = .ok (.ifCond .eq 5, 3) := by decide +kernel
theorem dX4_same_95 : decode cX4_same 95 = .ok (.iconst 2, 1) := by decide +kernel
theorem dX4_same_96 : decode cX4_same 96 = .ok (.ireturn, 1) := by decide +kernel
theorem dX4_same_97 : decode cX4_same 97 = .ok (.iload_n 3, 1) := by decide +kernel
theorem dX4_same_98 : decode cX4_same 98 = .ok (.ifCond .eq 7, 3) := by decide +kernel
theorem dX4_same_101 : decode cX4_same 101 = .ok (.iconst 1, 1) := by decide +kernel
theorem dX4_same_102 : decode cX4_same 102 = .ok (.goto 4, 3) := by decide +kernel
theorem dX4_same_105 : decode cX4_same 105 = .ok (.iconst 0, 1) := by decide +kernel
theorem dX4_same_106 : decode cX4_same 106 = .ok (.ireturn, 1) := by decide +kernel
theorem dX4_follows_0 : decode cX4_follows 0 = .ok (.aload_n 0, 1) := by decide +kernel
theorem dX4_follows_1 : decode cX4_follows 1 = .ok (.getfield 29, 3) := by decide +kernel
theorem dX4_follows_4 : decode cX4_follows 4 = .ok (.ifCond .ne 11, 3) := by decide +kernel
theorem dX4_follows_7 : decode cX4_follows 7 = .ok (.new 68, 3) := by decide +kernel
theorem dX4_follows_10 : decode cX4_follows 10 = .ok (.dup, 1) := by decide +kernel
theorem dX4_follows_11 : decode cX4_follows 11 = .ok (.invokespecial 70, 3) := by decide +kernel
theorem dX4_follows_14 : decode cX4_follows 14 = .ok (.athrow, 1) := by decide +kernel
theorem dX4_follows_15 : decode cX4_follows 15 = .ok (.aload_n 0, 1) := by decide +kernel
theorem dX4_follows_16 : decode cX4_follows 16 = .ok (.aload_n 0, 1) := by decide +kernel
theorem dX4_follows_17 : decode cX4_follows 17 = .ok (.getfield 21, 3) := by decide +kernel
theorem dX4_follows_20 : decode cX4_follows 20 = .ok (.getfield 77, 3) := by decide +kernel
theorem dX4_follows_23 : decode cX4_follows 23 = .ok (.iconst (-1), 1) := by decide +kernel
theorem dX4_follows_24 : decode cX4_follows 24 = .ok (.invokevirtual 88, 3) := by decide +kernel
theorem dX4_follows_27 : decode cX4_follows 27 = .ok (.iconst 0, 1) := by decide +kernel
theorem dX4_follows_28 : decode cX4_follows 28 = .ok (.istore_n 1, 1) := by decide +kernel
theorem dX4_follows_29 : decode cX4_follows 29 = .ok (.iload_n 1, 1) := by decide +kernel
theorem dX4_follows_30 : decode cX4_follows 30 = .ok (.aload_n 0, 1) := by decide +kernel
theorem dX4_follows_31 : decode cX4_follows 31 = .ok (.getfield 29, 3) := by decide +kernel
theorem dX4_follows_34 : decode cX4_follows 34 = .ok (.if_icmp .ge 25, 3) := by decide +kernel
theorem dX4_follows_37 : decode cX4_follows 37 = .ok (.aload_n 0, 1) := by decide +kernel
theorem dX4_follows_38 : decode cX4_follows 38 = .ok (.getfield 33, 3) := by decide +kernel
theorem dX4_follows_41 : decode cX4_follows 41 = .ok (.aload_n 0, 1) := by decide +kernel
theorem dX4_follows_42 : decode cX4_follows 42 = .ok (.getfield 25, 3) := by decide +kernel
theorem dX4_follows_45 : decode cX4_follows 45 = .ok (.iload_n 1, 1) := by decide +kernel
theorem dX4_follows_46 : decode cX4_follows 46 = .ok (.iaload, 1) := by decide +kernel
theorem dX4_follows_47 : decode cX4_follows 47 = .ok (.invokestatic 98, 3) := by decide +kernel
theorem dX4_follows_50 : decode cX4_follows 50 = .ok (.invokevirtual 95, 3) := by decide +kernel
theorem dX4_follows_53 : decode cX4_follows 53 = .ok (.iinc 1 1, 3) := by decide +kernel
theorem dX4_follows_56 : decode cX4_follows 56 = .ok (.goto (-27), 3) := by decide +kernel
theorem dX4_follows_59 : decode cX4_follows 59 = .ok (.aload_n 0, 1) := by decide +kernel
theorem dX4_follows_60 : decode cX4_follows 60 = .ok (.invokevirtual 91, 3) := by decide +kernel
theorem dX4_follows_63 : decode cX4_follows 63 = .ok (.ifCond .ne 7, 3) := by decide +kernel
theorem dX4_follows_66 : decode cX4_follows 66 = .ok (.iconst 1, 1) := by decide +kernel
theorem dX4_follows_67 : decode cX4_follows 67 = .ok (.goto 4, 3) := by decide +kernel
theorem dX4_follows_70 : decode cX4_follows 70 = .ok (.iconst 0, 1) := by decide +kernel
theorem dX4_follows_71 : decode cX4_follows 71 = .ok (.ireturn, 1) := by decide +kernel
theorem dX4_apart_0 : decode cX4_apart 0 = .ok (.aload_n 0, 1) := by decide +kernel
theorem dX4_apart_1 : decode cX4_apart 1 = .ok (.aload_n 0, 1) := by decide +kernel
theorem dX4_apart_2 : decode cX4_apart 2 = .ok (.getfield 21, 3) := by decide +kernel
theorem dX4_apart_5 : decode cX4_apart 5 = .ok (.getfield 77, 3) := by decide +kernel
theorem dX4_apart_8 : decode cX4_apart 8 = .ok (.iconst (-1), 1) := by decide +kernel
theorem dX4_apart_9 : decode cX4_apart 9 = .ok (.invokevirtual 88, 3) := by decide +kernel
theorem dX4_apart_12 : decode cX4_apart 12 = .ok (.iconst 0, 1) := by decide +kernel
theorem dX4_apart_13 : decode cX4_apart 13 = .ok (.istore_n 2, 1) := by decide +kernel
theorem dX4_apart_14 : decode cX4_apart 14 = .ok (.iload_n 2, 1) := by decide +kernel
theorem dX4_apart_15 : decode cX4_apart 15 = .ok (.iconst 3, 1) := by decide +kernel
theorem dX4_apart_16 : decode cX4_apart 16 = .ok (.if_icmp .ge 45, 3) := by decide +kernel
theorem dX4_apart_19 : decode cX4_apart 19 = .ok (.iload_n 1, 1) := by decide +kernel
theorem dX4_apart_20 : decode cX4_apart 20 = .ok (.ifCond .eq 9, 3) := by decide +kernel
theorem dX4_apart_23 : decode cX4_apart 23 = .ok (.iconst 1, 1) := by decide +kernel
theorem dX4_apart_24 : decode cX4_apart 24 = .ok (.iload_n 2, 1) := by decide +kernel
theorem dX4_apart_25 : decode cX4_apart 25 = .ok (.iadd, 1) := by decide +kernel
theorem dX4_apart_26 : decode cX4_apart 26 = .ok (.goto 6, 3) := by decide +kernel
theorem dX4_apart_29 : decode cX4_apart 29 = .ok (.iconst 3, 1) := by decide +kernel
theorem dX4_apart_30 : decode cX4_apart 30 = .ok (.iload_n 2, 1) := by decide +kernel
theorem dX4_apart_31 : decode cX4_apart 31 = .ok (.isub, 1) := by decide +kernel
theorem dX4_apart_32 : decode cX4_apart 32 = .ok (.istore_n 3, 1) := by decide +kernel
theorem dX4_apart_33 : decode cX4_apart 33 = .ok (.aload_n 0, 1) := by decide +kernel
theorem dX4_apart_34 : decode cX4_apart 34 = .ok (.getfield 39, 3) := by decide +kernel
theorem dX4_apart_37 : decode cX4_apart 37 = .ok (.aload_n 0, 1) := by decide +kernel
theorem dX4_apart_38 : decode cX4_apart 38 = .ok (.getfield 12, 3) := by decide +kernel
theorem dX4_apart_41 : decode cX4_apart 41 = .ok (.aload_n 0, 1) := by decide +kernel
theorem dX4_apart_42 : decode cX4_apart 42 = .ok (.getfield 33, 3) := by decide +kernel
theorem dX4_apart_45 : decode cX4_apart 45 = .ok (.iload_n 3, 1) := by decide +kernel
theorem dX4_apart_46 : decode cX4_apart 46 = .ok (.iload_n 3, 1) := by decide +kernel
theorem dX4_apart_47 : decode cX4_apart 47 = .ok (.invokevirtual 101, 3) := by decide +kernel
theorem dX4_apart_50 : decode cX4_apart 50 = .ok (.ifCond .eq 5, 3) := by decide +kernel
theorem dX4_apart_53 : decode cX4_apart 53 = .ok (.iload_n 3, 1) := by decide +kernel
theorem dX4_apart_54 : decode cX4_apart 54 = .ok (.ireturn, 1) := by decide +kernel
theorem dX4_apart_55 : decode cX4_apart 55 = .ok (.iinc 2 1, 3) := by decide +kernel
theorem dX4_apart_58 : decode cX4_apart 58 = .ok (.goto (-44), 3) := by decide +kernel
theorem dX4_apart_61 : decode cX4_apart 61 = .ok (.new 68, 3) := by decide +kernel
theorem dX4_apart_64 : decode cX4_apart 64 = .ok (.dup, 1) := by decide +kernel
theorem dX4_apart_65 : decode cX4_apart 65 = .ok (.invokespecial 70, 3) := by decide +kernel
theorem dX4_apart_68 : decode cX4_apart 68 = .ok (.athrow, 1) := by decide +kernel
theorem dX4_termFor_0 : decode cX4_termFor 0 = .ok (.aload_n 0, 1) := by decide +kernel
theorem dX4_termFor_1 : decode cX4_termFor 1 = .ok (.getfield 12, 3) := by decide +kernel
theorem dX4_termFor_4 : decode cX4_termFor 4 = .ok (.iload_n 1, 1) := by decide +kernel
theorem dX4_termFor_5 : decode cX4_termFor 5 = .ok (.iload_n 2, 1) := by decide +kernel
theorem dX4_termFor_6 : decode cX4_termFor 6 = .ok (.iload_n 3, 1) := by decide +kernel
theorem dX4_termFor_7 : decode cX4_termFor 7 = .ok (.iload 4, 2) := by decide +kernel
theorem dX4_termFor_9 : decode cX4_termFor 9 = .ok (.invokevirtual 105, 3) := by decide +kernel
theorem dX4_termFor_12 : decode cX4_termFor 12 = .ok (.istore 5, 2) := by decide +kernel
theorem dX4_termFor_14 : decode cX4_termFor 14 = .ok (.iload 5, 2) := by decide +kernel
theorem dX4_termFor_16 : decode cX4_termFor 16 = .ok (.iconst (-1), 1) := by decide +kernel
theorem dX4_termFor_17 : decode cX4_termFor 17 = .ok (.if_icmp .eq 6, 3) := by decide +kernel
theorem dX4_termFor_20 : decode cX4_termFor 20 = .ok (.iload 5, 2) := by decide +kernel
theorem dX4_termFor_22 : decode cX4_termFor 22 = .ok (.ireturn, 1) := by decide +kernel
theorem dX4_termFor_23 : decode cX4_termFor 23 = .ok (.aload_n 0, 1) := by decide +kernel
theorem dX4_termFor_24 : decode cX4_termFor 24 = .ok (.getfield 12, 3) := by decide +kernel
theorem dX4_termFor_27 : decode cX4_termFor 27 = .ok (.getfield 61, 3) := by decide +kernel
theorem dX4_termFor_30 : decode cX4_termFor 30 = .ok (.bipush 24, 2) := by decide +kernel
theorem dX4_termFor_32 : decode cX4_termFor 32 = .ok (.if_icmp .lt 11, 3) := by decide +kernel
theorem dX4_termFor_35 : decode cX4_termFor 35 = .ok (.new 78, 3) := by decide +kernel
theorem dX4_termFor_38 : decode cX4_termFor 38 = .ok (.dup, 1) := by decide +kernel
theorem dX4_termFor_39 : decode cX4_termFor 39 = .ok (.invokespecial 80, 3) := by decide +kernel
theorem dX4_termFor_42 : decode cX4_termFor 42 = .ok (.athrow, 1) := by decide +kernel
theorem dX4_termFor_43 : decode cX4_termFor 43 = .ok (.aload_n 0, 1) := by decide +kernel
theorem dX4_termFor_44 : decode cX4_termFor 44 = .ok (.getfield 12, 3) := by decide +kernel
theorem dX4_termFor_47 : decode cX4_termFor 47 = .ok (.iload_n 1, 1) := by decide +kernel
theorem dX4_termFor_48 : decode cX4_termFor 48 = .ok (.iload_n 2, 1) := by decide +kernel
theorem dX4_termFor_49 : decode cX4_termFor 49 = .ok (.iload_n 3, 1) := by decide +kernel
theorem dX4_termFor_50 : decode cX4_termFor 50 = .ok (.iload 4, 2) := by decide +kernel
theorem dX4_termFor_52 : decode cX4_termFor 52 = .ok (.invokevirtual 108, 3) := by decide +kernel
theorem dX4_termFor_55 : decode cX4_termFor 55 = .ok (.ireturn, 1) := by decide +kernel
theorem dX4_checkPair_0 : decode cX4_checkPair 0 = .ok (.aload_n 0, 1) := by decide +kernel
theorem dX4_checkPair_1 : decode cX4_checkPair 1 = .ok (.getfield 12, 3) := by decide +kernel
theorem dX4_checkPair_4 : decode cX4_checkPair 4 = .ok (.iload_n 1, 1) := by decide +kernel
theorem dX4_checkPair_5 : decode cX4_checkPair 5 = .ok (.invokevirtual 43, 3) := by decide +kernel
theorem dX4_checkPair_8 : decode cX4_checkPair 8 = .ok (.ifCond .eq 14, 3) := by decide +kernel
theorem dX4_checkPair_11 : decode cX4_checkPair 11 = .ok (.aload_n 0, 1) := by decide +kernel
theorem dX4_checkPair_12 : decode cX4_checkPair 12 = .ok (.getfield 12, 3) := by decide +kernel
theorem dX4_checkPair_15 : decode cX4_checkPair 15 = .ok (.iload_n 2, 1) := by decide +kernel
theorem dX4_checkPair_16 : decode cX4_checkPair 16 = .ok (.invokevirtual 43, 3) := by decide +kernel
theorem dX4_checkPair_19 : decode cX4_checkPair 19 = .ok (.ifCond .ne 11, 3) := by decide +kernel
theorem dX4_checkPair_22 : decode cX4_checkPair 22 = .ok (.new 47, 3) := by decide +kernel
theorem dX4_checkPair_25 : decode cX4_checkPair 25 = .ok (.dup, 1) := by decide +kernel
theorem dX4_checkPair_26 : decode cX4_checkPair 26 = .ok (.invokespecial 49, 3) := by decide +kernel
theorem dX4_checkPair_29 : decode cX4_checkPair 29 = .ok (.athrow, 1) := by decide +kernel
theorem dX4_checkPair_30 : decode cX4_checkPair 30 = .ok (.aload_n 0, 1) := by decide +kernel
theorem dX4_checkPair_31 : decode cX4_checkPair 31 = .ok (.getfield 12, 3) := by decide +kernel
theorem dX4_checkPair_34 : decode cX4_checkPair 34 = .ok (.iload_n 1, 1) := by decide +kernel
theorem dX4_checkPair_35 : decode cX4_checkPair 35 = .ok (.invokevirtual 50, 3) := by decide +kernel
theorem dX4_checkPair_38 : decode cX4_checkPair 38 = .ok (.aload_n 0, 1) := by decide +kernel
theorem dX4_checkPair_39 : decode cX4_checkPair 39 = .ok (.getfield 12, 3) := by decide +kernel
theorem dX4_checkPair_42 : decode cX4_checkPair 42 = .ok (.iload_n 2, 1) := by decide +kernel
theorem dX4_checkPair_43 : decode cX4_checkPair 43 = .ok (.invokevirtual 50, 3) := by decide +kernel
theorem dX4_checkPair_46 : decode cX4_checkPair 46 = .ok (.if_icmp .eq 11, 3) := by decide +kernel
theorem dX4_checkPair_49 : decode cX4_checkPair 49 = .ok (.new 54, 3) := by decide +kernel
theorem dX4_checkPair_52 : decode cX4_checkPair 52 = .ok (.dup, 1) := by decide +kernel
theorem dX4_checkPair_53 : decode cX4_checkPair 53 = .ok (.invokespecial 56, 3) := by decide +kernel
theorem dX4_checkPair_56 : decode cX4_checkPair 56 = .ok (.athrow, 1) := by decide +kernel
theorem dX4_checkPair_57 : decode cX4_checkPair 57 = .ok (.return_, 1) := by decide +kernel
theorem dX4_askClaims_0 : decode cX4_askClaims 0 = .ok (.aload_n 0, 1) := by decide +kernel
theorem dX4_askClaims_1 : decode cX4_askClaims 1 = .ok (.getfield 33, 3) := by decide +kernel
theorem dX4_askClaims_4 : decode cX4_askClaims 4 = .ok (.iconst 0, 1) := by decide +kernel
theorem dX4_askClaims_5 : decode cX4_askClaims 5 = .ok (.invokevirtual 85, 3) := by decide +kernel
theorem dX4_askClaims_8 : decode cX4_askClaims 8 = .ok (.iconst 0, 1) := by decide +kernel
theorem dX4_askClaims_9 : decode cX4_askClaims 9 = .ok (.istore_n 3, 1) := by decide +kernel
theorem dX4_askClaims_10 : decode cX4_askClaims 10 = .ok (.iload_n 3, 1) := by decide +kernel
theorem dX4_askClaims_11 : decode cX4_askClaims 11 = .ok (.iload_n 1, 1) := by decide +kernel
theorem dX4_askClaims_12 : decode cX4_askClaims 12 = .ok (.if_icmp .ge 26, 3) := by decide +kernel
theorem dX4_askClaims_15 : decode cX4_askClaims 15 = .ok (.iload_n 3, 1) := by decide +kernel
theorem dX4_askClaims_16 : decode cX4_askClaims 16 = .ok (.iload_n 2, 1) := by decide +kernel
theorem dX4_askClaims_17 : decode cX4_askClaims 17 = .ok (.if_icmp .eq 15, 3) := by decide +kernel
theorem dX4_askClaims_20 : decode cX4_askClaims 20 = .ok (.aload_n 0, 1) := by decide +kernel
theorem dX4_askClaims_21 : decode cX4_askClaims 21 = .ok (.getfield 33, 3) := by decide +kernel
theorem dX4_askClaims_24 : decode cX4_askClaims 24 = .ok (.aload_n 0, 1) := by decide +kernel
theorem dX4_askClaims_25 : decode cX4_askClaims 25 = .ok (.getfield 21, 3) := by decide +kernel
theorem dX4_askClaims_28 : decode cX4_askClaims 28 = .ok (.iload_n 3, 1) := by decide +kernel
theorem dX4_askClaims_29 : decode cX4_askClaims 29 = .ok (.invokevirtual 110, 3) := by decide +kernel
theorem dX4_askClaims_32 : decode cX4_askClaims 32 = .ok (.iinc 3 1, 3) := by decide +kernel
theorem dX4_askClaims_35 : decode cX4_askClaims 35 = .ok (.goto (-25), 3) := by decide +kernel
theorem dX4_askClaims_38 : decode cX4_askClaims 38 = .ok (.return_, 1) := by decide +kernel
theorem dX4_isPossible_0 : decode cX4_isPossible 0 = .ok (.aload_n 0, 1) := by decide +kernel
theorem dX4_isPossible_1 : decode cX4_isPossible 1 = .ok (.getfield 39, 3) := by decide +kernel
theorem dX4_isPossible_4 : decode cX4_isPossible 4 = .ok (.aload_n 0, 1) := by decide +kernel
theorem dX4_isPossible_5 : decode cX4_isPossible 5 = .ok (.getfield 12, 3) := by decide +kernel
theorem dX4_isPossible_8 : decode cX4_isPossible 8 = .ok (.aload_n 0, 1) := by decide +kernel
theorem dX4_isPossible_9 : decode cX4_isPossible 9 = .ok (.getfield 33, 3) := by decide +kernel
theorem dX4_isPossible_12 : decode cX4_isPossible 12 = .ok (.iconst 1, 1) := by decide +kernel
theorem dX4_isPossible_13 : decode cX4_isPossible 13 = .ok (.iconst 3, 1) := by decide +kernel
theorem dX4_isPossible_14 : decode cX4_isPossible 14 = .ok (.invokevirtual 101, 3) := by decide +kernel
theorem dX4_isPossible_17 : decode cX4_isPossible 17 = .ok (.ireturn, 1) := by decide +kernel
theorem dX5_init_0 : decode cX5_init 0 = .ok (.aload_n 0, 1) := by decide +kernel
theorem dX5_init_1 : decode cX5_init 1 = .ok (.invokespecial 1, 3) := by decide +kernel
theorem dX5_init_4 : decode cX5_init 4 = .ok (.aload_n 0, 1) := by decide +kernel
theorem dX5_init_5 : decode cX5_init 5 = .ok (.bipush 7, 2) := by decide +kernel
theorem dX5_init_7 : decode cX5_init 7 = .ok (.putfield 7, 3) := by decide +kernel
theorem dX5_init_10 : decode cX5_init 10 = .ok (.aload_n 0, 1) := by decide +kernel
theorem dX5_init_11 : decode cX5_init 11 = .ok (.bipush 24, 2) := by decide +kernel
theorem dX5_init_13 : decode cX5_init 13 = .ok (.newarray .int, 2) := by decide +kernel
theorem dX5_init_15 : decode cX5_init 15 = .ok (.putfield 13, 3) := by decide +kernel
theorem dX5_init_18 : decode cX5_init 18 = .ok (.aload_n 0, 1) := by decide +kernel
theorem dX5_init_19 : decode cX5_init 19 = .ok (.bipush 24, 2) := by decide +kernel
theorem dX5_init_21 : decode cX5_init 21 = .ok (.newarray .int, 2) := by decide +kernel
theorem dX5_init_23 : decode cX5_init 23 = .ok (.putfield 17, 3) := by decide +kernel
theorem dX5_init_26 : decode cX5_init 26 = .ok (.aload_n 0, 1) := by decide +kernel
theorem dX5_init_27 : decode cX5_init 27 = .ok (.bipush 24, 2) := by decide +kernel
theorem dX5_init_29 : decode cX5_init 29 = .ok (.newarray .int, 2) := by decide +kernel
theorem dX5_init_31 : decode cX5_init 31 = .ok (.putfield 20, 3) := by decide +kernel
theorem dX5_init_34 : decode cX5_init 34 = .ok (.aload_n 0, 1) := by decide +kernel
theorem dX5_init_35 : decode cX5_init 35 = .ok (.bipush 24, 2) := by decide +kernel
theorem dX5_init_37 : decode cX5_init 37 = .ok (.newarray .int, 2) := by decide +kernel
theorem dX5_init_39 : decode cX5_init 39 = .ok (.putfield 23, 3) := by decide +kernel
theorem dX5_init_42 : decode cX5_init 42 = .ok (.aload_n 0, 1) := by decide +kernel
theorem dX5_init_43 : decode cX5_init 43 = .ok (.bipush 24, 2) := by decide +kernel
theorem dX5_init_45 : decode cX5_init 45 = .ok (.newarray .int, 2) := by decide +kernel
theorem dX5_init_47 : decode cX5_init 47 = .ok (.putfield 26, 3) := by decide +kernel
theorem dX5_init_50 : decode cX5_init 50 = .ok (.aload_n 0, 1) := by decide +kernel
theorem dX5_init_51 : decode cX5_init 51 = .ok (.bipush 15, 2) := by decide +kernel
theorem dX5_init_53 : decode cX5_init 53 = .ok (.newarray .int, 2) := by decide +kernel
theorem dX5_init_55 : decode cX5_init 55 = .ok (.dup, 1) := by decide +kernel
theorem dX5_init_56 : decode cX5_init 56 = .ok (.iconst 0, 1) := by decide +kernel
theorem dX5_init_57 : decode cX5_init 57 = .ok (.iconst 0, 1) := by decide +kernel
theorem dX5_init_58 : decode cX5_init 58 = .ok (.iastore, 1) := by decide +kernel
theorem dX5_init_59 : decode cX5_init 59 = .ok (.dup, 1) := by decide +kernel
theorem dX5_init_60 : decode cX5_init 60 = .ok (.iconst 1, 1) := by decide +kernel
theorem dX5_init_61 : decode cX5_init 61 = .ok (.iconst 0, 1) := by decide +kernel
theorem dX5_init_62 : decode cX5_init 62 = .ok (.iastore, 1) := by decide +kernel
theorem dX5_init_63 : decode cX5_init 63 = .ok (.dup, 1) := by decide +kernel
theorem dX5_init_64 : decode cX5_init 64 = .ok (.iconst 2, 1) := by decide +kernel
theorem dX5_init_65 : decode cX5_init 65 = .ok (.iconst 0, 1) := by decide +kernel
theorem dX5_init_66 : decode cX5_init 66 = .ok (.iastore, 1) := by decide +kernel
theorem dX5_init_67 : decode cX5_init 67 = .ok (.dup, 1) := by decide +kernel
theorem dX5_init_68 : decode cX5_init 68 = .ok (.iconst 3, 1) := by decide +kernel
theorem dX5_init_69 : decode cX5_init 69 = .ok (.iconst 0, 1) := by decide +kernel
theorem dX5_init_70 : decode cX5_init 70 = .ok (.iastore, 1) := by decide +kernel
theorem dX5_init_71 : decode cX5_init 71 = .ok (.dup, 1) := by decide +kernel
theorem dX5_init_72 : decode cX5_init 72 = .ok (.iconst 4, 1) := by decide +kernel
theorem dX5_init_73 : decode cX5_init 73 = .ok (.iconst 0, 1) := by decide +kernel
theorem dX5_init_74 : decode cX5_init 74 = .ok (.iastore, 1) := by decide +kernel
theorem dX5_init_75 : decode cX5_init 75 = .ok (.dup, 1) := by decide +kernel
theorem dX5_init_76 : decode cX5_init 76 = .ok (.iconst 5, 1) := by decide +kernel
theorem dX5_init_77 : decode cX5_init 77 = .ok (.iconst 1, 1) := by decide +kernel
theorem dX5_init_78 : decode cX5_init 78 = .ok (.iastore, 1) := by decide +kernel
theorem dX5_init_79 : decode cX5_init 79 = .ok (.dup, 1) := by decide +kernel
theorem dX5_init_80 : decode cX5_init 80 = .ok (.bipush 6, 2) := by decide +kernel
theorem dX5_init_82 : decode cX5_init 82 = .ok (.iconst 0, 1) := by decide +kernel
theorem dX5_init_83 : decode cX5_init 83 = .ok (.iastore, 1) := by decide +kernel
theorem dX5_init_84 : decode cX5_init 84 = .ok (.dup, 1) := by decide +kernel
theorem dX5_init_85 : decode cX5_init 85 = .ok (.bipush 7, 2) := by decide +kernel
theorem dX5_init_87 : decode cX5_init 87 = .ok (.iconst 1, 1) := by decide +kernel
theorem dX5_init_88 : decode cX5_init 88 = .ok (.iastore, 1) := by decide +kernel
theorem dX5_init_89 : decode cX5_init 89 = .ok (.dup, 1) := by decide +kernel
theorem dX5_init_90 : decode cX5_init 90 = .ok (.bipush 8, 2) := by decide +kernel
theorem dX5_init_92 : decode cX5_init 92 = .ok (.iconst 0, 1) := by decide +kernel
theorem dX5_init_93 : decode cX5_init 93 = .ok (.iastore, 1) := by decide +kernel
theorem dX5_init_94 : decode cX5_init 94 = .ok (.dup, 1) := by decide +kernel
theorem dX5_init_95 : decode cX5_init 95 = .ok (.bipush 9, 2) := by decide +kernel
theorem dX5_init_97 : decode cX5_init 97 = .ok (.iconst 0, 1) := by decide +kernel
theorem dX5_init_98 : decode cX5_init 98 = .ok (.iastore, 1) := by decide +kernel
theorem dX5_init_99 : decode cX5_init 99 = .ok (.dup, 1) := by decide +kernel
theorem dX5_init_100 : decode cX5_init 100 = .ok (.bipush 10, 2) := by decide +kernel
theorem dX5_init_102 : decode cX5_init 102 = .ok (.iconst 1, 1) := by decide +kernel
theorem dX5_init_103 : decode cX5_init 103 = .ok (.iastore, 1) := by decide +kernel
theorem dX5_init_104 : decode cX5_init 104 = .ok (.dup, 1) := by decide +kernel
theorem dX5_init_105 : decode cX5_init 105 = .ok (.bipush 11, 2) := by decide +kernel
theorem dX5_init_107 : decode cX5_init 107 = .ok (.iconst 1, 1) := by decide +kernel
theorem dX5_init_108 : decode cX5_init 108 = .ok (.iastore, 1) := by decide +kernel
theorem dX5_init_109 : decode cX5_init 109 = .ok (.dup, 1) := by decide +kernel
theorem dX5_init_110 : decode cX5_init 110 = .ok (.bipush 12, 2) := by decide +kernel
theorem dX5_init_112 : decode cX5_init 112 = .ok (.iconst 0, 1) := by decide +kernel
theorem dX5_init_113 : decode cX5_init 113 = .ok (.iastore, 1) := by decide +kernel
theorem dX5_init_114 : decode cX5_init 114 = .ok (.dup, 1) := by decide +kernel
theorem dX5_init_115 : decode cX5_init 115 = .ok (.bipush 13, 2) := by decide +kernel
theorem dX5_init_117 : decode cX5_init 117 = .ok (.iconst 1, 1) := by decide +kernel
theorem dX5_init_118 : decode cX5_init 118 = .ok (.iastore, 1) := by decide +kernel
theorem dX5_init_119 : decode cX5_init 119 = .ok (.dup, 1) := by decide +kernel
theorem dX5_init_120 : decode cX5_init 120 = .ok (.bipush 14, 2) := by decide +kernel
theorem dX5_init_122 : decode cX5_init 122 = .ok (.iconst 2, 1) := by decide +kernel
theorem dX5_init_123 : decode cX5_init 123 = .ok (.iastore, 1) := by decide +kernel
theorem dX5_init_124 : decode cX5_init 124 = .ok (.putfield 29, 3) := by decide +kernel
theorem dX5_init_127 : decode cX5_init 127 = .ok (.aload_n 0, 1) := by decide +kernel
theorem dX5_init_128 : decode cX5_init 128 = .ok (.iconst 5, 1) := by decide +kernel
theorem dX5_init_129 : decode cX5_init 129 = .ok (.newarray .int, 2) := by decide +kernel
theorem dX5_init_131 : decode cX5_init 131 = .ok (.dup, 1) := by decide +kernel
theorem dX5_init_132 : decode cX5_init 132 = .ok (.iconst 0, 1) := by decide +kernel
theorem dX5_init_133 : decode cX5_init 133 = .ok (.iconst 1, 1) := by decide +kernel
theorem dX5_init_134 : decode cX5_init 134 = .ok (.iastore, 1) := by decide +kernel
theorem dX5_init_135 : decode cX5_init 135 = .ok (.dup, 1) := by decide +kernel
theorem dX5_init_136 : decode cX5_init 136 = .ok (.iconst 1, 1) := by decide +kernel
theorem dX5_init_137 : decode cX5_init 137 = .ok (.iconst 2, 1) := by decide +kernel
theorem dX5_init_138 : decode cX5_init 138 = .ok (.iastore, 1) := by decide +kernel
theorem dX5_init_139 : decode cX5_init 139 = .ok (.dup, 1) := by decide +kernel
theorem dX5_init_140 : decode cX5_init 140 = .ok (.iconst 2, 1) := by decide +kernel
theorem dX5_init_141 : decode cX5_init 141 = .ok (.iconst 2, 1) := by decide +kernel
theorem dX5_init_142 : decode cX5_init 142 = .ok (.iastore, 1) := by decide +kernel
theorem dX5_init_143 : decode cX5_init 143 = .ok (.dup, 1) := by decide +kernel
theorem dX5_init_144 : decode cX5_init 144 = .ok (.iconst 3, 1) := by decide +kernel
theorem dX5_init_145 : decode cX5_init 145 = .ok (.iconst 2, 1) := by decide +kernel
theorem dX5_init_146 : decode cX5_init 146 = .ok (.iastore, 1) := by decide +kernel
theorem dX5_init_147 : decode cX5_init 147 = .ok (.dup, 1) := by decide +kernel
theorem dX5_init_148 : decode cX5_init 148 = .ok (.iconst 4, 1) := by decide +kernel
theorem dX5_init_149 : decode cX5_init 149 = .ok (.iconst 3, 1) := by decide +kernel
theorem dX5_init_150 : decode cX5_init 150 = .ok (.iastore, 1) := by decide +kernel
theorem dX5_init_151 : decode cX5_init 151 = .ok (.putfield 32, 3) := by decide +kernel
theorem dX5_init_154 : decode cX5_init 154 = .ok (.aload_n 0, 1) := by decide +kernel
theorem dX5_init_155 : decode cX5_init 155 = .ok (.bipush 120, 2) := by decide +kernel
theorem dX5_init_157 : decode cX5_init 157 = .ok (.newarray .int, 2) := by decide +kernel
theorem dX5_init_159 : decode cX5_init 159 = .ok (.putfield 35, 3) := by decide +kernel
theorem dX5_init_162 : decode cX5_init 162 = .ok (.aload_n 0, 1) := by decide +kernel
theorem dX5_init_163 : decode cX5_init 163 = .ok (.sipush 4358, 3) := by decide +kernel
theorem dX5_init_166 : decode cX5_init 166 = .ok (.newarray .int, 2) := by decide +kernel
theorem dX5_init_168 : decode cX5_init 168 = .ok (.putfield 38, 3) := by decide +kernel
theorem dX5_init_171 : decode cX5_init 171 = .ok (.aload_n 0, 1) := by decide +kernel
theorem dX5_init_172 : decode cX5_init 172 = .ok (.iconst 3, 1) := by decide +kernel
theorem dX5_init_173 : decode cX5_init 173 = .ok (.newarray .int, 2) := by decide +kernel
theorem dX5_init_175 : decode cX5_init 175 = .ok (.dup, 1) := by decide +kernel
theorem dX5_init_176 : decode cX5_init 176 = .ok (.iconst 0, 1) := by decide +kernel
theorem dX5_init_177 : decode cX5_init 177 = .ok (.iconst 0, 1) := by decide +kernel
theorem dX5_init_178 : decode cX5_init 178 = .ok (.iastore, 1) := by decide +kernel
theorem dX5_init_179 : decode cX5_init 179 = .ok (.dup, 1) := by decide +kernel
theorem dX5_init_180 : decode cX5_init 180 = .ok (.iconst 1, 1) := by decide +kernel
theorem dX5_init_181 : decode cX5_init 181 = .ok (.bipush 15, 2) := by decide +kernel
theorem dX5_init_183 : decode cX5_init 183 = .ok (.iastore, 1) := by decide +kernel
theorem dX5_init_184 : decode cX5_init 184 = .ok (.dup, 1) := by decide +kernel
theorem dX5_init_185 : decode cX5_init 185 = .ok (.iconst 2, 1) := by decide +kernel
theorem dX5_init_186 : decode cX5_init 186 = .ok (.sipush 218, 3) := by decide +kernel
theorem dX5_init_189 : decode cX5_init 189 = .ok (.iastore, 1) := by decide +kernel
theorem dX5_init_190 : decode cX5_init 190 = .ok (.putfield 41, 3) := by decide +kernel
theorem dX5_init_193 : decode cX5_init 193 = .ok (.aload_n 0, 1) := by decide +kernel
theorem dX5_init_194 : decode cX5_init 194 = .ok (.iconst 3, 1) := by decide +kernel
theorem dX5_init_195 : decode cX5_init 195 = .ok (.newarray .int, 2) := by decide +kernel
theorem dX5_init_197 : decode cX5_init 197 = .ok (.dup, 1) := by decide +kernel
theorem dX5_init_198 : decode cX5_init 198 = .ok (.iconst 0, 1) := by decide +kernel
theorem dX5_init_199 : decode cX5_init 199 = .ok (.bipush 15, 2) := by decide +kernel
theorem dX5_init_201 : decode cX5_init 201 = .ok (.iastore, 1) := by decide +kernel
theorem dX5_init_202 : decode cX5_init 202 = .ok (.dup, 1) := by decide +kernel
theorem dX5_init_203 : decode cX5_init 203 = .ok (.iconst 1, 1) := by decide +kernel
theorem dX5_init_204 : decode cX5_init 204 = .ok (.sipush 203, 3) := by decide +kernel
theorem dX5_init_207 : decode cX5_init 207 = .ok (.iastore, 1) := by decide +kernel
theorem dX5_init_208 : decode cX5_init 208 = .ok (.dup, 1) := by decide +kernel
theorem dX5_init_209 : decode cX5_init 209 = .ok (.iconst 2, 1) := by decide +kernel
theorem dX5_init_210 : decode cX5_init 210 = .ok (.sipush 4140, 3) := by decide +kernel
theorem dX5_init_213 : decode cX5_init 213 = .ok (.iastore, 1) := by decide +kernel
theorem dX5_init_214 : decode cX5_init 214 = .ok (.putfield 44, 3) := by decide +kernel
theorem dX5_init_217 : decode cX5_init 217 = .ok (.aload_n 0, 1) := by decide +kernel
theorem dX5_init_218 : decode cX5_init 218 = .ok (.sipush 9528, 3) := by decide +kernel
theorem dX5_init_221 : decode cX5_init 221 = .ok (.newarray .int, 2) := by decide +kernel
theorem dX5_init_223 : decode cX5_init 223 = .ok (.putfield 47, 3) := by decide +kernel
theorem dX5_init_226 : decode cX5_init 226 = .ok (.aload_n 0, 1) := by decide +kernel
theorem dX5_init_227 : decode cX5_init 227 = .ok (.bipush 6, 2) := by decide +kernel
theorem dX5_init_229 : decode cX5_init 229 = .ok (.newarray .int, 2) := by decide +kernel
theorem dX5_init_231 : decode cX5_init 231 = .ok (.dup, 1) := by decide +kernel
theorem dX5_init_232 : decode cX5_init 232 = .ok (.iconst 0, 1) := by decide +kernel
theorem dX5_init_233 : decode cX5_init 233 = .ok (.iconst 0, 1) := by decide +kernel
theorem dX5_init_234 : decode cX5_init 234 = .ok (.iastore, 1) := by decide +kernel
theorem dX5_init_235 : decode cX5_init 235 = .ok (.dup, 1) := by decide +kernel
theorem dX5_init_236 : decode cX5_init 236 = .ok (.iconst 1, 1) := by decide +kernel
theorem dX5_init_237 : decode cX5_init 237 = .ok (.bipush 30, 2) := by decide +kernel
theorem dX5_init_239 : decode cX5_init 239 = .ok (.iastore, 1) := by decide +kernel
theorem dX5_init_240 : decode cX5_init 240 = .ok (.dup, 1) := by decide +kernel
theorem dX5_init_241 : decode cX5_init 241 = .ok (.iconst 2, 1) := by decide +kernel
theorem dX5_init_242 : decode cX5_init 242 = .ok (.sipush 436, 3) := by decide +kernel
theorem dX5_init_245 : decode cX5_init 245 = .ok (.iastore, 1) := by decide +kernel
theorem dX5_init_246 : decode cX5_init 246 = .ok (.dup, 1) := by decide +kernel
theorem dX5_init_247 : decode cX5_init 247 = .ok (.iconst 3, 1) := by decide +kernel
theorem dX5_init_248 : decode cX5_init 248 = .ok (.sipush 842, 3) := by decide +kernel
theorem dX5_init_251 : decode cX5_init 251 = .ok (.iastore, 1) := by decide +kernel
theorem dX5_init_252 : decode cX5_init 252 = .ok (.dup, 1) := by decide +kernel
theorem dX5_init_253 : decode cX5_init 253 = .ok (.iconst 4, 1) := by decide +kernel
theorem dX5_init_254 : decode cX5_init 254 = .ok (.sipush 1248, 3) := by decide +kernel
theorem dX5_init_257 : decode cX5_init 257 = .ok (.iastore, 1) := by decide +kernel
theorem dX5_init_258 : decode cX5_init 258 = .ok (.dup, 1) := by decide +kernel
theorem dX5_init_259 : decode cX5_init 259 = .ok (.iconst 5, 1) := by decide +kernel
theorem dX5_init_260 : decode cX5_init 260 = .ok (.sipush 9528, 3) := by decide +kernel
theorem dX5_init_263 : decode cX5_init 263 = .ok (.iastore, 1) := by decide +kernel
theorem dX5_init_264 : decode cX5_init 264 = .ok (.putfield 50, 3) := by decide +kernel
theorem dX5_init_267 : decode cX5_init 267 = .ok (.aload_n 0, 1) := by decide +kernel
theorem dX5_init_268 : decode cX5_init 268 = .ok (.iconst 3, 1) := by decide +kernel
theorem dX5_init_269 : decode cX5_init 269 = .ok (.newarray .int, 2) := by decide +kernel
theorem dX5_init_271 : decode cX5_init 271 = .ok (.putfield 53, 3) := by decide +kernel
theorem dX5_init_274 : decode cX5_init 274 = .ok (.aload_n 0, 1) := by decide +kernel
theorem dX5_init_275 : decode cX5_init 275 = .ok (.iconst 3, 1) := by decide +kernel
theorem dX5_init_276 : decode cX5_init 276 = .ok (.newarray .int, 2) := by decide +kernel
theorem dX5_init_278 : decode cX5_init 278 = .ok (.putfield 56, 3) := by decide +kernel
theorem dX5_init_281 : decode cX5_init 281 = .ok (.aload_n 0, 1) := by decide +kernel
theorem dX5_init_282 : decode cX5_init 282 = .ok (.iconst 3, 1) := by decide +kernel
theorem dX5_init_283 : decode cX5_init 283 = .ok (.newarray .boolean, 2) := by decide +kernel
theorem dX5_init_285 : decode cX5_init 285 = .ok (.putfield 59, 3) := by decide +kernel
theorem dX5_init_288 : decode cX5_init 288 = .ok (.iconst 0, 1) := by decide +kernel
theorem dX5_init_289 : decode cX5_init 289 = .ok (.istore_n 1, 1) := by decide +kernel
theorem dX5_init_290 : decode cX5_init 290 = .ok (.iload_n 1, 1) := by decide +kernel
theorem dX5_init_291 : decode cX5_init 291 = .ok (.iconst 3, 1) := by decide +kernel
theorem dX5_init_292 : decode cX5_init 292 = .ok (.if_icmp .ge 30, 3) := by decide +kernel
theorem dX5_init_295 : decode cX5_init 295 = .ok (.aload_n 0, 1) := by decide +kernel
theorem dX5_init_296 : decode cX5_init 296 = .ok (.iconst 2, 1) := by decide +kernel
theorem dX5_init_297 : decode cX5_init 297 = .ok (.iload_n 1, 1) := by decide +kernel
theorem dX5_init_298 : decode cX5_init 298 = .ok (.imul, 1) := by decide +kernel
theorem dX5_init_299 : decode cX5_init 299 = .ok (.iconst 4, 1) := by decide +kernel
theorem dX5_init_300 : decode cX5_init 300 = .ok (.iadd, 1) := by decide +kernel
theorem dX5_init_301 : decode cX5_init 301 = .ok (.aload_n 0, 1) := by decide +kernel
theorem dX5_init_302 : decode cX5_init 302 = .ok (.getfield 41, 3) := by decide +kernel
theorem dX5_init_305 : decode cX5_init 305 = .ok (.iload_n 1, 1) := by decide +kernel
theorem dX5_init_306 : decode cX5_init 306 = .ok (.iaload, 1) := by decide +kernel
theorem dX5_init_307 : decode cX5_init 307 = .ok (.aload_n 0, 1) := by decide +kernel
theorem dX5_init_308 : decode cX5_init 308 = .ok (.getfield 44, 3) := by decide +kernel
theorem dX5_init_311 : decode cX5_init 311 = .ok (.iload_n 1, 1) := by decide +kernel
theorem dX5_init_312 : decode cX5_init 312 = .ok (.iaload, 1) := by decide +kernel
theorem dX5_init_313 : decode cX5_init 313 = .ok (.invokevirtual 63, 3) := by decide +kernel
theorem dX5_init_316 : decode cX5_init 316 = .ok (.iinc 1 1, 3) := by decide +kernel
theorem dX5_init_319 : decode cX5_init 319 = .ok (.goto (-29), 3) := by decide +kernel
theorem dX5_init_322 : decode cX5_init 322 = .ok (.iconst 0, 1) := by decide +kernel
theorem dX5_init_323 : decode cX5_init 323 = .ok (.istore_n 1, 1) := by decide +kernel
theorem dX5_init_324 : decode cX5_init 324 = .ok (.iload_n 1, 1) := by decide +kernel
theorem dX5_init_325 : decode cX5_init 325 = .ok (.bipush 7, 2) := by decide +kernel
theorem dX5_init_327 : decode cX5_init 327 = .ok (.if_icmp .ge 126, 3) := by decide +kernel
theorem dX5_init_330 : decode cX5_init 330 = .ok (.aload_n 0, 1) := by decide +kernel
theorem dX5_init_331 : decode cX5_init 331 = .ok (.getfield 13, 3) := by decide +kernel
theorem dX5_init_334 : decode cX5_init 334 = .ok (.iload_n 1, 1) := by decide +kernel
theorem dX5_init_335 : decode cX5_init 335 = .ok (.iload_n 1, 1) := by decide +kernel
theorem dX5_init_336 : decode cX5_init 336 = .ok (.iconst 3, 1) := by decide +kernel
theorem dX5_init_337 : decode cX5_init 337 = .ok (.if_icmp .ge 7, 3) := by decide +kernel
theorem dX5_init_340 : decode cX5_init 340 = .ok (.iconst 0, 1) := by decide +kernel
theorem dX5_init_341 : decode cX5_init 341 = .ok (.goto 13, 3) := by decide +kernel
theorem dX5_init_344 : decode cX5_init 344 = .ok (.iload_n 1, 1) := by decide +kernel
theorem dX5_init_345 : decode cX5_init 345 = .ok (.iconst 5, 1) := by decide +kernel
theorem dX5_init_346 : decode cX5_init 346 = .ok (.if_icmp .ge 7, 3) := by decide +kernel
theorem dX5_init_349 : decode cX5_init 349 = .ok (.iconst 1, 1) := by decide +kernel
theorem dX5_init_350 : decode cX5_init 350 = .ok (.goto 4, 3) := by decide +kernel
theorem dX5_init_353 : decode cX5_init 353 = .ok (.iconst 2, 1) := by decide +kernel
theorem dX5_init_354 : decode cX5_init 354 = .ok (.iastore, 1) := by decide +kernel
theorem dX5_init_355 : decode cX5_init 355 = .ok (.iconst 0, 1) := by decide +kernel
theorem dX5_init_356 : decode cX5_init 356 = .ok (.istore_n 2, 1) := by decide +kernel
theorem dX5_init_357 : decode cX5_init 357 = .ok (.iload_n 2, 1) := by decide +kernel
theorem dX5_init_358 : decode cX5_init 358 = .ok (.iconst 5, 1) := by decide +kernel
theorem dX5_init_359 : decode cX5_init 359 = .ok (.if_icmp .ge 88, 3) := by decide +kernel
theorem dX5_init_362 : decode cX5_init 362 = .ok (.aload_n 0, 1) := by decide +kernel
theorem dX5_init_363 : decode cX5_init 363 = .ok (.getfield 32, 3) := by decide +kernel
theorem dX5_init_366 : decode cX5_init 366 = .ok (.iload_n 2, 1) := by decide +kernel
theorem dX5_init_367 : decode cX5_init 367 = .ok (.iaload, 1) := by decide +kernel
theorem dX5_init_368 : decode cX5_init 368 = .ok (.istore_n 3, 1) := by decide +kernel
theorem dX5_init_369 : decode cX5_init 369 = .ok (.iconst 2, 1) := by decide +kernel
theorem dX5_init_370 : decode cX5_init 370 = .ok (.iload_n 1, 1) := by decide +kernel
theorem dX5_init_371 : decode cX5_init 371 = .ok (.iconst 5, 1) := by decide +kernel
theorem dX5_init_372 : decode cX5_init 372 = .ok (.isub, 1) := by decide +kernel
theorem dX5_init_373 : decode cX5_init 373 = .ok (.iload_n 3, 1) := by decide +kernel
theorem dX5_init_374 : decode cX5_init 374 = .ok (.imul, 1) := by decide +kernel
theorem dX5_init_375 : decode cX5_init 375 = .ok (.iadd, 1) := by decide +kernel
theorem dX5_init_376 : decode cX5_init 376 = .ok (.istore 4, 2) := by decide +kernel
theorem dX5_init_378 : decode cX5_init 378 = .ok (.aload_n 0, 1) := by decide +kernel
theorem dX5_init_379 : decode cX5_init 379 = .ok (.getfield 35, 3) := by decide +kernel
theorem dX5_init_382 : decode cX5_init 382 = .ok (.bipush 24, 2) := by decide +kernel
theorem dX5_init_384 : decode cX5_init 384 = .ok (.iload_n 2, 1) := by decide +kernel
theorem dX5_init_385 : decode cX5_init 385 = .ok (.imul, 1) := by decide +kernel
theorem dX5_init_386 : decode cX5_init 386 = .ok (.iload_n 1, 1) := by decide +kernel
theorem dX5_init_387 : decode cX5_init 387 = .ok (.iadd, 1) := by decide +kernel
theorem dX5_init_388 : decode cX5_init 388 = .ok (.iload_n 1, 1) := by decide +kernel
theorem dX5_init_389 : decode cX5_init 389 = .ok (.iconst 3, 1) := by decide +kernel
theorem dX5_init_390 : decode cX5_init 390 = .ok (.if_icmp .ge 16, 3) := by decide +kernel
theorem dX5_init_393 : decode cX5_init 393 = .ok (.aload_n 0, 1) := by decide +kernel
theorem dX5_init_394 : decode cX5_init 394 = .ok (.getfield 29, 3) := by decide +kernel
theorem dX5_init_397 : decode cX5_init 397 = .ok (.iconst 3, 1) := by decide +kernel
theorem dX5_init_398 : decode cX5_init 398 = .ok (.iload_n 2, 1) := by decide +kernel
theorem dX5_init_399 : decode cX5_init 399 = .ok (.imul, 1) := by decide +kernel
theorem dX5_init_400 : decode cX5_init 400 = .ok (.iload_n 1, 1) := by decide +kernel
theorem dX5_init_401 : decode cX5_init 401 = .ok (.iadd, 1) := by decide +kernel
theorem dX5_init_402 : decode cX5_init 402 = .ok (.iaload, 1) := by decide +kernel
theorem dX5_init_403 : decode cX5_init 403 = .ok (.goto 37, 3) := by decide +kernel
theorem dX5_init_406 : decode cX5_init 406 = .ok (.iload_n 1, 1) := by decide +kernel
theorem dX5_init_407 : decode cX5_init 407 = .ok (.iconst 5, 1) := by decide +kernel
theorem dX5_init_408 : decode cX5_init 408 = .ok (.if_icmp .ge 9, 3) := by decide +kernel
theorem dX5_init_411 : decode cX5_init 411 = .ok (.iload_n 1, 1) := by decide +kernel
theorem dX5_init_412 : decode cX5_init 412 = .ok (.iconst 3, 1) := by decide +kernel
theorem dX5_init_413 : decode cX5_init 413 = .ok (.isub, 1) := by decide +kernel
theorem dX5_init_414 : decode cX5_init 414 = .ok (.goto 26, 3) := by decide +kernel
theorem dX5_init_417 : decode cX5_init 417 = .ok (.iload_n 1, 1) := by decide +kernel
theorem dX5_init_418 : decode cX5_init 418 = .ok (.iconst 5, 1) := by decide +kernel
theorem dX5_init_419 : decode cX5_init 419 = .ok (.isub, 1) := by decide +kernel
theorem dX5_init_420 : decode cX5_init 420 = .ok (.iload 4, 2) := by decide +kernel
theorem dX5_init_422 : decode cX5_init 422 = .ok (.iconst 1, 1) := by decide +kernel
theorem dX5_init_423 : decode cX5_init 423 = .ok (.ishl, 1) := by decide +kernel
theorem dX5_init_424 : decode cX5_init 424 = .ok (.ior, 1) := by decide +kernel
theorem dX5_init_425 : decode cX5_init 425 = .ok (.iload 4, 2) := by decide +kernel
theorem dX5_init_427 : decode cX5_init 427 = .ok (.iconst 1, 1) := by decide +kernel
theorem dX5_init_428 : decode cX5_init 428 = .ok (.iadd, 1) := by decide +kernel
theorem dX5_init_429 : decode cX5_init 429 = .ok (.iconst 4, 1) := by decide +kernel
theorem dX5_init_430 : decode cX5_init 430 = .ok (.ishl, 1) := by decide +kernel
theorem dX5_init_431 : decode cX5_init 431 = .ok (.ior, 1) := by decide +kernel
theorem dX5_init_432 : decode cX5_init 432 = .ok (.iload 4, 2) := by decide +kernel
theorem dX5_init_434 : decode cX5_init 434 = .ok (.iconst 2, 1) := by decide +kernel
theorem dX5_init_435 : decode cX5_init 435 = .ok (.iadd, 1) := by decide +kernel
theorem dX5_init_436 : decode cX5_init 436 = .ok (.bipush 7, 2) := by decide +kernel
theorem dX5_init_438 : decode cX5_init 438 = .ok (.ishl, 1) := by decide +kernel
theorem dX5_init_439 : decode cX5_init 439 = .ok (.ior, 1) := by decide +kernel
theorem dX5_init_440 : decode cX5_init 440 = .ok (.iastore, 1) := by decide +kernel
theorem dX5_init_441 : decode cX5_init 441 = .ok (.iinc 2 1, 3) := by decide +kernel
theorem dX5_init_444 : decode cX5_init 444 = .ok (.goto (-87), 3) := by decide +kernel
theorem dX5_init_447 : decode cX5_init 447 = .ok (.iinc 1 1, 3) := by decide +kernel
theorem dX5_init_450 : decode cX5_init 450 = .ok (.goto (-126), 3) := by decide +kernel
theorem dX5_init_453 : decode cX5_init 453 = .ok (.return_, 1) := by decide +kernel
theorem dX5_thrown_0 : decode cX5_thrown 0 = .ok (.aload_n 0, 1) := by decide +kernel
theorem dX5_thrown_1 : decode cX5_thrown 1 = .ok (.getfield 67, 3) := by decide +kernel
theorem dX5_thrown_4 : decode cX5_thrown 4 = .ok (.ireturn, 1) := by decide +kernel
theorem dX5_fail_0 : decode cX5_fail 0 = .ok (.aload_n 0, 1) := by decide +kernel
theorem dX5_fail_1 : decode cX5_fail 1 = .ok (.iload_n 1, 1) := by decide +kernel
theorem dX5_fail_2 : decode cX5_fail 2 = .ok (.putfield 67, 3) := by decide +kernel
theorem dX5_fail_5 : decode cX5_fail 5 = .ok (.iconst 0, 1) := by decide +kernel
theorem dX5_fail_6 : decode cX5_fail 6 = .ok (.ireturn, 1) := by decide +kernel
theorem dX5_findWays_0 : decode cX5_findWays 0 = .ok (.iconst 0, 1) := by decide +kernel
theorem dX5_findWays_1 : decode cX5_findWays 1 = .ok (.istore 4, 2) := by decide +kernel
theorem dX5_findWays_3 : decode cX5_findWays 3 = .ok (.iconst 0, 1) := by decide +kernel
theorem dX5_findWays_4 : decode cX5_findWays 4 = .ok (.istore 5, 2) := by decide +kernel
theorem dX5_findWays_6 : decode cX5_findWays 6 = .ok (.iload 5, 2) := by decide +kernel
theorem dX5_findWays_8 : decode cX5_findWays 8 = .ok (.iload_n 3, 1) := by decide +kernel
theorem dX5_findWays_9 : decode cX5_findWays 9 = .ok (.if_icmp .ge 28, 3) := by decide +kernel
theorem dX5_findWays_12 : decode cX5_findWays 12 = .ok (.aload_n 0, 1) := by decide +kernel
theorem dX5_findWays_13 : decode cX5_findWays 13 = .ok (.getfield 38, 3) := by decide +kernel
theorem dX5_findWays_16 : decode cX5_findWays 16 = .ok (.iload_n 2, 1) := by decide +kernel
theorem dX5_findWays_17 : decode cX5_findWays 17 = .ok (.iload 5, 2) := by decide +kernel
theorem dX5_findWays_19 : decode cX5_findWays 19 = .ok (.iadd, 1) := by decide +kernel
theorem dX5_findWays_20 : decode cX5_findWays 20 = .ok (.iload 4, 2) := by decide +kernel
theorem dX5_findWays_22 : decode cX5_findWays 22 = .ok (.iastore, 1) := by decide +kernel
theorem dX5_findWays_23 : decode cX5_findWays 23 = .ok (.iload 4, 2) := by decide +kernel
theorem dX5_findWays_25 : decode cX5_findWays 25 = .ok (.iload_n 1, 1) := by decide +kernel
theorem dX5_findWays_26 : decode cX5_findWays 26 = .ok (.invokestatic 70, 3) := by decide +kernel
theorem dX5_findWays_29 : decode cX5_findWays 29 = .ok (.istore 4, 2) := by decide +kernel
theorem dX5_findWays_31 : decode cX5_findWays 31 = .ok (.iinc 5 1, 3) := by decide +kernel
theorem dX5_findWays_34 : decode cX5_findWays 34 = .ok (.goto (-28), 3) := by decide +kernel
theorem dX5_findWays_37 : decode cX5_findWays 37 = .ok (.return_, 1) := by decide +kernel
theorem dX5_label_0 : decode cX5_label 0 = .ok (.iload_n 0, 1) := by decide +kernel
theorem dX5_label_1 : decode cX5_label 1 = .ok (.iconst 3, 1) := by decide +kernel
theorem dX5_label_2 : decode cX5_label 2 = .ok (.iload_n 1, 1) := by decide +kernel
theorem dX5_label_3 : decode cX5_label 3 = .ok (.imul, 1) := by decide +kernel
theorem dX5_label_4 : decode cX5_label 4 = .ok (.ishr, 1) := by decide +kernel
theorem dX5_label_5 : decode cX5_label 5 = .ok (.bipush 7, 2) := by decide +kernel
theorem dX5_label_7 : decode cX5_label 7 = .ok (.iand, 1) := by decide +kernel
theorem dX5_label_8 : decode cX5_label 8 = .ok (.ireturn, 1) := by decide +kernel
theorem dX5_greatest_0 : decode cX5_greatest 0 = .ok (.iconst (-1), 1) := by decide +kernel
theorem dX5_greatest_1 : decode cX5_greatest 1 = .ok (.istore_n 2, 1) := by decide +kernel
theorem dX5_greatest_2 : decode cX5_greatest 2 = .ok (.iconst 0, 1) := by decide +kernel
theorem dX5_greatest_3 : decode cX5_greatest 3 = .ok (.istore_n 3, 1) := by decide +kernel
theorem dX5_greatest_4 : decode cX5_greatest 4 = .ok (.iload_n 3, 1) := by decide +kernel
theorem dX5_greatest_5 : decode cX5_greatest 5 = .ok (.iload_n 1, 1) := by decide +kernel
theorem dX5_greatest_6 : decode cX5_greatest 6 = .ok (.if_icmp .ge 28, 3) := by decide +kernel
theorem dX5_greatest_9 : decode cX5_greatest 9 = .ok (.iload_n 0, 1) := by decide +kernel
theorem dX5_greatest_10 : decode cX5_greatest 10 = .ok (.iload_n 3, 1) := by decide +kernel
theorem dX5_greatest_11 : decode cX5_greatest 11 = .ok (.invokestatic 74, 3) := by decide +kernel
theorem dX5_greatest_14 : decode cX5_greatest 14 = .ok (.iload_n 2, 1) := by decide +kernel
theorem dX5_greatest_15 : decode cX5_greatest 15 = .ok (.if_icmp .le 11, 3) := by decide +kernel
theorem dX5_greatest_18 : decode cX5_greatest 18 = .ok (.iload_n 0, 1) := by decide +kernel
theorem dX5_greatest_19 : decode cX5_greatest 19 = .ok (.iload_n 3, 1) := by decide +kernel
theorem dX5_greatest_20 : decode cX5_greatest 20 = .ok (.invokestatic 74, 3) := by decide +kernel
theorem dX5_greatest_23 : decode cX5_greatest 23 = .ok (.goto 4, 3) := by decide +kernel
theorem dX5_greatest_26 : decode cX5_greatest 26 = .ok (.iload_n 2, 1) := by decide +kernel
theorem dX5_greatest_27 : decode cX5_greatest 27 = .ok (.istore_n 2, 1) := by decide +kernel
theorem dX5_greatest_28 : decode cX5_greatest 28 = .ok (.iinc 3 1, 3) := by decide +kernel
theorem dX5_greatest_31 : decode cX5_greatest 31 = .ok (.goto (-27), 3) := by decide +kernel
theorem dX5_greatest_34 : decode cX5_greatest 34 = .ok (.iload_n 2, 1) := by decide +kernel
theorem dX5_greatest_35 : decode cX5_greatest 35 = .ok (.ireturn, 1) := by decide +kernel
theorem dX5_nextWay_0 : decode cX5_nextWay 0 = .ok (.iload_n 1, 1) := by decide +kernel
theorem dX5_nextWay_1 : decode cX5_nextWay 1 = .ok (.iconst 1, 1) := by decide +kernel
theorem dX5_nextWay_2 : decode cX5_nextWay 2 = .ok (.isub, 1) := by decide +kernel
theorem dX5_nextWay_3 : decode cX5_nextWay 3 = .ok (.istore_n 2, 1) := by decide +kernel
theorem dX5_nextWay_4 : decode cX5_nextWay 4 = .ok (.iload_n 2, 1) := by decide +kernel
theorem dX5_nextWay_5 : decode cX5_nextWay 5 = .ok (.ifCond .le 22, 3) := by decide +kernel
theorem dX5_nextWay_8 : decode cX5_nextWay 8 = .ok (.iload_n 0, 1) := by decide +kernel
theorem dX5_nextWay_9 : decode cX5_nextWay 9 = .ok (.iload_n 2, 1) := by decide +kernel
theorem dX5_nextWay_10 : decode cX5_nextWay 10 = .ok (.invokestatic 74, 3) := by decide +kernel
theorem dX5_nextWay_13 : decode cX5_nextWay 13 = .ok (.iload_n 0, 1) := by decide +kernel
theorem dX5_nextWay_14 : decode cX5_nextWay 14 = .ok (.iload_n 2, 1) := by decide +kernel
theorem dX5_nextWay_15 : decode cX5_nextWay 15 = .ok (.invokestatic 77, 3) := by decide +kernel
theorem dX5_nextWay_18 : decode cX5_nextWay 18 = .ok (.if_icmp .le 9, 3) := by decide +kernel
theorem dX5_nextWay_21 : decode cX5_nextWay 21 = .ok (.iinc 2 (-1), 3) := by decide +kernel
theorem dX5_nextWay_24 : decode cX5_nextWay 24 = .ok (.goto (-20), 3) := by decide +kernel
theorem dX5_nextWay_27 : decode cX5_nextWay 27 = .ok (.iload_n 2, 1) := by decide +kernel
theorem dX5_nextWay_28 : decode cX5_nextWay 28 = .ok (.ifCond .ne 5, 3) := by decide +kernel
theorem dX5_nextWay_31 : decode cX5_nextWay 31 = .ok (.iconst 0, 1) := by decide +kernel
theorem dX5_nextWay_32 : decode cX5_nextWay 32 = .ok (.ireturn, 1) := by decide +kernel
theorem dX5_nextWay_33 : decode cX5_nextWay 33 = .ok (.iload_n 0, 1) := by decide +kernel
theorem dX5_nextWay_34 : decode cX5_nextWay 34 = .ok (.iconst 1, 1) := by decide +kernel
theorem dX5_nextWay_35 : decode cX5_nextWay 35 = .ok (.iconst 3, 1) := by decide +kernel
theorem dX5_nextWay_36 : decode cX5_nextWay 36 = .ok (.iload_n 2, 1) := by decide +kernel
theorem dX5_nextWay_37 : decode cX5_nextWay 37 = .ok (.imul, 1) := by decide +kernel
theorem dX5_nextWay_38 : decode cX5_nextWay 38 = .ok (.ishl, 1) := by decide +kernel
theorem dX5_nextWay_39 : decode cX5_nextWay 39 = .ok (.iconst 1, 1) := by decide +kernel
theorem dX5_nextWay_40 : decode cX5_nextWay 40 = .ok (.isub, 1) := by decide +kernel
theorem dX5_nextWay_41 : decode cX5_nextWay 41 = .ok (.iand, 1) := by decide +kernel
theorem dX5_nextWay_42 : decode cX5_nextWay 42 = .ok (.iload_n 0, 1) := by decide +kernel
theorem dX5_nextWay_43 : decode cX5_nextWay 43 = .ok (.iload_n 2, 1) := by decide +kernel
theorem dX5_nextWay_44 : decode cX5_nextWay 44 = .ok (.invokestatic 74, 3) := by decide +kernel
theorem dX5_nextWay_47 : decode cX5_nextWay 47 = .ok (.iconst 1, 1) := by decide +kernel
theorem dX5_nextWay_48 : decode cX5_nextWay 48 = .ok (.iadd, 1) := by decide +kernel
theorem dX5_nextWay_49 : decode cX5_nextWay 49 = .ok (.iconst 3, 1) := by decide +kernel
theorem dX5_nextWay_50 : decode cX5_nextWay 50 = .ok (.iload_n 2, 1) := by decide +kernel
theorem dX5_nextWay_51 : decode cX5_nextWay 51 = .ok (.imul, 1) := by decide +kernel
theorem dX5_nextWay_52 : decode cX5_nextWay 52 = .ok (.ishl, 1) := by decide +kernel
theorem dX5_nextWay_53 : decode cX5_nextWay 53 = .ok (.ior, 1) := by decide +kernel
theorem dX5_nextWay_54 : decode cX5_nextWay 54 = .ok (.ireturn, 1) := by decide +kernel
theorem dX5_isTerm_0 : decode cX5_isTerm 0 = .ok (.iload_n 1, 1) := by decide +kernel
theorem dX5_isTerm_1 : decode cX5_isTerm 1 = .ok (.ifCond .lt 15, 3) := by decide +kernel
theorem dX5_isTerm_4 : decode cX5_isTerm 4 = .ok (.iload_n 1, 1) := by decide +kernel
theorem dX5_isTerm_5 : decode cX5_isTerm 5 = .ok (.aload_n 0, 1) := by decide +kernel
theorem dX5_isTerm_6 : decode cX5_isTerm 6 = .ok (.getfield 7, 3) := by decide +kernel
theorem dX5_isTerm_9 : decode cX5_isTerm 9 = .ok (.if_icmp .ge 7, 3) := by decide +kernel
theorem dX5_isTerm_12 : decode cX5_isTerm 12 = .ok (.iconst 1, 1) := by decide +kernel
theorem dX5_isTerm_13 : decode cX5_isTerm 13 = .ok (.goto 4, 3) := by decide +kernel
theorem dX5_isTerm_16 : decode cX5_isTerm 16 = .ok (.iconst 0, 1) := by decide +kernel
theorem dX5_isTerm_17 : decode cX5_isTerm 17 = .ok (.ireturn, 1) := by decide +kernel
theorem dX5_part_0 : decode cX5_part 0 = .ok (.iload_n 0, 1) := by decide +kernel
theorem dX5_part_1 : decode cX5_part 1 = .ok (.iconst 1, 1) := by decide +kernel
theorem dX5_part_2 : decode cX5_part 2 = .ok (.iconst 3, 1) := by decide +kernel
theorem dX5_part_3 : decode cX5_part 3 = .ok (.iload_n 1, 1) := by decide +kernel
theorem dX5_part_4 : decode cX5_part 4 = .ok (.imul, 1) := by decide +kernel
theorem dX5_part_5 : decode cX5_part 5 = .ok (.iadd, 1) := by decide +kernel
theorem dX5_part_6 : decode cX5_part 6 = .ok (.ishr, 1) := by decide +kernel
theorem dX5_part_7 : decode cX5_part 7 = .ok (.bipush 7, 2) := by decide +kernel
theorem dX5_part_9 : decode cX5_part 9 = .ok (.iand, 1) := by decide +kernel
theorem dX5_part_10 : decode cX5_part 10 = .ok (.ireturn, 1) := by decide +kernel
theorem dX5_found_0 : decode cX5_found 0 = .ok (.bipush 7, 2) := by decide +kernel
theorem dX5_found_2 : decode cX5_found 2 = .ok (.istore 5, 2) := by decide +kernel
theorem dX5_found_4 : decode cX5_found 4 = .ok (.iload 5, 2) := by decide +kernel
theorem dX5_found_6 : decode cX5_found 6 = .ok (.aload_n 0, 1) := by decide +kernel
theorem dX5_found_7 : decode cX5_found 7 = .ok (.getfield 7, 3) := by decide +kernel
theorem dX5_found_10 : decode cX5_found 10 = .ok (.if_icmp .ge 57, 3) := by decide +kernel
theorem dX5_found_13 : decode cX5_found 13 = .ok (.aload_n 0, 1) := by decide +kernel
theorem dX5_found_14 : decode cX5_found 14 = .ok (.getfield 17, 3) := by decide +kernel
theorem dX5_found_17 : decode cX5_found 17 = .ok (.iload 5, 2) := by decide +kernel
theorem dX5_found_19 : decode cX5_found 19 = .ok (.iaload, 1) := by decide +kernel
theorem dX5_found_20 : decode cX5_found 20 = .ok (.iload_n 1, 1) := by decide +kernel
theorem dX5_found_21 : decode cX5_found 21 = .ok (.if_icmp .ne 40, 3) := by decide +kernel
theorem dX5_found_24 : decode cX5_found 24 = .ok (.aload_n 0, 1) := by decide +kernel
theorem dX5_found_25 : decode cX5_found 25 = .ok (.getfield 20, 3) := by decide +kernel
theorem dX5_found_28 : decode cX5_found 28 = .ok (.iload 5, 2) := by decide +kernel
theorem dX5_found_30 : decode cX5_found 30 = .ok (.iaload, 1) := by decide +kernel
theorem dX5_found_31 : decode cX5_found 31 = .ok (.iload_n 2, 1) := by decide +kernel
theorem dX5_found_32 : decode cX5_found 32 = .ok (.if_icmp .ne 29, 3) := by decide +kernel
theorem dX5_found_35 : decode cX5_found 35 = .ok (.aload_n 0, 1) := by decide +kernel
theorem dX5_found_36 : decode cX5_found 36 = .ok (.getfield 23, 3) := by decide +kernel
theorem dX5_found_39 : decode cX5_found 39 = .ok (.iload 5, 2) := by decide +kernel
theorem dX5_found_41 : decode cX5_found 41 = .ok (.iaload, 1) := by decide +kernel
theorem dX5_found_42 : decode cX5_found 42 = .ok (.iload_n 3, 1) := by decide +kernel
theorem dX5_found_43 : decode cX5_found 43 = .ok (.if_icmp .ne 18, 3) := by decide +kernel
theorem dX5_found_46 : decode cX5_found 46 = .ok (.aload_n 0, 1) := by decide +kernel
theorem dX5_found_47 : decode cX5_found 47 = .ok (.getfield 26, 3) := by decide +kernel
theorem dX5_found_50 : decode cX5_found 50 = .ok (.iload 5, 2) := by decide +kernel
theorem dX5_found_52 : decode cX5_found 52 = .ok (.iaload, 1) := by decide +kernel
theorem dX5_found_53 : decode cX5_found 53 = .ok (.iload 4, 2) := by decide +kernel
theorem dX5_found_55 : decode cX5_found 55 = .ok (.if_icmp .ne 6, 3) := by decide +kernel
theorem dX5_found_58 : decode cX5_found 58 = .ok (.iload 5, 2) := by decide +kernel
theorem dX5_found_60 : decode cX5_found 60 = .ok (.ireturn, 1) := by decide +kernel
theorem dX5_found_61 : decode cX5_found 61 = .ok (.iinc 5 1, 3) := by decide +kernel
theorem dX5_found_64 : decode cX5_found 64 = .ok (.goto (-60), 3) := by decide +kernel
