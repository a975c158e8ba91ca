theorem dX6_at_15 : decode cX6_at 15 = .ok (.aaload, 1) := by decide +kernel
theorem dX6_at_16 : decode cX6_at 16 = .ok (.goto 4, 3) := by decide +kernel
theorem dX6_at_19 : decode cX6_at 19 = .ok (.aconst_null, 1) := by decide +kernel
theorem dX6_at_20 : decode cX6_at 20 = .ok (.astore_n 2, 1) := by decide +kernel
theorem dX6_at_21 : decode cX6_at 21 = .ok (.aload_n 2, 1) := by decide +kernel
theorem dX6_at_22 : decode cX6_at 22 = .ok (.ifnonnull 10, 3) := by decide +kernel
theorem dX6_at_25 : decode cX6_at 25 = .ok (.aload_n 0, 1) := by decide +kernel
theorem dX6_at_26 : decode cX6_at 26 = .ok (.getfield 18, 3) := by decide +kernel
theorem dX6_at_29 : decode cX6_at 29 = .ok (.goto 4, 3) := by decide +kernel
theorem dX6_at_32 : decode cX6_at 32 = .ok (.aload_n 2, 1) := by decide +kernel
theorem dX6_at_33 : decode cX6_at 33 = .ok (.areturn, 1) := by decide +kernel
theorem dX6_reckon_0 : decode cX6_reckon 0 = .ok (.aload_n 0, 1) := by decide +kernel
theorem dX6_reckon_1 : decode cX6_reckon 1 = .ok (.iconst 0, 1) := by decide +kernel
theorem dX6_reckon_2 : decode cX6_reckon 2 = .ok (.putfield 25, 3) := by decide +kernel
theorem dX6_reckon_5 : decode cX6_reckon 5 = .ok (.iconst 0, 1) := by decide +kernel
theorem dX6_reckon_6 : decode cX6_reckon 6 = .ok (.istore_n 2, 1) := by decide +kernel
theorem dX6_reckon_7 : decode cX6_reckon 7 = .ok (.iload_n 2, 1) := by decide +kernel
theorem dX6_reckon_8 : decode cX6_reckon 8 = .ok (.aload_n 1, 1) := by decide +kernel
theorem dX6_reckon_9 : decode cX6_reckon 9 = .ok (.getfield 29, 3) := by decide +kernel
theorem dX6_reckon_12 : decode cX6_reckon 12 = .ok (.if_icmp .ge 44, 3) := by decide +kernel
theorem dX6_reckon_15 : decode cX6_reckon 15 = .ok (.aload_n 1, 1) := by decide +kernel
theorem dX6_reckon_16 : decode cX6_reckon 16 = .ok (.iload_n 2, 1) := by decide +kernel
theorem dX6_reckon_17 : decode cX6_reckon 17 = .ok (.invokevirtual 34, 3) := by decide +kernel
theorem dX6_reckon_20 : decode cX6_reckon 20 = .ok (.ifCond .eq 30, 3) := by decide +kernel
theorem dX6_reckon_23 : decode cX6_reckon 23 = .ok (.aload_n 1, 1) := by decide +kernel
theorem dX6_reckon_24 : decode cX6_reckon 24 = .ok (.iload_n 2, 1) := by decide +kernel
theorem dX6_reckon_25 : decode cX6_reckon 25 = .ok (.aload_n 0, 1) := by decide +kernel
theorem dX6_reckon_26 : decode cX6_reckon 26 = .ok (.getfield 22, 3) := by decide +kernel
theorem dX6_reckon_29 : decode cX6_reckon 29 = .ok (.invokevirtual 38, 3) := by decide +kernel
theorem dX6_reckon_32 : decode cX6_reckon 32 = .ok (.aload_n 0, 1) := by decide +kernel
theorem dX6_reckon_33 : decode cX6_reckon 33 = .ok (.aload_n 0, 1) := by decide +kernel
theorem dX6_reckon_34 : decode cX6_reckon 34 = .ok (.getfield 22, 3) := by decide +kernel
theorem dX6_reckon_37 : decode cX6_reckon 37 = .ok (.invokevirtual 42, 3) := by decide +kernel
theorem dX6_reckon_40 : decode cX6_reckon 40 = .ok (.invokevirtual 46, 3) := by decide +kernel
theorem dX6_reckon_43 : decode cX6_reckon 43 = .ok (.aload_n 0, 1) := by decide +kernel
theorem dX6_reckon_44 : decode cX6_reckon 44 = .ok (.getfield 22, 3) := by decide +kernel
theorem dX6_reckon_47 : decode cX6_reckon 47 = .ok (.invokevirtual 50, 3) := by decide +kernel
theorem dX6_reckon_50 : decode cX6_reckon 50 = .ok (.iinc 2 1, 3) := by decide +kernel
theorem dX6_reckon_53 : decode cX6_reckon 53 = .ok (.goto (-46), 3) := by decide +kernel
theorem dX6_reckon_56 : decode cX6_reckon 56 = .ok (.iconst 0, 1) := by decide +kernel
theorem dX6_reckon_57 : decode cX6_reckon 57 = .ok (.istore_n 2, 1) := by decide +kernel
theorem dX6_reckon_58 : decode cX6_reckon 58 = .ok (.iload_n 2, 1) := by decide +kernel
theorem dX6_reckon_59 : decode cX6_reckon 59 = .ok (.aload_n 0, 1) := by decide +kernel
theorem dX6_reckon_60 : decode cX6_reckon 60 = .ok (.getfield 25, 3) := by decide +kernel
theorem dX6_reckon_63 : decode cX6_reckon 63 = .ok (.if_icmp .ge 29, 3) := by decide +kernel
theorem dX6_reckon_66 : decode cX6_reckon 66 = .ok (.aload_n 0, 1) := by decide +kernel
theorem dX6_reckon_67 : decode cX6_reckon 67 = .ok (.iload_n 2, 1) := by decide +kernel
theorem dX6_reckon_68 : decode cX6_reckon 68 = .ok (.invokevirtual 54, 3) := by decide +kernel
theorem dX6_reckon_71 : decode cX6_reckon 71 = .ok (.aload_n 0, 1) := by decide +kernel
theorem dX6_reckon_72 : decode cX6_reckon 72 = .ok (.iload_n 2, 1) := by decide +kernel
theorem dX6_reckon_73 : decode cX6_reckon 73 = .ok (.invokevirtual 54, 3) := by decide +kernel
theorem dX6_reckon_76 : decode cX6_reckon 76 = .ok (.aload_n 1, 1) := by decide +kernel
theorem dX6_reckon_77 : decode cX6_reckon 77 = .ok (.getfield 58, 3) := by decide +kernel
theorem dX6_reckon_80 : decode cX6_reckon 80 = .ok (.invokevirtual 61, 3) := by decide +kernel
theorem dX6_reckon_83 : decode cX6_reckon 83 = .ok (.invokevirtual 65, 3) := by decide +kernel
theorem dX6_reckon_86 : decode cX6_reckon 86 = .ok (.iinc 2 1, 3) := by decide +kernel
theorem dX6_reckon_89 : decode cX6_reckon 89 = .ok (.goto (-31), 3) := by decide +kernel
theorem dX6_reckon_92 : decode cX6_reckon 92 = .ok (.return_, 1) := by decide +kernel
theorem dX6_ofKey_0 : decode cX6_ofKey 0 = .ok (.iconst 0, 1) := by decide +kernel
theorem dX6_ofKey_1 : decode cX6_ofKey 1 = .ok (.istore_n 3, 1) := by decide +kernel
theorem dX6_ofKey_2 : decode cX6_ofKey 2 = .ok (.iload_n 3, 1) := by decide +kernel
theorem dX6_ofKey_3 : decode cX6_ofKey 3 = .ok (.aload_n 0, 1) := by decide +kernel
theorem dX6_ofKey_4 : decode cX6_ofKey 4 = .ok (.getfield 25, 3) := by decide +kernel
theorem dX6_ofKey_7 : decode cX6_ofKey 7 = .ok (.if_icmp .ge 28, 3) := by decide +kernel
theorem dX6_ofKey_10 : decode cX6_ofKey 10 = .ok (.aload_n 0, 1) := by decide +kernel
theorem dX6_ofKey_11 : decode cX6_ofKey 11 = .ok (.iload_n 3, 1) := by decide +kernel
theorem dX6_ofKey_12 : decode cX6_ofKey 12 = .ok (.invokevirtual 54, 3) := by decide +kernel
theorem dX6_ofKey_15 : decode cX6_ofKey 15 = .ok (.invokevirtual 42, 3) := by decide +kernel
theorem dX6_ofKey_18 : decode cX6_ofKey 18 = .ok (.lload_n 1, 1) := by decide +kernel
theorem dX6_ofKey_19 : decode cX6_ofKey 19 = .ok (.lcmp, 1) := by decide +kernel
theorem dX6_ofKey_20 : decode cX6_ofKey 20 = .ok (.ifCond .ne 9, 3) := by decide +kernel
theorem dX6_ofKey_23 : decode cX6_ofKey 23 = .ok (.aload_n 0, 1) := by decide +kernel
theorem dX6_ofKey_24 : decode cX6_ofKey 24 = .ok (.iload_n 3, 1) := by decide +kernel
theorem dX6_ofKey_25 : decode cX6_ofKey 25 = .ok (.invokevirtual 54, 3) := by decide +kernel
theorem dX6_ofKey_28 : decode cX6_ofKey 28 = .ok (.areturn, 1) := by decide +kernel
theorem dX6_ofKey_29 : decode cX6_ofKey 29 = .ok (.iinc 3 1, 3) := by decide +kernel
theorem dX6_ofKey_32 : decode cX6_ofKey 32 = .ok (.goto (-30), 3) := by decide +kernel
theorem dX6_ofKey_35 : decode cX6_ofKey 35 = .ok (.aload_n 0, 1) := by decide +kernel
theorem dX6_ofKey_36 : decode cX6_ofKey 36 = .ok (.aload_n 0, 1) := by decide +kernel
theorem dX6_ofKey_37 : decode cX6_ofKey 37 = .ok (.getfield 25, 3) := by decide +kernel
theorem dX6_ofKey_40 : decode cX6_ofKey 40 = .ok (.invokevirtual 54, 3) := by decide +kernel
theorem dX6_ofKey_43 : decode cX6_ofKey 43 = .ok (.astore_n 3, 1) := by decide +kernel
theorem dX6_ofKey_44 : decode cX6_ofKey 44 = .ok (.aload_n 3, 1) := by decide +kernel
theorem dX6_ofKey_45 : decode cX6_ofKey 45 = .ok (.invokevirtual 69, 3) := by decide +kernel
theorem dX6_ofKey_48 : decode cX6_ofKey 48 = .ok (.aload_n 0, 1) := by decide +kernel
theorem dX6_ofKey_49 : decode cX6_ofKey 49 = .ok (.getfield 25, 3) := by decide +kernel
theorem dX6_ofKey_52 : decode cX6_ofKey 52 = .ok (.bipush 40, 2) := by decide +kernel
theorem dX6_ofKey_54 : decode cX6_ofKey 54 = .ok (.if_icmp .ge 13, 3) := by decide +kernel
theorem dX6_ofKey_57 : decode cX6_ofKey 57 = .ok (.aload_n 0, 1) := by decide +kernel
theorem dX6_ofKey_58 : decode cX6_ofKey 58 = .ok (.dup, 1) := by decide +kernel
theorem dX6_ofKey_59 : decode cX6_ofKey 59 = .ok (.getfield 25, 3) := by decide +kernel
theorem dX6_ofKey_62 : decode cX6_ofKey 62 = .ok (.iconst 1, 1) := by decide +kernel
theorem dX6_ofKey_63 : decode cX6_ofKey 63 = .ok (.iadd, 1) := by decide +kernel
theorem dX6_ofKey_64 : decode cX6_ofKey 64 = .ok (.putfield 25, 3) := by decide +kernel
theorem dX6_ofKey_67 : decode cX6_ofKey 67 = .ok (.aload_n 3, 1) := by decide +kernel
theorem dX6_ofKey_68 : decode cX6_ofKey 68 = .ok (.areturn, 1) := by decide +kernel
theorem dX6_sum_0 : decode cX6_sum 0 = .ok (.iconst 0, 1) := by decide +kernel
theorem dX6_sum_1 : decode cX6_sum 1 = .ok (.istore_n 3, 1) := by decide +kernel
theorem dX6_sum_2 : decode cX6_sum 2 = .ok (.iconst 0, 1) := by decide +kernel
theorem dX6_sum_3 : decode cX6_sum 3 = .ok (.istore 4, 2) := by decide +kernel
theorem dX6_sum_5 : decode cX6_sum 5 = .ok (.iload 4, 2) := by decide +kernel
theorem dX6_sum_7 : decode cX6_sum 7 = .ok (.aload_n 0, 1) := by decide +kernel
theorem dX6_sum_8 : decode cX6_sum 8 = .ok (.getfield 25, 3) := by decide +kernel
theorem dX6_sum_11 : decode cX6_sum 11 = .ok (.if_icmp .ge 40, 3) := by decide +kernel
theorem dX6_sum_14 : decode cX6_sum 14 = .ok (.iload_n 1, 1) := by decide +kernel
theorem dX6_sum_15 : decode cX6_sum 15 = .ok (.iconst (-1), 1) := by decide +kernel
theorem dX6_sum_16 : decode cX6_sum 16 = .ok (.if_icmp .eq 16, 3) := by decide +kernel
theorem dX6_sum_19 : decode cX6_sum 19 = .ok (.aload_n 0, 1) := by decide +kernel
theorem dX6_sum_20 : decode cX6_sum 20 = .ok (.iload 4, 2) := by decide +kernel
theorem dX6_sum_22 : decode cX6_sum 22 = .ok (.invokevirtual 54, 3) := by decide +kernel
theorem dX6_sum_25 : decode cX6_sum 25 = .ok (.getfield 72, 3) := by decide +kernel
theorem dX6_sum_28 : decode cX6_sum 28 = .ok (.iload_n 1, 1) := by decide +kernel
theorem dX6_sum_29 : decode cX6_sum 29 = .ok (.if_icmp .ne 16, 3) := by decide +kernel
theorem dX6_sum_32 : decode cX6_sum 32 = .ok (.iload_n 3, 1) := by decide +kernel
theorem dX6_sum_33 : decode cX6_sum 33 = .ok (.aload_n 0, 1) := by decide +kernel
theorem dX6_sum_34 : decode cX6_sum 34 = .ok (.iload 4, 2) := by decide +kernel
theorem dX6_sum_36 : decode cX6_sum 36 = .ok (.invokevirtual 54, 3) := by decide +kernel
theorem dX6_sum_39 : decode cX6_sum 39 = .ok (.iload_n 2, 1) := by decide +kernel
theorem dX6_sum_40 : decode cX6_sum 40 = .ok (.invokestatic 75, 3) := by decide +kernel
theorem dX6_sum_43 : decode cX6_sum 43 = .ok (.iadd, 1) := by decide +kernel
theorem dX6_sum_44 : decode cX6_sum 44 = .ok (.istore_n 3, 1) := by decide +kernel
theorem dX6_sum_45 : decode cX6_sum 45 = .ok (.iinc 4 1, 3) := by decide +kernel
theorem dX6_sum_48 : decode cX6_sum 48 = .ok (.goto (-43), 3) := by decide +kernel
theorem dX6_sum_51 : decode cX6_sum 51 = .ok (.iload_n 3, 1) := by decide +kernel
theorem dX6_sum_52 : decode cX6_sum 52 = .ok (.ireturn, 1) := by decide +kernel
theorem dX6_numberOf_0 : decode cX6_numberOf 0 = .ok (.iload_n 1, 1) := by decide +kernel
theorem dX6_numberOf_1 : decode cX6_numberOf 1 = .ok (.tableswitch 51 0 3 #[31, 36, 41, 46], 31) := by decide +kernel
theorem dX6_numberOf_32 : decode cX6_numberOf 32 = .ok (.aload_n 0, 1) := by decide +kernel
theorem dX6_numberOf_33 : decode cX6_numberOf 33 = .ok (.getfield 79, 3) := by decide +kernel
theorem dX6_numberOf_36 : decode cX6_numberOf 36 = .ok (.ireturn, 1) := by decide +kernel
theorem dX6_numberOf_37 : decode cX6_numberOf 37 = .ok (.aload_n 0, 1) := by decide +kernel
theorem dX6_numberOf_38 : decode cX6_numberOf 38 = .ok (.getfield 82, 3) := by decide +kernel
theorem dX6_numberOf_41 : decode cX6_numberOf 41 = .ok (.ireturn, 1) := by decide +kernel
theorem dX6_numberOf_42 : decode cX6_numberOf 42 = .ok (.aload_n 0, 1) := by decide +kernel
theorem dX6_numberOf_43 : decode cX6_numberOf 43 = .ok (.getfield 85, 3) := by decide +kernel
theorem dX6_numberOf_46 : decode cX6_numberOf 46 = .ok (.ireturn, 1) := by decide +kernel
theorem dX6_numberOf_47 : decode cX6_numberOf 47 = .ok (.aload_n 0, 1) := by decide +kernel
theorem dX6_numberOf_48 : decode cX6_numberOf 48 = .ok (.getfield 88, 3) := by decide +kernel
theorem dX6_numberOf_51 : decode cX6_numberOf 51 = .ok (.ireturn, 1) := by decide +kernel
theorem dX6_numberOf_52 : decode cX6_numberOf 52 = .ok (.iconst 1, 1) := by decide +kernel
theorem dX6_numberOf_53 : decode cX6_numberOf 53 = .ok (.ireturn, 1) := by decide +kernel
theorem dX6_rank_0 : decode cX6_rank 0 = .ok (.iconst 1, 1) := by decide +kernel
theorem dX6_rank_1 : decode cX6_rank 1 = .ok (.istore_n 1, 1) := by decide +kernel
theorem dX6_rank_2 : decode cX6_rank 2 = .ok (.iload_n 1, 1) := by decide +kernel
theorem dX6_rank_3 : decode cX6_rank 3 = .ok (.aload_n 0, 1) := by decide +kernel
theorem dX6_rank_4 : decode cX6_rank 4 = .ok (.getfield 25, 3) := by decide +kernel
theorem dX6_rank_7 : decode cX6_rank 7 = .ok (.if_icmp .ge 59, 3) := by decide +kernel
theorem dX6_rank_10 : decode cX6_rank 10 = .ok (.aload_n 0, 1) := by decide +kernel
theorem dX6_rank_11 : decode cX6_rank 11 = .ok (.iload_n 1, 1) := by decide +kernel
theorem dX6_rank_12 : decode cX6_rank 12 = .ok (.invokevirtual 54, 3) := by decide +kernel
theorem dX6_rank_15 : decode cX6_rank 15 = .ok (.astore_n 2, 1) := by decide +kernel
theorem dX6_rank_16 : decode cX6_rank 16 = .ok (.iload_n 1, 1) := by decide +kernel
theorem dX6_rank_17 : decode cX6_rank 17 = .ok (.istore_n 3, 1) := by decide +kernel
theorem dX6_rank_18 : decode cX6_rank 18 = .ok (.iload_n 3, 1) := by decide +kernel
theorem dX6_rank_19 : decode cX6_rank 19 = .ok (.ifCond .le 35, 3) := by decide +kernel
theorem dX6_rank_22 : decode cX6_rank 22 = .ok (.aload_n 2, 1) := by decide +kernel
theorem dX6_rank_23 : decode cX6_rank 23 = .ok (.aload_n 0, 1) := by decide +kernel
theorem dX6_rank_24 : decode cX6_rank 24 = .ok (.iload_n 3, 1) := by decide +kernel
theorem dX6_rank_25 : decode cX6_rank 25 = .ok (.iconst 1, 1) := by decide +kernel
theorem dX6_rank_26 : decode cX6_rank 26 = .ok (.isub, 1) := by decide +kernel
theorem dX6_rank_27 : decode cX6_rank 27 = .ok (.invokevirtual 54, 3) := by decide +kernel
theorem dX6_rank_30 : decode cX6_rank 30 = .ok (.invokestatic 91, 3) := by decide +kernel
theorem dX6_rank_33 : decode cX6_rank 33 = .ok (.ifCond .eq 21, 3) := by decide +kernel
theorem dX6_rank_36 : decode cX6_rank 36 = .ok (.aload_n 0, 1) := by decide +kernel
theorem dX6_rank_37 : decode cX6_rank 37 = .ok (.iload_n 3, 1) := by decide +kernel
theorem dX6_rank_38 : decode cX6_rank 38 = .ok (.aload_n 0, 1) := by decide +kernel
theorem dX6_rank_39 : decode cX6_rank 39 = .ok (.iload_n 3, 1) := by decide +kernel
theorem dX6_rank_40 : decode cX6_rank 40 = .ok (.iconst 1, 1) := by decide +kernel
theorem dX6_rank_41 : decode cX6_rank 41 = .ok (.isub, 1) := by decide +kernel
theorem dX6_rank_42 : decode cX6_rank 42 = .ok (.invokevirtual 54, 3) := by decide +kernel
theorem dX6_rank_45 : decode cX6_rank 45 = .ok (.invokevirtual 95, 3) := by decide +kernel
theorem dX6_rank_48 : decode cX6_rank 48 = .ok (.iinc 3 (-1), 3) := by decide +kernel
theorem dX6_rank_51 : decode cX6_rank 51 = .ok (.goto (-33), 3) := by decide +kernel
theorem dX6_rank_54 : decode cX6_rank 54 = .ok (.aload_n 0, 1) := by decide +kernel
theorem dX6_rank_55 : decode cX6_rank 55 = .ok (.iload_n 3, 1) := by decide +kernel
theorem dX6_rank_56 : decode cX6_rank 56 = .ok (.aload_n 2, 1) := by decide +kernel
theorem dX6_rank_57 : decode cX6_rank 57 = .ok (.invokevirtual 95, 3) := by decide +kernel
theorem dX6_rank_60 : decode cX6_rank 60 = .ok (.iinc 1 1, 3) := by decide +kernel
theorem dX6_rank_63 : decode cX6_rank 63 = .ok (.goto (-61), 3) := by decide +kernel
theorem dX6_rank_66 : decode cX6_rank 66 = .ok (.return_, 1) := by decide +kernel
theorem dX6_put_0 : decode cX6_put 0 = .ok (.iload_n 1, 1) := by decide +kernel
theorem dX6_put_1 : decode cX6_put 1 = .ok (.ifCond .lt 16, 3) := by decide +kernel
theorem dX6_put_4 : decode cX6_put 4 = .ok (.iload_n 1, 1) := by decide +kernel
theorem dX6_put_5 : decode cX6_put 5 = .ok (.bipush 40, 2) := by decide +kernel
theorem dX6_put_7 : decode cX6_put 7 = .ok (.if_icmp .ge 10, 3) := by decide +kernel
theorem dX6_put_10 : decode cX6_put 10 = .ok (.aload_n 0, 1) := by decide +kernel
theorem dX6_put_11 : decode cX6_put 11 = .ok (.getfield 11, 3) := by decide +kernel
theorem dX6_put_14 : decode cX6_put 14 = .ok (.iload_n 1, 1) := by decide +kernel
theorem dX6_put_15 : decode cX6_put 15 = .ok (.aload_n 2, 1) := by decide +kernel
theorem dX6_put_16 : decode cX6_put 16 = .ok (.aastore, 1) := by decide +kernel
theorem dX6_put_17 : decode cX6_put 17 = .ok (.return_, 1) := by decide +kernel
theorem dX6_isAhead_0 : decode cX6_isAhead 0 = .ok (.aload_n 0, 1) := by decide +kernel
theorem dX6_isAhead_1 : decode cX6_isAhead 1 = .ok (.getfield 85, 3) := by decide +kernel
theorem dX6_isAhead_4 : decode cX6_isAhead 4 = .ok (.aload_n 1, 1) := by decide +kernel
theorem dX6_isAhead_5 : decode cX6_isAhead 5 = .ok (.getfield 85, 3) := by decide +kernel
theorem dX6_isAhead_8 : decode cX6_isAhead 8 = .ok (.if_icmp .gt 26, 3) := by decide +kernel
theorem dX6_isAhead_11 : decode cX6_isAhead 11 = .ok (.aload_n 0, 1) := by decide +kernel
theorem dX6_isAhead_12 : decode cX6_isAhead 12 = .ok (.getfield 85, 3) := by decide +kernel
theorem dX6_isAhead_15 : decode cX6_isAhead 15 = .ok (.aload_n 1, 1) := by decide +kernel
theorem dX6_isAhead_16 : decode cX6_isAhead 16 = .ok (.getfield 85, 3) := by decide +kernel
theorem dX6_isAhead_19 : decode cX6_isAhead 19 = .ok (.if_icmp .ne 19, 3) := by decide +kernel
theorem dX6_isAhead_22 : decode cX6_isAhead 22 = .ok (.aload_n 0, 1) := by decide +kernel
theorem dX6_isAhead_23 : decode cX6_isAhead 23 = .ok (.invokevirtual 42, 3) := by decide +kernel
theorem dX6_isAhead_26 : decode cX6_isAhead 26 = .ok (.aload_n 1, 1) := by decide +kernel
theorem dX6_isAhead_27 : decode cX6_isAhead 27 = .ok (.invokevirtual 42, 3) := by decide +kernel
theorem dX6_isAhead_30 : decode cX6_isAhead 30 = .ok (.lcmp, 1) := by decide +kernel
theorem dX6_isAhead_31 : decode cX6_isAhead 31 = .ok (.ifCond .ge 7, 3) := by decide +kernel
theorem dX6_isAhead_34 : decode cX6_isAhead 34 = .ok (.iconst 1, 1) := by decide +kernel
theorem dX6_isAhead_35 : decode cX6_isAhead 35 = .ok (.goto 4, 3) := by decide +kernel
theorem dX6_isAhead_38 : decode cX6_isAhead 38 = .ok (.iconst 0, 1) := by decide +kernel
theorem dX6_isAhead_39 : decode cX6_isAhead 39 = .ok (.ireturn, 1) := by decide +kernel
theorem dX7_init_0 : decode cX7_init 0 = .ok (.aload_n 0, 1) := by decide +kernel
theorem dX7_init_1 : decode cX7_init 1 = .ok (.invokespecial 3, 3) := by decide +kernel
theorem dX7_init_4 : decode cX7_init 4 = .ok (.aload_n 0, 1) := by decide +kernel
theorem dX7_init_5 : decode cX7_init 5 = .ok (.bipush 40, 2) := by decide +kernel
theorem dX7_init_7 : decode cX7_init 7 = .ok (.newarray .int, 2) := by decide +kernel
theorem dX7_init_9 : decode cX7_init 9 = .ok (.putfield 9, 3) := by decide +kernel
theorem dX7_init_12 : decode cX7_init 12 = .ok (.aload_n 0, 1) := by decide +kernel
theorem dX7_init_13 : decode cX7_init 13 = .ok (.bipush 40, 2) := by decide +kernel
theorem dX7_init_15 : decode cX7_init 15 = .ok (.newarray .int, 2) := by decide +kernel
theorem dX7_init_17 : decode cX7_init 17 = .ok (.putfield 15, 3) := by decide +kernel
theorem dX7_init_20 : decode cX7_init 20 = .ok (.aload_n 0, 1) := by decide +kernel
theorem dX7_init_21 : decode cX7_init 21 = .ok (.bipush 12, 2) := by decide +kernel
theorem dX7_init_23 : decode cX7_init 23 = .ok (.newarray .int, 2) := by decide +kernel
theorem dX7_init_25 : decode cX7_init 25 = .ok (.putfield 18, 3) := by decide +kernel
theorem dX7_init_28 : decode cX7_init 28 = .ok (.aload_n 0, 1) := by decide +kernel
theorem dX7_init_29 : decode cX7_init 29 = .ok (.bipush 40, 2) := by decide +kernel
theorem dX7_init_31 : decode cX7_init 31 = .ok (.anewarray 21, 3) := by decide +kernel
theorem dX7_init_34 : decode cX7_init 34 = .ok (.putfield 23, 3) := by decide +kernel
theorem dX7_init_37 : decode cX7_init 37 = .ok (.return_, 1) := by decide +kernel
theorem dX7_begin_0 : decode cX7_begin 0 = .ok (.aload_n 0, 1) := by decide +kernel
theorem dX7_begin_1 : decode cX7_begin 1 = .ok (.aload_n 1, 1) := by decide +kernel
theorem dX7_begin_2 : decode cX7_begin 2 = .ok (.invokevirtual 27, 3) := by decide +kernel
theorem dX7_begin_5 : decode cX7_begin 5 = .ok (.bipush 40, 2) := by decide +kernel
theorem dX7_begin_7 : decode cX7_begin 7 = .ok (.invokestatic 33, 3) := by decide +kernel
theorem dX7_begin_10 : decode cX7_begin 10 = .ok (.putfield 39, 3) := by decide +kernel
theorem dX7_begin_13 : decode cX7_begin 13 = .ok (.iconst 0, 1) := by decide +kernel
theorem dX7_begin_14 : decode cX7_begin 14 = .ok (.istore_n 2, 1) := by decide +kernel
theorem dX7_begin_15 : decode cX7_begin 15 = .ok (.iload_n 2, 1) := by decide +kernel
theorem dX7_begin_16 : decode cX7_begin 16 = .ok (.aload_n 0, 1) := by decide +kernel
theorem dX7_begin_17 : decode cX7_begin 17 = .ok (.getfield 39, 3) := by decide +kernel
theorem dX7_begin_20 : decode cX7_begin 20 = .ok (.if_icmp .ge 16, 3) := by decide +kernel
theorem dX7_begin_23 : decode cX7_begin 23 = .ok (.aload_n 0, 1) := by decide +kernel
theorem dX7_begin_24 : decode cX7_begin 24 = .ok (.getfield 9, 3) := by decide +kernel
theorem dX7_begin_27 : decode cX7_begin 27 = .ok (.iload_n 2, 1) := by decide +kernel
theorem dX7_begin_28 : decode cX7_begin 28 = .ok (.iload_n 2, 1) := by decide +kernel
theorem dX7_begin_29 : decode cX7_begin 29 = .ok (.iastore, 1) := by decide +kernel
theorem dX7_begin_30 : decode cX7_begin 30 = .ok (.iinc 2 1, 3) := by decide +kernel
theorem dX7_begin_33 : decode cX7_begin 33 = .ok (.goto (-18), 3) := by decide +kernel
theorem dX7_begin_36 : decode cX7_begin 36 = .ok (.return_, 1) := by decide +kernel
theorem dX7_passBy_0 : decode cX7_passBy 0 = .ok (.aload_n 0, 1) := by decide +kernel
theorem dX7_passBy_1 : decode cX7_passBy 1 = .ok (.aload_n 1, 1) := by decide +kernel
theorem dX7_passBy_2 : decode cX7_passBy 2 = .ok (.iload_n 2, 1) := by decide +kernel
theorem dX7_passBy_3 : decode cX7_passBy 3 = .ok (.invokevirtual 43, 3) := by decide +kernel
theorem dX7_passBy_6 : decode cX7_passBy 6 = .ok (.iconst 0, 1) := by decide +kernel
theorem dX7_passBy_7 : decode cX7_passBy 7 = .ok (.istore_n 3, 1) := by decide +kernel
theorem dX7_passBy_8 : decode cX7_passBy 8 = .ok (.iload_n 3, 1) := by decide +kernel
theorem dX7_passBy_9 : decode cX7_passBy 9 = .ok (.aload_n 0, 1) := by decide +kernel
theorem dX7_passBy_10 : decode cX7_passBy 10 = .ok (.getfield 39, 3) := by decide +kernel
theorem dX7_passBy_13 : decode cX7_passBy 13 = .ok (.if_icmp .ge 70, 3) := by decide +kernel
theorem dX7_passBy_16 : decode cX7_passBy 16 = .ok (.aload_n 1, 1) := by decide +kernel
theorem dX7_passBy_17 : decode cX7_passBy 17 = .ok (.aload_n 0, 1) := by decide +kernel
theorem dX7_passBy_18 : decode cX7_passBy 18 = .ok (.getfield 9, 3) := by decide +kernel
theorem dX7_passBy_21 : decode cX7_passBy 21 = .ok (.iload_n 3, 1) := by decide +kernel
theorem dX7_passBy_22 : decode cX7_passBy 22 = .ok (.iaload, 1) := by decide +kernel
theorem dX7_passBy_23 : decode cX7_passBy 23 = .ok (.invokevirtual 47, 3) := by decide +kernel
theorem dX7_passBy_26 : decode cX7_passBy 26 = .ok (.iload_n 2, 1) := by decide +kernel
theorem dX7_passBy_27 : decode cX7_passBy 27 = .ok (.invokestatic 51, 3) := by decide +kernel
theorem dX7_passBy_30 : decode cX7_passBy 30 = .ok (.istore 4, 2) := by decide +kernel
theorem dX7_passBy_32 : decode cX7_passBy 32 = .ok (.aload_n 0, 1) := by decide +kernel
theorem dX7_passBy_33 : decode cX7_passBy 33 = .ok (.getfield 18, 3) := by decide +kernel
theorem dX7_passBy_36 : decode cX7_passBy 36 = .ok (.iload 4, 2) := by decide +kernel
theorem dX7_passBy_38 : decode cX7_passBy 38 = .ok (.iaload, 1) := by decide +kernel
theorem dX7_passBy_39 : decode cX7_passBy 39 = .ok (.istore 5, 2) := by decide +kernel
theorem dX7_passBy_41 : decode cX7_passBy 41 = .ok (.iload 5, 2) := by decide +kernel
theorem dX7_passBy_43 : decode cX7_passBy 43 = .ok (.ifCond .lt 23, 3) := by decide +kernel
theorem dX7_passBy_46 : decode cX7_passBy 46 = .ok (.iload 5, 2) := by decide +kernel
theorem dX7_passBy_48 : decode cX7_passBy 48 = .ok (.bipush 40, 2) := by decide +kernel
theorem dX7_passBy_50 : decode cX7_passBy 50 = .ok (.if_icmp .ge 16, 3) := by decide +kernel
theorem dX7_passBy_53 : decode cX7_passBy 53 = .ok (.aload_n 0, 1) := by decide +kernel
theorem dX7_passBy_54 : decode cX7_passBy 54 = .ok (.getfield 15, 3) := by decide +kernel
theorem dX7_passBy_57 : decode cX7_passBy 57 = .ok (.iload 5, 2) := by decide +kernel
theorem dX7_passBy_59 : decode cX7_passBy 59 = .ok (.aload_n 0, 1) := by decide +kernel
theorem dX7_passBy_60 : decode cX7_passBy 60 = .ok (.getfield 9, 3) := by decide +kernel
theorem dX7_passBy_63 : decode cX7_passBy 63 = .ok (.iload_n 3, 1) := by decide +kernel
theorem dX7_passBy_64 : decode cX7_passBy 64 = .ok (.iaload, 1) := by decide +kernel
theorem dX7_passBy_65 : decode cX7_passBy 65 = .ok (.iastore, 1) := by decide +kernel
theorem dX7_passBy_66 : decode cX7_passBy 66 = .ok (.aload_n 0, 1) := by decide +kernel
theorem dX7_passBy_67 : decode cX7_passBy 67 = .ok (.getfield 18, 3) := by decide +kernel
theorem dX7_passBy_70 : decode cX7_passBy 70 = .ok (.iload 4, 2) := by decide +kernel
theorem dX7_passBy_72 : decode cX7_passBy 72 = .ok (.dup2, 1) := by decide +kernel
theorem dX7_passBy_73 : decode cX7_passBy 73 = .ok (.iaload, 1) := by decide +kernel
theorem dX7_passBy_74 : decode cX7_passBy 74 = .ok (.iconst 1, 1) := by decide +kernel
theorem dX7_passBy_75 : decode cX7_passBy 75 = .ok (.iadd, 1) := by decide +kernel
theorem dX7_passBy_76 : decode cX7_passBy 76 = .ok (.iastore, 1) := by decide +kernel
theorem dX7_passBy_77 : decode cX7_passBy 77 = .ok (.iinc 3 1, 3) := by decide +kernel
theorem dX7_passBy_80 : decode cX7_passBy 80 = .ok (.goto (-72), 3) := by decide +kernel
theorem dX7_passBy_83 : decode cX7_passBy 83 = .ok (.aload_n 0, 1) := by decide +kernel
theorem dX7_passBy_84 : decode cX7_passBy 84 = .ok (.getfield 15, 3) := by decide +kernel
theorem dX7_passBy_87 : decode cX7_passBy 87 = .ok (.iconst 0, 1) := by decide +kernel
theorem dX7_passBy_88 : decode cX7_passBy 88 = .ok (.aload_n 0, 1) := by decide +kernel
theorem dX7_passBy_89 : decode cX7_passBy 89 = .ok (.getfield 9, 3) := by decide +kernel
theorem dX7_passBy_92 : decode cX7_passBy 92 = .ok (.iconst 0, 1) := by decide +kernel
theorem dX7_passBy_93 : decode cX7_passBy 93 = .ok (.aload_n 0, 1) := by decide +kernel
theorem dX7_passBy_94 : decode cX7_passBy 94 = .ok (.getfield 39, 3) := by decide +kernel
theorem dX7_passBy_97 : decode cX7_passBy 97 = .ok (.invokestatic 55, 3) := by decide +kernel
theorem dX7_passBy_100 : decode cX7_passBy 100 = .ok (.return_, 1) := by decide +kernel
theorem dX7_findStarts_0 : decode cX7_findStarts 0 = .ok (.iconst 0, 1) := by decide +kernel
theorem dX7_findStarts_1 : decode cX7_findStarts 1 = .ok (.istore_n 3, 1) := by decide +kernel
theorem dX7_findStarts_2 : decode cX7_findStarts 2 = .ok (.iload_n 3, 1) := by decide +kernel
theorem dX7_findStarts_3 : decode cX7_findStarts 3 = .ok (.bipush 11, 2) := by decide +kernel
theorem dX7_findStarts_5 : decode cX7_findStarts 5 = .ok (.if_icmp .gt 16, 3) := by decide +kernel
theorem dX7_findStarts_8 : decode cX7_findStarts 8 = .ok (.aload_n 0, 1) := by decide +kernel
theorem dX7_findStarts_9 : decode cX7_findStarts 9 = .ok (.getfield 18, 3) := by decide +kernel
theorem dX7_findStarts_12 : decode cX7_findStarts 12 = .ok (.iload_n 3, 1) := by decide +kernel
theorem dX7_findStarts_13 : decode cX7_findStarts 13 = .ok (.iconst 0, 1) := by decide +kernel
theorem dX7_findStarts_14 : decode cX7_findStarts 14 = .ok (.iastore, 1) := by decide +kernel
theorem dX7_findStarts_15 : decode cX7_findStarts 15 = .ok (.iinc 3 1, 3) := by decide +kernel
theorem dX7_findStarts_18 : decode cX7_findStarts 18 = .ok (.goto (-16), 3) := by decide +kernel
theorem dX7_findStarts_21 : decode cX7_findStarts 21 = .ok (.iconst 0, 1) := by decide +kernel
theorem dX7_findStarts_22 : decode cX7_findStarts 22 = .ok (.istore_n 3, 1) := by decide +kernel
theorem dX7_findStarts_23 : decode cX7_findStarts 23 = .ok (.iload_n 3, 1) := by decide +kernel
theorem dX7_findStarts_24 : decode cX7_findStarts 24 = .ok (.aload_n 0, 1) := by decide +kernel
theorem dX7_findStarts_25 : decode cX7_findStarts 25 = .ok (.getfield 39, 3) := by decide +kernel
theorem dX7_findStarts_28 : decode cX7_findStarts 28 = .ok (.if_icmp .ge 34, 3) := by decide +kernel
theorem dX7_findStarts_31 : decode cX7_findStarts 31 = .ok (.aload_n 0, 1) := by decide +kernel
theorem dX7_findStarts_32 : decode cX7_findStarts 32 = .ok (.getfield 18, 3) := by decide +kernel
theorem dX7_findStarts_35 : decode cX7_findStarts 35 = .ok (.aload_n 1, 1) := by decide +kernel
theorem dX7_findStarts_36 : decode cX7_findStarts 36 = .ok (.aload_n 0, 1) := by decide +kernel
theorem dX7_findStarts_37 : decode cX7_findStarts 37 = .ok (.getfield 9, 3) := by decide +kernel
theorem dX7_findStarts_40 : decode cX7_findStarts 40 = .ok (.iload_n 3, 1) := by decide +kernel
theorem dX7_findStarts_41 : decode cX7_findStarts 41 = .ok (.iaload, 1) := by decide +kernel
theorem dX7_findStarts_42 : decode cX7_findStarts 42 = .ok (.invokevirtual 47, 3) := by decide +kernel
theorem dX7_findStarts_45 : decode cX7_findStarts 45 = .ok (.iload_n 2, 1) := by decide +kernel
theorem dX7_findStarts_46 : decode cX7_findStarts 46 = .ok (.invokestatic 51, 3) := by decide +kernel
theorem dX7_findStarts_49 : decode cX7_findStarts 49 = .ok (.iconst 1, 1) := by decide +kernel
theorem dX7_findStarts_50 : decode cX7_findStarts 50 = .ok (.iadd, 1) := by decide +kernel
theorem dX7_findStarts_51 : decode cX7_findStarts 51 = .ok (.dup2, 1) := by decide +kernel
theorem dX7_findStarts_52 : decode cX7_findStarts 52 = .ok (.iaload, 1) := by decide +kernel
theorem dX7_findStarts_53 : decode cX7_findStarts 53 = .ok (.iconst 1, 1) := by decide +kernel
theorem dX7_findStarts_54 : decode cX7_findStarts 54 = .ok (.iadd, 1) := by decide +kernel
theorem dX7_findStarts_55 : decode cX7_findStarts 55 = .ok (.iastore, 1) := by decide +kernel
theorem dX7_findStarts_56 : decode cX7_findStarts 56 = .ok (.iinc 3 1, 3) := by decide +kernel
theorem dX7_findStarts_59 : decode cX7_findStarts 59 = .ok (.goto (-36), 3) := by decide +kernel
theorem dX7_findStarts_62 : decode cX7_findStarts 62 = .ok (.iconst 1, 1) := by decide +kernel
theorem dX7_findStarts_63 : decode cX7_findStarts 63 = .ok (.istore_n 3, 1) := by decide +kernel
theorem dX7_findStarts_64 : decode cX7_findStarts 64 = .ok (.iload_n 3, 1) := by decide +kernel
theorem dX7_findStarts_65 : decode cX7_findStarts 65 = .ok (.bipush 11, 2) := by decide +kernel
theorem dX7_findStarts_67 : decode cX7_findStarts 67 = .ok (.if_icmp .gt 26, 3) := by decide +kernel
theorem dX7_findStarts_70 : decode cX7_findStarts 70 = .ok (.aload_n 0, 1) := by decide +kernel
theorem dX7_findStarts_71 : decode cX7_findStarts 71 = .ok (.getfield 18, 3) := by decide +kernel
theorem dX7_findStarts_74 : decode cX7_findStarts 74 = .ok (.iload_n 3, 1) := by decide +kernel
theorem dX7_findStarts_75 : decode cX7_findStarts 75 = .ok (.dup2, 1) := by decide +kernel
theorem dX7_findStarts_76 : decode cX7_findStarts 76 = .ok (.iaload, 1) := by decide +kernel
theorem dX7_findStarts_77 : decode cX7_findStarts 77 = .ok (.aload_n 0, 1) := by decide +kernel
theorem dX7_findStarts_78 : decode cX7_findStarts 78 = .ok (.getfield 18, 3) := by decide +kernel
theorem dX7_findStarts_81 : decode cX7_findStarts 81 = .ok (.iload_n 3, 1) := by decide +kernel
theorem dX7_findStarts_82 : decode cX7_findStarts 82 = .ok (.iconst 1, 1) := by decide +kernel
theorem dX7_findStarts_83 : decode cX7_findStarts 83 = .ok (.isub, 1) := by decide +kernel
theorem dX7_findStarts_84 : decode cX7_findStarts 84 = .ok (.iaload, 1) := by decide +kernel
theorem dX7_findStarts_85 : decode cX7_findStarts 85 = .ok (.iadd, 1) := by decide +kernel
theorem dX7_findStarts_86 : decode cX7_findStarts 86 = .ok (.iastore, 1) := by decide +kernel
theorem dX7_findStarts_87 : decode cX7_findStarts 87 = .ok (.iinc 3 1, 3) := by decide +kernel
theorem dX7_findStarts_90 : decode cX7_findStarts 90 = .ok (.goto (-26), 3) := by decide +kernel
theorem dX7_findStarts_93 : decode cX7_findStarts 93 = .ok (.return_, 1) := by decide +kernel
theorem dX7_stackOf_0 : decode cX7_stackOf 0 = .ok (.aload_n 0, 1) := by decide +kernel
theorem dX7_stackOf_1 : decode cX7_stackOf 1 = .ok (.iload_n 1, 1) := by decide +kernel
theorem dX7_stackOf_2 : decode cX7_stackOf 2 = .ok (.invokevirtual 61, 3) := by decide +kernel
theorem dX7_stackOf_5 : decode cX7_stackOf 5 = .ok (.istore_n 2, 1) := by decide +kernel
theorem dX7_stackOf_6 : decode cX7_stackOf 6 = .ok (.iload_n 2, 1) := by decide +kernel
theorem dX7_stackOf_7 : decode cX7_stackOf 7 = .ok (.iconst 0, 1) := by decide +kernel
theorem dX7_stackOf_8 : decode cX7_stackOf 8 = .ok (.bipush 9, 2) := by decide +kernel
theorem dX7_stackOf_10 : decode cX7_stackOf 10 = .ok (.invokestatic 65, 3) := by decide +kernel
theorem dX7_stackOf_13 : decode cX7_stackOf 13 = .ok (.ifCond .eq 9, 3) := by decide +kernel
theorem dX7_stackOf_16 : decode cX7_stackOf 16 = .ok (.iload_n 2, 1) := by decide +kernel
theorem dX7_stackOf_17 : decode cX7_stackOf 17 = .ok (.iconst 1, 1) := by decide +kernel
theorem dX7_stackOf_18 : decode cX7_stackOf 18 = .ok (.iadd, 1) := by decide +kernel
theorem dX7_stackOf_19 : decode cX7_stackOf 19 = .ok (.goto 4, 3) := by decide +kernel
theorem dX7_stackOf_22 : decode cX7_stackOf 22 = .ok (.iconst 0, 1) := by decide +kernel
theorem dX7_stackOf_23 : decode cX7_stackOf 23 = .ok (.ireturn, 1) := by decide +kernel
theorem dX7_arrange_0 : decode cX7_arrange 0 = .ok (.iconst 0, 1) := by decide +kernel
theorem dX7_arrange_1 : decode cX7_arrange 1 = .ok (.istore_n 2, 1) := by decide +kernel
theorem dX7_arrange_2 : decode cX7_arrange 2 = .ok (.iconst 0, 1) := by decide +kernel
theorem dX7_arrange_3 : decode cX7_arrange 3 = .ok (.istore_n 3, 1) := by decide +kernel
theorem dX7_arrange_4 : decode cX7_arrange 4 = .ok (.iload_n 3, 1) := by decide +kernel
theorem dX7_arrange_5 : decode cX7_arrange 5 = .ok (.aload_n 0, 1) := by decide +kernel
theorem dX7_arrange_6 : decode cX7_arrange 6 = .ok (.getfield 39, 3) := by decide +kernel
theorem dX7_arrange_9 : decode cX7_arrange 9 = .ok (.if_icmp .ge 38, 3) := by decide +kernel
theorem dX7_arrange_12 : decode cX7_arrange 12 = .ok (.aload_n 0, 1) := by decide +kernel
theorem dX7_arrange_13 : decode cX7_arrange 13 = .ok (.getfield 23, 3) := by decide +kernel
theorem dX7_arrange_16 : decode cX7_arrange 16 = .ok (.iload_n 3, 1) := by decide +kernel
theorem dX7_arrange_17 : decode cX7_arrange 17 = .ok (.aload_n 1, 1) := by decide +kernel
theorem dX7_arrange_18 : decode cX7_arrange 18 = .ok (.aload_n 0, 1) := by decide +kernel
theorem dX7_arrange_19 : decode cX7_arrange 19 = .ok (.getfield 9, 3) := by decide +kernel
theorem dX7_arrange_22 : decode cX7_arrange 22 = .ok (.iload_n 3, 1) := by decide +kernel
theorem dX7_arrange_23 : decode cX7_arrange 23 = .ok (.iaload, 1) := by decide +kernel
theorem dX7_arrange_24 : decode cX7_arrange 24 = .ok (.invokevirtual 47, 3) := by decide +kernel
theorem dX7_arrange_27 : decode cX7_arrange 27 = .ok (.aastore, 1) := by decide +kernel
theorem dX7_arrange_28 : decode cX7_arrange 28 = .ok (.aload_n 0, 1) := by decide +kernel
theorem dX7_arrange_29 : decode cX7_arrange 29 = .ok (.getfield 9, 3) := by decide +kernel
theorem dX7_arrange_32 : decode cX7_arrange 32 = .ok (.iload_n 3, 1) := by decide +kernel
theorem dX7_arrange_33 : decode cX7_arrange 33 = .ok (.iaload, 1) := by decide +kernel
theorem dX7_arrange_34 : decode cX7_arrange 34 = .ok (.iload_n 3, 1) := by decide +kernel
theorem dX7_arrange_35 : decode cX7_arrange 35 = .ok (.if_icmp .eq 6, 3) := by decide +kernel
theorem dX7_arrange_38 : decode cX7_arrange 38 = .ok (.iinc 2 1, 3) := by decide +kernel
theorem dX7_arrange_41 : decode cX7_arrange 41 = .ok (.iinc 3 1, 3) := by decide +kernel
theorem dX7_arrange_44 : decode cX7_arrange 44 = .ok (.goto (-40), 3) := by decide +kernel
theorem dX7_arrange_47 : decode cX7_arrange 47 = .ok (.iconst 0, 1) := by decide +kernel
theorem dX7_arrange_48 : decode cX7_arrange 48 = .ok (.istore_n 3, 1) := by decide +kernel
theorem dX7_arrange_49 : decode cX7_arrange 49 = .ok (.iload_n 3, 1) := by decide +kernel
theorem dX7_arrange_50 : decode cX7_arrange 50 = .ok (.aload_n 0, 1) := by decide +kernel
theorem dX7_arrange_51 : decode cX7_arrange 51 = .ok (.getfield 39, 3) := by decide +kernel
theorem dX7_arrange_54 : decode cX7_arrange 54 = .ok (.if_icmp .ge 20, 3) := by decide +kernel
theorem dX7_arrange_57 : decode cX7_arrange 57 = .ok (.aload_n 1, 1) := by decide +kernel
theorem dX7_arrange_58 : decode cX7_arrange 58 = .ok (.iload_n 3, 1) := by decide +kernel
theorem dX7_arrange_59 : decode cX7_arrange 59 = .ok (.aload_n 0, 1) := by decide +kernel
theorem dX7_arrange_60 : decode cX7_arrange 60 = .ok (.getfield 23, 3) := by decide +kernel
theorem dX7_arrange_63 : decode cX7_arrange 63 = .ok (.iload_n 3, 1) := by decide +kernel
theorem dX7_arrange_64 : decode cX7_arrange 64 = .ok (.aaload, 1) := by decide +kernel
theorem dX7_arrange_65 : decode cX7_arrange 65 = .ok (.invokevirtual 69, 3) := by decide +kernel
theorem dX7_arrange_68 : decode cX7_arrange 68 = .ok (.iinc 3 1, 3) := by decide +kernel
theorem dX7_arrange_71 : decode cX7_arrange 71 = .ok (.goto (-22), 3) := by decide +kernel
theorem dX7_arrange_74 : decode cX7_arrange 74 = .ok (.iload_n 2, 1) := by decide +kernel
theorem dX7_arrange_75 : decode cX7_arrange 75 = .ok (.ireturn, 1) := by decide +kernel
theorem dX7_isInKeyOrder_0 : decode cX7_isInKeyOrder 0 = .ok (.ldc2_w 73, 3) := by decide +kernel
theorem dX7_isInKeyOrder_3 : decode cX7_isInKeyOrder 3 = .ok (.lstore_n 3, 1) := by decide +kernel
theorem dX7_isInKeyOrder_4 : decode cX7_isInKeyOrder 4 = .ok (.iconst 0, 1) := by decide +kernel
theorem dX7_isInKeyOrder_5 : decode cX7_isInKeyOrder 5 = .ok (.istore 5, 2) := by decide +kernel
theorem dX7_isInKeyOrder_7 : decode cX7_isInKeyOrder 7 = .ok (.iload 5, 2) := by decide +kernel
theorem dX7_isInKeyOrder_9 : decode cX7_isInKeyOrder 9 = .ok (.aload_n 0, 1) := by decide +kernel
theorem dX7_isInKeyOrder_10 : decode cX7_isInKeyOrder 10 = .ok (.getfield 39, 3) := by decide +kernel
theorem dX7_isInKeyOrder_13 : decode cX7_isInKeyOrder 13 = .ok (.if_icmp .ge 47, 3) := by decide +kernel
theorem dX7_isInKeyOrder_16 : decode cX7_isInKeyOrder 16 = .ok (.aload_n 2, 1) := by decide +kernel
theorem dX7_isInKeyOrder_17 : decode cX7_isInKeyOrder 17 = .ok (.aload_n 1, 1) := by decide +kernel
theorem dX7_isInKeyOrder_18 : decode cX7_isInKeyOrder 18 = .ok (.aload_n 0, 1) := by decide +kernel
theorem dX7_isInKeyOrder_19 : decode cX7_isInKeyOrder 19 = .ok (.getfield 9, 3) := by decide +kernel
theorem dX7_isInKeyOrder_22 : decode cX7_isInKeyOrder 22 = .ok (.iload 5, 2) := by decide +kernel
theorem dX7_isInKeyOrder_24 : decode cX7_isInKeyOrder 24 = .ok (.iaload, 1) := by decide +kernel
theorem dX7_isInKeyOrder_25 : decode cX7_isInKeyOrder 25 = .ok (.invokevirtual 47, 3) := by decide +kernel
theorem dX7_isInKeyOrder_28 : decode cX7_isInKeyOrder 28 = .ok (.invokevirtual 75, 3) := by decide +kernel
theorem dX7_isInKeyOrder_31 : decode cX7_isInKeyOrder 31 = .ok (.lstore 6, 2) := by decide +kernel
theorem dX7_isInKeyOrder_33 : decode cX7_isInKeyOrder 33 = .ok (.lload 6, 2) := by decide +kernel
theorem dX7_isInKeyOrder_35 : decode cX7_isInKeyOrder 35 = .ok (.ldc2_w 73, 3) := by decide +kernel
theorem dX7_isInKeyOrder_38 : decode cX7_isInKeyOrder 38 = .ok (.lcmp, 1) := by decide +kernel
theorem dX7_isInKeyOrder_39 : decode cX7_isInKeyOrder 39 = .ok (.ifCond .eq 15, 3) := by decide +kernel
theorem dX7_isInKeyOrder_42 : decode cX7_isInKeyOrder 42 = .ok (.lload 6, 2) := by decide +kernel
theorem dX7_isInKeyOrder_44 : decode cX7_isInKeyOrder 44 = .ok (.lload_n 3, 1) := by decide +kernel
theorem dX7_isInKeyOrder_45 : decode cX7_isInKeyOrder 45 = .ok (.lcmp, 1) := by decide +kernel
theorem dX7_isInKeyOrder_46 : decode cX7_isInKeyOrder 46 = .ok (.ifCond .ge 5, 3) := by decide +kernel
theorem dX7_isInKeyOrder_49 : decode cX7_isInKeyOrder 49 = .ok (.iconst 0, 1) := by decide +kernel
theorem dX7_isInKeyOrder_50 : decode cX7_isInKeyOrder 50 = .ok (.ireturn, 1) := by decide +kernel
theorem dX7_isInKeyOrder_51 : decode cX7_isInKeyOrder 51 = .ok (.lload 6, 2) := by decide +kernel
theorem dX7_isInKeyOrder_53 : decode cX7_isInKeyOrder 53 = .ok (.lstore_n 3, 1) := by decide +kernel
theorem dX7_isInKeyOrder_54 : decode cX7_isInKeyOrder 54 = .ok (.iinc 5 1, 3) := by decide +kernel
theorem dX7_isInKeyOrder_57 : decode cX7_isInKeyOrder 57 = .ok (.goto (-50), 3) := by decide +kernel
theorem dX7_isInKeyOrder_60 : decode cX7_isInKeyOrder 60 = .ok (.iconst 1, 1) := by decide +kernel
theorem dX7_isInKeyOrder_61 : decode cX7_isInKeyOrder 61 = .ok (.ireturn, 1) := by decide +kernel
theorem dX8_init_0 : decode cX8_init 0 = .ok (.aload_n 0, 1) := by decide +kernel
theorem dX8_init_1 : decode cX8_init 1 = .ok (.invokespecial 3, 3) := by decide +kernel
theorem dX8_init_4 : decode cX8_init 4 = .ok (.aload_n 0, 1) := by decide +kernel
theorem dX8_init_5 : decode cX8_init 5 = .ok (.new 9, 3) := by decide +kernel
theorem dX8_init_8 : decode cX8_init 8 = .ok (.dup, 1) := by decide +kernel
theorem dX8_init_9 : decode cX8_init 9 = .ok (.invokespecial 11, 3) := by decide +kernel
theorem dX8_init_12 : decode cX8_init 12 = .ok (.putfield 12, 3) := by decide +kernel
theorem dX8_init_15 : decode cX8_init 15 = .ok (.aload_n 0, 1) := by decide +kernel
theorem dX8_init_16 : decode cX8_init 16 = .ok (.new 18, 3) := by decide +kernel
theorem dX8_init_19 : decode cX8_init 19 = .ok (.dup, 1) := by decide +kernel
theorem dX8_init_20 : decode cX8_init 20 = .ok (.invokespecial 20, 3) := by decide +kernel
theorem dX8_init_23 : decode cX8_init 23 = .ok (.putfield 21, 3) := by decide +kernel
theorem dX8_init_26 : decode cX8_init 26 = .ok (.aload_n 0, 1) := by decide +kernel
theorem dX8_init_27 : decode cX8_init 27 = .ok (.new 25, 3) := by decide +kernel
theorem dX8_init_30 : decode cX8_init 30 = .ok (.dup, 1) := by decide +kernel
theorem dX8_init_31 : decode cX8_init 31 = .ok (.invokespecial 27, 3) := by decide +kernel
theorem dX8_init_34 : decode cX8_init 34 = .ok (.putfield 28, 3) := by decide +kernel
theorem dX8_init_37 : decode cX8_init 37 = .ok (.aload_n 0, 1) := by decide +kernel
theorem dX8_init_38 : decode cX8_init 38 = .ok (.iconst 4, 1) := by decide +kernel
theorem dX8_init_39 : decode cX8_init 39 = .ok (.newarray .int, 2) := by decide +kernel
theorem dX8_init_41 : decode cX8_init 41 = .ok (.dup, 1) := by decide +kernel
theorem dX8_init_42 : decode cX8_init 42 = .ok (.iconst 0, 1) := by decide +kernel
theorem dX8_init_43 : decode cX8_init 43 = .ok (.iconst 1, 1) := by decide +kernel
theorem dX8_init_44 : decode cX8_init 44 = .ok (.iastore, 1) := by decide +kernel
theorem dX8_init_45 : decode cX8_init 45 = .ok (.dup, 1) := by decide +kernel
theorem dX8_init_46 : decode cX8_init 46 = .ok (.iconst 1, 1) := by decide +kernel
theorem dX8_init_47 : decode cX8_init 47 = .ok (.iconst 1, 1) := by decide +kernel
theorem dX8_init_48 : decode cX8_init 48 = .ok (.iastore, 1) := by decide +kernel
theorem dX8_init_49 : decode cX8_init 49 = .ok (.dup, 1) := by decide +kernel
theorem dX8_init_50 : decode cX8_init 50 = .ok (.iconst 2, 1) := by decide +kernel
theorem dX8_init_51 : decode cX8_init 51 = .ok (.sipush 999, 3) := by decide +kernel
theorem dX8_init_54 : decode cX8_init 54 = .ok (.iastore, 1) := by decide +kernel
theorem dX8_init_55 : decode cX8_init 55 = .ok (.dup, 1) := by decide +kernel
theorem dX8_init_56 : decode cX8_init 56 = .ok (.iconst 3, 1) := by decide +kernel
theorem dX8_init_57 : decode cX8_init 57 = .ok (.sipush 400, 3) := by decide +kernel
theorem dX8_init_60 : decode cX8_init 60 = .ok (.iastore, 1) := by decide +kernel
theorem dX8_init_61 : decode cX8_init 61 = .ok (.putfield 32, 3) := by decide +kernel
theorem dX8_init_64 : decode cX8_init 64 = .ok (.aload_n 0, 1) := by decide +kernel
theorem dX8_init_65 : decode cX8_init 65 = .ok (.iconst 3, 1) := by decide +kernel
theorem dX8_init_66 : decode cX8_init 66 = .ok (.newarray .int, 2) := by decide +kernel
theorem dX8_init_68 : decode cX8_init 68 = .ok (.dup, 1) := by decide +kernel
theorem dX8_init_69 : decode cX8_init 69 = .ok (.iconst 0, 1) := by decide +kernel
theorem dX8_init_70 : decode cX8_init 70 = .ok (.ldc 36, 2) := by decide +kernel
theorem dX8_init_72 : decode cX8_init 72 = .ok (.iastore, 1) := by decide +kernel
theorem dX8_init_73 : decode cX8_init 73 = .ok (.dup, 1) := by decide +kernel
theorem dX8_init_74 : decode cX8_init 74 = .ok (.iconst 1, 1) := by decide +kernel
theorem dX8_init_75 : decode cX8_init 75 = .ok (.ldc 36, 2) := by decide +kernel
theorem dX8_init_77 : decode cX8_init 77 = .ok (.iastore, 1) := by decide +kernel
theorem dX8_init_78 : decode cX8_init 78 = .ok (.dup, 1) := by decide +kernel
theorem dX8_init_79 : decode cX8_init 79 = .ok (.iconst 2, 1) := by decide +kernel
theorem dX8_init_80 : decode cX8_init 80 = .ok (.ldc 36, 2) := by decide +kernel
theorem dX8_init_82 : decode cX8_init 82 = .ok (.iastore, 1) := by decide +kernel
theorem dX8_init_83 : decode cX8_init 83 = .ok (.putfield 37, 3) := by decide +kernel
theorem dX8_init_86 : decode cX8_init 86 = .ok (.return_, 1) := by decide +kernel
theorem dX8_settingOf_0 : decode cX8_settingOf 0 = .ok (.iload_n 1, 1) := by decide +kernel
theorem dX8_settingOf_1 : decode cX8_settingOf 1 = .ok (.invokestatic 40, 3) := by decide +kernel
theorem dX8_settingOf_4 : decode cX8_settingOf 4 = .ok (.ifCond .eq 12, 3) := by decide +kernel
theorem dX8_settingOf_7 : decode cX8_settingOf 7 = .ok (.aload_n 0, 1) := by decide +kernel
theorem dX8_settingOf_8 : decode cX8_settingOf 8 = .ok (.getfield 32, 3) := by decide +kernel
theorem dX8_settingOf_11 : decode cX8_settingOf 11 = .ok (.iload_n 1, 1) := by decide +kernel
theorem dX8_settingOf_12 : decode cX8_settingOf 12 = .ok (.iaload, 1) := by decide +kernel
theorem dX8_settingOf_13 : decode cX8_settingOf 13 = .ok (.goto 4, 3) := by decide +kernel
theorem dX8_settingOf_16 : decode cX8_settingOf 16 = .ok (.iconst 0, 1) := by decide +kernel
theorem dX8_settingOf_17 : decode cX8_settingOf 17 = .ok (.ireturn, 1) := by decide +kernel
theorem dX8_copyFrom_0 : decode cX8_copyFrom 0 = .ok (.aload_n 0, 1) := by decide +kernel
theorem dX8_copyFrom_1 : decode cX8_copyFrom 1 = .ok (.getfield 12, 3) := by decide +kernel
theorem dX8_copyFrom_4 : decode cX8_copyFrom 4 = .ok (.aload_n 1, 1) := by decide +kernel
theorem dX8_copyFrom_5 : decode cX8_copyFrom 5 = .ok (.getfield 12, 3) := by decide +kernel
theorem dX8_copyFrom_8 : decode cX8_copyFrom 8 = .ok (.invokevirtual 44, 3) := by decide +kernel
theorem dX8_copyFrom_11 : decode cX8_copyFrom 11 = .ok (.aload_n 0, 1) := by decide +kernel
theorem dX8_copyFrom_12 : decode cX8_copyFrom 12 = .ok (.getfield 21, 3) := by decide +kernel
theorem dX8_copyFrom_15 : decode cX8_copyFrom 15 = .ok (.aload_n 1, 1) := by decide +kernel
theorem dX8_copyFrom_16 : decode cX8_copyFrom 16 = .ok (.getfield 21, 3) := by decide +kernel
theorem dX8_copyFrom_19 : decode cX8_copyFrom 19 = .ok (.invokevirtual 48, 3) := by decide +kernel
theorem dX8_copyFrom_22 : decode cX8_copyFrom 22 = .ok (.aload_n 0, 1) := by decide +kernel
theorem dX8_copyFrom_23 : decode cX8_copyFrom 23 = .ok (.getfield 28, 3) := by decide +kernel
theorem dX8_copyFrom_26 : decode cX8_copyFrom 26 = .ok (.aload_n 1, 1) := by decide +kernel
theorem dX8_copyFrom_27 : decode cX8_copyFrom 27 = .ok (.getfield 28, 3) := by decide +kernel
theorem dX8_copyFrom_30 : decode cX8_copyFrom 30 = .ok (.invokevirtual 51, 3) := by decide +kernel
theorem dX8_copyFrom_33 : decode cX8_copyFrom 33 = .ok (.aload_n 1, 1) := by decide +kernel
theorem dX8_copyFrom_34 : decode cX8_copyFrom 34 = .ok (.getfield 32, 3) := by decide +kernel
theorem dX8_copyFrom_37 : decode cX8_copyFrom 37 = .ok (.iconst 0, 1) := by decide +kernel
theorem dX8_copyFrom_38 : decode cX8_copyFrom 38 = .ok (.aload_n 0, 1) := by decide +kernel
theorem dX8_copyFrom_39 : decode cX8_copyFrom 39 = .ok (.getfield 32, 3) := by decide +kernel
theorem dX8_copyFrom_42 : decode cX8_copyFrom 42 = .ok (.iconst 0, 1) := by decide +kernel
theorem dX8_copyFrom_43 : decode cX8_copyFrom 43 = .ok (.aload_n 0, 1) := by decide +kernel
theorem dX8_copyFrom_44 : decode cX8_copyFrom 44 = .ok (.getfield 32, 3) := by decide +kernel
theorem dX8_copyFrom_47 : decode cX8_copyFrom 47 = .ok (.arraylength, 1) := by decide +kernel
theorem dX8_copyFrom_48 : decode cX8_copyFrom 48 = .ok (.invokestatic 54, 3) := by decide +kernel
theorem dX8_copyFrom_51 : decode cX8_copyFrom 51 = .ok (.aload_n 1, 1) := by decide +kernel
theorem dX8_copyFrom_52 : decode cX8_copyFrom 52 = .ok (.getfield 37, 3) := by decide +kernel
theorem dX8_copyFrom_55 : decode cX8_copyFrom 55 = .ok (.iconst 0, 1) := by decide +kernel
theorem dX8_copyFrom_56 : decode cX8_copyFrom 56 = .ok (.aload_n 0, 1) := by decide +kernel
theorem dX8_copyFrom_57 : decode cX8_copyFrom 57 = .ok (.getfield 37, 3) := by decide +kernel
theorem dX8_copyFrom_60 : decode cX8_copyFrom 60 = .ok (.iconst 0, 1) := by decide +kernel
theorem dX8_copyFrom_61 : decode cX8_copyFrom 61 = .ok (.aload_n 0, 1) := by decide +kernel
theorem dX8_copyFrom_62 : decode cX8_copyFrom 62 = .ok (.getfield 37, 3) := by decide +kernel
theorem dX8_copyFrom_65 : decode cX8_copyFrom 65 = .ok (.arraylength, 1) := by decide +kernel
theorem dX8_copyFrom_66 : decode cX8_copyFrom 66 = .ok (.invokestatic 54, 3) := by decide +kernel
theorem dX8_copyFrom_69 : decode cX8_copyFrom 69 = .ok (.return_, 1) := by decide +kernel
theorem dX9_init_0 : decode cX9_init 0 = .ok (.aload_n 0, 1) := by decide +kernel
theorem dX9_init_1 : decode cX9_init 1 = .ok (.invokespecial 3, 3) := by decide +kernel
theorem dX9_init_4 : decode cX9_init 4 = .ok (.aload_n 0, 1) := by decide +kernel
theorem dX9_init_5 : decode cX9_init 5 = .ok (.bipush 50, 2) := by decide +kernel
theorem dX9_init_7 : decode cX9_init 7 = .ok (.newarray .int, 2) := by decide +kernel
theorem dX9_init_9 : decode cX9_init 9 = .ok (.putfield 9, 3) := by decide +kernel
theorem dX9_init_12 : decode cX9_init 12 = .ok (.aload_n 0, 1) := by decide +kernel
theorem dX9_init_13 : decode cX9_init 13 = .ok (.iconst 5, 1) := by decide +kernel
theorem dX9_init_14 : decode cX9_init 14 = .ok (.newarray .int, 2) := by decide +kernel
theorem dX9_init_16 : decode cX9_init 16 = .ok (.putfield 15, 3) := by decide +kernel
theorem dX9_init_19 : decode cX9_init 19 = .ok (.aload_n 0, 1) := by decide +kernel
theorem dX9_init_20 : decode cX9_init 20 = .ok (.iconst 5, 1) := by decide +kernel
theorem dX9_init_21 : decode cX9_init 21 = .ok (.newarray .int, 2) := by decide +kernel
theorem dX9_init_23 : decode cX9_init 23 = .ok (.putfield 18, 3) := by decide +kernel
theorem dX9_init_26 : decode cX9_init 26 = .ok (.aload_n 0, 1) := by decide +kernel
theorem dX9_init_27 : decode cX9_init 27 = .ok (.ldc 21, 2) := by decide +kernel
theorem dX9_init_29 : decode cX9_init 29 = .ok (.putfield 22, 3) := by decide +kernel
theorem dX9_init_32 : decode cX9_init 32 = .ok (.aload_n 0, 1) := by decide +kernel
theorem dX9_init_33 : decode cX9_init 33 = .ok (.ldc 21, 2) := by decide +kernel
theorem dX9_init_35 : decode cX9_init 35 = .ok (.putfield 26, 3) := by decide +kernel
theorem dX9_init_38 : decode cX9_init 38 = .ok (.return_, 1) := by decide +kernel
theorem dX9_size_0 : decode cX9_size 0 = .ok (.aload_n 0, 1) := by decide +kernel
theorem dX9_size_1 : decode cX9_size 1 = .ok (.getfield 29, 3) := by decide +kernel
theorem dX9_size_4 : decode cX9_size 4 = .ok (.ireturn, 1) := by decide +kernel
theorem dX9_clear_0 : decode cX9_clear 0 = .ok (.aload_n 0, 1) := by decide +kernel
theorem dX9_clear_1 : decode cX9_clear 1 = .ok (.iconst 0, 1) := by decide +kernel
theorem dX9_clear_2 : decode cX9_clear 2 = .ok (.putfield 29, 3) := by decide +kernel
theorem dX9_clear_5 : decode cX9_clear 5 = .ok (.return_, 1) := by decide +kernel
theorem dX9_append_0 : decode cX9_append 0 = .ok (.aload_n 0, 1) := by decide +kernel
theorem dX9_append_1 : decode cX9_append 1 = .ok (.getfield 29, 3) := by decide +kernel
theorem dX9_append_4 : decode cX9_append 4 = .ok (.bipush 50, 2) := by decide +kernel
theorem dX9_append_6 : decode cX9_append 6 = .ok (.if_icmp .ge 23, 3) := by decide +kernel
theorem dX9_append_9 : decode cX9_append 9 = .ok (.aload_n 0, 1) := by decide +kernel
theorem dX9_append_10 : decode cX9_append 10 = .ok (.getfield 9, 3) := by decide +kernel
theorem dX9_append_13 : decode cX9_append 13 = .ok (.aload_n 0, 1) := by decide +kernel
theorem dX9_append_14 : decode cX9_append 14 = .ok (.getfield 29, 3) := by decide +kernel
theorem dX9_append_17 : decode cX9_append 17 = .ok (.iload_n 1, 1) := by decide +kernel
theorem dX9_append_18 : decode cX9_append 18 = .ok (.iastore, 1) := by decide +kernel
theorem dX9_append_19 : decode cX9_append 19 = .ok (.aload_n 0, 1) := by decide +kernel
theorem dX9_append_20 : decode cX9_append 20 = .ok (.dup, 1) := by decide +kernel
theorem dX9_append_21 : decode cX9_append 21 = .ok (.getfield 29, 3) := by decide +kernel
theorem dX9_append_24 : decode cX9_append 24 = .ok (.iconst 1, 1) := by decide +kernel
theorem dX9_append_25 : decode cX9_append 25 = .ok (.iadd, 1) := by decide +kernel
theorem dX9_append_26 : decode cX9_append 26 = .ok (.putfield 29, 3) := by decide +kernel
theorem dX9_append_29 : decode cX9_append 29 = .ok (.return_, 1) := by decide +kernel
theorem dX9_at_0 : decode cX9_at 0 = .ok (.iload_n 1, 1) := by decide +kernel
theorem dX9_at_1 : decode cX9_at 1 = .ok (.ifCond .lt 20, 3) := by decide +kernel
theorem dX9_at_4 : decode cX9_at 4 = .ok (.iload_n 1, 1) := by decide +kernel
theorem dX9_at_5 : decode cX9_at 5 = .ok (.aload_n 0, 1) := by decide +kernel
theorem dX9_at_6 : decode cX9_at 6 = .ok (.getfield 29, 3) := by decide +kernel
theorem dX9_at_9 : decode cX9_at 9 = .ok (.if_icmp .ge 12, 3) := by decide +kernel
theorem dX9_at_12 : decode cX9_at 12 = .ok (.aload_n 0, 1) := by decide +kernel
theorem dX9_at_13 : decode cX9_at 13 = .ok (.getfield 9, 3) := by decide +kernel
theorem dX9_at_16 : decode cX9_at 16 = .ok (.iload_n 1, 1) := by decide +kernel
theorem dX9_at_17 : decode cX9_at 17 = .ok (.iaload, 1) := by decide +kernel
theorem dX9_at_18 : decode cX9_at 18 = .ok (.goto 5, 3) := by decide +kernel
theorem dX9_at_21 : decode cX9_at 21 = .ok (.bipush 32, 2) := by decide +kernel
theorem dX9_at_23 : decode cX9_at 23 = .ok (.ireturn, 1) := by decide +kernel
theorem dX9_readsAsCard_0 : decode cX9_readsAsCard 0 = .ok (.aload_n 0, 1) := by decide +kernel
theorem dX9_readsAsCard_1 : decode cX9_readsAsCard 1 = .ok (.iconst (-1), 1) := by decide +kernel
theorem dX9_readsAsCard_2 : decode cX9_readsAsCard 2 = .ok (.putfield 32, 3) := by decide +kernel
theorem dX9_readsAsCard_5 : decode cX9_readsAsCard 5 = .ok (.iconst 0, 1) := by decide +kernel
theorem dX9_readsAsCard_6 : decode cX9_readsAsCard 6 = .ok (.istore_n 2, 1) := by decide +kernel
theorem dX9_readsAsCard_7 : decode cX9_readsAsCard 7 = .ok (.iload_n 2, 1) := by decide +kernel
theorem dX9_readsAsCard_8 : decode cX9_readsAsCard 8 = .ok (.iconst 5, 1) := by decide +kernel
theorem dX9_readsAsCard_9 : decode cX9_readsAsCard 9 = .ok (.if_icmp .ge 16, 3) := by decide +kernel
theorem dX9_readsAsCard_12 : decode cX9_readsAsCard 12 = .ok (.aload_n 0, 1) := by decide +kernel
theorem dX9_readsAsCard_13 : decode cX9_readsAsCard 13 = .ok (.getfield 15, 3) := by decide +kernel
theorem dX9_readsAsCard_16 : decode cX9_readsAsCard 16 = .ok (.iload_n 2, 1) := by decide +kernel
theorem dX9_readsAsCard_17 : decode cX9_readsAsCard 17 = .ok (.iconst 0, 1) := by decide +kernel
theorem dX9_readsAsCard_18 : decode cX9_readsAsCard 18 = .ok (.iastore, 1) := by decide +kernel
theorem dX9_readsAsCard_19 : decode cX9_readsAsCard 19 = .ok (.iinc 2 1, 3) := by decide +kernel
theorem dX9_readsAsCard_22 : decode cX9_readsAsCard 22 = .ok (.goto (-15), 3) := by decide +kernel
theorem dX9_readsAsCard_25 : decode cX9_readsAsCard 25 = .ok (.iconst 0, 1) := by decide +kernel
theorem dX9_readsAsCard_26 : decode cX9_readsAsCard 26 = .ok (.istore_n 2, 1) := by decide +kernel
theorem dX9_readsAsCard_27 : decode cX9_readsAsCard 27 = .ok (.iload_n 2, 1) := by decide +kernel
theorem dX9_readsAsCard_28 : decode cX9_readsAsCard 28 = .ok (.aload_n 0, 1) := by decide +kernel
theorem dX9_readsAsCard_29 : decode cX9_readsAsCard 29 = .ok (.getfield 29, 3) := by decide +kernel
theorem dX9_readsAsCard_32 : decode cX9_readsAsCard 32 = .ok (.if_icmp .ge 43, 3) := by decide +kernel
theorem dX9_readsAsCard_35 : decode cX9_readsAsCard 35 = .ok (.aload_n 0, 1) := by decide +kernel
theorem dX9_readsAsCard_36 : decode cX9_readsAsCard 36 = .ok (.getfield 32, 3) := by decide +kernel
theorem dX9_readsAsCard_39 : decode cX9_readsAsCard 39 = .ok (.iconst (-1), 1) := by decide +kernel
theorem dX9_readsAsCard_40 : decode cX9_readsAsCard 40 = .ok (.if_icmp .ne 11, 3) := by decide +kernel
theorem dX9_readsAsCard_43 : decode cX9_readsAsCard 43 = .ok (.aload_n 0, 1) := by decide +kernel
theorem dX9_readsAsCard_44 : decode cX9_readsAsCard 44 = .ok (.iload_n 2, 1) := by decide +kernel
theorem dX9_readsAsCard_45 : decode cX9_readsAsCard 45 = .ok (.invokevirtual 35, 3) := by decide +kernel
theorem dX9_readsAsCard_48 : decode cX9_readsAsCard 48 = .ok (.goto 9, 3) := by decide +kernel
theorem dX9_readsAsCard_51 : decode cX9_readsAsCard 51 = .ok (.aload_n 0, 1) := by decide +kernel
theorem dX9_readsAsCard_52 : decode cX9_readsAsCard 52 = .ok (.iload_n 2, 1) := by decide +kernel
theorem dX9_readsAsCard_53 : decode cX9_readsAsCard 53 = .ok (.aload_n 1, 1) := by decide +kernel
theorem dX9_readsAsCard_54 : decode cX9_readsAsCard 54 = .ok (.invokevirtual 39, 3) := by decide +kernel
theorem dX9_readsAsCard_57 : decode cX9_readsAsCard 57 = .ok (.istore_n 3, 1) := by decide +kernel
theorem dX9_readsAsCard_58 : decode cX9_readsAsCard 58 = .ok (.iload_n 3, 1) := by decide +kernel
theorem dX9_readsAsCard_59 : decode cX9_readsAsCard 59 = .ok (.ifCond .eq 10, 3) := by decide +kernel
theorem dX9_readsAsCard_62 : decode cX9_readsAsCard 62 = .ok (.aload_n 0, 1) := by decide +kernel
theorem dX9_readsAsCard_63 : decode cX9_readsAsCard 63 = .ok (.iload_n 3, 1) := by decide +kernel
theorem dX9_readsAsCard_64 : decode cX9_readsAsCard 64 = .ok (.iload_n 2, 1) := by decide +kernel
theorem dX9_readsAsCard_65 : decode cX9_readsAsCard 65 = .ok (.invokevirtual 43, 3) := by decide +kernel
theorem dX9_readsAsCard_68 : decode cX9_readsAsCard 68 = .ok (.ireturn, 1) := by decide +kernel
theorem dX9_readsAsCard_69 : decode cX9_readsAsCard 69 = .ok (.iinc 2 1, 3) := by decide +kernel
theorem dX9_readsAsCard_72 : decode cX9_readsAsCard 72 = .ok (.goto (-45), 3) := by decide +kernel
theorem dX9_readsAsCard_75 : decode cX9_readsAsCard 75 = .ok (.aload_n 0, 1) := by decide +kernel
theorem dX9_readsAsCard_76 : decode cX9_readsAsCard 76 = .ok (.invokevirtual 47, 3) := by decide +kernel
theorem dX9_readsAsCard_79 : decode cX9_readsAsCard 79 = .ok (.ifCond .eq 10, 3) := by decide +kernel
theorem dX9_readsAsCard_82 : decode cX9_readsAsCard 82 = .ok (.aload_n 0, 1) := by decide +kernel
theorem dX9_readsAsCard_83 : decode cX9_readsAsCard 83 = .ok (.invokevirtual 51, 3) := by decide +kernel
theorem dX9_readsAsCard_86 : decode cX9_readsAsCard 86 = .ok (.ifCond .eq 13, 3) := by decide +kernel
theorem dX9_readsAsCard_89 : decode cX9_readsAsCard 89 = .ok (.aload_n 0, 1) := by decide +kernel
theorem dX9_readsAsCard_90 : decode cX9_readsAsCard 90 = .ok (.iconst 4, 1) := by decide +kernel
theorem dX9_readsAsCard_91 : decode cX9_readsAsCard 91 = .ok (.aload_n 0, 1) := by decide +kernel
theorem dX9_readsAsCard_92 : decode cX9_readsAsCard 92 = .ok (.getfield 29, 3) := by decide +kernel
theorem dX9_readsAsCard_95 : decode cX9_readsAsCard 95 = .ok (.invokevirtual 43, 3) := by decide +kernel
theorem dX9_readsAsCard_98 : decode cX9_readsAsCard 98 = .ok (.ireturn, 1) := by decide +kernel
theorem dX9_readsAsCard_99 : decode cX9_readsAsCard 99 = .ok (.iconst 1, 1) := by decide +kernel
theorem dX9_readsAsCard_100 : decode cX9_readsAsCard 100 = .ok (.ireturn, 1) := by decide +kernel
theorem dX9_noteFault_0 : decode cX9_noteFault 0 = .ok (.aload_n 0, 1) := by decide +kernel
theorem dX9_noteFault_1 : decode cX9_noteFault 1 = .ok (.iload_n 1, 1) := by decide +kernel
theorem dX9_noteFault_2 : decode cX9_noteFault 2 = .ok (.putfield 22, 3) := by decide +kernel
theorem dX9_noteFault_5 : decode cX9_noteFault 5 = .ok (.aload_n 0, 1) := by decide +kernel
theorem dX9_noteFault_6 : decode cX9_noteFault 6 = .ok (.iload_n 2, 1) := by decide +kernel
theorem dX9_noteFault_7 : decode cX9_noteFault 7 = .ok (.putfield 26, 3) := by decide +kernel
theorem dX9_noteFault_10 : decode cX9_noteFault 10 = .ok (.iconst 0, 1) := by decide +kernel
theorem dX9_noteFault_11 : decode cX9_noteFault 11 = .ok (.ireturn, 1) := by decide +kernel
theorem dX9_readBetweenWords_0 : decode cX9_readBetweenWords 0 = .ok (.aload_n 0, 1) := by decide +kernel
theorem dX9_readBetweenWords_1 : decode cX9_readBetweenWords 1 = .ok (.iload_n 1, 1) := by decide +kernel
theorem dX9_readBetweenWords_2 : decode cX9_readBetweenWords 2 = .ok (.invokevirtual 54, 3) := by decide +kernel
theorem dX9_readBetweenWords_5 : decode cX9_readBetweenWords 5 = .ok (.istore_n 2, 1) := by decide +kernel
theorem dX9_readBetweenWords_6 : decode cX9_readBetweenWords 6 = .ok (.iload_n 2, 1) := by decide +kernel
theorem dX9_readBetweenWords_7 : decode cX9_readBetweenWords 7 = .ok (.bipush 32, 2) := by decide +kernel
theorem dX9_readBetweenWords_9 : decode cX9_readBetweenWords 9 = .ok (.if_icmp .ne 5, 3) := by decide +kernel
theorem dX9_readBetweenWords_12 : decode cX9_readBetweenWords 12 = .ok (.iconst 0, 1) := by decide +kernel
theorem dX9_readBetweenWords_13 : decode cX9_readBetweenWords 13 = .ok (.ireturn, 1) := by decide +kernel
theorem dX9_readBetweenWords_14 : decode cX9_readBetweenWords 14 = .ok (.iload_n 2, 1) := by decide +kernel
theorem dX9_readBetweenWords_15 : decode cX9_readBetweenWords 15 = .ok (.invokestatic 57, 3) := by decide +kernel
theorem dX9_readBetweenWords_18 : decode cX9_readBetweenWords 18 = .ok (.istore_n 3, 1) := by decide +kernel
theorem dX9_readBetweenWords_19 : decode cX9_readBetweenWords 19 = .ok (.iload_n 3, 1) := by decide +kernel
theorem dX9_readBetweenWords_20 : decode cX9_readBetweenWords 20 = .ok (.iconst (-1), 1) := by decide +kernel
theorem dX9_readBetweenWords_21 : decode cX9_readBetweenWords 21 = .ok (.if_icmp .ne 5, 3) := by decide +kernel
theorem dX9_readBetweenWords_24 : decode cX9_readBetweenWords 24 = .ok (.iconst 1, 1) := by decide +kernel
theorem dX9_readBetweenWords_25 : decode cX9_readBetweenWords 25 = .ok (.ireturn, 1) := by decide +kernel
theorem dX9_readBetweenWords_26 : decode cX9_readBetweenWords 26 = .ok (.aload_n 0, 1) := by decide +kernel
theorem dX9_readBetweenWords_27 : decode cX9_readBetweenWords 27 = .ok (.iload_n 3, 1) := by decide +kernel
theorem dX9_readBetweenWords_28 : decode cX9_readBetweenWords 28 = .ok (.invokevirtual 60, 3) := by decide +kernel
theorem dX9_readBetweenWords_31 : decode cX9_readBetweenWords 31 = .ok (.ifCond .le 5, 3) := by decide +kernel
theorem dX9_readBetweenWords_34 : decode cX9_readBetweenWords 34 = .ok (.iconst 2, 1) := by decide +kernel
theorem dX9_readBetweenWords_35 : decode cX9_readBetweenWords 35 = .ok (.ireturn, 1) := by decide +kernel
theorem dX9_readBetweenWords_36 : decode cX9_readBetweenWords 36 = .ok (.aload_n 0, 1) := by decide +kernel
theorem dX9_readBetweenWords_37 : decode cX9_readBetweenWords 37 = .ok (.iload_n 3, 1) := by decide +kernel
theorem dX9_readBetweenWords_38 : decode cX9_readBetweenWords 38 = .ok (.putfield 32, 3) := by decide +kernel
theorem dX9_readBetweenWords_41 : decode cX9_readBetweenWords 41 = .ok (.iload_n 3, 1) := by decide +kernel
theorem dX9_readBetweenWords_42 : decode cX9_readBetweenWords 42 = .ok (.invokestatic 63, 3) := by decide +kernel
theorem dX9_readBetweenWords_45 : decode cX9_readBetweenWords 45 = .ok (.ifCond .eq 12, 3) := by decide +kernel
theorem dX9_readBetweenWords_48 : decode cX9_readBetweenWords 48 = .ok (.aload_n 0, 1) := by decide +kernel
theorem dX9_readBetweenWords_49 : decode cX9_readBetweenWords 49 = .ok (.getfield 18, 3) := by decide +kernel
theorem dX9_readBetweenWords_52 : decode cX9_readBetweenWords 52 = .ok (.iload_n 3, 1) := by decide +kernel
theorem dX9_readBetweenWords_53 : decode cX9_readBetweenWords 53 = .ok (.iload_n 1, 1) := by decide +kernel
theorem dX9_readBetweenWords_54 : decode cX9_readBetweenWords 54 = .ok (.iconst 1, 1) := by decide +kernel
theorem dX9_readBetweenWords_55 : decode cX9_readBetweenWords 55 = .ok (.iadd, 1) := by decide +kernel
theorem dX9_readBetweenWords_56 : decode cX9_readBetweenWords 56 = .ok (.iastore, 1) := by decide +kernel
theorem dX9_readBetweenWords_57 : decode cX9_readBetweenWords 57 = .ok (.iconst 0, 1) := by decide +kernel
theorem dX9_readBetweenWords_58 : decode cX9_readBetweenWords 58 = .ok (.ireturn, 1) := by decide +kernel
theorem dX9_readInWord_0 : decode cX9_readInWord 0 = .ok (.aload_n 0, 1) := by decide +kernel
theorem dX9_readInWord_1 : decode cX9_readInWord 1 = .ok (.iload_n 1, 1) := by decide +kernel
theorem dX9_readInWord_2 : decode cX9_readInWord 2 = .ok (.invokevirtual 54, 3) := by decide +kernel
theorem dX9_readInWord_5 : decode cX9_readInWord 5 = .ok (.istore_n 3, 1) := by decide +kernel
theorem dX9_readInWord_6 : decode cX9_readInWord 6 = .ok (.iload_n 3, 1) := by decide +kernel
theorem dX9_readInWord_7 : decode cX9_readInWord 7 = .ok (.bipush 48, 2) := by decide +kernel
theorem dX9_readInWord_9 : decode cX9_readInWord 9 = .ok (.bipush 57, 2) := by decide +kernel
theorem dX9_readInWord_11 : decode cX9_readInWord 11 = .ok (.invokestatic 67, 3) := by decide +kernel
theorem dX9_readInWord_14 : decode cX9_readInWord 14 = .ok (.ifCond .eq 16, 3) := by decide +kernel
theorem dX9_readInWord_17 : decode cX9_readInWord 17 = .ok (.aload_n 0, 1) := by decide +kernel
theorem dX9_readInWord_18 : decode cX9_readInWord 18 = .ok (.aload_n 2, 1) := by decide +kernel
theorem dX9_readInWord_19 : decode cX9_readInWord 19 = .ok (.aload_n 0, 1) := by decide +kernel
theorem dX9_readInWord_20 : decode cX9_readInWord 20 = .ok (.getfield 32, 3) := by decide +kernel
theorem dX9_readInWord_23 : decode cX9_readInWord 23 = .ok (.invokevirtual 71, 3) := by decide +kernel
theorem dX9_readInWord_26 : decode cX9_readInWord 26 = .ok (.invokevirtual 76, 3) := by decide +kernel
theorem dX9_readInWord_29 : decode cX9_readInWord 29 = .ok (.ireturn, 1) := by decide +kernel
theorem dX9_readInWord_30 : decode cX9_readInWord 30 = .ok (.iload_n 3, 1) := by decide +kernel
theorem dX9_readInWord_31 : decode cX9_readInWord 31 = .ok (.bipush 32, 2) := by decide +kernel
theorem dX9_readInWord_33 : decode cX9_readInWord 33 = .ok (.if_icmp .ne 21, 3) := by decide +kernel
theorem dX9_readInWord_36 : decode cX9_readInWord 36 = .ok (.aload_n 0, 1) := by decide +kernel
theorem dX9_readInWord_37 : decode cX9_readInWord 37 = .ok (.aload_n 0, 1) := by decide +kernel
theorem dX9_readInWord_38 : decode cX9_readInWord 38 = .ok (.getfield 32, 3) := by decide +kernel
theorem dX9_readInWord_41 : decode cX9_readInWord 41 = .ok (.invokevirtual 60, 3) := by decide +kernel
theorem dX9_readInWord_44 : decode cX9_readInWord 44 = .ok (.ifCond .le 10, 3) := by decide +kernel
theorem dX9_readInWord_47 : decode cX9_readInWord 47 = .ok (.aload_n 0, 1) := by decide +kernel
theorem dX9_readInWord_48 : decode cX9_readInWord 48 = .ok (.iconst (-1), 1) := by decide +kernel
theorem dX9_readInWord_49 : decode cX9_readInWord 49 = .ok (.putfield 32, 3) := by decide +kernel
theorem dX9_readInWord_52 : decode cX9_readInWord 52 = .ok (.iconst 0, 1) := by decide +kernel
theorem dX9_readInWord_53 : decode cX9_readInWord 53 = .ok (.ireturn, 1) := by decide +kernel
theorem dX9_readInWord_54 : decode cX9_readInWord 54 = .ok (.iconst 1, 1) := by decide +kernel
theorem dX9_readInWord_55 : decode cX9_readInWord 55 = .ok (.ireturn, 1) := by decide +kernel
theorem dX9_countDigit_0 : decode cX9_countDigit 0 = .ok (.aload_n 0, 1) := by decide +kernel
theorem dX9_countDigit_1 : decode cX9_countDigit 1 = .ok (.aload_n 0, 1) := by decide +kernel
theorem dX9_countDigit_2 : decode cX9_countDigit 2 = .ok (.getfield 32, 3) := by decide +kernel
theorem dX9_countDigit_5 : decode cX9_countDigit 5 = .ok (.invokevirtual 60, 3) := by decide +kernel
theorem dX9_countDigit_8 : decode cX9_countDigit 8 = .ok (.iload_n 1, 1) := by decide +kernel
theorem dX9_countDigit_9 : decode cX9_countDigit 9 = .ok (.if_icmp .lt 5, 3) := by decide +kernel
theorem dX9_countDigit_12 : decode cX9_countDigit 12 = .ok (.iconst 3, 1) := by decide +kernel
theorem dX9_countDigit_13 : decode cX9_countDigit 13 = .ok (.ireturn, 1) := by decide +kernel
theorem dX9_countDigit_14 : decode cX9_countDigit 14 = .ok (.aload_n 0, 1) := by decide +kernel
theorem dX9_countDigit_15 : decode cX9_countDigit 15 = .ok (.getfield 32, 3) := by decide +kernel
theorem dX9_countDigit_18 : decode cX9_countDigit 18 = .ok (.invokestatic 63, 3) := by decide +kernel
theorem dX9_countDigit_21 : decode cX9_countDigit 21 = .ok (.ifCond .eq 16, 3) := by decide +kernel
theorem dX9_countDigit_24 : decode cX9_countDigit 24 = .ok (.aload_n 0, 1) := by decide +kernel
theorem dX9_countDigit_25 : decode cX9_countDigit 25 = .ok (.getfield 15, 3) := by decide +kernel
theorem dX9_countDigit_28 : decode cX9_countDigit 28 = .ok (.aload_n 0, 1) := by decide +kernel
theorem dX9_countDigit_29 : decode cX9_countDigit 29 = .ok (.getfield 32, 3) := by decide +kernel
theorem dX9_countDigit_32 : decode cX9_countDigit 32 = .ok (.dup2, 1) := by decide +kernel
theorem dX9_countDigit_33 : decode cX9_countDigit 33 = .ok (.iaload, 1) := by decide +kernel
theorem dX9_countDigit_34 : decode cX9_countDigit 34 = .ok (.iconst 1, 1) := by decide +kernel
theorem dX9_countDigit_35 : decode cX9_countDigit 35 = .ok (.iadd, 1) := by decide +kernel
theorem dX9_countDigit_36 : decode cX9_countDigit 36 = .ok (.iastore, 1) := by decide +kernel
theorem dX9_countDigit_37 : decode cX9_countDigit 37 = .ok (.iconst 0, 1) := by decide +kernel
theorem dX9_countDigit_38 : decode cX9_countDigit 38 = .ok (.ireturn, 1) := by decide +kernel
theorem dX9_hasWord_0 : decode cX9_hasWord 0 = .ok (.iconst 0, 1) := by decide +kernel
theorem dX9_hasWord_1 : decode cX9_hasWord 1 = .ok (.istore_n 1, 1) := by decide +kernel
theorem dX9_hasWord_2 : decode cX9_hasWord 2 = .ok (.iload_n 1, 1) := by decide +kernel
theorem dX9_hasWord_3 : decode cX9_hasWord 3 = .ok (.iconst 5, 1) := by decide +kernel
theorem dX9_hasWord_4 : decode cX9_hasWord 4 = .ok (.if_icmp .ge 20, 3) := by decide +kernel
theorem dX9_hasWord_7 : decode cX9_hasWord 7 = .ok (.aload_n 0, 1) := by decide +kernel
theorem dX9_hasWord_8 : decode cX9_hasWord 8 = .ok (.getfield 15, 3) := by decide +kernel
theorem dX9_hasWord_11 : decode cX9_hasWord 11 = .ok (.iload_n 1, 1) := by decide +kernel
theorem dX9_hasWord_12 : decode cX9_hasWord 12 = .ok (.iaload, 1) := by decide +kernel
theorem dX9_hasWord_13 : decode cX9_hasWord 13 = .ok (.ifCond .le 5, 3) := by decide +kernel
theorem dX9_hasWord_16 : decode cX9_hasWord 16 = .ok (.iconst 1, 1) := by decide +kernel
theorem dX9_hasWord_17 : decode cX9_hasWord 17 = .ok (.ireturn, 1) := by decide +kernel
theorem dX9_hasWord_18 : decode cX9_hasWord 18 = .ok (.iinc 1 1, 3) := by decide +kernel
theorem dX9_hasWord_21 : decode cX9_hasWord 21 = .ok (.goto (-19), 3) := by decide +kernel
theorem dX9_hasWord_24 : decode cX9_hasWord 24 = .ok (.iconst 0, 1) := by decide +kernel
theorem dX9_hasWord_25 : decode cX9_hasWord 25 = .ok (.ireturn, 1) := by decide +kernel
theorem dX9_endsBehindLetter_0 : decode cX9_endsBehindLetter 0 = .ok (.aload_n 0, 1) := by decide +kernel
theorem dX9_endsBehindLetter_1 : decode cX9_endsBehindLetter 1 = .ok (.getfield 32, 3) := by decide +kernel
theorem dX9_endsBehindLetter_4 : decode cX9_endsBehindLetter 4 = .ok (.iconst (-1), 1) := by decide +kernel
theorem dX9_endsBehindLetter_5 : decode cX9_endsBehindLetter 5 = .ok (.if_icmp .eq 18, 3) := by decide +kernel
theorem dX9_endsBehindLetter_8 : decode cX9_endsBehindLetter 8 = .ok (.aload_n 0, 1) := by decide +kernel
theorem dX9_endsBehindLetter_9 : decode cX9_endsBehindLetter 9 = .ok (.aload_n 0, 1) := by decide +kernel
theorem dX9_endsBehindLetter_10 : decode cX9_endsBehindLetter 10 = .ok (.getfield 32, 3) := by decide +kernel
theorem dX9_endsBehindLetter_13 : decode cX9_endsBehindLetter 13 = .ok (.invokevirtual 60, 3) := by decide +kernel
theorem dX9_endsBehindLetter_16 : decode cX9_endsBehindLetter 16 = .ok (.ifCond .ne 7, 3) := by decide +kernel
theorem dX9_endsBehindLetter_19 : decode cX9_endsBehindLetter 19 = .ok (.iconst 1, 1) := by decide +kernel
theorem dX9_endsBehindLetter_20 : decode cX9_endsBehindLetter 20 = .ok (.goto 4, 3) := by decide +kernel
theorem dX9_endsBehindLetter_23 : decode cX9_endsBehindLetter 23 = .ok (.iconst 0, 1) := by decide +kernel
theorem dX9_endsBehindLetter_24 : decode cX9_endsBehindLetter 24 = .ok (.ireturn, 1) := by decide +kernel
theorem dX9_digitsOf_0 : decode cX9_digitsOf 0 = .ok (.iload_n 1, 1) := by decide +kernel
theorem dX9_digitsOf_1 : decode cX9_digitsOf 1 = .ok (.invokestatic 63, 3) := by decide +kernel
theorem dX9_digitsOf_4 : decode cX9_digitsOf 4 = .ok (.ifCond .eq 12, 3) := by decide +kernel
theorem dX9_digitsOf_7 : decode cX9_digitsOf 7 = .ok (.aload_n 0, 1) := by decide +kernel
theorem dX9_digitsOf_8 : decode cX9_digitsOf 8 = .ok (.getfield 15, 3) := by decide +kernel
theorem dX9_digitsOf_11 : decode cX9_digitsOf 11 = .ok (.iload_n 1, 1) := by decide +kernel
theorem dX9_digitsOf_12 : decode cX9_digitsOf 12 = .ok (.iaload, 1) := by decide +kernel
theorem dX9_digitsOf_13 : decode cX9_digitsOf 13 = .ok (.goto 4, 3) := by decide +kernel
theorem dX9_digitsOf_16 : decode cX9_digitsOf 16 = .ok (.iconst 0, 1) := by decide +kernel
theorem dX9_digitsOf_17 : decode cX9_digitsOf 17 = .ok (.ireturn, 1) := by decide +kernel
theorem dX9_isTextField_0 : decode cX9_isTextField 0 = .ok (.iload_n 0, 1) := by decide +kernel
theorem dX9_isTextField_1 : decode cX9_isTextField 1 = .ok (.ifCond .lt 12, 3) := by decide +kernel
theorem dX9_isTextField_4 : decode cX9_isTextField 4 = .ok (.iload_n 0, 1) := by decide +kernel
theorem dX9_isTextField_5 : decode cX9_isTextField 5 = .ok (.iconst 5, 1) := by decide +kernel
theorem dX9_isTextField_6 : decode cX9_isTextField 6 = .ok (.if_icmp .ge 7, 3) := by decide +kernel
theorem dX9_isTextField_9 : decode cX9_isTextField 9 = .ok (.iconst 1, 1) := by decide +kernel
theorem dX9_isTextField_10 : decode cX9_isTextField 10 = .ok (.goto 4, 3) := by decide +kernel
theorem dX9_isTextField_13 : decode cX9_isTextField 13 = .ok (.iconst 0, 1) := by decide +kernel
theorem dX9_isTextField_14 : decode cX9_isTextField 14 = .ok (.ireturn, 1) := by decide +kernel
theorem dX9_fieldOf_0 : decode cX9_fieldOf 0 = .ok (.iload_n 0, 1) := by decide +kernel
theorem dX9_fieldOf_1 : decode cX9_fieldOf 1 = .ok (.lookupswitch 61 #[(100, 51), (103, 53), (104, 57), (114, 59), (119, 55)], 51) := by decide +kernel
theorem dX9_fieldOf_52 : decode cX9_fieldOf 52 = .ok (.iconst 0, 1) := by decide +kernel
theorem dX9_fieldOf_53 : decode cX9_fieldOf 53 = .ok (.ireturn, 1) := by decide +kernel
theorem dX9_fieldOf_54 : decode cX9_fieldOf 54 = .ok (.iconst 1, 1) := by decide +kernel
theorem dX9_fieldOf_55 : decode cX9_fieldOf 55 = .ok (.ireturn, 1) := by decide +kernel
theorem dX9_fieldOf_56 : decode cX9_fieldOf 56 = .ok (.iconst 2, 1) := by decide +kernel
theorem dX9_fieldOf_57 : decode cX9_fieldOf 57 = .ok (.ireturn, 1) := by decide +kernel
theorem dX9_fieldOf_58 : decode cX9_fieldOf 58 = .ok (.iconst 3, 1) := by decide +kernel
theorem dX9_fieldOf_59 : decode cX9_fieldOf 59 = .ok (.ireturn, 1) := by decide +kernel
theorem dX9_fieldOf_60 : decode cX9_fieldOf 60 = .ok (.iconst 4, 1) := by decide +kernel
theorem dX9_fieldOf_61 : decode cX9_fieldOf 61 = .ok (.ireturn, 1) := by decide +kernel
theorem dX9_fieldOf_62 : decode cX9_fieldOf 62 = .ok (.iconst (-1), 1) := by decide +kernel
theorem dX9_fieldOf_63 : decode cX9_fieldOf 63 = .ok (.ireturn, 1) := by decide +kernel
theorem dX9_punchOn_0 : decode cX9_punchOn 0 = .ok (.iconst 0, 1) := by decide +kernel
theorem dX9_punchOn_1 : decode cX9_punchOn 1 = .ok (.istore_n 3, 1) := by decide +kernel
theorem dX9_punchOn_2 : decode cX9_punchOn 2 = .ok (.iload_n 3, 1) := by decide +kernel
theorem dX9_punchOn_3 : decode cX9_punchOn 3 = .ok (.iconst 5, 1) := by decide +kernel
theorem dX9_punchOn_4 : decode cX9_punchOn 4 = .ok (.if_icmp .ge 25, 3) := by decide +kernel
theorem dX9_punchOn_7 : decode cX9_punchOn 7 = .ok (.aload_n 0, 1) := by decide +kernel
theorem dX9_punchOn_8 : decode cX9_punchOn 8 = .ok (.getfield 15, 3) := by decide +kernel
theorem dX9_punchOn_11 : decode cX9_punchOn 11 = .ok (.iload_n 3, 1) := by decide +kernel
theorem dX9_punchOn_12 : decode cX9_punchOn 12 = .ok (.iaload, 1) := by decide +kernel
theorem dX9_punchOn_13 : decode cX9_punchOn 13 = .ok (.ifCond .le 10, 3) := by decide +kernel
theorem dX9_punchOn_16 : decode cX9_punchOn 16 = .ok (.aload_n 0, 1) := by decide +kernel
theorem dX9_punchOn_17 : decode cX9_punchOn 17 = .ok (.aload_n 1, 1) := by decide +kernel
theorem dX9_punchOn_18 : decode cX9_punchOn 18 = .ok (.aload_n 2, 1) := by decide +kernel
theorem dX9_punchOn_19 : decode cX9_punchOn 19 = .ok (.iload_n 3, 1) := by decide +kernel
theorem dX9_punchOn_20 : decode cX9_punchOn 20 = .ok (.invokevirtual 79, 3) := by decide +kernel
theorem dX9_punchOn_23 : decode cX9_punchOn 23 = .ok (.iinc 3 1, 3) := by decide +kernel
theorem dX9_punchOn_26 : decode cX9_punchOn 26 = .ok (.goto (-24), 3) := by decide +kernel
theorem dX9_punchOn_29 : decode cX9_punchOn 29 = .ok (.return_, 1) := by decide +kernel
theorem dX9_punchNumber_0 : decode cX9_punchNumber 0 = .ok (.aload_n 2, 1) := by decide +kernel
theorem dX9_punchNumber_1 : decode cX9_punchNumber 1 = .ok (.iload_n 3, 1) := by decide +kernel
theorem dX9_punchNumber_2 : decode cX9_punchNumber 2 = .ok (.invokevirtual 71, 3) := by decide +kernel
theorem dX9_punchNumber_5 : decode cX9_punchNumber 5 = .ok (.istore 4, 2) := by decide +kernel
theorem dX9_punchNumber_7 : decode cX9_punchNumber 7 = .ok (.iload 4, 2) := by decide +kernel
theorem dX9_punchNumber_9 : decode cX9_punchNumber 9 = .ok (.aload_n 0, 1) := by decide +kernel
theorem dX9_punchNumber_10 : decode cX9_punchNumber 10 = .ok (.iload_n 3, 1) := by decide +kernel
theorem dX9_punchNumber_11 : decode cX9_punchNumber 11 = .ok (.invokevirtual 60, 3) := by decide +kernel
theorem dX9_punchNumber_14 : decode cX9_punchNumber 14 = .ok (.isub, 1) := by decide +kernel
theorem dX9_punchNumber_15 : decode cX9_punchNumber 15 = .ok (.istore 5, 2) := by decide +kernel
theorem dX9_punchNumber_17 : decode cX9_punchNumber 17 = .ok (.iconst 0, 1) := by decide +kernel
theorem dX9_punchNumber_18 : decode cX9_punchNumber 18 = .ok (.istore 6, 2) := by decide +kernel
theorem dX9_punchNumber_20 : decode cX9_punchNumber 20 = .ok (.iload 6, 2) := by decide +kernel
theorem dX9_punchNumber_22 : decode cX9_punchNumber 22 = .ok (.iload 4, 2) := by decide +kernel
theorem dX9_punchNumber_24 : decode cX9_punchNumber 24 = .ok (.if_icmp .ge 55, 3) := by decide +kernel
theorem dX9_punchNumber_27 : decode cX9_punchNumber 27 = .ok (.iload 6, 2) := by decide +kernel
theorem dX9_punchNumber_29 : decode cX9_punchNumber 29 = .ok (.iload 5, 2) := by decide +kernel
theorem dX9_punchNumber_31 : decode cX9_punchNumber 31 = .ok (.if_icmp .ge 7, 3) := by decide +kernel
theorem dX9_punchNumber_34 : decode cX9_punchNumber 34 = .ok (.iconst 0, 1) := by decide +kernel
theorem dX9_punchNumber_35 : decode cX9_punchNumber 35 = .ok (.goto 22, 3) := by decide +kernel
theorem dX9_punchNumber_38 : decode cX9_punchNumber 38 = .ok (.aload_n 0, 1) := by decide +kernel
theorem dX9_punchNumber_39 : decode cX9_punchNumber 39 = .ok (.aload_n 0, 1) := by decide +kernel
theorem dX9_punchNumber_40 : decode cX9_punchNumber 40 = .ok (.getfield 18, 3) := by decide +kernel
theorem dX9_punchNumber_43 : decode cX9_punchNumber 43 = .ok (.iload_n 3, 1) := by decide +kernel
theorem dX9_punchNumber_44 : decode cX9_punchNumber 44 = .ok (.iaload, 1) := by decide +kernel
theorem dX9_punchNumber_45 : decode cX9_punchNumber 45 = .ok (.iload 6, 2) := by decide +kernel
theorem dX9_punchNumber_47 : decode cX9_punchNumber 47 = .ok (.iadd, 1) := by decide +kernel
theorem dX9_punchNumber_48 : decode cX9_punchNumber 48 = .ok (.iload 5, 2) := by decide +kernel
theorem dX9_punchNumber_50 : decode cX9_punchNumber 50 = .ok (.isub, 1) := by decide +kernel
theorem dX9_punchNumber_51 : decode cX9_punchNumber 51 = .ok (.invokevirtual 54, 3) := by decide +kernel
theorem dX9_punchNumber_54 : decode cX9_punchNumber 54 = .ok (.bipush 48, 2) := by decide +kernel
theorem dX9_punchNumber_56 : decode cX9_punchNumber 56 = .ok (.isub, 1) := by decide +kernel
theorem dX9_punchNumber_57 : decode cX9_punchNumber 57 = .ok (.istore 7, 2) := by decide +kernel
theorem dX9_punchNumber_59 : decode cX9_punchNumber 59 = .ok (.aload_n 1, 1) := by decide +kernel
theorem dX9_punchNumber_60 : decode cX9_punchNumber 60 = .ok (.aload_n 2, 1) := by decide +kernel
theorem dX9_punchNumber_61 : decode cX9_punchNumber 61 = .ok (.iload_n 3, 1) := by decide +kernel
theorem dX9_punchNumber_62 : decode cX9_punchNumber 62 = .ok (.invokevirtual 83, 3) := by decide +kernel
theorem dX9_punchNumber_65 : decode cX9_punchNumber 65 = .ok (.iload 6, 2) := by decide +kernel
theorem dX9_punchNumber_67 : decode cX9_punchNumber 67 = .ok (.iadd, 1) := by decide +kernel
theorem dX9_punchNumber_68 : decode cX9_punchNumber 68 = .ok (.iload 7, 2) := by decide +kernel
theorem dX9_punchNumber_70 : decode cX9_punchNumber 70 = .ok (.invokevirtual 86, 3) := by decide +kernel
theorem dX9_punchNumber_73 : decode cX9_punchNumber 73 = .ok (.iinc 6 1, 3) := by decide +kernel
theorem dX9_punchNumber_76 : decode cX9_punchNumber 76 = .ok (.goto (-56), 3) := by decide +kernel
theorem dX9_punchNumber_79 : decode cX9_punchNumber 79 = .ok (.return_, 1) := by decide +kernel
theorem dX10_init_0 : decode cX10_init 0 = .ok (.aload_n 0, 1) := by decide +kernel
theorem dX10_init_1 : decode cX10_init 1 = .ok (.invokespecial 3, 3) := by decide +kernel
theorem dX10_init_4 : decode cX10_init 4 = .ok (.return_, 1) := by decide +kernel
theorem dX10_keyOf_0 : decode cX10_keyOf 0 = .ok (.iload_n 0, 1) := by decide +kernel
theorem dX10_keyOf_1 : decode cX10_keyOf 1 = .ok (.i2l, 1) := by decide +kernel
theorem dX10_keyOf_2 : decode cX10_keyOf 2 = .ok (.ldc2_w 9, 3) := by decide +kernel
theorem dX10_keyOf_5 : decode cX10_keyOf 5 = .ok (.lmul, 1) := by decide +kernel
theorem dX10_keyOf_6 : decode cX10_keyOf 6 = .ok (.iload_n 1, 1) := by decide +kernel
theorem dX10_keyOf_7 : decode cX10_keyOf 7 = .ok (.i2l, 1) := by decide +kernel
theorem dX10_keyOf_8 : decode cX10_keyOf 8 = .ok (.ladd, 1) := by decide +kernel
theorem dX10_keyOf_9 : decode cX10_keyOf 9 = .ok (.ldc2_w 9, 3) := by decide +kernel
theorem dX10_keyOf_12 : decode cX10_keyOf 12 = .ok (.lmul, 1) := by decide +kernel
theorem dX10_keyOf_13 : decode cX10_keyOf 13 = .ok (.iload_n 2, 1) := by decide +kernel
theorem dX10_keyOf_14 : decode cX10_keyOf 14 = .ok (.i2l, 1) := by decide +kernel
theorem dX10_keyOf_15 : decode cX10_keyOf 15 = .ok (.ladd, 1) := by decide +kernel
theorem dX10_keyOf_16 : decode cX10_keyOf 16 = .ok (.lreturn, 1) := by decide +kernel
theorem dX10_key_0 : decode cX10_key 0 = .ok (.aload_n 0, 1) := by decide +kernel
theorem dX10_key_1 : decode cX10_key 1 = .ok (.getfield 11, 3) := by decide +kernel
theorem dX10_key_4 : decode cX10_key 4 = .ok (.aload_n 0, 1) := by decide +kernel
theorem dX10_key_5 : decode cX10_key 5 = .ok (.getfield 17, 3) := by decide +kernel
theorem dX10_key_8 : decode cX10_key 8 = .ok (.aload_n 0, 1) := by decide +kernel
theorem dX10_key_9 : decode cX10_key 9 = .ok (.getfield 20, 3) := by decide +kernel
theorem dX10_key_12 : decode cX10_key 12 = .ok (.invokestatic 23, 3) := by decide +kernel
theorem dX10_key_15 : decode cX10_key 15 = .ok (.lreturn, 1) := by decide +kernel
theorem dX10_clear_0 : decode cX10_clear 0 = .ok (.aload_n 0, 1) := by decide +kernel
theorem dX10_clear_1 : decode cX10_clear 1 = .ok (.iconst 0, 1) := by decide +kernel
theorem dX10_clear_2 : decode cX10_clear 2 = .ok (.putfield 11, 3) := by decide +kernel
theorem dX10_clear_5 : decode cX10_clear 5 = .ok (.aload_n 0, 1) := by decide +kernel
theorem dX10_clear_6 : decode cX10_clear 6 = .ok (.iconst 0, 1) := by decide +kernel
theorem dX10_clear_7 : decode cX10_clear 7 = .ok (.putfield 17, 3) := by decide +kernel
theorem dX10_clear_10 : decode cX10_clear 10 = .ok (.aload_n 0, 1) := by decide +kernel
theorem dX10_clear_11 : decode cX10_clear 11 = .ok (.iconst 0, 1) := by decide +kernel
theorem dX10_clear_12 : decode cX10_clear 12 = .ok (.putfield 20, 3) := by decide +kernel
theorem dX10_clear_15 : decode cX10_clear 15 = .ok (.aload_n 0, 1) := by decide +kernel
theorem dX10_clear_16 : decode cX10_clear 16 = .ok (.iconst 0, 1) := by decide +kernel
theorem dX10_clear_17 : decode cX10_clear 17 = .ok (.putfield 27, 3) := by decide +kernel
theorem dX10_clear_20 : decode cX10_clear 20 = .ok (.aload_n 0, 1) := by decide +kernel
theorem dX10_clear_21 : decode cX10_clear 21 = .ok (.iconst 0, 1) := by decide +kernel
theorem dX10_clear_22 : decode cX10_clear 22 = .ok (.putfield 30, 3) := by decide +kernel
theorem dX10_clear_25 : decode cX10_clear 25 = .ok (.aload_n 0, 1) := by decide +kernel
theorem dX10_clear_26 : decode cX10_clear 26 = .ok (.iconst 0, 1) := by decide +kernel
theorem dX10_clear_27 : decode cX10_clear 27 = .ok (.putfield 33, 3) := by decide +kernel
theorem dX10_clear_30 : decode cX10_clear 30 = .ok (.aload_n 0, 1) := by decide +kernel
theorem dX10_clear_31 : decode cX10_clear 31 = .ok (.iconst 0, 1) := by decide +kernel
theorem dX10_clear_32 : decode cX10_clear 32 = .ok (.putfield 36, 3) := by decide +kernel
theorem dX10_clear_35 : decode cX10_clear 35 = .ok (.aload_n 0, 1) := by decide +kernel
theorem dX10_clear_36 : decode cX10_clear 36 = .ok (.iconst 0, 1) := by decide +kernel
theorem dX10_clear_37 : decode cX10_clear 37 = .ok (.putfield 39, 3) := by decide +kernel
theorem dX10_clear_40 : decode cX10_clear 40 = .ok (.return_, 1) := by decide +kernel
theorem dX10_fillFrom_0 : decode cX10_fillFrom 0 = .ok (.aload_n 0, 1) := by decide +kernel
theorem dX10_fillFrom_1 : decode cX10_fillFrom 1 = .ok (.aload_n 2, 1) := by decide +kernel
theorem dX10_fillFrom_2 : decode cX10_fillFrom 2 = .ok (.aload_n 1, 1) := by decide +kernel
theorem dX10_fillFrom_3 : decode cX10_fillFrom 3 = .ok (.iconst 0, 1) := by decide +kernel
theorem dX10_fillFrom_4 : decode cX10_fillFrom 4 = .ok (.invokevirtual 42, 3) := by decide +kernel
theorem dX10_fillFrom_7 : decode cX10_fillFrom 7 = .ok (.putfield 11, 3) := by decide +kernel
theorem dX10_fillFrom_10 : decode cX10_fillFrom 10 = .ok (.aload_n 0, 1) := by decide +kernel
theorem dX10_fillFrom_11 : decode cX10_fillFrom 11 = .ok (.aload_n 2, 1) := by decide +kernel
theorem dX10_fillFrom_12 : decode cX10_fillFrom 12 = .ok (.aload_n 1, 1) := by decide +kernel
theorem dX10_fillFrom_13 : decode cX10_fillFrom 13 = .ok (.iconst 1, 1) := by decide +kernel
theorem dX10_fillFrom_14 : decode cX10_fillFrom 14 = .ok (.invokevirtual 42, 3) := by decide +kernel
theorem dX10_fillFrom_17 : decode cX10_fillFrom 17 = .ok (.putfield 17, 3) := by decide +kernel
theorem dX10_fillFrom_20 : decode cX10_fillFrom 20 = .ok (.aload_n 0, 1) := by decide +kernel
theorem dX10_fillFrom_21 : decode cX10_fillFrom 21 = .ok (.aload_n 2, 1) := by decide +kernel
theorem dX10_fillFrom_22 : decode cX10_fillFrom 22 = .ok (.aload_n 1, 1) := by decide +kernel
theorem dX10_fillFrom_23 : decode cX10_fillFrom 23 = .ok (.iconst 2, 1) := by decide +kernel
theorem dX10_fillFrom_24 : decode cX10_fillFrom 24 = .ok (.invokevirtual 42, 3) := by decide +kernel
theorem dX10_fillFrom_27 : decode cX10_fillFrom 27 = .ok (.putfield 20, 3) := by decide +kernel
theorem dX10_fillFrom_30 : decode cX10_fillFrom 30 = .ok (.aload_n 0, 1) := by decide +kernel
theorem dX10_fillFrom_31 : decode cX10_fillFrom 31 = .ok (.aload_n 2, 1) := by decide +kernel
theorem dX10_fillFrom_32 : decode cX10_fillFrom 32 = .ok (.aload_n 1, 1) := by decide +kernel
theorem dX10_fillFrom_33 : decode cX10_fillFrom 33 = .ok (.iconst 3, 1) := by decide +kernel
theorem dX10_fillFrom_34 : decode cX10_fillFrom 34 = .ok (.invokevirtual 42, 3) := by decide +kernel
theorem dX10_fillFrom_37 : decode cX10_fillFrom 37 = .ok (.putfield 33, 3) := by decide +kernel
theorem dX10_fillFrom_40 : decode cX10_fillFrom 40 = .ok (.aload_n 0, 1) := by decide +kernel
theorem dX10_fillFrom_41 : decode cX10_fillFrom 41 = .ok (.aload_n 2, 1) := by decide +kernel
theorem dX10_fillFrom_42 : decode cX10_fillFrom 42 = .ok (.aload_n 1, 1) := by decide +kernel
theorem dX10_fillFrom_43 : decode cX10_fillFrom 43 = .ok (.iconst 4, 1) := by decide +kernel
theorem dX10_fillFrom_44 : decode cX10_fillFrom 44 = .ok (.invokevirtual 42, 3) := by decide +kernel
theorem dX10_fillFrom_47 : decode cX10_fillFrom 47 = .ok (.putfield 27, 3) := by decide +kernel
theorem dX10_fillFrom_50 : decode cX10_fillFrom 50 = .ok (.aload_n 0, 1) := by decide +kernel
theorem dX10_fillFrom_51 : decode cX10_fillFrom 51 = .ok (.getfield 11, 3) := by decide +kernel
theorem dX10_fillFrom_54 : decode cX10_fillFrom 54 = .ok (.ldc 48, 2) := by decide +kernel
theorem dX10_fillFrom_56 : decode cX10_fillFrom 56 = .ok (.if_icmp .eq 39, 3) := by decide +kernel
theorem dX10_fillFrom_59 : decode cX10_fillFrom 59 = .ok (.aload_n 0, 1) := by decide +kernel
theorem dX10_fillFrom_60 : decode cX10_fillFrom 60 = .ok (.getfield 17, 3) := by decide +kernel
theorem dX10_fillFrom_63 : decode cX10_fillFrom 63 = .ok (.ldc 48, 2) := by decide +kernel
theorem dX10_fillFrom_65 : decode cX10_fillFrom 65 = .ok (.if_icmp .eq 30, 3) := by decide +kernel
theorem dX10_fillFrom_68 : decode cX10_fillFrom 68 = .ok (.aload_n 0, 1) := by decide +kernel
theorem dX10_fillFrom_69 : decode cX10_fillFrom 69 = .ok (.getfield 20, 3) := by decide +kernel
theorem dX10_fillFrom_72 : decode cX10_fillFrom 72 = .ok (.ldc 48, 2) := by decide +kernel
theorem dX10_fillFrom_74 : decode cX10_fillFrom 74 = .ok (.if_icmp .eq 21, 3) := by decide +kernel
theorem dX10_fillFrom_77 : decode cX10_fillFrom 77 = .ok (.aload_n 0, 1) := by decide +kernel
theorem dX10_fillFrom_78 : decode cX10_fillFrom 78 = .ok (.getfield 33, 3) := by decide +kernel
theorem dX10_fillFrom_81 : decode cX10_fillFrom 81 = .ok (.ldc 48, 2) := by decide +kernel
theorem dX10_fillFrom_83 : decode cX10_fillFrom 83 = .ok (.if_icmp .eq 12, 3) := by decide +kernel
theorem dX10_fillFrom_86 : decode cX10_fillFrom 86 = .ok (.aload_n 0, 1) := by decide +kernel
theorem dX10_fillFrom_87 : decode cX10_fillFrom 87 = .ok (.getfield 27, 3) := by decide +kernel
theorem dX10_fillFrom_90 : decode cX10_fillFrom 90 = .ok (.ldc 48, 2) := by decide +kernel
theorem dX10_fillFrom_92 : decode cX10_fillFrom 92 = .ok (.if_icmp .ne 5, 3) := by decide +kernel
theorem dX10_fillFrom_95 : decode cX10_fillFrom 95 = .ok (.iconst 0, 1) := by decide +kernel
theorem dX10_fillFrom_96 : decode cX10_fillFrom 96 = .ok (.ireturn, 1) := by decide +kernel
theorem dX10_fillFrom_97 : decode cX10_fillFrom 97 = .ok (.aload_n 0, 1) := by decide +kernel
theorem dX10_fillFrom_98 : decode cX10_fillFrom 98 = .ok (.iconst 1, 1) := by decide +kernel
theorem dX10_fillFrom_99 : decode cX10_fillFrom 99 = .ok (.putfield 30, 3) := by decide +kernel
theorem dX10_fillFrom_102 : decode cX10_fillFrom 102 = .ok (.aload_n 0, 1) := by decide +kernel
theorem dX10_fillFrom_103 : decode cX10_fillFrom 103 = .ok (.aload_n 0, 1) := by decide +kernel
theorem dX10_fillFrom_104 : decode cX10_fillFrom 104 = .ok (.getfield 33, 3) := by decide +kernel
theorem dX10_fillFrom_107 : decode cX10_fillFrom 107 = .ok (.aload_n 0, 1) := by decide +kernel
theorem dX10_fillFrom_108 : decode cX10_fillFrom 108 = .ok (.getfield 27, 3) := by decide +kernel
theorem dX10_fillFrom_111 : decode cX10_fillFrom 111 = .ok (.imul, 1) := by decide +kernel
theorem dX10_fillFrom_112 : decode cX10_fillFrom 112 = .ok (.bipush 10, 2) := by decide +kernel
theorem dX10_fillFrom_114 : decode cX10_fillFrom 114 = .ok (.idiv, 1) := by decide +kernel
theorem dX10_fillFrom_115 : decode cX10_fillFrom 115 = .ok (.putfield 36, 3) := by decide +kernel
theorem dX10_fillFrom_118 : decode cX10_fillFrom 118 = .ok (.aload_n 0, 1) := by decide +kernel
theorem dX10_fillFrom_119 : decode cX10_fillFrom 119 = .ok (.iconst 0, 1) := by decide +kernel
theorem dX10_fillFrom_120 : decode cX10_fillFrom 120 = .ok (.putfield 39, 3) := by decide +kernel
theorem dX10_fillFrom_123 : decode cX10_fillFrom 123 = .ok (.iconst 1, 1) := by decide +kernel
theorem dX10_fillFrom_124 : decode cX10_fillFrom 124 = .ok (.ireturn, 1) := by decide +kernel
theorem dX10_addCard_0 : decode cX10_addCard 0 = .ok (.aload_n 0, 1) := by decide +kernel
theorem dX10_addCard_1 : decode cX10_addCard 1 = .ok (.aload_n 1, 1) := by decide +kernel
theorem dX10_addCard_2 : decode cX10_addCard 2 = .ok (.getfield 11, 3) := by decide +kernel
theorem dX10_addCard_5 : decode cX10_addCard 5 = .ok (.putfield 11, 3) := by decide +kernel
theorem dX10_addCard_8 : decode cX10_addCard 8 = .ok (.aload_n 0, 1) := by decide +kernel
theorem dX10_addCard_9 : decode cX10_addCard 9 = .ok (.aload_n 1, 1) := by decide +kernel
theorem dX10_addCard_10 : decode cX10_addCard 10 = .ok (.getfield 17, 3) := by decide +kernel
theorem dX10_addCard_13 : decode cX10_addCard 13 = .ok (.putfield 17, 3) := by decide +kernel
theorem dX10_addCard_16 : decode cX10_addCard 16 = .ok (.aload_n 0, 1) := by decide +kernel
theorem dX10_addCard_17 : decode cX10_addCard 17 = .ok (.aload_n 1, 1) := by decide +kernel
theorem dX10_addCard_18 : decode cX10_addCard 18 = .ok (.getfield 20, 3) := by decide +kernel
theorem dX10_addCard_21 : decode cX10_addCard 21 = .ok (.putfield 20, 3) := by decide +kernel
theorem dX10_addCard_24 : decode cX10_addCard 24 = .ok (.aload_n 0, 1) := by decide +kernel
theorem dX10_addCard_25 : decode cX10_addCard 25 = .ok (.aload_n 1, 1) := by decide +kernel
theorem dX10_addCard_26 : decode cX10_addCard 26 = .ok (.getfield 27, 3) := by decide +kernel
theorem dX10_addCard_29 : decode cX10_addCard 29 = .ok (.putfield 27, 3) := by decide +kernel
theorem dX10_addCard_32 : decode cX10_addCard 32 = .ok (.aload_n 0, 1) := by decide +kernel
theorem dX10_addCard_33 : decode cX10_addCard 33 = .ok (.dup, 1) := by decide +kernel
theorem dX10_addCard_34 : decode cX10_addCard 34 = .ok (.getfield 30, 3) := by decide +kernel
theorem dX10_addCard_37 : decode cX10_addCard 37 = .ok (.aload_n 1, 1) := by decide +kernel
theorem dX10_addCard_38 : decode cX10_addCard 38 = .ok (.getfield 30, 3) := by decide +kernel
theorem dX10_addCard_41 : decode cX10_addCard 41 = .ok (.iadd, 1) := by decide +kernel
theorem dX10_addCard_42 : decode cX10_addCard 42 = .ok (.putfield 30, 3) := by decide +kernel
theorem dX10_addCard_45 : decode cX10_addCard 45 = .ok (.aload_n 0, 1) := by decide +kernel
theorem dX10_addCard_46 : decode cX10_addCard 46 = .ok (.dup, 1) := by decide +kernel
theorem dX10_addCard_47 : decode cX10_addCard 47 = .ok (.getfield 33, 3) := by decide +kernel
theorem dX10_addCard_50 : decode cX10_addCard 50 = .ok (.aload_n 1, 1) := by decide +kernel
theorem dX10_addCard_51 : decode cX10_addCard 51 = .ok (.getfield 33, 3) := by decide +kernel
theorem dX10_addCard_54 : decode cX10_addCard 54 = .ok (.iadd, 1) := by decide +kernel
theorem dX10_addCard_55 : decode cX10_addCard 55 = .ok (.putfield 33, 3) := by decide +kernel
theorem dX10_addCard_58 : decode cX10_addCard 58 = .ok (.aload_n 0, 1) := by decide +kernel
theorem dX10_addCard_59 : decode cX10_addCard 59 = .ok (.dup, 1) := by decide +kernel
theorem dX10_addCard_60 : decode cX10_addCard 60 = .ok (.getfield 36, 3) := by decide +kernel
theorem dX10_addCard_63 : decode cX10_addCard 63 = .ok (.aload_n 1, 1) := by decide +kernel
theorem dX10_addCard_64 : decode cX10_addCard 64 = .ok (.getfield 36, 3) := by decide +kernel
theorem dX10_addCard_67 : decode cX10_addCard 67 = .ok (.iadd, 1) := by decide +kernel
theorem dX10_addCard_68 : decode cX10_addCard 68 = .ok (.putfield 36, 3) := by decide +kernel
theorem dX10_addCard_71 : decode cX10_addCard 71 = .ok (.return_, 1) := by decide +kernel
theorem dX10_overtimeBeyond_0 : decode cX10_overtimeBeyond 0 = .ok (.aload_n 0, 1) := by decide +kernel
theorem dX10_overtimeBeyond_1 : decode cX10_overtimeBeyond 1 = .ok (.getfield 33, 3) := by decide +kernel
theorem dX10_overtimeBeyond_4 : decode cX10_overtimeBeyond 4 = .ok (.iload_n 1, 1) := by decide +kernel
theorem dX10_overtimeBeyond_5 : decode cX10_overtimeBeyond 5 = .ok (.if_icmp .gt 5, 3) := by decide +kernel
theorem dX10_overtimeBeyond_8 : decode cX10_overtimeBeyond 8 = .ok (.iconst 0, 1) := by decide +kernel
theorem dX10_overtimeBeyond_9 : decode cX10_overtimeBeyond 9 = .ok (.ireturn, 1) := by decide +kernel
theorem dX10_overtimeBeyond_10 : decode cX10_overtimeBeyond 10 = .ok (.aload_n 0, 1) := by decide +kernel
theorem dX10_overtimeBeyond_11 : decode cX10_overtimeBeyond 11 = .ok (.getfield 33, 3) := by decide +kernel
theorem dX10_overtimeBeyond_14 : decode cX10_overtimeBeyond 14 = .ok (.iload_n 1, 1) := by decide +kernel
theorem dX10_overtimeBeyond_15 : decode cX10_overtimeBeyond 15 = .ok (.isub, 1) := by decide +kernel
theorem dX10_overtimeBeyond_16 : decode cX10_overtimeBeyond 16 = .ok (.i2l, 1) := by decide +kernel
theorem dX10_overtimeBeyond_17 : decode cX10_overtimeBeyond 17 = .ok (.aload_n 0, 1) := by decide +kernel
theorem dX10_overtimeBeyond_18 : decode cX10_overtimeBeyond 18 = .ok (.getfield 27, 3) := by decide +kernel
theorem dX10_overtimeBeyond_21 : decode cX10_overtimeBeyond 21 = .ok (.i2l, 1) := by decide +kernel
theorem dX10_overtimeBeyond_22 : decode cX10_overtimeBeyond 22 = .ok (.lmul, 1) := by decide +kernel
theorem dX10_overtimeBeyond_23 : decode cX10_overtimeBeyond 23 = .ok (.ldc2_w 49, 3) := by decide +kernel
theorem dX10_overtimeBeyond_26 : decode cX10_overtimeBeyond 26 = .ok (.ldiv, 1) := by decide +kernel
theorem dX10_overtimeBeyond_27 : decode cX10_overtimeBeyond 27 = .ok (.l2i, 1) := by decide +kernel
theorem dX10_overtimeBeyond_28 : decode cX10_overtimeBeyond 28 = .ok (.ireturn, 1) := by decide +kernel
theorem dX10_addOvertime_0 : decode cX10_addOvertime 0 = .ok (.aload_n 0, 1) := by decide +kernel
theorem dX10_addOvertime_1 : decode cX10_addOvertime 1 = .ok (.dup, 1) := by decide +kernel
theorem dX10_addOvertime_2 : decode cX10_addOvertime 2 = .ok (.getfield 36, 3) := by decide +kernel
theorem dX10_addOvertime_5 : decode cX10_addOvertime 5 = .ok (.iload_n 1, 1) := by decide +kernel
theorem dX10_addOvertime_6 : decode cX10_addOvertime 6 = .ok (.iadd, 1) := by decide +kernel
theorem dX10_addOvertime_7 : decode cX10_addOvertime 7 = .ok (.putfield 36, 3) := by decide +kernel
theorem dX10_addOvertime_10 : decode cX10_addOvertime 10 = .ok (.aload_n 0, 1) := by decide +kernel
theorem dX10_addOvertime_11 : decode cX10_addOvertime 11 = .ok (.dup, 1) := by decide +kernel
theorem dX10_addOvertime_12 : decode cX10_addOvertime 12 = .ok (.getfield 39, 3) := by decide +kernel
theorem dX10_addOvertime_15 : decode cX10_addOvertime 15 = .ok (.iload_n 1, 1) := by decide +kernel
theorem dX10_addOvertime_16 : decode cX10_addOvertime 16 = .ok (.iadd, 1) := by decide +kernel
theorem dX10_addOvertime_17 : decode cX10_addOvertime 17 = .ok (.putfield 39, 3) := by decide +kernel
theorem dX10_addOvertime_20 : decode cX10_addOvertime 20 = .ok (.return_, 1) := by decide +kernel
theorem dX11_init_0 : decode cX11_init 0 = .ok (.aload_n 0, 1) := by decide +kernel
theorem dX11_init_1 : decode cX11_init 1 = .ok (.invokespecial 3, 3) := by decide +kernel
theorem dX11_init_4 : decode cX11_init 4 = .ok (.aload_n 0, 1) := by decide +kernel
theorem dX11_init_5 : decode cX11_init 5 = .ok (.new 9, 3) := by decide +kernel
theorem dX11_init_8 : decode cX11_init 8 = .ok (.dup, 1) := by decide +kernel
theorem dX11_init_9 : decode cX11_init 9 = .ok (.invokespecial 11, 3) := by decide +kernel
theorem dX11_init_12 : decode cX11_init 12 = .ok (.putfield 12, 3) := by decide +kernel
theorem dX11_init_15 : decode cX11_init 15 = .ok (.aload_n 0, 1) := by decide +kernel
theorem dX11_init_16 : decode cX11_init 16 = .ok (.new 16, 3) := by decide +kernel
theorem dX11_init_19 : decode cX11_init 19 = .ok (.dup, 1) := by decide +kernel
theorem dX11_init_20 : decode cX11_init 20 = .ok (.invokespecial 18, 3) := by decide +kernel
theorem dX11_init_23 : decode cX11_init 23 = .ok (.putfield 19, 3) := by decide +kernel
theorem dX11_init_26 : decode cX11_init 26 = .ok (.aload_n 0, 1) := by decide +kernel
theorem dX11_init_27 : decode cX11_init 27 = .ok (.iconst 2, 1) := by decide +kernel
theorem dX11_init_28 : decode cX11_init 28 = .ok (.anewarray 9, 3) := by decide +kernel
theorem dX11_init_31 : decode cX11_init 31 = .ok (.putfield 23, 3) := by decide +kernel
theorem dX11_init_34 : decode cX11_init 34 = .ok (.aload_n 0, 1) := by decide +kernel
theorem dX11_init_35 : decode cX11_init 35 = .ok (.new 27, 3) := by decide +kernel
theorem dX11_init_38 : decode cX11_init 38 = .ok (.dup, 1) := by decide +kernel
theorem dX11_init_39 : decode cX11_init 39 = .ok (.invokespecial 29, 3) := by decide +kernel
theorem dX11_init_42 : decode cX11_init 42 = .ok (.putfield 30, 3) := by decide +kernel
theorem dX11_init_45 : decode cX11_init 45 = .ok (.aload_n 0, 1) := by decide +kernel
theorem dX11_init_46 : decode cX11_init 46 = .ok (.new 34, 3) := by decide +kernel
theorem dX11_init_49 : decode cX11_init 49 = .ok (.dup, 1) := by decide +kernel
theorem dX11_init_50 : decode cX11_init 50 = .ok (.invokespecial 36, 3) := by decide +kernel
theorem dX11_init_53 : decode cX11_init 53 = .ok (.putfield 37, 3) := by decide +kernel
theorem dX11_init_56 : decode cX11_init 56 = .ok (.aload_n 0, 1) := by decide +kernel
theorem dX11_init_57 : decode cX11_init 57 = .ok (.new 41, 3) := by decide +kernel
theorem dX11_init_60 : decode cX11_init 60 = .ok (.dup, 1) := by decide +kernel
theorem dX11_init_61 : decode cX11_init 61 = .ok (.invokespecial 43, 3) := by decide +kernel
theorem dX11_init_64 : decode cX11_init 64 = .ok (.putfield 44, 3) := by decide +kernel
theorem dX11_init_67 : decode cX11_init 67 = .ok (.aload_n 0, 1) := by decide +kernel
theorem dX11_init_68 : decode cX11_init 68 = .ok (.new 48, 3) := by decide +kernel
theorem dX11_init_71 : decode cX11_init 71 = .ok (.dup, 1) := by decide +kernel
theorem dX11_init_72 : decode cX11_init 72 = .ok (.invokespecial 50, 3) := by decide +kernel
theorem dX11_init_75 : decode cX11_init 75 = .ok (.putfield 51, 3) := by decide +kernel
theorem dX11_init_78 : decode cX11_init 78 = .ok (.aload_n 0, 1) := by decide +kernel
theorem dX11_init_79 : decode cX11_init 79 = .ok (.new 55, 3) := by decide +kernel
theorem dX11_init_82 : decode cX11_init 82 = .ok (.dup, 1) := by decide +kernel
theorem dX11_init_83 : decode cX11_init 83 = .ok (.invokespecial 57, 3) := by decide +kernel
theorem dX11_init_86 : decode cX11_init 86 = .ok (.putfield 58, 3) := by decide +kernel
theorem dX11_init_89 : decode cX11_init 89 = .ok (.aload_n 0, 1) := by decide +kernel
theorem dX11_init_90 : decode cX11_init 90 = .ok (.new 62, 3) := by decide +kernel
theorem dX11_init_93 : decode cX11_init 93 = .ok (.dup, 1) := by decide +kernel
theorem dX11_init_94 : decode cX11_init 94 = .ok (.invokespecial 64, 3) := by decide +kernel
theorem dX11_init_97 : decode cX11_init 97 = .ok (.putfield 65, 3) := by decide +kernel
theorem dX11_init_100 : decode cX11_init 100 = .ok (.return_, 1) := by decide +kernel
theorem dX11_lay_0 : decode cX11_lay 0 = .ok (.iload_n 1, 1) := by decide +kernel
theorem dX11_lay_1 : decode cX11_lay 1 = .ok (.invokestatic 69, 3) := by decide +kernel
theorem dX11_lay_4 : decode cX11_lay 4 = .ok (.ifCond .eq 12, 3) := by decide +kernel
theorem dX11_lay_7 : decode cX11_lay 7 = .ok (.iload_n 1, 1) := by decide +kernel
theorem dX11_lay_8 : decode cX11_lay 8 = .ok (.iload_n 2, 1) := by decide +kernel
theorem dX11_lay_9 : decode cX11_lay 9 = .ok (.iload_n 3, 1) := by decide +kernel
theorem dX11_lay_10 : decode cX11_lay 10 = .ok (.invokestatic 73, 3) := by decide +kernel
theorem dX11_lay_13 : decode cX11_lay 13 = .ok (.ifCond .ne 6, 3) := by decide +kernel
theorem dX11_lay_16 : decode cX11_lay 16 = .ok (.ldc 77, 2) := by decide +kernel
theorem dX11_lay_18 : decode cX11_lay 18 = .ok (.ireturn, 1) := by decide +kernel
theorem dX11_lay_19 : decode cX11_lay 19 = .ok (.aload_n 0, 1) := by decide +kernel
theorem dX11_lay_20 : decode cX11_lay 20 = .ok (.getfield 19, 3) := by decide +kernel
theorem dX11_lay_23 : decode cX11_lay 23 = .ok (.aload_n 0, 1) := by decide +kernel
theorem dX11_lay_24 : decode cX11_lay 24 = .ok (.getfield 12, 3) := by decide +kernel
theorem dX11_lay_27 : decode cX11_lay 27 = .ok (.invokevirtual 78, 3) := by decide +kernel
theorem dX11_lay_30 : decode cX11_lay 30 = .ok (.aload_n 0, 1) := by decide +kernel
theorem dX11_lay_31 : decode cX11_lay 31 = .ok (.getfield 12, 3) := by decide +kernel
theorem dX11_lay_34 : decode cX11_lay 34 = .ok (.getfield 82, 3) := by decide +kernel
theorem dX11_lay_37 : decode cX11_lay 37 = .ok (.iload_n 1, 1) := by decide +kernel
theorem dX11_lay_38 : decode cX11_lay 38 = .ok (.invokevirtual 86, 3) := by decide +kernel
