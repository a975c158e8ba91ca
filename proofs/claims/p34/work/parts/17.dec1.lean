theorem dX0_init_0 : decode cX0_init 0 = .ok (.aload_n 0, 1) := by decide +kernel
theorem dX0_init_1 : decode cX0_init 1 = .ok (.invokespecial 3, 3) := by decide +kernel
theorem dX0_init_4 : decode cX0_init 4 = .ok (.aload_n 0, 1) := by decide +kernel
theorem dX0_init_5 : decode cX0_init 5 = .ok (.bipush 24, 2) := by decide +kernel
theorem dX0_init_7 : decode cX0_init 7 = .ok (.newarray .int, 2) := by decide +kernel
theorem dX0_init_9 : decode cX0_init 9 = .ok (.putfield 9, 3) := by decide +kernel
theorem dX0_init_12 : decode cX0_init 12 = .ok (.aload_n 0, 1) := by decide +kernel
theorem dX0_init_13 : decode cX0_init 13 = .ok (.invokevirtual 15, 3) := by decide +kernel
theorem dX0_init_16 : decode cX0_init 16 = .ok (.return_, 1) := by decide +kernel
theorem dX0_clear_0 : decode cX0_clear 0 = .ok (.iconst 0, 1) := by decide +kernel
theorem dX0_clear_1 : decode cX0_clear 1 = .ok (.istore_n 1, 1) := by decide +kernel
theorem dX0_clear_2 : decode cX0_clear 2 = .ok (.iload_n 1, 1) := by decide +kernel
theorem dX0_clear_3 : decode cX0_clear 3 = .ok (.bipush 24, 2) := by decide +kernel
theorem dX0_clear_5 : decode cX0_clear 5 = .ok (.if_icmp .ge 17, 3) := by decide +kernel
theorem dX0_clear_8 : decode cX0_clear 8 = .ok (.aload_n 0, 1) := by decide +kernel
theorem dX0_clear_9 : decode cX0_clear 9 = .ok (.getfield 9, 3) := by decide +kernel
theorem dX0_clear_12 : decode cX0_clear 12 = .ok (.iload_n 1, 1) := by decide +kernel
theorem dX0_clear_13 : decode cX0_clear 13 = .ok (.ldc 18, 2) := by decide +kernel
theorem dX0_clear_15 : decode cX0_clear 15 = .ok (.iastore, 1) := by decide +kernel
theorem dX0_clear_16 : decode cX0_clear 16 = .ok (.iinc 1 1, 3) := by decide +kernel
theorem dX0_clear_19 : decode cX0_clear 19 = .ok (.goto (-17), 3) := by decide +kernel
theorem dX0_clear_22 : decode cX0_clear 22 = .ok (.aload_n 0, 1) := by decide +kernel
theorem dX0_clear_23 : decode cX0_clear 23 = .ok (.iconst 0, 1) := by decide +kernel
theorem dX0_clear_24 : decode cX0_clear 24 = .ok (.putfield 19, 3) := by decide +kernel
theorem dX0_clear_27 : decode cX0_clear 27 = .ok (.aload_n 0, 1) := by decide +kernel
theorem dX0_clear_28 : decode cX0_clear 28 = .ok (.iconst 0, 1) := by decide +kernel
theorem dX0_clear_29 : decode cX0_clear 29 = .ok (.putfield 23, 3) := by decide +kernel
theorem dX0_clear_32 : decode cX0_clear 32 = .ok (.return_, 1) := by decide +kernel
theorem dX0_shows_0 : decode cX0_shows 0 = .ok (.iload_n 1, 1) := by decide +kernel
theorem dX0_shows_1 : decode cX0_shows 1 = .ok (.invokestatic 26, 3) := by decide +kernel
theorem dX0_shows_4 : decode cX0_shows 4 = .ok (.ifCond .eq 12, 3) := by decide +kernel
theorem dX0_shows_7 : decode cX0_shows 7 = .ok (.aload_n 0, 1) := by decide +kernel
theorem dX0_shows_8 : decode cX0_shows 8 = .ok (.getfield 9, 3) := by decide +kernel
theorem dX0_shows_11 : decode cX0_shows 11 = .ok (.iload_n 1, 1) := by decide +kernel
theorem dX0_shows_12 : decode cX0_shows 12 = .ok (.iaload, 1) := by decide +kernel
theorem dX0_shows_13 : decode cX0_shows 13 = .ok (.goto 5, 3) := by decide +kernel
theorem dX0_shows_16 : decode cX0_shows 16 = .ok (.ldc 18, 2) := by decide +kernel
theorem dX0_shows_18 : decode cX0_shows 18 = .ok (.ireturn, 1) := by decide +kernel
theorem dX0_show_0 : decode cX0_show 0 = .ok (.iload_n 1, 1) := by decide +kernel
theorem dX0_show_1 : decode cX0_show 1 = .ok (.invokestatic 26, 3) := by decide +kernel
theorem dX0_show_4 : decode cX0_show 4 = .ok (.ifCond .eq 10, 3) := by decide +kernel
theorem dX0_show_7 : decode cX0_show 7 = .ok (.aload_n 0, 1) := by decide +kernel
theorem dX0_show_8 : decode cX0_show 8 = .ok (.getfield 9, 3) := by decide +kernel
theorem dX0_show_11 : decode cX0_show 11 = .ok (.iload_n 1, 1) := by decide +kernel
theorem dX0_show_12 : decode cX0_show 12 = .ok (.iload_n 2, 1) := by decide +kernel
theorem dX0_show_13 : decode cX0_show 13 = .ok (.iastore, 1) := by decide +kernel
theorem dX0_show_14 : decode cX0_show 14 = .ok (.return_, 1) := by decide +kernel
theorem dX0_readFrom_0 : decode cX0_readFrom 0 = .ok (.aload_n 0, 1) := by decide +kernel
theorem dX0_readFrom_1 : decode cX0_readFrom 1 = .ok (.aload_n 1, 1) := by decide +kernel
theorem dX0_readFrom_2 : decode cX0_readFrom 2 = .ok (.invokevirtual 30, 3) := by decide +kernel
theorem dX0_readFrom_5 : decode cX0_readFrom 5 = .ok (.aload_n 1, 1) := by decide +kernel
theorem dX0_readFrom_6 : decode cX0_readFrom 6 = .ok (.getfield 19, 3) := by decide +kernel
theorem dX0_readFrom_9 : decode cX0_readFrom 9 = .ok (.iconst 2, 1) := by decide +kernel
theorem dX0_readFrom_10 : decode cX0_readFrom 10 = .ok (.if_icmp .ne 26, 3) := by decide +kernel
theorem dX0_readFrom_13 : decode cX0_readFrom 13 = .ok (.aload_n 1, 1) := by decide +kernel
theorem dX0_readFrom_14 : decode cX0_readFrom 14 = .ok (.getfield 9, 3) := by decide +kernel
theorem dX0_readFrom_17 : decode cX0_readFrom 17 = .ok (.iconst 1, 1) := by decide +kernel
theorem dX0_readFrom_18 : decode cX0_readFrom 18 = .ok (.aload_n 0, 1) := by decide +kernel
theorem dX0_readFrom_19 : decode cX0_readFrom 19 = .ok (.getfield 9, 3) := by decide +kernel
theorem dX0_readFrom_22 : decode cX0_readFrom 22 = .ok (.iconst 0, 1) := by decide +kernel
theorem dX0_readFrom_23 : decode cX0_readFrom 23 = .ok (.bipush 23, 2) := by decide +kernel
theorem dX0_readFrom_25 : decode cX0_readFrom 25 = .ok (.invokestatic 34, 3) := by decide +kernel
theorem dX0_readFrom_28 : decode cX0_readFrom 28 = .ok (.aload_n 0, 1) := by decide +kernel
theorem dX0_readFrom_29 : decode cX0_readFrom 29 = .ok (.bipush 23, 2) := by decide +kernel
theorem dX0_readFrom_31 : decode cX0_readFrom 31 = .ok (.ldc 18, 2) := by decide +kernel
theorem dX0_readFrom_33 : decode cX0_readFrom 33 = .ok (.invokevirtual 40, 3) := by decide +kernel
theorem dX0_readFrom_36 : decode cX0_readFrom 36 = .ok (.aload_n 1, 1) := by decide +kernel
theorem dX0_readFrom_37 : decode cX0_readFrom 37 = .ok (.getfield 19, 3) := by decide +kernel
theorem dX0_readFrom_40 : decode cX0_readFrom 40 = .ok (.iconst 3, 1) := by decide +kernel
theorem dX0_readFrom_41 : decode cX0_readFrom 41 = .ok (.if_icmp .ne 13, 3) := by decide +kernel
theorem dX0_readFrom_44 : decode cX0_readFrom 44 = .ok (.aload_n 0, 1) := by decide +kernel
theorem dX0_readFrom_45 : decode cX0_readFrom 45 = .ok (.aload_n 1, 1) := by decide +kernel
theorem dX0_readFrom_46 : decode cX0_readFrom 46 = .ok (.getfield 23, 3) := by decide +kernel
theorem dX0_readFrom_49 : decode cX0_readFrom 49 = .ok (.ldc 18, 2) := by decide +kernel
theorem dX0_readFrom_51 : decode cX0_readFrom 51 = .ok (.invokevirtual 40, 3) := by decide +kernel
theorem dX0_readFrom_54 : decode cX0_readFrom 54 = .ok (.return_, 1) := by decide +kernel
theorem dX0_copyFrom_0 : decode cX0_copyFrom 0 = .ok (.aload_n 1, 1) := by decide +kernel
theorem dX0_copyFrom_1 : decode cX0_copyFrom 1 = .ok (.getfield 9, 3) := by decide +kernel
theorem dX0_copyFrom_4 : decode cX0_copyFrom 4 = .ok (.iconst 0, 1) := by decide +kernel
theorem dX0_copyFrom_5 : decode cX0_copyFrom 5 = .ok (.aload_n 0, 1) := by decide +kernel
theorem dX0_copyFrom_6 : decode cX0_copyFrom 6 = .ok (.getfield 9, 3) := by decide +kernel
theorem dX0_copyFrom_9 : decode cX0_copyFrom 9 = .ok (.iconst 0, 1) := by decide +kernel
theorem dX0_copyFrom_10 : decode cX0_copyFrom 10 = .ok (.bipush 24, 2) := by decide +kernel
theorem dX0_copyFrom_12 : decode cX0_copyFrom 12 = .ok (.invokestatic 34, 3) := by decide +kernel
theorem dX0_copyFrom_15 : decode cX0_copyFrom 15 = .ok (.aload_n 0, 1) := by decide +kernel
theorem dX0_copyFrom_16 : decode cX0_copyFrom 16 = .ok (.aload_n 1, 1) := by decide +kernel
theorem dX0_copyFrom_17 : decode cX0_copyFrom 17 = .ok (.getfield 19, 3) := by decide +kernel
theorem dX0_copyFrom_20 : decode cX0_copyFrom 20 = .ok (.putfield 19, 3) := by decide +kernel
theorem dX0_copyFrom_23 : decode cX0_copyFrom 23 = .ok (.aload_n 0, 1) := by decide +kernel
theorem dX0_copyFrom_24 : decode cX0_copyFrom 24 = .ok (.aload_n 1, 1) := by decide +kernel
theorem dX0_copyFrom_25 : decode cX0_copyFrom 25 = .ok (.getfield 23, 3) := by decide +kernel
theorem dX0_copyFrom_28 : decode cX0_copyFrom 28 = .ok (.putfield 23, 3) := by decide +kernel
theorem dX0_copyFrom_31 : decode cX0_copyFrom 31 = .ok (.return_, 1) := by decide +kernel
theorem dX1_init_0 : decode cX1_init 0 = .ok (.aload_n 0, 1) := by decide +kernel
theorem dX1_init_1 : decode cX1_init 1 = .ok (.invokespecial 3, 3) := by decide +kernel
theorem dX1_init_4 : decode cX1_init 4 = .ok (.aload_n 0, 1) := by decide +kernel
theorem dX1_init_5 : decode cX1_init 5 = .ok (.bipush 40, 2) := by decide +kernel
theorem dX1_init_7 : decode cX1_init 7 = .ok (.anewarray 9, 3) := by decide +kernel
theorem dX1_init_10 : decode cX1_init 10 = .ok (.putfield 11, 3) := by decide +kernel
theorem dX1_init_13 : decode cX1_init 13 = .ok (.aload_n 0, 1) := by decide +kernel
theorem dX1_init_14 : decode cX1_init 14 = .ok (.new 9, 3) := by decide +kernel
theorem dX1_init_17 : decode cX1_init 17 = .ok (.dup, 1) := by decide +kernel
theorem dX1_init_18 : decode cX1_init 18 = .ok (.invokespecial 17, 3) := by decide +kernel
theorem dX1_init_21 : decode cX1_init 21 = .ok (.putfield 18, 3) := by decide +kernel
theorem dX1_init_24 : decode cX1_init 24 = .ok (.iconst 0, 1) := by decide +kernel
theorem dX1_init_25 : decode cX1_init 25 = .ok (.istore_n 1, 1) := by decide +kernel
theorem dX1_init_26 : decode cX1_init 26 = .ok (.iload_n 1, 1) := by decide +kernel
theorem dX1_init_27 : decode cX1_init 27 = .ok (.bipush 40, 2) := by decide +kernel
theorem dX1_init_29 : decode cX1_init 29 = .ok (.if_icmp .ge 22, 3) := by decide +kernel
theorem dX1_init_32 : decode cX1_init 32 = .ok (.aload_n 0, 1) := by decide +kernel
theorem dX1_init_33 : decode cX1_init 33 = .ok (.getfield 11, 3) := by decide +kernel
theorem dX1_init_36 : decode cX1_init 36 = .ok (.iload_n 1, 1) := by decide +kernel
theorem dX1_init_37 : decode cX1_init 37 = .ok (.new 9, 3) := by decide +kernel
theorem dX1_init_40 : decode cX1_init 40 = .ok (.dup, 1) := by decide +kernel
theorem dX1_init_41 : decode cX1_init 41 = .ok (.invokespecial 17, 3) := by decide +kernel
theorem dX1_init_44 : decode cX1_init 44 = .ok (.aastore, 1) := by decide +kernel
theorem dX1_init_45 : decode cX1_init 45 = .ok (.iinc 1 1, 3) := by decide +kernel
theorem dX1_init_48 : decode cX1_init 48 = .ok (.goto (-22), 3) := by decide +kernel
theorem dX1_init_51 : decode cX1_init 51 = .ok (.return_, 1) := by decide +kernel
theorem dX1_size_0 : decode cX1_size 0 = .ok (.aload_n 0, 1) := by decide +kernel
theorem dX1_size_1 : decode cX1_size 1 = .ok (.getfield 22, 3) := by decide +kernel
theorem dX1_size_4 : decode cX1_size 4 = .ok (.ireturn, 1) := by decide +kernel
theorem dX1_has_0 : decode cX1_has 0 = .ok (.iload_n 1, 1) := by decide +kernel
theorem dX1_has_1 : decode cX1_has 1 = .ok (.ifCond .lt 15, 3) := by decide +kernel
theorem dX1_has_4 : decode cX1_has 4 = .ok (.iload_n 1, 1) := by decide +kernel
theorem dX1_has_5 : decode cX1_has 5 = .ok (.aload_n 0, 1) := by decide +kernel
theorem dX1_has_6 : decode cX1_has 6 = .ok (.getfield 22, 3) := by decide +kernel
theorem dX1_has_9 : decode cX1_has 9 = .ok (.if_icmp .ge 7, 3) := by decide +kernel
theorem dX1_has_12 : decode cX1_has 12 = .ok (.iconst 1, 1) := by decide +kernel
theorem dX1_has_13 : decode cX1_has 13 = .ok (.goto 4, 3) := by decide +kernel
theorem dX1_has_16 : decode cX1_has 16 = .ok (.iconst 0, 1) := by decide +kernel
theorem dX1_has_17 : decode cX1_has 17 = .ok (.ireturn, 1) := by decide +kernel
theorem dX1_at_0 : decode cX1_at 0 = .ok (.iload_n 1, 1) := by decide +kernel
theorem dX1_at_1 : decode cX1_at 1 = .ok (.ifCond .lt 18, 3) := by decide +kernel
theorem dX1_at_4 : decode cX1_at 4 = .ok (.iload_n 1, 1) := by decide +kernel
theorem dX1_at_5 : decode cX1_at 5 = .ok (.bipush 40, 2) := by decide +kernel
theorem dX1_at_7 : decode cX1_at 7 = .ok (.if_icmp .ge 12, 3) := by decide +kernel
theorem dX1_at_10 : decode cX1_at 10 = .ok (.aload_n 0, 1) := by decide +kernel
theorem dX1_at_11 : decode cX1_at 11 = .ok (.getfield 11, 3) := by decide +kernel
theorem dX1_at_14 : decode cX1_at 14 = .ok (.iload_n 1, 1) := by decide +kernel
theorem dX1_at_15 : decode cX1_at 15 = .ok (.aaload, 1) := by decide +kernel
theorem dX1_at_16 : decode cX1_at 16 = .ok (.goto 4, 3) := by decide +kernel
theorem dX1_at_19 : decode cX1_at 19 = .ok (.aconst_null, 1) := by decide +kernel
theorem dX1_at_20 : decode cX1_at 20 = .ok (.astore_n 2, 1) := by decide +kernel
theorem dX1_at_21 : decode cX1_at 21 = .ok (.aload_n 2, 1) := by decide +kernel
theorem dX1_at_22 : decode cX1_at 22 = .ok (.ifnonnull 10, 3) := by decide +kernel
theorem dX1_at_25 : decode cX1_at 25 = .ok (.aload_n 0, 1) := by decide +kernel
theorem dX1_at_26 : decode cX1_at 26 = .ok (.getfield 18, 3) := by decide +kernel
theorem dX1_at_29 : decode cX1_at 29 = .ok (.goto 4, 3) := by decide +kernel
theorem dX1_at_32 : decode cX1_at 32 = .ok (.aload_n 2, 1) := by decide +kernel
theorem dX1_at_33 : decode cX1_at 33 = .ok (.areturn, 1) := by decide +kernel
theorem dX1_put_0 : decode cX1_put 0 = .ok (.iload_n 1, 1) := by decide +kernel
theorem dX1_put_1 : decode cX1_put 1 = .ok (.ifCond .lt 16, 3) := by decide +kernel
theorem dX1_put_4 : decode cX1_put 4 = .ok (.iload_n 1, 1) := by decide +kernel
theorem dX1_put_5 : decode cX1_put 5 = .ok (.bipush 40, 2) := by decide +kernel
theorem dX1_put_7 : decode cX1_put 7 = .ok (.if_icmp .ge 10, 3) := by decide +kernel
theorem dX1_put_10 : decode cX1_put 10 = .ok (.aload_n 0, 1) := by decide +kernel
theorem dX1_put_11 : decode cX1_put 11 = .ok (.getfield 11, 3) := by decide +kernel
theorem dX1_put_14 : decode cX1_put 14 = .ok (.iload_n 1, 1) := by decide +kernel
theorem dX1_put_15 : decode cX1_put 15 = .ok (.aload_n 2, 1) := by decide +kernel
theorem dX1_put_16 : decode cX1_put 16 = .ok (.aastore, 1) := by decide +kernel
theorem dX1_put_17 : decode cX1_put 17 = .ok (.return_, 1) := by decide +kernel
theorem dX1_insertBlank_0 : decode cX1_insertBlank 0 = .ok (.aload_n 0, 1) := by decide +kernel
theorem dX1_insertBlank_1 : decode cX1_insertBlank 1 = .ok (.getfield 22, 3) := by decide +kernel
theorem dX1_insertBlank_4 : decode cX1_insertBlank 4 = .ok (.bipush 40, 2) := by decide +kernel
theorem dX1_insertBlank_6 : decode cX1_insertBlank 6 = .ok (.if_icmp .lt 8, 3) := by decide +kernel
theorem dX1_insertBlank_9 : decode cX1_insertBlank 9 = .ok (.aload_n 0, 1) := by decide +kernel
theorem dX1_insertBlank_10 : decode cX1_insertBlank 10 = .ok (.getfield 18, 3) := by decide +kernel
theorem dX1_insertBlank_13 : decode cX1_insertBlank 13 = .ok (.areturn, 1) := by decide +kernel
theorem dX1_insertBlank_14 : decode cX1_insertBlank 14 = .ok (.aload_n 0, 1) := by decide +kernel
theorem dX1_insertBlank_15 : decode cX1_insertBlank 15 = .ok (.aload_n 0, 1) := by decide +kernel
theorem dX1_insertBlank_16 : decode cX1_insertBlank 16 = .ok (.getfield 22, 3) := by decide +kernel
theorem dX1_insertBlank_19 : decode cX1_insertBlank 19 = .ok (.invokevirtual 26, 3) := by decide +kernel
theorem dX1_insertBlank_22 : decode cX1_insertBlank 22 = .ok (.astore_n 2, 1) := by decide +kernel
theorem dX1_insertBlank_23 : decode cX1_insertBlank 23 = .ok (.aload_n 2, 1) := by decide +kernel
theorem dX1_insertBlank_24 : decode cX1_insertBlank 24 = .ok (.invokevirtual 30, 3) := by decide +kernel
theorem dX1_insertBlank_27 : decode cX1_insertBlank 27 = .ok (.aload_n 0, 1) := by decide +kernel
theorem dX1_insertBlank_28 : decode cX1_insertBlank 28 = .ok (.aload_n 0, 1) := by decide +kernel
theorem dX1_insertBlank_29 : decode cX1_insertBlank 29 = .ok (.getfield 22, 3) := by decide +kernel
theorem dX1_insertBlank_32 : decode cX1_insertBlank 32 = .ok (.iload_n 1, 1) := by decide +kernel
theorem dX1_insertBlank_33 : decode cX1_insertBlank 33 = .ok (.invokevirtual 33, 3) := by decide +kernel
theorem dX1_insertBlank_36 : decode cX1_insertBlank 36 = .ok (.aload_n 0, 1) := by decide +kernel
theorem dX1_insertBlank_37 : decode cX1_insertBlank 37 = .ok (.dup, 1) := by decide +kernel
theorem dX1_insertBlank_38 : decode cX1_insertBlank 38 = .ok (.getfield 22, 3) := by decide +kernel
theorem dX1_insertBlank_41 : decode cX1_insertBlank 41 = .ok (.iconst 1, 1) := by decide +kernel
theorem dX1_insertBlank_42 : decode cX1_insertBlank 42 = .ok (.iadd, 1) := by decide +kernel
theorem dX1_insertBlank_43 : decode cX1_insertBlank 43 = .ok (.putfield 22, 3) := by decide +kernel
theorem dX1_insertBlank_46 : decode cX1_insertBlank 46 = .ok (.aload_n 2, 1) := by decide +kernel
theorem dX1_insertBlank_47 : decode cX1_insertBlank 47 = .ok (.areturn, 1) := by decide +kernel
theorem dX1_remove_0 : decode cX1_remove 0 = .ok (.aload_n 0, 1) := by decide +kernel
theorem dX1_remove_1 : decode cX1_remove 1 = .ok (.iload_n 1, 1) := by decide +kernel
theorem dX1_remove_2 : decode cX1_remove 2 = .ok (.invokevirtual 37, 3) := by decide +kernel
theorem dX1_remove_5 : decode cX1_remove 5 = .ok (.ifCond .eq 24, 3) := by decide +kernel
theorem dX1_remove_8 : decode cX1_remove 8 = .ok (.aload_n 0, 1) := by decide +kernel
theorem dX1_remove_9 : decode cX1_remove 9 = .ok (.iload_n 1, 1) := by decide +kernel
theorem dX1_remove_10 : decode cX1_remove 10 = .ok (.aload_n 0, 1) := by decide +kernel
theorem dX1_remove_11 : decode cX1_remove 11 = .ok (.getfield 22, 3) := by decide +kernel
theorem dX1_remove_14 : decode cX1_remove 14 = .ok (.iconst 1, 1) := by decide +kernel
theorem dX1_remove_15 : decode cX1_remove 15 = .ok (.isub, 1) := by decide +kernel
theorem dX1_remove_16 : decode cX1_remove 16 = .ok (.invokevirtual 33, 3) := by decide +kernel
theorem dX1_remove_19 : decode cX1_remove 19 = .ok (.aload_n 0, 1) := by decide +kernel
theorem dX1_remove_20 : decode cX1_remove 20 = .ok (.dup, 1) := by decide +kernel
theorem dX1_remove_21 : decode cX1_remove 21 = .ok (.getfield 22, 3) := by decide +kernel
theorem dX1_remove_24 : decode cX1_remove 24 = .ok (.iconst 1, 1) := by decide +kernel
theorem dX1_remove_25 : decode cX1_remove 25 = .ok (.isub, 1) := by decide +kernel
theorem dX1_remove_26 : decode cX1_remove 26 = .ok (.putfield 22, 3) := by decide +kernel
theorem dX1_remove_29 : decode cX1_remove 29 = .ok (.return_, 1) := by decide +kernel
theorem dX1_carry_0 : decode cX1_carry 0 = .ok (.aload_n 0, 1) := by decide +kernel
theorem dX1_carry_1 : decode cX1_carry 1 = .ok (.iload_n 1, 1) := by decide +kernel
theorem dX1_carry_2 : decode cX1_carry 2 = .ok (.invokevirtual 26, 3) := by decide +kernel
theorem dX1_carry_5 : decode cX1_carry 5 = .ok (.astore_n 3, 1) := by decide +kernel
theorem dX1_carry_6 : decode cX1_carry 6 = .ok (.iload_n 1, 1) := by decide +kernel
theorem dX1_carry_7 : decode cX1_carry 7 = .ok (.istore 4, 2) := by decide +kernel
theorem dX1_carry_9 : decode cX1_carry 9 = .ok (.iload 4, 2) := by decide +kernel
theorem dX1_carry_11 : decode cX1_carry 11 = .ok (.iload_n 2, 1) := by decide +kernel
theorem dX1_carry_12 : decode cX1_carry 12 = .ok (.if_icmp .ge 23, 3) := by decide +kernel
theorem dX1_carry_15 : decode cX1_carry 15 = .ok (.aload_n 0, 1) := by decide +kernel
theorem dX1_carry_16 : decode cX1_carry 16 = .ok (.iload 4, 2) := by decide +kernel
theorem dX1_carry_18 : decode cX1_carry 18 = .ok (.aload_n 0, 1) := by decide +kernel
theorem dX1_carry_19 : decode cX1_carry 19 = .ok (.iload 4, 2) := by decide +kernel
theorem dX1_carry_21 : decode cX1_carry 21 = .ok (.iconst 1, 1) := by decide +kernel
theorem dX1_carry_22 : decode cX1_carry 22 = .ok (.iadd, 1) := by decide +kernel
theorem dX1_carry_23 : decode cX1_carry 23 = .ok (.invokevirtual 26, 3) := by decide +kernel
theorem dX1_carry_26 : decode cX1_carry 26 = .ok (.invokevirtual 41, 3) := by decide +kernel
theorem dX1_carry_29 : decode cX1_carry 29 = .ok (.iinc 4 1, 3) := by decide +kernel
theorem dX1_carry_32 : decode cX1_carry 32 = .ok (.goto (-23), 3) := by decide +kernel
theorem dX1_carry_35 : decode cX1_carry 35 = .ok (.iload_n 1, 1) := by decide +kernel
theorem dX1_carry_36 : decode cX1_carry 36 = .ok (.istore 4, 2) := by decide +kernel
theorem dX1_carry_38 : decode cX1_carry 38 = .ok (.iload 4, 2) := by decide +kernel
theorem dX1_carry_40 : decode cX1_carry 40 = .ok (.iload_n 2, 1) := by decide +kernel
theorem dX1_carry_41 : decode cX1_carry 41 = .ok (.if_icmp .le 23, 3) := by decide +kernel
theorem dX1_carry_44 : decode cX1_carry 44 = .ok (.aload_n 0, 1) := by decide +kernel
theorem dX1_carry_45 : decode cX1_carry 45 = .ok (.iload 4, 2) := by decide +kernel
theorem dX1_carry_47 : decode cX1_carry 47 = .ok (.aload_n 0, 1) := by decide +kernel
theorem dX1_carry_48 : decode cX1_carry 48 = .ok (.iload 4, 2) := by decide +kernel
theorem dX1_carry_50 : decode cX1_carry 50 = .ok (.iconst 1, 1) := by decide +kernel
theorem dX1_carry_51 : decode cX1_carry 51 = .ok (.isub, 1) := by decide +kernel
theorem dX1_carry_52 : decode cX1_carry 52 = .ok (.invokevirtual 26, 3) := by decide +kernel
theorem dX1_carry_55 : decode cX1_carry 55 = .ok (.invokevirtual 41, 3) := by decide +kernel
theorem dX1_carry_58 : decode cX1_carry 58 = .ok (.iinc 4 (-1), 3) := by decide +kernel
theorem dX1_carry_61 : decode cX1_carry 61 = .ok (.goto (-23), 3) := by decide +kernel
theorem dX1_carry_64 : decode cX1_carry 64 = .ok (.aload_n 0, 1) := by decide +kernel
theorem dX1_carry_65 : decode cX1_carry 65 = .ok (.iload_n 2, 1) := by decide +kernel
theorem dX1_carry_66 : decode cX1_carry 66 = .ok (.aload_n 3, 1) := by decide +kernel
theorem dX1_carry_67 : decode cX1_carry 67 = .ok (.invokevirtual 41, 3) := by decide +kernel
theorem dX1_carry_70 : decode cX1_carry 70 = .ok (.return_, 1) := by decide +kernel
theorem dX1_copyFrom_0 : decode cX1_copyFrom 0 = .ok (.aload_n 0, 1) := by decide +kernel
theorem dX1_copyFrom_1 : decode cX1_copyFrom 1 = .ok (.aload_n 1, 1) := by decide +kernel
theorem dX1_copyFrom_2 : decode cX1_copyFrom 2 = .ok (.getfield 22, 3) := by decide +kernel
theorem dX1_copyFrom_5 : decode cX1_copyFrom 5 = .ok (.putfield 22, 3) := by decide +kernel
theorem dX1_copyFrom_8 : decode cX1_copyFrom 8 = .ok (.iconst 0, 1) := by decide +kernel
theorem dX1_copyFrom_9 : decode cX1_copyFrom 9 = .ok (.istore_n 2, 1) := by decide +kernel
theorem dX1_copyFrom_10 : decode cX1_copyFrom 10 = .ok (.iload_n 2, 1) := by decide +kernel
theorem dX1_copyFrom_11 : decode cX1_copyFrom 11 = .ok (.aload_n 0, 1) := by decide +kernel
theorem dX1_copyFrom_12 : decode cX1_copyFrom 12 = .ok (.getfield 22, 3) := by decide +kernel
theorem dX1_copyFrom_15 : decode cX1_copyFrom 15 = .ok (.if_icmp .ge 22, 3) := by decide +kernel
theorem dX1_copyFrom_18 : decode cX1_copyFrom 18 = .ok (.aload_n 0, 1) := by decide +kernel
theorem dX1_copyFrom_19 : decode cX1_copyFrom 19 = .ok (.iload_n 2, 1) := by decide +kernel
theorem dX1_copyFrom_20 : decode cX1_copyFrom 20 = .ok (.invokevirtual 26, 3) := by decide +kernel
theorem dX1_copyFrom_23 : decode cX1_copyFrom 23 = .ok (.aload_n 1, 1) := by decide +kernel
theorem dX1_copyFrom_24 : decode cX1_copyFrom 24 = .ok (.iload_n 2, 1) := by decide +kernel
theorem dX1_copyFrom_25 : decode cX1_copyFrom 25 = .ok (.invokevirtual 26, 3) := by decide +kernel
theorem dX1_copyFrom_28 : decode cX1_copyFrom 28 = .ok (.invokevirtual 45, 3) := by decide +kernel
theorem dX1_copyFrom_31 : decode cX1_copyFrom 31 = .ok (.iinc 2 1, 3) := by decide +kernel
theorem dX1_copyFrom_34 : decode cX1_copyFrom 34 = .ok (.goto (-24), 3) := by decide +kernel
theorem dX1_copyFrom_37 : decode cX1_copyFrom 37 = .ok (.return_, 1) := by decide +kernel
theorem dX2_init_0 : decode cX2_init 0 = .ok (.aload_n 0, 1) := by decide +kernel
theorem dX2_init_1 : decode cX2_init 1 = .ok (.invokespecial 3, 3) := by decide +kernel
theorem dX2_init_4 : decode cX2_init 4 = .ok (.aload_n 0, 1) := by decide +kernel
theorem dX2_init_5 : decode cX2_init 5 = .ok (.bipush 8, 2) := by decide +kernel
theorem dX2_init_7 : decode cX2_init 7 = .ok (.anewarray 9, 3) := by decide +kernel
theorem dX2_init_10 : decode cX2_init 10 = .ok (.putfield 11, 3) := by decide +kernel
theorem dX2_init_13 : decode cX2_init 13 = .ok (.return_, 1) := by decide +kernel
theorem dX2_size_0 : decode cX2_size 0 = .ok (.aload_n 0, 1) := by decide +kernel
theorem dX2_size_1 : decode cX2_size 1 = .ok (.getfield 17, 3) := by decide +kernel
theorem dX2_size_4 : decode cX2_size 4 = .ok (.ireturn, 1) := by decide +kernel
theorem dX2_isEmpty_0 : decode cX2_isEmpty 0 = .ok (.aload_n 0, 1) := by decide +kernel
theorem dX2_isEmpty_1 : decode cX2_isEmpty 1 = .ok (.getfield 17, 3) := by decide +kernel
theorem dX2_isEmpty_4 : decode cX2_isEmpty 4 = .ok (.ifCond .ne 7, 3) := by decide +kernel
theorem dX2_isEmpty_7 : decode cX2_isEmpty 7 = .ok (.iconst 1, 1) := by decide +kernel
theorem dX2_isEmpty_8 : decode cX2_isEmpty 8 = .ok (.goto 4, 3) := by decide +kernel
theorem dX2_isEmpty_11 : decode cX2_isEmpty 11 = .ok (.iconst 0, 1) := by decide +kernel
theorem dX2_isEmpty_12 : decode cX2_isEmpty 12 = .ok (.ireturn, 1) := by decide +kernel
theorem dX2_record_0 : decode cX2_record 0 = .ok (.aload_n 0, 1) := by decide +kernel
theorem dX2_record_1 : decode cX2_record 1 = .ok (.aload_n 0, 1) := by decide +kernel
theorem dX2_record_2 : decode cX2_record 2 = .ok (.getfield 17, 3) := by decide +kernel
theorem dX2_record_5 : decode cX2_record 5 = .ok (.invokevirtual 21, 3) := by decide +kernel
theorem dX2_record_8 : decode cX2_record 8 = .ok (.aload_n 1, 1) := by decide +kernel
theorem dX2_record_9 : decode cX2_record 9 = .ok (.invokevirtual 25, 3) := by decide +kernel
theorem dX2_record_12 : decode cX2_record 12 = .ok (.aload_n 0, 1) := by decide +kernel
theorem dX2_record_13 : decode cX2_record 13 = .ok (.getfield 17, 3) := by decide +kernel
theorem dX2_record_16 : decode cX2_record 16 = .ok (.bipush 8, 2) := by decide +kernel
theorem dX2_record_18 : decode cX2_record 18 = .ok (.if_icmp .ge 16, 3) := by decide +kernel
theorem dX2_record_21 : decode cX2_record 21 = .ok (.aload_n 0, 1) := by decide +kernel
theorem dX2_record_22 : decode cX2_record 22 = .ok (.dup, 1) := by decide +kernel
theorem dX2_record_23 : decode cX2_record 23 = .ok (.getfield 17, 3) := by decide +kernel
theorem dX2_record_26 : decode cX2_record 26 = .ok (.iconst 1, 1) := by decide +kernel
theorem dX2_record_27 : decode cX2_record 27 = .ok (.iadd, 1) := by decide +kernel
theorem dX2_record_28 : decode cX2_record 28 = .ok (.putfield 17, 3) := by decide +kernel
theorem dX2_record_31 : decode cX2_record 31 = .ok (.goto 16, 3) := by decide +kernel
theorem dX2_record_34 : decode cX2_record 34 = .ok (.aload_n 0, 1) := by decide +kernel
theorem dX2_record_35 : decode cX2_record 35 = .ok (.aload_n 0, 1) := by decide +kernel
theorem dX2_record_36 : decode cX2_record 36 = .ok (.getfield 29, 3) := by decide +kernel
theorem dX2_record_39 : decode cX2_record 39 = .ok (.iconst 1, 1) := by decide +kernel
theorem dX2_record_40 : decode cX2_record 40 = .ok (.iadd, 1) := by decide +kernel
theorem dX2_record_41 : decode cX2_record 41 = .ok (.bipush 8, 2) := by decide +kernel
theorem dX2_record_43 : decode cX2_record 43 = .ok (.irem, 1) := by decide +kernel
theorem dX2_record_44 : decode cX2_record 44 = .ok (.putfield 29, 3) := by decide +kernel
theorem dX2_record_47 : decode cX2_record 47 = .ok (.return_, 1) := by decide +kernel
theorem dX2_restoreInto_0 : decode cX2_restoreInto 0 = .ok (.aload_n 0, 1) := by decide +kernel
theorem dX2_restoreInto_1 : decode cX2_restoreInto 1 = .ok (.getfield 17, 3) := by decide +kernel
theorem dX2_restoreInto_4 : decode cX2_restoreInto 4 = .ok (.ifCond .le 25, 3) := by decide +kernel
theorem dX2_restoreInto_7 : decode cX2_restoreInto 7 = .ok (.aload_n 0, 1) := by decide +kernel
theorem dX2_restoreInto_8 : decode cX2_restoreInto 8 = .ok (.dup, 1) := by decide +kernel
theorem dX2_restoreInto_9 : decode cX2_restoreInto 9 = .ok (.getfield 17, 3) := by decide +kernel
theorem dX2_restoreInto_12 : decode cX2_restoreInto 12 = .ok (.iconst 1, 1) := by decide +kernel
theorem dX2_restoreInto_13 : decode cX2_restoreInto 13 = .ok (.isub, 1) := by decide +kernel
theorem dX2_restoreInto_14 : decode cX2_restoreInto 14 = .ok (.putfield 17, 3) := by decide +kernel
theorem dX2_restoreInto_17 : decode cX2_restoreInto 17 = .ok (.aload_n 1, 1) := by decide +kernel
theorem dX2_restoreInto_18 : decode cX2_restoreInto 18 = .ok (.aload_n 0, 1) := by decide +kernel
theorem dX2_restoreInto_19 : decode cX2_restoreInto 19 = .ok (.aload_n 0, 1) := by decide +kernel
theorem dX2_restoreInto_20 : decode cX2_restoreInto 20 = .ok (.getfield 17, 3) := by decide +kernel
theorem dX2_restoreInto_23 : decode cX2_restoreInto 23 = .ok (.invokevirtual 21, 3) := by decide +kernel
theorem dX2_restoreInto_26 : decode cX2_restoreInto 26 = .ok (.invokevirtual 25, 3) := by decide +kernel
theorem dX2_restoreInto_29 : decode cX2_restoreInto 29 = .ok (.return_, 1) := by decide +kernel
theorem dX2_at_0 : decode cX2_at 0 = .ok (.aload_n 0, 1) := by decide +kernel
theorem dX2_at_1 : decode cX2_at 1 = .ok (.getfield 29, 3) := by decide +kernel
theorem dX2_at_4 : decode cX2_at 4 = .ok (.iload_n 1, 1) := by decide +kernel
theorem dX2_at_5 : decode cX2_at 5 = .ok (.iadd, 1) := by decide +kernel
theorem dX2_at_6 : decode cX2_at 6 = .ok (.bipush 8, 2) := by decide +kernel
theorem dX2_at_8 : decode cX2_at 8 = .ok (.invokestatic 32, 3) := by decide +kernel
theorem dX2_at_11 : decode cX2_at 11 = .ok (.istore_n 2, 1) := by decide +kernel
theorem dX2_at_12 : decode cX2_at 12 = .ok (.aload_n 0, 1) := by decide +kernel
theorem dX2_at_13 : decode cX2_at 13 = .ok (.getfield 11, 3) := by decide +kernel
theorem dX2_at_16 : decode cX2_at 16 = .ok (.iload_n 2, 1) := by decide +kernel
theorem dX2_at_17 : decode cX2_at 17 = .ok (.aaload, 1) := by decide +kernel
theorem dX2_at_18 : decode cX2_at 18 = .ok (.astore_n 3, 1) := by decide +kernel
theorem dX2_at_19 : decode cX2_at 19 = .ok (.aload_n 3, 1) := by decide +kernel
theorem dX2_at_20 : decode cX2_at 20 = .ok (.ifnonnull 18, 3) := by decide +kernel
theorem dX2_at_23 : decode cX2_at 23 = .ok (.new 9, 3) := by decide +kernel
theorem dX2_at_26 : decode cX2_at 26 = .ok (.dup, 1) := by decide +kernel
theorem dX2_at_27 : decode cX2_at 27 = .ok (.invokespecial 38, 3) := by decide +kernel
theorem dX2_at_30 : decode cX2_at 30 = .ok (.astore_n 3, 1) := by decide +kernel
theorem dX2_at_31 : decode cX2_at 31 = .ok (.aload_n 0, 1) := by decide +kernel
theorem dX2_at_32 : decode cX2_at 32 = .ok (.getfield 11, 3) := by decide +kernel
theorem dX2_at_35 : decode cX2_at 35 = .ok (.iload_n 2, 1) := by decide +kernel
theorem dX2_at_36 : decode cX2_at 36 = .ok (.aload_n 3, 1) := by decide +kernel
theorem dX2_at_37 : decode cX2_at 37 = .ok (.aastore, 1) := by decide +kernel
theorem dX2_at_38 : decode cX2_at 38 = .ok (.aload_n 3, 1) := by decide +kernel
theorem dX2_at_39 : decode cX2_at 39 = .ok (.areturn, 1) := by decide +kernel
theorem dX3_init_0 : decode cX3_init 0 = .ok (.aload_n 0, 1) := by decide +kernel
theorem dX3_init_1 : decode cX3_init 1 = .ok (.invokespecial 3, 3) := by decide +kernel
theorem dX3_init_4 : decode cX3_init 4 = .ok (.aload_n 0, 1) := by decide +kernel
theorem dX3_init_5 : decode cX3_init 5 = .ok (.bipush 6, 2) := by decide +kernel
theorem dX3_init_7 : decode cX3_init 7 = .ok (.newarray .int, 2) := by decide +kernel
theorem dX3_init_9 : decode cX3_init 9 = .ok (.dup, 1) := by decide +kernel
theorem dX3_init_10 : decode cX3_init 10 = .ok (.iconst 0, 1) := by decide +kernel
theorem dX3_init_11 : decode cX3_init 11 = .ok (.iconst 0, 1) := by decide +kernel
theorem dX3_init_12 : decode cX3_init 12 = .ok (.iastore, 1) := by decide +kernel
theorem dX3_init_13 : decode cX3_init 13 = .ok (.dup, 1) := by decide +kernel
theorem dX3_init_14 : decode cX3_init 14 = .ok (.iconst 1, 1) := by decide +kernel
theorem dX3_init_15 : decode cX3_init 15 = .ok (.iconst 2, 1) := by decide +kernel
theorem dX3_init_16 : decode cX3_init 16 = .ok (.iastore, 1) := by decide +kernel
theorem dX3_init_17 : decode cX3_init 17 = .ok (.dup, 1) := by decide +kernel
theorem dX3_init_18 : decode cX3_init 18 = .ok (.iconst 2, 1) := by decide +kernel
theorem dX3_init_19 : decode cX3_init 19 = .ok (.iconst 4, 1) := by decide +kernel
theorem dX3_init_20 : decode cX3_init 20 = .ok (.iastore, 1) := by decide +kernel
theorem dX3_init_21 : decode cX3_init 21 = .ok (.dup, 1) := by decide +kernel
theorem dX3_init_22 : decode cX3_init 22 = .ok (.iconst 3, 1) := by decide +kernel
theorem dX3_init_23 : decode cX3_init 23 = .ok (.bipush 7, 2) := by decide +kernel
theorem dX3_init_25 : decode cX3_init 25 = .ok (.iastore, 1) := by decide +kernel
theorem dX3_init_26 : decode cX3_init 26 = .ok (.dup, 1) := by decide +kernel
theorem dX3_init_27 : decode cX3_init 27 = .ok (.iconst 4, 1) := by decide +kernel
theorem dX3_init_28 : decode cX3_init 28 = .ok (.bipush 10, 2) := by decide +kernel
theorem dX3_init_30 : decode cX3_init 30 = .ok (.iastore, 1) := by decide +kernel
theorem dX3_init_31 : decode cX3_init 31 = .ok (.dup, 1) := by decide +kernel
theorem dX3_init_32 : decode cX3_init 32 = .ok (.iconst 5, 1) := by decide +kernel
theorem dX3_init_33 : decode cX3_init 33 = .ok (.bipush 14, 2) := by decide +kernel
theorem dX3_init_35 : decode cX3_init 35 = .ok (.iastore, 1) := by decide +kernel
theorem dX3_init_36 : decode cX3_init 36 = .ok (.putfield 9, 3) := by decide +kernel
theorem dX3_init_39 : decode cX3_init 39 = .ok (.aload_n 0, 1) := by decide +kernel
theorem dX3_init_40 : decode cX3_init 40 = .ok (.bipush 6, 2) := by decide +kernel
theorem dX3_init_42 : decode cX3_init 42 = .ok (.newarray .int, 2) := by decide +kernel
theorem dX3_init_44 : decode cX3_init 44 = .ok (.dup, 1) := by decide +kernel
theorem dX3_init_45 : decode cX3_init 45 = .ok (.iconst 0, 1) := by decide +kernel
theorem dX3_init_46 : decode cX3_init 46 = .ok (.iconst 2, 1) := by decide +kernel
theorem dX3_init_47 : decode cX3_init 47 = .ok (.iastore, 1) := by decide +kernel
theorem dX3_init_48 : decode cX3_init 48 = .ok (.dup, 1) := by decide +kernel
theorem dX3_init_49 : decode cX3_init 49 = .ok (.iconst 1, 1) := by decide +kernel
theorem dX3_init_50 : decode cX3_init 50 = .ok (.iconst 2, 1) := by decide +kernel
theorem dX3_init_51 : decode cX3_init 51 = .ok (.iastore, 1) := by decide +kernel
theorem dX3_init_52 : decode cX3_init 52 = .ok (.dup, 1) := by decide +kernel
theorem dX3_init_53 : decode cX3_init 53 = .ok (.iconst 2, 1) := by decide +kernel
theorem dX3_init_54 : decode cX3_init 54 = .ok (.iconst 3, 1) := by decide +kernel
theorem dX3_init_55 : decode cX3_init 55 = .ok (.iastore, 1) := by decide +kernel
theorem dX3_init_56 : decode cX3_init 56 = .ok (.dup, 1) := by decide +kernel
theorem dX3_init_57 : decode cX3_init 57 = .ok (.iconst 3, 1) := by decide +kernel
theorem dX3_init_58 : decode cX3_init 58 = .ok (.iconst 3, 1) := by decide +kernel
theorem dX3_init_59 : decode cX3_init 59 = .ok (.iastore, 1) := by decide +kernel
theorem dX3_init_60 : decode cX3_init 60 = .ok (.dup, 1) := by decide +kernel
theorem dX3_init_61 : decode cX3_init 61 = .ok (.iconst 4, 1) := by decide +kernel
theorem dX3_init_62 : decode cX3_init 62 = .ok (.iconst 4, 1) := by decide +kernel
theorem dX3_init_63 : decode cX3_init 63 = .ok (.iastore, 1) := by decide +kernel
theorem dX3_init_64 : decode cX3_init 64 = .ok (.dup, 1) := by decide +kernel
theorem dX3_init_65 : decode cX3_init 65 = .ok (.iconst 5, 1) := by decide +kernel
theorem dX3_init_66 : decode cX3_init 66 = .ok (.iconst 1, 1) := by decide +kernel
theorem dX3_init_67 : decode cX3_init 67 = .ok (.iastore, 1) := by decide +kernel
theorem dX3_init_68 : decode cX3_init 68 = .ok (.putfield 15, 3) := by decide +kernel
theorem dX3_init_71 : decode cX3_init 71 = .ok (.return_, 1) := by decide +kernel
theorem dX3_firstOf_0 : decode cX3_firstOf 0 = .ok (.iload_n 1, 1) := by decide +kernel
theorem dX3_firstOf_1 : decode cX3_firstOf 1 = .ok (.invokestatic 18, 3) := by decide +kernel
theorem dX3_firstOf_4 : decode cX3_firstOf 4 = .ok (.ifCond .eq 12, 3) := by decide +kernel
theorem dX3_firstOf_7 : decode cX3_firstOf 7 = .ok (.aload_n 0, 1) := by decide +kernel
theorem dX3_firstOf_8 : decode cX3_firstOf 8 = .ok (.getfield 9, 3) := by decide +kernel
theorem dX3_firstOf_11 : decode cX3_firstOf 11 = .ok (.iload_n 1, 1) := by decide +kernel
theorem dX3_firstOf_12 : decode cX3_firstOf 12 = .ok (.iaload, 1) := by decide +kernel
theorem dX3_firstOf_13 : decode cX3_firstOf 13 = .ok (.goto 4, 3) := by decide +kernel
theorem dX3_firstOf_16 : decode cX3_firstOf 16 = .ok (.iconst 0, 1) := by decide +kernel
theorem dX3_firstOf_17 : decode cX3_firstOf 17 = .ok (.ireturn, 1) := by decide +kernel
theorem dX3_widthOf_0 : decode cX3_widthOf 0 = .ok (.iload_n 1, 1) := by decide +kernel
theorem dX3_widthOf_1 : decode cX3_widthOf 1 = .ok (.invokestatic 18, 3) := by decide +kernel
theorem dX3_widthOf_4 : decode cX3_widthOf 4 = .ok (.ifCond .eq 12, 3) := by decide +kernel
theorem dX3_widthOf_7 : decode cX3_widthOf 7 = .ok (.aload_n 0, 1) := by decide +kernel
theorem dX3_widthOf_8 : decode cX3_widthOf 8 = .ok (.getfield 15, 3) := by decide +kernel
theorem dX3_widthOf_11 : decode cX3_widthOf 11 = .ok (.iload_n 1, 1) := by decide +kernel
theorem dX3_widthOf_12 : decode cX3_widthOf 12 = .ok (.iaload, 1) := by decide +kernel
theorem dX3_widthOf_13 : decode cX3_widthOf 13 = .ok (.goto 4, 3) := by decide +kernel
theorem dX3_widthOf_16 : decode cX3_widthOf 16 = .ok (.iconst 0, 1) := by decide +kernel
theorem dX3_widthOf_17 : decode cX3_widthOf 17 = .ok (.ireturn, 1) := by decide +kernel
theorem dX3_place_0 : decode cX3_place 0 = .ok (.iload_n 1, 1) := by decide +kernel
theorem dX3_place_1 : decode cX3_place 1 = .ok (.invokestatic 18, 3) := by decide +kernel
theorem dX3_place_4 : decode cX3_place 4 = .ok (.ifCond .eq 17, 3) := by decide +kernel
theorem dX3_place_7 : decode cX3_place 7 = .ok (.aload_n 0, 1) := by decide +kernel
theorem dX3_place_8 : decode cX3_place 8 = .ok (.getfield 9, 3) := by decide +kernel
theorem dX3_place_11 : decode cX3_place 11 = .ok (.iload_n 1, 1) := by decide +kernel
theorem dX3_place_12 : decode cX3_place 12 = .ok (.iload_n 2, 1) := by decide +kernel
theorem dX3_place_13 : decode cX3_place 13 = .ok (.iastore, 1) := by decide +kernel
theorem dX3_place_14 : decode cX3_place 14 = .ok (.aload_n 0, 1) := by decide +kernel
theorem dX3_place_15 : decode cX3_place 15 = .ok (.getfield 15, 3) := by decide +kernel
theorem dX3_place_18 : decode cX3_place 18 = .ok (.iload_n 1, 1) := by decide +kernel
theorem dX3_place_19 : decode cX3_place 19 = .ok (.iload_n 3, 1) := by decide +kernel
theorem dX3_place_20 : decode cX3_place 20 = .ok (.iastore, 1) := by decide +kernel
theorem dX3_place_21 : decode cX3_place 21 = .ok (.return_, 1) := by decide +kernel
theorem dX3_valueOn_0 : decode cX3_valueOn 0 = .ok (.aload_n 0, 1) := by decide +kernel
theorem dX3_valueOn_1 : decode cX3_valueOn 1 = .ok (.iload_n 2, 1) := by decide +kernel
theorem dX3_valueOn_2 : decode cX3_valueOn 2 = .ok (.invokevirtual 22, 3) := by decide +kernel
theorem dX3_valueOn_5 : decode cX3_valueOn 5 = .ok (.istore_n 3, 1) := by decide +kernel
theorem dX3_valueOn_6 : decode cX3_valueOn 6 = .ok (.aload_n 0, 1) := by decide +kernel
theorem dX3_valueOn_7 : decode cX3_valueOn 7 = .ok (.iload_n 2, 1) := by decide +kernel
theorem dX3_valueOn_8 : decode cX3_valueOn 8 = .ok (.invokevirtual 26, 3) := by decide +kernel
theorem dX3_valueOn_11 : decode cX3_valueOn 11 = .ok (.istore 4, 2) := by decide +kernel
theorem dX3_valueOn_13 : decode cX3_valueOn 13 = .ok (.iconst 0, 1) := by decide +kernel
theorem dX3_valueOn_14 : decode cX3_valueOn 14 = .ok (.istore 5, 2) := by decide +kernel
theorem dX3_valueOn_16 : decode cX3_valueOn 16 = .ok (.iconst 0, 1) := by decide +kernel
theorem dX3_valueOn_17 : decode cX3_valueOn 17 = .ok (.istore 6, 2) := by decide +kernel
theorem dX3_valueOn_19 : decode cX3_valueOn 19 = .ok (.iload 6, 2) := by decide +kernel
theorem dX3_valueOn_21 : decode cX3_valueOn 21 = .ok (.iload 4, 2) := by decide +kernel
theorem dX3_valueOn_23 : decode cX3_valueOn 23 = .ok (.if_icmp .ge 39, 3) := by decide +kernel
theorem dX3_valueOn_26 : decode cX3_valueOn 26 = .ok (.aload_n 1, 1) := by decide +kernel
theorem dX3_valueOn_27 : decode cX3_valueOn 27 = .ok (.iload_n 3, 1) := by decide +kernel
theorem dX3_valueOn_28 : decode cX3_valueOn 28 = .ok (.iload 6, 2) := by decide +kernel
theorem dX3_valueOn_30 : decode cX3_valueOn 30 = .ok (.iadd, 1) := by decide +kernel
theorem dX3_valueOn_31 : decode cX3_valueOn 31 = .ok (.invokevirtual 29, 3) := by decide +kernel
theorem dX3_valueOn_34 : decode cX3_valueOn 34 = .ok (.istore 7, 2) := by decide +kernel
theorem dX3_valueOn_36 : decode cX3_valueOn 36 = .ok (.iload 7, 2) := by decide +kernel
theorem dX3_valueOn_38 : decode cX3_valueOn 38 = .ok (.ldc 34, 2) := by decide +kernel
theorem dX3_valueOn_40 : decode cX3_valueOn 40 = .ok (.if_icmp .ne 6, 3) := by decide +kernel
theorem dX3_valueOn_43 : decode cX3_valueOn 43 = .ok (.ldc 34, 2) := by decide +kernel
theorem dX3_valueOn_45 : decode cX3_valueOn 45 = .ok (.ireturn, 1) := by decide +kernel
theorem dX3_valueOn_46 : decode cX3_valueOn 46 = .ok (.bipush 10, 2) := by decide +kernel
theorem dX3_valueOn_48 : decode cX3_valueOn 48 = .ok (.iload 5, 2) := by decide +kernel
theorem dX3_valueOn_50 : decode cX3_valueOn 50 = .ok (.imul, 1) := by decide +kernel
theorem dX3_valueOn_51 : decode cX3_valueOn 51 = .ok (.iload 7, 2) := by decide +kernel
theorem dX3_valueOn_53 : decode cX3_valueOn 53 = .ok (.iadd, 1) := by decide +kernel
theorem dX3_valueOn_54 : decode cX3_valueOn 54 = .ok (.istore 5, 2) := by decide +kernel
theorem dX3_valueOn_56 : decode cX3_valueOn 56 = .ok (.iinc 6 1, 3) := by decide +kernel
theorem dX3_valueOn_59 : decode cX3_valueOn 59 = .ok (.goto (-40), 3) := by decide +kernel
theorem dX3_valueOn_62 : decode cX3_valueOn 62 = .ok (.iload 5, 2) := by decide +kernel
theorem dX3_valueOn_64 : decode cX3_valueOn 64 = .ok (.ireturn, 1) := by decide +kernel
theorem dX3_dueOn_0 : decode cX3_dueOn 0 = .ok (.iconst 0, 1) := by decide +kernel
theorem dX3_dueOn_1 : decode cX3_dueOn 1 = .ok (.istore_n 2, 1) := by decide +kernel
theorem dX3_dueOn_2 : decode cX3_dueOn 2 = .ok (.iconst 0, 1) := by decide +kernel
theorem dX3_dueOn_3 : decode cX3_dueOn 3 = .ok (.istore_n 3, 1) := by decide +kernel
theorem dX3_dueOn_4 : decode cX3_dueOn 4 = .ok (.iload_n 3, 1) := by decide +kernel
theorem dX3_dueOn_5 : decode cX3_dueOn 5 = .ok (.iconst 5, 1) := by decide +kernel
theorem dX3_dueOn_6 : decode cX3_dueOn 6 = .ok (.if_icmp .ge 18, 3) := by decide +kernel
theorem dX3_dueOn_9 : decode cX3_dueOn 9 = .ok (.iload_n 2, 1) := by decide +kernel
theorem dX3_dueOn_10 : decode cX3_dueOn 10 = .ok (.aload_n 0, 1) := by decide +kernel
theorem dX3_dueOn_11 : decode cX3_dueOn 11 = .ok (.aload_n 1, 1) := by decide +kernel
theorem dX3_dueOn_12 : decode cX3_dueOn 12 = .ok (.iload_n 3, 1) := by decide +kernel
theorem dX3_dueOn_13 : decode cX3_dueOn 13 = .ok (.invokevirtual 35, 3) := by decide +kernel
theorem dX3_dueOn_16 : decode cX3_dueOn 16 = .ok (.iadd, 1) := by decide +kernel
theorem dX3_dueOn_17 : decode cX3_dueOn 17 = .ok (.istore_n 2, 1) := by decide +kernel
theorem dX3_dueOn_18 : decode cX3_dueOn 18 = .ok (.iinc 3 1, 3) := by decide +kernel
theorem dX3_dueOn_21 : decode cX3_dueOn 21 = .ok (.goto (-17), 3) := by decide +kernel
theorem dX3_dueOn_24 : decode cX3_dueOn 24 = .ok (.iload_n 2, 1) := by decide +kernel
theorem dX3_dueOn_25 : decode cX3_dueOn 25 = .ok (.bipush 10, 2) := by decide +kernel
theorem dX3_dueOn_27 : decode cX3_dueOn 27 = .ok (.irem, 1) := by decide +kernel
theorem dX3_dueOn_28 : decode cX3_dueOn 28 = .ok (.ireturn, 1) := by decide +kernel
theorem dX3_weighedDigits_0 : decode cX3_weighedDigits 0 = .ok (.aload_n 0, 1) := by decide +kernel
theorem dX3_weighedDigits_1 : decode cX3_weighedDigits 1 = .ok (.iload_n 2, 1) := by decide +kernel
theorem dX3_weighedDigits_2 : decode cX3_weighedDigits 2 = .ok (.invokevirtual 22, 3) := by decide +kernel
theorem dX3_weighedDigits_5 : decode cX3_weighedDigits 5 = .ok (.istore_n 3, 1) := by decide +kernel
theorem dX3_weighedDigits_6 : decode cX3_weighedDigits 6 = .ok (.aload_n 0, 1) := by decide +kernel
theorem dX3_weighedDigits_7 : decode cX3_weighedDigits 7 = .ok (.iload_n 2, 1) := by decide +kernel
theorem dX3_weighedDigits_8 : decode cX3_weighedDigits 8 = .ok (.invokevirtual 26, 3) := by decide +kernel
theorem dX3_weighedDigits_11 : decode cX3_weighedDigits 11 = .ok (.istore 4, 2) := by decide +kernel
theorem dX3_weighedDigits_13 : decode cX3_weighedDigits 13 = .ok (.iconst 0, 1) := by decide +kernel
theorem dX3_weighedDigits_14 : decode cX3_weighedDigits 14 = .ok (.istore 5, 2) := by decide +kernel
theorem dX3_weighedDigits_16 : decode cX3_weighedDigits 16 = .ok (.iconst 0, 1) := by decide +kernel
theorem dX3_weighedDigits_17 : decode cX3_weighedDigits 17 = .ok (.istore 6, 2) := by decide +kernel
theorem dX3_weighedDigits_19 : decode cX3_weighedDigits 19 = .ok (.iload 6, 2) := by decide +kernel
theorem dX3_weighedDigits_21 : decode cX3_weighedDigits 21 = .ok (.iload 4, 2) := by decide +kernel
theorem dX3_weighedDigits_23 : decode cX3_weighedDigits 23 = .ok (.if_icmp .ge 47, 3) := by decide +kernel
theorem dX3_weighedDigits_26 : decode cX3_weighedDigits 26 = .ok (.aload_n 1, 1) := by decide +kernel
theorem dX3_weighedDigits_27 : decode cX3_weighedDigits 27 = .ok (.iload_n 3, 1) := by decide +kernel
theorem dX3_weighedDigits_28 : decode cX3_weighedDigits 28 = .ok (.iload 6, 2) := by decide +kernel
theorem dX3_weighedDigits_30 : decode cX3_weighedDigits 30 = .ok (.iadd, 1) := by decide +kernel
theorem dX3_weighedDigits_31 : decode cX3_weighedDigits 31 = .ok (.invokevirtual 29, 3) := by decide +kernel
theorem dX3_weighedDigits_34 : decode cX3_weighedDigits 34 = .ok (.istore 7, 2) := by decide +kernel
theorem dX3_weighedDigits_36 : decode cX3_weighedDigits 36 = .ok (.iload 7, 2) := by decide +kernel
theorem dX3_weighedDigits_38 : decode cX3_weighedDigits 38 = .ok (.ldc 34, 2) := by decide +kernel
theorem dX3_weighedDigits_40 : decode cX3_weighedDigits 40 = .ok (.if_icmp .eq 24, 3) := by decide +kernel
theorem dX3_weighedDigits_43 : decode cX3_weighedDigits 43 = .ok (.iload 5, 2) := by decide +kernel
theorem dX3_weighedDigits_45 : decode cX3_weighedDigits 45 = .ok (.iload 6, 2) := by decide +kernel
theorem dX3_weighedDigits_47 : decode cX3_weighedDigits 47 = .ok (.iconst 2, 1) := by decide +kernel
theorem dX3_weighedDigits_48 : decode cX3_weighedDigits 48 = .ok (.irem, 1) := by decide +kernel
theorem dX3_weighedDigits_49 : decode cX3_weighedDigits 49 = .ok (.ifCond .ne 10, 3) := by decide +kernel
theorem dX3_weighedDigits_52 : decode cX3_weighedDigits 52 = .ok (.iconst 3, 1) := by decide +kernel
theorem dX3_weighedDigits_53 : decode cX3_weighedDigits 53 = .ok (.iload 7, 2) := by decide +kernel
theorem dX3_weighedDigits_55 : decode cX3_weighedDigits 55 = .ok (.imul, 1) := by decide +kernel
theorem dX3_weighedDigits_56 : decode cX3_weighedDigits 56 = .ok (.goto 5, 3) := by decide +kernel
theorem dX3_weighedDigits_59 : decode cX3_weighedDigits 59 = .ok (.iload 7, 2) := by decide +kernel
theorem dX3_weighedDigits_61 : decode cX3_weighedDigits 61 = .ok (.iadd, 1) := by decide +kernel
theorem dX3_weighedDigits_62 : decode cX3_weighedDigits 62 = .ok (.istore 5, 2) := by decide +kernel
theorem dX3_weighedDigits_64 : decode cX3_weighedDigits 64 = .ok (.iinc 6 1, 3) := by decide +kernel
theorem dX3_weighedDigits_67 : decode cX3_weighedDigits 67 = .ok (.goto (-48), 3) := by decide +kernel
theorem dX3_weighedDigits_70 : decode cX3_weighedDigits 70 = .ok (.iload 5, 2) := by decide +kernel
theorem dX3_weighedDigits_72 : decode cX3_weighedDigits 72 = .ok (.ireturn, 1) := by decide +kernel
theorem dX3_keyOn_0 : decode cX3_keyOn 0 = .ok (.aload_n 0, 1) := by decide +kernel
theorem dX3_keyOn_1 : decode cX3_keyOn 1 = .ok (.aload_n 1, 1) := by decide +kernel
theorem dX3_keyOn_2 : decode cX3_keyOn 2 = .ok (.iconst 0, 1) := by decide +kernel
theorem dX3_keyOn_3 : decode cX3_keyOn 3 = .ok (.invokevirtual 39, 3) := by decide +kernel
theorem dX3_keyOn_6 : decode cX3_keyOn 6 = .ok (.istore_n 2, 1) := by decide +kernel
theorem dX3_keyOn_7 : decode cX3_keyOn 7 = .ok (.aload_n 0, 1) := by decide +kernel
theorem dX3_keyOn_8 : decode cX3_keyOn 8 = .ok (.aload_n 1, 1) := by decide +kernel
theorem dX3_keyOn_9 : decode cX3_keyOn 9 = .ok (.iconst 1, 1) := by decide +kernel
theorem dX3_keyOn_10 : decode cX3_keyOn 10 = .ok (.invokevirtual 39, 3) := by decide +kernel
theorem dX3_keyOn_13 : decode cX3_keyOn 13 = .ok (.istore_n 3, 1) := by decide +kernel
theorem dX3_keyOn_14 : decode cX3_keyOn 14 = .ok (.aload_n 0, 1) := by decide +kernel
theorem dX3_keyOn_15 : decode cX3_keyOn 15 = .ok (.aload_n 1, 1) := by decide +kernel
theorem dX3_keyOn_16 : decode cX3_keyOn 16 = .ok (.iconst 2, 1) := by decide +kernel
theorem dX3_keyOn_17 : decode cX3_keyOn 17 = .ok (.invokevirtual 39, 3) := by decide +kernel
theorem dX3_keyOn_20 : decode cX3_keyOn 20 = .ok (.istore 4, 2) := by decide +kernel
theorem dX3_keyOn_22 : decode cX3_keyOn 22 = .ok (.iload_n 2, 1) := by decide +kernel
theorem dX3_keyOn_23 : decode cX3_keyOn 23 = .ok (.ldc 34, 2) := by decide +kernel
theorem dX3_keyOn_25 : decode cX3_keyOn 25 = .ok (.if_icmp .eq 16, 3) := by decide +kernel
theorem dX3_keyOn_28 : decode cX3_keyOn 28 = .ok (.iload_n 3, 1) := by decide +kernel
theorem dX3_keyOn_29 : decode cX3_keyOn 29 = .ok (.ldc 34, 2) := by decide +kernel
theorem dX3_keyOn_31 : decode cX3_keyOn 31 = .ok (.if_icmp .eq 10, 3) := by decide +kernel
theorem dX3_keyOn_34 : decode cX3_keyOn 34 = .ok (.iload 4, 2) := by decide +kernel
theorem dX3_keyOn_36 : decode cX3_keyOn 36 = .ok (.ldc 34, 2) := by decide +kernel
theorem dX3_keyOn_38 : decode cX3_keyOn 38 = .ok (.if_icmp .ne 7, 3) := by decide +kernel
theorem dX3_keyOn_41 : decode cX3_keyOn 41 = .ok (.ldc2_w 42, 3) := by decide +kernel
theorem dX3_keyOn_44 : decode cX3_keyOn 44 = .ok (.lreturn, 1) := by decide +kernel
theorem dX3_keyOn_45 : decode cX3_keyOn 45 = .ok (.iload_n 2, 1) := by decide +kernel
theorem dX3_keyOn_46 : decode cX3_keyOn 46 = .ok (.iload_n 3, 1) := by decide +kernel
theorem dX3_keyOn_47 : decode cX3_keyOn 47 = .ok (.iload 4, 2) := by decide +kernel
theorem dX3_keyOn_49 : decode cX3_keyOn 49 = .ok (.invokestatic 44, 3) := by decide +kernel
theorem dX3_keyOn_52 : decode cX3_keyOn 52 = .ok (.lreturn, 1) := by decide +kernel
theorem dX3_copyFrom_0 : decode cX3_copyFrom 0 = .ok (.aload_n 1, 1) := by decide +kernel
theorem dX3_copyFrom_1 : decode cX3_copyFrom 1 = .ok (.getfield 9, 3) := by decide +kernel
theorem dX3_copyFrom_4 : decode cX3_copyFrom 4 = .ok (.iconst 0, 1) := by decide +kernel
theorem dX3_copyFrom_5 : decode cX3_copyFrom 5 = .ok (.aload_n 0, 1) := by decide +kernel
theorem dX3_copyFrom_6 : decode cX3_copyFrom 6 = .ok (.getfield 9, 3) := by decide +kernel
theorem dX3_copyFrom_9 : decode cX3_copyFrom 9 = .ok (.iconst 0, 1) := by decide +kernel
theorem dX3_copyFrom_10 : decode cX3_copyFrom 10 = .ok (.bipush 6, 2) := by decide +kernel
theorem dX3_copyFrom_12 : decode cX3_copyFrom 12 = .ok (.invokestatic 50, 3) := by decide +kernel
theorem dX3_copyFrom_15 : decode cX3_copyFrom 15 = .ok (.aload_n 1, 1) := by decide +kernel
theorem dX3_copyFrom_16 : decode cX3_copyFrom 16 = .ok (.getfield 15, 3) := by decide +kernel
theorem dX3_copyFrom_19 : decode cX3_copyFrom 19 = .ok (.iconst 0, 1) := by decide +kernel
theorem dX3_copyFrom_20 : decode cX3_copyFrom 20 = .ok (.aload_n 0, 1) := by decide +kernel
theorem dX3_copyFrom_21 : decode cX3_copyFrom 21 = .ok (.getfield 15, 3) := by decide +kernel
theorem dX3_copyFrom_24 : decode cX3_copyFrom 24 = .ok (.iconst 0, 1) := by decide +kernel
theorem dX3_copyFrom_25 : decode cX3_copyFrom 25 = .ok (.bipush 6, 2) := by decide +kernel
theorem dX3_copyFrom_27 : decode cX3_copyFrom 27 = .ok (.invokestatic 50, 3) := by decide +kernel
theorem dX3_copyFrom_30 : decode cX3_copyFrom 30 = .ok (.return_, 1) := by decide +kernel
theorem dX4_init_0 : decode cX4_init 0 = .ok (.aload_n 0, 1) := by decide +kernel
theorem dX4_init_1 : decode cX4_init 1 = .ok (.invokespecial 3, 3) := by decide +kernel
theorem dX4_init_4 : decode cX4_init 4 = .ok (.aload_n 0, 1) := by decide +kernel
theorem dX4_init_5 : decode cX4_init 5 = .ok (.new 9, 3) := by decide +kernel
theorem dX4_init_8 : decode cX4_init 8 = .ok (.dup, 1) := by decide +kernel
theorem dX4_init_9 : decode cX4_init 9 = .ok (.invokespecial 11, 3) := by decide +kernel
theorem dX4_init_12 : decode cX4_init 12 = .ok (.putfield 12, 3) := by decide +kernel
theorem dX4_init_15 : decode cX4_init 15 = .ok (.aload_n 0, 1) := by decide +kernel
theorem dX4_init_16 : decode cX4_init 16 = .ok (.new 9, 3) := by decide +kernel
theorem dX4_init_19 : decode cX4_init 19 = .ok (.dup, 1) := by decide +kernel
theorem dX4_init_20 : decode cX4_init 20 = .ok (.invokespecial 11, 3) := by decide +kernel
theorem dX4_init_23 : decode cX4_init 23 = .ok (.putfield 18, 3) := by decide +kernel
theorem dX4_init_26 : decode cX4_init 26 = .ok (.aload_n 0, 1) := by decide +kernel
theorem dX4_init_27 : decode cX4_init 27 = .ok (.new 9, 3) := by decide +kernel
theorem dX4_init_30 : decode cX4_init 30 = .ok (.dup, 1) := by decide +kernel
theorem dX4_init_31 : decode cX4_init 31 = .ok (.invokespecial 11, 3) := by decide +kernel
theorem dX4_init_34 : decode cX4_init 34 = .ok (.putfield 21, 3) := by decide +kernel
theorem dX4_init_37 : decode cX4_init 37 = .ok (.aload_n 0, 1) := by decide +kernel
theorem dX4_init_38 : decode cX4_init 38 = .ok (.new 9, 3) := by decide +kernel
theorem dX4_init_41 : decode cX4_init 41 = .ok (.dup, 1) := by decide +kernel
theorem dX4_init_42 : decode cX4_init 42 = .ok (.invokespecial 11, 3) := by decide +kernel
theorem dX4_init_45 : decode cX4_init 45 = .ok (.putfield 24, 3) := by decide +kernel
theorem dX4_init_48 : decode cX4_init 48 = .ok (.return_, 1) := by decide +kernel
theorem dX4_begin_0 : decode cX4_begin 0 = .ok (.aload_n 0, 1) := by decide +kernel
theorem dX4_begin_1 : decode cX4_begin 1 = .ok (.getfield 12, 3) := by decide +kernel
theorem dX4_begin_4 : decode cX4_begin 4 = .ok (.invokevirtual 27, 3) := by decide +kernel
theorem dX4_begin_7 : decode cX4_begin 7 = .ok (.aload_n 0, 1) := by decide +kernel
theorem dX4_begin_8 : decode cX4_begin 8 = .ok (.getfield 18, 3) := by decide +kernel
theorem dX4_begin_11 : decode cX4_begin 11 = .ok (.invokevirtual 27, 3) := by decide +kernel
theorem dX4_begin_14 : decode cX4_begin 14 = .ok (.aload_n 0, 1) := by decide +kernel
theorem dX4_begin_15 : decode cX4_begin 15 = .ok (.getfield 21, 3) := by decide +kernel
theorem dX4_begin_18 : decode cX4_begin 18 = .ok (.invokevirtual 27, 3) := by decide +kernel
theorem dX4_begin_21 : decode cX4_begin 21 = .ok (.aload_n 0, 1) := by decide +kernel
theorem dX4_begin_22 : decode cX4_begin 22 = .ok (.getfield 24, 3) := by decide +kernel
theorem dX4_begin_25 : decode cX4_begin 25 = .ok (.invokevirtual 27, 3) := by decide +kernel
theorem dX4_begin_28 : decode cX4_begin 28 = .ok (.return_, 1) := by decide +kernel
theorem dX4_accept_0 : decode cX4_accept 0 = .ok (.aload_n 0, 1) := by decide +kernel
theorem dX4_accept_1 : decode cX4_accept 1 = .ok (.getfield 24, 3) := by decide +kernel
theorem dX4_accept_4 : decode cX4_accept 4 = .ok (.getfield 30, 3) := by decide +kernel
theorem dX4_accept_7 : decode cX4_accept 7 = .ok (.ifCond .le 24, 3) := by decide +kernel
theorem dX4_accept_10 : decode cX4_accept 10 = .ok (.aload_n 2, 1) := by decide +kernel
theorem dX4_accept_11 : decode cX4_accept 11 = .ok (.invokevirtual 34, 3) := by decide +kernel
theorem dX4_accept_14 : decode cX4_accept 14 = .ok (.aload_n 0, 1) := by decide +kernel
theorem dX4_accept_15 : decode cX4_accept 15 = .ok (.getfield 24, 3) := by decide +kernel
theorem dX4_accept_18 : decode cX4_accept 18 = .ok (.invokevirtual 34, 3) := by decide +kernel
theorem dX4_accept_21 : decode cX4_accept 21 = .ok (.lcmp, 1) := by decide +kernel
theorem dX4_accept_22 : decode cX4_accept 22 = .ok (.ifCond .eq 9, 3) := by decide +kernel
theorem dX4_accept_25 : decode cX4_accept 25 = .ok (.aload_n 0, 1) := by decide +kernel
theorem dX4_accept_26 : decode cX4_accept 26 = .ok (.aload_n 1, 1) := by decide +kernel
theorem dX4_accept_27 : decode cX4_accept 27 = .ok (.aload_n 2, 1) := by decide +kernel
theorem dX4_accept_28 : decode cX4_accept 28 = .ok (.invokevirtual 38, 3) := by decide +kernel
theorem dX4_accept_31 : decode cX4_accept 31 = .ok (.aload_n 1, 1) := by decide +kernel
theorem dX4_accept_32 : decode cX4_accept 32 = .ok (.iconst 0, 1) := by decide +kernel
theorem dX4_accept_33 : decode cX4_accept 33 = .ok (.aload_n 2, 1) := by decide +kernel
theorem dX4_accept_34 : decode cX4_accept 34 = .ok (.iload_n 3, 1) := by decide +kernel
theorem dX4_accept_35 : decode cX4_accept 35 = .ok (.invokevirtual 42, 3) := by decide +kernel
theorem dX4_accept_38 : decode cX4_accept 38 = .ok (.aload_n 0, 1) := by decide +kernel
theorem dX4_accept_39 : decode cX4_accept 39 = .ok (.getfield 12, 3) := by decide +kernel
theorem dX4_accept_42 : decode cX4_accept 42 = .ok (.aload_n 2, 1) := by decide +kernel
theorem dX4_accept_43 : decode cX4_accept 43 = .ok (.invokevirtual 48, 3) := by decide +kernel
theorem dX4_accept_46 : decode cX4_accept 46 = .ok (.aload_n 0, 1) := by decide +kernel
theorem dX4_accept_47 : decode cX4_accept 47 = .ok (.getfield 18, 3) := by decide +kernel
theorem dX4_accept_50 : decode cX4_accept 50 = .ok (.aload_n 2, 1) := by decide +kernel
theorem dX4_accept_51 : decode cX4_accept 51 = .ok (.invokevirtual 48, 3) := by decide +kernel
theorem dX4_accept_54 : decode cX4_accept 54 = .ok (.aload_n 0, 1) := by decide +kernel
theorem dX4_accept_55 : decode cX4_accept 55 = .ok (.getfield 21, 3) := by decide +kernel
theorem dX4_accept_58 : decode cX4_accept 58 = .ok (.aload_n 2, 1) := by decide +kernel
theorem dX4_accept_59 : decode cX4_accept 59 = .ok (.invokevirtual 48, 3) := by decide +kernel
theorem dX4_accept_62 : decode cX4_accept 62 = .ok (.aload_n 0, 1) := by decide +kernel
theorem dX4_accept_63 : decode cX4_accept 63 = .ok (.getfield 24, 3) := by decide +kernel
theorem dX4_accept_66 : decode cX4_accept 66 = .ok (.aload_n 2, 1) := by decide +kernel
theorem dX4_accept_67 : decode cX4_accept 67 = .ok (.invokevirtual 48, 3) := by decide +kernel
theorem dX4_accept_70 : decode cX4_accept 70 = .ok (.return_, 1) := by decide +kernel
theorem dX4_end_0 : decode cX4_end 0 = .ok (.aload_n 0, 1) := by decide +kernel
theorem dX4_end_1 : decode cX4_end 1 = .ok (.getfield 24, 3) := by decide +kernel
theorem dX4_end_4 : decode cX4_end 4 = .ok (.getfield 30, 3) := by decide +kernel
theorem dX4_end_7 : decode cX4_end 7 = .ok (.ifCond .le 18, 3) := by decide +kernel
theorem dX4_end_10 : decode cX4_end 10 = .ok (.aload_n 0, 1) := by decide +kernel
theorem dX4_end_11 : decode cX4_end 11 = .ok (.aload_n 1, 1) := by decide +kernel
theorem dX4_end_12 : decode cX4_end 12 = .ok (.invokevirtual 52, 3) := by decide +kernel
theorem dX4_end_15 : decode cX4_end 15 = .ok (.aload_n 0, 1) := by decide +kernel
theorem dX4_end_16 : decode cX4_end 16 = .ok (.aload_n 1, 1) := by decide +kernel
theorem dX4_end_17 : decode cX4_end 17 = .ok (.invokevirtual 56, 3) := by decide +kernel
theorem dX4_end_20 : decode cX4_end 20 = .ok (.aload_n 0, 1) := by decide +kernel
theorem dX4_end_21 : decode cX4_end 21 = .ok (.aload_n 1, 1) := by decide +kernel
theorem dX4_end_22 : decode cX4_end 22 = .ok (.invokevirtual 59, 3) := by decide +kernel
theorem dX4_end_25 : decode cX4_end 25 = .ok (.aload_n 1, 1) := by decide +kernel
theorem dX4_end_26 : decode cX4_end 26 = .ok (.iconst 4, 1) := by decide +kernel
theorem dX4_end_27 : decode cX4_end 27 = .ok (.aload_n 0, 1) := by decide +kernel
theorem dX4_end_28 : decode cX4_end 28 = .ok (.getfield 24, 3) := by decide +kernel
theorem dX4_end_31 : decode cX4_end 31 = .ok (.ldc 62, 2) := by decide +kernel
theorem dX4_end_33 : decode cX4_end 33 = .ok (.invokevirtual 42, 3) := by decide +kernel
theorem dX4_end_36 : decode cX4_end 36 = .ok (.return_, 1) := by decide +kernel
theorem dX4_breakBefore_0 : decode cX4_breakBefore 0 = .ok (.aload_n 2, 1) := by decide +kernel
theorem dX4_breakBefore_1 : decode cX4_breakBefore 1 = .ok (.getfield 63, 3) := by decide +kernel
theorem dX4_breakBefore_4 : decode cX4_breakBefore 4 = .ok (.aload_n 0, 1) := by decide +kernel
theorem dX4_breakBefore_5 : decode cX4_breakBefore 5 = .ok (.getfield 24, 3) := by decide +kernel
theorem dX4_breakBefore_8 : decode cX4_breakBefore 8 = .ok (.getfield 63, 3) := by decide +kernel
theorem dX4_breakBefore_11 : decode cX4_breakBefore 11 = .ok (.if_icmp .eq 7, 3) := by decide +kernel
theorem dX4_breakBefore_14 : decode cX4_breakBefore 14 = .ok (.iconst 1, 1) := by decide +kernel
theorem dX4_breakBefore_15 : decode cX4_breakBefore 15 = .ok (.goto 4, 3) := by decide +kernel
theorem dX4_breakBefore_18 : decode cX4_breakBefore 18 = .ok (.iconst 0, 1) := by decide +kernel
theorem dX4_breakBefore_19 : decode cX4_breakBefore 19 = .ok (.istore_n 3, 1) := by decide +kernel
theorem dX4_breakBefore_20 : decode cX4_breakBefore 20 = .ok (.aload_n 0, 1) := by decide +kernel
theorem dX4_breakBefore_21 : decode cX4_breakBefore 21 = .ok (.aload_n 1, 1) := by decide +kernel
theorem dX4_breakBefore_22 : decode cX4_breakBefore 22 = .ok (.invokevirtual 52, 3) := by decide +kernel
theorem dX4_breakBefore_25 : decode cX4_breakBefore 25 = .ok (.iload_n 3, 1) := by decide +kernel
theorem dX4_breakBefore_26 : decode cX4_breakBefore 26 = .ok (.ifCond .ne 17, 3) := by decide +kernel
theorem dX4_breakBefore_29 : decode cX4_breakBefore 29 = .ok (.aload_n 2, 1) := by decide +kernel
theorem dX4_breakBefore_30 : decode cX4_breakBefore 30 = .ok (.getfield 65, 3) := by decide +kernel
theorem dX4_breakBefore_33 : decode cX4_breakBefore 33 = .ok (.aload_n 0, 1) := by decide +kernel
theorem dX4_breakBefore_34 : decode cX4_breakBefore 34 = .ok (.getfield 24, 3) := by decide +kernel
theorem dX4_breakBefore_37 : decode cX4_breakBefore 37 = .ok (.getfield 65, 3) := by decide +kernel
theorem dX4_breakBefore_40 : decode cX4_breakBefore 40 = .ok (.if_icmp .eq 8, 3) := by decide +kernel
theorem dX4_breakBefore_43 : decode cX4_breakBefore 43 = .ok (.aload_n 0, 1) := by decide +kernel
theorem dX4_breakBefore_44 : decode cX4_breakBefore 44 = .ok (.aload_n 1, 1) := by decide +kernel
theorem dX4_breakBefore_45 : decode cX4_breakBefore 45 = .ok (.invokevirtual 56, 3) := by decide +kernel
theorem dX4_breakBefore_48 : decode cX4_breakBefore 48 = .ok (.iload_n 3, 1) := by decide +kernel
theorem dX4_breakBefore_49 : decode cX4_breakBefore 49 = .ok (.ifCond .eq 8, 3) := by decide +kernel
theorem dX4_breakBefore_52 : decode cX4_breakBefore 52 = .ok (.aload_n 0, 1) := by decide +kernel
theorem dX4_breakBefore_53 : decode cX4_breakBefore 53 = .ok (.aload_n 1, 1) := by decide +kernel
theorem dX4_breakBefore_54 : decode cX4_breakBefore 54 = .ok (.invokevirtual 59, 3) := by decide +kernel
theorem dX4_breakBefore_57 : decode cX4_breakBefore 57 = .ok (.return_, 1) := by decide +kernel
theorem dX4_breakWorker_0 : decode cX4_breakWorker 0 = .ok (.aload_n 0, 1) := by decide +kernel
theorem dX4_breakWorker_1 : decode cX4_breakWorker 1 = .ok (.getfield 12, 3) := by decide +kernel
theorem dX4_breakWorker_4 : decode cX4_breakWorker 4 = .ok (.aload_n 1, 1) := by decide +kernel
theorem dX4_breakWorker_5 : decode cX4_breakWorker 5 = .ok (.getfield 67, 3) := by decide +kernel
theorem dX4_breakWorker_8 : decode cX4_breakWorker 8 = .ok (.invokevirtual 70, 3) := by decide +kernel
theorem dX4_breakWorker_11 : decode cX4_breakWorker 11 = .ok (.istore_n 2, 1) := by decide +kernel
theorem dX4_breakWorker_12 : decode cX4_breakWorker 12 = .ok (.aload_n 0, 1) := by decide +kernel
theorem dX4_breakWorker_13 : decode cX4_breakWorker 13 = .ok (.getfield 12, 3) := by decide +kernel
theorem dX4_breakWorker_16 : decode cX4_breakWorker 16 = .ok (.iload_n 2, 1) := by decide +kernel
theorem dX4_breakWorker_17 : decode cX4_breakWorker 17 = .ok (.invokevirtual 74, 3) := by decide +kernel
theorem dX4_breakWorker_20 : decode cX4_breakWorker 20 = .ok (.aload_n 0, 1) := by decide +kernel
theorem dX4_breakWorker_21 : decode cX4_breakWorker 21 = .ok (.getfield 18, 3) := by decide +kernel
theorem dX4_breakWorker_24 : decode cX4_breakWorker 24 = .ok (.iload_n 2, 1) := by decide +kernel
theorem dX4_breakWorker_25 : decode cX4_breakWorker 25 = .ok (.invokevirtual 74, 3) := by decide +kernel
theorem dX4_breakWorker_28 : decode cX4_breakWorker 28 = .ok (.aload_n 0, 1) := by decide +kernel
theorem dX4_breakWorker_29 : decode cX4_breakWorker 29 = .ok (.getfield 21, 3) := by decide +kernel
theorem dX4_breakWorker_32 : decode cX4_breakWorker 32 = .ok (.iload_n 2, 1) := by decide +kernel
theorem dX4_breakWorker_33 : decode cX4_breakWorker 33 = .ok (.invokevirtual 74, 3) := by decide +kernel
theorem dX4_breakWorker_36 : decode cX4_breakWorker 36 = .ok (.aload_n 0, 1) := by decide +kernel
theorem dX4_breakWorker_37 : decode cX4_breakWorker 37 = .ok (.getfield 24, 3) := by decide +kernel
theorem dX4_breakWorker_40 : decode cX4_breakWorker 40 = .ok (.iload_n 2, 1) := by decide +kernel
theorem dX4_breakWorker_41 : decode cX4_breakWorker 41 = .ok (.invokevirtual 74, 3) := by decide +kernel
theorem dX4_breakWorker_44 : decode cX4_breakWorker 44 = .ok (.aload_n 1, 1) := by decide +kernel
theorem dX4_breakWorker_45 : decode cX4_breakWorker 45 = .ok (.iconst 1, 1) := by decide +kernel
theorem dX4_breakWorker_46 : decode cX4_breakWorker 46 = .ok (.aload_n 0, 1) := by decide +kernel
theorem dX4_breakWorker_47 : decode cX4_breakWorker 47 = .ok (.getfield 12, 3) := by decide +kernel
theorem dX4_breakWorker_50 : decode cX4_breakWorker 50 = .ok (.ldc 62, 2) := by decide +kernel
theorem dX4_breakWorker_52 : decode cX4_breakWorker 52 = .ok (.invokevirtual 42, 3) := by decide +kernel
theorem dX4_breakWorker_55 : decode cX4_breakWorker 55 = .ok (.aload_n 0, 1) := by decide +kernel
theorem dX4_breakWorker_56 : decode cX4_breakWorker 56 = .ok (.getfield 12, 3) := by decide +kernel
theorem dX4_breakWorker_59 : decode cX4_breakWorker 59 = .ok (.invokevirtual 27, 3) := by decide +kernel
theorem dX4_breakWorker_62 : decode cX4_breakWorker 62 = .ok (.return_, 1) := by decide +kernel
theorem dX4_breakGroup_0 : decode cX4_breakGroup 0 = .ok (.aload_n 1, 1) := by decide +kernel
theorem dX4_breakGroup_1 : decode cX4_breakGroup 1 = .ok (.iconst 2, 1) := by decide +kernel
theorem dX4_breakGroup_2 : decode cX4_breakGroup 2 = .ok (.aload_n 0, 1) := by decide +kernel
theorem dX4_breakGroup_3 : decode cX4_breakGroup 3 = .ok (.getfield 18, 3) := by decide +kernel
theorem dX4_breakGroup_6 : decode cX4_breakGroup 6 = .ok (.ldc 62, 2) := by decide +kernel
theorem dX4_breakGroup_8 : decode cX4_breakGroup 8 = .ok (.invokevirtual 42, 3) := by decide +kernel
theorem dX4_breakGroup_11 : decode cX4_breakGroup 11 = .ok (.aload_n 0, 1) := by decide +kernel
theorem dX4_breakGroup_12 : decode cX4_breakGroup 12 = .ok (.getfield 18, 3) := by decide +kernel
theorem dX4_breakGroup_15 : decode cX4_breakGroup 15 = .ok (.invokevirtual 27, 3) := by decide +kernel
theorem dX4_breakGroup_18 : decode cX4_breakGroup 18 = .ok (.return_, 1) := by decide +kernel
theorem dX4_breakDepartment_0 : decode cX4_breakDepartment 0 = .ok (.aload_n 1, 1) := by decide +kernel
theorem dX4_breakDepartment_1 : decode cX4_breakDepartment 1 = .ok (.iconst 3, 1) := by decide +kernel
theorem dX4_breakDepartment_2 : decode cX4_breakDepartment 2 = .ok (.aload_n 0, 1) := by decide +kernel
theorem dX4_breakDepartment_3 : decode cX4_breakDepartment 3 = .ok (.getfield 21, 3) := by decide +kernel
theorem dX4_breakDepartment_6 : decode cX4_breakDepartment 6 = .ok (.ldc 62, 2) := by decide +kernel
theorem dX4_breakDepartment_8 : decode cX4_breakDepartment 8 = .ok (.invokevirtual 42, 3) := by decide +kernel
theorem dX4_breakDepartment_11 : decode cX4_breakDepartment 11 = .ok (.aload_n 0, 1) := by decide +kernel
theorem dX4_breakDepartment_12 : decode cX4_breakDepartment 12 = .ok (.getfield 21, 3) := by decide +kernel
theorem dX4_breakDepartment_15 : decode cX4_breakDepartment 15 = .ok (.invokevirtual 27, 3) := by decide +kernel
theorem dX4_breakDepartment_18 : decode cX4_breakDepartment 18 = .ok (.return_, 1) := by decide +kernel
theorem dX5_init_0 : decode cX5_init 0 = .ok (.aload_n 0, 1) := by decide +kernel
theorem dX5_init_1 : decode cX5_init 1 = .ok (.invokespecial 3, 3) := by decide +kernel
theorem dX5_init_4 : decode cX5_init 4 = .ok (.aload_n 0, 1) := by decide +kernel
theorem dX5_init_5 : decode cX5_init 5 = .ok (.sipush 1610, 3) := by decide +kernel
theorem dX5_init_8 : decode cX5_init 8 = .ok (.newarray .int, 2) := by decide +kernel
theorem dX5_init_10 : decode cX5_init 10 = .ok (.putfield 9, 3) := by decide +kernel
theorem dX5_init_13 : decode cX5_init 13 = .ok (.aload_n 0, 1) := by decide +kernel
theorem dX5_init_14 : decode cX5_init 14 = .ok (.bipush 40, 2) := by decide +kernel
theorem dX5_init_16 : decode cX5_init 16 = .ok (.newarray .int, 2) := by decide +kernel
theorem dX5_init_18 : decode cX5_init 18 = .ok (.putfield 15, 3) := by decide +kernel
theorem dX5_init_21 : decode cX5_init 21 = .ok (.return_, 1) := by decide +kernel
theorem dX5_begin_0 : decode cX5_begin 0 = .ok (.aload_n 0, 1) := by decide +kernel
theorem dX5_begin_1 : decode cX5_begin 1 = .ok (.iconst 0, 1) := by decide +kernel
theorem dX5_begin_2 : decode cX5_begin 2 = .ok (.putfield 18, 3) := by decide +kernel
theorem dX5_begin_5 : decode cX5_begin 5 = .ok (.aload_n 0, 1) := by decide +kernel
theorem dX5_begin_6 : decode cX5_begin 6 = .ok (.iload_n 1, 1) := by decide +kernel
theorem dX5_begin_7 : decode cX5_begin 7 = .ok (.bipush 40, 2) := by decide +kernel
theorem dX5_begin_9 : decode cX5_begin 9 = .ok (.invokestatic 22, 3) := by decide +kernel
theorem dX5_begin_12 : decode cX5_begin 12 = .ok (.putfield 28, 3) := by decide +kernel
theorem dX5_begin_15 : decode cX5_begin 15 = .ok (.aload_n 0, 1) := by decide +kernel
theorem dX5_begin_16 : decode cX5_begin 16 = .ok (.iload_n 2, 1) := by decide +kernel
theorem dX5_begin_17 : decode cX5_begin 17 = .ok (.putfield 31, 3) := by decide +kernel
theorem dX5_begin_20 : decode cX5_begin 20 = .ok (.return_, 1) := by decide +kernel
theorem dX5_isEmpty_0 : decode cX5_isEmpty 0 = .ok (.aload_n 0, 1) := by decide +kernel
theorem dX5_isEmpty_1 : decode cX5_isEmpty 1 = .ok (.getfield 18, 3) := by decide +kernel
theorem dX5_isEmpty_4 : decode cX5_isEmpty 4 = .ok (.ifCond .ne 7, 3) := by decide +kernel
theorem dX5_isEmpty_7 : decode cX5_isEmpty 7 = .ok (.iconst 1, 1) := by decide +kernel
theorem dX5_isEmpty_8 : decode cX5_isEmpty 8 = .ok (.goto 4, 3) := by decide +kernel
theorem dX5_isEmpty_11 : decode cX5_isEmpty 11 = .ok (.iconst 0, 1) := by decide +kernel
theorem dX5_isEmpty_12 : decode cX5_isEmpty 12 = .ok (.ireturn, 1) := by decide +kernel
theorem dX5_has_0 : decode cX5_has 0 = .ok (.iload_n 1, 1) := by decide +kernel
theorem dX5_has_1 : decode cX5_has 1 = .ok (.ifCond .lt 15, 3) := by decide +kernel
theorem dX5_has_4 : decode cX5_has 4 = .ok (.iload_n 1, 1) := by decide +kernel
theorem dX5_has_5 : decode cX5_has 5 = .ok (.aload_n 0, 1) := by decide +kernel
theorem dX5_has_6 : decode cX5_has 6 = .ok (.getfield 18, 3) := by decide +kernel
theorem dX5_has_9 : decode cX5_has 9 = .ok (.if_icmp .ge 7, 3) := by decide +kernel
theorem dX5_has_12 : decode cX5_has 12 = .ok (.iconst 1, 1) := by decide +kernel
theorem dX5_has_13 : decode cX5_has 13 = .ok (.goto 4, 3) := by decide +kernel
theorem dX5_has_16 : decode cX5_has 16 = .ok (.iconst 0, 1) := by decide +kernel
theorem dX5_has_17 : decode cX5_has 17 = .ok (.ireturn, 1) := by decide +kernel
theorem dX5_hadCard_0 : decode cX5_hadCard 0 = .ok (.iload_n 1, 1) := by decide +kernel
theorem dX5_hadCard_1 : decode cX5_hadCard 1 = .ok (.ifCond .lt 15, 3) := by decide +kernel
theorem dX5_hadCard_4 : decode cX5_hadCard 4 = .ok (.iload_n 1, 1) := by decide +kernel
theorem dX5_hadCard_5 : decode cX5_hadCard 5 = .ok (.aload_n 0, 1) := by decide +kernel
theorem dX5_hadCard_6 : decode cX5_hadCard 6 = .ok (.getfield 28, 3) := by decide +kernel
theorem dX5_hadCard_9 : decode cX5_hadCard 9 = .ok (.if_icmp .ge 7, 3) := by decide +kernel
theorem dX5_hadCard_12 : decode cX5_hadCard 12 = .ok (.iconst 1, 1) := by decide +kernel
theorem dX5_hadCard_13 : decode cX5_hadCard 13 = .ok (.goto 4, 3) := by decide +kernel
theorem dX5_hadCard_16 : decode cX5_hadCard 16 = .ok (.iconst 0, 1) := by decide +kernel
theorem dX5_hadCard_17 : decode cX5_hadCard 17 = .ok (.ireturn, 1) := by decide +kernel
theorem dX5_reasonOf_0 : decode cX5_reasonOf 0 = .ok (.aload_n 0, 1) := by decide +kernel
theorem dX5_reasonOf_1 : decode cX5_reasonOf 1 = .ok (.iload_n 1, 1) := by decide +kernel
theorem dX5_reasonOf_2 : decode cX5_reasonOf 2 = .ok (.invokevirtual 34, 3) := by decide +kernel
theorem dX5_reasonOf_5 : decode cX5_reasonOf 5 = .ok (.ifCond .eq 12, 3) := by decide +kernel
theorem dX5_reasonOf_8 : decode cX5_reasonOf 8 = .ok (.aload_n 0, 1) := by decide +kernel
theorem dX5_reasonOf_9 : decode cX5_reasonOf 9 = .ok (.getfield 15, 3) := by decide +kernel
theorem dX5_reasonOf_12 : decode cX5_reasonOf 12 = .ok (.iload_n 1, 1) := by decide +kernel
theorem dX5_reasonOf_13 : decode cX5_reasonOf 13 = .ok (.iaload, 1) := by decide +kernel
theorem dX5_reasonOf_14 : decode cX5_reasonOf 14 = .ok (.goto 5, 3) := by decide +kernel
theorem dX5_reasonOf_17 : decode cX5_reasonOf 17 = .ok (.ldc 38, 2) := by decide +kernel
theorem dX5_reasonOf_19 : decode cX5_reasonOf 19 = .ok (.ireturn, 1) := by decide +kernel
theorem dX5_judge_0 : decode cX5_judge 0 = .ok (.aload_n 0, 1) := by decide +kernel
theorem dX5_judge_1 : decode cX5_judge 1 = .ok (.iload_n 1, 1) := by decide +kernel
theorem dX5_judge_2 : decode cX5_judge 2 = .ok (.invokevirtual 34, 3) := by decide +kernel
theorem dX5_judge_5 : decode cX5_judge 5 = .ok (.ifCond .eq 10, 3) := by decide +kernel
theorem dX5_judge_8 : decode cX5_judge 8 = .ok (.aload_n 0, 1) := by decide +kernel
theorem dX5_judge_9 : decode cX5_judge 9 = .ok (.getfield 15, 3) := by decide +kernel
theorem dX5_judge_12 : decode cX5_judge 12 = .ok (.iload_n 1, 1) := by decide +kernel
theorem dX5_judge_13 : decode cX5_judge 13 = .ok (.iload_n 2, 1) := by decide +kernel
theorem dX5_judge_14 : decode cX5_judge 14 = .ok (.iastore, 1) := by decide +kernel
theorem dX5_judge_15 : decode cX5_judge 15 = .ok (.return_, 1) := by decide +kernel
theorem dX5_refusedCards_0 : decode cX5_refusedCards 0 = .ok (.iconst 0, 1) := by decide +kernel
theorem dX5_refusedCards_1 : decode cX5_refusedCards 1 = .ok (.istore_n 1, 1) := by decide +kernel
theorem dX5_refusedCards_2 : decode cX5_refusedCards 2 = .ok (.iconst 0, 1) := by decide +kernel
theorem dX5_refusedCards_3 : decode cX5_refusedCards 3 = .ok (.istore_n 2, 1) := by decide +kernel
theorem dX5_refusedCards_4 : decode cX5_refusedCards 4 = .ok (.iload_n 2, 1) := by decide +kernel
theorem dX5_refusedCards_5 : decode cX5_refusedCards 5 = .ok (.aload_n 0, 1) := by decide +kernel
theorem dX5_refusedCards_6 : decode cX5_refusedCards 6 = .ok (.getfield 28, 3) := by decide +kernel
theorem dX5_refusedCards_9 : decode cX5_refusedCards 9 = .ok (.if_icmp .ge 25, 3) := by decide +kernel
theorem dX5_refusedCards_12 : decode cX5_refusedCards 12 = .ok (.aload_n 0, 1) := by decide +kernel
theorem dX5_refusedCards_13 : decode cX5_refusedCards 13 = .ok (.iload_n 2, 1) := by decide +kernel
theorem dX5_refusedCards_14 : decode cX5_refusedCards 14 = .ok (.invokevirtual 39, 3) := by decide +kernel
theorem dX5_refusedCards_17 : decode cX5_refusedCards 17 = .ok (.iconst 1, 1) := by decide +kernel
theorem dX5_refusedCards_18 : decode cX5_refusedCards 18 = .ok (.iconst 5, 1) := by decide +kernel
theorem dX5_refusedCards_19 : decode cX5_refusedCards 19 = .ok (.invokestatic 43, 3) := by decide +kernel
theorem dX5_refusedCards_22 : decode cX5_refusedCards 22 = .ok (.ifCond .eq 6, 3) := by decide +kernel
theorem dX5_refusedCards_25 : decode cX5_refusedCards 25 = .ok (.iinc 1 1, 3) := by decide +kernel
theorem dX5_refusedCards_28 : decode cX5_refusedCards 28 = .ok (.iinc 2 1, 3) := by decide +kernel
theorem dX5_refusedCards_31 : decode cX5_refusedCards 31 = .ok (.goto (-27), 3) := by decide +kernel
theorem dX5_refusedCards_34 : decode cX5_refusedCards 34 = .ok (.iload_n 1, 1) := by decide +kernel
theorem dX5_refusedCards_35 : decode cX5_refusedCards 35 = .ok (.ireturn, 1) := by decide +kernel
theorem dX5_number_0 : decode cX5_number 0 = .ok (.aload_n 0, 1) := by decide +kernel
theorem dX5_number_1 : decode cX5_number 1 = .ok (.iload_n 1, 1) := by decide +kernel
theorem dX5_number_2 : decode cX5_number 2 = .ok (.invokevirtual 47, 3) := by decide +kernel
theorem dX5_number_5 : decode cX5_number 5 = .ok (.ifCond .eq 27, 3) := by decide +kernel
theorem dX5_number_8 : decode cX5_number 8 = .ok (.iload_n 2, 1) := by decide +kernel
theorem dX5_number_9 : decode cX5_number 9 = .ok (.iconst 0, 1) := by decide +kernel
theorem dX5_number_10 : decode cX5_number 10 = .ok (.bipush 9, 2) := by decide +kernel
theorem dX5_number_12 : decode cX5_number 12 = .ok (.invokestatic 43, 3) := by decide +kernel
theorem dX5_number_15 : decode cX5_number 15 = .ok (.ifCond .eq 17, 3) := by decide +kernel
theorem dX5_number_18 : decode cX5_number 18 = .ok (.aload_n 0, 1) := by decide +kernel
theorem dX5_number_19 : decode cX5_number 19 = .ok (.getfield 9, 3) := by decide +kernel
theorem dX5_number_22 : decode cX5_number 22 = .ok (.iload_n 1, 1) := by decide +kernel
theorem dX5_number_23 : decode cX5_number 23 = .ok (.bipush 10, 2) := by decide +kernel
theorem dX5_number_25 : decode cX5_number 25 = .ok (.imul, 1) := by decide +kernel
theorem dX5_number_26 : decode cX5_number 26 = .ok (.iload_n 2, 1) := by decide +kernel
theorem dX5_number_27 : decode cX5_number 27 = .ok (.iadd, 1) := by decide +kernel
theorem dX5_number_28 : decode cX5_number 28 = .ok (.iaload, 1) := by decide +kernel
theorem dX5_number_29 : decode cX5_number 29 = .ok (.goto 4, 3) := by decide +kernel
theorem dX5_number_32 : decode cX5_number 32 = .ok (.iconst 0, 1) := by decide +kernel
theorem dX5_number_33 : decode cX5_number 33 = .ok (.ireturn, 1) := by decide +kernel
theorem dX5_lastLine_0 : decode cX5_lastLine 0 = .ok (.aload_n 0, 1) := by decide +kernel
theorem dX5_lastLine_1 : decode cX5_lastLine 1 = .ok (.aload_n 0, 1) := by decide +kernel
theorem dX5_lastLine_2 : decode cX5_lastLine 2 = .ok (.getfield 18, 3) := by decide +kernel
theorem dX5_lastLine_5 : decode cX5_lastLine 5 = .ok (.iconst 1, 1) := by decide +kernel
theorem dX5_lastLine_6 : decode cX5_lastLine 6 = .ok (.isub, 1) := by decide +kernel
theorem dX5_lastLine_7 : decode cX5_lastLine 7 = .ok (.iload_n 1, 1) := by decide +kernel
theorem dX5_lastLine_8 : decode cX5_lastLine 8 = .ok (.invokevirtual 50, 3) := by decide +kernel
theorem dX5_lastLine_11 : decode cX5_lastLine 11 = .ok (.ireturn, 1) := by decide +kernel
theorem dX5_sumOfWorkers_0 : decode cX5_sumOfWorkers 0 = .ok (.iconst 0, 1) := by decide +kernel
theorem dX5_sumOfWorkers_1 : decode cX5_sumOfWorkers 1 = .ok (.istore_n 1, 1) := by decide +kernel
theorem dX5_sumOfWorkers_2 : decode cX5_sumOfWorkers 2 = .ok (.iconst 0, 1) := by decide +kernel
theorem dX5_sumOfWorkers_3 : decode cX5_sumOfWorkers 3 = .ok (.istore_n 2, 1) := by decide +kernel
theorem dX5_sumOfWorkers_4 : decode cX5_sumOfWorkers 4 = .ok (.iload_n 2, 1) := by decide +kernel
theorem dX5_sumOfWorkers_5 : decode cX5_sumOfWorkers 5 = .ok (.aload_n 0, 1) := by decide +kernel
theorem dX5_sumOfWorkers_6 : decode cX5_sumOfWorkers 6 = .ok (.getfield 18, 3) := by decide +kernel
theorem dX5_sumOfWorkers_9 : decode cX5_sumOfWorkers 9 = .ok (.if_icmp .ge 26, 3) := by decide +kernel
theorem dX5_sumOfWorkers_12 : decode cX5_sumOfWorkers 12 = .ok (.aload_n 0, 1) := by decide +kernel
theorem dX5_sumOfWorkers_13 : decode cX5_sumOfWorkers 13 = .ok (.iload_n 2, 1) := by decide +kernel
theorem dX5_sumOfWorkers_14 : decode cX5_sumOfWorkers 14 = .ok (.invokevirtual 53, 3) := by decide +kernel
theorem dX5_sumOfWorkers_17 : decode cX5_sumOfWorkers 17 = .ok (.ifCond .eq 12, 3) := by decide +kernel
theorem dX5_sumOfWorkers_20 : decode cX5_sumOfWorkers 20 = .ok (.iload_n 1, 1) := by decide +kernel
theorem dX5_sumOfWorkers_21 : decode cX5_sumOfWorkers 21 = .ok (.aload_n 0, 1) := by decide +kernel
theorem dX5_sumOfWorkers_22 : decode cX5_sumOfWorkers 22 = .ok (.iload_n 2, 1) := by decide +kernel
theorem dX5_sumOfWorkers_23 : decode cX5_sumOfWorkers 23 = .ok (.iconst 3, 1) := by decide +kernel
theorem dX5_sumOfWorkers_24 : decode cX5_sumOfWorkers 24 = .ok (.invokevirtual 50, 3) := by decide +kernel
theorem dX5_sumOfWorkers_27 : decode cX5_sumOfWorkers 27 = .ok (.iadd, 1) := by decide +kernel
theorem dX5_sumOfWorkers_28 : decode cX5_sumOfWorkers 28 = .ok (.istore_n 1, 1) := by decide +kernel
theorem dX5_sumOfWorkers_29 : decode cX5_sumOfWorkers 29 = .ok (.iinc 2 1, 3) := by decide +kernel
theorem dX5_sumOfWorkers_32 : decode cX5_sumOfWorkers 32 = .ok (.goto (-28), 3) := by decide +kernel
theorem dX5_sumOfWorkers_35 : decode cX5_sumOfWorkers 35 = .ok (.iload_n 1, 1) := by decide +kernel
theorem dX5_sumOfWorkers_36 : decode cX5_sumOfWorkers 36 = .ok (.ireturn, 1) := by decide +kernel
theorem dX5_isCard_0 : decode cX5_isCard 0 = .ok (.aload_n 0, 1) := by decide +kernel
theorem dX5_isCard_1 : decode cX5_isCard 1 = .ok (.iload_n 1, 1) := by decide +kernel
theorem dX5_isCard_2 : decode cX5_isCard 2 = .ok (.invokevirtual 47, 3) := by decide +kernel
theorem dX5_isCard_5 : decode cX5_isCard 5 = .ok (.ifCond .eq 16, 3) := by decide +kernel
theorem dX5_isCard_8 : decode cX5_isCard 8 = .ok (.aload_n 0, 1) := by decide +kernel
theorem dX5_isCard_9 : decode cX5_isCard 9 = .ok (.iload_n 1, 1) := by decide +kernel
theorem dX5_isCard_10 : decode cX5_isCard 10 = .ok (.iconst 0, 1) := by decide +kernel
theorem dX5_isCard_11 : decode cX5_isCard 11 = .ok (.invokevirtual 50, 3) := by decide +kernel
theorem dX5_isCard_14 : decode cX5_isCard 14 = .ok (.ifCond .ne 7, 3) := by decide +kernel
theorem dX5_isCard_17 : decode cX5_isCard 17 = .ok (.iconst 1, 1) := by decide +kernel
theorem dX5_isCard_18 : decode cX5_isCard 18 = .ok (.goto 4, 3) := by decide +kernel
theorem dX5_isCard_21 : decode cX5_isCard 21 = .ok (.iconst 0, 1) := by decide +kernel
theorem dX5_isCard_22 : decode cX5_isCard 22 = .ok (.ireturn, 1) := by decide +kernel
theorem dX5_print_0 : decode cX5_print 0 = .ok (.aload_n 0, 1) := by decide +kernel
theorem dX5_print_1 : decode cX5_print 1 = .ok (.getfield 18, 3) := by decide +kernel
theorem dX5_print_4 : decode cX5_print 4 = .ok (.sipush 161, 3) := by decide +kernel
theorem dX5_print_7 : decode cX5_print 7 = .ok (.if_icmp .lt 4, 3) := by decide +kernel
theorem dX5_print_10 : decode cX5_print 10 = .ok (.return_, 1) := by decide +kernel
theorem dX5_print_11 : decode cX5_print 11 = .ok (.aload_n 0, 1) := by decide +kernel
theorem dX5_print_12 : decode cX5_print 12 = .ok (.getfield 18, 3) := by decide +kernel
theorem dX5_print_15 : decode cX5_print 15 = .ok (.bipush 10, 2) := by decide +kernel
theorem dX5_print_17 : decode cX5_print 17 = .ok (.imul, 1) := by decide +kernel
theorem dX5_print_18 : decode cX5_print 18 = .ok (.istore 4, 2) := by decide +kernel
theorem dX5_print_20 : decode cX5_print 20 = .ok (.aload_n 0, 1) := by decide +kernel
theorem dX5_print_21 : decode cX5_print 21 = .ok (.getfield 9, 3) := by decide +kernel
theorem dX5_print_24 : decode cX5_print 24 = .ok (.iload 4, 2) := by decide +kernel
theorem dX5_print_26 : decode cX5_print 26 = .ok (.iconst 0, 1) := by decide +kernel
theorem dX5_print_27 : decode cX5_print 27 = .ok (.iadd, 1) := by decide +kernel
theorem dX5_print_28 : decode cX5_print 28 = .ok (.iload_n 1, 1) := by decide +kernel
theorem dX5_print_29 : decode cX5_print 29 = .ok (.iastore, 1) := by decide +kernel
theorem dX5_print_30 : decode cX5_print 30 = .ok (.aload_n 0, 1) := by decide +kernel
theorem dX5_print_31 : decode cX5_print 31 = .ok (.getfield 9, 3) := by decide +kernel
theorem dX5_print_34 : decode cX5_print 34 = .ok (.iload 4, 2) := by decide +kernel
theorem dX5_print_36 : decode cX5_print 36 = .ok (.iconst 1, 1) := by decide +kernel
theorem dX5_print_37 : decode cX5_print 37 = .ok (.iadd, 1) := by decide +kernel
theorem dX5_print_38 : decode cX5_print 38 = .ok (.iload_n 1, 1) := by decide +kernel
theorem dX5_print_39 : decode cX5_print 39 = .ok (.iconst 3, 1) := by decide +kernel
theorem dX5_print_40 : decode cX5_print 40 = .ok (.if_icmp .gt 10, 3) := by decide +kernel
theorem dX5_print_43 : decode cX5_print 43 = .ok (.aload_n 2, 1) := by decide +kernel
theorem dX5_print_44 : decode cX5_print 44 = .ok (.getfield 56, 3) := by decide +kernel
theorem dX5_print_47 : decode cX5_print 47 = .ok (.goto 5, 3) := by decide +kernel
theorem dX5_print_50 : decode cX5_print 50 = .ok (.ldc 61, 2) := by decide +kernel
theorem dX5_print_52 : decode cX5_print 52 = .ok (.iastore, 1) := by decide +kernel
theorem dX5_print_53 : decode cX5_print 53 = .ok (.aload_n 0, 1) := by decide +kernel
theorem dX5_print_54 : decode cX5_print 54 = .ok (.getfield 9, 3) := by decide +kernel
theorem dX5_print_57 : decode cX5_print 57 = .ok (.iload 4, 2) := by decide +kernel
theorem dX5_print_59 : decode cX5_print 59 = .ok (.iconst 2, 1) := by decide +kernel
theorem dX5_print_60 : decode cX5_print 60 = .ok (.iadd, 1) := by decide +kernel
theorem dX5_print_61 : decode cX5_print 61 = .ok (.iload_n 1, 1) := by decide +kernel
theorem dX5_print_62 : decode cX5_print 62 = .ok (.iconst 2, 1) := by decide +kernel
theorem dX5_print_63 : decode cX5_print 63 = .ok (.if_icmp .gt 10, 3) := by decide +kernel
theorem dX5_print_66 : decode cX5_print 66 = .ok (.aload_n 2, 1) := by decide +kernel
theorem dX5_print_67 : decode cX5_print 67 = .ok (.getfield 62, 3) := by decide +kernel
theorem dX5_print_70 : decode cX5_print 70 = .ok (.goto 5, 3) := by decide +kernel
theorem dX5_print_73 : decode cX5_print 73 = .ok (.ldc 61, 2) := by decide +kernel
theorem dX5_print_75 : decode cX5_print 75 = .ok (.iastore, 1) := by decide +kernel
theorem dX5_print_76 : decode cX5_print 76 = .ok (.aload_n 0, 1) := by decide +kernel
theorem dX5_print_77 : decode cX5_print 77 = .ok (.getfield 9, 3) := by decide +kernel
theorem dX5_print_80 : decode cX5_print 80 = .ok (.iload 4, 2) := by decide +kernel
theorem dX5_print_82 : decode cX5_print 82 = .ok (.iconst 3, 1) := by decide +kernel
theorem dX5_print_83 : decode cX5_print 83 = .ok (.iadd, 1) := by decide +kernel
theorem dX5_print_84 : decode cX5_print 84 = .ok (.iload_n 1, 1) := by decide +kernel
theorem dX5_print_85 : decode cX5_print 85 = .ok (.iconst 1, 1) := by decide +kernel
theorem dX5_print_86 : decode cX5_print 86 = .ok (.if_icmp .gt 10, 3) := by decide +kernel
theorem dX5_print_89 : decode cX5_print 89 = .ok (.aload_n 2, 1) := by decide +kernel
theorem dX5_print_90 : decode cX5_print 90 = .ok (.getfield 65, 3) := by decide +kernel
theorem dX5_print_93 : decode cX5_print 93 = .ok (.goto 5, 3) := by decide +kernel
theorem dX5_print_96 : decode cX5_print 96 = .ok (.ldc 61, 2) := by decide +kernel
theorem dX5_print_98 : decode cX5_print 98 = .ok (.iastore, 1) := by decide +kernel
theorem dX5_print_99 : decode cX5_print 99 = .ok (.aload_n 0, 1) := by decide +kernel
theorem dX5_print_100 : decode cX5_print 100 = .ok (.getfield 9, 3) := by decide +kernel
theorem dX5_print_103 : decode cX5_print 103 = .ok (.iload 4, 2) := by decide +kernel
theorem dX5_print_105 : decode cX5_print 105 = .ok (.iconst 4, 1) := by decide +kernel
theorem dX5_print_106 : decode cX5_print 106 = .ok (.iadd, 1) := by decide +kernel
theorem dX5_print_107 : decode cX5_print 107 = .ok (.aload_n 2, 1) := by decide +kernel
theorem dX5_print_108 : decode cX5_print 108 = .ok (.getfield 68, 3) := by decide +kernel
theorem dX5_print_111 : decode cX5_print 111 = .ok (.iastore, 1) := by decide +kernel
theorem dX5_print_112 : decode cX5_print 112 = .ok (.aload_n 0, 1) := by decide +kernel
theorem dX5_print_113 : decode cX5_print 113 = .ok (.getfield 9, 3) := by decide +kernel
theorem dX5_print_116 : decode cX5_print 116 = .ok (.iload 4, 2) := by decide +kernel
theorem dX5_print_118 : decode cX5_print 118 = .ok (.iconst 5, 1) := by decide +kernel
theorem dX5_print_119 : decode cX5_print 119 = .ok (.iadd, 1) := by decide +kernel
theorem dX5_print_120 : decode cX5_print 120 = .ok (.aload_n 2, 1) := by decide +kernel
theorem dX5_print_121 : decode cX5_print 121 = .ok (.getfield 71, 3) := by decide +kernel
theorem dX5_print_124 : decode cX5_print 124 = .ok (.iastore, 1) := by decide +kernel
theorem dX5_print_125 : decode cX5_print 125 = .ok (.aload_n 0, 1) := by decide +kernel
theorem dX5_print_126 : decode cX5_print 126 = .ok (.getfield 9, 3) := by decide +kernel
theorem dX5_print_129 : decode cX5_print 129 = .ok (.iload 4, 2) := by decide +kernel
theorem dX5_print_131 : decode cX5_print 131 = .ok (.bipush 6, 2) := by decide +kernel
theorem dX5_print_133 : decode cX5_print 133 = .ok (.iadd, 1) := by decide +kernel
theorem dX5_print_134 : decode cX5_print 134 = .ok (.aload_n 2, 1) := by decide +kernel
theorem dX5_print_135 : decode cX5_print 135 = .ok (.getfield 74, 3) := by decide +kernel
theorem dX5_print_138 : decode cX5_print 138 = .ok (.iastore, 1) := by decide +kernel
theorem dX5_print_139 : decode cX5_print 139 = .ok (.aload_n 0, 1) := by decide +kernel
theorem dX5_print_140 : decode cX5_print 140 = .ok (.getfield 9, 3) := by decide +kernel
theorem dX5_print_143 : decode cX5_print 143 = .ok (.iload 4, 2) := by decide +kernel
theorem dX5_print_145 : decode cX5_print 145 = .ok (.bipush 7, 2) := by decide +kernel
theorem dX5_print_147 : decode cX5_print 147 = .ok (.iadd, 1) := by decide +kernel
theorem dX5_print_148 : decode cX5_print 148 = .ok (.aload_n 2, 1) := by decide +kernel
theorem dX5_print_149 : decode cX5_print 149 = .ok (.getfield 77, 3) := by decide +kernel
theorem dX5_print_152 : decode cX5_print 152 = .ok (.iastore, 1) := by decide +kernel
theorem dX5_print_153 : decode cX5_print 153 = .ok (.aload_n 0, 1) := by decide +kernel
theorem dX5_print_154 : decode cX5_print 154 = .ok (.getfield 9, 3) := by decide +kernel
theorem dX5_print_157 : decode cX5_print 157 = .ok (.iload 4, 2) := by decide +kernel
theorem dX5_print_159 : decode cX5_print 159 = .ok (.bipush 8, 2) := by decide +kernel
theorem dX5_print_161 : decode cX5_print 161 = .ok (.iadd, 1) := by decide +kernel
theorem dX5_print_162 : decode cX5_print 162 = .ok (.iload_n 3, 1) := by decide +kernel
theorem dX5_print_163 : decode cX5_print 163 = .ok (.iastore, 1) := by decide +kernel
theorem dX5_print_164 : decode cX5_print 164 = .ok (.aload_n 0, 1) := by decide +kernel
theorem dX5_print_165 : decode cX5_print 165 = .ok (.getfield 9, 3) := by decide +kernel
theorem dX5_print_168 : decode cX5_print 168 = .ok (.iload 4, 2) := by decide +kernel
theorem dX5_print_170 : decode cX5_print 170 = .ok (.bipush 9, 2) := by decide +kernel
theorem dX5_print_172 : decode cX5_print 172 = .ok (.iadd, 1) := by decide +kernel
theorem dX5_print_173 : decode cX5_print 173 = .ok (.aload_n 2, 1) := by decide +kernel
theorem dX5_print_174 : decode cX5_print 174 = .ok (.getfield 80, 3) := by decide +kernel
theorem dX5_print_177 : decode cX5_print 177 = .ok (.iastore, 1) := by decide +kernel
theorem dX5_print_178 : decode cX5_print 178 = .ok (.aload_n 0, 1) := by decide +kernel
theorem dX5_print_179 : decode cX5_print 179 = .ok (.dup, 1) := by decide +kernel
theorem dX5_print_180 : decode cX5_print 180 = .ok (.getfield 18, 3) := by decide +kernel
theorem dX5_print_183 : decode cX5_print 183 = .ok (.iconst 1, 1) := by decide +kernel
theorem dX5_print_184 : decode cX5_print 184 = .ok (.iadd, 1) := by decide +kernel
theorem dX5_print_185 : decode cX5_print 185 = .ok (.putfield 18, 3) := by decide +kernel
theorem dX5_print_188 : decode cX5_print 188 = .ok (.return_, 1) := by decide +kernel
theorem dX5_readCard_0 : decode cX5_readCard 0 = .ok (.aload_n 2, 1) := by decide +kernel
theorem dX5_readCard_1 : decode cX5_readCard 1 = .ok (.aload_n 0, 1) := by decide +kernel
theorem dX5_readCard_2 : decode cX5_readCard 2 = .ok (.iload_n 1, 1) := by decide +kernel
theorem dX5_readCard_3 : decode cX5_readCard 3 = .ok (.iconst 1, 1) := by decide +kernel
theorem dX5_readCard_4 : decode cX5_readCard 4 = .ok (.invokevirtual 50, 3) := by decide +kernel
theorem dX5_readCard_7 : decode cX5_readCard 7 = .ok (.putfield 56, 3) := by decide +kernel
theorem dX5_readCard_10 : decode cX5_readCard 10 = .ok (.aload_n 2, 1) := by decide +kernel
theorem dX5_readCard_11 : decode cX5_readCard 11 = .ok (.aload_n 0, 1) := by decide +kernel
theorem dX5_readCard_12 : decode cX5_readCard 12 = .ok (.iload_n 1, 1) := by decide +kernel
theorem dX5_readCard_13 : decode cX5_readCard 13 = .ok (.iconst 2, 1) := by decide +kernel
theorem dX5_readCard_14 : decode cX5_readCard 14 = .ok (.invokevirtual 50, 3) := by decide +kernel
theorem dX5_readCard_17 : decode cX5_readCard 17 = .ok (.putfield 62, 3) := by decide +kernel
theorem dX5_readCard_20 : decode cX5_readCard 20 = .ok (.aload_n 2, 1) := by decide +kernel
theorem dX5_readCard_21 : decode cX5_readCard 21 = .ok (.aload_n 0, 1) := by decide +kernel
theorem dX5_readCard_22 : decode cX5_readCard 22 = .ok (.iload_n 1, 1) := by decide +kernel
theorem dX5_readCard_23 : decode cX5_readCard 23 = .ok (.iconst 3, 1) := by decide +kernel
theorem dX5_readCard_24 : decode cX5_readCard 24 = .ok (.invokevirtual 50, 3) := by decide +kernel
theorem dX5_readCard_27 : decode cX5_readCard 27 = .ok (.putfield 65, 3) := by decide +kernel
theorem dX5_readCard_30 : decode cX5_readCard 30 = .ok (.aload_n 2, 1) := by decide +kernel
theorem dX5_readCard_31 : decode cX5_readCard 31 = .ok (.aload_n 0, 1) := by decide +kernel
theorem dX5_readCard_32 : decode cX5_readCard 32 = .ok (.iload_n 1, 1) := by decide +kernel
theorem dX5_readCard_33 : decode cX5_readCard 33 = .ok (.bipush 9, 2) := by decide +kernel
theorem dX5_readCard_35 : decode cX5_readCard 35 = .ok (.invokevirtual 50, 3) := by decide +kernel
theorem dX5_readCard_38 : decode cX5_readCard 38 = .ok (.putfield 80, 3) := by decide +kernel
theorem dX5_readCard_41 : decode cX5_readCard 41 = .ok (.aload_n 2, 1) := by decide +kernel
theorem dX5_readCard_42 : decode cX5_readCard 42 = .ok (.aload_n 0, 1) := by decide +kernel
theorem dX5_readCard_43 : decode cX5_readCard 43 = .ok (.iload_n 1, 1) := by decide +kernel
theorem dX5_readCard_44 : decode cX5_readCard 44 = .ok (.iconst 4, 1) := by decide +kernel
theorem dX5_readCard_45 : decode cX5_readCard 45 = .ok (.invokevirtual 50, 3) := by decide +kernel
theorem dX5_readCard_48 : decode cX5_readCard 48 = .ok (.putfield 68, 3) := by decide +kernel
theorem dX5_readCard_51 : decode cX5_readCard 51 = .ok (.aload_n 2, 1) := by decide +kernel
theorem dX5_readCard_52 : decode cX5_readCard 52 = .ok (.aload_n 0, 1) := by decide +kernel
theorem dX5_readCard_53 : decode cX5_readCard 53 = .ok (.iload_n 1, 1) := by decide +kernel
theorem dX5_readCard_54 : decode cX5_readCard 54 = .ok (.iconst 5, 1) := by decide +kernel
theorem dX5_readCard_55 : decode cX5_readCard 55 = .ok (.invokevirtual 50, 3) := by decide +kernel
theorem dX5_readCard_58 : decode cX5_readCard 58 = .ok (.putfield 71, 3) := by decide +kernel
theorem dX5_readCard_61 : decode cX5_readCard 61 = .ok (.aload_n 2, 1) := by decide +kernel
theorem dX5_readCard_62 : decode cX5_readCard 62 = .ok (.aload_n 0, 1) := by decide +kernel
theorem dX5_readCard_63 : decode cX5_readCard 63 = .ok (.iload_n 1, 1) := by decide +kernel
theorem dX5_readCard_64 : decode cX5_readCard 64 = .ok (.bipush 6, 2) := by decide +kernel
theorem dX5_readCard_66 : decode cX5_readCard 66 = .ok (.invokevirtual 50, 3) := by decide +kernel
theorem dX5_readCard_69 : decode cX5_readCard 69 = .ok (.putfield 74, 3) := by decide +kernel
theorem dX5_readCard_72 : decode cX5_readCard 72 = .ok (.aload_n 2, 1) := by decide +kernel
theorem dX5_readCard_73 : decode cX5_readCard 73 = .ok (.aload_n 0, 1) := by decide +kernel
theorem dX5_readCard_74 : decode cX5_readCard 74 = .ok (.iload_n 1, 1) := by decide +kernel
theorem dX5_readCard_75 : decode cX5_readCard 75 = .ok (.bipush 7, 2) := by decide +kernel
theorem dX5_readCard_77 : decode cX5_readCard 77 = .ok (.invokevirtual 50, 3) := by decide +kernel
theorem dX5_readCard_80 : decode cX5_readCard 80 = .ok (.putfield 77, 3) := by decide +kernel
theorem dX5_readCard_83 : decode cX5_readCard 83 = .ok (.return_, 1) := by decide +kernel
theorem dX5_copyFrom_0 : decode cX5_copyFrom 0 = .ok (.aload_n 0, 1) := by decide +kernel
theorem dX5_copyFrom_1 : decode cX5_copyFrom 1 = .ok (.aload_n 1, 1) := by decide +kernel
theorem dX5_copyFrom_2 : decode cX5_copyFrom 2 = .ok (.getfield 18, 3) := by decide +kernel
theorem dX5_copyFrom_5 : decode cX5_copyFrom 5 = .ok (.putfield 18, 3) := by decide +kernel
theorem dX5_copyFrom_8 : decode cX5_copyFrom 8 = .ok (.aload_n 0, 1) := by decide +kernel
theorem dX5_copyFrom_9 : decode cX5_copyFrom 9 = .ok (.aload_n 1, 1) := by decide +kernel
theorem dX5_copyFrom_10 : decode cX5_copyFrom 10 = .ok (.getfield 28, 3) := by decide +kernel
theorem dX5_copyFrom_13 : decode cX5_copyFrom 13 = .ok (.putfield 28, 3) := by decide +kernel
theorem dX5_copyFrom_16 : decode cX5_copyFrom 16 = .ok (.aload_n 0, 1) := by decide +kernel
theorem dX5_copyFrom_17 : decode cX5_copyFrom 17 = .ok (.aload_n 1, 1) := by decide +kernel
theorem dX5_copyFrom_18 : decode cX5_copyFrom 18 = .ok (.getfield 31, 3) := by decide +kernel
theorem dX5_copyFrom_21 : decode cX5_copyFrom 21 = .ok (.putfield 31, 3) := by decide +kernel
theorem dX5_copyFrom_24 : decode cX5_copyFrom 24 = .ok (.aload_n 1, 1) := by decide +kernel
theorem dX5_copyFrom_25 : decode cX5_copyFrom 25 = .ok (.getfield 9, 3) := by decide +kernel
theorem dX5_copyFrom_28 : decode cX5_copyFrom 28 = .ok (.iconst 0, 1) := by decide +kernel
theorem dX5_copyFrom_29 : decode cX5_copyFrom 29 = .ok (.aload_n 0, 1) := by decide +kernel
theorem dX5_copyFrom_30 : decode cX5_copyFrom 30 = .ok (.getfield 9, 3) := by decide +kernel
theorem dX5_copyFrom_33 : decode cX5_copyFrom 33 = .ok (.iconst 0, 1) := by decide +kernel
theorem dX5_copyFrom_34 : decode cX5_copyFrom 34 = .ok (.aload_n 0, 1) := by decide +kernel
theorem dX5_copyFrom_35 : decode cX5_copyFrom 35 = .ok (.getfield 18, 3) := by decide +kernel
theorem dX5_copyFrom_38 : decode cX5_copyFrom 38 = .ok (.bipush 10, 2) := by decide +kernel
theorem dX5_copyFrom_40 : decode cX5_copyFrom 40 = .ok (.imul, 1) := by decide +kernel
theorem dX5_copyFrom_41 : decode cX5_copyFrom 41 = .ok (.invokestatic 83, 3) := by decide +kernel
theorem dX5_copyFrom_44 : decode cX5_copyFrom 44 = .ok (.aload_n 1, 1) := by decide +kernel
theorem dX5_copyFrom_45 : decode cX5_copyFrom 45 = .ok (.getfield 15, 3) := by decide +kernel
theorem dX5_copyFrom_48 : decode cX5_copyFrom 48 = .ok (.iconst 0, 1) := by decide +kernel
theorem dX5_copyFrom_49 : decode cX5_copyFrom 49 = .ok (.aload_n 0, 1) := by decide +kernel
theorem dX5_copyFrom_50 : decode cX5_copyFrom 50 = .ok (.getfield 15, 3) := by decide +kernel
theorem dX5_copyFrom_53 : decode cX5_copyFrom 53 = .ok (.iconst 0, 1) := by decide +kernel
theorem dX5_copyFrom_54 : decode cX5_copyFrom 54 = .ok (.aload_n 0, 1) := by decide +kernel
theorem dX5_copyFrom_55 : decode cX5_copyFrom 55 = .ok (.getfield 28, 3) := by decide +kernel
theorem dX5_copyFrom_58 : decode cX5_copyFrom 58 = .ok (.invokestatic 83, 3) := by decide +kernel
theorem dX5_copyFrom_61 : decode cX5_copyFrom 61 = .ok (.return_, 1) := by decide +kernel
theorem dX6_init_0 : decode cX6_init 0 = .ok (.aload_n 0, 1) := by decide +kernel
theorem dX6_init_1 : decode cX6_init 1 = .ok (.invokespecial 3, 3) := by decide +kernel
theorem dX6_init_4 : decode cX6_init 4 = .ok (.aload_n 0, 1) := by decide +kernel
theorem dX6_init_5 : decode cX6_init 5 = .ok (.bipush 40, 2) := by decide +kernel
theorem dX6_init_7 : decode cX6_init 7 = .ok (.anewarray 9, 3) := by decide +kernel
theorem dX6_init_10 : decode cX6_init 10 = .ok (.putfield 11, 3) := by decide +kernel
theorem dX6_init_13 : decode cX6_init 13 = .ok (.aload_n 0, 1) := by decide +kernel
theorem dX6_init_14 : decode cX6_init 14 = .ok (.new 9, 3) := by decide +kernel
theorem dX6_init_17 : decode cX6_init 17 = .ok (.dup, 1) := by decide +kernel
theorem dX6_init_18 : decode cX6_init 18 = .ok (.invokespecial 17, 3) := by decide +kernel
theorem dX6_init_21 : decode cX6_init 21 = .ok (.putfield 18, 3) := by decide +kernel
theorem dX6_init_24 : decode cX6_init 24 = .ok (.aload_n 0, 1) := by decide +kernel
theorem dX6_init_25 : decode cX6_init 25 = .ok (.new 9, 3) := by decide +kernel
theorem dX6_init_28 : decode cX6_init 28 = .ok (.dup, 1) := by decide +kernel
theorem dX6_init_29 : decode cX6_init 29 = .ok (.invokespecial 17, 3) := by decide +kernel
theorem dX6_init_32 : decode cX6_init 32 = .ok (.putfield 22, 3) := by decide +kernel
theorem dX6_init_35 : decode cX6_init 35 = .ok (.iconst 0, 1) := by decide +kernel
theorem dX6_init_36 : decode cX6_init 36 = .ok (.istore_n 1, 1) := by decide +kernel
theorem dX6_init_37 : decode cX6_init 37 = .ok (.iload_n 1, 1) := by decide +kernel
theorem dX6_init_38 : decode cX6_init 38 = .ok (.bipush 40, 2) := by decide +kernel
theorem dX6_init_40 : decode cX6_init 40 = .ok (.if_icmp .ge 22, 3) := by decide +kernel
theorem dX6_init_43 : decode cX6_init 43 = .ok (.aload_n 0, 1) := by decide +kernel
theorem dX6_init_44 : decode cX6_init 44 = .ok (.getfield 11, 3) := by decide +kernel
theorem dX6_init_47 : decode cX6_init 47 = .ok (.iload_n 1, 1) := by decide +kernel
theorem dX6_init_48 : decode cX6_init 48 = .ok (.new 9, 3) := by decide +kernel
theorem dX6_init_51 : decode cX6_init 51 = .ok (.dup, 1) := by decide +kernel
theorem dX6_init_52 : decode cX6_init 52 = .ok (.invokespecial 17, 3) := by decide +kernel
theorem dX6_init_55 : decode cX6_init 55 = .ok (.aastore, 1) := by decide +kernel
theorem dX6_init_56 : decode cX6_init 56 = .ok (.iinc 1 1, 3) := by decide +kernel
theorem dX6_init_59 : decode cX6_init 59 = .ok (.goto (-22), 3) := by decide +kernel
theorem dX6_init_62 : decode cX6_init 62 = .ok (.return_, 1) := by decide +kernel
theorem dX6_size_0 : decode cX6_size 0 = .ok (.aload_n 0, 1) := by decide +kernel
theorem dX6_size_1 : decode cX6_size 1 = .ok (.getfield 25, 3) := by decide +kernel
theorem dX6_size_4 : decode cX6_size 4 = .ok (.ireturn, 1) := by decide +kernel
theorem dX6_at_0 : decode cX6_at 0 = .ok (.iload_n 1, 1) := by decide +kernel
theorem dX6_at_1 : decode cX6_at 1 = .ok (.ifCond .lt 18, 3) := by decide +kernel
theorem dX6_at_4 : decode cX6_at 4 = .ok (.iload_n 1, 1) := by decide +kernel
theorem dX6_at_5 : decode cX6_at 5 = .ok (.bipush 40, 2) := by decide +kernel
theorem dX6_at_7 : decode cX6_at 7 = .ok (.if_icmp .ge 12, 3) := by decide +kernel
theorem dX6_at_10 : decode cX6_at 10 = .ok (.aload_n 0, 1) := by decide +kernel
theorem dX6_at_11 : decode cX6_at 11 = .ok (.getfield 11, 3) := by decide +kernel
theorem dX6_at_14 : decode cX6_at 14 = .ok (.iload_n 1, 1) := by decide +kernel
