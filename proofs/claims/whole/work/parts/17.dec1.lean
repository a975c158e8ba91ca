theorem dX0_init_0 : decode cX0_init 0 = .ok (.aload_n 0, 1) := by decide +kernel
theorem dX0_init_1 : decode cX0_init 1 = .ok (.invokespecial 3, 3) := by decide +kernel
theorem dX0_init_4 : decode cX0_init 4 = .ok (.aload_n 0, 1) := by decide +kernel
theorem dX0_init_5 : decode cX0_init 5 = .ok (.bipush 24, 2) := by decide +kernel
theorem dX0_init_7 : decode cX0_init 7 = .ok (.newarray .int, 2) := by decide +kernel
theorem dX0_init_9 : decode cX0_init 9 = .ok (.putfield 9, 3) := by decide +kernel
theorem dX0_init_12 : decode cX0_init 12 = .ok (.aload_n 0, 1) := by decide +kernel
theorem dX0_init_13 : decode cX0_init 13 = .ok (.invokevirtual 15, 3) := by decide +kernel
theorem dX0_init_16 : decode cX0_init 16 = .ok (.return_, 1) := by decide +kernel
theorem dX0_clear_0 : decode cX0_clear 0 = .ok (.iconst 0, 1) := by decide +kernel
theorem dX0_clear_1 : decode cX0_clear 1 = .ok (.istore_n 1, 1) := by decide +kernel
theorem dX0_clear_2 : decode cX0_clear 2 = .ok (.iload_n 1, 1) := by decide +kernel
theorem dX0_clear_3 : decode cX0_clear 3 = .ok (.bipush 24, 2) := by decide +kernel
theorem dX0_clear_5 : decode cX0_clear 5 = .ok (.if_icmp .ge 17, 3) := by decide +kernel
theorem dX0_clear_8 : decode cX0_clear 8 = .ok (.aload_n 0, 1) := by decide +kernel
theorem dX0_clear_9 : decode cX0_clear 9 = .ok (.getfield 9, 3) := by decide +kernel
theorem dX0_clear_12 : decode cX0_clear 12 = .ok (.iload_n 1, 1) := by decide +kernel
theorem dX0_clear_13 : decode cX0_clear 13 = .ok (.ldc 18, 2) := by decide +kernel
theorem dX0_clear_15 : decode cX0_clear 15 = .ok (.iastore, 1) := by decide +kernel
theorem dX0_clear_16 : decode cX0_clear 16 = .ok (.iinc 1 1, 3) := by decide +kernel
theorem dX0_clear_19 : decode cX0_clear 19 = .ok (.goto (-17), 3) := by decide +kernel
theorem dX0_clear_22 : decode cX0_clear 22 = .ok (.aload_n 0, 1) := by decide +kernel
theorem dX0_clear_23 : decode cX0_clear 23 = .ok (.iconst 0, 1) := by decide +kernel
theorem dX0_clear_24 : decode cX0_clear 24 = .ok (.putfield 19, 3) := by decide +kernel
theorem dX0_clear_27 : decode cX0_clear 27 = .ok (.aload_n 0, 1) := by decide +kernel
theorem dX0_clear_28 : decode cX0_clear 28 = .ok (.iconst 0, 1) := by decide +kernel
theorem dX0_clear_29 : decode cX0_clear 29 = .ok (.putfield 23, 3) := by decide +kernel
theorem dX0_clear_32 : decode cX0_clear 32 = .ok (.return_, 1) := by decide +kernel
theorem dX0_shows_0 : decode cX0_shows 0 = .ok (.iload_n 1, 1) := by decide +kernel
theorem dX0_shows_1 : decode cX0_shows 1 = .ok (.invokestatic 26, 3) := by decide +kernel
theorem dX0_shows_4 : decode cX0_shows 4 = .ok (.ifCond .eq 12, 3) := by decide +kernel
theorem dX0_shows_7 : decode cX0_shows 7 = .ok (.aload_n 0, 1) := by decide +kernel
theorem dX0_shows_8 : decode cX0_shows 8 = .ok (.getfield 9, 3) := by decide +kernel
theorem dX0_shows_11 : decode cX0_shows 11 = .ok (.iload_n 1, 1) := by decide +kernel
theorem dX0_shows_12 : decode cX0_shows 12 = .ok (.iaload, 1) := by decide +kernel
theorem dX0_shows_13 : decode cX0_shows 13 = .ok (.goto 5, 3) := by decide +kernel
theorem dX0_shows_16 : decode cX0_shows 16 = .ok (.ldc 18, 2) := by decide +kernel
theorem dX0_shows_18 : decode cX0_shows 18 = .ok (.ireturn, 1) := by decide +kernel
theorem dX0_show_0 : decode cX0_show 0 = .ok (.iload_n 1, 1) := by decide +kernel
theorem dX0_show_1 : decode cX0_show 1 = .ok (.invokestatic 26, 3) := by decide +kernel
theorem dX0_show_4 : decode cX0_show 4 = .ok (.ifCond .eq 10, 3) := by decide +kernel
theorem dX0_show_7 : decode cX0_show 7 = .ok (.aload_n 0, 1) := by decide +kernel
theorem dX0_show_8 : decode cX0_show 8 = .ok (.getfield 9, 3) := by decide +kernel
theorem dX0_show_11 : decode cX0_show 11 = .ok (.iload_n 1, 1) := by decide +kernel
theorem dX0_show_12 : decode cX0_show 12 = .ok (.iload_n 2, 1) := by decide +kernel
theorem dX0_show_13 : decode cX0_show 13 = .ok (.iastore, 1) := by decide +kernel
theorem dX0_show_14 : decode cX0_show 14 = .ok (.return_, 1) := by decide +kernel
theorem dX0_readFrom_0 : decode cX0_readFrom 0 = .ok (.aload_n 0, 1) := by decide +kernel
theorem dX0_readFrom_1 : decode cX0_readFrom 1 = .ok (.aload_n 1, 1) := by decide +kernel
theorem dX0_readFrom_2 : decode cX0_readFrom 2 = .ok (.invokevirtual 30, 3) := by decide +kernel
theorem dX0_readFrom_5 : decode cX0_readFrom 5 = .ok (.aload_n 1, 1) := by decide +kernel
theorem dX0_readFrom_6 : decode cX0_readFrom 6 = .ok (.getfield 19, 3) := by decide +kernel
theorem dX0_readFrom_9 : decode cX0_readFrom 9 = .ok (.iconst 2, 1) := by decide +kernel
theorem dX0_readFrom_10 : decode cX0_readFrom 10 = .ok (.if_icmp .ne 26, 3) := by decide +kernel
theorem dX0_readFrom_13 : decode cX0_readFrom 13 = .ok (.aload_n 1, 1) := by decide +kernel
theorem dX0_readFrom_14 : decode cX0_readFrom 14 = .ok (.getfield 9, 3) := by decide +kernel
theorem dX0_readFrom_17 : decode cX0_readFrom 17 = .ok (.iconst 1, 1) := by decide +kernel
theorem dX0_readFrom_18 : decode cX0_readFrom 18 = .ok (.aload_n 0, 1) := by decide +kernel
theorem dX0_readFrom_19 : decode cX0_readFrom 19 = .ok (.getfield 9, 3) := by decide +kernel
theorem dX0_readFrom_22 : decode cX0_readFrom 22 = .ok (.iconst 0, 1) := by decide +kernel
theorem dX0_readFrom_23 : decode cX0_readFrom 23 = .ok (.bipush 23, 2) := by decide +kernel
theorem dX0_readFrom_25 : decode cX0_readFrom 25 = .ok (.invokestatic 34, 3) := by decide +kernel
theorem dX0_readFrom_28 : decode cX0_readFrom 28 = .ok (.aload_n 0, 1) := by decide +kernel
theorem dX0_readFrom_29 : decode cX0_readFrom 29 = .ok (.bipush 23, 2) := by decide +kernel
theorem dX0_readFrom_31 : decode cX0_readFrom 31 = .ok (.ldc 18, 2) := by decide +kernel
theorem dX0_readFrom_33 : decode cX0_readFrom 33 = .ok (.invokevirtual 40, 3) := by decide +kernel
theorem dX0_readFrom_36 : decode cX0_readFrom 36 = .ok (.aload_n 1, 1) := by decide +kernel
theorem dX0_readFrom_37 : decode cX0_readFrom 37 = .ok (.getfield 19, 3) := by decide +kernel
theorem dX0_readFrom_40 : decode cX0_readFrom 40 = .ok (.iconst 3, 1) := by decide +kernel
theorem dX0_readFrom_41 : decode cX0_readFrom 41 = .ok (.if_icmp .ne 13, 3) := by decide +kernel
theorem dX0_readFrom_44 : decode cX0_readFrom 44 = .ok (.aload_n 0, 1) := by decide +kernel
theorem dX0_readFrom_45 : decode cX0_readFrom 45 = .ok (.aload_n 1, 1) := by decide +kernel
theorem dX0_readFrom_46 : decode cX0_readFrom 46 = .ok (.getfield 23, 3) := by decide +kernel
theorem dX0_readFrom_49 : decode cX0_readFrom 49 = .ok (.ldc 18, 2) := by decide +kernel
theorem dX0_readFrom_51 : decode cX0_readFrom 51 = .ok (.invokevirtual 40, 3) := by decide +kernel
theorem dX0_readFrom_54 : decode cX0_readFrom 54 = .ok (.return_, 1) := by decide +kernel
theorem dX0_copyFrom_0 : decode cX0_copyFrom 0 = .ok (.aload_n 1, 1) := by decide +kernel
theorem dX0_copyFrom_1 : decode cX0_copyFrom 1 = .ok (.getfield 9, 3) := by decide +kernel
theorem dX0_copyFrom_4 : decode cX0_copyFrom 4 = .ok (.iconst 0, 1) := by decide +kernel
theorem dX0_copyFrom_5 : decode cX0_copyFrom 5 = .ok (.aload_n 0, 1) := by decide +kernel
theorem dX0_copyFrom_6 : decode cX0_copyFrom 6 = .ok (.getfield 9, 3) := by decide +kernel
theorem dX0_copyFrom_9 : decode cX0_copyFrom 9 = .ok (.iconst 0, 1) := by decide +kernel
theorem dX0_copyFrom_10 : decode cX0_copyFrom 10 = .ok (.bipush 24, 2) := by decide +kernel
theorem dX0_copyFrom_12 : decode cX0_copyFrom 12 = .ok (.invokestatic 34, 3) := by decide +kernel
theorem dX0_copyFrom_15 : decode cX0_copyFrom 15 = .ok (.aload_n 0, 1) := by decide +kernel
theorem dX0_copyFrom_16 : decode cX0_copyFrom 16 = .ok (.aload_n 1, 1) := by decide +kernel
theorem dX0_copyFrom_17 : decode cX0_copyFrom 17 = .ok (.getfield 19, 3) := by decide +kernel
theorem dX0_copyFrom_20 : decode cX0_copyFrom 20 = .ok (.putfield 19, 3) := by decide +kernel
theorem dX0_copyFrom_23 : decode cX0_copyFrom 23 = .ok (.aload_n 0, 1) := by decide +kernel
theorem dX0_copyFrom_24 : decode cX0_copyFrom 24 = .ok (.aload_n 1, 1) := by decide +kernel
theorem dX0_copyFrom_25 : decode cX0_copyFrom 25 = .ok (.getfield 23, 3) := by decide +kernel
theorem dX0_copyFrom_28 : decode cX0_copyFrom 28 = .ok (.putfield 23, 3) := by decide +kernel
theorem dX0_copyFrom_31 : decode cX0_copyFrom 31 = .ok (.return_, 1) := by decide +kernel
theorem dX1_init_0 : decode cX1_init 0 = .ok (.aload_n 0, 1) := by decide +kernel
theorem dX1_init_1 : decode cX1_init 1 = .ok (.invokespecial 3, 3) := by decide +kernel
theorem dX1_init_4 : decode cX1_init 4 = .ok (.aload_n 0, 1) := by decide +kernel
theorem dX1_init_5 : decode cX1_init 5 = .ok (.bipush 40, 2) := by decide +kernel
theorem dX1_init_7 : decode cX1_init 7 = .ok (.anewarray 9, 3) := by decide +kernel
theorem dX1_init_10 : decode cX1_init 10 = .ok (.putfield 11, 3) := by decide +kernel
theorem dX1_init_13 : decode cX1_init 13 = .ok (.aload_n 0, 1) := by decide +kernel
theorem dX1_init_14 : decode cX1_init 14 = .ok (.new 9, 3) := by decide +kernel
theorem dX1_init_17 : decode cX1_init 17 = .ok (.dup, 1) := by decide +kernel
theorem dX1_init_18 : decode cX1_init 18 = .ok (.invokespecial 17, 3) := by decide +kernel
theorem dX1_init_21 : decode cX1_init 21 = .ok (.putfield 18, 3) := by decide +kernel
theorem dX1_init_24 : decode cX1_init 24 = .ok (.iconst 0, 1) := by decide +kernel
theorem dX1_init_25 : decode cX1_init 25 = .ok (.istore_n 1, 1) := by decide +kernel
theorem dX1_init_26 : decode cX1_init 26 = .ok (.iload_n 1, 1) := by decide +kernel
theorem dX1_init_27 : decode cX1_init 27 = .ok (.bipush 40, 2) := by decide +kernel
theorem dX1_init_29 : decode cX1_init 29 = .ok (.if_icmp .ge 22, 3) := by decide +kernel
theorem dX1_init_32 : decode cX1_init 32 = .ok (.aload_n 0, 1) := by decide +kernel
theorem dX1_init_33 : decode cX1_init 33 = .ok (.getfield 11, 3) := by decide +kernel
theorem dX1_init_36 : decode cX1_init 36 = .ok (.iload_n 1, 1) := by decide +kernel
theorem dX1_init_37 : decode cX1_init 37 = .ok (.new 9, 3) := by decide +kernel
theorem dX1_init_40 : decode cX1_init 40 = .ok (.dup, 1) := by decide +kernel
theorem dX1_init_41 : decode cX1_init 41 = .ok (.invokespecial 17, 3) := by decide +kernel
theorem dX1_init_44 : decode cX1_init 44 = .ok (.aastore, 1) := by decide +kernel
theorem dX1_init_45 : decode cX1_init 45 = .ok (.iinc 1 1, 3) := by decide +kernel
theorem dX1_init_48 : decode cX1_init 48 = .ok (.goto (-22), 3) := by decide +kernel
theorem dX1_init_51 : decode cX1_init 51 = .ok (.return_, 1) := by decide +kernel
theorem dX1_size_0 : decode cX1_size 0 = .ok (.aload_n 0, 1) := by decide +kernel
theorem dX1_size_1 : decode cX1_size 1 = .ok (.getfield 22, 3) := by decide +kernel
theorem dX1_size_4 : decode cX1_size 4 = .ok (.ireturn, 1) := by decide +kernel
theorem dX1_has_0 : decode cX1_has 0 = .ok (.iload_n 1, 1) := by decide +kernel
theorem dX1_has_1 : decode cX1_has 1 = .ok (.ifCond .lt 15, 3) := by decide +kernel
theorem dX1_has_4 : decode cX1_has 4 = .ok (.iload_n 1, 1) := by decide +kernel
theorem dX1_has_5 : decode cX1_has 5 = .ok (.aload_n 0, 1) := by decide +kernel
theorem dX1_has_6 : decode cX1_has 6 = .ok (.getfield 22, 3) := by decide +kernel
theorem dX1_has_9 : decode cX1_has 9 = .ok (.if_icmp .ge 7, 3) := by decide +kernel
theorem dX1_has_12 : decode cX1_has 12 = .ok (.iconst 1, 1) := by decide +kernel
theorem dX1_has_13 : decode cX1_has 13 = .ok (.goto 4, 3) := by decide +kernel
theorem dX1_has_16 : decode cX1_has 16 = .ok (.iconst 0, 1) := by decide +kernel
theorem dX1_has_17 : decode cX1_has 17 = .ok (.ireturn, 1) := by decide +kernel
theorem dX1_at_0 : decode cX1_at 0 = .ok (.iload_n 1, 1) := by decide +kernel
theorem dX1_at_1 : decode cX1_at 1 = .ok (.ifCond .lt 18, 3) := by decide +kernel
theorem dX1_at_4 : decode cX1_at 4 = .ok (.iload_n 1, 1) := by decide +kernel
theorem dX1_at_5 : decode cX1_at 5 = .ok (.bipush 40, 2) := by decide +kernel
theorem dX1_at_7 : decode cX1_at 7 = .ok (.if_icmp .ge 12, 3) := by decide +kernel
theorem dX1_at_10 : decode cX1_at 10 = .ok (.aload_n 0, 1) := by decide +kernel
theorem dX1_at_11 : decode cX1_at 11 = .ok (.getfield 11, 3) := by decide +kernel
theorem dX1_at_14 : decode cX1_at 14 = .ok (.iload_n 1, 1) := by decide +kernel
theorem dX1_at_15 : decode cX1_at 15 = .ok (.aaload, 1) := by decide +kernel
theorem dX1_at_16 : decode cX1_at 16 = .ok (.goto 4, 3) := by decide +kernel
theorem dX1_at_19 : decode cX1_at 19 = .ok (.aconst_null, 1) := by decide +kernel
theorem dX1_at_20 : decode cX1_at 20 = .ok (.astore_n 2, 1) := by decide +kernel
theorem dX1_at_21 : decode cX1_at 21 = .ok (.aload_n 2, 1) := by decide +kernel
theorem dX1_at_22 : decode cX1_at 22 = .ok (.ifnonnull 10, 3) := by decide +kernel
theorem dX1_at_25 : decode cX1_at 25 = .ok (.aload_n 0, 1) := by decide +kernel
theorem dX1_at_26 : decode cX1_at 26 = .ok (.getfield 18, 3) := by decide +kernel
theorem dX1_at_29 : decode cX1_at 29 = .ok (.goto 4, 3) := by decide +kernel
theorem dX1_at_32 : decode cX1_at 32 = .ok (.aload_n 2, 1) := by decide +kernel
theorem dX1_at_33 : decode cX1_at 33 = .ok (.areturn, 1) := by decide +kernel
theorem dX1_put_0 : decode cX1_put 0 = .ok (.iload_n 1, 1) := by decide +kernel
theorem dX1_put_1 : decode cX1_put 1 = .ok (.ifCond .lt 16, 3) := by decide +kernel
theorem dX1_put_4 : decode cX1_put 4 = .ok (.iload_n 1, 1) := by decide +kernel
theorem dX1_put_5 : decode cX1_put 5 = .ok (.bipush 40, 2) := by decide +kernel
theorem dX1_put_7 : decode cX1_put 7 = .ok (.if_icmp .ge 10, 3) := by decide +kernel
theorem dX1_put_10 : decode cX1_put 10 = .ok (.aload_n 0, 1) := by decide +kernel
theorem dX1_put_11 : decode cX1_put 11 = .ok (.getfield 11, 3) := by decide +kernel
theorem dX1_put_14 : decode cX1_put 14 = .ok (.iload_n 1, 1) := by decide +kernel
theorem dX1_put_15 : decode cX1_put 15 = .ok (.aload_n 2, 1) := by decide +kernel
theorem dX1_put_16 : decode cX1_put 16 = .ok (.aastore, 1) := by decide +kernel
theorem dX1_put_17 : decode cX1_put 17 = .ok (.return_, 1) := by decide +kernel
theorem dX1_insertBlank_0 : decode cX1_insertBlank 0 = .ok (.aload_n 0, 1) := by decide +kernel
theorem dX1_insertBlank_1 : decode cX1_insertBlank 1 = .ok (.getfield 22, 3) := by decide +kernel
theorem dX1_insertBlank_4 : decode cX1_insertBlank 4 = .ok (.bipush 40, 2) := by decide +kernel
theorem dX1_insertBlank_6 : decode cX1_insertBlank 6 = .ok (.if_icmp .lt 8, 3) := by decide +kernel
theorem dX1_insertBlank_9 : decode cX1_insertBlank 9 = .ok (.aload_n 0, 1) := by decide +kernel
theorem dX1_insertBlank_10 : decode cX1_insertBlank 10 = .ok (.getfield 18, 3) := by decide +kernel
theorem dX1_insertBlank_13 : decode cX1_insertBlank 13 = .ok (.areturn, 1) := by decide +kernel
theorem dX1_insertBlank_14 : decode cX1_insertBlank 14 = .ok (.aload_n 0, 1) := by decide +kernel
theorem dX1_insertBlank_15 : decode cX1_insertBlank 15 = .ok (.aload_n 0, 1) := by decide +kernel
theorem dX1_insertBlank_16 : decode cX1_insertBlank 16 = .ok (.getfield 22, 3) := by decide +kernel
theorem dX1_insertBlank_19 : decode cX1_insertBlank 19 = .ok (.invokevirtual 26, 3) := by decide +kernel
theorem dX1_insertBlank_22 : decode cX1_insertBlank 22 = .ok (.astore_n 2, 1) := by decide +kernel
theorem dX1_insertBlank_23 : decode cX1_insertBlank 23 = .ok (.aload_n 2, 1) := by decide +kernel
theorem dX1_insertBlank_24 : decode cX1_insertBlank 24 = .ok (.invokevirtual 30, 3) := by decide +kernel
theorem dX1_insertBlank_27 : decode cX1_insertBlank 27 = .ok (.aload_n 0, 1) := by decide +kernel
theorem dX1_insertBlank_28 : decode cX1_insertBlank 28 = .ok (.aload_n 0, 1) := by decide +kernel
theorem dX1_insertBlank_29 : decode cX1_insertBlank 29 = .ok (.getfield 22, 3) := by decide +kernel
theorem dX1_insertBlank_32 : decode cX1_insertBlank 32 = .ok (.iload_n 1, 1) := by decide +kernel
theorem dX1_insertBlank_33 : decode cX1_insertBlank 33 = .ok (.invokevirtual 33, 3) := by decide +kernel
theorem dX1_insertBlank_36 : decode cX1_insertBlank 36 = .ok (.aload_n 0, 1) := by decide +kernel
theorem dX1_insertBlank_37 : decode cX1_insertBlank 37 = .ok (.dup, 1) := by decide +kernel
theorem dX1_insertBlank_38 : decode cX1_insertBlank 38 = .ok (.getfield 22, 3) := by decide +kernel
theorem dX1_insertBlank_41 : decode cX1_insertBlank 41 = .ok (.iconst 1, 1) := by decide +kernel
theorem dX1_insertBlank_42 : decode cX1_insertBlank 42 = .ok (.iadd, 1) := by decide +kernel
theorem dX1_insertBlank_43 : decode cX1_insertBlank 43 = .ok (.putfield 22, 3) := by decide +kernel
theorem dX1_insertBlank_46 : decode cX1_insertBlank 46 = .ok (.aload_n 2, 1) := by decide +kernel
theorem dX1_insertBlank_47 : decode cX1_insertBlank 47 = .ok (.areturn, 1) := by decide +kernel
theorem dX1_remove_0 : decode cX1_remove 0 = .ok (.aload_n 0, 1) := by decide +kernel
theorem dX1_remove_1 : decode cX1_remove 1 = .ok (.iload_n 1, 1) := by decide +kernel
theorem dX1_remove_2 : decode cX1_remove 2 = .ok (.invokevirtual 37, 3) := by decide +kernel
theorem dX1_remove_5 : decode cX1_remove 5 = .ok (.ifCond .eq 24, 3) := by decide +kernel
theorem dX1_remove_8 : decode cX1_remove 8 = .ok (.aload_n 0, 1) := by decide +kernel
theorem dX1_remove_9 : decode cX1_remove 9 = .ok (.iload_n 1, 1) := by decide +kernel
theorem dX1_remove_10 : decode cX1_remove 10 = .ok (.aload_n 0, 1) := by decide +kernel
theorem dX1_remove_11 : decode cX1_remove 11 = .ok (.getfield 22, 3) := by decide +kernel
theorem dX1_remove_14 : decode cX1_remove 14 = .ok (.iconst 1, 1) := by decide +kernel
theorem dX1_remove_15 : decode cX1_remove 15 = .ok (.isub, 1) := by decide +kernel
theorem dX1_remove_16 : decode cX1_remove 16 = .ok (.invokevirtual 33, 3) := by decide +kernel
theorem dX1_remove_19 : decode cX1_remove 19 = .ok (.aload_n 0, 1) := by decide +kernel
theorem dX1_remove_20 : decode cX1_remove 20 = .ok (.dup, 1) := by decide +kernel
theorem dX1_remove_21 : decode cX1_remove 21 = .ok (.getfield 22, 3) := by decide +kernel
theorem dX1_remove_24 : decode cX1_remove 24 = .ok (.iconst 1, 1) := by decide +kernel
theorem dX1_remove_25 : decode cX1_remove 25 = .ok (.isub, 1) := by decide +kernel
theorem dX1_remove_26 : decode cX1_remove 26 = .ok (.putfield 22, 3) := by decide +kernel
theorem dX1_remove_29 : decode cX1_remove 29 = .ok (.return_, 1) := by decide +kernel
theorem dX1_carry_0 : decode cX1_carry 0 = .ok (.aload_n 0, 1) := by decide +kernel
theorem dX1_carry_1 : decode cX1_carry 1 = .ok (.iload_n 1, 1) := by decide +kernel
theorem dX1_carry_2 : decode cX1_carry 2 = .ok (.invokevirtual 26, 3) := by decide +kernel
theorem dX1_carry_5 : decode cX1_carry 5 = .ok (.astore_n 3, 1) := by decide +kernel
theorem dX1_carry_6 : decode cX1_carry 6 = .ok (.iload_n 1, 1) := by decide +kernel
theorem dX1_carry_7 : decode cX1_carry 7 = .ok (.istore 4, 2) := by decide +kernel
theorem dX1_carry_9 : decode cX1_carry 9 = .ok (.iload 4, 2) := by decide +kernel
theorem dX1_carry_11 : decode cX1_carry 11 = .ok (.iload_n 2, 1) := by decide +kernel
theorem dX1_carry_12 : decode cX1_carry 12 = .ok (.if_icmp .ge 23, 3) := by decide +kernel
theorem dX1_carry_15 : decode cX1_carry 15 = .ok (.aload_n 0, 1) := by decide +kernel
theorem dX1_carry_16 : decode cX1_carry 16 = .ok (.iload 4, 2) := by decide +kernel
theorem dX1_carry_18 : decode cX1_carry 18 = .ok (.aload_n 0, 1) := by decide +kernel
theorem dX1_carry_19 : decode cX1_carry 19 = .ok (.iload 4, 2) := by decide +kernel
theorem dX1_carry_21 : decode cX1_carry 21 = .ok (.iconst 1, 1) := by decide +kernel
theorem dX1_carry_22 : decode cX1_carry 22 = .ok (.iadd, 1) := by decide +kernel
theorem dX1_carry_23 : decode cX1_carry 23 = .ok (.invokevirtual 26, 3) := by decide +kernel
theorem dX1_carry_26 : decode cX1_carry 26 = .ok (.invokevirtual 41, 3) := by decide +kernel
theorem dX1_carry_29 : decode cX1_carry 29 = .ok (.iinc 4 1, 3) := by decide +kernel
theorem dX1_carry_32 : decode cX1_carry 32 = .ok (.goto (-23), 3) := by decide +kernel
theorem dX1_carry_35 : decode cX1_carry 35 = .ok (.iload_n 1, 1) := by decide +kernel
theorem dX1_carry_36 : decode cX1_carry 36 = .ok (.istore 4, 2) := by decide +kernel
theorem dX1_carry_38 : decode cX1_carry 38 = .ok (.iload 4, 2) := by decide +kernel
theorem dX1_carry_40 : decode cX1_carry 40 = .ok (.iload_n 2, 1) := by decide +kernel
theorem dX1_carry_41 : decode cX1_carry 41 = .ok (.if_icmp .le 23, 3) := by decide +kernel
theorem dX1_carry_44 : decode cX1_carry 44 = .ok (.aload_n 0, 1) := by decide +kernel
theorem dX1_carry_45 : decode cX1_carry 45 = .ok (.iload 4, 2) := by decide +kernel
theorem dX1_carry_47 : decode cX1_carry 47 = .ok (.aload_n 0, 1) := by decide +kernel
theorem dX1_carry_48 : decode cX1_carry 48 = .ok (.iload 4, 2) := by decide +kernel
theorem dX1_carry_50 : decode cX1_carry 50 = .ok (.iconst 1, 1) := by decide +kernel
theorem dX1_carry_51 : decode cX1_carry 51 = .ok (.isub, 1) := by decide +kernel
theorem dX1_carry_52 : decode cX1_carry 52 = .ok (.invokevirtual 26, 3) := by decide +kernel
theorem dX1_carry_55 : decode cX1_carry 55 = .ok (.invokevirtual 41, 3) := by decide +kernel
theorem dX1_carry_58 : decode cX1_carry 58 = .ok (.iinc 4 (-1), 3) := by decide +kernel
theorem dX1_carry_61 : decode cX1_carry 61 = .ok (.goto (-23), 3) := by decide +kernel
theorem dX1_carry_64 : decode cX1_carry 64 = .ok (.aload_n 0, 1) := by decide +kernel
theorem dX1_carry_65 : decode cX1_carry 65 = .ok (.iload_n 2, 1) := by decide +kernel
theorem dX1_carry_66 : decode cX1_carry 66 = .ok (.aload_n 3, 1) := by decide +kernel
theorem dX1_carry_67 : decode cX1_carry 67 = .ok (.invokevirtual 41, 3) := by decide +kernel
theorem dX1_carry_70 : decode cX1_carry 70 = .ok (.return_, 1) := by decide +kernel
theorem dX1_copyFrom_0 : decode cX1_copyFrom 0 = .ok (.aload_n 0, 1) := by decide +kernel
theorem dX1_copyFrom_1 : decode cX1_copyFrom 1 = .ok (.aload_n 1, 1) := by decide +kernel
theorem dX1_copyFrom_2 : decode cX1_copyFrom 2 = .ok (.getfield 22, 3) := by decide +kernel
theorem dX1_copyFrom_5 : decode cX1_copyFrom 5 = .ok (.putfield 22, 3) := by decide +kernel
theorem dX1_copyFrom_8 : decode cX1_copyFrom 8 = .ok (.iconst 0, 1) := by decide +kernel
theorem dX1_copyFrom_9 : decode cX1_copyFrom 9 = .ok (.istore_n 2, 1) := by decide +kernel
theorem dX1_copyFrom_10 : decode cX1_copyFrom 10 = .ok (.iload_n 2, 1) := by decide +kernel
theorem dX1_copyFrom_11 : decode cX1_copyFrom 11 = .ok (.aload_n 0, 1) := by decide +kernel
theorem dX1_copyFrom_12 : decode cX1_copyFrom 12 = .ok (.getfield 22, 3) := by decide +kernel
theorem dX1_copyFrom_15 : decode cX1_copyFrom 15 = .ok (.if_icmp .ge 22, 3) := by decide +kernel
theorem dX1_copyFrom_18 : decode cX1_copyFrom 18 = .ok (.aload_n 0, 1) := by decide +kernel
theorem dX1_copyFrom_19 : decode cX1_copyFrom 19 = .ok (.iload_n 2, 1) := by decide +kernel
theorem dX1_copyFrom_20 : decode cX1_copyFrom 20 = .ok (.invokevirtual 26, 3) := by decide +kernel
theorem dX1_copyFrom_23 : decode cX1_copyFrom 23 = .ok (.aload_n 1, 1) := by decide +kernel
theorem dX1_copyFrom_24 : decode cX1_copyFrom 24 = .ok (.iload_n 2, 1) := by decide +kernel
theorem dX1_copyFrom_25 : decode cX1_copyFrom 25 = .ok (.invokevirtual 26, 3) := by decide +kernel
theorem dX1_copyFrom_28 : decode cX1_copyFrom 28 = .ok (.invokevirtual 45, 3) := by decide +kernel
theorem dX1_copyFrom_31 : decode cX1_copyFrom 31 = .ok (.iinc 2 1, 3) := by decide +kernel
theorem dX1_copyFrom_34 : decode cX1_copyFrom 34 = .ok (.goto (-24), 3) := by decide +kernel
theorem dX1_copyFrom_37 : decode cX1_copyFrom 37 = .ok (.return_, 1) := by decide +kernel
theorem dX2_init_0 : decode cX2_init 0 = .ok (.aload_n 0, 1) := by decide +kernel
theorem dX2_init_1 : decode cX2_init 1 = .ok (.invokespecial 3, 3) := by decide +kernel
theorem dX2_init_4 : decode cX2_init 4 = .ok (.aload_n 0, 1) := by decide +kernel
theorem dX2_init_5 : decode cX2_init 5 = .ok (.bipush 8, 2) := by decide +kernel
theorem dX2_init_7 : decode cX2_init 7 = .ok (.anewarray 9, 3) := by decide +kernel
theorem dX2_init_10 : decode cX2_init 10 = .ok (.putfield 11, 3) := by decide +kernel
theorem dX2_init_13 : decode cX2_init 13 = .ok (.return_, 1) := by decide +kernel
theorem dX2_size_0 : decode cX2_size 0 = .ok (.aload_n 0, 1) := by decide +kernel
theorem dX2_size_1 : decode cX2_size 1 = .ok (.getfield 17, 3) := by decide +kernel
theorem dX2_size_4 : decode cX2_size 4 = .ok (.ireturn, 1) := by decide +kernel
theorem dX2_isEmpty_0 : decode cX2_isEmpty 0 = .ok (.aload_n 0, 1) := by decide +kernel
theorem dX2_isEmpty_1 : decode cX2_isEmpty 1 = .ok (.getfield 17, 3) := by decide +kernel
theorem dX2_isEmpty_4 : decode cX2_isEmpty 4 = .ok (.ifCond .ne 7, 3) := by decide +kernel
theorem dX2_isEmpty_7 : decode cX2_isEmpty 7 = .ok (.iconst 1, 1) := by decide +kernel
theorem dX2_isEmpty_8 : decode cX2_isEmpty 8 = .ok (.goto 4, 3) := by decide +kernel
theorem dX2_isEmpty_11 : decode cX2_isEmpty 11 = .ok (.iconst 0, 1) := by decide +kernel
theorem dX2_isEmpty_12 : decode cX2_isEmpty 12 = .ok (.ireturn, 1) := by decide +kernel
theorem dX2_record_0 : decode cX2_record 0 = .ok (.aload_n 0, 1) := by decide +kernel
theorem dX2_record_1 : decode cX2_record 1 = .ok (.aload_n 0, 1) := by decide +kernel
theorem dX2_record_2 : decode cX2_record 2 = .ok (.getfield 17, 3) := by decide +kernel
theorem dX2_record_5 : decode cX2_record 5 = .ok (.invokevirtual 21, 3) := by decide +kernel
theorem dX2_record_8 : decode cX2_record 8 = .ok (.aload_n 1, 1) := by decide +kernel
theorem dX2_record_9 : decode cX2_record 9 = .ok (.invokevirtual 25, 3) := by decide +kernel
theorem dX2_record_12 : decode cX2_record 12 = .ok (.aload_n 0, 1) := by decide +kernel
theorem dX2_record_13 : decode cX2_record 13 = .ok (.getfield 17, 3) := by decide +kernel
theorem dX2_record_16 : decode cX2_record 16 = .ok (.bipush 8, 2) := by decide +kernel
theorem dX2_record_18 : decode cX2_record 18 = .ok (.if_icmp .ge 16, 3) := by decide +kernel
theorem dX2_record_21 : decode cX2_record 21 = .ok (.aload_n 0, 1) := by decide +kernel
theorem dX2_record_22 : decode cX2_record 22 = .ok (.dup, 1) := by decide +kernel
theorem dX2_record_23 : decode cX2_record 23 = .ok (.getfield 17, 3) := by decide +kernel
theorem dX2_record_26 : decode cX2_record 26 = .ok (.iconst 1, 1) := by decide +kernel
theorem dX2_record_27 : decode cX2_record 27 = .ok (.iadd, 1) := by decide +kernel
theorem dX2_record_28 : decode cX2_record 28 = .ok (.putfield 17, 3) := by decide +kernel
theorem dX2_record_31 : decode cX2_record 31 = .ok (.goto 16, 3) := by decide +kernel
theorem dX2_record_34 : decode cX2_record 34 = .ok (.aload_n 0, 1) := by decide +kernel
theorem dX2_record_35 : decode cX2_record 35 = .ok (.aload_n 0, 1) := by decide +kernel
theorem dX2_record_36 : decode cX2_record 36 = .ok (.getfield 29, 3) := by decide +kernel
theorem dX2_record_39 : decode cX2_record 39 = .ok (.iconst 1, 1) := by decide +kernel
theorem dX2_record_40 : decode cX2_record 40 = .ok (.iadd, 1) := by decide +kernel
theorem dX2_record_41 : decode cX2_record 41 = .ok (.bipush 8, 2) := by decide +kernel
theorem dX2_record_43 : decode cX2_record 43 = .ok (.irem, 1) := by decide +kernel
theorem dX2_record_44 : decode cX2_record 44 = .ok (.putfield 29, 3) := by decide +kernel
theorem dX2_record_47 : decode cX2_record 47 = .ok (.return_, 1) := by decide +kernel
theorem dX2_restoreInto_0 : decode cX2_restoreInto 0 = .ok (.aload_n 0, 1) := by decide +kernel
theorem dX2_restoreInto_1 : decode cX2_restoreInto 1 = .ok (.getfield 17, 3) := by decide +kernel
theorem dX2_restoreInto_4 : decode cX2_restoreInto 4 = .ok (.ifCond .le 25, 3) := by decide +kernel
theorem dX2_restoreInto_7 : decode cX2_restoreInto 7 = .ok (.aload_n 0, 1) := by decide +kernel
theorem dX2_restoreInto_8 : decode cX2_restoreInto 8 = .ok (.dup, 1) := by decide +kernel
theorem dX2_restoreInto_9 : decode cX2_restoreInto 9 = .ok (.getfield 17, 3) := by decide +kernel
theorem dX2_restoreInto_12 : decode cX2_restoreInto 12 = .ok (.iconst 1, 1) := by decide +kernel
theorem dX2_restoreInto_13 : decode cX2_restoreInto 13 = .ok (.isub, 1) := by decide +kernel
theorem dX2_restoreInto_14 : decode cX2_restoreInto 14 = .ok (.putfield 17, 3) := by decide +kernel
theorem dX2_restoreInto_17 : decode cX2_restoreInto 17 = .ok (.aload_n 1, 1) := by decide +kernel
theorem dX2_restoreInto_18 : decode cX2_restoreInto 18 = .ok (.aload_n 0, 1) := by decide +kernel
theorem dX2_restoreInto_19 : decode cX2_restoreInto 19 = .ok (.aload_n 0, 1) := by decide +kernel
theorem dX2_restoreInto_20 : decode cX2_restoreInto 20 = .ok (.getfield 17, 3) := by decide +kernel
theorem dX2_restoreInto_23 : decode cX2_restoreInto 23 = .ok (.invokevirtual 21, 3) := by decide +kernel
theorem dX2_restoreInto_26 : decode cX2_restoreInto 26 = .ok (.invokevirtual 25, 3) := by decide +kernel
theorem dX2_restoreInto_29 : decode cX2_restoreInto 29 = .ok (.return_, 1) := by decide +kernel
theorem dX2_at_0 : decode cX2_at 0 = .ok (.aload_n 0, 1) := by decide +kernel
theorem dX2_at_1 : decode cX2_at 1 = .ok (.getfield 29, 3) := by decide +kernel
theorem dX2_at_4 : decode cX2_at 4 = .ok (.iload_n 1, 1) := by decide +kernel
theorem dX2_at_5 : decode cX2_at 5 = .ok (.iadd, 1) := by decide +kernel
theorem dX2_at_6 : decode cX2_at 6 = .ok (.bipush 8, 2) := by decide +kernel
theorem dX2_at_8 : decode cX2_at 8 = .ok (.invokestatic 32, 3) := by decide +kernel
theorem dX2_at_11 : decode cX2_at 11 = .ok (.istore_n 2, 1) := by decide +kernel
theorem dX2_at_12 : decode cX2_at 12 = .ok (.aload_n 0, 1) := by decide +kernel
theorem dX2_at_13 : decode cX2_at 13 = .ok (.getfield 11, 3) := by decide +kernel
theorem dX2_at_16 : decode cX2_at 16 = .ok (.iload_n 2, 1) := by decide +kernel
theorem dX2_at_17 : decode cX2_at 17 = .ok (.aaload, 1) := by decide +kernel
theorem dX2_at_18 : decode cX2_at 18 = .ok (.astore_n 3, 1) := by decide +kernel
theorem dX2_at_19 : decode cX2_at 19 = .ok (.aload_n 3, 1) := by decide +kernel
theorem dX2_at_20 : decode cX2_at 20 = .ok (.ifnonnull 18, 3) := by decide +kernel
theorem dX2_at_23 : decode cX2_at 23 = .ok (.new 9, 3) := by decide +kernel
theorem dX2_at_26 : decode cX2_at 26 = .ok (.dup, 1) := by decide +kernel
theorem dX2_at_27 : decode cX2_at 27 = .ok (.invokespecial 38, 3) := by decide +kernel
theorem dX2_at_30 : decode cX2_at 30 = .ok (.astore_n 3, 1) := by decide +kernel
theorem dX2_at_31 : decode cX2_at 31 = .ok (.aload_n 0, 1) := by decide +kernel
theorem dX2_at_32 : decode cX2_at 32 = .ok (.getfield 11, 3) := by decide +kernel
theorem dX2_at_35 : decode cX2_at 35 = .ok (.iload_n 2, 1) := by decide +kernel
theorem dX2_at_36 : decode cX2_at 36 = .ok (.aload_n 3, 1) := by decide +kernel
theorem dX2_at_37 : decode cX2_at 37 = .ok (.aastore, 1) := by decide +kernel
theorem dX2_at_38 : decode cX2_at 38 = .ok (.aload_n 3, 1) := by decide +kernel
theorem dX2_at_39 : decode cX2_at 39 = .ok (.areturn, 1) := by decide +kernel
theorem dX3_init_0 : decode cX3_init 0 = .ok (.aload_n 0, 1) := by decide +kernel
theorem dX3_init_1 : decode cX3_init 1 = .ok (.invokespecial 3, 3) := by decide +kernel
theorem dX3_init_4 : decode cX3_init 4 = .ok (.aload_n 0, 1) := by decide +kernel
theorem dX3_init_5 : decode cX3_init 5 = .ok (.bipush 6, 2) := by decide +kernel
theorem dX3_init_7 : decode cX3_init 7 = .ok (.newarray .int, 2) := by decide +kernel
theorem dX3_init_9 : decode cX3_init 9 = .ok (.dup, 1) := by decide +kernel
theorem dX3_init_10 : decode cX3_init 10 = .ok (.iconst 0, 1) := by decide +kernel
theorem dX3_init_11 : decode cX3_init 11 = .ok (.iconst 0, 1) := by decide +kernel
theorem dX3_init_12 : decode cX3_init 12 = .ok (.iastore, 1) := by decide +kernel
theorem dX3_init_13 : decode cX3_init 13 = .ok (.dup, 1) := by decide +kernel
theorem dX3_init_14 : decode cX3_init 14 = .ok (.iconst 1, 1) := by decide +kernel
theorem dX3_init_15 : decode cX3_init 15 = .ok (.iconst 2, 1) := by decide +kernel
theorem dX3_init_16 : decode cX3_init 16 = .ok (.iastore, 1) := by decide +kernel
theorem dX3_init_17 : decode cX3_init 17 = .ok (.dup, 1) := by decide +kernel
theorem dX3_init_18 : decode cX3_init 18 = .ok (.iconst 2, 1) := by decide +kernel
theorem dX3_init_19 : decode cX3_init 19 = .ok (.iconst 4, 1) := by decide +kernel
theorem dX3_init_20 : decode cX3_init 20 = .ok (.iastore, 1) := by decide +kernel
theorem dX3_init_21 : decode cX3_init 21 = .ok (.dup, 1) := by decide +kernel
theorem dX3_init_22 : decode cX3_init 22 = .ok (.iconst 3, 1) := by decide +kernel
theorem dX3_init_23 : decode cX3_init 23 = .ok (.bipush 7, 2) := by decide +kernel
theorem dX3_init_25 : decode cX3_init 25 = .ok (.iastore, 1) := by decide +kernel
theorem dX3_init_26 : decode cX3_init 26 = .ok (.dup, 1) := by decide +kernel
theorem dX3_init_27 : decode cX3_init 27 = .ok (.iconst 4, 1) := by decide +kernel
theorem dX3_init_28 : decode cX3_init 28 = .ok (.bipush 10, 2) := by decide +kernel
theorem dX3_init_30 : decode cX3_init 30 = .ok (.iastore, 1) := by decide +kernel
theorem dX3_init_31 : decode cX3_init 31 = .ok (.dup, 1) := by decide +kernel
theorem dX3_init_32 : decode cX3_init 32 = .ok (.iconst 5, 1) := by decide +kernel
theorem dX3_init_33 : decode cX3_init 33 = .ok (.bipush 14, 2) := by decide +kernel
theorem dX3_init_35 : decode cX3_init 35 = .ok (.iastore, 1) := by decide +kernel
theorem dX3_init_36 : decode cX3_init 36 = .ok (.putfield 9, 3) := by decide +kernel
theorem dX3_init_39 : decode cX3_init 39 = .ok (.aload_n 0, 1) := by decide +kernel
theorem dX3_init_40 : decode cX3_init 40 = .ok (.bipush 6, 2) := by decide +kernel
theorem dX3_init_42 : decode cX3_init 42 = .ok (.newarray .int, 2) := by decide +kernel
theorem dX3_init_44 : decode cX3_init 44 = .ok (.dup, 1) := by decide +kernel
theorem dX3_init_45 : decode cX3_init 45 = .ok (.iconst 0, 1) := by decide +kernel
theorem dX3_init_46 : decode cX3_init 46 = .ok (.iconst 2, 1) := by decide +kernel
theorem dX3_init_47 : decode cX3_init 47 = .ok (.iastore, 1) := by decide +kernel
theorem dX3_init_48 : decode cX3_init 48 = .ok (.dup, 1) := by decide +kernel
theorem dX3_init_49 : decode cX3_init 49 = .ok (.iconst 1, 1) := by decide +kernel
theorem dX3_init_50 : decode cX3_init 50 = .ok (.iconst 2, 1) := by decide +kernel
theorem dX3_init_51 : decode cX3_init 51 = .ok (.iastore, 1) := by decide +kernel
theorem dX3_init_52 : decode cX3_init 52 = .ok (.dup, 1) := by decide +kernel
theorem dX3_init_53 : decode cX3_init 53 = .ok (.iconst 2, 1) := by decide +kernel
theorem dX3_init_54 : decode cX3_init 54 = .ok (.iconst 3, 1) := by decide +kernel
theorem dX3_init_55 : decode cX3_init 55 = .ok (.iastore, 1) := by decide +kernel
theorem dX3_init_56 : decode cX3_init 56 = .ok (.dup, 1) := by decide +kernel
theorem dX3_init_57 : decode cX3_init 57 = .ok (.iconst 3, 1) := by decide +kernel
theorem dX3_init_58 : decode cX3_init 58 = .ok (.iconst 3, 1) := by decide +kernel
theorem dX3_init_59 : decode cX3_init 59 = .ok (.iastore, 1) := by decide +kernel
theorem dX3_init_60 : decode cX3_init 60 = .ok (.dup, 1) := by decide +kernel
theorem dX3_init_61 : decode cX3_init 61 = .ok (.iconst 4, 1) := by decide +kernel
theorem dX3_init_62 : decode cX3_init 62 = .ok (.iconst 4, 1) := by decide +kernel
theorem dX3_init_63 : decode cX3_init 63 = .ok (.iastore, 1) := by decide +kernel
theorem dX3_init_64 : decode cX3_init 64 = .ok (.dup, 1) := by decide +kernel
theorem dX3_init_65 : decode cX3_init 65 = .ok (.iconst 5, 1) := by decide +kernel
theorem dX3_init_66 : decode cX3_init 66 = .ok (.iconst 1, 1) := by decide +kernel
theorem dX3_init_67 : decode cX3_init 67 = .ok (.iastore, 1) := by decide +kernel
theorem dX3_init_68 : decode cX3_init 68 = .ok (.putfield 15, 3) := by decide +kernel
theorem dX3_init_71 : decode cX3_init 71 = .ok (.return_, 1) := by decide +kernel
theorem dX3_firstOf_0 : decode cX3_firstOf 0 = .ok (.iload_n 1, 1) := by decide +kernel
theorem dX3_firstOf_1 : decode cX3_firstOf 1 = .ok (.invokestatic 18, 3) := by decide +kernel
theorem dX3_firstOf_4 : decode cX3_firstOf 4 = .ok (.ifCond .eq 12, 3) := by decide +kernel
theorem dX3_firstOf_7 : decode cX3_firstOf 7 = .ok (.aload_n 0, 1) := by decide +kernel
theorem dX3_firstOf_8 : decode cX3_firstOf 8 = .ok (.getfield 9, 3) := by decide +kernel
theorem dX3_firstOf_11 : decode cX3_firstOf 11 = .ok (.iload_n 1, 1) := by decide +kernel
theorem dX3_firstOf_12 : decode cX3_firstOf 12 = .ok (.iaload, 1) := by decide +kernel
theorem dX3_firstOf_13 : decode cX3_firstOf 13 = .ok (.goto 4, 3) := by decide +kernel
theorem dX3_firstOf_16 : decode cX3_firstOf 16 = .ok (.iconst 0, 1) := by decide +kernel
theorem dX3_firstOf_17 : decode cX3_firstOf 17 = .ok (.ireturn, 1) := by decide +kernel
theorem dX3_widthOf_0 : decode cX3_widthOf 0 = .ok (.iload_n 1, 1) := by decide +kernel
theorem dX3_widthOf_1 : decode cX3_widthOf 1 = .ok (.invokestatic 18, 3) := by decide +kernel
theorem dX3_widthOf_4 : decode cX3_widthOf 4 = .ok (.ifCond .eq 12, 3) := by decide +kernel
theorem dX3_widthOf_7 : decode cX3_widthOf 7 = .ok (.aload_n 0, 1) := by decide +kernel
theorem dX3_widthOf_8 : decode cX3_widthOf 8 = .ok (.getfield 15, 3) := by decide +kernel
theorem dX3_widthOf_11 : decode cX3_widthOf 11 = .ok (.iload_n 1, 1) := by decide +kernel
theorem dX3_widthOf_12 : decode cX3_widthOf 12 = .ok (.iaload, 1) := by decide +kernel
theorem dX3_widthOf_13 : decode cX3_widthOf 13 = .ok (.goto 4, 3) := by decide +kernel
theorem dX3_widthOf_16 : decode cX3_widthOf 16 = .ok (.iconst 0, 1) := by decide +kernel
theorem dX3_widthOf_17 : decode cX3_widthOf 17 = .ok (.ireturn, 1) := by decide +kernel
theorem dX3_place_0 : decode cX3_place 0 = .ok (.iload_n 1, 1) := by decide +kernel
theorem dX3_place_1 : decode cX3_place 1 = .ok (.invokestatic 18, 3) := by decide +kernel
theorem dX3_place_4 : decode cX3_place 4 = .ok (.ifCond .eq 17, 3) := by decide +kernel
theorem dX3_place_7 : decode cX3_place 7 = .ok (.aload_n 0, 1) := by decide +kernel
theorem dX3_place_8 : decode cX3_place 8 = .ok (.getfield 9, 3) := by decide +kernel
theorem dX3_place_11 : decode cX3_place 11 = .ok (.iload_n 1, 1) := by decide +kernel
theorem dX3_place_12 : decode cX3_place 12 = .ok (.iload_n 2, 1) := by decide +kernel
theorem dX3_place_13 : decode cX3_place 13 = .ok (.iastore, 1) := by decide +kernel
theorem dX3_place_14 : decode cX3_place 14 = .ok (.aload_n 0, 1) := by decide +kernel
theorem dX3_place_15 : decode cX3_place 15 = .ok (.getfield 15, 3) := by decide +kernel
theorem dX3_place_18 : decode cX3_place 18 = .ok (.iload_n 1, 1) := by decide +kernel
theorem dX3_place_19 : decode cX3_place 19 = .ok (.iload_n 3, 1) := by decide +kernel
theorem dX3_place_20 : decode cX3_place 20 = .ok (.iastore, 1) := by decide +kernel
theorem dX3_place_21 : decode cX3_place 21 = .ok (.return_, 1) := by decide +kernel
theorem dX3_valueOn_0 : decode cX3_valueOn 0 = .ok (.aload_n 0, 1) := by decide +kernel
theorem dX3_valueOn_1 : decode cX3_valueOn 1 = .ok (.iload_n 2, 1) := by decide +kernel
theorem dX3_valueOn_2 : decode cX3_valueOn 2 = .ok (.invokevirtual 22, 3) := by decide +kernel
theorem dX3_valueOn_5 : decode cX3_valueOn 5 = .ok (.istore_n 3, 1) := by decide +kernel
theorem dX3_valueOn_6 : decode cX3_valueOn 6 = .ok (.aload_n 0, 1) := by decide +kernel
theorem dX3_valueOn_7 : decode cX3_valueOn 7 = .ok (.iload_n 2, 1) := by decide +kernel
theorem dX3_valueOn_8 : decode cX3_valueOn 8 = .ok (.invokevirtual 26, 3) := by decide +kernel
theorem dX3_valueOn_11 : decode cX3_valueOn 11 = .ok (.istore 4, 2) := by decide +kernel
theorem dX3_valueOn_13 : decode cX3_valueOn 13 = .ok (.iconst 0, 1) := by decide +kernel
theorem dX3_valueOn_14 : decode cX3_valueOn 14 = .ok (.istore 5, 2) := by decide +kernel
theorem dX3_valueOn_16 : decode cX3_valueOn 16 = .ok (.iconst 0, 1) := by decide +kernel
theorem dX3_valueOn_17 : decode cX3_valueOn 17 = .ok (.istore 6, 2) := by decide +kernel
theorem dX3_valueOn_19 : decode cX3_valueOn 19 = .ok (.iload 6, 2) := by decide +kernel
theorem dX3_valueOn_21 : decode cX3_valueOn 21 = .ok (.iload 4, 2) := by decide +kernel
theorem dX3_valueOn_23 : decode cX3_valueOn 23 = .ok (.if_icmp .ge 39, 3) := by decide +kernel
theorem dX3_valueOn_26 : decode cX3_valueOn 26 = .ok (.aload_n 1, 1) := by decide +kernel
theorem dX3_valueOn_27 : decode cX3_valueOn 27 = .ok (.iload_n 3, 1) := by decide +kernel
theorem dX3_valueOn_28 : decode cX3_valueOn 28 = .ok (.iload 6, 2) := by decide +kernel
theorem dX3_valueOn_30 : decode cX3_valueOn 30 = .ok (.iadd, 1) := by decide +kernel
theorem dX3_valueOn_31 : decode cX3_valueOn 31 = .ok (.invokevirtual 29, 3) := by decide +kernel
theorem dX3_valueOn_34 : decode cX3_valueOn 34 = .ok (.istore 7, 2) := by decide +kernel
theorem dX3_valueOn_36 : decode cX3_valueOn 36 = .ok (.iload 7, 2) := by decide +kernel
theorem dX3_valueOn_38 : decode cX3_valueOn 38 = .ok (.ldc 34, 2) := by decide +kernel
theorem dX3_valueOn_40 : decode cX3_valueOn 40 = .ok (.if_icmp .ne 6, 3) := by decide +kernel
theorem dX3_valueOn_43 : decode cX3_valueOn 43 = .ok (.ldc 34, 2) := by decide +kernel
theorem dX3_valueOn_45 : decode cX3_valueOn 45 = .ok (.ireturn, 1) := by decide +kernel
theorem dX3_valueOn_46 : decode cX3_valueOn 46 = .ok (.bipush 10, 2) := by decide +kernel
theorem dX3_valueOn_48 : decode cX3_valueOn 48 = .ok (.iload 5, 2) := by decide +kernel
theorem dX3_valueOn_50 : decode cX3_valueOn 50 = .ok (.imul, 1) := by decide +kernel
theorem dX3_valueOn_51 : decode cX3_valueOn 51 = .ok (.iload 7, 2) := by decide +kernel
theorem dX3_valueOn_53 : decode cX3_valueOn 53 = .ok (.iadd, 1) := by decide +kernel
theorem dX3_valueOn_54 : decode cX3_valueOn 54 = .ok (.istore 5, 2) := by decide +kernel
theorem dX3_valueOn_56 : decode cX3_valueOn 56 = .ok (.iinc 6 1, 3) := by decide +kernel
theorem dX3_valueOn_59 : decode cX3_valueOn 59 = .ok (.goto (-40), 3) := by decide +kernel
theorem dX3_valueOn_62 : decode cX3_valueOn 62 = .ok (.iload 5, 2) := by decide +kernel
theorem dX3_valueOn_64 : decode cX3_valueOn 64 = .ok (.ireturn, 1) := by decide +kernel
theorem dX3_dueOn_0 : decode cX3_dueOn 0 = .ok (.iconst 0, 1) := by decide +kernel
theorem dX3_dueOn_1 : decode cX3_dueOn 1 = .ok (.istore_n 2, 1) := by decide +kernel
theorem dX3_dueOn_2 : decode cX3_dueOn 2 = .ok (.iconst 0, 1) := by decide +kernel
theorem dX3_dueOn_3 : decode cX3_dueOn 3 = .ok (.istore_n 3, 1) := by decide +kernel
theorem dX3_dueOn_4 : decode cX3_dueOn 4 = .ok (.iload_n 3, 1) := by decide +kernel
theorem dX3_dueOn_5 : decode cX3_dueOn 5 = .ok (.iconst 5, 1) := by decide +kernel
theorem dX3_dueOn_6 : decode cX3_dueOn 6 = .ok (.if_icmp .ge 18, 3) := by decide +kernel
theorem dX3_dueOn_9 : decode cX3_dueOn 9 = .ok (.iload_n 2, 1) := by decide +kernel
theorem dX3_dueOn_10 : decode cX3_dueOn 10 = .ok (.aload_n 0, 1) := by decide +kernel
theorem dX3_dueOn_11 : decode cX3_dueOn 11 = .ok (.aload_n 1, 1) := by decide +kernel
theorem dX3_dueOn_12 : decode cX3_dueOn 12 = .ok (.iload_n 3, 1) := by decide +kernel
theorem dX3_dueOn_13 : decode cX3_dueOn 13 = .ok (.invokevirtual 35, 3) := by decide +kernel
theorem dX3_dueOn_16 : decode cX3_dueOn 16 = .ok (.iadd, 1) := by decide +kernel
theorem dX3_dueOn_17 : decode cX3_dueOn 17 = .ok (.istore_n 2, 1) := by decide +kernel
theorem dX3_dueOn_18 : decode cX3_dueOn 18 = .ok (.iinc 3 1, 3) := by decide +kernel
theorem dX3_dueOn_21 : decode cX3_dueOn 21 = .ok (.goto (-17), 3) := by decide +kernel
theorem dX3_dueOn_24 : decode cX3_dueOn 24 = .ok (.iload_n 2, 1) := by decide +kernel
theorem dX3_dueOn_25 : decode cX3_dueOn 25 = .ok (.bipush 10, 2) := by decide +kernel
theorem dX3_dueOn_27 : decode cX3_dueOn 27 = .ok (.irem, 1) := by decide +kernel
theorem dX3_dueOn_28 : decode cX3_dueOn 28 = .ok (.ireturn, 1) := by decide +kernel
theorem dX3_weighedDigits_0 : decode cX3_weighedDigits 0 = .ok (.aload_n 0, 1) := by decide +kernel
theorem dX3_weighedDigits_1 : decode cX3_weighedDigits 1 = .ok (.iload_n 2, 1) := by decide +kernel
theorem dX3_weighedDigits_2 : decode cX3_weighedDigits 2 = .ok (.invokevirtual 22, 3) := by decide +kernel
theorem dX3_weighedDigits_5 : decode cX3_weighedDigits 5 = .ok (.istore_n 3, 1) := by decide +kernel
theorem dX3_weighedDigits_6 : decode cX3_weighedDigits 6 = .ok (.aload_n 0, 1) := by decide +kernel
theorem dX3_weighedDigits_7 : decode cX3_weighedDigits 7 = .ok (.iload_n 2, 1) := by decide +kernel
theorem dX3_weighedDigits_8 : decode cX3_weighedDigits 8 = .ok (.invokevirtual 26, 3) := by decide +kernel
theorem dX3_weighedDigits_11 : decode cX3_weighedDigits 11 = .ok (.istore 4, 2) := by decide +kernel
theorem dX3_weighedDigits_13 : decode cX3_weighedDigits 13 = .ok (.iconst 0, 1) := by decide +kernel
theorem dX3_weighedDigits_14 : decode cX3_weighedDigits 14 = .ok (.istore 5, 2) := by decide +kernel
theorem dX3_weighedDigits_16 : decode cX3_weighedDigits 16 = .ok (.iconst 0, 1) := by decide +kernel
theorem dX3_weighedDigits_17 : decode cX3_weighedDigits 17 = .ok (.istore 6, 2) := by decide +kernel
theorem dX3_weighedDigits_19 : decode cX3_weighedDigits 19 = .ok (.iload 6, 2) := by decide +kernel
theorem dX3_weighedDigits_21 : decode cX3_weighedDigits 21 = .ok (.iload 4, 2) := by decide +kernel
theorem dX3_weighedDigits_23 : decode cX3_weighedDigits 23 = .ok (.if_icmp .ge 47, 3) := by decide +kernel
theorem dX3_weighedDigits_26 : decode cX3_weighedDigits 26 = .ok (.aload_n 1, 1) := by decide +kernel
theorem dX3_weighedDigits_27 : decode cX3_weighedDigits 27 = .ok (.iload_n 3, 1) := by decide +kernel
theorem dX3_weighedDigits_28 : decode cX3_weighedDigits 28 = .ok (.iload 6, 2) := by decide +kernel
theorem dX3_weighedDigits_30 : decode cX3_weighedDigits 30 = .ok (.iadd, 1) := by decide +kernel
theorem dX3_weighedDigits_31 : decode cX3_weighedDigits 31 = .ok (.invokevirtual 29, 3) := by decide +kernel
theorem dX3_weighedDigits_34 : decode cX3_weighedDigits 34 = .ok (.istore 7, 2) := by decide +kernel
theorem dX3_weighedDigits_36 : decode cX3_weighedDigits 36 = .ok (.iload 7, 2) := by decide +kernel
theorem dX3_weighedDigits_38 : decode cX3_weighedDigits 38 = .ok (.ldc 34, 2) := by decide +kernel
theorem dX3_weighedDigits_40 : decode cX3_weighedDigits 40 = .ok (.if_icmp .eq 24, 3) := by decide +kernel
theorem dX3_weighedDigits_43 : decode cX3_weighedDigits 43 = .ok (.iload 5, 2) := by decide +kernel
theorem dX3_weighedDigits_45 : decode cX3_weighedDigits 45 = .ok (.iload 6, 2) := by decide +kernel
theorem dX3_weighedDigits_47 : decode cX3_weighedDigits 47 = .ok (.iconst 2, 1) := by decide +kernel
theorem dX3_weighedDigits_48 : decode cX3_weighedDigits 48 = .ok (.irem, 1) := by decide +kernel
theorem dX3_weighedDigits_49 : decode cX3_weighedDigits 49 = .ok (.ifCond .ne 10, 3) := by decide +kernel
theorem dX3_weighedDigits_52 : decode cX3_weighedDigits 52 = .ok (.iconst 3, 1) := by decide +kernel
theorem dX3_weighedDigits_53 : decode cX3_weighedDigits 53 = .ok (.iload 7, 2) := by decide +kernel
theorem dX3_weighedDigits_55 : decode cX3_weighedDigits 55 = .ok (.imul, 1) := by decide +kernel
theorem dX3_weighedDigits_56 : decode cX3_weighedDigits 56 = .ok (.goto 5, 3) := by decide +kernel
theorem dX3_weighedDigits_59 : decode cX3_weighedDigits 59 = .ok (.iload 7, 2) := by decide +kernel
theorem dX3_weighedDigits_61 : decode cX3_weighedDigits 61 = .ok (.iadd, 1) := by decide +kernel
theorem dX3_weighedDigits_62 : decode cX3_weighedDigits 62 = .ok (.istore 5, 2) := by decide +kernel
theorem dX3_weighedDigits_64 : decode cX3_weighedDigits 64 = .ok (.iinc 6 1, 3) := by decide +kernel
theorem dX3_weighedDigits_67 : decode cX3_weighedDigits 67 = .ok (.goto (-48), 3) := by decide +kernel
theorem dX3_weighedDigits_70 : decode cX3_weighedDigits 70 = .ok (.iload 5, 2) := by decide +kernel
theorem dX3_weighedDigits_72 : decode cX3_weighedDigits 72 = .ok (.ireturn, 1) := by decide +kernel
theorem dX3_keyOn_0 : decode cX3_keyOn 0 = .ok (.aload_n 0, 1) := by decide +kernel
theorem dX3_keyOn_1 : decode cX3_keyOn 1 = .ok (.aload_n 1, 1) := by decide +kernel
theorem dX3_keyOn_2 : decode cX3_keyOn 2 = .ok (.iconst 0, 1) := by decide +kernel
theorem dX3_keyOn_3 : decode cX3_keyOn 3 = .ok (.invokevirtual 39, 3) := by decide +kernel
theorem dX3_keyOn_6 : decode cX3_keyOn 6 = .ok (.istore_n 2, 1) := by decide +kernel
theorem dX3_keyOn_7 : decode cX3_keyOn 7 = .ok (.aload_n 0, 1) := by decide +kernel
theorem dX3_keyOn_8 : decode cX3_keyOn 8 = .ok (.aload_n 1, 1) := by decide +kernel
theorem dX3_keyOn_9 : decode cX3_keyOn 9 = .ok (.iconst 1, 1) := by decide +kernel
theorem dX3_keyOn_10 : decode cX3_keyOn 10 = .ok (.invokevirtual 39, 3) := by decide +kernel
theorem dX3_keyOn_13 : decode cX3_keyOn 13 = .ok (.istore_n 3, 1) := by decide +kernel
theorem dX3_keyOn_14 : decode cX3_keyOn 14 = .ok (.aload_n 0, 1) := by decide +kernel
theorem dX3_keyOn_15 : decode cX3_keyOn 15 = .ok (.aload_n 1, 1) := by decide +kernel
theorem dX3_keyOn_16 : decode cX3_keyOn 16 = .ok (.iconst 2, 1) := by decide +kernel
theorem dX3_keyOn_17 : decode cX3_keyOn 17 = .ok (.invokevirtual 39, 3) := by decide +kernel
theorem dX3_keyOn_20 : decode cX3_keyOn 20 = .ok (.istore 4, 2) := by decide +kernel
theorem dX3_keyOn_22 : decode cX3_keyOn 22 = .ok (.iload_n 2, 1) := by decide +kernel
theorem dX3_keyOn_23 : decode cX3_keyOn 23 = .ok (.ldc 34, 2) := by decide +kernel
theorem dX3_keyOn_25 : decode cX3_keyOn 25 = .ok (.if_icmp .eq 16, 3) := by decide +kernel
theorem dX3_keyOn_28 : decode cX3_keyOn 28 = .ok (.iload_n 3, 1) := by decide +kernel
theorem dX3_keyOn_29 : decode cX3_keyOn 29 = .ok (.ldc 34, 2) := by decide +kernel
theorem dX3_keyOn_31 : decode cX3_keyOn 31 = .ok (.if_icmp .eq 10, 3) := by decide +kernel
theorem dX3_keyOn_34 : decode cX3_keyOn 34 = .ok (.iload 4, 2) := by decide +kernel
theorem dX3_keyOn_36 : decode cX3_keyOn 36 = .ok (.ldc 34, 2) := by decide +kernel
theorem dX3_keyOn_38 : decode cX3_keyOn 38 = .ok (.if_icmp .ne 7, 3) := by decide +kernel
theorem dX3_keyOn_41 : decode cX3_keyOn 41 = .ok (.ldc2_w 42, 3) := by decide +kernel
theorem dX3_keyOn_44 : decode cX3_keyOn 44 = .ok (.lreturn, 1) := by decide +kernel
theorem dX3_keyOn_45 : decode cX3_keyOn 45 = .ok (.iload_n 2, 1) := by decide +kernel
theorem dX3_keyOn_46 : decode cX3_keyOn 46 = .ok (.iload_n 3, 1) := by decide +kernel
theorem dX3_keyOn_47 : decode cX3_keyOn 47 = .ok (.iload 4, 2) := by decide +kernel
theorem dX3_keyOn_49 : decode cX3_keyOn 49 = .ok (.invokestatic 44, 3) := by decide +kernel
theorem dX3_keyOn_52 : decode cX3_keyOn 52 = .ok (.lreturn, 1) := by decide +kernel
theorem dX3_copyFrom_0 : decode cX3_copyFrom 0 = .ok (.aload_n 1, 1) := by decide +kernel
theorem dX3_copyFrom_1 : decode cX3_copyFrom 1 = .ok (.getfield 9, 3) := by decide +kernel
theorem dX3_copyFrom_4 : decode cX3_copyFrom 4 = .ok (.iconst 0, 1) := by decide +kernel
theorem dX3_copyFrom_5 : decode cX3_copyFrom 5 = .ok (.aload_n 0, 1) := by decide +kernel
theorem dX3_copyFrom_6 : decode cX3_copyFrom 6 = .ok (.getfield 9, 3) := by decide +kernel
theorem dX3_copyFrom_9 : decode cX3_copyFrom 9 = .ok (.iconst 0, 1) := by decide +kernel
theorem dX3_copyFrom_10 : decode cX3_copyFrom 10 = .ok (.bipush 6, 2) := by decide +kernel
theorem dX3_copyFrom_12 : decode cX3_copyFrom 12 = .ok (.invokestatic 50, 3) := by decide +kernel
theorem dX3_copyFrom_15 : decode cX3_copyFrom 15 = .ok (.aload_n 1, 1) := by decide +kernel
theorem dX3_copyFrom_16 : decode cX3_copyFrom 16 = .ok (.getfield 15, 3) := by decide +kernel
theorem dX3_copyFrom_19 : decode cX3_copyFrom 19 = .ok (.iconst 0, 1) := by decide +kernel
theorem dX3_copyFrom_20 : decode cX3_copyFrom 20 = .ok (.aload_n 0, 1) := by decide +kernel
theorem dX3_copyFrom_21 : decode cX3_copyFrom 21 = .ok (.getfield 15, 3) := by decide +kernel
theorem dX3_copyFrom_24 : decode cX3_copyFrom 24 = .ok (.iconst 0, 1) := by decide +kernel
theorem dX3_copyFrom_25 : decode cX3_copyFrom 25 = .ok (.bipush 6, 2) := by decide +kernel
theorem dX3_copyFrom_27 : decode cX3_copyFrom 27 = .ok (.invokestatic 50, 3) := by decide +kernel
theorem dX3_copyFrom_30 : decode cX3_copyFrom 30 = .ok (.return_, 1) := by decide +kernel
theorem dX4_init_0 : decode cX4_init 0 = .ok (.aload_n 0, 1) := by decide +kernel
theorem dX4_init_1 : decode cX4_init 1 = .ok (.invokespecial 3, 3) := by decide +kernel
theorem dX4_init_4 : decode cX4_init 4 = .ok (.aload_n 0, 1) := by decide +kernel
theorem dX4_init_5 : decode cX4_init 5 = .ok (.new 9, 3) := by decide +kernel
theorem dX4_init_8 : decode cX4_init 8 = .ok (.dup, 1) := by decide +kernel
theorem dX4_init_9 : decode cX4_init 9 = .ok (.invokespecial 11, 3) := by decide +kernel
theorem dX4_init_12 : decode cX4_init 12 = .ok (.putfield 12, 3) := by decide +kernel
theorem dX4_init_15 : decode cX4_init 15 = .ok (.aload_n 0, 1) := by decide +kernel
theorem dX4_init_16 : decode cX4_init 16 = .ok (.new 9, 3) := by decide +kernel
theorem dX4_init_19 : decode cX4_init 19 = .ok (.dup, 1) := by decide +kernel
theorem dX4_init_20 : decode cX4_init 20 = .ok (.invokespecial 11, 3) := by decide +kernel
theorem dX4_init_23 : decode cX4_init 23 = .ok (.putfield 18, 3) := by decide +kernel
theorem dX4_init_26 : decode cX4_init 26 = .ok (.aload_n 0, 1) := by decide +kernel
theorem dX4_init_27 : decode cX4_init 27 = .ok (.new 9, 3) := by decide +kernel
theorem dX4_init_30 : decode cX4_init 30 = .ok (.dup, 1) := by decide +kernel
theorem dX4_init_31 : decode cX4_init 31 = .ok (.invokespecial 11, 3) := by decide +kernel
theorem dX4_init_34 : decode cX4_init 34 = .ok (.putfield 21, 3) := by decide +kernel
theorem dX4_init_37 : decode cX4_init 37 = .ok (.aload_n 0, 1) := by decide +kernel
theorem dX4_init_38 : decode cX4_init 38 = .ok (.new 9, 3) := by decide +kernel
theorem dX4_init_41 : decode cX4_init 41 = .ok (.dup, 1) := by decide +kernel
theorem dX4_init_42 : decode cX4_init 42 = .ok (.invokespecial 11, 3) := by decide +kernel
theorem dX4_init_45 : decode cX4_init 45 = .ok (.putfield 24, 3) := by decide +kernel
theorem dX4_init_48 : decode cX4_init 48 = .ok (.return_, 1) := by decide +kernel
theorem dX4_begin_0 : decode cX4_begin 0 = .ok (.aload_n 0, 1) := by decide +kernel
theorem dX4_begin_1 : decode cX4_begin 1 = .ok (.getfield 12, 3) := by decide +kernel
theorem dX4_begin_4 : decode cX4_begin 4 = .ok (.invokevirtual 27, 3) := by decide +kernel
theorem dX4_begin_7 : decode cX4_begin 7 = .ok (.aload_n 0, 1) := by decide +kernel
theorem dX4_begin_8 : decode cX4_begin 8 = .ok (.getfield 18, 3) := by decide +kernel
theorem dX4_begin_11 : decode cX4_begin 11 = .ok (.invokevirtual 27, 3) := by decide +kernel
theorem dX4_begin_14 : decode cX4_begin 14 = .ok (.aload_n 0, 1) := by decide +kernel
theorem dX4_begin_15 : decode cX4_begin 15 = .ok (.getfield 21, 3) := by decide +kernel
theorem dX4_begin_18 : decode cX4_begin 18 = .ok (.invokevirtual 27, 3) := by decide +kernel
theorem dX4_begin_21 : decode cX4_begin 21 = .ok (.aload_n 0, 1) := by decide +kernel
theorem dX4_begin_22 : decode cX4_begin 22 = .ok (.getfield 24, 3) := by decide +kernel
theorem dX4_begin_25 : decode cX4_begin 25 = .ok (.invokevirtual 27, 3) := by decide +kernel
theorem dX4_begin_28 : decode cX4_begin 28 = .ok (.return_, 1) := by decide +kernel
theorem dX4_accept_0 : decode cX4_accept 0 = .ok (.aload_n 0, 1) := by decide +kernel
theorem dX4_accept_1 : decode cX4_accept 1 = .ok (.getfield 24, 3) := by decide +kernel
theorem dX4_accept_4 : decode cX4_accept 4 = .ok (.getfield 30, 3) := by decide +kernel
theorem dX4_accept_7 : decode cX4_accept 7 = .ok (.ifCond .le 24, 3) := by decide +kernel
theorem dX4_accept_10 : decode cX4_accept 10 = .ok (.aload_n 2, 1) := by decide +kernel
theorem dX4_accept_11 : decode cX4_accept 11 = .ok (.invokevirtual 34, 3) := by decide +kernel
theorem dX4_accept_14 : decode cX4_accept 14 = .ok (.aload_n 0, 1) := by decide +kernel
theorem dX4_accept_15 : decode cX4_accept 15 = .ok (.getfield 24, 3) := by decide +kernel
theorem dX4_accept_18 : decode cX4_accept 18 = .ok (.invokevirtual 34, 3) := by decide +kernel
theorem dX4_accept_21 : decode cX4_accept 21 = .ok (.lcmp, 1) := by decide +kernel
theorem dX4_accept_22 : decode cX4_accept 22 = .ok (.ifCond .eq 9, 3) := by decide +kernel
theorem dX4_accept_25 : decode cX4_accept 25 = .ok (.aload_n 0, 1) := by decide +kernel
theorem dX4_accept_26 : decode cX4_accept 26 = .ok (.aload_n 1, 1) := by decide +kernel
theorem dX4_accept_27 : decode cX4_accept 27 = .ok (.aload_n 2, 1) := by decide +kernel
theorem dX4_accept_28 : decode cX4_accept 28 = .ok (.invokevirtual 38, 3) := by decide +kernel
theorem dX4_accept_31 : decode cX4_accept 31 = .ok (.aload_n 1, 1) := by decide +kernel
theorem dX4_accept_32 : decode cX4_accept 32 = .ok (.iconst 0, 1) := by decide +kernel
theorem dX4_accept_33 : decode cX4_accept 33 = .ok (.aload_n 2, 1) := by decide +kernel
theorem dX4_accept_34 : decode cX4_accept 34 = .ok (.iload_n 3, 1) := by decide +kernel
theorem dX4_accept_35 : decode cX4_accept 35 = .ok (.invokevirtual 42, 3) := by decide +kernel
theorem dX4_accept_38 : decode cX4_accept 38 = .ok (.aload_n 0, 1) := by decide +kernel
theorem dX4_accept_39 : decode cX4_accept 39 = .ok (.getfield 12, 3) := by decide +kernel
theorem dX4_accept_42 : decode cX4_accept 42 = .ok (.aload_n 2, 1) := by decide +kernel
theorem dX4_accept_43 : decode cX4_accept 43 = .ok (.invokevirtual 48, 3) := by decide +kernel
theorem dX4_accept_46 : decode cX4_accept 46 = .ok (.aload_n 0, 1) := by decide +kernel
theorem dX4_accept_47 : decode cX4_accept 47 = .ok (.getfield 18, 3) := by decide +kernel
theorem dX4_accept_50 : decode cX4_accept 50 = .ok (.aload_n 2, 1) := by decide +kernel
theorem dX4_accept_51 : decode cX4_accept 51 = .ok (.invokevirtual 48, 3) := by decide +kernel
theorem dX4_accept_54 : decode cX4_accept 54 = .ok (.aload_n 0, 1) := by decide +kernel
theorem dX4_accept_55 : decode cX4_accept 55 = .ok (.getfield 21, 3) := by decide +kernel
theorem dX4_accept_58 : decode cX4_accept 58 = .ok (.aload_n 2, 1) := by decide +kernel
theorem dX4_accept_59 : decode cX4_accept 59 = .ok (.invokevirtual 48, 3) := by decide +kernel
theorem dX4_accept_62 : decode cX4_accept 62 = .ok (.aload_n 0, 1) := by decide +kernel
theorem dX4_accept_63 : decode cX4_accept 63 = .ok (.getfield 24, 3) := by decide +kernel
theorem dX4_accept_66 : decode cX4_accept 66 = .ok (.aload_n 2, 1) := by decide +kernel
theorem dX4_accept_67 : decode cX4_accept 67 = .ok (.invokevirtual 48, 3) := by decide +kernel
theorem dX4_accept_70 : decode cX4_accept 70 = .ok (.return_, 1) := by decide +kernel
theorem dX4_end_0 : decode cX4_end 0 = .ok (.aload_n 0, 1) := by decide +kernel
theorem dX4_end_1 : decode cX4_end 1 = .ok (.getfield 24, 3) := by decide +kernel
theorem dX4_end_4 : decode cX4_end 4 = .ok (.getfield 30, 3) := by decide +kernel
theorem dX4_end_7 : decode cX4_end 7 = .ok (.ifCond .le 18, 3) := by decide +kernel
theorem dX4_end_10 : decode cX4_end 10 = .ok (.aload_n 0, 1) := by decide +kernel
theorem dX4_end_11 : decode cX4_end 11 = .ok (.aload_n 1, 1) := by decide +kernel
theorem dX4_end_12 : decode cX4_end 12 = .ok (.invokevirtual 52, 3) := by decide +kernel
theorem dX4_end_15 : decode cX4_end 15 = .ok (.aload_n 0, 1) := by decide +kernel
theorem dX4_end_16 : decode cX4_end 16 = .ok (.aload_n 1, 1) := by decide +kernel
theorem dX4_end_17 : decode cX4_end 17 = .ok (.invokevirtual 56, 3) := by decide +kernel
theorem dX4_end_20 : decode cX4_end 20 = .ok (.aload_n 0, 1) := by decide +kernel
theorem dX4_end_21 : decode cX4_end 21 = .ok (.aload_n 1, 1) := by decide +kernel
theorem dX4_end_22 : decode cX4_end 22 = .ok (.invokevirtual 59, 3) := by decide +kernel
theorem dX4_end_25 : decode cX4_end 25 = .ok (.aload_n 1, 1) := by decide +kernel
theorem dX4_end_26 : decode cX4_end 26 = .ok (.iconst 4, 1) := by decide +kernel
theorem dX4_end_27 : decode cX4_end 27 = .ok (.aload_n 0, 1) := by decide +kernel
theorem dX4_end_28 : decode cX4_end 28 = .ok (.getfield 24, 3) := by decide +kernel
theorem dX4_end_31 : decode cX4_end 31 = .ok (.ldc 62, 2) := by decide +kernel
theorem dX4_end_33 : decode cX4_end 33 = .ok (.invokevirtual 42, 3) := by decide +kernel
theorem dX4_end_36 : decode cX4_end 36 = .ok (.return_, 1) := by decide +kernel
theorem dX4_breakBefore_0 : decode cX4_breakBefore 0 = .ok (.aload_n 2, 1) := by decide +kernel
theorem dX4_breakBefore_1 : decode cX4_breakBefore 1 = .ok (.getfield 63, 3) := by decide +kernel
theorem dX4_breakBefore_4 : decode cX4_breakBefore 4 = .ok (.aload_n 0, 1) := by decide +kernel
theorem dX4_breakBefore_5 : decode cX4_breakBefore 5 = .ok (.getfield 24, 3) := by decide +kernel
theorem dX4_breakBefore_8 : decode cX4_breakBefore 8 = .ok (.getfield 63, 3) := by decide +kernel
theorem dX4_breakBefore_11 : decode cX4_breakBefore 11 = .ok (.if_icmp .eq 7, 3) := by decide +kernel
theorem dX4_breakBefore_14 : decode cX4_breakBefore 14 = .ok (.iconst 1, 1) := by decide +kernel
theorem dX4_breakBefore_15 : decode cX4_breakBefore 15 = .ok (.goto 4, 3) := by decide +kernel
theorem dX4_breakBefore_18 : decode cX4_breakBefore 18 = .ok (.iconst 0, 1) := by decide +kernel
theorem dX4_breakBefore_19 : decode cX4_breakBefore 19 = .ok (.istore_n 3, 1) := by decide +kernel
theorem dX4_breakBefore_20 : decode cX4_breakBefore 20 = .ok (.aload_n 0, 1) := by decide +kernel
theorem dX4_breakBefore_21 : decode cX4_breakBefore 21 = .ok (.aload_n 1, 1) := by decide +kernel
theorem dX4_breakBefore_22 : decode cX4_breakBefore 22 = .ok (.invokevirtual 52, 3) := by decide +kernel
theorem dX4_breakBefore_25 : decode cX4_breakBefore 25 = .ok (.iload_n 3, 1) := by decide +kernel
theorem dX4_breakBefore_26 : decode cX4_breakBefore 26 = .ok (.ifCond .ne 17, 3) := by decide +kernel
theorem dX4_breakBefore_29 : decode cX4_breakBefore 29 = .ok (.aload_n 2, 1) := by decide +kernel
theorem dX4_breakBefore_30 : decode cX4_breakBefore 30 = .ok (.getfield 65, 3) := by decide +kernel
theorem dX4_breakBefore_33 : decode cX4_breakBefore 33 = .ok (.aload_n 0, 1) := by decide +kernel
theorem dX4_breakBefore_34 : decode cX4_breakBefore 34 = .ok (.getfield 24, 3) := by decide +kernel
theorem dX4_breakBefore_37 : decode cX4_breakBefore 37 = .ok (.getfield 65, 3) := by decide +kernel
theorem dX4_breakBefore_40 : decode cX4_breakBefore 40 = .ok (.if_icmp .eq 8, 3) := by decide +kernel
theorem dX4_breakBefore_43 : decode cX4_breakBefore 43 = .ok (.aload_n 0, 1) := by decide +kernel
theorem dX4_breakBefore_44 : decode cX4_breakBefore 44 = .ok (.aload_n 1, 1) := by decide +kernel
theorem dX4_breakBefore_45 : decode cX4_breakBefore 45 = .ok (.invokevirtual 56, 3) := by decide +kernel
theorem dX4_breakBefore_48 : decode cX4_breakBefore 48 = .ok (.iload_n 3, 1) := by decide +kernel
theorem dX4_breakBefore_49 : decode cX4_breakBefore 49 = .ok (.ifCond .eq 8, 3) := by decide +kernel
theorem dX4_breakBefore_52 : decode cX4_breakBefore 52 = .ok (.aload_n 0, 1) := by decide +kernel
theorem dX4_breakBefore_53 : decode cX4_breakBefore 53 = .ok (.aload_n 1, 1) := by decide +kernel
theorem dX4_breakBefore_54 : decode cX4_breakBefore 54 = .ok (.invokevirtual 59, 3) := by decide +kernel
theorem dX4_breakBefore_57 : decode cX4_breakBefore 57 = .ok (.return_, 1) := by decide +kernel
theorem dX4_breakWorker_0 : decode cX4_breakWorker 0 = .ok (.aload_n 0, 1) := by decide +kernel
theorem dX4_breakWorker_1 : decode cX4_breakWorker 1 = .ok (.getfield 12, 3) := by decide +kernel
theorem dX4_breakWorker_4 : decode cX4_breakWorker 4 = .ok (.aload_n 1, 1) := by decide +kernel
theorem dX4_breakWorker_5 : decode cX4_breakWorker 5 = .ok (.getfield 67, 3) := by decide +kernel
theorem dX4_breakWorker_8 : decode cX4_breakWorker 8 = .ok (.invokevirtual 70, 3) := by decide +kernel
theorem dX4_breakWorker_11 : decode cX4_breakWorker 11 = .ok (.istore_n 2, 1) := by decide +kernel
theorem dX4_breakWorker_12 : decode cX4_breakWorker 12 = .ok (.aload_n 0, 1) := by decide +kernel
theorem dX4_breakWorker_13 : decode cX4_breakWorker 13 = .ok (.getfield 12, 3) := by decide +kernel
theorem dX4_breakWorker_16 : decode cX4_breakWorker 16 = .ok (.iload_n 2, 1) := by decide +kernel
theorem dX4_breakWorker_17 : decode cX4_breakWorker 17 = .ok (.invokevirtual 74, 3) := by decide +kernel
theorem dX4_breakWorker_20 : decode cX4_breakWorker 20 = .ok (.aload_n 0, 1) := by decide +kernel
theorem dX4_breakWorker_21 : decode cX4_breakWorker 21 = .ok (.getfield 18, 3) := by decide +kernel
theorem dX4_breakWorker_24 : decode cX4_breakWorker 24 = .ok (.iload_n 2, 1) := by decide +kernel
theorem dX4_breakWorker_25 : decode cX4_breakWorker 25 = .ok (.invokevirtual 74, 3) := by decide +kernel
theorem dX4_breakWorker_28 : decode cX4_breakWorker 28 = .ok (.aload_n 0, 1) := by decide +kernel
theorem dX4_breakWorker_29 : decode cX4_breakWorker 29 = .ok (.getfield 21, 3) := by decide +kernel
theorem dX4_breakWorker_32 : decode cX4_breakWorker 32 = .ok (.iload_n 2, 1) := by decide +kernel
theorem dX4_breakWorker_33 : decode cX4_breakWorker 33 = .ok (.invokevirtual 74, 3) := by decide +kernel
theorem dX4_breakWorker_36 : decode cX4_breakWorker 36 = .ok (.aload_n 0, 1) := by decide +kernel
theorem dX4_breakWorker_37 : decode cX4_breakWorker 37 = .ok (.getfield 24, 3) := by decide +kernel
theorem dX4_breakWorker_40 : decode cX4_breakWorker 40 = .ok (.iload_n 2, 1) := by decide +kernel
theorem dX4_breakWorker_41 : decode cX4_breakWorker 41 = .ok (.invokevirtual 74, 3) := by decide +kernel
theorem dX4_breakWorker_44 : decode cX4_breakWorker 44 = .ok (.aload_n 1, 1) := by decide +kernel
theorem dX4_breakWorker_45 : decode cX4_breakWorker 45 = .ok (.iconst 1, 1) := by decide +kernel
theorem dX4_breakWorker_46 : decode cX4_breakWorker 46 = .ok (.aload_n 0, 1) := by decide +kernel
theorem dX4_breakWorker_47 : decode cX4_breakWorker 47 = .ok (.getfield 12, 3) := by decide +kernel
theorem dX4_breakWorker_50 : decode cX4_breakWorker 50 = .ok (.ldc 62, 2) := by decide +kernel
theorem dX4_breakWorker_52 : decode cX4_breakWorker 52 = .ok (.invokevirtual 42, 3) := by decide +kernel
theorem dX4_breakWorker_55 : decode cX4_breakWorker 55 = .ok (.aload_n 0, 1) := by decide +kernel
theorem dX4_breakWorker_56 : decode cX4_breakWorker 56 = .ok (.getfield 12, 3) := by decide +kernel
theorem dX4_breakWorker_59 : decode cX4_breakWorker 59 = .ok (.invokevirtual 27, 3) := by decide +kernel
theorem dX4_breakWorker_62 : decode cX4_breakWorker 62 = .ok (.return_, 1) := by decide +kernel
theorem dX4_breakGroup_0 : decode cX4_breakGroup 0 = .ok (.aload_n 1, 1) := by decide +kernel
theorem dX4_breakGroup_1 : decode cX4_breakGroup 1 = .ok (.iconst 2, 1) := by decide +kernel
theorem dX4_breakGroup_2 : decode cX4_breakGroup 2 = .ok (.aload_n 0, 1) := by decide +kernel
theorem dX4_breakGroup_3 : decode cX4_breakGroup 3 = .ok (.getfield 18, 3) := by decide +kernel
theorem dX4_breakGroup_6 : decode cX4_breakGroup 6 = .ok (.ldc 62, 2) := by decide +kernel
theorem dX4_breakGroup_8 : decode cX4_breakGroup 8 = .ok (.invokevirtual 42, 3) := by decide +kernel
theorem dX4_breakGroup_11 : decode cX4_breakGroup 11 = .ok (.aload_n 0, 1) := by decide +kernel
theorem dX4_breakGroup_12 : decode cX4_breakGroup 12 = .ok (.getfield 18, 3) := by decide +kernel
theorem dX4_breakGroup_15 : decode cX4_breakGroup 15 = .ok (.invokevirtual 27, 3) := by decide +kernel
theorem dX4_breakGroup_18 : decode cX4_breakGroup 18 = .ok (.return_, 1) := by decide +kernel
theorem dX4_breakDepartment_0 : decode cX4_breakDepartment 0 = .ok (.aload_n 1, 1) := by decide +kernel
theorem dX4_breakDepartment_1 : decode cX4_breakDepartment 1 = .ok (.iconst 3, 1) := by decide +kernel
theorem dX4_breakDepartment_2 : decode cX4_breakDepartment 2 = .ok (.aload_n 0, 1) := by decide +kernel
theorem dX4_breakDepartment_3 : decode cX4_breakDepartment 3 = .ok (.getfield 21, 3) := by decide +kernel
theorem dX4_breakDepartment_6 : decode cX4_breakDepartment 6 = .ok (.ldc 62, 2) := by decide +kernel
theorem dX4_breakDepartment_8 : decode cX4_breakDepartment 8 = .ok (.invokevirtual 42, 3) := by decide +kernel
theorem dX4_breakDepartment_11 : decode cX4_breakDepartment 11 = .ok (.aload_n 0, 1) := by decide +kernel
theorem dX4_breakDepartment_12 : decode cX4_breakDepartment 12 = .ok (.getfield 21, 3) := by decide +kernel
theorem dX4_breakDepartment_15 : decode cX4_breakDepartment 15 = .ok (.invokevirtual 27, 3) := by decide +kernel
theorem dX4_breakDepartment_18 : decode cX4_breakDepartment 18 = .ok (.return_, 1) := by decide +kernel
theorem dX5_init_0 : decode cX5_init 0 = .ok (.aload_n 0, 1) := by decide +kernel
theorem dX5_init_1 : decode cX5_init 1 = .ok (.invokespecial 3, 3) := by decide +kernel
theorem dX5_init_4 : decode cX5_init 4 = .ok (.aload_n 0, 1) := by decide +kernel
theorem dX5_init_5 : decode cX5_init 5 = .ok (.sipush 1610, 3) := by decide +kernel
theorem dX5_init_8 : decode cX5_init 8 = .ok (.newarray .int, 2) := by decide +kernel
theorem dX5_init_10 : decode cX5_init 10 = .ok (.putfield 9, 3) := by decide +kernel
theorem dX5_init_13 : decode cX5_init 13 = .ok (.aload_n 0, 1) := by decide +kernel
theorem dX5_init_14 : decode cX5_init 14 = .ok (.bipush 40, 2) := by decide +kernel
theorem dX5_init_16 : decode cX5_init 16 = .ok (.newarray .int, 2) := by decide +kernel
theorem dX5_init_18 : decode cX5_init 18 = .ok (.putfield 15, 3) := by decide +kernel
theorem dX5_init_21 : decode cX5_init 21 = .ok (.return_, 1) := by decide +kernel
theorem dX5_begin_0 : decode cX5_begin 0 = .ok (.aload_n 0, 1) := by decide +kernel
theorem dX5_begin_1 : decode cX5_begin 1 = .ok (.iconst 0, 1) := by decide +kernel
theorem dX5_begin_2 : decode cX5_begin 2 = .ok (.putfield 18, 3) := by decide +kernel
theorem dX5_begin_5 : decode cX5_begin 5 = .ok (.aload_n 0, 1) := by decide +kernel
theorem dX5_begin_6 : decode cX5_begin 6 = .ok (.iload_n 1, 1) := by decide +kernel
theorem dX5_begin_7 : decode cX5_begin 7 = .ok (.bipush 40, 2) := by decide +kernel
theorem dX5_begin_9 : decode cX5_begin 9 = .ok (.invokestatic 22, 3) := by decide +kernel
theorem dX5_begin_12 : decode cX5_begin 12 = .ok (.putfield 28, 3) := by decide +kernel
theorem dX5_begin_15 : decode cX5_begin 15 = .ok (.aload_n 0, 1) := by decide +kernel
theorem dX5_begin_16 : decode cX5_begin 16 = .ok (.iload_n 2, 1) := by decide +kernel
theorem dX5_begin_17 : decode cX5_begin 17 = .ok (.putfield 31, 3) := by decide +kernel
theorem dX5_begin_20 : decode cX5_begin 20 = .ok (.return_, 1) := by decide +kernel
theorem dX5_isEmpty_0 : decode cX5_isEmpty 0 = .ok (.aload_n 0, 1) := by decide +kernel
theorem dX5_isEmpty_1 : decode cX5_isEmpty 1 = .ok (.getfield 18, 3) := by decide +kernel
theorem dX5_isEmpty_4 : decode cX5_isEmpty 4 = .ok (.ifCond .ne 7, 3) := by decide +kernel
theorem dX5_isEmpty_7 : decode cX5_isEmpty 7 = .ok (.iconst 1, 1) := by decide +kernel
theorem dX5_isEmpty_8 : decode cX5_isEmpty 8 = .ok (.goto 4, 3) := by decide +kernel
theorem dX5_isEmpty_11 : decode cX5_isEmpty 11 = .ok (.iconst 0, 1) := by decide +kernel
theorem dX5_isEmpty_12 : decode cX5_isEmpty 12 = .ok (.ireturn, 1) := by decide +kernel
theorem dX5_has_0 : decode cX5_has 0 = .ok (.iload_n 1, 1) := by decide +kernel
theorem dX5_has_1 : decode cX5_has 1 = .ok (.ifCond .lt 15, 3) := by decide +kernel
theorem dX5_has_4 : decode cX5_has 4 = .ok (.iload_n 1, 1) := by decide +kernel
theorem dX5_has_5 : decode cX5_has 5 = .ok (.aload_n 0, 1) := by decide +kernel
theorem dX5_has_6 : decode cX5_has 6 = .ok (.getfield 18, 3) := by decide +kernel
theorem dX5_has_9 : decode cX5_has 9 = .ok (.if_icmp .ge 7, 3) := by decide +kernel
theorem dX5_has_12 : decode cX5_has 12 = .ok (.iconst 1, 1) := by decide +kernel
theorem dX5_has_13 : decode cX5_has 13 = .ok (.goto 4, 3) := by decide +kernel
theorem dX5_has_16 : decode cX5_has 16 = .ok (.iconst 0, 1) := by decide +kernel
theorem dX5_has_17 : decode cX5_has 17 = .ok (.ireturn, 1) := by decide +kernel
theorem dX5_hadCard_0 : decode cX5_hadCard 0 = .ok (.iload_n 1, 1) := by decide +kernel
theorem dX5_hadCard_1 : decode cX5_hadCard 1 = .ok (.ifCond .lt 15, 3) := by decide +kernel
theorem dX5_hadCard_4 : decode cX5_hadCard 4 = .ok (.iload_n 1, 1) := by decide +kernel
theorem dX5_hadCard_5 : decode cX5_hadCard 5 = .ok (.aload_n 0, 1) := by decide +kernel
theorem dX5_hadCard_6 : decode cX5_hadCard 6 = .ok (.getfield 28, 3) := by decide +kernel
theorem dX5_hadCard_9 : decode cX5_hadCard 9 = .ok (.if_icmp .ge 7, 3) := by decide +kernel
theorem dX5_hadCard_12 : decode cX5_hadCard 12 = .ok (.iconst 1, 1) := by decide +kernel
theorem dX5_hadCard_13 : decode cX5_hadCard 13 = .ok (.goto 4, 3) := by decide +kernel
theorem dX5_hadCard_16 : decode cX5_hadCard 16 = .ok (.iconst 0, 1) := by decide +kernel
theorem dX5_hadCard_17 : decode cX5_hadCard 17 = .ok (.ireturn, 1) := by decide +kernel
theorem dX5_reasonOf_0 : decode cX5_reasonOf 0 = .ok (.aload_n 0, 1) := by decide +kernel
theorem dX5_reasonOf_1 : decode cX5_reasonOf 1 = .ok (.iload_n 1, 1) := by decide +kernel
theorem dX5_reasonOf_2 : decode cX5_reasonOf 2 = .ok (.invokevirtual 34, 3) := by decide +kernel
theorem dX5_reasonOf_5 : decode cX5_reasonOf 5 = .ok (.ifCond .eq 12, 3) := by decide +kernel
theorem dX5_reasonOf_8 : decode cX5_reasonOf 8 = .ok (.aload_n 0, 1) := by decide +kernel
theorem dX5_reasonOf_9 : decode cX5_reasonOf 9 = .ok (.getfield 15, 3) := by decide +kernel
theorem dX5_reasonOf_12 : decode cX5_reasonOf 12 = .ok (.iload_n 1, 1) := by decide +kernel
theorem dX5_reasonOf_13 : decode cX5_reasonOf 13 = .ok (.iaload, 1) := by decide +kernel
theorem dX5_reasonOf_14 : decode cX5_reasonOf 14 = .ok (.goto 5, 3) := by decide +kernel
theorem dX5_reasonOf_17 : decode cX5_reasonOf 17 = .ok (.ldc 38, 2) := by decide +kernel
theorem dX5_reasonOf_19 : decode cX5_reasonOf 19 = .ok (.ireturn, 1) := by decide +kernel
theorem dX5_judge_0 : decode cX5_judge 0 = .ok (.aload_n 0, 1) := by decide +kernel
theorem dX5_judge_1 : decode cX5_judge 1 = .ok (.iload_n 1, 1) := by decide +kernel
theorem dX5_judge_2 : decode cX5_judge 2 = .ok (.invokevirtual 34, 3) := by decide +kernel
theorem dX5_judge_5 : decode cX5_judge 5 = .ok (.ifCond .eq 10, 3) := by decide +kernel
theorem dX5_judge_8 : decode cX5_judge 8 = .ok (.aload_n 0, 1) := by decide +kernel
theorem dX5_judge_9 : decode cX5_judge 9 = .ok (.getfield 15, 3) := by decide +kernel
theorem dX5_judge_12 : decode cX5_judge 12 = .ok (.iload_n 1, 1) := by decide +kernel
theorem dX5_judge_13 : decode cX5_judge 13 = .ok (.iload_n 2, 1) := by decide +kernel
theorem dX5_judge_14 : decode cX5_judge 14 = .ok (.iastore, 1) := by decide +kernel
theorem dX5_judge_15 : decode cX5_judge 15 = .ok (.return_, 1) := by decide +kernel
theorem dX5_refusedCards_0 : decode cX5_refusedCards 0 = .ok (.iconst 0, 1) := by decide +kernel
theorem dX5_refusedCards_1 : decode cX5_refusedCards 1 = .ok (.istore_n 1, 1) := by decide +kernel
theorem dX5_refusedCards_2 : decode cX5_refusedCards 2 = .ok (.iconst 0, 1) := by decide +kernel
theorem dX5_refusedCards_3 : decode cX5_refusedCards 3 = .ok (.istore_n 2, 1) := by decide +kernel
theorem dX5_refusedCards_4 : decode cX5_refusedCards 4 = .ok (.iload_n 2, 1) := by decide +kernel
theorem dX5_refusedCards_5 : decode cX5_refusedCards 5 = .ok (.aload_n 0, 1) := by decide +kernel
theorem dX5_refusedCards_6 : decode cX5_refusedCards 6 = .ok (.getfield 28, 3) := by decide +kernel
theorem dX5_refusedCards_9 : decode cX5_refusedCards 9 = .ok (.if_icmp .ge 25, 3) := by decide +kernel
theorem dX5_refusedCards_12 : decode cX5_refusedCards 12 = .ok (.aload_n 0, 1) := by decide +kernel
theorem dX5_refusedCards_13 : decode cX5_refusedCards 13 = .ok (.iload_n 2, 1) := by decide +kernel
theorem dX5_refusedCards_14 : decode cX5_refusedCards 14 = .ok (.invokevirtual 39, 3) := by decide +kernel
theorem dX5_refusedCards_17 : decode cX5_refusedCards 17 = .ok (.iconst 1, 1) := by decide +kernel
theorem dX5_refusedCards_18 : decode cX5_refusedCards 18 = .ok (.iconst 5, 1) := by decide +kernel
theorem dX5_refusedCards_19 : decode cX5_refusedCards 19 = .ok (.invokestatic 43, 3) := by decide +kernel
theorem dX5_refusedCards_22 : decode cX5_refusedCards 22 = .ok (.ifCond .eq 6, 3) := by decide +kernel
theorem dX5_refusedCards_25 : decode cX5_refusedCards 25 = .ok (.iinc 1 1, 3) := by decide +kernel
theorem dX5_refusedCards_28 : decode cX5_refusedCards 28 = .ok (.iinc 2 1, 3) := by decide +kernel
theorem dX5_refusedCards_31 : decode cX5_refusedCards 31 = .ok (.goto (-27), 3) := by decide +kernel
theorem dX5_refusedCards_34 : decode cX5_refusedCards 34 = .ok (.iload_n 1, 1) := by decide +kernel
theorem dX5_refusedCards_35 : decode cX5_refusedCards 35 = .ok (.ireturn, 1) := by decide +kernel
theorem dX5_number_0 : decode cX5_number 0 = .ok (.aload_n 0, 1) := by decide +kernel
theorem dX5_number_1 : decode cX5_number 1 = .ok (.iload_n 1, 1) := by decide +kernel
theorem dX5_number_2 : decode cX5_number 2 = .ok (.invokevirtual 47, 3) := by decide +kernel
theorem dX5_number_5 : decode cX5_number 5 = .ok (.ifCond .eq 27, 3) := by decide +kernel
theorem dX5_number_8 : decode cX5_number 8 = .ok (.iload_n 2, 1) := by decide +kernel
theorem dX5_number_9 : decode cX5_number 9 = .ok (.iconst 0, 1) := by decide +kernel
theorem dX5_number_10 : decode cX5_number 10 = .ok (.bipush 9, 2) := by decide +kernel
theorem dX5_number_12 : decode cX5_number 12 = .ok (.invokestatic 43, 3) := by decide +kernel
theorem dX5_number_15 : decode cX5_number 15 = .ok (.ifCond .eq 17, 3) := by decide +kernel
theorem dX5_number_18 : decode cX5_number 18 = .ok (.aload_n 0, 1) := by decide +kernel
theorem dX5_number_19 : decode cX5_number 19 = .ok (.getfield 9, 3) := by decide +kernel
theorem dX5_number_22 : decode cX5_number 22 = .ok (.iload_n 1, 1) := by decide +kernel
theorem dX5_number_23 : decode cX5_number 23 = .ok (.bipush 10, 2) := by decide +kernel
theorem dX5_number_25 : decode cX5_number 25 = .ok (.imul, 1) := by decide +kernel
theorem dX5_number_26 : decode cX5_number 26 = .ok (.iload_n 2, 1) := by decide +kernel
theorem dX5_number_27 : decode cX5_number 27 = .ok (.iadd, 1) := by decide +kernel
theorem dX5_number_28 : decode cX5_number 28 = .ok (.iaload, 1) := by decide +kernel
theorem dX5_number_29 : decode cX5_number 29 = .ok (.goto 4, 3) := by decide +kernel
theorem dX5_number_32 : decode cX5_number 32 = .ok (.iconst 0, 1) := by decide +kernel
theorem dX5_number_33 : decode cX5_number 33 = .ok (.ireturn, 1) := by decide +kernel
theorem dX5_lastLine_0 : decode cX5_lastLine 0 = .ok (.aload_n 0, 1) := by decide +kernel
theorem dX5_lastLine_1 : decode cX5_lastLine 1 = .ok (.aload_n 0, 1) := by decide +kernel
theorem dX5_lastLine_2 : decode cX5_lastLine 2 = .ok (.getfield 18, 3) := by decide +kernel
theorem dX5_lastLine_5 : decode cX5_lastLine 5 = .ok (.iconst 1, 1) := by decide +kernel
theorem dX5_lastLine_6 : decode cX5_lastLine 6 = .ok (.isub, 1) := by decide +kernel
theorem dX5_lastLine_7 : decode cX5_lastLine 7 = .ok (.iload_n 1, 1) := by decide +kernel
theorem dX5_lastLine_8 : decode cX5_lastLine 8 = .ok (.invokevirtual 50, 3) := by decide +kernel
theorem dX5_lastLine_11 : decode cX5_lastLine 11 = .ok (.ireturn, 1) := by decide +kernel
theorem dX5_sumOfWorkers_0 : decode cX5_sumOfWorkers 0 = .ok (.iconst 0, 1) := by decide +kernel
theorem dX5_sumOfWorkers_1 : decode cX5_sumOfWorkers 1 = .ok (.istore_n 1, 1) := by decide +kernel
theorem dX5_sumOfWorkers_2 : decode cX5_sumOfWorkers 2 = .ok (.iconst 0, 1) := by decide +kernel
theorem dX5_sumOfWorkers_3 : decode cX5_sumOfWorkers 3 = .ok (.istore_n 2, 1) := by decide +kernel
theorem dX5_sumOfWorkers_4 : decode cX5_sumOfWorkers 4 = .ok (.iload_n 2, 1) := by decide +kernel
theorem dX5_sumOfWorkers_5 : decode cX5_sumOfWorkers 5 = .ok (.aload_n 0, 1) := by decide +kernel
theorem dX5_sumOfWorkers_6 : decode cX5_sumOfWorkers 6 = .ok (.getfield 18, 3) := by decide +kernel
theorem dX5_sumOfWorkers_9 : decode cX5_sumOfWorkers 9 = .ok (.if_icmp .ge 26, 3) := by decide +kernel
theorem dX5_sumOfWorkers_12 : decode cX5_sumOfWorkers 12 = .ok (.aload_n 0, 1) := by decide +kernel
theorem dX5_sumOfWorkers_13 : decode cX5_sumOfWorkers 13 = .ok (.iload_n 2, 1) := by decide +kernel
theorem dX5_sumOfWorkers_14 : decode cX5_sumOfWorkers 14 = .ok (.invokevirtual 53, 3) := by decide +kernel
theorem dX5_sumOfWorkers_17 : decode cX5_sumOfWorkers 17 = .ok (.ifCond .eq 12, 3) := by decide +kernel
theorem dX5_sumOfWorkers_20 : decode cX5_sumOfWorkers 20 = .ok (.iload_n 1, 1) := by decide +kernel
theorem dX5_sumOfWorkers_21 : decode cX5_sumOfWorkers 21 = .ok (.aload_n 0, 1) := by decide +kernel
theorem dX5_sumOfWorkers_22 : decode cX5_sumOfWorkers 22 = .ok (.iload_n 2, 1) := by decide +kernel
theorem dX5_sumOfWorkers_23 : decode cX5_sumOfWorkers 23 = .ok (.iconst 3, 1) := by decide +kernel
theorem dX5_sumOfWorkers_24 : decode cX5_sumOfWorkers 24 = .ok (.invokevirtual 50, 3) := by decide +kernel
theorem dX5_sumOfWorkers_27 : decode cX5_sumOfWorkers 27 = .ok (.iadd, 1) := by decide +kernel
theorem dX5_sumOfWorkers_28 : decode cX5_sumOfWorkers 28 = .ok (.istore_n 1, 1) := by decide +kernel
theorem dX5_sumOfWorkers_29 : decode cX5_sumOfWorkers 29 = .ok (.iinc 2 1, 3) := by decide +kernel
theorem dX5_sumOfWorkers_32 : decode cX5_sumOfWorkers 32 = .ok (.goto (-28), 3) := by decide +kernel
theorem dX5_sumOfWorkers_35 : decode cX5_sumOfWorkers 35 = .ok (.iload_n 1, 1) := by decide +kernel
theorem dX5_sumOfWorkers_36 : decode cX5_sumOfWorkers 36 = .ok (.ireturn, 1) := by decide +kernel
theorem dX5_isCard_0 : decode cX5_isCard 0 = .ok (.aload_n 0, 1) := by decide +kernel
theorem dX5_isCard_1 : decode cX5_isCard 1 = .ok (.iload_n 1, 1) := by decide +kernel
theorem dX5_isCard_2 : decode cX5_isCard 2 = .ok (.invokevirtual 47, 3) := by decide +kernel
theorem dX5_isCard_5 : decode cX5_isCard 5 = .ok (.ifCond .eq 16, 3) := by decide +kernel
theorem dX5_isCard_8 : decode cX5_isCard 8 = .ok (.aload_n 0, 1) := by decide +kernel
theorem dX5_isCard_9 : decode cX5_isCard 9 = .ok (.iload_n 1, 1) := by decide +kernel
theorem dX5_isCard_10 : decode cX5_isCard 10 = .ok (.iconst 0, 1) := by decide +kernel
theorem dX5_isCard_11 : decode cX5_isCard 11 = .ok (.invokevirtual 50, 3) := by decide +kernel
theorem dX5_isCard_14 : decode cX5_isCard 14 = .ok (.ifCond .ne 7, 3) := by decide +kernel
theorem dX5_isCard_17 : decode cX5_isCard 17 = .ok (.iconst 1, 1) := by decide +kernel
theorem dX5_isCard_18 : decode cX5_isCard 18 = .ok (.goto 4, 3) := by decide +kernel
theorem dX5_isCard_21 : decode cX5_isCard 21 = .ok (.iconst 0, 1) := by decide +kernel
theorem dX5_isCard_22 : decode cX5_isCard 22 = .ok (.ireturn, 1) := by decide +kernel
theorem dX5_print_0 : decode cX5_print 0 = .ok (.aload_n 0, 1) := by decide +kernel
theorem dX5_print_1 : decode cX5_print 1 = .ok (.getfield 18, 3) := by decide +kernel
theorem dX5_print_4 : decode cX5_print 4 = .ok (.sipush 161, 3) := by decide +kernel
theorem dX5_print_7 : decode cX5_print 7 = .ok (.if_icmp .lt 4, 3) := by decide +kernel
theorem dX5_print_10 : decode cX5_print 10 = .ok (.return_, 1) := by decide +kernel
theorem dX5_print_11 : decode cX5_print 11 = .ok (.aload_n 0, 1) := by decide +kernel
theorem dX5_print_12 : decode cX5_print 12 = .ok (.getfield 18, 3) := by decide +kernel
theorem dX5_print_15 : decode cX5_print 15 = .ok (.bipush 10, 2) := by decide +kernel
theorem dX5_print_17 : decode cX5_print 17 = .ok (.imul, 1) := by decide +kernel
theorem dX5_print_18 : decode cX5_print 18 = .ok (.istore 4, 2) := by decide +kernel
theorem dX5_print_20 : decode cX5_print 20 = .ok (.aload_n 0, 1) := by decide +kernel
theorem dX5_print_21 : decode cX5_print 21 = .ok (.getfield 9, 3) := by decide +kernel
theorem dX5_print_24 : decode cX5_print 24 = .ok (.iload 4, 2) := by decide +kernel
theorem dX5_print_26 : decode cX5_print 26 = .ok (.iconst 0, 1) := by decide +kernel
theorem dX5_print_27 : decode cX5_print 27 = .ok (.iadd, 1) := by decide +kernel
theorem dX5_print_28 : decode cX5_print 28 = .ok (.iload_n 1, 1) := by decide +kernel
theorem dX5_print_29 : decode cX5_print 29 = .ok (.iastore, 1) := by decide +kernel
theorem dX5_print_30 : decode cX5_print 30 = .ok (.aload_n 0, 1) := by decide +kernel
theorem dX5_print_31 : decode cX5_print 31 = .ok (.getfield 9, 3) := by decide +kernel
theorem dX5_print_34 : decode cX5_print 34 = .ok (.iload 4, 2) := by decide +kernel
theorem dX5_print_36 : decode cX5_print 36 = .ok (.iconst 1, 1) := by decide +kernel
theorem dX5_print_37 : decode cX5_print 37 = .ok (.iadd, 1) := by decide +kernel
theorem dX5_print_38 : decode cX5_print 38 = .ok (.iload_n 1, 1) := by decide +kernel
theorem dX5_print_39 : decode cX5_print 39 = .ok (.iconst 3, 1) := by decide +kernel
theorem dX5_print_40 : decode cX5_print 40 = .ok (.if_icmp .gt 10, 3) := by decide +kernel
theorem dX5_print_43 : decode cX5_print 43 = .ok (.aload_n 2, 1) := by decide +kernel
theorem dX5_print_44 : decode cX5_print 44 = .ok (.getfield 56, 3) := by decide +kernel
theorem dX5_print_47 : decode cX5_print 47 = .ok (.goto 5, 3) := by decide +kernel
theorem dX5_print_50 : decode cX5_print 50 = .ok (.ldc 61, 2) := by decide +kernel
theorem dX5_print_52 : decode cX5_print 52 = .ok (.iastore, 1) := by decide +kernel
theorem dX5_print_53 : decode cX5_print 53 = .ok (.aload_n 0, 1) := by decide +kernel
theorem dX5_print_54 : decode cX5_print 54 = .ok (.getfield 9, 3) := by decide +kernel
theorem dX5_print_57 : decode cX5_print 57 = .ok (.iload 4, 2) := by decide +kernel
theorem dX5_print_59 : decode cX5_print 59 = .ok (.iconst 2, 1) := by decide +kernel
theorem dX5_print_60 : decode cX5_print 60 = .ok (.iadd, 1) := by decide +kernel
theorem dX5_print_61 : decode cX5_print 61 = .ok (.iload_n 1, 1) := by decide +kernel
theorem dX5_print_62 : decode cX5_print 62 = .ok (.iconst 2, 1) := by decide +kernel
theorem dX5_print_63 : decode cX5_print 63 = .ok (.if_icmp .gt 10, 3) := by decide +kernel
theorem dX5_print_66 : decode cX5_print 66 = .ok (.aload_n 2, 1) := by decide +kernel
theorem dX5_print_67 : decode cX5_print 67 = .ok (.getfield 62, 3) := by decide +kernel
theorem dX5_print_70 : decode cX5_print 70 = .ok (.goto 5, 3) := by decide +kernel
theorem dX5_print_73 : decode cX5_print 73 = .ok (.ldc 61, 2) := by decide +kernel
theorem dX5_print_75 : decode cX5_print 75 = .ok (.iastore, 1) := by decide +kernel
theorem dX5_print_76 : decode cX5_print 76 = .ok (.aload_n 0, 1) := by decide +kernel
theorem dX5_print_77 : decode cX5_print 77 = .ok (.getfield 9, 3) := by decide +kernel
theorem dX5_print_80 : decode cX5_print 80 = .ok (.iload 4, 2) := by decide +kernel
theorem dX5_print_82 : decode cX5_print 82 = .ok (.iconst 3, 1) := by decide +kernel
theorem dX5_print_83 : decode cX5_print 83 = .ok (.iadd, 1) := by decide +kernel
theorem dX5_print_84 : decode cX5_print 84 = .ok (.iload_n 1, 1) := by decide +kernel
theorem dX5_print_85 : decode cX5_print 85 = .ok (.iconst 1, 1) := by decide +kernel
theorem dX5_print_86 : decode cX5_print 86 = .ok (.if_icmp .gt 10, 3) := by decide +kernel
theorem dX5_print_89 : decode cX5_print 89 = .ok (.aload_n 2, 1) := by decide +kernel
theorem dX5_print_90 : decode cX5_print 90 = .ok (.getfield 65, 3) := by decide +kernel
theorem dX5_print_93 : decode cX5_print 93 = .ok (.goto 5, 3) := by decide +kernel
theorem dX5_print_96 : decode cX5_print 96 = .ok (.ldc 61, 2) := by decide +kernel
theorem dX5_print_98 : decode cX5_print 98 = .ok (.iastore, 1) := by decide +kernel
theorem dX5_print_99 : decode cX5_print 99 = .ok (.aload_n 0, 1) := by decide +kernel
theorem dX5_print_100 : decode cX5_print 100 = .ok (.getfield 9, 3) := by decide +kernel
theorem dX5_print_103 : decode cX5_print 103 = .ok (.iload 4, 2) := by decide +kernel
theorem dX5_print_105 : decode cX5_print 105 = .ok (.iconst 4, 1) := by decide +kernel
theorem dX5_print_106 : decode cX5_print 106 = .ok (.iadd, 1) := by decide +kernel
theorem dX5_print_107 : decode cX5_print 107 = .ok (.aload_n 2, 1) := by decide +kernel
theorem dX5_print_108 : decode cX5_print 108 = .ok (.getfield 68, 3) := by decide +kernel
theorem dX5_print_111 : decode cX5_print 111 = .ok (.iastore, 1) := by decide +kernel
theorem dX5_print_112 : decode cX5_print 112 = .ok (.aload_n 0, 1) := by decide +kernel
theorem dX5_print_113 : decode cX5_print 113 = .ok (.getfield 9, 3) := by decide +kernel
theorem dX5_print_116 : decode cX5_print 116 = .ok (.iload 4, 2) := by decide +kernel
theorem dX5_print_118 : decode cX5_print 118 = .ok (.iconst 5, 1) := by decide +kernel
theorem dX5_print_119 : decode cX5_print 119 = .ok (.iadd, 1) := by decide +kernel
theorem dX5_print_120 : decode cX5_print 120 = .ok (.aload_n 2, 1) := by decide +kernel
theorem dX5_print_121 : decode cX5_print 121 = .ok (.getfield 71, 3) := by decide +kernel
theorem dX5_print_124 : decode cX5_print 124 = .ok (.iastore, 1) := by decide +kernel
theorem dX5_print_125 : decode cX5_print 125 = .ok (.aload_n 0, 1) := by decide +kernel
theorem dX5_print_126 : decode cX5_print 126 = .ok (.getfield 9, 3) := by decide +kernel
theorem dX5_print_129 : decode cX5_print 129 = .ok (.iload 4, 2) := by decide +kernel
theorem dX5_print_131 : decode cX5_print 131 = .ok (.bipush 6, 2) := by decide +kernel
theorem dX5_print_133 : decode cX5_print 133 = .ok (.iadd, 1) := by decide +kernel
theorem dX5_print_134 : decode cX5_print 134 = .ok (.aload_n 2, 1) := by decide +kernel
theorem dX5_print_135 : decode cX5_print 135 = .ok (.getfield 74, 3) := by decide +kernel
theorem dX5_print_138 : decode cX5_print 138 = .ok (.iastore, 1) := by decide +kernel
theorem dX5_print_139 : decode cX5_print 139 = .ok (.aload_n 0, 1) := by decide +kernel
theorem dX5_print_140 : decode cX5_print 140 = .ok (.getfield 9, 3) := by decide +kernel
theorem dX5_print_143 : decode cX5_print 143 = .ok (.iload 4, 2) := by decide +kernel
theorem dX5_print_145 : decode cX5_print 145 = .ok (.bipush 7, 2) := by decide +kernel
theorem dX5_print_147 : decode cX5_print 147 = .ok (.iadd, 1) := by decide +kernel
theorem dX5_print_148 : decode cX5_print 148 = .ok (.aload_n 2, 1) := by decide +kernel
theorem dX5_print_149 : decode cX5_print 149 = .ok (.getfield 77, 3) := by decide +kernel
theorem dX5_print_152 : decode cX5_print 152 = .ok (.iastore, 1) := by decide +kernel
theorem dX5_print_153 : decode cX5_print 153 = .ok (.aload_n 0, 1) := by decide +kernel
theorem dX5_print_154 : decode cX5_print 154 = .ok (.getfield 9, 3) := by decide +kernel
theorem dX5_print_157 : decode cX5_print 157 = .ok (.iload 4, 2) := by decide +kernel
theorem dX5_print_159 : decode cX5_print 159 = .ok (.bipush 8, 2) := by decide +kernel
theorem dX5_print_161 : decode cX5_print 161 = .ok (.iadd, 1) := by decide +kernel
theorem dX5_print_162 : decode cX5_print 162 = .ok (.iload_n 3, 1) := by decide +kernel
theorem dX5_print_163 : decode cX5_print 163 = .ok (.iastore, 1) := by decide +kernel
theorem dX5_print_164 : decode cX5_print 164 = .ok (.aload_n 0, 1) := by decide +kernel
theorem dX5_print_165 : decode cX5_print 165 = .ok (.getfield 9, 3) := by decide +kernel
theorem dX5_print_168 : decode cX5_print 168 = .ok (.iload 4, 2) := by decide +kernel
theorem dX5_print_170 : decode cX5_print 170 = .ok (.bipush 9, 2) := by decide +kernel
theorem dX5_print_172 : decode cX5_print 172 = .ok (.iadd, 1) := by decide +kernel
theorem dX5_print_173 : decode cX5_print 173 = .ok (.aload_n 2, 1) := by decide +kernel
theorem dX5_print_174 : decode cX5_print 174 = .ok (.getfield 80, 3) := by decide +kernel
theorem dX5_print_177 : decode cX5_print 177 = .ok (.iastore, 1) := by decide +kernel
theorem dX5_print_178 : decode cX5_print 178 = .ok (.aload_n 0, 1) := by decide +kernel
theorem dX5_print_179 : decode cX5_print 179 = .ok (.dup, 1) := by decide +kernel
theorem dX5_print_180 : decode cX5_print 180 = .ok (.getfield 18, 3) := by decide +kernel
theorem dX5_print_183 : decode cX5_print 183 = .ok (.iconst 1, 1) := by decide +kernel
theorem dX5_print_184 : decode cX5_print 184 = .ok (.iadd, 1) := by decide +kernel
theorem dX5_print_185 : decode cX5_print 185 = .ok (.putfield 18, 3) := by decide +kernel
theorem dX5_print_188 : decode cX5_print 188 = .ok (.return_, 1) := by decide +kernel
theorem dX5_readCard_0 : decode cX5_readCard 0 = .ok (.aload_n 2, 1) := by decide +kernel
theorem dX5_readCard_1 : decode cX5_readCard 1 = .ok (.aload_n 0, 1) := by decide +kernel
theorem dX5_readCard_2 : decode cX5_readCard 2 = .ok (.iload_n 1, 1) := by decide +kernel
theorem dX5_readCard_3 : decode cX5_readCard 3 = .ok (.iconst 1, 1) := by decide +kernel
theorem dX5_readCard_4 : decode cX5_readCard 4 = .ok (.invokevirtual 50, 3) := by decide +kernel
theorem dX5_readCard_7 : decode cX5_readCard 7 = .ok (.putfield 56, 3) := by decide +kernel
theorem dX5_readCard_10 : decode cX5_readCard 10 = .ok (.aload_n 2, 1) := by decide +kernel
theorem dX5_readCard_11 : decode cX5_readCard 11 = .ok (.aload_n 0, 1) := by decide +kernel
theorem dX5_readCard_12 : decode cX5_readCard 12 = .ok (.iload_n 1, 1) := by decide +kernel
theorem dX5_readCard_13 : decode cX5_readCard 13 = .ok (.iconst 2, 1) := by decide +kernel
theorem dX5_readCard_14 : decode cX5_readCard 14 = .ok (.invokevirtual 50, 3) := by decide +kernel
theorem dX5_readCard_17 : decode cX5_readCard 17 = .ok (.putfield 62, 3) := by decide +kernel
theorem dX5_readCard_20 : decode cX5_readCard 20 = .ok (.aload_n 2, 1) := by decide +kernel
theorem dX5_readCard_21 : decode cX5_readCard 21 = .ok (.aload_n 0, 1) := by decide +kernel
theorem dX5_readCard_22 : decode cX5_readCard 22 = .ok (.iload_n 1, 1) := by decide +kernel
theorem dX5_readCard_23 : decode cX5_readCard 23 = .ok (.iconst 3, 1) := by decide +kernel
theorem dX5_readCard_24 : decode cX5_readCard 24 = .ok (.invokevirtual 50, 3) := by decide +kernel
theorem dX5_readCard_27 : decode cX5_readCard 27 = .ok (.putfield 65, 3) := by decide +kernel
theorem dX5_readCard_30 : decode cX5_readCard 30 = .ok (.aload_n 2, 1) := by decide +kernel
theorem dX5_readCard_31 : decode cX5_readCard 31 = .ok (.aload_n 0, 1) := by decide +kernel
theorem dX5_readCard_32 : decode cX5_readCard 32 = .ok (.iload_n 1, 1) := by decide +kernel
theorem dX5_readCard_33 : decode cX5_readCard 33 = .ok (.bipush 9, 2) := by decide +kernel
theorem dX5_readCard_35 : decode cX5_readCard 35 = .ok (.invokevirtual 50, 3) := by decide +kernel
theorem dX5_readCard_38 : decode cX5_readCard 38 = .ok (.putfield 80, 3) := by decide +kernel
theorem dX5_readCard_41 : decode cX5_readCard 41 = .ok (.aload_n 2, 1) := by decide +kernel
theorem dX5_readCard_42 : decode cX5_readCard 42 = .ok (.aload_n 0, 1) := by decide +kernel
theorem dX5_readCard_43 : decode cX5_readCard 43 = .ok (.iload_n 1, 1) := by decide +kernel
theorem dX5_readCard_44 : decode cX5_readCard 44 = .ok (.iconst 4, 1) := by decide +kernel
theorem dX5_readCard_45 : decode cX5_readCard 45 = .ok (.invokevirtual 50, 3) := by decide +kernel
theorem dX5_readCard_48 : decode cX5_readCard 48 = .ok (.putfield 68, 3) := by decide +kernel
theorem dX5_readCard_51 : decode cX5_readCard 51 = .ok (.aload_n 2, 1) := by decide +kernel
theorem dX5_readCard_52 : decode cX5_readCard 52 = .ok (.aload_n 0, 1) := by decide +kernel
theorem dX5_readCard_53 : decode cX5_readCard 53 = .ok (.iload_n 1, 1) := by decide +kernel
theorem dX5_readCard_54 : decode cX5_readCard 54 = .ok (.iconst 5, 1) := by decide +kernel
theorem dX5_readCard_55 : decode cX5_readCard 55 = .ok (.invokevirtual 50, 3) := by decide +kernel
theorem dX5_readCard_58 : decode cX5_readCard 58 = .ok (.putfield 71, 3) := by decide +kernel
theorem dX5_readCard_61 : decode cX5_readCard 61 = .ok (.aload_n 2, 1) := by decide +kernel
theorem dX5_readCard_62 : decode cX5_readCard 62 = .ok (.aload_n 0, 1) := by decide +kernel
theorem dX5_readCard_63 : decode cX5_readCard 63 = .ok (.iload_n 1, 1) := by decide +kernel
theorem dX5_readCard_64 : decode cX5_readCard 64 = .ok (.bipush 6, 2) := by decide +kernel
theorem dX5_readCard_66 : decode cX5_readCard 66 = .ok (.invokevirtual 50, 3) := by decide +kernel
theorem dX5_readCard_69 : decode cX5_readCard 69 = .ok (.putfield 74, 3) := by decide +kernel
theorem dX5_readCard_72 : decode cX5_readCard 72 = .ok (.aload_n 2, 1) := by decide +kernel
theorem dX5_readCard_73 : decode cX5_readCard 73 = .ok (.aload_n 0, 1) := by decide +kernel
theorem dX5_readCard_74 : decode cX5_readCard 74 = .ok (.iload_n 1, 1) := by decide +kernel
theorem dX5_readCard_75 : decode cX5_readCard 75 = .ok (.bipush 7, 2) := by decide +kernel
theorem dX5_readCard_77 : decode cX5_readCard 77 = .ok (.invokevirtual 50, 3) := by decide +kernel
theorem dX5_readCard_80 : decode cX5_readCard 80 = .ok (.putfield 77, 3) := by decide +kernel
theorem dX5_readCard_83 : decode cX5_readCard 83 = .ok (.return_, 1) := by decide +kernel
theorem dX5_copyFrom_0 : decode cX5_copyFrom 0 = .ok (.aload_n 0, 1) := by decide +kernel
theorem dX5_copyFrom_1 : decode cX5_copyFrom 1 = .ok (.aload_n 1, 1) := by decide +kernel
theorem dX5_copyFrom_2 : decode cX5_copyFrom 2 = .ok (.getfield 18, 3) := by decide +kernel
theorem dX5_copyFrom_5 : decode cX5_copyFrom 5 = .ok (.putfield 18, 3) := by decide +kernel
theorem dX5_copyFrom_8 : decode cX5_copyFrom 8 = .ok (.aload_n 0, 1) := by decide +kernel
theorem dX5_copyFrom_9 : decode cX5_copyFrom 9 = .ok (.aload_n 1, 1) := by decide +kernel
theorem dX5_copyFrom_10 : decode cX5_copyFrom 10 = .ok (.getfield 28, 3) := by decide +kernel
theorem dX5_copyFrom_13 : decode cX5_copyFrom 13 = .ok (.putfield 28, 3) := by decide +kernel
theorem dX5_copyFrom_16 : decode cX5_copyFrom 16 = .ok (.aload_n 0, 1) := by decide +kernel
theorem dX5_copyFrom_17 : decode cX5_copyFrom 17 = .ok (.aload_n 1, 1) := by decide +kernel
theorem dX5_copyFrom_18 : decode cX5_copyFrom 18 = .ok (.getfield 31, 3) := by decide +kernel
theorem dX5_copyFrom_21 : decode cX5_copyFrom 21 = .ok (.putfield 31, 3) := by decide +kernel
theorem dX5_copyFrom_24 : decode cX5_copyFrom 24 = .ok (.aload_n 1, 1) := by decide +kernel
theorem dX5_copyFrom_25 : decode cX5_copyFrom 25 = .ok (.getfield 9, 3) := by decide +kernel
theorem dX5_copyFrom_28 : decode cX5_copyFrom 28 = .ok (.iconst 0, 1) := by decide +kernel
theorem dX5_copyFrom_29 : decode cX5_copyFrom 29 = .ok (.aload_n 0, 1) := by decide +kernel
theorem dX5_copyFrom_30 : decode cX5_copyFrom 30 = .ok (.getfield 9, 3) := by decide +kernel
theorem dX5_copyFrom_33 : decode cX5_copyFrom 33 = .ok (.iconst 0, 1) := by decide +kernel
theorem dX5_copyFrom_34 : decode cX5_copyFrom 34 = .ok (.aload_n 0, 1) := by decide +kernel
theorem dX5_copyFrom_35 : decode cX5_copyFrom 35 = .ok (.getfield 18, 3) := by decide +kernel
theorem dX5_copyFrom_38 : decode cX5_copyFrom 38 = .ok (.bipush 10, 2) := by decide +kernel
theorem dX5_copyFrom_40 : decode cX5_copyFrom 40 = .ok (.imul, 1) := by decide +kernel
theorem dX5_copyFrom_41 : decode cX5_copyFrom 41 = .ok (.invokestatic 83, 3) := by decide +kernel
theorem dX5_copyFrom_44 : decode cX5_copyFrom 44 = .ok (.aload_n 1, 1) := by decide +kernel
theorem dX5_copyFrom_45 : decode cX5_copyFrom 45 = .ok (.getfield 15, 3) := by decide +kernel
theorem dX5_copyFrom_48 : decode cX5_copyFrom 48 = .ok (.iconst 0, 1) := by decide +kernel
theorem dX5_copyFrom_49 : decode cX5_copyFrom 49 = .ok (.aload_n 0, 1) := by decide +kernel
theorem dX5_copyFrom_50 : decode cX5_copyFrom 50 = .ok (.getfield 15, 3) := by decide +kernel
theorem dX5_copyFrom_53 : decode cX5_copyFrom 53 = .ok (.iconst 0, 1) := by decide +kernel
theorem dX5_copyFrom_54 : decode cX5_copyFrom 54 = .ok (.aload_n 0, 1) := by decide +kernel
theorem dX5_copyFrom_55 : decode cX5_copyFrom 55 = .ok (.getfield 28, 3) := by decide +kernel
theorem dX5_copyFrom_58 : decode cX5_copyFrom 58 = .ok (.invokestatic 83, 3) := by decide +kernel
theorem dX5_copyFrom_61 : decode cX5_copyFrom 61 = .ok (.return_, 1) := by decide +kernel
theorem dX6_init_0 : decode cX6_init 0 = .ok (.aload_n 0, 1) := by decide +kernel
theorem dX6_init_1 : decode cX6_init 1 = .ok (.invokespecial 3, 3) := by decide +kernel
theorem dX6_init_4 : decode cX6_init 4 = .ok (.aload_n 0, 1) := by decide +kernel
theorem dX6_init_5 : decode cX6_init 5 = .ok (.bipush 40, 2) := by decide +kernel
theorem dX6_init_7 : decode cX6_init 7 = .ok (.anewarray 9, 3) := by decide +kernel
theorem dX6_init_10 : decode cX6_init 10 = .ok (.putfield 11, 3) := by decide +kernel
theorem dX6_init_13 : decode cX6_init 13 = .ok (.aload_n 0, 1) := by decide +kernel
theorem dX6_init_14 : decode cX6_init 14 = .ok (.new 9, 3) := by decide +kernel
theorem dX6_init_17 : decode cX6_init 17 = .ok (.dup, 1) := by decide +kernel
theorem dX6_init_18 : decode cX6_init 18 = .ok (.invokespecial 17, 3) := by decide +kernel
theorem dX6_init_21 : decode cX6_init 21 = .ok (.putfield 18, 3) := by decide +kernel
theorem dX6_init_24 : decode cX6_init 24 = .ok (.aload_n 0, 1) := by decide +kernel
theorem dX6_init_25 : decode cX6_init 25 = .ok (.new 9, 3) := by decide +kernel
theorem dX6_init_28 : decode cX6_init 28 = .ok (.dup, 1) := by decide +kernel
theorem dX6_init_29 : decode cX6_init 29 = .ok (.invokespecial 17, 3) := by decide +kernel
theorem dX6_init_32 : decode cX6_init 32 = .ok (.putfield 22, 3) := by decide +kernel
theorem dX6_init_35 : decode cX6_init 35 = .ok (.iconst 0, 1) := by decide +kernel
theorem dX6_init_36 : decode cX6_init 36 = .ok (.istore_n 1, 1) := by decide +kernel
theorem dX6_init_37 : decode cX6_init 37 = .ok (.iload_n 1, 1) := by decide +kernel
theorem dX6_init_38 : decode cX6_init 38 = .ok (.bipush 40, 2) := by decide +kernel
theorem dX6_init_40 : decode cX6_init 40 = .ok (.if_icmp .ge 22, 3) := by decide +kernel
theorem dX6_init_43 : decode cX6_init 43 = .ok (.aload_n 0, 1) := by decide +kernel
theorem dX6_init_44 : decode cX6_init 44 = .ok (.getfield 11, 3) := by decide +kernel
theorem dX6_init_47 : decode cX6_init 47 = .ok (.iload_n 1, 1) := by decide +kernel
theorem dX6_init_48 : decode cX6_init 48 = .ok (.new 9, 3) := by decide +kernel
theorem dX6_init_51 : decode cX6_init 51 = .ok (.dup, 1) := by decide +kernel
theorem dX6_init_52 : decode cX6_init 52 = .ok (.invokespecial 17, 3) := by decide +kernel
theorem dX6_init_55 : decode cX6_init 55 = .ok (.aastore, 1) := by decide +kernel
theorem dX6_init_56 : decode cX6_init 56 = .ok (.iinc 1 1, 3) := by decide +kernel
theorem dX6_init_59 : decode cX6_init 59 = .ok (.goto (-22), 3) := by decide +kernel
theorem dX6_init_62 : decode cX6_init 62 = .ok (.return_, 1) := by decide +kernel
theorem dX6_size_0 : decode cX6_size 0 = .ok (.aload_n 0, 1) := by decide +kernel
theorem dX6_size_1 : decode cX6_size 1 = .ok (.getfield 25, 3) := by decide +kernel
theorem dX6_size_4 : decode cX6_size 4 = .ok (.ireturn, 1) := by decide +kernel
theorem dX6_at_0 : decode cX6_at 0 = .ok (.iload_n 1, 1) := by decide +kernel
theorem dX6_at_1 : decode cX6_at 1 = .ok (.ifCond .lt 18, 3) := by decide +kernel
theorem dX6_at_4 : decode cX6_at 4 = .ok (.iload_n 1, 1) := by decide +kernel
theorem dX6_at_5 : decode cX6_at 5 = .ok (.bipush 40, 2) := by decide +kernel
theorem dX6_at_7 : decode cX6_at 7 = .ok (.if_icmp .ge 12, 3) := by decide +kernel
theorem dX6_at_10 : decode cX6_at 10 = .ok (.aload_n 0, 1) := by decide +kernel
theorem dX6_at_11 : decode cX6_at 11 = .ok (.getfield 11, 3) := by decide +kernel
theorem dX6_at_14 : decode cX6_at 14 = .ok (.iload_n 1, 1) := by decide +kernel
theorem dX6_at_15 : decode cX6_at 15 = .ok (.aaload, 1) := by decide +kernel
theorem dX6_at_16 : decode cX6_at 16 = .ok (.goto 4, 3) := by decide +kernel
theorem dX6_at_19 : decode cX6_at 19 = .ok (.aconst_null, 1) := by decide +kernel
theorem dX6_at_20 : decode cX6_at 20 = .ok (.astore_n 2, 1) := by decide +kernel
theorem dX6_at_21 : decode cX6_at 21 = .ok (.aload_n 2, 1) := by decide +kernel
theorem dX6_at_22 : decode cX6_at 22 = .ok (.ifnonnull 10, 3) := by decide +kernel
theorem dX6_at_25 : decode cX6_at 25 = .ok (.aload_n 0, 1) := by decide +kernel
theorem dX6_at_26 : decode cX6_at 26 = .ok (.getfield 18, 3) := by decide +kernel
theorem dX6_at_29 : decode cX6_at 29 = .ok (.goto 4, 3) := by decide +kernel
theorem dX6_at_32 : decode cX6_at 32 = .ok (.aload_n 2, 1) := by decide +kernel
theorem dX6_at_33 : decode cX6_at 33 = .ok (.areturn, 1) := by decide +kernel
theorem dX6_reckon_0 : decode cX6_reckon 0 = .ok (.aload_n 0, 1) := by decide +kernel
theorem dX6_reckon_1 : decode cX6_reckon 1 = .ok (.iconst 0, 1) := by decide +kernel
theorem dX6_reckon_2 : decode cX6_reckon 2 = .ok (.putfield 25, 3) := by decide +kernel
theorem dX6_reckon_5 : decode cX6_reckon 5 = .ok (.iconst 0, 1) := by decide +kernel
theorem dX6_reckon_6 : decode cX6_reckon 6 = .ok (.istore_n 2, 1) := by decide +kernel
theorem dX6_reckon_7 : decode cX6_reckon 7 = .ok (.iload_n 2, 1) := by decide +kernel
theorem dX6_reckon_8 : decode cX6_reckon 8 = .ok (.aload_n 1, 1) := by decide +kernel
theorem dX6_reckon_9 : decode cX6_reckon 9 = .ok (.getfield 29, 3) := by decide +kernel
theorem dX6_reckon_12 : decode cX6_reckon 12 = .ok (.if_icmp .ge 44, 3) := by decide +kernel
theorem dX6_reckon_15 : decode cX6_reckon 15 = .ok (.aload_n 1, 1) := by decide +kernel
theorem dX6_reckon_16 : decode cX6_reckon 16 = .ok (.iload_n 2, 1) := by decide +kernel
theorem dX6_reckon_17 : decode cX6_reckon 17 = .ok (.invokevirtual 34, 3) := by decide +kernel
theorem dX6_reckon_20 : decode cX6_reckon 20 = .ok (.ifCond .eq 30, 3) := by decide +kernel
theorem dX6_reckon_23 : decode cX6_reckon 23 = .ok (.aload_n 1, 1) := by decide +kernel
theorem dX6_reckon_24 : decode cX6_reckon 24 = .ok (.iload_n 2, 1) := by decide +kernel
theorem dX6_reckon_25 : decode cX6_reckon 25 = .ok (.aload_n 0, 1) := by decide +kernel
theorem dX6_reckon_26 : decode cX6_reckon 26 = .ok (.getfield 22, 3) := by decide +kernel
theorem dX6_reckon_29 : decode cX6_reckon 29 = .ok (.invokevirtual 38, 3) := by decide +kernel
theorem dX6_reckon_32 : decode cX6_reckon 32 = .ok (.aload_n 0, 1) := by decide +kernel
theorem dX6_reckon_33 : decode cX6_reckon 33 = .ok (.aload_n 0, 1) := by decide +kernel
theorem dX6_reckon_34 : decode cX6_reckon 34 = .ok (.getfield 22, 3) := by decide +kernel
theorem dX6_reckon_37 : decode cX6_reckon 37 = .ok (.invokevirtual 42, 3) := by decide +kernel
theorem dX6_reckon_40 : decode cX6_reckon 40 = .ok (.invokevirtual 46, 3) := by decide +kernel
theorem dX6_reckon_43 : decode cX6_reckon 43 = .ok (.aload_n 0, 1) := by decide +kernel
theorem dX6_reckon_44 : decode cX6_reckon 44 = .ok (.getfield 22, 3) := by decide +kernel
theorem dX6_reckon_47 : decode cX6_reckon 47 = .ok (.invokevirtual 50, 3) := by decide +kernel
theorem dX6_reckon_50 : decode cX6_reckon 50 = .ok (.iinc 2 1, 3) := by decide +kernel
theorem dX6_reckon_53 : decode cX6_reckon 53 = .ok (.goto (-46), 3) := by decide +kernel
theorem dX6_reckon_56 : decode cX6_reckon 56 = .ok (.iconst 0, 1) := by decide +kernel
theorem dX6_reckon_57 : decode cX6_reckon 57 = .ok (.istore_n 2, 1) := by decide +kernel
theorem dX6_reckon_58 : decode cX6_reckon 58 = .ok (.iload_n 2, 1) := by decide +kernel
theorem dX6_reckon_59 : decode cX6_reckon 59 = .ok (.aload_n 0, 1) := by decide +kernel
theorem dX6_reckon_60 : decode cX6_reckon 60 = .ok (.getfield 25, 3) := by decide +kernel
theorem dX6_reckon_63 : decode cX6_reckon 63 = .ok (.if_icmp .ge 29, 3) := by decide +kernel
theorem dX6_reckon_66 : decode cX6_reckon 66 = .ok (.aload_n 0, 1) := by decide +kernel
theorem dX6_reckon_67 : decode cX6_reckon 67 = .ok (.iload_n 2, 1) := by decide +kernel
theorem dX6_reckon_68 : decode cX6_reckon 68 = .ok (.invokevirtual 54, 3) := by decide +kernel
theorem dX6_reckon_71 : decode cX6_reckon 71 = .ok (.aload_n 0, 1) := by decide +kernel
theorem dX6_reckon_72 : decode cX6_reckon 72 = .ok (.iload_n 2, 1) := by decide +kernel
theorem dX6_reckon_73 : decode cX6_reckon 73 = .ok (.invokevirtual 54, 3) := by decide +kernel
theorem dX6_reckon_76 : decode cX6_reckon 76 = .ok (.aload_n 1, 1) := by decide +kernel
theorem dX6_reckon_77 : decode cX6_reckon 77 = .ok (.getfield 58, 3) := by decide +kernel
theorem dX6_reckon_80 : decode cX6_reckon 80 = .ok (.invokevirtual 61, 3) := by decide +kernel
theorem dX6_reckon_83 : decode cX6_reckon 83 = .ok (.invokevirtual 65, 3) := by decide +kernel
theorem dX6_reckon_86 : decode cX6_reckon 86 = .ok (.iinc 2 1, 3) := by decide +kernel
theorem dX6_reckon_89 : decode cX6_reckon 89 = .ok (.goto (-31), 3) := by decide +kernel
theorem dX6_reckon_92 : decode cX6_reckon 92 = .ok (.return_, 1) := by decide +kernel
theorem dX6_ofKey_0 : decode cX6_ofKey 0 = .ok (.iconst 0, 1) := by decide +kernel
theorem dX6_ofKey_1 : decode cX6_ofKey 1 = .ok (.istore_n 3, 1) := by decide +kernel
theorem dX6_ofKey_2 : decode cX6_ofKey 2 = .ok (.iload_n 3, 1) := by decide +kernel
theorem dX6_ofKey_3 : decode cX6_ofKey 3 = .ok (.aload_n 0, 1) := by decide +kernel
theorem dX6_ofKey_4 : decode cX6_ofKey 4 = .ok (.getfield 25, 3) := by decide +kernel
theorem dX6_ofKey_7 : decode cX6_ofKey 7 = .ok (.if_icmp .ge 28, 3) := by decide +kernel
theorem dX6_ofKey_10 : decode cX6_ofKey 10 = .ok (.aload_n 0, 1) := by decide +kernel
theorem dX6_ofKey_11 : decode cX6_ofKey 11 = .ok (.iload_n 3, 1) := by decide +kernel
theorem dX6_ofKey_12 : decode cX6_ofKey 12 = .ok (.invokevirtual 54, 3) := by decide +kernel
theorem dX6_ofKey_15 : decode cX6_ofKey 15 = .ok (.invokevirtual 42, 3) := by decide +kernel
theorem dX6_ofKey_18 : decode cX6_ofKey 18 = .ok (.lload_n 1, 1) := by decide +kernel
theorem dX6_ofKey_19 : decode cX6_ofKey 19 = .ok (.lcmp, 1) := by decide +kernel
theorem dX6_ofKey_20 : decode cX6_ofKey 20 = .ok (.ifCond .ne 9, 3) := by decide +kernel
theorem dX6_ofKey_23 : decode cX6_ofKey 23 = .ok (.aload_n 0, 1) := by decide +kernel
theorem dX6_ofKey_24 : decode cX6_ofKey 24 = .ok (.iload_n 3, 1) := by decide +kernel
theorem dX6_ofKey_25 : decode cX6_ofKey 25 = .ok (.invokevirtual 54, 3) := by decide +kernel
theorem dX6_ofKey_28 : decode cX6_ofKey 28 = .ok (.areturn, 1) := by decide +kernel
theorem dX6_ofKey_29 : decode cX6_ofKey 29 = .ok (.iinc 3 1, 3) := by decide +kernel
theorem dX6_ofKey_32 : decode cX6_ofKey 32 = .ok (.goto (-30), 3) := by decide +kernel
theorem dX6_ofKey_35 : decode cX6_ofKey 35 = .ok (.aload_n 0, 1) := by decide +kernel
theorem dX6_ofKey_36 : decode cX6_ofKey 36 = .ok (.aload_n 0, 1) := by decide +kernel
theorem dX6_ofKey_37 : decode cX6_ofKey 37 = .ok (.getfield 25, 3) := by decide +kernel
theorem dX6_ofKey_40 : decode cX6_ofKey 40 = .ok (.invokevirtual 54, 3) := by decide +kernel
theorem dX6_ofKey_43 : decode cX6_ofKey 43 = .ok (.astore_n 3, 1) := by decide +kernel
theorem dX6_ofKey_44 : decode cX6_ofKey 44 = .ok (.aload_n 3, 1) := by decide +kernel
theorem dX6_ofKey_45 : decode cX6_ofKey 45 = .ok (.invokevirtual 69, 3) := by decide +kernel
theorem dX6_ofKey_48 : decode cX6_ofKey 48 = .ok (.aload_n 0, 1) := by decide +kernel
theorem dX6_ofKey_49 : decode cX6_ofKey 49 = .ok (.getfield 25, 3) := by decide +kernel
theorem dX6_ofKey_52 : decode cX6_ofKey 52 = .ok (.bipush 40, 2) := by decide +kernel
theorem dX6_ofKey_54 : decode cX6_ofKey 54 = .ok (.if_icmp .ge 13, 3) := by decide +kernel
theorem dX6_ofKey_57 : decode cX6_ofKey 57 = .ok (.aload_n 0, 1) := by decide +kernel
theorem dX6_ofKey_58 : decode cX6_ofKey 58 = .ok (.dup, 1) := by decide +kernel
theorem dX6_ofKey_59 : decode cX6_ofKey 59 = .ok (.getfield 25, 3) := by decide +kernel
theorem dX6_ofKey_62 : decode cX6_ofKey 62 = .ok (.iconst 1, 1) := by decide +kernel
theorem dX6_ofKey_63 : decode cX6_ofKey 63 = .ok (.iadd, 1) := by decide +kernel
theorem dX6_ofKey_64 : decode cX6_ofKey 64 = .ok (.putfield 25, 3) := by decide +kernel
theorem dX6_ofKey_67 : decode cX6_ofKey 67 = .ok (.aload_n 3, 1) := by decide +kernel
theorem dX6_ofKey_68 : decode cX6_ofKey 68 = .ok (.areturn, 1) := by decide +kernel
theorem dX6_sum_0 : decode cX6_sum 0 = .ok (.iconst 0, 1) := by decide +kernel
theorem dX6_sum_1 : decode cX6_sum 1 = .ok (.istore_n 3, 1) := by decide +kernel
theorem dX6_sum_2 : decode cX6_sum 2 = .ok (.iconst 0, 1) := by decide +kernel
theorem dX6_sum_3 : decode cX6_sum 3 = .ok (.istore 4, 2) := by decide +kernel
theorem dX6_sum_5 : decode cX6_sum 5 = .ok (.iload 4, 2) := by decide +kernel
theorem dX6_sum_7 : decode cX6_sum 7 = .ok (.aload_n 0, 1) := by decide +kernel
theorem dX6_sum_8 : decode cX6_sum 8 = .ok (.getfield 25, 3) := by decide +kernel
theorem dX6_sum_11 : decode cX6_sum 11 = .ok (.if_icmp .ge 40, 3) := by decide +kernel
theorem dX6_sum_14 : decode cX6_sum 14 = .ok (.iload_n 1, 1) := by decide +kernel
theorem dX6_sum_15 : decode cX6_sum 15 = .ok (.iconst (-1), 1) := by decide +kernel
theorem dX6_sum_16 : decode cX6_sum 16 = .ok (.if_icmp .eq 16, 3) := by decide +kernel
theorem dX6_sum_19 : decode cX6_sum 19 = .ok (.aload_n 0, 1) := by decide +kernel
theorem dX6_sum_20 : decode cX6_sum 20 = .ok (.iload 4, 2) := by decide +kernel
theorem dX6_sum_22 : decode cX6_sum 22 = .ok (.invokevirtual 54, 3) := by decide +kernel
theorem dX6_sum_25 : decode cX6_sum 25 = .ok (.getfield 72, 3) := by decide +kernel
theorem dX6_sum_28 : decode cX6_sum 28 = .ok (.iload_n 1, 1) := by decide +kernel
theorem dX6_sum_29 : decode cX6_sum 29 = .ok (.if_icmp .ne 16, 3) := by decide +kernel
theorem dX6_sum_32 : decode cX6_sum 32 = .ok (.iload_n 3, 1) := by decide +kernel
theorem dX6_sum_33 : decode cX6_sum 33 = .ok (.aload_n 0, 1) := by decide +kernel
theorem dX6_sum_34 : decode cX6_sum 34 = .ok (.iload 4, 2) := by decide +kernel
theorem dX6_sum_36 : decode cX6_sum 36 = .ok (.invokevirtual 54, 3) := by decide +kernel
theorem dX6_sum_39 : decode cX6_sum 39 = .ok (.iload_n 2, 1) := by decide +kernel
theorem dX6_sum_40 : decode cX6_sum 40 = .ok (.invokestatic 75, 3) := by decide +kernel
theorem dX6_sum_43 : decode cX6_sum 43 = .ok (.iadd, 1) := by decide +kernel
theorem dX6_sum_44 : decode cX6_sum 44 = .ok (.istore_n 3, 1) := by decide +kernel
theorem dX6_sum_45 : decode cX6_sum 45 = .ok (.iinc 4 1, 3) := by decide +kernel
theorem dX6_sum_48 : decode cX6_sum 48 = .ok (.goto (-43), 3) := by decide +kernel
theorem dX6_sum_51 : decode cX6_sum 51 = .ok (.iload_n 3, 1) := by decide +kernel
theorem dX6_sum_52 : decode cX6_sum 52 = .ok (.ireturn, 1) := by decide +kernel
theorem dX6_numberOf_0 : decode cX6_numberOf 0 = .ok (.iload_n 1, 1) := by decide +kernel
theorem dX6_numberOf_1 : decode cX6_numberOf 1 = .ok (.tableswitch 51 0 3 #[31, 36, 41, 46], 31) := by decide +kernel
theorem dX6_numberOf_32 : decode cX6_numberOf 32 = .ok (.aload_n 0, 1) := by decide +kernel
theorem dX6_numberOf_33 : decode cX6_numberOf 33 = .ok (.getfield 79, 3) := by decide +kernel
theorem dX6_numberOf_36 : decode cX6_numberOf 36 = .ok (.ireturn, 1) := by decide +kernel
theorem dX6_numberOf_37 : decode cX6_numberOf 37 = .ok (.aload_n 0, 1) := by decide +kernel
theorem dX6_numberOf_38 : decode cX6_numberOf 38 = .ok (.getfield 82, 3) := by decide +kernel
theorem dX6_numberOf_41 : decode cX6_numberOf 41 = .ok (.ireturn, 1) := by decide +kernel
theorem dX6_numberOf_42 : decode cX6_numberOf 42 = .ok (.aload_n 0, 1) := by decide +kernel
theorem dX6_numberOf_43 : decode cX6_numberOf 43 = .ok (.getfield 85, 3) := by decide +kernel
theorem dX6_numberOf_46 : decode cX6_numberOf 46 = .ok (.ireturn, 1) := by decide +kernel
theorem dX6_numberOf_47 : decode cX6_numberOf 47 = .ok (.aload_n 0, 1) := by decide +kernel
theorem dX6_numberOf_48 : decode cX6_numberOf 48 = .ok (.getfield 88, 3) := by decide +kernel
theorem dX6_numberOf_51 : decode cX6_numberOf 51 = .ok (.ireturn, 1) := by decide +kernel
theorem dX6_numberOf_52 : decode cX6_numberOf 52 = .ok (.iconst 1, 1) := by decide +kernel
theorem dX6_numberOf_53 : decode cX6_numberOf 53 = .ok (.ireturn, 1) := by decide +kernel
theorem dX6_rank_0 : decode cX6_rank 0 = .ok (.iconst 1, 1) := by decide +kernel
theorem dX6_rank_1 : decode cX6_rank 1 = .ok (.istore_n 1, 1) := by decide +kernel
theorem dX6_rank_2 : decode cX6_rank 2 = .ok (.iload_n 1, 1) := by decide +kernel
theorem dX6_rank_3 : decode cX6_rank 3 = .ok (.aload_n 0, 1) := by decide +kernel
theorem dX6_rank_4 : decode cX6_rank 4 = .ok (.getfield 25, 3) := by decide +kernel
theorem dX6_rank_7 : decode cX6_rank 7 = .ok (.if_icmp .ge 59, 3) := by decide +kernel
theorem dX6_rank_10 : decode cX6_rank 10 = .ok (.aload_n 0, 1) := by decide +kernel
theorem dX6_rank_11 : decode cX6_rank 11 = .ok (.iload_n 1, 1) := by decide +kernel
theorem dX6_rank_12 : decode cX6_rank 12 = .ok (.invokevirtual 54, 3) := by decide +kernel
theorem dX6_rank_15 : decode cX6_rank 15 = .ok (.astore_n 2, 1) := by decide +kernel
theorem dX6_rank_16 : decode cX6_rank 16 = .ok (.iload_n 1, 1) := by decide +kernel
theorem dX6_rank_17 : decode cX6_rank 17 = .ok (.istore_n 3, 1) := by decide +kernel
theorem dX6_rank_18 : decode cX6_rank 18 = .ok (.iload_n 3, 1) := by decide +kernel
theorem dX6_rank_19 : decode cX6_rank 19 = .ok (.ifCond .le 35, 3) := by decide +kernel
theorem dX6_rank_22 : decode cX6_rank 22 = .ok (.aload_n 2, 1) := by decide +kernel
theorem dX6_rank_23 : decode cX6_rank 23 = .ok (.aload_n 0, 1) := by decide +kernel
theorem dX6_rank_24 : decode cX6_rank 24 = .ok (.iload_n 3, 1) := by decide +kernel
theorem dX6_rank_25 : decode cX6_rank 25 = .ok (.iconst 1, 1) := by decide +kernel
theorem dX6_rank_26 : decode cX6_rank 26 = .ok (.isub, 1) := by decide +kernel
theorem dX6_rank_27 : decode cX6_rank 27 = .ok (.invokevirtual 54, 3) := by decide +kernel
theorem dX6_rank_30 : decode cX6_rank 30 = .ok (.invokestatic 91, 3) := by decide +kernel
theorem dX6_rank_33 : decode cX6_rank 33 = .ok (.ifCond .eq 21, 3) := by decide +kernel
theorem dX6_rank_36 : decode cX6_rank 36 = .ok (.aload_n 0, 1) := by decide +kernel
theorem dX6_rank_37 : decode cX6_rank 37 = .ok (.iload_n 3, 1) := by decide +kernel
theorem dX6_rank_38 : decode cX6_rank 38 = .ok (.aload_n 0, 1) := by decide +kernel
theorem dX6_rank_39 : decode cX6_rank 39 = .ok (.iload_n 3, 1) := by decide +kernel
theorem dX6_rank_40 : decode cX6_rank 40 = .ok (.iconst 1, 1) := by decide +kernel
theorem dX6_rank_41 : decode cX6_rank 41 = .ok (.isub, 1) := by decide +kernel
theorem dX6_rank_42 : decode cX6_rank 42 = .ok (.invokevirtual 54, 3) := by decide +kernel
theorem dX6_rank_45 : decode cX6_rank 45 = .ok (.invokevirtual 95, 3) := by decide +kernel
theorem dX6_rank_48 : decode cX6_rank 48 = .ok (.iinc 3 (-1), 3) := by decide +kernel
theorem dX6_rank_51 : decode cX6_rank 51 = .ok (.goto (-33), 3) := by decide +kernel
theorem dX6_rank_54 : decode cX6_rank 54 = .ok (.aload_n 0, 1) := by decide +kernel
theorem dX6_rank_55 : decode cX6_rank 55 = .ok (.iload_n 3, 1) := by decide +kernel
theorem dX6_rank_56 : decode cX6_rank 56 = .ok (.aload_n 2, 1) := by decide +kernel
theorem dX6_rank_57 : decode cX6_rank 57 = .ok (.invokevirtual 95, 3) := by decide +kernel
theorem dX6_rank_60 : decode cX6_rank 60 = .ok (.iinc 1 1, 3) := by decide +kernel
theorem dX6_rank_63 : decode cX6_rank 63 = .ok (.goto (-61), 3) := by decide +kernel
theorem dX6_rank_66 : decode cX6_rank 66 = .ok (.return_, 1) := by decide +kernel
theorem dX6_put_0 : decode cX6_put 0 = .ok (.iload_n 1, 1) := by decide +kernel
theorem dX6_put_1 : decode cX6_put 1 = .ok (.ifCond .lt 16, 3) := by decide +kernel
theorem dX6_put_4 : decode cX6_put 4 = .ok (.iload_n 1, 1) := by decide +kernel
theorem dX6_put_5 : decode cX6_put 5 = .ok (.bipush 40, 2) := by decide +kernel
theorem dX6_put_7 : decode cX6_put 7 = .ok (.if_icmp .ge 10, 3) := by decide +kernel
theorem dX6_put_10 : decode cX6_put 10 = .ok (.aload_n 0, 1) := by decide +kernel
theorem dX6_put_11 : decode cX6_put 11 = .ok (.getfield 11, 3) := by decide +kernel
theorem dX6_put_14 : decode cX6_put 14 = .ok (.iload_n 1, 1) := by decide +kernel
theorem dX6_put_15 : decode cX6_put 15 = .ok (.aload_n 2, 1) := by decide +kernel
theorem dX6_put_16 : decode cX6_put 16 = .ok (.aastore, 1) := by decide +kernel
theorem dX6_put_17 : decode cX6_put 17 = .ok (.return_, 1) := by decide +kernel
theorem dX6_isAhead_0 : decode cX6_isAhead 0 = .ok (.aload_n 0, 1) := by decide +kernel
theorem dX6_isAhead_1 : decode cX6_isAhead 1 = .ok (.getfield 85, 3) := by decide +kernel
theorem dX6_isAhead_4 : decode cX6_isAhead 4 = .ok (.aload_n 1, 1) := by decide +kernel
theorem dX6_isAhead_5 : decode cX6_isAhead 5 = .ok (.getfield 85, 3) := by decide +kernel
theorem dX6_isAhead_8 : decode cX6_isAhead 8 = .ok (.if_icmp .gt 26, 3) := by decide +kernel
theorem dX6_isAhead_11 : decode cX6_isAhead 11 = .ok (.aload_n 0, 1) := by decide +kernel
theorem dX6_isAhead_12 : decode cX6_isAhead 12 = .ok (.getfield 85, 3) := by decide +kernel
theorem dX6_isAhead_15 : decode cX6_isAhead 15 = .ok (.aload_n 1, 1) := by decide +kernel
theorem dX6_isAhead_16 : decode cX6_isAhead 16 = .ok (.getfield 85, 3) := by decide +kernel
theorem dX6_isAhead_19 : decode cX6_isAhead 19 = .ok (.if_icmp .ne 19, 3) := by decide +kernel
theorem dX6_isAhead_22 : decode cX6_isAhead 22 = .ok (.aload_n 0, 1) := by decide +kernel
theorem dX6_isAhead_23 : decode cX6_isAhead 23 = .ok (.invokevirtual 42, 3) := by decide +kernel
theorem dX6_isAhead_26 : decode cX6_isAhead 26 = .ok (.aload_n 1, 1) := by decide +kernel
theorem dX6_isAhead_27 : decode cX6_isAhead 27 = .ok (.invokevirtual 42, 3) := by decide +kernel
theorem dX6_isAhead_30 : decode cX6_isAhead 30 = .ok (.lcmp, 1) := by decide +kernel
theorem dX6_isAhead_31 : decode cX6_isAhead 31 = .ok (.ifCond .ge 7, 3) := by decide +kernel
theorem dX6_isAhead_34 : decode cX6_isAhead 34 = .ok (.iconst 1, 1) := by decide +kernel
theorem dX6_isAhead_35 : decode cX6_isAhead 35 = .ok (.goto 4, 3) := by decide +kernel
theorem dX6_isAhead_38 : decode cX6_isAhead 38 = .ok (.iconst 0, 1) := by decide +kernel
theorem dX6_isAhead_39 : decode cX6_isAhead 39 = .ok (.ireturn, 1) := by decide +kernel
theorem dX7_init_0 : decode cX7_init 0 = .ok (.aload_n 0, 1) := by decide +kernel
theorem dX7_init_1 : decode cX7_init 1 = .ok (.invokespecial 3, 3) := by decide +kernel
theorem dX7_init_4 : decode cX7_init 4 = .ok (.aload_n 0, 1) := by decide +kernel
theorem dX7_init_5 : decode cX7_init 5 = .ok (.bipush 40, 2) := by decide +kernel
theorem dX7_init_7 : decode cX7_init 7 = .ok (.newarray .int, 2) := by decide +kernel
theorem dX7_init_9 : decode cX7_init 9 = .ok (.putfield 9, 3) := by decide +kernel
theorem dX7_init_12 : decode cX7_init 12 = .ok (.aload_n 0, 1) := by decide +kernel
theorem dX7_init_13 : decode cX7_init 13 = .ok (.bipush 40, 2) := by decide +kernel
theorem dX7_init_15 : decode cX7_init 15 = .ok (.newarray .int, 2) := by decide +kernel
theorem dX7_init_17 : decode cX7_init 17 = .ok (.putfield 15, 3) := by decide +kernel
theorem dX7_init_20 : decode cX7_init 20 = .ok (.aload_n 0, 1) := by decide +kernel
theorem dX7_init_21 : decode cX7_init 21 = .ok (.bipush 12, 2) := by decide +kernel
theorem dX7_init_23 : decode cX7_init 23 = .ok (.newarray .int, 2) := by decide +kernel
theorem dX7_init_25 : decode cX7_init 25 = .ok (.putfield 18, 3) := by decide +kernel
theorem dX7_init_28 : decode cX7_init 28 = .ok (.aload_n 0, 1) := by decide +kernel
theorem dX7_init_29 : decode cX7_init 29 = .ok (.bipush 40, 2) := by decide +kernel
theorem dX7_init_31 : decode cX7_init 31 = .ok (.anewarray 21, 3) := by decide +kernel
theorem dX7_init_34 : decode cX7_init 34 = .ok (.putfield 23, 3) := by decide +kernel
theorem dX7_init_37 : decode cX7_init 37 = .ok (.return_, 1) := by decide +kernel
theorem dX7_begin_0 : decode cX7_begin 0 = .ok (.aload_n 0, 1) := by decide +kernel
theorem dX7_begin_1 : decode cX7_begin 1 = .ok (.aload_n 1, 1) := by decide +kernel
theorem dX7_begin_2 : decode cX7_begin 2 = .ok (.invokevirtual 27, 3) := by decide +kernel
theorem dX7_begin_5 : decode cX7_begin 5 = .ok (.bipush 40, 2) := by decide +kernel
theorem dX7_begin_7 : decode cX7_begin 7 = .ok (.invokestatic 33, 3) := by decide +kernel
theorem dX7_begin_10 : decode cX7_begin 10 = .ok (.putfield 39, 3) := by decide +kernel
theorem dX7_begin_13 : decode cX7_begin 13 = .ok (.iconst 0, 1) := by decide +kernel
theorem dX7_begin_14 : decode cX7_begin 14 = .ok (.istore_n 2, 1) := by decide +kernel
theorem dX7_begin_15 : decode cX7_begin 15 = .ok (.iload_n 2, 1) := by decide +kernel
theorem dX7_begin_16 : decode cX7_begin 16 = .ok (.aload_n 0, 1) := by decide +kernel
theorem dX7_begin_17 : decode cX7_begin 17 = .ok (.getfield 39, 3) := by decide +kernel
theorem dX7_begin_20 : decode cX7_begin 20 = .ok (.if_icmp .ge 16, 3) := by decide +kernel
theorem dX7_begin_23 : decode cX7_begin 23 = .ok (.aload_n 0, 1) := by decide +kernel
theorem dX7_begin_24 : decode cX7_begin 24 = .ok (.getfield 9, 3) := by decide +kernel
theorem dX7_begin_27 : decode cX7_begin 27 = .ok (.iload_n 2, 1) := by decide +kernel
theorem dX7_begin_28 : decode cX7_begin 28 = .ok (.iload_n 2, 1) := by decide +kernel
theorem dX7_begin_29 : decode cX7_begin 29 = .ok (.iastore, 1) := by decide +kernel
theorem dX7_begin_30 : decode cX7_begin 30 = .ok (.iinc 2 1, 3) := by decide +kernel
theorem dX7_begin_33 : decode cX7_begin 33 = .ok (.goto (-18), 3) := by decide +kernel
theorem dX7_begin_36 : decode cX7_begin 36 = .ok (.return_, 1) := by decide +kernel
theorem dX7_passBy_0 : decode cX7_passBy 0 = .ok (.aload_n 0, 1) := by decide +kernel
theorem dX7_passBy_1 : decode cX7_passBy 1 = .ok (.aload_n 1, 1) := by decide +kernel
theorem dX7_passBy_2 : decode cX7_passBy 2 = .ok (.iload_n 2, 1) := by decide +kernel
theorem dX7_passBy_3 : decode cX7_passBy 3 = .ok (.invokevirtual 43, 3) := by decide +kernel
theorem dX7_passBy_6 : decode cX7_passBy 6 = .ok (.iconst 0, 1) := by decide +kernel
theorem dX7_passBy_7 : decode cX7_passBy 7 = .ok (.istore_n 3, 1) := by decide +kernel
theorem dX7_passBy_8 : decode cX7_passBy 8 = .ok (.iload_n 3, 1) := by decide +kernel
theorem dX7_passBy_9 : decode cX7_passBy 9 = .ok (.aload_n 0, 1) := by decide +kernel
theorem dX7_passBy_10 : decode cX7_passBy 10 = .ok (.getfield 39, 3) := by decide +kernel
theorem dX7_passBy_13 : decode cX7_passBy 13 = .ok (.if_icmp .ge 70, 3) := by decide +kernel
theorem dX7_passBy_16 : decode cX7_passBy 16 = .ok (.aload_n 1, 1) := by decide +kernel
theorem dX7_passBy_17 : decode cX7_passBy 17 = .ok (.aload_n 0, 1) := by decide +kernel
theorem dX7_passBy_18 : decode cX7_passBy 18 = .ok (.getfield 9, 3) := by decide +kernel
theorem dX7_passBy_21 : decode cX7_passBy 21 = .ok (.iload_n 3, 1) := by decide +kernel
theorem dX7_passBy_22 : decode cX7_passBy 22 = .ok (.iaload, 1) := by decide +kernel
theorem dX7_passBy_23 : decode cX7_passBy 23 = .ok (.invokevirtual 47, 3) := by decide +kernel
theorem dX7_passBy_26 : decode cX7_passBy 26 = .ok (.iload_n 2, 1) := by decide +kernel
theorem dX7_passBy_27 : decode cX7_passBy 27 = .ok (.invokestatic 51, 3) := by decide +kernel
theorem dX7_passBy_30 : decode cX7_passBy 30 = .ok (.istore 4, 2) := by decide +kernel
theorem dX7_passBy_32 : decode cX7_passBy 32 = .ok (.aload_n 0, 1) := by decide +kernel
theorem dX7_passBy_33 : decode cX7_passBy 33 = .ok (.getfield 18, 3) := by decide +kernel
theorem dX7_passBy_36 : decode cX7_passBy 36 = .ok (.iload 4, 2) := by decide +kernel
theorem dX7_passBy_38 : decode cX7_passBy 38 = .ok (.iaload, 1) := by decide +kernel
theorem dX7_passBy_39 : decode cX7_passBy 39 = .ok (.istore 5, 2) := by decide +kernel
theorem dX7_passBy_41 : decode cX7_passBy 41 = .ok (.iload 5, 2) := by decide +kernel
theorem dX7_passBy_43 : decode cX7_passBy 43 = .ok (.ifCond .lt 23, 3) := by decide +kernel
theorem dX7_passBy_46 : decode cX7_passBy 46 = .ok (.iload 5, 2) := by decide +kernel
theorem dX7_passBy_48 : decode cX7_passBy 48 = .ok (.bipush 40, 2) := by decide +kernel
theorem dX7_passBy_50 : decode cX7_passBy 50 = .ok (.if_icmp .ge 16, 3) := by decide +kernel
theorem dX7_passBy_53 : decode cX7_passBy 53 = .ok (.aload_n 0, 1) := by decide +kernel
theorem dX7_passBy_54 : decode cX7_passBy 54 = .ok (.getfield 15, 3) := by decide +kernel
theorem dX7_passBy_57 : decode cX7_passBy 57 = .ok (.iload 5, 2) := by decide +kernel
theorem dX7_passBy_59 : decode cX7_passBy 59 = .ok (.aload_n 0, 1) := by decide +kernel
theorem dX7_passBy_60 : decode cX7_passBy 60 = .ok (.getfield 9, 3) := by decide +kernel
theorem dX7_passBy_63 : decode cX7_passBy 63 = .ok (.iload_n 3, 1) := by decide +kernel
theorem dX7_passBy_64 : decode cX7_passBy 64 = .ok (.iaload, 1) := by decide +kernel
theorem dX7_passBy_65 : decode cX7_passBy 65 = .ok (.iastore, 1) := by decide +kernel
theorem dX7_passBy_66 : decode cX7_passBy 66 = .ok (.aload_n 0, 1) := by decide +kernel
theorem dX7_passBy_67 : decode cX7_passBy 67 = .ok (.getfield 18, 3) := by decide +kernel
theorem dX7_passBy_70 : decode cX7_passBy 70 = .ok (.iload 4, 2) := by decide +kernel
theorem dX7_passBy_72 : decode cX7_passBy 72 = .ok (.dup2, 1) := by decide +kernel
theorem dX7_passBy_73 : decode cX7_passBy 73 = .ok (.iaload, 1) := by decide +kernel
theorem dX7_passBy_74 : decode cX7_passBy 74 = .ok (.iconst 1, 1) := by decide +kernel
theorem dX7_passBy_75 : decode cX7_passBy 75 = .ok (.iadd, 1) := by decide +kernel
theorem dX7_passBy_76 : decode cX7_passBy 76 = .ok (.iastore, 1) := by decide +kernel
theorem dX7_passBy_77 : decode cX7_passBy 77 = .ok (.iinc 3 1, 3) := by decide +kernel
theorem dX7_passBy_80 : decode cX7_passBy 80 = .ok (.goto (-72), 3) := by decide +kernel
theorem dX7_passBy_83 : decode cX7_passBy 83 = .ok (.aload_n 0, 1) := by decide +kernel
theorem dX7_passBy_84 : decode cX7_passBy 84 = .ok (.getfield 15, 3) := by decide +kernel
theorem dX7_passBy_87 : decode cX7_passBy 87 = .ok (.iconst 0, 1) := by decide +kernel
theorem dX7_passBy_88 : decode cX7_passBy 88 = .ok (.aload_n 0, 1) := by decide +kernel
theorem dX7_passBy_89 : decode cX7_passBy 89 = .ok (.getfield 9, 3) := by decide +kernel
theorem dX7_passBy_92 : decode cX7_passBy 92 = .ok (.iconst 0, 1) := by decide +kernel
theorem dX7_passBy_93 : decode cX7_passBy 93 = .ok (.aload_n 0, 1) := by decide +kernel
theorem dX7_passBy_94 : decode cX7_passBy 94 = .ok (.getfield 39, 3) := by decide +kernel
theorem dX7_passBy_97 : decode cX7_passBy 97 = .ok (.invokestatic 55, 3) := by decide +kernel
theorem dX7_passBy_100 : decode cX7_passBy 100 = .ok (.return_, 1) := by decide +kernel
theorem dX7_findStarts_0 : decode cX7_findStarts 0 = .ok (.iconst 0, 1) := by decide +kernel
theorem dX7_findStarts_1 : decode cX7_findStarts 1 = .ok (.istore_n 3, 1) := by decide +kernel
theorem dX7_findStarts_2 : decode cX7_findStarts 2 = .ok (.iload_n 3, 1) := by decide +kernel
theorem dX7_findStarts_3 : decode cX7_findStarts 3 = .ok (.bipush 11, 2) := by decide +kernel
theorem dX7_findStarts_5 : decode cX7_findStarts 5 = .ok (.if_icmp .gt 16, 3) := by decide +kernel
theorem dX7_findStarts_8 : decode cX7_findStarts 8 = .ok (.aload_n 0, 1) := by decide +kernel
theorem dX7_findStarts_9 : decode cX7_findStarts 9 = .ok (.getfield 18, 3) := by decide +kernel
theorem dX7_findStarts_12 : decode cX7_findStarts 12 = .ok (.iload_n 3, 1) := by decide +kernel
theorem dX7_findStarts_13 : decode cX7_findStarts 13 = .ok (.iconst 0, 1) := by decide +kernel
theorem dX7_findStarts_14 : decode cX7_findStarts 14 = .ok (.iastore, 1) := by decide +kernel
theorem dX7_findStarts_15 : decode cX7_findStarts 15 = .ok (.iinc 3 1, 3) := by decide +kernel
theorem dX7_findStarts_18 : decode cX7_findStarts 18 = .ok (.goto (-16), 3) := by decide +kernel
theorem dX7_findStarts_21 : decode cX7_findStarts 21 = .ok (.iconst 0, 1) := by decide +kernel
theorem dX7_findStarts_22 : decode cX7_findStarts 22 = .ok (.istore_n 3, 1) := by decide +kernel
theorem dX7_findStarts_23 : decode cX7_findStarts 23 = .ok (.iload_n 3, 1) := by decide +kernel
theorem dX7_findStarts_24 : decode cX7_findStarts 24 = .ok (.aload_n 0, 1) := by decide +kernel
theorem dX7_findStarts_25 : decode cX7_findStarts 25 = .ok (.getfield 39, 3) := by decide +kernel
theorem dX7_findStarts_28 : decode cX7_findStarts 28 = .ok (.if_icmp .ge 34, 3) := by decide +kernel
theorem dX7_findStarts_31 : decode cX7_findStarts 31 = .ok (.aload_n 0, 1) := by decide +kernel
theorem dX7_findStarts_32 : decode cX7_findStarts 32 = .ok (.getfield 18, 3) := by decide +kernel
theorem dX7_findStarts_35 : decode cX7_findStarts 35 = .ok (.aload_n 1, 1) := by decide +kernel
theorem dX7_findStarts_36 : decode cX7_findStarts 36 = .ok (.aload_n 0, 1) := by decide +kernel
theorem dX7_findStarts_37 : decode cX7_findStarts 37 = .ok (.getfield 9, 3) := by decide +kernel
theorem dX7_findStarts_40 : decode cX7_findStarts 40 = .ok (.iload_n 3, 1) := by decide +kernel
theorem dX7_findStarts_41 : decode cX7_findStarts 41 = .ok (.iaload, 1) := by decide +kernel
theorem dX7_findStarts_42 : decode cX7_findStarts 42 = .ok (.invokevirtual 47, 3) := by decide +kernel
theorem dX7_findStarts_45 : decode cX7_findStarts 45 = .ok (.iload_n 2, 1) := by decide +kernel
theorem dX7_findStarts_46 : decode cX7_findStarts 46 = .ok (.invokestatic 51, 3) := by decide +kernel
theorem dX7_findStarts_49 : decode cX7_findStarts 49 = .ok (.iconst 1, 1) := by decide +kernel
theorem dX7_findStarts_50 : decode cX7_findStarts 50 = .ok (.iadd, 1) := by decide +kernel
theorem dX7_findStarts_51 : decode cX7_findStarts 51 = .ok (.dup2, 1) := by decide +kernel
theorem dX7_findStarts_52 : decode cX7_findStarts 52 = .ok (.iaload, 1) := by decide +kernel
theorem dX7_findStarts_53 : decode cX7_findStarts 53 = .ok (.iconst 1, 1) := by decide +kernel
theorem dX7_findStarts_54 : decode cX7_findStarts 54 = .ok (.iadd, 1) := by decide +kernel
theorem dX7_findStarts_55 : decode cX7_findStarts 55 = .ok (.iastore, 1) := by decide +kernel
theorem dX7_findStarts_56 : decode cX7_findStarts 56 = .ok (.iinc 3 1, 3) := by decide +kernel
theorem dX7_findStarts_59 : decode cX7_findStarts 59 = .ok (.goto (-36), 3) := by decide +kernel
theorem dX7_findStarts_62 : decode cX7_findStarts 62 = .ok (.iconst 1, 1) := by decide +kernel
theorem dX7_findStarts_63 : decode cX7_findStarts 63 = .ok (.istore_n 3, 1) := by decide +kernel
theorem dX7_findStarts_64 : decode cX7_findStarts 64 = .ok (.iload_n 3, 1) := by decide +kernel
theorem dX7_findStarts_65 : decode cX7_findStarts 65 = .ok (.bipush 11, 2) := by decide +kernel
theorem dX7_findStarts_67 : decode cX7_findStarts 67 = .ok (.if_icmp .gt 26, 3) := by decide +kernel
theorem dX7_findStarts_70 : decode cX7_findStarts 70 = .ok (.aload_n 0, 1) := by decide +kernel
theorem dX7_findStarts_71 : decode cX7_findStarts 71 = .ok (.getfield 18, 3) := by decide +kernel
theorem dX7_findStarts_74 : decode cX7_findStarts 74 = .ok (.iload_n 3, 1) := by decide +kernel
theorem dX7_findStarts_75 : decode cX7_findStarts 75 = .ok (.dup2, 1) := by decide +kernel
theorem dX7_findStarts_76 : decode cX7_findStarts 76 = .ok (.iaload, 1) := by decide +kernel
theorem dX7_findStarts_77 : decode cX7_findStarts 77 = .ok (.aload_n 0, 1) := by decide +kernel
theorem dX7_findStarts_78 : decode cX7_findStarts 78 = .ok (.getfield 18, 3) := by decide +kernel
theorem dX7_findStarts_81 : decode cX7_findStarts 81 = .ok (.iload_n 3, 1) := by decide +kernel
theorem dX7_findStarts_82 : decode cX7_findStarts 82 = .ok (.iconst 1, 1) := by decide +kernel
theorem dX7_findStarts_83 : decode cX7_findStarts 83 = .ok (.isub, 1) := by decide +kernel
theorem dX7_findStarts_84 : decode cX7_findStarts 84 = .ok (.iaload, 1) := by decide +kernel
theorem dX7_findStarts_85 : decode cX7_findStarts 85 = .ok (.iadd, 1) := by decide +kernel
theorem dX7_findStarts_86 : decode cX7_findStarts 86 = .ok (.iastore, 1) := by decide +kernel
theorem dX7_findStarts_87 : decode cX7_findStarts 87 = .ok (.iinc 3 1, 3) := by decide +kernel
theorem dX7_findStarts_90 : decode cX7_findStarts 90 = .ok (.goto (-26), 3) := by decide +kernel
theorem dX7_findStarts_93 : decode cX7_findStarts 93 = .ok (.return_, 1) := by decide +kernel
theorem dX7_stackOf_0 : decode cX7_stackOf 0 = .ok (.aload_n 0, 1) := by decide +kernel
theorem dX7_stackOf_1 : decode cX7_stackOf 1 = .ok (.iload_n 1, 1) := by decide +kernel
theorem dX7_stackOf_2 : decode cX7_stackOf 2 = .ok (.invokevirtual 61, 3) := by decide +kernel
theorem dX7_stackOf_5 : decode cX7_stackOf 5 = .ok (.istore_n 2, 1) := by decide +kernel
theorem dX7_stackOf_6 : decode cX7_stackOf 6 = .ok (.iload_n 2, 1) := by decide +kernel
theorem dX7_stackOf_7 : decode cX7_stackOf 7 = .ok (.iconst 0, 1) := by decide +kernel
theorem dX7_stackOf_8 : decode cX7_stackOf 8 = .ok (.bipush 9, 2) := by decide +kernel
theorem dX7_stackOf_10 : decode cX7_stackOf 10 = .ok (.invokestatic 65, 3) := by decide +kernel
theorem dX7_stackOf_13 : decode cX7_stackOf 13 = .ok (.ifCond .eq 9, 3) := by decide +kernel
theorem dX7_stackOf_16 : decode cX7_stackOf 16 = .ok (.iload_n 2, 1) := by decide +kernel
theorem dX7_stackOf_17 : decode cX7_stackOf 17 = .ok (.iconst 1, 1) := by decide +kernel
theorem dX7_stackOf_18 : decode cX7_stackOf 18 = .ok (.iadd, 1) := by decide +kernel
theorem dX7_stackOf_19 : decode cX7_stackOf 19 = .ok (.goto 4, 3) := by decide +kernel
theorem dX7_stackOf_22 : decode cX7_stackOf 22 = .ok (.iconst 0, 1) := by decide +kernel
theorem dX7_stackOf_23 : decode cX7_stackOf 23 = .ok (.ireturn, 1) := by decide +kernel
theorem dX7_arrange_0 : decode cX7_arrange 0 = .ok (.iconst 0, 1) := by decide +kernel
theorem dX7_arrange_1 : decode cX7_arrange 1 = .ok (.istore_n 2, 1) := by decide +kernel
theorem dX7_arrange_2 : decode cX7_arrange 2 = .ok (.iconst 0, 1) := by decide +kernel
theorem dX7_arrange_3 : decode cX7_arrange 3 = .ok (.istore_n 3, 1) := by decide +kernel
theorem dX7_arrange_4 : decode cX7_arrange 4 = .ok (.iload_n 3, 1) := by decide +kernel
theorem dX7_arrange_5 : decode cX7_arrange 5 = .ok (.aload_n 0, 1) := by decide +kernel
theorem dX7_arrange_6 : decode cX7_arrange 6 = .ok (.getfield 39, 3) := by decide +kernel
theorem dX7_arrange_9 : decode cX7_arrange 9 = .ok (.if_icmp .ge 38, 3) := by decide +kernel
theorem dX7_arrange_12 : decode cX7_arrange 12 = .ok (.aload_n 0, 1) := by decide +kernel
theorem dX7_arrange_13 : decode cX7_arrange 13 = .ok (.getfield 23, 3) := by decide +kernel
theorem dX7_arrange_16 : decode cX7_arrange 16 = .ok (.iload_n 3, 1) := by decide +kernel
theorem dX7_arrange_17 : decode cX7_arrange 17 = .ok (.aload_n 1, 1) := by decide +kernel
theorem dX7_arrange_18 : decode cX7_arrange 18 = .ok (.aload_n 0, 1) := by decide +kernel
theorem dX7_arrange_19 : decode cX7_arrange 19 = .ok (.getfield 9, 3) := by decide +kernel
theorem dX7_arrange_22 : decode cX7_arrange 22 = .ok (.iload_n 3, 1) := by decide +kernel
theorem dX7_arrange_23 : decode cX7_arrange 23 = .ok (.iaload, 1) := by decide +kernel
theorem dX7_arrange_24 : decode cX7_arrange 24 = .ok (.invokevirtual 47, 3) := by decide +kernel
theorem dX7_arrange_27 : decode cX7_arrange 27 = .ok (.aastore, 1) := by decide +kernel
theorem dX7_arrange_28 : decode cX7_arrange 28 = .ok (.aload_n 0, 1) := by decide +kernel
theorem dX7_arrange_29 : decode cX7_arrange 29 = .ok (.getfield 9, 3) := by decide +kernel
theorem dX7_arrange_32 : decode cX7_arrange 32 = .ok (.iload_n 3, 1) := by decide +kernel
theorem dX7_arrange_33 : decode cX7_arrange 33 = .ok (.iaload, 1) := by decide +kernel
theorem dX7_arrange_34 : decode cX7_arrange 34 = .ok (.iload_n 3, 1) := by decide +kernel
theorem dX7_arrange_35 : decode cX7_arrange 35 = .ok (.if_icmp .eq 6, 3) := by decide +kernel
theorem dX7_arrange_38 : decode cX7_arrange 38 = .ok (.iinc 2 1, 3) := by decide +kernel
theorem dX7_arrange_41 : decode cX7_arrange 41 = .ok (.iinc 3 1, 3) := by decide +kernel
theorem dX7_arrange_44 : decode cX7_arrange 44 = .ok (.goto (-40), 3) := by decide +kernel
theorem dX7_arrange_47 : decode cX7_arrange 47 = .ok (.iconst 0, 1) := by decide +kernel
theorem dX7_arrange_48 : decode cX7_arrange 48 = .ok (.istore_n 3, 1) := by decide +kernel
theorem dX7_arrange_49 : decode cX7_arrange 49 = .ok (.iload_n 3, 1) := by decide +kernel
theorem dX7_arrange_50 : decode cX7_arrange 50 = .ok (.aload_n 0, 1) := by decide +kernel
theorem dX7_arrange_51 : decode cX7_arrange 51 = .ok (.getfield 39, 3) := by decide +kernel
theorem dX7_arrange_54 : decode cX7_arrange 54 = .ok (.if_icmp .ge 20, 3) := by decide +kernel
theorem dX7_arrange_57 : decode cX7_arrange 57 = .ok (.aload_n 1, 1) := by decide +kernel
theorem dX7_arrange_58 : decode cX7_arrange 58 = .ok (.iload_n 3, 1) := by decide +kernel
theorem dX7_arrange_59 : decode cX7_arrange 59 = .ok (.aload_n 0, 1) := by decide +kernel
theorem dX7_arrange_60 : decode cX7_arrange 60 = .ok (.getfield 23, 3) := by decide +kernel
theorem dX7_arrange_63 : decode cX7_arrange 63 = .ok (.iload_n 3, 1) := by decide +kernel
theorem dX7_arrange_64 : decode cX7_arrange 64 = .ok (.aaload, 1) := by decide +kernel
theorem dX7_arrange_65 : decode cX7_arrange 65 = .ok (.invokevirtual 69, 3) := by decide +kernel
theorem dX7_arrange_68 : decode cX7_arrange 68 = .ok (.iinc 3 1, 3) := by decide +kernel
theorem dX7_arrange_71 : decode cX7_arrange 71 = .ok (.goto (-22), 3) := by decide +kernel
theorem dX7_arrange_74 : decode cX7_arrange 74 = .ok (.iload_n 2, 1) := by decide +kernel
theorem dX7_arrange_75 : decode cX7_arrange 75 = .ok (.ireturn, 1) := by decide +kernel
theorem dX7_isInKeyOrder_0 : decode cX7_isInKeyOrder 0 = .ok (.ldc2_w 73, 3) := by decide +kernel
theorem dX7_isInKeyOrder_3 : decode cX7_isInKeyOrder 3 = .ok (.lstore_n 3, 1) := by decide +kernel
theorem dX7_isInKeyOrder_4 : decode cX7_isInKeyOrder 4 = .ok (.iconst 0, 1) := by decide +kernel
theorem dX7_isInKeyOrder_5 : decode cX7_isInKeyOrder 5 = .ok (.istore 5, 2) := by decide +kernel
theorem dX7_isInKeyOrder_7 : decode cX7_isInKeyOrder 7 = .ok (.iload 5, 2) := by decide +kernel
theorem dX7_isInKeyOrder_9 : decode cX7_isInKeyOrder 9 = .ok (.aload_n 0, 1) := by decide +kernel
theorem dX7_isInKeyOrder_10 : decode cX7_isInKeyOrder 10 = .ok (.getfield 39, 3) := by decide +kernel
theorem dX7_isInKeyOrder_13 : decode cX7_isInKeyOrder 13 = .ok (.if_icmp .ge 47, 3) := by decide +kernel
theorem dX7_isInKeyOrder_16 : decode cX7_isInKeyOrder 16 = .ok (.aload_n 2, 1) := by decide +kernel
theorem dX7_isInKeyOrder_17 : decode cX7_isInKeyOrder 17 = .ok (.aload_n 1, 1) := by decide +kernel
theorem dX7_isInKeyOrder_18 : decode cX7_isInKeyOrder 18 = .ok (.aload_n 0, 1) := by decide +kernel
theorem dX7_isInKeyOrder_19 : decode cX7_isInKeyOrder 19 = .ok (.getfield 9, 3) := by decide +kernel
theorem dX7_isInKeyOrder_22 : decode cX7_isInKeyOrder 22 = .ok (.iload 5, 2) := by decide +kernel
theorem dX7_isInKeyOrder_24 : decode cX7_isInKeyOrder 24 = .ok (.iaload, 1) := by decide +kernel
theorem dX7_isInKeyOrder_25 : decode cX7_isInKeyOrder 25 = .ok (.invokevirtual 47, 3) := by decide +kernel
theorem dX7_isInKeyOrder_28 : decode cX7_isInKeyOrder 28 = .ok (.invokevirtual 75, 3) := by decide +kernel
theorem dX7_isInKeyOrder_31 : decode cX7_isInKeyOrder 31 = .ok (.lstore 6, 2) := by decide +kernel
theorem dX7_isInKeyOrder_33 : decode cX7_isInKeyOrder 33 = .ok (.lload 6, 2) := by decide +kernel
theorem dX7_isInKeyOrder_35 : decode cX7_isInKeyOrder 35 = .ok (.ldc2_w 73, 3) := by decide +kernel
theorem dX7_isInKeyOrder_38 : decode cX7_isInKeyOrder 38 = .ok (.lcmp, 1) := by decide +kernel
theorem dX7_isInKeyOrder_39 : decode cX7_isInKeyOrder 39 = .ok (.ifCond .eq 15, 3) := by decide +kernel
theorem dX7_isInKeyOrder_42 : decode cX7_isInKeyOrder 42 = .ok (.lload 6, 2) := by decide +kernel
theorem dX7_isInKeyOrder_44 : decode cX7_isInKeyOrder 44 = .ok (.lload_n 3, 1) := by decide +kernel
theorem dX7_isInKeyOrder_45 : decode cX7_isInKeyOrder 45 = .ok (.lcmp, 1) := by decide +kernel
theorem dX7_isInKeyOrder_46 : decode cX7_isInKeyOrder 46 = .ok (.ifCond .ge 5, 3) := by decide +kernel
theorem dX7_isInKeyOrder_49 : decode cX7_isInKeyOrder 49 = .ok (.iconst 0, 1) := by decide +kernel
theorem dX7_isInKeyOrder_50 : decode cX7_isInKeyOrder 50 = .ok (.ireturn, 1) := by decide +kernel
theorem dX7_isInKeyOrder_51 : decode cX7_isInKeyOrder 51 = .ok (.lload 6, 2) := by decide +kernel
theorem dX7_isInKeyOrder_53 : decode cX7_isInKeyOrder 53 = .ok (.lstore_n 3, 1) := by decide +kernel
theorem dX7_isInKeyOrder_54 : decode cX7_isInKeyOrder 54 = .ok (.iinc 5 1, 3) := by decide +kernel
theorem dX7_isInKeyOrder_57 : decode cX7_isInKeyOrder 57 = .ok (.goto (-50), 3) := by decide +kernel
theorem dX7_isInKeyOrder_60 : decode cX7_isInKeyOrder 60 = .ok (.iconst 1, 1) := by decide +kernel
theorem dX7_isInKeyOrder_61 : decode cX7_isInKeyOrder 61 = .ok (.ireturn, 1) := by decide +kernel
theorem dX8_init_0 : decode cX8_init 0 = .ok (.aload_n 0, 1) := by decide +kernel
theorem dX8_init_1 : decode cX8_init 1 = .ok (.invokespecial 3, 3) := by decide +kernel
theorem dX8_init_4 : decode cX8_init 4 = .ok (.aload_n 0, 1) := by decide +kernel
theorem dX8_init_5 : decode cX8_init 5 = .ok (.new 9, 3) := by decide +kernel
theorem dX8_init_8 : decode cX8_init 8 = .ok (.dup, 1) := by decide +kernel
theorem dX8_init_9 : decode cX8_init 9 = .ok (.invokespecial 11, 3) := by decide +kernel
theorem dX8_init_12 : decode cX8_init 12 = .ok (.putfield 12, 3) := by decide +kernel
theorem dX8_init_15 : decode cX8_init 15 = .ok (.aload_n 0, 1) := by decide +kernel
theorem dX8_init_16 : decode cX8_init 16 = .ok (.new 18, 3) := by decide +kernel
theorem dX8_init_19 : decode cX8_init 19 = .ok (.dup, 1) := by decide +kernel
theorem dX8_init_20 : decode cX8_init 20 = .ok (.invokespecial 20, 3) := by decide +kernel
theorem dX8_init_23 : decode cX8_init 23 = .ok (.putfield 21, 3) := by decide +kernel
theorem dX8_init_26 : decode cX8_init 26 = .ok (.aload_n 0, 1) := by decide +kernel
theorem dX8_init_27 : decode cX8_init 27 = .ok (.new 25, 3) := by decide +kernel
theorem dX8_init_30 : decode cX8_init 30 = .ok (.dup, 1) := by decide +kernel
theorem dX8_init_31 : decode cX8_init 31 = .ok (.invokespecial 27, 3) := by decide +kernel
theorem dX8_init_34 : decode cX8_init 34 = .ok (.putfield 28, 3) := by decide +kernel
theorem dX8_init_37 : decode cX8_init 37 = .ok (.aload_n 0, 1) := by decide +kernel
theorem dX8_init_38 : decode cX8_init 38 = .ok (.iconst 4, 1) := by decide +kernel
theorem dX8_init_39 : decode cX8_init 39 = .ok (.newarray .int, 2) := by decide +kernel
theorem dX8_init_41 : decode cX8_init 41 = .ok (.dup, 1) := by decide +kernel
theorem dX8_init_42 : decode cX8_init 42 = .ok (.iconst 0, 1) := by decide +kernel
theorem dX8_init_43 : decode cX8_init 43 = .ok (.iconst 1, 1) := by decide +kernel
theorem dX8_init_44 : decode cX8_init 44 = .ok (.iastore, 1) := by decide +kernel
theorem dX8_init_45 : decode cX8_init 45 = .ok (.dup, 1) := by decide +kernel
theorem dX8_init_46 : decode cX8_init 46 = .ok (.iconst 1, 1) := by decide +kernel
theorem dX8_init_47 : decode cX8_init 47 = .ok (.iconst 1, 1) := by decide +kernel
theorem dX8_init_48 : decode cX8_init 48 = .ok (.iastore, 1) := by decide +kernel
theorem dX8_init_49 : decode cX8_init 49 = .ok (.dup, 1) := by decide +kernel
theorem dX8_init_50 : decode cX8_init 50 = .ok (.iconst 2, 1) := by decide +kernel
theorem dX8_init_51 : decode cX8_init 51 = .ok (.sipush 999, 3) := by decide +kernel
theorem dX8_init_54 : decode cX8_init 54 = .ok (.iastore, 1) := by decide +kernel
theorem dX8_init_55 : decode cX8_init 55 = .ok (.dup, 1) := by decide +kernel
theorem dX8_init_56 : decode cX8_init 56 = .ok (.iconst 3, 1) := by decide +kernel
theorem dX8_init_57 : decode cX8_init 57 = .ok (.sipush 400, 3) := by decide +kernel
theorem dX8_init_60 : decode cX8_init 60 = .ok (.iastore, 1) := by decide +kernel
theorem dX8_init_61 : decode cX8_init 61 = .ok (.putfield 32, 3) := by decide +kernel
theorem dX8_init_64 : decode cX8_init 64 = .ok (.aload_n 0, 1) := by decide +kernel
theorem dX8_init_65 : decode cX8_init 65 = .ok (.iconst 3, 1) := by decide +kernel
theorem dX8_init_66 : decode cX8_init 66 = .ok (.newarray .int, 2) := by decide +kernel
theorem dX8_init_68 : decode cX8_init 68 = .ok (.dup, 1) := by decide +kernel
theorem dX8_init_69 : decode cX8_init 69 = .ok (.iconst 0, 1) := by decide +kernel
theorem dX8_init_70 : decode cX8_init 70 = .ok (.ldc 36, 2) := by decide +kernel
theorem dX8_init_72 : decode cX8_init 72 = .ok (.iastore, 1) := by decide +kernel
theorem dX8_init_73 : decode cX8_init 73 = .ok (.dup, 1) := by decide +kernel
theorem dX8_init_74 : decode cX8_init 74 = .ok (.iconst 1, 1) := by decide +kernel
theorem dX8_init_75 : decode cX8_init 75 = .ok (.ldc 36, 2) := by decide +kernel
theorem dX8_init_77 : decode cX8_init 77 = .ok (.iastore, 1) := by decide +kernel
theorem dX8_init_78 : decode cX8_init 78 = .ok (.dup, 1) := by decide +kernel
theorem dX8_init_79 : decode cX8_init 79 = .ok (.iconst 2, 1) := by decide +kernel
theorem dX8_init_80 : decode cX8_init 80 = .ok (.ldc 36, 2) := by decide +kernel
theorem dX8_init_82 : decode cX8_init 82 = .ok (.iastore, 1) := by decide +kernel
theorem dX8_init_83 : decode cX8_init 83 = .ok (.putfield 37, 3) := by decide +kernel
theorem dX8_init_86 : decode cX8_init 86 = .ok (.return_, 1) := by decide +kernel
theorem dX8_settingOf_0 : decode cX8_settingOf 0 = .ok (.iload_n 1, 1) := by decide +kernel
theorem dX8_settingOf_1 : decode cX8_settingOf 1 = .ok (.invokestatic 40, 3) := by decide +kernel
theorem dX8_settingOf_4 : decode cX8_settingOf 4 = .ok (.ifCond .eq 12, 3) := by decide +kernel
theorem dX8_settingOf_7 : decode cX8_settingOf 7 = .ok (.aload_n 0, 1) := by decide +kernel
theorem dX8_settingOf_8 : decode cX8_settingOf 8 = .ok (.getfield 32, 3) := by decide +kernel
theorem dX8_settingOf_11 : decode cX8_settingOf 11 = .ok (.iload_n 1, 1) := by decide +kernel
theorem dX8_settingOf_12 : decode cX8_settingOf 12 = .ok (.iaload, 1) := by decide +kernel
theorem dX8_settingOf_13 : decode cX8_settingOf 13 = .ok (.goto 4, 3) := by decide +kernel
theorem dX8_settingOf_16 : decode cX8_settingOf 16 = .ok (.iconst 0, 1) := by decide +kernel
theorem dX8_settingOf_17 : decode cX8_settingOf 17 = .ok (.ireturn, 1) := by decide +kernel
theorem dX8_copyFrom_0 : decode cX8_copyFrom 0 = .ok (.aload_n 0, 1) := by decide +kernel
theorem dX8_copyFrom_1 : decode cX8_copyFrom 1 = .ok (.getfield 12, 3) := by decide +kernel
theorem dX8_copyFrom_4 : decode cX8_copyFrom 4 = .ok (.aload_n 1, 1) := by decide +kernel
theorem dX8_copyFrom_5 : decode cX8_copyFrom 5 = .ok (.getfield 12, 3) := by decide +kernel
theorem dX8_copyFrom_8 : decode cX8_copyFrom 8 = .ok (.invokevirtual 44, 3) := by decide +kernel
theorem dX8_copyFrom_11 : decode cX8_copyFrom 11 = .ok (.aload_n 0, 1) := by decide +kernel
theorem dX8_copyFrom_12 : decode cX8_copyFrom 12 = .ok (.getfield 21, 3) := by decide +kernel
theorem dX8_copyFrom_15 : decode cX8_copyFrom 15 = .ok (.aload_n 1, 1) := by decide +kernel
theorem dX8_copyFrom_16 : decode cX8_copyFrom 16 = .ok (.getfield 21, 3) := by decide +kernel
theorem dX8_copyFrom_19 : decode cX8_copyFrom 19 = .ok (.invokevirtual 48, 3) := by decide +kernel
theorem dX8_copyFrom_22 : decode cX8_copyFrom 22 = .ok (.aload_n 0, 1) := by decide +kernel
theorem dX8_copyFrom_23 : decode cX8_copyFrom 23 = .ok (.getfield 28, 3) := by decide +kernel
theorem dX8_copyFrom_26 : decode cX8_copyFrom 26 = .ok (.aload_n 1, 1) := by decide +kernel
theorem dX8_copyFrom_27 : decode cX8_copyFrom 27 = .ok (.getfield 28, 3) := by decide +kernel
theorem dX8_copyFrom_30 : decode cX8_copyFrom 30 = .ok (.invokevirtual 51, 3) := by decide +kernel
theorem dX8_copyFrom_33 : decode cX8_copyFrom 33 = .ok (.aload_n 1, 1) := by decide +kernel
theorem dX8_copyFrom_34 : decode cX8_copyFrom 34 = .ok (.getfield 32, 3) := by decide +kernel
theorem dX8_copyFrom_37 : decode cX8_copyFrom 37 = .ok (.iconst 0, 1) := by decide +kernel
theorem dX8_copyFrom_38 : decode cX8_copyFrom 38 = .ok (.aload_n 0, 1) := by decide +kernel
theorem dX8_copyFrom_39 : decode cX8_copyFrom 39 = .ok (.getfield 32, 3) := by decide +kernel
theorem dX8_copyFrom_42 : decode cX8_copyFrom 42 = .ok (.iconst 0, 1) := by decide +kernel
theorem dX8_copyFrom_43 : decode cX8_copyFrom 43 = .ok (.aload_n 0, 1) := by decide +kernel
theorem dX8_copyFrom_44 : decode cX8_copyFrom 44 = .ok (.getfield 32, 3) := by decide +kernel
theorem dX8_copyFrom_47 : decode cX8_copyFrom 47 = .ok (.arraylength, 1) := by decide +kernel
theorem dX8_copyFrom_48 : decode cX8_copyFrom 48 = .ok (.invokestatic 54, 3) := by decide +kernel
theorem dX8_copyFrom_51 : decode cX8_copyFrom 51 = .ok (.aload_n 1, 1) := by decide +kernel
theorem dX8_copyFrom_52 : decode cX8_copyFrom 52 = .ok (.getfield 37, 3) := by decide +kernel
theorem dX8_copyFrom_55 : decode cX8_copyFrom 55 = .ok (.iconst 0, 1) := by decide +kernel
theorem dX8_copyFrom_56 : decode cX8_copyFrom 56 = .ok (.aload_n 0, 1) := by decide +kernel
theorem dX8_copyFrom_57 : decode cX8_copyFrom 57 = .ok (.getfield 37, 3) := by decide +kernel
theorem dX8_copyFrom_60 : decode cX8_copyFrom 60 = .ok (.iconst 0, 1) := by decide +kernel
theorem dX8_copyFrom_61 : decode cX8_copyFrom 61 = .ok (.aload_n 0, 1) := by decide +kernel
theorem dX8_copyFrom_62 : decode cX8_copyFrom 62 = .ok (.getfield 37, 3) := by decide +kernel
theorem dX8_copyFrom_65 : decode cX8_copyFrom 65 = .ok (.arraylength, 1) := by decide +kernel
theorem dX8_copyFrom_66 : decode cX8_copyFrom 66 = .ok (.invokestatic 54, 3) := by decide +kernel
theorem dX8_copyFrom_69 : decode cX8_copyFrom 69 = .ok (.return_, 1) := by decide +kernel
theorem dX9_init_0 : decode cX9_init 0 = .ok (.aload_n 0, 1) := by decide +kernel
theorem dX9_init_1 : decode cX9_init 1 = .ok (.invokespecial 3, 3) := by decide +kernel
theorem dX9_init_4 : decode cX9_init 4 = .ok (.aload_n 0, 1) := by decide +kernel
theorem dX9_init_5 : decode cX9_init 5 = .ok (.bipush 50, 2) := by decide +kernel
theorem dX9_init_7 : decode cX9_init 7 = .ok (.newarray .int, 2) := by decide +kernel
theorem dX9_init_9 : decode cX9_init 9 = .ok (.putfield 9, 3) := by decide +kernel
theorem dX9_init_12 : decode cX9_init 12 = .ok (.aload_n 0, 1) := by decide +kernel
theorem dX9_init_13 : decode cX9_init 13 = .ok (.iconst 5, 1) := by decide +kernel
theorem dX9_init_14 : decode cX9_init 14 = .ok (.newarray .int, 2) := by decide +kernel
theorem dX9_init_16 : decode cX9_init 16 = .ok (.putfield 15, 3) := by decide +kernel
theorem dX9_init_19 : decode cX9_init 19 = .ok (.aload_n 0, 1) := by decide +kernel
theorem dX9_init_20 : decode cX9_init 20 = .ok (.iconst 5, 1) := by decide +kernel
theorem dX9_init_21 : decode cX9_init 21 = .ok (.newarray .int, 2) := by decide +kernel
theorem dX9_init_23 : decode cX9_init 23 = .ok (.putfield 18, 3) := by decide +kernel
theorem dX9_init_26 : decode cX9_init 26 = .ok (.aload_n 0, 1) := by decide +kernel
theorem dX9_init_27 : decode cX9_init 27 = .ok (.ldc 21, 2) := by decide +kernel
theorem dX9_init_29 : decode cX9_init 29 = .ok (.putfield 22, 3) := by decide +kernel
theorem dX9_init_32 : decode cX9_init 32 = .ok (.aload_n 0, 1) := by decide +kernel
theorem dX9_init_33 : decode cX9_init 33 = .ok (.ldc 21, 2) := by decide +kernel
theorem dX9_init_35 : decode cX9_init 35 = .ok (.putfield 26, 3) := by decide +kernel
theorem dX9_init_38 : decode cX9_init 38 = .ok (.return_, 1) := by decide +kernel
theorem dX9_size_0 : decode cX9_size 0 = .ok (.aload_n 0, 1) := by decide +kernel
theorem dX9_size_1 : decode cX9_size 1 = .ok (.getfield 29, 3) := by decide +kernel
theorem dX9_size_4 : decode cX9_size 4 = .ok (.ireturn, 1) := by decide +kernel
theorem dX9_clear_0 : decode cX9_clear 0 = .ok (.aload_n 0, 1) := by decide +kernel
theorem dX9_clear_1 : decode cX9_clear 1 = .ok (.iconst 0, 1) := by decide +kernel
theorem dX9_clear_2 : decode cX9_clear 2 = .ok (.putfield 29, 3) := by decide +kernel
theorem dX9_clear_5 : decode cX9_clear 5 = .ok (.return_, 1) := by decide +kernel
theorem dX9_append_0 : decode cX9_append 0 = .ok (.aload_n 0, 1) := by decide +kernel
theorem dX9_append_1 : decode cX9_append 1 = .ok (.getfield 29, 3) := by decide +kernel
theorem dX9_append_4 : decode cX9_append 4 = .ok (.bipush 50, 2) := by decide +kernel
theorem dX9_append_6 : decode cX9_append 6 = .ok (.if_icmp .ge 23, 3) := by decide +kernel
theorem dX9_append_9 : decode cX9_append 9 = .ok (.aload_n 0, 1) := by decide +kernel
theorem dX9_append_10 : decode cX9_append 10 = .ok (.getfield 9, 3) := by decide +kernel
theorem dX9_append_13 : decode cX9_append 13 = .ok (.aload_n 0, 1) := by decide +kernel
theorem dX9_append_14 : decode cX9_append 14 = .ok (.getfield 29, 3) := by decide +kernel
theorem dX9_append_17 : decode cX9_append 17 = .ok (.iload_n 1, 1) := by decide +kernel
theorem dX9_append_18 : decode cX9_append 18 = .ok (.iastore, 1) := by decide +kernel
theorem dX9_append_19 : decode cX9_append 19 = .ok (.aload_n 0, 1) := by decide +kernel
theorem dX9_append_20 : decode cX9_append 20 = .ok (.dup, 1) := by decide +kernel
theorem dX9_append_21 : decode cX9_append 21 = .ok (.getfield 29, 3) := by decide +kernel
theorem dX9_append_24 : decode cX9_append 24 = .ok (.iconst 1, 1) := by decide +kernel
theorem dX9_append_25 : decode cX9_append 25 = .ok (.iadd, 1) := by decide +kernel
theorem dX9_append_26 : decode cX9_append 26 = .ok (.putfield 29, 3) := by decide +kernel
theorem dX9_append_29 : decode cX9_append 29 = .ok (.return_, 1) := by decide +kernel
theorem dX9_at_0 : decode cX9_at 0 = .ok (.iload_n 1, 1) := by decide +kernel
theorem dX9_at_1 : decode cX9_at 1 = .ok (.ifCond .lt 20, 3) := by decide +kernel
theorem dX9_at_4 : decode cX9_at 4 = .ok (.iload_n 1, 1) := by decide +kernel
theorem dX9_at_5 : decode cX9_at 5 = .ok (.aload_n 0, 1) := by decide +kernel
theorem dX9_at_6 : decode cX9_at 6 = .ok (.getfield 29, 3) := by decide +kernel
theorem dX9_at_9 : decode cX9_at 9 = .ok (.if_icmp .ge 12, 3) := by decide +kernel
theorem dX9_at_12 : decode cX9_at 12 = .ok (.aload_n 0, 1) := by decide +kernel
theorem dX9_at_13 : decode cX9_at 13 = .ok (.getfield 9, 3) := by decide +kernel
theorem dX9_at_16 : decode cX9_at 16 = .ok (.iload_n 1, 1) := by decide +kernel
theorem dX9_at_17 : decode cX9_at 17 = .ok (.iaload, 1) := by decide +kernel
theorem dX9_at_18 : decode cX9_at 18 = .ok (.goto 5, 3) := by decide +kernel
theorem dX9_at_21 : decode cX9_at 21 = .ok (.bipush 32, 2) := by decide +kernel
theorem dX9_at_23 : decode cX9_at 23 = .ok (.ireturn, 1) := by decide +kernel
theorem dX9_readsAsCard_0 : decode cX9_readsAsCard 0 = .ok (.aload_n 0, 1) := by decide +kernel
theorem dX9_readsAsCard_1 : decode cX9_readsAsCard 1 = .ok (.iconst (-1), 1) := by decide +kernel
theorem dX9_readsAsCard_2 : decode cX9_readsAsCard 2 = .ok (.putfield 32, 3) := by decide +kernel
theorem dX9_readsAsCard_5 : decode cX9_readsAsCard 5 = .ok (.iconst 0, 1) := by decide +kernel
theorem dX9_readsAsCard_6 : decode cX9_readsAsCard 6 = .ok (.istore_n 2, 1) := by decide +kernel
theorem dX9_readsAsCard_7 : decode cX9_readsAsCard 7 = .ok (.iload_n 2, 1) := by decide +kernel
theorem dX9_readsAsCard_8 : decode cX9_readsAsCard 8 = .ok (.iconst 5, 1) := by decide +kernel
theorem dX9_readsAsCard_9 : decode cX9_readsAsCard 9 = .ok (.if_icmp .ge 16, 3) := by decide +kernel
theorem dX9_readsAsCard_12 : decode cX9_readsAsCard 12 = .ok (.aload_n 0, 1) := by decide +kernel
theorem dX9_readsAsCard_13 : decode cX9_readsAsCard 13 = .ok (.getfield 15, 3) := by decide +kernel
theorem dX9_readsAsCard_16 : decode cX9_readsAsCard 16 = .ok (.iload_n 2, 1) := by decide +kernel
theorem dX9_readsAsCard_17 : decode cX9_readsAsCard 17 = .ok (.iconst 0, 1) := by decide +kernel
theorem dX9_readsAsCard_18 : decode cX9_readsAsCard 18 = .ok (.iastore, 1) := by decide +kernel
theorem dX9_readsAsCard_19 : decode cX9_readsAsCard 19 = .ok (.iinc 2 1, 3) := by decide +kernel
theorem dX9_readsAsCard_22 : decode cX9_readsAsCard 22 = .ok (.goto (-15), 3) := by decide +kernel
theorem dX9_readsAsCard_25 : decode cX9_readsAsCard 25 = .ok (.iconst 0, 1) := by decide +kernel
