theorem dX11_lay_41 : decode cX11_lay 41 = .ok (.istore 4, 2) := by decide +kernel
theorem dX11_lay_43 : decode cX11_lay 43 = .ok (.aload_n 0, 1) := by decide +kernel
theorem dX11_lay_44 : decode cX11_lay 44 = .ok (.getfield 12, 3) := by decide +kernel
theorem dX11_lay_47 : decode cX11_lay 47 = .ok (.getfield 82, 3) := by decide +kernel
theorem dX11_lay_50 : decode cX11_lay 50 = .ok (.iload_n 1, 1) := by decide +kernel
theorem dX11_lay_51 : decode cX11_lay 51 = .ok (.iload_n 2, 1) := by decide +kernel
theorem dX11_lay_52 : decode cX11_lay 52 = .ok (.iload_n 3, 1) := by decide +kernel
theorem dX11_lay_53 : decode cX11_lay 53 = .ok (.invokevirtual 92, 3) := by decide +kernel
theorem dX11_lay_56 : decode cX11_lay 56 = .ok (.iload 4, 2) := by decide +kernel
theorem dX11_lay_58 : decode cX11_lay 58 = .ok (.ireturn, 1) := by decide +kernel
theorem dX11_set_0 : decode cX11_set 0 = .ok (.iload_n 1, 1) := by decide +kernel
theorem dX11_set_1 : decode cX11_set 1 = .ok (.invokestatic 96, 3) := by decide +kernel
theorem dX11_set_4 : decode cX11_set 4 = .ok (.ifCond .eq 16, 3) := by decide +kernel
theorem dX11_set_7 : decode cX11_set 7 = .ok (.iload_n 2, 1) := by decide +kernel
theorem dX11_set_8 : decode cX11_set 8 = .ok (.iconst 0, 1) := by decide +kernel
theorem dX11_set_9 : decode cX11_set 9 = .ok (.getstatic 99, 3) := by decide +kernel
theorem dX11_set_12 : decode cX11_set 12 = .ok (.iload_n 1, 1) := by decide +kernel
theorem dX11_set_13 : decode cX11_set 13 = .ok (.iaload, 1) := by decide +kernel
theorem dX11_set_14 : decode cX11_set 14 = .ok (.invokestatic 103, 3) := by decide +kernel
theorem dX11_set_17 : decode cX11_set 17 = .ok (.ifCond .ne 6, 3) := by decide +kernel
theorem dX11_set_20 : decode cX11_set 20 = .ok (.ldc 77, 2) := by decide +kernel
theorem dX11_set_22 : decode cX11_set 22 = .ok (.ireturn, 1) := by decide +kernel
theorem dX11_set_23 : decode cX11_set 23 = .ok (.aload_n 0, 1) := by decide +kernel
theorem dX11_set_24 : decode cX11_set 24 = .ok (.getfield 19, 3) := by decide +kernel
theorem dX11_set_27 : decode cX11_set 27 = .ok (.aload_n 0, 1) := by decide +kernel
theorem dX11_set_28 : decode cX11_set 28 = .ok (.getfield 12, 3) := by decide +kernel
theorem dX11_set_31 : decode cX11_set 31 = .ok (.invokevirtual 78, 3) := by decide +kernel
theorem dX11_set_34 : decode cX11_set 34 = .ok (.aload_n 0, 1) := by decide +kernel
theorem dX11_set_35 : decode cX11_set 35 = .ok (.getfield 12, 3) := by decide +kernel
theorem dX11_set_38 : decode cX11_set 38 = .ok (.iload_n 1, 1) := by decide +kernel
theorem dX11_set_39 : decode cX11_set 39 = .ok (.invokevirtual 106, 3) := by decide +kernel
theorem dX11_set_42 : decode cX11_set 42 = .ok (.istore_n 3, 1) := by decide +kernel
theorem dX11_set_43 : decode cX11_set 43 = .ok (.aload_n 0, 1) := by decide +kernel
theorem dX11_set_44 : decode cX11_set 44 = .ok (.getfield 12, 3) := by decide +kernel
theorem dX11_set_47 : decode cX11_set 47 = .ok (.getfield 109, 3) := by decide +kernel
theorem dX11_set_50 : decode cX11_set 50 = .ok (.iload_n 1, 1) := by decide +kernel
theorem dX11_set_51 : decode cX11_set 51 = .ok (.iload_n 2, 1) := by decide +kernel
theorem dX11_set_52 : decode cX11_set 52 = .ok (.iastore, 1) := by decide +kernel
theorem dX11_set_53 : decode cX11_set 53 = .ok (.iload_n 3, 1) := by decide +kernel
theorem dX11_set_54 : decode cX11_set 54 = .ok (.ireturn, 1) := by decide +kernel
theorem dX11_control_0 : decode cX11_control 0 = .ok (.iload_n 1, 1) := by decide +kernel
theorem dX11_control_1 : decode cX11_control 1 = .ok (.invokestatic 112, 3) := by decide +kernel
theorem dX11_control_4 : decode cX11_control 4 = .ok (.ifCond .eq 19, 3) := by decide +kernel
theorem dX11_control_7 : decode cX11_control 7 = .ok (.iload_n 2, 1) := by decide +kernel
theorem dX11_control_8 : decode cX11_control 8 = .ok (.ldc 115, 2) := by decide +kernel
theorem dX11_control_10 : decode cX11_control 10 = .ok (.if_icmp .eq 16, 3) := by decide +kernel
theorem dX11_control_13 : decode cX11_control 13 = .ok (.iload_n 2, 1) := by decide +kernel
theorem dX11_control_14 : decode cX11_control 14 = .ok (.iconst 0, 1) := by decide +kernel
theorem dX11_control_15 : decode cX11_control 15 = .ok (.ldc 116, 2) := by decide +kernel
theorem dX11_control_17 : decode cX11_control 17 = .ok (.invokestatic 103, 3) := by decide +kernel
theorem dX11_control_20 : decode cX11_control 20 = .ok (.ifCond .ne 6, 3) := by decide +kernel
theorem dX11_control_23 : decode cX11_control 23 = .ok (.ldc 77, 2) := by decide +kernel
theorem dX11_control_25 : decode cX11_control 25 = .ok (.ireturn, 1) := by decide +kernel
theorem dX11_control_26 : decode cX11_control 26 = .ok (.aload_n 0, 1) := by decide +kernel
theorem dX11_control_27 : decode cX11_control 27 = .ok (.getfield 19, 3) := by decide +kernel
theorem dX11_control_30 : decode cX11_control 30 = .ok (.aload_n 0, 1) := by decide +kernel
theorem dX11_control_31 : decode cX11_control 31 = .ok (.getfield 12, 3) := by decide +kernel
theorem dX11_control_34 : decode cX11_control 34 = .ok (.invokevirtual 78, 3) := by decide +kernel
theorem dX11_control_37 : decode cX11_control 37 = .ok (.aload_n 0, 1) := by decide +kernel
theorem dX11_control_38 : decode cX11_control 38 = .ok (.getfield 12, 3) := by decide +kernel
theorem dX11_control_41 : decode cX11_control 41 = .ok (.getfield 117, 3) := by decide +kernel
theorem dX11_control_44 : decode cX11_control 44 = .ok (.iload_n 1, 1) := by decide +kernel
theorem dX11_control_45 : decode cX11_control 45 = .ok (.iaload, 1) := by decide +kernel
theorem dX11_control_46 : decode cX11_control 46 = .ok (.istore_n 3, 1) := by decide +kernel
theorem dX11_control_47 : decode cX11_control 47 = .ok (.aload_n 0, 1) := by decide +kernel
theorem dX11_control_48 : decode cX11_control 48 = .ok (.getfield 12, 3) := by decide +kernel
theorem dX11_control_51 : decode cX11_control 51 = .ok (.getfield 117, 3) := by decide +kernel
theorem dX11_control_54 : decode cX11_control 54 = .ok (.iload_n 1, 1) := by decide +kernel
theorem dX11_control_55 : decode cX11_control 55 = .ok (.iload_n 2, 1) := by decide +kernel
theorem dX11_control_56 : decode cX11_control 56 = .ok (.iastore, 1) := by decide +kernel
theorem dX11_control_57 : decode cX11_control 57 = .ok (.iload_n 3, 1) := by decide +kernel
theorem dX11_control_58 : decode cX11_control 58 = .ok (.ireturn, 1) := by decide +kernel
theorem dX11_punch_0 : decode cX11_punch 0 = .ok (.iload_n 1, 1) := by decide +kernel
theorem dX11_punch_1 : decode cX11_punch 1 = .ok (.iconst 0, 1) := by decide +kernel
theorem dX11_punch_2 : decode cX11_punch 2 = .ok (.aload_n 0, 1) := by decide +kernel
theorem dX11_punch_3 : decode cX11_punch 3 = .ok (.getfield 12, 3) := by decide +kernel
theorem dX11_punch_6 : decode cX11_punch 6 = .ok (.getfield 120, 3) := by decide +kernel
theorem dX11_punch_9 : decode cX11_punch 9 = .ok (.invokevirtual 124, 3) := by decide +kernel
theorem dX11_punch_12 : decode cX11_punch 12 = .ok (.invokestatic 103, 3) := by decide +kernel
theorem dX11_punch_15 : decode cX11_punch 15 = .ok (.ifCond .ne 6, 3) := by decide +kernel
theorem dX11_punch_18 : decode cX11_punch 18 = .ok (.ldc 77, 2) := by decide +kernel
theorem dX11_punch_20 : decode cX11_punch 20 = .ok (.ireturn, 1) := by decide +kernel
theorem dX11_punch_21 : decode cX11_punch 21 = .ok (.aload_n 0, 1) := by decide +kernel
theorem dX11_punch_22 : decode cX11_punch 22 = .ok (.getfield 30, 3) := by decide +kernel
theorem dX11_punch_25 : decode cX11_punch 25 = .ok (.aload_n 0, 1) := by decide +kernel
theorem dX11_punch_26 : decode cX11_punch 26 = .ok (.getfield 12, 3) := by decide +kernel
theorem dX11_punch_29 : decode cX11_punch 29 = .ok (.getfield 82, 3) := by decide +kernel
theorem dX11_punch_32 : decode cX11_punch 32 = .ok (.invokevirtual 130, 3) := by decide +kernel
theorem dX11_punch_35 : decode cX11_punch 35 = .ok (.ifCond .ne 6, 3) := by decide +kernel
theorem dX11_punch_38 : decode cX11_punch 38 = .ok (.ldc 134, 2) := by decide +kernel
theorem dX11_punch_40 : decode cX11_punch 40 = .ok (.ireturn, 1) := by decide +kernel
theorem dX11_punch_41 : decode cX11_punch 41 = .ok (.aload_n 0, 1) := by decide +kernel
theorem dX11_punch_42 : decode cX11_punch 42 = .ok (.getfield 12, 3) := by decide +kernel
theorem dX11_punch_45 : decode cX11_punch 45 = .ok (.getfield 120, 3) := by decide +kernel
theorem dX11_punch_48 : decode cX11_punch 48 = .ok (.invokevirtual 124, 3) := by decide +kernel
theorem dX11_punch_51 : decode cX11_punch 51 = .ok (.bipush 40, 2) := by decide +kernel
theorem dX11_punch_53 : decode cX11_punch 53 = .ok (.if_icmp .lt 6, 3) := by decide +kernel
theorem dX11_punch_56 : decode cX11_punch 56 = .ok (.ldc 135, 2) := by decide +kernel
theorem dX11_punch_58 : decode cX11_punch 58 = .ok (.ireturn, 1) := by decide +kernel
theorem dX11_punch_59 : decode cX11_punch 59 = .ok (.aload_n 0, 1) := by decide +kernel
theorem dX11_punch_60 : decode cX11_punch 60 = .ok (.getfield 19, 3) := by decide +kernel
theorem dX11_punch_63 : decode cX11_punch 63 = .ok (.aload_n 0, 1) := by decide +kernel
theorem dX11_punch_64 : decode cX11_punch 64 = .ok (.getfield 12, 3) := by decide +kernel
theorem dX11_punch_67 : decode cX11_punch 67 = .ok (.invokevirtual 78, 3) := by decide +kernel
theorem dX11_punch_70 : decode cX11_punch 70 = .ok (.aload_n 0, 1) := by decide +kernel
theorem dX11_punch_71 : decode cX11_punch 71 = .ok (.getfield 12, 3) := by decide +kernel
theorem dX11_punch_74 : decode cX11_punch 74 = .ok (.getfield 120, 3) := by decide +kernel
theorem dX11_punch_77 : decode cX11_punch 77 = .ok (.iload_n 1, 1) := by decide +kernel
theorem dX11_punch_78 : decode cX11_punch 78 = .ok (.invokevirtual 136, 3) := by decide +kernel
theorem dX11_punch_81 : decode cX11_punch 81 = .ok (.astore_n 2, 1) := by decide +kernel
theorem dX11_punch_82 : decode cX11_punch 82 = .ok (.aload_n 0, 1) := by decide +kernel
theorem dX11_punch_83 : decode cX11_punch 83 = .ok (.getfield 30, 3) := by decide +kernel
theorem dX11_punch_86 : decode cX11_punch 86 = .ok (.aload_n 2, 1) := by decide +kernel
theorem dX11_punch_87 : decode cX11_punch 87 = .ok (.aload_n 0, 1) := by decide +kernel
theorem dX11_punch_88 : decode cX11_punch 88 = .ok (.getfield 12, 3) := by decide +kernel
theorem dX11_punch_91 : decode cX11_punch 91 = .ok (.getfield 82, 3) := by decide +kernel
theorem dX11_punch_94 : decode cX11_punch 94 = .ok (.invokevirtual 140, 3) := by decide +kernel
theorem dX11_punch_97 : decode cX11_punch 97 = .ok (.aload_n 2, 1) := by decide +kernel
theorem dX11_punch_98 : decode cX11_punch 98 = .ok (.aload_n 0, 1) := by decide +kernel
theorem dX11_punch_99 : decode cX11_punch 99 = .ok (.getfield 12, 3) := by decide +kernel
theorem dX11_punch_102 : decode cX11_punch 102 = .ok (.getfield 82, 3) := by decide +kernel
theorem dX11_punch_105 : decode cX11_punch 105 = .ok (.iconst 5, 1) := by decide +kernel
theorem dX11_punch_106 : decode cX11_punch 106 = .ok (.invokevirtual 86, 3) := by decide +kernel
theorem dX11_punch_109 : decode cX11_punch 109 = .ok (.aload_n 0, 1) := by decide +kernel
theorem dX11_punch_110 : decode cX11_punch 110 = .ok (.getfield 12, 3) := by decide +kernel
theorem dX11_punch_113 : decode cX11_punch 113 = .ok (.getfield 82, 3) := by decide +kernel
theorem dX11_punch_116 : decode cX11_punch 116 = .ok (.aload_n 2, 1) := by decide +kernel
theorem dX11_punch_117 : decode cX11_punch 117 = .ok (.invokevirtual 144, 3) := by decide +kernel
theorem dX11_punch_120 : decode cX11_punch 120 = .ok (.invokevirtual 148, 3) := by decide +kernel
theorem dX11_punch_123 : decode cX11_punch 123 = .ok (.aload_n 0, 1) := by decide +kernel
theorem dX11_punch_124 : decode cX11_punch 124 = .ok (.getfield 12, 3) := by decide +kernel
theorem dX11_punch_127 : decode cX11_punch 127 = .ok (.getfield 120, 3) := by decide +kernel
theorem dX11_punch_130 : decode cX11_punch 130 = .ok (.invokevirtual 124, 3) := by decide +kernel
theorem dX11_punch_133 : decode cX11_punch 133 = .ok (.ireturn, 1) := by decide +kernel
theorem dX11_take_0 : decode cX11_take 0 = .ok (.aload_n 0, 1) := by decide +kernel
theorem dX11_take_1 : decode cX11_take 1 = .ok (.getfield 12, 3) := by decide +kernel
theorem dX11_take_4 : decode cX11_take 4 = .ok (.getfield 120, 3) := by decide +kernel
theorem dX11_take_7 : decode cX11_take 7 = .ok (.iload_n 1, 1) := by decide +kernel
theorem dX11_take_8 : decode cX11_take 8 = .ok (.invokevirtual 152, 3) := by decide +kernel
theorem dX11_take_11 : decode cX11_take 11 = .ok (.ifCond .ne 6, 3) := by decide +kernel
theorem dX11_take_14 : decode cX11_take 14 = .ok (.ldc 77, 2) := by decide +kernel
theorem dX11_take_16 : decode cX11_take 16 = .ok (.ireturn, 1) := by decide +kernel
theorem dX11_take_17 : decode cX11_take 17 = .ok (.aload_n 0, 1) := by decide +kernel
theorem dX11_take_18 : decode cX11_take 18 = .ok (.getfield 19, 3) := by decide +kernel
theorem dX11_take_21 : decode cX11_take 21 = .ok (.aload_n 0, 1) := by decide +kernel
theorem dX11_take_22 : decode cX11_take 22 = .ok (.getfield 12, 3) := by decide +kernel
theorem dX11_take_25 : decode cX11_take 25 = .ok (.invokevirtual 78, 3) := by decide +kernel
theorem dX11_take_28 : decode cX11_take 28 = .ok (.aload_n 0, 1) := by decide +kernel
theorem dX11_take_29 : decode cX11_take 29 = .ok (.getfield 12, 3) := by decide +kernel
theorem dX11_take_32 : decode cX11_take 32 = .ok (.getfield 120, 3) := by decide +kernel
theorem dX11_take_35 : decode cX11_take 35 = .ok (.iload_n 1, 1) := by decide +kernel
theorem dX11_take_36 : decode cX11_take 36 = .ok (.invokevirtual 155, 3) := by decide +kernel
theorem dX11_take_39 : decode cX11_take 39 = .ok (.aload_n 0, 1) := by decide +kernel
theorem dX11_take_40 : decode cX11_take 40 = .ok (.getfield 12, 3) := by decide +kernel
theorem dX11_take_43 : decode cX11_take 43 = .ok (.getfield 120, 3) := by decide +kernel
theorem dX11_take_46 : decode cX11_take 46 = .ok (.invokevirtual 124, 3) := by decide +kernel
theorem dX11_take_49 : decode cX11_take 49 = .ok (.ireturn, 1) := by decide +kernel
theorem dX11_move_0 : decode cX11_move 0 = .ok (.aload_n 0, 1) := by decide +kernel
theorem dX11_move_1 : decode cX11_move 1 = .ok (.getfield 12, 3) := by decide +kernel
theorem dX11_move_4 : decode cX11_move 4 = .ok (.getfield 120, 3) := by decide +kernel
theorem dX11_move_7 : decode cX11_move 7 = .ok (.iload_n 1, 1) := by decide +kernel
theorem dX11_move_8 : decode cX11_move 8 = .ok (.invokevirtual 152, 3) := by decide +kernel
theorem dX11_move_11 : decode cX11_move 11 = .ok (.ifCond .eq 17, 3) := by decide +kernel
theorem dX11_move_14 : decode cX11_move 14 = .ok (.aload_n 0, 1) := by decide +kernel
theorem dX11_move_15 : decode cX11_move 15 = .ok (.getfield 12, 3) := by decide +kernel
theorem dX11_move_18 : decode cX11_move 18 = .ok (.getfield 120, 3) := by decide +kernel
theorem dX11_move_21 : decode cX11_move 21 = .ok (.iload_n 2, 1) := by decide +kernel
theorem dX11_move_22 : decode cX11_move 22 = .ok (.invokevirtual 152, 3) := by decide +kernel
theorem dX11_move_25 : decode cX11_move 25 = .ok (.ifCond .ne 6, 3) := by decide +kernel
theorem dX11_move_28 : decode cX11_move 28 = .ok (.ldc 77, 2) := by decide +kernel
theorem dX11_move_30 : decode cX11_move 30 = .ok (.ireturn, 1) := by decide +kernel
theorem dX11_move_31 : decode cX11_move 31 = .ok (.aload_n 0, 1) := by decide +kernel
theorem dX11_move_32 : decode cX11_move 32 = .ok (.getfield 19, 3) := by decide +kernel
theorem dX11_move_35 : decode cX11_move 35 = .ok (.aload_n 0, 1) := by decide +kernel
theorem dX11_move_36 : decode cX11_move 36 = .ok (.getfield 12, 3) := by decide +kernel
theorem dX11_move_39 : decode cX11_move 39 = .ok (.invokevirtual 78, 3) := by decide +kernel
theorem dX11_move_42 : decode cX11_move 42 = .ok (.aload_n 0, 1) := by decide +kernel
theorem dX11_move_43 : decode cX11_move 43 = .ok (.getfield 12, 3) := by decide +kernel
theorem dX11_move_46 : decode cX11_move 46 = .ok (.getfield 120, 3) := by decide +kernel
theorem dX11_move_49 : decode cX11_move 49 = .ok (.iload_n 1, 1) := by decide +kernel
theorem dX11_move_50 : decode cX11_move 50 = .ok (.iload_n 2, 1) := by decide +kernel
theorem dX11_move_51 : decode cX11_move 51 = .ok (.invokevirtual 159, 3) := by decide +kernel
theorem dX11_move_54 : decode cX11_move 54 = .ok (.iload_n 1, 1) := by decide +kernel
theorem dX11_move_55 : decode cX11_move 55 = .ok (.iload_n 2, 1) := by decide +kernel
theorem dX11_move_56 : decode cX11_move 56 = .ok (.if_icmp .ne 7, 3) := by decide +kernel
theorem dX11_move_59 : decode cX11_move 59 = .ok (.iconst 0, 1) := by decide +kernel
theorem dX11_move_60 : decode cX11_move 60 = .ok (.goto 11, 3) := by decide +kernel
theorem dX11_move_63 : decode cX11_move 63 = .ok (.iload_n 1, 1) := by decide +kernel
theorem dX11_move_64 : decode cX11_move 64 = .ok (.iload_n 2, 1) := by decide +kernel
theorem dX11_move_65 : decode cX11_move 65 = .ok (.isub, 1) := by decide +kernel
theorem dX11_move_66 : decode cX11_move 66 = .ok (.invokestatic 162, 3) := by decide +kernel
theorem dX11_move_69 : decode cX11_move 69 = .ok (.iconst 1, 1) := by decide +kernel
theorem dX11_move_70 : decode cX11_move 70 = .ok (.iadd, 1) := by decide +kernel
theorem dX11_move_71 : decode cX11_move 71 = .ok (.ireturn, 1) := by decide +kernel
theorem dX11_repunch_0 : decode cX11_repunch 0 = .ok (.aload_n 0, 1) := by decide +kernel
theorem dX11_repunch_1 : decode cX11_repunch 1 = .ok (.getfield 12, 3) := by decide +kernel
theorem dX11_repunch_4 : decode cX11_repunch 4 = .ok (.getfield 120, 3) := by decide +kernel
theorem dX11_repunch_7 : decode cX11_repunch 7 = .ok (.iload_n 1, 1) := by decide +kernel
theorem dX11_repunch_8 : decode cX11_repunch 8 = .ok (.invokevirtual 152, 3) := by decide +kernel
theorem dX11_repunch_11 : decode cX11_repunch 11 = .ok (.ifCond .eq 26, 3) := by decide +kernel
theorem dX11_repunch_14 : decode cX11_repunch 14 = .ok (.iload_n 2, 1) := by decide +kernel
theorem dX11_repunch_15 : decode cX11_repunch 15 = .ok (.invokestatic 167, 3) := by decide +kernel
theorem dX11_repunch_18 : decode cX11_repunch 18 = .ok (.ifCond .eq 19, 3) := by decide +kernel
theorem dX11_repunch_21 : decode cX11_repunch 21 = .ok (.iload_n 3, 1) := by decide +kernel
theorem dX11_repunch_22 : decode cX11_repunch 22 = .ok (.ldc 115, 2) := by decide +kernel
theorem dX11_repunch_24 : decode cX11_repunch 24 = .ok (.if_icmp .eq 16, 3) := by decide +kernel
theorem dX11_repunch_27 : decode cX11_repunch 27 = .ok (.iload_n 3, 1) := by decide +kernel
theorem dX11_repunch_28 : decode cX11_repunch 28 = .ok (.iconst 0, 1) := by decide +kernel
theorem dX11_repunch_29 : decode cX11_repunch 29 = .ok (.bipush 9, 2) := by decide +kernel
theorem dX11_repunch_31 : decode cX11_repunch 31 = .ok (.invokestatic 103, 3) := by decide +kernel
theorem dX11_repunch_34 : decode cX11_repunch 34 = .ok (.ifCond .ne 6, 3) := by decide +kernel
theorem dX11_repunch_37 : decode cX11_repunch 37 = .ok (.ldc 77, 2) := by decide +kernel
theorem dX11_repunch_39 : decode cX11_repunch 39 = .ok (.ireturn, 1) := by decide +kernel
theorem dX11_repunch_40 : decode cX11_repunch 40 = .ok (.aload_n 0, 1) := by decide +kernel
theorem dX11_repunch_41 : decode cX11_repunch 41 = .ok (.getfield 19, 3) := by decide +kernel
theorem dX11_repunch_44 : decode cX11_repunch 44 = .ok (.aload_n 0, 1) := by decide +kernel
theorem dX11_repunch_45 : decode cX11_repunch 45 = .ok (.getfield 12, 3) := by decide +kernel
theorem dX11_repunch_48 : decode cX11_repunch 48 = .ok (.invokevirtual 78, 3) := by decide +kernel
theorem dX11_repunch_51 : decode cX11_repunch 51 = .ok (.aload_n 0, 1) := by decide +kernel
theorem dX11_repunch_52 : decode cX11_repunch 52 = .ok (.getfield 12, 3) := by decide +kernel
theorem dX11_repunch_55 : decode cX11_repunch 55 = .ok (.getfield 120, 3) := by decide +kernel
theorem dX11_repunch_58 : decode cX11_repunch 58 = .ok (.iload_n 1, 1) := by decide +kernel
theorem dX11_repunch_59 : decode cX11_repunch 59 = .ok (.invokevirtual 170, 3) := by decide +kernel
theorem dX11_repunch_62 : decode cX11_repunch 62 = .ok (.astore 4, 2) := by decide +kernel
theorem dX11_repunch_64 : decode cX11_repunch 64 = .ok (.aload 4, 2) := by decide +kernel
theorem dX11_repunch_66 : decode cX11_repunch 66 = .ok (.iload_n 2, 1) := by decide +kernel
theorem dX11_repunch_67 : decode cX11_repunch 67 = .ok (.invokevirtual 173, 3) := by decide +kernel
theorem dX11_repunch_70 : decode cX11_repunch 70 = .ok (.istore 5, 2) := by decide +kernel
theorem dX11_repunch_72 : decode cX11_repunch 72 = .ok (.aload 4, 2) := by decide +kernel
theorem dX11_repunch_74 : decode cX11_repunch 74 = .ok (.iload_n 2, 1) := by decide +kernel
theorem dX11_repunch_75 : decode cX11_repunch 75 = .ok (.iload_n 3, 1) := by decide +kernel
theorem dX11_repunch_76 : decode cX11_repunch 76 = .ok (.invokevirtual 148, 3) := by decide +kernel
theorem dX11_repunch_79 : decode cX11_repunch 79 = .ok (.iload 5, 2) := by decide +kernel
theorem dX11_repunch_81 : decode cX11_repunch 81 = .ok (.ireturn, 1) := by decide +kernel
theorem dX11_mark_0 : decode cX11_mark 0 = .ok (.aload_n 0, 1) := by decide +kernel
theorem dX11_mark_1 : decode cX11_mark 1 = .ok (.getfield 12, 3) := by decide +kernel
theorem dX11_mark_4 : decode cX11_mark 4 = .ok (.getfield 120, 3) := by decide +kernel
theorem dX11_mark_7 : decode cX11_mark 7 = .ok (.iload_n 1, 1) := by decide +kernel
theorem dX11_mark_8 : decode cX11_mark 8 = .ok (.invokevirtual 152, 3) := by decide +kernel
theorem dX11_mark_11 : decode cX11_mark 11 = .ok (.ifCond .eq 19, 3) := by decide +kernel
theorem dX11_mark_14 : decode cX11_mark 14 = .ok (.iload_n 2, 1) := by decide +kernel
theorem dX11_mark_15 : decode cX11_mark 15 = .ok (.iconst 0, 1) := by decide +kernel
theorem dX11_mark_16 : decode cX11_mark 16 = .ok (.iconst 3, 1) := by decide +kernel
theorem dX11_mark_17 : decode cX11_mark 17 = .ok (.invokestatic 103, 3) := by decide +kernel
theorem dX11_mark_20 : decode cX11_mark 20 = .ok (.ifCond .eq 10, 3) := by decide +kernel
theorem dX11_mark_23 : decode cX11_mark 23 = .ok (.iload_n 3, 1) := by decide +kernel
theorem dX11_mark_24 : decode cX11_mark 24 = .ok (.invokestatic 167, 3) := by decide +kernel
theorem dX11_mark_27 : decode cX11_mark 27 = .ok (.ifCond .ne 6, 3) := by decide +kernel
theorem dX11_mark_30 : decode cX11_mark 30 = .ok (.ldc 77, 2) := by decide +kernel
theorem dX11_mark_32 : decode cX11_mark 32 = .ok (.ireturn, 1) := by decide +kernel
theorem dX11_mark_33 : decode cX11_mark 33 = .ok (.aload_n 0, 1) := by decide +kernel
theorem dX11_mark_34 : decode cX11_mark 34 = .ok (.getfield 19, 3) := by decide +kernel
theorem dX11_mark_37 : decode cX11_mark 37 = .ok (.aload_n 0, 1) := by decide +kernel
theorem dX11_mark_38 : decode cX11_mark 38 = .ok (.getfield 12, 3) := by decide +kernel
theorem dX11_mark_41 : decode cX11_mark 41 = .ok (.invokevirtual 78, 3) := by decide +kernel
theorem dX11_mark_44 : decode cX11_mark 44 = .ok (.aload_n 0, 1) := by decide +kernel
theorem dX11_mark_45 : decode cX11_mark 45 = .ok (.getfield 12, 3) := by decide +kernel
theorem dX11_mark_48 : decode cX11_mark 48 = .ok (.getfield 120, 3) := by decide +kernel
theorem dX11_mark_51 : decode cX11_mark 51 = .ok (.iload_n 1, 1) := by decide +kernel
theorem dX11_mark_52 : decode cX11_mark 52 = .ok (.invokevirtual 170, 3) := by decide +kernel
theorem dX11_mark_55 : decode cX11_mark 55 = .ok (.astore 4, 2) := by decide +kernel
theorem dX11_mark_57 : decode cX11_mark 57 = .ok (.aload 4, 2) := by decide +kernel
theorem dX11_mark_59 : decode cX11_mark 59 = .ok (.getfield 176, 3) := by decide +kernel
theorem dX11_mark_62 : decode cX11_mark 62 = .ok (.istore 5, 2) := by decide +kernel
theorem dX11_mark_64 : decode cX11_mark 64 = .ok (.aload 4, 2) := by decide +kernel
theorem dX11_mark_66 : decode cX11_mark 66 = .ok (.iload_n 2, 1) := by decide +kernel
theorem dX11_mark_67 : decode cX11_mark 67 = .ok (.putfield 176, 3) := by decide +kernel
theorem dX11_mark_70 : decode cX11_mark 70 = .ok (.aload 4, 2) := by decide +kernel
theorem dX11_mark_72 : decode cX11_mark 72 = .ok (.iload_n 3, 1) := by decide +kernel
theorem dX11_mark_73 : decode cX11_mark 73 = .ok (.putfield 180, 3) := by decide +kernel
theorem dX11_mark_76 : decode cX11_mark 76 = .ok (.iload 5, 2) := by decide +kernel
theorem dX11_mark_78 : decode cX11_mark 78 = .ok (.ireturn, 1) := by decide +kernel
theorem dX11_pass_0 : decode cX11_pass 0 = .ok (.iload_n 1, 1) := by decide +kernel
theorem dX11_pass_1 : decode cX11_pass 1 = .ok (.invokestatic 167, 3) := by decide +kernel
theorem dX11_pass_4 : decode cX11_pass 4 = .ok (.ifCond .ne 6, 3) := by decide +kernel
theorem dX11_pass_7 : decode cX11_pass 7 = .ok (.ldc 77, 2) := by decide +kernel
theorem dX11_pass_9 : decode cX11_pass 9 = .ok (.ireturn, 1) := by decide +kernel
theorem dX11_pass_10 : decode cX11_pass 10 = .ok (.aload_n 0, 1) := by decide +kernel
theorem dX11_pass_11 : decode cX11_pass 11 = .ok (.getfield 19, 3) := by decide +kernel
theorem dX11_pass_14 : decode cX11_pass 14 = .ok (.aload_n 0, 1) := by decide +kernel
theorem dX11_pass_15 : decode cX11_pass 15 = .ok (.getfield 12, 3) := by decide +kernel
theorem dX11_pass_18 : decode cX11_pass 18 = .ok (.invokevirtual 78, 3) := by decide +kernel
theorem dX11_pass_21 : decode cX11_pass 21 = .ok (.aload_n 0, 1) := by decide +kernel
theorem dX11_pass_22 : decode cX11_pass 22 = .ok (.getfield 37, 3) := by decide +kernel
theorem dX11_pass_25 : decode cX11_pass 25 = .ok (.aload_n 0, 1) := by decide +kernel
theorem dX11_pass_26 : decode cX11_pass 26 = .ok (.getfield 12, 3) := by decide +kernel
theorem dX11_pass_29 : decode cX11_pass 29 = .ok (.getfield 120, 3) := by decide +kernel
theorem dX11_pass_32 : decode cX11_pass 32 = .ok (.invokevirtual 183, 3) := by decide +kernel
theorem dX11_pass_35 : decode cX11_pass 35 = .ok (.aload_n 0, 1) := by decide +kernel
theorem dX11_pass_36 : decode cX11_pass 36 = .ok (.getfield 37, 3) := by decide +kernel
theorem dX11_pass_39 : decode cX11_pass 39 = .ok (.aload_n 0, 1) := by decide +kernel
theorem dX11_pass_40 : decode cX11_pass 40 = .ok (.getfield 12, 3) := by decide +kernel
theorem dX11_pass_43 : decode cX11_pass 43 = .ok (.getfield 120, 3) := by decide +kernel
theorem dX11_pass_46 : decode cX11_pass 46 = .ok (.iload_n 1, 1) := by decide +kernel
theorem dX11_pass_47 : decode cX11_pass 47 = .ok (.invokevirtual 187, 3) := by decide +kernel
theorem dX11_pass_50 : decode cX11_pass 50 = .ok (.aload_n 0, 1) := by decide +kernel
theorem dX11_pass_51 : decode cX11_pass 51 = .ok (.getfield 37, 3) := by decide +kernel
theorem dX11_pass_54 : decode cX11_pass 54 = .ok (.aload_n 0, 1) := by decide +kernel
theorem dX11_pass_55 : decode cX11_pass 55 = .ok (.getfield 12, 3) := by decide +kernel
theorem dX11_pass_58 : decode cX11_pass 58 = .ok (.getfield 120, 3) := by decide +kernel
theorem dX11_pass_61 : decode cX11_pass 61 = .ok (.invokevirtual 191, 3) := by decide +kernel
theorem dX11_pass_64 : decode cX11_pass 64 = .ok (.ireturn, 1) := by decide +kernel
theorem dX11_sort_0 : decode cX11_sort 0 = .ok (.iload_n 1, 1) := by decide +kernel
theorem dX11_sort_1 : decode cX11_sort 1 = .ok (.invokestatic 69, 3) := by decide +kernel
theorem dX11_sort_4 : decode cX11_sort 4 = .ok (.ifCond .ne 6, 3) := by decide +kernel
theorem dX11_sort_7 : decode cX11_sort 7 = .ok (.ldc 77, 2) := by decide +kernel
theorem dX11_sort_9 : decode cX11_sort 9 = .ok (.ireturn, 1) := by decide +kernel
theorem dX11_sort_10 : decode cX11_sort 10 = .ok (.aload_n 0, 1) := by decide +kernel
theorem dX11_sort_11 : decode cX11_sort 11 = .ok (.getfield 19, 3) := by decide +kernel
theorem dX11_sort_14 : decode cX11_sort 14 = .ok (.aload_n 0, 1) := by decide +kernel
theorem dX11_sort_15 : decode cX11_sort 15 = .ok (.getfield 12, 3) := by decide +kernel
theorem dX11_sort_18 : decode cX11_sort 18 = .ok (.invokevirtual 78, 3) := by decide +kernel
theorem dX11_sort_21 : decode cX11_sort 21 = .ok (.aload_n 0, 1) := by decide +kernel
theorem dX11_sort_22 : decode cX11_sort 22 = .ok (.getfield 37, 3) := by decide +kernel
theorem dX11_sort_25 : decode cX11_sort 25 = .ok (.aload_n 0, 1) := by decide +kernel
theorem dX11_sort_26 : decode cX11_sort 26 = .ok (.getfield 12, 3) := by decide +kernel
theorem dX11_sort_29 : decode cX11_sort 29 = .ok (.getfield 120, 3) := by decide +kernel
theorem dX11_sort_32 : decode cX11_sort 32 = .ok (.invokevirtual 183, 3) := by decide +kernel
theorem dX11_sort_35 : decode cX11_sort 35 = .ok (.aload_n 0, 1) := by decide +kernel
theorem dX11_sort_36 : decode cX11_sort 36 = .ok (.getfield 12, 3) := by decide +kernel
theorem dX11_sort_39 : decode cX11_sort 39 = .ok (.getfield 82, 3) := by decide +kernel
theorem dX11_sort_42 : decode cX11_sort 42 = .ok (.iload_n 1, 1) := by decide +kernel
theorem dX11_sort_43 : decode cX11_sort 43 = .ok (.invokevirtual 195, 3) := by decide +kernel
theorem dX11_sort_46 : decode cX11_sort 46 = .ok (.iconst 1, 1) := by decide +kernel
theorem dX11_sort_47 : decode cX11_sort 47 = .ok (.isub, 1) := by decide +kernel
theorem dX11_sort_48 : decode cX11_sort 48 = .ok (.istore_n 2, 1) := by decide +kernel
theorem dX11_sort_49 : decode cX11_sort 49 = .ok (.iload_n 2, 1) := by decide +kernel
theorem dX11_sort_50 : decode cX11_sort 50 = .ok (.ifCond .lt 36, 3) := by decide +kernel
theorem dX11_sort_53 : decode cX11_sort 53 = .ok (.aload_n 0, 1) := by decide +kernel
theorem dX11_sort_54 : decode cX11_sort 54 = .ok (.getfield 37, 3) := by decide +kernel
theorem dX11_sort_57 : decode cX11_sort 57 = .ok (.aload_n 0, 1) := by decide +kernel
theorem dX11_sort_58 : decode cX11_sort 58 = .ok (.getfield 12, 3) := by decide +kernel
theorem dX11_sort_61 : decode cX11_sort 61 = .ok (.getfield 120, 3) := by decide +kernel
theorem dX11_sort_64 : decode cX11_sort 64 = .ok (.aload_n 0, 1) := by decide +kernel
theorem dX11_sort_65 : decode cX11_sort 65 = .ok (.getfield 12, 3) := by decide +kernel
theorem dX11_sort_68 : decode cX11_sort 68 = .ok (.getfield 82, 3) := by decide +kernel
theorem dX11_sort_71 : decode cX11_sort 71 = .ok (.iload_n 1, 1) := by decide +kernel
theorem dX11_sort_72 : decode cX11_sort 72 = .ok (.invokevirtual 86, 3) := by decide +kernel
theorem dX11_sort_75 : decode cX11_sort 75 = .ok (.iload_n 2, 1) := by decide +kernel
theorem dX11_sort_76 : decode cX11_sort 76 = .ok (.iadd, 1) := by decide +kernel
theorem dX11_sort_77 : decode cX11_sort 77 = .ok (.invokevirtual 187, 3) := by decide +kernel
theorem dX11_sort_80 : decode cX11_sort 80 = .ok (.iinc 2 (-1), 3) := by decide +kernel
theorem dX11_sort_83 : decode cX11_sort 83 = .ok (.goto (-34), 3) := by decide +kernel
theorem dX11_sort_86 : decode cX11_sort 86 = .ok (.aload_n 0, 1) := by decide +kernel
theorem dX11_sort_87 : decode cX11_sort 87 = .ok (.getfield 37, 3) := by decide +kernel
theorem dX11_sort_90 : decode cX11_sort 90 = .ok (.aload_n 0, 1) := by decide +kernel
theorem dX11_sort_91 : decode cX11_sort 91 = .ok (.getfield 12, 3) := by decide +kernel
theorem dX11_sort_94 : decode cX11_sort 94 = .ok (.getfield 120, 3) := by decide +kernel
theorem dX11_sort_97 : decode cX11_sort 97 = .ok (.invokevirtual 191, 3) := by decide +kernel
theorem dX11_sort_100 : decode cX11_sort 100 = .ok (.ireturn, 1) := by decide +kernel
theorem dX11_run_0 : decode cX11_run 0 = .ok (.aload_n 0, 1) := by decide +kernel
theorem dX11_run_1 : decode cX11_run 1 = .ok (.getfield 19, 3) := by decide +kernel
theorem dX11_run_4 : decode cX11_run 4 = .ok (.aload_n 0, 1) := by decide +kernel
theorem dX11_run_5 : decode cX11_run 5 = .ok (.getfield 12, 3) := by decide +kernel
theorem dX11_run_8 : decode cX11_run 8 = .ok (.invokevirtual 78, 3) := by decide +kernel
theorem dX11_run_11 : decode cX11_run 11 = .ok (.aload_n 0, 1) := by decide +kernel
theorem dX11_run_12 : decode cX11_run 12 = .ok (.getfield 12, 3) := by decide +kernel
theorem dX11_run_15 : decode cX11_run 15 = .ok (.getfield 198, 3) := by decide +kernel
theorem dX11_run_18 : decode cX11_run 18 = .ok (.aload_n 0, 1) := by decide +kernel
theorem dX11_run_19 : decode cX11_run 19 = .ok (.getfield 12, 3) := by decide +kernel
theorem dX11_run_22 : decode cX11_run 22 = .ok (.getfield 120, 3) := by decide +kernel
theorem dX11_run_25 : decode cX11_run 25 = .ok (.invokevirtual 124, 3) := by decide +kernel
theorem dX11_run_28 : decode cX11_run 28 = .ok (.aload_n 0, 1) := by decide +kernel
theorem dX11_run_29 : decode cX11_run 29 = .ok (.getfield 12, 3) := by decide +kernel
theorem dX11_run_32 : decode cX11_run 32 = .ok (.iconst 3, 1) := by decide +kernel
theorem dX11_run_33 : decode cX11_run 33 = .ok (.invokevirtual 106, 3) := by decide +kernel
theorem dX11_run_36 : decode cX11_run 36 = .ok (.invokevirtual 202, 3) := by decide +kernel
theorem dX11_run_39 : decode cX11_run 39 = .ok (.aload_n 0, 1) := by decide +kernel
theorem dX11_run_40 : decode cX11_run 40 = .ok (.getfield 44, 3) := by decide +kernel
theorem dX11_run_43 : decode cX11_run 43 = .ok (.invokevirtual 206, 3) := by decide +kernel
theorem dX11_run_46 : decode cX11_run 46 = .ok (.aload_n 0, 1) := by decide +kernel
theorem dX11_run_47 : decode cX11_run 47 = .ok (.aload_n 0, 1) := by decide +kernel
theorem dX11_run_48 : decode cX11_run 48 = .ok (.getfield 12, 3) := by decide +kernel
theorem dX11_run_51 : decode cX11_run 51 = .ok (.iconst 0, 1) := by decide +kernel
theorem dX11_run_52 : decode cX11_run 52 = .ok (.invokevirtual 106, 3) := by decide +kernel
theorem dX11_run_55 : decode cX11_run 55 = .ok (.iconst 1, 1) := by decide +kernel
theorem dX11_run_56 : decode cX11_run 56 = .ok (.invokevirtual 208, 3) := by decide +kernel
theorem dX11_run_59 : decode cX11_run 59 = .ok (.istore_n 1, 1) := by decide +kernel
theorem dX11_run_60 : decode cX11_run 60 = .ok (.aload_n 0, 1) := by decide +kernel
theorem dX11_run_61 : decode cX11_run 61 = .ok (.getfield 44, 3) := by decide +kernel
theorem dX11_run_64 : decode cX11_run 64 = .ok (.aload_n 0, 1) := by decide +kernel
theorem dX11_run_65 : decode cX11_run 65 = .ok (.getfield 12, 3) := by decide +kernel
theorem dX11_run_68 : decode cX11_run 68 = .ok (.getfield 198, 3) := by decide +kernel
theorem dX11_run_71 : decode cX11_run 71 = .ok (.invokevirtual 212, 3) := by decide +kernel
theorem dX11_run_74 : decode cX11_run 74 = .ok (.iload_n 1, 1) := by decide +kernel
theorem dX11_run_75 : decode cX11_run 75 = .ok (.ireturn, 1) := by decide +kernel
theorem dX11_undo_0 : decode cX11_undo 0 = .ok (.aload_n 0, 1) := by decide +kernel
theorem dX11_undo_1 : decode cX11_undo 1 = .ok (.getfield 19, 3) := by decide +kernel
theorem dX11_undo_4 : decode cX11_undo 4 = .ok (.invokevirtual 216, 3) := by decide +kernel
theorem dX11_undo_7 : decode cX11_undo 7 = .ok (.ifCond .eq 6, 3) := by decide +kernel
theorem dX11_undo_10 : decode cX11_undo 10 = .ok (.ldc 134, 2) := by decide +kernel
theorem dX11_undo_12 : decode cX11_undo 12 = .ok (.ireturn, 1) := by decide +kernel
theorem dX11_undo_13 : decode cX11_undo 13 = .ok (.aload_n 0, 1) := by decide +kernel
theorem dX11_undo_14 : decode cX11_undo 14 = .ok (.getfield 19, 3) := by decide +kernel
theorem dX11_undo_17 : decode cX11_undo 17 = .ok (.aload_n 0, 1) := by decide +kernel
theorem dX11_undo_18 : decode cX11_undo 18 = .ok (.getfield 12, 3) := by decide +kernel
theorem dX11_undo_21 : decode cX11_undo 21 = .ok (.invokevirtual 220, 3) := by decide +kernel
theorem dX11_undo_24 : decode cX11_undo 24 = .ok (.aload_n 0, 1) := by decide +kernel
theorem dX11_undo_25 : decode cX11_undo 25 = .ok (.getfield 19, 3) := by decide +kernel
theorem dX11_undo_28 : decode cX11_undo 28 = .ok (.invokevirtual 223, 3) := by decide +kernel
theorem dX11_undo_31 : decode cX11_undo 31 = .ok (.ireturn, 1) := by decide +kernel
theorem dX11_write_0 : decode cX11_write 0 = .ok (.iload_n 1, 1) := by decide +kernel
theorem dX11_write_1 : decode cX11_write 1 = .ok (.bipush 32, 2) := by decide +kernel
theorem dX11_write_3 : decode cX11_write 3 = .ok (.bipush 126, 2) := by decide +kernel
theorem dX11_write_5 : decode cX11_write 5 = .ok (.invokestatic 103, 3) := by decide +kernel
theorem dX11_write_8 : decode cX11_write 8 = .ok (.ifCond .ne 6, 3) := by decide +kernel
theorem dX11_write_11 : decode cX11_write 11 = .ok (.ldc 77, 2) := by decide +kernel
theorem dX11_write_13 : decode cX11_write 13 = .ok (.ireturn, 1) := by decide +kernel
theorem dX11_write_14 : decode cX11_write 14 = .ok (.aload_n 0, 1) := by decide +kernel
theorem dX11_write_15 : decode cX11_write 15 = .ok (.getfield 30, 3) := by decide +kernel
theorem dX11_write_18 : decode cX11_write 18 = .ok (.invokevirtual 224, 3) := by decide +kernel
theorem dX11_write_21 : decode cX11_write 21 = .ok (.bipush 50, 2) := by decide +kernel
theorem dX11_write_23 : decode cX11_write 23 = .ok (.if_icmp .lt 6, 3) := by decide +kernel
theorem dX11_write_26 : decode cX11_write 26 = .ok (.ldc 135, 2) := by decide +kernel
theorem dX11_write_28 : decode cX11_write 28 = .ok (.ireturn, 1) := by decide +kernel
theorem dX11_write_29 : decode cX11_write 29 = .ok (.aload_n 0, 1) := by decide +kernel
theorem dX11_write_30 : decode cX11_write 30 = .ok (.getfield 30, 3) := by decide +kernel
theorem dX11_write_33 : decode cX11_write 33 = .ok (.iload_n 1, 1) := by decide +kernel
theorem dX11_write_34 : decode cX11_write 34 = .ok (.invokevirtual 225, 3) := by decide +kernel
theorem dX11_write_37 : decode cX11_write 37 = .ok (.aload_n 0, 1) := by decide +kernel
theorem dX11_write_38 : decode cX11_write 38 = .ok (.getfield 30, 3) := by decide +kernel
theorem dX11_write_41 : decode cX11_write 41 = .ok (.invokevirtual 224, 3) := by decide +kernel
theorem dX11_write_44 : decode cX11_write 44 = .ok (.ireturn, 1) := by decide +kernel
theorem dX11_wipe_0 : decode cX11_wipe 0 = .ok (.aload_n 0, 1) := by decide +kernel
theorem dX11_wipe_1 : decode cX11_wipe 1 = .ok (.getfield 30, 3) := by decide +kernel
theorem dX11_wipe_4 : decode cX11_wipe 4 = .ok (.invokevirtual 224, 3) := by decide +kernel
theorem dX11_wipe_7 : decode cX11_wipe 7 = .ok (.istore_n 1, 1) := by decide +kernel
theorem dX11_wipe_8 : decode cX11_wipe 8 = .ok (.aload_n 0, 1) := by decide +kernel
theorem dX11_wipe_9 : decode cX11_wipe 9 = .ok (.getfield 30, 3) := by decide +kernel
theorem dX11_wipe_12 : decode cX11_wipe 12 = .ok (.invokevirtual 228, 3) := by decide +kernel
theorem dX11_wipe_15 : decode cX11_wipe 15 = .ok (.iload_n 1, 1) := by decide +kernel
theorem dX11_wipe_16 : decode cX11_wipe 16 = .ok (.ireturn, 1) := by decide +kernel
theorem dX11_told_0 : decode cX11_told 0 = .ok (.iload_n 1, 1) := by decide +kernel
theorem dX11_told_1 : decode cX11_told 1 = .ok (.tableswitch 135 0 6 #[43, 54, 65, 95, 106, 119, 127], 43) := by decide +kernel
theorem dX11_told_44 : decode cX11_told 44 = .ok (.aload_n 0, 1) := by decide +kernel
theorem dX11_told_45 : decode cX11_told 45 = .ok (.getfield 12, 3) := by decide +kernel
theorem dX11_told_48 : decode cX11_told 48 = .ok (.getfield 120, 3) := by decide +kernel
theorem dX11_told_51 : decode cX11_told 51 = .ok (.invokevirtual 124, 3) := by decide +kernel
theorem dX11_told_54 : decode cX11_told 54 = .ok (.ireturn, 1) := by decide +kernel
theorem dX11_told_55 : decode cX11_told 55 = .ok (.aload_n 0, 1) := by decide +kernel
theorem dX11_told_56 : decode cX11_told 56 = .ok (.getfield 12, 3) := by decide +kernel
theorem dX11_told_59 : decode cX11_told 59 = .ok (.getfield 198, 3) := by decide +kernel
theorem dX11_told_62 : decode cX11_told 62 = .ok (.getfield 237, 3) := by decide +kernel
theorem dX11_told_65 : decode cX11_told 65 = .ok (.ireturn, 1) := by decide +kernel
theorem dX11_told_66 : decode cX11_told 66 = .ok (.aload_n 0, 1) := by decide +kernel
theorem dX11_told_67 : decode cX11_told 67 = .ok (.getfield 12, 3) := by decide +kernel
theorem dX11_told_70 : decode cX11_told 70 = .ok (.getfield 198, 3) := by decide +kernel
theorem dX11_told_73 : decode cX11_told 73 = .ok (.invokevirtual 240, 3) := by decide +kernel
theorem dX11_told_76 : decode cX11_told 76 = .ok (.ifCond .eq 8, 3) := by decide +kernel
theorem dX11_told_79 : decode cX11_told 79 = .ok (.ldc 115, 2) := by decide +kernel
theorem dX11_told_81 : decode cX11_told 81 = .ok (.goto 14, 3) := by decide +kernel
theorem dX11_told_84 : decode cX11_told 84 = .ok (.aload_n 0, 1) := by decide +kernel
theorem dX11_told_85 : decode cX11_told 85 = .ok (.getfield 12, 3) := by decide +kernel
theorem dX11_told_88 : decode cX11_told 88 = .ok (.getfield 198, 3) := by decide +kernel
theorem dX11_told_91 : decode cX11_told 91 = .ok (.iconst 4, 1) := by decide +kernel
theorem dX11_told_92 : decode cX11_told 92 = .ok (.invokevirtual 241, 3) := by decide +kernel
theorem dX11_told_95 : decode cX11_told 95 = .ok (.ireturn, 1) := by decide +kernel
theorem dX11_told_96 : decode cX11_told 96 = .ok (.aload_n 0, 1) := by decide +kernel
theorem dX11_told_97 : decode cX11_told 97 = .ok (.getfield 12, 3) := by decide +kernel
theorem dX11_told_100 : decode cX11_told 100 = .ok (.getfield 198, 3) := by decide +kernel
theorem dX11_told_103 : decode cX11_told 103 = .ok (.invokevirtual 244, 3) := by decide +kernel
theorem dX11_told_106 : decode cX11_told 106 = .ok (.ireturn, 1) := by decide +kernel
theorem dX11_told_107 : decode cX11_told 107 = .ok (.aload_n 0, 1) := by decide +kernel
theorem dX11_told_108 : decode cX11_told 108 = .ok (.invokevirtual 247, 3) := by decide +kernel
theorem dX11_told_111 : decode cX11_told 111 = .ok (.ifCond .eq 7, 3) := by decide +kernel
theorem dX11_told_114 : decode cX11_told 114 = .ok (.iconst 1, 1) := by decide +kernel
theorem dX11_told_115 : decode cX11_told 115 = .ok (.goto 4, 3) := by decide +kernel
theorem dX11_told_118 : decode cX11_told 118 = .ok (.iconst 0, 1) := by decide +kernel
theorem dX11_told_119 : decode cX11_told 119 = .ok (.ireturn, 1) := by decide +kernel
theorem dX11_told_120 : decode cX11_told 120 = .ok (.aload_n 0, 1) := by decide +kernel
theorem dX11_told_121 : decode cX11_told 121 = .ok (.getfield 30, 3) := by decide +kernel
theorem dX11_told_124 : decode cX11_told 124 = .ok (.invokevirtual 224, 3) := by decide +kernel
theorem dX11_told_127 : decode cX11_told 127 = .ok (.ireturn, 1) := by decide +kernel
theorem dX11_told_128 : decode cX11_told 128 = .ok (.aload_n 0, 1) := by decide +kernel
theorem dX11_told_129 : decode cX11_told 129 = .ok (.getfield 19, 3) := by decide +kernel
theorem dX11_told_132 : decode cX11_told 132 = .ok (.invokevirtual 223, 3) := by decide +kernel
theorem dX11_told_135 : decode cX11_told 135 = .ok (.ireturn, 1) := by decide +kernel
theorem dX11_told_136 : decode cX11_told 136 = .ok (.ldc 77, 2) := by decide +kernel
theorem dX11_told_138 : decode cX11_told 138 = .ok (.ireturn, 1) := by decide +kernel
theorem dX11_setting_0 : decode cX11_setting 0 = .ok (.iload_n 1, 1) := by decide +kernel
theorem dX11_setting_1 : decode cX11_setting 1 = .ok (.invokestatic 96, 3) := by decide +kernel
theorem dX11_setting_4 : decode cX11_setting 4 = .ok (.ifCond .eq 14, 3) := by decide +kernel
theorem dX11_setting_7 : decode cX11_setting 7 = .ok (.aload_n 0, 1) := by decide +kernel
theorem dX11_setting_8 : decode cX11_setting 8 = .ok (.getfield 12, 3) := by decide +kernel
theorem dX11_setting_11 : decode cX11_setting 11 = .ok (.iload_n 1, 1) := by decide +kernel
theorem dX11_setting_12 : decode cX11_setting 12 = .ok (.invokevirtual 106, 3) := by decide +kernel
theorem dX11_setting_15 : decode cX11_setting 15 = .ok (.goto 5, 3) := by decide +kernel
theorem dX11_setting_18 : decode cX11_setting 18 = .ok (.ldc 77, 2) := by decide +kernel
theorem dX11_setting_20 : decode cX11_setting 20 = .ok (.ireturn, 1) := by decide +kernel
theorem dX11_card_0 : decode cX11_card 0 = .ok (.aload_n 0, 1) := by decide +kernel
theorem dX11_card_1 : decode cX11_card 1 = .ok (.getfield 12, 3) := by decide +kernel
theorem dX11_card_4 : decode cX11_card 4 = .ok (.getfield 120, 3) := by decide +kernel
theorem dX11_card_7 : decode cX11_card 7 = .ok (.iload_n 1, 1) := by decide +kernel
theorem dX11_card_8 : decode cX11_card 8 = .ok (.invokevirtual 152, 3) := by decide +kernel
theorem dX11_card_11 : decode cX11_card 11 = .ok (.ifCond .ne 6, 3) := by decide +kernel
theorem dX11_card_14 : decode cX11_card 14 = .ok (.ldc 77, 2) := by decide +kernel
theorem dX11_card_16 : decode cX11_card 16 = .ok (.ireturn, 1) := by decide +kernel
theorem dX11_card_17 : decode cX11_card 17 = .ok (.aload_n 0, 1) := by decide +kernel
theorem dX11_card_18 : decode cX11_card 18 = .ok (.getfield 12, 3) := by decide +kernel
theorem dX11_card_21 : decode cX11_card 21 = .ok (.getfield 120, 3) := by decide +kernel
theorem dX11_card_24 : decode cX11_card 24 = .ok (.iload_n 1, 1) := by decide +kernel
theorem dX11_card_25 : decode cX11_card 25 = .ok (.invokevirtual 170, 3) := by decide +kernel
theorem dX11_card_28 : decode cX11_card 28 = .ok (.astore_n 3, 1) := by decide +kernel
theorem dX11_card_29 : decode cX11_card 29 = .ok (.iload_n 2, 1) := by decide +kernel
theorem dX11_card_30 : decode cX11_card 30 = .ok (.invokestatic 69, 3) := by decide +kernel
theorem dX11_card_33 : decode cX11_card 33 = .ok (.ifCond .eq 16, 3) := by decide +kernel
theorem dX11_card_36 : decode cX11_card 36 = .ok (.aload_n 0, 1) := by decide +kernel
theorem dX11_card_37 : decode cX11_card 37 = .ok (.getfield 12, 3) := by decide +kernel
theorem dX11_card_40 : decode cX11_card 40 = .ok (.getfield 82, 3) := by decide +kernel
theorem dX11_card_43 : decode cX11_card 43 = .ok (.aload_n 3, 1) := by decide +kernel
theorem dX11_card_44 : decode cX11_card 44 = .ok (.iload_n 2, 1) := by decide +kernel
theorem dX11_card_45 : decode cX11_card 45 = .ok (.invokevirtual 250, 3) := by decide +kernel
theorem dX11_card_48 : decode cX11_card 48 = .ok (.ireturn, 1) := by decide +kernel
theorem dX11_card_49 : decode cX11_card 49 = .ok (.iload_n 2, 1) := by decide +kernel
theorem dX11_card_50 : decode cX11_card 50 = .ok (.tableswitch 58 6 9 #[30, 42, 47, 52], 30) := by decide +kernel
theorem dX11_card_80 : decode cX11_card 80 = .ok (.aload_n 0, 1) := by decide +kernel
theorem dX11_card_81 : decode cX11_card 81 = .ok (.getfield 12, 3) := by decide +kernel
theorem dX11_card_84 : decode cX11_card 84 = .ok (.getfield 82, 3) := by decide +kernel
theorem dX11_card_87 : decode cX11_card 87 = .ok (.aload_n 3, 1) := by decide +kernel
theorem dX11_card_88 : decode cX11_card 88 = .ok (.invokevirtual 144, 3) := by decide +kernel
theorem dX11_card_91 : decode cX11_card 91 = .ok (.ireturn, 1) := by decide +kernel
theorem dX11_card_92 : decode cX11_card 92 = .ok (.aload_n 3, 1) := by decide +kernel
theorem dX11_card_93 : decode cX11_card 93 = .ok (.getfield 176, 3) := by decide +kernel
theorem dX11_card_96 : decode cX11_card 96 = .ok (.ireturn, 1) := by decide +kernel
theorem dX11_card_97 : decode cX11_card 97 = .ok (.aload_n 3, 1) := by decide +kernel
theorem dX11_card_98 : decode cX11_card 98 = .ok (.getfield 180, 3) := by decide +kernel
theorem dX11_card_101 : decode cX11_card 101 = .ok (.ireturn, 1) := by decide +kernel
theorem dX11_card_102 : decode cX11_card 102 = .ok (.aload_n 0, 1) := by decide +kernel
theorem dX11_card_103 : decode cX11_card 103 = .ok (.aload_n 3, 1) := by decide +kernel
theorem dX11_card_104 : decode cX11_card 104 = .ok (.invokevirtual 254, 3) := by decide +kernel
theorem dX11_card_107 : decode cX11_card 107 = .ok (.ireturn, 1) := by decide +kernel
theorem dX11_card_108 : decode cX11_card 108 = .ok (.ldc 77, 2) := by decide +kernel
theorem dX11_card_110 : decode cX11_card 110 = .ok (.ireturn, 1) := by decide +kernel
theorem dX11_line_0 : decode cX11_line 0 = .ok (.aload_n 0, 1) := by decide +kernel
theorem dX11_line_1 : decode cX11_line 1 = .ok (.getfield 12, 3) := by decide +kernel
theorem dX11_line_4 : decode cX11_line 4 = .ok (.getfield 198, 3) := by decide +kernel
theorem dX11_line_7 : decode cX11_line 7 = .ok (.iload_n 1, 1) := by decide +kernel
theorem dX11_line_8 : decode cX11_line 8 = .ok (.invokevirtual 257, 3) := by decide +kernel
theorem dX11_line_11 : decode cX11_line 11 = .ok (.ifCond .eq 13, 3) := by decide +kernel
theorem dX11_line_14 : decode cX11_line 14 = .ok (.iload_n 2, 1) := by decide +kernel
theorem dX11_line_15 : decode cX11_line 15 = .ok (.iconst 0, 1) := by decide +kernel
theorem dX11_line_16 : decode cX11_line 16 = .ok (.bipush 8, 2) := by decide +kernel
theorem dX11_line_18 : decode cX11_line 18 = .ok (.invokestatic 103, 3) := by decide +kernel
theorem dX11_line_21 : decode cX11_line 21 = .ok (.ifCond .ne 6, 3) := by decide +kernel
theorem dX11_line_24 : decode cX11_line 24 = .ok (.ldc 77, 2) := by decide +kernel
theorem dX11_line_26 : decode cX11_line 26 = .ok (.ireturn, 1) := by decide +kernel
theorem dX11_line_27 : decode cX11_line 27 = .ok (.aload_n 0, 1) := by decide +kernel
theorem dX11_line_28 : decode cX11_line 28 = .ok (.getfield 12, 3) := by decide +kernel
theorem dX11_line_31 : decode cX11_line 31 = .ok (.getfield 198, 3) := by decide +kernel
theorem dX11_line_34 : decode cX11_line 34 = .ok (.iload_n 1, 1) := by decide +kernel
theorem dX11_line_35 : decode cX11_line 35 = .ok (.iload_n 2, 1) := by decide +kernel
theorem dX11_line_36 : decode cX11_line 36 = .ok (.invokevirtual 258, 3) := by decide +kernel
theorem dX11_line_39 : decode cX11_line 39 = .ok (.ireturn, 1) := by decide +kernel
theorem dX11_reason_0 : decode cX11_reason 0 = .ok (.aload_n 0, 1) := by decide +kernel
theorem dX11_reason_1 : decode cX11_reason 1 = .ok (.getfield 12, 3) := by decide +kernel
theorem dX11_reason_4 : decode cX11_reason 4 = .ok (.getfield 198, 3) := by decide +kernel
theorem dX11_reason_7 : decode cX11_reason 7 = .ok (.iload_n 1, 1) := by decide +kernel
theorem dX11_reason_8 : decode cX11_reason 8 = .ok (.invokevirtual 262, 3) := by decide +kernel
theorem dX11_reason_11 : decode cX11_reason 11 = .ok (.ifCond .eq 17, 3) := by decide +kernel
theorem dX11_reason_14 : decode cX11_reason 14 = .ok (.aload_n 0, 1) := by decide +kernel
theorem dX11_reason_15 : decode cX11_reason 15 = .ok (.getfield 12, 3) := by decide +kernel
theorem dX11_reason_18 : decode cX11_reason 18 = .ok (.getfield 198, 3) := by decide +kernel
theorem dX11_reason_21 : decode cX11_reason 21 = .ok (.iload_n 1, 1) := by decide +kernel
theorem dX11_reason_22 : decode cX11_reason 22 = .ok (.invokevirtual 265, 3) := by decide +kernel
theorem dX11_reason_25 : decode cX11_reason 25 = .ok (.goto 5, 3) := by decide +kernel
theorem dX11_reason_28 : decode cX11_reason 28 = .ok (.ldc 77, 2) := by decide +kernel
theorem dX11_reason_30 : decode cX11_reason 30 = .ok (.ireturn, 1) := by decide +kernel
theorem dX11_differs_0 : decode cX11_differs 0 = .ok (.iload_n 1, 1) := by decide +kernel
theorem dX11_differs_1 : decode cX11_differs 1 = .ok (.invokestatic 112, 3) := by decide +kernel
theorem dX11_differs_4 : decode cX11_differs 4 = .ok (.ifCond .ne 6, 3) := by decide +kernel
theorem dX11_differs_7 : decode cX11_differs 7 = .ok (.ldc 77, 2) := by decide +kernel
theorem dX11_differs_9 : decode cX11_differs 9 = .ok (.ireturn, 1) := by decide +kernel
theorem dX11_differs_10 : decode cX11_differs 10 = .ok (.aload_n 0, 1) := by decide +kernel
theorem dX11_differs_11 : decode cX11_differs 11 = .ok (.getfield 12, 3) := by decide +kernel
theorem dX11_differs_14 : decode cX11_differs 14 = .ok (.getfield 117, 3) := by decide +kernel
theorem dX11_differs_17 : decode cX11_differs 17 = .ok (.iload_n 1, 1) := by decide +kernel
theorem dX11_differs_18 : decode cX11_differs 18 = .ok (.iaload, 1) := by decide +kernel
theorem dX11_differs_19 : decode cX11_differs 19 = .ok (.ldc 115, 2) := by decide +kernel
theorem dX11_differs_21 : decode cX11_differs 21 = .ok (.if_icmp .eq 16, 3) := by decide +kernel
theorem dX11_differs_24 : decode cX11_differs 24 = .ok (.aload_n 0, 1) := by decide +kernel
theorem dX11_differs_25 : decode cX11_differs 25 = .ok (.getfield 12, 3) := by decide +kernel
theorem dX11_differs_28 : decode cX11_differs 28 = .ok (.getfield 198, 3) := by decide +kernel
theorem dX11_differs_31 : decode cX11_differs 31 = .ok (.invokevirtual 240, 3) := by decide +kernel
theorem dX11_differs_34 : decode cX11_differs 34 = .ok (.ifCond .eq 6, 3) := by decide +kernel
theorem dX11_differs_37 : decode cX11_differs 37 = .ok (.ldc 115, 2) := by decide +kernel
theorem dX11_differs_39 : decode cX11_differs 39 = .ok (.ireturn, 1) := by decide +kernel
theorem dX11_differs_40 : decode cX11_differs 40 = .ok (.aload_n 0, 1) := by decide +kernel
theorem dX11_differs_41 : decode cX11_differs 41 = .ok (.iload_n 1, 1) := by decide +kernel
theorem dX11_differs_42 : decode cX11_differs 42 = .ok (.invokevirtual 268, 3) := by decide +kernel
theorem dX11_differs_45 : decode cX11_differs 45 = .ok (.aload_n 0, 1) := by decide +kernel
theorem dX11_differs_46 : decode cX11_differs 46 = .ok (.getfield 12, 3) := by decide +kernel
theorem dX11_differs_49 : decode cX11_differs 49 = .ok (.getfield 117, 3) := by decide +kernel
theorem dX11_differs_52 : decode cX11_differs 52 = .ok (.iload_n 1, 1) := by decide +kernel
theorem dX11_differs_53 : decode cX11_differs 53 = .ok (.iaload, 1) := by decide +kernel
theorem dX11_differs_54 : decode cX11_differs 54 = .ok (.isub, 1) := by decide +kernel
theorem dX11_differs_55 : decode cX11_differs 55 = .ok (.ireturn, 1) := by decide +kernel
theorem dX11_again_0 : decode cX11_again 0 = .ok (.iload_n 1, 1) := by decide +kernel
theorem dX11_again_1 : decode cX11_again 1 = .ok (.iconst (-1), 1) := by decide +kernel
theorem dX11_again_2 : decode cX11_again 2 = .ok (.if_icmp .lt 12, 3) := by decide +kernel
theorem dX11_again_5 : decode cX11_again 5 = .ok (.iload_n 2, 1) := by decide +kernel
theorem dX11_again_6 : decode cX11_again 6 = .ok (.iconst 0, 1) := by decide +kernel
theorem dX11_again_7 : decode cX11_again 7 = .ok (.iconst 4, 1) := by decide +kernel
theorem dX11_again_8 : decode cX11_again 8 = .ok (.invokestatic 103, 3) := by decide +kernel
theorem dX11_again_11 : decode cX11_again 11 = .ok (.ifCond .ne 6, 3) := by decide +kernel
theorem dX11_again_14 : decode cX11_again 14 = .ok (.ldc 77, 2) := by decide +kernel
theorem dX11_again_16 : decode cX11_again 16 = .ok (.ireturn, 1) := by decide +kernel
theorem dX11_again_17 : decode cX11_again 17 = .ok (.aload_n 0, 1) := by decide +kernel
theorem dX11_again_18 : decode cX11_again 18 = .ok (.getfield 51, 3) := by decide +kernel
theorem dX11_again_21 : decode cX11_again 21 = .ok (.aload_n 0, 1) := by decide +kernel
theorem dX11_again_22 : decode cX11_again 22 = .ok (.getfield 12, 3) := by decide +kernel
theorem dX11_again_25 : decode cX11_again 25 = .ok (.getfield 198, 3) := by decide +kernel
theorem dX11_again_28 : decode cX11_again 28 = .ok (.invokevirtual 271, 3) := by decide +kernel
theorem dX11_again_31 : decode cX11_again 31 = .ok (.aload_n 0, 1) := by decide +kernel
theorem dX11_again_32 : decode cX11_again 32 = .ok (.getfield 51, 3) := by decide +kernel
theorem dX11_again_35 : decode cX11_again 35 = .ok (.iload_n 1, 1) := by decide +kernel
theorem dX11_again_36 : decode cX11_again 36 = .ok (.iload_n 2, 1) := by decide +kernel
theorem dX11_again_37 : decode cX11_again 37 = .ok (.invokevirtual 274, 3) := by decide +kernel
theorem dX11_again_40 : decode cX11_again 40 = .ok (.ireturn, 1) := by decide +kernel
theorem dX11_agrees_0 : decode cX11_agrees 0 = .ok (.aload_n 0, 1) := by decide +kernel
theorem dX11_agrees_1 : decode cX11_agrees 1 = .ok (.getfield 12, 3) := by decide +kernel
theorem dX11_agrees_4 : decode cX11_agrees 4 = .ok (.getfield 198, 3) := by decide +kernel
theorem dX11_agrees_7 : decode cX11_agrees 7 = .ok (.invokevirtual 240, 3) := by decide +kernel
theorem dX11_agrees_10 : decode cX11_agrees 10 = .ok (.ifCond .eq 5, 3) := by decide +kernel
theorem dX11_agrees_13 : decode cX11_agrees 13 = .ok (.iconst 1, 1) := by decide +kernel
theorem dX11_agrees_14 : decode cX11_agrees 14 = .ok (.ireturn, 1) := by decide +kernel
theorem dX11_agrees_15 : decode cX11_agrees 15 = .ok (.aload_n 0, 1) := by decide +kernel
theorem dX11_agrees_16 : decode cX11_agrees 16 = .ok (.getfield 51, 3) := by decide +kernel
theorem dX11_agrees_19 : decode cX11_agrees 19 = .ok (.aload_n 0, 1) := by decide +kernel
theorem dX11_agrees_20 : decode cX11_agrees 20 = .ok (.getfield 12, 3) := by decide +kernel
theorem dX11_agrees_23 : decode cX11_agrees 23 = .ok (.getfield 198, 3) := by decide +kernel
theorem dX11_agrees_26 : decode cX11_agrees 26 = .ok (.invokevirtual 271, 3) := by decide +kernel
theorem dX11_agrees_29 : decode cX11_agrees 29 = .ok (.aload_n 0, 1) := by decide +kernel
theorem dX11_agrees_30 : decode cX11_agrees 30 = .ok (.getfield 51, 3) := by decide +kernel
theorem dX11_agrees_33 : decode cX11_agrees 33 = .ok (.iconst (-1), 1) := by decide +kernel
theorem dX11_agrees_34 : decode cX11_agrees 34 = .ok (.iconst 0, 1) := by decide +kernel
theorem dX11_agrees_35 : decode cX11_agrees 35 = .ok (.invokevirtual 274, 3) := by decide +kernel
theorem dX11_agrees_38 : decode cX11_agrees 38 = .ok (.aload_n 0, 1) := by decide +kernel
theorem dX11_agrees_39 : decode cX11_agrees 39 = .ok (.getfield 12, 3) := by decide +kernel
theorem dX11_agrees_42 : decode cX11_agrees 42 = .ok (.getfield 198, 3) := by decide +kernel
theorem dX11_agrees_45 : decode cX11_agrees 45 = .ok (.iconst 4, 1) := by decide +kernel
theorem dX11_agrees_46 : decode cX11_agrees 46 = .ok (.invokevirtual 241, 3) := by decide +kernel
theorem dX11_agrees_49 : decode cX11_agrees 49 = .ok (.if_icmp .ne 78, 3) := by decide +kernel
theorem dX11_agrees_52 : decode cX11_agrees 52 = .ok (.aload_n 0, 1) := by decide +kernel
theorem dX11_agrees_53 : decode cX11_agrees 53 = .ok (.getfield 51, 3) := by decide +kernel
theorem dX11_agrees_56 : decode cX11_agrees 56 = .ok (.iconst (-1), 1) := by decide +kernel
theorem dX11_agrees_57 : decode cX11_agrees 57 = .ok (.iconst 1, 1) := by decide +kernel
theorem dX11_agrees_58 : decode cX11_agrees 58 = .ok (.invokevirtual 274, 3) := by decide +kernel
theorem dX11_agrees_61 : decode cX11_agrees 61 = .ok (.aload_n 0, 1) := by decide +kernel
theorem dX11_agrees_62 : decode cX11_agrees 62 = .ok (.getfield 12, 3) := by decide +kernel
theorem dX11_agrees_65 : decode cX11_agrees 65 = .ok (.getfield 198, 3) := by decide +kernel
theorem dX11_agrees_68 : decode cX11_agrees 68 = .ok (.iconst 5, 1) := by decide +kernel
theorem dX11_agrees_69 : decode cX11_agrees 69 = .ok (.invokevirtual 241, 3) := by decide +kernel
theorem dX11_agrees_72 : decode cX11_agrees 72 = .ok (.if_icmp .ne 55, 3) := by decide +kernel
theorem dX11_agrees_75 : decode cX11_agrees 75 = .ok (.aload_n 0, 1) := by decide +kernel
theorem dX11_agrees_76 : decode cX11_agrees 76 = .ok (.getfield 51, 3) := by decide +kernel
theorem dX11_agrees_79 : decode cX11_agrees 79 = .ok (.iconst (-1), 1) := by decide +kernel
theorem dX11_agrees_80 : decode cX11_agrees 80 = .ok (.iconst 2, 1) := by decide +kernel
theorem dX11_agrees_81 : decode cX11_agrees 81 = .ok (.invokevirtual 274, 3) := by decide +kernel
theorem dX11_agrees_84 : decode cX11_agrees 84 = .ok (.aload_n 0, 1) := by decide +kernel
theorem dX11_agrees_85 : decode cX11_agrees 85 = .ok (.getfield 12, 3) := by decide +kernel
theorem dX11_agrees_88 : decode cX11_agrees 88 = .ok (.getfield 198, 3) := by decide +kernel
theorem dX11_agrees_91 : decode cX11_agrees 91 = .ok (.bipush 6, 2) := by decide +kernel
theorem dX11_agrees_93 : decode cX11_agrees 93 = .ok (.invokevirtual 241, 3) := by decide +kernel
theorem dX11_agrees_96 : decode cX11_agrees 96 = .ok (.if_icmp .ne 31, 3) := by decide +kernel
theorem dX11_agrees_99 : decode cX11_agrees 99 = .ok (.aload_n 0, 1) := by decide +kernel
theorem dX11_agrees_100 : decode cX11_agrees 100 = .ok (.getfield 51, 3) := by decide +kernel
theorem dX11_agrees_103 : decode cX11_agrees 103 = .ok (.iconst (-1), 1) := by decide +kernel
theorem dX11_agrees_104 : decode cX11_agrees 104 = .ok (.iconst 3, 1) := by decide +kernel
theorem dX11_agrees_105 : decode cX11_agrees 105 = .ok (.invokevirtual 274, 3) := by decide +kernel
theorem dX11_agrees_108 : decode cX11_agrees 108 = .ok (.aload_n 0, 1) := by decide +kernel
theorem dX11_agrees_109 : decode cX11_agrees 109 = .ok (.getfield 12, 3) := by decide +kernel
theorem dX11_agrees_112 : decode cX11_agrees 112 = .ok (.getfield 198, 3) := by decide +kernel
theorem dX11_agrees_115 : decode cX11_agrees 115 = .ok (.bipush 7, 2) := by decide +kernel
theorem dX11_agrees_117 : decode cX11_agrees 117 = .ok (.invokevirtual 241, 3) := by decide +kernel
theorem dX11_agrees_120 : decode cX11_agrees 120 = .ok (.if_icmp .ne 7, 3) := by decide +kernel
theorem dX11_agrees_123 : decode cX11_agrees 123 = .ok (.iconst 1, 1) := by decide +kernel
theorem dX11_agrees_124 : decode cX11_agrees 124 = .ok (.goto 4, 3) := by decide +kernel
theorem dX11_agrees_127 : decode cX11_agrees 127 = .ok (.iconst 0, 1) := by decide +kernel
theorem dX11_agrees_128 : decode cX11_agrees 128 = .ok (.istore_n 1, 1) := by decide +kernel
theorem dX11_agrees_129 : decode cX11_agrees 129 = .ok (.iload_n 1, 1) := by decide +kernel
theorem dX11_agrees_130 : decode cX11_agrees 130 = .ok (.ifCond .eq 7, 3) := by decide +kernel
theorem dX11_agrees_133 : decode cX11_agrees 133 = .ok (.iconst 1, 1) := by decide +kernel
theorem dX11_agrees_134 : decode cX11_agrees 134 = .ok (.goto 4, 3) := by decide +kernel
theorem dX11_agrees_137 : decode cX11_agrees 137 = .ok (.iconst 0, 1) := by decide +kernel
theorem dX11_agrees_138 : decode cX11_agrees 138 = .ok (.ireturn, 1) := by decide +kernel
theorem dX11_ranked_0 : decode cX11_ranked 0 = .ok (.iload_n 1, 1) := by decide +kernel
theorem dX11_ranked_1 : decode cX11_ranked 1 = .ok (.ifCond .lt 12, 3) := by decide +kernel
theorem dX11_ranked_4 : decode cX11_ranked 4 = .ok (.iload_n 2, 1) := by decide +kernel
theorem dX11_ranked_5 : decode cX11_ranked 5 = .ok (.iconst 0, 1) := by decide +kernel
theorem dX11_ranked_6 : decode cX11_ranked 6 = .ok (.iconst 3, 1) := by decide +kernel
theorem dX11_ranked_7 : decode cX11_ranked 7 = .ok (.invokestatic 103, 3) := by decide +kernel
theorem dX11_ranked_10 : decode cX11_ranked 10 = .ok (.ifCond .ne 6, 3) := by decide +kernel
theorem dX11_ranked_13 : decode cX11_ranked 13 = .ok (.ldc 77, 2) := by decide +kernel
theorem dX11_ranked_15 : decode cX11_ranked 15 = .ok (.ireturn, 1) := by decide +kernel
theorem dX11_ranked_16 : decode cX11_ranked 16 = .ok (.aload_n 0, 1) := by decide +kernel
theorem dX11_ranked_17 : decode cX11_ranked 17 = .ok (.getfield 51, 3) := by decide +kernel
theorem dX11_ranked_20 : decode cX11_ranked 20 = .ok (.aload_n 0, 1) := by decide +kernel
theorem dX11_ranked_21 : decode cX11_ranked 21 = .ok (.getfield 12, 3) := by decide +kernel
theorem dX11_ranked_24 : decode cX11_ranked 24 = .ok (.getfield 198, 3) := by decide +kernel
theorem dX11_ranked_27 : decode cX11_ranked 27 = .ok (.invokevirtual 271, 3) := by decide +kernel
theorem dX11_ranked_30 : decode cX11_ranked 30 = .ok (.iload_n 1, 1) := by decide +kernel
theorem dX11_ranked_31 : decode cX11_ranked 31 = .ok (.aload_n 0, 1) := by decide +kernel
theorem dX11_ranked_32 : decode cX11_ranked 32 = .ok (.getfield 51, 3) := by decide +kernel
theorem dX11_ranked_35 : decode cX11_ranked 35 = .ok (.invokevirtual 277, 3) := by decide +kernel
theorem dX11_ranked_38 : decode cX11_ranked 38 = .ok (.if_icmp .lt 6, 3) := by decide +kernel
theorem dX11_ranked_41 : decode cX11_ranked 41 = .ok (.ldc 115, 2) := by decide +kernel
theorem dX11_ranked_43 : decode cX11_ranked 43 = .ok (.ireturn, 1) := by decide +kernel
theorem dX11_ranked_44 : decode cX11_ranked 44 = .ok (.aload_n 0, 1) := by decide +kernel
theorem dX11_ranked_45 : decode cX11_ranked 45 = .ok (.getfield 51, 3) := by decide +kernel
theorem dX11_ranked_48 : decode cX11_ranked 48 = .ok (.invokevirtual 278, 3) := by decide +kernel
theorem dX11_ranked_51 : decode cX11_ranked 51 = .ok (.aload_n 0, 1) := by decide +kernel
theorem dX11_ranked_52 : decode cX11_ranked 52 = .ok (.getfield 51, 3) := by decide +kernel
theorem dX11_ranked_55 : decode cX11_ranked 55 = .ok (.iload_n 1, 1) := by decide +kernel
theorem dX11_ranked_56 : decode cX11_ranked 56 = .ok (.invokevirtual 281, 3) := by decide +kernel
theorem dX11_ranked_59 : decode cX11_ranked 59 = .ok (.astore_n 3, 1) := by decide +kernel
theorem dX11_ranked_60 : decode cX11_ranked 60 = .ok (.iload_n 2, 1) := by decide +kernel
theorem dX11_ranked_61 : decode cX11_ranked 61 = .ok (.tableswitch 42 0 2 #[27, 32, 37], 27) := by decide +kernel
theorem dX11_ranked_88 : decode cX11_ranked 88 = .ok (.aload_n 3, 1) := by decide +kernel
theorem dX11_ranked_89 : decode cX11_ranked 89 = .ok (.getfield 284, 3) := by decide +kernel
theorem dX11_ranked_92 : decode cX11_ranked 92 = .ok (.ireturn, 1) := by decide +kernel
theorem dX11_ranked_93 : decode cX11_ranked 93 = .ok (.aload_n 3, 1) := by decide +kernel
theorem dX11_ranked_94 : decode cX11_ranked 94 = .ok (.getfield 287, 3) := by decide +kernel
theorem dX11_ranked_97 : decode cX11_ranked 97 = .ok (.ireturn, 1) := by decide +kernel
theorem dX11_ranked_98 : decode cX11_ranked 98 = .ok (.aload_n 3, 1) := by decide +kernel
theorem dX11_ranked_99 : decode cX11_ranked 99 = .ok (.getfield 290, 3) := by decide +kernel
theorem dX11_ranked_102 : decode cX11_ranked 102 = .ok (.ireturn, 1) := by decide +kernel
theorem dX11_ranked_103 : decode cX11_ranked 103 = .ok (.aload_n 3, 1) := by decide +kernel
theorem dX11_ranked_104 : decode cX11_ranked 104 = .ok (.getfield 293, 3) := by decide +kernel
theorem dX11_ranked_107 : decode cX11_ranked 107 = .ok (.ireturn, 1) := by decide +kernel
theorem dX11_mean_0 : decode cX11_mean 0 = .ok (.aload_n 0, 1) := by decide +kernel
theorem dX11_mean_1 : decode cX11_mean 1 = .ok (.getfield 12, 3) := by decide +kernel
theorem dX11_mean_4 : decode cX11_mean 4 = .ok (.getfield 198, 3) := by decide +kernel
theorem dX11_mean_7 : decode cX11_mean 7 = .ok (.iconst 5, 1) := by decide +kernel
theorem dX11_mean_8 : decode cX11_mean 8 = .ok (.invokevirtual 241, 3) := by decide +kernel
theorem dX11_mean_11 : decode cX11_mean 11 = .ok (.istore_n 1, 1) := by decide +kernel
theorem dX11_mean_12 : decode cX11_mean 12 = .ok (.iload_n 1, 1) := by decide +kernel
theorem dX11_mean_13 : decode cX11_mean 13 = .ok (.ifCond .gt 5, 3) := by decide +kernel
theorem dX11_mean_16 : decode cX11_mean 16 = .ok (.fconst 0, 1) := by decide +kernel
theorem dX11_mean_17 : decode cX11_mean 17 = .ok (.freturn, 1) := by decide +kernel
theorem dX11_mean_18 : decode cX11_mean 18 = .ok (.ldc2_w 296, 3) := by decide +kernel
theorem dX11_mean_21 : decode cX11_mean 21 = .ok (.aload_n 0, 1) := by decide +kernel
theorem dX11_mean_22 : decode cX11_mean 22 = .ok (.getfield 12, 3) := by decide +kernel
theorem dX11_mean_25 : decode cX11_mean 25 = .ok (.getfield 198, 3) := by decide +kernel
theorem dX11_mean_28 : decode cX11_mean 28 = .ok (.bipush 6, 2) := by decide +kernel
theorem dX11_mean_30 : decode cX11_mean 30 = .ok (.invokevirtual 241, 3) := by decide +kernel
theorem dX11_mean_33 : decode cX11_mean 33 = .ok (.i2l, 1) := by decide +kernel
theorem dX11_mean_34 : decode cX11_mean 34 = .ok (.lmul, 1) := by decide +kernel
theorem dX11_mean_35 : decode cX11_mean 35 = .ok (.l2f, 1) := by decide +kernel
theorem dX11_mean_36 : decode cX11_mean 36 = .ok (.iload_n 1, 1) := by decide +kernel
theorem dX11_mean_37 : decode cX11_mean 37 = .ok (.i2f, 1) := by decide +kernel
theorem dX11_mean_38 : decode cX11_mean 38 = .ok (.fdiv, 1) := by decide +kernel
theorem dX11_mean_39 : decode cX11_mean 39 = .ok (.freturn, 1) := by decide +kernel
theorem dX11_passes_0 : decode cX11_passes 0 = .ok (.iconst 0, 1) := by decide +kernel
theorem dX11_passes_1 : decode cX11_passes 1 = .ok (.istore_n 1, 1) := by decide +kernel
theorem dX11_passes_2 : decode cX11_passes 2 = .ok (.iconst 0, 1) := by decide +kernel
theorem dX11_passes_3 : decode cX11_passes 3 = .ok (.istore_n 2, 1) := by decide +kernel
theorem dX11_passes_4 : decode cX11_passes 4 = .ok (.iload_n 2, 1) := by decide +kernel
theorem dX11_passes_5 : decode cX11_passes 5 = .ok (.iconst 2, 1) := by decide +kernel
theorem dX11_passes_6 : decode cX11_passes 6 = .ok (.if_icmp .gt 23, 3) := by decide +kernel
theorem dX11_passes_9 : decode cX11_passes 9 = .ok (.iload_n 1, 1) := by decide +kernel
theorem dX11_passes_10 : decode cX11_passes 10 = .ok (.aload_n 0, 1) := by decide +kernel
theorem dX11_passes_11 : decode cX11_passes 11 = .ok (.getfield 12, 3) := by decide +kernel
theorem dX11_passes_14 : decode cX11_passes 14 = .ok (.getfield 82, 3) := by decide +kernel
theorem dX11_passes_17 : decode cX11_passes 17 = .ok (.iload_n 2, 1) := by decide +kernel
theorem dX11_passes_18 : decode cX11_passes 18 = .ok (.invokevirtual 195, 3) := by decide +kernel
theorem dX11_passes_21 : decode cX11_passes 21 = .ok (.iadd, 1) := by decide +kernel
theorem dX11_passes_22 : decode cX11_passes 22 = .ok (.istore_n 1, 1) := by decide +kernel
theorem dX11_passes_23 : decode cX11_passes 23 = .ok (.iinc 2 1, 3) := by decide +kernel
theorem dX11_passes_26 : decode cX11_passes 26 = .ok (.goto (-22), 3) := by decide +kernel
theorem dX11_passes_29 : decode cX11_passes 29 = .ok (.iconst 0, 1) := by decide +kernel
theorem dX11_passes_30 : decode cX11_passes 30 = .ok (.istore_n 2, 1) := by decide +kernel
theorem dX11_passes_31 : decode cX11_passes 31 = .ok (.iload_n 2, 1) := by decide +kernel
theorem dX11_passes_32 : decode cX11_passes 32 = .ok (.iload_n 1, 1) := by decide +kernel
theorem dX11_passes_33 : decode cX11_passes 33 = .ok (.if_icmp .gt 56, 3) := by decide +kernel
theorem dX11_passes_36 : decode cX11_passes 36 = .ok (.aload_n 0, 1) := by decide +kernel
theorem dX11_passes_37 : decode cX11_passes 37 = .ok (.getfield 37, 3) := by decide +kernel
theorem dX11_passes_40 : decode cX11_passes 40 = .ok (.aload_n 0, 1) := by decide +kernel
theorem dX11_passes_41 : decode cX11_passes 41 = .ok (.getfield 12, 3) := by decide +kernel
theorem dX11_passes_44 : decode cX11_passes 44 = .ok (.getfield 120, 3) := by decide +kernel
theorem dX11_passes_47 : decode cX11_passes 47 = .ok (.invokevirtual 183, 3) := by decide +kernel
theorem dX11_passes_50 : decode cX11_passes 50 = .ok (.aload_n 0, 1) := by decide +kernel
theorem dX11_passes_51 : decode cX11_passes 51 = .ok (.iload_n 1, 1) := by decide +kernel
theorem dX11_passes_52 : decode cX11_passes 52 = .ok (.iload_n 2, 1) := by decide +kernel
theorem dX11_passes_53 : decode cX11_passes 53 = .ok (.isub, 1) := by decide +kernel
theorem dX11_passes_54 : decode cX11_passes 54 = .ok (.invokevirtual 298, 3) := by decide +kernel
theorem dX11_passes_57 : decode cX11_passes 57 = .ok (.aload_n 0, 1) := by decide +kernel
theorem dX11_passes_58 : decode cX11_passes 58 = .ok (.getfield 37, 3) := by decide +kernel
theorem dX11_passes_61 : decode cX11_passes 61 = .ok (.aload_n 0, 1) := by decide +kernel
theorem dX11_passes_62 : decode cX11_passes 62 = .ok (.getfield 12, 3) := by decide +kernel
theorem dX11_passes_65 : decode cX11_passes 65 = .ok (.getfield 120, 3) := by decide +kernel
theorem dX11_passes_68 : decode cX11_passes 68 = .ok (.aload_n 0, 1) := by decide +kernel
theorem dX11_passes_69 : decode cX11_passes 69 = .ok (.getfield 12, 3) := by decide +kernel
theorem dX11_passes_72 : decode cX11_passes 72 = .ok (.getfield 82, 3) := by decide +kernel
theorem dX11_passes_75 : decode cX11_passes 75 = .ok (.invokevirtual 301, 3) := by decide +kernel
theorem dX11_passes_78 : decode cX11_passes 78 = .ok (.ifCond .eq 5, 3) := by decide +kernel
theorem dX11_passes_81 : decode cX11_passes 81 = .ok (.iload_n 2, 1) := by decide +kernel
theorem dX11_passes_82 : decode cX11_passes 82 = .ok (.ireturn, 1) := by decide +kernel
theorem dX11_passes_83 : decode cX11_passes 83 = .ok (.iinc 2 1, 3) := by decide +kernel
theorem dX11_passes_86 : decode cX11_passes 86 = .ok (.goto (-55), 3) := by decide +kernel
theorem dX11_passes_89 : decode cX11_passes 89 = .ok (.ldc 115, 2) := by decide +kernel
theorem dX11_passes_91 : decode cX11_passes 91 = .ok (.ireturn, 1) := by decide +kernel
theorem dX11_accepts_0 : decode cX11_accepts 0 = .ok (.iload_n 1, 1) := by decide +kernel
theorem dX11_accepts_1 : decode cX11_accepts 1 = .ok (.iconst 0, 1) := by decide +kernel
theorem dX11_accepts_2 : decode cX11_accepts 2 = .ok (.getstatic 99, 3) := by decide +kernel
theorem dX11_accepts_5 : decode cX11_accepts 5 = .ok (.iconst 0, 1) := by decide +kernel
theorem dX11_accepts_6 : decode cX11_accepts 6 = .ok (.iaload, 1) := by decide +kernel
theorem dX11_accepts_7 : decode cX11_accepts 7 = .ok (.invokestatic 103, 3) := by decide +kernel
theorem dX11_accepts_10 : decode cX11_accepts 10 = .ok (.ifCond .ne 6, 3) := by decide +kernel
theorem dX11_accepts_13 : decode cX11_accepts 13 = .ok (.ldc 77, 2) := by decide +kernel
theorem dX11_accepts_15 : decode cX11_accepts 15 = .ok (.ireturn, 1) := by decide +kernel
theorem dX11_accepts_16 : decode cX11_accepts 16 = .ok (.aload_n 0, 1) := by decide +kernel
theorem dX11_accepts_17 : decode cX11_accepts 17 = .ok (.iload_n 1, 1) := by decide +kernel
theorem dX11_accepts_18 : decode cX11_accepts 18 = .ok (.iconst 0, 1) := by decide +kernel
theorem dX11_accepts_19 : decode cX11_accepts 19 = .ok (.invokevirtual 208, 3) := by decide +kernel
theorem dX11_accepts_22 : decode cX11_accepts 22 = .ok (.ireturn, 1) := by decide +kernel
theorem dX11_keep_0 : decode cX11_keep 0 = .ok (.iload_n 1, 1) := by decide +kernel
theorem dX11_keep_1 : decode cX11_keep 1 = .ok (.iconst 0, 1) := by decide +kernel
theorem dX11_keep_2 : decode cX11_keep 2 = .ok (.iconst 1, 1) := by decide +kernel
theorem dX11_keep_3 : decode cX11_keep 3 = .ok (.invokestatic 103, 3) := by decide +kernel
theorem dX11_keep_6 : decode cX11_keep 6 = .ok (.ifCond .ne 6, 3) := by decide +kernel
theorem dX11_keep_9 : decode cX11_keep 9 = .ok (.ldc 77, 2) := by decide +kernel
theorem dX11_keep_11 : decode cX11_keep 11 = .ok (.ireturn, 1) := by decide +kernel
theorem dX11_keep_12 : decode cX11_keep 12 = .ok (.aload_n 0, 1) := by decide +kernel
theorem dX11_keep_13 : decode cX11_keep 13 = .ok (.getfield 23, 3) := by decide +kernel
theorem dX11_keep_16 : decode cX11_keep 16 = .ok (.iload_n 1, 1) := by decide +kernel
theorem dX11_keep_17 : decode cX11_keep 17 = .ok (.aaload, 1) := by decide +kernel
theorem dX11_keep_18 : decode cX11_keep 18 = .ok (.astore_n 2, 1) := by decide +kernel
theorem dX11_keep_19 : decode cX11_keep 19 = .ok (.aload_n 2, 1) := by decide +kernel
theorem dX11_keep_20 : decode cX11_keep 20 = .ok (.ifnonnull 18, 3) := by decide +kernel
theorem dX11_keep_23 : decode cX11_keep 23 = .ok (.new 9, 3) := by decide +kernel
theorem dX11_keep_26 : decode cX11_keep 26 = .ok (.dup, 1) := by decide +kernel
theorem dX11_keep_27 : decode cX11_keep 27 = .ok (.invokespecial 11, 3) := by decide +kernel
theorem dX11_keep_30 : decode cX11_keep 30 = .ok (.astore_n 2, 1) := by decide +kernel
theorem dX11_keep_31 : decode cX11_keep 31 = .ok (.aload_n 0, 1) := by decide +kernel
theorem dX11_keep_32 : decode cX11_keep 32 = .ok (.getfield 23, 3) := by decide +kernel
theorem dX11_keep_35 : decode cX11_keep 35 = .ok (.iload_n 1, 1) := by decide +kernel
theorem dX11_keep_36 : decode cX11_keep 36 = .ok (.aload_n 2, 1) := by decide +kernel
theorem dX11_keep_37 : decode cX11_keep 37 = .ok (.aastore, 1) := by decide +kernel
theorem dX11_keep_38 : decode cX11_keep 38 = .ok (.aload_n 2, 1) := by decide +kernel
theorem dX11_keep_39 : decode cX11_keep 39 = .ok (.aload_n 0, 1) := by decide +kernel
theorem dX11_keep_40 : decode cX11_keep 40 = .ok (.getfield 12, 3) := by decide +kernel
theorem dX11_keep_43 : decode cX11_keep 43 = .ok (.invokevirtual 305, 3) := by decide +kernel
theorem dX11_keep_46 : decode cX11_keep 46 = .ok (.aload_n 0, 1) := by decide +kernel
theorem dX11_keep_47 : decode cX11_keep 47 = .ok (.getfield 12, 3) := by decide +kernel
theorem dX11_keep_50 : decode cX11_keep 50 = .ok (.getfield 120, 3) := by decide +kernel
theorem dX11_keep_53 : decode cX11_keep 53 = .ok (.invokevirtual 124, 3) := by decide +kernel
theorem dX11_keep_56 : decode cX11_keep 56 = .ok (.ireturn, 1) := by decide +kernel
theorem dX11_back_0 : decode cX11_back 0 = .ok (.iload_n 1, 1) := by decide +kernel
theorem dX11_back_1 : decode cX11_back 1 = .ok (.iconst 0, 1) := by decide +kernel
theorem dX11_back_2 : decode cX11_back 2 = .ok (.iconst 1, 1) := by decide +kernel
theorem dX11_back_3 : decode cX11_back 3 = .ok (.invokestatic 103, 3) := by decide +kernel
theorem dX11_back_6 : decode cX11_back 6 = .ok (.ifCond .ne 6, 3) := by decide +kernel
theorem dX11_back_9 : decode cX11_back 9 = .ok (.ldc 77, 2) := by decide +kernel
theorem dX11_back_11 : decode cX11_back 11 = .ok (.ireturn, 1) := by decide +kernel
theorem dX11_back_12 : decode cX11_back 12 = .ok (.aload_n 0, 1) := by decide +kernel
theorem dX11_back_13 : decode cX11_back 13 = .ok (.getfield 23, 3) := by decide +kernel
theorem dX11_back_16 : decode cX11_back 16 = .ok (.iload_n 1, 1) := by decide +kernel
theorem dX11_back_17 : decode cX11_back 17 = .ok (.aaload, 1) := by decide +kernel
theorem dX11_back_18 : decode cX11_back 18 = .ok (.astore_n 2, 1) := by decide +kernel
theorem dX11_back_19 : decode cX11_back 19 = .ok (.aload_n 2, 1) := by decide +kernel
theorem dX11_back_20 : decode cX11_back 20 = .ok (.ifnonnull 6, 3) := by decide +kernel
theorem dX11_back_23 : decode cX11_back 23 = .ok (.ldc 134, 2) := by decide +kernel
theorem dX11_back_25 : decode cX11_back 25 = .ok (.ireturn, 1) := by decide +kernel
theorem dX11_back_26 : decode cX11_back 26 = .ok (.aload_n 0, 1) := by decide +kernel
theorem dX11_back_27 : decode cX11_back 27 = .ok (.getfield 19, 3) := by decide +kernel
theorem dX11_back_30 : decode cX11_back 30 = .ok (.aload_n 0, 1) := by decide +kernel
theorem dX11_back_31 : decode cX11_back 31 = .ok (.getfield 12, 3) := by decide +kernel
theorem dX11_back_34 : decode cX11_back 34 = .ok (.invokevirtual 78, 3) := by decide +kernel
theorem dX11_back_37 : decode cX11_back 37 = .ok (.aload_n 0, 1) := by decide +kernel
theorem dX11_back_38 : decode cX11_back 38 = .ok (.getfield 12, 3) := by decide +kernel
theorem dX11_back_41 : decode cX11_back 41 = .ok (.aload_n 2, 1) := by decide +kernel
theorem dX11_back_42 : decode cX11_back 42 = .ok (.invokevirtual 305, 3) := by decide +kernel
theorem dX11_back_45 : decode cX11_back 45 = .ok (.aload_n 0, 1) := by decide +kernel
theorem dX11_back_46 : decode cX11_back 46 = .ok (.getfield 12, 3) := by decide +kernel
theorem dX11_back_49 : decode cX11_back 49 = .ok (.getfield 120, 3) := by decide +kernel
theorem dX11_back_52 : decode cX11_back 52 = .ok (.invokevirtual 124, 3) := by decide +kernel
theorem dX11_back_55 : decode cX11_back 55 = .ok (.ireturn, 1) := by decide +kernel
theorem dX11_feedDeck_0 : decode cX11_feedDeck 0 = .ok (.iconst 0, 1) := by decide +kernel
theorem dX11_feedDeck_1 : decode cX11_feedDeck 1 = .ok (.istore_n 3, 1) := by decide +kernel
theorem dX11_feedDeck_2 : decode cX11_feedDeck 2 = .ok (.ldc2_w 308, 3) := by decide +kernel
theorem dX11_feedDeck_5 : decode cX11_feedDeck 5 = .ok (.lstore 4, 2) := by decide +kernel
theorem dX11_feedDeck_7 : decode cX11_feedDeck 7 = .ok (.iconst 0, 1) := by decide +kernel
theorem dX11_feedDeck_8 : decode cX11_feedDeck 8 = .ok (.istore 6, 2) := by decide +kernel
theorem dX11_feedDeck_10 : decode cX11_feedDeck 10 = .ok (.iconst 0, 1) := by decide +kernel
theorem dX11_feedDeck_11 : decode cX11_feedDeck 11 = .ok (.istore 7, 2) := by decide +kernel
theorem dX11_feedDeck_13 : decode cX11_feedDeck 13 = .ok (.iload 7, 2) := by decide +kernel
theorem dX11_feedDeck_15 : decode cX11_feedDeck 15 = .ok (.aload_n 0, 1) := by decide +kernel
theorem dX11_feedDeck_16 : decode cX11_feedDeck 16 = .ok (.getfield 12, 3) := by decide +kernel
theorem dX11_feedDeck_19 : decode cX11_feedDeck 19 = .ok (.getfield 120, 3) := by decide +kernel
theorem dX11_feedDeck_22 : decode cX11_feedDeck 22 = .ok (.invokevirtual 124, 3) := by decide +kernel
theorem dX11_feedDeck_25 : decode cX11_feedDeck 25 = .ok (.if_icmp .ge 87, 3) := by decide +kernel
theorem dX11_feedDeck_28 : decode cX11_feedDeck 28 = .ok (.iload 6, 2) := by decide +kernel
theorem dX11_feedDeck_30 : decode cX11_feedDeck 30 = .ok (.ifCond .eq 8, 3) := by decide +kernel
theorem dX11_feedDeck_33 : decode cX11_feedDeck 33 = .ok (.bipush 6, 2) := by decide +kernel
theorem dX11_feedDeck_35 : decode cX11_feedDeck 35 = .ok (.goto 22, 3) := by decide +kernel
theorem dX11_feedDeck_38 : decode cX11_feedDeck 38 = .ok (.aload_n 0, 1) := by decide +kernel
theorem dX11_feedDeck_39 : decode cX11_feedDeck 39 = .ok (.aload_n 0, 1) := by decide +kernel
theorem dX11_feedDeck_40 : decode cX11_feedDeck 40 = .ok (.getfield 12, 3) := by decide +kernel
theorem dX11_feedDeck_43 : decode cX11_feedDeck 43 = .ok (.getfield 120, 3) := by decide +kernel
theorem dX11_feedDeck_46 : decode cX11_feedDeck 46 = .ok (.iload 7, 2) := by decide +kernel
theorem dX11_feedDeck_48 : decode cX11_feedDeck 48 = .ok (.invokevirtual 170, 3) := by decide +kernel
theorem dX11_feedDeck_51 : decode cX11_feedDeck 51 = .ok (.iload_n 1, 1) := by decide +kernel
theorem dX11_feedDeck_52 : decode cX11_feedDeck 52 = .ok (.lload 4, 2) := by decide +kernel
theorem dX11_feedDeck_54 : decode cX11_feedDeck 54 = .ok (.invokevirtual 310, 3) := by decide +kernel
theorem dX11_feedDeck_57 : decode cX11_feedDeck 57 = .ok (.istore 8, 2) := by decide +kernel
theorem dX11_feedDeck_59 : decode cX11_feedDeck 59 = .ok (.iload 8, 2) := by decide +kernel
theorem dX11_feedDeck_61 : decode cX11_feedDeck 61 = .ok (.iconst 5, 1) := by decide +kernel
theorem dX11_feedDeck_62 : decode cX11_feedDeck 62 = .ok (.if_icmp .ne 15, 3) := by decide +kernel
theorem dX11_feedDeck_65 : decode cX11_feedDeck 65 = .ok (.iload_n 1, 1) := by decide +kernel
theorem dX11_feedDeck_66 : decode cX11_feedDeck 66 = .ok (.iconst 2, 1) := by decide +kernel
theorem dX11_feedDeck_67 : decode cX11_feedDeck 67 = .ok (.if_icmp .ne 10, 3) := by decide +kernel
theorem dX11_feedDeck_70 : decode cX11_feedDeck 70 = .ok (.iconst 1, 1) := by decide +kernel
theorem dX11_feedDeck_71 : decode cX11_feedDeck 71 = .ok (.istore 6, 2) := by decide +kernel
theorem dX11_feedDeck_73 : decode cX11_feedDeck 73 = .ok (.bipush 6, 2) := by decide +kernel
theorem dX11_feedDeck_75 : decode cX11_feedDeck 75 = .ok (.istore 8, 2) := by decide +kernel
theorem dX11_feedDeck_77 : decode cX11_feedDeck 77 = .ok (.iload 8, 2) := by decide +kernel
theorem dX11_feedDeck_79 : decode cX11_feedDeck 79 = .ok (.ifCond .ne 15, 3) := by decide +kernel
theorem dX11_feedDeck_82 : decode cX11_feedDeck 82 = .ok (.iinc 3 1, 3) := by decide +kernel
theorem dX11_feedDeck_85 : decode cX11_feedDeck 85 = .ok (.aload_n 0, 1) := by decide +kernel
theorem dX11_feedDeck_86 : decode cX11_feedDeck 86 = .ok (.getfield 65, 3) := by decide +kernel
theorem dX11_feedDeck_89 : decode cX11_feedDeck 89 = .ok (.invokevirtual 314, 3) := by decide +kernel
theorem dX11_feedDeck_92 : decode cX11_feedDeck 92 = .ok (.lstore 4, 2) := by decide +kernel
theorem dX11_feedDeck_94 : decode cX11_feedDeck 94 = .ok (.iload_n 2, 1) := by decide +kernel
theorem dX11_feedDeck_95 : decode cX11_feedDeck 95 = .ok (.ifCond .eq 11, 3) := by decide +kernel
theorem dX11_feedDeck_98 : decode cX11_feedDeck 98 = .ok (.aload_n 0, 1) := by decide +kernel
theorem dX11_feedDeck_99 : decode cX11_feedDeck 99 = .ok (.iload 7, 2) := by decide +kernel
theorem dX11_feedDeck_101 : decode cX11_feedDeck 101 = .ok (.iload 8, 2) := by decide +kernel
theorem dX11_feedDeck_103 : decode cX11_feedDeck 103 = .ok (.invokevirtual 318, 3) := by decide +kernel
theorem dX11_feedDeck_106 : decode cX11_feedDeck 106 = .ok (.iinc 7 1, 3) := by decide +kernel
theorem dX11_feedDeck_109 : decode cX11_feedDeck 109 = .ok (.goto (-96), 3) := by decide +kernel
theorem dX11_feedDeck_112 : decode cX11_feedDeck 112 = .ok (.iload_n 3, 1) := by decide +kernel
theorem dX11_feedDeck_113 : decode cX11_feedDeck 113 = .ok (.ireturn, 1) := by decide +kernel
theorem dX11_printJudged_0 : decode cX11_printJudged 0 = .ok (.aload_n 0, 1) := by decide +kernel
theorem dX11_printJudged_1 : decode cX11_printJudged 1 = .ok (.getfield 12, 3) := by decide +kernel
theorem dX11_printJudged_4 : decode cX11_printJudged 4 = .ok (.getfield 198, 3) := by decide +kernel
theorem dX11_printJudged_7 : decode cX11_printJudged 7 = .ok (.iload_n 1, 1) := by decide +kernel
theorem dX11_printJudged_8 : decode cX11_printJudged 8 = .ok (.iload_n 2, 1) := by decide +kernel
theorem dX11_printJudged_9 : decode cX11_printJudged 9 = .ok (.invokevirtual 321, 3) := by decide +kernel
theorem dX11_printJudged_12 : decode cX11_printJudged 12 = .ok (.iload_n 2, 1) := by decide +kernel
theorem dX11_printJudged_13 : decode cX11_printJudged 13 = .ok (.ifCond .ne 22, 3) := by decide +kernel
theorem dX11_printJudged_16 : decode cX11_printJudged 16 = .ok (.aload_n 0, 1) := by decide +kernel
theorem dX11_printJudged_17 : decode cX11_printJudged 17 = .ok (.getfield 44, 3) := by decide +kernel
theorem dX11_printJudged_20 : decode cX11_printJudged 20 = .ok (.aload_n 0, 1) := by decide +kernel
theorem dX11_printJudged_21 : decode cX11_printJudged 21 = .ok (.getfield 12, 3) := by decide +kernel
theorem dX11_printJudged_24 : decode cX11_printJudged 24 = .ok (.getfield 198, 3) := by decide +kernel
theorem dX11_printJudged_27 : decode cX11_printJudged 27 = .ok (.aload_n 0, 1) := by decide +kernel
theorem dX11_printJudged_28 : decode cX11_printJudged 28 = .ok (.getfield 65, 3) := by decide +kernel
theorem dX11_printJudged_31 : decode cX11_printJudged 31 = .ok (.iload_n 1, 1) := by decide +kernel
theorem dX11_printJudged_32 : decode cX11_printJudged 32 = .ok (.invokevirtual 324, 3) := by decide +kernel
theorem dX11_printJudged_35 : decode cX11_printJudged 35 = .ok (.return_, 1) := by decide +kernel
theorem dX11_refusal_0 : decode cX11_refusal 0 = .ok (.aload_n 0, 1) := by decide +kernel
theorem dX11_refusal_1 : decode cX11_refusal 1 = .ok (.aload_n 1, 1) := by decide +kernel
theorem dX11_refusal_2 : decode cX11_refusal 2 = .ok (.invokevirtual 254, 3) := by decide +kernel
theorem dX11_refusal_5 : decode cX11_refusal 5 = .ok (.istore 5, 2) := by decide +kernel
theorem dX11_refusal_7 : decode cX11_refusal 7 = .ok (.iload 5, 2) := by decide +kernel
theorem dX11_refusal_9 : decode cX11_refusal 9 = .ok (.ifCond .ne 21, 3) := by decide +kernel
theorem dX11_refusal_12 : decode cX11_refusal 12 = .ok (.iload_n 2, 1) := by decide +kernel
theorem dX11_refusal_13 : decode cX11_refusal 13 = .ok (.ifCond .eq 17, 3) := by decide +kernel
theorem dX11_refusal_16 : decode cX11_refusal 16 = .ok (.aload_n 0, 1) := by decide +kernel
theorem dX11_refusal_17 : decode cX11_refusal 17 = .ok (.getfield 65, 3) := by decide +kernel
theorem dX11_refusal_20 : decode cX11_refusal 20 = .ok (.invokevirtual 314, 3) := by decide +kernel
theorem dX11_refusal_23 : decode cX11_refusal 23 = .ok (.lload_n 3, 1) := by decide +kernel
theorem dX11_refusal_24 : decode cX11_refusal 24 = .ok (.lcmp, 1) := by decide +kernel
theorem dX11_refusal_25 : decode cX11_refusal 25 = .ok (.ifCond .ge 5, 3) := by decide +kernel
theorem dX11_refusal_28 : decode cX11_refusal 28 = .ok (.iconst 5, 1) := by decide +kernel
theorem dX11_refusal_29 : decode cX11_refusal 29 = .ok (.ireturn, 1) := by decide +kernel
theorem dX11_refusal_30 : decode cX11_refusal 30 = .ok (.iload 5, 2) := by decide +kernel
theorem dX11_refusal_32 : decode cX11_refusal 32 = .ok (.ireturn, 1) := by decide +kernel
theorem dX11_faultOfCard_0 : decode cX11_faultOfCard 0 = .ok (.aload_n 1, 1) := by decide +kernel
theorem dX11_faultOfCard_1 : decode cX11_faultOfCard 1 = .ok (.getfield 176, 3) := by decide +kernel
theorem dX11_faultOfCard_4 : decode cX11_faultOfCard 4 = .ok (.iconst 1, 1) := by decide +kernel
theorem dX11_faultOfCard_5 : decode cX11_faultOfCard 5 = .ok (.if_icmp .ne 5, 3) := by decide +kernel
theorem dX11_faultOfCard_8 : decode cX11_faultOfCard 8 = .ok (.iconst 1, 1) := by decide +kernel
theorem dX11_faultOfCard_9 : decode cX11_faultOfCard 9 = .ok (.ireturn, 1) := by decide +kernel
theorem dX11_faultOfCard_10 : decode cX11_faultOfCard 10 = .ok (.aload_n 0, 1) := by decide +kernel
theorem dX11_faultOfCard_11 : decode cX11_faultOfCard 11 = .ok (.getfield 58, 3) := by decide +kernel
theorem dX11_faultOfCard_14 : decode cX11_faultOfCard 14 = .ok (.aload_n 1, 1) := by decide +kernel
theorem dX11_faultOfCard_15 : decode cX11_faultOfCard 15 = .ok (.invokevirtual 328, 3) := by decide +kernel
theorem dX11_faultOfCard_18 : decode cX11_faultOfCard 18 = .ok (.aload_n 0, 1) := by decide +kernel
theorem dX11_faultOfCard_19 : decode cX11_faultOfCard 19 = .ok (.getfield 65, 3) := by decide +kernel
theorem dX11_faultOfCard_22 : decode cX11_faultOfCard 22 = .ok (.aload_n 0, 1) := by decide +kernel
theorem dX11_faultOfCard_23 : decode cX11_faultOfCard 23 = .ok (.getfield 58, 3) := by decide +kernel
theorem dX11_faultOfCard_26 : decode cX11_faultOfCard 26 = .ok (.aload_n 0, 1) := by decide +kernel
theorem dX11_faultOfCard_27 : decode cX11_faultOfCard 27 = .ok (.getfield 12, 3) := by decide +kernel
theorem dX11_faultOfCard_30 : decode cX11_faultOfCard 30 = .ok (.getfield 82, 3) := by decide +kernel
theorem dX11_faultOfCard_33 : decode cX11_faultOfCard 33 = .ok (.invokevirtual 332, 3) := by decide +kernel
theorem dX11_faultOfCard_36 : decode cX11_faultOfCard 36 = .ok (.ifCond .ne 5, 3) := by decide +kernel
theorem dX11_faultOfCard_39 : decode cX11_faultOfCard 39 = .ok (.iconst 2, 1) := by decide +kernel
theorem dX11_faultOfCard_40 : decode cX11_faultOfCard 40 = .ok (.ireturn, 1) := by decide +kernel
theorem dX11_faultOfCard_41 : decode cX11_faultOfCard 41 = .ok (.aload_n 0, 1) := by decide +kernel
theorem dX11_faultOfCard_42 : decode cX11_faultOfCard 42 = .ok (.getfield 12, 3) := by decide +kernel
theorem dX11_faultOfCard_45 : decode cX11_faultOfCard 45 = .ok (.iconst 1, 1) := by decide +kernel
theorem dX11_faultOfCard_46 : decode cX11_faultOfCard 46 = .ok (.invokevirtual 106, 3) := by decide +kernel
theorem dX11_faultOfCard_49 : decode cX11_faultOfCard 49 = .ok (.iconst 1, 1) := by decide +kernel
theorem dX11_faultOfCard_50 : decode cX11_faultOfCard 50 = .ok (.if_icmp .ne 37, 3) := by decide +kernel
theorem dX11_faultOfCard_53 : decode cX11_faultOfCard 53 = .ok (.aload_n 0, 1) := by decide +kernel
theorem dX11_faultOfCard_54 : decode cX11_faultOfCard 54 = .ok (.getfield 12, 3) := by decide +kernel
theorem dX11_faultOfCard_57 : decode cX11_faultOfCard 57 = .ok (.getfield 82, 3) := by decide +kernel
theorem dX11_faultOfCard_60 : decode cX11_faultOfCard 60 = .ok (.aload_n 0, 1) := by decide +kernel
theorem dX11_faultOfCard_61 : decode cX11_faultOfCard 61 = .ok (.getfield 58, 3) := by decide +kernel
theorem dX11_faultOfCard_64 : decode cX11_faultOfCard 64 = .ok (.iconst 5, 1) := by decide +kernel
theorem dX11_faultOfCard_65 : decode cX11_faultOfCard 65 = .ok (.invokevirtual 250, 3) := by decide +kernel
theorem dX11_faultOfCard_68 : decode cX11_faultOfCard 68 = .ok (.aload_n 0, 1) := by decide +kernel
theorem dX11_faultOfCard_69 : decode cX11_faultOfCard 69 = .ok (.getfield 12, 3) := by decide +kernel
theorem dX11_faultOfCard_72 : decode cX11_faultOfCard 72 = .ok (.getfield 82, 3) := by decide +kernel
theorem dX11_faultOfCard_75 : decode cX11_faultOfCard 75 = .ok (.aload_n 0, 1) := by decide +kernel
theorem dX11_faultOfCard_76 : decode cX11_faultOfCard 76 = .ok (.getfield 58, 3) := by decide +kernel
theorem dX11_faultOfCard_79 : decode cX11_faultOfCard 79 = .ok (.invokevirtual 144, 3) := by decide +kernel
theorem dX11_faultOfCard_82 : decode cX11_faultOfCard 82 = .ok (.if_icmp .eq 5, 3) := by decide +kernel
theorem dX11_faultOfCard_85 : decode cX11_faultOfCard 85 = .ok (.iconst 3, 1) := by decide +kernel
theorem dX11_faultOfCard_86 : decode cX11_faultOfCard 86 = .ok (.ireturn, 1) := by decide +kernel
theorem dX11_faultOfCard_87 : decode cX11_faultOfCard 87 = .ok (.aload_n 0, 1) := by decide +kernel
theorem dX11_faultOfCard_88 : decode cX11_faultOfCard 88 = .ok (.getfield 65, 3) := by decide +kernel
theorem dX11_faultOfCard_91 : decode cX11_faultOfCard 91 = .ok (.getfield 336, 3) := by decide +kernel
theorem dX11_faultOfCard_94 : decode cX11_faultOfCard 94 = .ok (.aload_n 0, 1) := by decide +kernel
theorem dX11_faultOfCard_95 : decode cX11_faultOfCard 95 = .ok (.getfield 12, 3) := by decide +kernel
theorem dX11_faultOfCard_98 : decode cX11_faultOfCard 98 = .ok (.iconst 2, 1) := by decide +kernel
theorem dX11_faultOfCard_99 : decode cX11_faultOfCard 99 = .ok (.invokevirtual 106, 3) := by decide +kernel
theorem dX11_faultOfCard_102 : decode cX11_faultOfCard 102 = .ok (.if_icmp .le 7, 3) := by decide +kernel
theorem dX11_faultOfCard_105 : decode cX11_faultOfCard 105 = .ok (.iconst 4, 1) := by decide +kernel
theorem dX11_faultOfCard_106 : decode cX11_faultOfCard 106 = .ok (.goto 4, 3) := by decide +kernel
theorem dX11_faultOfCard_109 : decode cX11_faultOfCard 109 = .ok (.iconst 0, 1) := by decide +kernel
theorem dX11_faultOfCard_110 : decode cX11_faultOfCard 110 = .ok (.ireturn, 1) := by decide +kernel
theorem dX11_acceptedTotal_0 : decode cX11_acceptedTotal 0 = .ok (.iload_n 1, 1) := by decide +kernel
theorem dX11_acceptedTotal_1 : decode cX11_acceptedTotal 1 = .ok (.lookupswitch 51 #[(0, 27), (1, 39)], 27) := by decide +kernel
theorem dX11_acceptedTotal_28 : decode cX11_acceptedTotal 28 = .ok (.aload_n 0, 1) := by decide +kernel
theorem dX11_acceptedTotal_29 : decode cX11_acceptedTotal 29 = .ok (.getfield 12, 3) := by decide +kernel
theorem dX11_acceptedTotal_32 : decode cX11_acceptedTotal 32 = .ok (.getfield 198, 3) := by decide +kernel
theorem dX11_acceptedTotal_35 : decode cX11_acceptedTotal 35 = .ok (.iconst 4, 1) := by decide +kernel
theorem dX11_acceptedTotal_36 : decode cX11_acceptedTotal 36 = .ok (.invokevirtual 241, 3) := by decide +kernel
theorem dX11_acceptedTotal_39 : decode cX11_acceptedTotal 39 = .ok (.ireturn, 1) := by decide +kernel
theorem dX11_acceptedTotal_40 : decode cX11_acceptedTotal 40 = .ok (.aload_n 0, 1) := by decide +kernel
theorem dX11_acceptedTotal_41 : decode cX11_acceptedTotal 41 = .ok (.getfield 12, 3) := by decide +kernel
theorem dX11_acceptedTotal_44 : decode cX11_acceptedTotal 44 = .ok (.getfield 198, 3) := by decide +kernel
theorem dX11_acceptedTotal_47 : decode cX11_acceptedTotal 47 = .ok (.iconst 5, 1) := by decide +kernel
theorem dX11_acceptedTotal_48 : decode cX11_acceptedTotal 48 = .ok (.invokevirtual 241, 3) := by decide +kernel
theorem dX11_acceptedTotal_51 : decode cX11_acceptedTotal 51 = .ok (.ireturn, 1) := by decide +kernel
theorem dX11_acceptedTotal_52 : decode cX11_acceptedTotal 52 = .ok (.aload_n 0, 1) := by decide +kernel
theorem dX11_acceptedTotal_53 : decode cX11_acceptedTotal 53 = .ok (.getfield 12, 3) := by decide +kernel
theorem dX11_acceptedTotal_56 : decode cX11_acceptedTotal 56 = .ok (.getfield 198, 3) := by decide +kernel
theorem dX11_acceptedTotal_59 : decode cX11_acceptedTotal 59 = .ok (.invokevirtual 339, 3) := by decide +kernel
theorem dX11_acceptedTotal_62 : decode cX11_acceptedTotal 62 = .ok (.ireturn, 1) := by decide +kernel
theorem dX11_isDeckInOrder_0 : decode cX11_isDeckInOrder 0 = .ok (.aload_n 0, 1) := by decide +kernel
theorem dX11_isDeckInOrder_1 : decode cX11_isDeckInOrder 1 = .ok (.getfield 37, 3) := by decide +kernel
theorem dX11_isDeckInOrder_4 : decode cX11_isDeckInOrder 4 = .ok (.aload_n 0, 1) := by decide +kernel
theorem dX11_isDeckInOrder_5 : decode cX11_isDeckInOrder 5 = .ok (.getfield 12, 3) := by decide +kernel
theorem dX11_isDeckInOrder_8 : decode cX11_isDeckInOrder 8 = .ok (.getfield 120, 3) := by decide +kernel
theorem dX11_isDeckInOrder_11 : decode cX11_isDeckInOrder 11 = .ok (.invokevirtual 183, 3) := by decide +kernel
theorem dX11_isDeckInOrder_14 : decode cX11_isDeckInOrder 14 = .ok (.aload_n 0, 1) := by decide +kernel
theorem dX11_isDeckInOrder_15 : decode cX11_isDeckInOrder 15 = .ok (.getfield 37, 3) := by decide +kernel
theorem dX11_isDeckInOrder_18 : decode cX11_isDeckInOrder 18 = .ok (.aload_n 0, 1) := by decide +kernel
theorem dX11_isDeckInOrder_19 : decode cX11_isDeckInOrder 19 = .ok (.getfield 12, 3) := by decide +kernel
theorem dX11_isDeckInOrder_22 : decode cX11_isDeckInOrder 22 = .ok (.getfield 120, 3) := by decide +kernel
theorem dX11_isDeckInOrder_25 : decode cX11_isDeckInOrder 25 = .ok (.aload_n 0, 1) := by decide +kernel
theorem dX11_isDeckInOrder_26 : decode cX11_isDeckInOrder 26 = .ok (.getfield 12, 3) := by decide +kernel
theorem dX11_isDeckInOrder_29 : decode cX11_isDeckInOrder 29 = .ok (.getfield 82, 3) := by decide +kernel
theorem dX11_isDeckInOrder_32 : decode cX11_isDeckInOrder 32 = .ok (.invokevirtual 301, 3) := by decide +kernel
theorem dX11_isDeckInOrder_35 : decode cX11_isDeckInOrder 35 = .ok (.ireturn, 1) := by decide +kernel
theorem dX11_passByKeyColumns_0 : decode cX11_passByKeyColumns 0 = .ok (.iconst 0, 1) := by decide +kernel
theorem dX11_passByKeyColumns_1 : decode cX11_passByKeyColumns 1 = .ok (.istore_n 2, 1) := by decide +kernel
theorem dX11_passByKeyColumns_2 : decode cX11_passByKeyColumns 2 = .ok (.iconst 2, 1) := by decide +kernel
theorem dX11_passByKeyColumns_3 : decode cX11_passByKeyColumns 3 = .ok (.istore_n 3, 1) := by decide +kernel
theorem dX11_passByKeyColumns_4 : decode cX11_passByKeyColumns 4 = .ok (.iload_n 3, 1) := by decide +kernel
theorem dX11_passByKeyColumns_5 : decode cX11_passByKeyColumns 5 = .ok (.ifCond .lt 71, 3) := by decide +kernel
theorem dX11_passByKeyColumns_8 : decode cX11_passByKeyColumns 8 = .ok (.aload_n 0, 1) := by decide +kernel
theorem dX11_passByKeyColumns_9 : decode cX11_passByKeyColumns 9 = .ok (.getfield 12, 3) := by decide +kernel
theorem dX11_passByKeyColumns_12 : decode cX11_passByKeyColumns 12 = .ok (.getfield 82, 3) := by decide +kernel
theorem dX11_passByKeyColumns_15 : decode cX11_passByKeyColumns 15 = .ok (.iload_n 3, 1) := by decide +kernel
theorem dX11_passByKeyColumns_16 : decode cX11_passByKeyColumns 16 = .ok (.invokevirtual 195, 3) := by decide +kernel
theorem dX11_passByKeyColumns_19 : decode cX11_passByKeyColumns 19 = .ok (.iconst 1, 1) := by decide +kernel
theorem dX11_passByKeyColumns_20 : decode cX11_passByKeyColumns 20 = .ok (.isub, 1) := by decide +kernel
theorem dX11_passByKeyColumns_21 : decode cX11_passByKeyColumns 21 = .ok (.istore 4, 2) := by decide +kernel
theorem dX11_passByKeyColumns_23 : decode cX11_passByKeyColumns 23 = .ok (.iload 4, 2) := by decide +kernel
theorem dX11_passByKeyColumns_25 : decode cX11_passByKeyColumns 25 = .ok (.ifCond .lt 45, 3) := by decide +kernel
theorem dX11_passByKeyColumns_28 : decode cX11_passByKeyColumns 28 = .ok (.iload_n 2, 1) := by decide +kernel
theorem dX11_passByKeyColumns_29 : decode cX11_passByKeyColumns 29 = .ok (.iload_n 1, 1) := by decide +kernel
theorem dX11_passByKeyColumns_30 : decode cX11_passByKeyColumns 30 = .ok (.if_icmp .lt 31, 3) := by decide +kernel
theorem dX11_passByKeyColumns_33 : decode cX11_passByKeyColumns 33 = .ok (.aload_n 0, 1) := by decide +kernel
theorem dX11_passByKeyColumns_34 : decode cX11_passByKeyColumns 34 = .ok (.getfield 37, 3) := by decide +kernel
theorem dX11_passByKeyColumns_37 : decode cX11_passByKeyColumns 37 = .ok (.aload_n 0, 1) := by decide +kernel
theorem dX11_passByKeyColumns_38 : decode cX11_passByKeyColumns 38 = .ok (.getfield 12, 3) := by decide +kernel
theorem dX11_passByKeyColumns_41 : decode cX11_passByKeyColumns 41 = .ok (.getfield 120, 3) := by decide +kernel
theorem dX11_passByKeyColumns_44 : decode cX11_passByKeyColumns 44 = .ok (.aload_n 0, 1) := by decide +kernel
theorem dX11_passByKeyColumns_45 : decode cX11_passByKeyColumns 45 = .ok (.getfield 12, 3) := by decide +kernel
theorem dX11_passByKeyColumns_48 : decode cX11_passByKeyColumns 48 = .ok (.getfield 82, 3) := by decide +kernel
theorem dX11_passByKeyColumns_51 : decode cX11_passByKeyColumns 51 = .ok (.iload_n 3, 1) := by decide +kernel
theorem dX11_passByKeyColumns_52 : decode cX11_passByKeyColumns 52 = .ok (.invokevirtual 86, 3) := by decide +kernel
theorem dX11_passByKeyColumns_55 : decode cX11_passByKeyColumns 55 = .ok (.iload 4, 2) := by decide +kernel
theorem dX11_passByKeyColumns_57 : decode cX11_passByKeyColumns 57 = .ok (.iadd, 1) := by decide +kernel
theorem dX11_passByKeyColumns_58 : decode cX11_passByKeyColumns 58 = .ok (.invokevirtual 187, 3) := by decide +kernel
theorem dX11_passByKeyColumns_61 : decode cX11_passByKeyColumns 61 = .ok (.iinc 2 1, 3) := by decide +kernel
theorem dX11_passByKeyColumns_64 : decode cX11_passByKeyColumns 64 = .ok (.iinc 4 (-1), 3) := by decide +kernel
theorem dX11_passByKeyColumns_67 : decode cX11_passByKeyColumns 67 = .ok (.goto (-44), 3) := by decide +kernel
theorem dX11_passByKeyColumns_70 : decode cX11_passByKeyColumns 70 = .ok (.iinc 3 (-1), 3) := by decide +kernel
theorem dX11_passByKeyColumns_73 : decode cX11_passByKeyColumns 73 = .ok (.goto (-69), 3) := by decide +kernel
theorem dX11_passByKeyColumns_76 : decode cX11_passByKeyColumns 76 = .ok (.return_, 1) := by decide +kernel
theorem dX11_isWithin_0 : decode cX11_isWithin 0 = .ok (.iload_n 0, 1) := by decide +kernel
theorem dX11_isWithin_1 : decode cX11_isWithin 1 = .ok (.iload_n 1, 1) := by decide +kernel
theorem dX11_isWithin_2 : decode cX11_isWithin 2 = .ok (.if_icmp .lt 12, 3) := by decide +kernel
theorem dX11_isWithin_5 : decode cX11_isWithin 5 = .ok (.iload_n 0, 1) := by decide +kernel
theorem dX11_isWithin_6 : decode cX11_isWithin 6 = .ok (.iload_n 2, 1) := by decide +kernel
theorem dX11_isWithin_7 : decode cX11_isWithin 7 = .ok (.if_icmp .gt 7, 3) := by decide +kernel
theorem dX11_isWithin_10 : decode cX11_isWithin 10 = .ok (.iconst 1, 1) := by decide +kernel
theorem dX11_isWithin_11 : decode cX11_isWithin 11 = .ok (.goto 4, 3) := by decide +kernel
theorem dX11_isWithin_14 : decode cX11_isWithin 14 = .ok (.iconst 0, 1) := by decide +kernel
theorem dX11_isWithin_15 : decode cX11_isWithin 15 = .ok (.ireturn, 1) := by decide +kernel
theorem dX11_isField_0 : decode cX11_isField 0 = .ok (.iload_n 0, 1) := by decide +kernel
theorem dX11_isField_1 : decode cX11_isField 1 = .ok (.ifCond .lt 13, 3) := by decide +kernel
theorem dX11_isField_4 : decode cX11_isField 4 = .ok (.iload_n 0, 1) := by decide +kernel
theorem dX11_isField_5 : decode cX11_isField 5 = .ok (.bipush 6, 2) := by decide +kernel
theorem dX11_isField_7 : decode cX11_isField 7 = .ok (.if_icmp .ge 7, 3) := by decide +kernel
theorem dX11_isField_10 : decode cX11_isField 10 = .ok (.iconst 1, 1) := by decide +kernel
theorem dX11_isField_11 : decode cX11_isField 11 = .ok (.goto 4, 3) := by decide +kernel
theorem dX11_isField_14 : decode cX11_isField 14 = .ok (.iconst 0, 1) := by decide +kernel
theorem dX11_isField_15 : decode cX11_isField 15 = .ok (.ireturn, 1) := by decide +kernel
theorem dX11_isColumn_0 : decode cX11_isColumn 0 = .ok (.iload_n 0, 1) := by decide +kernel
theorem dX11_isColumn_1 : decode cX11_isColumn 1 = .ok (.ifCond .lt 13, 3) := by decide +kernel
theorem dX11_isColumn_4 : decode cX11_isColumn 4 = .ok (.iload_n 0, 1) := by decide +kernel
theorem dX11_isColumn_5 : decode cX11_isColumn 5 = .ok (.bipush 24, 2) := by decide +kernel
theorem dX11_isColumn_7 : decode cX11_isColumn 7 = .ok (.if_icmp .ge 7, 3) := by decide +kernel
theorem dX11_isColumn_10 : decode cX11_isColumn 10 = .ok (.iconst 1, 1) := by decide +kernel
theorem dX11_isColumn_11 : decode cX11_isColumn 11 = .ok (.goto 4, 3) := by decide +kernel
theorem dX11_isColumn_14 : decode cX11_isColumn 14 = .ok (.iconst 0, 1) := by decide +kernel
theorem dX11_isColumn_15 : decode cX11_isColumn 15 = .ok (.ireturn, 1) := by decide +kernel
theorem dX11_isSetting_0 : decode cX11_isSetting 0 = .ok (.iload_n 0, 1) := by decide +kernel
theorem dX11_isSetting_1 : decode cX11_isSetting 1 = .ok (.ifCond .lt 15, 3) := by decide +kernel
theorem dX11_isSetting_4 : decode cX11_isSetting 4 = .ok (.iload_n 0, 1) := by decide +kernel
theorem dX11_isSetting_5 : decode cX11_isSetting 5 = .ok (.getstatic 99, 3) := by decide +kernel
theorem dX11_isSetting_8 : decode cX11_isSetting 8 = .ok (.arraylength, 1) := by decide +kernel
theorem dX11_isSetting_9 : decode cX11_isSetting 9 = .ok (.if_icmp .ge 7, 3) := by decide +kernel
theorem dX11_isSetting_12 : decode cX11_isSetting 12 = .ok (.iconst 1, 1) := by decide +kernel
theorem dX11_isSetting_13 : decode cX11_isSetting 13 = .ok (.goto 4, 3) := by decide +kernel
theorem dX11_isSetting_16 : decode cX11_isSetting 16 = .ok (.iconst 0, 1) := by decide +kernel
theorem dX11_isSetting_17 : decode cX11_isSetting 17 = .ok (.ireturn, 1) := by decide +kernel
theorem dX11_isControl_0 : decode cX11_isControl 0 = .ok (.iload_n 0, 1) := by decide +kernel
theorem dX11_isControl_1 : decode cX11_isControl 1 = .ok (.ifCond .lt 12, 3) := by decide +kernel
theorem dX11_isControl_4 : decode cX11_isControl 4 = .ok (.iload_n 0, 1) := by decide +kernel
theorem dX11_isControl_5 : decode cX11_isControl 5 = .ok (.iconst 3, 1) := by decide +kernel
theorem dX11_isControl_6 : decode cX11_isControl 6 = .ok (.if_icmp .ge 7, 3) := by decide +kernel
theorem dX11_isControl_9 : decode cX11_isControl 9 = .ok (.iconst 1, 1) := by decide +kernel
theorem dX11_isControl_10 : decode cX11_isControl 10 = .ok (.goto 4, 3) := by decide +kernel
theorem dX11_isControl_13 : decode cX11_isControl 13 = .ok (.iconst 0, 1) := by decide +kernel
theorem dX11_isControl_14 : decode cX11_isControl 14 = .ok (.ireturn, 1) := by decide +kernel
theorem dX11_fits_0 : decode cX11_fits 0 = .ok (.iload_n 0, 1) := by decide +kernel
theorem dX11_fits_1 : decode cX11_fits 1 = .ok (.iconst 5, 1) := by decide +kernel
theorem dX11_fits_2 : decode cX11_fits 2 = .ok (.if_icmp .ne 7, 3) := by decide +kernel
theorem dX11_fits_5 : decode cX11_fits 5 = .ok (.iconst 1, 1) := by decide +kernel
theorem dX11_fits_6 : decode cX11_fits 6 = .ok (.goto 4, 3) := by decide +kernel
theorem dX11_fits_9 : decode cX11_fits 9 = .ok (.iconst 4, 1) := by decide +kernel
theorem dX11_fits_10 : decode cX11_fits 10 = .ok (.istore_n 3, 1) := by decide +kernel
theorem dX11_fits_11 : decode cX11_fits 11 = .ok (.iload_n 2, 1) := by decide +kernel
