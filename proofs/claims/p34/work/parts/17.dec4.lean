theorem dX11_fits_12 : decode cX11_fits 12 = .ok (.iconst 1, 1) := by decide +kernel
theorem dX11_fits_13 : decode cX11_fits 13 = .ok (.iload_n 3, 1) := by decide +kernel
theorem dX11_fits_14 : decode cX11_fits 14 = .ok (.invokestatic 103, 3) := by decide +kernel
theorem dX11_fits_17 : decode cX11_fits 17 = .ok (.ifCond .eq 22, 3) := by decide +kernel
theorem dX11_fits_20 : decode cX11_fits 20 = .ok (.iload_n 1, 1) := by decide +kernel
theorem dX11_fits_21 : decode cX11_fits 21 = .ok (.invokestatic 167, 3) := by decide +kernel
theorem dX11_fits_24 : decode cX11_fits 24 = .ok (.ifCond .eq 15, 3) := by decide +kernel
theorem dX11_fits_27 : decode cX11_fits 27 = .ok (.iload_n 1, 1) := by decide +kernel
theorem dX11_fits_28 : decode cX11_fits 28 = .ok (.iload_n 2, 1) := by decide +kernel
theorem dX11_fits_29 : decode cX11_fits 29 = .ok (.iadd, 1) := by decide +kernel
theorem dX11_fits_30 : decode cX11_fits 30 = .ok (.bipush 24, 2) := by decide +kernel
theorem dX11_fits_32 : decode cX11_fits 32 = .ok (.if_icmp .gt 7, 3) := by decide +kernel
theorem dX11_fits_35 : decode cX11_fits 35 = .ok (.iconst 1, 1) := by decide +kernel
theorem dX11_fits_36 : decode cX11_fits 36 = .ok (.goto 4, 3) := by decide +kernel
theorem dX11_fits_39 : decode cX11_fits 39 = .ok (.iconst 0, 1) := by decide +kernel
theorem dX11_fits_40 : decode cX11_fits 40 = .ok (.ireturn, 1) := by decide +kernel
theorem dJ9_floorMod_7cf53_0 : decode cJ9_floorMod_7cf53 0 = .ok (.iload_n 0, 1) := by decide +kernel
theorem dJ9_floorMod_7cf53_1 : decode cJ9_floorMod_7cf53 1 = .ok (.iload_n 1, 1) := by decide +kernel
theorem dJ9_floorMod_7cf53_2 : decode cJ9_floorMod_7cf53 2 = .ok (.irem, 1) := by decide +kernel
theorem dJ9_floorMod_7cf53_3 : decode cJ9_floorMod_7cf53 3 = .ok (.istore_n 2, 1) := by decide +kernel
theorem dJ9_floorMod_7cf53_4 : decode cJ9_floorMod_7cf53 4 = .ok (.iload_n 0, 1) := by decide +kernel
theorem dJ9_floorMod_7cf53_5 : decode cJ9_floorMod_7cf53 5 = .ok (.iload_n 1, 1) := by decide +kernel
theorem dJ9_floorMod_7cf53_6 : decode cJ9_floorMod_7cf53 6 = .ok (.ixor, 1) := by decide +kernel
theorem dJ9_floorMod_7cf53_7 : decode cJ9_floorMod_7cf53 7 = .ok (.ifCond .ge 11, 3) := by decide +kernel
theorem dJ9_floorMod_7cf53_10 : decode cJ9_floorMod_7cf53 10 = .ok (.iload_n 2, 1) := by decide +kernel
theorem dJ9_floorMod_7cf53_11 : decode cJ9_floorMod_7cf53 11 = .ok (.ifCond .eq 7, 3) := by decide +kernel
theorem dJ9_floorMod_7cf53_14 : decode cJ9_floorMod_7cf53 14 = .ok (.iload_n 2, 1) := by decide +kernel
theorem dJ9_floorMod_7cf53_15 : decode cJ9_floorMod_7cf53 15 = .ok (.iload_n 1, 1) := by decide +kernel
theorem dJ9_floorMod_7cf53_16 : decode cJ9_floorMod_7cf53 16 = .ok (.iadd, 1) := by decide +kernel
theorem dJ9_floorMod_7cf53_17 : decode cJ9_floorMod_7cf53 17 = .ok (.ireturn, 1) := by decide +kernel
theorem dJ9_floorMod_7cf53_18 : decode cJ9_floorMod_7cf53 18 = .ok (.iload_n 2, 1) := by decide +kernel
theorem dJ9_floorMod_7cf53_19 : decode cJ9_floorMod_7cf53 19 = .ok (.ireturn, 1) := by decide +kernel
theorem dJ9_abs_0f7a4_0 : decode cJ9_abs_0f7a4 0 = .ok (.iload_n 0, 1) := by decide +kernel
theorem dJ9_abs_0f7a4_1 : decode cJ9_abs_0f7a4 1 = .ok (.ifCond .ge 8, 3) := by decide +kernel
theorem dJ9_abs_0f7a4_4 : decode cJ9_abs_0f7a4 4 = .ok (.iload_n 0, 1) := by decide +kernel
theorem dJ9_abs_0f7a4_5 : decode cJ9_abs_0f7a4 5 = .ok (.ineg, 1) := by decide +kernel
theorem dJ9_abs_0f7a4_6 : decode cJ9_abs_0f7a4 6 = .ok (.goto 4, 3) := by decide +kernel
theorem dJ9_abs_0f7a4_9 : decode cJ9_abs_0f7a4 9 = .ok (.iload_n 0, 1) := by decide +kernel
theorem dJ9_abs_0f7a4_10 : decode cJ9_abs_0f7a4 10 = .ok (.ireturn, 1) := by decide +kernel
theorem dJ9_min_7cf53_0 : decode cJ9_min_7cf53 0 = .ok (.iload_n 0, 1) := by decide +kernel
theorem dJ9_min_7cf53_1 : decode cJ9_min_7cf53 1 = .ok (.iload_n 1, 1) := by decide +kernel
theorem dJ9_min_7cf53_2 : decode cJ9_min_7cf53 2 = .ok (.if_icmp .gt 7, 3) := by decide +kernel
theorem dJ9_min_7cf53_5 : decode cJ9_min_7cf53 5 = .ok (.iload_n 0, 1) := by decide +kernel
theorem dJ9_min_7cf53_6 : decode cJ9_min_7cf53 6 = .ok (.goto 4, 3) := by decide +kernel
theorem dJ9_min_7cf53_9 : decode cJ9_min_7cf53 9 = .ok (.iload_n 1, 1) := by decide +kernel
theorem dJ9_min_7cf53_10 : decode cJ9_min_7cf53 10 = .ok (.ireturn, 1) := by decide +kernel
theorem dL_cell_0 : decode cL_cell 0 = .ok (.iload_n 1, 1) := by decide +kernel
theorem dL_cell_1 : decode cL_cell 1 = .ok (.aload_n 0, 1) := by decide +kernel
theorem dL_cell_2 : decode cL_cell 2 = .ok (.arraylength, 1) := by decide +kernel
theorem dL_cell_3 : decode cL_cell 3 = .ok (.if_icmp .ge 9, 3) := by decide +kernel
theorem dL_cell_6 : decode cL_cell 6 = .ok (.aload_n 0, 1) := by decide +kernel
theorem dL_cell_7 : decode cL_cell 7 = .ok (.iload_n 1, 1) := by decide +kernel
theorem dL_cell_8 : decode cL_cell 8 = .ok (.iaload, 1) := by decide +kernel
theorem dL_cell_9 : decode cL_cell 9 = .ok (.goto 9, 3) := by decide +kernel
theorem dL_cell_12 : decode cL_cell 12 = .ok (.ldc 7, 2) := by decide +kernel
theorem dL_cell_14 : decode cL_cell 14 = .ok (.iload_n 1, 1) := by decide +kernel
theorem dL_cell_15 : decode cL_cell 15 = .ok (.iconst 1, 1) := by decide +kernel
theorem dL_cell_16 : decode cL_cell 16 = .ok (.iadd, 1) := by decide +kernel
theorem dL_cell_17 : decode cL_cell 17 = .ok (.imul, 1) := by decide +kernel
theorem dL_cell_18 : decode cL_cell 18 = .ok (.ireturn, 1) := by decide +kernel
theorem dL_low_0 : decode cL_low 0 = .ok (.iload_n 0, 1) := by decide +kernel
theorem dL_low_1 : decode cL_low 1 = .ok (.ldc 8, 2) := by decide +kernel
theorem dL_low_3 : decode cL_low 3 = .ok (.iand, 1) := by decide +kernel
theorem dL_low_4 : decode cL_low 4 = .ok (.iload_n 1, 1) := by decide +kernel
theorem dL_low_5 : decode cL_low 5 = .ok (.irem, 1) := by decide +kernel
theorem dL_low_6 : decode cL_low 6 = .ok (.ireturn, 1) := by decide +kernel
theorem dL_number_0 : decode cL_number 0 = .ok (.aload_n 0, 1) := by decide +kernel
theorem dL_number_1 : decode cL_number 1 = .ok (.iload_n 1, 1) := by decide +kernel
theorem dL_number_2 : decode cL_number 2 = .ok (.invokevirtual 9, 3) := by decide +kernel
theorem dL_number_5 : decode cL_number 5 = .ok (.istore_n 3, 1) := by decide +kernel
theorem dL_number_6 : decode cL_number 6 = .ok (.iload_n 2, 1) := by decide +kernel
theorem dL_number_7 : decode cL_number 7 = .ok (.bipush 99, 2) := by decide +kernel
theorem dL_number_9 : decode cL_number 9 = .ok (.if_icmp .le 18, 3) := by decide +kernel
theorem dL_number_12 : decode cL_number 12 = .ok (.aload_n 0, 1) := by decide +kernel
theorem dL_number_13 : decode cL_number 13 = .ok (.bipush 48, 2) := by decide +kernel
theorem dL_number_15 : decode cL_number 15 = .ok (.iload_n 2, 1) := by decide +kernel
theorem dL_number_16 : decode cL_number 16 = .ok (.bipush 100, 2) := by decide +kernel
theorem dL_number_18 : decode cL_number 18 = .ok (.idiv, 1) := by decide +kernel
theorem dL_number_19 : decode cL_number 19 = .ok (.bipush 10, 2) := by decide +kernel
theorem dL_number_21 : decode cL_number 21 = .ok (.irem, 1) := by decide +kernel
theorem dL_number_22 : decode cL_number 22 = .ok (.iadd, 1) := by decide +kernel
theorem dL_number_23 : decode cL_number 23 = .ok (.invokevirtual 9, 3) := by decide +kernel
theorem dL_number_26 : decode cL_number 26 = .ok (.istore_n 3, 1) := by decide +kernel
theorem dL_number_27 : decode cL_number 27 = .ok (.iload_n 2, 1) := by decide +kernel
theorem dL_number_28 : decode cL_number 28 = .ok (.bipush 9, 2) := by decide +kernel
theorem dL_number_30 : decode cL_number 30 = .ok (.if_icmp .le 18, 3) := by decide +kernel
theorem dL_number_33 : decode cL_number 33 = .ok (.aload_n 0, 1) := by decide +kernel
theorem dL_number_34 : decode cL_number 34 = .ok (.bipush 48, 2) := by decide +kernel
theorem dL_number_36 : decode cL_number 36 = .ok (.iload_n 2, 1) := by decide +kernel
theorem dL_number_37 : decode cL_number 37 = .ok (.bipush 10, 2) := by decide +kernel
theorem dL_number_39 : decode cL_number 39 = .ok (.idiv, 1) := by decide +kernel
theorem dL_number_40 : decode cL_number 40 = .ok (.bipush 10, 2) := by decide +kernel
theorem dL_number_42 : decode cL_number 42 = .ok (.irem, 1) := by decide +kernel
theorem dL_number_43 : decode cL_number 43 = .ok (.iadd, 1) := by decide +kernel
theorem dL_number_44 : decode cL_number 44 = .ok (.invokevirtual 9, 3) := by decide +kernel
theorem dL_number_47 : decode cL_number 47 = .ok (.istore_n 3, 1) := by decide +kernel
theorem dL_number_48 : decode cL_number 48 = .ok (.aload_n 0, 1) := by decide +kernel
theorem dL_number_49 : decode cL_number 49 = .ok (.bipush 48, 2) := by decide +kernel
theorem dL_number_51 : decode cL_number 51 = .ok (.iload_n 2, 1) := by decide +kernel
theorem dL_number_52 : decode cL_number 52 = .ok (.bipush 10, 2) := by decide +kernel
theorem dL_number_54 : decode cL_number 54 = .ok (.irem, 1) := by decide +kernel
theorem dL_number_55 : decode cL_number 55 = .ok (.iadd, 1) := by decide +kernel
theorem dL_number_56 : decode cL_number 56 = .ok (.invokevirtual 9, 3) := by decide +kernel
theorem dL_number_59 : decode cL_number 59 = .ok (.ireturn, 1) := by decide +kernel
theorem dL_write_0 : decode cL_write 0 = .ok (.aload_n 0, 1) := by decide +kernel
theorem dL_write_1 : decode cL_write 1 = .ok (.invokevirtual 15, 3) := by decide +kernel
theorem dL_write_4 : decode cL_write 4 = .ok (.istore_n 2, 1) := by decide +kernel
theorem dL_write_5 : decode cL_write 5 = .ok (.aload_n 0, 1) := by decide +kernel
theorem dL_write_6 : decode cL_write 6 = .ok (.bipush 100, 2) := by decide +kernel
theorem dL_write_8 : decode cL_write 8 = .ok (.iload_n 1, 1) := by decide +kernel
theorem dL_write_9 : decode cL_write 9 = .ok (.iconst 3, 1) := by decide +kernel
theorem dL_write_10 : decode cL_write 10 = .ok (.invokestatic 19, 3) := by decide +kernel
theorem dL_write_13 : decode cL_write 13 = .ok (.invokestatic 25, 3) := by decide +kernel
theorem dL_write_16 : decode cL_write 16 = .ok (.istore_n 2, 1) := by decide +kernel
theorem dL_write_17 : decode cL_write 17 = .ok (.aload_n 0, 1) := by decide +kernel
theorem dL_write_18 : decode cL_write 18 = .ok (.bipush 32, 2) := by decide +kernel
theorem dL_write_20 : decode cL_write 20 = .ok (.invokevirtual 9, 3) := by decide +kernel
theorem dL_write_23 : decode cL_write 23 = .ok (.istore_n 2, 1) := by decide +kernel
theorem dL_write_24 : decode cL_write 24 = .ok (.aload_n 0, 1) := by decide +kernel
theorem dL_write_25 : decode cL_write 25 = .ok (.bipush 103, 2) := by decide +kernel
theorem dL_write_27 : decode cL_write 27 = .ok (.iload_n 1, 1) := by decide +kernel
theorem dL_write_28 : decode cL_write 28 = .ok (.iconst 2, 1) := by decide +kernel
theorem dL_write_29 : decode cL_write 29 = .ok (.ishr, 1) := by decide +kernel
theorem dL_write_30 : decode cL_write 30 = .ok (.iconst 2, 1) := by decide +kernel
theorem dL_write_31 : decode cL_write 31 = .ok (.invokestatic 19, 3) := by decide +kernel
theorem dL_write_34 : decode cL_write 34 = .ok (.invokestatic 25, 3) := by decide +kernel
theorem dL_write_37 : decode cL_write 37 = .ok (.istore_n 2, 1) := by decide +kernel
theorem dL_write_38 : decode cL_write 38 = .ok (.aload_n 0, 1) := by decide +kernel
theorem dL_write_39 : decode cL_write 39 = .ok (.bipush 32, 2) := by decide +kernel
theorem dL_write_41 : decode cL_write 41 = .ok (.invokevirtual 9, 3) := by decide +kernel
theorem dL_write_44 : decode cL_write 44 = .ok (.istore_n 2, 1) := by decide +kernel
theorem dL_write_45 : decode cL_write 45 = .ok (.aload_n 0, 1) := by decide +kernel
theorem dL_write_46 : decode cL_write 46 = .ok (.bipush 119, 2) := by decide +kernel
theorem dL_write_48 : decode cL_write 48 = .ok (.iload_n 1, 1) := by decide +kernel
theorem dL_write_49 : decode cL_write 49 = .ok (.iconst 4, 1) := by decide +kernel
theorem dL_write_50 : decode cL_write 50 = .ok (.ishr, 1) := by decide +kernel
theorem dL_write_51 : decode cL_write 51 = .ok (.iconst 4, 1) := by decide +kernel
theorem dL_write_52 : decode cL_write 52 = .ok (.invokestatic 19, 3) := by decide +kernel
theorem dL_write_55 : decode cL_write 55 = .ok (.invokestatic 25, 3) := by decide +kernel
theorem dL_write_58 : decode cL_write 58 = .ok (.istore_n 2, 1) := by decide +kernel
theorem dL_write_59 : decode cL_write 59 = .ok (.aload_n 0, 1) := by decide +kernel
theorem dL_write_60 : decode cL_write 60 = .ok (.bipush 32, 2) := by decide +kernel
theorem dL_write_62 : decode cL_write 62 = .ok (.invokevirtual 9, 3) := by decide +kernel
theorem dL_write_65 : decode cL_write 65 = .ok (.istore_n 2, 1) := by decide +kernel
theorem dL_write_66 : decode cL_write 66 = .ok (.aload_n 0, 1) := by decide +kernel
theorem dL_write_67 : decode cL_write 67 = .ok (.bipush 104, 2) := by decide +kernel
theorem dL_write_69 : decode cL_write 69 = .ok (.iload_n 1, 1) := by decide +kernel
theorem dL_write_70 : decode cL_write 70 = .ok (.bipush 6, 2) := by decide +kernel
theorem dL_write_72 : decode cL_write 72 = .ok (.ishr, 1) := by decide +kernel
theorem dL_write_73 : decode cL_write 73 = .ok (.iload_n 1, 1) := by decide +kernel
theorem dL_write_74 : decode cL_write 74 = .ok (.bipush 20, 2) := by decide +kernel
theorem dL_write_76 : decode cL_write 76 = .ok (.ishr, 1) := by decide +kernel
theorem dL_write_77 : decode cL_write 77 = .ok (.bipush 9, 2) := by decide +kernel
theorem dL_write_79 : decode cL_write 79 = .ok (.invokestatic 19, 3) := by decide +kernel
theorem dL_write_82 : decode cL_write 82 = .ok (.ifCond .ne 9, 3) := by decide +kernel
theorem dL_write_85 : decode cL_write 85 = .ok (.sipush 1000, 3) := by decide +kernel
theorem dL_write_88 : decode cL_write 88 = .ok (.goto 6, 3) := by decide +kernel
theorem dL_write_91 : decode cL_write 91 = .ok (.sipush 500, 3) := by decide +kernel
theorem dL_write_94 : decode cL_write 94 = .ok (.invokestatic 19, 3) := by decide +kernel
theorem dL_write_97 : decode cL_write 97 = .ok (.invokestatic 25, 3) := by decide +kernel
theorem dL_write_100 : decode cL_write 100 = .ok (.istore_n 2, 1) := by decide +kernel
theorem dL_write_101 : decode cL_write 101 = .ok (.aload_n 0, 1) := by decide +kernel
theorem dL_write_102 : decode cL_write 102 = .ok (.bipush 32, 2) := by decide +kernel
theorem dL_write_104 : decode cL_write 104 = .ok (.invokevirtual 9, 3) := by decide +kernel
theorem dL_write_107 : decode cL_write 107 = .ok (.istore_n 2, 1) := by decide +kernel
theorem dL_write_108 : decode cL_write 108 = .ok (.iload_n 1, 1) := by decide +kernel
theorem dL_write_109 : decode cL_write 109 = .ok (.bipush 23, 2) := by decide +kernel
theorem dL_write_111 : decode cL_write 111 = .ok (.ishr, 1) := by decide +kernel
theorem dL_write_112 : decode cL_write 112 = .ok (.bipush 12, 2) := by decide +kernel
theorem dL_write_114 : decode cL_write 114 = .ok (.invokestatic 19, 3) := by decide +kernel
theorem dL_write_117 : decode cL_write 117 = .ok (.ifCond .ne 7, 3) := by decide +kernel
theorem dL_write_120 : decode cL_write 120 = .ok (.iload_n 2, 1) := by decide +kernel
theorem dL_write_121 : decode cL_write 121 = .ok (.goto 21, 3) := by decide +kernel
theorem dL_write_124 : decode cL_write 124 = .ok (.aload_n 0, 1) := by decide +kernel
theorem dL_write_125 : decode cL_write 125 = .ok (.bipush 114, 2) := by decide +kernel
theorem dL_write_127 : decode cL_write 127 = .ok (.iconst 1, 1) := by decide +kernel
theorem dL_write_128 : decode cL_write 128 = .ok (.iload_n 1, 1) := by decide +kernel
theorem dL_write_129 : decode cL_write 129 = .ok (.bipush 9, 2) := by decide +kernel
theorem dL_write_131 : decode cL_write 131 = .ok (.ishr, 1) := by decide +kernel
theorem dL_write_132 : decode cL_write 132 = .ok (.sipush 900, 3) := by decide +kernel
theorem dL_write_135 : decode cL_write 135 = .ok (.invokestatic 19, 3) := by decide +kernel
theorem dL_write_138 : decode cL_write 138 = .ok (.iadd, 1) := by decide +kernel
theorem dL_write_139 : decode cL_write 139 = .ok (.invokestatic 25, 3) := by decide +kernel
theorem dL_write_142 : decode cL_write 142 = .ok (.ireturn, 1) := by decide +kernel
theorem dL_change_0 : decode cL_change 0 = .ok (.aload_n 0, 1) := by decide +kernel
theorem dL_change_1 : decode cL_change 1 = .ok (.iconst 0, 1) := by decide +kernel
theorem dL_change_2 : decode cL_change 2 = .ok (.invokevirtual 29, 3) := by decide +kernel
theorem dL_change_5 : decode cL_change 5 = .ok (.istore_n 3, 1) := by decide +kernel
theorem dL_change_6 : decode cL_change 6 = .ok (.iload_n 3, 1) := by decide +kernel
theorem dL_change_7 : decode cL_change 7 = .ok (.ifCond .ne 7, 3) := by decide +kernel
theorem dL_change_10 : decode cL_change 10 = .ok (.iconst 0, 1) := by decide +kernel
theorem dL_change_11 : decode cL_change 11 = .ok (.goto 10, 3) := by decide +kernel
theorem dL_change_14 : decode cL_change 14 = .ok (.iload_n 1, 1) := by decide +kernel
theorem dL_change_15 : decode cL_change 15 = .ok (.iconst 5, 1) := by decide +kernel
theorem dL_change_16 : decode cL_change 16 = .ok (.ishr, 1) := by decide +kernel
theorem dL_change_17 : decode cL_change 17 = .ok (.iload_n 3, 1) := by decide +kernel
theorem dL_change_18 : decode cL_change 18 = .ok (.invokestatic 19, 3) := by decide +kernel
theorem dL_change_21 : decode cL_change 21 = .ok (.istore 4, 2) := by decide +kernel
theorem dL_change_23 : decode cL_change 23 = .ok (.iload_n 1, 1) := by decide +kernel
theorem dL_change_24 : decode cL_change 24 = .ok (.bipush 26, 2) := by decide +kernel
theorem dL_change_26 : decode cL_change 26 = .ok (.invokestatic 19, 3) := by decide +kernel
theorem dL_change_29 : decode cL_change 29 = .ok (.tableswitch 385 0 18 #[91, 146, 157, 174, 187, 221, 228, 248, 286, 286, 320, 331, 331, 331, 341, 341, 341, 346, 351], 91) := by decide +kernel
theorem dL_change_120 : decode cL_change 120 = .ok (.iload_n 2, 1) := by decide +kernel
theorem dL_change_121 : decode cL_change 121 = .ok (.iconst 5, 1) := by decide +kernel
theorem dL_change_122 : decode cL_change 122 = .ok (.invokestatic 19, 3) := by decide +kernel
theorem dL_change_125 : decode cL_change 125 = .ok (.ifCond .ne 37, 3) := by decide +kernel
theorem dL_change_128 : decode cL_change 128 = .ok (.aload_n 0, 1) := by decide +kernel
theorem dL_change_129 : decode cL_change 129 = .ok (.iload_n 2, 1) := by decide +kernel
theorem dL_change_130 : decode cL_change 130 = .ok (.iconst 3, 1) := by decide +kernel
theorem dL_change_131 : decode cL_change 131 = .ok (.ishr, 1) := by decide +kernel
theorem dL_change_132 : decode cL_change 132 = .ok (.bipush 6, 2) := by decide +kernel
theorem dL_change_134 : decode cL_change 134 = .ok (.invokestatic 19, 3) := by decide +kernel
theorem dL_change_137 : decode cL_change 137 = .ok (.iload_n 2, 1) := by decide +kernel
theorem dL_change_138 : decode cL_change 138 = .ok (.bipush 6, 2) := by decide +kernel
theorem dL_change_140 : decode cL_change 140 = .ok (.ishr, 1) := by decide +kernel
theorem dL_change_141 : decode cL_change 141 = .ok (.bipush 20, 2) := by decide +kernel
theorem dL_change_143 : decode cL_change 143 = .ok (.invokestatic 19, 3) := by decide +kernel
theorem dL_change_146 : decode cL_change 146 = .ok (.iconst 1, 1) := by decide +kernel
theorem dL_change_147 : decode cL_change 147 = .ok (.iload_n 2, 1) := by decide +kernel
theorem dL_change_148 : decode cL_change 148 = .ok (.bipush 11, 2) := by decide +kernel
theorem dL_change_150 : decode cL_change 150 = .ok (.ishr, 1) := by decide +kernel
theorem dL_change_151 : decode cL_change 151 = .ok (.iconst 4, 1) := by decide +kernel
theorem dL_change_152 : decode cL_change 152 = .ok (.invokestatic 19, 3) := by decide +kernel
theorem dL_change_155 : decode cL_change 155 = .ok (.iadd, 1) := by decide +kernel
theorem dL_change_156 : decode cL_change 156 = .ok (.invokevirtual 32, 3) := by decide +kernel
theorem dL_change_159 : decode cL_change 159 = .ok (.goto 15, 3) := by decide +kernel
theorem dL_change_162 : decode cL_change 162 = .ok (.aload_n 0, 1) := by decide +kernel
theorem dL_change_163 : decode cL_change 163 = .ok (.iconst 1, 1) := by decide +kernel
theorem dL_change_164 : decode cL_change 164 = .ok (.iload_n 2, 1) := by decide +kernel
theorem dL_change_165 : decode cL_change 165 = .ok (.iconst 3, 1) := by decide +kernel
theorem dL_change_166 : decode cL_change 166 = .ok (.ishr, 1) := by decide +kernel
theorem dL_change_167 : decode cL_change 167 = .ok (.iconst 2, 1) := by decide +kernel
theorem dL_change_168 : decode cL_change 168 = .ok (.invokestatic 19, 3) := by decide +kernel
theorem dL_change_171 : decode cL_change 171 = .ok (.invokevirtual 36, 3) := by decide +kernel
theorem dL_change_174 : decode cL_change 174 = .ok (.ireturn, 1) := by decide +kernel
theorem dL_change_175 : decode cL_change 175 = .ok (.aload_n 0, 1) := by decide +kernel
theorem dL_change_176 : decode cL_change 176 = .ok (.iconst 0, 1) := by decide +kernel
theorem dL_change_177 : decode cL_change 177 = .ok (.iload_n 2, 1) := by decide +kernel
theorem dL_change_178 : decode cL_change 178 = .ok (.iconst 3, 1) := by decide +kernel
theorem dL_change_179 : decode cL_change 179 = .ok (.invokestatic 19, 3) := by decide +kernel
theorem dL_change_182 : decode cL_change 182 = .ok (.invokevirtual 36, 3) := by decide +kernel
theorem dL_change_185 : decode cL_change 185 = .ok (.ireturn, 1) := by decide +kernel
theorem dL_change_186 : decode cL_change 186 = .ok (.aload_n 0, 1) := by decide +kernel
theorem dL_change_187 : decode cL_change 187 = .ok (.iconst 2, 1) := by decide +kernel
theorem dL_change_188 : decode cL_change 188 = .ok (.sipush 200, 3) := by decide +kernel
theorem dL_change_191 : decode cL_change 191 = .ok (.iload_n 2, 1) := by decide +kernel
theorem dL_change_192 : decode cL_change 192 = .ok (.sipush 900, 3) := by decide +kernel
theorem dL_change_195 : decode cL_change 195 = .ok (.invokestatic 19, 3) := by decide +kernel
theorem dL_change_198 : decode cL_change 198 = .ok (.iadd, 1) := by decide +kernel
theorem dL_change_199 : decode cL_change 199 = .ok (.invokevirtual 36, 3) := by decide +kernel
theorem dL_change_202 : decode cL_change 202 = .ok (.ireturn, 1) := by decide +kernel
theorem dL_change_203 : decode cL_change 203 = .ok (.aload_n 0, 1) := by decide +kernel
theorem dL_change_204 : decode cL_change 204 = .ok (.iconst 3, 1) := by decide +kernel
theorem dL_change_205 : decode cL_change 205 = .ok (.iload_n 2, 1) := by decide +kernel
theorem dL_change_206 : decode cL_change 206 = .ok (.sipush 900, 3) := by decide +kernel
theorem dL_change_209 : decode cL_change 209 = .ok (.invokestatic 19, 3) := by decide +kernel
theorem dL_change_212 : decode cL_change 212 = .ok (.invokevirtual 36, 3) := by decide +kernel
theorem dL_change_215 : decode cL_change 215 = .ok (.ireturn, 1) := by decide +kernel
theorem dL_change_216 : decode cL_change 216 = .ok (.aload_n 0, 1) := by decide +kernel
theorem dL_change_217 : decode cL_change 217 = .ok (.iload_n 2, 1) := by decide +kernel
theorem dL_change_218 : decode cL_change 218 = .ok (.iconst 3, 1) := by decide +kernel
theorem dL_change_219 : decode cL_change 219 = .ok (.invokestatic 19, 3) := by decide +kernel
theorem dL_change_222 : decode cL_change 222 = .ok (.iload_n 2, 1) := by decide +kernel
theorem dL_change_223 : decode cL_change 223 = .ok (.iconst 2, 1) := by decide +kernel
theorem dL_change_224 : decode cL_change 224 = .ok (.ishr, 1) := by decide +kernel
theorem dL_change_225 : decode cL_change 225 = .ok (.iconst 4, 1) := by decide +kernel
theorem dL_change_226 : decode cL_change 226 = .ok (.invokestatic 19, 3) := by decide +kernel
theorem dL_change_229 : decode cL_change 229 = .ok (.ifCond .ne 8, 3) := by decide +kernel
theorem dL_change_232 : decode cL_change 232 = .ok (.ldc 39, 2) := by decide +kernel
theorem dL_change_234 : decode cL_change 234 = .ok (.goto 12, 3) := by decide +kernel
theorem dL_change_237 : decode cL_change 237 = .ok (.iload_n 2, 1) := by decide +kernel
theorem dL_change_238 : decode cL_change 238 = .ok (.iconst 4, 1) := by decide +kernel
theorem dL_change_239 : decode cL_change 239 = .ok (.ishr, 1) := by decide +kernel
theorem dL_change_240 : decode cL_change 240 = .ok (.sipush 2000, 3) := by decide +kernel
theorem dL_change_243 : decode cL_change 243 = .ok (.invokestatic 19, 3) := by decide +kernel
theorem dL_change_246 : decode cL_change 246 = .ok (.invokevirtual 40, 3) := by decide +kernel
theorem dL_change_249 : decode cL_change 249 = .ok (.ireturn, 1) := by decide +kernel
theorem dL_change_250 : decode cL_change 250 = .ok (.aload_n 0, 1) := by decide +kernel
theorem dL_change_251 : decode cL_change 251 = .ok (.iload 4, 2) := by decide +kernel
theorem dL_change_253 : decode cL_change 253 = .ok (.invokevirtual 43, 3) := by decide +kernel
theorem dL_change_256 : decode cL_change 256 = .ok (.ireturn, 1) := by decide +kernel
theorem dL_change_257 : decode cL_change 257 = .ok (.iload_n 3, 1) := by decide +kernel
theorem dL_change_258 : decode cL_change 258 = .ok (.ifCond .ne 7, 3) := by decide +kernel
theorem dL_change_261 : decode cL_change 261 = .ok (.iconst (-1), 1) := by decide +kernel
theorem dL_change_262 : decode cL_change 262 = .ok (.goto 14, 3) := by decide +kernel
theorem dL_change_265 : decode cL_change 265 = .ok (.aload_n 0, 1) := by decide +kernel
theorem dL_change_266 : decode cL_change 266 = .ok (.iload 4, 2) := by decide +kernel
theorem dL_change_268 : decode cL_change 268 = .ok (.iload_n 2, 1) := by decide +kernel
theorem dL_change_269 : decode cL_change 269 = .ok (.iload_n 3, 1) := by decide +kernel
theorem dL_change_270 : decode cL_change 270 = .ok (.invokestatic 19, 3) := by decide +kernel
theorem dL_change_273 : decode cL_change 273 = .ok (.invokevirtual 46, 3) := by decide +kernel
theorem dL_change_276 : decode cL_change 276 = .ok (.ireturn, 1) := by decide +kernel
theorem dL_change_277 : decode cL_change 277 = .ok (.aload_n 0, 1) := by decide +kernel
theorem dL_change_278 : decode cL_change 278 = .ok (.iload 4, 2) := by decide +kernel
theorem dL_change_280 : decode cL_change 280 = .ok (.iload_n 2, 1) := by decide +kernel
theorem dL_change_281 : decode cL_change 281 = .ok (.bipush 24, 2) := by decide +kernel
theorem dL_change_283 : decode cL_change 283 = .ok (.invokestatic 19, 3) := by decide +kernel
theorem dL_change_286 : decode cL_change 286 = .ok (.iload_n 2, 1) := by decide +kernel
theorem dL_change_287 : decode cL_change 287 = .ok (.iconst 5, 1) := by decide +kernel
theorem dL_change_288 : decode cL_change 288 = .ok (.ishr, 1) := by decide +kernel
theorem dL_change_289 : decode cL_change 289 = .ok (.bipush 6, 2) := by decide +kernel
theorem dL_change_291 : decode cL_change 291 = .ok (.invokestatic 19, 3) := by decide +kernel
theorem dL_change_294 : decode cL_change 294 = .ok (.ifCond .ne 8, 3) := by decide +kernel
theorem dL_change_297 : decode cL_change 297 = .ok (.ldc 39, 2) := by decide +kernel
theorem dL_change_299 : decode cL_change 299 = .ok (.goto 12, 3) := by decide +kernel
theorem dL_change_302 : decode cL_change 302 = .ok (.iload_n 2, 1) := by decide +kernel
theorem dL_change_303 : decode cL_change 303 = .ok (.bipush 8, 2) := by decide +kernel
theorem dL_change_305 : decode cL_change 305 = .ok (.ishr, 1) := by decide +kernel
theorem dL_change_306 : decode cL_change 306 = .ok (.bipush 10, 2) := by decide +kernel
theorem dL_change_308 : decode cL_change 308 = .ok (.invokestatic 19, 3) := by decide +kernel
theorem dL_change_311 : decode cL_change 311 = .ok (.invokevirtual 49, 3) := by decide +kernel
theorem dL_change_314 : decode cL_change 314 = .ok (.ireturn, 1) := by decide +kernel
theorem dL_change_315 : decode cL_change 315 = .ok (.aload_n 0, 1) := by decide +kernel
theorem dL_change_316 : decode cL_change 316 = .ok (.iload 4, 2) := by decide +kernel
theorem dL_change_318 : decode cL_change 318 = .ok (.iload_n 2, 1) := by decide +kernel
theorem dL_change_319 : decode cL_change 319 = .ok (.iconst 3, 1) := by decide +kernel
theorem dL_change_320 : decode cL_change 320 = .ok (.invokestatic 19, 3) := by decide +kernel
theorem dL_change_323 : decode cL_change 323 = .ok (.ifCond .le 7, 3) := by decide +kernel
theorem dL_change_326 : decode cL_change 326 = .ok (.iconst 0, 1) := by decide +kernel
theorem dL_change_327 : decode cL_change 327 = .ok (.goto 10, 3) := by decide +kernel
theorem dL_change_330 : decode cL_change 330 = .ok (.iload_n 2, 1) := by decide +kernel
theorem dL_change_331 : decode cL_change 331 = .ok (.iconst 2, 1) := by decide +kernel
theorem dL_change_332 : decode cL_change 332 = .ok (.ishr, 1) := by decide +kernel
theorem dL_change_333 : decode cL_change 333 = .ok (.iconst 4, 1) := by decide +kernel
theorem dL_change_334 : decode cL_change 334 = .ok (.invokestatic 19, 3) := by decide +kernel
theorem dL_change_337 : decode cL_change 337 = .ok (.iload_n 2, 1) := by decide +kernel
theorem dL_change_338 : decode cL_change 338 = .ok (.iconst 4, 1) := by decide +kernel
theorem dL_change_339 : decode cL_change 339 = .ok (.ishr, 1) := by decide +kernel
theorem dL_change_340 : decode cL_change 340 = .ok (.bipush 24, 2) := by decide +kernel
theorem dL_change_342 : decode cL_change 342 = .ok (.invokestatic 19, 3) := by decide +kernel
theorem dL_change_345 : decode cL_change 345 = .ok (.invokevirtual 52, 3) := by decide +kernel
theorem dL_change_348 : decode cL_change 348 = .ok (.ireturn, 1) := by decide +kernel
theorem dL_change_349 : decode cL_change 349 = .ok (.aload_n 0, 1) := by decide +kernel
theorem dL_change_350 : decode cL_change 350 = .ok (.iload_n 2, 1) := by decide +kernel
theorem dL_change_351 : decode cL_change 351 = .ok (.bipush 24, 2) := by decide +kernel
theorem dL_change_353 : decode cL_change 353 = .ok (.invokestatic 19, 3) := by decide +kernel
theorem dL_change_356 : decode cL_change 356 = .ok (.invokevirtual 55, 3) := by decide +kernel
theorem dL_change_359 : decode cL_change 359 = .ok (.ireturn, 1) := by decide +kernel
theorem dL_change_360 : decode cL_change 360 = .ok (.aload_n 0, 1) := by decide +kernel
theorem dL_change_361 : decode cL_change 361 = .ok (.iload_n 2, 1) := by decide +kernel
theorem dL_change_362 : decode cL_change 362 = .ok (.iconst 3, 1) := by decide +kernel
theorem dL_change_363 : decode cL_change 363 = .ok (.invokestatic 19, 3) := by decide +kernel
theorem dL_change_366 : decode cL_change 366 = .ok (.invokevirtual 58, 3) := by decide +kernel
theorem dL_change_369 : decode cL_change 369 = .ok (.ireturn, 1) := by decide +kernel
theorem dL_change_370 : decode cL_change 370 = .ok (.aload_n 0, 1) := by decide +kernel
theorem dL_change_371 : decode cL_change 371 = .ok (.invokevirtual 61, 3) := by decide +kernel
theorem dL_change_374 : decode cL_change 374 = .ok (.ireturn, 1) := by decide +kernel
theorem dL_change_375 : decode cL_change 375 = .ok (.aload_n 0, 1) := by decide +kernel
theorem dL_change_376 : decode cL_change 376 = .ok (.invokevirtual 64, 3) := by decide +kernel
theorem dL_change_379 : decode cL_change 379 = .ok (.ireturn, 1) := by decide +kernel
theorem dL_change_380 : decode cL_change 380 = .ok (.iload_n 2, 1) := by decide +kernel
theorem dL_change_381 : decode cL_change 381 = .ok (.iconst 2, 1) := by decide +kernel
theorem dL_change_382 : decode cL_change 382 = .ok (.invokestatic 19, 3) := by decide +kernel
theorem dL_change_385 : decode cL_change 385 = .ok (.ifCond .ne 17, 3) := by decide +kernel
theorem dL_change_388 : decode cL_change 388 = .ok (.aload_n 0, 1) := by decide +kernel
theorem dL_change_389 : decode cL_change 389 = .ok (.iload_n 2, 1) := by decide +kernel
theorem dL_change_390 : decode cL_change 390 = .ok (.iconst 1, 1) := by decide +kernel
theorem dL_change_391 : decode cL_change 391 = .ok (.ishr, 1) := by decide +kernel
theorem dL_change_392 : decode cL_change 392 = .ok (.iconst 2, 1) := by decide +kernel
theorem dL_change_393 : decode cL_change 393 = .ok (.invokestatic 19, 3) := by decide +kernel
theorem dL_change_396 : decode cL_change 396 = .ok (.invokevirtual 67, 3) := by decide +kernel
theorem dL_change_399 : decode cL_change 399 = .ok (.goto 14, 3) := by decide +kernel
theorem dL_change_402 : decode cL_change 402 = .ok (.aload_n 0, 1) := by decide +kernel
theorem dL_change_403 : decode cL_change 403 = .ok (.iload_n 2, 1) := by decide +kernel
theorem dL_change_404 : decode cL_change 404 = .ok (.iconst 1, 1) := by decide +kernel
theorem dL_change_405 : decode cL_change 405 = .ok (.ishr, 1) := by decide +kernel
theorem dL_change_406 : decode cL_change 406 = .ok (.iconst 2, 1) := by decide +kernel
theorem dL_change_407 : decode cL_change 407 = .ok (.invokestatic 19, 3) := by decide +kernel
theorem dL_change_410 : decode cL_change 410 = .ok (.invokevirtual 70, 3) := by decide +kernel
theorem dL_change_413 : decode cL_change 413 = .ok (.ireturn, 1) := by decide +kernel
theorem dL_change_414 : decode cL_change 414 = .ok (.aload_n 0, 1) := by decide +kernel
theorem dL_change_415 : decode cL_change 415 = .ok (.iload_n 2, 1) := by decide +kernel
theorem dL_change_416 : decode cL_change 416 = .ok (.invokestatic 73, 3) := by decide +kernel
theorem dL_change_419 : decode cL_change 419 = .ok (.istore 5, 2) := by decide +kernel
theorem dL_change_421 : decode cL_change 421 = .ok (.aload_n 0, 1) := by decide +kernel
theorem dL_change_422 : decode cL_change 422 = .ok (.iload_n 1, 1) := by decide +kernel
theorem dL_change_423 : decode cL_change 423 = .ok (.bipush 9, 2) := by decide +kernel
theorem dL_change_425 : decode cL_change 425 = .ok (.ishr, 1) := by decide +kernel
theorem dL_change_426 : decode cL_change 426 = .ok (.iload_n 3, 1) := by decide +kernel
theorem dL_change_427 : decode cL_change 427 = .ok (.iconst 1, 1) := by decide +kernel
theorem dL_change_428 : decode cL_change 428 = .ok (.iadd, 1) := by decide +kernel
theorem dL_change_429 : decode cL_change 429 = .ok (.invokestatic 19, 3) := by decide +kernel
theorem dL_change_432 : decode cL_change 432 = .ok (.invokevirtual 76, 3) := by decide +kernel
theorem dL_change_435 : decode cL_change 435 = .ok (.ireturn, 1) := by decide +kernel
theorem dL_isReport_0 : decode cL_isReport 0 = .ok (.aload_n 0, 1) := by decide +kernel
theorem dL_isReport_1 : decode cL_isReport 1 = .ok (.iconst 1, 1) := by decide +kernel
theorem dL_isReport_2 : decode cL_isReport 2 = .ok (.invokevirtual 29, 3) := by decide +kernel
theorem dL_isReport_5 : decode cL_isReport 5 = .ok (.istore_n 1, 1) := by decide +kernel
theorem dL_isReport_6 : decode cL_isReport 6 = .ok (.iload_n 1, 1) := by decide +kernel
theorem dL_isReport_7 : decode cL_isReport 7 = .ok (.ifCond .ne 45, 3) := by decide +kernel
theorem dL_isReport_10 : decode cL_isReport 10 = .ok (.aload_n 0, 1) := by decide +kernel
theorem dL_isReport_11 : decode cL_isReport 11 = .ok (.iconst 2, 1) := by decide +kernel
theorem dL_isReport_12 : decode cL_isReport 12 = .ok (.invokevirtual 29, 3) := by decide +kernel
theorem dL_isReport_15 : decode cL_isReport 15 = .ok (.ldc 39, 2) := by decide +kernel
theorem dL_isReport_17 : decode cL_isReport 17 = .ok (.if_icmp .ne 33, 3) := by decide +kernel
theorem dL_isReport_20 : decode cL_isReport 20 = .ok (.aload_n 0, 1) := by decide +kernel
theorem dL_isReport_21 : decode cL_isReport 21 = .ok (.invokevirtual 79, 3) := by decide +kernel
theorem dL_isReport_24 : decode cL_isReport 24 = .ok (.iconst 1, 1) := by decide +kernel
theorem dL_isReport_25 : decode cL_isReport 25 = .ok (.if_icmp .ne 25, 3) := by decide +kernel
theorem dL_isReport_28 : decode cL_isReport 28 = .ok (.aload_n 0, 1) := by decide +kernel
theorem dL_isReport_29 : decode cL_isReport 29 = .ok (.invokevirtual 82, 3) := by decide +kernel
theorem dL_isReport_32 : decode cL_isReport 32 = .ok (.fconst 0, 1) := by decide +kernel
theorem dL_isReport_33 : decode cL_isReport 33 = .ok (.fcmp .l, 1) := by decide +kernel
theorem dL_isReport_34 : decode cL_isReport 34 = .ok (.ifCond .ne 16, 3) := by decide +kernel
theorem dL_isReport_37 : decode cL_isReport 37 = .ok (.aload_n 0, 1) := by decide +kernel
theorem dL_isReport_38 : decode cL_isReport 38 = .ok (.iconst (-1), 1) := by decide +kernel
theorem dL_isReport_39 : decode cL_isReport 39 = .ok (.iconst 0, 1) := by decide +kernel
theorem dL_isReport_40 : decode cL_isReport 40 = .ok (.invokevirtual 86, 3) := by decide +kernel
theorem dL_isReport_43 : decode cL_isReport 43 = .ok (.ifCond .ne 7, 3) := by decide +kernel
theorem dL_isReport_46 : decode cL_isReport 46 = .ok (.iconst 1, 1) := by decide +kernel
theorem dL_isReport_47 : decode cL_isReport 47 = .ok (.goto 4, 3) := by decide +kernel
theorem dL_isReport_50 : decode cL_isReport 50 = .ok (.iconst 0, 1) := by decide +kernel
theorem dL_isReport_51 : decode cL_isReport 51 = .ok (.ireturn, 1) := by decide +kernel
theorem dL_isReport_52 : decode cL_isReport 52 = .ok (.bipush 20, 2) := by decide +kernel
theorem dL_isReport_54 : decode cL_isReport 54 = .ok (.newarray .int, 2) := by decide +kernel
theorem dL_isReport_56 : decode cL_isReport 56 = .ok (.astore_n 2, 1) := by decide +kernel
theorem dL_isReport_57 : decode cL_isReport 57 = .ok (.iconst 0, 1) := by decide +kernel
theorem dL_isReport_58 : decode cL_isReport 58 = .ok (.istore_n 3, 1) := by decide +kernel
theorem dL_isReport_59 : decode cL_isReport 59 = .ok (.iconst 0, 1) := by decide +kernel
theorem dL_isReport_60 : decode cL_isReport 60 = .ok (.istore 4, 2) := by decide +kernel
theorem dL_isReport_62 : decode cL_isReport 62 = .ok (.iload 4, 2) := by decide +kernel
theorem dL_isReport_64 : decode cL_isReport 64 = .ok (.iload_n 1, 1) := by decide +kernel
theorem dL_isReport_65 : decode cL_isReport 65 = .ok (.if_icmp .ge 330, 3) := by decide +kernel
theorem dL_isReport_68 : decode cL_isReport 68 = .ok (.aload_n 0, 1) := by decide +kernel
theorem dL_isReport_69 : decode cL_isReport 69 = .ok (.iload 4, 2) := by decide +kernel
theorem dL_isReport_71 : decode cL_isReport 71 = .ok (.iconst 0, 1) := by decide +kernel
theorem dL_isReport_72 : decode cL_isReport 72 = .ok (.invokevirtual 89, 3) := by decide +kernel
theorem dL_isReport_75 : decode cL_isReport 75 = .ok (.istore 5, 2) := by decide +kernel
theorem dL_isReport_77 : decode cL_isReport 77 = .ok (.iload 5, 2) := by decide +kernel
theorem dL_isReport_79 : decode cL_isReport 79 = .ok (.ifCond .ne 46, 3) := by decide +kernel
theorem dL_isReport_82 : decode cL_isReport 82 = .ok (.iload_n 3, 1) := by decide +kernel
theorem dL_isReport_83 : decode cL_isReport 83 = .ok (.iconst 1, 1) := by decide +kernel
theorem dL_isReport_84 : decode cL_isReport 84 = .ok (.iadd, 1) := by decide +kernel
theorem dL_isReport_85 : decode cL_isReport 85 = .ok (.istore_n 3, 1) := by decide +kernel
theorem dL_isReport_86 : decode cL_isReport 86 = .ok (.aload_n 0, 1) := by decide +kernel
theorem dL_isReport_87 : decode cL_isReport 87 = .ok (.iload 4, 2) := by decide +kernel
theorem dL_isReport_89 : decode cL_isReport 89 = .ok (.iconst 4, 1) := by decide +kernel
theorem dL_isReport_90 : decode cL_isReport 90 = .ok (.invokevirtual 89, 3) := by decide +kernel
theorem dL_isReport_93 : decode cL_isReport 93 = .ok (.iconst 1, 1) := by decide +kernel
theorem dL_isReport_94 : decode cL_isReport 94 = .ok (.if_icmp .ne 29, 3) := by decide +kernel
theorem dL_isReport_97 : decode cL_isReport 97 = .ok (.aload_n 0, 1) := by decide +kernel
theorem dL_isReport_98 : decode cL_isReport 98 = .ok (.iload 4, 2) := by decide +kernel
theorem dL_isReport_100 : decode cL_isReport 100 = .ok (.bipush 7, 2) := by decide +kernel
theorem dL_isReport_102 : decode cL_isReport 102 = .ok (.invokevirtual 89, 3) := by decide +kernel
theorem dL_isReport_105 : decode cL_isReport 105 = .ok (.ifCond .ne 18, 3) := by decide +kernel
theorem dL_isReport_108 : decode cL_isReport 108 = .ok (.aload_n 0, 1) := by decide +kernel
theorem dL_isReport_109 : decode cL_isReport 109 = .ok (.aload_n 0, 1) := by decide +kernel
theorem dL_isReport_110 : decode cL_isReport 110 = .ok (.iload 4, 2) := by decide +kernel
theorem dL_isReport_112 : decode cL_isReport 112 = .ok (.bipush 8, 2) := by decide +kernel
theorem dL_isReport_114 : decode cL_isReport 114 = .ok (.invokevirtual 89, 3) := by decide +kernel
theorem dL_isReport_117 : decode cL_isReport 117 = .ok (.invokevirtual 92, 3) := by decide +kernel
theorem dL_isReport_120 : decode cL_isReport 120 = .ok (.ifCond .eq 225, 3) := by decide +kernel
theorem dL_isReport_123 : decode cL_isReport 123 = .ok (.iconst 0, 1) := by decide +kernel
theorem dL_isReport_124 : decode cL_isReport 124 = .ok (.ireturn, 1) := by decide +kernel
theorem dL_isReport_125 : decode cL_isReport 125 = .ok (.iload 5, 2) := by decide +kernel
theorem dL_isReport_127 : decode cL_isReport 127 = .ok (.iconst 1, 1) := by decide +kernel
theorem dL_isReport_128 : decode cL_isReport 128 = .ok (.if_icmp .ne 14, 3) := by decide +kernel
theorem dL_isReport_131 : decode cL_isReport 131 = .ok (.aload_n 0, 1) := by decide +kernel
theorem dL_isReport_132 : decode cL_isReport 132 = .ok (.iload 4, 2) := by decide +kernel
theorem dL_isReport_134 : decode cL_isReport 134 = .ok (.bipush 7, 2) := by decide +kernel
theorem dL_isReport_136 : decode cL_isReport 136 = .ok (.invokevirtual 89, 3) := by decide +kernel
theorem dL_isReport_139 : decode cL_isReport 139 = .ok (.goto 4, 3) := by decide +kernel
theorem dL_isReport_142 : decode cL_isReport 142 = .ok (.iconst 0, 1) := by decide +kernel
theorem dL_isReport_143 : decode cL_isReport 143 = .ok (.istore 6, 2) := by decide +kernel
theorem dL_isReport_145 : decode cL_isReport 145 = .ok (.aload_n 0, 1) := by decide +kernel
theorem dL_isReport_146 : decode cL_isReport 146 = .ok (.iload 4, 2) := by decide +kernel
theorem dL_isReport_148 : decode cL_isReport 148 = .ok (.iconst 4, 1) := by decide +kernel
theorem dL_isReport_149 : decode cL_isReport 149 = .ok (.invokevirtual 89, 3) := by decide +kernel
theorem dL_isReport_152 : decode cL_isReport 152 = .ok (.aload_n 2, 1) := by decide +kernel
theorem dL_isReport_153 : decode cL_isReport 153 = .ok (.iconst 4, 1) := by decide +kernel
theorem dL_isReport_154 : decode cL_isReport 154 = .ok (.iload 5, 2) := by decide +kernel
theorem dL_isReport_156 : decode cL_isReport 156 = .ok (.imul, 1) := by decide +kernel
theorem dL_isReport_157 : decode cL_isReport 157 = .ok (.iconst 4, 1) := by decide +kernel
theorem dL_isReport_158 : decode cL_isReport 158 = .ok (.isub, 1) := by decide +kernel
theorem dL_isReport_159 : decode cL_isReport 159 = .ok (.iaload, 1) := by decide +kernel
theorem dL_isReport_160 : decode cL_isReport 160 = .ok (.if_icmp .ne 85, 3) := by decide +kernel
theorem dL_isReport_163 : decode cL_isReport 163 = .ok (.aload_n 0, 1) := by decide +kernel
theorem dL_isReport_164 : decode cL_isReport 164 = .ok (.iload 4, 2) := by decide +kernel
theorem dL_isReport_166 : decode cL_isReport 166 = .ok (.iconst 5, 1) := by decide +kernel
theorem dL_isReport_167 : decode cL_isReport 167 = .ok (.invokevirtual 89, 3) := by decide +kernel
theorem dL_isReport_170 : decode cL_isReport 170 = .ok (.aload_n 2, 1) := by decide +kernel
theorem dL_isReport_171 : decode cL_isReport 171 = .ok (.iconst 4, 1) := by decide +kernel
theorem dL_isReport_172 : decode cL_isReport 172 = .ok (.iload 5, 2) := by decide +kernel
theorem dL_isReport_174 : decode cL_isReport 174 = .ok (.imul, 1) := by decide +kernel
theorem dL_isReport_175 : decode cL_isReport 175 = .ok (.iconst 3, 1) := by decide +kernel
theorem dL_isReport_176 : decode cL_isReport 176 = .ok (.isub, 1) := by decide +kernel
theorem dL_isReport_177 : decode cL_isReport 177 = .ok (.iaload, 1) := by decide +kernel
theorem dL_isReport_178 : decode cL_isReport 178 = .ok (.if_icmp .ne 67, 3) := by decide +kernel
theorem dL_isReport_181 : decode cL_isReport 181 = .ok (.aload_n 0, 1) := by decide +kernel
theorem dL_isReport_182 : decode cL_isReport 182 = .ok (.iload 4, 2) := by decide +kernel
theorem dL_isReport_184 : decode cL_isReport 184 = .ok (.bipush 6, 2) := by decide +kernel
theorem dL_isReport_186 : decode cL_isReport 186 = .ok (.invokevirtual 89, 3) := by decide +kernel
theorem dL_isReport_189 : decode cL_isReport 189 = .ok (.aload_n 2, 1) := by decide +kernel
theorem dL_isReport_190 : decode cL_isReport 190 = .ok (.iconst 4, 1) := by decide +kernel
theorem dL_isReport_191 : decode cL_isReport 191 = .ok (.iload 5, 2) := by decide +kernel
theorem dL_isReport_193 : decode cL_isReport 193 = .ok (.imul, 1) := by decide +kernel
theorem dL_isReport_194 : decode cL_isReport 194 = .ok (.iconst 2, 1) := by decide +kernel
theorem dL_isReport_195 : decode cL_isReport 195 = .ok (.isub, 1) := by decide +kernel
theorem dL_isReport_196 : decode cL_isReport 196 = .ok (.iaload, 1) := by decide +kernel
theorem dL_isReport_197 : decode cL_isReport 197 = .ok (.iload 6, 2) := by decide +kernel
theorem dL_isReport_199 : decode cL_isReport 199 = .ok (.iadd, 1) := by decide +kernel
theorem dL_isReport_200 : decode cL_isReport 200 = .ok (.if_icmp .ne 45, 3) := by decide +kernel
theorem dL_isReport_203 : decode cL_isReport 203 = .ok (.iload 5, 2) := by decide +kernel
theorem dL_isReport_205 : decode cL_isReport 205 = .ok (.iconst 1, 1) := by decide +kernel
theorem dL_isReport_206 : decode cL_isReport 206 = .ok (.if_icmp .eq 22, 3) := by decide +kernel
theorem dL_isReport_209 : decode cL_isReport 209 = .ok (.aload_n 0, 1) := by decide +kernel
theorem dL_isReport_210 : decode cL_isReport 210 = .ok (.iload 4, 2) := by decide +kernel
theorem dL_isReport_212 : decode cL_isReport 212 = .ok (.bipush 7, 2) := by decide +kernel
theorem dL_isReport_214 : decode cL_isReport 214 = .ok (.invokevirtual 89, 3) := by decide +kernel
theorem dL_isReport_217 : decode cL_isReport 217 = .ok (.aload_n 2, 1) := by decide +kernel
theorem dL_isReport_218 : decode cL_isReport 218 = .ok (.iconst 4, 1) := by decide +kernel
theorem dL_isReport_219 : decode cL_isReport 219 = .ok (.iload 5, 2) := by decide +kernel
theorem dL_isReport_221 : decode cL_isReport 221 = .ok (.imul, 1) := by decide +kernel
theorem dL_isReport_222 : decode cL_isReport 222 = .ok (.iconst 1, 1) := by decide +kernel
theorem dL_isReport_223 : decode cL_isReport 223 = .ok (.isub, 1) := by decide +kernel
theorem dL_isReport_224 : decode cL_isReport 224 = .ok (.iaload, 1) := by decide +kernel
theorem dL_isReport_225 : decode cL_isReport 225 = .ok (.if_icmp .ne 20, 3) := by decide +kernel
theorem dL_isReport_228 : decode cL_isReport 228 = .ok (.aload_n 0, 1) := by decide +kernel
theorem dL_isReport_229 : decode cL_isReport 229 = .ok (.iload 4, 2) := by decide +kernel
theorem dL_isReport_231 : decode cL_isReport 231 = .ok (.bipush 8, 2) := by decide +kernel
theorem dL_isReport_233 : decode cL_isReport 233 = .ok (.invokevirtual 89, 3) := by decide +kernel
theorem dL_isReport_236 : decode cL_isReport 236 = .ok (.ldc 39, 2) := by decide +kernel
theorem dL_isReport_238 : decode cL_isReport 238 = .ok (.if_icmp .ne 7, 3) := by decide +kernel
theorem dL_isReport_241 : decode cL_isReport 241 = .ok (.iconst 1, 1) := by decide +kernel
theorem dL_isReport_242 : decode cL_isReport 242 = .ok (.goto 4, 3) := by decide +kernel
theorem dL_isReport_245 : decode cL_isReport 245 = .ok (.iconst 0, 1) := by decide +kernel
theorem dL_isReport_246 : decode cL_isReport 246 = .ok (.istore 7, 2) := by decide +kernel
theorem dL_isReport_248 : decode cL_isReport 248 = .ok (.iload 7, 2) := by decide +kernel
theorem dL_isReport_250 : decode cL_isReport 250 = .ok (.ifCond .eq 65, 3) := by decide +kernel
theorem dL_isReport_253 : decode cL_isReport 253 = .ok (.aload_n 0, 1) := by decide +kernel
theorem dL_isReport_254 : decode cL_isReport 254 = .ok (.iload 4, 2) := by decide +kernel
theorem dL_isReport_256 : decode cL_isReport 256 = .ok (.iconst 3, 1) := by decide +kernel
theorem dL_isReport_257 : decode cL_isReport 257 = .ok (.invokevirtual 89, 3) := by decide +kernel
theorem dL_isReport_260 : decode cL_isReport 260 = .ok (.ldc 39, 2) := by decide +kernel
theorem dL_isReport_262 : decode cL_isReport 262 = .ok (.if_icmp .ne 7, 3) := by decide +kernel
theorem dL_isReport_265 : decode cL_isReport 265 = .ok (.iconst 1, 1) := by decide +kernel
theorem dL_isReport_266 : decode cL_isReport 266 = .ok (.goto 4, 3) := by decide +kernel
theorem dL_isReport_269 : decode cL_isReport 269 = .ok (.iconst 0, 1) := by decide +kernel
theorem dL_isReport_270 : decode cL_isReport 270 = .ok (.iload 5, 2) := by decide +kernel
theorem dL_isReport_272 : decode cL_isReport 272 = .ok (.iconst 1, 1) := by decide +kernel
theorem dL_isReport_273 : decode cL_isReport 273 = .ok (.if_icmp .le 7, 3) := by decide +kernel
theorem dL_isReport_276 : decode cL_isReport 276 = .ok (.iconst 1, 1) := by decide +kernel
theorem dL_isReport_277 : decode cL_isReport 277 = .ok (.goto 4, 3) := by decide +kernel
theorem dL_isReport_280 : decode cL_isReport 280 = .ok (.iconst 0, 1) := by decide +kernel
theorem dL_isReport_281 : decode cL_isReport 281 = .ok (.if_icmp .ne 34, 3) := by decide +kernel
theorem dL_isReport_284 : decode cL_isReport 284 = .ok (.aload_n 0, 1) := by decide +kernel
theorem dL_isReport_285 : decode cL_isReport 285 = .ok (.iload 4, 2) := by decide +kernel
theorem dL_isReport_287 : decode cL_isReport 287 = .ok (.iconst 1, 1) := by decide +kernel
theorem dL_isReport_288 : decode cL_isReport 288 = .ok (.invokevirtual 89, 3) := by decide +kernel
theorem dL_isReport_291 : decode cL_isReport 291 = .ok (.ldc 39, 2) := by decide +kernel
theorem dL_isReport_293 : decode cL_isReport 293 = .ok (.if_icmp .ne 7, 3) := by decide +kernel
theorem dL_isReport_296 : decode cL_isReport 296 = .ok (.iconst 1, 1) := by decide +kernel
theorem dL_isReport_297 : decode cL_isReport 297 = .ok (.goto 4, 3) := by decide +kernel
theorem dL_isReport_300 : decode cL_isReport 300 = .ok (.iconst 0, 1) := by decide +kernel
theorem dL_isReport_301 : decode cL_isReport 301 = .ok (.iload 5, 2) := by decide +kernel
theorem dL_isReport_303 : decode cL_isReport 303 = .ok (.iconst 3, 1) := by decide +kernel
theorem dL_isReport_304 : decode cL_isReport 304 = .ok (.if_icmp .le 7, 3) := by decide +kernel
theorem dL_isReport_307 : decode cL_isReport 307 = .ok (.iconst 1, 1) := by decide +kernel
theorem dL_isReport_308 : decode cL_isReport 308 = .ok (.goto 4, 3) := by decide +kernel
theorem dL_isReport_311 : decode cL_isReport 311 = .ok (.iconst 0, 1) := by decide +kernel
theorem dL_isReport_312 : decode cL_isReport 312 = .ok (.if_icmp .eq 5, 3) := by decide +kernel
theorem dL_isReport_315 : decode cL_isReport 315 = .ok (.iconst 0, 1) := by decide +kernel
theorem dL_isReport_316 : decode cL_isReport 316 = .ok (.ireturn, 1) := by decide +kernel
theorem dL_isReport_317 : decode cL_isReport 317 = .ok (.iconst 4, 1) := by decide +kernel
theorem dL_isReport_318 : decode cL_isReport 318 = .ok (.iload 5, 2) := by decide +kernel
theorem dL_isReport_320 : decode cL_isReport 320 = .ok (.imul, 1) := by decide +kernel
theorem dL_isReport_321 : decode cL_isReport 321 = .ok (.iconst 4, 1) := by decide +kernel
theorem dL_isReport_322 : decode cL_isReport 322 = .ok (.isub, 1) := by decide +kernel
theorem dL_isReport_323 : decode cL_isReport 323 = .ok (.istore 8, 2) := by decide +kernel
theorem dL_isReport_325 : decode cL_isReport 325 = .ok (.iload 8, 2) := by decide +kernel
theorem dL_isReport_327 : decode cL_isReport 327 = .ok (.iconst 4, 1) := by decide +kernel
theorem dL_isReport_328 : decode cL_isReport 328 = .ok (.iload 5, 2) := by decide +kernel
theorem dL_isReport_330 : decode cL_isReport 330 = .ok (.imul, 1) := by decide +kernel
theorem dL_isReport_331 : decode cL_isReport 331 = .ok (.if_icmp .ge 14, 3) := by decide +kernel
theorem dL_isReport_334 : decode cL_isReport 334 = .ok (.aload_n 2, 1) := by decide +kernel
theorem dL_isReport_335 : decode cL_isReport 335 = .ok (.iload 8, 2) := by decide +kernel
theorem dL_isReport_337 : decode cL_isReport 337 = .ok (.iconst 0, 1) := by decide +kernel
theorem dL_isReport_338 : decode cL_isReport 338 = .ok (.iastore, 1) := by decide +kernel
theorem dL_isReport_339 : decode cL_isReport 339 = .ok (.iinc 8 1, 3) := by decide +kernel
theorem dL_isReport_342 : decode cL_isReport 342 = .ok (.goto (-17), 3) := by decide +kernel
theorem dL_isReport_345 : decode cL_isReport 345 = .ok (.iconst 0, 1) := by decide +kernel
theorem dL_isReport_346 : decode cL_isReport 346 = .ok (.istore 6, 2) := by decide +kernel
theorem dL_isReport_348 : decode cL_isReport 348 = .ok (.iload 6, 2) := by decide +kernel
theorem dL_isReport_350 : decode cL_isReport 350 = .ok (.iconst 4, 1) := by decide +kernel
theorem dL_isReport_351 : decode cL_isReport 351 = .ok (.if_icmp .ge 38, 3) := by decide +kernel
theorem dL_isReport_354 : decode cL_isReport 354 = .ok (.aload_n 2, 1) := by decide +kernel
theorem dL_isReport_355 : decode cL_isReport 355 = .ok (.iconst 4, 1) := by decide +kernel
theorem dL_isReport_356 : decode cL_isReport 356 = .ok (.iload 5, 2) := by decide +kernel
theorem dL_isReport_358 : decode cL_isReport 358 = .ok (.imul, 1) := by decide +kernel
theorem dL_isReport_359 : decode cL_isReport 359 = .ok (.iload 6, 2) := by decide +kernel
theorem dL_isReport_361 : decode cL_isReport 361 = .ok (.iadd, 1) := by decide +kernel
theorem dL_isReport_362 : decode cL_isReport 362 = .ok (.aload_n 2, 1) := by decide +kernel
theorem dL_isReport_363 : decode cL_isReport 363 = .ok (.iconst 4, 1) := by decide +kernel
theorem dL_isReport_364 : decode cL_isReport 364 = .ok (.iload 5, 2) := by decide +kernel
theorem dL_isReport_366 : decode cL_isReport 366 = .ok (.imul, 1) := by decide +kernel
theorem dL_isReport_367 : decode cL_isReport 367 = .ok (.iload 6, 2) := by decide +kernel
theorem dL_isReport_369 : decode cL_isReport 369 = .ok (.iadd, 1) := by decide +kernel
theorem dL_isReport_370 : decode cL_isReport 370 = .ok (.iaload, 1) := by decide +kernel
theorem dL_isReport_371 : decode cL_isReport 371 = .ok (.aload_n 0, 1) := by decide +kernel
theorem dL_isReport_372 : decode cL_isReport 372 = .ok (.iload 4, 2) := by decide +kernel
theorem dL_isReport_374 : decode cL_isReport 374 = .ok (.iconst 4, 1) := by decide +kernel
theorem dL_isReport_375 : decode cL_isReport 375 = .ok (.iload 6, 2) := by decide +kernel
theorem dL_isReport_377 : decode cL_isReport 377 = .ok (.iadd, 1) := by decide +kernel
theorem dL_isReport_378 : decode cL_isReport 378 = .ok (.invokevirtual 89, 3) := by decide +kernel
theorem dL_isReport_381 : decode cL_isReport 381 = .ok (.iadd, 1) := by decide +kernel
theorem dL_isReport_382 : decode cL_isReport 382 = .ok (.iastore, 1) := by decide +kernel
theorem dL_isReport_383 : decode cL_isReport 383 = .ok (.iinc 6 1, 3) := by decide +kernel
theorem dL_isReport_386 : decode cL_isReport 386 = .ok (.goto (-38), 3) := by decide +kernel
theorem dL_isReport_389 : decode cL_isReport 389 = .ok (.iinc 4 1, 3) := by decide +kernel
theorem dL_isReport_392 : decode cL_isReport 392 = .ok (.goto (-330), 3) := by decide +kernel
theorem dL_isReport_395 : decode cL_isReport 395 = .ok (.iload_n 1, 1) := by decide +kernel
theorem dL_isReport_396 : decode cL_isReport 396 = .ok (.iconst 1, 1) := by decide +kernel
theorem dL_isReport_397 : decode cL_isReport 397 = .ok (.isub, 1) := by decide +kernel
theorem dL_isReport_398 : decode cL_isReport 398 = .ok (.istore 4, 2) := by decide +kernel
theorem dL_isReport_400 : decode cL_isReport 400 = .ok (.iload_n 3, 1) := by decide +kernel
theorem dL_isReport_401 : decode cL_isReport 401 = .ok (.aload_n 0, 1) := by decide +kernel
theorem dL_isReport_402 : decode cL_isReport 402 = .ok (.iconst 2, 1) := by decide +kernel
theorem dL_isReport_403 : decode cL_isReport 403 = .ok (.invokevirtual 29, 3) := by decide +kernel
theorem dL_isReport_406 : decode cL_isReport 406 = .ok (.if_icmp .ne 86, 3) := by decide +kernel
theorem dL_isReport_409 : decode cL_isReport 409 = .ok (.aload_n 0, 1) := by decide +kernel
theorem dL_isReport_410 : decode cL_isReport 410 = .ok (.iload 4, 2) := by decide +kernel
theorem dL_isReport_412 : decode cL_isReport 412 = .ok (.iconst 0, 1) := by decide +kernel
theorem dL_isReport_413 : decode cL_isReport 413 = .ok (.invokevirtual 89, 3) := by decide +kernel
theorem dL_isReport_416 : decode cL_isReport 416 = .ok (.iconst 4, 1) := by decide +kernel
theorem dL_isReport_417 : decode cL_isReport 417 = .ok (.if_icmp .ne 75, 3) := by decide +kernel
theorem dL_isReport_420 : decode cL_isReport 420 = .ok (.aload_n 0, 1) := by decide +kernel
theorem dL_isReport_421 : decode cL_isReport 421 = .ok (.iload 4, 2) := by decide +kernel
theorem dL_isReport_423 : decode cL_isReport 423 = .ok (.iconst 4, 1) := by decide +kernel
theorem dL_isReport_424 : decode cL_isReport 424 = .ok (.invokevirtual 89, 3) := by decide +kernel
theorem dL_isReport_427 : decode cL_isReport 427 = .ok (.iload_n 3, 1) := by decide +kernel
theorem dL_isReport_428 : decode cL_isReport 428 = .ok (.if_icmp .ne 64, 3) := by decide +kernel
theorem dL_isReport_431 : decode cL_isReport 431 = .ok (.aload_n 2, 1) := by decide +kernel
theorem dL_isReport_432 : decode cL_isReport 432 = .ok (.iconst 0, 1) := by decide +kernel
theorem dL_isReport_433 : decode cL_isReport 433 = .ok (.iaload, 1) := by decide +kernel
theorem dL_isReport_434 : decode cL_isReport 434 = .ok (.aload_n 2, 1) := by decide +kernel
theorem dL_isReport_435 : decode cL_isReport 435 = .ok (.iconst 4, 1) := by decide +kernel
theorem dL_isReport_436 : decode cL_isReport 436 = .ok (.iaload, 1) := by decide +kernel
theorem dL_isReport_437 : decode cL_isReport 437 = .ok (.iadd, 1) := by decide +kernel
theorem dL_isReport_438 : decode cL_isReport 438 = .ok (.aload_n 2, 1) := by decide +kernel
theorem dL_isReport_439 : decode cL_isReport 439 = .ok (.bipush 8, 2) := by decide +kernel
theorem dL_isReport_441 : decode cL_isReport 441 = .ok (.iaload, 1) := by decide +kernel
theorem dL_isReport_442 : decode cL_isReport 442 = .ok (.iadd, 1) := by decide +kernel
theorem dL_isReport_443 : decode cL_isReport 443 = .ok (.aload_n 2, 1) := by decide +kernel
theorem dL_isReport_444 : decode cL_isReport 444 = .ok (.bipush 12, 2) := by decide +kernel
theorem dL_isReport_446 : decode cL_isReport 446 = .ok (.iaload, 1) := by decide +kernel
theorem dL_isReport_447 : decode cL_isReport 447 = .ok (.iadd, 1) := by decide +kernel
theorem dL_isReport_448 : decode cL_isReport 448 = .ok (.ifCond .ne 44, 3) := by decide +kernel
theorem dL_isReport_451 : decode cL_isReport 451 = .ok (.aload_n 0, 1) := by decide +kernel
theorem dL_isReport_452 : decode cL_isReport 452 = .ok (.iconst (-1), 1) := by decide +kernel
theorem dL_isReport_453 : decode cL_isReport 453 = .ok (.iconst 0, 1) := by decide +kernel
theorem dL_isReport_454 : decode cL_isReport 454 = .ok (.invokevirtual 86, 3) := by decide +kernel
theorem dL_isReport_457 : decode cL_isReport 457 = .ok (.iload_n 3, 1) := by decide +kernel
theorem dL_isReport_458 : decode cL_isReport 458 = .ok (.if_icmp .ne 34, 3) := by decide +kernel
theorem dL_isReport_461 : decode cL_isReport 461 = .ok (.aload_n 0, 1) := by decide +kernel
theorem dL_isReport_462 : decode cL_isReport 462 = .ok (.iconst (-1), 1) := by decide +kernel
theorem dL_isReport_463 : decode cL_isReport 463 = .ok (.iconst 1, 1) := by decide +kernel
theorem dL_isReport_464 : decode cL_isReport 464 = .ok (.invokevirtual 86, 3) := by decide +kernel
theorem dL_isReport_467 : decode cL_isReport 467 = .ok (.aload_n 0, 1) := by decide +kernel
theorem dL_isReport_468 : decode cL_isReport 468 = .ok (.iload 4, 2) := by decide +kernel
theorem dL_isReport_470 : decode cL_isReport 470 = .ok (.iconst 5, 1) := by decide +kernel
theorem dL_isReport_471 : decode cL_isReport 471 = .ok (.invokevirtual 89, 3) := by decide +kernel
theorem dL_isReport_474 : decode cL_isReport 474 = .ok (.if_icmp .ne 18, 3) := by decide +kernel
theorem dL_isReport_477 : decode cL_isReport 477 = .ok (.aload_n 0, 1) := by decide +kernel
theorem dL_isReport_478 : decode cL_isReport 478 = .ok (.iload_n 1, 1) := by decide +kernel
theorem dL_isReport_479 : decode cL_isReport 479 = .ok (.iconst 0, 1) := by decide +kernel
theorem dL_isReport_480 : decode cL_isReport 480 = .ok (.invokevirtual 89, 3) := by decide +kernel
theorem dL_isReport_483 : decode cL_isReport 483 = .ok (.ldc 95, 2) := by decide +kernel
theorem dL_isReport_485 : decode cL_isReport 485 = .ok (.if_icmp .ne 7, 3) := by decide +kernel
theorem dL_isReport_488 : decode cL_isReport 488 = .ok (.iconst 1, 1) := by decide +kernel
theorem dL_isReport_489 : decode cL_isReport 489 = .ok (.goto 4, 3) := by decide +kernel
theorem dL_isReport_492 : decode cL_isReport 492 = .ok (.iconst 0, 1) := by decide +kernel
theorem dL_isReport_493 : decode cL_isReport 493 = .ok (.ireturn, 1) := by decide +kernel
theorem dL_isAgain_0 : decode cL_isAgain 0 = .ok (.iconst 0, 1) := by decide +kernel
theorem dL_isAgain_1 : decode cL_isAgain 1 = .ok (.istore_n 1, 1) := by decide +kernel
theorem dL_isAgain_2 : decode cL_isAgain 2 = .ok (.iconst 0, 1) := by decide +kernel
theorem dL_isAgain_3 : decode cL_isAgain 3 = .ok (.istore_n 2, 1) := by decide +kernel
theorem dL_isAgain_4 : decode cL_isAgain 4 = .ok (.iconst 0, 1) := by decide +kernel
theorem dL_isAgain_5 : decode cL_isAgain 5 = .ok (.istore_n 3, 1) := by decide +kernel
theorem dL_isAgain_6 : decode cL_isAgain 6 = .ok (.aload_n 0, 1) := by decide +kernel
theorem dL_isAgain_7 : decode cL_isAgain 7 = .ok (.iload_n 3, 1) := by decide +kernel
theorem dL_isAgain_8 : decode cL_isAgain 8 = .ok (.iconst 0, 1) := by decide +kernel
theorem dL_isAgain_9 : decode cL_isAgain 9 = .ok (.invokevirtual 96, 3) := by decide +kernel
theorem dL_isAgain_12 : decode cL_isAgain 12 = .ok (.ldc 39, 2) := by decide +kernel
theorem dL_isAgain_14 : decode cL_isAgain 14 = .ok (.if_icmp .eq 38, 3) := by decide +kernel
theorem dL_isAgain_17 : decode cL_isAgain 17 = .ok (.aload_n 0, 1) := by decide +kernel
theorem dL_isAgain_18 : decode cL_isAgain 18 = .ok (.iload_n 3, 1) := by decide +kernel
theorem dL_isAgain_19 : decode cL_isAgain 19 = .ok (.iconst 3, 1) := by decide +kernel
theorem dL_isAgain_20 : decode cL_isAgain 20 = .ok (.invokevirtual 96, 3) := by decide +kernel
theorem dL_isAgain_23 : decode cL_isAgain 23 = .ok (.istore 4, 2) := by decide +kernel
theorem dL_isAgain_25 : decode cL_isAgain 25 = .ok (.iload_n 1, 1) := by decide +kernel
theorem dL_isAgain_26 : decode cL_isAgain 26 = .ok (.iload 4, 2) := by decide +kernel
theorem dL_isAgain_28 : decode cL_isAgain 28 = .ok (.iadd, 1) := by decide +kernel
theorem dL_isAgain_29 : decode cL_isAgain 29 = .ok (.istore_n 1, 1) := by decide +kernel
theorem dL_isAgain_30 : decode cL_isAgain 30 = .ok (.iload_n 3, 1) := by decide +kernel
theorem dL_isAgain_31 : decode cL_isAgain 31 = .ok (.ifCond .le 11, 3) := by decide +kernel
theorem dL_isAgain_34 : decode cL_isAgain 34 = .ok (.iload 4, 2) := by decide +kernel
theorem dL_isAgain_36 : decode cL_isAgain 36 = .ok (.iload_n 2, 1) := by decide +kernel
theorem dL_isAgain_37 : decode cL_isAgain 37 = .ok (.if_icmp .le 5, 3) := by decide +kernel
theorem dL_isAgain_40 : decode cL_isAgain 40 = .ok (.iconst 0, 1) := by decide +kernel
theorem dL_isAgain_41 : decode cL_isAgain 41 = .ok (.ireturn, 1) := by decide +kernel
theorem dL_isAgain_42 : decode cL_isAgain 42 = .ok (.iload 4, 2) := by decide +kernel
theorem dL_isAgain_44 : decode cL_isAgain 44 = .ok (.istore_n 2, 1) := by decide +kernel
theorem dL_isAgain_45 : decode cL_isAgain 45 = .ok (.iload_n 3, 1) := by decide +kernel
theorem dL_isAgain_46 : decode cL_isAgain 46 = .ok (.iconst 1, 1) := by decide +kernel
theorem dL_isAgain_47 : decode cL_isAgain 47 = .ok (.iadd, 1) := by decide +kernel
theorem dL_isAgain_48 : decode cL_isAgain 48 = .ok (.istore_n 3, 1) := by decide +kernel
theorem dL_isAgain_49 : decode cL_isAgain 49 = .ok (.goto (-43), 3) := by decide +kernel
theorem dL_isAgain_52 : decode cL_isAgain 52 = .ok (.iconst 0, 1) := by decide +kernel
theorem dL_isAgain_53 : decode cL_isAgain 53 = .ok (.istore 4, 2) := by decide +kernel
theorem dL_isAgain_55 : decode cL_isAgain 55 = .ok (.iconst 0, 1) := by decide +kernel
theorem dL_isAgain_56 : decode cL_isAgain 56 = .ok (.istore 5, 2) := by decide +kernel
theorem dL_isAgain_58 : decode cL_isAgain 58 = .ok (.iload 5, 2) := by decide +kernel
theorem dL_isAgain_60 : decode cL_isAgain 60 = .ok (.sipush 1000, 3) := by decide +kernel
theorem dL_isAgain_63 : decode cL_isAgain 63 = .ok (.if_icmp .ge 32, 3) := by decide +kernel
theorem dL_isAgain_66 : decode cL_isAgain 66 = .ok (.iload 4, 2) := by decide +kernel
theorem dL_isAgain_68 : decode cL_isAgain 68 = .ok (.aload_n 0, 1) := by decide +kernel
theorem dL_isAgain_69 : decode cL_isAgain 69 = .ok (.iconst (-1), 1) := by decide +kernel
theorem dL_isAgain_70 : decode cL_isAgain 70 = .ok (.iconst 0, 1) := by decide +kernel
theorem dL_isAgain_71 : decode cL_isAgain 71 = .ok (.invokevirtual 86, 3) := by decide +kernel
theorem dL_isAgain_74 : decode cL_isAgain 74 = .ok (.if_icmp .ge 21, 3) := by decide +kernel
theorem dL_isAgain_77 : decode cL_isAgain 77 = .ok (.iload 4, 2) := by decide +kernel
theorem dL_isAgain_79 : decode cL_isAgain 79 = .ok (.aload_n 0, 1) := by decide +kernel
theorem dL_isAgain_80 : decode cL_isAgain 80 = .ok (.iload 5, 2) := by decide +kernel
theorem dL_isAgain_82 : decode cL_isAgain 82 = .ok (.iconst 0, 1) := by decide +kernel
theorem dL_isAgain_83 : decode cL_isAgain 83 = .ok (.invokevirtual 86, 3) := by decide +kernel
theorem dL_isAgain_86 : decode cL_isAgain 86 = .ok (.iadd, 1) := by decide +kernel
theorem dL_isAgain_87 : decode cL_isAgain 87 = .ok (.istore 4, 2) := by decide +kernel
theorem dL_isAgain_89 : decode cL_isAgain 89 = .ok (.iinc 5 1, 3) := by decide +kernel
theorem dL_isAgain_92 : decode cL_isAgain 92 = .ok (.goto (-34), 3) := by decide +kernel
theorem dL_isAgain_95 : decode cL_isAgain 95 = .ok (.aload_n 0, 1) := by decide +kernel
theorem dL_isAgain_96 : decode cL_isAgain 96 = .ok (.iconst 1, 1) := by decide +kernel
theorem dL_isAgain_97 : decode cL_isAgain 97 = .ok (.invokevirtual 29, 3) := by decide +kernel
theorem dL_isAgain_100 : decode cL_isAgain 100 = .ok (.istore 5, 2) := by decide +kernel
theorem dL_isAgain_102 : decode cL_isAgain 102 = .ok (.iload_n 3, 1) := by decide +kernel
theorem dL_isAgain_103 : decode cL_isAgain 103 = .ok (.aload_n 0, 1) := by decide +kernel
theorem dL_isAgain_104 : decode cL_isAgain 104 = .ok (.iconst (-1), 1) := by decide +kernel
theorem dL_isAgain_105 : decode cL_isAgain 105 = .ok (.iconst 4, 1) := by decide +kernel
theorem dL_isAgain_106 : decode cL_isAgain 106 = .ok (.invokevirtual 86, 3) := by decide +kernel
theorem dL_isAgain_109 : decode cL_isAgain 109 = .ok (.if_icmp .ne 38, 3) := by decide +kernel
theorem dL_isAgain_112 : decode cL_isAgain 112 = .ok (.iload_n 1, 1) := by decide +kernel
theorem dL_isAgain_113 : decode cL_isAgain 113 = .ok (.aload_n 0, 1) := by decide +kernel
theorem dL_isAgain_114 : decode cL_isAgain 114 = .ok (.iconst (-1), 1) := by decide +kernel
theorem dL_isAgain_115 : decode cL_isAgain 115 = .ok (.iconst 2, 1) := by decide +kernel
theorem dL_isAgain_116 : decode cL_isAgain 116 = .ok (.invokevirtual 86, 3) := by decide +kernel
theorem dL_isAgain_119 : decode cL_isAgain 119 = .ok (.if_icmp .ne 28, 3) := by decide +kernel
theorem dL_isAgain_122 : decode cL_isAgain 122 = .ok (.iload 4, 2) := by decide +kernel
theorem dL_isAgain_124 : decode cL_isAgain 124 = .ok (.aload_n 0, 1) := by decide +kernel
theorem dL_isAgain_125 : decode cL_isAgain 125 = .ok (.iconst (-1), 1) := by decide +kernel
theorem dL_isAgain_126 : decode cL_isAgain 126 = .ok (.iconst 0, 1) := by decide +kernel
theorem dL_isAgain_127 : decode cL_isAgain 127 = .ok (.invokevirtual 86, 3) := by decide +kernel
theorem dL_isAgain_130 : decode cL_isAgain 130 = .ok (.if_icmp .gt 17, 3) := by decide +kernel
theorem dL_isAgain_133 : decode cL_isAgain 133 = .ok (.aload_n 0, 1) := by decide +kernel
theorem dL_isAgain_134 : decode cL_isAgain 134 = .ok (.iconst (-1), 1) := by decide +kernel
theorem dL_isAgain_135 : decode cL_isAgain 135 = .ok (.iconst 3, 1) := by decide +kernel
theorem dL_isAgain_136 : decode cL_isAgain 136 = .ok (.invokevirtual 86, 3) := by decide +kernel
theorem dL_isAgain_139 : decode cL_isAgain 139 = .ok (.iload_n 1, 1) := by decide +kernel
theorem dL_isAgain_140 : decode cL_isAgain 140 = .ok (.if_icmp .gt 7, 3) := by decide +kernel
theorem dL_isAgain_143 : decode cL_isAgain 143 = .ok (.iconst 1, 1) := by decide +kernel
theorem dL_isAgain_144 : decode cL_isAgain 144 = .ok (.goto 4, 3) := by decide +kernel
theorem dL_isAgain_147 : decode cL_isAgain 147 = .ok (.iconst 0, 1) := by decide +kernel
theorem dL_isAgain_148 : decode cL_isAgain 148 = .ok (.istore 6, 2) := by decide +kernel
theorem dL_isAgain_150 : decode cL_isAgain 150 = .ok (.iconst 0, 1) := by decide +kernel
theorem dL_isAgain_151 : decode cL_isAgain 151 = .ok (.istore 7, 2) := by decide +kernel
theorem dL_isAgain_153 : decode cL_isAgain 153 = .ok (.iload 7, 2) := by decide +kernel
theorem dL_isAgain_155 : decode cL_isAgain 155 = .ok (.iconst 2, 1) := by decide +kernel
theorem dL_isAgain_156 : decode cL_isAgain 156 = .ok (.if_icmp .ge 93, 3) := by decide +kernel
theorem dL_isAgain_159 : decode cL_isAgain 159 = .ok (.iload 5, 2) := by decide +kernel
theorem dL_isAgain_161 : decode cL_isAgain 161 = .ok (.ifCond .le 88, 3) := by decide +kernel
theorem dL_isAgain_164 : decode cL_isAgain 164 = .ok (.aload_n 0, 1) := by decide +kernel
theorem dL_isAgain_165 : decode cL_isAgain 165 = .ok (.iload 7, 2) := by decide +kernel
theorem dL_isAgain_167 : decode cL_isAgain 167 = .ok (.invokevirtual 99, 3) := by decide +kernel
theorem dL_isAgain_170 : decode cL_isAgain 170 = .ok (.istore 8, 2) := by decide +kernel
theorem dL_isAgain_172 : decode cL_isAgain 172 = .ok (.iload 6, 2) := by decide +kernel
theorem dL_isAgain_174 : decode cL_isAgain 174 = .ok (.ifCond .eq 66, 3) := by decide +kernel
theorem dL_isAgain_177 : decode cL_isAgain 177 = .ok (.iload 8, 2) := by decide +kernel
theorem dL_isAgain_179 : decode cL_isAgain 179 = .ok (.ldc 39, 2) := by decide +kernel
theorem dL_isAgain_181 : decode cL_isAgain 181 = .ok (.if_icmp .eq 55, 3) := by decide +kernel
theorem dL_isAgain_184 : decode cL_isAgain 184 = .ok (.aload_n 0, 1) := by decide +kernel
theorem dL_isAgain_185 : decode cL_isAgain 185 = .ok (.iload 7, 2) := by decide +kernel
theorem dL_isAgain_187 : decode cL_isAgain 187 = .ok (.aload_n 0, 1) := by decide +kernel
theorem dL_isAgain_188 : decode cL_isAgain 188 = .ok (.iload 5, 2) := by decide +kernel
theorem dL_isAgain_190 : decode cL_isAgain 190 = .ok (.iconst 1, 1) := by decide +kernel
theorem dL_isAgain_191 : decode cL_isAgain 191 = .ok (.isub, 1) := by decide +kernel
theorem dL_isAgain_192 : decode cL_isAgain 192 = .ok (.iconst 4, 1) := by decide +kernel
theorem dL_isAgain_193 : decode cL_isAgain 193 = .ok (.iload 7, 2) := by decide +kernel
theorem dL_isAgain_195 : decode cL_isAgain 195 = .ok (.iadd, 1) := by decide +kernel
theorem dL_isAgain_196 : decode cL_isAgain 196 = .ok (.invokevirtual 89, 3) := by decide +kernel
theorem dL_isAgain_199 : decode cL_isAgain 199 = .ok (.invokevirtual 40, 3) := by decide +kernel
theorem dL_isAgain_202 : decode cL_isAgain 202 = .ok (.aload_n 0, 1) := by decide +kernel
theorem dL_isAgain_203 : decode cL_isAgain 203 = .ok (.iload 5, 2) := by decide +kernel
theorem dL_isAgain_205 : decode cL_isAgain 205 = .ok (.iconst 1, 1) := by decide +kernel
theorem dL_isAgain_206 : decode cL_isAgain 206 = .ok (.isub, 1) := by decide +kernel
theorem dL_isAgain_207 : decode cL_isAgain 207 = .ok (.iconst 4, 1) := by decide +kernel
theorem dL_isAgain_208 : decode cL_isAgain 208 = .ok (.iload 7, 2) := by decide +kernel
theorem dL_isAgain_210 : decode cL_isAgain 210 = .ok (.iadd, 1) := by decide +kernel
theorem dL_isAgain_211 : decode cL_isAgain 211 = .ok (.invokevirtual 89, 3) := by decide +kernel
theorem dL_isAgain_214 : decode cL_isAgain 214 = .ok (.iload 8, 2) := by decide +kernel
theorem dL_isAgain_216 : decode cL_isAgain 216 = .ok (.isub, 1) := by decide +kernel
theorem dL_isAgain_217 : decode cL_isAgain 217 = .ok (.if_icmp .ne 23, 3) := by decide +kernel
theorem dL_isAgain_220 : decode cL_isAgain 220 = .ok (.aload_n 0, 1) := by decide +kernel
theorem dL_isAgain_221 : decode cL_isAgain 221 = .ok (.iload 7, 2) := by decide +kernel
theorem dL_isAgain_223 : decode cL_isAgain 223 = .ok (.invokevirtual 99, 3) := by decide +kernel
theorem dL_isAgain_226 : decode cL_isAgain 226 = .ok (.ifCond .ne 14, 3) := by decide +kernel
theorem dL_isAgain_229 : decode cL_isAgain 229 = .ok (.aload_n 0, 1) := by decide +kernel
theorem dL_isAgain_230 : decode cL_isAgain 230 = .ok (.invokevirtual 64, 3) := by decide +kernel
theorem dL_isAgain_233 : decode cL_isAgain 233 = .ok (.ifCond .lt 7, 3) := by decide +kernel
theorem dL_isAgain_236 : decode cL_isAgain 236 = .ok (.iconst 1, 1) := by decide +kernel
theorem dL_isAgain_237 : decode cL_isAgain 237 = .ok (.goto 4, 3) := by decide +kernel
theorem dL_isAgain_240 : decode cL_isAgain 240 = .ok (.iconst 0, 1) := by decide +kernel
theorem dL_isAgain_241 : decode cL_isAgain 241 = .ok (.istore 6, 2) := by decide +kernel
theorem dL_isAgain_243 : decode cL_isAgain 243 = .ok (.iinc 7 1, 3) := by decide +kernel
theorem dL_isAgain_246 : decode cL_isAgain 246 = .ok (.goto (-93), 3) := by decide +kernel
theorem dL_isAgain_249 : decode cL_isAgain 249 = .ok (.iload 6, 2) := by decide +kernel
theorem dL_isAgain_251 : decode cL_isAgain 251 = .ok (.ireturn, 1) := by decide +kernel
theorem dL_isSorted_0 : decode cL_isSorted 0 = .ok (.aload_n 0, 1) := by decide +kernel
theorem dL_isSorted_1 : decode cL_isSorted 1 = .ok (.invokevirtual 102, 3) := by decide +kernel
theorem dL_isSorted_4 : decode cL_isSorted 4 = .ok (.istore_n 1, 1) := by decide +kernel
theorem dL_isSorted_5 : decode cL_isSorted 5 = .ok (.aload_n 0, 1) := by decide +kernel
theorem dL_isSorted_6 : decode cL_isSorted 6 = .ok (.iconst 2, 1) := by decide +kernel
theorem dL_isSorted_7 : decode cL_isSorted 7 = .ok (.invokevirtual 58, 3) := by decide +kernel
theorem dL_isSorted_10 : decode cL_isSorted 10 = .ok (.aload_n 0, 1) := by decide +kernel
theorem dL_isSorted_11 : decode cL_isSorted 11 = .ok (.iconst 1, 1) := by decide +kernel
theorem dL_isSorted_12 : decode cL_isSorted 12 = .ok (.invokevirtual 58, 3) := by decide +kernel
theorem dL_isSorted_15 : decode cL_isSorted 15 = .ok (.iadd, 1) := by decide +kernel
theorem dL_isSorted_16 : decode cL_isSorted 16 = .ok (.aload_n 0, 1) := by decide +kernel
theorem dL_isSorted_17 : decode cL_isSorted 17 = .ok (.iconst 0, 1) := by decide +kernel
theorem dL_isSorted_18 : decode cL_isSorted 18 = .ok (.invokevirtual 58, 3) := by decide +kernel
theorem dL_isSorted_21 : decode cL_isSorted 21 = .ok (.iadd, 1) := by decide +kernel
theorem dL_isSorted_22 : decode cL_isSorted 22 = .ok (.istore_n 2, 1) := by decide +kernel
theorem dL_isSorted_23 : decode cL_isSorted 23 = .ok (.aload_n 0, 1) := by decide +kernel
theorem dL_isSorted_24 : decode cL_isSorted 24 = .ok (.iconst 4, 1) := by decide +kernel
theorem dL_isSorted_25 : decode cL_isSorted 25 = .ok (.invokevirtual 29, 3) := by decide +kernel
theorem dL_isSorted_28 : decode cL_isSorted 28 = .ok (.iconst 1, 1) := by decide +kernel
theorem dL_isSorted_29 : decode cL_isSorted 29 = .ok (.if_icmp .ne 7, 3) := by decide +kernel
theorem dL_isSorted_32 : decode cL_isSorted 32 = .ok (.iconst 1, 1) := by decide +kernel
theorem dL_isSorted_33 : decode cL_isSorted 33 = .ok (.goto 4, 3) := by decide +kernel
theorem dL_isSorted_36 : decode cL_isSorted 36 = .ok (.iconst 0, 1) := by decide +kernel
theorem dL_isSorted_37 : decode cL_isSorted 37 = .ok (.istore_n 3, 1) := by decide +kernel
theorem dL_isSorted_38 : decode cL_isSorted 38 = .ok (.iload_n 1, 1) := by decide +kernel
theorem dL_isSorted_39 : decode cL_isSorted 39 = .ok (.ifCond .ge 7, 3) := by decide +kernel
theorem dL_isSorted_42 : decode cL_isSorted 42 = .ok (.iload_n 3, 1) := by decide +kernel
theorem dL_isSorted_43 : decode cL_isSorted 43 = .ok (.ifCond .ne 11, 3) := by decide +kernel
theorem dL_isSorted_46 : decode cL_isSorted 46 = .ok (.iload_n 2, 1) := by decide +kernel
theorem dL_isSorted_47 : decode cL_isSorted 47 = .ok (.ifCond .lt 7, 3) := by decide +kernel
theorem dL_isSorted_50 : decode cL_isSorted 50 = .ok (.iconst 1, 1) := by decide +kernel
theorem dL_isSorted_51 : decode cL_isSorted 51 = .ok (.goto 4, 3) := by decide +kernel
theorem dL_isSorted_54 : decode cL_isSorted 54 = .ok (.iconst 0, 1) := by decide +kernel
theorem dL_isSorted_55 : decode cL_isSorted 55 = .ok (.istore 4, 2) := by decide +kernel
theorem dL_isSorted_57 : decode cL_isSorted 57 = .ok (.aload_n 0, 1) := by decide +kernel
theorem dL_isSorted_58 : decode cL_isSorted 58 = .ok (.invokevirtual 64, 3) := by decide +kernel
theorem dL_isSorted_61 : decode cL_isSorted 61 = .ok (.ifCond .lt 52, 3) := by decide +kernel
theorem dL_isSorted_64 : decode cL_isSorted 64 = .ok (.aload_n 0, 1) := by decide +kernel
theorem dL_isSorted_65 : decode cL_isSorted 65 = .ok (.invokevirtual 64, 3) := by decide +kernel
theorem dL_isSorted_68 : decode cL_isSorted 68 = .ok (.ifCond .lt 45, 3) := by decide +kernel
theorem dL_isSorted_71 : decode cL_isSorted 71 = .ok (.aload_n 0, 1) := by decide +kernel
theorem dL_isSorted_72 : decode cL_isSorted 72 = .ok (.invokevirtual 64, 3) := by decide +kernel
theorem dL_isSorted_75 : decode cL_isSorted 75 = .ok (.ifCond .lt 38, 3) := by decide +kernel
theorem dL_isSorted_78 : decode cL_isSorted 78 = .ok (.iload 4, 2) := by decide +kernel
theorem dL_isSorted_80 : decode cL_isSorted 80 = .ok (.ifCond .eq 33, 3) := by decide +kernel
theorem dL_isSorted_83 : decode cL_isSorted 83 = .ok (.iload_n 1, 1) := by decide +kernel
theorem dL_isSorted_84 : decode cL_isSorted 84 = .ok (.ifCond .ne 7, 3) := by decide +kernel
theorem dL_isSorted_87 : decode cL_isSorted 87 = .ok (.iconst 1, 1) := by decide +kernel
theorem dL_isSorted_88 : decode cL_isSorted 88 = .ok (.goto 4, 3) := by decide +kernel
theorem dL_isSorted_91 : decode cL_isSorted 91 = .ok (.iconst 0, 1) := by decide +kernel
theorem dL_isSorted_92 : decode cL_isSorted 92 = .ok (.aload_n 0, 1) := by decide +kernel
theorem dL_isSorted_93 : decode cL_isSorted 93 = .ok (.iconst 4, 1) := by decide +kernel
theorem dL_isSorted_94 : decode cL_isSorted 94 = .ok (.invokevirtual 29, 3) := by decide +kernel
theorem dL_isSorted_97 : decode cL_isSorted 97 = .ok (.iconst 1, 1) := by decide +kernel
theorem dL_isSorted_98 : decode cL_isSorted 98 = .ok (.if_icmp .ne 7, 3) := by decide +kernel
theorem dL_isSorted_101 : decode cL_isSorted 101 = .ok (.iconst 1, 1) := by decide +kernel
theorem dL_isSorted_102 : decode cL_isSorted 102 = .ok (.goto 4, 3) := by decide +kernel
theorem dL_isSorted_105 : decode cL_isSorted 105 = .ok (.iconst 0, 1) := by decide +kernel
theorem dL_isSorted_106 : decode cL_isSorted 106 = .ok (.if_icmp .ne 7, 3) := by decide +kernel
theorem dL_isSorted_109 : decode cL_isSorted 109 = .ok (.iconst 1, 1) := by decide +kernel
theorem dL_isSorted_110 : decode cL_isSorted 110 = .ok (.goto 4, 3) := by decide +kernel
theorem dL_isSorted_113 : decode cL_isSorted 113 = .ok (.iconst 0, 1) := by decide +kernel
theorem dL_isSorted_114 : decode cL_isSorted 114 = .ok (.ireturn, 1) := by decide +kernel
theorem dL_isAccepted_0 : decode cL_isAccepted 0 = .ok (.aload_n 0, 1) := by decide +kernel
theorem dL_isAccepted_1 : decode cL_isAccepted 1 = .ok (.iload_n 1, 1) := by decide +kernel
theorem dL_isAccepted_2 : decode cL_isAccepted 2 = .ok (.invokevirtual 105, 3) := by decide +kernel
theorem dL_isAccepted_5 : decode cL_isAccepted 5 = .ok (.istore_n 2, 1) := by decide +kernel
theorem dL_isAccepted_6 : decode cL_isAccepted 6 = .ok (.aload_n 0, 1) := by decide +kernel
theorem dL_isAccepted_7 : decode cL_isAccepted 7 = .ok (.iconst 0, 1) := by decide +kernel
theorem dL_isAccepted_8 : decode cL_isAccepted 8 = .ok (.invokevirtual 105, 3) := by decide +kernel
theorem dL_isAccepted_11 : decode cL_isAccepted 11 = .ok (.istore_n 3, 1) := by decide +kernel
theorem dL_isAccepted_12 : decode cL_isAccepted 12 = .ok (.aload_n 0, 1) := by decide +kernel
theorem dL_isAccepted_13 : decode cL_isAccepted 13 = .ok (.iconst 0, 1) := by decide +kernel
theorem dL_isAccepted_14 : decode cL_isAccepted 14 = .ok (.iload_n 1, 1) := by decide +kernel
theorem dL_isAccepted_15 : decode cL_isAccepted 15 = .ok (.invokevirtual 36, 3) := by decide +kernel
theorem dL_isAccepted_18 : decode cL_isAccepted 18 = .ok (.istore 4, 2) := by decide +kernel
theorem dL_isAccepted_20 : decode cL_isAccepted 20 = .ok (.aload_n 0, 1) := by decide +kernel
theorem dL_isAccepted_21 : decode cL_isAccepted 21 = .ok (.invokevirtual 61, 3) := by decide +kernel
theorem dL_isAccepted_24 : decode cL_isAccepted 24 = .ok (.istore 5, 2) := by decide +kernel
theorem dL_isAccepted_26 : decode cL_isAccepted 26 = .ok (.iconst 0, 1) := by decide +kernel
theorem dL_isAccepted_27 : decode cL_isAccepted 27 = .ok (.istore 6, 2) := by decide +kernel
theorem dL_isAccepted_29 : decode cL_isAccepted 29 = .ok (.iconst 0, 1) := by decide +kernel
theorem dL_isAccepted_30 : decode cL_isAccepted 30 = .ok (.istore 7, 2) := by decide +kernel
theorem dL_isAccepted_32 : decode cL_isAccepted 32 = .ok (.iconst 0, 1) := by decide +kernel
theorem dL_isAccepted_33 : decode cL_isAccepted 33 = .ok (.istore 8, 2) := by decide +kernel
theorem dL_isAccepted_35 : decode cL_isAccepted 35 = .ok (.iload 8, 2) := by decide +kernel
theorem dL_isAccepted_37 : decode cL_isAccepted 37 = .ok (.aload_n 0, 1) := by decide +kernel
theorem dL_isAccepted_38 : decode cL_isAccepted 38 = .ok (.iconst 0, 1) := by decide +kernel
theorem dL_isAccepted_39 : decode cL_isAccepted 39 = .ok (.invokevirtual 29, 3) := by decide +kernel
theorem dL_isAccepted_42 : decode cL_isAccepted 42 = .ok (.if_icmp .ge 109, 3) := by decide +kernel
theorem dL_isAccepted_45 : decode cL_isAccepted 45 = .ok (.aload_n 0, 1) := by decide +kernel
theorem dL_isAccepted_46 : decode cL_isAccepted 46 = .ok (.iload 8, 2) := by decide +kernel
theorem dL_isAccepted_48 : decode cL_isAccepted 48 = .ok (.invokevirtual 92, 3) := by decide +kernel
theorem dL_isAccepted_51 : decode cL_isAccepted 51 = .ok (.istore 9, 2) := by decide +kernel
theorem dL_isAccepted_53 : decode cL_isAccepted 53 = .ok (.aload_n 0, 1) := by decide +kernel
theorem dL_isAccepted_54 : decode cL_isAccepted 54 = .ok (.iload 8, 2) := by decide +kernel
theorem dL_isAccepted_56 : decode cL_isAccepted 56 = .ok (.bipush 9, 2) := by decide +kernel
theorem dL_isAccepted_58 : decode cL_isAccepted 58 = .ok (.invokevirtual 108, 3) := by decide +kernel
theorem dL_isAccepted_61 : decode cL_isAccepted 61 = .ok (.istore 10, 2) := by decide +kernel
theorem dL_isAccepted_63 : decode cL_isAccepted 63 = .ok (.iload 9, 2) := by decide +kernel
theorem dL_isAccepted_65 : decode cL_isAccepted 65 = .ok (.ifCond .ne 10, 3) := by decide +kernel
theorem dL_isAccepted_68 : decode cL_isAccepted 68 = .ok (.iload 6, 2) := by decide +kernel
theorem dL_isAccepted_70 : decode cL_isAccepted 70 = .ok (.iconst 1, 1) := by decide +kernel
theorem dL_isAccepted_71 : decode cL_isAccepted 71 = .ok (.iadd, 1) := by decide +kernel
theorem dL_isAccepted_72 : decode cL_isAccepted 72 = .ok (.goto 5, 3) := by decide +kernel
theorem dL_isAccepted_75 : decode cL_isAccepted 75 = .ok (.iload 6, 2) := by decide +kernel
theorem dL_isAccepted_77 : decode cL_isAccepted 77 = .ok (.istore 6, 2) := by decide +kernel
theorem dL_isAccepted_79 : decode cL_isAccepted 79 = .ok (.iload 9, 2) := by decide +kernel
theorem dL_isAccepted_81 : decode cL_isAccepted 81 = .ok (.ifCond .le 17, 3) := by decide +kernel
theorem dL_isAccepted_84 : decode cL_isAccepted 84 = .ok (.iload 9, 2) := by decide +kernel
theorem dL_isAccepted_86 : decode cL_isAccepted 86 = .ok (.bipush 6, 2) := by decide +kernel
theorem dL_isAccepted_88 : decode cL_isAccepted 88 = .ok (.if_icmp .ge 10, 3) := by decide +kernel
theorem dL_isAccepted_91 : decode cL_isAccepted 91 = .ok (.iload 7, 2) := by decide +kernel
theorem dL_isAccepted_93 : decode cL_isAccepted 93 = .ok (.iconst 1, 1) := by decide +kernel
theorem dL_isAccepted_94 : decode cL_isAccepted 94 = .ok (.iadd, 1) := by decide +kernel
theorem dL_isAccepted_95 : decode cL_isAccepted 95 = .ok (.goto 5, 3) := by decide +kernel
theorem dL_isAccepted_98 : decode cL_isAccepted 98 = .ok (.iload 7, 2) := by decide +kernel
theorem dL_isAccepted_100 : decode cL_isAccepted 100 = .ok (.istore 7, 2) := by decide +kernel
theorem dL_isAccepted_102 : decode cL_isAccepted 102 = .ok (.iload 9, 2) := by decide +kernel
theorem dL_isAccepted_104 : decode cL_isAccepted 104 = .ok (.iconst 5, 1) := by decide +kernel
theorem dL_isAccepted_105 : decode cL_isAccepted 105 = .ok (.if_icmp .ge 10, 3) := by decide +kernel
theorem dL_isAccepted_108 : decode cL_isAccepted 108 = .ok (.iload 9, 2) := by decide +kernel
theorem dL_isAccepted_110 : decode cL_isAccepted 110 = .ok (.iload 10, 2) := by decide +kernel
theorem dL_isAccepted_112 : decode cL_isAccepted 112 = .ok (.if_icmp .ne 31, 3) := by decide +kernel
theorem dL_isAccepted_115 : decode cL_isAccepted 115 = .ok (.iload 9, 2) := by decide +kernel
theorem dL_isAccepted_117 : decode cL_isAccepted 117 = .ok (.iconst 5, 1) := by decide +kernel
theorem dL_isAccepted_118 : decode cL_isAccepted 118 = .ok (.if_icmp .ne 13, 3) := by decide +kernel
theorem dL_isAccepted_121 : decode cL_isAccepted 121 = .ok (.iload 10, 2) := by decide +kernel
theorem dL_isAccepted_123 : decode cL_isAccepted 123 = .ok (.ifCond .ne 20, 3) := by decide +kernel
theorem dL_isAccepted_126 : decode cL_isAccepted 126 = .ok (.iload_n 1, 1) := by decide +kernel
theorem dL_isAccepted_127 : decode cL_isAccepted 127 = .ok (.iconst 1, 1) := by decide +kernel
theorem dL_isAccepted_128 : decode cL_isAccepted 128 = .ok (.if_icmp .ne 15, 3) := by decide +kernel
theorem dL_isAccepted_131 : decode cL_isAccepted 131 = .ok (.iload 9, 2) := by decide +kernel
theorem dL_isAccepted_133 : decode cL_isAccepted 133 = .ok (.bipush 6, 2) := by decide +kernel
theorem dL_isAccepted_135 : decode cL_isAccepted 135 = .ok (.if_icmp .ne 10, 3) := by decide +kernel
theorem dL_isAccepted_138 : decode cL_isAccepted 138 = .ok (.iload_n 1, 1) := by decide +kernel
theorem dL_isAccepted_139 : decode cL_isAccepted 139 = .ok (.iconst 2, 1) := by decide +kernel
theorem dL_isAccepted_140 : decode cL_isAccepted 140 = .ok (.if_icmp .eq 5, 3) := by decide +kernel
theorem dL_isAccepted_143 : decode cL_isAccepted 143 = .ok (.iconst 0, 1) := by decide +kernel
theorem dL_isAccepted_144 : decode cL_isAccepted 144 = .ok (.ireturn, 1) := by decide +kernel
theorem dL_isAccepted_145 : decode cL_isAccepted 145 = .ok (.iinc 8 1, 3) := by decide +kernel
theorem dL_isAccepted_148 : decode cL_isAccepted 148 = .ok (.goto (-113), 3) := by decide +kernel
theorem dL_isAccepted_151 : decode cL_isAccepted 151 = .ok (.iload 5, 2) := by decide +kernel
theorem dL_isAccepted_153 : decode cL_isAccepted 153 = .ok (.iload_n 2, 1) := by decide +kernel
theorem dL_isAccepted_154 : decode cL_isAccepted 154 = .ok (.if_icmp .ne 50, 3) := by decide +kernel
theorem dL_isAccepted_157 : decode cL_isAccepted 157 = .ok (.iload 6, 2) := by decide +kernel
theorem dL_isAccepted_159 : decode cL_isAccepted 159 = .ok (.iload 5, 2) := by decide +kernel
theorem dL_isAccepted_161 : decode cL_isAccepted 161 = .ok (.if_icmp .ne 43, 3) := by decide +kernel
theorem dL_isAccepted_164 : decode cL_isAccepted 164 = .ok (.iload 7, 2) := by decide +kernel
theorem dL_isAccepted_166 : decode cL_isAccepted 166 = .ok (.aload_n 0, 1) := by decide +kernel
theorem dL_isAccepted_167 : decode cL_isAccepted 167 = .ok (.iconst 3, 1) := by decide +kernel
theorem dL_isAccepted_168 : decode cL_isAccepted 168 = .ok (.invokevirtual 29, 3) := by decide +kernel
theorem dL_isAccepted_171 : decode cL_isAccepted 171 = .ok (.if_icmp .ne 33, 3) := by decide +kernel
theorem dL_isAccepted_174 : decode cL_isAccepted 174 = .ok (.iload_n 2, 1) := by decide +kernel
theorem dL_isAccepted_175 : decode cL_isAccepted 175 = .ok (.iload_n 3, 1) := by decide +kernel
theorem dL_isAccepted_176 : decode cL_isAccepted 176 = .ok (.if_icmp .gt 28, 3) := by decide +kernel
theorem dL_isAccepted_179 : decode cL_isAccepted 179 = .ok (.iload_n 1, 1) := by decide +kernel
theorem dL_isAccepted_180 : decode cL_isAccepted 180 = .ok (.iconst 1, 1) := by decide +kernel
theorem dL_isAccepted_181 : decode cL_isAccepted 181 = .ok (.if_icmp .ne 19, 3) := by decide +kernel
theorem dL_isAccepted_184 : decode cL_isAccepted 184 = .ok (.aload_n 0, 1) := by decide +kernel
theorem dL_isAccepted_185 : decode cL_isAccepted 185 = .ok (.iconst 3, 1) := by decide +kernel
theorem dL_isAccepted_186 : decode cL_isAccepted 186 = .ok (.invokevirtual 29, 3) := by decide +kernel
theorem dL_isAccepted_189 : decode cL_isAccepted 189 = .ok (.aload_n 0, 1) := by decide +kernel
theorem dL_isAccepted_190 : decode cL_isAccepted 190 = .ok (.iconst 0, 1) := by decide +kernel
theorem dL_isAccepted_191 : decode cL_isAccepted 191 = .ok (.invokevirtual 29, 3) := by decide +kernel
theorem dL_isAccepted_194 : decode cL_isAccepted 194 = .ok (.iload 6, 2) := by decide +kernel
theorem dL_isAccepted_196 : decode cL_isAccepted 196 = .ok (.isub, 1) := by decide +kernel
theorem dL_isAccepted_197 : decode cL_isAccepted 197 = .ok (.if_icmp .ne 7, 3) := by decide +kernel
theorem dL_isAccepted_200 : decode cL_isAccepted 200 = .ok (.iconst 1, 1) := by decide +kernel
theorem dL_isAccepted_201 : decode cL_isAccepted 201 = .ok (.goto 4, 3) := by decide +kernel
theorem dL_isAccepted_204 : decode cL_isAccepted 204 = .ok (.iconst 0, 1) := by decide +kernel
theorem dL_isAccepted_205 : decode cL_isAccepted 205 = .ok (.istore 8, 2) := by decide +kernel
theorem dL_isAccepted_207 : decode cL_isAccepted 207 = .ok (.aload_n 0, 1) := by decide +kernel
theorem dL_isAccepted_208 : decode cL_isAccepted 208 = .ok (.invokevirtual 64, 3) := by decide +kernel
theorem dL_isAccepted_211 : decode cL_isAccepted 211 = .ok (.ifCond .lt 29, 3) := by decide +kernel
theorem dL_isAccepted_214 : decode cL_isAccepted 214 = .ok (.aload_n 0, 1) := by decide +kernel
theorem dL_isAccepted_215 : decode cL_isAccepted 215 = .ok (.invokevirtual 64, 3) := by decide +kernel
theorem dL_isAccepted_218 : decode cL_isAccepted 218 = .ok (.ifCond .lt 22, 3) := by decide +kernel
theorem dL_isAccepted_221 : decode cL_isAccepted 221 = .ok (.iload 8, 2) := by decide +kernel
theorem dL_isAccepted_223 : decode cL_isAccepted 223 = .ok (.ifCond .eq 17, 3) := by decide +kernel
theorem dL_isAccepted_226 : decode cL_isAccepted 226 = .ok (.aload_n 0, 1) := by decide +kernel
theorem dL_isAccepted_227 : decode cL_isAccepted 227 = .ok (.iconst 0, 1) := by decide +kernel
theorem dL_isAccepted_228 : decode cL_isAccepted 228 = .ok (.invokevirtual 111, 3) := by decide +kernel
theorem dL_isAccepted_231 : decode cL_isAccepted 231 = .ok (.iload 4, 2) := by decide +kernel
theorem dL_isAccepted_233 : decode cL_isAccepted 233 = .ok (.if_icmp .ne 7, 3) := by decide +kernel
theorem dL_isAccepted_236 : decode cL_isAccepted 236 = .ok (.iconst 1, 1) := by decide +kernel
theorem dL_isAccepted_237 : decode cL_isAccepted 237 = .ok (.goto 4, 3) := by decide +kernel
theorem dL_isAccepted_240 : decode cL_isAccepted 240 = .ok (.iconst 0, 1) := by decide +kernel
theorem dL_isAccepted_241 : decode cL_isAccepted 241 = .ok (.ireturn, 1) := by decide +kernel
theorem dL_areAlike_0 : decode cL_areAlike 0 = .ok (.aload_n 0, 1) := by decide +kernel
theorem dL_areAlike_1 : decode cL_areAlike 1 = .ok (.invokevirtual 82, 3) := by decide +kernel
theorem dL_areAlike_4 : decode cL_areAlike 4 = .ok (.aload_n 1, 1) := by decide +kernel
theorem dL_areAlike_5 : decode cL_areAlike 5 = .ok (.invokevirtual 82, 3) := by decide +kernel
theorem dL_areAlike_8 : decode cL_areAlike 8 = .ok (.fcmp .l, 1) := by decide +kernel
theorem dL_areAlike_9 : decode cL_areAlike 9 = .ok (.ifCond .ne 29, 3) := by decide +kernel
theorem dL_areAlike_12 : decode cL_areAlike 12 = .ok (.aload_n 0, 1) := by decide +kernel
theorem dL_areAlike_13 : decode cL_areAlike 13 = .ok (.invokevirtual 79, 3) := by decide +kernel
theorem dL_areAlike_16 : decode cL_areAlike 16 = .ok (.aload_n 1, 1) := by decide +kernel
theorem dL_areAlike_17 : decode cL_areAlike 17 = .ok (.invokevirtual 79, 3) := by decide +kernel
theorem dL_areAlike_20 : decode cL_areAlike 20 = .ok (.if_icmp .ne 18, 3) := by decide +kernel
theorem dL_areAlike_23 : decode cL_areAlike 23 = .ok (.aload_n 0, 1) := by decide +kernel
theorem dL_areAlike_24 : decode cL_areAlike 24 = .ok (.invokevirtual 102, 3) := by decide +kernel
theorem dL_areAlike_27 : decode cL_areAlike 27 = .ok (.aload_n 1, 1) := by decide +kernel
theorem dL_areAlike_28 : decode cL_areAlike 28 = .ok (.invokevirtual 102, 3) := by decide +kernel
theorem dL_areAlike_31 : decode cL_areAlike 31 = .ok (.if_icmp .ne 7, 3) := by decide +kernel
theorem dL_areAlike_34 : decode cL_areAlike 34 = .ok (.iconst 1, 1) := by decide +kernel
theorem dL_areAlike_35 : decode cL_areAlike 35 = .ok (.goto 4, 3) := by decide +kernel
theorem dL_areAlike_38 : decode cL_areAlike 38 = .ok (.iconst 0, 1) := by decide +kernel
theorem dL_areAlike_39 : decode cL_areAlike 39 = .ok (.istore_n 2, 1) := by decide +kernel
theorem dL_areAlike_40 : decode cL_areAlike 40 = .ok (.iconst 0, 1) := by decide +kernel
theorem dL_areAlike_41 : decode cL_areAlike 41 = .ok (.istore_n 3, 1) := by decide +kernel
theorem dL_areAlike_42 : decode cL_areAlike 42 = .ok (.iload_n 3, 1) := by decide +kernel
theorem dL_areAlike_43 : decode cL_areAlike 43 = .ok (.iconst 5, 1) := by decide +kernel
theorem dL_areAlike_44 : decode cL_areAlike 44 = .ok (.if_icmp .ge 32, 3) := by decide +kernel
theorem dL_areAlike_47 : decode cL_areAlike 47 = .ok (.iload_n 2, 1) := by decide +kernel
theorem dL_areAlike_48 : decode cL_areAlike 48 = .ok (.ifCond .eq 20, 3) := by decide +kernel
theorem dL_areAlike_51 : decode cL_areAlike 51 = .ok (.aload_n 0, 1) := by decide +kernel
theorem dL_areAlike_52 : decode cL_areAlike 52 = .ok (.iload_n 3, 1) := by decide +kernel
theorem dL_areAlike_53 : decode cL_areAlike 53 = .ok (.invokevirtual 29, 3) := by decide +kernel
theorem dL_areAlike_56 : decode cL_areAlike 56 = .ok (.aload_n 1, 1) := by decide +kernel
theorem dL_areAlike_57 : decode cL_areAlike 57 = .ok (.iload_n 3, 1) := by decide +kernel
theorem dL_areAlike_58 : decode cL_areAlike 58 = .ok (.invokevirtual 29, 3) := by decide +kernel
theorem dL_areAlike_61 : decode cL_areAlike 61 = .ok (.if_icmp .ne 7, 3) := by decide +kernel
theorem dL_areAlike_64 : decode cL_areAlike 64 = .ok (.iconst 1, 1) := by decide +kernel
theorem dL_areAlike_65 : decode cL_areAlike 65 = .ok (.goto 4, 3) := by decide +kernel
theorem dL_areAlike_68 : decode cL_areAlike 68 = .ok (.iconst 0, 1) := by decide +kernel
theorem dL_areAlike_69 : decode cL_areAlike 69 = .ok (.istore_n 2, 1) := by decide +kernel
theorem dL_areAlike_70 : decode cL_areAlike 70 = .ok (.iinc 3 1, 3) := by decide +kernel
theorem dL_areAlike_73 : decode cL_areAlike 73 = .ok (.goto (-31), 3) := by decide +kernel
theorem dL_areAlike_76 : decode cL_areAlike 76 = .ok (.iconst 0, 1) := by decide +kernel
theorem dL_areAlike_77 : decode cL_areAlike 77 = .ok (.istore_n 3, 1) := by decide +kernel
theorem dL_areAlike_78 : decode cL_areAlike 78 = .ok (.iload_n 3, 1) := by decide +kernel
theorem dL_areAlike_79 : decode cL_areAlike 79 = .ok (.aload_n 0, 1) := by decide +kernel
theorem dL_areAlike_80 : decode cL_areAlike 80 = .ok (.iconst 0, 1) := by decide +kernel
theorem dL_areAlike_81 : decode cL_areAlike 81 = .ok (.invokevirtual 29, 3) := by decide +kernel
theorem dL_areAlike_84 : decode cL_areAlike 84 = .ok (.if_icmp .ge 52, 3) := by decide +kernel
theorem dL_areAlike_87 : decode cL_areAlike 87 = .ok (.iconst 0, 1) := by decide +kernel
theorem dL_areAlike_88 : decode cL_areAlike 88 = .ok (.istore 4, 2) := by decide +kernel
theorem dL_areAlike_90 : decode cL_areAlike 90 = .ok (.iload 4, 2) := by decide +kernel
theorem dL_areAlike_92 : decode cL_areAlike 92 = .ok (.bipush 10, 2) := by decide +kernel
theorem dL_areAlike_94 : decode cL_areAlike 94 = .ok (.if_icmp .ge 36, 3) := by decide +kernel
theorem dL_areAlike_97 : decode cL_areAlike 97 = .ok (.iload_n 2, 1) := by decide +kernel
theorem dL_areAlike_98 : decode cL_areAlike 98 = .ok (.ifCond .eq 24, 3) := by decide +kernel
theorem dL_areAlike_101 : decode cL_areAlike 101 = .ok (.aload_n 0, 1) := by decide +kernel
theorem dL_areAlike_102 : decode cL_areAlike 102 = .ok (.iload_n 3, 1) := by decide +kernel
theorem dL_areAlike_103 : decode cL_areAlike 103 = .ok (.iload 4, 2) := by decide +kernel
theorem dL_areAlike_105 : decode cL_areAlike 105 = .ok (.invokevirtual 108, 3) := by decide +kernel
theorem dL_areAlike_108 : decode cL_areAlike 108 = .ok (.aload_n 1, 1) := by decide +kernel
theorem dL_areAlike_109 : decode cL_areAlike 109 = .ok (.iload_n 3, 1) := by decide +kernel
theorem dL_areAlike_110 : decode cL_areAlike 110 = .ok (.iload 4, 2) := by decide +kernel
theorem dL_areAlike_112 : decode cL_areAlike 112 = .ok (.invokevirtual 108, 3) := by decide +kernel
theorem dL_areAlike_115 : decode cL_areAlike 115 = .ok (.if_icmp .ne 7, 3) := by decide +kernel
theorem dL_areAlike_118 : decode cL_areAlike 118 = .ok (.iconst 1, 1) := by decide +kernel
theorem dL_areAlike_119 : decode cL_areAlike 119 = .ok (.goto 4, 3) := by decide +kernel
theorem dL_areAlike_122 : decode cL_areAlike 122 = .ok (.iconst 0, 1) := by decide +kernel
theorem dL_areAlike_123 : decode cL_areAlike 123 = .ok (.istore_n 2, 1) := by decide +kernel
theorem dL_areAlike_124 : decode cL_areAlike 124 = .ok (.iinc 4 1, 3) := by decide +kernel
theorem dL_areAlike_127 : decode cL_areAlike 127 = .ok (.goto (-37), 3) := by decide +kernel
theorem dL_areAlike_130 : decode cL_areAlike 130 = .ok (.iinc 3 1, 3) := by decide +kernel
theorem dL_areAlike_133 : decode cL_areAlike 133 = .ok (.goto (-55), 3) := by decide +kernel
theorem dL_areAlike_136 : decode cL_areAlike 136 = .ok (.iload_n 2, 1) := by decide +kernel
theorem dL_areAlike_137 : decode cL_areAlike 137 = .ok (.ireturn, 1) := by decide +kernel
theorem dL_law_0 : decode cL_law 0 = .ok (.new 10, 3) := by decide +kernel
theorem dL_law_3 : decode cL_law 3 = .ok (.dup, 1) := by decide +kernel
theorem dL_law_4 : decode cL_law 4 = .ok (.invokespecial 114, 3) := by decide +kernel
theorem dL_law_7 : decode cL_law 7 = .ok (.astore_n 1, 1) := by decide +kernel
theorem dL_law_8 : decode cL_law 8 = .ok (.new 10, 3) := by decide +kernel
theorem dL_law_11 : decode cL_law 11 = .ok (.dup, 1) := by decide +kernel
theorem dL_law_12 : decode cL_law 12 = .ok (.invokespecial 114, 3) := by decide +kernel
theorem dL_law_15 : decode cL_law 15 = .ok (.astore_n 2, 1) := by decide +kernel
theorem dL_law_16 : decode cL_law 16 = .ok (.iconst 0, 1) := by decide +kernel
theorem dL_law_17 : decode cL_law 17 = .ok (.istore_n 3, 1) := by decide +kernel
theorem dL_law_18 : decode cL_law 18 = .ok (.iload_n 3, 1) := by decide +kernel
theorem dL_law_19 : decode cL_law 19 = .ok (.bipush 40, 2) := by decide +kernel
theorem dL_law_21 : decode cL_law 21 = .ok (.if_icmp .ge 107, 3) := by decide +kernel
theorem dL_law_24 : decode cL_law 24 = .ok (.aload_n 0, 1) := by decide +kernel
theorem dL_law_25 : decode cL_law 25 = .ok (.iconst 2, 1) := by decide +kernel
theorem dL_law_26 : decode cL_law 26 = .ok (.iload_n 3, 1) := by decide +kernel
theorem dL_law_27 : decode cL_law 27 = .ok (.imul, 1) := by decide +kernel
theorem dL_law_28 : decode cL_law 28 = .ok (.invokestatic 115, 3) := by decide +kernel
theorem dL_law_31 : decode cL_law 31 = .ok (.istore 4, 2) := by decide +kernel
theorem dL_law_33 : decode cL_law 33 = .ok (.aload_n 0, 1) := by decide +kernel
theorem dL_law_34 : decode cL_law 34 = .ok (.iconst 2, 1) := by decide +kernel
theorem dL_law_35 : decode cL_law 35 = .ok (.iload_n 3, 1) := by decide +kernel
theorem dL_law_36 : decode cL_law 36 = .ok (.imul, 1) := by decide +kernel
theorem dL_law_37 : decode cL_law 37 = .ok (.iconst 1, 1) := by decide +kernel
theorem dL_law_38 : decode cL_law 38 = .ok (.iadd, 1) := by decide +kernel
theorem dL_law_39 : decode cL_law 39 = .ok (.invokestatic 115, 3) := by decide +kernel
theorem dL_law_42 : decode cL_law 42 = .ok (.istore 5, 2) := by decide +kernel
theorem dL_law_44 : decode cL_law 44 = .ok (.iload 4, 2) := by decide +kernel
theorem dL_law_46 : decode cL_law 46 = .ok (.bipush 26, 2) := by decide +kernel
theorem dL_law_48 : decode cL_law 48 = .ok (.invokestatic 19, 3) := by decide +kernel
theorem dL_law_51 : decode cL_law 51 = .ok (.bipush 17, 2) := by decide +kernel
theorem dL_law_53 : decode cL_law 53 = .ok (.if_icmp .eq 22, 3) := by decide +kernel
theorem dL_law_56 : decode cL_law 56 = .ok (.aload_n 1, 1) := by decide +kernel
theorem dL_law_57 : decode cL_law 57 = .ok (.iload 4, 2) := by decide +kernel
theorem dL_law_59 : decode cL_law 59 = .ok (.iload 5, 2) := by decide +kernel
theorem dL_law_61 : decode cL_law 61 = .ok (.invokestatic 119, 3) := by decide +kernel
theorem dL_law_64 : decode cL_law 64 = .ok (.aload_n 2, 1) := by decide +kernel
theorem dL_law_65 : decode cL_law 65 = .ok (.iload 4, 2) := by decide +kernel
theorem dL_law_67 : decode cL_law 67 = .ok (.iload 5, 2) := by decide +kernel
theorem dL_law_69 : decode cL_law 69 = .ok (.invokestatic 119, 3) := by decide +kernel
theorem dL_law_72 : decode cL_law 72 = .ok (.if_icmp .ne 10, 3) := by decide +kernel
theorem dL_law_75 : decode cL_law 75 = .ok (.aload_n 1, 1) := by decide +kernel
theorem dL_law_76 : decode cL_law 76 = .ok (.invokestatic 122, 3) := by decide +kernel
theorem dL_law_79 : decode cL_law 79 = .ok (.ifCond .ne 5, 3) := by decide +kernel
theorem dL_law_82 : decode cL_law 82 = .ok (.iconst 0, 1) := by decide +kernel
theorem dL_law_83 : decode cL_law 83 = .ok (.ireturn, 1) := by decide +kernel
theorem dL_law_84 : decode cL_law 84 = .ok (.iload_n 3, 1) := by decide +kernel
theorem dL_law_85 : decode cL_law 85 = .ok (.iconst 5, 1) := by decide +kernel
theorem dL_law_86 : decode cL_law 86 = .ok (.irem, 1) := by decide +kernel
theorem dL_law_87 : decode cL_law 87 = .ok (.iconst 4, 1) := by decide +kernel
theorem dL_law_88 : decode cL_law 88 = .ok (.if_icmp .ne 34, 3) := by decide +kernel
theorem dL_law_91 : decode cL_law 91 = .ok (.aload_n 1, 1) := by decide +kernel
theorem dL_law_92 : decode cL_law 92 = .ok (.invokestatic 126, 3) := by decide +kernel
theorem dL_law_95 : decode cL_law 95 = .ok (.ifCond .eq 25, 3) := by decide +kernel
theorem dL_law_98 : decode cL_law 98 = .ok (.aload_n 1, 1) := by decide +kernel
theorem dL_law_99 : decode cL_law 99 = .ok (.invokestatic 129, 3) := by decide +kernel
theorem dL_law_102 : decode cL_law 102 = .ok (.ifCond .eq 18, 3) := by decide +kernel
theorem dL_law_105 : decode cL_law 105 = .ok (.aload_n 1, 1) := by decide +kernel
theorem dL_law_106 : decode cL_law 106 = .ok (.iload 5, 2) := by decide +kernel
theorem dL_law_108 : decode cL_law 108 = .ok (.iconst 3, 1) := by decide +kernel
theorem dL_law_109 : decode cL_law 109 = .ok (.ishr, 1) := by decide +kernel
theorem dL_law_110 : decode cL_law 110 = .ok (.iconst 3, 1) := by decide +kernel
theorem dL_law_111 : decode cL_law 111 = .ok (.invokestatic 19, 3) := by decide +kernel
theorem dL_law_114 : decode cL_law 114 = .ok (.invokestatic 132, 3) := by decide +kernel
theorem dL_law_117 : decode cL_law 117 = .ok (.ifCond .ne 5, 3) := by decide +kernel
theorem dL_law_120 : decode cL_law 120 = .ok (.iconst 0, 1) := by decide +kernel
theorem dL_law_121 : decode cL_law 121 = .ok (.ireturn, 1) := by decide +kernel
theorem dL_law_122 : decode cL_law 122 = .ok (.iinc 3 1, 3) := by decide +kernel
theorem dL_law_125 : decode cL_law 125 = .ok (.goto (-107), 3) := by decide +kernel
theorem dL_law_128 : decode cL_law 128 = .ok (.aload_n 1, 1) := by decide +kernel
theorem dL_law_129 : decode cL_law 129 = .ok (.aload_n 2, 1) := by decide +kernel
theorem dL_law_130 : decode cL_law 130 = .ok (.invokestatic 136, 3) := by decide +kernel
theorem dL_law_133 : decode cL_law 133 = .ok (.ireturn, 1) := by decide +kernel
