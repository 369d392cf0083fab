theorem dL_low_0 : decode cL_low 0 = .ok (.iload_n 0, 1) := by decide +kernel
theorem dL_low_1 : decode cL_low 1 = .ok (.ldc 7, 2) := by decide +kernel
theorem dL_low_3 : decode cL_low 3 = .ok (.iand, 1) := by decide +kernel
theorem dL_low_4 : decode cL_low 4 = .ok (.iload_n 1, 1) := by decide +kernel
theorem dL_low_5 : decode cL_low 5 = .ok (.irem, 1) := by decide +kernel
theorem dL_low_6 : decode cL_low 6 = .ok (.ireturn, 1) := by decide +kernel
theorem dL_cell_0 : decode cL_cell 0 = .ok (.iload_n 1, 1) := by decide +kernel
theorem dL_cell_1 : decode cL_cell 1 = .ok (.aload_n 0, 1) := by decide +kernel
theorem dL_cell_2 : decode cL_cell 2 = .ok (.arraylength, 1) := by decide +kernel
theorem dL_cell_3 : decode cL_cell 3 = .ok (.if_icmp .ge 9, 3) := by decide +kernel
theorem dL_cell_6 : decode cL_cell 6 = .ok (.aload_n 0, 1) := by decide +kernel
theorem dL_cell_7 : decode cL_cell 7 = .ok (.iload_n 1, 1) := by decide +kernel
theorem dL_cell_8 : decode cL_cell 8 = .ok (.iaload, 1) := by decide +kernel
theorem dL_cell_9 : decode cL_cell 9 = .ok (.goto 11, 3) := by decide +kernel
theorem dL_cell_12 : decode cL_cell 12 = .ok (.ldc 8, 2) := by decide +kernel
theorem dL_cell_14 : decode cL_cell 14 = .ok (.iload_n 1, 1) := by decide +kernel
theorem dL_cell_15 : decode cL_cell 15 = .ok (.imul, 1) := by decide +kernel
theorem dL_cell_16 : decode cL_cell 16 = .ok (.sipush 977, 3) := by decide +kernel
theorem dL_cell_19 : decode cL_cell 19 = .ok (.iadd, 1) := by decide +kernel
theorem dL_cell_20 : decode cL_cell 20 = .ok (.ireturn, 1) := by decide +kernel
theorem dL_refund_0 : decode cL_refund 0 = .ok (.aload_n 0, 1) := by decide +kernel
theorem dL_refund_1 : decode cL_refund 1 = .ok (.iload_n 1, 1) := by decide +kernel
theorem dL_refund_2 : decode cL_refund 2 = .ok (.invokevirtual 9, 3) := by decide +kernel
theorem dL_refund_5 : decode cL_refund 5 = .ok (.ireturn, 1) := by decide +kernel
theorem dL_refund_6 : decode cL_refund 6 = .ok (.astore_n 2, 1) := by decide +kernel
theorem dL_refund_7 : decode cL_refund 7 = .ok (.bipush (-3), 2) := by decide +kernel
theorem dL_refund_9 : decode cL_refund 9 = .ok (.ireturn, 1) := by decide +kernel
theorem dL_pass_0 : decode cL_pass 0 = .ok (.aload_n 0, 1) := by decide +kernel
theorem dL_pass_1 : decode cL_pass 1 = .ok (.iload_n 1, 1) := by decide +kernel
theorem dL_pass_2 : decode cL_pass 2 = .ok (.invokevirtual 17, 3) := by decide +kernel
theorem dL_pass_5 : decode cL_pass 5 = .ok (.ireturn, 1) := by decide +kernel
theorem dL_pass_6 : decode cL_pass 6 = .ok (.astore_n 2, 1) := by decide +kernel
theorem dL_pass_7 : decode cL_pass 7 = .ok (.bipush (-3), 2) := by decide +kernel
theorem dL_pass_9 : decode cL_pass 9 = .ok (.ireturn, 1) := by decide +kernel
theorem dL_cancel_0 : decode cL_cancel 0 = .ok (.aload_n 0, 1) := by decide +kernel
theorem dL_cancel_1 : decode cL_cancel 1 = .ok (.iload_n 1, 1) := by decide +kernel
theorem dL_cancel_2 : decode cL_cancel 2 = .ok (.invokevirtual 20, 3) := by decide +kernel
theorem dL_cancel_5 : decode cL_cancel 5 = .ok (.ireturn, 1) := by decide +kernel
theorem dL_cancel_6 : decode cL_cancel 6 = .ok (.astore_n 2, 1) := by decide +kernel
theorem dL_cancel_7 : decode cL_cancel 7 = .ok (.bipush (-3), 2) := by decide +kernel
theorem dL_cancel_9 : decode cL_cancel 9 = .ok (.ireturn, 1) := by decide +kernel
theorem dL_sums_0 : decode cL_sums 0 = .ok (.aload_n 0, 1) := by decide +kernel
theorem dL_sums_1 : decode cL_sums 1 = .ok (.invokevirtual 23, 3) := by decide +kernel
theorem dL_sums_4 : decode cL_sums 4 = .ok (.istore_n 2, 1) := by decide +kernel
theorem dL_sums_5 : decode cL_sums 5 = .ok (.iconst 0, 1) := by decide +kernel
theorem dL_sums_6 : decode cL_sums 6 = .ok (.istore_n 3, 1) := by decide +kernel
theorem dL_sums_7 : decode cL_sums 7 = .ok (.iload_n 3, 1) := by decide +kernel
theorem dL_sums_8 : decode cL_sums 8 = .ok (.iconst 5, 1) := by decide +kernel
theorem dL_sums_9 : decode cL_sums 9 = .ok (.if_icmp .ge 17, 3) := by decide +kernel
theorem dL_sums_12 : decode cL_sums 12 = .ok (.iload_n 2, 1) := by decide +kernel
theorem dL_sums_13 : decode cL_sums 13 = .ok (.aload_n 0, 1) := by decide +kernel
theorem dL_sums_14 : decode cL_sums 14 = .ok (.iload_n 3, 1) := by decide +kernel
theorem dL_sums_15 : decode cL_sums 15 = .ok (.invokevirtual 27, 3) := by decide +kernel
theorem dL_sums_18 : decode cL_sums 18 = .ok (.iadd, 1) := by decide +kernel
theorem dL_sums_19 : decode cL_sums 19 = .ok (.istore_n 2, 1) := by decide +kernel
theorem dL_sums_20 : decode cL_sums 20 = .ok (.iinc 3 1, 3) := by decide +kernel
theorem dL_sums_23 : decode cL_sums 23 = .ok (.goto (-16), 3) := by decide +kernel
theorem dL_sums_26 : decode cL_sums 26 = .ok (.iconst 0, 1) := by decide +kernel
theorem dL_sums_27 : decode cL_sums 27 = .ok (.istore_n 3, 1) := by decide +kernel
theorem dL_sums_28 : decode cL_sums 28 = .ok (.iload_n 3, 1) := by decide +kernel
theorem dL_sums_29 : decode cL_sums 29 = .ok (.iload_n 1, 1) := by decide +kernel
theorem dL_sums_30 : decode cL_sums 30 = .ok (.if_icmp .ge 48, 3) := by decide +kernel
theorem dL_sums_33 : decode cL_sums 33 = .ok (.iload_n 2, 1) := by decide +kernel
theorem dL_sums_34 : decode cL_sums 34 = .ok (.aload_n 0, 1) := by decide +kernel
theorem dL_sums_35 : decode cL_sums 35 = .ok (.iload_n 3, 1) := by decide +kernel
theorem dL_sums_36 : decode cL_sums 36 = .ok (.invokevirtual 30, 3) := by decide +kernel
theorem dL_sums_39 : decode cL_sums 39 = .ok (.iadd, 1) := by decide +kernel
theorem dL_sums_40 : decode cL_sums 40 = .ok (.istore_n 2, 1) := by decide +kernel
theorem dL_sums_41 : decode cL_sums 41 = .ok (.iconst 0, 1) := by decide +kernel
theorem dL_sums_42 : decode cL_sums 42 = .ok (.istore 4, 2) := by decide +kernel
theorem dL_sums_44 : decode cL_sums 44 = .ok (.iload 4, 2) := by decide +kernel
theorem dL_sums_46 : decode cL_sums 46 = .ok (.aload_n 0, 1) := by decide +kernel
theorem dL_sums_47 : decode cL_sums 47 = .ok (.invokevirtual 33, 3) := by decide +kernel
theorem dL_sums_50 : decode cL_sums 50 = .ok (.bipush 30, 2) := by decide +kernel
theorem dL_sums_52 : decode cL_sums 52 = .ok (.idiv, 1) := by decide +kernel
theorem dL_sums_53 : decode cL_sums 53 = .ok (.if_icmp .ge 19, 3) := by decide +kernel
theorem dL_sums_56 : decode cL_sums 56 = .ok (.iload_n 2, 1) := by decide +kernel
theorem dL_sums_57 : decode cL_sums 57 = .ok (.aload_n 0, 1) := by decide +kernel
theorem dL_sums_58 : decode cL_sums 58 = .ok (.iload_n 3, 1) := by decide +kernel
theorem dL_sums_59 : decode cL_sums 59 = .ok (.iload 4, 2) := by decide +kernel
theorem dL_sums_61 : decode cL_sums 61 = .ok (.invokevirtual 36, 3) := by decide +kernel
theorem dL_sums_64 : decode cL_sums 64 = .ok (.iadd, 1) := by decide +kernel
theorem dL_sums_65 : decode cL_sums 65 = .ok (.istore_n 2, 1) := by decide +kernel
theorem dL_sums_66 : decode cL_sums 66 = .ok (.iinc 4 1, 3) := by decide +kernel
theorem dL_sums_69 : decode cL_sums 69 = .ok (.goto (-25), 3) := by decide +kernel
theorem dL_sums_72 : decode cL_sums 72 = .ok (.iinc 3 1, 3) := by decide +kernel
theorem dL_sums_75 : decode cL_sums 75 = .ok (.goto (-47), 3) := by decide +kernel
theorem dL_sums_78 : decode cL_sums 78 = .ok (.iload_n 2, 1) := by decide +kernel
theorem dL_sums_79 : decode cL_sums 79 = .ok (.aload_n 0, 1) := by decide +kernel
theorem dL_sums_80 : decode cL_sums 80 = .ok (.invokevirtual 40, 3) := by decide +kernel
theorem dL_sums_83 : decode cL_sums 83 = .ok (.if_icmp .ne 7, 3) := by decide +kernel
theorem dL_sums_86 : decode cL_sums 86 = .ok (.iconst 1, 1) := by decide +kernel
theorem dL_sums_87 : decode cL_sums 87 = .ok (.goto 4, 3) := by decide +kernel
theorem dL_sums_90 : decode cL_sums 90 = .ok (.iconst 0, 1) := by decide +kernel
theorem dL_sums_91 : decode cL_sums 91 = .ok (.ireturn, 1) := by decide +kernel
theorem dL_sale_0 : decode cL_sale 0 = .ok (.aload_n 0, 1) := by decide +kernel
theorem dL_sale_1 : decode cL_sale 1 = .ok (.iload_n 1, 1) := by decide +kernel
theorem dL_sale_2 : decode cL_sale 2 = .ok (.invokevirtual 43, 3) := by decide +kernel
theorem dL_sale_5 : decode cL_sale 5 = .ok (.istore_n 2, 1) := by decide +kernel
theorem dL_sale_6 : decode cL_sale 6 = .ok (.aload_n 0, 1) := by decide +kernel
theorem dL_sale_7 : decode cL_sale 7 = .ok (.iload_n 1, 1) := by decide +kernel
theorem dL_sale_8 : decode cL_sale 8 = .ok (.invokevirtual 46, 3) := by decide +kernel
theorem dL_sale_11 : decode cL_sale 11 = .ok (.istore_n 3, 1) := by decide +kernel
theorem dL_sale_12 : decode cL_sale 12 = .ok (.aload_n 0, 1) := by decide +kernel
theorem dL_sale_13 : decode cL_sale 13 = .ok (.iload_n 1, 1) := by decide +kernel
theorem dL_sale_14 : decode cL_sale 14 = .ok (.invokevirtual 49, 3) := by decide +kernel
theorem dL_sale_17 : decode cL_sale 17 = .ok (.istore 4, 2) := by decide +kernel
theorem dL_sale_19 : decode cL_sale 19 = .ok (.aload_n 0, 1) := by decide +kernel
theorem dL_sale_20 : decode cL_sale 20 = .ok (.iload_n 1, 1) := by decide +kernel
theorem dL_sale_21 : decode cL_sale 21 = .ok (.invokevirtual 52, 3) := by decide +kernel
theorem dL_sale_24 : decode cL_sale 24 = .ok (.istore 5, 2) := by decide +kernel
theorem dL_sale_26 : decode cL_sale 26 = .ok (.iload_n 2, 1) := by decide +kernel
theorem dL_sale_27 : decode cL_sale 27 = .ok (.ifCond .lt 50, 3) := by decide +kernel
theorem dL_sale_30 : decode cL_sale 30 = .ok (.iload_n 3, 1) := by decide +kernel
theorem dL_sale_31 : decode cL_sale 31 = .ok (.ifCond .lt 46, 3) := by decide +kernel
theorem dL_sale_34 : decode cL_sale 34 = .ok (.iload 4, 2) := by decide +kernel
theorem dL_sale_36 : decode cL_sale 36 = .ok (.ifCond .lt 41, 3) := by decide +kernel
theorem dL_sale_39 : decode cL_sale 39 = .ok (.iload 4, 2) := by decide +kernel
theorem dL_sale_41 : decode cL_sale 41 = .ok (.iload_n 2, 1) := by decide +kernel
theorem dL_sale_42 : decode cL_sale 42 = .ok (.iload_n 3, 1) := by decide +kernel
theorem dL_sale_43 : decode cL_sale 43 = .ok (.isub, 1) := by decide +kernel
theorem dL_sale_44 : decode cL_sale 44 = .ok (.bipush 30, 2) := by decide +kernel
theorem dL_sale_46 : decode cL_sale 46 = .ok (.imul, 1) := by decide +kernel
theorem dL_sale_47 : decode cL_sale 47 = .ok (.bipush 100, 2) := by decide +kernel
theorem dL_sale_49 : decode cL_sale 49 = .ok (.idiv, 1) := by decide +kernel
theorem dL_sale_50 : decode cL_sale 50 = .ok (.if_icmp .gt 27, 3) := by decide +kernel
theorem dL_sale_53 : decode cL_sale 53 = .ok (.iload 5, 2) := by decide +kernel
theorem dL_sale_55 : decode cL_sale 55 = .ok (.iload_n 2, 1) := by decide +kernel
theorem dL_sale_56 : decode cL_sale 56 = .ok (.iload 4, 2) := by decide +kernel
theorem dL_sale_58 : decode cL_sale 58 = .ok (.isub, 1) := by decide +kernel
theorem dL_sale_59 : decode cL_sale 59 = .ok (.if_icmp .eq 14, 3) := by decide +kernel
theorem dL_sale_62 : decode cL_sale 62 = .ok (.iload 5, 2) := by decide +kernel
theorem dL_sale_64 : decode cL_sale 64 = .ok (.iload_n 2, 1) := by decide +kernel
theorem dL_sale_65 : decode cL_sale 65 = .ok (.iload 4, 2) := by decide +kernel
theorem dL_sale_67 : decode cL_sale 67 = .ok (.isub, 1) := by decide +kernel
theorem dL_sale_68 : decode cL_sale 68 = .ok (.iload_n 3, 1) := by decide +kernel
theorem dL_sale_69 : decode cL_sale 69 = .ok (.isub, 1) := by decide +kernel
theorem dL_sale_70 : decode cL_sale 70 = .ok (.if_icmp .ne 7, 3) := by decide +kernel
theorem dL_sale_73 : decode cL_sale 73 = .ok (.iconst 1, 1) := by decide +kernel
theorem dL_sale_74 : decode cL_sale 74 = .ok (.goto 4, 3) := by decide +kernel
theorem dL_sale_77 : decode cL_sale 77 = .ok (.iconst 0, 1) := by decide +kernel
theorem dL_sale_78 : decode cL_sale 78 = .ok (.ireturn, 1) := by decide +kernel
theorem dL_law_0 : decode cL_law 0 = .ok (.new 10, 3) := by decide +kernel
theorem dL_law_3 : decode cL_law 3 = .ok (.dup, 1) := by decide +kernel
theorem dL_law_4 : decode cL_law 4 = .ok (.invokespecial 55, 3) := by decide +kernel
theorem dL_law_7 : decode cL_law 7 = .ok (.astore_n 1, 1) := by decide +kernel
theorem dL_law_8 : decode cL_law 8 = .ok (.iconst 0, 1) := by decide +kernel
theorem dL_law_9 : decode cL_law 9 = .ok (.istore_n 2, 1) := by decide +kernel
theorem dL_law_10 : decode cL_law 10 = .ok (.iconst 0, 1) := by decide +kernel
theorem dL_law_11 : decode cL_law 11 = .ok (.istore_n 3, 1) := by decide +kernel
theorem dL_law_12 : decode cL_law 12 = .ok (.iconst 0, 1) := by decide +kernel
theorem dL_law_13 : decode cL_law 13 = .ok (.istore 4, 2) := by decide +kernel
theorem dL_law_15 : decode cL_law 15 = .ok (.aload_n 1, 1) := by decide +kernel
theorem dL_law_16 : decode cL_law 16 = .ok (.iconst 0, 1) := by decide +kernel
theorem dL_law_17 : decode cL_law 17 = .ok (.invokestatic 56, 3) := by decide +kernel
theorem dL_law_20 : decode cL_law 20 = .ok (.ifCond .eq 21, 3) := by decide +kernel
theorem dL_law_23 : decode cL_law 23 = .ok (.aload_n 1, 1) := by decide +kernel
theorem dL_law_24 : decode cL_law 24 = .ok (.invokevirtual 62, 3) := by decide +kernel
theorem dL_law_27 : decode cL_law 27 = .ok (.ifCond .ne 14, 3) := by decide +kernel
theorem dL_law_30 : decode cL_law 30 = .ok (.aload_n 1, 1) := by decide +kernel
theorem dL_law_31 : decode cL_law 31 = .ok (.invokevirtual 33, 3) := by decide +kernel
theorem dL_law_34 : decode cL_law 34 = .ok (.ifCond .ne 7, 3) := by decide +kernel
theorem dL_law_37 : decode cL_law 37 = .ok (.iconst 1, 1) := by decide +kernel
theorem dL_law_38 : decode cL_law 38 = .ok (.goto 4, 3) := by decide +kernel
theorem dL_law_41 : decode cL_law 41 = .ok (.iconst 0, 1) := by decide +kernel
theorem dL_law_42 : decode cL_law 42 = .ok (.istore 5, 2) := by decide +kernel
theorem dL_law_44 : decode cL_law 44 = .ok (.bipush 6, 2) := by decide +kernel
theorem dL_law_46 : decode cL_law 46 = .ok (.aload_n 0, 1) := by decide +kernel
theorem dL_law_47 : decode cL_law 47 = .ok (.iconst 0, 1) := by decide +kernel
theorem dL_law_48 : decode cL_law 48 = .ok (.invokestatic 65, 3) := by decide +kernel
theorem dL_law_51 : decode cL_law 51 = .ok (.bipush 55, 2) := by decide +kernel
theorem dL_law_53 : decode cL_law 53 = .ok (.invokestatic 69, 3) := by decide +kernel
theorem dL_law_56 : decode cL_law 56 = .ok (.iadd, 1) := by decide +kernel
theorem dL_law_57 : decode cL_law 57 = .ok (.istore 6, 2) := by decide +kernel
theorem dL_law_59 : decode cL_law 59 = .ok (.iconst 0, 1) := by decide +kernel
theorem dL_law_60 : decode cL_law 60 = .ok (.istore 7, 2) := by decide +kernel
theorem dL_law_62 : decode cL_law 62 = .ok (.iload 7, 2) := by decide +kernel
theorem dL_law_64 : decode cL_law 64 = .ok (.iload 6, 2) := by decide +kernel
theorem dL_law_66 : decode cL_law 66 = .ok (.if_icmp .ge 786, 3) := by decide +kernel
theorem dL_law_69 : decode cL_law 69 = .ok (.iload 5, 2) := by decide +kernel
theorem dL_law_71 : decode cL_law 71 = .ok (.ifCond .eq 781, 3) := by decide +kernel
theorem dL_law_74 : decode cL_law 74 = .ok (.aload_n 0, 1) := by decide +kernel
theorem dL_law_75 : decode cL_law 75 = .ok (.iconst 1, 1) := by decide +kernel
theorem dL_law_76 : decode cL_law 76 = .ok (.iload 7, 2) := by decide +kernel
theorem dL_law_78 : decode cL_law 78 = .ok (.iadd, 1) := by decide +kernel
theorem dL_law_79 : decode cL_law 79 = .ok (.invokestatic 65, 3) := by decide +kernel
theorem dL_law_82 : decode cL_law 82 = .ok (.istore 8, 2) := by decide +kernel
theorem dL_law_84 : decode cL_law 84 = .ok (.iload 8, 2) := by decide +kernel
theorem dL_law_86 : decode cL_law 86 = .ok (.iconst 3, 1) := by decide +kernel
theorem dL_law_87 : decode cL_law 87 = .ok (.ishr, 1) := by decide +kernel
theorem dL_law_88 : decode cL_law 88 = .ok (.iconst 5, 1) := by decide +kernel
theorem dL_law_89 : decode cL_law 89 = .ok (.invokestatic 69, 3) := by decide +kernel
theorem dL_law_92 : decode cL_law 92 = .ok (.istore 9, 2) := by decide +kernel
theorem dL_law_94 : decode cL_law 94 = .ok (.iload_n 3, 1) := by decide +kernel
theorem dL_law_95 : decode cL_law 95 = .ok (.ifCond .ne 7, 3) := by decide +kernel
theorem dL_law_98 : decode cL_law 98 = .ok (.iconst 0, 1) := by decide +kernel
theorem dL_law_99 : decode cL_law 99 = .ok (.goto 12, 3) := by decide +kernel
theorem dL_law_102 : decode cL_law 102 = .ok (.iload 8, 2) := by decide +kernel
theorem dL_law_104 : decode cL_law 104 = .ok (.bipush 6, 2) := by decide +kernel
theorem dL_law_106 : decode cL_law 106 = .ok (.ishr, 1) := by decide +kernel
theorem dL_law_107 : decode cL_law 107 = .ok (.iload_n 3, 1) := by decide +kernel
theorem dL_law_108 : decode cL_law 108 = .ok (.invokestatic 69, 3) := by decide +kernel
theorem dL_law_111 : decode cL_law 111 = .ok (.istore 10, 2) := by decide +kernel
theorem dL_law_113 : decode cL_law 113 = .ok (.iload 8, 2) := by decide +kernel
theorem dL_law_115 : decode cL_law 115 = .ok (.bipush 20, 2) := by decide +kernel
theorem dL_law_117 : decode cL_law 117 = .ok (.ishr, 1) := by decide +kernel
theorem dL_law_118 : decode cL_law 118 = .ok (.bipush 16, 2) := by decide +kernel
theorem dL_law_120 : decode cL_law 120 = .ok (.invokestatic 69, 3) := by decide +kernel
theorem dL_law_123 : decode cL_law 123 = .ok (.istore 11, 2) := by decide +kernel
theorem dL_law_125 : decode cL_law 125 = .ok (.iload_n 2, 1) := by decide +kernel
theorem dL_law_126 : decode cL_law 126 = .ok (.ifCond .eq 15, 3) := by decide +kernel
theorem dL_law_129 : decode cL_law 129 = .ok (.iload 11, 2) := by decide +kernel
theorem dL_law_131 : decode cL_law 131 = .ok (.iconst 1, 1) := by decide +kernel
theorem dL_law_132 : decode cL_law 132 = .ok (.if_icmp .ge 53, 3) := by decide +kernel
theorem dL_law_135 : decode cL_law 135 = .ok (.iload_n 2, 1) := by decide +kernel
theorem dL_law_136 : decode cL_law 136 = .ok (.bipush 6, 2) := by decide +kernel
theorem dL_law_138 : decode cL_law 138 = .ok (.if_icmp .ge 47, 3) := by decide +kernel
theorem dL_law_141 : decode cL_law 141 = .ok (.aload_n 1, 1) := by decide +kernel
theorem dL_law_142 : decode cL_law 142 = .ok (.iload 8, 2) := by decide +kernel
theorem dL_law_144 : decode cL_law 144 = .ok (.iload 8, 2) := by decide +kernel
theorem dL_law_146 : decode cL_law 146 = .ok (.bipush 19, 2) := by decide +kernel
theorem dL_law_148 : decode cL_law 148 = .ok (.ishr, 1) := by decide +kernel
theorem dL_law_149 : decode cL_law 149 = .ok (.iconst 2, 1) := by decide +kernel
theorem dL_law_150 : decode cL_law 150 = .ok (.invokestatic 69, 3) := by decide +kernel
theorem dL_law_153 : decode cL_law 153 = .ok (.ifCond .ne 7, 3) := by decide +kernel
theorem dL_law_156 : decode cL_law 156 = .ok (.iconst 3, 1) := by decide +kernel
theorem dL_law_157 : decode cL_law 157 = .ok (.goto 5, 3) := by decide +kernel
theorem dL_law_160 : decode cL_law 160 = .ok (.ldc 72, 2) := by decide +kernel
theorem dL_law_162 : decode cL_law 162 = .ok (.invokestatic 69, 3) := by decide +kernel
theorem dL_law_165 : decode cL_law 165 = .ok (.invokevirtual 73, 3) := by decide +kernel
theorem dL_law_168 : decode cL_law 168 = .ok (.iload_n 2, 1) := by decide +kernel
theorem dL_law_169 : decode cL_law 169 = .ok (.if_icmp .ne 7, 3) := by decide +kernel
theorem dL_law_172 : decode cL_law 172 = .ok (.iconst 1, 1) := by decide +kernel
theorem dL_law_173 : decode cL_law 173 = .ok (.goto 4, 3) := by decide +kernel
theorem dL_law_176 : decode cL_law 176 = .ok (.iconst 0, 1) := by decide +kernel
theorem dL_law_177 : decode cL_law 177 = .ok (.istore 5, 2) := by decide +kernel
theorem dL_law_179 : decode cL_law 179 = .ok (.iinc 2 1, 3) := by decide +kernel
theorem dL_law_182 : decode cL_law 182 = .ok (.goto 644, 3) := by decide +kernel
theorem dL_law_185 : decode cL_law 185 = .ok (.iload_n 3, 1) := by decide +kernel
theorem dL_law_186 : decode cL_law 186 = .ok (.ifCond .eq 15, 3) := by decide +kernel
theorem dL_law_189 : decode cL_law 189 = .ok (.iload 11, 2) := by decide +kernel
theorem dL_law_191 : decode cL_law 191 = .ok (.iconst 3, 1) := by decide +kernel
theorem dL_law_192 : decode cL_law 192 = .ok (.if_icmp .ge 45, 3) := by decide +kernel
theorem dL_law_195 : decode cL_law 195 = .ok (.iload_n 3, 1) := by decide +kernel
theorem dL_law_196 : decode cL_law 196 = .ok (.bipush 20, 2) := by decide +kernel
theorem dL_law_198 : decode cL_law 198 = .ok (.if_icmp .ge 39, 3) := by decide +kernel
theorem dL_law_201 : decode cL_law 201 = .ok (.aload_n 1, 1) := by decide +kernel
theorem dL_law_202 : decode cL_law 202 = .ok (.iload 8, 2) := by decide +kernel
theorem dL_law_204 : decode cL_law 204 = .ok (.iload_n 2, 1) := by decide +kernel
theorem dL_law_205 : decode cL_law 205 = .ok (.invokestatic 69, 3) := by decide +kernel
theorem dL_law_208 : decode cL_law 208 = .ok (.iload 8, 2) := by decide +kernel
theorem dL_law_210 : decode cL_law 210 = .ok (.iconst 5, 1) := by decide +kernel
theorem dL_law_211 : decode cL_law 211 = .ok (.ishr, 1) := by decide +kernel
theorem dL_law_212 : decode cL_law 212 = .ok (.ldc 76, 2) := by decide +kernel
theorem dL_law_214 : decode cL_law 214 = .ok (.invokestatic 69, 3) := by decide +kernel
theorem dL_law_217 : decode cL_law 217 = .ok (.invokevirtual 77, 3) := by decide +kernel
theorem dL_law_220 : decode cL_law 220 = .ok (.iload_n 3, 1) := by decide +kernel
theorem dL_law_221 : decode cL_law 221 = .ok (.if_icmp .ne 7, 3) := by decide +kernel
theorem dL_law_224 : decode cL_law 224 = .ok (.iconst 1, 1) := by decide +kernel
theorem dL_law_225 : decode cL_law 225 = .ok (.goto 4, 3) := by decide +kernel
theorem dL_law_228 : decode cL_law 228 = .ok (.iconst 0, 1) := by decide +kernel
theorem dL_law_229 : decode cL_law 229 = .ok (.istore 5, 2) := by decide +kernel
theorem dL_law_231 : decode cL_law 231 = .ok (.iinc 3 1, 3) := by decide +kernel
theorem dL_law_234 : decode cL_law 234 = .ok (.goto 592, 3) := by decide +kernel
theorem dL_law_237 : decode cL_law 237 = .ok (.iload 11, 2) := by decide +kernel
theorem dL_law_239 : decode cL_law 239 = .ok (.iconst 4, 1) := by decide +kernel
theorem dL_law_240 : decode cL_law 240 = .ok (.if_icmp .ge 78, 3) := by decide +kernel
theorem dL_law_243 : decode cL_law 243 = .ok (.iload 8, 2) := by decide +kernel
theorem dL_law_245 : decode cL_law 245 = .ok (.bipush 31, 2) := by decide +kernel
theorem dL_law_247 : decode cL_law 247 = .ok (.invokestatic 69, 3) := by decide +kernel
theorem dL_law_250 : decode cL_law 250 = .ok (.istore 12, 2) := by decide +kernel
theorem dL_law_252 : decode cL_law 252 = .ok (.aload_n 1, 1) := by decide +kernel
theorem dL_law_253 : decode cL_law 253 = .ok (.iload 9, 2) := by decide +kernel
theorem dL_law_255 : decode cL_law 255 = .ok (.iload 12, 2) := by decide +kernel
theorem dL_law_257 : decode cL_law 257 = .ok (.iload 8, 2) := by decide +kernel
theorem dL_law_259 : decode cL_law 259 = .ok (.bipush 9, 2) := by decide +kernel
theorem dL_law_261 : decode cL_law 261 = .ok (.ishr, 1) := by decide +kernel
theorem dL_law_262 : decode cL_law 262 = .ok (.iconst 2, 1) := by decide +kernel
theorem dL_law_263 : decode cL_law 263 = .ok (.invokestatic 69, 3) := by decide +kernel
theorem dL_law_266 : decode cL_law 266 = .ok (.ifCond .ne 7, 3) := by decide +kernel
theorem dL_law_269 : decode cL_law 269 = .ok (.iconst 1, 1) := by decide +kernel
theorem dL_law_270 : decode cL_law 270 = .ok (.goto 4, 3) := by decide +kernel
theorem dL_law_273 : decode cL_law 273 = .ok (.iconst 0, 1) := by decide +kernel
theorem dL_law_274 : decode cL_law 274 = .ok (.invokevirtual 80, 3) := by decide +kernel
theorem dL_law_277 : decode cL_law 277 = .ok (.pop, 1) := by decide +kernel
theorem dL_law_278 : decode cL_law 278 = .ok (.aload_n 1, 1) := by decide +kernel
theorem dL_law_279 : decode cL_law 279 = .ok (.iload 9, 2) := by decide +kernel
theorem dL_law_281 : decode cL_law 281 = .ok (.iload 12, 2) := by decide +kernel
theorem dL_law_283 : decode cL_law 283 = .ok (.iload 8, 2) := by decide +kernel
theorem dL_law_285 : decode cL_law 285 = .ok (.bipush 9, 2) := by decide +kernel
theorem dL_law_287 : decode cL_law 287 = .ok (.ishr, 1) := by decide +kernel
theorem dL_law_288 : decode cL_law 288 = .ok (.iconst 2, 1) := by decide +kernel
theorem dL_law_289 : decode cL_law 289 = .ok (.invokestatic 69, 3) := by decide +kernel
theorem dL_law_292 : decode cL_law 292 = .ok (.ifCond .ne 7, 3) := by decide +kernel
theorem dL_law_295 : decode cL_law 295 = .ok (.iconst 1, 1) := by decide +kernel
theorem dL_law_296 : decode cL_law 296 = .ok (.goto 4, 3) := by decide +kernel
theorem dL_law_299 : decode cL_law 299 = .ok (.iconst 0, 1) := by decide +kernel
theorem dL_law_300 : decode cL_law 300 = .ok (.invokevirtual 80, 3) := by decide +kernel
theorem dL_law_303 : decode cL_law 303 = .ok (.iload 12, 2) := by decide +kernel
theorem dL_law_305 : decode cL_law 305 = .ok (.if_icmp .ne 7, 3) := by decide +kernel
theorem dL_law_308 : decode cL_law 308 = .ok (.iconst 1, 1) := by decide +kernel
theorem dL_law_309 : decode cL_law 309 = .ok (.goto 4, 3) := by decide +kernel
theorem dL_law_312 : decode cL_law 312 = .ok (.iconst 0, 1) := by decide +kernel
theorem dL_law_313 : decode cL_law 313 = .ok (.istore 5, 2) := by decide +kernel
theorem dL_law_315 : decode cL_law 315 = .ok (.goto 511, 3) := by decide +kernel
theorem dL_law_318 : decode cL_law 318 = .ok (.iload 11, 2) := by decide +kernel
theorem dL_law_320 : decode cL_law 320 = .ok (.iconst 5, 1) := by decide +kernel
theorem dL_law_321 : decode cL_law 321 = .ok (.if_icmp .ge 48, 3) := by decide +kernel
theorem dL_law_324 : decode cL_law 324 = .ok (.iload 8, 2) := by decide +kernel
theorem dL_law_326 : decode cL_law 326 = .ok (.ldc 76, 2) := by decide +kernel
theorem dL_law_328 : decode cL_law 328 = .ok (.invokestatic 69, 3) := by decide +kernel
theorem dL_law_331 : decode cL_law 331 = .ok (.istore 12, 2) := by decide +kernel
theorem dL_law_333 : decode cL_law 333 = .ok (.aload_n 1, 1) := by decide +kernel
theorem dL_law_334 : decode cL_law 334 = .ok (.iload 10, 2) := by decide +kernel
theorem dL_law_336 : decode cL_law 336 = .ok (.iload 9, 2) := by decide +kernel
theorem dL_law_338 : decode cL_law 338 = .ok (.iload 12, 2) := by decide +kernel
theorem dL_law_340 : decode cL_law 340 = .ok (.invokevirtual 84, 3) := by decide +kernel
theorem dL_law_343 : decode cL_law 343 = .ok (.pop, 1) := by decide +kernel
theorem dL_law_344 : decode cL_law 344 = .ok (.aload_n 1, 1) := by decide +kernel
theorem dL_law_345 : decode cL_law 345 = .ok (.iload 10, 2) := by decide +kernel
theorem dL_law_347 : decode cL_law 347 = .ok (.iload 9, 2) := by decide +kernel
theorem dL_law_349 : decode cL_law 349 = .ok (.iload 12, 2) := by decide +kernel
theorem dL_law_351 : decode cL_law 351 = .ok (.invokevirtual 84, 3) := by decide +kernel
theorem dL_law_354 : decode cL_law 354 = .ok (.iload 12, 2) := by decide +kernel
theorem dL_law_356 : decode cL_law 356 = .ok (.if_icmp .ne 7, 3) := by decide +kernel
theorem dL_law_359 : decode cL_law 359 = .ok (.iconst 1, 1) := by decide +kernel
theorem dL_law_360 : decode cL_law 360 = .ok (.goto 4, 3) := by decide +kernel
theorem dL_law_363 : decode cL_law 363 = .ok (.iconst 0, 1) := by decide +kernel
theorem dL_law_364 : decode cL_law 364 = .ok (.istore 5, 2) := by decide +kernel
theorem dL_law_366 : decode cL_law 366 = .ok (.goto 460, 3) := by decide +kernel
theorem dL_law_369 : decode cL_law 369 = .ok (.iload 11, 2) := by decide +kernel
theorem dL_law_371 : decode cL_law 371 = .ok (.bipush 8, 2) := by decide +kernel
theorem dL_law_373 : decode cL_law 373 = .ok (.if_icmp .ge 52, 3) := by decide +kernel
theorem dL_law_376 : decode cL_law 376 = .ok (.aload_n 1, 1) := by decide +kernel
theorem dL_law_377 : decode cL_law 377 = .ok (.invokevirtual 62, 3) := by decide +kernel
theorem dL_law_380 : decode cL_law 380 = .ok (.istore 12, 2) := by decide +kernel
theorem dL_law_382 : decode cL_law 382 = .ok (.aload_n 1, 1) := by decide +kernel
theorem dL_law_383 : decode cL_law 383 = .ok (.iload 10, 2) := by decide +kernel
theorem dL_law_385 : decode cL_law 385 = .ok (.iload 9, 2) := by decide +kernel
theorem dL_law_387 : decode cL_law 387 = .ok (.invokevirtual 88, 3) := by decide +kernel
theorem dL_law_390 : decode cL_law 390 = .ok (.iload 12, 2) := by decide +kernel
theorem dL_law_392 : decode cL_law 392 = .ok (.if_icmp .ne 27, 3) := by decide +kernel
theorem dL_law_395 : decode cL_law 395 = .ok (.aload_n 1, 1) := by decide +kernel
theorem dL_law_396 : decode cL_law 396 = .ok (.invokevirtual 62, 3) := by decide +kernel
theorem dL_law_399 : decode cL_law 399 = .ok (.iload 12, 2) := by decide +kernel
theorem dL_law_401 : decode cL_law 401 = .ok (.iconst 1, 1) := by decide +kernel
theorem dL_law_402 : decode cL_law 402 = .ok (.iadd, 1) := by decide +kernel
theorem dL_law_403 : decode cL_law 403 = .ok (.if_icmp .ne 16, 3) := by decide +kernel
theorem dL_law_406 : decode cL_law 406 = .ok (.aload_n 1, 1) := by decide +kernel
theorem dL_law_407 : decode cL_law 407 = .ok (.iload 12, 2) := by decide +kernel
theorem dL_law_409 : decode cL_law 409 = .ok (.invokestatic 91, 3) := by decide +kernel
theorem dL_law_412 : decode cL_law 412 = .ok (.ifCond .eq 7, 3) := by decide +kernel
theorem dL_law_415 : decode cL_law 415 = .ok (.iconst 1, 1) := by decide +kernel
theorem dL_law_416 : decode cL_law 416 = .ok (.goto 4, 3) := by decide +kernel
theorem dL_law_419 : decode cL_law 419 = .ok (.iconst 0, 1) := by decide +kernel
theorem dL_law_420 : decode cL_law 420 = .ok (.istore 5, 2) := by decide +kernel
theorem dL_law_422 : decode cL_law 422 = .ok (.goto 404, 3) := by decide +kernel
theorem dL_law_425 : decode cL_law 425 = .ok (.iload 11, 2) := by decide +kernel
theorem dL_law_427 : decode cL_law 427 = .ok (.bipush 10, 2) := by decide +kernel
theorem dL_law_429 : decode cL_law 429 = .ok (.if_icmp .ge 91, 3) := by decide +kernel
theorem dL_law_432 : decode cL_law 432 = .ok (.iload 4, 2) := by decide +kernel
theorem dL_law_434 : decode cL_law 434 = .ok (.bipush 40, 2) := by decide +kernel
theorem dL_law_436 : decode cL_law 436 = .ok (.if_icmp .ge 84, 3) := by decide +kernel
theorem dL_law_439 : decode cL_law 439 = .ok (.iconst 1, 1) := by decide +kernel
theorem dL_law_440 : decode cL_law 440 = .ok (.iload 8, 2) := by decide +kernel
theorem dL_law_442 : decode cL_law 442 = .ok (.bipush 60, 2) := by decide +kernel
theorem dL_law_444 : decode cL_law 444 = .ok (.invokestatic 69, 3) := by decide +kernel
theorem dL_law_447 : decode cL_law 447 = .ok (.iadd, 1) := by decide +kernel
theorem dL_law_448 : decode cL_law 448 = .ok (.istore 12, 2) := by decide +kernel
theorem dL_law_450 : decode cL_law 450 = .ok (.aload_n 1, 1) := by decide +kernel
theorem dL_law_451 : decode cL_law 451 = .ok (.iload 10, 2) := by decide +kernel
theorem dL_law_453 : decode cL_law 453 = .ok (.iload 9, 2) := by decide +kernel
theorem dL_law_455 : decode cL_law 455 = .ok (.iload 12, 2) := by decide +kernel
theorem dL_law_457 : decode cL_law 457 = .ok (.iload 8, 2) := by decide +kernel
theorem dL_law_459 : decode cL_law 459 = .ok (.bipush 12, 2) := by decide +kernel
theorem dL_law_461 : decode cL_law 461 = .ok (.ishr, 1) := by decide +kernel
theorem dL_law_462 : decode cL_law 462 = .ok (.iconst 2, 1) := by decide +kernel
theorem dL_law_463 : decode cL_law 463 = .ok (.invokestatic 69, 3) := by decide +kernel
theorem dL_law_466 : decode cL_law 466 = .ok (.ifCond .ne 7, 3) := by decide +kernel
theorem dL_law_469 : decode cL_law 469 = .ok (.iconst 1, 1) := by decide +kernel
theorem dL_law_470 : decode cL_law 470 = .ok (.goto 4, 3) := by decide +kernel
theorem dL_law_473 : decode cL_law 473 = .ok (.iconst 0, 1) := by decide +kernel
theorem dL_law_474 : decode cL_law 474 = .ok (.invokevirtual 94, 3) := by decide +kernel
theorem dL_law_477 : decode cL_law 477 = .ok (.iload 4, 2) := by decide +kernel
theorem dL_law_479 : decode cL_law 479 = .ok (.if_icmp .ne 32, 3) := by decide +kernel
theorem dL_law_482 : decode cL_law 482 = .ok (.aload_n 1, 1) := by decide +kernel
theorem dL_law_483 : decode cL_law 483 = .ok (.iload 4, 2) := by decide +kernel
theorem dL_law_485 : decode cL_law 485 = .ok (.invokevirtual 98, 3) := by decide +kernel
theorem dL_law_488 : decode cL_law 488 = .ok (.aload_n 1, 1) := by decide +kernel
theorem dL_law_489 : decode cL_law 489 = .ok (.invokevirtual 33, 3) := by decide +kernel
theorem dL_law_492 : decode cL_law 492 = .ok (.iload 12, 2) := by decide +kernel
theorem dL_law_494 : decode cL_law 494 = .ok (.iadd, 1) := by decide +kernel
theorem dL_law_495 : decode cL_law 495 = .ok (.if_icmp .ne 16, 3) := by decide +kernel
theorem dL_law_498 : decode cL_law 498 = .ok (.aload_n 1, 1) := by decide +kernel
theorem dL_law_499 : decode cL_law 499 = .ok (.iload 4, 2) := by decide +kernel
theorem dL_law_501 : decode cL_law 501 = .ok (.invokevirtual 101, 3) := by decide +kernel
theorem dL_law_504 : decode cL_law 504 = .ok (.ifCond .ne 7, 3) := by decide +kernel
theorem dL_law_507 : decode cL_law 507 = .ok (.iconst 1, 1) := by decide +kernel
theorem dL_law_508 : decode cL_law 508 = .ok (.goto 4, 3) := by decide +kernel
theorem dL_law_511 : decode cL_law 511 = .ok (.iconst 0, 1) := by decide +kernel
theorem dL_law_512 : decode cL_law 512 = .ok (.istore 5, 2) := by decide +kernel
theorem dL_law_514 : decode cL_law 514 = .ok (.iinc 4 1, 3) := by decide +kernel
theorem dL_law_517 : decode cL_law 517 = .ok (.goto 309, 3) := by decide +kernel
theorem dL_law_520 : decode cL_law 520 = .ok (.iload 11, 2) := by decide +kernel
theorem dL_law_522 : decode cL_law 522 = .ok (.bipush 11, 2) := by decide +kernel
theorem dL_law_524 : decode cL_law 524 = .ok (.if_icmp .ge 103, 3) := by decide +kernel
theorem dL_law_527 : decode cL_law 527 = .ok (.aload_n 1, 1) := by decide +kernel
theorem dL_law_528 : decode cL_law 528 = .ok (.invokevirtual 62, 3) := by decide +kernel
theorem dL_law_531 : decode cL_law 531 = .ok (.ifCond .le 96, 3) := by decide +kernel
theorem dL_law_534 : decode cL_law 534 = .ok (.iload 8, 2) := by decide +kernel
theorem dL_law_536 : decode cL_law 536 = .ok (.aload_n 1, 1) := by decide +kernel
theorem dL_law_537 : decode cL_law 537 = .ok (.invokevirtual 62, 3) := by decide +kernel
theorem dL_law_540 : decode cL_law 540 = .ok (.invokestatic 69, 3) := by decide +kernel
theorem dL_law_543 : decode cL_law 543 = .ok (.istore 12, 2) := by decide +kernel
theorem dL_law_545 : decode cL_law 545 = .ok (.aload_n 1, 1) := by decide +kernel
theorem dL_law_546 : decode cL_law 546 = .ok (.invokevirtual 40, 3) := by decide +kernel
theorem dL_law_549 : decode cL_law 549 = .ok (.istore 13, 2) := by decide +kernel
theorem dL_law_551 : decode cL_law 551 = .ok (.aload_n 1, 1) := by decide +kernel
theorem dL_law_552 : decode cL_law 552 = .ok (.iload 12, 2) := by decide +kernel
theorem dL_law_554 : decode cL_law 554 = .ok (.invokestatic 104, 3) := by decide +kernel
theorem dL_law_557 : decode cL_law 557 = .ok (.istore 14, 2) := by decide +kernel
theorem dL_law_559 : decode cL_law 559 = .ok (.iload 14, 2) := by decide +kernel
theorem dL_law_561 : decode cL_law 561 = .ok (.bipush (-3), 2) := by decide +kernel
theorem dL_law_563 : decode cL_law 563 = .ok (.if_icmp .ne 20, 3) := by decide +kernel
theorem dL_law_566 : decode cL_law 566 = .ok (.aload_n 1, 1) := by decide +kernel
theorem dL_law_567 : decode cL_law 567 = .ok (.invokevirtual 40, 3) := by decide +kernel
theorem dL_law_570 : decode cL_law 570 = .ok (.iload 13, 2) := by decide +kernel
theorem dL_law_572 : decode cL_law 572 = .ok (.if_icmp .ne 7, 3) := by decide +kernel
theorem dL_law_575 : decode cL_law 575 = .ok (.iconst 1, 1) := by decide +kernel
theorem dL_law_576 : decode cL_law 576 = .ok (.goto 46, 3) := by decide +kernel
theorem dL_law_579 : decode cL_law 579 = .ok (.iconst 0, 1) := by decide +kernel
theorem dL_law_580 : decode cL_law 580 = .ok (.goto 42, 3) := by decide +kernel
theorem dL_law_583 : decode cL_law 583 = .ok (.iload 14, 2) := by decide +kernel
theorem dL_law_585 : decode cL_law 585 = .ok (.aload_n 1, 1) := by decide +kernel
theorem dL_law_586 : decode cL_law 586 = .ok (.iload 12, 2) := by decide +kernel
theorem dL_law_588 : decode cL_law 588 = .ok (.invokevirtual 43, 3) := by decide +kernel
theorem dL_law_591 : decode cL_law 591 = .ok (.if_icmp .ne 30, 3) := by decide +kernel
theorem dL_law_594 : decode cL_law 594 = .ok (.aload_n 1, 1) := by decide +kernel
theorem dL_law_595 : decode cL_law 595 = .ok (.invokevirtual 40, 3) := by decide +kernel
theorem dL_law_598 : decode cL_law 598 = .ok (.iload 13, 2) := by decide +kernel
theorem dL_law_600 : decode cL_law 600 = .ok (.iload 14, 2) := by decide +kernel
theorem dL_law_602 : decode cL_law 602 = .ok (.isub, 1) := by decide +kernel
theorem dL_law_603 : decode cL_law 603 = .ok (.if_icmp .ne 18, 3) := by decide +kernel
theorem dL_law_606 : decode cL_law 606 = .ok (.aload_n 1, 1) := by decide +kernel
theorem dL_law_607 : decode cL_law 607 = .ok (.iload 12, 2) := by decide +kernel
theorem dL_law_609 : decode cL_law 609 = .ok (.invokestatic 104, 3) := by decide +kernel
theorem dL_law_612 : decode cL_law 612 = .ok (.bipush (-3), 2) := by decide +kernel
theorem dL_law_614 : decode cL_law 614 = .ok (.if_icmp .ne 7, 3) := by decide +kernel
theorem dL_law_617 : decode cL_law 617 = .ok (.iconst 1, 1) := by decide +kernel
theorem dL_law_618 : decode cL_law 618 = .ok (.goto 4, 3) := by decide +kernel
theorem dL_law_621 : decode cL_law 621 = .ok (.iconst 0, 1) := by decide +kernel
theorem dL_law_622 : decode cL_law 622 = .ok (.istore 5, 2) := by decide +kernel
theorem dL_law_624 : decode cL_law 624 = .ok (.goto 202, 3) := by decide +kernel
theorem dL_law_627 : decode cL_law 627 = .ok (.iload 11, 2) := by decide +kernel
theorem dL_law_629 : decode cL_law 629 = .ok (.bipush 12, 2) := by decide +kernel
theorem dL_law_631 : decode cL_law 631 = .ok (.if_icmp .ge 89, 3) := by decide +kernel
theorem dL_law_634 : decode cL_law 634 = .ok (.iload 4, 2) := by decide +kernel
theorem dL_law_636 : decode cL_law 636 = .ok (.ifCond .le 84, 3) := by decide +kernel
theorem dL_law_639 : decode cL_law 639 = .ok (.iload 8, 2) := by decide +kernel
theorem dL_law_641 : decode cL_law 641 = .ok (.iconst 3, 1) := by decide +kernel
theorem dL_law_642 : decode cL_law 642 = .ok (.invokestatic 69, 3) := by decide +kernel
theorem dL_law_645 : decode cL_law 645 = .ok (.ifCond .ne 75, 3) := by decide +kernel
theorem dL_law_648 : decode cL_law 648 = .ok (.iload 8, 2) := by decide +kernel
theorem dL_law_650 : decode cL_law 650 = .ok (.iconst 3, 1) := by decide +kernel
theorem dL_law_651 : decode cL_law 651 = .ok (.ishr, 1) := by decide +kernel
theorem dL_law_652 : decode cL_law 652 = .ok (.iload 4, 2) := by decide +kernel
theorem dL_law_654 : decode cL_law 654 = .ok (.invokestatic 69, 3) := by decide +kernel
theorem dL_law_657 : decode cL_law 657 = .ok (.istore 12, 2) := by decide +kernel
theorem dL_law_659 : decode cL_law 659 = .ok (.aload_n 1, 1) := by decide +kernel
theorem dL_law_660 : decode cL_law 660 = .ok (.iload 12, 2) := by decide +kernel
theorem dL_law_662 : decode cL_law 662 = .ok (.invokevirtual 101, 3) := by decide +kernel
theorem dL_law_665 : decode cL_law 665 = .ok (.istore 13, 2) := by decide +kernel
theorem dL_law_667 : decode cL_law 667 = .ok (.aload_n 1, 1) := by decide +kernel
theorem dL_law_668 : decode cL_law 668 = .ok (.iload 12, 2) := by decide +kernel
theorem dL_law_670 : decode cL_law 670 = .ok (.invokestatic 107, 3) := by decide +kernel
theorem dL_law_673 : decode cL_law 673 = .ok (.istore 14, 2) := by decide +kernel
theorem dL_law_675 : decode cL_law 675 = .ok (.iload 14, 2) := by decide +kernel
theorem dL_law_677 : decode cL_law 677 = .ok (.bipush (-3), 2) := by decide +kernel
theorem dL_law_679 : decode cL_law 679 = .ok (.if_icmp .eq 10, 3) := by decide +kernel
theorem dL_law_682 : decode cL_law 682 = .ok (.iload 14, 2) := by decide +kernel
theorem dL_law_684 : decode cL_law 684 = .ok (.iload 13, 2) := by decide +kernel
theorem dL_law_686 : decode cL_law 686 = .ok (.if_icmp .ne 28, 3) := by decide +kernel
theorem dL_law_689 : decode cL_law 689 = .ok (.aload_n 1, 1) := by decide +kernel
theorem dL_law_690 : decode cL_law 690 = .ok (.iload 12, 2) := by decide +kernel
theorem dL_law_692 : decode cL_law 692 = .ok (.invokevirtual 98, 3) := by decide +kernel
theorem dL_law_695 : decode cL_law 695 = .ok (.iconst (-1), 1) := by decide +kernel
theorem dL_law_696 : decode cL_law 696 = .ok (.if_icmp .ne 18, 3) := by decide +kernel
theorem dL_law_699 : decode cL_law 699 = .ok (.aload_n 1, 1) := by decide +kernel
theorem dL_law_700 : decode cL_law 700 = .ok (.iload 12, 2) := by decide +kernel
theorem dL_law_702 : decode cL_law 702 = .ok (.invokevirtual 101, 3) := by decide +kernel
theorem dL_law_705 : decode cL_law 705 = .ok (.iload 13, 2) := by decide +kernel
theorem dL_law_707 : decode cL_law 707 = .ok (.if_icmp .ne 7, 3) := by decide +kernel
theorem dL_law_710 : decode cL_law 710 = .ok (.iconst 1, 1) := by decide +kernel
theorem dL_law_711 : decode cL_law 711 = .ok (.goto 4, 3) := by decide +kernel
theorem dL_law_714 : decode cL_law 714 = .ok (.iconst 0, 1) := by decide +kernel
theorem dL_law_715 : decode cL_law 715 = .ok (.istore 5, 2) := by decide +kernel
theorem dL_law_717 : decode cL_law 717 = .ok (.goto 109, 3) := by decide +kernel
theorem dL_law_720 : decode cL_law 720 = .ok (.iconst 1, 1) := by decide +kernel
theorem dL_law_721 : decode cL_law 721 = .ok (.iload 8, 2) := by decide +kernel
theorem dL_law_723 : decode cL_law 723 = .ok (.iload 8, 2) := by decide +kernel
theorem dL_law_725 : decode cL_law 725 = .ok (.bipush 9, 2) := by decide +kernel
theorem dL_law_727 : decode cL_law 727 = .ok (.ishr, 1) := by decide +kernel
theorem dL_law_728 : decode cL_law 728 = .ok (.iconst 3, 1) := by decide +kernel
theorem dL_law_729 : decode cL_law 729 = .ok (.invokestatic 69, 3) := by decide +kernel
theorem dL_law_732 : decode cL_law 732 = .ok (.ifCond .ne 9, 3) := by decide +kernel
theorem dL_law_735 : decode cL_law 735 = .ok (.sipush 200, 3) := by decide +kernel
theorem dL_law_738 : decode cL_law 738 = .ok (.goto 5, 3) := by decide +kernel
theorem dL_law_741 : decode cL_law 741 = .ok (.bipush 31, 2) := by decide +kernel
theorem dL_law_743 : decode cL_law 743 = .ok (.invokestatic 69, 3) := by decide +kernel
theorem dL_law_746 : decode cL_law 746 = .ok (.iadd, 1) := by decide +kernel
theorem dL_law_747 : decode cL_law 747 = .ok (.istore 12, 2) := by decide +kernel
theorem dL_law_749 : decode cL_law 749 = .ok (.aload_n 1, 1) := by decide +kernel
theorem dL_law_750 : decode cL_law 750 = .ok (.invokevirtual 33, 3) := by decide +kernel
theorem dL_law_753 : decode cL_law 753 = .ok (.istore 13, 2) := by decide +kernel
theorem dL_law_755 : decode cL_law 755 = .ok (.aload_n 1, 1) := by decide +kernel
theorem dL_law_756 : decode cL_law 756 = .ok (.invokevirtual 62, 3) := by decide +kernel
theorem dL_law_759 : decode cL_law 759 = .ok (.istore 14, 2) := by decide +kernel
theorem dL_law_761 : decode cL_law 761 = .ok (.aload_n 1, 1) := by decide +kernel
theorem dL_law_762 : decode cL_law 762 = .ok (.iload 12, 2) := by decide +kernel
theorem dL_law_764 : decode cL_law 764 = .ok (.invokestatic 109, 3) := by decide +kernel
theorem dL_law_767 : decode cL_law 767 = .ok (.istore 15, 2) := by decide +kernel
theorem dL_law_769 : decode cL_law 769 = .ok (.iload 15, 2) := by decide +kernel
theorem dL_law_771 : decode cL_law 771 = .ok (.bipush (-3), 2) := by decide +kernel
theorem dL_law_773 : decode cL_law 773 = .ok (.if_icmp .ne 22, 3) := by decide +kernel
theorem dL_law_776 : decode cL_law 776 = .ok (.iload 13, 2) := by decide +kernel
theorem dL_law_778 : decode cL_law 778 = .ok (.iload 12, 2) := by decide +kernel
theorem dL_law_780 : decode cL_law 780 = .ok (.iadd, 1) := by decide +kernel
theorem dL_law_781 : decode cL_law 781 = .ok (.sipush 3600, 3) := by decide +kernel
theorem dL_law_784 : decode cL_law 784 = .ok (.if_icmp .le 7, 3) := by decide +kernel
theorem dL_law_787 : decode cL_law 787 = .ok (.iconst 1, 1) := by decide +kernel
theorem dL_law_788 : decode cL_law 788 = .ok (.goto 36, 3) := by decide +kernel
theorem dL_law_791 : decode cL_law 791 = .ok (.iconst 0, 1) := by decide +kernel
theorem dL_law_792 : decode cL_law 792 = .ok (.goto 32, 3) := by decide +kernel
theorem dL_law_795 : decode cL_law 795 = .ok (.aload_n 1, 1) := by decide +kernel
theorem dL_law_796 : decode cL_law 796 = .ok (.invokevirtual 33, 3) := by decide +kernel
theorem dL_law_799 : decode cL_law 799 = .ok (.iload 13, 2) := by decide +kernel
theorem dL_law_801 : decode cL_law 801 = .ok (.iload 12, 2) := by decide +kernel
theorem dL_law_803 : decode cL_law 803 = .ok (.iadd, 1) := by decide +kernel
theorem dL_law_804 : decode cL_law 804 = .ok (.if_icmp .ne 19, 3) := by decide +kernel
theorem dL_law_807 : decode cL_law 807 = .ok (.aload_n 1, 1) := by decide +kernel
theorem dL_law_808 : decode cL_law 808 = .ok (.invokevirtual 62, 3) := by decide +kernel
theorem dL_law_811 : decode cL_law 811 = .ok (.iload 14, 2) := by decide +kernel
theorem dL_law_813 : decode cL_law 813 = .ok (.iload 15, 2) := by decide +kernel
theorem dL_law_815 : decode cL_law 815 = .ok (.iadd, 1) := by decide +kernel
theorem dL_law_816 : decode cL_law 816 = .ok (.if_icmp .ne 7, 3) := by decide +kernel
theorem dL_law_819 : decode cL_law 819 = .ok (.iconst 1, 1) := by decide +kernel
theorem dL_law_820 : decode cL_law 820 = .ok (.goto 4, 3) := by decide +kernel
theorem dL_law_823 : decode cL_law 823 = .ok (.iconst 0, 1) := by decide +kernel
theorem dL_law_824 : decode cL_law 824 = .ok (.istore 5, 2) := by decide +kernel
theorem dL_law_826 : decode cL_law 826 = .ok (.iload 5, 2) := by decide +kernel
theorem dL_law_828 : decode cL_law 828 = .ok (.ifCond .eq 15, 3) := by decide +kernel
theorem dL_law_831 : decode cL_law 831 = .ok (.aload_n 1, 1) := by decide +kernel
theorem dL_law_832 : decode cL_law 832 = .ok (.iload_n 2, 1) := by decide +kernel
theorem dL_law_833 : decode cL_law 833 = .ok (.invokestatic 56, 3) := by decide +kernel
theorem dL_law_836 : decode cL_law 836 = .ok (.ifCond .eq 7, 3) := by decide +kernel
theorem dL_law_839 : decode cL_law 839 = .ok (.iconst 1, 1) := by decide +kernel
theorem dL_law_840 : decode cL_law 840 = .ok (.goto 4, 3) := by decide +kernel
theorem dL_law_843 : decode cL_law 843 = .ok (.iconst 0, 1) := by decide +kernel
theorem dL_law_844 : decode cL_law 844 = .ok (.istore 5, 2) := by decide +kernel
theorem dL_law_846 : decode cL_law 846 = .ok (.iinc 7 1, 3) := by decide +kernel
theorem dL_law_849 : decode cL_law 849 = .ok (.goto (-787), 3) := by decide +kernel
theorem dL_law_852 : decode cL_law 852 = .ok (.iload 5, 2) := by decide +kernel
theorem dL_law_854 : decode cL_law 854 = .ok (.ireturn, 1) := by decide +kernel
