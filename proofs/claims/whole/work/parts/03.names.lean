theorem dX6_init_0 : decode cX6_init 0 = .ok (.aload_n 0, 1) := by decide +kernel
theorem dX6_init_1 : decode cX6_init 1 = .ok (.invokespecial 1, 3) := by decide +kernel
theorem dX6_init_4 : decode cX6_init 4 = .ok (.aload_n 0, 1) := by decide +kernel
theorem dX6_init_5 : decode cX6_init 5 = .ok (.iconst 5, 1) := by decide +kernel
theorem dX6_init_6 : decode cX6_init 6 = .ok (.newarray .int, 2) := by decide +kernel
theorem dX6_init_8 : decode cX6_init 8 = .ok (.putfield 7, 3) := by decide +kernel
theorem dX6_init_11 : decode cX6_init 11 = .ok (.aload_n 0, 1) := by decide +kernel
theorem dX6_init_12 : decode cX6_init 12 = .ok (.iconst 5, 1) := by decide +kernel
theorem dX6_init_13 : decode cX6_init 13 = .ok (.newarray .int, 2) := by decide +kernel
theorem dX6_init_15 : decode cX6_init 15 = .ok (.putfield 13, 3) := by decide +kernel
theorem dX6_init_18 : decode cX6_init 18 = .ok (.aload_n 0, 1) := by decide +kernel
theorem dX6_init_19 : decode cX6_init 19 = .ok (.iconst 5, 1) := by decide +kernel
theorem dX6_init_20 : decode cX6_init 20 = .ok (.newarray .int, 2) := by decide +kernel
theorem dX6_init_22 : decode cX6_init 22 = .ok (.putfield 16, 3) := by decide +kernel
theorem dX6_init_25 : decode cX6_init 25 = .ok (.aload_n 0, 1) := by decide +kernel
theorem dX6_init_26 : decode cX6_init 26 = .ok (.bipush 6, 2) := by decide +kernel
theorem dX6_init_28 : decode cX6_init 28 = .ok (.newarray .int, 2) := by decide +kernel
theorem dX6_init_30 : decode cX6_init 30 = .ok (.putfield 19, 3) := by decide +kernel
theorem dX6_init_33 : decode cX6_init 33 = .ok (.aload_n 0, 1) := by decide +kernel
theorem dX6_init_34 : decode cX6_init 34 = .ok (.bipush 6, 2) := by decide +kernel
theorem dX6_init_36 : decode cX6_init 36 = .ok (.newarray .int, 2) := by decide +kernel
theorem dX6_init_38 : decode cX6_init 38 = .ok (.putfield 22, 3) := by decide +kernel
theorem dX6_init_41 : decode cX6_init 41 = .ok (.aload_n 0, 1) := by decide +kernel
theorem dX6_init_42 : decode cX6_init 42 = .ok (.bipush 6, 2) := by decide +kernel
theorem dX6_init_44 : decode cX6_init 44 = .ok (.newarray .int, 2) := by decide +kernel
theorem dX6_init_46 : decode cX6_init 46 = .ok (.putfield 25, 3) := by decide +kernel
theorem dX6_init_49 : decode cX6_init 49 = .ok (.aload_n 0, 1) := by decide +kernel
theorem dX6_init_50 : decode cX6_init 50 = .ok (.bipush 6, 2) := by decide +kernel
theorem dX6_init_52 : decode cX6_init 52 = .ok (.newarray .int, 2) := by decide +kernel
theorem dX6_init_54 : decode cX6_init 54 = .ok (.putfield 28, 3) := by decide +kernel
theorem dX6_init_57 : decode cX6_init 57 = .ok (.aload_n 0, 1) := by decide +kernel
theorem dX6_init_58 : decode cX6_init 58 = .ok (.sipush 720, 3) := by decide +kernel
theorem dX6_init_61 : decode cX6_init 61 = .ok (.newarray .int, 2) := by decide +kernel
theorem dX6_init_63 : decode cX6_init 63 = .ok (.putfield 31, 3) := by decide +kernel
theorem dX6_init_66 : decode cX6_init 66 = .ok (.aload_n 0, 1) := by decide +kernel
theorem dX6_init_67 : decode cX6_init 67 = .ok (.bipush 20, 2) := by decide +kernel
theorem dX6_init_69 : decode cX6_init 69 = .ok (.newarray .int, 2) := by decide +kernel
theorem dX6_init_71 : decode cX6_init 71 = .ok (.putfield 34, 3) := by decide +kernel
theorem dX6_init_74 : decode cX6_init 74 = .ok (.aload_n 0, 1) := by decide +kernel
theorem dX6_init_75 : decode cX6_init 75 = .ok (.bipush 100, 2) := by decide +kernel
theorem dX6_init_77 : decode cX6_init 77 = .ok (.newarray .int, 2) := by decide +kernel
theorem dX6_init_79 : decode cX6_init 79 = .ok (.putfield 37, 3) := by decide +kernel
theorem dX6_init_82 : decode cX6_init 82 = .ok (.aload_n 0, 1) := by decide +kernel
theorem dX6_init_83 : decode cX6_init 83 = .ok (.sipush 5400, 3) := by decide +kernel
theorem dX6_init_86 : decode cX6_init 86 = .ok (.newarray .long, 2) := by decide +kernel
theorem dX6_init_88 : decode cX6_init 88 = .ok (.putfield 40, 3) := by decide +kernel
theorem dX6_init_91 : decode cX6_init 91 = .ok (.aload_n 0, 1) := by decide +kernel
theorem dX6_init_92 : decode cX6_init 92 = .ok (.bipush 40, 2) := by decide +kernel
theorem dX6_init_94 : decode cX6_init 94 = .ok (.newarray .int, 2) := by decide +kernel
theorem dX6_init_96 : decode cX6_init 96 = .ok (.putfield 44, 3) := by decide +kernel
theorem dX6_init_99 : decode cX6_init 99 = .ok (.aload_n 0, 1) := by decide +kernel
theorem dX6_init_100 : decode cX6_init 100 = .ok (.bipush 40, 2) := by decide +kernel
theorem dX6_init_102 : decode cX6_init 102 = .ok (.newarray .int, 2) := by decide +kernel
theorem dX6_init_104 : decode cX6_init 104 = .ok (.putfield 47, 3) := by decide +kernel
theorem dX6_init_107 : decode cX6_init 107 = .ok (.aload_n 0, 1) := by decide +kernel
theorem dX6_init_108 : decode cX6_init 108 = .ok (.bipush 40, 2) := by decide +kernel
theorem dX6_init_110 : decode cX6_init 110 = .ok (.newarray .int, 2) := by decide +kernel
theorem dX6_init_112 : decode cX6_init 112 = .ok (.putfield 50, 3) := by decide +kernel
theorem dX6_init_115 : decode cX6_init 115 = .ok (.aload_n 0, 1) := by decide +kernel
theorem dX6_init_116 : decode cX6_init 116 = .ok (.bipush 40, 2) := by decide +kernel
theorem dX6_init_118 : decode cX6_init 118 = .ok (.newarray .int, 2) := by decide +kernel
theorem dX6_init_120 : decode cX6_init 120 = .ok (.putfield 53, 3) := by decide +kernel
theorem dX6_init_123 : decode cX6_init 123 = .ok (.aload_n 0, 1) := by decide +kernel
theorem dX6_init_124 : decode cX6_init 124 = .ok (.bipush 40, 2) := by decide +kernel
theorem dX6_init_126 : decode cX6_init 126 = .ok (.newarray .int, 2) := by decide +kernel
theorem dX6_init_128 : decode cX6_init 128 = .ok (.putfield 56, 3) := by decide +kernel
theorem dX6_init_131 : decode cX6_init 131 = .ok (.aload_n 0, 1) := by decide +kernel
theorem dX6_init_132 : decode cX6_init 132 = .ok (.bipush 40, 2) := by decide +kernel
theorem dX6_init_134 : decode cX6_init 134 = .ok (.newarray .int, 2) := by decide +kernel
theorem dX6_init_136 : decode cX6_init 136 = .ok (.putfield 59, 3) := by decide +kernel
theorem dX6_init_139 : decode cX6_init 139 = .ok (.aload_n 0, 1) := by decide +kernel
theorem dX6_init_140 : decode cX6_init 140 = .ok (.bipush 40, 2) := by decide +kernel
theorem dX6_init_142 : decode cX6_init 142 = .ok (.newarray .int, 2) := by decide +kernel
theorem dX6_init_144 : decode cX6_init 144 = .ok (.putfield 62, 3) := by decide +kernel
theorem dX6_init_147 : decode cX6_init 147 = .ok (.return_, 1) := by decide +kernel
theorem dX6_thrown_0 : decode cX6_thrown 0 = .ok (.aload_n 0, 1) := by decide +kernel
theorem dX6_thrown_1 : decode cX6_thrown 1 = .ok (.getfield 65, 3) := by decide +kernel
theorem dX6_thrown_4 : decode cX6_thrown 4 = .ok (.ireturn, 1) := by decide +kernel
theorem dX6_fails_0 : decode cX6_fails 0 = .ok (.aload_n 0, 1) := by decide +kernel
theorem dX6_fails_1 : decode cX6_fails 1 = .ok (.iload_n 1, 1) := by decide +kernel
theorem dX6_fails_2 : decode cX6_fails 2 = .ok (.putfield 65, 3) := by decide +kernel
theorem dX6_fails_5 : decode cX6_fails 5 = .ok (.iconst 0, 1) := by decide +kernel
theorem dX6_fails_6 : decode cX6_fails 6 = .ok (.ireturn, 1) := by decide +kernel
theorem dX6_in_0 : decode cX6_in 0 = .ok (.iload_n 0, 1) := by decide +kernel
theorem dX6_in_1 : decode cX6_in 1 = .ok (.iload_n 1, 1) := by decide +kernel
theorem dX6_in_2 : decode cX6_in 2 = .ok (.if_icmp .lt 12, 3) := by decide +kernel
theorem dX6_in_5 : decode cX6_in 5 = .ok (.iload_n 0, 1) := by decide +kernel
theorem dX6_in_6 : decode cX6_in 6 = .ok (.iload_n 2, 1) := by decide +kernel
theorem dX6_in_7 : decode cX6_in 7 = .ok (.if_icmp .gt 7, 3) := by decide +kernel
theorem dX6_in_10 : decode cX6_in 10 = .ok (.iconst 1, 1) := by decide +kernel
theorem dX6_in_11 : decode cX6_in 11 = .ok (.goto 4, 3) := by decide +kernel
theorem dX6_in_14 : decode cX6_in 14 = .ok (.iconst 0, 1) := by decide +kernel
theorem dX6_in_15 : decode cX6_in 15 = .ok (.ireturn, 1) := by decide +kernel
theorem dX6_setTax_0 : decode cX6_setTax 0 = .ok (.aload_n 0, 1) := by decide +kernel
theorem dX6_setTax_1 : decode cX6_setTax 1 = .ok (.iload_n 1, 1) := by decide +kernel
theorem dX6_setTax_2 : decode cX6_setTax 2 = .ok (.iconst 0, 1) := by decide +kernel
theorem dX6_setTax_3 : decode cX6_setTax 3 = .ok (.iconst 4, 1) := by decide +kernel
theorem dX6_setTax_4 : decode cX6_setTax 4 = .ok (.invokestatic 69, 3) := by decide +kernel
theorem dX6_setTax_7 : decode cX6_setTax 7 = .ok (.ifCond .eq 17, 3) := by decide +kernel
theorem dX6_setTax_10 : decode cX6_setTax 10 = .ok (.iload_n 2, 1) := by decide +kernel
theorem dX6_setTax_11 : decode cX6_setTax 11 = .ok (.iconst 0, 1) := by decide +kernel
theorem dX6_setTax_12 : decode cX6_setTax 12 = .ok (.bipush 30, 2) := by decide +kernel
theorem dX6_setTax_14 : decode cX6_setTax 14 = .ok (.invokestatic 69, 3) := by decide +kernel
theorem dX6_setTax_17 : decode cX6_setTax 17 = .ok (.ifCond .eq 7, 3) := by decide +kernel
theorem dX6_setTax_20 : decode cX6_setTax 20 = .ok (.iconst 0, 1) := by decide +kernel
theorem dX6_setTax_21 : decode cX6_setTax 21 = .ok (.goto 4, 3) := by decide +kernel
theorem dX6_setTax_24 : decode cX6_setTax 24 = .ok (.iconst 1, 1) := by decide +kernel
theorem dX6_setTax_25 : decode cX6_setTax 25 = .ok (.putfield 65, 3) := by decide +kernel
theorem dX6_setTax_28 : decode cX6_setTax 28 = .ok (.aload_n 0, 1) := by decide +kernel
theorem dX6_setTax_29 : decode cX6_setTax 29 = .ok (.getfield 65, 3) := by decide +kernel
theorem dX6_setTax_32 : decode cX6_setTax 32 = .ok (.ifCond .le 5, 3) := by decide +kernel
theorem dX6_setTax_35 : decode cX6_setTax 35 = .ok (.iconst 0, 1) := by decide +kernel
theorem dX6_setTax_36 : decode cX6_setTax 36 = .ok (.ireturn, 1) := by decide +kernel
theorem dX6_setTax_37 : decode cX6_setTax 37 = .ok (.aload_n 0, 1) := by decide +kernel
theorem dX6_setTax_38 : decode cX6_setTax 38 = .ok (.getfield 7, 3) := by decide +kernel
theorem dX6_setTax_41 : decode cX6_setTax 41 = .ok (.iload_n 1, 1) := by decide +kernel
theorem dX6_setTax_42 : decode cX6_setTax 42 = .ok (.iaload, 1) := by decide +kernel
theorem dX6_setTax_43 : decode cX6_setTax 43 = .ok (.istore 4, 2) := by decide +kernel
theorem dX6_setTax_45 : decode cX6_setTax 45 = .ok (.aload_n 0, 1) := by decide +kernel
theorem dX6_setTax_46 : decode cX6_setTax 46 = .ok (.getfield 7, 3) := by decide +kernel
theorem dX6_setTax_49 : decode cX6_setTax 49 = .ok (.iload_n 1, 1) := by decide +kernel
theorem dX6_setTax_50 : decode cX6_setTax 50 = .ok (.iload_n 2, 1) := by decide +kernel
theorem dX6_setTax_51 : decode cX6_setTax 51 = .ok (.iastore, 1) := by decide +kernel
theorem dX6_setTax_52 : decode cX6_setTax 52 = .ok (.aload_n 0, 1) := by decide +kernel
theorem dX6_setTax_53 : decode cX6_setTax 53 = .ok (.getfield 13, 3) := by decide +kernel
theorem dX6_setTax_56 : decode cX6_setTax 56 = .ok (.iload_n 1, 1) := by decide +kernel
theorem dX6_setTax_57 : decode cX6_setTax 57 = .ok (.iload_n 3, 1) := by decide +kernel
theorem dX6_setTax_58 : decode cX6_setTax 58 = .ok (.ifCond .eq 7, 3) := by decide +kernel
theorem dX6_setTax_61 : decode cX6_setTax 61 = .ok (.iconst 0, 1) := by decide +kernel
theorem dX6_setTax_62 : decode cX6_setTax 62 = .ok (.goto 4, 3) := by decide +kernel
theorem dX6_setTax_65 : decode cX6_setTax 65 = .ok (.iconst 1, 1) := by decide +kernel
theorem dX6_setTax_66 : decode cX6_setTax 66 = .ok (.iastore, 1) := by decide +kernel
theorem dX6_setTax_67 : decode cX6_setTax 67 = .ok (.iload 4, 2) := by decide +kernel
theorem dX6_setTax_69 : decode cX6_setTax 69 = .ok (.ireturn, 1) := by decide +kernel
theorem dX6_addMaker_0 : decode cX6_addMaker 0 = .ok (.aload_n 0, 1) := by decide +kernel
theorem dX6_addMaker_1 : decode cX6_addMaker 1 = .ok (.iload_n 1, 1) := by decide +kernel
theorem dX6_addMaker_2 : decode cX6_addMaker 2 = .ok (.iconst 0, 1) := by decide +kernel
theorem dX6_addMaker_3 : decode cX6_addMaker 3 = .ok (.ldc 73, 2) := by decide +kernel
theorem dX6_addMaker_5 : decode cX6_addMaker 5 = .ok (.invokestatic 69, 3) := by decide +kernel
theorem dX6_addMaker_8 : decode cX6_addMaker 8 = .ok (.ifCond .ne 7, 3) := by decide +kernel
theorem dX6_addMaker_11 : decode cX6_addMaker 11 = .ok (.iconst 1, 1) := by decide +kernel
theorem dX6_addMaker_12 : decode cX6_addMaker 12 = .ok (.goto 17, 3) := by decide +kernel
theorem dX6_addMaker_15 : decode cX6_addMaker 15 = .ok (.aload_n 0, 1) := by decide +kernel
theorem dX6_addMaker_16 : decode cX6_addMaker 16 = .ok (.getfield 74, 3) := by decide +kernel
theorem dX6_addMaker_19 : decode cX6_addMaker 19 = .ok (.bipush 6, 2) := by decide +kernel
theorem dX6_addMaker_21 : decode cX6_addMaker 21 = .ok (.if_icmp .ne 7, 3) := by decide +kernel
theorem dX6_addMaker_24 : decode cX6_addMaker 24 = .ok (.iconst 2, 1) := by decide +kernel
theorem dX6_addMaker_25 : decode cX6_addMaker 25 = .ok (.goto 4, 3) := by decide +kernel
theorem dX6_addMaker_28 : decode cX6_addMaker 28 = .ok (.iconst 0, 1) := by decide +kernel
theorem dX6_addMaker_29 : decode cX6_addMaker 29 = .ok (.putfield 65, 3) := by decide +kernel
theorem dX6_addMaker_32 : decode cX6_addMaker 32 = .ok (.aload_n 0, 1) := by decide +kernel
theorem dX6_addMaker_33 : decode cX6_addMaker 33 = .ok (.getfield 65, 3) := by decide +kernel
theorem dX6_addMaker_36 : decode cX6_addMaker 36 = .ok (.ifCond .le 5, 3) := by decide +kernel
theorem dX6_addMaker_39 : decode cX6_addMaker 39 = .ok (.iconst 0, 1) := by decide +kernel
theorem dX6_addMaker_40 : decode cX6_addMaker 40 = .ok (.ireturn, 1) := by decide +kernel
theorem dX6_addMaker_41 : decode cX6_addMaker 41 = .ok (.aload_n 0, 1) := by decide +kernel
theorem dX6_addMaker_42 : decode cX6_addMaker 42 = .ok (.getfield 19, 3) := by decide +kernel
theorem dX6_addMaker_45 : decode cX6_addMaker 45 = .ok (.aload_n 0, 1) := by decide +kernel
theorem dX6_addMaker_46 : decode cX6_addMaker 46 = .ok (.getfield 74, 3) := by decide +kernel
theorem dX6_addMaker_49 : decode cX6_addMaker 49 = .ok (.iload_n 1, 1) := by decide +kernel
theorem dX6_addMaker_50 : decode cX6_addMaker 50 = .ok (.iastore, 1) := by decide +kernel
theorem dX6_addMaker_51 : decode cX6_addMaker 51 = .ok (.aload_n 0, 1) := by decide +kernel
theorem dX6_addMaker_52 : decode cX6_addMaker 52 = .ok (.dup, 1) := by decide +kernel
theorem dX6_addMaker_53 : decode cX6_addMaker 53 = .ok (.getfield 74, 3) := by decide +kernel
theorem dX6_addMaker_56 : decode cX6_addMaker 56 = .ok (.iconst 1, 1) := by decide +kernel
theorem dX6_addMaker_57 : decode cX6_addMaker 57 = .ok (.iadd, 1) := by decide +kernel
theorem dX6_addMaker_58 : decode cX6_addMaker 58 = .ok (.putfield 74, 3) := by decide +kernel
theorem dX6_addMaker_61 : decode cX6_addMaker 61 = .ok (.aload_n 0, 1) := by decide +kernel
theorem dX6_addMaker_62 : decode cX6_addMaker 62 = .ok (.getfield 74, 3) := by decide +kernel
theorem dX6_addMaker_65 : decode cX6_addMaker 65 = .ok (.iconst 1, 1) := by decide +kernel
theorem dX6_addMaker_66 : decode cX6_addMaker 66 = .ok (.isub, 1) := by decide +kernel
theorem dX6_addMaker_67 : decode cX6_addMaker 67 = .ok (.ireturn, 1) := by decide +kernel
theorem dX6_addProduct_0 : decode cX6_addProduct 0 = .ok (.aload_n 0, 1) := by decide +kernel
theorem dX6_addProduct_1 : decode cX6_addProduct 1 = .ok (.iload_n 1, 1) := by decide +kernel
theorem dX6_addProduct_2 : decode cX6_addProduct 2 = .ok (.iconst 0, 1) := by decide +kernel
theorem dX6_addProduct_3 : decode cX6_addProduct 3 = .ok (.aload_n 0, 1) := by decide +kernel
theorem dX6_addProduct_4 : decode cX6_addProduct 4 = .ok (.getfield 74, 3) := by decide +kernel
theorem dX6_addProduct_7 : decode cX6_addProduct 7 = .ok (.iconst 1, 1) := by decide +kernel
theorem dX6_addProduct_8 : decode cX6_addProduct 8 = .ok (.isub, 1) := by decide +kernel
theorem dX6_addProduct_9 : decode cX6_addProduct 9 = .ok (.invokestatic 69, 3) := by decide +kernel
theorem dX6_addProduct_12 : decode cX6_addProduct 12 = .ok (.ifCond .ne 7, 3) := by decide +kernel
theorem dX6_addProduct_15 : decode cX6_addProduct 15 = .ok (.iconst 1, 1) := by decide +kernel
theorem dX6_addProduct_16 : decode cX6_addProduct 16 = .ok (.goto 31, 3) := by decide +kernel
theorem dX6_addProduct_19 : decode cX6_addProduct 19 = .ok (.iload_n 2, 1) := by decide +kernel
theorem dX6_addProduct_20 : decode cX6_addProduct 20 = .ok (.iconst 0, 1) := by decide +kernel
theorem dX6_addProduct_21 : decode cX6_addProduct 21 = .ok (.ldc 77, 2) := by decide +kernel
theorem dX6_addProduct_23 : decode cX6_addProduct 23 = .ok (.invokestatic 69, 3) := by decide +kernel
theorem dX6_addProduct_26 : decode cX6_addProduct 26 = .ok (.ifCond .ne 7, 3) := by decide +kernel
theorem dX6_addProduct_29 : decode cX6_addProduct 29 = .ok (.iconst 2, 1) := by decide +kernel
theorem dX6_addProduct_30 : decode cX6_addProduct 30 = .ok (.goto 17, 3) := by decide +kernel
theorem dX6_addProduct_33 : decode cX6_addProduct 33 = .ok (.aload_n 0, 1) := by decide +kernel
theorem dX6_addProduct_34 : decode cX6_addProduct 34 = .ok (.getfield 78, 3) := by decide +kernel
theorem dX6_addProduct_37 : decode cX6_addProduct 37 = .ok (.bipush 20, 2) := by decide +kernel
theorem dX6_addProduct_39 : decode cX6_addProduct 39 = .ok (.if_icmp .ne 7, 3) := by decide +kernel
theorem dX6_addProduct_42 : decode cX6_addProduct 42 = .ok (.iconst 3, 1) := by decide +kernel
theorem dX6_addProduct_43 : decode cX6_addProduct 43 = .ok (.goto 4, 3) := by decide +kernel
theorem dX6_addProduct_46 : decode cX6_addProduct 46 = .ok (.iconst 0, 1) := by decide +kernel
theorem dX6_addProduct_47 : decode cX6_addProduct 47 = .ok (.putfield 65, 3) := by decide +kernel
theorem dX6_addProduct_50 : decode cX6_addProduct 50 = .ok (.aload_n 0, 1) := by decide +kernel
theorem dX6_addProduct_51 : decode cX6_addProduct 51 = .ok (.getfield 65, 3) := by decide +kernel
theorem dX6_addProduct_54 : decode cX6_addProduct 54 = .ok (.ifCond .le 5, 3) := by decide +kernel
theorem dX6_addProduct_57 : decode cX6_addProduct 57 = .ok (.iconst 0, 1) := by decide +kernel
theorem dX6_addProduct_58 : decode cX6_addProduct 58 = .ok (.ireturn, 1) := by decide +kernel
theorem dX6_addProduct_59 : decode cX6_addProduct 59 = .ok (.aload_n 0, 1) := by decide +kernel
theorem dX6_addProduct_60 : decode cX6_addProduct 60 = .ok (.getfield 34, 3) := by decide +kernel
theorem dX6_addProduct_63 : decode cX6_addProduct 63 = .ok (.aload_n 0, 1) := by decide +kernel
theorem dX6_addProduct_64 : decode cX6_addProduct 64 = .ok (.getfield 78, 3) := by decide +kernel
theorem dX6_addProduct_67 : decode cX6_addProduct 67 = .ok (.iload_n 1, 1) := by decide +kernel
theorem dX6_addProduct_68 : decode cX6_addProduct 68 = .ok (.iastore, 1) := by decide +kernel
theorem dX6_addProduct_69 : decode cX6_addProduct 69 = .ok (.iconst 0, 1) := by decide +kernel
theorem dX6_addProduct_70 : decode cX6_addProduct 70 = .ok (.istore_n 3, 1) := by decide +kernel
theorem dX6_addProduct_71 : decode cX6_addProduct 71 = .ok (.iload_n 3, 1) := by decide +kernel
theorem dX6_addProduct_72 : decode cX6_addProduct 72 = .ok (.iconst 5, 1) := by decide +kernel
theorem dX6_addProduct_73 : decode cX6_addProduct 73 = .ok (.if_icmp .ge 23, 3) := by decide +kernel
theorem dX6_addProduct_76 : decode cX6_addProduct 76 = .ok (.aload_n 0, 1) := by decide +kernel
theorem dX6_addProduct_77 : decode cX6_addProduct 77 = .ok (.getfield 37, 3) := by decide +kernel
theorem dX6_addProduct_80 : decode cX6_addProduct 80 = .ok (.iconst 5, 1) := by decide +kernel
theorem dX6_addProduct_81 : decode cX6_addProduct 81 = .ok (.aload_n 0, 1) := by decide +kernel
theorem dX6_addProduct_82 : decode cX6_addProduct 82 = .ok (.getfield 78, 3) := by decide +kernel
theorem dX6_addProduct_85 : decode cX6_addProduct 85 = .ok (.imul, 1) := by decide +kernel
theorem dX6_addProduct_86 : decode cX6_addProduct 86 = .ok (.iload_n 3, 1) := by decide +kernel
theorem dX6_addProduct_87 : decode cX6_addProduct 87 = .ok (.iadd, 1) := by decide +kernel
theorem dX6_addProduct_88 : decode cX6_addProduct 88 = .ok (.iload_n 2, 1) := by decide +kernel
theorem dX6_addProduct_89 : decode cX6_addProduct 89 = .ok (.iastore, 1) := by decide +kernel
theorem dX6_addProduct_90 : decode cX6_addProduct 90 = .ok (.iinc 3 1, 3) := by decide +kernel
theorem dX6_addProduct_93 : decode cX6_addProduct 93 = .ok (.goto (-22), 3) := by decide +kernel
theorem dX6_addProduct_96 : decode cX6_addProduct 96 = .ok (.aload_n 0, 1) := by decide +kernel
theorem dX6_addProduct_97 : decode cX6_addProduct 97 = .ok (.dup, 1) := by decide +kernel
theorem dX6_addProduct_98 : decode cX6_addProduct 98 = .ok (.getfield 78, 3) := by decide +kernel
theorem dX6_addProduct_101 : decode cX6_addProduct 101 = .ok (.iconst 1, 1) := by decide +kernel
theorem dX6_addProduct_102 : decode cX6_addProduct 102 = .ok (.iadd, 1) := by decide +kernel
theorem dX6_addProduct_103 : decode cX6_addProduct 103 = .ok (.putfield 78, 3) := by decide +kernel
theorem dX6_addProduct_106 : decode cX6_addProduct 106 = .ok (.aload_n 0, 1) := by decide +kernel
theorem dX6_addProduct_107 : decode cX6_addProduct 107 = .ok (.getfield 78, 3) := by decide +kernel
theorem dX6_addProduct_110 : decode cX6_addProduct 110 = .ok (.iconst 1, 1) := by decide +kernel
theorem dX6_addProduct_111 : decode cX6_addProduct 111 = .ok (.isub, 1) := by decide +kernel
theorem dX6_addProduct_112 : decode cX6_addProduct 112 = .ok (.ireturn, 1) := by decide +kernel
theorem dX6_setPrice_0 : decode cX6_setPrice 0 = .ok (.aload_n 0, 1) := by decide +kernel
theorem dX6_setPrice_1 : decode cX6_setPrice 1 = .ok (.iload_n 1, 1) := by decide +kernel
theorem dX6_setPrice_2 : decode cX6_setPrice 2 = .ok (.iconst 0, 1) := by decide +kernel
theorem dX6_setPrice_3 : decode cX6_setPrice 3 = .ok (.aload_n 0, 1) := by decide +kernel
theorem dX6_setPrice_4 : decode cX6_setPrice 4 = .ok (.getfield 78, 3) := by decide +kernel
theorem dX6_setPrice_7 : decode cX6_setPrice 7 = .ok (.iconst 1, 1) := by decide +kernel
theorem dX6_setPrice_8 : decode cX6_setPrice 8 = .ok (.isub, 1) := by decide +kernel
theorem dX6_setPrice_9 : decode cX6_setPrice 9 = .ok (.invokestatic 69, 3) := by decide +kernel
theorem dX6_setPrice_12 : decode cX6_setPrice 12 = .ok (.ifCond .ne 7, 3) := by decide +kernel
theorem dX6_setPrice_15 : decode cX6_setPrice 15 = .ok (.iconst 1, 1) := by decide +kernel
theorem dX6_setPrice_16 : decode cX6_setPrice 16 = .ok (.goto 27, 3) := by decide +kernel
theorem dX6_setPrice_19 : decode cX6_setPrice 19 = .ok (.iload_n 2, 1) := by decide +kernel
theorem dX6_setPrice_20 : decode cX6_setPrice 20 = .ok (.iconst 0, 1) := by decide +kernel
theorem dX6_setPrice_21 : decode cX6_setPrice 21 = .ok (.iconst 4, 1) := by decide +kernel
theorem dX6_setPrice_22 : decode cX6_setPrice 22 = .ok (.invokestatic 69, 3) := by decide +kernel
theorem dX6_setPrice_25 : decode cX6_setPrice 25 = .ok (.ifCond .eq 13, 3) := by decide +kernel
theorem dX6_setPrice_28 : decode cX6_setPrice 28 = .ok (.iload_n 3, 1) := by decide +kernel
theorem dX6_setPrice_29 : decode cX6_setPrice 29 = .ok (.iconst 0, 1) := by decide +kernel
theorem dX6_setPrice_30 : decode cX6_setPrice 30 = .ok (.ldc 77, 2) := by decide +kernel
theorem dX6_setPrice_32 : decode cX6_setPrice 32 = .ok (.invokestatic 69, 3) := by decide +kernel
theorem dX6_setPrice_35 : decode cX6_setPrice 35 = .ok (.ifCond .ne 7, 3) := by decide +kernel
theorem dX6_setPrice_38 : decode cX6_setPrice 38 = .ok (.iconst 2, 1) := by decide +kernel
theorem dX6_setPrice_39 : decode cX6_setPrice 39 = .ok (.goto 4, 3) := by decide +kernel
theorem dX6_setPrice_42 : decode cX6_setPrice 42 = .ok (.iconst 0, 1) := by decide +kernel
theorem dX6_setPrice_43 : decode cX6_setPrice 43 = .ok (.putfield 65, 3) := by decide +kernel
theorem dX6_setPrice_46 : decode cX6_setPrice 46 = .ok (.aload_n 0, 1) := by decide +kernel
theorem dX6_setPrice_47 : decode cX6_setPrice 47 = .ok (.getfield 65, 3) := by decide +kernel
theorem dX6_setPrice_50 : decode cX6_setPrice 50 = .ok (.ifCond .le 5, 3) := by decide +kernel
theorem dX6_setPrice_53 : decode cX6_setPrice 53 = .ok (.iconst 0, 1) := by decide +kernel
theorem dX6_setPrice_54 : decode cX6_setPrice 54 = .ok (.ireturn, 1) := by decide +kernel
theorem dX6_setPrice_55 : decode cX6_setPrice 55 = .ok (.aload_n 0, 1) := by decide +kernel
theorem dX6_setPrice_56 : decode cX6_setPrice 56 = .ok (.getfield 37, 3) := by decide +kernel
theorem dX6_setPrice_59 : decode cX6_setPrice 59 = .ok (.iconst 5, 1) := by decide +kernel
theorem dX6_setPrice_60 : decode cX6_setPrice 60 = .ok (.iload_n 1, 1) := by decide +kernel
theorem dX6_setPrice_61 : decode cX6_setPrice 61 = .ok (.imul, 1) := by decide +kernel
theorem dX6_setPrice_62 : decode cX6_setPrice 62 = .ok (.iload_n 2, 1) := by decide +kernel
theorem dX6_setPrice_63 : decode cX6_setPrice 63 = .ok (.iadd, 1) := by decide +kernel
theorem dX6_setPrice_64 : decode cX6_setPrice 64 = .ok (.iaload, 1) := by decide +kernel
theorem dX6_setPrice_65 : decode cX6_setPrice 65 = .ok (.istore 4, 2) := by decide +kernel
theorem dX6_setPrice_67 : decode cX6_setPrice 67 = .ok (.aload_n 0, 1) := by decide +kernel
theorem dX6_setPrice_68 : decode cX6_setPrice 68 = .ok (.getfield 37, 3) := by decide +kernel
theorem dX6_setPrice_71 : decode cX6_setPrice 71 = .ok (.iconst 5, 1) := by decide +kernel
theorem dX6_setPrice_72 : decode cX6_setPrice 72 = .ok (.iload_n 1, 1) := by decide +kernel
theorem dX6_setPrice_73 : decode cX6_setPrice 73 = .ok (.imul, 1) := by decide +kernel
theorem dX6_setPrice_74 : decode cX6_setPrice 74 = .ok (.iload_n 2, 1) := by decide +kernel
theorem dX6_setPrice_75 : decode cX6_setPrice 75 = .ok (.iadd, 1) := by decide +kernel
theorem dX6_setPrice_76 : decode cX6_setPrice 76 = .ok (.iload_n 3, 1) := by decide +kernel
theorem dX6_setPrice_77 : decode cX6_setPrice 77 = .ok (.iastore, 1) := by decide +kernel
theorem dX6_setPrice_78 : decode cX6_setPrice 78 = .ok (.iload 4, 2) := by decide +kernel
theorem dX6_setPrice_80 : decode cX6_setPrice 80 = .ok (.ireturn, 1) := by decide +kernel
theorem dX6_part_0 : decode cX6_part 0 = .ok (.lload_n 0, 1) := by decide +kernel
theorem dX6_part_1 : decode cX6_part 1 = .ok (.iload_n 2, 1) := by decide +kernel
theorem dX6_part_2 : decode cX6_part 2 = .ok (.lshr, 1) := by decide +kernel
theorem dX6_part_3 : decode cX6_part 3 = .ok (.lconst 1, 1) := by decide +kernel
theorem dX6_part_4 : decode cX6_part 4 = .ok (.iload_n 3, 1) := by decide +kernel
theorem dX6_part_5 : decode cX6_part 5 = .ok (.lshl, 1) := by decide +kernel
theorem dX6_part_6 : decode cX6_part 6 = .ok (.lconst 1, 1) := by decide +kernel
theorem dX6_part_7 : decode cX6_part 7 = .ok (.lsub, 1) := by decide +kernel
theorem dX6_part_8 : decode cX6_part 8 = .ok (.land, 1) := by decide +kernel
theorem dX6_part_9 : decode cX6_part 9 = .ok (.l2i, 1) := by decide +kernel
theorem dX6_part_10 : decode cX6_part 10 = .ok (.ireturn, 1) := by decide +kernel
theorem dX6_priceOf_0 : decode cX6_priceOf 0 = .ok (.lload_n 0, 1) := by decide +kernel
theorem dX6_priceOf_1 : decode cX6_priceOf 1 = .ok (.iconst 0, 1) := by decide +kernel
theorem dX6_priceOf_2 : decode cX6_priceOf 2 = .ok (.bipush 17, 2) := by decide +kernel
theorem dX6_priceOf_4 : decode cX6_priceOf 4 = .ok (.invokestatic 81, 3) := by decide +kernel
theorem dX6_priceOf_7 : decode cX6_priceOf 7 = .ok (.ireturn, 1) := by decide +kernel
theorem dX6_taxOf_0 : decode cX6_taxOf 0 = .ok (.lload_n 0, 1) := by decide +kernel
theorem dX6_taxOf_1 : decode cX6_taxOf 1 = .ok (.bipush 17, 2) := by decide +kernel
theorem dX6_taxOf_3 : decode cX6_taxOf 3 = .ok (.bipush 15, 2) := by decide +kernel
theorem dX6_taxOf_5 : decode cX6_taxOf 5 = .ok (.invokestatic 81, 3) := by decide +kernel
theorem dX6_taxOf_8 : decode cX6_taxOf 8 = .ok (.ireturn, 1) := by decide +kernel
theorem dX6_shareOf_0 : decode cX6_shareOf 0 = .ok (.lload_n 0, 1) := by decide +kernel
theorem dX6_shareOf_1 : decode cX6_shareOf 1 = .ok (.bipush 32, 2) := by decide +kernel
theorem dX6_shareOf_3 : decode cX6_shareOf 3 = .ok (.bipush 15, 2) := by decide +kernel
theorem dX6_shareOf_5 : decode cX6_shareOf 5 = .ok (.invokestatic 81, 3) := by decide +kernel
theorem dX6_shareOf_8 : decode cX6_shareOf 8 = .ok (.ireturn, 1) := by decide +kernel
theorem dX6_partOf_0 : decode cX6_partOf 0 = .ok (.lload_n 0, 1) := by decide +kernel
theorem dX6_partOf_1 : decode cX6_partOf 1 = .ok (.invokestatic 85, 3) := by decide +kernel
theorem dX6_partOf_4 : decode cX6_partOf 4 = .ok (.lload_n 0, 1) := by decide +kernel
theorem dX6_partOf_5 : decode cX6_partOf 5 = .ok (.invokestatic 89, 3) := by decide +kernel
theorem dX6_partOf_8 : decode cX6_partOf 8 = .ok (.isub, 1) := by decide +kernel
theorem dX6_partOf_9 : decode cX6_partOf 9 = .ok (.lload_n 0, 1) := by decide +kernel
theorem dX6_partOf_10 : decode cX6_partOf 10 = .ok (.invokestatic 92, 3) := by decide +kernel
theorem dX6_partOf_13 : decode cX6_partOf 13 = .ok (.isub, 1) := by decide +kernel
theorem dX6_partOf_14 : decode cX6_partOf 14 = .ok (.lload_n 0, 1) := by decide +kernel
theorem dX6_partOf_15 : decode cX6_partOf 15 = .ok (.bipush 60, 2) := by decide +kernel
theorem dX6_partOf_17 : decode cX6_partOf 17 = .ok (.iconst 1, 1) := by decide +kernel
theorem dX6_partOf_18 : decode cX6_partOf 18 = .ok (.invokestatic 81, 3) := by decide +kernel
theorem dX6_partOf_21 : decode cX6_partOf 21 = .ok (.iconst 1, 1) := by decide +kernel
theorem dX6_partOf_22 : decode cX6_partOf 22 = .ok (.if_icmp .ne 10, 3) := by decide +kernel
theorem dX6_partOf_25 : decode cX6_partOf 25 = .ok (.lload_n 0, 1) := by decide +kernel
theorem dX6_partOf_26 : decode cX6_partOf 26 = .ok (.invokestatic 89, 3) := by decide +kernel
theorem dX6_partOf_29 : decode cX6_partOf 29 = .ok (.goto 4, 3) := by decide +kernel
theorem dX6_partOf_32 : decode cX6_partOf 32 = .ok (.iconst 0, 1) := by decide +kernel
theorem dX6_partOf_33 : decode cX6_partOf 33 = .ok (.iadd, 1) := by decide +kernel
theorem dX6_partOf_34 : decode cX6_partOf 34 = .ok (.ireturn, 1) := by decide +kernel
theorem dX6_counts_0 : decode cX6_counts 0 = .ok (.aload_n 0, 1) := by decide +kernel
theorem dX6_counts_1 : decode cX6_counts 1 = .ok (.getfield 25, 3) := by decide +kernel
theorem dX6_counts_4 : decode cX6_counts 4 = .ok (.lload_n 1, 1) := by decide +kernel
theorem dX6_counts_5 : decode cX6_counts 5 = .ok (.bipush 54, 2) := by decide +kernel
theorem dX6_counts_7 : decode cX6_counts 7 = .ok (.iconst 3, 1) := by decide +kernel
theorem dX6_counts_8 : decode cX6_counts 8 = .ok (.invokestatic 81, 3) := by decide +kernel
theorem dX6_counts_11 : decode cX6_counts 11 = .ok (.dup2, 1) := by decide +kernel
theorem dX6_counts_12 : decode cX6_counts 12 = .ok (.iaload, 1) := by decide +kernel
theorem dX6_counts_13 : decode cX6_counts 13 = .ok (.iload_n 3, 1) := by decide +kernel
theorem dX6_counts_14 : decode cX6_counts 14 = .ok (.lload_n 1, 1) := by decide +kernel
theorem dX6_counts_15 : decode cX6_counts 15 = .ok (.invokestatic 95, 3) := by decide +kernel
theorem dX6_counts_18 : decode cX6_counts 18 = .ok (.imul, 1) := by decide +kernel
theorem dX6_counts_19 : decode cX6_counts 19 = .ok (.iadd, 1) := by decide +kernel
theorem dX6_counts_20 : decode cX6_counts 20 = .ok (.iastore, 1) := by decide +kernel
theorem dX6_counts_21 : decode cX6_counts 21 = .ok (.aload_n 0, 1) := by decide +kernel
theorem dX6_counts_22 : decode cX6_counts 22 = .ok (.dup, 1) := by decide +kernel
theorem dX6_counts_23 : decode cX6_counts 23 = .ok (.getfield 98, 3) := by decide +kernel
theorem dX6_counts_26 : decode cX6_counts 26 = .ok (.iload_n 3, 1) := by decide +kernel
theorem dX6_counts_27 : decode cX6_counts 27 = .ok (.lload_n 1, 1) := by decide +kernel
theorem dX6_counts_28 : decode cX6_counts 28 = .ok (.invokestatic 92, 3) := by decide +kernel
theorem dX6_counts_31 : decode cX6_counts 31 = .ok (.imul, 1) := by decide +kernel
theorem dX6_counts_32 : decode cX6_counts 32 = .ok (.iadd, 1) := by decide +kernel
theorem dX6_counts_33 : decode cX6_counts 33 = .ok (.putfield 98, 3) := by decide +kernel
theorem dX6_counts_36 : decode cX6_counts 36 = .ok (.aload_n 0, 1) := by decide +kernel
theorem dX6_counts_37 : decode cX6_counts 37 = .ok (.dup, 1) := by decide +kernel
theorem dX6_counts_38 : decode cX6_counts 38 = .ok (.getfield 101, 3) := by decide +kernel
theorem dX6_counts_41 : decode cX6_counts 41 = .ok (.iload_n 3, 1) := by decide +kernel
theorem dX6_counts_42 : decode cX6_counts 42 = .ok (.lload_n 1, 1) := by decide +kernel
theorem dX6_counts_43 : decode cX6_counts 43 = .ok (.invokestatic 85, 3) := by decide +kernel
theorem dX6_counts_46 : decode cX6_counts 46 = .ok (.imul, 1) := by decide +kernel
theorem dX6_counts_47 : decode cX6_counts 47 = .ok (.iadd, 1) := by decide +kernel
theorem dX6_counts_48 : decode cX6_counts 48 = .ok (.putfield 101, 3) := by decide +kernel
theorem dX6_counts_51 : decode cX6_counts 51 = .ok (.aload_n 0, 1) := by decide +kernel
theorem dX6_counts_52 : decode cX6_counts 52 = .ok (.getfield 16, 3) := by decide +kernel
theorem dX6_counts_55 : decode cX6_counts 55 = .ok (.lload_n 1, 1) := by decide +kernel
theorem dX6_counts_56 : decode cX6_counts 56 = .ok (.bipush 57, 2) := by decide +kernel
theorem dX6_counts_58 : decode cX6_counts 58 = .ok (.iconst 3, 1) := by decide +kernel
theorem dX6_counts_59 : decode cX6_counts 59 = .ok (.invokestatic 81, 3) := by decide +kernel
theorem dX6_counts_62 : decode cX6_counts 62 = .ok (.dup2, 1) := by decide +kernel
theorem dX6_counts_63 : decode cX6_counts 63 = .ok (.iaload, 1) := by decide +kernel
theorem dX6_counts_64 : decode cX6_counts 64 = .ok (.lload_n 1, 1) := by decide +kernel
theorem dX6_counts_65 : decode cX6_counts 65 = .ok (.bipush 60, 2) := by decide +kernel
theorem dX6_counts_67 : decode cX6_counts 67 = .ok (.iconst 1, 1) := by decide +kernel
theorem dX6_counts_68 : decode cX6_counts 68 = .ok (.invokestatic 81, 3) := by decide +kernel
theorem dX6_counts_71 : decode cX6_counts 71 = .ok (.iconst 1, 1) := by decide +kernel
theorem dX6_counts_72 : decode cX6_counts 72 = .ok (.if_icmp .ne 7, 3) := by decide +kernel
theorem dX6_counts_75 : decode cX6_counts 75 = .ok (.iconst 0, 1) := by decide +kernel
theorem dX6_counts_76 : decode cX6_counts 76 = .ok (.goto 9, 3) := by decide +kernel
theorem dX6_counts_79 : decode cX6_counts 79 = .ok (.iload_n 3, 1) := by decide +kernel
theorem dX6_counts_80 : decode cX6_counts 80 = .ok (.lload_n 1, 1) := by decide +kernel
theorem dX6_counts_81 : decode cX6_counts 81 = .ok (.invokestatic 89, 3) := by decide +kernel
theorem dX6_counts_84 : decode cX6_counts 84 = .ok (.imul, 1) := by decide +kernel
theorem dX6_counts_85 : decode cX6_counts 85 = .ok (.iadd, 1) := by decide +kernel
theorem dX6_counts_86 : decode cX6_counts 86 = .ok (.iastore, 1) := by decide +kernel
theorem dX6_counts_87 : decode cX6_counts 87 = .ok (.return_, 1) := by decide +kernel
theorem dX6_sells_0 : decode cX6_sells 0 = .ok (.aload_n 0, 1) := by decide +kernel
theorem dX6_sells_1 : decode cX6_sells 1 = .ok (.getfield 34, 3) := by decide +kernel
theorem dX6_sells_4 : decode cX6_sells 4 = .ok (.iload_n 1, 1) := by decide +kernel
theorem dX6_sells_5 : decode cX6_sells 5 = .ok (.iaload, 1) := by decide +kernel
theorem dX6_sells_6 : decode cX6_sells 6 = .ok (.istore 5, 2) := by decide +kernel
theorem dX6_sells_8 : decode cX6_sells 8 = .ok (.iload_n 3, 1) := by decide +kernel
theorem dX6_sells_9 : decode cX6_sells 9 = .ok (.aload_n 0, 1) := by decide +kernel
theorem dX6_sells_10 : decode cX6_sells 10 = .ok (.getfield 7, 3) := by decide +kernel
theorem dX6_sells_13 : decode cX6_sells 13 = .ok (.iload_n 2, 1) := by decide +kernel
theorem dX6_sells_14 : decode cX6_sells 14 = .ok (.iaload, 1) := by decide +kernel
theorem dX6_sells_15 : decode cX6_sells 15 = .ok (.imul, 1) := by decide +kernel
theorem dX6_sells_16 : decode cX6_sells 16 = .ok (.bipush 100, 2) := by decide +kernel
theorem dX6_sells_18 : decode cX6_sells 18 = .ok (.aload_n 0, 1) := by decide +kernel
theorem dX6_sells_19 : decode cX6_sells 19 = .ok (.getfield 7, 3) := by decide +kernel
theorem dX6_sells_22 : decode cX6_sells 22 = .ok (.iload_n 2, 1) := by decide +kernel
theorem dX6_sells_23 : decode cX6_sells 23 = .ok (.iaload, 1) := by decide +kernel
theorem dX6_sells_24 : decode cX6_sells 24 = .ok (.iadd, 1) := by decide +kernel
theorem dX6_sells_25 : decode cX6_sells 25 = .ok (.idiv, 1) := by decide +kernel
theorem dX6_sells_26 : decode cX6_sells 26 = .ok (.istore 6, 2) := by decide +kernel
theorem dX6_sells_28 : decode cX6_sells 28 = .ok (.iload_n 3, 1) := by decide +kernel
theorem dX6_sells_29 : decode cX6_sells 29 = .ok (.iload 6, 2) := by decide +kernel
theorem dX6_sells_31 : decode cX6_sells 31 = .ok (.isub, 1) := by decide +kernel
theorem dX6_sells_32 : decode cX6_sells 32 = .ok (.istore 7, 2) := by decide +kernel
theorem dX6_sells_34 : decode cX6_sells 34 = .ok (.iload 7, 2) := by decide +kernel
theorem dX6_sells_36 : decode cX6_sells 36 = .ok (.iload 4, 2) := by decide +kernel
theorem dX6_sells_38 : decode cX6_sells 38 = .ok (.ifCond .ne 15, 3) := by decide +kernel
theorem dX6_sells_41 : decode cX6_sells 41 = .ok (.aload_n 0, 1) := by decide +kernel
theorem dX6_sells_42 : decode cX6_sells 42 = .ok (.getfield 22, 3) := by decide +kernel
theorem dX6_sells_45 : decode cX6_sells 45 = .ok (.iload 5, 2) := by decide +kernel
theorem dX6_sells_47 : decode cX6_sells 47 = .ok (.iaload, 1) := by decide +kernel
theorem dX6_sells_48 : decode cX6_sells 48 = .ok (.ldc 73, 2) := by decide +kernel
theorem dX6_sells_50 : decode cX6_sells 50 = .ok (.if_icmp .ge 8, 3) := by decide +kernel
theorem dX6_sells_53 : decode cX6_sells 53 = .ok (.bipush 15, 2) := by decide +kernel
theorem dX6_sells_55 : decode cX6_sells 55 = .ok (.goto 5, 3) := by decide +kernel
theorem dX6_sells_58 : decode cX6_sells 58 = .ok (.bipush 30, 2) := by decide +kernel
theorem dX6_sells_60 : decode cX6_sells 60 = .ok (.imul, 1) := by decide +kernel
theorem dX6_sells_61 : decode cX6_sells 61 = .ok (.bipush 100, 2) := by decide +kernel
theorem dX6_sells_63 : decode cX6_sells 63 = .ok (.idiv, 1) := by decide +kernel
theorem dX6_sells_64 : decode cX6_sells 64 = .ok (.istore 8, 2) := by decide +kernel
theorem dX6_sells_66 : decode cX6_sells 66 = .ok (.aload_n 0, 1) := by decide +kernel
theorem dX6_sells_67 : decode cX6_sells 67 = .ok (.getfield 22, 3) := by decide +kernel
theorem dX6_sells_70 : decode cX6_sells 70 = .ok (.iload 5, 2) := by decide +kernel
theorem dX6_sells_72 : decode cX6_sells 72 = .ok (.dup2, 1) := by decide +kernel
theorem dX6_sells_73 : decode cX6_sells 73 = .ok (.iaload, 1) := by decide +kernel
theorem dX6_sells_74 : decode cX6_sells 74 = .ok (.iload 7, 2) := by decide +kernel
theorem dX6_sells_76 : decode cX6_sells 76 = .ok (.iadd, 1) := by decide +kernel
theorem dX6_sells_77 : decode cX6_sells 77 = .ok (.iastore, 1) := by decide +kernel
theorem dX6_sells_78 : decode cX6_sells 78 = .ok (.aload_n 0, 1) := by decide +kernel
theorem dX6_sells_79 : decode cX6_sells 79 = .ok (.getfield 40, 3) := by decide +kernel
theorem dX6_sells_82 : decode cX6_sells 82 = .ok (.aload_n 0, 1) := by decide +kernel
theorem dX6_sells_83 : decode cX6_sells 83 = .ok (.getfield 104, 3) := by decide +kernel
theorem dX6_sells_86 : decode cX6_sells 86 = .ok (.iload_n 3, 1) := by decide +kernel
theorem dX6_sells_87 : decode cX6_sells 87 = .ok (.i2l, 1) := by decide +kernel
theorem dX6_sells_88 : decode cX6_sells 88 = .ok (.iload 6, 2) := by decide +kernel
theorem dX6_sells_90 : decode cX6_sells 90 = .ok (.i2l, 1) := by decide +kernel
theorem dX6_sells_91 : decode cX6_sells 91 = .ok (.bipush 17, 2) := by decide +kernel
theorem dX6_sells_93 : decode cX6_sells 93 = .ok (.lshl, 1) := by decide +kernel
theorem dX6_sells_94 : decode cX6_sells 94 = .ok (.ladd, 1) := by decide +kernel
theorem dX6_sells_95 : decode cX6_sells 95 = .ok (.iload 8, 2) := by decide +kernel
theorem dX6_sells_97 : decode cX6_sells 97 = .ok (.i2l, 1) := by decide +kernel
theorem dX6_sells_98 : decode cX6_sells 98 = .ok (.bipush 32, 2) := by decide +kernel
theorem dX6_sells_100 : decode cX6_sells 100 = .ok (.lshl, 1) := by decide +kernel
theorem dX6_sells_101 : decode cX6_sells 101 = .ok (.ladd, 1) := by decide +kernel
theorem dX6_sells_102 : decode cX6_sells 102 = .ok (.aload_n 0, 1) := by decide +kernel
theorem dX6_sells_103 : decode cX6_sells 103 = .ok (.getfield 107, 3) := by decide +kernel
theorem dX6_sells_106 : decode cX6_sells 106 = .ok (.bipush 30, 2) := by decide +kernel
theorem dX6_sells_108 : decode cX6_sells 108 = .ok (.idiv, 1) := by decide +kernel
theorem dX6_sells_109 : decode cX6_sells 109 = .ok (.i2l, 1) := by decide +kernel
theorem dX6_sells_110 : decode cX6_sells 110 = .ok (.bipush 47, 2) := by decide +kernel
theorem dX6_sells_112 : decode cX6_sells 112 = .ok (.lshl, 1) := by decide +kernel
theorem dX6_sells_113 : decode cX6_sells 113 = .ok (.ladd, 1) := by decide +kernel
theorem dX6_sells_114 : decode cX6_sells 114 = .ok (.iload 5, 2) := by decide +kernel
theorem dX6_sells_116 : decode cX6_sells 116 = .ok (.i2l, 1) := by decide +kernel
theorem dX6_sells_117 : decode cX6_sells 117 = .ok (.bipush 54, 2) := by decide +kernel
theorem dX6_sells_119 : decode cX6_sells 119 = .ok (.lshl, 1) := by decide +kernel
theorem dX6_sells_120 : decode cX6_sells 120 = .ok (.ladd, 1) := by decide +kernel
theorem dX6_sells_121 : decode cX6_sells 121 = .ok (.iload_n 2, 1) := by decide +kernel
theorem dX6_sells_122 : decode cX6_sells 122 = .ok (.i2l, 1) := by decide +kernel
theorem dX6_sells_123 : decode cX6_sells 123 = .ok (.bipush 57, 2) := by decide +kernel
theorem dX6_sells_125 : decode cX6_sells 125 = .ok (.lshl, 1) := by decide +kernel
theorem dX6_sells_126 : decode cX6_sells 126 = .ok (.ladd, 1) := by decide +kernel
theorem dX6_sells_127 : decode cX6_sells 127 = .ok (.aload_n 0, 1) := by decide +kernel
theorem dX6_sells_128 : decode cX6_sells 128 = .ok (.getfield 13, 3) := by decide +kernel
theorem dX6_sells_131 : decode cX6_sells 131 = .ok (.iload_n 2, 1) := by decide +kernel
theorem dX6_sells_132 : decode cX6_sells 132 = .ok (.iaload, 1) := by decide +kernel
theorem dX6_sells_133 : decode cX6_sells 133 = .ok (.i2l, 1) := by decide +kernel
theorem dX6_sells_134 : decode cX6_sells 134 = .ok (.bipush 60, 2) := by decide +kernel
theorem dX6_sells_136 : decode cX6_sells 136 = .ok (.lshl, 1) := by decide +kernel
theorem dX6_sells_137 : decode cX6_sells 137 = .ok (.ladd, 1) := by decide +kernel
theorem dX6_sells_138 : decode cX6_sells 138 = .ok (.lastore, 1) := by decide +kernel
theorem dX6_sells_139 : decode cX6_sells 139 = .ok (.aload_n 0, 1) := by decide +kernel
theorem dX6_sells_140 : decode cX6_sells 140 = .ok (.aload_n 0, 1) := by decide +kernel
theorem dX6_sells_141 : decode cX6_sells 141 = .ok (.getfield 40, 3) := by decide +kernel
theorem dX6_sells_144 : decode cX6_sells 144 = .ok (.aload_n 0, 1) := by decide +kernel
theorem dX6_sells_145 : decode cX6_sells 145 = .ok (.getfield 104, 3) := by decide +kernel
theorem dX6_sells_148 : decode cX6_sells 148 = .ok (.laload, 1) := by decide +kernel
theorem dX6_sells_149 : decode cX6_sells 149 = .ok (.iconst 1, 1) := by decide +kernel
theorem dX6_sells_150 : decode cX6_sells 150 = .ok (.invokevirtual 110, 3) := by decide +kernel
theorem dX6_sells_153 : decode cX6_sells 153 = .ok (.aload_n 0, 1) := by decide +kernel
theorem dX6_sells_154 : decode cX6_sells 154 = .ok (.dup, 1) := by decide +kernel
theorem dX6_sells_155 : decode cX6_sells 155 = .ok (.getfield 104, 3) := by decide +kernel
theorem dX6_sells_158 : decode cX6_sells 158 = .ok (.iconst 1, 1) := by decide +kernel
theorem dX6_sells_159 : decode cX6_sells 159 = .ok (.iadd, 1) := by decide +kernel
theorem dX6_sells_160 : decode cX6_sells 160 = .ok (.putfield 104, 3) := by decide +kernel
theorem dX6_sells_163 : decode cX6_sells 163 = .ok (.aload_n 0, 1) := by decide +kernel
theorem dX6_sells_164 : decode cX6_sells 164 = .ok (.getfield 104, 3) := by decide +kernel
theorem dX6_sells_167 : decode cX6_sells 167 = .ok (.iconst 1, 1) := by decide +kernel
theorem dX6_sells_168 : decode cX6_sells 168 = .ok (.isub, 1) := by decide +kernel
theorem dX6_sells_169 : decode cX6_sells 169 = .ok (.ireturn, 1) := by decide +kernel
theorem dX6_buy_0 : decode cX6_buy 0 = .ok (.aload_n 0, 1) := by decide +kernel
theorem dX6_buy_1 : decode cX6_buy 1 = .ok (.iload_n 1, 1) := by decide +kernel
theorem dX6_buy_2 : decode cX6_buy 2 = .ok (.iconst 0, 1) := by decide +kernel
theorem dX6_buy_3 : decode cX6_buy 3 = .ok (.aload_n 0, 1) := by decide +kernel
theorem dX6_buy_4 : decode cX6_buy 4 = .ok (.getfield 78, 3) := by decide +kernel
theorem dX6_buy_7 : decode cX6_buy 7 = .ok (.iconst 1, 1) := by decide +kernel
theorem dX6_buy_8 : decode cX6_buy 8 = .ok (.isub, 1) := by decide +kernel
theorem dX6_buy_9 : decode cX6_buy 9 = .ok (.invokestatic 69, 3) := by decide +kernel
theorem dX6_buy_12 : decode cX6_buy 12 = .ok (.ifCond .ne 7, 3) := by decide +kernel
theorem dX6_buy_15 : decode cX6_buy 15 = .ok (.iconst 1, 1) := by decide +kernel
theorem dX6_buy_16 : decode cX6_buy 16 = .ok (.goto 17, 3) := by decide +kernel
theorem dX6_buy_19 : decode cX6_buy 19 = .ok (.iload_n 2, 1) := by decide +kernel
theorem dX6_buy_20 : decode cX6_buy 20 = .ok (.iconst 0, 1) := by decide +kernel
theorem dX6_buy_21 : decode cX6_buy 21 = .ok (.iconst 4, 1) := by decide +kernel
theorem dX6_buy_22 : decode cX6_buy 22 = .ok (.invokestatic 69, 3) := by decide +kernel
theorem dX6_buy_25 : decode cX6_buy 25 = .ok (.ifCond .ne 7, 3) := by decide +kernel
theorem dX6_buy_28 : decode cX6_buy 28 = .ok (.iconst 2, 1) := by decide +kernel
theorem dX6_buy_29 : decode cX6_buy 29 = .ok (.goto 4, 3) := by decide +kernel
theorem dX6_buy_32 : decode cX6_buy 32 = .ok (.iconst 0, 1) := by decide +kernel
theorem dX6_buy_33 : decode cX6_buy 33 = .ok (.putfield 65, 3) := by decide +kernel
theorem dX6_buy_36 : decode cX6_buy 36 = .ok (.aload_n 0, 1) := by decide +kernel
theorem dX6_buy_37 : decode cX6_buy 37 = .ok (.getfield 65, 3) := by decide +kernel
theorem dX6_buy_40 : decode cX6_buy 40 = .ok (.ifCond .ne 23, 3) := by decide +kernel
theorem dX6_buy_43 : decode cX6_buy 43 = .ok (.aload_n 0, 1) := by decide +kernel
theorem dX6_buy_44 : decode cX6_buy 44 = .ok (.iload_n 1, 1) := by decide +kernel
theorem dX6_buy_45 : decode cX6_buy 45 = .ok (.iload_n 2, 1) := by decide +kernel
theorem dX6_buy_46 : decode cX6_buy 46 = .ok (.aload_n 0, 1) := by decide +kernel
theorem dX6_buy_47 : decode cX6_buy 47 = .ok (.getfield 37, 3) := by decide +kernel
theorem dX6_buy_50 : decode cX6_buy 50 = .ok (.iconst 5, 1) := by decide +kernel
theorem dX6_buy_51 : decode cX6_buy 51 = .ok (.iload_n 1, 1) := by decide +kernel
theorem dX6_buy_52 : decode cX6_buy 52 = .ok (.imul, 1) := by decide +kernel
theorem dX6_buy_53 : decode cX6_buy 53 = .ok (.iload_n 2, 1) := by decide +kernel
theorem dX6_buy_54 : decode cX6_buy 54 = .ok (.iadd, 1) := by decide +kernel
theorem dX6_buy_55 : decode cX6_buy 55 = .ok (.iaload, 1) := by decide +kernel
theorem dX6_buy_56 : decode cX6_buy 56 = .ok (.iconst 0, 1) := by decide +kernel
theorem dX6_buy_57 : decode cX6_buy 57 = .ok (.invokevirtual 114, 3) := by decide +kernel
theorem dX6_buy_60 : decode cX6_buy 60 = .ok (.goto 4, 3) := by decide +kernel
theorem dX6_buy_63 : decode cX6_buy 63 = .ok (.iconst 0, 1) := by decide +kernel
theorem dX6_buy_64 : decode cX6_buy 64 = .ok (.ireturn, 1) := by decide +kernel
theorem dX6_isSale_0 : decode cX6_isSale 0 = .ok (.aload_n 0, 1) := by decide +kernel
theorem dX6_isSale_1 : decode cX6_isSale 1 = .ok (.iload_n 1, 1) := by decide +kernel
theorem dX6_isSale_2 : decode cX6_isSale 2 = .ok (.iconst 0, 1) := by decide +kernel
theorem dX6_isSale_3 : decode cX6_isSale 3 = .ok (.aload_n 0, 1) := by decide +kernel
theorem dX6_isSale_4 : decode cX6_isSale 4 = .ok (.getfield 104, 3) := by decide +kernel
theorem dX6_isSale_7 : decode cX6_isSale 7 = .ok (.iconst 1, 1) := by decide +kernel
theorem dX6_isSale_8 : decode cX6_isSale 8 = .ok (.isub, 1) := by decide +kernel
theorem dX6_isSale_9 : decode cX6_isSale 9 = .ok (.invokestatic 69, 3) := by decide +kernel
theorem dX6_isSale_12 : decode cX6_isSale 12 = .ok (.ifCond .eq 7, 3) := by decide +kernel
theorem dX6_isSale_15 : decode cX6_isSale 15 = .ok (.iconst 0, 1) := by decide +kernel
theorem dX6_isSale_16 : decode cX6_isSale 16 = .ok (.goto 4, 3) := by decide +kernel
theorem dX6_isSale_19 : decode cX6_isSale 19 = .ok (.iconst 1, 1) := by decide +kernel
theorem dX6_isSale_20 : decode cX6_isSale 20 = .ok (.putfield 65, 3) := by decide +kernel
theorem dX6_isSale_23 : decode cX6_isSale 23 = .ok (.aload_n 0, 1) := by decide +kernel
theorem dX6_isSale_24 : decode cX6_isSale 24 = .ok (.getfield 65, 3) := by decide +kernel
theorem dX6_isSale_27 : decode cX6_isSale 27 = .ok (.ifCond .ne 7, 3) := by decide +kernel
theorem dX6_isSale_30 : decode cX6_isSale 30 = .ok (.iconst 1, 1) := by decide +kernel
theorem dX6_isSale_31 : decode cX6_isSale 31 = .ok (.goto 4, 3) := by decide +kernel
theorem dX6_isSale_34 : decode cX6_isSale 34 = .ok (.iconst 0, 1) := by decide +kernel
theorem dX6_isSale_35 : decode cX6_isSale 35 = .ok (.ireturn, 1) := by decide +kernel
theorem dX6_refund_0 : decode cX6_refund 0 = .ok (.aload_n 0, 1) := by decide +kernel
theorem dX6_refund_1 : decode cX6_refund 1 = .ok (.iload_n 1, 1) := by decide +kernel
theorem dX6_refund_2 : decode cX6_refund 2 = .ok (.invokevirtual 118, 3) := by decide +kernel
theorem dX6_refund_5 : decode cX6_refund 5 = .ok (.ifCond .ne 5, 3) := by decide +kernel
theorem dX6_refund_8 : decode cX6_refund 8 = .ok (.iconst 0, 1) := by decide +kernel
theorem dX6_refund_9 : decode cX6_refund 9 = .ok (.ireturn, 1) := by decide +kernel
theorem dX6_refund_10 : decode cX6_refund 10 = .ok (.aload_n 0, 1) := by decide +kernel
theorem dX6_refund_11 : decode cX6_refund 11 = .ok (.getfield 40, 3) := by decide +kernel
theorem dX6_refund_14 : decode cX6_refund 14 = .ok (.iload_n 1, 1) := by decide +kernel
theorem dX6_refund_15 : decode cX6_refund 15 = .ok (.laload, 1) := by decide +kernel
theorem dX6_refund_16 : decode cX6_refund 16 = .ok (.bipush 61, 2) := by decide +kernel
theorem dX6_refund_18 : decode cX6_refund 18 = .ok (.iconst 1, 1) := by decide +kernel
theorem dX6_refund_19 : decode cX6_refund 19 = .ok (.invokestatic 81, 3) := by decide +kernel
theorem dX6_refund_22 : decode cX6_refund 22 = .ok (.iconst 1, 1) := by decide +kernel
theorem dX6_refund_23 : decode cX6_refund 23 = .ok (.if_icmp .eq 28, 3) := by decide +kernel
theorem dX6_refund_26 : decode cX6_refund 26 = .ok (.aload_n 0, 1) := by decide +kernel
theorem dX6_refund_27 : decode cX6_refund 27 = .ok (.getfield 107, 3) := by decide +kernel
theorem dX6_refund_30 : decode cX6_refund 30 = .ok (.bipush 30, 2) := by decide +kernel
theorem dX6_refund_32 : decode cX6_refund 32 = .ok (.idiv, 1) := by decide +kernel
theorem dX6_refund_33 : decode cX6_refund 33 = .ok (.aload_n 0, 1) := by decide +kernel
theorem dX6_refund_34 : decode cX6_refund 34 = .ok (.getfield 40, 3) := by decide +kernel
theorem dX6_refund_37 : decode cX6_refund 37 = .ok (.iload_n 1, 1) := by decide +kernel
theorem dX6_refund_38 : decode cX6_refund 38 = .ok (.laload, 1) := by decide +kernel
theorem dX6_refund_39 : decode cX6_refund 39 = .ok (.bipush 47, 2) := by decide +kernel
theorem dX6_refund_41 : decode cX6_refund 41 = .ok (.bipush 7, 2) := by decide +kernel
theorem dX6_refund_43 : decode cX6_refund 43 = .ok (.invokestatic 81, 3) := by decide +kernel
theorem dX6_refund_46 : decode cX6_refund 46 = .ok (.isub, 1) := by decide +kernel
theorem dX6_refund_47 : decode cX6_refund 47 = .ok (.iconst 3, 1) := by decide +kernel
theorem dX6_refund_48 : decode cX6_refund 48 = .ok (.if_icmp .le 9, 3) := by decide +kernel
theorem dX6_refund_51 : decode cX6_refund 51 = .ok (.aload_n 0, 1) := by decide +kernel
theorem dX6_refund_52 : decode cX6_refund 52 = .ok (.iconst 2, 1) := by decide +kernel
theorem dX6_refund_53 : decode cX6_refund 53 = .ok (.invokevirtual 122, 3) := by decide +kernel
theorem dX6_refund_56 : decode cX6_refund 56 = .ok (.ireturn, 1) := by decide +kernel
theorem dX6_refund_57 : decode cX6_refund 57 = .ok (.aload_n 0, 1) := by decide +kernel
theorem dX6_refund_58 : decode cX6_refund 58 = .ok (.aload_n 0, 1) := by decide +kernel
theorem dX6_refund_59 : decode cX6_refund 59 = .ok (.getfield 40, 3) := by decide +kernel
theorem dX6_refund_62 : decode cX6_refund 62 = .ok (.iload_n 1, 1) := by decide +kernel
theorem dX6_refund_63 : decode cX6_refund 63 = .ok (.laload, 1) := by decide +kernel
theorem dX6_refund_64 : decode cX6_refund 64 = .ok (.iconst (-1), 1) := by decide +kernel
theorem dX6_refund_65 : decode cX6_refund 65 = .ok (.invokevirtual 110, 3) := by decide +kernel
theorem dX6_refund_68 : decode cX6_refund 68 = .ok (.aload_n 0, 1) := by decide +kernel
theorem dX6_refund_69 : decode cX6_refund 69 = .ok (.getfield 40, 3) := by decide +kernel
theorem dX6_refund_72 : decode cX6_refund 72 = .ok (.iload_n 1, 1) := by decide +kernel
theorem dX6_refund_73 : decode cX6_refund 73 = .ok (.dup2, 1) := by decide +kernel
theorem dX6_refund_74 : decode cX6_refund 74 = .ok (.laload, 1) := by decide +kernel
theorem dX6_refund_75 : decode cX6_refund 75 = .ok (.ldc2_w 126, 3) := by decide +kernel
theorem dX6_refund_78 : decode cX6_refund 78 = .ok (.lor, 1) := by decide +kernel
theorem dX6_refund_79 : decode cX6_refund 79 = .ok (.lastore, 1) := by decide +kernel
theorem dX6_refund_80 : decode cX6_refund 80 = .ok (.aload_n 0, 1) := by decide +kernel
theorem dX6_refund_81 : decode cX6_refund 81 = .ok (.getfield 40, 3) := by decide +kernel
theorem dX6_refund_84 : decode cX6_refund 84 = .ok (.iload_n 1, 1) := by decide +kernel
theorem dX6_refund_85 : decode cX6_refund 85 = .ok (.laload, 1) := by decide +kernel
theorem dX6_refund_86 : decode cX6_refund 86 = .ok (.invokestatic 85, 3) := by decide +kernel
theorem dX6_refund_89 : decode cX6_refund 89 = .ok (.ireturn, 1) := by decide +kernel
theorem dX6_sales_0 : decode cX6_sales 0 = .ok (.aload_n 0, 1) := by decide +kernel
theorem dX6_sales_1 : decode cX6_sales 1 = .ok (.iconst 0, 1) := by decide +kernel
theorem dX6_sales_2 : decode cX6_sales 2 = .ok (.putfield 65, 3) := by decide +kernel
theorem dX6_sales_5 : decode cX6_sales 5 = .ok (.aload_n 0, 1) := by decide +kernel
theorem dX6_sales_6 : decode cX6_sales 6 = .ok (.getfield 104, 3) := by decide +kernel
theorem dX6_sales_9 : decode cX6_sales 9 = .ok (.ireturn, 1) := by decide +kernel
theorem dX6_paid_0 : decode cX6_paid 0 = .ok (.aload_n 0, 1) := by decide +kernel
theorem dX6_paid_1 : decode cX6_paid 1 = .ok (.iload_n 1, 1) := by decide +kernel
theorem dX6_paid_2 : decode cX6_paid 2 = .ok (.invokevirtual 118, 3) := by decide +kernel
theorem dX6_paid_5 : decode cX6_paid 5 = .ok (.ifCond .eq 15, 3) := by decide +kernel
theorem dX6_paid_8 : decode cX6_paid 8 = .ok (.aload_n 0, 1) := by decide +kernel
theorem dX6_paid_9 : decode cX6_paid 9 = .ok (.getfield 40, 3) := by decide +kernel
theorem dX6_paid_12 : decode cX6_paid 12 = .ok (.iload_n 1, 1) := by decide +kernel
theorem dX6_paid_13 : decode cX6_paid 13 = .ok (.laload, 1) := by decide +kernel
theorem dX6_paid_14 : decode cX6_paid 14 = .ok (.invokestatic 85, 3) := by decide +kernel
theorem dX6_paid_17 : decode cX6_paid 17 = .ok (.goto 4, 3) := by decide +kernel
theorem dX6_paid_20 : decode cX6_paid 20 = .ok (.iconst 0, 1) := by decide +kernel
theorem dX6_paid_21 : decode cX6_paid 21 = .ok (.ireturn, 1) := by decide +kernel
theorem dX6_tax_0 : decode cX6_tax 0 = .ok (.aload_n 0, 1) := by decide +kernel
theorem dX6_tax_1 : decode cX6_tax 1 = .ok (.iload_n 1, 1) := by decide +kernel
theorem dX6_tax_2 : decode cX6_tax 2 = .ok (.invokevirtual 118, 3) := by decide +kernel
theorem dX6_tax_5 : decode cX6_tax 5 = .ok (.ifCond .eq 15, 3) := by decide +kernel
theorem dX6_tax_8 : decode cX6_tax 8 = .ok (.aload_n 0, 1) := by decide +kernel
theorem dX6_tax_9 : decode cX6_tax 9 = .ok (.getfield 40, 3) := by decide +kernel
theorem dX6_tax_12 : decode cX6_tax 12 = .ok (.iload_n 1, 1) := by decide +kernel
theorem dX6_tax_13 : decode cX6_tax 13 = .ok (.laload, 1) := by decide +kernel
theorem dX6_tax_14 : decode cX6_tax 14 = .ok (.invokestatic 89, 3) := by decide +kernel
theorem dX6_tax_17 : decode cX6_tax 17 = .ok (.goto 4, 3) := by decide +kernel
theorem dX6_tax_20 : decode cX6_tax 20 = .ok (.iconst 0, 1) := by decide +kernel
theorem dX6_tax_21 : decode cX6_tax 21 = .ok (.ireturn, 1) := by decide +kernel
theorem dX6_shopShare_0 : decode cX6_shopShare 0 = .ok (.aload_n 0, 1) := by decide +kernel
theorem dX6_shopShare_1 : decode cX6_shopShare 1 = .ok (.iload_n 1, 1) := by decide +kernel
theorem dX6_shopShare_2 : decode cX6_shopShare 2 = .ok (.invokevirtual 118, 3) := by decide +kernel
theorem dX6_shopShare_5 : decode cX6_shopShare 5 = .ok (.ifCond .eq 15, 3) := by decide +kernel
theorem dX6_shopShare_8 : decode cX6_shopShare 8 = .ok (.aload_n 0, 1) := by decide +kernel
theorem dX6_shopShare_9 : decode cX6_shopShare 9 = .ok (.getfield 40, 3) := by decide +kernel
theorem dX6_shopShare_12 : decode cX6_shopShare 12 = .ok (.iload_n 1, 1) := by decide +kernel
theorem dX6_shopShare_13 : decode cX6_shopShare 13 = .ok (.laload, 1) := by decide +kernel
theorem dX6_shopShare_14 : decode cX6_shopShare 14 = .ok (.invokestatic 92, 3) := by decide +kernel
theorem dX6_shopShare_17 : decode cX6_shopShare 17 = .ok (.goto 4, 3) := by decide +kernel
theorem dX6_shopShare_20 : decode cX6_shopShare 20 = .ok (.iconst 0, 1) := by decide +kernel
theorem dX6_shopShare_21 : decode cX6_shopShare 21 = .ok (.ireturn, 1) := by decide +kernel
theorem dX6_makerPart_0 : decode cX6_makerPart 0 = .ok (.aload_n 0, 1) := by decide +kernel
theorem dX6_makerPart_1 : decode cX6_makerPart 1 = .ok (.iload_n 1, 1) := by decide +kernel
theorem dX6_makerPart_2 : decode cX6_makerPart 2 = .ok (.invokevirtual 118, 3) := by decide +kernel
theorem dX6_makerPart_5 : decode cX6_makerPart 5 = .ok (.ifCond .eq 15, 3) := by decide +kernel
theorem dX6_makerPart_8 : decode cX6_makerPart 8 = .ok (.aload_n 0, 1) := by decide +kernel
theorem dX6_makerPart_9 : decode cX6_makerPart 9 = .ok (.getfield 40, 3) := by decide +kernel
theorem dX6_makerPart_12 : decode cX6_makerPart 12 = .ok (.iload_n 1, 1) := by decide +kernel
theorem dX6_makerPart_13 : decode cX6_makerPart 13 = .ok (.laload, 1) := by decide +kernel
theorem dX6_makerPart_14 : decode cX6_makerPart 14 = .ok (.invokestatic 95, 3) := by decide +kernel
theorem dX6_makerPart_17 : decode cX6_makerPart 17 = .ok (.goto 4, 3) := by decide +kernel
theorem dX6_makerPart_20 : decode cX6_makerPart 20 = .ok (.iconst 0, 1) := by decide +kernel
theorem dX6_makerPart_21 : decode cX6_makerPart 21 = .ok (.ireturn, 1) := by decide +kernel
theorem dX6_subscribe_0 : decode cX6_subscribe 0 = .ok (.aload_n 0, 1) := by decide +kernel
theorem dX6_subscribe_1 : decode cX6_subscribe 1 = .ok (.iload_n 1, 1) := by decide +kernel
theorem dX6_subscribe_2 : decode cX6_subscribe 2 = .ok (.iconst 0, 1) := by decide +kernel
theorem dX6_subscribe_3 : decode cX6_subscribe 3 = .ok (.aload_n 0, 1) := by decide +kernel
theorem dX6_subscribe_4 : decode cX6_subscribe 4 = .ok (.getfield 78, 3) := by decide +kernel
theorem dX6_subscribe_7 : decode cX6_subscribe 7 = .ok (.iconst 1, 1) := by decide +kernel
theorem dX6_subscribe_8 : decode cX6_subscribe 8 = .ok (.isub, 1) := by decide +kernel
theorem dX6_subscribe_9 : decode cX6_subscribe 9 = .ok (.invokestatic 69, 3) := by decide +kernel
theorem dX6_subscribe_12 : decode cX6_subscribe 12 = .ok (.ifCond .ne 7, 3) := by decide +kernel
theorem dX6_subscribe_15 : decode cX6_subscribe 15 = .ok (.iconst 1, 1) := by decide +kernel
theorem dX6_subscribe_16 : decode cX6_subscribe 16 = .ok (.goto 40, 3) := by decide +kernel
theorem dX6_subscribe_19 : decode cX6_subscribe 19 = .ok (.iload_n 2, 1) := by decide +kernel
theorem dX6_subscribe_20 : decode cX6_subscribe 20 = .ok (.iconst 0, 1) := by decide +kernel
theorem dX6_subscribe_21 : decode cX6_subscribe 21 = .ok (.iconst 4, 1) := by decide +kernel
theorem dX6_subscribe_22 : decode cX6_subscribe 22 = .ok (.invokestatic 69, 3) := by decide +kernel
theorem dX6_subscribe_25 : decode cX6_subscribe 25 = .ok (.ifCond .eq 13, 3) := by decide +kernel
theorem dX6_subscribe_28 : decode cX6_subscribe 28 = .ok (.iload_n 3, 1) := by decide +kernel
theorem dX6_subscribe_29 : decode cX6_subscribe 29 = .ok (.iconst 1, 1) := by decide +kernel
theorem dX6_subscribe_30 : decode cX6_subscribe 30 = .ok (.bipush 60, 2) := by decide +kernel
theorem dX6_subscribe_32 : decode cX6_subscribe 32 = .ok (.invokestatic 69, 3) := by decide +kernel
theorem dX6_subscribe_35 : decode cX6_subscribe 35 = .ok (.ifCond .ne 7, 3) := by decide +kernel
theorem dX6_subscribe_38 : decode cX6_subscribe 38 = .ok (.iconst 2, 1) := by decide +kernel
theorem dX6_subscribe_39 : decode cX6_subscribe 39 = .ok (.goto 17, 3) := by decide +kernel
theorem dX6_subscribe_42 : decode cX6_subscribe 42 = .ok (.aload_n 0, 1) := by decide +kernel
theorem dX6_subscribe_43 : decode cX6_subscribe 43 = .ok (.getfield 128, 3) := by decide +kernel
theorem dX6_subscribe_46 : decode cX6_subscribe 46 = .ok (.bipush 40, 2) := by decide +kernel
theorem dX6_subscribe_48 : decode cX6_subscribe 48 = .ok (.if_icmp .ne 7, 3) := by decide +kernel
theorem dX6_subscribe_51 : decode cX6_subscribe 51 = .ok (.iconst 3, 1) := by decide +kernel
theorem dX6_subscribe_52 : decode cX6_subscribe 52 = .ok (.goto 4, 3) := by decide +kernel
theorem dX6_subscribe_55 : decode cX6_subscribe 55 = .ok (.iconst 0, 1) := by decide +kernel
theorem dX6_subscribe_56 : decode cX6_subscribe 56 = .ok (.putfield 65, 3) := by decide +kernel
theorem dX6_subscribe_59 : decode cX6_subscribe 59 = .ok (.aload_n 0, 1) := by decide +kernel
theorem dX6_subscribe_60 : decode cX6_subscribe 60 = .ok (.getfield 65, 3) := by decide +kernel
theorem dX6_subscribe_63 : decode cX6_subscribe 63 = .ok (.ifCond .le 5, 3) := by decide +kernel
theorem dX6_subscribe_66 : decode cX6_subscribe 66 = .ok (.iconst 0, 1) := by decide +kernel
theorem dX6_subscribe_67 : decode cX6_subscribe 67 = .ok (.ireturn, 1) := by decide +kernel
theorem dX6_subscribe_68 : decode cX6_subscribe 68 = .ok (.aload_n 0, 1) := by decide +kernel
theorem dX6_subscribe_69 : decode cX6_subscribe 69 = .ok (.getfield 44, 3) := by decide +kernel
theorem dX6_subscribe_72 : decode cX6_subscribe 72 = .ok (.aload_n 0, 1) := by decide +kernel
theorem dX6_subscribe_73 : decode cX6_subscribe 73 = .ok (.getfield 128, 3) := by decide +kernel
theorem dX6_subscribe_76 : decode cX6_subscribe 76 = .ok (.iload_n 1, 1) := by decide +kernel
theorem dX6_subscribe_77 : decode cX6_subscribe 77 = .ok (.iastore, 1) := by decide +kernel
theorem dX6_subscribe_78 : decode cX6_subscribe 78 = .ok (.aload_n 0, 1) := by decide +kernel
theorem dX6_subscribe_79 : decode cX6_subscribe 79 = .ok (.getfield 47, 3) := by decide +kernel
theorem dX6_subscribe_82 : decode cX6_subscribe 82 = .ok (.aload_n 0, 1) := by decide +kernel
theorem dX6_subscribe_83 : decode cX6_subscribe 83 = .ok (.getfield 128, 3) := by decide +kernel
theorem dX6_subscribe_86 : decode cX6_subscribe 86 = .ok (.iload_n 2, 1) := by decide +kernel
theorem dX6_subscribe_87 : decode cX6_subscribe 87 = .ok (.iastore, 1) := by decide +kernel
theorem dX6_subscribe_88 : decode cX6_subscribe 88 = .ok (.aload_n 0, 1) := by decide +kernel
theorem dX6_subscribe_89 : decode cX6_subscribe 89 = .ok (.getfield 50, 3) := by decide +kernel
theorem dX6_subscribe_92 : decode cX6_subscribe 92 = .ok (.aload_n 0, 1) := by decide +kernel
theorem dX6_subscribe_93 : decode cX6_subscribe 93 = .ok (.getfield 128, 3) := by decide +kernel
theorem dX6_subscribe_96 : decode cX6_subscribe 96 = .ok (.aload_n 0, 1) := by decide +kernel
theorem dX6_subscribe_97 : decode cX6_subscribe 97 = .ok (.getfield 107, 3) := by decide +kernel
theorem dX6_subscribe_100 : decode cX6_subscribe 100 = .ok (.iload_n 3, 1) := by decide +kernel
theorem dX6_subscribe_101 : decode cX6_subscribe 101 = .ok (.iadd, 1) := by decide +kernel
theorem dX6_subscribe_102 : decode cX6_subscribe 102 = .ok (.iastore, 1) := by decide +kernel
theorem dX6_subscribe_103 : decode cX6_subscribe 103 = .ok (.aload_n 0, 1) := by decide +kernel
theorem dX6_subscribe_104 : decode cX6_subscribe 104 = .ok (.getfield 53, 3) := by decide +kernel
theorem dX6_subscribe_107 : decode cX6_subscribe 107 = .ok (.aload_n 0, 1) := by decide +kernel
theorem dX6_subscribe_108 : decode cX6_subscribe 108 = .ok (.getfield 128, 3) := by decide +kernel
theorem dX6_subscribe_111 : decode cX6_subscribe 111 = .ok (.iconst 0, 1) := by decide +kernel
theorem dX6_subscribe_112 : decode cX6_subscribe 112 = .ok (.iastore, 1) := by decide +kernel
theorem dX6_subscribe_113 : decode cX6_subscribe 113 = .ok (.aload_n 0, 1) := by decide +kernel
theorem dX6_subscribe_114 : decode cX6_subscribe 114 = .ok (.getfield 56, 3) := by decide +kernel
theorem dX6_subscribe_117 : decode cX6_subscribe 117 = .ok (.aload_n 0, 1) := by decide +kernel
theorem dX6_subscribe_118 : decode cX6_subscribe 118 = .ok (.getfield 128, 3) := by decide +kernel
theorem dX6_subscribe_121 : decode cX6_subscribe 121 = .ok (.iconst 0, 1) := by decide +kernel
theorem dX6_subscribe_122 : decode cX6_subscribe 122 = .ok (.iastore, 1) := by decide +kernel
theorem dX6_subscribe_123 : decode cX6_subscribe 123 = .ok (.aload_n 0, 1) := by decide +kernel
theorem dX6_subscribe_124 : decode cX6_subscribe 124 = .ok (.getfield 59, 3) := by decide +kernel
theorem dX6_subscribe_127 : decode cX6_subscribe 127 = .ok (.aload_n 0, 1) := by decide +kernel
theorem dX6_subscribe_128 : decode cX6_subscribe 128 = .ok (.getfield 128, 3) := by decide +kernel
theorem dX6_subscribe_131 : decode cX6_subscribe 131 = .ok (.iload 4, 2) := by decide +kernel
theorem dX6_subscribe_133 : decode cX6_subscribe 133 = .ok (.ifCond .eq 7, 3) := by decide +kernel
theorem dX6_subscribe_136 : decode cX6_subscribe 136 = .ok (.iconst 1, 1) := by decide +kernel
theorem dX6_subscribe_137 : decode cX6_subscribe 137 = .ok (.goto 4, 3) := by decide +kernel
theorem dX6_subscribe_140 : decode cX6_subscribe 140 = .ok (.iconst 0, 1) := by decide +kernel
theorem dX6_subscribe_141 : decode cX6_subscribe 141 = .ok (.iastore, 1) := by decide +kernel
theorem dX6_subscribe_142 : decode cX6_subscribe 142 = .ok (.aload_n 0, 1) := by decide +kernel
theorem dX6_subscribe_143 : decode cX6_subscribe 143 = .ok (.getfield 62, 3) := by decide +kernel
theorem dX6_subscribe_146 : decode cX6_subscribe 146 = .ok (.aload_n 0, 1) := by decide +kernel
theorem dX6_subscribe_147 : decode cX6_subscribe 147 = .ok (.getfield 128, 3) := by decide +kernel
theorem dX6_subscribe_150 : decode cX6_subscribe 150 = .ok (.iconst 0, 1) := by decide +kernel
theorem dX6_subscribe_151 : decode cX6_subscribe 151 = .ok (.iastore, 1) := by decide +kernel
theorem dX6_subscribe_152 : decode cX6_subscribe 152 = .ok (.aload_n 0, 1) := by decide +kernel
theorem dX6_subscribe_153 : decode cX6_subscribe 153 = .ok (.dup, 1) := by decide +kernel
theorem dX6_subscribe_154 : decode cX6_subscribe 154 = .ok (.getfield 128, 3) := by decide +kernel
theorem dX6_subscribe_157 : decode cX6_subscribe 157 = .ok (.iconst 1, 1) := by decide +kernel
theorem dX6_subscribe_158 : decode cX6_subscribe 158 = .ok (.iadd, 1) := by decide +kernel
theorem dX6_subscribe_159 : decode cX6_subscribe 159 = .ok (.putfield 128, 3) := by decide +kernel
theorem dX6_subscribe_162 : decode cX6_subscribe 162 = .ok (.aload_n 0, 1) := by decide +kernel
theorem dX6_subscribe_163 : decode cX6_subscribe 163 = .ok (.getfield 128, 3) := by decide +kernel
theorem dX6_subscribe_166 : decode cX6_subscribe 166 = .ok (.iconst 1, 1) := by decide +kernel
theorem dX6_subscribe_167 : decode cX6_subscribe 167 = .ok (.isub, 1) := by decide +kernel
theorem dX6_subscribe_168 : decode cX6_subscribe 168 = .ok (.ireturn, 1) := by decide +kernel
theorem dX6_isPlan_0 : decode cX6_isPlan 0 = .ok (.aload_n 0, 1) := by decide +kernel
theorem dX6_isPlan_1 : decode cX6_isPlan 1 = .ok (.iload_n 1, 1) := by decide +kernel
theorem dX6_isPlan_2 : decode cX6_isPlan 2 = .ok (.iconst 0, 1) := by decide +kernel
theorem dX6_isPlan_3 : decode cX6_isPlan 3 = .ok (.aload_n 0, 1) := by decide +kernel
theorem dX6_isPlan_4 : decode cX6_isPlan 4 = .ok (.getfield 128, 3) := by decide +kernel
theorem dX6_isPlan_7 : decode cX6_isPlan 7 = .ok (.iconst 1, 1) := by decide +kernel
theorem dX6_isPlan_8 : decode cX6_isPlan 8 = .ok (.isub, 1) := by decide +kernel
theorem dX6_isPlan_9 : decode cX6_isPlan 9 = .ok (.invokestatic 69, 3) := by decide +kernel
theorem dX6_isPlan_12 : decode cX6_isPlan 12 = .ok (.ifCond .eq 7, 3) := by decide +kernel
theorem dX6_isPlan_15 : decode cX6_isPlan 15 = .ok (.iconst 0, 1) := by decide +kernel
theorem dX6_isPlan_16 : decode cX6_isPlan 16 = .ok (.goto 4, 3) := by decide +kernel
theorem dX6_isPlan_19 : decode cX6_isPlan 19 = .ok (.iconst 1, 1) := by decide +kernel
theorem dX6_isPlan_20 : decode cX6_isPlan 20 = .ok (.putfield 65, 3) := by decide +kernel
theorem dX6_isPlan_23 : decode cX6_isPlan 23 = .ok (.aload_n 0, 1) := by decide +kernel
theorem dX6_isPlan_24 : decode cX6_isPlan 24 = .ok (.getfield 65, 3) := by decide +kernel
theorem dX6_isPlan_27 : decode cX6_isPlan 27 = .ok (.ifCond .ne 7, 3) := by decide +kernel
theorem dX6_isPlan_30 : decode cX6_isPlan 30 = .ok (.iconst 1, 1) := by decide +kernel
theorem dX6_isPlan_31 : decode cX6_isPlan 31 = .ok (.goto 4, 3) := by decide +kernel
theorem dX6_isPlan_34 : decode cX6_isPlan 34 = .ok (.iconst 0, 1) := by decide +kernel
theorem dX6_isPlan_35 : decode cX6_isPlan 35 = .ok (.ireturn, 1) := by decide +kernel
theorem dX6_move_0 : decode cX6_move 0 = .ok (.aload_n 0, 1) := by decide +kernel
theorem dX6_move_1 : decode cX6_move 1 = .ok (.iload_n 1, 1) := by decide +kernel
theorem dX6_move_2 : decode cX6_move 2 = .ok (.iconst 0, 1) := by decide +kernel
theorem dX6_move_3 : decode cX6_move 3 = .ok (.aload_n 0, 1) := by decide +kernel
theorem dX6_move_4 : decode cX6_move 4 = .ok (.getfield 128, 3) := by decide +kernel
theorem dX6_move_7 : decode cX6_move 7 = .ok (.iconst 1, 1) := by decide +kernel
theorem dX6_move_8 : decode cX6_move 8 = .ok (.isub, 1) := by decide +kernel
theorem dX6_move_9 : decode cX6_move 9 = .ok (.invokestatic 69, 3) := by decide +kernel
theorem dX6_move_12 : decode cX6_move 12 = .ok (.ifCond .eq 21, 3) := by decide +kernel
theorem dX6_move_15 : decode cX6_move 15 = .ok (.iload_n 2, 1) := by decide +kernel
theorem dX6_move_16 : decode cX6_move 16 = .ok (.iconst 0, 1) := by decide +kernel
theorem dX6_move_17 : decode cX6_move 17 = .ok (.aload_n 0, 1) := by decide +kernel
theorem dX6_move_18 : decode cX6_move 18 = .ok (.getfield 78, 3) := by decide +kernel
theorem dX6_move_21 : decode cX6_move 21 = .ok (.iconst 1, 1) := by decide +kernel
theorem dX6_move_22 : decode cX6_move 22 = .ok (.isub, 1) := by decide +kernel
theorem dX6_move_23 : decode cX6_move 23 = .ok (.invokestatic 69, 3) := by decide +kernel
theorem dX6_move_26 : decode cX6_move 26 = .ok (.ifCond .eq 7, 3) := by decide +kernel
theorem dX6_move_29 : decode cX6_move 29 = .ok (.iconst 0, 1) := by decide +kernel
theorem dX6_move_30 : decode cX6_move 30 = .ok (.goto 4, 3) := by decide +kernel
theorem dX6_move_33 : decode cX6_move 33 = .ok (.iconst 1, 1) := by decide +kernel
theorem dX6_move_34 : decode cX6_move 34 = .ok (.putfield 65, 3) := by decide +kernel
theorem dX6_move_37 : decode cX6_move 37 = .ok (.aload_n 0, 1) := by decide +kernel
theorem dX6_move_38 : decode cX6_move 38 = .ok (.getfield 65, 3) := by decide +kernel
theorem dX6_move_41 : decode cX6_move 41 = .ok (.ifCond .le 5, 3) := by decide +kernel
theorem dX6_move_44 : decode cX6_move 44 = .ok (.iconst 0, 1) := by decide +kernel
theorem dX6_move_45 : decode cX6_move 45 = .ok (.ireturn, 1) := by decide +kernel
theorem dX6_move_46 : decode cX6_move 46 = .ok (.aload_n 0, 1) := by decide +kernel
theorem dX6_move_47 : decode cX6_move 47 = .ok (.getfield 44, 3) := by decide +kernel
theorem dX6_move_50 : decode cX6_move 50 = .ok (.iload_n 1, 1) := by decide +kernel
theorem dX6_move_51 : decode cX6_move 51 = .ok (.iaload, 1) := by decide +kernel
theorem dX6_move_52 : decode cX6_move 52 = .ok (.istore_n 3, 1) := by decide +kernel
theorem dX6_move_53 : decode cX6_move 53 = .ok (.iload_n 3, 1) := by decide +kernel
theorem dX6_move_54 : decode cX6_move 54 = .ok (.iload_n 2, 1) := by decide +kernel
theorem dX6_move_55 : decode cX6_move 55 = .ok (.if_icmp .eq 18, 3) := by decide +kernel
theorem dX6_move_58 : decode cX6_move 58 = .ok (.aload_n 0, 1) := by decide +kernel
theorem dX6_move_59 : decode cX6_move 59 = .ok (.getfield 34, 3) := by decide +kernel
theorem dX6_move_62 : decode cX6_move 62 = .ok (.iload_n 3, 1) := by decide +kernel
theorem dX6_move_63 : decode cX6_move 63 = .ok (.iaload, 1) := by decide +kernel
theorem dX6_move_64 : decode cX6_move 64 = .ok (.aload_n 0, 1) := by decide +kernel
theorem dX6_move_65 : decode cX6_move 65 = .ok (.getfield 34, 3) := by decide +kernel
theorem dX6_move_68 : decode cX6_move 68 = .ok (.iload_n 2, 1) := by decide +kernel
theorem dX6_move_69 : decode cX6_move 69 = .ok (.iaload, 1) := by decide +kernel
theorem dX6_move_70 : decode cX6_move 70 = .ok (.if_icmp .eq 9, 3) := by decide +kernel
theorem dX6_move_73 : decode cX6_move 73 = .ok (.aload_n 0, 1) := by decide +kernel
theorem dX6_move_74 : decode cX6_move 74 = .ok (.iconst 2, 1) := by decide +kernel
theorem dX6_move_75 : decode cX6_move 75 = .ok (.invokevirtual 122, 3) := by decide +kernel
theorem dX6_move_78 : decode cX6_move 78 = .ok (.ireturn, 1) := by decide +kernel
theorem dX6_move_79 : decode cX6_move 79 = .ok (.aload_n 0, 1) := by decide +kernel
theorem dX6_move_80 : decode cX6_move 80 = .ok (.getfield 50, 3) := by decide +kernel
theorem dX6_move_83 : decode cX6_move 83 = .ok (.iload_n 1, 1) := by decide +kernel
theorem dX6_move_84 : decode cX6_move 84 = .ok (.iaload, 1) := by decide +kernel
theorem dX6_move_85 : decode cX6_move 85 = .ok (.iconst (-1), 1) := by decide +kernel
theorem dX6_move_86 : decode cX6_move 86 = .ok (.if_icmp .ne 9, 3) := by decide +kernel
theorem dX6_move_89 : decode cX6_move 89 = .ok (.aload_n 0, 1) := by decide +kernel
theorem dX6_move_90 : decode cX6_move 90 = .ok (.iconst 3, 1) := by decide +kernel
theorem dX6_move_91 : decode cX6_move 91 = .ok (.invokevirtual 122, 3) := by decide +kernel
theorem dX6_move_94 : decode cX6_move 94 = .ok (.ireturn, 1) := by decide +kernel
theorem dX6_move_95 : decode cX6_move 95 = .ok (.aload_n 0, 1) := by decide +kernel
theorem dX6_move_96 : decode cX6_move 96 = .ok (.getfield 44, 3) := by decide +kernel
theorem dX6_move_99 : decode cX6_move 99 = .ok (.iload_n 1, 1) := by decide +kernel
theorem dX6_move_100 : decode cX6_move 100 = .ok (.iload_n 2, 1) := by decide +kernel
theorem dX6_move_101 : decode cX6_move 101 = .ok (.iastore, 1) := by decide +kernel
theorem dX6_move_102 : decode cX6_move 102 = .ok (.iload_n 3, 1) := by decide +kernel
theorem dX6_move_103 : decode cX6_move 103 = .ok (.ireturn, 1) := by decide +kernel
theorem dX6_setFailing_0 : decode cX6_setFailing 0 = .ok (.aload_n 0, 1) := by decide +kernel
theorem dX6_setFailing_1 : decode cX6_setFailing 1 = .ok (.iload_n 1, 1) := by decide +kernel
theorem dX6_setFailing_2 : decode cX6_setFailing 2 = .ok (.invokevirtual 131, 3) := by decide +kernel
theorem dX6_setFailing_5 : decode cX6_setFailing 5 = .ok (.ifCond .eq 22, 3) := by decide +kernel
theorem dX6_setFailing_8 : decode cX6_setFailing 8 = .ok (.aload_n 0, 1) := by decide +kernel
theorem dX6_setFailing_9 : decode cX6_setFailing 9 = .ok (.aload_n 0, 1) := by decide +kernel
theorem dX6_setFailing_10 : decode cX6_setFailing 10 = .ok (.getfield 50, 3) := by decide +kernel
theorem dX6_setFailing_13 : decode cX6_setFailing 13 = .ok (.iload_n 1, 1) := by decide +kernel
theorem dX6_setFailing_14 : decode cX6_setFailing 14 = .ok (.iaload, 1) := by decide +kernel
theorem dX6_setFailing_15 : decode cX6_setFailing 15 = .ok (.iconst (-1), 1) := by decide +kernel
theorem dX6_setFailing_16 : decode cX6_setFailing 16 = .ok (.if_icmp .ne 7, 3) := by decide +kernel
theorem dX6_setFailing_19 : decode cX6_setFailing 19 = .ok (.iconst 2, 1) := by decide +kernel
theorem dX6_setFailing_20 : decode cX6_setFailing 20 = .ok (.goto 4, 3) := by decide +kernel
theorem dX6_setFailing_23 : decode cX6_setFailing 23 = .ok (.iconst 0, 1) := by decide +kernel
theorem dX6_setFailing_24 : decode cX6_setFailing 24 = .ok (.putfield 65, 3) := by decide +kernel
theorem dX6_setFailing_27 : decode cX6_setFailing 27 = .ok (.aload_n 0, 1) := by decide +kernel
theorem dX6_setFailing_28 : decode cX6_setFailing 28 = .ok (.getfield 65, 3) := by decide +kernel
theorem dX6_setFailing_31 : decode cX6_setFailing 31 = .ok (.ifCond .ne 18, 3) := by decide +kernel
theorem dX6_setFailing_34 : decode cX6_setFailing 34 = .ok (.aload_n 0, 1) := by decide +kernel
theorem dX6_setFailing_35 : decode cX6_setFailing 35 = .ok (.getfield 62, 3) := by decide +kernel
theorem dX6_setFailing_38 : decode cX6_setFailing 38 = .ok (.iload_n 1, 1) := by decide +kernel
theorem dX6_setFailing_39 : decode cX6_setFailing 39 = .ok (.iload_n 2, 1) := by decide +kernel
theorem dX6_setFailing_40 : decode cX6_setFailing 40 = .ok (.ifCond .eq 7, 3) := by decide +kernel
theorem dX6_setFailing_43 : decode cX6_setFailing 43 = .ok (.iconst 1, 1) := by decide +kernel
theorem dX6_setFailing_44 : decode cX6_setFailing 44 = .ok (.goto 4, 3) := by decide +kernel
theorem dX6_setFailing_47 : decode cX6_setFailing 47 = .ok (.iconst 0, 1) := by decide +kernel
theorem dX6_setFailing_48 : decode cX6_setFailing 48 = .ok (.iastore, 1) := by decide +kernel
theorem dX6_setFailing_49 : decode cX6_setFailing 49 = .ok (.return_, 1) := by decide +kernel
theorem dX6_cancel_0 : decode cX6_cancel 0 = .ok (.aload_n 0, 1) := by decide +kernel
theorem dX6_cancel_1 : decode cX6_cancel 1 = .ok (.iload_n 1, 1) := by decide +kernel
theorem dX6_cancel_2 : decode cX6_cancel 2 = .ok (.invokevirtual 131, 3) := by decide +kernel
theorem dX6_cancel_5 : decode cX6_cancel 5 = .ok (.ifCond .ne 5, 3) := by decide +kernel
theorem dX6_cancel_8 : decode cX6_cancel 8 = .ok (.iconst 0, 1) := by decide +kernel
theorem dX6_cancel_9 : decode cX6_cancel 9 = .ok (.ireturn, 1) := by decide +kernel
theorem dX6_cancel_10 : decode cX6_cancel 10 = .ok (.aload_n 0, 1) := by decide +kernel
theorem dX6_cancel_11 : decode cX6_cancel 11 = .ok (.getfield 50, 3) := by decide +kernel
theorem dX6_cancel_14 : decode cX6_cancel 14 = .ok (.iload_n 1, 1) := by decide +kernel
theorem dX6_cancel_15 : decode cX6_cancel 15 = .ok (.iaload, 1) := by decide +kernel
theorem dX6_cancel_16 : decode cX6_cancel 16 = .ok (.iconst (-1), 1) := by decide +kernel
theorem dX6_cancel_17 : decode cX6_cancel 17 = .ok (.if_icmp .ne 9, 3) := by decide +kernel
theorem dX6_cancel_20 : decode cX6_cancel 20 = .ok (.aload_n 0, 1) := by decide +kernel
theorem dX6_cancel_21 : decode cX6_cancel 21 = .ok (.iconst 2, 1) := by decide +kernel
theorem dX6_cancel_22 : decode cX6_cancel 22 = .ok (.invokevirtual 122, 3) := by decide +kernel
theorem dX6_cancel_25 : decode cX6_cancel 25 = .ok (.ireturn, 1) := by decide +kernel
theorem dX6_cancel_26 : decode cX6_cancel 26 = .ok (.aload_n 0, 1) := by decide +kernel
theorem dX6_cancel_27 : decode cX6_cancel 27 = .ok (.getfield 50, 3) := by decide +kernel
theorem dX6_cancel_30 : decode cX6_cancel 30 = .ok (.iload_n 1, 1) := by decide +kernel
theorem dX6_cancel_31 : decode cX6_cancel 31 = .ok (.iconst (-1), 1) := by decide +kernel
theorem dX6_cancel_32 : decode cX6_cancel 32 = .ok (.iastore, 1) := by decide +kernel
theorem dX6_cancel_33 : decode cX6_cancel 33 = .ok (.aload_n 0, 1) := by decide +kernel
theorem dX6_cancel_34 : decode cX6_cancel 34 = .ok (.getfield 56, 3) := by decide +kernel
theorem dX6_cancel_37 : decode cX6_cancel 37 = .ok (.iload_n 1, 1) := by decide +kernel
theorem dX6_cancel_38 : decode cX6_cancel 38 = .ok (.iaload, 1) := by decide +kernel
theorem dX6_cancel_39 : decode cX6_cancel 39 = .ok (.ireturn, 1) := by decide +kernel
theorem dX6_payments_0 : decode cX6_payments 0 = .ok (.aload_n 0, 1) := by decide +kernel
theorem dX6_payments_1 : decode cX6_payments 1 = .ok (.iload_n 1, 1) := by decide +kernel
theorem dX6_payments_2 : decode cX6_payments 2 = .ok (.invokevirtual 131, 3) := by decide +kernel
theorem dX6_payments_5 : decode cX6_payments 5 = .ok (.ifCond .eq 12, 3) := by decide +kernel
theorem dX6_payments_8 : decode cX6_payments 8 = .ok (.aload_n 0, 1) := by decide +kernel
theorem dX6_payments_9 : decode cX6_payments 9 = .ok (.getfield 56, 3) := by decide +kernel
theorem dX6_payments_12 : decode cX6_payments 12 = .ok (.iload_n 1, 1) := by decide +kernel
theorem dX6_payments_13 : decode cX6_payments 13 = .ok (.iaload, 1) := by decide +kernel
theorem dX6_payments_14 : decode cX6_payments 14 = .ok (.goto 4, 3) := by decide +kernel
theorem dX6_payments_17 : decode cX6_payments 17 = .ok (.iconst 0, 1) := by decide +kernel
theorem dX6_payments_18 : decode cX6_payments 18 = .ok (.ireturn, 1) := by decide +kernel
theorem dX6_next_0 : decode cX6_next 0 = .ok (.aload_n 0, 1) := by decide +kernel
theorem dX6_next_1 : decode cX6_next 1 = .ok (.iload_n 1, 1) := by decide +kernel
theorem dX6_next_2 : decode cX6_next 2 = .ok (.invokevirtual 131, 3) := by decide +kernel
theorem dX6_next_5 : decode cX6_next 5 = .ok (.ifCond .eq 12, 3) := by decide +kernel
theorem dX6_next_8 : decode cX6_next 8 = .ok (.aload_n 0, 1) := by decide +kernel
theorem dX6_next_9 : decode cX6_next 9 = .ok (.getfield 50, 3) := by decide +kernel
theorem dX6_next_12 : decode cX6_next 12 = .ok (.iload_n 1, 1) := by decide +kernel
theorem dX6_next_13 : decode cX6_next 13 = .ok (.iaload, 1) := by decide +kernel
theorem dX6_next_14 : decode cX6_next 14 = .ok (.goto 4, 3) := by decide +kernel
theorem dX6_next_17 : decode cX6_next 17 = .ok (.iconst 0, 1) := by decide +kernel
theorem dX6_next_18 : decode cX6_next 18 = .ok (.ireturn, 1) := by decide +kernel
theorem dX6_payout_0 : decode cX6_payout 0 = .ok (.aload_n 0, 1) := by decide +kernel
theorem dX6_payout_1 : decode cX6_payout 1 = .ok (.iload_n 1, 1) := by decide +kernel
theorem dX6_payout_2 : decode cX6_payout 2 = .ok (.iconst 0, 1) := by decide +kernel
theorem dX6_payout_3 : decode cX6_payout 3 = .ok (.aload_n 0, 1) := by decide +kernel
theorem dX6_payout_4 : decode cX6_payout 4 = .ok (.getfield 74, 3) := by decide +kernel
theorem dX6_payout_7 : decode cX6_payout 7 = .ok (.iconst 1, 1) := by decide +kernel
theorem dX6_payout_8 : decode cX6_payout 8 = .ok (.isub, 1) := by decide +kernel
theorem dX6_payout_9 : decode cX6_payout 9 = .ok (.invokestatic 69, 3) := by decide +kernel
theorem dX6_payout_12 : decode cX6_payout 12 = .ok (.ifCond .ne 7, 3) := by decide +kernel
theorem dX6_payout_15 : decode cX6_payout 15 = .ok (.iconst 1, 1) := by decide +kernel
theorem dX6_payout_16 : decode cX6_payout 16 = .ok (.goto 25, 3) := by decide +kernel
theorem dX6_payout_19 : decode cX6_payout 19 = .ok (.iload_n 2, 1) := by decide +kernel
theorem dX6_payout_20 : decode cX6_payout 20 = .ok (.iconst 0, 1) := by decide +kernel
theorem dX6_payout_21 : decode cX6_payout 21 = .ok (.aload_n 0, 1) := by decide +kernel
theorem dX6_payout_22 : decode cX6_payout 22 = .ok (.getfield 107, 3) := by decide +kernel
theorem dX6_payout_25 : decode cX6_payout 25 = .ok (.bipush 30, 2) := by decide +kernel
theorem dX6_payout_27 : decode cX6_payout 27 = .ok (.idiv, 1) := by decide +kernel
theorem dX6_payout_28 : decode cX6_payout 28 = .ok (.iconst 1, 1) := by decide +kernel
theorem dX6_payout_29 : decode cX6_payout 29 = .ok (.isub, 1) := by decide +kernel
theorem dX6_payout_30 : decode cX6_payout 30 = .ok (.invokestatic 69, 3) := by decide +kernel
theorem dX6_payout_33 : decode cX6_payout 33 = .ok (.ifCond .ne 7, 3) := by decide +kernel
theorem dX6_payout_36 : decode cX6_payout 36 = .ok (.iconst 2, 1) := by decide +kernel
theorem dX6_payout_37 : decode cX6_payout 37 = .ok (.goto 4, 3) := by decide +kernel
theorem dX6_payout_40 : decode cX6_payout 40 = .ok (.iconst 0, 1) := by decide +kernel
theorem dX6_payout_41 : decode cX6_payout 41 = .ok (.putfield 65, 3) := by decide +kernel
theorem dX6_payout_44 : decode cX6_payout 44 = .ok (.aload_n 0, 1) := by decide +kernel
theorem dX6_payout_45 : decode cX6_payout 45 = .ok (.getfield 65, 3) := by decide +kernel
theorem dX6_payout_48 : decode cX6_payout 48 = .ok (.ifCond .ne 17, 3) := by decide +kernel
theorem dX6_payout_51 : decode cX6_payout 51 = .ok (.aload_n 0, 1) := by decide +kernel
theorem dX6_payout_52 : decode cX6_payout 52 = .ok (.getfield 31, 3) := by decide +kernel
theorem dX6_payout_55 : decode cX6_payout 55 = .ok (.bipush 120, 2) := by decide +kernel
theorem dX6_payout_57 : decode cX6_payout 57 = .ok (.iload_n 1, 1) := by decide +kernel
theorem dX6_payout_58 : decode cX6_payout 58 = .ok (.imul, 1) := by decide +kernel
theorem dX6_payout_59 : decode cX6_payout 59 = .ok (.iload_n 2, 1) := by decide +kernel
theorem dX6_payout_60 : decode cX6_payout 60 = .ok (.iadd, 1) := by decide +kernel
theorem dX6_payout_61 : decode cX6_payout 61 = .ok (.iaload, 1) := by decide +kernel
theorem dX6_payout_62 : decode cX6_payout 62 = .ok (.goto 4, 3) := by decide +kernel
theorem dX6_payout_65 : decode cX6_payout 65 = .ok (.iconst 0, 1) := by decide +kernel
theorem dX6_payout_66 : decode cX6_payout 66 = .ok (.ireturn, 1) := by decide +kernel
theorem dX6_isMaker_0 : decode cX6_isMaker 0 = .ok (.aload_n 0, 1) := by decide +kernel
theorem dX6_isMaker_1 : decode cX6_isMaker 1 = .ok (.iload_n 1, 1) := by decide +kernel
theorem dX6_isMaker_2 : decode cX6_isMaker 2 = .ok (.iconst 0, 1) := by decide +kernel
theorem dX6_isMaker_3 : decode cX6_isMaker 3 = .ok (.aload_n 0, 1) := by decide +kernel
theorem dX6_isMaker_4 : decode cX6_isMaker 4 = .ok (.getfield 74, 3) := by decide +kernel
theorem dX6_isMaker_7 : decode cX6_isMaker 7 = .ok (.iconst 1, 1) := by decide +kernel
theorem dX6_isMaker_8 : decode cX6_isMaker 8 = .ok (.isub, 1) := by decide +kernel
theorem dX6_isMaker_9 : decode cX6_isMaker 9 = .ok (.invokestatic 69, 3) := by decide +kernel
theorem dX6_isMaker_12 : decode cX6_isMaker 12 = .ok (.ifCond .eq 7, 3) := by decide +kernel
theorem dX6_isMaker_15 : decode cX6_isMaker 15 = .ok (.iconst 0, 1) := by decide +kernel
theorem dX6_isMaker_16 : decode cX6_isMaker 16 = .ok (.goto 4, 3) := by decide +kernel
theorem dX6_isMaker_19 : decode cX6_isMaker 19 = .ok (.iconst 1, 1) := by decide +kernel
theorem dX6_isMaker_20 : decode cX6_isMaker 20 = .ok (.putfield 65, 3) := by decide +kernel
theorem dX6_isMaker_23 : decode cX6_isMaker 23 = .ok (.aload_n 0, 1) := by decide +kernel
theorem dX6_isMaker_24 : decode cX6_isMaker 24 = .ok (.getfield 65, 3) := by decide +kernel
theorem dX6_isMaker_27 : decode cX6_isMaker 27 = .ok (.ifCond .ne 7, 3) := by decide +kernel
theorem dX6_isMaker_30 : decode cX6_isMaker 30 = .ok (.iconst 1, 1) := by decide +kernel
theorem dX6_isMaker_31 : decode cX6_isMaker 31 = .ok (.goto 4, 3) := by decide +kernel
theorem dX6_isMaker_34 : decode cX6_isMaker 34 = .ok (.iconst 0, 1) := by decide +kernel
theorem dX6_isMaker_35 : decode cX6_isMaker 35 = .ok (.ireturn, 1) := by decide +kernel
theorem dX6_carried_0 : decode cX6_carried 0 = .ok (.aload_n 0, 1) := by decide +kernel
theorem dX6_carried_1 : decode cX6_carried 1 = .ok (.iload_n 1, 1) := by decide +kernel
theorem dX6_carried_2 : decode cX6_carried 2 = .ok (.invokevirtual 134, 3) := by decide +kernel
theorem dX6_carried_5 : decode cX6_carried 5 = .ok (.ifCond .eq 12, 3) := by decide +kernel
theorem dX6_carried_8 : decode cX6_carried 8 = .ok (.aload_n 0, 1) := by decide +kernel
theorem dX6_carried_9 : decode cX6_carried 9 = .ok (.getfield 28, 3) := by decide +kernel
theorem dX6_carried_12 : decode cX6_carried 12 = .ok (.iload_n 1, 1) := by decide +kernel
theorem dX6_carried_13 : decode cX6_carried 13 = .ok (.iaload, 1) := by decide +kernel
theorem dX6_carried_14 : decode cX6_carried 14 = .ok (.goto 4, 3) := by decide +kernel
theorem dX6_carried_17 : decode cX6_carried 17 = .ok (.iconst 0, 1) := by decide +kernel
theorem dX6_carried_18 : decode cX6_carried 18 = .ok (.ireturn, 1) := by decide +kernel
theorem dX6_balance_0 : decode cX6_balance 0 = .ok (.aload_n 0, 1) := by decide +kernel
theorem dX6_balance_1 : decode cX6_balance 1 = .ok (.iload_n 1, 1) := by decide +kernel
theorem dX6_balance_2 : decode cX6_balance 2 = .ok (.invokevirtual 134, 3) := by decide +kernel
theorem dX6_balance_5 : decode cX6_balance 5 = .ok (.ifCond .eq 19, 3) := by decide +kernel
theorem dX6_balance_8 : decode cX6_balance 8 = .ok (.aload_n 0, 1) := by decide +kernel
theorem dX6_balance_9 : decode cX6_balance 9 = .ok (.getfield 28, 3) := by decide +kernel
theorem dX6_balance_12 : decode cX6_balance 12 = .ok (.iload_n 1, 1) := by decide +kernel
theorem dX6_balance_13 : decode cX6_balance 13 = .ok (.iaload, 1) := by decide +kernel
theorem dX6_balance_14 : decode cX6_balance 14 = .ok (.aload_n 0, 1) := by decide +kernel
theorem dX6_balance_15 : decode cX6_balance 15 = .ok (.getfield 25, 3) := by decide +kernel
theorem dX6_balance_18 : decode cX6_balance 18 = .ok (.iload_n 1, 1) := by decide +kernel
theorem dX6_balance_19 : decode cX6_balance 19 = .ok (.iaload, 1) := by decide +kernel
theorem dX6_balance_20 : decode cX6_balance 20 = .ok (.iadd, 1) := by decide +kernel
theorem dX6_balance_21 : decode cX6_balance 21 = .ok (.goto 4, 3) := by decide +kernel
theorem dX6_balance_24 : decode cX6_balance 24 = .ok (.iconst 0, 1) := by decide +kernel
theorem dX6_balance_25 : decode cX6_balance 25 = .ok (.ireturn, 1) := by decide +kernel
theorem dX6_heldTax_0 : decode cX6_heldTax 0 = .ok (.aload_n 0, 1) := by decide +kernel
theorem dX6_heldTax_1 : decode cX6_heldTax 1 = .ok (.iload_n 1, 1) := by decide +kernel
theorem dX6_heldTax_2 : decode cX6_heldTax 2 = .ok (.iconst 0, 1) := by decide +kernel
theorem dX6_heldTax_3 : decode cX6_heldTax 3 = .ok (.iconst 4, 1) := by decide +kernel
theorem dX6_heldTax_4 : decode cX6_heldTax 4 = .ok (.invokestatic 69, 3) := by decide +kernel
theorem dX6_heldTax_7 : decode cX6_heldTax 7 = .ok (.ifCond .eq 7, 3) := by decide +kernel
theorem dX6_heldTax_10 : decode cX6_heldTax 10 = .ok (.iconst 0, 1) := by decide +kernel
theorem dX6_heldTax_11 : decode cX6_heldTax 11 = .ok (.goto 4, 3) := by decide +kernel
theorem dX6_heldTax_14 : decode cX6_heldTax 14 = .ok (.iconst 1, 1) := by decide +kernel
theorem dX6_heldTax_15 : decode cX6_heldTax 15 = .ok (.putfield 65, 3) := by decide +kernel
theorem dX6_heldTax_18 : decode cX6_heldTax 18 = .ok (.aload_n 0, 1) := by decide +kernel
theorem dX6_heldTax_19 : decode cX6_heldTax 19 = .ok (.getfield 65, 3) := by decide +kernel
theorem dX6_heldTax_22 : decode cX6_heldTax 22 = .ok (.ifCond .ne 12, 3) := by decide +kernel
theorem dX6_heldTax_25 : decode cX6_heldTax 25 = .ok (.aload_n 0, 1) := by decide +kernel
theorem dX6_heldTax_26 : decode cX6_heldTax 26 = .ok (.getfield 16, 3) := by decide +kernel
theorem dX6_heldTax_29 : decode cX6_heldTax 29 = .ok (.iload_n 1, 1) := by decide +kernel
theorem dX6_heldTax_30 : decode cX6_heldTax 30 = .ok (.iaload, 1) := by decide +kernel
theorem dX6_heldTax_31 : decode cX6_heldTax 31 = .ok (.goto 4, 3) := by decide +kernel
theorem dX6_heldTax_34 : decode cX6_heldTax 34 = .ok (.iconst 0, 1) := by decide +kernel
theorem dX6_heldTax_35 : decode cX6_heldTax 35 = .ok (.ireturn, 1) := by decide +kernel
theorem dX6_shop_0 : decode cX6_shop 0 = .ok (.aload_n 0, 1) := by decide +kernel
theorem dX6_shop_1 : decode cX6_shop 1 = .ok (.iconst 0, 1) := by decide +kernel
theorem dX6_shop_2 : decode cX6_shop 2 = .ok (.putfield 65, 3) := by decide +kernel
theorem dX6_shop_5 : decode cX6_shop 5 = .ok (.aload_n 0, 1) := by decide +kernel
theorem dX6_shop_6 : decode cX6_shop 6 = .ok (.getfield 98, 3) := by decide +kernel
theorem dX6_shop_9 : decode cX6_shop 9 = .ok (.ireturn, 1) := by decide +kernel
theorem dX6_takings_0 : decode cX6_takings 0 = .ok (.aload_n 0, 1) := by decide +kernel
theorem dX6_takings_1 : decode cX6_takings 1 = .ok (.iconst 0, 1) := by decide +kernel
theorem dX6_takings_2 : decode cX6_takings 2 = .ok (.putfield 65, 3) := by decide +kernel
theorem dX6_takings_5 : decode cX6_takings 5 = .ok (.aload_n 0, 1) := by decide +kernel
theorem dX6_takings_6 : decode cX6_takings 6 = .ok (.getfield 101, 3) := by decide +kernel
theorem dX6_takings_9 : decode cX6_takings 9 = .ok (.ireturn, 1) := by decide +kernel
theorem dX6_closes_0 : decode cX6_closes 0 = .ok (.iconst 0, 1) := by decide +kernel
theorem dX6_closes_1 : decode cX6_closes 1 = .ok (.istore_n 2, 1) := by decide +kernel
theorem dX6_closes_2 : decode cX6_closes 2 = .ok (.iload_n 2, 1) := by decide +kernel
theorem dX6_closes_3 : decode cX6_closes 3 = .ok (.aload_n 0, 1) := by decide +kernel
theorem dX6_closes_4 : decode cX6_closes 4 = .ok (.getfield 74, 3) := by decide +kernel
theorem dX6_closes_7 : decode cX6_closes 7 = .ok (.if_icmp .ge 88, 3) := by decide +kernel
theorem dX6_closes_10 : decode cX6_closes 10 = .ok (.aload_n 0, 1) := by decide +kernel
theorem dX6_closes_11 : decode cX6_closes 11 = .ok (.getfield 28, 3) := by decide +kernel
theorem dX6_closes_14 : decode cX6_closes 14 = .ok (.iload_n 2, 1) := by decide +kernel
theorem dX6_closes_15 : decode cX6_closes 15 = .ok (.iaload, 1) := by decide +kernel
theorem dX6_closes_16 : decode cX6_closes 16 = .ok (.aload_n 0, 1) := by decide +kernel
theorem dX6_closes_17 : decode cX6_closes 17 = .ok (.getfield 25, 3) := by decide +kernel
theorem dX6_closes_20 : decode cX6_closes 20 = .ok (.iload_n 2, 1) := by decide +kernel
theorem dX6_closes_21 : decode cX6_closes 21 = .ok (.iaload, 1) := by decide +kernel
theorem dX6_closes_22 : decode cX6_closes 22 = .ok (.iadd, 1) := by decide +kernel
theorem dX6_closes_23 : decode cX6_closes 23 = .ok (.istore_n 3, 1) := by decide +kernel
theorem dX6_closes_24 : decode cX6_closes 24 = .ok (.iload_n 3, 1) := by decide +kernel
theorem dX6_closes_25 : decode cX6_closes 25 = .ok (.ifCond .le 17, 3) := by decide +kernel
theorem dX6_closes_28 : decode cX6_closes 28 = .ok (.iload_n 3, 1) := by decide +kernel
theorem dX6_closes_29 : decode cX6_closes 29 = .ok (.aload_n 0, 1) := by decide +kernel
theorem dX6_closes_30 : decode cX6_closes 30 = .ok (.getfield 19, 3) := by decide +kernel
theorem dX6_closes_33 : decode cX6_closes 33 = .ok (.iload_n 2, 1) := by decide +kernel
theorem dX6_closes_34 : decode cX6_closes 34 = .ok (.iaload, 1) := by decide +kernel
theorem dX6_closes_35 : decode cX6_closes 35 = .ok (.if_icmp .lt 7, 3) := by decide +kernel
theorem dX6_closes_38 : decode cX6_closes 38 = .ok (.iconst 1, 1) := by decide +kernel
theorem dX6_closes_39 : decode cX6_closes 39 = .ok (.goto 4, 3) := by decide +kernel
theorem dX6_closes_42 : decode cX6_closes 42 = .ok (.iconst 0, 1) := by decide +kernel
theorem dX6_closes_43 : decode cX6_closes 43 = .ok (.istore 4, 2) := by decide +kernel
theorem dX6_closes_45 : decode cX6_closes 45 = .ok (.aload_n 0, 1) := by decide +kernel
theorem dX6_closes_46 : decode cX6_closes 46 = .ok (.getfield 31, 3) := by decide +kernel
theorem dX6_closes_49 : decode cX6_closes 49 = .ok (.bipush 120, 2) := by decide +kernel
theorem dX6_closes_51 : decode cX6_closes 51 = .ok (.iload_n 2, 1) := by decide +kernel
theorem dX6_closes_52 : decode cX6_closes 52 = .ok (.imul, 1) := by decide +kernel
theorem dX6_closes_53 : decode cX6_closes 53 = .ok (.iload_n 1, 1) := by decide +kernel
theorem dX6_closes_54 : decode cX6_closes 54 = .ok (.iadd, 1) := by decide +kernel
theorem dX6_closes_55 : decode cX6_closes 55 = .ok (.iload 4, 2) := by decide +kernel
theorem dX6_closes_57 : decode cX6_closes 57 = .ok (.ifCond .eq 7, 3) := by decide +kernel
theorem dX6_closes_60 : decode cX6_closes 60 = .ok (.iload_n 3, 1) := by decide +kernel
theorem dX6_closes_61 : decode cX6_closes 61 = .ok (.goto 4, 3) := by decide +kernel
theorem dX6_closes_64 : decode cX6_closes 64 = .ok (.iconst 0, 1) := by decide +kernel
theorem dX6_closes_65 : decode cX6_closes 65 = .ok (.iastore, 1) := by decide +kernel
theorem dX6_closes_66 : decode cX6_closes 66 = .ok (.aload_n 0, 1) := by decide +kernel
theorem dX6_closes_67 : decode cX6_closes 67 = .ok (.getfield 28, 3) := by decide +kernel
theorem dX6_closes_70 : decode cX6_closes 70 = .ok (.iload_n 2, 1) := by decide +kernel
theorem dX6_closes_71 : decode cX6_closes 71 = .ok (.iload 4, 2) := by decide +kernel
theorem dX6_closes_73 : decode cX6_closes 73 = .ok (.ifCond .eq 7, 3) := by decide +kernel
theorem dX6_closes_76 : decode cX6_closes 76 = .ok (.iconst 0, 1) := by decide +kernel
theorem dX6_closes_77 : decode cX6_closes 77 = .ok (.goto 4, 3) := by decide +kernel
theorem dX6_closes_80 : decode cX6_closes 80 = .ok (.iload_n 3, 1) := by decide +kernel
theorem dX6_closes_81 : decode cX6_closes 81 = .ok (.iastore, 1) := by decide +kernel
theorem dX6_closes_82 : decode cX6_closes 82 = .ok (.aload_n 0, 1) := by decide +kernel
theorem dX6_closes_83 : decode cX6_closes 83 = .ok (.getfield 25, 3) := by decide +kernel
theorem dX6_closes_86 : decode cX6_closes 86 = .ok (.iload_n 2, 1) := by decide +kernel
theorem dX6_closes_87 : decode cX6_closes 87 = .ok (.iconst 0, 1) := by decide +kernel
theorem dX6_closes_88 : decode cX6_closes 88 = .ok (.iastore, 1) := by decide +kernel
theorem dX6_closes_89 : decode cX6_closes 89 = .ok (.iinc 2 1, 3) := by decide +kernel
theorem dX6_closes_92 : decode cX6_closes 92 = .ok (.goto (-90), 3) := by decide +kernel
theorem dX6_closes_95 : decode cX6_closes 95 = .ok (.return_, 1) := by decide +kernel
theorem dX6_pays_0 : decode cX6_pays 0 = .ok (.aload_n 0, 1) := by decide +kernel
theorem dX6_pays_1 : decode cX6_pays 1 = .ok (.getfield 62, 3) := by decide +kernel
theorem dX6_pays_4 : decode cX6_pays 4 = .ok (.iload_n 1, 1) := by decide +kernel
theorem dX6_pays_5 : decode cX6_pays 5 = .ok (.iaload, 1) := by decide +kernel
theorem dX6_pays_6 : decode cX6_pays 6 = .ok (.iconst 1, 1) := by decide +kernel
theorem dX6_pays_7 : decode cX6_pays 7 = .ok (.if_icmp .ne 42, 3) := by decide +kernel
theorem dX6_pays_10 : decode cX6_pays 10 = .ok (.aload_n 0, 1) := by decide +kernel
theorem dX6_pays_11 : decode cX6_pays 11 = .ok (.getfield 53, 3) := by decide +kernel
theorem dX6_pays_14 : decode cX6_pays 14 = .ok (.iload_n 1, 1) := by decide +kernel
theorem dX6_pays_15 : decode cX6_pays 15 = .ok (.dup2, 1) := by decide +kernel
theorem dX6_pays_16 : decode cX6_pays 16 = .ok (.iaload, 1) := by decide +kernel
theorem dX6_pays_17 : decode cX6_pays 17 = .ok (.iconst 1, 1) := by decide +kernel
theorem dX6_pays_18 : decode cX6_pays 18 = .ok (.iadd, 1) := by decide +kernel
theorem dX6_pays_19 : decode cX6_pays 19 = .ok (.iastore, 1) := by decide +kernel
theorem dX6_pays_20 : decode cX6_pays 20 = .ok (.aload_n 0, 1) := by decide +kernel
theorem dX6_pays_21 : decode cX6_pays 21 = .ok (.getfield 50, 3) := by decide +kernel
theorem dX6_pays_24 : decode cX6_pays 24 = .ok (.iload_n 1, 1) := by decide +kernel
theorem dX6_pays_25 : decode cX6_pays 25 = .ok (.aload_n 0, 1) := by decide +kernel
theorem dX6_pays_26 : decode cX6_pays 26 = .ok (.getfield 53, 3) := by decide +kernel
theorem dX6_pays_29 : decode cX6_pays 29 = .ok (.iload_n 1, 1) := by decide +kernel
theorem dX6_pays_30 : decode cX6_pays 30 = .ok (.iaload, 1) := by decide +kernel
theorem dX6_pays_31 : decode cX6_pays 31 = .ok (.bipush 6, 2) := by decide +kernel
theorem dX6_pays_33 : decode cX6_pays 33 = .ok (.if_icmp .ne 7, 3) := by decide +kernel
theorem dX6_pays_36 : decode cX6_pays 36 = .ok (.iconst (-1), 1) := by decide +kernel
theorem dX6_pays_37 : decode cX6_pays 37 = .ok (.goto 9, 3) := by decide +kernel
theorem dX6_pays_40 : decode cX6_pays 40 = .ok (.aload_n 0, 1) := by decide +kernel
theorem dX6_pays_41 : decode cX6_pays 41 = .ok (.getfield 107, 3) := by decide +kernel
theorem dX6_pays_44 : decode cX6_pays 44 = .ok (.iconst 1, 1) := by decide +kernel
theorem dX6_pays_45 : decode cX6_pays 45 = .ok (.iadd, 1) := by decide +kernel
theorem dX6_pays_46 : decode cX6_pays 46 = .ok (.iastore, 1) := by decide +kernel
theorem dX6_pays_47 : decode cX6_pays 47 = .ok (.iconst 0, 1) := by decide +kernel
theorem dX6_pays_48 : decode cX6_pays 48 = .ok (.ireturn, 1) := by decide +kernel
theorem dX6_pays_49 : decode cX6_pays 49 = .ok (.aload_n 0, 1) := by decide +kernel
theorem dX6_pays_50 : decode cX6_pays 50 = .ok (.getfield 37, 3) := by decide +kernel
theorem dX6_pays_53 : decode cX6_pays 53 = .ok (.iconst 5, 1) := by decide +kernel
theorem dX6_pays_54 : decode cX6_pays 54 = .ok (.aload_n 0, 1) := by decide +kernel
theorem dX6_pays_55 : decode cX6_pays 55 = .ok (.getfield 44, 3) := by decide +kernel
theorem dX6_pays_58 : decode cX6_pays 58 = .ok (.iload_n 1, 1) := by decide +kernel
theorem dX6_pays_59 : decode cX6_pays 59 = .ok (.iaload, 1) := by decide +kernel
theorem dX6_pays_60 : decode cX6_pays 60 = .ok (.imul, 1) := by decide +kernel
theorem dX6_pays_61 : decode cX6_pays 61 = .ok (.aload_n 0, 1) := by decide +kernel
theorem dX6_pays_62 : decode cX6_pays 62 = .ok (.getfield 47, 3) := by decide +kernel
theorem dX6_pays_65 : decode cX6_pays 65 = .ok (.iload_n 1, 1) := by decide +kernel
theorem dX6_pays_66 : decode cX6_pays 66 = .ok (.iaload, 1) := by decide +kernel
theorem dX6_pays_67 : decode cX6_pays 67 = .ok (.iadd, 1) := by decide +kernel
theorem dX6_pays_68 : decode cX6_pays 68 = .ok (.iaload, 1) := by decide +kernel
theorem dX6_pays_69 : decode cX6_pays 69 = .ok (.istore_n 2, 1) := by decide +kernel
theorem dX6_pays_70 : decode cX6_pays 70 = .ok (.aload_n 0, 1) := by decide +kernel
theorem dX6_pays_71 : decode cX6_pays 71 = .ok (.getfield 59, 3) := by decide +kernel
theorem dX6_pays_74 : decode cX6_pays 74 = .ok (.iload_n 1, 1) := by decide +kernel
theorem dX6_pays_75 : decode cX6_pays 75 = .ok (.iaload, 1) := by decide +kernel
theorem dX6_pays_76 : decode cX6_pays 76 = .ok (.iconst 1, 1) := by decide +kernel
theorem dX6_pays_77 : decode cX6_pays 77 = .ok (.if_icmp .ne 16, 3) := by decide +kernel
theorem dX6_pays_80 : decode cX6_pays 80 = .ok (.aload_n 0, 1) := by decide +kernel
theorem dX6_pays_81 : decode cX6_pays 81 = .ok (.getfield 56, 3) := by decide +kernel
theorem dX6_pays_84 : decode cX6_pays 84 = .ok (.iload_n 1, 1) := by decide +kernel
theorem dX6_pays_85 : decode cX6_pays 85 = .ok (.iaload, 1) := by decide +kernel
theorem dX6_pays_86 : decode cX6_pays 86 = .ok (.ifCond .ne 7, 3) := by decide +kernel
theorem dX6_pays_89 : decode cX6_pays 89 = .ok (.iconst 1, 1) := by decide +kernel
theorem dX6_pays_90 : decode cX6_pays 90 = .ok (.goto 4, 3) := by decide +kernel
theorem dX6_pays_93 : decode cX6_pays 93 = .ok (.iconst 0, 1) := by decide +kernel
theorem dX6_pays_94 : decode cX6_pays 94 = .ok (.istore_n 3, 1) := by decide +kernel
theorem dX6_pays_95 : decode cX6_pays 95 = .ok (.aload_n 0, 1) := by decide +kernel
theorem dX6_pays_96 : decode cX6_pays 96 = .ok (.aload_n 0, 1) := by decide +kernel
theorem dX6_pays_97 : decode cX6_pays 97 = .ok (.getfield 44, 3) := by decide +kernel
theorem dX6_pays_100 : decode cX6_pays 100 = .ok (.iload_n 1, 1) := by decide +kernel
theorem dX6_pays_101 : decode cX6_pays 101 = .ok (.iaload, 1) := by decide +kernel
theorem dX6_pays_102 : decode cX6_pays 102 = .ok (.aload_n 0, 1) := by decide +kernel
theorem dX6_pays_103 : decode cX6_pays 103 = .ok (.getfield 47, 3) := by decide +kernel
theorem dX6_pays_106 : decode cX6_pays 106 = .ok (.iload_n 1, 1) := by decide +kernel
theorem dX6_pays_107 : decode cX6_pays 107 = .ok (.iaload, 1) := by decide +kernel
theorem dX6_pays_108 : decode cX6_pays 108 = .ok (.iload_n 3, 1) := by decide +kernel
theorem dX6_pays_109 : decode cX6_pays 109 = .ok (.ifCond .eq 9, 3) := by decide +kernel
theorem dX6_pays_112 : decode cX6_pays 112 = .ok (.iload_n 2, 1) := by decide +kernel
theorem dX6_pays_113 : decode cX6_pays 113 = .ok (.iconst 2, 1) := by decide +kernel
theorem dX6_pays_114 : decode cX6_pays 114 = .ok (.idiv, 1) := by decide +kernel
theorem dX6_pays_115 : decode cX6_pays 115 = .ok (.goto 4, 3) := by decide +kernel
theorem dX6_pays_118 : decode cX6_pays 118 = .ok (.iload_n 2, 1) := by decide +kernel
theorem dX6_pays_119 : decode cX6_pays 119 = .ok (.aload_n 0, 1) := by decide +kernel
theorem dX6_pays_120 : decode cX6_pays 120 = .ok (.getfield 56, 3) := by decide +kernel
theorem dX6_pays_123 : decode cX6_pays 123 = .ok (.iload_n 1, 1) := by decide +kernel
theorem dX6_pays_124 : decode cX6_pays 124 = .ok (.iaload, 1) := by decide +kernel
theorem dX6_pays_125 : decode cX6_pays 125 = .ok (.bipush 12, 2) := by decide +kernel
theorem dX6_pays_127 : decode cX6_pays 127 = .ok (.if_icmp .lt 7, 3) := by decide +kernel
theorem dX6_pays_130 : decode cX6_pays 130 = .ok (.iconst 1, 1) := by decide +kernel
theorem dX6_pays_131 : decode cX6_pays 131 = .ok (.goto 4, 3) := by decide +kernel
theorem dX6_pays_134 : decode cX6_pays 134 = .ok (.iconst 0, 1) := by decide +kernel
theorem dX6_pays_135 : decode cX6_pays 135 = .ok (.invokevirtual 114, 3) := by decide +kernel
theorem dX6_pays_138 : decode cX6_pays 138 = .ok (.pop, 1) := by decide +kernel
theorem dX6_pays_139 : decode cX6_pays 139 = .ok (.aload_n 0, 1) := by decide +kernel
theorem dX6_pays_140 : decode cX6_pays 140 = .ok (.getfield 56, 3) := by decide +kernel
theorem dX6_pays_143 : decode cX6_pays 143 = .ok (.iload_n 1, 1) := by decide +kernel
theorem dX6_pays_144 : decode cX6_pays 144 = .ok (.dup2, 1) := by decide +kernel
theorem dX6_pays_145 : decode cX6_pays 145 = .ok (.iaload, 1) := by decide +kernel
theorem dX6_pays_146 : decode cX6_pays 146 = .ok (.iconst 1, 1) := by decide +kernel
theorem dX6_pays_147 : decode cX6_pays 147 = .ok (.iadd, 1) := by decide +kernel
theorem dX6_pays_148 : decode cX6_pays 148 = .ok (.iastore, 1) := by decide +kernel
theorem dX6_pays_149 : decode cX6_pays 149 = .ok (.aload_n 0, 1) := by decide +kernel
theorem dX6_pays_150 : decode cX6_pays 150 = .ok (.getfield 53, 3) := by decide +kernel
theorem dX6_pays_153 : decode cX6_pays 153 = .ok (.iload_n 1, 1) := by decide +kernel
theorem dX6_pays_154 : decode cX6_pays 154 = .ok (.iconst 0, 1) := by decide +kernel
theorem dX6_pays_155 : decode cX6_pays 155 = .ok (.iastore, 1) := by decide +kernel
theorem dX6_pays_156 : decode cX6_pays 156 = .ok (.aload_n 0, 1) := by decide +kernel
theorem dX6_pays_157 : decode cX6_pays 157 = .ok (.getfield 50, 3) := by decide +kernel
theorem dX6_pays_160 : decode cX6_pays 160 = .ok (.iload_n 1, 1) := by decide +kernel
theorem dX6_pays_161 : decode cX6_pays 161 = .ok (.aload_n 0, 1) := by decide +kernel
theorem dX6_pays_162 : decode cX6_pays 162 = .ok (.getfield 107, 3) := by decide +kernel
theorem dX6_pays_165 : decode cX6_pays 165 = .ok (.bipush 30, 2) := by decide +kernel
theorem dX6_pays_167 : decode cX6_pays 167 = .ok (.iadd, 1) := by decide +kernel
theorem dX6_pays_168 : decode cX6_pays 168 = .ok (.iastore, 1) := by decide +kernel
theorem dX6_pays_169 : decode cX6_pays 169 = .ok (.iconst 1, 1) := by decide +kernel
theorem dX6_pays_170 : decode cX6_pays 170 = .ok (.ireturn, 1) := by decide +kernel
theorem dX6_pass_0 : decode cX6_pass 0 = .ok (.aload_n 0, 1) := by decide +kernel
theorem dX6_pass_1 : decode cX6_pass 1 = .ok (.iload_n 1, 1) := by decide +kernel
theorem dX6_pass_2 : decode cX6_pass 2 = .ok (.iconst 1, 1) := by decide +kernel
theorem dX6_pass_3 : decode cX6_pass 3 = .ok (.sipush 400, 3) := by decide +kernel
theorem dX6_pass_6 : decode cX6_pass 6 = .ok (.invokestatic 69, 3) := by decide +kernel
theorem dX6_pass_9 : decode cX6_pass 9 = .ok (.ifCond .ne 7, 3) := by decide +kernel
theorem dX6_pass_12 : decode cX6_pass 12 = .ok (.iconst 1, 1) := by decide +kernel
theorem dX6_pass_13 : decode cX6_pass 13 = .ok (.goto 20, 3) := by decide +kernel
theorem dX6_pass_16 : decode cX6_pass 16 = .ok (.aload_n 0, 1) := by decide +kernel
theorem dX6_pass_17 : decode cX6_pass 17 = .ok (.getfield 107, 3) := by decide +kernel
theorem dX6_pass_20 : decode cX6_pass 20 = .ok (.iload_n 1, 1) := by decide +kernel
theorem dX6_pass_21 : decode cX6_pass 21 = .ok (.iadd, 1) := by decide +kernel
theorem dX6_pass_22 : decode cX6_pass 22 = .ok (.sipush 3600, 3) := by decide +kernel
theorem dX6_pass_25 : decode cX6_pass 25 = .ok (.if_icmp .le 7, 3) := by decide +kernel
theorem dX6_pass_28 : decode cX6_pass 28 = .ok (.iconst 2, 1) := by decide +kernel
theorem dX6_pass_29 : decode cX6_pass 29 = .ok (.goto 4, 3) := by decide +kernel
theorem dX6_pass_32 : decode cX6_pass 32 = .ok (.iconst 0, 1) := by decide +kernel
theorem dX6_pass_33 : decode cX6_pass 33 = .ok (.putfield 65, 3) := by decide +kernel
theorem dX6_pass_36 : decode cX6_pass 36 = .ok (.iconst 0, 1) := by decide +kernel
theorem dX6_pass_37 : decode cX6_pass 37 = .ok (.istore_n 2, 1) := by decide +kernel
theorem dX6_pass_38 : decode cX6_pass 38 = .ok (.iconst 0, 1) := by decide +kernel
theorem dX6_pass_39 : decode cX6_pass 39 = .ok (.istore_n 3, 1) := by decide +kernel
theorem dX6_pass_40 : decode cX6_pass 40 = .ok (.iload_n 3, 1) := by decide +kernel
theorem dX6_pass_41 : decode cX6_pass 41 = .ok (.iload_n 1, 1) := by decide +kernel
theorem dX6_pass_42 : decode cX6_pass 42 = .ok (.if_icmp .ge 135, 3) := by decide +kernel
theorem dX6_pass_45 : decode cX6_pass 45 = .ok (.aload_n 0, 1) := by decide +kernel
theorem dX6_pass_46 : decode cX6_pass 46 = .ok (.getfield 65, 3) := by decide +kernel
theorem dX6_pass_49 : decode cX6_pass 49 = .ok (.ifCond .ne 128, 3) := by decide +kernel
theorem dX6_pass_52 : decode cX6_pass 52 = .ok (.aload_n 0, 1) := by decide +kernel
theorem dX6_pass_53 : decode cX6_pass 53 = .ok (.dup, 1) := by decide +kernel
theorem dX6_pass_54 : decode cX6_pass 54 = .ok (.getfield 107, 3) := by decide +kernel
theorem dX6_pass_57 : decode cX6_pass 57 = .ok (.iconst 1, 1) := by decide +kernel
theorem dX6_pass_58 : decode cX6_pass 58 = .ok (.iadd, 1) := by decide +kernel
theorem dX6_pass_59 : decode cX6_pass 59 = .ok (.putfield 107, 3) := by decide +kernel
theorem dX6_pass_62 : decode cX6_pass 62 = .ok (.aload_n 0, 1) := by decide +kernel
theorem dX6_pass_63 : decode cX6_pass 63 = .ok (.getfield 107, 3) := by decide +kernel
theorem dX6_pass_66 : decode cX6_pass 66 = .ok (.bipush 30, 2) := by decide +kernel
theorem dX6_pass_68 : decode cX6_pass 68 = .ok (.irem, 1) := by decide +kernel
theorem dX6_pass_69 : decode cX6_pass 69 = .ok (.ifCond .ne 16, 3) := by decide +kernel
theorem dX6_pass_72 : decode cX6_pass 72 = .ok (.aload_n 0, 1) := by decide +kernel
theorem dX6_pass_73 : decode cX6_pass 73 = .ok (.aload_n 0, 1) := by decide +kernel
theorem dX6_pass_74 : decode cX6_pass 74 = .ok (.getfield 107, 3) := by decide +kernel
theorem dX6_pass_77 : decode cX6_pass 77 = .ok (.bipush 30, 2) := by decide +kernel
theorem dX6_pass_79 : decode cX6_pass 79 = .ok (.idiv, 1) := by decide +kernel
theorem dX6_pass_80 : decode cX6_pass 80 = .ok (.iconst 1, 1) := by decide +kernel
theorem dX6_pass_81 : decode cX6_pass 81 = .ok (.isub, 1) := by decide +kernel
theorem dX6_pass_82 : decode cX6_pass 82 = .ok (.invokevirtual 137, 3) := by decide +kernel
theorem dX6_pass_85 : decode cX6_pass 85 = .ok (.iconst 0, 1) := by decide +kernel
theorem dX6_pass_86 : decode cX6_pass 86 = .ok (.istore 4, 2) := by decide +kernel
theorem dX6_pass_88 : decode cX6_pass 88 = .ok (.iload 4, 2) := by decide +kernel
theorem dX6_pass_90 : decode cX6_pass 90 = .ok (.aload_n 0, 1) := by decide +kernel
theorem dX6_pass_91 : decode cX6_pass 91 = .ok (.getfield 74, 3) := by decide +kernel
theorem dX6_pass_94 : decode cX6_pass 94 = .ok (.if_icmp .ge 28, 3) := by decide +kernel
theorem dX6_pass_97 : decode cX6_pass 97 = .ok (.aload_n 0, 1) := by decide +kernel
theorem dX6_pass_98 : decode cX6_pass 98 = .ok (.getfield 107, 3) := by decide +kernel
theorem dX6_pass_101 : decode cX6_pass 101 = .ok (.sipush 360, 3) := by decide +kernel
theorem dX6_pass_104 : decode cX6_pass 104 = .ok (.irem, 1) := by decide +kernel
theorem dX6_pass_105 : decode cX6_pass 105 = .ok (.ifCond .ne 17, 3) := by decide +kernel
theorem dX6_pass_108 : decode cX6_pass 108 = .ok (.aload_n 0, 1) := by decide +kernel
theorem dX6_pass_109 : decode cX6_pass 109 = .ok (.getfield 22, 3) := by decide +kernel
theorem dX6_pass_112 : decode cX6_pass 112 = .ok (.iload 4, 2) := by decide +kernel
theorem dX6_pass_114 : decode cX6_pass 114 = .ok (.iconst 0, 1) := by decide +kernel
theorem dX6_pass_115 : decode cX6_pass 115 = .ok (.iastore, 1) := by decide +kernel
theorem dX6_pass_116 : decode cX6_pass 116 = .ok (.iinc 4 1, 3) := by decide +kernel
theorem dX6_pass_119 : decode cX6_pass 119 = .ok (.goto (-31), 3) := by decide +kernel
theorem dX6_pass_122 : decode cX6_pass 122 = .ok (.iconst 0, 1) := by decide +kernel
theorem dX6_pass_123 : decode cX6_pass 123 = .ok (.istore 4, 2) := by decide +kernel
theorem dX6_pass_125 : decode cX6_pass 125 = .ok (.iload 4, 2) := by decide +kernel
theorem dX6_pass_127 : decode cX6_pass 127 = .ok (.aload_n 0, 1) := by decide +kernel
theorem dX6_pass_128 : decode cX6_pass 128 = .ok (.getfield 128, 3) := by decide +kernel
theorem dX6_pass_131 : decode cX6_pass 131 = .ok (.if_icmp .ge 40, 3) := by decide +kernel
theorem dX6_pass_134 : decode cX6_pass 134 = .ok (.iload_n 2, 1) := by decide +kernel
theorem dX6_pass_135 : decode cX6_pass 135 = .ok (.aload_n 0, 1) := by decide +kernel
theorem dX6_pass_136 : decode cX6_pass 136 = .ok (.getfield 50, 3) := by decide +kernel
theorem dX6_pass_139 : decode cX6_pass 139 = .ok (.iload 4, 2) := by decide +kernel
theorem dX6_pass_141 : decode cX6_pass 141 = .ok (.iaload, 1) := by decide +kernel
theorem dX6_pass_142 : decode cX6_pass 142 = .ok (.aload_n 0, 1) := by decide +kernel
theorem dX6_pass_143 : decode cX6_pass 143 = .ok (.getfield 107, 3) := by decide +kernel
theorem dX6_pass_146 : decode cX6_pass 146 = .ok (.if_icmp .ne 16, 3) := by decide +kernel
theorem dX6_pass_149 : decode cX6_pass 149 = .ok (.aload_n 0, 1) := by decide +kernel
theorem dX6_pass_150 : decode cX6_pass 150 = .ok (.iload 4, 2) := by decide +kernel
theorem dX6_pass_152 : decode cX6_pass 152 = .ok (.invokevirtual 141, 3) := by decide +kernel
theorem dX6_pass_155 : decode cX6_pass 155 = .ok (.ifCond .eq 7, 3) := by decide +kernel
theorem dX6_pass_158 : decode cX6_pass 158 = .ok (.iconst 1, 1) := by decide +kernel
theorem dX6_pass_159 : decode cX6_pass 159 = .ok (.goto 4, 3) := by decide +kernel
theorem dX6_pass_162 : decode cX6_pass 162 = .ok (.iconst 0, 1) := by decide +kernel
theorem dX6_pass_163 : decode cX6_pass 163 = .ok (.iadd, 1) := by decide +kernel
theorem dX6_pass_164 : decode cX6_pass 164 = .ok (.istore_n 2, 1) := by decide +kernel
theorem dX6_pass_165 : decode cX6_pass 165 = .ok (.iinc 4 1, 3) := by decide +kernel
theorem dX6_pass_168 : decode cX6_pass 168 = .ok (.goto (-43), 3) := by decide +kernel
theorem dX6_pass_171 : decode cX6_pass 171 = .ok (.iinc 3 1, 3) := by decide +kernel
theorem dX6_pass_174 : decode cX6_pass 174 = .ok (.goto (-134), 3) := by decide +kernel
theorem dX6_pass_177 : decode cX6_pass 177 = .ok (.iload_n 2, 1) := by decide +kernel
theorem dX6_pass_178 : decode cX6_pass 178 = .ok (.ireturn, 1) := by decide +kernel
theorem dX6_day_0 : decode cX6_day 0 = .ok (.aload_n 0, 1) := by decide +kernel
theorem dX6_day_1 : decode cX6_day 1 = .ok (.iconst 0, 1) := by decide +kernel
theorem dX6_day_2 : decode cX6_day 2 = .ok (.putfield 65, 3) := by decide +kernel
theorem dX6_day_5 : decode cX6_day 5 = .ok (.aload_n 0, 1) := by decide +kernel
theorem dX6_day_6 : decode cX6_day 6 = .ok (.getfield 107, 3) := by decide +kernel
theorem dX6_day_9 : decode cX6_day 9 = .ok (.ireturn, 1) := by decide +kernel
theorem dL_setTax_0 : decode cL_setTax 0 = .ok (.aload 4, 2) := by decide +kernel
theorem dL_setTax_2 : decode cL_setTax 2 = .ok (.iconst 0, 1) := by decide +kernel
theorem dL_setTax_3 : decode cL_setTax 3 = .ok (.aload_n 0, 1) := by decide +kernel
theorem dL_setTax_4 : decode cL_setTax 4 = .ok (.iload_n 1, 1) := by decide +kernel
theorem dL_setTax_5 : decode cL_setTax 5 = .ok (.iload_n 2, 1) := by decide +kernel
theorem dL_setTax_6 : decode cL_setTax 6 = .ok (.iload_n 3, 1) := by decide +kernel
theorem dL_setTax_7 : decode cL_setTax 7 = .ok (.invokevirtual 7, 3) := by decide +kernel
theorem dL_setTax_10 : decode cL_setTax 10 = .ok (.i2l, 1) := by decide +kernel
theorem dL_setTax_11 : decode cL_setTax 11 = .ok (.lastore, 1) := by decide +kernel
theorem dL_setTax_12 : decode cL_setTax 12 = .ok (.goto 7, 3) := by decide +kernel
theorem dL_setTax_15 : decode cL_setTax 15 = .ok (.astore 5, 2) := by decide +kernel
theorem dL_setTax_17 : decode cL_setTax 17 = .ok (.iconst 1, 1) := by decide +kernel
theorem dL_setTax_18 : decode cL_setTax 18 = .ok (.ireturn, 1) := by decide +kernel
theorem dL_setTax_19 : decode cL_setTax 19 = .ok (.iconst 0, 1) := by decide +kernel
theorem dL_setTax_20 : decode cL_setTax 20 = .ok (.ireturn, 1) := by decide +kernel
theorem dL_addMaker_0 : decode cL_addMaker 0 = .ok (.aload_n 2, 1) := by decide +kernel
theorem dL_addMaker_1 : decode cL_addMaker 1 = .ok (.iconst 0, 1) := by decide +kernel
theorem dL_addMaker_2 : decode cL_addMaker 2 = .ok (.aload_n 0, 1) := by decide +kernel
theorem dL_addMaker_3 : decode cL_addMaker 3 = .ok (.iload_n 1, 1) := by decide +kernel
theorem dL_addMaker_4 : decode cL_addMaker 4 = .ok (.invokevirtual 15, 3) := by decide +kernel
theorem dL_addMaker_7 : decode cL_addMaker 7 = .ok (.i2l, 1) := by decide +kernel
theorem dL_addMaker_8 : decode cL_addMaker 8 = .ok (.lastore, 1) := by decide +kernel
theorem dL_addMaker_9 : decode cL_addMaker 9 = .ok (.goto 9, 3) := by decide +kernel
theorem dL_addMaker_12 : decode cL_addMaker 12 = .ok (.astore_n 3, 1) := by decide +kernel
theorem dL_addMaker_13 : decode cL_addMaker 13 = .ok (.iconst 1, 1) := by decide +kernel
theorem dL_addMaker_14 : decode cL_addMaker 14 = .ok (.ireturn, 1) := by decide +kernel
theorem dL_addMaker_15 : decode cL_addMaker 15 = .ok (.astore_n 3, 1) := by decide +kernel
theorem dL_addMaker_16 : decode cL_addMaker 16 = .ok (.iconst 2, 1) := by decide +kernel
theorem dL_addMaker_17 : decode cL_addMaker 17 = .ok (.ireturn, 1) := by decide +kernel
theorem dL_addMaker_18 : decode cL_addMaker 18 = .ok (.iconst 0, 1) := by decide +kernel
theorem dL_addMaker_19 : decode cL_addMaker 19 = .ok (.ireturn, 1) := by decide +kernel
theorem dL_addProduct_0 : decode cL_addProduct 0 = .ok (.aload_n 3, 1) := by decide +kernel
theorem dL_addProduct_1 : decode cL_addProduct 1 = .ok (.iconst 0, 1) := by decide +kernel
theorem dL_addProduct_2 : decode cL_addProduct 2 = .ok (.aload_n 0, 1) := by decide +kernel
theorem dL_addProduct_3 : decode cL_addProduct 3 = .ok (.iload_n 1, 1) := by decide +kernel
theorem dL_addProduct_4 : decode cL_addProduct 4 = .ok (.iload_n 2, 1) := by decide +kernel
theorem dL_addProduct_5 : decode cL_addProduct 5 = .ok (.invokevirtual 21, 3) := by decide +kernel
theorem dL_addProduct_8 : decode cL_addProduct 8 = .ok (.i2l, 1) := by decide +kernel
theorem dL_addProduct_9 : decode cL_addProduct 9 = .ok (.lastore, 1) := by decide +kernel
theorem dL_addProduct_10 : decode cL_addProduct 10 = .ok (.goto 15, 3) := by decide +kernel
theorem dL_addProduct_13 : decode cL_addProduct 13 = .ok (.astore 4, 2) := by decide +kernel
theorem dL_addProduct_15 : decode cL_addProduct 15 = .ok (.iconst 1, 1) := by decide +kernel
theorem dL_addProduct_16 : decode cL_addProduct 16 = .ok (.ireturn, 1) := by decide +kernel
theorem dL_addProduct_17 : decode cL_addProduct 17 = .ok (.astore 4, 2) := by decide +kernel
theorem dL_addProduct_19 : decode cL_addProduct 19 = .ok (.iconst 2, 1) := by decide +kernel
theorem dL_addProduct_20 : decode cL_addProduct 20 = .ok (.ireturn, 1) := by decide +kernel
theorem dL_addProduct_21 : decode cL_addProduct 21 = .ok (.astore 4, 2) := by decide +kernel
theorem dL_addProduct_23 : decode cL_addProduct 23 = .ok (.iconst 3, 1) := by decide +kernel
theorem dL_addProduct_24 : decode cL_addProduct 24 = .ok (.ireturn, 1) := by decide +kernel
theorem dL_addProduct_25 : decode cL_addProduct 25 = .ok (.iconst 0, 1) := by decide +kernel
theorem dL_addProduct_26 : decode cL_addProduct 26 = .ok (.ireturn, 1) := by decide +kernel
theorem dL_setPrice_0 : decode cL_setPrice 0 = .ok (.aload 4, 2) := by decide +kernel
theorem dL_setPrice_2 : decode cL_setPrice 2 = .ok (.iconst 0, 1) := by decide +kernel
theorem dL_setPrice_3 : decode cL_setPrice 3 = .ok (.aload_n 0, 1) := by decide +kernel
theorem dL_setPrice_4 : decode cL_setPrice 4 = .ok (.iload_n 1, 1) := by decide +kernel
theorem dL_setPrice_5 : decode cL_setPrice 5 = .ok (.iload_n 2, 1) := by decide +kernel
theorem dL_setPrice_6 : decode cL_setPrice 6 = .ok (.iload_n 3, 1) := by decide +kernel
theorem dL_setPrice_7 : decode cL_setPrice 7 = .ok (.invokevirtual 27, 3) := by decide +kernel
theorem dL_setPrice_10 : decode cL_setPrice 10 = .ok (.i2l, 1) := by decide +kernel
theorem dL_setPrice_11 : decode cL_setPrice 11 = .ok (.lastore, 1) := by decide +kernel
theorem dL_setPrice_12 : decode cL_setPrice 12 = .ok (.goto 11, 3) := by decide +kernel
theorem dL_setPrice_15 : decode cL_setPrice 15 = .ok (.astore 5, 2) := by decide +kernel
theorem dL_setPrice_17 : decode cL_setPrice 17 = .ok (.iconst 1, 1) := by decide +kernel
theorem dL_setPrice_18 : decode cL_setPrice 18 = .ok (.ireturn, 1) := by decide +kernel
theorem dL_setPrice_19 : decode cL_setPrice 19 = .ok (.astore 5, 2) := by decide +kernel
theorem dL_setPrice_21 : decode cL_setPrice 21 = .ok (.iconst 2, 1) := by decide +kernel
theorem dL_setPrice_22 : decode cL_setPrice 22 = .ok (.ireturn, 1) := by decide +kernel
theorem dL_setPrice_23 : decode cL_setPrice 23 = .ok (.iconst 0, 1) := by decide +kernel
theorem dL_setPrice_24 : decode cL_setPrice 24 = .ok (.ireturn, 1) := by decide +kernel
theorem dL_buy_0 : decode cL_buy 0 = .ok (.aload_n 3, 1) := by decide +kernel
theorem dL_buy_1 : decode cL_buy 1 = .ok (.iconst 0, 1) := by decide +kernel
theorem dL_buy_2 : decode cL_buy 2 = .ok (.aload_n 0, 1) := by decide +kernel
theorem dL_buy_3 : decode cL_buy 3 = .ok (.iload_n 1, 1) := by decide +kernel
theorem dL_buy_4 : decode cL_buy 4 = .ok (.iload_n 2, 1) := by decide +kernel
theorem dL_buy_5 : decode cL_buy 5 = .ok (.invokevirtual 31, 3) := by decide +kernel
theorem dL_buy_8 : decode cL_buy 8 = .ok (.i2l, 1) := by decide +kernel
theorem dL_buy_9 : decode cL_buy 9 = .ok (.lastore, 1) := by decide +kernel
theorem dL_buy_10 : decode cL_buy 10 = .ok (.goto 11, 3) := by decide +kernel
theorem dL_buy_13 : decode cL_buy 13 = .ok (.astore 4, 2) := by decide +kernel
theorem dL_buy_15 : decode cL_buy 15 = .ok (.iconst 1, 1) := by decide +kernel
theorem dL_buy_16 : decode cL_buy 16 = .ok (.ireturn, 1) := by decide +kernel
theorem dL_buy_17 : decode cL_buy 17 = .ok (.astore 4, 2) := by decide +kernel
theorem dL_buy_19 : decode cL_buy 19 = .ok (.iconst 2, 1) := by decide +kernel
theorem dL_buy_20 : decode cL_buy 20 = .ok (.ireturn, 1) := by decide +kernel
theorem dL_buy_21 : decode cL_buy 21 = .ok (.iconst 0, 1) := by decide +kernel
theorem dL_buy_22 : decode cL_buy 22 = .ok (.ireturn, 1) := by decide +kernel
theorem dL_refund_0 : decode cL_refund 0 = .ok (.aload_n 2, 1) := by decide +kernel
theorem dL_refund_1 : decode cL_refund 1 = .ok (.iconst 0, 1) := by decide +kernel
theorem dL_refund_2 : decode cL_refund 2 = .ok (.aload_n 0, 1) := by decide +kernel
theorem dL_refund_3 : decode cL_refund 3 = .ok (.iload_n 1, 1) := by decide +kernel
theorem dL_refund_4 : decode cL_refund 4 = .ok (.invokevirtual 34, 3) := by decide +kernel
theorem dL_refund_7 : decode cL_refund 7 = .ok (.i2l, 1) := by decide +kernel
theorem dL_refund_8 : decode cL_refund 8 = .ok (.lastore, 1) := by decide +kernel
theorem dL_refund_9 : decode cL_refund 9 = .ok (.goto 9, 3) := by decide +kernel
theorem dL_refund_12 : decode cL_refund 12 = .ok (.astore_n 3, 1) := by decide +kernel
theorem dL_refund_13 : decode cL_refund 13 = .ok (.iconst 1, 1) := by decide +kernel
theorem dL_refund_14 : decode cL_refund 14 = .ok (.ireturn, 1) := by decide +kernel
theorem dL_refund_15 : decode cL_refund 15 = .ok (.astore_n 3, 1) := by decide +kernel
theorem dL_refund_16 : decode cL_refund 16 = .ok (.iconst 2, 1) := by decide +kernel
theorem dL_refund_17 : decode cL_refund 17 = .ok (.ireturn, 1) := by decide +kernel
theorem dL_refund_18 : decode cL_refund 18 = .ok (.iconst 0, 1) := by decide +kernel
theorem dL_refund_19 : decode cL_refund 19 = .ok (.ireturn, 1) := by decide +kernel
theorem dL_paid_0 : decode cL_paid 0 = .ok (.aload_n 2, 1) := by decide +kernel
theorem dL_paid_1 : decode cL_paid 1 = .ok (.iconst 0, 1) := by decide +kernel
theorem dL_paid_2 : decode cL_paid 2 = .ok (.aload_n 0, 1) := by decide +kernel
theorem dL_paid_3 : decode cL_paid 3 = .ok (.iload_n 1, 1) := by decide +kernel
theorem dL_paid_4 : decode cL_paid 4 = .ok (.invokevirtual 37, 3) := by decide +kernel
theorem dL_paid_7 : decode cL_paid 7 = .ok (.i2l, 1) := by decide +kernel
theorem dL_paid_8 : decode cL_paid 8 = .ok (.lastore, 1) := by decide +kernel
theorem dL_paid_9 : decode cL_paid 9 = .ok (.goto 6, 3) := by decide +kernel
theorem dL_paid_12 : decode cL_paid 12 = .ok (.astore_n 3, 1) := by decide +kernel
theorem dL_paid_13 : decode cL_paid 13 = .ok (.iconst 1, 1) := by decide +kernel
theorem dL_paid_14 : decode cL_paid 14 = .ok (.ireturn, 1) := by decide +kernel
theorem dL_paid_15 : decode cL_paid 15 = .ok (.iconst 0, 1) := by decide +kernel
theorem dL_paid_16 : decode cL_paid 16 = .ok (.ireturn, 1) := by decide +kernel
theorem dL_tax_0 : decode cL_tax 0 = .ok (.aload_n 2, 1) := by decide +kernel
theorem dL_tax_1 : decode cL_tax 1 = .ok (.iconst 0, 1) := by decide +kernel
theorem dL_tax_2 : decode cL_tax 2 = .ok (.aload_n 0, 1) := by decide +kernel
theorem dL_tax_3 : decode cL_tax 3 = .ok (.iload_n 1, 1) := by decide +kernel
theorem dL_tax_4 : decode cL_tax 4 = .ok (.invokevirtual 40, 3) := by decide +kernel
theorem dL_tax_7 : decode cL_tax 7 = .ok (.i2l, 1) := by decide +kernel
theorem dL_tax_8 : decode cL_tax 8 = .ok (.lastore, 1) := by decide +kernel
theorem dL_tax_9 : decode cL_tax 9 = .ok (.goto 6, 3) := by decide +kernel
theorem dL_tax_12 : decode cL_tax 12 = .ok (.astore_n 3, 1) := by decide +kernel
theorem dL_tax_13 : decode cL_tax 13 = .ok (.iconst 1, 1) := by decide +kernel
theorem dL_tax_14 : decode cL_tax 14 = .ok (.ireturn, 1) := by decide +kernel
theorem dL_tax_15 : decode cL_tax 15 = .ok (.iconst 0, 1) := by decide +kernel
theorem dL_tax_16 : decode cL_tax 16 = .ok (.ireturn, 1) := by decide +kernel
theorem dL_shopShare_0 : decode cL_shopShare 0 = .ok (.aload_n 2, 1) := by decide +kernel
theorem dL_shopShare_1 : decode cL_shopShare 1 = .ok (.iconst 0, 1) := by decide +kernel
theorem dL_shopShare_2 : decode cL_shopShare 2 = .ok (.aload_n 0, 1) := by decide +kernel
theorem dL_shopShare_3 : decode cL_shopShare 3 = .ok (.iload_n 1, 1) := by decide +kernel
theorem dL_shopShare_4 : decode cL_shopShare 4 = .ok (.invokevirtual 43, 3) := by decide +kernel
theorem dL_shopShare_7 : decode cL_shopShare 7 = .ok (.i2l, 1) := by decide +kernel
theorem dL_shopShare_8 : decode cL_shopShare 8 = .ok (.lastore, 1) := by decide +kernel
theorem dL_shopShare_9 : decode cL_shopShare 9 = .ok (.goto 6, 3) := by decide +kernel
theorem dL_shopShare_12 : decode cL_shopShare 12 = .ok (.astore_n 3, 1) := by decide +kernel
theorem dL_shopShare_13 : decode cL_shopShare 13 = .ok (.iconst 1, 1) := by decide +kernel
theorem dL_shopShare_14 : decode cL_shopShare 14 = .ok (.ireturn, 1) := by decide +kernel
theorem dL_shopShare_15 : decode cL_shopShare 15 = .ok (.iconst 0, 1) := by decide +kernel
theorem dL_shopShare_16 : decode cL_shopShare 16 = .ok (.ireturn, 1) := by decide +kernel
theorem dL_makerPart_0 : decode cL_makerPart 0 = .ok (.aload_n 2, 1) := by decide +kernel
theorem dL_makerPart_1 : decode cL_makerPart 1 = .ok (.iconst 0, 1) := by decide +kernel
theorem dL_makerPart_2 : decode cL_makerPart 2 = .ok (.aload_n 0, 1) := by decide +kernel
theorem dL_makerPart_3 : decode cL_makerPart 3 = .ok (.iload_n 1, 1) := by decide +kernel
theorem dL_makerPart_4 : decode cL_makerPart 4 = .ok (.invokevirtual 46, 3) := by decide +kernel
theorem dL_makerPart_7 : decode cL_makerPart 7 = .ok (.i2l, 1) := by decide +kernel
theorem dL_makerPart_8 : decode cL_makerPart 8 = .ok (.lastore, 1) := by decide +kernel
theorem dL_makerPart_9 : decode cL_makerPart 9 = .ok (.goto 6, 3) := by decide +kernel
theorem dL_makerPart_12 : decode cL_makerPart 12 = .ok (.astore_n 3, 1) := by decide +kernel
theorem dL_makerPart_13 : decode cL_makerPart 13 = .ok (.iconst 1, 1) := by decide +kernel
theorem dL_makerPart_14 : decode cL_makerPart 14 = .ok (.ireturn, 1) := by decide +kernel
theorem dL_makerPart_15 : decode cL_makerPart 15 = .ok (.iconst 0, 1) := by decide +kernel
theorem dL_makerPart_16 : decode cL_makerPart 16 = .ok (.ireturn, 1) := by decide +kernel
theorem dL_subscribe_0 : decode cL_subscribe 0 = .ok (.aload 5, 2) := by decide +kernel
theorem dL_subscribe_2 : decode cL_subscribe 2 = .ok (.iconst 0, 1) := by decide +kernel
theorem dL_subscribe_3 : decode cL_subscribe 3 = .ok (.aload_n 0, 1) := by decide +kernel
theorem dL_subscribe_4 : decode cL_subscribe 4 = .ok (.iload_n 1, 1) := by decide +kernel
theorem dL_subscribe_5 : decode cL_subscribe 5 = .ok (.iload_n 2, 1) := by decide +kernel
theorem dL_subscribe_6 : decode cL_subscribe 6 = .ok (.iload_n 3, 1) := by decide +kernel
theorem dL_subscribe_7 : decode cL_subscribe 7 = .ok (.iload 4, 2) := by decide +kernel
theorem dL_subscribe_9 : decode cL_subscribe 9 = .ok (.invokevirtual 49, 3) := by decide +kernel
theorem dL_subscribe_12 : decode cL_subscribe 12 = .ok (.i2l, 1) := by decide +kernel
theorem dL_subscribe_13 : decode cL_subscribe 13 = .ok (.lastore, 1) := by decide +kernel
theorem dL_subscribe_14 : decode cL_subscribe 14 = .ok (.goto 15, 3) := by decide +kernel
theorem dL_subscribe_17 : decode cL_subscribe 17 = .ok (.astore 6, 2) := by decide +kernel
theorem dL_subscribe_19 : decode cL_subscribe 19 = .ok (.iconst 1, 1) := by decide +kernel
theorem dL_subscribe_20 : decode cL_subscribe 20 = .ok (.ireturn, 1) := by decide +kernel
theorem dL_subscribe_21 : decode cL_subscribe 21 = .ok (.astore 6, 2) := by decide +kernel
theorem dL_subscribe_23 : decode cL_subscribe 23 = .ok (.iconst 2, 1) := by decide +kernel
theorem dL_subscribe_24 : decode cL_subscribe 24 = .ok (.ireturn, 1) := by decide +kernel
theorem dL_subscribe_25 : decode cL_subscribe 25 = .ok (.astore 6, 2) := by decide +kernel
theorem dL_subscribe_27 : decode cL_subscribe 27 = .ok (.iconst 3, 1) := by decide +kernel
theorem dL_subscribe_28 : decode cL_subscribe 28 = .ok (.ireturn, 1) := by decide +kernel
theorem dL_subscribe_29 : decode cL_subscribe 29 = .ok (.iconst 0, 1) := by decide +kernel
theorem dL_subscribe_30 : decode cL_subscribe 30 = .ok (.ireturn, 1) := by decide +kernel
theorem dL_move_0 : decode cL_move 0 = .ok (.aload_n 3, 1) := by decide +kernel
theorem dL_move_1 : decode cL_move 1 = .ok (.iconst 0, 1) := by decide +kernel
theorem dL_move_2 : decode cL_move 2 = .ok (.aload_n 0, 1) := by decide +kernel
theorem dL_move_3 : decode cL_move 3 = .ok (.iload_n 1, 1) := by decide +kernel
theorem dL_move_4 : decode cL_move 4 = .ok (.iload_n 2, 1) := by decide +kernel
theorem dL_move_5 : decode cL_move 5 = .ok (.invokevirtual 53, 3) := by decide +kernel
theorem dL_move_8 : decode cL_move 8 = .ok (.i2l, 1) := by decide +kernel
theorem dL_move_9 : decode cL_move 9 = .ok (.lastore, 1) := by decide +kernel
theorem dL_move_10 : decode cL_move 10 = .ok (.goto 15, 3) := by decide +kernel
theorem dL_move_13 : decode cL_move 13 = .ok (.astore 4, 2) := by decide +kernel
theorem dL_move_15 : decode cL_move 15 = .ok (.iconst 1, 1) := by decide +kernel
theorem dL_move_16 : decode cL_move 16 = .ok (.ireturn, 1) := by decide +kernel
theorem dL_move_17 : decode cL_move 17 = .ok (.astore 4, 2) := by decide +kernel
theorem dL_move_19 : decode cL_move 19 = .ok (.iconst 2, 1) := by decide +kernel
theorem dL_move_20 : decode cL_move 20 = .ok (.ireturn, 1) := by decide +kernel
theorem dL_move_21 : decode cL_move 21 = .ok (.astore 4, 2) := by decide +kernel
theorem dL_move_23 : decode cL_move 23 = .ok (.iconst 3, 1) := by decide +kernel
theorem dL_move_24 : decode cL_move 24 = .ok (.ireturn, 1) := by decide +kernel
theorem dL_move_25 : decode cL_move 25 = .ok (.iconst 0, 1) := by decide +kernel
theorem dL_move_26 : decode cL_move 26 = .ok (.ireturn, 1) := by decide +kernel
theorem dL_setFailing_0 : decode cL_setFailing 0 = .ok (.aload_n 0, 1) := by decide +kernel
theorem dL_setFailing_1 : decode cL_setFailing 1 = .ok (.iload_n 1, 1) := by decide +kernel
theorem dL_setFailing_2 : decode cL_setFailing 2 = .ok (.iload_n 2, 1) := by decide +kernel
theorem dL_setFailing_3 : decode cL_setFailing 3 = .ok (.invokevirtual 56, 3) := by decide +kernel
theorem dL_setFailing_6 : decode cL_setFailing 6 = .ok (.goto 9, 3) := by decide +kernel
theorem dL_setFailing_9 : decode cL_setFailing 9 = .ok (.astore_n 3, 1) := by decide +kernel
theorem dL_setFailing_10 : decode cL_setFailing 10 = .ok (.iconst 1, 1) := by decide +kernel
theorem dL_setFailing_11 : decode cL_setFailing 11 = .ok (.ireturn, 1) := by decide +kernel
theorem dL_setFailing_12 : decode cL_setFailing 12 = .ok (.astore_n 3, 1) := by decide +kernel
theorem dL_setFailing_13 : decode cL_setFailing 13 = .ok (.iconst 2, 1) := by decide +kernel
theorem dL_setFailing_14 : decode cL_setFailing 14 = .ok (.ireturn, 1) := by decide +kernel
theorem dL_setFailing_15 : decode cL_setFailing 15 = .ok (.iconst 0, 1) := by decide +kernel
theorem dL_setFailing_16 : decode cL_setFailing 16 = .ok (.ireturn, 1) := by decide +kernel
theorem dL_cancel_0 : decode cL_cancel 0 = .ok (.aload_n 2, 1) := by decide +kernel
theorem dL_cancel_1 : decode cL_cancel 1 = .ok (.iconst 0, 1) := by decide +kernel
theorem dL_cancel_2 : decode cL_cancel 2 = .ok (.aload_n 0, 1) := by decide +kernel
theorem dL_cancel_3 : decode cL_cancel 3 = .ok (.iload_n 1, 1) := by decide +kernel
theorem dL_cancel_4 : decode cL_cancel 4 = .ok (.invokevirtual 60, 3) := by decide +kernel
theorem dL_cancel_7 : decode cL_cancel 7 = .ok (.i2l, 1) := by decide +kernel
theorem dL_cancel_8 : decode cL_cancel 8 = .ok (.lastore, 1) := by decide +kernel
theorem dL_cancel_9 : decode cL_cancel 9 = .ok (.goto 9, 3) := by decide +kernel
theorem dL_cancel_12 : decode cL_cancel 12 = .ok (.astore_n 3, 1) := by decide +kernel
theorem dL_cancel_13 : decode cL_cancel 13 = .ok (.iconst 1, 1) := by decide +kernel
theorem dL_cancel_14 : decode cL_cancel 14 = .ok (.ireturn, 1) := by decide +kernel
theorem dL_cancel_15 : decode cL_cancel 15 = .ok (.astore_n 3, 1) := by decide +kernel
theorem dL_cancel_16 : decode cL_cancel 16 = .ok (.iconst 2, 1) := by decide +kernel
theorem dL_cancel_17 : decode cL_cancel 17 = .ok (.ireturn, 1) := by decide +kernel
theorem dL_cancel_18 : decode cL_cancel 18 = .ok (.iconst 0, 1) := by decide +kernel
theorem dL_cancel_19 : decode cL_cancel 19 = .ok (.ireturn, 1) := by decide +kernel
theorem dL_payments_0 : decode cL_payments 0 = .ok (.aload_n 2, 1) := by decide +kernel
theorem dL_payments_1 : decode cL_payments 1 = .ok (.iconst 0, 1) := by decide +kernel
theorem dL_payments_2 : decode cL_payments 2 = .ok (.aload_n 0, 1) := by decide +kernel
theorem dL_payments_3 : decode cL_payments 3 = .ok (.iload_n 1, 1) := by decide +kernel
theorem dL_payments_4 : decode cL_payments 4 = .ok (.invokevirtual 63, 3) := by decide +kernel
theorem dL_payments_7 : decode cL_payments 7 = .ok (.i2l, 1) := by decide +kernel
theorem dL_payments_8 : decode cL_payments 8 = .ok (.lastore, 1) := by decide +kernel
theorem dL_payments_9 : decode cL_payments 9 = .ok (.goto 6, 3) := by decide +kernel
theorem dL_payments_12 : decode cL_payments 12 = .ok (.astore_n 3, 1) := by decide +kernel
theorem dL_payments_13 : decode cL_payments 13 = .ok (.iconst 1, 1) := by decide +kernel
theorem dL_payments_14 : decode cL_payments 14 = .ok (.ireturn, 1) := by decide +kernel
theorem dL_payments_15 : decode cL_payments 15 = .ok (.iconst 0, 1) := by decide +kernel
theorem dL_payments_16 : decode cL_payments 16 = .ok (.ireturn, 1) := by decide +kernel
theorem dL_next_0 : decode cL_next 0 = .ok (.aload_n 2, 1) := by decide +kernel
theorem dL_next_1 : decode cL_next 1 = .ok (.iconst 0, 1) := by decide +kernel
theorem dL_next_2 : decode cL_next 2 = .ok (.aload_n 0, 1) := by decide +kernel
theorem dL_next_3 : decode cL_next 3 = .ok (.iload_n 1, 1) := by decide +kernel
theorem dL_next_4 : decode cL_next 4 = .ok (.invokevirtual 66, 3) := by decide +kernel
theorem dL_next_7 : decode cL_next 7 = .ok (.i2l, 1) := by decide +kernel
theorem dL_next_8 : decode cL_next 8 = .ok (.lastore, 1) := by decide +kernel
theorem dL_next_9 : decode cL_next 9 = .ok (.goto 6, 3) := by decide +kernel
theorem dL_next_12 : decode cL_next 12 = .ok (.astore_n 3, 1) := by decide +kernel
theorem dL_next_13 : decode cL_next 13 = .ok (.iconst 1, 1) := by decide +kernel
theorem dL_next_14 : decode cL_next 14 = .ok (.ireturn, 1) := by decide +kernel
theorem dL_next_15 : decode cL_next 15 = .ok (.iconst 0, 1) := by decide +kernel
theorem dL_next_16 : decode cL_next 16 = .ok (.ireturn, 1) := by decide +kernel
theorem dL_payout_0 : decode cL_payout 0 = .ok (.aload_n 3, 1) := by decide +kernel
theorem dL_payout_1 : decode cL_payout 1 = .ok (.iconst 0, 1) := by decide +kernel
theorem dL_payout_2 : decode cL_payout 2 = .ok (.aload_n 0, 1) := by decide +kernel
theorem dL_payout_3 : decode cL_payout 3 = .ok (.iload_n 1, 1) := by decide +kernel
theorem dL_payout_4 : decode cL_payout 4 = .ok (.iload_n 2, 1) := by decide +kernel
theorem dL_payout_5 : decode cL_payout 5 = .ok (.invokevirtual 69, 3) := by decide +kernel
theorem dL_payout_8 : decode cL_payout 8 = .ok (.i2l, 1) := by decide +kernel
theorem dL_payout_9 : decode cL_payout 9 = .ok (.lastore, 1) := by decide +kernel
theorem dL_payout_10 : decode cL_payout 10 = .ok (.goto 11, 3) := by decide +kernel
theorem dL_payout_13 : decode cL_payout 13 = .ok (.astore 4, 2) := by decide +kernel
theorem dL_payout_15 : decode cL_payout 15 = .ok (.iconst 1, 1) := by decide +kernel
theorem dL_payout_16 : decode cL_payout 16 = .ok (.ireturn, 1) := by decide +kernel
theorem dL_payout_17 : decode cL_payout 17 = .ok (.astore 4, 2) := by decide +kernel
theorem dL_payout_19 : decode cL_payout 19 = .ok (.iconst 2, 1) := by decide +kernel
theorem dL_payout_20 : decode cL_payout 20 = .ok (.ireturn, 1) := by decide +kernel
theorem dL_payout_21 : decode cL_payout 21 = .ok (.iconst 0, 1) := by decide +kernel
theorem dL_payout_22 : decode cL_payout 22 = .ok (.ireturn, 1) := by decide +kernel
theorem dL_carried_0 : decode cL_carried 0 = .ok (.aload_n 2, 1) := by decide +kernel
theorem dL_carried_1 : decode cL_carried 1 = .ok (.iconst 0, 1) := by decide +kernel
theorem dL_carried_2 : decode cL_carried 2 = .ok (.aload_n 0, 1) := by decide +kernel
theorem dL_carried_3 : decode cL_carried 3 = .ok (.iload_n 1, 1) := by decide +kernel
theorem dL_carried_4 : decode cL_carried 4 = .ok (.invokevirtual 72, 3) := by decide +kernel
theorem dL_carried_7 : decode cL_carried 7 = .ok (.i2l, 1) := by decide +kernel
theorem dL_carried_8 : decode cL_carried 8 = .ok (.lastore, 1) := by decide +kernel
theorem dL_carried_9 : decode cL_carried 9 = .ok (.goto 6, 3) := by decide +kernel
theorem dL_carried_12 : decode cL_carried 12 = .ok (.astore_n 3, 1) := by decide +kernel
theorem dL_carried_13 : decode cL_carried 13 = .ok (.iconst 1, 1) := by decide +kernel
theorem dL_carried_14 : decode cL_carried 14 = .ok (.ireturn, 1) := by decide +kernel
theorem dL_carried_15 : decode cL_carried 15 = .ok (.iconst 0, 1) := by decide +kernel
theorem dL_carried_16 : decode cL_carried 16 = .ok (.ireturn, 1) := by decide +kernel
theorem dL_balance_0 : decode cL_balance 0 = .ok (.aload_n 2, 1) := by decide +kernel
theorem dL_balance_1 : decode cL_balance 1 = .ok (.iconst 0, 1) := by decide +kernel
theorem dL_balance_2 : decode cL_balance 2 = .ok (.aload_n 0, 1) := by decide +kernel
theorem dL_balance_3 : decode cL_balance 3 = .ok (.iload_n 1, 1) := by decide +kernel
theorem dL_balance_4 : decode cL_balance 4 = .ok (.invokevirtual 75, 3) := by decide +kernel
theorem dL_balance_7 : decode cL_balance 7 = .ok (.i2l, 1) := by decide +kernel
theorem dL_balance_8 : decode cL_balance 8 = .ok (.lastore, 1) := by decide +kernel
theorem dL_balance_9 : decode cL_balance 9 = .ok (.goto 6, 3) := by decide +kernel
theorem dL_balance_12 : decode cL_balance 12 = .ok (.astore_n 3, 1) := by decide +kernel
theorem dL_balance_13 : decode cL_balance 13 = .ok (.iconst 1, 1) := by decide +kernel
theorem dL_balance_14 : decode cL_balance 14 = .ok (.ireturn, 1) := by decide +kernel
theorem dL_balance_15 : decode cL_balance 15 = .ok (.iconst 0, 1) := by decide +kernel
theorem dL_balance_16 : decode cL_balance 16 = .ok (.ireturn, 1) := by decide +kernel
theorem dL_heldTax_0 : decode cL_heldTax 0 = .ok (.aload_n 2, 1) := by decide +kernel
theorem dL_heldTax_1 : decode cL_heldTax 1 = .ok (.iconst 0, 1) := by decide +kernel
theorem dL_heldTax_2 : decode cL_heldTax 2 = .ok (.aload_n 0, 1) := by decide +kernel
theorem dL_heldTax_3 : decode cL_heldTax 3 = .ok (.iload_n 1, 1) := by decide +kernel
theorem dL_heldTax_4 : decode cL_heldTax 4 = .ok (.invokevirtual 78, 3) := by decide +kernel
theorem dL_heldTax_7 : decode cL_heldTax 7 = .ok (.i2l, 1) := by decide +kernel
theorem dL_heldTax_8 : decode cL_heldTax 8 = .ok (.lastore, 1) := by decide +kernel
theorem dL_heldTax_9 : decode cL_heldTax 9 = .ok (.goto 6, 3) := by decide +kernel
theorem dL_heldTax_12 : decode cL_heldTax 12 = .ok (.astore_n 3, 1) := by decide +kernel
theorem dL_heldTax_13 : decode cL_heldTax 13 = .ok (.iconst 1, 1) := by decide +kernel
theorem dL_heldTax_14 : decode cL_heldTax 14 = .ok (.ireturn, 1) := by decide +kernel
theorem dL_heldTax_15 : decode cL_heldTax 15 = .ok (.iconst 0, 1) := by decide +kernel
theorem dL_heldTax_16 : decode cL_heldTax 16 = .ok (.ireturn, 1) := by decide +kernel
theorem dL_pass_0 : decode cL_pass 0 = .ok (.aload_n 2, 1) := by decide +kernel
theorem dL_pass_1 : decode cL_pass 1 = .ok (.iconst 0, 1) := by decide +kernel
theorem dL_pass_2 : decode cL_pass 2 = .ok (.aload_n 0, 1) := by decide +kernel
theorem dL_pass_3 : decode cL_pass 3 = .ok (.iload_n 1, 1) := by decide +kernel
theorem dL_pass_4 : decode cL_pass 4 = .ok (.invokevirtual 81, 3) := by decide +kernel
theorem dL_pass_7 : decode cL_pass 7 = .ok (.i2l, 1) := by decide +kernel
theorem dL_pass_8 : decode cL_pass 8 = .ok (.lastore, 1) := by decide +kernel
theorem dL_pass_9 : decode cL_pass 9 = .ok (.goto 9, 3) := by decide +kernel
theorem dL_pass_12 : decode cL_pass 12 = .ok (.astore_n 3, 1) := by decide +kernel
theorem dL_pass_13 : decode cL_pass 13 = .ok (.iconst 1, 1) := by decide +kernel
theorem dL_pass_14 : decode cL_pass 14 = .ok (.ireturn, 1) := by decide +kernel
theorem dL_pass_15 : decode cL_pass 15 = .ok (.astore_n 3, 1) := by decide +kernel
theorem dL_pass_16 : decode cL_pass 16 = .ok (.iconst 2, 1) := by decide +kernel
theorem dL_pass_17 : decode cL_pass 17 = .ok (.ireturn, 1) := by decide +kernel
theorem dL_pass_18 : decode cL_pass 18 = .ok (.iconst 0, 1) := by decide +kernel
theorem dL_pass_19 : decode cL_pass 19 = .ok (.ireturn, 1) := by decide +kernel
theorem dL_law_0 : decode cL_law 0 = .ok (.new 8, 3) := by decide +kernel
theorem dL_law_3 : decode cL_law 3 = .ok (.dup, 1) := by decide +kernel
theorem dL_law_4 : decode cL_law 4 = .ok (.invokespecial 84, 3) := by decide +kernel
theorem dL_law_7 : decode cL_law 7 = .ok (.astore_n 1, 1) := by decide +kernel
theorem dL_law_8 : decode cL_law 8 = .ok (.new 85, 3) := by decide +kernel
theorem dL_law_11 : decode cL_law 11 = .ok (.dup, 1) := by decide +kernel
theorem dL_law_12 : decode cL_law 12 = .ok (.invokespecial 87, 3) := by decide +kernel
theorem dL_law_15 : decode cL_law 15 = .ok (.astore_n 2, 1) := by decide +kernel
theorem dL_law_16 : decode cL_law 16 = .ok (.iconst 1, 1) := by decide +kernel
theorem dL_law_17 : decode cL_law 17 = .ok (.newarray .long, 2) := by decide +kernel
theorem dL_law_19 : decode cL_law 19 = .ok (.astore_n 3, 1) := by decide +kernel
theorem dL_law_20 : decode cL_law 20 = .ok (.iconst 0, 1) := by decide +kernel
theorem dL_law_21 : decode cL_law 21 = .ok (.istore 4, 2) := by decide +kernel
theorem dL_law_23 : decode cL_law 23 = .ok (.iload 4, 2) := by decide +kernel
theorem dL_law_25 : decode cL_law 25 = .ok (.aload_n 0, 1) := by decide +kernel
theorem dL_law_26 : decode cL_law 26 = .ok (.arraylength, 1) := by decide +kernel
theorem dL_law_27 : decode cL_law 27 = .ok (.iconst 5, 1) := by decide +kernel
theorem dL_law_28 : decode cL_law 28 = .ok (.isub, 1) := by decide +kernel
theorem dL_law_29 : decode cL_law 29 = .ok (.if_icmp .gt 1529, 3) := by decide +kernel
theorem dL_law_32 : decode cL_law 32 = .ok (.aload_n 0, 1) := by decide +kernel
theorem dL_law_33 : decode cL_law 33 = .ok (.iload 4, 2) := by decide +kernel
theorem dL_law_35 : decode cL_law 35 = .ok (.iaload, 1) := by decide +kernel
theorem dL_law_36 : decode cL_law 36 = .ok (.bipush 31, 2) := by decide +kernel
theorem dL_law_38 : decode cL_law 38 = .ok (.iand, 1) := by decide +kernel
theorem dL_law_39 : decode cL_law 39 = .ok (.tableswitch 1513 0 24 #[113, 209, 265, 333, 413, 481, 537, 550, 606, 662, 718, 774, 882, 950, 1014, 1070, 1126, 1182, 1250, 1306, 1362, 1418, 1431, 1444, 1500], 113) := by decide +kernel
theorem dL_law_152 : decode cL_law 152 = .ok (.aload_n 1, 1) := by decide +kernel
theorem dL_law_153 : decode cL_law 153 = .ok (.aload_n 0, 1) := by decide +kernel
theorem dL_law_154 : decode cL_law 154 = .ok (.iload 4, 2) := by decide +kernel
theorem dL_law_156 : decode cL_law 156 = .ok (.iconst 1, 1) := by decide +kernel
theorem dL_law_157 : decode cL_law 157 = .ok (.iadd, 1) := by decide +kernel
theorem dL_law_158 : decode cL_law 158 = .ok (.iaload, 1) := by decide +kernel
theorem dL_law_159 : decode cL_law 159 = .ok (.aload_n 0, 1) := by decide +kernel
theorem dL_law_160 : decode cL_law 160 = .ok (.iload 4, 2) := by decide +kernel
theorem dL_law_162 : decode cL_law 162 = .ok (.iconst 2, 1) := by decide +kernel
theorem dL_law_163 : decode cL_law 163 = .ok (.iadd, 1) := by decide +kernel
theorem dL_law_164 : decode cL_law 164 = .ok (.iaload, 1) := by decide +kernel
theorem dL_law_165 : decode cL_law 165 = .ok (.aload_n 0, 1) := by decide +kernel
theorem dL_law_166 : decode cL_law 166 = .ok (.iload 4, 2) := by decide +kernel
theorem dL_law_168 : decode cL_law 168 = .ok (.iconst 3, 1) := by decide +kernel
theorem dL_law_169 : decode cL_law 169 = .ok (.iadd, 1) := by decide +kernel
theorem dL_law_170 : decode cL_law 170 = .ok (.iaload, 1) := by decide +kernel
theorem dL_law_171 : decode cL_law 171 = .ok (.ifCond .eq 7, 3) := by decide +kernel
theorem dL_law_174 : decode cL_law 174 = .ok (.iconst 1, 1) := by decide +kernel
theorem dL_law_175 : decode cL_law 175 = .ok (.goto 4, 3) := by decide +kernel
theorem dL_law_178 : decode cL_law 178 = .ok (.iconst 0, 1) := by decide +kernel
theorem dL_law_179 : decode cL_law 179 = .ok (.aload_n 3, 1) := by decide +kernel
theorem dL_law_180 : decode cL_law 180 = .ok (.invokestatic 88, 3) := by decide +kernel
theorem dL_law_183 : decode cL_law 183 = .ok (.istore 5, 2) := by decide +kernel
theorem dL_law_185 : decode cL_law 185 = .ok (.aload_n 2, 1) := by decide +kernel
theorem dL_law_186 : decode cL_law 186 = .ok (.aload_n 0, 1) := by decide +kernel
theorem dL_law_187 : decode cL_law 187 = .ok (.iload 4, 2) := by decide +kernel
theorem dL_law_189 : decode cL_law 189 = .ok (.iconst 1, 1) := by decide +kernel
theorem dL_law_190 : decode cL_law 190 = .ok (.iadd, 1) := by decide +kernel
theorem dL_law_191 : decode cL_law 191 = .ok (.iaload, 1) := by decide +kernel
theorem dL_law_192 : decode cL_law 192 = .ok (.aload_n 0, 1) := by decide +kernel
theorem dL_law_193 : decode cL_law 193 = .ok (.iload 4, 2) := by decide +kernel
theorem dL_law_195 : decode cL_law 195 = .ok (.iconst 2, 1) := by decide +kernel
theorem dL_law_196 : decode cL_law 196 = .ok (.iadd, 1) := by decide +kernel
theorem dL_law_197 : decode cL_law 197 = .ok (.iaload, 1) := by decide +kernel
theorem dL_law_198 : decode cL_law 198 = .ok (.aload_n 0, 1) := by decide +kernel
theorem dL_law_199 : decode cL_law 199 = .ok (.iload 4, 2) := by decide +kernel
theorem dL_law_201 : decode cL_law 201 = .ok (.iconst 3, 1) := by decide +kernel
theorem dL_law_202 : decode cL_law 202 = .ok (.iadd, 1) := by decide +kernel
theorem dL_law_203 : decode cL_law 203 = .ok (.iaload, 1) := by decide +kernel
theorem dL_law_204 : decode cL_law 204 = .ok (.ifCond .eq 7, 3) := by decide +kernel
theorem dL_law_207 : decode cL_law 207 = .ok (.iconst 1, 1) := by decide +kernel
theorem dL_law_208 : decode cL_law 208 = .ok (.goto 4, 3) := by decide +kernel
theorem dL_law_211 : decode cL_law 211 = .ok (.iconst 0, 1) := by decide +kernel
theorem dL_law_212 : decode cL_law 212 = .ok (.invokevirtual 93, 3) := by decide +kernel
theorem dL_law_215 : decode cL_law 215 = .ok (.istore 6, 2) := by decide +kernel
theorem dL_law_217 : decode cL_law 217 = .ok (.aload_n 2, 1) := by decide +kernel
theorem dL_law_218 : decode cL_law 218 = .ok (.invokevirtual 94, 3) := by decide +kernel
theorem dL_law_221 : decode cL_law 221 = .ok (.iload 5, 2) := by decide +kernel
theorem dL_law_223 : decode cL_law 223 = .ok (.if_icmp .eq 5, 3) := by decide +kernel
theorem dL_law_226 : decode cL_law 226 = .ok (.iconst 0, 1) := by decide +kernel
theorem dL_law_227 : decode cL_law 227 = .ok (.ireturn, 1) := by decide +kernel
theorem dL_law_228 : decode cL_law 228 = .ok (.iload 5, 2) := by decide +kernel
theorem dL_law_230 : decode cL_law 230 = .ok (.ifCond .ne 15, 3) := by decide +kernel
theorem dL_law_233 : decode cL_law 233 = .ok (.aload_n 3, 1) := by decide +kernel
theorem dL_law_234 : decode cL_law 234 = .ok (.iconst 0, 1) := by decide +kernel
theorem dL_law_235 : decode cL_law 235 = .ok (.laload, 1) := by decide +kernel
theorem dL_law_236 : decode cL_law 236 = .ok (.iload 6, 2) := by decide +kernel
theorem dL_law_238 : decode cL_law 238 = .ok (.i2l, 1) := by decide +kernel
theorem dL_law_239 : decode cL_law 239 = .ok (.lcmp, 1) := by decide +kernel
theorem dL_law_240 : decode cL_law 240 = .ok (.ifCond .eq 5, 3) := by decide +kernel
theorem dL_law_243 : decode cL_law 243 = .ok (.iconst 0, 1) := by decide +kernel
theorem dL_law_244 : decode cL_law 244 = .ok (.ireturn, 1) := by decide +kernel
theorem dL_law_245 : decode cL_law 245 = .ok (.goto 1307, 3) := by decide +kernel
theorem dL_law_248 : decode cL_law 248 = .ok (.aload_n 1, 1) := by decide +kernel
theorem dL_law_249 : decode cL_law 249 = .ok (.aload_n 0, 1) := by decide +kernel
theorem dL_law_250 : decode cL_law 250 = .ok (.iload 4, 2) := by decide +kernel
theorem dL_law_252 : decode cL_law 252 = .ok (.iconst 1, 1) := by decide +kernel
theorem dL_law_253 : decode cL_law 253 = .ok (.iadd, 1) := by decide +kernel
theorem dL_law_254 : decode cL_law 254 = .ok (.iaload, 1) := by decide +kernel
theorem dL_law_255 : decode cL_law 255 = .ok (.aload_n 3, 1) := by decide +kernel
theorem dL_law_256 : decode cL_law 256 = .ok (.invokestatic 98, 3) := by decide +kernel
theorem dL_law_259 : decode cL_law 259 = .ok (.istore 5, 2) := by decide +kernel
theorem dL_law_261 : decode cL_law 261 = .ok (.aload_n 2, 1) := by decide +kernel
theorem dL_law_262 : decode cL_law 262 = .ok (.aload_n 0, 1) := by decide +kernel
theorem dL_law_263 : decode cL_law 263 = .ok (.iload 4, 2) := by decide +kernel
theorem dL_law_265 : decode cL_law 265 = .ok (.iconst 1, 1) := by decide +kernel
theorem dL_law_266 : decode cL_law 266 = .ok (.iadd, 1) := by decide +kernel
theorem dL_law_267 : decode cL_law 267 = .ok (.iaload, 1) := by decide +kernel
theorem dL_law_268 : decode cL_law 268 = .ok (.invokevirtual 101, 3) := by decide +kernel
theorem dL_law_271 : decode cL_law 271 = .ok (.istore 6, 2) := by decide +kernel
theorem dL_law_273 : decode cL_law 273 = .ok (.aload_n 2, 1) := by decide +kernel
theorem dL_law_274 : decode cL_law 274 = .ok (.invokevirtual 94, 3) := by decide +kernel
theorem dL_law_277 : decode cL_law 277 = .ok (.iload 5, 2) := by decide +kernel
theorem dL_law_279 : decode cL_law 279 = .ok (.if_icmp .eq 5, 3) := by decide +kernel
theorem dL_law_282 : decode cL_law 282 = .ok (.iconst 0, 1) := by decide +kernel
theorem dL_law_283 : decode cL_law 283 = .ok (.ireturn, 1) := by decide +kernel
theorem dL_law_284 : decode cL_law 284 = .ok (.iload 5, 2) := by decide +kernel
theorem dL_law_286 : decode cL_law 286 = .ok (.ifCond .ne 15, 3) := by decide +kernel
theorem dL_law_289 : decode cL_law 289 = .ok (.aload_n 3, 1) := by decide +kernel
theorem dL_law_290 : decode cL_law 290 = .ok (.iconst 0, 1) := by decide +kernel
theorem dL_law_291 : decode cL_law 291 = .ok (.laload, 1) := by decide +kernel
theorem dL_law_292 : decode cL_law 292 = .ok (.iload 6, 2) := by decide +kernel
theorem dL_law_294 : decode cL_law 294 = .ok (.i2l, 1) := by decide +kernel
theorem dL_law_295 : decode cL_law 295 = .ok (.lcmp, 1) := by decide +kernel
theorem dL_law_296 : decode cL_law 296 = .ok (.ifCond .eq 5, 3) := by decide +kernel
theorem dL_law_299 : decode cL_law 299 = .ok (.iconst 0, 1) := by decide +kernel
theorem dL_law_300 : decode cL_law 300 = .ok (.ireturn, 1) := by decide +kernel
theorem dL_law_301 : decode cL_law 301 = .ok (.goto 1251, 3) := by decide +kernel
theorem dL_law_304 : decode cL_law 304 = .ok (.aload_n 1, 1) := by decide +kernel
theorem dL_law_305 : decode cL_law 305 = .ok (.aload_n 0, 1) := by decide +kernel
theorem dL_law_306 : decode cL_law 306 = .ok (.iload 4, 2) := by decide +kernel
theorem dL_law_308 : decode cL_law 308 = .ok (.iconst 1, 1) := by decide +kernel
theorem dL_law_309 : decode cL_law 309 = .ok (.iadd, 1) := by decide +kernel
theorem dL_law_310 : decode cL_law 310 = .ok (.iaload, 1) := by decide +kernel
theorem dL_law_311 : decode cL_law 311 = .ok (.aload_n 0, 1) := by decide +kernel
theorem dL_law_312 : decode cL_law 312 = .ok (.iload 4, 2) := by decide +kernel
theorem dL_law_314 : decode cL_law 314 = .ok (.iconst 2, 1) := by decide +kernel
theorem dL_law_315 : decode cL_law 315 = .ok (.iadd, 1) := by decide +kernel
theorem dL_law_316 : decode cL_law 316 = .ok (.iaload, 1) := by decide +kernel
theorem dL_law_317 : decode cL_law 317 = .ok (.aload_n 3, 1) := by decide +kernel
theorem dL_law_318 : decode cL_law 318 = .ok (.invokestatic 102, 3) := by decide +kernel
theorem dL_law_321 : decode cL_law 321 = .ok (.istore 5, 2) := by decide +kernel
theorem dL_law_323 : decode cL_law 323 = .ok (.aload_n 2, 1) := by decide +kernel
theorem dL_law_324 : decode cL_law 324 = .ok (.aload_n 0, 1) := by decide +kernel
theorem dL_law_325 : decode cL_law 325 = .ok (.iload 4, 2) := by decide +kernel
theorem dL_law_327 : decode cL_law 327 = .ok (.iconst 1, 1) := by decide +kernel
theorem dL_law_328 : decode cL_law 328 = .ok (.iadd, 1) := by decide +kernel
theorem dL_law_329 : decode cL_law 329 = .ok (.iaload, 1) := by decide +kernel
theorem dL_law_330 : decode cL_law 330 = .ok (.aload_n 0, 1) := by decide +kernel
theorem dL_law_331 : decode cL_law 331 = .ok (.iload 4, 2) := by decide +kernel
theorem dL_law_333 : decode cL_law 333 = .ok (.iconst 2, 1) := by decide +kernel
theorem dL_law_334 : decode cL_law 334 = .ok (.iadd, 1) := by decide +kernel
theorem dL_law_335 : decode cL_law 335 = .ok (.iaload, 1) := by decide +kernel
theorem dL_law_336 : decode cL_law 336 = .ok (.invokevirtual 105, 3) := by decide +kernel
theorem dL_law_339 : decode cL_law 339 = .ok (.istore 6, 2) := by decide +kernel
theorem dL_law_341 : decode cL_law 341 = .ok (.aload_n 2, 1) := by decide +kernel
theorem dL_law_342 : decode cL_law 342 = .ok (.invokevirtual 94, 3) := by decide +kernel
theorem dL_law_345 : decode cL_law 345 = .ok (.iload 5, 2) := by decide +kernel
theorem dL_law_347 : decode cL_law 347 = .ok (.if_icmp .eq 5, 3) := by decide +kernel
theorem dL_law_350 : decode cL_law 350 = .ok (.iconst 0, 1) := by decide +kernel
theorem dL_law_351 : decode cL_law 351 = .ok (.ireturn, 1) := by decide +kernel
theorem dL_law_352 : decode cL_law 352 = .ok (.iload 5, 2) := by decide +kernel
theorem dL_law_354 : decode cL_law 354 = .ok (.ifCond .ne 15, 3) := by decide +kernel
theorem dL_law_357 : decode cL_law 357 = .ok (.aload_n 3, 1) := by decide +kernel
theorem dL_law_358 : decode cL_law 358 = .ok (.iconst 0, 1) := by decide +kernel
theorem dL_law_359 : decode cL_law 359 = .ok (.laload, 1) := by decide +kernel
theorem dL_law_360 : decode cL_law 360 = .ok (.iload 6, 2) := by decide +kernel
theorem dL_law_362 : decode cL_law 362 = .ok (.i2l, 1) := by decide +kernel
theorem dL_law_363 : decode cL_law 363 = .ok (.lcmp, 1) := by decide +kernel
theorem dL_law_364 : decode cL_law 364 = .ok (.ifCond .eq 5, 3) := by decide +kernel
theorem dL_law_367 : decode cL_law 367 = .ok (.iconst 0, 1) := by decide +kernel
theorem dL_law_368 : decode cL_law 368 = .ok (.ireturn, 1) := by decide +kernel
theorem dL_law_369 : decode cL_law 369 = .ok (.goto 1183, 3) := by decide +kernel
theorem dL_law_372 : decode cL_law 372 = .ok (.aload_n 1, 1) := by decide +kernel
theorem dL_law_373 : decode cL_law 373 = .ok (.aload_n 0, 1) := by decide +kernel
theorem dL_law_374 : decode cL_law 374 = .ok (.iload 4, 2) := by decide +kernel
theorem dL_law_376 : decode cL_law 376 = .ok (.iconst 1, 1) := by decide +kernel
theorem dL_law_377 : decode cL_law 377 = .ok (.iadd, 1) := by decide +kernel
theorem dL_law_378 : decode cL_law 378 = .ok (.iaload, 1) := by decide +kernel
theorem dL_law_379 : decode cL_law 379 = .ok (.aload_n 0, 1) := by decide +kernel
theorem dL_law_380 : decode cL_law 380 = .ok (.iload 4, 2) := by decide +kernel
theorem dL_law_382 : decode cL_law 382 = .ok (.iconst 2, 1) := by decide +kernel
theorem dL_law_383 : decode cL_law 383 = .ok (.iadd, 1) := by decide +kernel
theorem dL_law_384 : decode cL_law 384 = .ok (.iaload, 1) := by decide +kernel
theorem dL_law_385 : decode cL_law 385 = .ok (.aload_n 0, 1) := by decide +kernel
theorem dL_law_386 : decode cL_law 386 = .ok (.iload 4, 2) := by decide +kernel
theorem dL_law_388 : decode cL_law 388 = .ok (.iconst 3, 1) := by decide +kernel
theorem dL_law_389 : decode cL_law 389 = .ok (.iadd, 1) := by decide +kernel
theorem dL_law_390 : decode cL_law 390 = .ok (.iaload, 1) := by decide +kernel
theorem dL_law_391 : decode cL_law 391 = .ok (.aload_n 3, 1) := by decide +kernel
theorem dL_law_392 : decode cL_law 392 = .ok (.invokestatic 106, 3) := by decide +kernel
theorem dL_law_395 : decode cL_law 395 = .ok (.istore 5, 2) := by decide +kernel
theorem dL_law_397 : decode cL_law 397 = .ok (.aload_n 2, 1) := by decide +kernel
theorem dL_law_398 : decode cL_law 398 = .ok (.aload_n 0, 1) := by decide +kernel
theorem dL_law_399 : decode cL_law 399 = .ok (.iload 4, 2) := by decide +kernel
theorem dL_law_401 : decode cL_law 401 = .ok (.iconst 1, 1) := by decide +kernel
theorem dL_law_402 : decode cL_law 402 = .ok (.iadd, 1) := by decide +kernel
theorem dL_law_403 : decode cL_law 403 = .ok (.iaload, 1) := by decide +kernel
theorem dL_law_404 : decode cL_law 404 = .ok (.aload_n 0, 1) := by decide +kernel
theorem dL_law_405 : decode cL_law 405 = .ok (.iload 4, 2) := by decide +kernel
theorem dL_law_407 : decode cL_law 407 = .ok (.iconst 2, 1) := by decide +kernel
theorem dL_law_408 : decode cL_law 408 = .ok (.iadd, 1) := by decide +kernel
theorem dL_law_409 : decode cL_law 409 = .ok (.iaload, 1) := by decide +kernel
theorem dL_law_410 : decode cL_law 410 = .ok (.aload_n 0, 1) := by decide +kernel
theorem dL_law_411 : decode cL_law 411 = .ok (.iload 4, 2) := by decide +kernel
theorem dL_law_413 : decode cL_law 413 = .ok (.iconst 3, 1) := by decide +kernel
theorem dL_law_414 : decode cL_law 414 = .ok (.iadd, 1) := by decide +kernel
theorem dL_law_415 : decode cL_law 415 = .ok (.iaload, 1) := by decide +kernel
theorem dL_law_416 : decode cL_law 416 = .ok (.invokevirtual 109, 3) := by decide +kernel
theorem dL_law_419 : decode cL_law 419 = .ok (.istore 6, 2) := by decide +kernel
theorem dL_law_421 : decode cL_law 421 = .ok (.aload_n 2, 1) := by decide +kernel
theorem dL_law_422 : decode cL_law 422 = .ok (.invokevirtual 94, 3) := by decide +kernel
theorem dL_law_425 : decode cL_law 425 = .ok (.iload 5, 2) := by decide +kernel
theorem dL_law_427 : decode cL_law 427 = .ok (.if_icmp .eq 5, 3) := by decide +kernel
theorem dL_law_430 : decode cL_law 430 = .ok (.iconst 0, 1) := by decide +kernel
theorem dL_law_431 : decode cL_law 431 = .ok (.ireturn, 1) := by decide +kernel
theorem dL_law_432 : decode cL_law 432 = .ok (.iload 5, 2) := by decide +kernel
theorem dL_law_434 : decode cL_law 434 = .ok (.ifCond .ne 15, 3) := by decide +kernel
theorem dL_law_437 : decode cL_law 437 = .ok (.aload_n 3, 1) := by decide +kernel
theorem dL_law_438 : decode cL_law 438 = .ok (.iconst 0, 1) := by decide +kernel
theorem dL_law_439 : decode cL_law 439 = .ok (.laload, 1) := by decide +kernel
theorem dL_law_440 : decode cL_law 440 = .ok (.iload 6, 2) := by decide +kernel
theorem dL_law_442 : decode cL_law 442 = .ok (.i2l, 1) := by decide +kernel
theorem dL_law_443 : decode cL_law 443 = .ok (.lcmp, 1) := by decide +kernel
theorem dL_law_444 : decode cL_law 444 = .ok (.ifCond .eq 5, 3) := by decide +kernel
theorem dL_law_447 : decode cL_law 447 = .ok (.iconst 0, 1) := by decide +kernel
theorem dL_law_448 : decode cL_law 448 = .ok (.ireturn, 1) := by decide +kernel
theorem dL_law_449 : decode cL_law 449 = .ok (.goto 1103, 3) := by decide +kernel
theorem dL_law_452 : decode cL_law 452 = .ok (.aload_n 1, 1) := by decide +kernel
theorem dL_law_453 : decode cL_law 453 = .ok (.aload_n 0, 1) := by decide +kernel
theorem dL_law_454 : decode cL_law 454 = .ok (.iload 4, 2) := by decide +kernel
theorem dL_law_456 : decode cL_law 456 = .ok (.iconst 1, 1) := by decide +kernel
theorem dL_law_457 : decode cL_law 457 = .ok (.iadd, 1) := by decide +kernel
theorem dL_law_458 : decode cL_law 458 = .ok (.iaload, 1) := by decide +kernel
theorem dL_law_459 : decode cL_law 459 = .ok (.aload_n 0, 1) := by decide +kernel
theorem dL_law_460 : decode cL_law 460 = .ok (.iload 4, 2) := by decide +kernel
theorem dL_law_462 : decode cL_law 462 = .ok (.iconst 2, 1) := by decide +kernel
theorem dL_law_463 : decode cL_law 463 = .ok (.iadd, 1) := by decide +kernel
theorem dL_law_464 : decode cL_law 464 = .ok (.iaload, 1) := by decide +kernel
theorem dL_law_465 : decode cL_law 465 = .ok (.aload_n 3, 1) := by decide +kernel
theorem dL_law_466 : decode cL_law 466 = .ok (.invokestatic 110, 3) := by decide +kernel
theorem dL_law_469 : decode cL_law 469 = .ok (.istore 5, 2) := by decide +kernel
theorem dL_law_471 : decode cL_law 471 = .ok (.aload_n 2, 1) := by decide +kernel
theorem dL_law_472 : decode cL_law 472 = .ok (.aload_n 0, 1) := by decide +kernel
theorem dL_law_473 : decode cL_law 473 = .ok (.iload 4, 2) := by decide +kernel
theorem dL_law_475 : decode cL_law 475 = .ok (.iconst 1, 1) := by decide +kernel
theorem dL_law_476 : decode cL_law 476 = .ok (.iadd, 1) := by decide +kernel
theorem dL_law_477 : decode cL_law 477 = .ok (.iaload, 1) := by decide +kernel
theorem dL_law_478 : decode cL_law 478 = .ok (.aload_n 0, 1) := by decide +kernel
theorem dL_law_479 : decode cL_law 479 = .ok (.iload 4, 2) := by decide +kernel
theorem dL_law_481 : decode cL_law 481 = .ok (.iconst 2, 1) := by decide +kernel
theorem dL_law_482 : decode cL_law 482 = .ok (.iadd, 1) := by decide +kernel
theorem dL_law_483 : decode cL_law 483 = .ok (.iaload, 1) := by decide +kernel
theorem dL_law_484 : decode cL_law 484 = .ok (.invokevirtual 112, 3) := by decide +kernel
theorem dL_law_487 : decode cL_law 487 = .ok (.istore 6, 2) := by decide +kernel
theorem dL_law_489 : decode cL_law 489 = .ok (.aload_n 2, 1) := by decide +kernel
theorem dL_law_490 : decode cL_law 490 = .ok (.invokevirtual 94, 3) := by decide +kernel
theorem dL_law_493 : decode cL_law 493 = .ok (.iload 5, 2) := by decide +kernel
theorem dL_law_495 : decode cL_law 495 = .ok (.if_icmp .eq 5, 3) := by decide +kernel
theorem dL_law_498 : decode cL_law 498 = .ok (.iconst 0, 1) := by decide +kernel
theorem dL_law_499 : decode cL_law 499 = .ok (.ireturn, 1) := by decide +kernel
theorem dL_law_500 : decode cL_law 500 = .ok (.iload 5, 2) := by decide +kernel
theorem dL_law_502 : decode cL_law 502 = .ok (.ifCond .ne 15, 3) := by decide +kernel
theorem dL_law_505 : decode cL_law 505 = .ok (.aload_n 3, 1) := by decide +kernel
theorem dL_law_506 : decode cL_law 506 = .ok (.iconst 0, 1) := by decide +kernel
theorem dL_law_507 : decode cL_law 507 = .ok (.laload, 1) := by decide +kernel
theorem dL_law_508 : decode cL_law 508 = .ok (.iload 6, 2) := by decide +kernel
theorem dL_law_510 : decode cL_law 510 = .ok (.i2l, 1) := by decide +kernel
theorem dL_law_511 : decode cL_law 511 = .ok (.lcmp, 1) := by decide +kernel
theorem dL_law_512 : decode cL_law 512 = .ok (.ifCond .eq 5, 3) := by decide +kernel
theorem dL_law_515 : decode cL_law 515 = .ok (.iconst 0, 1) := by decide +kernel
theorem dL_law_516 : decode cL_law 516 = .ok (.ireturn, 1) := by decide +kernel
theorem dL_law_517 : decode cL_law 517 = .ok (.goto 1035, 3) := by decide +kernel
theorem dL_law_520 : decode cL_law 520 = .ok (.aload_n 1, 1) := by decide +kernel
theorem dL_law_521 : decode cL_law 521 = .ok (.aload_n 0, 1) := by decide +kernel
theorem dL_law_522 : decode cL_law 522 = .ok (.iload 4, 2) := by decide +kernel
theorem dL_law_524 : decode cL_law 524 = .ok (.iconst 1, 1) := by decide +kernel
theorem dL_law_525 : decode cL_law 525 = .ok (.iadd, 1) := by decide +kernel
theorem dL_law_526 : decode cL_law 526 = .ok (.iaload, 1) := by decide +kernel
theorem dL_law_527 : decode cL_law 527 = .ok (.aload_n 3, 1) := by decide +kernel
theorem dL_law_528 : decode cL_law 528 = .ok (.invokestatic 113, 3) := by decide +kernel
theorem dL_law_531 : decode cL_law 531 = .ok (.istore 5, 2) := by decide +kernel
theorem dL_law_533 : decode cL_law 533 = .ok (.aload_n 2, 1) := by decide +kernel
theorem dL_law_534 : decode cL_law 534 = .ok (.aload_n 0, 1) := by decide +kernel
theorem dL_law_535 : decode cL_law 535 = .ok (.iload 4, 2) := by decide +kernel
theorem dL_law_537 : decode cL_law 537 = .ok (.iconst 1, 1) := by decide +kernel
theorem dL_law_538 : decode cL_law 538 = .ok (.iadd, 1) := by decide +kernel
theorem dL_law_539 : decode cL_law 539 = .ok (.iaload, 1) := by decide +kernel
theorem dL_law_540 : decode cL_law 540 = .ok (.invokevirtual 115, 3) := by decide +kernel
theorem dL_law_543 : decode cL_law 543 = .ok (.istore 6, 2) := by decide +kernel
theorem dL_law_545 : decode cL_law 545 = .ok (.aload_n 2, 1) := by decide +kernel
theorem dL_law_546 : decode cL_law 546 = .ok (.invokevirtual 94, 3) := by decide +kernel
theorem dL_law_549 : decode cL_law 549 = .ok (.iload 5, 2) := by decide +kernel
theorem dL_law_551 : decode cL_law 551 = .ok (.if_icmp .eq 5, 3) := by decide +kernel
theorem dL_law_554 : decode cL_law 554 = .ok (.iconst 0, 1) := by decide +kernel
theorem dL_law_555 : decode cL_law 555 = .ok (.ireturn, 1) := by decide +kernel
theorem dL_law_556 : decode cL_law 556 = .ok (.iload 5, 2) := by decide +kernel
theorem dL_law_558 : decode cL_law 558 = .ok (.ifCond .ne 15, 3) := by decide +kernel
theorem dL_law_561 : decode cL_law 561 = .ok (.aload_n 3, 1) := by decide +kernel
theorem dL_law_562 : decode cL_law 562 = .ok (.iconst 0, 1) := by decide +kernel
theorem dL_law_563 : decode cL_law 563 = .ok (.laload, 1) := by decide +kernel
theorem dL_law_564 : decode cL_law 564 = .ok (.iload 6, 2) := by decide +kernel
theorem dL_law_566 : decode cL_law 566 = .ok (.i2l, 1) := by decide +kernel
theorem dL_law_567 : decode cL_law 567 = .ok (.lcmp, 1) := by decide +kernel
theorem dL_law_568 : decode cL_law 568 = .ok (.ifCond .eq 5, 3) := by decide +kernel
theorem dL_law_571 : decode cL_law 571 = .ok (.iconst 0, 1) := by decide +kernel
theorem dL_law_572 : decode cL_law 572 = .ok (.ireturn, 1) := by decide +kernel
theorem dL_law_573 : decode cL_law 573 = .ok (.goto 979, 3) := by decide +kernel
theorem dL_law_576 : decode cL_law 576 = .ok (.aload_n 1, 1) := by decide +kernel
theorem dL_law_577 : decode cL_law 577 = .ok (.invokevirtual 116, 3) := by decide +kernel
theorem dL_law_580 : decode cL_law 580 = .ok (.aload_n 2, 1) := by decide +kernel
theorem dL_law_581 : decode cL_law 581 = .ok (.invokevirtual 119, 3) := by decide +kernel
theorem dL_law_584 : decode cL_law 584 = .ok (.if_icmp .eq 968, 3) := by decide +kernel
theorem dL_law_587 : decode cL_law 587 = .ok (.iconst 0, 1) := by decide +kernel
theorem dL_law_588 : decode cL_law 588 = .ok (.ireturn, 1) := by decide +kernel
theorem dL_law_589 : decode cL_law 589 = .ok (.aload_n 1, 1) := by decide +kernel
theorem dL_law_590 : decode cL_law 590 = .ok (.aload_n 0, 1) := by decide +kernel
theorem dL_law_591 : decode cL_law 591 = .ok (.iload 4, 2) := by decide +kernel
theorem dL_law_593 : decode cL_law 593 = .ok (.iconst 1, 1) := by decide +kernel
theorem dL_law_594 : decode cL_law 594 = .ok (.iadd, 1) := by decide +kernel
theorem dL_law_595 : decode cL_law 595 = .ok (.iaload, 1) := by decide +kernel
theorem dL_law_596 : decode cL_law 596 = .ok (.aload_n 3, 1) := by decide +kernel
theorem dL_law_597 : decode cL_law 597 = .ok (.invokestatic 120, 3) := by decide +kernel
theorem dL_law_600 : decode cL_law 600 = .ok (.istore 5, 2) := by decide +kernel
theorem dL_law_602 : decode cL_law 602 = .ok (.aload_n 2, 1) := by decide +kernel
theorem dL_law_603 : decode cL_law 603 = .ok (.aload_n 0, 1) := by decide +kernel
theorem dL_law_604 : decode cL_law 604 = .ok (.iload 4, 2) := by decide +kernel
theorem dL_law_606 : decode cL_law 606 = .ok (.iconst 1, 1) := by decide +kernel
theorem dL_law_607 : decode cL_law 607 = .ok (.iadd, 1) := by decide +kernel
theorem dL_law_608 : decode cL_law 608 = .ok (.iaload, 1) := by decide +kernel
theorem dL_law_609 : decode cL_law 609 = .ok (.invokevirtual 122, 3) := by decide +kernel
theorem dL_law_612 : decode cL_law 612 = .ok (.istore 6, 2) := by decide +kernel
theorem dL_law_614 : decode cL_law 614 = .ok (.aload_n 2, 1) := by decide +kernel
theorem dL_law_615 : decode cL_law 615 = .ok (.invokevirtual 94, 3) := by decide +kernel
theorem dL_law_618 : decode cL_law 618 = .ok (.iload 5, 2) := by decide +kernel
theorem dL_law_620 : decode cL_law 620 = .ok (.if_icmp .eq 5, 3) := by decide +kernel
theorem dL_law_623 : decode cL_law 623 = .ok (.iconst 0, 1) := by decide +kernel
theorem dL_law_624 : decode cL_law 624 = .ok (.ireturn, 1) := by decide +kernel
theorem dL_law_625 : decode cL_law 625 = .ok (.iload 5, 2) := by decide +kernel
theorem dL_law_627 : decode cL_law 627 = .ok (.ifCond .ne 15, 3) := by decide +kernel
theorem dL_law_630 : decode cL_law 630 = .ok (.aload_n 3, 1) := by decide +kernel
theorem dL_law_631 : decode cL_law 631 = .ok (.iconst 0, 1) := by decide +kernel
theorem dL_law_632 : decode cL_law 632 = .ok (.laload, 1) := by decide +kernel
theorem dL_law_633 : decode cL_law 633 = .ok (.iload 6, 2) := by decide +kernel
theorem dL_law_635 : decode cL_law 635 = .ok (.i2l, 1) := by decide +kernel
theorem dL_law_636 : decode cL_law 636 = .ok (.lcmp, 1) := by decide +kernel
theorem dL_law_637 : decode cL_law 637 = .ok (.ifCond .eq 5, 3) := by decide +kernel
theorem dL_law_640 : decode cL_law 640 = .ok (.iconst 0, 1) := by decide +kernel
theorem dL_law_641 : decode cL_law 641 = .ok (.ireturn, 1) := by decide +kernel
theorem dL_law_642 : decode cL_law 642 = .ok (.goto 910, 3) := by decide +kernel
theorem dL_law_645 : decode cL_law 645 = .ok (.aload_n 1, 1) := by decide +kernel
theorem dL_law_646 : decode cL_law 646 = .ok (.aload_n 0, 1) := by decide +kernel
theorem dL_law_647 : decode cL_law 647 = .ok (.iload 4, 2) := by decide +kernel
theorem dL_law_649 : decode cL_law 649 = .ok (.iconst 1, 1) := by decide +kernel
theorem dL_law_650 : decode cL_law 650 = .ok (.iadd, 1) := by decide +kernel
theorem dL_law_651 : decode cL_law 651 = .ok (.iaload, 1) := by decide +kernel
theorem dL_law_652 : decode cL_law 652 = .ok (.aload_n 3, 1) := by decide +kernel
theorem dL_law_653 : decode cL_law 653 = .ok (.invokestatic 123, 3) := by decide +kernel
theorem dL_law_656 : decode cL_law 656 = .ok (.istore 5, 2) := by decide +kernel
theorem dL_law_658 : decode cL_law 658 = .ok (.aload_n 2, 1) := by decide +kernel
theorem dL_law_659 : decode cL_law 659 = .ok (.aload_n 0, 1) := by decide +kernel
theorem dL_law_660 : decode cL_law 660 = .ok (.iload 4, 2) := by decide +kernel
theorem dL_law_662 : decode cL_law 662 = .ok (.iconst 1, 1) := by decide +kernel
theorem dL_law_663 : decode cL_law 663 = .ok (.iadd, 1) := by decide +kernel
theorem dL_law_664 : decode cL_law 664 = .ok (.iaload, 1) := by decide +kernel
theorem dL_law_665 : decode cL_law 665 = .ok (.invokevirtual 125, 3) := by decide +kernel
theorem dL_law_668 : decode cL_law 668 = .ok (.istore 6, 2) := by decide +kernel
theorem dL_law_670 : decode cL_law 670 = .ok (.aload_n 2, 1) := by decide +kernel
theorem dL_law_671 : decode cL_law 671 = .ok (.invokevirtual 94, 3) := by decide +kernel
theorem dL_law_674 : decode cL_law 674 = .ok (.iload 5, 2) := by decide +kernel
theorem dL_law_676 : decode cL_law 676 = .ok (.if_icmp .eq 5, 3) := by decide +kernel
theorem dL_law_679 : decode cL_law 679 = .ok (.iconst 0, 1) := by decide +kernel
theorem dL_law_680 : decode cL_law 680 = .ok (.ireturn, 1) := by decide +kernel
theorem dL_law_681 : decode cL_law 681 = .ok (.iload 5, 2) := by decide +kernel
theorem dL_law_683 : decode cL_law 683 = .ok (.ifCond .ne 15, 3) := by decide +kernel
theorem dL_law_686 : decode cL_law 686 = .ok (.aload_n 3, 1) := by decide +kernel
theorem dL_law_687 : decode cL_law 687 = .ok (.iconst 0, 1) := by decide +kernel
theorem dL_law_688 : decode cL_law 688 = .ok (.laload, 1) := by decide +kernel
theorem dL_law_689 : decode cL_law 689 = .ok (.iload 6, 2) := by decide +kernel
theorem dL_law_691 : decode cL_law 691 = .ok (.i2l, 1) := by decide +kernel
theorem dL_law_692 : decode cL_law 692 = .ok (.lcmp, 1) := by decide +kernel
theorem dL_law_693 : decode cL_law 693 = .ok (.ifCond .eq 5, 3) := by decide +kernel
theorem dL_law_696 : decode cL_law 696 = .ok (.iconst 0, 1) := by decide +kernel
theorem dL_law_697 : decode cL_law 697 = .ok (.ireturn, 1) := by decide +kernel
theorem dL_law_698 : decode cL_law 698 = .ok (.goto 854, 3) := by decide +kernel
theorem dL_law_701 : decode cL_law 701 = .ok (.aload_n 1, 1) := by decide +kernel
theorem dL_law_702 : decode cL_law 702 = .ok (.aload_n 0, 1) := by decide +kernel
theorem dL_law_703 : decode cL_law 703 = .ok (.iload 4, 2) := by decide +kernel
theorem dL_law_705 : decode cL_law 705 = .ok (.iconst 1, 1) := by decide +kernel
theorem dL_law_706 : decode cL_law 706 = .ok (.iadd, 1) := by decide +kernel
theorem dL_law_707 : decode cL_law 707 = .ok (.iaload, 1) := by decide +kernel
theorem dL_law_708 : decode cL_law 708 = .ok (.aload_n 3, 1) := by decide +kernel
theorem dL_law_709 : decode cL_law 709 = .ok (.invokestatic 126, 3) := by decide +kernel
theorem dL_law_712 : decode cL_law 712 = .ok (.istore 5, 2) := by decide +kernel
theorem dL_law_714 : decode cL_law 714 = .ok (.aload_n 2, 1) := by decide +kernel
theorem dL_law_715 : decode cL_law 715 = .ok (.aload_n 0, 1) := by decide +kernel
theorem dL_law_716 : decode cL_law 716 = .ok (.iload 4, 2) := by decide +kernel
theorem dL_law_718 : decode cL_law 718 = .ok (.iconst 1, 1) := by decide +kernel
theorem dL_law_719 : decode cL_law 719 = .ok (.iadd, 1) := by decide +kernel
theorem dL_law_720 : decode cL_law 720 = .ok (.iaload, 1) := by decide +kernel
theorem dL_law_721 : decode cL_law 721 = .ok (.invokevirtual 128, 3) := by decide +kernel
theorem dL_law_724 : decode cL_law 724 = .ok (.istore 6, 2) := by decide +kernel
theorem dL_law_726 : decode cL_law 726 = .ok (.aload_n 2, 1) := by decide +kernel
theorem dL_law_727 : decode cL_law 727 = .ok (.invokevirtual 94, 3) := by decide +kernel
theorem dL_law_730 : decode cL_law 730 = .ok (.iload 5, 2) := by decide +kernel
theorem dL_law_732 : decode cL_law 732 = .ok (.if_icmp .eq 5, 3) := by decide +kernel
theorem dL_law_735 : decode cL_law 735 = .ok (.iconst 0, 1) := by decide +kernel
theorem dL_law_736 : decode cL_law 736 = .ok (.ireturn, 1) := by decide +kernel
theorem dL_law_737 : decode cL_law 737 = .ok (.iload 5, 2) := by decide +kernel
theorem dL_law_739 : decode cL_law 739 = .ok (.ifCond .ne 15, 3) := by decide +kernel
theorem dL_law_742 : decode cL_law 742 = .ok (.aload_n 3, 1) := by decide +kernel
theorem dL_law_743 : decode cL_law 743 = .ok (.iconst 0, 1) := by decide +kernel
theorem dL_law_744 : decode cL_law 744 = .ok (.laload, 1) := by decide +kernel
theorem dL_law_745 : decode cL_law 745 = .ok (.iload 6, 2) := by decide +kernel
theorem dL_law_747 : decode cL_law 747 = .ok (.i2l, 1) := by decide +kernel
theorem dL_law_748 : decode cL_law 748 = .ok (.lcmp, 1) := by decide +kernel
theorem dL_law_749 : decode cL_law 749 = .ok (.ifCond .eq 5, 3) := by decide +kernel
theorem dL_law_752 : decode cL_law 752 = .ok (.iconst 0, 1) := by decide +kernel
theorem dL_law_753 : decode cL_law 753 = .ok (.ireturn, 1) := by decide +kernel
theorem dL_law_754 : decode cL_law 754 = .ok (.goto 798, 3) := by decide +kernel
theorem dL_law_757 : decode cL_law 757 = .ok (.aload_n 1, 1) := by decide +kernel
theorem dL_law_758 : decode cL_law 758 = .ok (.aload_n 0, 1) := by decide +kernel
theorem dL_law_759 : decode cL_law 759 = .ok (.iload 4, 2) := by decide +kernel
theorem dL_law_761 : decode cL_law 761 = .ok (.iconst 1, 1) := by decide +kernel
theorem dL_law_762 : decode cL_law 762 = .ok (.iadd, 1) := by decide +kernel
theorem dL_law_763 : decode cL_law 763 = .ok (.iaload, 1) := by decide +kernel
theorem dL_law_764 : decode cL_law 764 = .ok (.aload_n 3, 1) := by decide +kernel
theorem dL_law_765 : decode cL_law 765 = .ok (.invokestatic 129, 3) := by decide +kernel
theorem dL_law_768 : decode cL_law 768 = .ok (.istore 5, 2) := by decide +kernel
theorem dL_law_770 : decode cL_law 770 = .ok (.aload_n 2, 1) := by decide +kernel
theorem dL_law_771 : decode cL_law 771 = .ok (.aload_n 0, 1) := by decide +kernel
theorem dL_law_772 : decode cL_law 772 = .ok (.iload 4, 2) := by decide +kernel
theorem dL_law_774 : decode cL_law 774 = .ok (.iconst 1, 1) := by decide +kernel
theorem dL_law_775 : decode cL_law 775 = .ok (.iadd, 1) := by decide +kernel
theorem dL_law_776 : decode cL_law 776 = .ok (.iaload, 1) := by decide +kernel
theorem dL_law_777 : decode cL_law 777 = .ok (.invokevirtual 131, 3) := by decide +kernel
theorem dL_law_780 : decode cL_law 780 = .ok (.istore 6, 2) := by decide +kernel
theorem dL_law_782 : decode cL_law 782 = .ok (.aload_n 2, 1) := by decide +kernel
theorem dL_law_783 : decode cL_law 783 = .ok (.invokevirtual 94, 3) := by decide +kernel
theorem dL_law_786 : decode cL_law 786 = .ok (.iload 5, 2) := by decide +kernel
theorem dL_law_788 : decode cL_law 788 = .ok (.if_icmp .eq 5, 3) := by decide +kernel
theorem dL_law_791 : decode cL_law 791 = .ok (.iconst 0, 1) := by decide +kernel
theorem dL_law_792 : decode cL_law 792 = .ok (.ireturn, 1) := by decide +kernel
theorem dL_law_793 : decode cL_law 793 = .ok (.iload 5, 2) := by decide +kernel
theorem dL_law_795 : decode cL_law 795 = .ok (.ifCond .ne 15, 3) := by decide +kernel
theorem dL_law_798 : decode cL_law 798 = .ok (.aload_n 3, 1) := by decide +kernel
theorem dL_law_799 : decode cL_law 799 = .ok (.iconst 0, 1) := by decide +kernel
theorem dL_law_800 : decode cL_law 800 = .ok (.laload, 1) := by decide +kernel
theorem dL_law_801 : decode cL_law 801 = .ok (.iload 6, 2) := by decide +kernel
theorem dL_law_803 : decode cL_law 803 = .ok (.i2l, 1) := by decide +kernel
theorem dL_law_804 : decode cL_law 804 = .ok (.lcmp, 1) := by decide +kernel
theorem dL_law_805 : decode cL_law 805 = .ok (.ifCond .eq 5, 3) := by decide +kernel
theorem dL_law_808 : decode cL_law 808 = .ok (.iconst 0, 1) := by decide +kernel
theorem dL_law_809 : decode cL_law 809 = .ok (.ireturn, 1) := by decide +kernel
theorem dL_law_810 : decode cL_law 810 = .ok (.goto 742, 3) := by decide +kernel
theorem dL_law_813 : decode cL_law 813 = .ok (.aload_n 1, 1) := by decide +kernel
theorem dL_law_814 : decode cL_law 814 = .ok (.aload_n 0, 1) := by decide +kernel
theorem dL_law_815 : decode cL_law 815 = .ok (.iload 4, 2) := by decide +kernel
theorem dL_law_817 : decode cL_law 817 = .ok (.iconst 1, 1) := by decide +kernel
theorem dL_law_818 : decode cL_law 818 = .ok (.iadd, 1) := by decide +kernel
theorem dL_law_819 : decode cL_law 819 = .ok (.iaload, 1) := by decide +kernel
theorem dL_law_820 : decode cL_law 820 = .ok (.aload_n 0, 1) := by decide +kernel
theorem dL_law_821 : decode cL_law 821 = .ok (.iload 4, 2) := by decide +kernel
theorem dL_law_823 : decode cL_law 823 = .ok (.iconst 2, 1) := by decide +kernel
theorem dL_law_824 : decode cL_law 824 = .ok (.iadd, 1) := by decide +kernel
theorem dL_law_825 : decode cL_law 825 = .ok (.iaload, 1) := by decide +kernel
theorem dL_law_826 : decode cL_law 826 = .ok (.aload_n 0, 1) := by decide +kernel
theorem dL_law_827 : decode cL_law 827 = .ok (.iload 4, 2) := by decide +kernel
theorem dL_law_829 : decode cL_law 829 = .ok (.iconst 3, 1) := by decide +kernel
theorem dL_law_830 : decode cL_law 830 = .ok (.iadd, 1) := by decide +kernel
theorem dL_law_831 : decode cL_law 831 = .ok (.iaload, 1) := by decide +kernel
theorem dL_law_832 : decode cL_law 832 = .ok (.aload_n 0, 1) := by decide +kernel
theorem dL_law_833 : decode cL_law 833 = .ok (.iload 4, 2) := by decide +kernel
theorem dL_law_835 : decode cL_law 835 = .ok (.iconst 4, 1) := by decide +kernel
theorem dL_law_836 : decode cL_law 836 = .ok (.iadd, 1) := by decide +kernel
theorem dL_law_837 : decode cL_law 837 = .ok (.iaload, 1) := by decide +kernel
theorem dL_law_838 : decode cL_law 838 = .ok (.ifCond .eq 7, 3) := by decide +kernel
theorem dL_law_841 : decode cL_law 841 = .ok (.iconst 1, 1) := by decide +kernel
theorem dL_law_842 : decode cL_law 842 = .ok (.goto 4, 3) := by decide +kernel
theorem dL_law_845 : decode cL_law 845 = .ok (.iconst 0, 1) := by decide +kernel
theorem dL_law_846 : decode cL_law 846 = .ok (.aload_n 3, 1) := by decide +kernel
theorem dL_law_847 : decode cL_law 847 = .ok (.invokestatic 132, 3) := by decide +kernel
theorem dL_law_850 : decode cL_law 850 = .ok (.istore 5, 2) := by decide +kernel
theorem dL_law_852 : decode cL_law 852 = .ok (.aload_n 2, 1) := by decide +kernel
theorem dL_law_853 : decode cL_law 853 = .ok (.aload_n 0, 1) := by decide +kernel
theorem dL_law_854 : decode cL_law 854 = .ok (.iload 4, 2) := by decide +kernel
theorem dL_law_856 : decode cL_law 856 = .ok (.iconst 1, 1) := by decide +kernel
theorem dL_law_857 : decode cL_law 857 = .ok (.iadd, 1) := by decide +kernel
theorem dL_law_858 : decode cL_law 858 = .ok (.iaload, 1) := by decide +kernel
theorem dL_law_859 : decode cL_law 859 = .ok (.aload_n 0, 1) := by decide +kernel
theorem dL_law_860 : decode cL_law 860 = .ok (.iload 4, 2) := by decide +kernel
theorem dL_law_862 : decode cL_law 862 = .ok (.iconst 2, 1) := by decide +kernel
theorem dL_law_863 : decode cL_law 863 = .ok (.iadd, 1) := by decide +kernel
theorem dL_law_864 : decode cL_law 864 = .ok (.iaload, 1) := by decide +kernel
theorem dL_law_865 : decode cL_law 865 = .ok (.aload_n 0, 1) := by decide +kernel
theorem dL_law_866 : decode cL_law 866 = .ok (.iload 4, 2) := by decide +kernel
theorem dL_law_868 : decode cL_law 868 = .ok (.iconst 3, 1) := by decide +kernel
theorem dL_law_869 : decode cL_law 869 = .ok (.iadd, 1) := by decide +kernel
theorem dL_law_870 : decode cL_law 870 = .ok (.iaload, 1) := by decide +kernel
theorem dL_law_871 : decode cL_law 871 = .ok (.aload_n 0, 1) := by decide +kernel
theorem dL_law_872 : decode cL_law 872 = .ok (.iload 4, 2) := by decide +kernel
theorem dL_law_874 : decode cL_law 874 = .ok (.iconst 4, 1) := by decide +kernel
theorem dL_law_875 : decode cL_law 875 = .ok (.iadd, 1) := by decide +kernel
theorem dL_law_876 : decode cL_law 876 = .ok (.iaload, 1) := by decide +kernel
theorem dL_law_877 : decode cL_law 877 = .ok (.ifCond .eq 7, 3) := by decide +kernel
theorem dL_law_880 : decode cL_law 880 = .ok (.iconst 1, 1) := by decide +kernel
theorem dL_law_881 : decode cL_law 881 = .ok (.goto 4, 3) := by decide +kernel
theorem dL_law_884 : decode cL_law 884 = .ok (.iconst 0, 1) := by decide +kernel
theorem dL_law_885 : decode cL_law 885 = .ok (.invokevirtual 135, 3) := by decide +kernel
theorem dL_law_888 : decode cL_law 888 = .ok (.istore 6, 2) := by decide +kernel
theorem dL_law_890 : decode cL_law 890 = .ok (.aload_n 2, 1) := by decide +kernel
theorem dL_law_891 : decode cL_law 891 = .ok (.invokevirtual 94, 3) := by decide +kernel
theorem dL_law_894 : decode cL_law 894 = .ok (.iload 5, 2) := by decide +kernel
theorem dL_law_896 : decode cL_law 896 = .ok (.if_icmp .eq 5, 3) := by decide +kernel
theorem dL_law_899 : decode cL_law 899 = .ok (.iconst 0, 1) := by decide +kernel
theorem dL_law_900 : decode cL_law 900 = .ok (.ireturn, 1) := by decide +kernel
theorem dL_law_901 : decode cL_law 901 = .ok (.iload 5, 2) := by decide +kernel
theorem dL_law_903 : decode cL_law 903 = .ok (.ifCond .ne 15, 3) := by decide +kernel
theorem dL_law_906 : decode cL_law 906 = .ok (.aload_n 3, 1) := by decide +kernel
theorem dL_law_907 : decode cL_law 907 = .ok (.iconst 0, 1) := by decide +kernel
theorem dL_law_908 : decode cL_law 908 = .ok (.laload, 1) := by decide +kernel
theorem dL_law_909 : decode cL_law 909 = .ok (.iload 6, 2) := by decide +kernel
theorem dL_law_911 : decode cL_law 911 = .ok (.i2l, 1) := by decide +kernel
theorem dL_law_912 : decode cL_law 912 = .ok (.lcmp, 1) := by decide +kernel
theorem dL_law_913 : decode cL_law 913 = .ok (.ifCond .eq 5, 3) := by decide +kernel
theorem dL_law_916 : decode cL_law 916 = .ok (.iconst 0, 1) := by decide +kernel
theorem dL_law_917 : decode cL_law 917 = .ok (.ireturn, 1) := by decide +kernel
theorem dL_law_918 : decode cL_law 918 = .ok (.goto 634, 3) := by decide +kernel
theorem dL_law_921 : decode cL_law 921 = .ok (.aload_n 1, 1) := by decide +kernel
theorem dL_law_922 : decode cL_law 922 = .ok (.aload_n 0, 1) := by decide +kernel
theorem dL_law_923 : decode cL_law 923 = .ok (.iload 4, 2) := by decide +kernel
theorem dL_law_925 : decode cL_law 925 = .ok (.iconst 1, 1) := by decide +kernel
theorem dL_law_926 : decode cL_law 926 = .ok (.iadd, 1) := by decide +kernel
theorem dL_law_927 : decode cL_law 927 = .ok (.iaload, 1) := by decide +kernel
theorem dL_law_928 : decode cL_law 928 = .ok (.aload_n 0, 1) := by decide +kernel
theorem dL_law_929 : decode cL_law 929 = .ok (.iload 4, 2) := by decide +kernel
theorem dL_law_931 : decode cL_law 931 = .ok (.iconst 2, 1) := by decide +kernel
theorem dL_law_932 : decode cL_law 932 = .ok (.iadd, 1) := by decide +kernel
theorem dL_law_933 : decode cL_law 933 = .ok (.iaload, 1) := by decide +kernel
theorem dL_law_934 : decode cL_law 934 = .ok (.aload_n 3, 1) := by decide +kernel
theorem dL_law_935 : decode cL_law 935 = .ok (.invokestatic 136, 3) := by decide +kernel
theorem dL_law_938 : decode cL_law 938 = .ok (.istore 5, 2) := by decide +kernel
theorem dL_law_940 : decode cL_law 940 = .ok (.aload_n 2, 1) := by decide +kernel
theorem dL_law_941 : decode cL_law 941 = .ok (.aload_n 0, 1) := by decide +kernel
theorem dL_law_942 : decode cL_law 942 = .ok (.iload 4, 2) := by decide +kernel
theorem dL_law_944 : decode cL_law 944 = .ok (.iconst 1, 1) := by decide +kernel
theorem dL_law_945 : decode cL_law 945 = .ok (.iadd, 1) := by decide +kernel
theorem dL_law_946 : decode cL_law 946 = .ok (.iaload, 1) := by decide +kernel
theorem dL_law_947 : decode cL_law 947 = .ok (.aload_n 0, 1) := by decide +kernel
theorem dL_law_948 : decode cL_law 948 = .ok (.iload 4, 2) := by decide +kernel
theorem dL_law_950 : decode cL_law 950 = .ok (.iconst 2, 1) := by decide +kernel
theorem dL_law_951 : decode cL_law 951 = .ok (.iadd, 1) := by decide +kernel
theorem dL_law_952 : decode cL_law 952 = .ok (.iaload, 1) := by decide +kernel
theorem dL_law_953 : decode cL_law 953 = .ok (.invokevirtual 138, 3) := by decide +kernel
theorem dL_law_956 : decode cL_law 956 = .ok (.istore 6, 2) := by decide +kernel
theorem dL_law_958 : decode cL_law 958 = .ok (.aload_n 2, 1) := by decide +kernel
theorem dL_law_959 : decode cL_law 959 = .ok (.invokevirtual 94, 3) := by decide +kernel
theorem dL_law_962 : decode cL_law 962 = .ok (.iload 5, 2) := by decide +kernel
theorem dL_law_964 : decode cL_law 964 = .ok (.if_icmp .eq 5, 3) := by decide +kernel
theorem dL_law_967 : decode cL_law 967 = .ok (.iconst 0, 1) := by decide +kernel
theorem dL_law_968 : decode cL_law 968 = .ok (.ireturn, 1) := by decide +kernel
theorem dL_law_969 : decode cL_law 969 = .ok (.iload 5, 2) := by decide +kernel
theorem dL_law_971 : decode cL_law 971 = .ok (.ifCond .ne 15, 3) := by decide +kernel
theorem dL_law_974 : decode cL_law 974 = .ok (.aload_n 3, 1) := by decide +kernel
theorem dL_law_975 : decode cL_law 975 = .ok (.iconst 0, 1) := by decide +kernel
theorem dL_law_976 : decode cL_law 976 = .ok (.laload, 1) := by decide +kernel
theorem dL_law_977 : decode cL_law 977 = .ok (.iload 6, 2) := by decide +kernel
theorem dL_law_979 : decode cL_law 979 = .ok (.i2l, 1) := by decide +kernel
theorem dL_law_980 : decode cL_law 980 = .ok (.lcmp, 1) := by decide +kernel
theorem dL_law_981 : decode cL_law 981 = .ok (.ifCond .eq 5, 3) := by decide +kernel
theorem dL_law_984 : decode cL_law 984 = .ok (.iconst 0, 1) := by decide +kernel
theorem dL_law_985 : decode cL_law 985 = .ok (.ireturn, 1) := by decide +kernel
theorem dL_law_986 : decode cL_law 986 = .ok (.goto 566, 3) := by decide +kernel
theorem dL_law_989 : decode cL_law 989 = .ok (.aload_n 1, 1) := by decide +kernel
theorem dL_law_990 : decode cL_law 990 = .ok (.aload_n 0, 1) := by decide +kernel
theorem dL_law_991 : decode cL_law 991 = .ok (.iload 4, 2) := by decide +kernel
theorem dL_law_993 : decode cL_law 993 = .ok (.iconst 1, 1) := by decide +kernel
theorem dL_law_994 : decode cL_law 994 = .ok (.iadd, 1) := by decide +kernel
theorem dL_law_995 : decode cL_law 995 = .ok (.iaload, 1) := by decide +kernel
theorem dL_law_996 : decode cL_law 996 = .ok (.aload_n 0, 1) := by decide +kernel
theorem dL_law_997 : decode cL_law 997 = .ok (.iload 4, 2) := by decide +kernel
theorem dL_law_999 : decode cL_law 999 = .ok (.iconst 2, 1) := by decide +kernel
theorem dL_law_1000 : decode cL_law 1000 = .ok (.iadd, 1) := by decide +kernel
theorem dL_law_1001 : decode cL_law 1001 = .ok (.iaload, 1) := by decide +kernel
theorem dL_law_1002 : decode cL_law 1002 = .ok (.ifCond .eq 7, 3) := by decide +kernel
theorem dL_law_1005 : decode cL_law 1005 = .ok (.iconst 1, 1) := by decide +kernel
theorem dL_law_1006 : decode cL_law 1006 = .ok (.goto 4, 3) := by decide +kernel
theorem dL_law_1009 : decode cL_law 1009 = .ok (.iconst 0, 1) := by decide +kernel
theorem dL_law_1010 : decode cL_law 1010 = .ok (.invokestatic 139, 3) := by decide +kernel
theorem dL_law_1013 : decode cL_law 1013 = .ok (.istore 5, 2) := by decide +kernel
theorem dL_law_1015 : decode cL_law 1015 = .ok (.aload_n 2, 1) := by decide +kernel
theorem dL_law_1016 : decode cL_law 1016 = .ok (.aload_n 0, 1) := by decide +kernel
theorem dL_law_1017 : decode cL_law 1017 = .ok (.iload 4, 2) := by decide +kernel
theorem dL_law_1019 : decode cL_law 1019 = .ok (.iconst 1, 1) := by decide +kernel
theorem dL_law_1020 : decode cL_law 1020 = .ok (.iadd, 1) := by decide +kernel
theorem dL_law_1021 : decode cL_law 1021 = .ok (.iaload, 1) := by decide +kernel
theorem dL_law_1022 : decode cL_law 1022 = .ok (.aload_n 0, 1) := by decide +kernel
theorem dL_law_1023 : decode cL_law 1023 = .ok (.iload 4, 2) := by decide +kernel
theorem dL_law_1025 : decode cL_law 1025 = .ok (.iconst 2, 1) := by decide +kernel
theorem dL_law_1026 : decode cL_law 1026 = .ok (.iadd, 1) := by decide +kernel
theorem dL_law_1027 : decode cL_law 1027 = .ok (.iaload, 1) := by decide +kernel
theorem dL_law_1028 : decode cL_law 1028 = .ok (.ifCond .eq 7, 3) := by decide +kernel
theorem dL_law_1031 : decode cL_law 1031 = .ok (.iconst 1, 1) := by decide +kernel
theorem dL_law_1032 : decode cL_law 1032 = .ok (.goto 4, 3) := by decide +kernel
theorem dL_law_1035 : decode cL_law 1035 = .ok (.iconst 0, 1) := by decide +kernel
theorem dL_law_1036 : decode cL_law 1036 = .ok (.invokevirtual 142, 3) := by decide +kernel
theorem dL_law_1039 : decode cL_law 1039 = .ok (.aload_n 2, 1) := by decide +kernel
theorem dL_law_1040 : decode cL_law 1040 = .ok (.invokevirtual 94, 3) := by decide +kernel
theorem dL_law_1043 : decode cL_law 1043 = .ok (.iload 5, 2) := by decide +kernel
theorem dL_law_1045 : decode cL_law 1045 = .ok (.if_icmp .eq 5, 3) := by decide +kernel
theorem dL_law_1048 : decode cL_law 1048 = .ok (.iconst 0, 1) := by decide +kernel
theorem dL_law_1049 : decode cL_law 1049 = .ok (.ireturn, 1) := by decide +kernel
theorem dL_law_1050 : decode cL_law 1050 = .ok (.goto 502, 3) := by decide +kernel
theorem dL_law_1053 : decode cL_law 1053 = .ok (.aload_n 1, 1) := by decide +kernel
theorem dL_law_1054 : decode cL_law 1054 = .ok (.aload_n 0, 1) := by decide +kernel
theorem dL_law_1055 : decode cL_law 1055 = .ok (.iload 4, 2) := by decide +kernel
theorem dL_law_1057 : decode cL_law 1057 = .ok (.iconst 1, 1) := by decide +kernel
theorem dL_law_1058 : decode cL_law 1058 = .ok (.iadd, 1) := by decide +kernel
theorem dL_law_1059 : decode cL_law 1059 = .ok (.iaload, 1) := by decide +kernel
theorem dL_law_1060 : decode cL_law 1060 = .ok (.aload_n 3, 1) := by decide +kernel
theorem dL_law_1061 : decode cL_law 1061 = .ok (.invokestatic 143, 3) := by decide +kernel
theorem dL_law_1064 : decode cL_law 1064 = .ok (.istore 5, 2) := by decide +kernel
theorem dL_law_1066 : decode cL_law 1066 = .ok (.aload_n 2, 1) := by decide +kernel
theorem dL_law_1067 : decode cL_law 1067 = .ok (.aload_n 0, 1) := by decide +kernel
theorem dL_law_1068 : decode cL_law 1068 = .ok (.iload 4, 2) := by decide +kernel
theorem dL_law_1070 : decode cL_law 1070 = .ok (.iconst 1, 1) := by decide +kernel
theorem dL_law_1071 : decode cL_law 1071 = .ok (.iadd, 1) := by decide +kernel
theorem dL_law_1072 : decode cL_law 1072 = .ok (.iaload, 1) := by decide +kernel
theorem dL_law_1073 : decode cL_law 1073 = .ok (.invokevirtual 145, 3) := by decide +kernel
theorem dL_law_1076 : decode cL_law 1076 = .ok (.istore 6, 2) := by decide +kernel
theorem dL_law_1078 : decode cL_law 1078 = .ok (.aload_n 2, 1) := by decide +kernel
theorem dL_law_1079 : decode cL_law 1079 = .ok (.invokevirtual 94, 3) := by decide +kernel
theorem dL_law_1082 : decode cL_law 1082 = .ok (.iload 5, 2) := by decide +kernel
theorem dL_law_1084 : decode cL_law 1084 = .ok (.if_icmp .eq 5, 3) := by decide +kernel
theorem dL_law_1087 : decode cL_law 1087 = .ok (.iconst 0, 1) := by decide +kernel
theorem dL_law_1088 : decode cL_law 1088 = .ok (.ireturn, 1) := by decide +kernel
theorem dL_law_1089 : decode cL_law 1089 = .ok (.iload 5, 2) := by decide +kernel
theorem dL_law_1091 : decode cL_law 1091 = .ok (.ifCond .ne 15, 3) := by decide +kernel
theorem dL_law_1094 : decode cL_law 1094 = .ok (.aload_n 3, 1) := by decide +kernel
theorem dL_law_1095 : decode cL_law 1095 = .ok (.iconst 0, 1) := by decide +kernel
theorem dL_law_1096 : decode cL_law 1096 = .ok (.laload, 1) := by decide +kernel
theorem dL_law_1097 : decode cL_law 1097 = .ok (.iload 6, 2) := by decide +kernel
theorem dL_law_1099 : decode cL_law 1099 = .ok (.i2l, 1) := by decide +kernel
theorem dL_law_1100 : decode cL_law 1100 = .ok (.lcmp, 1) := by decide +kernel
theorem dL_law_1101 : decode cL_law 1101 = .ok (.ifCond .eq 5, 3) := by decide +kernel
theorem dL_law_1104 : decode cL_law 1104 = .ok (.iconst 0, 1) := by decide +kernel
theorem dL_law_1105 : decode cL_law 1105 = .ok (.ireturn, 1) := by decide +kernel
theorem dL_law_1106 : decode cL_law 1106 = .ok (.goto 446, 3) := by decide +kernel
theorem dL_law_1109 : decode cL_law 1109 = .ok (.aload_n 1, 1) := by decide +kernel
theorem dL_law_1110 : decode cL_law 1110 = .ok (.aload_n 0, 1) := by decide +kernel
theorem dL_law_1111 : decode cL_law 1111 = .ok (.iload 4, 2) := by decide +kernel
theorem dL_law_1113 : decode cL_law 1113 = .ok (.iconst 1, 1) := by decide +kernel
theorem dL_law_1114 : decode cL_law 1114 = .ok (.iadd, 1) := by decide +kernel
theorem dL_law_1115 : decode cL_law 1115 = .ok (.iaload, 1) := by decide +kernel
theorem dL_law_1116 : decode cL_law 1116 = .ok (.aload_n 3, 1) := by decide +kernel
theorem dL_law_1117 : decode cL_law 1117 = .ok (.invokestatic 146, 3) := by decide +kernel
theorem dL_law_1120 : decode cL_law 1120 = .ok (.istore 5, 2) := by decide +kernel
theorem dL_law_1122 : decode cL_law 1122 = .ok (.aload_n 2, 1) := by decide +kernel
theorem dL_law_1123 : decode cL_law 1123 = .ok (.aload_n 0, 1) := by decide +kernel
theorem dL_law_1124 : decode cL_law 1124 = .ok (.iload 4, 2) := by decide +kernel
theorem dL_law_1126 : decode cL_law 1126 = .ok (.iconst 1, 1) := by decide +kernel
theorem dL_law_1127 : decode cL_law 1127 = .ok (.iadd, 1) := by decide +kernel
theorem dL_law_1128 : decode cL_law 1128 = .ok (.iaload, 1) := by decide +kernel
theorem dL_law_1129 : decode cL_law 1129 = .ok (.invokevirtual 148, 3) := by decide +kernel
theorem dL_law_1132 : decode cL_law 1132 = .ok (.istore 6, 2) := by decide +kernel
theorem dL_law_1134 : decode cL_law 1134 = .ok (.aload_n 2, 1) := by decide +kernel
theorem dL_law_1135 : decode cL_law 1135 = .ok (.invokevirtual 94, 3) := by decide +kernel
theorem dL_law_1138 : decode cL_law 1138 = .ok (.iload 5, 2) := by decide +kernel
theorem dL_law_1140 : decode cL_law 1140 = .ok (.if_icmp .eq 5, 3) := by decide +kernel
theorem dL_law_1143 : decode cL_law 1143 = .ok (.iconst 0, 1) := by decide +kernel
theorem dL_law_1144 : decode cL_law 1144 = .ok (.ireturn, 1) := by decide +kernel
theorem dL_law_1145 : decode cL_law 1145 = .ok (.iload 5, 2) := by decide +kernel
theorem dL_law_1147 : decode cL_law 1147 = .ok (.ifCond .ne 15, 3) := by decide +kernel
theorem dL_law_1150 : decode cL_law 1150 = .ok (.aload_n 3, 1) := by decide +kernel
theorem dL_law_1151 : decode cL_law 1151 = .ok (.iconst 0, 1) := by decide +kernel
theorem dL_law_1152 : decode cL_law 1152 = .ok (.laload, 1) := by decide +kernel
theorem dL_law_1153 : decode cL_law 1153 = .ok (.iload 6, 2) := by decide +kernel
theorem dL_law_1155 : decode cL_law 1155 = .ok (.i2l, 1) := by decide +kernel
theorem dL_law_1156 : decode cL_law 1156 = .ok (.lcmp, 1) := by decide +kernel
theorem dL_law_1157 : decode cL_law 1157 = .ok (.ifCond .eq 5, 3) := by decide +kernel
theorem dL_law_1160 : decode cL_law 1160 = .ok (.iconst 0, 1) := by decide +kernel
theorem dL_law_1161 : decode cL_law 1161 = .ok (.ireturn, 1) := by decide +kernel
theorem dL_law_1162 : decode cL_law 1162 = .ok (.goto 390, 3) := by decide +kernel
theorem dL_law_1165 : decode cL_law 1165 = .ok (.aload_n 1, 1) := by decide +kernel
theorem dL_law_1166 : decode cL_law 1166 = .ok (.aload_n 0, 1) := by decide +kernel
theorem dL_law_1167 : decode cL_law 1167 = .ok (.iload 4, 2) := by decide +kernel
theorem dL_law_1169 : decode cL_law 1169 = .ok (.iconst 1, 1) := by decide +kernel
theorem dL_law_1170 : decode cL_law 1170 = .ok (.iadd, 1) := by decide +kernel
theorem dL_law_1171 : decode cL_law 1171 = .ok (.iaload, 1) := by decide +kernel
theorem dL_law_1172 : decode cL_law 1172 = .ok (.aload_n 3, 1) := by decide +kernel
theorem dL_law_1173 : decode cL_law 1173 = .ok (.invokestatic 149, 3) := by decide +kernel
theorem dL_law_1176 : decode cL_law 1176 = .ok (.istore 5, 2) := by decide +kernel
theorem dL_law_1178 : decode cL_law 1178 = .ok (.aload_n 2, 1) := by decide +kernel
theorem dL_law_1179 : decode cL_law 1179 = .ok (.aload_n 0, 1) := by decide +kernel
theorem dL_law_1180 : decode cL_law 1180 = .ok (.iload 4, 2) := by decide +kernel
theorem dL_law_1182 : decode cL_law 1182 = .ok (.iconst 1, 1) := by decide +kernel
theorem dL_law_1183 : decode cL_law 1183 = .ok (.iadd, 1) := by decide +kernel
theorem dL_law_1184 : decode cL_law 1184 = .ok (.iaload, 1) := by decide +kernel
theorem dL_law_1185 : decode cL_law 1185 = .ok (.invokevirtual 151, 3) := by decide +kernel
theorem dL_law_1188 : decode cL_law 1188 = .ok (.istore 6, 2) := by decide +kernel
theorem dL_law_1190 : decode cL_law 1190 = .ok (.aload_n 2, 1) := by decide +kernel
theorem dL_law_1191 : decode cL_law 1191 = .ok (.invokevirtual 94, 3) := by decide +kernel
theorem dL_law_1194 : decode cL_law 1194 = .ok (.iload 5, 2) := by decide +kernel
theorem dL_law_1196 : decode cL_law 1196 = .ok (.if_icmp .eq 5, 3) := by decide +kernel
theorem dL_law_1199 : decode cL_law 1199 = .ok (.iconst 0, 1) := by decide +kernel
theorem dL_law_1200 : decode cL_law 1200 = .ok (.ireturn, 1) := by decide +kernel
theorem dL_law_1201 : decode cL_law 1201 = .ok (.iload 5, 2) := by decide +kernel
theorem dL_law_1203 : decode cL_law 1203 = .ok (.ifCond .ne 15, 3) := by decide +kernel
theorem dL_law_1206 : decode cL_law 1206 = .ok (.aload_n 3, 1) := by decide +kernel
theorem dL_law_1207 : decode cL_law 1207 = .ok (.iconst 0, 1) := by decide +kernel
theorem dL_law_1208 : decode cL_law 1208 = .ok (.laload, 1) := by decide +kernel
theorem dL_law_1209 : decode cL_law 1209 = .ok (.iload 6, 2) := by decide +kernel
theorem dL_law_1211 : decode cL_law 1211 = .ok (.i2l, 1) := by decide +kernel
theorem dL_law_1212 : decode cL_law 1212 = .ok (.lcmp, 1) := by decide +kernel
theorem dL_law_1213 : decode cL_law 1213 = .ok (.ifCond .eq 5, 3) := by decide +kernel
theorem dL_law_1216 : decode cL_law 1216 = .ok (.iconst 0, 1) := by decide +kernel
theorem dL_law_1217 : decode cL_law 1217 = .ok (.ireturn, 1) := by decide +kernel
theorem dL_law_1218 : decode cL_law 1218 = .ok (.goto 334, 3) := by decide +kernel
theorem dL_law_1221 : decode cL_law 1221 = .ok (.aload_n 1, 1) := by decide +kernel
theorem dL_law_1222 : decode cL_law 1222 = .ok (.aload_n 0, 1) := by decide +kernel
theorem dL_law_1223 : decode cL_law 1223 = .ok (.iload 4, 2) := by decide +kernel
theorem dL_law_1225 : decode cL_law 1225 = .ok (.iconst 1, 1) := by decide +kernel
theorem dL_law_1226 : decode cL_law 1226 = .ok (.iadd, 1) := by decide +kernel
theorem dL_law_1227 : decode cL_law 1227 = .ok (.iaload, 1) := by decide +kernel
theorem dL_law_1228 : decode cL_law 1228 = .ok (.aload_n 0, 1) := by decide +kernel
theorem dL_law_1229 : decode cL_law 1229 = .ok (.iload 4, 2) := by decide +kernel
theorem dL_law_1231 : decode cL_law 1231 = .ok (.iconst 2, 1) := by decide +kernel
theorem dL_law_1232 : decode cL_law 1232 = .ok (.iadd, 1) := by decide +kernel
theorem dL_law_1233 : decode cL_law 1233 = .ok (.iaload, 1) := by decide +kernel
theorem dL_law_1234 : decode cL_law 1234 = .ok (.aload_n 3, 1) := by decide +kernel
theorem dL_law_1235 : decode cL_law 1235 = .ok (.invokestatic 152, 3) := by decide +kernel
theorem dL_law_1238 : decode cL_law 1238 = .ok (.istore 5, 2) := by decide +kernel
theorem dL_law_1240 : decode cL_law 1240 = .ok (.aload_n 2, 1) := by decide +kernel
theorem dL_law_1241 : decode cL_law 1241 = .ok (.aload_n 0, 1) := by decide +kernel
theorem dL_law_1242 : decode cL_law 1242 = .ok (.iload 4, 2) := by decide +kernel
theorem dL_law_1244 : decode cL_law 1244 = .ok (.iconst 1, 1) := by decide +kernel
theorem dL_law_1245 : decode cL_law 1245 = .ok (.iadd, 1) := by decide +kernel
theorem dL_law_1246 : decode cL_law 1246 = .ok (.iaload, 1) := by decide +kernel
theorem dL_law_1247 : decode cL_law 1247 = .ok (.aload_n 0, 1) := by decide +kernel
theorem dL_law_1248 : decode cL_law 1248 = .ok (.iload 4, 2) := by decide +kernel
theorem dL_law_1250 : decode cL_law 1250 = .ok (.iconst 2, 1) := by decide +kernel
theorem dL_law_1251 : decode cL_law 1251 = .ok (.iadd, 1) := by decide +kernel
theorem dL_law_1252 : decode cL_law 1252 = .ok (.iaload, 1) := by decide +kernel
theorem dL_law_1253 : decode cL_law 1253 = .ok (.invokevirtual 154, 3) := by decide +kernel
theorem dL_law_1256 : decode cL_law 1256 = .ok (.istore 6, 2) := by decide +kernel
theorem dL_law_1258 : decode cL_law 1258 = .ok (.aload_n 2, 1) := by decide +kernel
theorem dL_law_1259 : decode cL_law 1259 = .ok (.invokevirtual 94, 3) := by decide +kernel
theorem dL_law_1262 : decode cL_law 1262 = .ok (.iload 5, 2) := by decide +kernel
theorem dL_law_1264 : decode cL_law 1264 = .ok (.if_icmp .eq 5, 3) := by decide +kernel
theorem dL_law_1267 : decode cL_law 1267 = .ok (.iconst 0, 1) := by decide +kernel
theorem dL_law_1268 : decode cL_law 1268 = .ok (.ireturn, 1) := by decide +kernel
theorem dL_law_1269 : decode cL_law 1269 = .ok (.iload 5, 2) := by decide +kernel
theorem dL_law_1271 : decode cL_law 1271 = .ok (.ifCond .ne 15, 3) := by decide +kernel
theorem dL_law_1274 : decode cL_law 1274 = .ok (.aload_n 3, 1) := by decide +kernel
theorem dL_law_1275 : decode cL_law 1275 = .ok (.iconst 0, 1) := by decide +kernel
theorem dL_law_1276 : decode cL_law 1276 = .ok (.laload, 1) := by decide +kernel
theorem dL_law_1277 : decode cL_law 1277 = .ok (.iload 6, 2) := by decide +kernel
theorem dL_law_1279 : decode cL_law 1279 = .ok (.i2l, 1) := by decide +kernel
theorem dL_law_1280 : decode cL_law 1280 = .ok (.lcmp, 1) := by decide +kernel
theorem dL_law_1281 : decode cL_law 1281 = .ok (.ifCond .eq 5, 3) := by decide +kernel
theorem dL_law_1284 : decode cL_law 1284 = .ok (.iconst 0, 1) := by decide +kernel
theorem dL_law_1285 : decode cL_law 1285 = .ok (.ireturn, 1) := by decide +kernel
theorem dL_law_1286 : decode cL_law 1286 = .ok (.goto 266, 3) := by decide +kernel
theorem dL_law_1289 : decode cL_law 1289 = .ok (.aload_n 1, 1) := by decide +kernel
theorem dL_law_1290 : decode cL_law 1290 = .ok (.aload_n 0, 1) := by decide +kernel
theorem dL_law_1291 : decode cL_law 1291 = .ok (.iload 4, 2) := by decide +kernel
theorem dL_law_1293 : decode cL_law 1293 = .ok (.iconst 1, 1) := by decide +kernel
theorem dL_law_1294 : decode cL_law 1294 = .ok (.iadd, 1) := by decide +kernel
theorem dL_law_1295 : decode cL_law 1295 = .ok (.iaload, 1) := by decide +kernel
theorem dL_law_1296 : decode cL_law 1296 = .ok (.aload_n 3, 1) := by decide +kernel
theorem dL_law_1297 : decode cL_law 1297 = .ok (.invokestatic 155, 3) := by decide +kernel
theorem dL_law_1300 : decode cL_law 1300 = .ok (.istore 5, 2) := by decide +kernel
theorem dL_law_1302 : decode cL_law 1302 = .ok (.aload_n 2, 1) := by decide +kernel
theorem dL_law_1303 : decode cL_law 1303 = .ok (.aload_n 0, 1) := by decide +kernel
theorem dL_law_1304 : decode cL_law 1304 = .ok (.iload 4, 2) := by decide +kernel
theorem dL_law_1306 : decode cL_law 1306 = .ok (.iconst 1, 1) := by decide +kernel
theorem dL_law_1307 : decode cL_law 1307 = .ok (.iadd, 1) := by decide +kernel
theorem dL_law_1308 : decode cL_law 1308 = .ok (.iaload, 1) := by decide +kernel
theorem dL_law_1309 : decode cL_law 1309 = .ok (.invokevirtual 157, 3) := by decide +kernel
theorem dL_law_1312 : decode cL_law 1312 = .ok (.istore 6, 2) := by decide +kernel
theorem dL_law_1314 : decode cL_law 1314 = .ok (.aload_n 2, 1) := by decide +kernel
theorem dL_law_1315 : decode cL_law 1315 = .ok (.invokevirtual 94, 3) := by decide +kernel
theorem dL_law_1318 : decode cL_law 1318 = .ok (.iload 5, 2) := by decide +kernel
theorem dL_law_1320 : decode cL_law 1320 = .ok (.if_icmp .eq 5, 3) := by decide +kernel
theorem dL_law_1323 : decode cL_law 1323 = .ok (.iconst 0, 1) := by decide +kernel
theorem dL_law_1324 : decode cL_law 1324 = .ok (.ireturn, 1) := by decide +kernel
theorem dL_law_1325 : decode cL_law 1325 = .ok (.iload 5, 2) := by decide +kernel
theorem dL_law_1327 : decode cL_law 1327 = .ok (.ifCond .ne 15, 3) := by decide +kernel
theorem dL_law_1330 : decode cL_law 1330 = .ok (.aload_n 3, 1) := by decide +kernel
theorem dL_law_1331 : decode cL_law 1331 = .ok (.iconst 0, 1) := by decide +kernel
theorem dL_law_1332 : decode cL_law 1332 = .ok (.laload, 1) := by decide +kernel
theorem dL_law_1333 : decode cL_law 1333 = .ok (.iload 6, 2) := by decide +kernel
theorem dL_law_1335 : decode cL_law 1335 = .ok (.i2l, 1) := by decide +kernel
theorem dL_law_1336 : decode cL_law 1336 = .ok (.lcmp, 1) := by decide +kernel
theorem dL_law_1337 : decode cL_law 1337 = .ok (.ifCond .eq 5, 3) := by decide +kernel
theorem dL_law_1340 : decode cL_law 1340 = .ok (.iconst 0, 1) := by decide +kernel
theorem dL_law_1341 : decode cL_law 1341 = .ok (.ireturn, 1) := by decide +kernel
theorem dL_law_1342 : decode cL_law 1342 = .ok (.goto 210, 3) := by decide +kernel
theorem dL_law_1345 : decode cL_law 1345 = .ok (.aload_n 1, 1) := by decide +kernel
theorem dL_law_1346 : decode cL_law 1346 = .ok (.aload_n 0, 1) := by decide +kernel
theorem dL_law_1347 : decode cL_law 1347 = .ok (.iload 4, 2) := by decide +kernel
theorem dL_law_1349 : decode cL_law 1349 = .ok (.iconst 1, 1) := by decide +kernel
theorem dL_law_1350 : decode cL_law 1350 = .ok (.iadd, 1) := by decide +kernel
theorem dL_law_1351 : decode cL_law 1351 = .ok (.iaload, 1) := by decide +kernel
theorem dL_law_1352 : decode cL_law 1352 = .ok (.aload_n 3, 1) := by decide +kernel
theorem dL_law_1353 : decode cL_law 1353 = .ok (.invokestatic 158, 3) := by decide +kernel
theorem dL_law_1356 : decode cL_law 1356 = .ok (.istore 5, 2) := by decide +kernel
theorem dL_law_1358 : decode cL_law 1358 = .ok (.aload_n 2, 1) := by decide +kernel
theorem dL_law_1359 : decode cL_law 1359 = .ok (.aload_n 0, 1) := by decide +kernel
theorem dL_law_1360 : decode cL_law 1360 = .ok (.iload 4, 2) := by decide +kernel
theorem dL_law_1362 : decode cL_law 1362 = .ok (.iconst 1, 1) := by decide +kernel
theorem dL_law_1363 : decode cL_law 1363 = .ok (.iadd, 1) := by decide +kernel
theorem dL_law_1364 : decode cL_law 1364 = .ok (.iaload, 1) := by decide +kernel
theorem dL_law_1365 : decode cL_law 1365 = .ok (.invokevirtual 160, 3) := by decide +kernel
theorem dL_law_1368 : decode cL_law 1368 = .ok (.istore 6, 2) := by decide +kernel
theorem dL_law_1370 : decode cL_law 1370 = .ok (.aload_n 2, 1) := by decide +kernel
theorem dL_law_1371 : decode cL_law 1371 = .ok (.invokevirtual 94, 3) := by decide +kernel
theorem dL_law_1374 : decode cL_law 1374 = .ok (.iload 5, 2) := by decide +kernel
theorem dL_law_1376 : decode cL_law 1376 = .ok (.if_icmp .eq 5, 3) := by decide +kernel
theorem dL_law_1379 : decode cL_law 1379 = .ok (.iconst 0, 1) := by decide +kernel
theorem dL_law_1380 : decode cL_law 1380 = .ok (.ireturn, 1) := by decide +kernel
theorem dL_law_1381 : decode cL_law 1381 = .ok (.iload 5, 2) := by decide +kernel
theorem dL_law_1383 : decode cL_law 1383 = .ok (.ifCond .ne 15, 3) := by decide +kernel
theorem dL_law_1386 : decode cL_law 1386 = .ok (.aload_n 3, 1) := by decide +kernel
theorem dL_law_1387 : decode cL_law 1387 = .ok (.iconst 0, 1) := by decide +kernel
theorem dL_law_1388 : decode cL_law 1388 = .ok (.laload, 1) := by decide +kernel
theorem dL_law_1389 : decode cL_law 1389 = .ok (.iload 6, 2) := by decide +kernel
theorem dL_law_1391 : decode cL_law 1391 = .ok (.i2l, 1) := by decide +kernel
theorem dL_law_1392 : decode cL_law 1392 = .ok (.lcmp, 1) := by decide +kernel
theorem dL_law_1393 : decode cL_law 1393 = .ok (.ifCond .eq 5, 3) := by decide +kernel
theorem dL_law_1396 : decode cL_law 1396 = .ok (.iconst 0, 1) := by decide +kernel
theorem dL_law_1397 : decode cL_law 1397 = .ok (.ireturn, 1) := by decide +kernel
theorem dL_law_1398 : decode cL_law 1398 = .ok (.goto 154, 3) := by decide +kernel
theorem dL_law_1401 : decode cL_law 1401 = .ok (.aload_n 1, 1) := by decide +kernel
theorem dL_law_1402 : decode cL_law 1402 = .ok (.aload_n 0, 1) := by decide +kernel
theorem dL_law_1403 : decode cL_law 1403 = .ok (.iload 4, 2) := by decide +kernel
theorem dL_law_1405 : decode cL_law 1405 = .ok (.iconst 1, 1) := by decide +kernel
theorem dL_law_1406 : decode cL_law 1406 = .ok (.iadd, 1) := by decide +kernel
theorem dL_law_1407 : decode cL_law 1407 = .ok (.iaload, 1) := by decide +kernel
theorem dL_law_1408 : decode cL_law 1408 = .ok (.aload_n 3, 1) := by decide +kernel
theorem dL_law_1409 : decode cL_law 1409 = .ok (.invokestatic 161, 3) := by decide +kernel
theorem dL_law_1412 : decode cL_law 1412 = .ok (.istore 5, 2) := by decide +kernel
theorem dL_law_1414 : decode cL_law 1414 = .ok (.aload_n 2, 1) := by decide +kernel
theorem dL_law_1415 : decode cL_law 1415 = .ok (.aload_n 0, 1) := by decide +kernel
theorem dL_law_1416 : decode cL_law 1416 = .ok (.iload 4, 2) := by decide +kernel
theorem dL_law_1418 : decode cL_law 1418 = .ok (.iconst 1, 1) := by decide +kernel
theorem dL_law_1419 : decode cL_law 1419 = .ok (.iadd, 1) := by decide +kernel
theorem dL_law_1420 : decode cL_law 1420 = .ok (.iaload, 1) := by decide +kernel
theorem dL_law_1421 : decode cL_law 1421 = .ok (.invokevirtual 163, 3) := by decide +kernel
theorem dL_law_1424 : decode cL_law 1424 = .ok (.istore 6, 2) := by decide +kernel
theorem dL_law_1426 : decode cL_law 1426 = .ok (.aload_n 2, 1) := by decide +kernel
theorem dL_law_1427 : decode cL_law 1427 = .ok (.invokevirtual 94, 3) := by decide +kernel
theorem dL_law_1430 : decode cL_law 1430 = .ok (.iload 5, 2) := by decide +kernel
theorem dL_law_1432 : decode cL_law 1432 = .ok (.if_icmp .eq 5, 3) := by decide +kernel
theorem dL_law_1435 : decode cL_law 1435 = .ok (.iconst 0, 1) := by decide +kernel
theorem dL_law_1436 : decode cL_law 1436 = .ok (.ireturn, 1) := by decide +kernel
theorem dL_law_1437 : decode cL_law 1437 = .ok (.iload 5, 2) := by decide +kernel
theorem dL_law_1439 : decode cL_law 1439 = .ok (.ifCond .ne 15, 3) := by decide +kernel
theorem dL_law_1442 : decode cL_law 1442 = .ok (.aload_n 3, 1) := by decide +kernel
theorem dL_law_1443 : decode cL_law 1443 = .ok (.iconst 0, 1) := by decide +kernel
theorem dL_law_1444 : decode cL_law 1444 = .ok (.laload, 1) := by decide +kernel
theorem dL_law_1445 : decode cL_law 1445 = .ok (.iload 6, 2) := by decide +kernel
theorem dL_law_1447 : decode cL_law 1447 = .ok (.i2l, 1) := by decide +kernel
theorem dL_law_1448 : decode cL_law 1448 = .ok (.lcmp, 1) := by decide +kernel
theorem dL_law_1449 : decode cL_law 1449 = .ok (.ifCond .eq 5, 3) := by decide +kernel
theorem dL_law_1452 : decode cL_law 1452 = .ok (.iconst 0, 1) := by decide +kernel
theorem dL_law_1453 : decode cL_law 1453 = .ok (.ireturn, 1) := by decide +kernel
theorem dL_law_1454 : decode cL_law 1454 = .ok (.goto 98, 3) := by decide +kernel
theorem dL_law_1457 : decode cL_law 1457 = .ok (.aload_n 1, 1) := by decide +kernel
theorem dL_law_1458 : decode cL_law 1458 = .ok (.invokevirtual 164, 3) := by decide +kernel
theorem dL_law_1461 : decode cL_law 1461 = .ok (.aload_n 2, 1) := by decide +kernel
theorem dL_law_1462 : decode cL_law 1462 = .ok (.invokevirtual 167, 3) := by decide +kernel
theorem dL_law_1465 : decode cL_law 1465 = .ok (.if_icmp .eq 87, 3) := by decide +kernel
theorem dL_law_1468 : decode cL_law 1468 = .ok (.iconst 0, 1) := by decide +kernel
theorem dL_law_1469 : decode cL_law 1469 = .ok (.ireturn, 1) := by decide +kernel
theorem dL_law_1470 : decode cL_law 1470 = .ok (.aload_n 1, 1) := by decide +kernel
theorem dL_law_1471 : decode cL_law 1471 = .ok (.invokevirtual 168, 3) := by decide +kernel
theorem dL_law_1474 : decode cL_law 1474 = .ok (.aload_n 2, 1) := by decide +kernel
theorem dL_law_1475 : decode cL_law 1475 = .ok (.invokevirtual 171, 3) := by decide +kernel
theorem dL_law_1478 : decode cL_law 1478 = .ok (.if_icmp .eq 74, 3) := by decide +kernel
theorem dL_law_1481 : decode cL_law 1481 = .ok (.iconst 0, 1) := by decide +kernel
theorem dL_law_1482 : decode cL_law 1482 = .ok (.ireturn, 1) := by decide +kernel
theorem dL_law_1483 : decode cL_law 1483 = .ok (.aload_n 1, 1) := by decide +kernel
theorem dL_law_1484 : decode cL_law 1484 = .ok (.aload_n 0, 1) := by decide +kernel
theorem dL_law_1485 : decode cL_law 1485 = .ok (.iload 4, 2) := by decide +kernel
theorem dL_law_1487 : decode cL_law 1487 = .ok (.iconst 1, 1) := by decide +kernel
theorem dL_law_1488 : decode cL_law 1488 = .ok (.iadd, 1) := by decide +kernel
theorem dL_law_1489 : decode cL_law 1489 = .ok (.iaload, 1) := by decide +kernel
theorem dL_law_1490 : decode cL_law 1490 = .ok (.aload_n 3, 1) := by decide +kernel
theorem dL_law_1491 : decode cL_law 1491 = .ok (.invokestatic 172, 3) := by decide +kernel
theorem dL_law_1494 : decode cL_law 1494 = .ok (.istore 5, 2) := by decide +kernel
theorem dL_law_1496 : decode cL_law 1496 = .ok (.aload_n 2, 1) := by decide +kernel
theorem dL_law_1497 : decode cL_law 1497 = .ok (.aload_n 0, 1) := by decide +kernel
theorem dL_law_1498 : decode cL_law 1498 = .ok (.iload 4, 2) := by decide +kernel
theorem dL_law_1500 : decode cL_law 1500 = .ok (.iconst 1, 1) := by decide +kernel
theorem dL_law_1501 : decode cL_law 1501 = .ok (.iadd, 1) := by decide +kernel
theorem dL_law_1502 : decode cL_law 1502 = .ok (.iaload, 1) := by decide +kernel
theorem dL_law_1503 : decode cL_law 1503 = .ok (.invokevirtual 174, 3) := by decide +kernel
theorem dL_law_1506 : decode cL_law 1506 = .ok (.istore 6, 2) := by decide +kernel
theorem dL_law_1508 : decode cL_law 1508 = .ok (.aload_n 2, 1) := by decide +kernel
theorem dL_law_1509 : decode cL_law 1509 = .ok (.invokevirtual 94, 3) := by decide +kernel
theorem dL_law_1512 : decode cL_law 1512 = .ok (.iload 5, 2) := by decide +kernel
theorem dL_law_1514 : decode cL_law 1514 = .ok (.if_icmp .eq 5, 3) := by decide +kernel
theorem dL_law_1517 : decode cL_law 1517 = .ok (.iconst 0, 1) := by decide +kernel
theorem dL_law_1518 : decode cL_law 1518 = .ok (.ireturn, 1) := by decide +kernel
theorem dL_law_1519 : decode cL_law 1519 = .ok (.iload 5, 2) := by decide +kernel
theorem dL_law_1521 : decode cL_law 1521 = .ok (.ifCond .ne 15, 3) := by decide +kernel
theorem dL_law_1524 : decode cL_law 1524 = .ok (.aload_n 3, 1) := by decide +kernel
theorem dL_law_1525 : decode cL_law 1525 = .ok (.iconst 0, 1) := by decide +kernel
theorem dL_law_1526 : decode cL_law 1526 = .ok (.laload, 1) := by decide +kernel
theorem dL_law_1527 : decode cL_law 1527 = .ok (.iload 6, 2) := by decide +kernel
theorem dL_law_1529 : decode cL_law 1529 = .ok (.i2l, 1) := by decide +kernel
theorem dL_law_1530 : decode cL_law 1530 = .ok (.lcmp, 1) := by decide +kernel
theorem dL_law_1531 : decode cL_law 1531 = .ok (.ifCond .eq 5, 3) := by decide +kernel
theorem dL_law_1534 : decode cL_law 1534 = .ok (.iconst 0, 1) := by decide +kernel
theorem dL_law_1535 : decode cL_law 1535 = .ok (.ireturn, 1) := by decide +kernel
theorem dL_law_1536 : decode cL_law 1536 = .ok (.goto 16, 3) := by decide +kernel
theorem dL_law_1539 : decode cL_law 1539 = .ok (.aload_n 1, 1) := by decide +kernel
theorem dL_law_1540 : decode cL_law 1540 = .ok (.invokevirtual 175, 3) := by decide +kernel
theorem dL_law_1543 : decode cL_law 1543 = .ok (.aload_n 2, 1) := by decide +kernel
theorem dL_law_1544 : decode cL_law 1544 = .ok (.invokevirtual 178, 3) := by decide +kernel
theorem dL_law_1547 : decode cL_law 1547 = .ok (.if_icmp .eq 5, 3) := by decide +kernel
theorem dL_law_1550 : decode cL_law 1550 = .ok (.iconst 0, 1) := by decide +kernel
theorem dL_law_1551 : decode cL_law 1551 = .ok (.ireturn, 1) := by decide +kernel
theorem dL_law_1552 : decode cL_law 1552 = .ok (.iinc 4 5, 3) := by decide +kernel
theorem dL_law_1555 : decode cL_law 1555 = .ok (.goto (-1532), 3) := by decide +kernel
theorem dL_law_1558 : decode cL_law 1558 = .ok (.iconst 1, 1) := by decide +kernel
theorem dL_law_1559 : decode cL_law 1559 = .ok (.ireturn, 1) := by decide +kernel
