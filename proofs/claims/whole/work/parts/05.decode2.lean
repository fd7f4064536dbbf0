theorem dX5_init_0 : decode cX5_init 0 = .ok (.aload_n 0, 1) := by decide +kernel
theorem dX5_init_1 : decode cX5_init 1 = .ok (.invokespecial 1, 3) := by decide +kernel
theorem dX5_init_4 : decode cX5_init 4 = .ok (.aload_n 0, 1) := by decide +kernel
theorem dX5_init_5 : decode cX5_init 5 = .ok (.bipush 45, 2) := by decide +kernel
theorem dX5_init_7 : decode cX5_init 7 = .ok (.newarray .int, 2) := by decide +kernel
theorem dX5_init_9 : decode cX5_init 9 = .ok (.putfield 9, 3) := by decide +kernel
theorem dX5_init_12 : decode cX5_init 12 = .ok (.aload_n 0, 1) := by decide +kernel
theorem dX5_init_13 : decode cX5_init 13 = .ok (.bipush 12, 2) := by decide +kernel
theorem dX5_init_15 : decode cX5_init 15 = .ok (.newarray .int, 2) := by decide +kernel
theorem dX5_init_17 : decode cX5_init 17 = .ok (.putfield 13, 3) := by decide +kernel
theorem dX5_init_20 : decode cX5_init 20 = .ok (.aload_n 0, 1) := by decide +kernel
theorem dX5_init_21 : decode cX5_init 21 = .ok (.bipush 8, 2) := by decide +kernel
theorem dX5_init_23 : decode cX5_init 23 = .ok (.newarray .int, 2) := by decide +kernel
theorem dX5_init_25 : decode cX5_init 25 = .ok (.putfield 16, 3) := by decide +kernel
theorem dX5_init_28 : decode cX5_init 28 = .ok (.aload_n 0, 1) := by decide +kernel
theorem dX5_init_29 : decode cX5_init 29 = .ok (.bipush 8, 2) := by decide +kernel
theorem dX5_init_31 : decode cX5_init 31 = .ok (.newarray .int, 2) := by decide +kernel
theorem dX5_init_33 : decode cX5_init 33 = .ok (.putfield 19, 3) := by decide +kernel
theorem dX5_init_36 : decode cX5_init 36 = .ok (.aload_n 0, 1) := by decide +kernel
theorem dX5_init_37 : decode cX5_init 37 = .ok (.sipush 240, 3) := by decide +kernel
theorem dX5_init_40 : decode cX5_init 40 = .ok (.newarray .int, 2) := by decide +kernel
theorem dX5_init_42 : decode cX5_init 42 = .ok (.putfield 22, 3) := by decide +kernel
theorem dX5_init_45 : decode cX5_init 45 = .ok (.aload_n 0, 1) := by decide +kernel
theorem dX5_init_46 : decode cX5_init 46 = .ok (.sipush 480, 3) := by decide +kernel
theorem dX5_init_49 : decode cX5_init 49 = .ok (.putfield 25, 3) := by decide +kernel
theorem dX5_init_52 : decode cX5_init 52 = .ok (.aload_n 0, 1) := by decide +kernel
theorem dX5_init_53 : decode cX5_init 53 = .ok (.sipush 1079, 3) := by decide +kernel
theorem dX5_init_56 : decode cX5_init 56 = .ok (.putfield 29, 3) := by decide +kernel
theorem dX5_init_59 : decode cX5_init 59 = .ok (.aload_n 0, 1) := by decide +kernel
theorem dX5_init_60 : decode cX5_init 60 = .ok (.bipush 60, 2) := by decide +kernel
theorem dX5_init_62 : decode cX5_init 62 = .ok (.newarray .int, 2) := by decide +kernel
theorem dX5_init_64 : decode cX5_init 64 = .ok (.putfield 32, 3) := by decide +kernel
theorem dX5_init_67 : decode cX5_init 67 = .ok (.aload_n 0, 1) := by decide +kernel
theorem dX5_init_68 : decode cX5_init 68 = .ok (.bipush 60, 2) := by decide +kernel
theorem dX5_init_70 : decode cX5_init 70 = .ok (.newarray .int, 2) := by decide +kernel
theorem dX5_init_72 : decode cX5_init 72 = .ok (.putfield 35, 3) := by decide +kernel
theorem dX5_init_75 : decode cX5_init 75 = .ok (.aload_n 0, 1) := by decide +kernel
theorem dX5_init_76 : decode cX5_init 76 = .ok (.bipush 60, 2) := by decide +kernel
theorem dX5_init_78 : decode cX5_init 78 = .ok (.newarray .int, 2) := by decide +kernel
theorem dX5_init_80 : decode cX5_init 80 = .ok (.putfield 38, 3) := by decide +kernel
theorem dX5_init_83 : decode cX5_init 83 = .ok (.aload_n 0, 1) := by decide +kernel
theorem dX5_init_84 : decode cX5_init 84 = .ok (.bipush 60, 2) := by decide +kernel
theorem dX5_init_86 : decode cX5_init 86 = .ok (.newarray .int, 2) := by decide +kernel
theorem dX5_init_88 : decode cX5_init 88 = .ok (.putfield 41, 3) := by decide +kernel
theorem dX5_init_91 : decode cX5_init 91 = .ok (.aload_n 0, 1) := by decide +kernel
theorem dX5_init_92 : decode cX5_init 92 = .ok (.bipush 60, 2) := by decide +kernel
theorem dX5_init_94 : decode cX5_init 94 = .ok (.newarray .int, 2) := by decide +kernel
theorem dX5_init_96 : decode cX5_init 96 = .ok (.putfield 44, 3) := by decide +kernel
theorem dX5_init_99 : decode cX5_init 99 = .ok (.aload_n 0, 1) := by decide +kernel
theorem dX5_init_100 : decode cX5_init 100 = .ok (.iconst 4, 1) := by decide +kernel
theorem dX5_init_101 : decode cX5_init 101 = .ok (.newarray .int, 2) := by decide +kernel
theorem dX5_init_103 : decode cX5_init 103 = .ok (.putfield 47, 3) := by decide +kernel
theorem dX5_init_106 : decode cX5_init 106 = .ok (.aload_n 0, 1) := by decide +kernel
theorem dX5_init_107 : decode cX5_init 107 = .ok (.iconst 4, 1) := by decide +kernel
theorem dX5_init_108 : decode cX5_init 108 = .ok (.newarray .int, 2) := by decide +kernel
theorem dX5_init_110 : decode cX5_init 110 = .ok (.putfield 50, 3) := by decide +kernel
theorem dX5_init_113 : decode cX5_init 113 = .ok (.return_, 1) := by decide +kernel
theorem dX5_thrown_0 : decode cX5_thrown 0 = .ok (.aload_n 0, 1) := by decide +kernel
theorem dX5_thrown_1 : decode cX5_thrown 1 = .ok (.getfield 53, 3) := by decide +kernel
theorem dX5_thrown_4 : decode cX5_thrown 4 = .ok (.ireturn, 1) := by decide +kernel
theorem dX5_fail_0 : decode cX5_fail 0 = .ok (.aload_n 0, 1) := by decide +kernel
theorem dX5_fail_1 : decode cX5_fail 1 = .ok (.iload_n 1, 1) := by decide +kernel
theorem dX5_fail_2 : decode cX5_fail 2 = .ok (.putfield 53, 3) := by decide +kernel
theorem dX5_fail_5 : decode cX5_fail 5 = .ok (.iconst 0, 1) := by decide +kernel
theorem dX5_fail_6 : decode cX5_fail 6 = .ok (.ireturn, 1) := by decide +kernel
theorem dX5_isIn_0 : decode cX5_isIn 0 = .ok (.iload_n 0, 1) := by decide +kernel
theorem dX5_isIn_1 : decode cX5_isIn 1 = .ok (.iload_n 1, 1) := by decide +kernel
theorem dX5_isIn_2 : decode cX5_isIn 2 = .ok (.if_icmp .lt 12, 3) := by decide +kernel
theorem dX5_isIn_5 : decode cX5_isIn 5 = .ok (.iload_n 0, 1) := by decide +kernel
theorem dX5_isIn_6 : decode cX5_isIn 6 = .ok (.iload_n 2, 1) := by decide +kernel
theorem dX5_isIn_7 : decode cX5_isIn 7 = .ok (.if_icmp .gt 7, 3) := by decide +kernel
theorem dX5_isIn_10 : decode cX5_isIn 10 = .ok (.iconst 1, 1) := by decide +kernel
theorem dX5_isIn_11 : decode cX5_isIn 11 = .ok (.goto 4, 3) := by decide +kernel
theorem dX5_isIn_14 : decode cX5_isIn 14 = .ok (.iconst 0, 1) := by decide +kernel
theorem dX5_isIn_15 : decode cX5_isIn 15 = .ok (.ireturn, 1) := by decide +kernel
theorem dX5_isTariff_0 : decode cX5_isTariff 0 = .ok (.iload_n 1, 1) := by decide +kernel
theorem dX5_isTariff_1 : decode cX5_isTariff 1 = .ok (.iconst 0, 1) := by decide +kernel
theorem dX5_isTariff_2 : decode cX5_isTariff 2 = .ok (.aload_n 0, 1) := by decide +kernel
theorem dX5_isTariff_3 : decode cX5_isTariff 3 = .ok (.getfield 56, 3) := by decide +kernel
theorem dX5_isTariff_6 : decode cX5_isTariff 6 = .ok (.iconst 1, 1) := by decide +kernel
theorem dX5_isTariff_7 : decode cX5_isTariff 7 = .ok (.isub, 1) := by decide +kernel
theorem dX5_isTariff_8 : decode cX5_isTariff 8 = .ok (.invokestatic 59, 3) := by decide +kernel
theorem dX5_isTariff_11 : decode cX5_isTariff 11 = .ok (.ireturn, 1) := by decide +kernel
theorem dX5_isAccount_0 : decode cX5_isAccount 0 = .ok (.iload_n 1, 1) := by decide +kernel
theorem dX5_isAccount_1 : decode cX5_isAccount 1 = .ok (.iconst 0, 1) := by decide +kernel
theorem dX5_isAccount_2 : decode cX5_isAccount 2 = .ok (.aload_n 0, 1) := by decide +kernel
theorem dX5_isAccount_3 : decode cX5_isAccount 3 = .ok (.getfield 63, 3) := by decide +kernel
theorem dX5_isAccount_6 : decode cX5_isAccount 6 = .ok (.iconst 1, 1) := by decide +kernel
theorem dX5_isAccount_7 : decode cX5_isAccount 7 = .ok (.isub, 1) := by decide +kernel
theorem dX5_isAccount_8 : decode cX5_isAccount 8 = .ok (.invokestatic 59, 3) := by decide +kernel
theorem dX5_isAccount_11 : decode cX5_isAccount 11 = .ok (.ireturn, 1) := by decide +kernel
theorem dX5_isLine_0 : decode cX5_isLine 0 = .ok (.iload_n 1, 1) := by decide +kernel
theorem dX5_isLine_1 : decode cX5_isLine 1 = .ok (.iconst 0, 1) := by decide +kernel
theorem dX5_isLine_2 : decode cX5_isLine 2 = .ok (.aload_n 0, 1) := by decide +kernel
theorem dX5_isLine_3 : decode cX5_isLine 3 = .ok (.getfield 66, 3) := by decide +kernel
theorem dX5_isLine_6 : decode cX5_isLine 6 = .ok (.iconst 1, 1) := by decide +kernel
theorem dX5_isLine_7 : decode cX5_isLine 7 = .ok (.isub, 1) := by decide +kernel
theorem dX5_isLine_8 : decode cX5_isLine 8 = .ok (.invokestatic 59, 3) := by decide +kernel
theorem dX5_isLine_11 : decode cX5_isLine 11 = .ok (.ireturn, 1) := by decide +kernel
theorem dX5_isCall_0 : decode cX5_isCall 0 = .ok (.iload_n 1, 1) := by decide +kernel
theorem dX5_isCall_1 : decode cX5_isCall 1 = .ok (.iconst 0, 1) := by decide +kernel
theorem dX5_isCall_2 : decode cX5_isCall 2 = .ok (.aload_n 0, 1) := by decide +kernel
theorem dX5_isCall_3 : decode cX5_isCall 3 = .ok (.getfield 69, 3) := by decide +kernel
theorem dX5_isCall_6 : decode cX5_isCall 6 = .ok (.iconst 1, 1) := by decide +kernel
theorem dX5_isCall_7 : decode cX5_isCall 7 = .ok (.isub, 1) := by decide +kernel
theorem dX5_isCall_8 : decode cX5_isCall 8 = .ok (.invokestatic 59, 3) := by decide +kernel
theorem dX5_isCall_11 : decode cX5_isCall 11 = .ok (.ireturn, 1) := by decide +kernel
theorem dX5_addTariff_0 : decode cX5_addTariff 0 = .ok (.aload_n 0, 1) := by decide +kernel
theorem dX5_addTariff_1 : decode cX5_addTariff 1 = .ok (.iconst 0, 1) := by decide +kernel
theorem dX5_addTariff_2 : decode cX5_addTariff 2 = .ok (.putfield 53, 3) := by decide +kernel
theorem dX5_addTariff_5 : decode cX5_addTariff 5 = .ok (.iload_n 1, 1) := by decide +kernel
theorem dX5_addTariff_6 : decode cX5_addTariff 6 = .ok (.iconst 0, 1) := by decide +kernel
theorem dX5_addTariff_7 : decode cX5_addTariff 7 = .ok (.sipush 10000, 3) := by decide +kernel
theorem dX5_addTariff_10 : decode cX5_addTariff 10 = .ok (.invokestatic 59, 3) := by decide +kernel
theorem dX5_addTariff_13 : decode cX5_addTariff 13 = .ok (.ifCond .eq 49, 3) := by decide +kernel
theorem dX5_addTariff_16 : decode cX5_addTariff 16 = .ok (.iload_n 2, 1) := by decide +kernel
theorem dX5_addTariff_17 : decode cX5_addTariff 17 = .ok (.iconst 0, 1) := by decide +kernel
theorem dX5_addTariff_18 : decode cX5_addTariff 18 = .ok (.sipush 10000, 3) := by decide +kernel
theorem dX5_addTariff_21 : decode cX5_addTariff 21 = .ok (.invokestatic 59, 3) := by decide +kernel
theorem dX5_addTariff_24 : decode cX5_addTariff 24 = .ok (.ifCond .eq 38, 3) := by decide +kernel
theorem dX5_addTariff_27 : decode cX5_addTariff 27 = .ok (.iload_n 3, 1) := by decide +kernel
theorem dX5_addTariff_28 : decode cX5_addTariff 28 = .ok (.iconst 0, 1) := by decide +kernel
theorem dX5_addTariff_29 : decode cX5_addTariff 29 = .ok (.sipush 10000, 3) := by decide +kernel
theorem dX5_addTariff_32 : decode cX5_addTariff 32 = .ok (.invokestatic 59, 3) := by decide +kernel
theorem dX5_addTariff_35 : decode cX5_addTariff 35 = .ok (.ifCond .eq 27, 3) := by decide +kernel
theorem dX5_addTariff_38 : decode cX5_addTariff 38 = .ok (.iload 4, 2) := by decide +kernel
theorem dX5_addTariff_40 : decode cX5_addTariff 40 = .ok (.iconst 1, 1) := by decide +kernel
theorem dX5_addTariff_41 : decode cX5_addTariff 41 = .ok (.sipush 300, 3) := by decide +kernel
theorem dX5_addTariff_44 : decode cX5_addTariff 44 = .ok (.invokestatic 59, 3) := by decide +kernel
theorem dX5_addTariff_47 : decode cX5_addTariff 47 = .ok (.ifCond .eq 15, 3) := by decide +kernel
theorem dX5_addTariff_50 : decode cX5_addTariff 50 = .ok (.iload 5, 2) := by decide +kernel
theorem dX5_addTariff_52 : decode cX5_addTariff 52 = .ok (.iconst 1, 1) := by decide +kernel
theorem dX5_addTariff_53 : decode cX5_addTariff 53 = .ok (.sipush 300, 3) := by decide +kernel
theorem dX5_addTariff_56 : decode cX5_addTariff 56 = .ok (.invokestatic 59, 3) := by decide +kernel
theorem dX5_addTariff_59 : decode cX5_addTariff 59 = .ok (.ifCond .ne 9, 3) := by decide +kernel
theorem dX5_addTariff_62 : decode cX5_addTariff 62 = .ok (.aload_n 0, 1) := by decide +kernel
theorem dX5_addTariff_63 : decode cX5_addTariff 63 = .ok (.iconst 1, 1) := by decide +kernel
theorem dX5_addTariff_64 : decode cX5_addTariff 64 = .ok (.invokevirtual 72, 3) := by decide +kernel
theorem dX5_addTariff_67 : decode cX5_addTariff 67 = .ok (.ireturn, 1) := by decide +kernel
theorem dX5_addTariff_68 : decode cX5_addTariff 68 = .ok (.aload_n 0, 1) := by decide +kernel
theorem dX5_addTariff_69 : decode cX5_addTariff 69 = .ok (.getfield 56, 3) := by decide +kernel
theorem dX5_addTariff_72 : decode cX5_addTariff 72 = .ok (.iconst 5, 1) := by decide +kernel
theorem dX5_addTariff_73 : decode cX5_addTariff 73 = .ok (.if_icmp .ne 9, 3) := by decide +kernel
theorem dX5_addTariff_76 : decode cX5_addTariff 76 = .ok (.aload_n 0, 1) := by decide +kernel
theorem dX5_addTariff_77 : decode cX5_addTariff 77 = .ok (.iconst 2, 1) := by decide +kernel
theorem dX5_addTariff_78 : decode cX5_addTariff 78 = .ok (.invokevirtual 72, 3) := by decide +kernel
theorem dX5_addTariff_81 : decode cX5_addTariff 81 = .ok (.ireturn, 1) := by decide +kernel
theorem dX5_addTariff_82 : decode cX5_addTariff 82 = .ok (.bipush 9, 2) := by decide +kernel
theorem dX5_addTariff_84 : decode cX5_addTariff 84 = .ok (.newarray .int, 2) := by decide +kernel
theorem dX5_addTariff_86 : decode cX5_addTariff 86 = .ok (.dup, 1) := by decide +kernel
theorem dX5_addTariff_87 : decode cX5_addTariff 87 = .ok (.iconst 0, 1) := by decide +kernel
theorem dX5_addTariff_88 : decode cX5_addTariff 88 = .ok (.iload_n 1, 1) := by decide +kernel
theorem dX5_addTariff_89 : decode cX5_addTariff 89 = .ok (.iastore, 1) := by decide +kernel
theorem dX5_addTariff_90 : decode cX5_addTariff 90 = .ok (.dup, 1) := by decide +kernel
theorem dX5_addTariff_91 : decode cX5_addTariff 91 = .ok (.iconst 1, 1) := by decide +kernel
theorem dX5_addTariff_92 : decode cX5_addTariff 92 = .ok (.iload_n 2, 1) := by decide +kernel
theorem dX5_addTariff_93 : decode cX5_addTariff 93 = .ok (.iastore, 1) := by decide +kernel
theorem dX5_addTariff_94 : decode cX5_addTariff 94 = .ok (.dup, 1) := by decide +kernel
theorem dX5_addTariff_95 : decode cX5_addTariff 95 = .ok (.iconst 2, 1) := by decide +kernel
theorem dX5_addTariff_96 : decode cX5_addTariff 96 = .ok (.iload_n 3, 1) := by decide +kernel
theorem dX5_addTariff_97 : decode cX5_addTariff 97 = .ok (.iastore, 1) := by decide +kernel
theorem dX5_addTariff_98 : decode cX5_addTariff 98 = .ok (.dup, 1) := by decide +kernel
theorem dX5_addTariff_99 : decode cX5_addTariff 99 = .ok (.iconst 3, 1) := by decide +kernel
theorem dX5_addTariff_100 : decode cX5_addTariff 100 = .ok (.iload 4, 2) := by decide +kernel
theorem dX5_addTariff_102 : decode cX5_addTariff 102 = .ok (.iastore, 1) := by decide +kernel
theorem dX5_addTariff_103 : decode cX5_addTariff 103 = .ok (.dup, 1) := by decide +kernel
theorem dX5_addTariff_104 : decode cX5_addTariff 104 = .ok (.iconst 4, 1) := by decide +kernel
theorem dX5_addTariff_105 : decode cX5_addTariff 105 = .ok (.iload 5, 2) := by decide +kernel
theorem dX5_addTariff_107 : decode cX5_addTariff 107 = .ok (.iastore, 1) := by decide +kernel
theorem dX5_addTariff_108 : decode cX5_addTariff 108 = .ok (.dup, 1) := by decide +kernel
theorem dX5_addTariff_109 : decode cX5_addTariff 109 = .ok (.iconst 5, 1) := by decide +kernel
theorem dX5_addTariff_110 : decode cX5_addTariff 110 = .ok (.iconst 0, 1) := by decide +kernel
theorem dX5_addTariff_111 : decode cX5_addTariff 111 = .ok (.iastore, 1) := by decide +kernel
theorem dX5_addTariff_112 : decode cX5_addTariff 112 = .ok (.dup, 1) := by decide +kernel
theorem dX5_addTariff_113 : decode cX5_addTariff 113 = .ok (.bipush 6, 2) := by decide +kernel
theorem dX5_addTariff_115 : decode cX5_addTariff 115 = .ok (.iconst 0, 1) := by decide +kernel
theorem dX5_addTariff_116 : decode cX5_addTariff 116 = .ok (.iastore, 1) := by decide +kernel
theorem dX5_addTariff_117 : decode cX5_addTariff 117 = .ok (.dup, 1) := by decide +kernel
theorem dX5_addTariff_118 : decode cX5_addTariff 118 = .ok (.bipush 7, 2) := by decide +kernel
theorem dX5_addTariff_120 : decode cX5_addTariff 120 = .ok (.iconst 0, 1) := by decide +kernel
theorem dX5_addTariff_121 : decode cX5_addTariff 121 = .ok (.iastore, 1) := by decide +kernel
theorem dX5_addTariff_122 : decode cX5_addTariff 122 = .ok (.dup, 1) := by decide +kernel
theorem dX5_addTariff_123 : decode cX5_addTariff 123 = .ok (.bipush 8, 2) := by decide +kernel
theorem dX5_addTariff_125 : decode cX5_addTariff 125 = .ok (.iconst 0, 1) := by decide +kernel
theorem dX5_addTariff_126 : decode cX5_addTariff 126 = .ok (.iastore, 1) := by decide +kernel
theorem dX5_addTariff_127 : decode cX5_addTariff 127 = .ok (.astore 6, 2) := by decide +kernel
theorem dX5_addTariff_129 : decode cX5_addTariff 129 = .ok (.aload 6, 2) := by decide +kernel
theorem dX5_addTariff_131 : decode cX5_addTariff 131 = .ok (.iconst 0, 1) := by decide +kernel
theorem dX5_addTariff_132 : decode cX5_addTariff 132 = .ok (.aload_n 0, 1) := by decide +kernel
theorem dX5_addTariff_133 : decode cX5_addTariff 133 = .ok (.getfield 9, 3) := by decide +kernel
theorem dX5_addTariff_136 : decode cX5_addTariff 136 = .ok (.bipush 9, 2) := by decide +kernel
theorem dX5_addTariff_138 : decode cX5_addTariff 138 = .ok (.aload_n 0, 1) := by decide +kernel
theorem dX5_addTariff_139 : decode cX5_addTariff 139 = .ok (.getfield 56, 3) := by decide +kernel
theorem dX5_addTariff_142 : decode cX5_addTariff 142 = .ok (.imul, 1) := by decide +kernel
theorem dX5_addTariff_143 : decode cX5_addTariff 143 = .ok (.bipush 9, 2) := by decide +kernel
theorem dX5_addTariff_145 : decode cX5_addTariff 145 = .ok (.invokestatic 76, 3) := by decide +kernel
theorem dX5_addTariff_148 : decode cX5_addTariff 148 = .ok (.aload_n 0, 1) := by decide +kernel
theorem dX5_addTariff_149 : decode cX5_addTariff 149 = .ok (.dup, 1) := by decide +kernel
theorem dX5_addTariff_150 : decode cX5_addTariff 150 = .ok (.getfield 56, 3) := by decide +kernel
theorem dX5_addTariff_153 : decode cX5_addTariff 153 = .ok (.iconst 1, 1) := by decide +kernel
theorem dX5_addTariff_154 : decode cX5_addTariff 154 = .ok (.iadd, 1) := by decide +kernel
theorem dX5_addTariff_155 : decode cX5_addTariff 155 = .ok (.putfield 56, 3) := by decide +kernel
theorem dX5_addTariff_158 : decode cX5_addTariff 158 = .ok (.aload_n 0, 1) := by decide +kernel
theorem dX5_addTariff_159 : decode cX5_addTariff 159 = .ok (.getfield 56, 3) := by decide +kernel
theorem dX5_addTariff_162 : decode cX5_addTariff 162 = .ok (.iconst 1, 1) := by decide +kernel
theorem dX5_addTariff_163 : decode cX5_addTariff 163 = .ok (.isub, 1) := by decide +kernel
theorem dX5_addTariff_164 : decode cX5_addTariff 164 = .ok (.ireturn, 1) := by decide +kernel
theorem dX5_setZone_0 : decode cX5_setZone 0 = .ok (.aload_n 0, 1) := by decide +kernel
theorem dX5_setZone_1 : decode cX5_setZone 1 = .ok (.iconst 0, 1) := by decide +kernel
theorem dX5_setZone_2 : decode cX5_setZone 2 = .ok (.putfield 53, 3) := by decide +kernel
theorem dX5_setZone_5 : decode cX5_setZone 5 = .ok (.aload_n 0, 1) := by decide +kernel
theorem dX5_setZone_6 : decode cX5_setZone 6 = .ok (.iload_n 1, 1) := by decide +kernel
theorem dX5_setZone_7 : decode cX5_setZone 7 = .ok (.invokevirtual 82, 3) := by decide +kernel
theorem dX5_setZone_10 : decode cX5_setZone 10 = .ok (.ifCond .eq 12, 3) := by decide +kernel
theorem dX5_setZone_13 : decode cX5_setZone 13 = .ok (.iload_n 2, 1) := by decide +kernel
theorem dX5_setZone_14 : decode cX5_setZone 14 = .ok (.iconst 1, 1) := by decide +kernel
theorem dX5_setZone_15 : decode cX5_setZone 15 = .ok (.iconst 2, 1) := by decide +kernel
theorem dX5_setZone_16 : decode cX5_setZone 16 = .ok (.invokestatic 59, 3) := by decide +kernel
theorem dX5_setZone_19 : decode cX5_setZone 19 = .ok (.ifCond .ne 9, 3) := by decide +kernel
theorem dX5_setZone_22 : decode cX5_setZone 22 = .ok (.aload_n 0, 1) := by decide +kernel
theorem dX5_setZone_23 : decode cX5_setZone 23 = .ok (.iconst 1, 1) := by decide +kernel
theorem dX5_setZone_24 : decode cX5_setZone 24 = .ok (.invokevirtual 72, 3) := by decide +kernel
theorem dX5_setZone_27 : decode cX5_setZone 27 = .ok (.ireturn, 1) := by decide +kernel
theorem dX5_setZone_28 : decode cX5_setZone 28 = .ok (.iload_n 3, 1) := by decide +kernel
theorem dX5_setZone_29 : decode cX5_setZone 29 = .ok (.iconst 0, 1) := by decide +kernel
theorem dX5_setZone_30 : decode cX5_setZone 30 = .ok (.sipush 10000, 3) := by decide +kernel
theorem dX5_setZone_33 : decode cX5_setZone 33 = .ok (.invokestatic 59, 3) := by decide +kernel
theorem dX5_setZone_36 : decode cX5_setZone 36 = .ok (.ifCond .eq 15, 3) := by decide +kernel
theorem dX5_setZone_39 : decode cX5_setZone 39 = .ok (.iload 4, 2) := by decide +kernel
theorem dX5_setZone_41 : decode cX5_setZone 41 = .ok (.iconst 0, 1) := by decide +kernel
theorem dX5_setZone_42 : decode cX5_setZone 42 = .ok (.sipush 10000, 3) := by decide +kernel
theorem dX5_setZone_45 : decode cX5_setZone 45 = .ok (.invokestatic 59, 3) := by decide +kernel
theorem dX5_setZone_48 : decode cX5_setZone 48 = .ok (.ifCond .ne 9, 3) := by decide +kernel
theorem dX5_setZone_51 : decode cX5_setZone 51 = .ok (.aload_n 0, 1) := by decide +kernel
theorem dX5_setZone_52 : decode cX5_setZone 52 = .ok (.iconst 2, 1) := by decide +kernel
theorem dX5_setZone_53 : decode cX5_setZone 53 = .ok (.invokevirtual 72, 3) := by decide +kernel
theorem dX5_setZone_56 : decode cX5_setZone 56 = .ok (.ireturn, 1) := by decide +kernel
theorem dX5_setZone_57 : decode cX5_setZone 57 = .ok (.bipush 9, 2) := by decide +kernel
theorem dX5_setZone_59 : decode cX5_setZone 59 = .ok (.iload_n 1, 1) := by decide +kernel
theorem dX5_setZone_60 : decode cX5_setZone 60 = .ok (.imul, 1) := by decide +kernel
theorem dX5_setZone_61 : decode cX5_setZone 61 = .ok (.iconst 3, 1) := by decide +kernel
theorem dX5_setZone_62 : decode cX5_setZone 62 = .ok (.iadd, 1) := by decide +kernel
theorem dX5_setZone_63 : decode cX5_setZone 63 = .ok (.iconst 2, 1) := by decide +kernel
theorem dX5_setZone_64 : decode cX5_setZone 64 = .ok (.iload_n 2, 1) := by decide +kernel
theorem dX5_setZone_65 : decode cX5_setZone 65 = .ok (.imul, 1) := by decide +kernel
theorem dX5_setZone_66 : decode cX5_setZone 66 = .ok (.iadd, 1) := by decide +kernel
theorem dX5_setZone_67 : decode cX5_setZone 67 = .ok (.istore 5, 2) := by decide +kernel
theorem dX5_setZone_69 : decode cX5_setZone 69 = .ok (.aload_n 0, 1) := by decide +kernel
theorem dX5_setZone_70 : decode cX5_setZone 70 = .ok (.getfield 9, 3) := by decide +kernel
theorem dX5_setZone_73 : decode cX5_setZone 73 = .ok (.iload 5, 2) := by decide +kernel
theorem dX5_setZone_75 : decode cX5_setZone 75 = .ok (.iaload, 1) := by decide +kernel
theorem dX5_setZone_76 : decode cX5_setZone 76 = .ok (.istore 6, 2) := by decide +kernel
theorem dX5_setZone_78 : decode cX5_setZone 78 = .ok (.aload_n 0, 1) := by decide +kernel
theorem dX5_setZone_79 : decode cX5_setZone 79 = .ok (.getfield 9, 3) := by decide +kernel
theorem dX5_setZone_82 : decode cX5_setZone 82 = .ok (.iload 5, 2) := by decide +kernel
theorem dX5_setZone_84 : decode cX5_setZone 84 = .ok (.iload_n 3, 1) := by decide +kernel
theorem dX5_setZone_85 : decode cX5_setZone 85 = .ok (.iastore, 1) := by decide +kernel
theorem dX5_setZone_86 : decode cX5_setZone 86 = .ok (.aload_n 0, 1) := by decide +kernel
theorem dX5_setZone_87 : decode cX5_setZone 87 = .ok (.getfield 9, 3) := by decide +kernel
theorem dX5_setZone_90 : decode cX5_setZone 90 = .ok (.iload 5, 2) := by decide +kernel
theorem dX5_setZone_92 : decode cX5_setZone 92 = .ok (.iconst 1, 1) := by decide +kernel
theorem dX5_setZone_93 : decode cX5_setZone 93 = .ok (.iadd, 1) := by decide +kernel
theorem dX5_setZone_94 : decode cX5_setZone 94 = .ok (.iload 4, 2) := by decide +kernel
theorem dX5_setZone_96 : decode cX5_setZone 96 = .ok (.iastore, 1) := by decide +kernel
theorem dX5_setZone_97 : decode cX5_setZone 97 = .ok (.iload 6, 2) := by decide +kernel
theorem dX5_setZone_99 : decode cX5_setZone 99 = .ok (.ireturn, 1) := by decide +kernel
theorem dX5_setPeak_0 : decode cX5_setPeak 0 = .ok (.aload_n 0, 1) := by decide +kernel
theorem dX5_setPeak_1 : decode cX5_setPeak 1 = .ok (.iload_n 1, 1) := by decide +kernel
theorem dX5_setPeak_2 : decode cX5_setPeak 2 = .ok (.iconst 0, 1) := by decide +kernel
theorem dX5_setPeak_3 : decode cX5_setPeak 3 = .ok (.sipush 1439, 3) := by decide +kernel
theorem dX5_setPeak_6 : decode cX5_setPeak 6 = .ok (.invokestatic 59, 3) := by decide +kernel
theorem dX5_setPeak_9 : decode cX5_setPeak 9 = .ok (.ifCond .eq 18, 3) := by decide +kernel
theorem dX5_setPeak_12 : decode cX5_setPeak 12 = .ok (.iload_n 2, 1) := by decide +kernel
theorem dX5_setPeak_13 : decode cX5_setPeak 13 = .ok (.iload_n 1, 1) := by decide +kernel
theorem dX5_setPeak_14 : decode cX5_setPeak 14 = .ok (.sipush 1439, 3) := by decide +kernel
theorem dX5_setPeak_17 : decode cX5_setPeak 17 = .ok (.invokestatic 59, 3) := by decide +kernel
theorem dX5_setPeak_20 : decode cX5_setPeak 20 = .ok (.ifCond .eq 7, 3) := by decide +kernel
theorem dX5_setPeak_23 : decode cX5_setPeak 23 = .ok (.iconst 0, 1) := by decide +kernel
theorem dX5_setPeak_24 : decode cX5_setPeak 24 = .ok (.goto 4, 3) := by decide +kernel
theorem dX5_setPeak_27 : decode cX5_setPeak 27 = .ok (.iconst 1, 1) := by decide +kernel
theorem dX5_setPeak_28 : decode cX5_setPeak 28 = .ok (.putfield 53, 3) := by decide +kernel
theorem dX5_setPeak_31 : decode cX5_setPeak 31 = .ok (.aload_n 0, 1) := by decide +kernel
theorem dX5_setPeak_32 : decode cX5_setPeak 32 = .ok (.getfield 53, 3) := by decide +kernel
theorem dX5_setPeak_35 : decode cX5_setPeak 35 = .ok (.ifCond .eq 5, 3) := by decide +kernel
theorem dX5_setPeak_38 : decode cX5_setPeak 38 = .ok (.iconst 0, 1) := by decide +kernel
theorem dX5_setPeak_39 : decode cX5_setPeak 39 = .ok (.ireturn, 1) := by decide +kernel
theorem dX5_setPeak_40 : decode cX5_setPeak 40 = .ok (.iload_n 1, 1) := by decide +kernel
theorem dX5_setPeak_41 : decode cX5_setPeak 41 = .ok (.aload_n 0, 1) := by decide +kernel
theorem dX5_setPeak_42 : decode cX5_setPeak 42 = .ok (.getfield 25, 3) := by decide +kernel
theorem dX5_setPeak_45 : decode cX5_setPeak 45 = .ok (.if_icmp .ne 11, 3) := by decide +kernel
theorem dX5_setPeak_48 : decode cX5_setPeak 48 = .ok (.iload_n 2, 1) := by decide +kernel
theorem dX5_setPeak_49 : decode cX5_setPeak 49 = .ok (.aload_n 0, 1) := by decide +kernel
theorem dX5_setPeak_50 : decode cX5_setPeak 50 = .ok (.getfield 29, 3) := by decide +kernel
theorem dX5_setPeak_53 : decode cX5_setPeak 53 = .ok (.if_icmp .eq 7, 3) := by decide +kernel
theorem dX5_setPeak_56 : decode cX5_setPeak 56 = .ok (.iconst 1, 1) := by decide +kernel
theorem dX5_setPeak_57 : decode cX5_setPeak 57 = .ok (.goto 4, 3) := by decide +kernel
theorem dX5_setPeak_60 : decode cX5_setPeak 60 = .ok (.iconst 0, 1) := by decide +kernel
theorem dX5_setPeak_61 : decode cX5_setPeak 61 = .ok (.istore_n 3, 1) := by decide +kernel
theorem dX5_setPeak_62 : decode cX5_setPeak 62 = .ok (.aload_n 0, 1) := by decide +kernel
theorem dX5_setPeak_63 : decode cX5_setPeak 63 = .ok (.iload_n 1, 1) := by decide +kernel
theorem dX5_setPeak_64 : decode cX5_setPeak 64 = .ok (.putfield 25, 3) := by decide +kernel
theorem dX5_setPeak_67 : decode cX5_setPeak 67 = .ok (.aload_n 0, 1) := by decide +kernel
theorem dX5_setPeak_68 : decode cX5_setPeak 68 = .ok (.iload_n 2, 1) := by decide +kernel
theorem dX5_setPeak_69 : decode cX5_setPeak 69 = .ok (.putfield 29, 3) := by decide +kernel
theorem dX5_setPeak_72 : decode cX5_setPeak 72 = .ok (.iload_n 3, 1) := by decide +kernel
theorem dX5_setPeak_73 : decode cX5_setPeak 73 = .ok (.ireturn, 1) := by decide +kernel
theorem dX5_addAccount_0 : decode cX5_addAccount 0 = .ok (.aload_n 0, 1) := by decide +kernel
theorem dX5_addAccount_1 : decode cX5_addAccount 1 = .ok (.iconst 0, 1) := by decide +kernel
theorem dX5_addAccount_2 : decode cX5_addAccount 2 = .ok (.putfield 53, 3) := by decide +kernel
theorem dX5_addAccount_5 : decode cX5_addAccount 5 = .ok (.iload_n 1, 1) := by decide +kernel
theorem dX5_addAccount_6 : decode cX5_addAccount 6 = .ok (.iconst 0, 1) := by decide +kernel
theorem dX5_addAccount_7 : decode cX5_addAccount 7 = .ok (.ldc 86, 2) := by decide +kernel
theorem dX5_addAccount_9 : decode cX5_addAccount 9 = .ok (.invokestatic 59, 3) := by decide +kernel
theorem dX5_addAccount_12 : decode cX5_addAccount 12 = .ok (.ifCond .eq 23, 3) := by decide +kernel
theorem dX5_addAccount_15 : decode cX5_addAccount 15 = .ok (.iload_n 2, 1) := by decide +kernel
theorem dX5_addAccount_16 : decode cX5_addAccount 16 = .ok (.iconst 0, 1) := by decide +kernel
theorem dX5_addAccount_17 : decode cX5_addAccount 17 = .ok (.ldc 87, 2) := by decide +kernel
theorem dX5_addAccount_19 : decode cX5_addAccount 19 = .ok (.invokestatic 59, 3) := by decide +kernel
theorem dX5_addAccount_22 : decode cX5_addAccount 22 = .ok (.ifCond .eq 13, 3) := by decide +kernel
theorem dX5_addAccount_25 : decode cX5_addAccount 25 = .ok (.iload_n 3, 1) := by decide +kernel
theorem dX5_addAccount_26 : decode cX5_addAccount 26 = .ok (.iconst 0, 1) := by decide +kernel
theorem dX5_addAccount_27 : decode cX5_addAccount 27 = .ok (.bipush 100, 2) := by decide +kernel
theorem dX5_addAccount_29 : decode cX5_addAccount 29 = .ok (.invokestatic 59, 3) := by decide +kernel
theorem dX5_addAccount_32 : decode cX5_addAccount 32 = .ok (.ifCond .ne 9, 3) := by decide +kernel
theorem dX5_addAccount_35 : decode cX5_addAccount 35 = .ok (.aload_n 0, 1) := by decide +kernel
theorem dX5_addAccount_36 : decode cX5_addAccount 36 = .ok (.iconst 1, 1) := by decide +kernel
theorem dX5_addAccount_37 : decode cX5_addAccount 37 = .ok (.invokevirtual 72, 3) := by decide +kernel
theorem dX5_addAccount_40 : decode cX5_addAccount 40 = .ok (.ireturn, 1) := by decide +kernel
theorem dX5_addAccount_41 : decode cX5_addAccount 41 = .ok (.aload_n 0, 1) := by decide +kernel
theorem dX5_addAccount_42 : decode cX5_addAccount 42 = .ok (.getfield 63, 3) := by decide +kernel
theorem dX5_addAccount_45 : decode cX5_addAccount 45 = .ok (.iconst 4, 1) := by decide +kernel
theorem dX5_addAccount_46 : decode cX5_addAccount 46 = .ok (.if_icmp .ne 9, 3) := by decide +kernel
theorem dX5_addAccount_49 : decode cX5_addAccount 49 = .ok (.aload_n 0, 1) := by decide +kernel
theorem dX5_addAccount_50 : decode cX5_addAccount 50 = .ok (.iconst 2, 1) := by decide +kernel
theorem dX5_addAccount_51 : decode cX5_addAccount 51 = .ok (.invokevirtual 72, 3) := by decide +kernel
theorem dX5_addAccount_54 : decode cX5_addAccount 54 = .ok (.ireturn, 1) := by decide +kernel
theorem dX5_addAccount_55 : decode cX5_addAccount 55 = .ok (.aload_n 0, 1) := by decide +kernel
theorem dX5_addAccount_56 : decode cX5_addAccount 56 = .ok (.getfield 13, 3) := by decide +kernel
theorem dX5_addAccount_59 : decode cX5_addAccount 59 = .ok (.iconst 3, 1) := by decide +kernel
theorem dX5_addAccount_60 : decode cX5_addAccount 60 = .ok (.aload_n 0, 1) := by decide +kernel
theorem dX5_addAccount_61 : decode cX5_addAccount 61 = .ok (.getfield 63, 3) := by decide +kernel
theorem dX5_addAccount_64 : decode cX5_addAccount 64 = .ok (.imul, 1) := by decide +kernel
theorem dX5_addAccount_65 : decode cX5_addAccount 65 = .ok (.iload_n 1, 1) := by decide +kernel
theorem dX5_addAccount_66 : decode cX5_addAccount 66 = .ok (.iastore, 1) := by decide +kernel
theorem dX5_addAccount_67 : decode cX5_addAccount 67 = .ok (.aload_n 0, 1) := by decide +kernel
theorem dX5_addAccount_68 : decode cX5_addAccount 68 = .ok (.getfield 13, 3) := by decide +kernel
theorem dX5_addAccount_71 : decode cX5_addAccount 71 = .ok (.iconst 3, 1) := by decide +kernel
theorem dX5_addAccount_72 : decode cX5_addAccount 72 = .ok (.aload_n 0, 1) := by decide +kernel
theorem dX5_addAccount_73 : decode cX5_addAccount 73 = .ok (.getfield 63, 3) := by decide +kernel
theorem dX5_addAccount_76 : decode cX5_addAccount 76 = .ok (.imul, 1) := by decide +kernel
theorem dX5_addAccount_77 : decode cX5_addAccount 77 = .ok (.iconst 1, 1) := by decide +kernel
theorem dX5_addAccount_78 : decode cX5_addAccount 78 = .ok (.iadd, 1) := by decide +kernel
theorem dX5_addAccount_79 : decode cX5_addAccount 79 = .ok (.iload_n 2, 1) := by decide +kernel
theorem dX5_addAccount_80 : decode cX5_addAccount 80 = .ok (.iastore, 1) := by decide +kernel
theorem dX5_addAccount_81 : decode cX5_addAccount 81 = .ok (.aload_n 0, 1) := by decide +kernel
theorem dX5_addAccount_82 : decode cX5_addAccount 82 = .ok (.getfield 13, 3) := by decide +kernel
theorem dX5_addAccount_85 : decode cX5_addAccount 85 = .ok (.iconst 3, 1) := by decide +kernel
theorem dX5_addAccount_86 : decode cX5_addAccount 86 = .ok (.aload_n 0, 1) := by decide +kernel
theorem dX5_addAccount_87 : decode cX5_addAccount 87 = .ok (.getfield 63, 3) := by decide +kernel
theorem dX5_addAccount_90 : decode cX5_addAccount 90 = .ok (.imul, 1) := by decide +kernel
theorem dX5_addAccount_91 : decode cX5_addAccount 91 = .ok (.iconst 2, 1) := by decide +kernel
theorem dX5_addAccount_92 : decode cX5_addAccount 92 = .ok (.iadd, 1) := by decide +kernel
theorem dX5_addAccount_93 : decode cX5_addAccount 93 = .ok (.iload_n 3, 1) := by decide +kernel
theorem dX5_addAccount_94 : decode cX5_addAccount 94 = .ok (.iastore, 1) := by decide +kernel
theorem dX5_addAccount_95 : decode cX5_addAccount 95 = .ok (.aload_n 0, 1) := by decide +kernel
theorem dX5_addAccount_96 : decode cX5_addAccount 96 = .ok (.dup, 1) := by decide +kernel
theorem dX5_addAccount_97 : decode cX5_addAccount 97 = .ok (.getfield 63, 3) := by decide +kernel
theorem dX5_addAccount_100 : decode cX5_addAccount 100 = .ok (.iconst 1, 1) := by decide +kernel
theorem dX5_addAccount_101 : decode cX5_addAccount 101 = .ok (.iadd, 1) := by decide +kernel
theorem dX5_addAccount_102 : decode cX5_addAccount 102 = .ok (.putfield 63, 3) := by decide +kernel
theorem dX5_addAccount_105 : decode cX5_addAccount 105 = .ok (.aload_n 0, 1) := by decide +kernel
theorem dX5_addAccount_106 : decode cX5_addAccount 106 = .ok (.getfield 63, 3) := by decide +kernel
theorem dX5_addAccount_109 : decode cX5_addAccount 109 = .ok (.iconst 1, 1) := by decide +kernel
theorem dX5_addAccount_110 : decode cX5_addAccount 110 = .ok (.isub, 1) := by decide +kernel
theorem dX5_addAccount_111 : decode cX5_addAccount 111 = .ok (.ireturn, 1) := by decide +kernel
theorem dX5_addLine_0 : decode cX5_addLine 0 = .ok (.aload_n 0, 1) := by decide +kernel
theorem dX5_addLine_1 : decode cX5_addLine 1 = .ok (.iconst 0, 1) := by decide +kernel
theorem dX5_addLine_2 : decode cX5_addLine 2 = .ok (.putfield 53, 3) := by decide +kernel
theorem dX5_addLine_5 : decode cX5_addLine 5 = .ok (.aload_n 0, 1) := by decide +kernel
theorem dX5_addLine_6 : decode cX5_addLine 6 = .ok (.iload_n 1, 1) := by decide +kernel
theorem dX5_addLine_7 : decode cX5_addLine 7 = .ok (.invokevirtual 88, 3) := by decide +kernel
theorem dX5_addLine_10 : decode cX5_addLine 10 = .ok (.ifCond .eq 11, 3) := by decide +kernel
theorem dX5_addLine_13 : decode cX5_addLine 13 = .ok (.aload_n 0, 1) := by decide +kernel
theorem dX5_addLine_14 : decode cX5_addLine 14 = .ok (.iload_n 2, 1) := by decide +kernel
theorem dX5_addLine_15 : decode cX5_addLine 15 = .ok (.invokevirtual 82, 3) := by decide +kernel
theorem dX5_addLine_18 : decode cX5_addLine 18 = .ok (.ifCond .ne 9, 3) := by decide +kernel
theorem dX5_addLine_21 : decode cX5_addLine 21 = .ok (.aload_n 0, 1) := by decide +kernel
theorem dX5_addLine_22 : decode cX5_addLine 22 = .ok (.iconst 1, 1) := by decide +kernel
theorem dX5_addLine_23 : decode cX5_addLine 23 = .ok (.invokevirtual 72, 3) := by decide +kernel
theorem dX5_addLine_26 : decode cX5_addLine 26 = .ok (.ireturn, 1) := by decide +kernel
theorem dX5_addLine_27 : decode cX5_addLine 27 = .ok (.aload_n 0, 1) := by decide +kernel
theorem dX5_addLine_28 : decode cX5_addLine 28 = .ok (.getfield 66, 3) := by decide +kernel
theorem dX5_addLine_31 : decode cX5_addLine 31 = .ok (.bipush 8, 2) := by decide +kernel
theorem dX5_addLine_33 : decode cX5_addLine 33 = .ok (.if_icmp .ne 9, 3) := by decide +kernel
theorem dX5_addLine_36 : decode cX5_addLine 36 = .ok (.aload_n 0, 1) := by decide +kernel
theorem dX5_addLine_37 : decode cX5_addLine 37 = .ok (.iconst 2, 1) := by decide +kernel
theorem dX5_addLine_38 : decode cX5_addLine 38 = .ok (.invokevirtual 72, 3) := by decide +kernel
theorem dX5_addLine_41 : decode cX5_addLine 41 = .ok (.ireturn, 1) := by decide +kernel
theorem dX5_addLine_42 : decode cX5_addLine 42 = .ok (.aload_n 0, 1) := by decide +kernel
theorem dX5_addLine_43 : decode cX5_addLine 43 = .ok (.getfield 16, 3) := by decide +kernel
theorem dX5_addLine_46 : decode cX5_addLine 46 = .ok (.aload_n 0, 1) := by decide +kernel
theorem dX5_addLine_47 : decode cX5_addLine 47 = .ok (.getfield 66, 3) := by decide +kernel
theorem dX5_addLine_50 : decode cX5_addLine 50 = .ok (.iload_n 1, 1) := by decide +kernel
theorem dX5_addLine_51 : decode cX5_addLine 51 = .ok (.iastore, 1) := by decide +kernel
theorem dX5_addLine_52 : decode cX5_addLine 52 = .ok (.aload_n 0, 1) := by decide +kernel
theorem dX5_addLine_53 : decode cX5_addLine 53 = .ok (.getfield 19, 3) := by decide +kernel
theorem dX5_addLine_56 : decode cX5_addLine 56 = .ok (.aload_n 0, 1) := by decide +kernel
theorem dX5_addLine_57 : decode cX5_addLine 57 = .ok (.getfield 66, 3) := by decide +kernel
theorem dX5_addLine_60 : decode cX5_addLine 60 = .ok (.iload_n 2, 1) := by decide +kernel
theorem dX5_addLine_61 : decode cX5_addLine 61 = .ok (.iastore, 1) := by decide +kernel
theorem dX5_addLine_62 : decode cX5_addLine 62 = .ok (.aload_n 0, 1) := by decide +kernel
theorem dX5_addLine_63 : decode cX5_addLine 63 = .ok (.dup, 1) := by decide +kernel
theorem dX5_addLine_64 : decode cX5_addLine 64 = .ok (.getfield 66, 3) := by decide +kernel
theorem dX5_addLine_67 : decode cX5_addLine 67 = .ok (.iconst 1, 1) := by decide +kernel
theorem dX5_addLine_68 : decode cX5_addLine 68 = .ok (.iadd, 1) := by decide +kernel
theorem dX5_addLine_69 : decode cX5_addLine 69 = .ok (.putfield 66, 3) := by decide +kernel
theorem dX5_addLine_72 : decode cX5_addLine 72 = .ok (.aload_n 0, 1) := by decide +kernel
theorem dX5_addLine_73 : decode cX5_addLine 73 = .ok (.getfield 66, 3) := by decide +kernel
theorem dX5_addLine_76 : decode cX5_addLine 76 = .ok (.iconst 1, 1) := by decide +kernel
theorem dX5_addLine_77 : decode cX5_addLine 77 = .ok (.isub, 1) := by decide +kernel
theorem dX5_addLine_78 : decode cX5_addLine 78 = .ok (.ireturn, 1) := by decide +kernel
theorem dX5_setTariff_0 : decode cX5_setTariff 0 = .ok (.aload_n 0, 1) := by decide +kernel
theorem dX5_setTariff_1 : decode cX5_setTariff 1 = .ok (.iconst 0, 1) := by decide +kernel
theorem dX5_setTariff_2 : decode cX5_setTariff 2 = .ok (.putfield 53, 3) := by decide +kernel
theorem dX5_setTariff_5 : decode cX5_setTariff 5 = .ok (.aload_n 0, 1) := by decide +kernel
theorem dX5_setTariff_6 : decode cX5_setTariff 6 = .ok (.iload_n 1, 1) := by decide +kernel
theorem dX5_setTariff_7 : decode cX5_setTariff 7 = .ok (.invokevirtual 91, 3) := by decide +kernel
theorem dX5_setTariff_10 : decode cX5_setTariff 10 = .ok (.ifCond .eq 11, 3) := by decide +kernel
theorem dX5_setTariff_13 : decode cX5_setTariff 13 = .ok (.aload_n 0, 1) := by decide +kernel
theorem dX5_setTariff_14 : decode cX5_setTariff 14 = .ok (.iload_n 2, 1) := by decide +kernel
theorem dX5_setTariff_15 : decode cX5_setTariff 15 = .ok (.invokevirtual 82, 3) := by decide +kernel
theorem dX5_setTariff_18 : decode cX5_setTariff 18 = .ok (.ifCond .ne 9, 3) := by decide +kernel
theorem dX5_setTariff_21 : decode cX5_setTariff 21 = .ok (.aload_n 0, 1) := by decide +kernel
theorem dX5_setTariff_22 : decode cX5_setTariff 22 = .ok (.iconst 1, 1) := by decide +kernel
theorem dX5_setTariff_23 : decode cX5_setTariff 23 = .ok (.invokevirtual 72, 3) := by decide +kernel
theorem dX5_setTariff_26 : decode cX5_setTariff 26 = .ok (.ireturn, 1) := by decide +kernel
theorem dX5_setTariff_27 : decode cX5_setTariff 27 = .ok (.aload_n 0, 1) := by decide +kernel
theorem dX5_setTariff_28 : decode cX5_setTariff 28 = .ok (.getfield 19, 3) := by decide +kernel
theorem dX5_setTariff_31 : decode cX5_setTariff 31 = .ok (.iload_n 1, 1) := by decide +kernel
theorem dX5_setTariff_32 : decode cX5_setTariff 32 = .ok (.iaload, 1) := by decide +kernel
theorem dX5_setTariff_33 : decode cX5_setTariff 33 = .ok (.istore_n 3, 1) := by decide +kernel
theorem dX5_setTariff_34 : decode cX5_setTariff 34 = .ok (.aload_n 0, 1) := by decide +kernel
theorem dX5_setTariff_35 : decode cX5_setTariff 35 = .ok (.getfield 19, 3) := by decide +kernel
theorem dX5_setTariff_38 : decode cX5_setTariff 38 = .ok (.iload_n 1, 1) := by decide +kernel
theorem dX5_setTariff_39 : decode cX5_setTariff 39 = .ok (.iload_n 2, 1) := by decide +kernel
theorem dX5_setTariff_40 : decode cX5_setTariff 40 = .ok (.iastore, 1) := by decide +kernel
theorem dX5_setTariff_41 : decode cX5_setTariff 41 = .ok (.iload_n 3, 1) := by decide +kernel
theorem dX5_setTariff_42 : decode cX5_setTariff 42 = .ok (.ireturn, 1) := by decide +kernel
theorem dX5_setBundle_0 : decode cX5_setBundle 0 = .ok (.aload_n 0, 1) := by decide +kernel
theorem dX5_setBundle_1 : decode cX5_setBundle 1 = .ok (.iconst 0, 1) := by decide +kernel
theorem dX5_setBundle_2 : decode cX5_setBundle 2 = .ok (.putfield 53, 3) := by decide +kernel
theorem dX5_setBundle_5 : decode cX5_setBundle 5 = .ok (.aload_n 0, 1) := by decide +kernel
theorem dX5_setBundle_6 : decode cX5_setBundle 6 = .ok (.iload_n 1, 1) := by decide +kernel
theorem dX5_setBundle_7 : decode cX5_setBundle 7 = .ok (.invokevirtual 88, 3) := by decide +kernel
theorem dX5_setBundle_10 : decode cX5_setBundle 10 = .ok (.ifCond .ne 9, 3) := by decide +kernel
theorem dX5_setBundle_13 : decode cX5_setBundle 13 = .ok (.aload_n 0, 1) := by decide +kernel
theorem dX5_setBundle_14 : decode cX5_setBundle 14 = .ok (.iconst 1, 1) := by decide +kernel
theorem dX5_setBundle_15 : decode cX5_setBundle 15 = .ok (.invokevirtual 72, 3) := by decide +kernel
theorem dX5_setBundle_18 : decode cX5_setBundle 18 = .ok (.ireturn, 1) := by decide +kernel
theorem dX5_setBundle_19 : decode cX5_setBundle 19 = .ok (.iload_n 2, 1) := by decide +kernel
theorem dX5_setBundle_20 : decode cX5_setBundle 20 = .ok (.iconst 0, 1) := by decide +kernel
theorem dX5_setBundle_21 : decode cX5_setBundle 21 = .ok (.ldc 86, 2) := by decide +kernel
theorem dX5_setBundle_23 : decode cX5_setBundle 23 = .ok (.invokestatic 59, 3) := by decide +kernel
theorem dX5_setBundle_26 : decode cX5_setBundle 26 = .ok (.ifCond .ne 9, 3) := by decide +kernel
theorem dX5_setBundle_29 : decode cX5_setBundle 29 = .ok (.aload_n 0, 1) := by decide +kernel
theorem dX5_setBundle_30 : decode cX5_setBundle 30 = .ok (.iconst 2, 1) := by decide +kernel
theorem dX5_setBundle_31 : decode cX5_setBundle 31 = .ok (.invokevirtual 72, 3) := by decide +kernel
theorem dX5_setBundle_34 : decode cX5_setBundle 34 = .ok (.ireturn, 1) := by decide +kernel
theorem dX5_setBundle_35 : decode cX5_setBundle 35 = .ok (.aload_n 0, 1) := by decide +kernel
theorem dX5_setBundle_36 : decode cX5_setBundle 36 = .ok (.getfield 13, 3) := by decide +kernel
theorem dX5_setBundle_39 : decode cX5_setBundle 39 = .ok (.iconst 3, 1) := by decide +kernel
theorem dX5_setBundle_40 : decode cX5_setBundle 40 = .ok (.iload_n 1, 1) := by decide +kernel
theorem dX5_setBundle_41 : decode cX5_setBundle 41 = .ok (.imul, 1) := by decide +kernel
theorem dX5_setBundle_42 : decode cX5_setBundle 42 = .ok (.iaload, 1) := by decide +kernel
theorem dX5_setBundle_43 : decode cX5_setBundle 43 = .ok (.istore_n 3, 1) := by decide +kernel
theorem dX5_setBundle_44 : decode cX5_setBundle 44 = .ok (.aload_n 0, 1) := by decide +kernel
theorem dX5_setBundle_45 : decode cX5_setBundle 45 = .ok (.getfield 13, 3) := by decide +kernel
theorem dX5_setBundle_48 : decode cX5_setBundle 48 = .ok (.iconst 3, 1) := by decide +kernel
theorem dX5_setBundle_49 : decode cX5_setBundle 49 = .ok (.iload_n 1, 1) := by decide +kernel
theorem dX5_setBundle_50 : decode cX5_setBundle 50 = .ok (.imul, 1) := by decide +kernel
theorem dX5_setBundle_51 : decode cX5_setBundle 51 = .ok (.iload_n 2, 1) := by decide +kernel
theorem dX5_setBundle_52 : decode cX5_setBundle 52 = .ok (.iastore, 1) := by decide +kernel
theorem dX5_setBundle_53 : decode cX5_setBundle 53 = .ok (.iload_n 3, 1) := by decide +kernel
theorem dX5_setBundle_54 : decode cX5_setBundle 54 = .ok (.ireturn, 1) := by decide +kernel
theorem dX5_addCall_0 : decode cX5_addCall 0 = .ok (.aload_n 0, 1) := by decide +kernel
theorem dX5_addCall_1 : decode cX5_addCall 1 = .ok (.iconst 0, 1) := by decide +kernel
theorem dX5_addCall_2 : decode cX5_addCall 2 = .ok (.putfield 53, 3) := by decide +kernel
theorem dX5_addCall_5 : decode cX5_addCall 5 = .ok (.aload_n 0, 1) := by decide +kernel
theorem dX5_addCall_6 : decode cX5_addCall 6 = .ok (.iload_n 1, 1) := by decide +kernel
theorem dX5_addCall_7 : decode cX5_addCall 7 = .ok (.invokevirtual 91, 3) := by decide +kernel
theorem dX5_addCall_10 : decode cX5_addCall 10 = .ok (.ifCond .ne 9, 3) := by decide +kernel
theorem dX5_addCall_13 : decode cX5_addCall 13 = .ok (.aload_n 0, 1) := by decide +kernel
theorem dX5_addCall_14 : decode cX5_addCall 14 = .ok (.iconst 1, 1) := by decide +kernel
theorem dX5_addCall_15 : decode cX5_addCall 15 = .ok (.invokevirtual 72, 3) := by decide +kernel
theorem dX5_addCall_18 : decode cX5_addCall 18 = .ok (.ireturn, 1) := by decide +kernel
theorem dX5_addCall_19 : decode cX5_addCall 19 = .ok (.iload_n 2, 1) := by decide +kernel
theorem dX5_addCall_20 : decode cX5_addCall 20 = .ok (.iconst 0, 1) := by decide +kernel
theorem dX5_addCall_21 : decode cX5_addCall 21 = .ok (.ldc 94, 2) := by decide +kernel
theorem dX5_addCall_23 : decode cX5_addCall 23 = .ok (.invokestatic 59, 3) := by decide +kernel
theorem dX5_addCall_26 : decode cX5_addCall 26 = .ok (.ifCond .eq 24, 3) := by decide +kernel
theorem dX5_addCall_29 : decode cX5_addCall 29 = .ok (.iload_n 3, 1) := by decide +kernel
theorem dX5_addCall_30 : decode cX5_addCall 30 = .ok (.iconst 1, 1) := by decide +kernel
theorem dX5_addCall_31 : decode cX5_addCall 31 = .ok (.sipush 7200, 3) := by decide +kernel
theorem dX5_addCall_34 : decode cX5_addCall 34 = .ok (.invokestatic 59, 3) := by decide +kernel
theorem dX5_addCall_37 : decode cX5_addCall 37 = .ok (.ifCond .eq 13, 3) := by decide +kernel
theorem dX5_addCall_40 : decode cX5_addCall 40 = .ok (.iload 4, 2) := by decide +kernel
theorem dX5_addCall_42 : decode cX5_addCall 42 = .ok (.iconst 0, 1) := by decide +kernel
theorem dX5_addCall_43 : decode cX5_addCall 43 = .ok (.iconst 2, 1) := by decide +kernel
theorem dX5_addCall_44 : decode cX5_addCall 44 = .ok (.invokestatic 59, 3) := by decide +kernel
theorem dX5_addCall_47 : decode cX5_addCall 47 = .ok (.ifCond .ne 9, 3) := by decide +kernel
theorem dX5_addCall_50 : decode cX5_addCall 50 = .ok (.aload_n 0, 1) := by decide +kernel
theorem dX5_addCall_51 : decode cX5_addCall 51 = .ok (.iconst 2, 1) := by decide +kernel
theorem dX5_addCall_52 : decode cX5_addCall 52 = .ok (.invokevirtual 72, 3) := by decide +kernel
theorem dX5_addCall_55 : decode cX5_addCall 55 = .ok (.ireturn, 1) := by decide +kernel
theorem dX5_addCall_56 : decode cX5_addCall 56 = .ok (.aload_n 0, 1) := by decide +kernel
theorem dX5_addCall_57 : decode cX5_addCall 57 = .ok (.getfield 69, 3) := by decide +kernel
theorem dX5_addCall_60 : decode cX5_addCall 60 = .ok (.bipush 60, 2) := by decide +kernel
theorem dX5_addCall_62 : decode cX5_addCall 62 = .ok (.if_icmp .ne 9, 3) := by decide +kernel
theorem dX5_addCall_65 : decode cX5_addCall 65 = .ok (.aload_n 0, 1) := by decide +kernel
theorem dX5_addCall_66 : decode cX5_addCall 66 = .ok (.iconst 3, 1) := by decide +kernel
theorem dX5_addCall_67 : decode cX5_addCall 67 = .ok (.invokevirtual 72, 3) := by decide +kernel
theorem dX5_addCall_70 : decode cX5_addCall 70 = .ok (.ireturn, 1) := by decide +kernel
theorem dX5_addCall_71 : decode cX5_addCall 71 = .ok (.iconst 4, 1) := by decide +kernel
theorem dX5_addCall_72 : decode cX5_addCall 72 = .ok (.newarray .int, 2) := by decide +kernel
theorem dX5_addCall_74 : decode cX5_addCall 74 = .ok (.dup, 1) := by decide +kernel
theorem dX5_addCall_75 : decode cX5_addCall 75 = .ok (.iconst 0, 1) := by decide +kernel
theorem dX5_addCall_76 : decode cX5_addCall 76 = .ok (.iload_n 1, 1) := by decide +kernel
theorem dX5_addCall_77 : decode cX5_addCall 77 = .ok (.iastore, 1) := by decide +kernel
theorem dX5_addCall_78 : decode cX5_addCall 78 = .ok (.dup, 1) := by decide +kernel
theorem dX5_addCall_79 : decode cX5_addCall 79 = .ok (.iconst 1, 1) := by decide +kernel
theorem dX5_addCall_80 : decode cX5_addCall 80 = .ok (.iload_n 2, 1) := by decide +kernel
theorem dX5_addCall_81 : decode cX5_addCall 81 = .ok (.iastore, 1) := by decide +kernel
theorem dX5_addCall_82 : decode cX5_addCall 82 = .ok (.dup, 1) := by decide +kernel
theorem dX5_addCall_83 : decode cX5_addCall 83 = .ok (.iconst 2, 1) := by decide +kernel
theorem dX5_addCall_84 : decode cX5_addCall 84 = .ok (.iload_n 3, 1) := by decide +kernel
theorem dX5_addCall_85 : decode cX5_addCall 85 = .ok (.iastore, 1) := by decide +kernel
theorem dX5_addCall_86 : decode cX5_addCall 86 = .ok (.dup, 1) := by decide +kernel
theorem dX5_addCall_87 : decode cX5_addCall 87 = .ok (.iconst 3, 1) := by decide +kernel
theorem dX5_addCall_88 : decode cX5_addCall 88 = .ok (.iload 4, 2) := by decide +kernel
theorem dX5_addCall_90 : decode cX5_addCall 90 = .ok (.iastore, 1) := by decide +kernel
theorem dX5_addCall_91 : decode cX5_addCall 91 = .ok (.astore 5, 2) := by decide +kernel
theorem dX5_addCall_93 : decode cX5_addCall 93 = .ok (.aload 5, 2) := by decide +kernel
theorem dX5_addCall_95 : decode cX5_addCall 95 = .ok (.iconst 0, 1) := by decide +kernel
theorem dX5_addCall_96 : decode cX5_addCall 96 = .ok (.aload_n 0, 1) := by decide +kernel
theorem dX5_addCall_97 : decode cX5_addCall 97 = .ok (.getfield 22, 3) := by decide +kernel
theorem dX5_addCall_100 : decode cX5_addCall 100 = .ok (.iconst 4, 1) := by decide +kernel
theorem dX5_addCall_101 : decode cX5_addCall 101 = .ok (.aload_n 0, 1) := by decide +kernel
theorem dX5_addCall_102 : decode cX5_addCall 102 = .ok (.getfield 69, 3) := by decide +kernel
theorem dX5_addCall_105 : decode cX5_addCall 105 = .ok (.imul, 1) := by decide +kernel
theorem dX5_addCall_106 : decode cX5_addCall 106 = .ok (.iconst 4, 1) := by decide +kernel
theorem dX5_addCall_107 : decode cX5_addCall 107 = .ok (.invokestatic 76, 3) := by decide +kernel
theorem dX5_addCall_110 : decode cX5_addCall 110 = .ok (.aload_n 0, 1) := by decide +kernel
theorem dX5_addCall_111 : decode cX5_addCall 111 = .ok (.getfield 69, 3) := by decide +kernel
theorem dX5_addCall_114 : decode cX5_addCall 114 = .ok (.istore 6, 2) := by decide +kernel
theorem dX5_addCall_116 : decode cX5_addCall 116 = .ok (.iload 6, 2) := by decide +kernel
theorem dX5_addCall_118 : decode cX5_addCall 118 = .ok (.ifCond .le 47, 3) := by decide +kernel
theorem dX5_addCall_121 : decode cX5_addCall 121 = .ok (.aload_n 0, 1) := by decide +kernel
theorem dX5_addCall_122 : decode cX5_addCall 122 = .ok (.getfield 22, 3) := by decide +kernel
theorem dX5_addCall_125 : decode cX5_addCall 125 = .ok (.iconst 4, 1) := by decide +kernel
theorem dX5_addCall_126 : decode cX5_addCall 126 = .ok (.aload_n 0, 1) := by decide +kernel
theorem dX5_addCall_127 : decode cX5_addCall 127 = .ok (.getfield 32, 3) := by decide +kernel
theorem dX5_addCall_130 : decode cX5_addCall 130 = .ok (.iload 6, 2) := by decide +kernel
theorem dX5_addCall_132 : decode cX5_addCall 132 = .ok (.iconst 1, 1) := by decide +kernel
theorem dX5_addCall_133 : decode cX5_addCall 133 = .ok (.isub, 1) := by decide +kernel
theorem dX5_addCall_134 : decode cX5_addCall 134 = .ok (.iaload, 1) := by decide +kernel
theorem dX5_addCall_135 : decode cX5_addCall 135 = .ok (.imul, 1) := by decide +kernel
theorem dX5_addCall_136 : decode cX5_addCall 136 = .ok (.iconst 1, 1) := by decide +kernel
theorem dX5_addCall_137 : decode cX5_addCall 137 = .ok (.iadd, 1) := by decide +kernel
theorem dX5_addCall_138 : decode cX5_addCall 138 = .ok (.iaload, 1) := by decide +kernel
theorem dX5_addCall_139 : decode cX5_addCall 139 = .ok (.iload_n 2, 1) := by decide +kernel
theorem dX5_addCall_140 : decode cX5_addCall 140 = .ok (.if_icmp .le 25, 3) := by decide +kernel
theorem dX5_addCall_143 : decode cX5_addCall 143 = .ok (.aload_n 0, 1) := by decide +kernel
theorem dX5_addCall_144 : decode cX5_addCall 144 = .ok (.getfield 32, 3) := by decide +kernel
theorem dX5_addCall_147 : decode cX5_addCall 147 = .ok (.iload 6, 2) := by decide +kernel
theorem dX5_addCall_149 : decode cX5_addCall 149 = .ok (.aload_n 0, 1) := by decide +kernel
theorem dX5_addCall_150 : decode cX5_addCall 150 = .ok (.getfield 32, 3) := by decide +kernel
theorem dX5_addCall_153 : decode cX5_addCall 153 = .ok (.iload 6, 2) := by decide +kernel
theorem dX5_addCall_155 : decode cX5_addCall 155 = .ok (.iconst 1, 1) := by decide +kernel
theorem dX5_addCall_156 : decode cX5_addCall 156 = .ok (.isub, 1) := by decide +kernel
theorem dX5_addCall_157 : decode cX5_addCall 157 = .ok (.iaload, 1) := by decide +kernel
theorem dX5_addCall_158 : decode cX5_addCall 158 = .ok (.iastore, 1) := by decide +kernel
theorem dX5_addCall_159 : decode cX5_addCall 159 = .ok (.iinc 6 (-1), 3) := by decide +kernel
theorem dX5_addCall_162 : decode cX5_addCall 162 = .ok (.goto (-46), 3) := by decide +kernel
theorem dX5_addCall_165 : decode cX5_addCall 165 = .ok (.aload_n 0, 1) := by decide +kernel
theorem dX5_addCall_166 : decode cX5_addCall 166 = .ok (.getfield 32, 3) := by decide +kernel
theorem dX5_addCall_169 : decode cX5_addCall 169 = .ok (.iload 6, 2) := by decide +kernel
theorem dX5_addCall_171 : decode cX5_addCall 171 = .ok (.aload_n 0, 1) := by decide +kernel
theorem dX5_addCall_172 : decode cX5_addCall 172 = .ok (.getfield 69, 3) := by decide +kernel
theorem dX5_addCall_175 : decode cX5_addCall 175 = .ok (.iastore, 1) := by decide +kernel
theorem dX5_addCall_176 : decode cX5_addCall 176 = .ok (.aload_n 0, 1) := by decide +kernel
theorem dX5_addCall_177 : decode cX5_addCall 177 = .ok (.dup, 1) := by decide +kernel
theorem dX5_addCall_178 : decode cX5_addCall 178 = .ok (.getfield 69, 3) := by decide +kernel
theorem dX5_addCall_181 : decode cX5_addCall 181 = .ok (.iconst 1, 1) := by decide +kernel
theorem dX5_addCall_182 : decode cX5_addCall 182 = .ok (.iadd, 1) := by decide +kernel
theorem dX5_addCall_183 : decode cX5_addCall 183 = .ok (.putfield 69, 3) := by decide +kernel
theorem dX5_addCall_186 : decode cX5_addCall 186 = .ok (.aload_n 0, 1) := by decide +kernel
theorem dX5_addCall_187 : decode cX5_addCall 187 = .ok (.getfield 69, 3) := by decide +kernel
theorem dX5_addCall_190 : decode cX5_addCall 190 = .ok (.iconst 1, 1) := by decide +kernel
theorem dX5_addCall_191 : decode cX5_addCall 191 = .ok (.isub, 1) := by decide +kernel
theorem dX5_addCall_192 : decode cX5_addCall 192 = .ok (.ireturn, 1) := by decide +kernel
theorem dX5_correct_0 : decode cX5_correct 0 = .ok (.aload_n 0, 1) := by decide +kernel
theorem dX5_correct_1 : decode cX5_correct 1 = .ok (.iconst 0, 1) := by decide +kernel
theorem dX5_correct_2 : decode cX5_correct 2 = .ok (.putfield 53, 3) := by decide +kernel
theorem dX5_correct_5 : decode cX5_correct 5 = .ok (.aload_n 0, 1) := by decide +kernel
theorem dX5_correct_6 : decode cX5_correct 6 = .ok (.iload_n 1, 1) := by decide +kernel
theorem dX5_correct_7 : decode cX5_correct 7 = .ok (.invokevirtual 95, 3) := by decide +kernel
theorem dX5_correct_10 : decode cX5_correct 10 = .ok (.ifCond .ne 9, 3) := by decide +kernel
theorem dX5_correct_13 : decode cX5_correct 13 = .ok (.aload_n 0, 1) := by decide +kernel
theorem dX5_correct_14 : decode cX5_correct 14 = .ok (.iconst 1, 1) := by decide +kernel
theorem dX5_correct_15 : decode cX5_correct 15 = .ok (.invokevirtual 72, 3) := by decide +kernel
theorem dX5_correct_18 : decode cX5_correct 18 = .ok (.ireturn, 1) := by decide +kernel
theorem dX5_correct_19 : decode cX5_correct 19 = .ok (.iload_n 2, 1) := by decide +kernel
theorem dX5_correct_20 : decode cX5_correct 20 = .ok (.iconst 0, 1) := by decide +kernel
theorem dX5_correct_21 : decode cX5_correct 21 = .ok (.sipush 7200, 3) := by decide +kernel
theorem dX5_correct_24 : decode cX5_correct 24 = .ok (.invokestatic 59, 3) := by decide +kernel
theorem dX5_correct_27 : decode cX5_correct 27 = .ok (.ifCond .ne 9, 3) := by decide +kernel
theorem dX5_correct_30 : decode cX5_correct 30 = .ok (.aload_n 0, 1) := by decide +kernel
theorem dX5_correct_31 : decode cX5_correct 31 = .ok (.iconst 2, 1) := by decide +kernel
theorem dX5_correct_32 : decode cX5_correct 32 = .ok (.invokevirtual 72, 3) := by decide +kernel
theorem dX5_correct_35 : decode cX5_correct 35 = .ok (.ireturn, 1) := by decide +kernel
theorem dX5_correct_36 : decode cX5_correct 36 = .ok (.aload_n 0, 1) := by decide +kernel
theorem dX5_correct_37 : decode cX5_correct 37 = .ok (.getfield 22, 3) := by decide +kernel
theorem dX5_correct_40 : decode cX5_correct 40 = .ok (.iconst 4, 1) := by decide +kernel
theorem dX5_correct_41 : decode cX5_correct 41 = .ok (.iload_n 1, 1) := by decide +kernel
theorem dX5_correct_42 : decode cX5_correct 42 = .ok (.imul, 1) := by decide +kernel
theorem dX5_correct_43 : decode cX5_correct 43 = .ok (.iconst 2, 1) := by decide +kernel
theorem dX5_correct_44 : decode cX5_correct 44 = .ok (.iadd, 1) := by decide +kernel
theorem dX5_correct_45 : decode cX5_correct 45 = .ok (.iaload, 1) := by decide +kernel
theorem dX5_correct_46 : decode cX5_correct 46 = .ok (.istore_n 3, 1) := by decide +kernel
theorem dX5_correct_47 : decode cX5_correct 47 = .ok (.aload_n 0, 1) := by decide +kernel
theorem dX5_correct_48 : decode cX5_correct 48 = .ok (.getfield 22, 3) := by decide +kernel
theorem dX5_correct_51 : decode cX5_correct 51 = .ok (.iconst 4, 1) := by decide +kernel
theorem dX5_correct_52 : decode cX5_correct 52 = .ok (.iload_n 1, 1) := by decide +kernel
theorem dX5_correct_53 : decode cX5_correct 53 = .ok (.imul, 1) := by decide +kernel
theorem dX5_correct_54 : decode cX5_correct 54 = .ok (.iconst 2, 1) := by decide +kernel
theorem dX5_correct_55 : decode cX5_correct 55 = .ok (.iadd, 1) := by decide +kernel
theorem dX5_correct_56 : decode cX5_correct 56 = .ok (.iload_n 2, 1) := by decide +kernel
theorem dX5_correct_57 : decode cX5_correct 57 = .ok (.iastore, 1) := by decide +kernel
theorem dX5_correct_58 : decode cX5_correct 58 = .ok (.iload_n 3, 1) := by decide +kernel
theorem dX5_correct_59 : decode cX5_correct 59 = .ok (.ireturn, 1) := by decide +kernel
theorem dX5_callCount_0 : decode cX5_callCount 0 = .ok (.aload_n 0, 1) := by decide +kernel
theorem dX5_callCount_1 : decode cX5_callCount 1 = .ok (.iconst 0, 1) := by decide +kernel
theorem dX5_callCount_2 : decode cX5_callCount 2 = .ok (.putfield 53, 3) := by decide +kernel
theorem dX5_callCount_5 : decode cX5_callCount 5 = .ok (.aload_n 0, 1) := by decide +kernel
theorem dX5_callCount_6 : decode cX5_callCount 6 = .ok (.getfield 69, 3) := by decide +kernel
theorem dX5_callCount_9 : decode cX5_callCount 9 = .ok (.ireturn, 1) := by decide +kernel
theorem dX5_callAt_0 : decode cX5_callAt 0 = .ok (.aload_n 0, 1) := by decide +kernel
theorem dX5_callAt_1 : decode cX5_callAt 1 = .ok (.iconst 0, 1) := by decide +kernel
theorem dX5_callAt_2 : decode cX5_callAt 2 = .ok (.putfield 53, 3) := by decide +kernel
theorem dX5_callAt_5 : decode cX5_callAt 5 = .ok (.iload_n 1, 1) := by decide +kernel
theorem dX5_callAt_6 : decode cX5_callAt 6 = .ok (.iconst 0, 1) := by decide +kernel
theorem dX5_callAt_7 : decode cX5_callAt 7 = .ok (.aload_n 0, 1) := by decide +kernel
theorem dX5_callAt_8 : decode cX5_callAt 8 = .ok (.getfield 69, 3) := by decide +kernel
theorem dX5_callAt_11 : decode cX5_callAt 11 = .ok (.iconst 1, 1) := by decide +kernel
theorem dX5_callAt_12 : decode cX5_callAt 12 = .ok (.isub, 1) := by decide +kernel
theorem dX5_callAt_13 : decode cX5_callAt 13 = .ok (.invokestatic 59, 3) := by decide +kernel
theorem dX5_callAt_16 : decode cX5_callAt 16 = .ok (.ifCond .eq 12, 3) := by decide +kernel
theorem dX5_callAt_19 : decode cX5_callAt 19 = .ok (.aload_n 0, 1) := by decide +kernel
theorem dX5_callAt_20 : decode cX5_callAt 20 = .ok (.getfield 32, 3) := by decide +kernel
theorem dX5_callAt_23 : decode cX5_callAt 23 = .ok (.iload_n 1, 1) := by decide +kernel
theorem dX5_callAt_24 : decode cX5_callAt 24 = .ok (.iaload, 1) := by decide +kernel
theorem dX5_callAt_25 : decode cX5_callAt 25 = .ok (.goto 8, 3) := by decide +kernel
theorem dX5_callAt_28 : decode cX5_callAt 28 = .ok (.aload_n 0, 1) := by decide +kernel
theorem dX5_callAt_29 : decode cX5_callAt 29 = .ok (.iconst 1, 1) := by decide +kernel
theorem dX5_callAt_30 : decode cX5_callAt 30 = .ok (.invokevirtual 72, 3) := by decide +kernel
theorem dX5_callAt_33 : decode cX5_callAt 33 = .ok (.ireturn, 1) := by decide +kernel
theorem dX5_dayOf_0 : decode cX5_dayOf 0 = .ok (.iload_n 0, 1) := by decide +kernel
theorem dX5_dayOf_1 : decode cX5_dayOf 1 = .ok (.sipush 1440, 3) := by decide +kernel
theorem dX5_dayOf_4 : decode cX5_dayOf 4 = .ok (.idiv, 1) := by decide +kernel
theorem dX5_dayOf_5 : decode cX5_dayOf 5 = .ok (.ireturn, 1) := by decide +kernel
theorem dX5_isInPeak_0 : decode cX5_isInPeak 0 = .ok (.aload_n 0, 1) := by decide +kernel
theorem dX5_isInPeak_1 : decode cX5_isInPeak 1 = .ok (.getfield 22, 3) := by decide +kernel
theorem dX5_isInPeak_4 : decode cX5_isInPeak 4 = .ok (.iconst 4, 1) := by decide +kernel
theorem dX5_isInPeak_5 : decode cX5_isInPeak 5 = .ok (.iload_n 1, 1) := by decide +kernel
theorem dX5_isInPeak_6 : decode cX5_isInPeak 6 = .ok (.imul, 1) := by decide +kernel
theorem dX5_isInPeak_7 : decode cX5_isInPeak 7 = .ok (.iconst 1, 1) := by decide +kernel
theorem dX5_isInPeak_8 : decode cX5_isInPeak 8 = .ok (.iadd, 1) := by decide +kernel
theorem dX5_isInPeak_9 : decode cX5_isInPeak 9 = .ok (.iaload, 1) := by decide +kernel
theorem dX5_isInPeak_10 : decode cX5_isInPeak 10 = .ok (.istore_n 2, 1) := by decide +kernel
theorem dX5_isInPeak_11 : decode cX5_isInPeak 11 = .ok (.iload_n 2, 1) := by decide +kernel
theorem dX5_isInPeak_12 : decode cX5_isInPeak 12 = .ok (.invokestatic 98, 3) := by decide +kernel
theorem dX5_isInPeak_15 : decode cX5_isInPeak 15 = .ok (.bipush 7, 2) := by decide +kernel
theorem dX5_isInPeak_17 : decode cX5_isInPeak 17 = .ok (.irem, 1) := by decide +kernel
theorem dX5_isInPeak_18 : decode cX5_isInPeak 18 = .ok (.iconst 5, 1) := by decide +kernel
theorem dX5_isInPeak_19 : decode cX5_isInPeak 19 = .ok (.if_icmp .ge 26, 3) := by decide +kernel
theorem dX5_isInPeak_22 : decode cX5_isInPeak 22 = .ok (.iload_n 2, 1) := by decide +kernel
theorem dX5_isInPeak_23 : decode cX5_isInPeak 23 = .ok (.sipush 1440, 3) := by decide +kernel
theorem dX5_isInPeak_26 : decode cX5_isInPeak 26 = .ok (.irem, 1) := by decide +kernel
theorem dX5_isInPeak_27 : decode cX5_isInPeak 27 = .ok (.aload_n 0, 1) := by decide +kernel
theorem dX5_isInPeak_28 : decode cX5_isInPeak 28 = .ok (.getfield 25, 3) := by decide +kernel
theorem dX5_isInPeak_31 : decode cX5_isInPeak 31 = .ok (.aload_n 0, 1) := by decide +kernel
theorem dX5_isInPeak_32 : decode cX5_isInPeak 32 = .ok (.getfield 29, 3) := by decide +kernel
theorem dX5_isInPeak_35 : decode cX5_isInPeak 35 = .ok (.invokestatic 59, 3) := by decide +kernel
theorem dX5_isInPeak_38 : decode cX5_isInPeak 38 = .ok (.ifCond .eq 7, 3) := by decide +kernel
theorem dX5_isInPeak_41 : decode cX5_isInPeak 41 = .ok (.iconst 1, 1) := by decide +kernel
theorem dX5_isInPeak_42 : decode cX5_isInPeak 42 = .ok (.goto 4, 3) := by decide +kernel
theorem dX5_isInPeak_45 : decode cX5_isInPeak 45 = .ok (.iconst 0, 1) := by decide +kernel
theorem dX5_isInPeak_46 : decode cX5_isInPeak 46 = .ok (.ireturn, 1) := by decide +kernel
theorem dX5_isPeak_0 : decode cX5_isPeak 0 = .ok (.aload_n 0, 1) := by decide +kernel
theorem dX5_isPeak_1 : decode cX5_isPeak 1 = .ok (.aload_n 0, 1) := by decide +kernel
theorem dX5_isPeak_2 : decode cX5_isPeak 2 = .ok (.iload_n 1, 1) := by decide +kernel
theorem dX5_isPeak_3 : decode cX5_isPeak 3 = .ok (.invokevirtual 95, 3) := by decide +kernel
theorem dX5_isPeak_6 : decode cX5_isPeak 6 = .ok (.ifCond .eq 7, 3) := by decide +kernel
theorem dX5_isPeak_9 : decode cX5_isPeak 9 = .ok (.iconst 0, 1) := by decide +kernel
theorem dX5_isPeak_10 : decode cX5_isPeak 10 = .ok (.goto 4, 3) := by decide +kernel
theorem dX5_isPeak_13 : decode cX5_isPeak 13 = .ok (.iconst 1, 1) := by decide +kernel
theorem dX5_isPeak_14 : decode cX5_isPeak 14 = .ok (.putfield 53, 3) := by decide +kernel
theorem dX5_isPeak_17 : decode cX5_isPeak 17 = .ok (.aload_n 0, 1) := by decide +kernel
theorem dX5_isPeak_18 : decode cX5_isPeak 18 = .ok (.getfield 53, 3) := by decide +kernel
theorem dX5_isPeak_21 : decode cX5_isPeak 21 = .ok (.ifCond .ne 15, 3) := by decide +kernel
theorem dX5_isPeak_24 : decode cX5_isPeak 24 = .ok (.aload_n 0, 1) := by decide +kernel
theorem dX5_isPeak_25 : decode cX5_isPeak 25 = .ok (.iload_n 1, 1) := by decide +kernel
theorem dX5_isPeak_26 : decode cX5_isPeak 26 = .ok (.invokevirtual 101, 3) := by decide +kernel
theorem dX5_isPeak_29 : decode cX5_isPeak 29 = .ok (.ifCond .eq 7, 3) := by decide +kernel
theorem dX5_isPeak_32 : decode cX5_isPeak 32 = .ok (.iconst 1, 1) := by decide +kernel
theorem dX5_isPeak_33 : decode cX5_isPeak 33 = .ok (.goto 4, 3) := by decide +kernel
theorem dX5_isPeak_36 : decode cX5_isPeak 36 = .ok (.iconst 0, 1) := by decide +kernel
theorem dX5_isPeak_37 : decode cX5_isPeak 37 = .ok (.ireturn, 1) := by decide +kernel
theorem dX5_earlier_0 : decode cX5_earlier 0 = .ok (.aload_n 0, 1) := by decide +kernel
theorem dX5_earlier_1 : decode cX5_earlier 1 = .ok (.getfield 32, 3) := by decide +kernel
theorem dX5_earlier_4 : decode cX5_earlier 4 = .ok (.iload_n 1, 1) := by decide +kernel
theorem dX5_earlier_5 : decode cX5_earlier 5 = .ok (.iaload, 1) := by decide +kernel
theorem dX5_earlier_6 : decode cX5_earlier 6 = .ok (.istore_n 2, 1) := by decide +kernel
theorem dX5_earlier_7 : decode cX5_earlier 7 = .ok (.iconst (-1), 1) := by decide +kernel
theorem dX5_earlier_8 : decode cX5_earlier 8 = .ok (.istore_n 3, 1) := by decide +kernel
theorem dX5_earlier_9 : decode cX5_earlier 9 = .ok (.iconst 0, 1) := by decide +kernel
theorem dX5_earlier_10 : decode cX5_earlier 10 = .ok (.istore 4, 2) := by decide +kernel
theorem dX5_earlier_12 : decode cX5_earlier 12 = .ok (.iload 4, 2) := by decide +kernel
theorem dX5_earlier_14 : decode cX5_earlier 14 = .ok (.iload_n 1, 1) := by decide +kernel
theorem dX5_earlier_15 : decode cX5_earlier 15 = .ok (.if_icmp .ge 135, 3) := by decide +kernel
theorem dX5_earlier_18 : decode cX5_earlier 18 = .ok (.aload_n 0, 1) := by decide +kernel
theorem dX5_earlier_19 : decode cX5_earlier 19 = .ok (.getfield 32, 3) := by decide +kernel
theorem dX5_earlier_22 : decode cX5_earlier 22 = .ok (.iload 4, 2) := by decide +kernel
theorem dX5_earlier_24 : decode cX5_earlier 24 = .ok (.iaload, 1) := by decide +kernel
theorem dX5_earlier_25 : decode cX5_earlier 25 = .ok (.istore 5, 2) := by decide +kernel
theorem dX5_earlier_27 : decode cX5_earlier 27 = .ok (.aload_n 0, 1) := by decide +kernel
theorem dX5_earlier_28 : decode cX5_earlier 28 = .ok (.getfield 22, 3) := by decide +kernel
theorem dX5_earlier_31 : decode cX5_earlier 31 = .ok (.iconst 4, 1) := by decide +kernel
theorem dX5_earlier_32 : decode cX5_earlier 32 = .ok (.iload 5, 2) := by decide +kernel
theorem dX5_earlier_34 : decode cX5_earlier 34 = .ok (.imul, 1) := by decide +kernel
theorem dX5_earlier_35 : decode cX5_earlier 35 = .ok (.iaload, 1) := by decide +kernel
theorem dX5_earlier_36 : decode cX5_earlier 36 = .ok (.aload_n 0, 1) := by decide +kernel
theorem dX5_earlier_37 : decode cX5_earlier 37 = .ok (.getfield 22, 3) := by decide +kernel
theorem dX5_earlier_40 : decode cX5_earlier 40 = .ok (.iconst 4, 1) := by decide +kernel
theorem dX5_earlier_41 : decode cX5_earlier 41 = .ok (.iload_n 2, 1) := by decide +kernel
theorem dX5_earlier_42 : decode cX5_earlier 42 = .ok (.imul, 1) := by decide +kernel
theorem dX5_earlier_43 : decode cX5_earlier 43 = .ok (.iaload, 1) := by decide +kernel
theorem dX5_earlier_44 : decode cX5_earlier 44 = .ok (.if_icmp .ne 61, 3) := by decide +kernel
theorem dX5_earlier_47 : decode cX5_earlier 47 = .ok (.aload_n 0, 1) := by decide +kernel
theorem dX5_earlier_48 : decode cX5_earlier 48 = .ok (.getfield 22, 3) := by decide +kernel
theorem dX5_earlier_51 : decode cX5_earlier 51 = .ok (.iconst 4, 1) := by decide +kernel
theorem dX5_earlier_52 : decode cX5_earlier 52 = .ok (.iload 5, 2) := by decide +kernel
theorem dX5_earlier_54 : decode cX5_earlier 54 = .ok (.imul, 1) := by decide +kernel
theorem dX5_earlier_55 : decode cX5_earlier 55 = .ok (.iconst 3, 1) := by decide +kernel
theorem dX5_earlier_56 : decode cX5_earlier 56 = .ok (.iadd, 1) := by decide +kernel
theorem dX5_earlier_57 : decode cX5_earlier 57 = .ok (.iaload, 1) := by decide +kernel
theorem dX5_earlier_58 : decode cX5_earlier 58 = .ok (.aload_n 0, 1) := by decide +kernel
theorem dX5_earlier_59 : decode cX5_earlier 59 = .ok (.getfield 22, 3) := by decide +kernel
theorem dX5_earlier_62 : decode cX5_earlier 62 = .ok (.iconst 4, 1) := by decide +kernel
theorem dX5_earlier_63 : decode cX5_earlier 63 = .ok (.iload_n 2, 1) := by decide +kernel
theorem dX5_earlier_64 : decode cX5_earlier 64 = .ok (.imul, 1) := by decide +kernel
theorem dX5_earlier_65 : decode cX5_earlier 65 = .ok (.iconst 3, 1) := by decide +kernel
theorem dX5_earlier_66 : decode cX5_earlier 66 = .ok (.iadd, 1) := by decide +kernel
theorem dX5_earlier_67 : decode cX5_earlier 67 = .ok (.iaload, 1) := by decide +kernel
theorem dX5_earlier_68 : decode cX5_earlier 68 = .ok (.if_icmp .ne 37, 3) := by decide +kernel
theorem dX5_earlier_71 : decode cX5_earlier 71 = .ok (.aload_n 0, 1) := by decide +kernel
theorem dX5_earlier_72 : decode cX5_earlier 72 = .ok (.getfield 22, 3) := by decide +kernel
theorem dX5_earlier_75 : decode cX5_earlier 75 = .ok (.iconst 4, 1) := by decide +kernel
theorem dX5_earlier_76 : decode cX5_earlier 76 = .ok (.iload 5, 2) := by decide +kernel
theorem dX5_earlier_78 : decode cX5_earlier 78 = .ok (.imul, 1) := by decide +kernel
theorem dX5_earlier_79 : decode cX5_earlier 79 = .ok (.iconst 1, 1) := by decide +kernel
theorem dX5_earlier_80 : decode cX5_earlier 80 = .ok (.iadd, 1) := by decide +kernel
theorem dX5_earlier_81 : decode cX5_earlier 81 = .ok (.iaload, 1) := by decide +kernel
theorem dX5_earlier_82 : decode cX5_earlier 82 = .ok (.invokestatic 98, 3) := by decide +kernel
theorem dX5_earlier_85 : decode cX5_earlier 85 = .ok (.aload_n 0, 1) := by decide +kernel
theorem dX5_earlier_86 : decode cX5_earlier 86 = .ok (.getfield 22, 3) := by decide +kernel
theorem dX5_earlier_89 : decode cX5_earlier 89 = .ok (.iconst 4, 1) := by decide +kernel
theorem dX5_earlier_90 : decode cX5_earlier 90 = .ok (.iload_n 2, 1) := by decide +kernel
theorem dX5_earlier_91 : decode cX5_earlier 91 = .ok (.imul, 1) := by decide +kernel
theorem dX5_earlier_92 : decode cX5_earlier 92 = .ok (.iconst 1, 1) := by decide +kernel
theorem dX5_earlier_93 : decode cX5_earlier 93 = .ok (.iadd, 1) := by decide +kernel
theorem dX5_earlier_94 : decode cX5_earlier 94 = .ok (.iaload, 1) := by decide +kernel
theorem dX5_earlier_95 : decode cX5_earlier 95 = .ok (.invokestatic 98, 3) := by decide +kernel
theorem dX5_earlier_98 : decode cX5_earlier 98 = .ok (.if_icmp .ne 7, 3) := by decide +kernel
theorem dX5_earlier_101 : decode cX5_earlier 101 = .ok (.iconst 1, 1) := by decide +kernel
theorem dX5_earlier_102 : decode cX5_earlier 102 = .ok (.goto 4, 3) := by decide +kernel
theorem dX5_earlier_105 : decode cX5_earlier 105 = .ok (.iconst 0, 1) := by decide +kernel
theorem dX5_earlier_106 : decode cX5_earlier 106 = .ok (.istore 6, 2) := by decide +kernel
theorem dX5_earlier_108 : decode cX5_earlier 108 = .ok (.iload 6, 2) := by decide +kernel
theorem dX5_earlier_110 : decode cX5_earlier 110 = .ok (.ifCond .eq 34, 3) := by decide +kernel
theorem dX5_earlier_113 : decode cX5_earlier 113 = .ok (.aload_n 0, 1) := by decide +kernel
theorem dX5_earlier_114 : decode cX5_earlier 114 = .ok (.getfield 22, 3) := by decide +kernel
theorem dX5_earlier_117 : decode cX5_earlier 117 = .ok (.iconst 4, 1) := by decide +kernel
theorem dX5_earlier_118 : decode cX5_earlier 118 = .ok (.iload 5, 2) := by decide +kernel
theorem dX5_earlier_120 : decode cX5_earlier 120 = .ok (.imul, 1) := by decide +kernel
theorem dX5_earlier_121 : decode cX5_earlier 121 = .ok (.iconst 2, 1) := by decide +kernel
theorem dX5_earlier_122 : decode cX5_earlier 122 = .ok (.iadd, 1) := by decide +kernel
theorem dX5_earlier_123 : decode cX5_earlier 123 = .ok (.iaload, 1) := by decide +kernel
theorem dX5_earlier_124 : decode cX5_earlier 124 = .ok (.ifCond .ne 6, 3) := by decide +kernel
theorem dX5_earlier_127 : decode cX5_earlier 127 = .ok (.goto 17, 3) := by decide +kernel
theorem dX5_earlier_130 : decode cX5_earlier 130 = .ok (.iload_n 3, 1) := by decide +kernel
theorem dX5_earlier_131 : decode cX5_earlier 131 = .ok (.iconst 0, 1) := by decide +kernel
theorem dX5_earlier_132 : decode cX5_earlier 132 = .ok (.invokestatic 104, 3) := by decide +kernel
theorem dX5_earlier_135 : decode cX5_earlier 135 = .ok (.aload_n 0, 1) := by decide +kernel
theorem dX5_earlier_136 : decode cX5_earlier 136 = .ok (.getfield 35, 3) := by decide +kernel
theorem dX5_earlier_139 : decode cX5_earlier 139 = .ok (.iload 5, 2) := by decide +kernel
theorem dX5_earlier_141 : decode cX5_earlier 141 = .ok (.iaload, 1) := by decide +kernel
theorem dX5_earlier_142 : decode cX5_earlier 142 = .ok (.iadd, 1) := by decide +kernel
theorem dX5_earlier_143 : decode cX5_earlier 143 = .ok (.istore_n 3, 1) := by decide +kernel
theorem dX5_earlier_144 : decode cX5_earlier 144 = .ok (.iinc 4 1, 3) := by decide +kernel
theorem dX5_earlier_147 : decode cX5_earlier 147 = .ok (.goto (-135), 3) := by decide +kernel
theorem dX5_earlier_150 : decode cX5_earlier 150 = .ok (.iload_n 3, 1) := by decide +kernel
theorem dX5_earlier_151 : decode cX5_earlier 151 = .ok (.ireturn, 1) := by decide +kernel
theorem dX5_rate_0 : decode cX5_rate 0 = .ok (.aload_n 0, 1) := by decide +kernel
theorem dX5_rate_1 : decode cX5_rate 1 = .ok (.getfield 32, 3) := by decide +kernel
theorem dX5_rate_4 : decode cX5_rate 4 = .ok (.iload_n 1, 1) := by decide +kernel
theorem dX5_rate_5 : decode cX5_rate 5 = .ok (.iaload, 1) := by decide +kernel
theorem dX5_rate_6 : decode cX5_rate 6 = .ok (.istore_n 2, 1) := by decide +kernel
theorem dX5_rate_7 : decode cX5_rate 7 = .ok (.aload_n 0, 1) := by decide +kernel
theorem dX5_rate_8 : decode cX5_rate 8 = .ok (.getfield 22, 3) := by decide +kernel
theorem dX5_rate_11 : decode cX5_rate 11 = .ok (.iconst 4, 1) := by decide +kernel
theorem dX5_rate_12 : decode cX5_rate 12 = .ok (.iload_n 2, 1) := by decide +kernel
theorem dX5_rate_13 : decode cX5_rate 13 = .ok (.imul, 1) := by decide +kernel
theorem dX5_rate_14 : decode cX5_rate 14 = .ok (.iconst 2, 1) := by decide +kernel
theorem dX5_rate_15 : decode cX5_rate 15 = .ok (.iadd, 1) := by decide +kernel
theorem dX5_rate_16 : decode cX5_rate 16 = .ok (.iaload, 1) := by decide +kernel
theorem dX5_rate_17 : decode cX5_rate 17 = .ok (.istore_n 3, 1) := by decide +kernel
theorem dX5_rate_18 : decode cX5_rate 18 = .ok (.aload_n 0, 1) := by decide +kernel
theorem dX5_rate_19 : decode cX5_rate 19 = .ok (.getfield 35, 3) := by decide +kernel
theorem dX5_rate_22 : decode cX5_rate 22 = .ok (.iload_n 2, 1) := by decide +kernel
theorem dX5_rate_23 : decode cX5_rate 23 = .ok (.iconst 0, 1) := by decide +kernel
theorem dX5_rate_24 : decode cX5_rate 24 = .ok (.iastore, 1) := by decide +kernel
theorem dX5_rate_25 : decode cX5_rate 25 = .ok (.aload_n 0, 1) := by decide +kernel
theorem dX5_rate_26 : decode cX5_rate 26 = .ok (.getfield 38, 3) := by decide +kernel
theorem dX5_rate_29 : decode cX5_rate 29 = .ok (.iload_n 2, 1) := by decide +kernel
theorem dX5_rate_30 : decode cX5_rate 30 = .ok (.iconst 0, 1) := by decide +kernel
theorem dX5_rate_31 : decode cX5_rate 31 = .ok (.iastore, 1) := by decide +kernel
theorem dX5_rate_32 : decode cX5_rate 32 = .ok (.aload_n 0, 1) := by decide +kernel
theorem dX5_rate_33 : decode cX5_rate 33 = .ok (.getfield 41, 3) := by decide +kernel
theorem dX5_rate_36 : decode cX5_rate 36 = .ok (.iload_n 2, 1) := by decide +kernel
theorem dX5_rate_37 : decode cX5_rate 37 = .ok (.iconst 0, 1) := by decide +kernel
theorem dX5_rate_38 : decode cX5_rate 38 = .ok (.iastore, 1) := by decide +kernel
theorem dX5_rate_39 : decode cX5_rate 39 = .ok (.aload_n 0, 1) := by decide +kernel
theorem dX5_rate_40 : decode cX5_rate 40 = .ok (.getfield 44, 3) := by decide +kernel
theorem dX5_rate_43 : decode cX5_rate 43 = .ok (.iload_n 2, 1) := by decide +kernel
theorem dX5_rate_44 : decode cX5_rate 44 = .ok (.iconst 0, 1) := by decide +kernel
theorem dX5_rate_45 : decode cX5_rate 45 = .ok (.iastore, 1) := by decide +kernel
theorem dX5_rate_46 : decode cX5_rate 46 = .ok (.iload_n 3, 1) := by decide +kernel
theorem dX5_rate_47 : decode cX5_rate 47 = .ok (.ifCond .ne 4, 3) := by decide +kernel
theorem dX5_rate_50 : decode cX5_rate 50 = .ok (.return_, 1) := by decide +kernel
theorem dX5_rate_51 : decode cX5_rate 51 = .ok (.bipush 9, 2) := by decide +kernel
theorem dX5_rate_53 : decode cX5_rate 53 = .ok (.aload_n 0, 1) := by decide +kernel
theorem dX5_rate_54 : decode cX5_rate 54 = .ok (.getfield 19, 3) := by decide +kernel
theorem dX5_rate_57 : decode cX5_rate 57 = .ok (.aload_n 0, 1) := by decide +kernel
theorem dX5_rate_58 : decode cX5_rate 58 = .ok (.getfield 22, 3) := by decide +kernel
theorem dX5_rate_61 : decode cX5_rate 61 = .ok (.iconst 4, 1) := by decide +kernel
theorem dX5_rate_62 : decode cX5_rate 62 = .ok (.iload_n 2, 1) := by decide +kernel
theorem dX5_rate_63 : decode cX5_rate 63 = .ok (.imul, 1) := by decide +kernel
theorem dX5_rate_64 : decode cX5_rate 64 = .ok (.iaload, 1) := by decide +kernel
theorem dX5_rate_65 : decode cX5_rate 65 = .ok (.iaload, 1) := by decide +kernel
theorem dX5_rate_66 : decode cX5_rate 66 = .ok (.imul, 1) := by decide +kernel
theorem dX5_rate_67 : decode cX5_rate 67 = .ok (.istore 4, 2) := by decide +kernel
theorem dX5_rate_69 : decode cX5_rate 69 = .ok (.aload_n 0, 1) := by decide +kernel
theorem dX5_rate_70 : decode cX5_rate 70 = .ok (.getfield 16, 3) := by decide +kernel
theorem dX5_rate_73 : decode cX5_rate 73 = .ok (.aload_n 0, 1) := by decide +kernel
theorem dX5_rate_74 : decode cX5_rate 74 = .ok (.getfield 22, 3) := by decide +kernel
theorem dX5_rate_77 : decode cX5_rate 77 = .ok (.iconst 4, 1) := by decide +kernel
theorem dX5_rate_78 : decode cX5_rate 78 = .ok (.iload_n 2, 1) := by decide +kernel
theorem dX5_rate_79 : decode cX5_rate 79 = .ok (.imul, 1) := by decide +kernel
theorem dX5_rate_80 : decode cX5_rate 80 = .ok (.iaload, 1) := by decide +kernel
theorem dX5_rate_81 : decode cX5_rate 81 = .ok (.iaload, 1) := by decide +kernel
theorem dX5_rate_82 : decode cX5_rate 82 = .ok (.istore 5, 2) := by decide +kernel
theorem dX5_rate_84 : decode cX5_rate 84 = .ok (.aload_n 0, 1) := by decide +kernel
theorem dX5_rate_85 : decode cX5_rate 85 = .ok (.getfield 22, 3) := by decide +kernel
theorem dX5_rate_88 : decode cX5_rate 88 = .ok (.iconst 4, 1) := by decide +kernel
theorem dX5_rate_89 : decode cX5_rate 89 = .ok (.iload_n 2, 1) := by decide +kernel
theorem dX5_rate_90 : decode cX5_rate 90 = .ok (.imul, 1) := by decide +kernel
theorem dX5_rate_91 : decode cX5_rate 91 = .ok (.iconst 3, 1) := by decide +kernel
theorem dX5_rate_92 : decode cX5_rate 92 = .ok (.iadd, 1) := by decide +kernel
theorem dX5_rate_93 : decode cX5_rate 93 = .ok (.iaload, 1) := by decide +kernel
theorem dX5_rate_94 : decode cX5_rate 94 = .ok (.istore 6, 2) := by decide +kernel
theorem dX5_rate_96 : decode cX5_rate 96 = .ok (.aload_n 0, 1) := by decide +kernel
theorem dX5_rate_97 : decode cX5_rate 97 = .ok (.getfield 9, 3) := by decide +kernel
theorem dX5_rate_100 : decode cX5_rate 100 = .ok (.iload 4, 2) := by decide +kernel
theorem dX5_rate_102 : decode cX5_rate 102 = .ok (.iconst 3, 1) := by decide +kernel
theorem dX5_rate_103 : decode cX5_rate 103 = .ok (.iadd, 1) := by decide +kernel
theorem dX5_rate_104 : decode cX5_rate 104 = .ok (.iaload, 1) := by decide +kernel
theorem dX5_rate_105 : decode cX5_rate 105 = .ok (.istore 7, 2) := by decide +kernel
theorem dX5_rate_107 : decode cX5_rate 107 = .ok (.aload_n 0, 1) := by decide +kernel
theorem dX5_rate_108 : decode cX5_rate 108 = .ok (.getfield 9, 3) := by decide +kernel
theorem dX5_rate_111 : decode cX5_rate 111 = .ok (.iload 4, 2) := by decide +kernel
theorem dX5_rate_113 : decode cX5_rate 113 = .ok (.iconst 4, 1) := by decide +kernel
theorem dX5_rate_114 : decode cX5_rate 114 = .ok (.iadd, 1) := by decide +kernel
theorem dX5_rate_115 : decode cX5_rate 115 = .ok (.iaload, 1) := by decide +kernel
theorem dX5_rate_116 : decode cX5_rate 116 = .ok (.istore 8, 2) := by decide +kernel
theorem dX5_rate_118 : decode cX5_rate 118 = .ok (.aload_n 0, 1) := by decide +kernel
theorem dX5_rate_119 : decode cX5_rate 119 = .ok (.getfield 35, 3) := by decide +kernel
theorem dX5_rate_122 : decode cX5_rate 122 = .ok (.iload_n 2, 1) := by decide +kernel
theorem dX5_rate_123 : decode cX5_rate 123 = .ok (.iload_n 3, 1) := by decide +kernel
theorem dX5_rate_124 : decode cX5_rate 124 = .ok (.iload 7, 2) := by decide +kernel
theorem dX5_rate_126 : decode cX5_rate 126 = .ok (.if_icmp .gt 8, 3) := by decide +kernel
theorem dX5_rate_129 : decode cX5_rate 129 = .ok (.iload 7, 2) := by decide +kernel
theorem dX5_rate_131 : decode cX5_rate 131 = .ok (.goto 21, 3) := by decide +kernel
theorem dX5_rate_134 : decode cX5_rate 134 = .ok (.iload 7, 2) := by decide +kernel
theorem dX5_rate_136 : decode cX5_rate 136 = .ok (.iload_n 3, 1) := by decide +kernel
theorem dX5_rate_137 : decode cX5_rate 137 = .ok (.iload 7, 2) := by decide +kernel
theorem dX5_rate_139 : decode cX5_rate 139 = .ok (.isub, 1) := by decide +kernel
theorem dX5_rate_140 : decode cX5_rate 140 = .ok (.iload 8, 2) := by decide +kernel
theorem dX5_rate_142 : decode cX5_rate 142 = .ok (.iadd, 1) := by decide +kernel
theorem dX5_rate_143 : decode cX5_rate 143 = .ok (.iconst 1, 1) := by decide +kernel
theorem dX5_rate_144 : decode cX5_rate 144 = .ok (.isub, 1) := by decide +kernel
theorem dX5_rate_145 : decode cX5_rate 145 = .ok (.iload 8, 2) := by decide +kernel
theorem dX5_rate_147 : decode cX5_rate 147 = .ok (.idiv, 1) := by decide +kernel
theorem dX5_rate_148 : decode cX5_rate 148 = .ok (.iload 8, 2) := by decide +kernel
theorem dX5_rate_150 : decode cX5_rate 150 = .ok (.imul, 1) := by decide +kernel
theorem dX5_rate_151 : decode cX5_rate 151 = .ok (.iadd, 1) := by decide +kernel
theorem dX5_rate_152 : decode cX5_rate 152 = .ok (.iastore, 1) := by decide +kernel
theorem dX5_rate_153 : decode cX5_rate 153 = .ok (.aload_n 0, 1) := by decide +kernel
theorem dX5_rate_154 : decode cX5_rate 154 = .ok (.iload_n 2, 1) := by decide +kernel
theorem dX5_rate_155 : decode cX5_rate 155 = .ok (.invokevirtual 101, 3) := by decide +kernel
theorem dX5_rate_158 : decode cX5_rate 158 = .ok (.ifCond .eq 15, 3) := by decide +kernel
theorem dX5_rate_161 : decode cX5_rate 161 = .ok (.aload_n 0, 1) := by decide +kernel
theorem dX5_rate_162 : decode cX5_rate 162 = .ok (.getfield 9, 3) := by decide +kernel
theorem dX5_rate_165 : decode cX5_rate 165 = .ok (.iload 4, 2) := by decide +kernel
theorem dX5_rate_167 : decode cX5_rate 167 = .ok (.iconst 1, 1) := by decide +kernel
theorem dX5_rate_168 : decode cX5_rate 168 = .ok (.iadd, 1) := by decide +kernel
theorem dX5_rate_169 : decode cX5_rate 169 = .ok (.iaload, 1) := by decide +kernel
theorem dX5_rate_170 : decode cX5_rate 170 = .ok (.goto 12, 3) := by decide +kernel
theorem dX5_rate_173 : decode cX5_rate 173 = .ok (.aload_n 0, 1) := by decide +kernel
theorem dX5_rate_174 : decode cX5_rate 174 = .ok (.getfield 9, 3) := by decide +kernel
theorem dX5_rate_177 : decode cX5_rate 177 = .ok (.iload 4, 2) := by decide +kernel
theorem dX5_rate_179 : decode cX5_rate 179 = .ok (.iconst 2, 1) := by decide +kernel
theorem dX5_rate_180 : decode cX5_rate 180 = .ok (.iadd, 1) := by decide +kernel
theorem dX5_rate_181 : decode cX5_rate 181 = .ok (.iaload, 1) := by decide +kernel
theorem dX5_rate_182 : decode cX5_rate 182 = .ok (.istore 9, 2) := by decide +kernel
theorem dX5_rate_184 : decode cX5_rate 184 = .ok (.iload 6, 2) := by decide +kernel
theorem dX5_rate_186 : decode cX5_rate 186 = .ok (.ifCond .ne 71, 3) := by decide +kernel
theorem dX5_rate_189 : decode cX5_rate 189 = .ok (.aload_n 0, 1) := by decide +kernel
theorem dX5_rate_190 : decode cX5_rate 190 = .ok (.getfield 38, 3) := by decide +kernel
theorem dX5_rate_193 : decode cX5_rate 193 = .ok (.iload_n 2, 1) := by decide +kernel
theorem dX5_rate_194 : decode cX5_rate 194 = .ok (.aload_n 0, 1) := by decide +kernel
theorem dX5_rate_195 : decode cX5_rate 195 = .ok (.getfield 47, 3) := by decide +kernel
theorem dX5_rate_198 : decode cX5_rate 198 = .ok (.iload 5, 2) := by decide +kernel
theorem dX5_rate_200 : decode cX5_rate 200 = .ok (.iaload, 1) := by decide +kernel
theorem dX5_rate_201 : decode cX5_rate 201 = .ok (.aload_n 0, 1) := by decide +kernel
theorem dX5_rate_202 : decode cX5_rate 202 = .ok (.getfield 35, 3) := by decide +kernel
theorem dX5_rate_205 : decode cX5_rate 205 = .ok (.iload_n 2, 1) := by decide +kernel
theorem dX5_rate_206 : decode cX5_rate 206 = .ok (.iaload, 1) := by decide +kernel
theorem dX5_rate_207 : decode cX5_rate 207 = .ok (.invokestatic 110, 3) := by decide +kernel
theorem dX5_rate_210 : decode cX5_rate 210 = .ok (.iastore, 1) := by decide +kernel
theorem dX5_rate_211 : decode cX5_rate 211 = .ok (.aload_n 0, 1) := by decide +kernel
theorem dX5_rate_212 : decode cX5_rate 212 = .ok (.getfield 47, 3) := by decide +kernel
theorem dX5_rate_215 : decode cX5_rate 215 = .ok (.iload 5, 2) := by decide +kernel
theorem dX5_rate_217 : decode cX5_rate 217 = .ok (.dup2, 1) := by decide +kernel
theorem dX5_rate_218 : decode cX5_rate 218 = .ok (.iaload, 1) := by decide +kernel
theorem dX5_rate_219 : decode cX5_rate 219 = .ok (.aload_n 0, 1) := by decide +kernel
theorem dX5_rate_220 : decode cX5_rate 220 = .ok (.getfield 38, 3) := by decide +kernel
theorem dX5_rate_223 : decode cX5_rate 223 = .ok (.iload_n 2, 1) := by decide +kernel
theorem dX5_rate_224 : decode cX5_rate 224 = .ok (.iaload, 1) := by decide +kernel
theorem dX5_rate_225 : decode cX5_rate 225 = .ok (.isub, 1) := by decide +kernel
theorem dX5_rate_226 : decode cX5_rate 226 = .ok (.iastore, 1) := by decide +kernel
theorem dX5_rate_227 : decode cX5_rate 227 = .ok (.aload_n 0, 1) := by decide +kernel
theorem dX5_rate_228 : decode cX5_rate 228 = .ok (.getfield 38, 3) := by decide +kernel
theorem dX5_rate_231 : decode cX5_rate 231 = .ok (.iload_n 2, 1) := by decide +kernel
theorem dX5_rate_232 : decode cX5_rate 232 = .ok (.iaload, 1) := by decide +kernel
theorem dX5_rate_233 : decode cX5_rate 233 = .ok (.ifCond .le 111, 3) := by decide +kernel
theorem dX5_rate_236 : decode cX5_rate 236 = .ok (.aload_n 0, 1) := by decide +kernel
theorem dX5_rate_237 : decode cX5_rate 237 = .ok (.getfield 47, 3) := by decide +kernel
theorem dX5_rate_240 : decode cX5_rate 240 = .ok (.iload 5, 2) := by decide +kernel
theorem dX5_rate_242 : decode cX5_rate 242 = .ok (.iaload, 1) := by decide +kernel
theorem dX5_rate_243 : decode cX5_rate 243 = .ok (.ifCond .ne 101, 3) := by decide +kernel
theorem dX5_rate_246 : decode cX5_rate 246 = .ok (.aload_n 0, 1) := by decide +kernel
theorem dX5_rate_247 : decode cX5_rate 247 = .ok (.getfield 50, 3) := by decide +kernel
theorem dX5_rate_250 : decode cX5_rate 250 = .ok (.iload 5, 2) := by decide +kernel
theorem dX5_rate_252 : decode cX5_rate 252 = .ok (.iload_n 2, 1) := by decide +kernel
theorem dX5_rate_253 : decode cX5_rate 253 = .ok (.iastore, 1) := by decide +kernel
theorem dX5_rate_254 : decode cX5_rate 254 = .ok (.goto 90, 3) := by decide +kernel
theorem dX5_rate_257 : decode cX5_rate 257 = .ok (.aload_n 0, 1) := by decide +kernel
theorem dX5_rate_258 : decode cX5_rate 258 = .ok (.getfield 9, 3) := by decide +kernel
theorem dX5_rate_261 : decode cX5_rate 261 = .ok (.iload 4, 2) := by decide +kernel
theorem dX5_rate_263 : decode cX5_rate 263 = .ok (.iconst 3, 1) := by decide +kernel
theorem dX5_rate_264 : decode cX5_rate 264 = .ok (.iadd, 1) := by decide +kernel
theorem dX5_rate_265 : decode cX5_rate 265 = .ok (.iconst 2, 1) := by decide +kernel
theorem dX5_rate_266 : decode cX5_rate 266 = .ok (.iload 6, 2) := by decide +kernel
theorem dX5_rate_268 : decode cX5_rate 268 = .ok (.imul, 1) := by decide +kernel
theorem dX5_rate_269 : decode cX5_rate 269 = .ok (.iadd, 1) := by decide +kernel
theorem dX5_rate_270 : decode cX5_rate 270 = .ok (.iaload, 1) := by decide +kernel
theorem dX5_rate_271 : decode cX5_rate 271 = .ok (.istore 9, 2) := by decide +kernel
theorem dX5_rate_273 : decode cX5_rate 273 = .ok (.aload_n 0, 1) := by decide +kernel
theorem dX5_rate_274 : decode cX5_rate 274 = .ok (.getfield 9, 3) := by decide +kernel
theorem dX5_rate_277 : decode cX5_rate 277 = .ok (.iload 4, 2) := by decide +kernel
theorem dX5_rate_279 : decode cX5_rate 279 = .ok (.iconst 4, 1) := by decide +kernel
theorem dX5_rate_280 : decode cX5_rate 280 = .ok (.iadd, 1) := by decide +kernel
theorem dX5_rate_281 : decode cX5_rate 281 = .ok (.iconst 2, 1) := by decide +kernel
theorem dX5_rate_282 : decode cX5_rate 282 = .ok (.iload 6, 2) := by decide +kernel
theorem dX5_rate_284 : decode cX5_rate 284 = .ok (.imul, 1) := by decide +kernel
theorem dX5_rate_285 : decode cX5_rate 285 = .ok (.iadd, 1) := by decide +kernel
theorem dX5_rate_286 : decode cX5_rate 286 = .ok (.iaload, 1) := by decide +kernel
theorem dX5_rate_287 : decode cX5_rate 287 = .ok (.istore 10, 2) := by decide +kernel
theorem dX5_rate_289 : decode cX5_rate 289 = .ok (.aload_n 0, 1) := by decide +kernel
theorem dX5_rate_290 : decode cX5_rate 290 = .ok (.iload_n 1, 1) := by decide +kernel
theorem dX5_rate_291 : decode cX5_rate 291 = .ok (.invokevirtual 113, 3) := by decide +kernel
theorem dX5_rate_294 : decode cX5_rate 294 = .ok (.istore 11, 2) := by decide +kernel
theorem dX5_rate_296 : decode cX5_rate 296 = .ok (.iload 10, 2) := by decide +kernel
theorem dX5_rate_298 : decode cX5_rate 298 = .ok (.ifCond .le 32, 3) := by decide +kernel
theorem dX5_rate_301 : decode cX5_rate 301 = .ok (.aload_n 0, 1) := by decide +kernel
theorem dX5_rate_302 : decode cX5_rate 302 = .ok (.getfield 38, 3) := by decide +kernel
theorem dX5_rate_305 : decode cX5_rate 305 = .ok (.iload_n 2, 1) := by decide +kernel
theorem dX5_rate_306 : decode cX5_rate 306 = .ok (.aload_n 0, 1) := by decide +kernel
theorem dX5_rate_307 : decode cX5_rate 307 = .ok (.getfield 35, 3) := by decide +kernel
theorem dX5_rate_310 : decode cX5_rate 310 = .ok (.iload_n 2, 1) := by decide +kernel
theorem dX5_rate_311 : decode cX5_rate 311 = .ok (.iaload, 1) := by decide +kernel
theorem dX5_rate_312 : decode cX5_rate 312 = .ok (.iconst 0, 1) := by decide +kernel
theorem dX5_rate_313 : decode cX5_rate 313 = .ok (.sipush 1800, 3) := by decide +kernel
theorem dX5_rate_316 : decode cX5_rate 316 = .ok (.iload 11, 2) := by decide +kernel
theorem dX5_rate_318 : decode cX5_rate 318 = .ok (.iconst 0, 1) := by decide +kernel
theorem dX5_rate_319 : decode cX5_rate 319 = .ok (.invokestatic 104, 3) := by decide +kernel
theorem dX5_rate_322 : decode cX5_rate 322 = .ok (.isub, 1) := by decide +kernel
theorem dX5_rate_323 : decode cX5_rate 323 = .ok (.invokestatic 104, 3) := by decide +kernel
theorem dX5_rate_326 : decode cX5_rate 326 = .ok (.invokestatic 110, 3) := by decide +kernel
theorem dX5_rate_329 : decode cX5_rate 329 = .ok (.iastore, 1) := by decide +kernel
theorem dX5_rate_330 : decode cX5_rate 330 = .ok (.iload 11, 2) := by decide +kernel
theorem dX5_rate_332 : decode cX5_rate 332 = .ok (.iconst (-1), 1) := by decide +kernel
theorem dX5_rate_333 : decode cX5_rate 333 = .ok (.if_icmp .ne 11, 3) := by decide +kernel
theorem dX5_rate_336 : decode cX5_rate 336 = .ok (.aload_n 0, 1) := by decide +kernel
theorem dX5_rate_337 : decode cX5_rate 337 = .ok (.getfield 44, 3) := by decide +kernel
theorem dX5_rate_340 : decode cX5_rate 340 = .ok (.iload_n 2, 1) := by decide +kernel
theorem dX5_rate_341 : decode cX5_rate 341 = .ok (.iload 10, 2) := by decide +kernel
theorem dX5_rate_343 : decode cX5_rate 343 = .ok (.iastore, 1) := by decide +kernel
theorem dX5_rate_344 : decode cX5_rate 344 = .ok (.aload_n 0, 1) := by decide +kernel
theorem dX5_rate_345 : decode cX5_rate 345 = .ok (.getfield 35, 3) := by decide +kernel
theorem dX5_rate_348 : decode cX5_rate 348 = .ok (.iload_n 2, 1) := by decide +kernel
theorem dX5_rate_349 : decode cX5_rate 349 = .ok (.iaload, 1) := by decide +kernel
theorem dX5_rate_350 : decode cX5_rate 350 = .ok (.aload_n 0, 1) := by decide +kernel
theorem dX5_rate_351 : decode cX5_rate 351 = .ok (.getfield 38, 3) := by decide +kernel
theorem dX5_rate_354 : decode cX5_rate 354 = .ok (.iload_n 2, 1) := by decide +kernel
theorem dX5_rate_355 : decode cX5_rate 355 = .ok (.iaload, 1) := by decide +kernel
theorem dX5_rate_356 : decode cX5_rate 356 = .ok (.isub, 1) := by decide +kernel
theorem dX5_rate_357 : decode cX5_rate 357 = .ok (.istore 10, 2) := by decide +kernel
theorem dX5_rate_359 : decode cX5_rate 359 = .ok (.aload_n 0, 1) := by decide +kernel
theorem dX5_rate_360 : decode cX5_rate 360 = .ok (.getfield 41, 3) := by decide +kernel
theorem dX5_rate_363 : decode cX5_rate 363 = .ok (.iload_n 2, 1) := by decide +kernel
theorem dX5_rate_364 : decode cX5_rate 364 = .ok (.aload_n 0, 1) := by decide +kernel
theorem dX5_rate_365 : decode cX5_rate 365 = .ok (.getfield 44, 3) := by decide +kernel
theorem dX5_rate_368 : decode cX5_rate 368 = .ok (.iload_n 2, 1) := by decide +kernel
theorem dX5_rate_369 : decode cX5_rate 369 = .ok (.iaload, 1) := by decide +kernel
theorem dX5_rate_370 : decode cX5_rate 370 = .ok (.iload 10, 2) := by decide +kernel
theorem dX5_rate_372 : decode cX5_rate 372 = .ok (.ifCond .ne 7, 3) := by decide +kernel
theorem dX5_rate_375 : decode cX5_rate 375 = .ok (.iconst 0, 1) := by decide +kernel
theorem dX5_rate_376 : decode cX5_rate 376 = .ok (.goto 22, 3) := by decide +kernel
theorem dX5_rate_379 : decode cX5_rate 379 = .ok (.aload_n 0, 1) := by decide +kernel
theorem dX5_rate_380 : decode cX5_rate 380 = .ok (.getfield 9, 3) := by decide +kernel
theorem dX5_rate_383 : decode cX5_rate 383 = .ok (.iload 4, 2) := by decide +kernel
theorem dX5_rate_385 : decode cX5_rate 385 = .ok (.iaload, 1) := by decide +kernel
theorem dX5_rate_386 : decode cX5_rate 386 = .ok (.iload 10, 2) := by decide +kernel
theorem dX5_rate_388 : decode cX5_rate 388 = .ok (.iload 9, 2) := by decide +kernel
theorem dX5_rate_390 : decode cX5_rate 390 = .ok (.imul, 1) := by decide +kernel
theorem dX5_rate_391 : decode cX5_rate 391 = .ok (.bipush 59, 2) := by decide +kernel
theorem dX5_rate_393 : decode cX5_rate 393 = .ok (.iadd, 1) := by decide +kernel
theorem dX5_rate_394 : decode cX5_rate 394 = .ok (.bipush 60, 2) := by decide +kernel
theorem dX5_rate_396 : decode cX5_rate 396 = .ok (.idiv, 1) := by decide +kernel
theorem dX5_rate_397 : decode cX5_rate 397 = .ok (.iadd, 1) := by decide +kernel
theorem dX5_rate_398 : decode cX5_rate 398 = .ok (.iadd, 1) := by decide +kernel
theorem dX5_rate_399 : decode cX5_rate 399 = .ok (.iastore, 1) := by decide +kernel
theorem dX5_rate_400 : decode cX5_rate 400 = .ok (.return_, 1) := by decide +kernel
theorem dX5_rateAll_0 : decode cX5_rateAll 0 = .ok (.iconst 0, 1) := by decide +kernel
theorem dX5_rateAll_1 : decode cX5_rateAll 1 = .ok (.istore_n 1, 1) := by decide +kernel
theorem dX5_rateAll_2 : decode cX5_rateAll 2 = .ok (.iload_n 1, 1) := by decide +kernel
theorem dX5_rateAll_3 : decode cX5_rateAll 3 = .ok (.aload_n 0, 1) := by decide +kernel
theorem dX5_rateAll_4 : decode cX5_rateAll 4 = .ok (.getfield 63, 3) := by decide +kernel
theorem dX5_rateAll_7 : decode cX5_rateAll 7 = .ok (.if_icmp .ge 30, 3) := by decide +kernel
theorem dX5_rateAll_10 : decode cX5_rateAll 10 = .ok (.aload_n 0, 1) := by decide +kernel
theorem dX5_rateAll_11 : decode cX5_rateAll 11 = .ok (.getfield 47, 3) := by decide +kernel
theorem dX5_rateAll_14 : decode cX5_rateAll 14 = .ok (.iload_n 1, 1) := by decide +kernel
theorem dX5_rateAll_15 : decode cX5_rateAll 15 = .ok (.aload_n 0, 1) := by decide +kernel
theorem dX5_rateAll_16 : decode cX5_rateAll 16 = .ok (.getfield 13, 3) := by decide +kernel
theorem dX5_rateAll_19 : decode cX5_rateAll 19 = .ok (.iconst 3, 1) := by decide +kernel
theorem dX5_rateAll_20 : decode cX5_rateAll 20 = .ok (.iload_n 1, 1) := by decide +kernel
theorem dX5_rateAll_21 : decode cX5_rateAll 21 = .ok (.imul, 1) := by decide +kernel
theorem dX5_rateAll_22 : decode cX5_rateAll 22 = .ok (.iaload, 1) := by decide +kernel
theorem dX5_rateAll_23 : decode cX5_rateAll 23 = .ok (.iastore, 1) := by decide +kernel
theorem dX5_rateAll_24 : decode cX5_rateAll 24 = .ok (.aload_n 0, 1) := by decide +kernel
theorem dX5_rateAll_25 : decode cX5_rateAll 25 = .ok (.getfield 50, 3) := by decide +kernel
theorem dX5_rateAll_28 : decode cX5_rateAll 28 = .ok (.iload_n 1, 1) := by decide +kernel
theorem dX5_rateAll_29 : decode cX5_rateAll 29 = .ok (.iconst (-1), 1) := by decide +kernel
theorem dX5_rateAll_30 : decode cX5_rateAll 30 = .ok (.iastore, 1) := by decide +kernel
theorem dX5_rateAll_31 : decode cX5_rateAll 31 = .ok (.iinc 1 1, 3) := by decide +kernel
theorem dX5_rateAll_34 : decode cX5_rateAll 34 = .ok (.goto (-32), 3) := by decide +kernel
theorem dX5_rateAll_37 : decode cX5_rateAll 37 = .ok (.iconst 0, 1) := by decide +kernel
theorem dX5_rateAll_38 : decode cX5_rateAll 38 = .ok (.istore_n 1, 1) := by decide +kernel
theorem dX5_rateAll_39 : decode cX5_rateAll 39 = .ok (.iload_n 1, 1) := by decide +kernel
theorem dX5_rateAll_40 : decode cX5_rateAll 40 = .ok (.aload_n 0, 1) := by decide +kernel
theorem dX5_rateAll_41 : decode cX5_rateAll 41 = .ok (.getfield 69, 3) := by decide +kernel
theorem dX5_rateAll_44 : decode cX5_rateAll 44 = .ok (.if_icmp .ge 14, 3) := by decide +kernel
theorem dX5_rateAll_47 : decode cX5_rateAll 47 = .ok (.aload_n 0, 1) := by decide +kernel
theorem dX5_rateAll_48 : decode cX5_rateAll 48 = .ok (.iload_n 1, 1) := by decide +kernel
theorem dX5_rateAll_49 : decode cX5_rateAll 49 = .ok (.invokevirtual 116, 3) := by decide +kernel
theorem dX5_rateAll_52 : decode cX5_rateAll 52 = .ok (.iinc 1 1, 3) := by decide +kernel
theorem dX5_rateAll_55 : decode cX5_rateAll 55 = .ok (.goto (-16), 3) := by decide +kernel
theorem dX5_rateAll_58 : decode cX5_rateAll 58 = .ok (.return_, 1) := by decide +kernel
theorem dX5_told_0 : decode cX5_told 0 = .ok (.aload_n 0, 1) := by decide +kernel
theorem dX5_told_1 : decode cX5_told 1 = .ok (.iconst 0, 1) := by decide +kernel
theorem dX5_told_2 : decode cX5_told 2 = .ok (.putfield 53, 3) := by decide +kernel
theorem dX5_told_5 : decode cX5_told 5 = .ok (.aload_n 0, 1) := by decide +kernel
theorem dX5_told_6 : decode cX5_told 6 = .ok (.iload_n 1, 1) := by decide +kernel
theorem dX5_told_7 : decode cX5_told 7 = .ok (.invokevirtual 95, 3) := by decide +kernel
theorem dX5_told_10 : decode cX5_told 10 = .ok (.ifCond .eq 12, 3) := by decide +kernel
theorem dX5_told_13 : decode cX5_told 13 = .ok (.iload_n 2, 1) := by decide +kernel
theorem dX5_told_14 : decode cX5_told 14 = .ok (.iconst 0, 1) := by decide +kernel
theorem dX5_told_15 : decode cX5_told 15 = .ok (.iconst 4, 1) := by decide +kernel
theorem dX5_told_16 : decode cX5_told 16 = .ok (.invokestatic 59, 3) := by decide +kernel
theorem dX5_told_19 : decode cX5_told 19 = .ok (.ifCond .ne 9, 3) := by decide +kernel
theorem dX5_told_22 : decode cX5_told 22 = .ok (.aload_n 0, 1) := by decide +kernel
theorem dX5_told_23 : decode cX5_told 23 = .ok (.iconst 1, 1) := by decide +kernel
theorem dX5_told_24 : decode cX5_told 24 = .ok (.invokevirtual 72, 3) := by decide +kernel
theorem dX5_told_27 : decode cX5_told 27 = .ok (.ireturn, 1) := by decide +kernel
theorem dX5_told_28 : decode cX5_told 28 = .ok (.aload_n 0, 1) := by decide +kernel
theorem dX5_told_29 : decode cX5_told 29 = .ok (.invokevirtual 120, 3) := by decide +kernel
theorem dX5_told_32 : decode cX5_told 32 = .ok (.aload_n 0, 1) := by decide +kernel
theorem dX5_told_33 : decode cX5_told 33 = .ok (.iload_n 1, 1) := by decide +kernel
theorem dX5_told_34 : decode cX5_told 34 = .ok (.iload_n 2, 1) := by decide +kernel
theorem dX5_told_35 : decode cX5_told 35 = .ok (.invokevirtual 123, 3) := by decide +kernel
theorem dX5_told_38 : decode cX5_told 38 = .ok (.ireturn, 1) := by decide +kernel
theorem dX5_toldOf_0 : decode cX5_toldOf 0 = .ok (.iload_n 2, 1) := by decide +kernel
theorem dX5_toldOf_1 : decode cX5_toldOf 1 = .ok (.tableswitch 63 0 3 #[31, 42, 49, 56], 31) := by decide +kernel
theorem dX5_toldOf_32 : decode cX5_toldOf 32 = .ok (.aload_n 0, 1) := by decide +kernel
theorem dX5_toldOf_33 : decode cX5_toldOf 33 = .ok (.getfield 22, 3) := by decide +kernel
theorem dX5_toldOf_36 : decode cX5_toldOf 36 = .ok (.iconst 4, 1) := by decide +kernel
theorem dX5_toldOf_37 : decode cX5_toldOf 37 = .ok (.iload_n 1, 1) := by decide +kernel
theorem dX5_toldOf_38 : decode cX5_toldOf 38 = .ok (.imul, 1) := by decide +kernel
theorem dX5_toldOf_39 : decode cX5_toldOf 39 = .ok (.iconst 2, 1) := by decide +kernel
theorem dX5_toldOf_40 : decode cX5_toldOf 40 = .ok (.iadd, 1) := by decide +kernel
theorem dX5_toldOf_41 : decode cX5_toldOf 41 = .ok (.iaload, 1) := by decide +kernel
theorem dX5_toldOf_42 : decode cX5_toldOf 42 = .ok (.ireturn, 1) := by decide +kernel
theorem dX5_toldOf_43 : decode cX5_toldOf 43 = .ok (.aload_n 0, 1) := by decide +kernel
theorem dX5_toldOf_44 : decode cX5_toldOf 44 = .ok (.getfield 35, 3) := by decide +kernel
theorem dX5_toldOf_47 : decode cX5_toldOf 47 = .ok (.iload_n 1, 1) := by decide +kernel
theorem dX5_toldOf_48 : decode cX5_toldOf 48 = .ok (.iaload, 1) := by decide +kernel
theorem dX5_toldOf_49 : decode cX5_toldOf 49 = .ok (.ireturn, 1) := by decide +kernel
theorem dX5_toldOf_50 : decode cX5_toldOf 50 = .ok (.aload_n 0, 1) := by decide +kernel
theorem dX5_toldOf_51 : decode cX5_toldOf 51 = .ok (.getfield 38, 3) := by decide +kernel
theorem dX5_toldOf_54 : decode cX5_toldOf 54 = .ok (.iload_n 1, 1) := by decide +kernel
theorem dX5_toldOf_55 : decode cX5_toldOf 55 = .ok (.iaload, 1) := by decide +kernel
theorem dX5_toldOf_56 : decode cX5_toldOf 56 = .ok (.ireturn, 1) := by decide +kernel
theorem dX5_toldOf_57 : decode cX5_toldOf 57 = .ok (.aload_n 0, 1) := by decide +kernel
theorem dX5_toldOf_58 : decode cX5_toldOf 58 = .ok (.getfield 41, 3) := by decide +kernel
theorem dX5_toldOf_61 : decode cX5_toldOf 61 = .ok (.iload_n 1, 1) := by decide +kernel
theorem dX5_toldOf_62 : decode cX5_toldOf 62 = .ok (.iaload, 1) := by decide +kernel
theorem dX5_toldOf_63 : decode cX5_toldOf 63 = .ok (.ireturn, 1) := by decide +kernel
theorem dX5_toldOf_64 : decode cX5_toldOf 64 = .ok (.aload_n 0, 1) := by decide +kernel
theorem dX5_toldOf_65 : decode cX5_toldOf 65 = .ok (.getfield 44, 3) := by decide +kernel
theorem dX5_toldOf_68 : decode cX5_toldOf 68 = .ok (.iload_n 1, 1) := by decide +kernel
theorem dX5_toldOf_69 : decode cX5_toldOf 69 = .ok (.iaload, 1) := by decide +kernel
theorem dX5_toldOf_70 : decode cX5_toldOf 70 = .ok (.ireturn, 1) := by decide +kernel
theorem dX5_dearest_0 : decode cX5_dearest 0 = .ok (.aload_n 0, 1) := by decide +kernel
theorem dX5_dearest_1 : decode cX5_dearest 1 = .ok (.iconst 0, 1) := by decide +kernel
theorem dX5_dearest_2 : decode cX5_dearest 2 = .ok (.putfield 53, 3) := by decide +kernel
theorem dX5_dearest_5 : decode cX5_dearest 5 = .ok (.aload_n 0, 1) := by decide +kernel
theorem dX5_dearest_6 : decode cX5_dearest 6 = .ok (.invokevirtual 120, 3) := by decide +kernel
theorem dX5_dearest_9 : decode cX5_dearest 9 = .ok (.iconst (-1), 1) := by decide +kernel
theorem dX5_dearest_10 : decode cX5_dearest 10 = .ok (.istore_n 1, 1) := by decide +kernel
theorem dX5_dearest_11 : decode cX5_dearest 11 = .ok (.iconst 0, 1) := by decide +kernel
theorem dX5_dearest_12 : decode cX5_dearest 12 = .ok (.istore_n 2, 1) := by decide +kernel
theorem dX5_dearest_13 : decode cX5_dearest 13 = .ok (.iload_n 2, 1) := by decide +kernel
theorem dX5_dearest_14 : decode cX5_dearest 14 = .ok (.aload_n 0, 1) := by decide +kernel
theorem dX5_dearest_15 : decode cX5_dearest 15 = .ok (.getfield 69, 3) := by decide +kernel
theorem dX5_dearest_18 : decode cX5_dearest 18 = .ok (.if_icmp .ge 41, 3) := by decide +kernel
theorem dX5_dearest_21 : decode cX5_dearest 21 = .ok (.iload_n 1, 1) := by decide +kernel
theorem dX5_dearest_22 : decode cX5_dearest 22 = .ok (.iconst (-1), 1) := by decide +kernel
theorem dX5_dearest_23 : decode cX5_dearest 23 = .ok (.if_icmp .eq 23, 3) := by decide +kernel
theorem dX5_dearest_26 : decode cX5_dearest 26 = .ok (.aload_n 0, 1) := by decide +kernel
theorem dX5_dearest_27 : decode cX5_dearest 27 = .ok (.getfield 41, 3) := by decide +kernel
theorem dX5_dearest_30 : decode cX5_dearest 30 = .ok (.aload_n 0, 1) := by decide +kernel
theorem dX5_dearest_31 : decode cX5_dearest 31 = .ok (.getfield 32, 3) := by decide +kernel
theorem dX5_dearest_34 : decode cX5_dearest 34 = .ok (.iload_n 2, 1) := by decide +kernel
theorem dX5_dearest_35 : decode cX5_dearest 35 = .ok (.iaload, 1) := by decide +kernel
theorem dX5_dearest_36 : decode cX5_dearest 36 = .ok (.iaload, 1) := by decide +kernel
theorem dX5_dearest_37 : decode cX5_dearest 37 = .ok (.aload_n 0, 1) := by decide +kernel
theorem dX5_dearest_38 : decode cX5_dearest 38 = .ok (.getfield 41, 3) := by decide +kernel
theorem dX5_dearest_41 : decode cX5_dearest 41 = .ok (.iload_n 1, 1) := by decide +kernel
theorem dX5_dearest_42 : decode cX5_dearest 42 = .ok (.iaload, 1) := by decide +kernel
theorem dX5_dearest_43 : decode cX5_dearest 43 = .ok (.if_icmp .le 10, 3) := by decide +kernel
theorem dX5_dearest_46 : decode cX5_dearest 46 = .ok (.aload_n 0, 1) := by decide +kernel
theorem dX5_dearest_47 : decode cX5_dearest 47 = .ok (.getfield 32, 3) := by decide +kernel
theorem dX5_dearest_50 : decode cX5_dearest 50 = .ok (.iload_n 2, 1) := by decide +kernel
theorem dX5_dearest_51 : decode cX5_dearest 51 = .ok (.iaload, 1) := by decide +kernel
theorem dX5_dearest_52 : decode cX5_dearest 52 = .ok (.istore_n 1, 1) := by decide +kernel
theorem dX5_dearest_53 : decode cX5_dearest 53 = .ok (.iinc 2 1, 3) := by decide +kernel
theorem dX5_dearest_56 : decode cX5_dearest 56 = .ok (.goto (-43), 3) := by decide +kernel
theorem dX5_dearest_59 : decode cX5_dearest 59 = .ok (.iload_n 1, 1) := by decide +kernel
theorem dX5_dearest_60 : decode cX5_dearest 60 = .ok (.ireturn, 1) := by decide +kernel
theorem dX5_lineSumOf_0 : decode cX5_lineSumOf 0 = .ok (.iconst 0, 1) := by decide +kernel
theorem dX5_lineSumOf_1 : decode cX5_lineSumOf 1 = .ok (.istore_n 2, 1) := by decide +kernel
theorem dX5_lineSumOf_2 : decode cX5_lineSumOf 2 = .ok (.iconst 0, 1) := by decide +kernel
theorem dX5_lineSumOf_3 : decode cX5_lineSumOf 3 = .ok (.istore_n 3, 1) := by decide +kernel
theorem dX5_lineSumOf_4 : decode cX5_lineSumOf 4 = .ok (.iload_n 3, 1) := by decide +kernel
theorem dX5_lineSumOf_5 : decode cX5_lineSumOf 5 = .ok (.aload_n 0, 1) := by decide +kernel
theorem dX5_lineSumOf_6 : decode cX5_lineSumOf 6 = .ok (.getfield 69, 3) := by decide +kernel
theorem dX5_lineSumOf_9 : decode cX5_lineSumOf 9 = .ok (.if_icmp .ge 34, 3) := by decide +kernel
theorem dX5_lineSumOf_12 : decode cX5_lineSumOf 12 = .ok (.iload_n 2, 1) := by decide +kernel
theorem dX5_lineSumOf_13 : decode cX5_lineSumOf 13 = .ok (.aload_n 0, 1) := by decide +kernel
theorem dX5_lineSumOf_14 : decode cX5_lineSumOf 14 = .ok (.getfield 22, 3) := by decide +kernel
theorem dX5_lineSumOf_17 : decode cX5_lineSumOf 17 = .ok (.iconst 4, 1) := by decide +kernel
theorem dX5_lineSumOf_18 : decode cX5_lineSumOf 18 = .ok (.iload_n 3, 1) := by decide +kernel
theorem dX5_lineSumOf_19 : decode cX5_lineSumOf 19 = .ok (.imul, 1) := by decide +kernel
theorem dX5_lineSumOf_20 : decode cX5_lineSumOf 20 = .ok (.iaload, 1) := by decide +kernel
theorem dX5_lineSumOf_21 : decode cX5_lineSumOf 21 = .ok (.iload_n 1, 1) := by decide +kernel
theorem dX5_lineSumOf_22 : decode cX5_lineSumOf 22 = .ok (.if_icmp .ne 12, 3) := by decide +kernel
theorem dX5_lineSumOf_25 : decode cX5_lineSumOf 25 = .ok (.aload_n 0, 1) := by decide +kernel
theorem dX5_lineSumOf_26 : decode cX5_lineSumOf 26 = .ok (.getfield 41, 3) := by decide +kernel
theorem dX5_lineSumOf_29 : decode cX5_lineSumOf 29 = .ok (.iload_n 3, 1) := by decide +kernel
theorem dX5_lineSumOf_30 : decode cX5_lineSumOf 30 = .ok (.iaload, 1) := by decide +kernel
theorem dX5_lineSumOf_31 : decode cX5_lineSumOf 31 = .ok (.goto 4, 3) := by decide +kernel
theorem dX5_lineSumOf_34 : decode cX5_lineSumOf 34 = .ok (.iconst 0, 1) := by decide +kernel
theorem dX5_lineSumOf_35 : decode cX5_lineSumOf 35 = .ok (.iadd, 1) := by decide +kernel
theorem dX5_lineSumOf_36 : decode cX5_lineSumOf 36 = .ok (.istore_n 2, 1) := by decide +kernel
theorem dX5_lineSumOf_37 : decode cX5_lineSumOf 37 = .ok (.iinc 3 1, 3) := by decide +kernel
theorem dX5_lineSumOf_40 : decode cX5_lineSumOf 40 = .ok (.goto (-36), 3) := by decide +kernel
theorem dX5_lineSumOf_43 : decode cX5_lineSumOf 43 = .ok (.iload_n 2, 1) := by decide +kernel
theorem dX5_lineSumOf_44 : decode cX5_lineSumOf 44 = .ok (.ireturn, 1) := by decide +kernel
theorem dX5_lineSum_0 : decode cX5_lineSum 0 = .ok (.aload_n 0, 1) := by decide +kernel
theorem dX5_lineSum_1 : decode cX5_lineSum 1 = .ok (.iconst 0, 1) := by decide +kernel
theorem dX5_lineSum_2 : decode cX5_lineSum 2 = .ok (.putfield 53, 3) := by decide +kernel
theorem dX5_lineSum_5 : decode cX5_lineSum 5 = .ok (.aload_n 0, 1) := by decide +kernel
theorem dX5_lineSum_6 : decode cX5_lineSum 6 = .ok (.iload_n 1, 1) := by decide +kernel
theorem dX5_lineSum_7 : decode cX5_lineSum 7 = .ok (.invokevirtual 91, 3) := by decide +kernel
theorem dX5_lineSum_10 : decode cX5_lineSum 10 = .ok (.ifCond .ne 9, 3) := by decide +kernel
theorem dX5_lineSum_13 : decode cX5_lineSum 13 = .ok (.aload_n 0, 1) := by decide +kernel
theorem dX5_lineSum_14 : decode cX5_lineSum 14 = .ok (.iconst 1, 1) := by decide +kernel
theorem dX5_lineSum_15 : decode cX5_lineSum 15 = .ok (.invokevirtual 72, 3) := by decide +kernel
theorem dX5_lineSum_18 : decode cX5_lineSum 18 = .ok (.ireturn, 1) := by decide +kernel
theorem dX5_lineSum_19 : decode cX5_lineSum 19 = .ok (.aload_n 0, 1) := by decide +kernel
theorem dX5_lineSum_20 : decode cX5_lineSum 20 = .ok (.invokevirtual 120, 3) := by decide +kernel
theorem dX5_lineSum_23 : decode cX5_lineSum 23 = .ok (.aload_n 0, 1) := by decide +kernel
theorem dX5_lineSum_24 : decode cX5_lineSum 24 = .ok (.iload_n 1, 1) := by decide +kernel
theorem dX5_lineSum_25 : decode cX5_lineSum 25 = .ok (.invokevirtual 126, 3) := by decide +kernel
theorem dX5_lineSum_28 : decode cX5_lineSum 28 = .ok (.ireturn, 1) := by decide +kernel
theorem dX5_daySum_0 : decode cX5_daySum 0 = .ok (.aload_n 0, 1) := by decide +kernel
theorem dX5_daySum_1 : decode cX5_daySum 1 = .ok (.iconst 0, 1) := by decide +kernel
theorem dX5_daySum_2 : decode cX5_daySum 2 = .ok (.putfield 53, 3) := by decide +kernel
theorem dX5_daySum_5 : decode cX5_daySum 5 = .ok (.iload_n 1, 1) := by decide +kernel
theorem dX5_daySum_6 : decode cX5_daySum 6 = .ok (.iconst 0, 1) := by decide +kernel
theorem dX5_daySum_7 : decode cX5_daySum 7 = .ok (.bipush 29, 2) := by decide +kernel
theorem dX5_daySum_9 : decode cX5_daySum 9 = .ok (.invokestatic 59, 3) := by decide +kernel
theorem dX5_daySum_12 : decode cX5_daySum 12 = .ok (.ifCond .ne 9, 3) := by decide +kernel
theorem dX5_daySum_15 : decode cX5_daySum 15 = .ok (.aload_n 0, 1) := by decide +kernel
theorem dX5_daySum_16 : decode cX5_daySum 16 = .ok (.iconst 1, 1) := by decide +kernel
theorem dX5_daySum_17 : decode cX5_daySum 17 = .ok (.invokevirtual 72, 3) := by decide +kernel
theorem dX5_daySum_20 : decode cX5_daySum 20 = .ok (.ireturn, 1) := by decide +kernel
theorem dX5_daySum_21 : decode cX5_daySum 21 = .ok (.aload_n 0, 1) := by decide +kernel
theorem dX5_daySum_22 : decode cX5_daySum 22 = .ok (.invokevirtual 120, 3) := by decide +kernel
theorem dX5_daySum_25 : decode cX5_daySum 25 = .ok (.iconst 0, 1) := by decide +kernel
theorem dX5_daySum_26 : decode cX5_daySum 26 = .ok (.istore_n 2, 1) := by decide +kernel
theorem dX5_daySum_27 : decode cX5_daySum 27 = .ok (.iconst 0, 1) := by decide +kernel
theorem dX5_daySum_28 : decode cX5_daySum 28 = .ok (.istore_n 3, 1) := by decide +kernel
theorem dX5_daySum_29 : decode cX5_daySum 29 = .ok (.iload_n 3, 1) := by decide +kernel
theorem dX5_daySum_30 : decode cX5_daySum 30 = .ok (.aload_n 0, 1) := by decide +kernel
theorem dX5_daySum_31 : decode cX5_daySum 31 = .ok (.getfield 69, 3) := by decide +kernel
theorem dX5_daySum_34 : decode cX5_daySum 34 = .ok (.if_icmp .ge 39, 3) := by decide +kernel
theorem dX5_daySum_37 : decode cX5_daySum 37 = .ok (.iload_n 2, 1) := by decide +kernel
theorem dX5_daySum_38 : decode cX5_daySum 38 = .ok (.aload_n 0, 1) := by decide +kernel
theorem dX5_daySum_39 : decode cX5_daySum 39 = .ok (.getfield 22, 3) := by decide +kernel
theorem dX5_daySum_42 : decode cX5_daySum 42 = .ok (.iconst 4, 1) := by decide +kernel
theorem dX5_daySum_43 : decode cX5_daySum 43 = .ok (.iload_n 3, 1) := by decide +kernel
theorem dX5_daySum_44 : decode cX5_daySum 44 = .ok (.imul, 1) := by decide +kernel
theorem dX5_daySum_45 : decode cX5_daySum 45 = .ok (.iconst 1, 1) := by decide +kernel
theorem dX5_daySum_46 : decode cX5_daySum 46 = .ok (.iadd, 1) := by decide +kernel
theorem dX5_daySum_47 : decode cX5_daySum 47 = .ok (.iaload, 1) := by decide +kernel
theorem dX5_daySum_48 : decode cX5_daySum 48 = .ok (.invokestatic 98, 3) := by decide +kernel
theorem dX5_daySum_51 : decode cX5_daySum 51 = .ok (.iload_n 1, 1) := by decide +kernel
theorem dX5_daySum_52 : decode cX5_daySum 52 = .ok (.if_icmp .ne 12, 3) := by decide +kernel
theorem dX5_daySum_55 : decode cX5_daySum 55 = .ok (.aload_n 0, 1) := by decide +kernel
theorem dX5_daySum_56 : decode cX5_daySum 56 = .ok (.getfield 41, 3) := by decide +kernel
theorem dX5_daySum_59 : decode cX5_daySum 59 = .ok (.iload_n 3, 1) := by decide +kernel
theorem dX5_daySum_60 : decode cX5_daySum 60 = .ok (.iaload, 1) := by decide +kernel
theorem dX5_daySum_61 : decode cX5_daySum 61 = .ok (.goto 4, 3) := by decide +kernel
theorem dX5_daySum_64 : decode cX5_daySum 64 = .ok (.iconst 0, 1) := by decide +kernel
theorem dX5_daySum_65 : decode cX5_daySum 65 = .ok (.iadd, 1) := by decide +kernel
theorem dX5_daySum_66 : decode cX5_daySum 66 = .ok (.istore_n 2, 1) := by decide +kernel
theorem dX5_daySum_67 : decode cX5_daySum 67 = .ok (.iinc 3 1, 3) := by decide +kernel
theorem dX5_daySum_70 : decode cX5_daySum 70 = .ok (.goto (-41), 3) := by decide +kernel
theorem dX5_daySum_73 : decode cX5_daySum 73 = .ok (.iload_n 2, 1) := by decide +kernel
theorem dX5_daySum_74 : decode cX5_daySum 74 = .ok (.ireturn, 1) := by decide +kernel
theorem dX5_sumOf_0 : decode cX5_sumOf 0 = .ok (.iconst 0, 1) := by decide +kernel
theorem dX5_sumOf_1 : decode cX5_sumOf 1 = .ok (.istore_n 2, 1) := by decide +kernel
theorem dX5_sumOf_2 : decode cX5_sumOf 2 = .ok (.iconst 0, 1) := by decide +kernel
theorem dX5_sumOf_3 : decode cX5_sumOf 3 = .ok (.istore_n 3, 1) := by decide +kernel
theorem dX5_sumOf_4 : decode cX5_sumOf 4 = .ok (.iload_n 3, 1) := by decide +kernel
theorem dX5_sumOf_5 : decode cX5_sumOf 5 = .ok (.aload_n 0, 1) := by decide +kernel
theorem dX5_sumOf_6 : decode cX5_sumOf 6 = .ok (.getfield 66, 3) := by decide +kernel
theorem dX5_sumOf_9 : decode cX5_sumOf 9 = .ok (.if_icmp .ge 31, 3) := by decide +kernel
theorem dX5_sumOf_12 : decode cX5_sumOf 12 = .ok (.iload_n 2, 1) := by decide +kernel
theorem dX5_sumOf_13 : decode cX5_sumOf 13 = .ok (.aload_n 0, 1) := by decide +kernel
theorem dX5_sumOf_14 : decode cX5_sumOf 14 = .ok (.getfield 16, 3) := by decide +kernel
theorem dX5_sumOf_17 : decode cX5_sumOf 17 = .ok (.iload_n 3, 1) := by decide +kernel
theorem dX5_sumOf_18 : decode cX5_sumOf 18 = .ok (.iaload, 1) := by decide +kernel
theorem dX5_sumOf_19 : decode cX5_sumOf 19 = .ok (.iload_n 1, 1) := by decide +kernel
theorem dX5_sumOf_20 : decode cX5_sumOf 20 = .ok (.if_icmp .ne 11, 3) := by decide +kernel
theorem dX5_sumOf_23 : decode cX5_sumOf 23 = .ok (.aload_n 0, 1) := by decide +kernel
theorem dX5_sumOf_24 : decode cX5_sumOf 24 = .ok (.iload_n 3, 1) := by decide +kernel
theorem dX5_sumOf_25 : decode cX5_sumOf 25 = .ok (.invokevirtual 126, 3) := by decide +kernel
theorem dX5_sumOf_28 : decode cX5_sumOf 28 = .ok (.goto 4, 3) := by decide +kernel
theorem dX5_sumOf_31 : decode cX5_sumOf 31 = .ok (.iconst 0, 1) := by decide +kernel
theorem dX5_sumOf_32 : decode cX5_sumOf 32 = .ok (.iadd, 1) := by decide +kernel
theorem dX5_sumOf_33 : decode cX5_sumOf 33 = .ok (.istore_n 2, 1) := by decide +kernel
theorem dX5_sumOf_34 : decode cX5_sumOf 34 = .ok (.iinc 3 1, 3) := by decide +kernel
theorem dX5_sumOf_37 : decode cX5_sumOf 37 = .ok (.goto (-33), 3) := by decide +kernel
theorem dX5_sumOf_40 : decode cX5_sumOf 40 = .ok (.iload_n 2, 1) := by decide +kernel
theorem dX5_sumOf_41 : decode cX5_sumOf 41 = .ok (.ireturn, 1) := by decide +kernel
theorem dX5_totalOf_0 : decode cX5_totalOf 0 = .ok (.aload_n 0, 1) := by decide +kernel
theorem dX5_totalOf_1 : decode cX5_totalOf 1 = .ok (.iload_n 1, 1) := by decide +kernel
theorem dX5_totalOf_2 : decode cX5_totalOf 2 = .ok (.invokevirtual 129, 3) := by decide +kernel
theorem dX5_totalOf_5 : decode cX5_totalOf 5 = .ok (.istore_n 2, 1) := by decide +kernel
theorem dX5_totalOf_6 : decode cX5_totalOf 6 = .ok (.iconst 0, 1) := by decide +kernel
theorem dX5_totalOf_7 : decode cX5_totalOf 7 = .ok (.iload_n 2, 1) := by decide +kernel
theorem dX5_totalOf_8 : decode cX5_totalOf 8 = .ok (.aload_n 0, 1) := by decide +kernel
theorem dX5_totalOf_9 : decode cX5_totalOf 9 = .ok (.getfield 13, 3) := by decide +kernel
theorem dX5_totalOf_12 : decode cX5_totalOf 12 = .ok (.iconst 3, 1) := by decide +kernel
theorem dX5_totalOf_13 : decode cX5_totalOf 13 = .ok (.iload_n 1, 1) := by decide +kernel
theorem dX5_totalOf_14 : decode cX5_totalOf 14 = .ok (.imul, 1) := by decide +kernel
theorem dX5_totalOf_15 : decode cX5_totalOf 15 = .ok (.iconst 1, 1) := by decide +kernel
theorem dX5_totalOf_16 : decode cX5_totalOf 16 = .ok (.iadd, 1) := by decide +kernel
theorem dX5_totalOf_17 : decode cX5_totalOf 17 = .ok (.iaload, 1) := by decide +kernel
theorem dX5_totalOf_18 : decode cX5_totalOf 18 = .ok (.isub, 1) := by decide +kernel
theorem dX5_totalOf_19 : decode cX5_totalOf 19 = .ok (.invokestatic 104, 3) := by decide +kernel
theorem dX5_totalOf_22 : decode cX5_totalOf 22 = .ok (.i2l, 1) := by decide +kernel
theorem dX5_totalOf_23 : decode cX5_totalOf 23 = .ok (.lstore_n 3, 1) := by decide +kernel
theorem dX5_totalOf_24 : decode cX5_totalOf 24 = .ok (.iload_n 2, 1) := by decide +kernel
theorem dX5_totalOf_25 : decode cX5_totalOf 25 = .ok (.lload_n 3, 1) := by decide +kernel
theorem dX5_totalOf_26 : decode cX5_totalOf 26 = .ok (.aload_n 0, 1) := by decide +kernel
theorem dX5_totalOf_27 : decode cX5_totalOf 27 = .ok (.getfield 13, 3) := by decide +kernel
theorem dX5_totalOf_30 : decode cX5_totalOf 30 = .ok (.iconst 3, 1) := by decide +kernel
theorem dX5_totalOf_31 : decode cX5_totalOf 31 = .ok (.iload_n 1, 1) := by decide +kernel
theorem dX5_totalOf_32 : decode cX5_totalOf 32 = .ok (.imul, 1) := by decide +kernel
theorem dX5_totalOf_33 : decode cX5_totalOf 33 = .ok (.iconst 2, 1) := by decide +kernel
theorem dX5_totalOf_34 : decode cX5_totalOf 34 = .ok (.iadd, 1) := by decide +kernel
theorem dX5_totalOf_35 : decode cX5_totalOf 35 = .ok (.iaload, 1) := by decide +kernel
theorem dX5_totalOf_36 : decode cX5_totalOf 36 = .ok (.i2l, 1) := by decide +kernel
theorem dX5_totalOf_37 : decode cX5_totalOf 37 = .ok (.lmul, 1) := by decide +kernel
theorem dX5_totalOf_38 : decode cX5_totalOf 38 = .ok (.ldc2_w 132, 3) := by decide +kernel
theorem dX5_totalOf_41 : decode cX5_totalOf 41 = .ok (.ldiv, 1) := by decide +kernel
theorem dX5_totalOf_42 : decode cX5_totalOf 42 = .ok (.l2i, 1) := by decide +kernel
theorem dX5_totalOf_43 : decode cX5_totalOf 43 = .ok (.isub, 1) := by decide +kernel
theorem dX5_totalOf_44 : decode cX5_totalOf 44 = .ok (.iconst 5, 1) := by decide +kernel
theorem dX5_totalOf_45 : decode cX5_totalOf 45 = .ok (.iadd, 1) := by decide +kernel
theorem dX5_totalOf_46 : decode cX5_totalOf 46 = .ok (.bipush 10, 2) := by decide +kernel
theorem dX5_totalOf_48 : decode cX5_totalOf 48 = .ok (.idiv, 1) := by decide +kernel
theorem dX5_totalOf_49 : decode cX5_totalOf 49 = .ok (.ireturn, 1) := by decide +kernel
theorem dX5_sum_0 : decode cX5_sum 0 = .ok (.aload_n 0, 1) := by decide +kernel
theorem dX5_sum_1 : decode cX5_sum 1 = .ok (.iconst 0, 1) := by decide +kernel
theorem dX5_sum_2 : decode cX5_sum 2 = .ok (.putfield 53, 3) := by decide +kernel
theorem dX5_sum_5 : decode cX5_sum 5 = .ok (.aload_n 0, 1) := by decide +kernel
theorem dX5_sum_6 : decode cX5_sum 6 = .ok (.iload_n 1, 1) := by decide +kernel
theorem dX5_sum_7 : decode cX5_sum 7 = .ok (.invokevirtual 88, 3) := by decide +kernel
theorem dX5_sum_10 : decode cX5_sum 10 = .ok (.ifCond .ne 9, 3) := by decide +kernel
theorem dX5_sum_13 : decode cX5_sum 13 = .ok (.aload_n 0, 1) := by decide +kernel
theorem dX5_sum_14 : decode cX5_sum 14 = .ok (.iconst 1, 1) := by decide +kernel
theorem dX5_sum_15 : decode cX5_sum 15 = .ok (.invokevirtual 72, 3) := by decide +kernel
theorem dX5_sum_18 : decode cX5_sum 18 = .ok (.ireturn, 1) := by decide +kernel
theorem dX5_sum_19 : decode cX5_sum 19 = .ok (.aload_n 0, 1) := by decide +kernel
theorem dX5_sum_20 : decode cX5_sum 20 = .ok (.invokevirtual 120, 3) := by decide +kernel
theorem dX5_sum_23 : decode cX5_sum 23 = .ok (.aload_n 0, 1) := by decide +kernel
theorem dX5_sum_24 : decode cX5_sum 24 = .ok (.iload_n 1, 1) := by decide +kernel
theorem dX5_sum_25 : decode cX5_sum 25 = .ok (.invokevirtual 129, 3) := by decide +kernel
theorem dX5_sum_28 : decode cX5_sum 28 = .ok (.ireturn, 1) := by decide +kernel
theorem dX5_total_0 : decode cX5_total 0 = .ok (.aload_n 0, 1) := by decide +kernel
theorem dX5_total_1 : decode cX5_total 1 = .ok (.iconst 0, 1) := by decide +kernel
theorem dX5_total_2 : decode cX5_total 2 = .ok (.putfield 53, 3) := by decide +kernel
theorem dX5_total_5 : decode cX5_total 5 = .ok (.aload_n 0, 1) := by decide +kernel
theorem dX5_total_6 : decode cX5_total 6 = .ok (.iload_n 1, 1) := by decide +kernel
theorem dX5_total_7 : decode cX5_total 7 = .ok (.invokevirtual 88, 3) := by decide +kernel
theorem dX5_total_10 : decode cX5_total 10 = .ok (.ifCond .ne 9, 3) := by decide +kernel
theorem dX5_total_13 : decode cX5_total 13 = .ok (.aload_n 0, 1) := by decide +kernel
theorem dX5_total_14 : decode cX5_total 14 = .ok (.iconst 1, 1) := by decide +kernel
theorem dX5_total_15 : decode cX5_total 15 = .ok (.invokevirtual 72, 3) := by decide +kernel
theorem dX5_total_18 : decode cX5_total 18 = .ok (.ireturn, 1) := by decide +kernel
theorem dX5_total_19 : decode cX5_total 19 = .ok (.aload_n 0, 1) := by decide +kernel
theorem dX5_total_20 : decode cX5_total 20 = .ok (.invokevirtual 120, 3) := by decide +kernel
theorem dX5_total_23 : decode cX5_total 23 = .ok (.aload_n 0, 1) := by decide +kernel
theorem dX5_total_24 : decode cX5_total 24 = .ok (.iload_n 1, 1) := by decide +kernel
theorem dX5_total_25 : decode cX5_total 25 = .ok (.invokevirtual 134, 3) := by decide +kernel
theorem dX5_total_28 : decode cX5_total 28 = .ok (.ireturn, 1) := by decide +kernel
theorem dX5_left_0 : decode cX5_left 0 = .ok (.aload_n 0, 1) := by decide +kernel
theorem dX5_left_1 : decode cX5_left 1 = .ok (.iconst 0, 1) := by decide +kernel
theorem dX5_left_2 : decode cX5_left 2 = .ok (.putfield 53, 3) := by decide +kernel
theorem dX5_left_5 : decode cX5_left 5 = .ok (.aload_n 0, 1) := by decide +kernel
theorem dX5_left_6 : decode cX5_left 6 = .ok (.iload_n 1, 1) := by decide +kernel
theorem dX5_left_7 : decode cX5_left 7 = .ok (.invokevirtual 88, 3) := by decide +kernel
theorem dX5_left_10 : decode cX5_left 10 = .ok (.ifCond .ne 9, 3) := by decide +kernel
theorem dX5_left_13 : decode cX5_left 13 = .ok (.aload_n 0, 1) := by decide +kernel
theorem dX5_left_14 : decode cX5_left 14 = .ok (.iconst 1, 1) := by decide +kernel
theorem dX5_left_15 : decode cX5_left 15 = .ok (.invokevirtual 72, 3) := by decide +kernel
theorem dX5_left_18 : decode cX5_left 18 = .ok (.ireturn, 1) := by decide +kernel
theorem dX5_left_19 : decode cX5_left 19 = .ok (.aload_n 0, 1) := by decide +kernel
theorem dX5_left_20 : decode cX5_left 20 = .ok (.invokevirtual 120, 3) := by decide +kernel
theorem dX5_left_23 : decode cX5_left 23 = .ok (.aload_n 0, 1) := by decide +kernel
theorem dX5_left_24 : decode cX5_left 24 = .ok (.getfield 47, 3) := by decide +kernel
theorem dX5_left_27 : decode cX5_left 27 = .ok (.iload_n 1, 1) := by decide +kernel
theorem dX5_left_28 : decode cX5_left 28 = .ok (.iaload, 1) := by decide +kernel
theorem dX5_left_29 : decode cX5_left 29 = .ok (.ireturn, 1) := by decide +kernel
theorem dX5_emptied_0 : decode cX5_emptied 0 = .ok (.aload_n 0, 1) := by decide +kernel
theorem dX5_emptied_1 : decode cX5_emptied 1 = .ok (.iconst 0, 1) := by decide +kernel
theorem dX5_emptied_2 : decode cX5_emptied 2 = .ok (.putfield 53, 3) := by decide +kernel
theorem dX5_emptied_5 : decode cX5_emptied 5 = .ok (.aload_n 0, 1) := by decide +kernel
theorem dX5_emptied_6 : decode cX5_emptied 6 = .ok (.iload_n 1, 1) := by decide +kernel
theorem dX5_emptied_7 : decode cX5_emptied 7 = .ok (.invokevirtual 88, 3) := by decide +kernel
theorem dX5_emptied_10 : decode cX5_emptied 10 = .ok (.ifCond .ne 9, 3) := by decide +kernel
theorem dX5_emptied_13 : decode cX5_emptied 13 = .ok (.aload_n 0, 1) := by decide +kernel
theorem dX5_emptied_14 : decode cX5_emptied 14 = .ok (.iconst 1, 1) := by decide +kernel
theorem dX5_emptied_15 : decode cX5_emptied 15 = .ok (.invokevirtual 72, 3) := by decide +kernel
theorem dX5_emptied_18 : decode cX5_emptied 18 = .ok (.ireturn, 1) := by decide +kernel
theorem dX5_emptied_19 : decode cX5_emptied 19 = .ok (.aload_n 0, 1) := by decide +kernel
theorem dX5_emptied_20 : decode cX5_emptied 20 = .ok (.invokevirtual 120, 3) := by decide +kernel
theorem dX5_emptied_23 : decode cX5_emptied 23 = .ok (.aload_n 0, 1) := by decide +kernel
theorem dX5_emptied_24 : decode cX5_emptied 24 = .ok (.getfield 50, 3) := by decide +kernel
theorem dX5_emptied_27 : decode cX5_emptied 27 = .ok (.iload_n 1, 1) := by decide +kernel
theorem dX5_emptied_28 : decode cX5_emptied 28 = .ok (.iaload, 1) := by decide +kernel
theorem dX5_emptied_29 : decode cX5_emptied 29 = .ok (.ireturn, 1) := by decide +kernel
theorem dX5_dayFees_0 : decode cX5_dayFees 0 = .ok (.aload_n 0, 1) := by decide +kernel
theorem dX5_dayFees_1 : decode cX5_dayFees 1 = .ok (.iconst 0, 1) := by decide +kernel
theorem dX5_dayFees_2 : decode cX5_dayFees 2 = .ok (.putfield 53, 3) := by decide +kernel
theorem dX5_dayFees_5 : decode cX5_dayFees 5 = .ok (.aload_n 0, 1) := by decide +kernel
theorem dX5_dayFees_6 : decode cX5_dayFees 6 = .ok (.iload_n 1, 1) := by decide +kernel
theorem dX5_dayFees_7 : decode cX5_dayFees 7 = .ok (.invokevirtual 91, 3) := by decide +kernel
theorem dX5_dayFees_10 : decode cX5_dayFees 10 = .ok (.ifCond .eq 12, 3) := by decide +kernel
theorem dX5_dayFees_13 : decode cX5_dayFees 13 = .ok (.iload_n 2, 1) := by decide +kernel
theorem dX5_dayFees_14 : decode cX5_dayFees 14 = .ok (.iconst 1, 1) := by decide +kernel
theorem dX5_dayFees_15 : decode cX5_dayFees 15 = .ok (.iconst 2, 1) := by decide +kernel
theorem dX5_dayFees_16 : decode cX5_dayFees 16 = .ok (.invokestatic 59, 3) := by decide +kernel
theorem dX5_dayFees_19 : decode cX5_dayFees 19 = .ok (.ifCond .ne 9, 3) := by decide +kernel
theorem dX5_dayFees_22 : decode cX5_dayFees 22 = .ok (.aload_n 0, 1) := by decide +kernel
theorem dX5_dayFees_23 : decode cX5_dayFees 23 = .ok (.iconst 1, 1) := by decide +kernel
theorem dX5_dayFees_24 : decode cX5_dayFees 24 = .ok (.invokevirtual 72, 3) := by decide +kernel
theorem dX5_dayFees_27 : decode cX5_dayFees 27 = .ok (.ireturn, 1) := by decide +kernel
theorem dX5_dayFees_28 : decode cX5_dayFees 28 = .ok (.aload_n 0, 1) := by decide +kernel
theorem dX5_dayFees_29 : decode cX5_dayFees 29 = .ok (.invokevirtual 120, 3) := by decide +kernel
theorem dX5_dayFees_32 : decode cX5_dayFees 32 = .ok (.iconst 0, 1) := by decide +kernel
theorem dX5_dayFees_33 : decode cX5_dayFees 33 = .ok (.istore_n 3, 1) := by decide +kernel
theorem dX5_dayFees_34 : decode cX5_dayFees 34 = .ok (.iconst 0, 1) := by decide +kernel
theorem dX5_dayFees_35 : decode cX5_dayFees 35 = .ok (.istore 4, 2) := by decide +kernel
theorem dX5_dayFees_37 : decode cX5_dayFees 37 = .ok (.iload 4, 2) := by decide +kernel
theorem dX5_dayFees_39 : decode cX5_dayFees 39 = .ok (.aload_n 0, 1) := by decide +kernel
theorem dX5_dayFees_40 : decode cX5_dayFees 40 = .ok (.getfield 69, 3) := by decide +kernel
theorem dX5_dayFees_43 : decode cX5_dayFees 43 = .ok (.if_icmp .ge 55, 3) := by decide +kernel
theorem dX5_dayFees_46 : decode cX5_dayFees 46 = .ok (.iload_n 3, 1) := by decide +kernel
theorem dX5_dayFees_47 : decode cX5_dayFees 47 = .ok (.aload_n 0, 1) := by decide +kernel
theorem dX5_dayFees_48 : decode cX5_dayFees 48 = .ok (.getfield 22, 3) := by decide +kernel
theorem dX5_dayFees_51 : decode cX5_dayFees 51 = .ok (.iconst 4, 1) := by decide +kernel
theorem dX5_dayFees_52 : decode cX5_dayFees 52 = .ok (.iload 4, 2) := by decide +kernel
theorem dX5_dayFees_54 : decode cX5_dayFees 54 = .ok (.imul, 1) := by decide +kernel
theorem dX5_dayFees_55 : decode cX5_dayFees 55 = .ok (.iaload, 1) := by decide +kernel
theorem dX5_dayFees_56 : decode cX5_dayFees 56 = .ok (.iload_n 1, 1) := by decide +kernel
theorem dX5_dayFees_57 : decode cX5_dayFees 57 = .ok (.if_icmp .ne 32, 3) := by decide +kernel
theorem dX5_dayFees_60 : decode cX5_dayFees 60 = .ok (.aload_n 0, 1) := by decide +kernel
theorem dX5_dayFees_61 : decode cX5_dayFees 61 = .ok (.getfield 22, 3) := by decide +kernel
theorem dX5_dayFees_64 : decode cX5_dayFees 64 = .ok (.iconst 4, 1) := by decide +kernel
theorem dX5_dayFees_65 : decode cX5_dayFees 65 = .ok (.iload 4, 2) := by decide +kernel
theorem dX5_dayFees_67 : decode cX5_dayFees 67 = .ok (.imul, 1) := by decide +kernel
theorem dX5_dayFees_68 : decode cX5_dayFees 68 = .ok (.iconst 3, 1) := by decide +kernel
theorem dX5_dayFees_69 : decode cX5_dayFees 69 = .ok (.iadd, 1) := by decide +kernel
theorem dX5_dayFees_70 : decode cX5_dayFees 70 = .ok (.iaload, 1) := by decide +kernel
theorem dX5_dayFees_71 : decode cX5_dayFees 71 = .ok (.iload_n 2, 1) := by decide +kernel
theorem dX5_dayFees_72 : decode cX5_dayFees 72 = .ok (.if_icmp .ne 17, 3) := by decide +kernel
theorem dX5_dayFees_75 : decode cX5_dayFees 75 = .ok (.aload_n 0, 1) := by decide +kernel
theorem dX5_dayFees_76 : decode cX5_dayFees 76 = .ok (.getfield 44, 3) := by decide +kernel
theorem dX5_dayFees_79 : decode cX5_dayFees 79 = .ok (.iload 4, 2) := by decide +kernel
theorem dX5_dayFees_81 : decode cX5_dayFees 81 = .ok (.iaload, 1) := by decide +kernel
theorem dX5_dayFees_82 : decode cX5_dayFees 82 = .ok (.ifCond .le 7, 3) := by decide +kernel
theorem dX5_dayFees_85 : decode cX5_dayFees 85 = .ok (.iconst 1, 1) := by decide +kernel
theorem dX5_dayFees_86 : decode cX5_dayFees 86 = .ok (.goto 4, 3) := by decide +kernel
theorem dX5_dayFees_89 : decode cX5_dayFees 89 = .ok (.iconst 0, 1) := by decide +kernel
theorem dX5_dayFees_90 : decode cX5_dayFees 90 = .ok (.iadd, 1) := by decide +kernel
theorem dX5_dayFees_91 : decode cX5_dayFees 91 = .ok (.istore_n 3, 1) := by decide +kernel
theorem dX5_dayFees_92 : decode cX5_dayFees 92 = .ok (.iinc 4 1, 3) := by decide +kernel
theorem dX5_dayFees_95 : decode cX5_dayFees 95 = .ok (.goto (-58), 3) := by decide +kernel
theorem dX5_dayFees_98 : decode cX5_dayFees 98 = .ok (.iload_n 3, 1) := by decide +kernel
theorem dX5_dayFees_99 : decode cX5_dayFees 99 = .ok (.ireturn, 1) := by decide +kernel
theorem dX5_with_0 : decode cX5_with 0 = .ok (.aload_n 0, 1) := by decide +kernel
theorem dX5_with_1 : decode cX5_with 1 = .ok (.getfield 19, 3) := by decide +kernel
theorem dX5_with_4 : decode cX5_with 4 = .ok (.iload_n 1, 1) := by decide +kernel
theorem dX5_with_5 : decode cX5_with 5 = .ok (.iaload, 1) := by decide +kernel
theorem dX5_with_6 : decode cX5_with 6 = .ok (.istore_n 3, 1) := by decide +kernel
theorem dX5_with_7 : decode cX5_with 7 = .ok (.aload_n 0, 1) := by decide +kernel
theorem dX5_with_8 : decode cX5_with 8 = .ok (.getfield 19, 3) := by decide +kernel
theorem dX5_with_11 : decode cX5_with 11 = .ok (.iload_n 1, 1) := by decide +kernel
theorem dX5_with_12 : decode cX5_with 12 = .ok (.iload_n 2, 1) := by decide +kernel
theorem dX5_with_13 : decode cX5_with 13 = .ok (.iastore, 1) := by decide +kernel
theorem dX5_with_14 : decode cX5_with 14 = .ok (.aload_n 0, 1) := by decide +kernel
theorem dX5_with_15 : decode cX5_with 15 = .ok (.invokevirtual 120, 3) := by decide +kernel
theorem dX5_with_18 : decode cX5_with 18 = .ok (.aload_n 0, 1) := by decide +kernel
theorem dX5_with_19 : decode cX5_with 19 = .ok (.getfield 19, 3) := by decide +kernel
theorem dX5_with_22 : decode cX5_with 22 = .ok (.iload_n 1, 1) := by decide +kernel
theorem dX5_with_23 : decode cX5_with 23 = .ok (.iload_n 3, 1) := by decide +kernel
theorem dX5_with_24 : decode cX5_with 24 = .ok (.iastore, 1) := by decide +kernel
theorem dX5_with_25 : decode cX5_with 25 = .ok (.aload_n 0, 1) := by decide +kernel
theorem dX5_with_26 : decode cX5_with 26 = .ok (.aload_n 0, 1) := by decide +kernel
theorem dX5_with_27 : decode cX5_with 27 = .ok (.getfield 16, 3) := by decide +kernel
theorem dX5_with_30 : decode cX5_with 30 = .ok (.iload_n 1, 1) := by decide +kernel
theorem dX5_with_31 : decode cX5_with 31 = .ok (.iaload, 1) := by decide +kernel
theorem dX5_with_32 : decode cX5_with 32 = .ok (.invokevirtual 134, 3) := by decide +kernel
theorem dX5_with_35 : decode cX5_with 35 = .ok (.ireturn, 1) := by decide +kernel
theorem dX5_totalWith_0 : decode cX5_totalWith 0 = .ok (.aload_n 0, 1) := by decide +kernel
theorem dX5_totalWith_1 : decode cX5_totalWith 1 = .ok (.iconst 0, 1) := by decide +kernel
theorem dX5_totalWith_2 : decode cX5_totalWith 2 = .ok (.putfield 53, 3) := by decide +kernel
theorem dX5_totalWith_5 : decode cX5_totalWith 5 = .ok (.aload_n 0, 1) := by decide +kernel
theorem dX5_totalWith_6 : decode cX5_totalWith 6 = .ok (.iload_n 1, 1) := by decide +kernel
theorem dX5_totalWith_7 : decode cX5_totalWith 7 = .ok (.invokevirtual 91, 3) := by decide +kernel
theorem dX5_totalWith_10 : decode cX5_totalWith 10 = .ok (.ifCond .eq 20, 3) := by decide +kernel
theorem dX5_totalWith_13 : decode cX5_totalWith 13 = .ok (.aload_n 0, 1) := by decide +kernel
theorem dX5_totalWith_14 : decode cX5_totalWith 14 = .ok (.iload_n 2, 1) := by decide +kernel
theorem dX5_totalWith_15 : decode cX5_totalWith 15 = .ok (.invokevirtual 82, 3) := by decide +kernel
theorem dX5_totalWith_18 : decode cX5_totalWith 18 = .ok (.ifCond .eq 12, 3) := by decide +kernel
theorem dX5_totalWith_21 : decode cX5_totalWith 21 = .ok (.aload_n 0, 1) := by decide +kernel
theorem dX5_totalWith_22 : decode cX5_totalWith 22 = .ok (.iload_n 1, 1) := by decide +kernel
theorem dX5_totalWith_23 : decode cX5_totalWith 23 = .ok (.iload_n 2, 1) := by decide +kernel
theorem dX5_totalWith_24 : decode cX5_totalWith 24 = .ok (.invokevirtual 137, 3) := by decide +kernel
theorem dX5_totalWith_27 : decode cX5_totalWith 27 = .ok (.goto 8, 3) := by decide +kernel
theorem dX5_totalWith_30 : decode cX5_totalWith 30 = .ok (.aload_n 0, 1) := by decide +kernel
theorem dX5_totalWith_31 : decode cX5_totalWith 31 = .ok (.iconst 1, 1) := by decide +kernel
theorem dX5_totalWith_32 : decode cX5_totalWith 32 = .ok (.invokevirtual 72, 3) := by decide +kernel
theorem dX5_totalWith_35 : decode cX5_totalWith 35 = .ok (.ireturn, 1) := by decide +kernel
theorem dX5_bestTariff_0 : decode cX5_bestTariff 0 = .ok (.aload_n 0, 1) := by decide +kernel
theorem dX5_bestTariff_1 : decode cX5_bestTariff 1 = .ok (.iconst 0, 1) := by decide +kernel
theorem dX5_bestTariff_2 : decode cX5_bestTariff 2 = .ok (.putfield 53, 3) := by decide +kernel
theorem dX5_bestTariff_5 : decode cX5_bestTariff 5 = .ok (.aload_n 0, 1) := by decide +kernel
theorem dX5_bestTariff_6 : decode cX5_bestTariff 6 = .ok (.iload_n 1, 1) := by decide +kernel
theorem dX5_bestTariff_7 : decode cX5_bestTariff 7 = .ok (.invokevirtual 91, 3) := by decide +kernel
theorem dX5_bestTariff_10 : decode cX5_bestTariff 10 = .ok (.ifCond .ne 9, 3) := by decide +kernel
theorem dX5_bestTariff_13 : decode cX5_bestTariff 13 = .ok (.aload_n 0, 1) := by decide +kernel
theorem dX5_bestTariff_14 : decode cX5_bestTariff 14 = .ok (.iconst 1, 1) := by decide +kernel
theorem dX5_bestTariff_15 : decode cX5_bestTariff 15 = .ok (.invokevirtual 72, 3) := by decide +kernel
theorem dX5_bestTariff_18 : decode cX5_bestTariff 18 = .ok (.ireturn, 1) := by decide +kernel
theorem dX5_bestTariff_19 : decode cX5_bestTariff 19 = .ok (.iconst 0, 1) := by decide +kernel
theorem dX5_bestTariff_20 : decode cX5_bestTariff 20 = .ok (.istore_n 2, 1) := by decide +kernel
theorem dX5_bestTariff_21 : decode cX5_bestTariff 21 = .ok (.iconst 1, 1) := by decide +kernel
theorem dX5_bestTariff_22 : decode cX5_bestTariff 22 = .ok (.istore_n 3, 1) := by decide +kernel
theorem dX5_bestTariff_23 : decode cX5_bestTariff 23 = .ok (.iload_n 3, 1) := by decide +kernel
theorem dX5_bestTariff_24 : decode cX5_bestTariff 24 = .ok (.aload_n 0, 1) := by decide +kernel
theorem dX5_bestTariff_25 : decode cX5_bestTariff 25 = .ok (.getfield 56, 3) := by decide +kernel
theorem dX5_bestTariff_28 : decode cX5_bestTariff 28 = .ok (.if_icmp .ge 26, 3) := by decide +kernel
theorem dX5_bestTariff_31 : decode cX5_bestTariff 31 = .ok (.aload_n 0, 1) := by decide +kernel
theorem dX5_bestTariff_32 : decode cX5_bestTariff 32 = .ok (.iload_n 1, 1) := by decide +kernel
theorem dX5_bestTariff_33 : decode cX5_bestTariff 33 = .ok (.iload_n 3, 1) := by decide +kernel
theorem dX5_bestTariff_34 : decode cX5_bestTariff 34 = .ok (.invokevirtual 137, 3) := by decide +kernel
theorem dX5_bestTariff_37 : decode cX5_bestTariff 37 = .ok (.aload_n 0, 1) := by decide +kernel
theorem dX5_bestTariff_38 : decode cX5_bestTariff 38 = .ok (.iload_n 1, 1) := by decide +kernel
theorem dX5_bestTariff_39 : decode cX5_bestTariff 39 = .ok (.iload_n 2, 1) := by decide +kernel
theorem dX5_bestTariff_40 : decode cX5_bestTariff 40 = .ok (.invokevirtual 137, 3) := by decide +kernel
theorem dX5_bestTariff_43 : decode cX5_bestTariff 43 = .ok (.if_icmp .ge 5, 3) := by decide +kernel
theorem dX5_bestTariff_46 : decode cX5_bestTariff 46 = .ok (.iload_n 3, 1) := by decide +kernel
theorem dX5_bestTariff_47 : decode cX5_bestTariff 47 = .ok (.istore_n 2, 1) := by decide +kernel
theorem dX5_bestTariff_48 : decode cX5_bestTariff 48 = .ok (.iinc 3 1, 3) := by decide +kernel
theorem dX5_bestTariff_51 : decode cX5_bestTariff 51 = .ok (.goto (-28), 3) := by decide +kernel
theorem dX5_bestTariff_54 : decode cX5_bestTariff 54 = .ok (.iload_n 2, 1) := by decide +kernel
theorem dX5_bestTariff_55 : decode cX5_bestTariff 55 = .ok (.ireturn, 1) := by decide +kernel
theorem dX5_freeShare_0 : decode cX5_freeShare 0 = .ok (.aload_n 0, 1) := by decide +kernel
theorem dX5_freeShare_1 : decode cX5_freeShare 1 = .ok (.iconst 0, 1) := by decide +kernel
theorem dX5_freeShare_2 : decode cX5_freeShare 2 = .ok (.putfield 53, 3) := by decide +kernel
theorem dX5_freeShare_5 : decode cX5_freeShare 5 = .ok (.aload_n 0, 1) := by decide +kernel
theorem dX5_freeShare_6 : decode cX5_freeShare 6 = .ok (.invokevirtual 120, 3) := by decide +kernel
theorem dX5_freeShare_9 : decode cX5_freeShare 9 = .ok (.iconst 0, 1) := by decide +kernel
theorem dX5_freeShare_10 : decode cX5_freeShare 10 = .ok (.istore_n 1, 1) := by decide +kernel
theorem dX5_freeShare_11 : decode cX5_freeShare 11 = .ok (.iconst 0, 1) := by decide +kernel
theorem dX5_freeShare_12 : decode cX5_freeShare 12 = .ok (.istore_n 2, 1) := by decide +kernel
theorem dX5_freeShare_13 : decode cX5_freeShare 13 = .ok (.iconst 0, 1) := by decide +kernel
theorem dX5_freeShare_14 : decode cX5_freeShare 14 = .ok (.istore_n 3, 1) := by decide +kernel
theorem dX5_freeShare_15 : decode cX5_freeShare 15 = .ok (.iload_n 3, 1) := by decide +kernel
theorem dX5_freeShare_16 : decode cX5_freeShare 16 = .ok (.aload_n 0, 1) := by decide +kernel
theorem dX5_freeShare_17 : decode cX5_freeShare 17 = .ok (.getfield 69, 3) := by decide +kernel
theorem dX5_freeShare_20 : decode cX5_freeShare 20 = .ok (.if_icmp .ge 27, 3) := by decide +kernel
theorem dX5_freeShare_23 : decode cX5_freeShare 23 = .ok (.iload_n 1, 1) := by decide +kernel
theorem dX5_freeShare_24 : decode cX5_freeShare 24 = .ok (.aload_n 0, 1) := by decide +kernel
theorem dX5_freeShare_25 : decode cX5_freeShare 25 = .ok (.getfield 35, 3) := by decide +kernel
theorem dX5_freeShare_28 : decode cX5_freeShare 28 = .ok (.iload_n 3, 1) := by decide +kernel
theorem dX5_freeShare_29 : decode cX5_freeShare 29 = .ok (.iaload, 1) := by decide +kernel
theorem dX5_freeShare_30 : decode cX5_freeShare 30 = .ok (.iadd, 1) := by decide +kernel
theorem dX5_freeShare_31 : decode cX5_freeShare 31 = .ok (.istore_n 1, 1) := by decide +kernel
theorem dX5_freeShare_32 : decode cX5_freeShare 32 = .ok (.iload_n 2, 1) := by decide +kernel
theorem dX5_freeShare_33 : decode cX5_freeShare 33 = .ok (.aload_n 0, 1) := by decide +kernel
theorem dX5_freeShare_34 : decode cX5_freeShare 34 = .ok (.getfield 38, 3) := by decide +kernel
theorem dX5_freeShare_37 : decode cX5_freeShare 37 = .ok (.iload_n 3, 1) := by decide +kernel
theorem dX5_freeShare_38 : decode cX5_freeShare 38 = .ok (.iaload, 1) := by decide +kernel
theorem dX5_freeShare_39 : decode cX5_freeShare 39 = .ok (.iadd, 1) := by decide +kernel
theorem dX5_freeShare_40 : decode cX5_freeShare 40 = .ok (.istore_n 2, 1) := by decide +kernel
theorem dX5_freeShare_41 : decode cX5_freeShare 41 = .ok (.iinc 3 1, 3) := by decide +kernel
theorem dX5_freeShare_44 : decode cX5_freeShare 44 = .ok (.goto (-29), 3) := by decide +kernel
theorem dX5_freeShare_47 : decode cX5_freeShare 47 = .ok (.iload_n 1, 1) := by decide +kernel
theorem dX5_freeShare_48 : decode cX5_freeShare 48 = .ok (.ifCond .ne 7, 3) := by decide +kernel
theorem dX5_freeShare_51 : decode cX5_freeShare 51 = .ok (.dconst 0, 1) := by decide +kernel
theorem dX5_freeShare_52 : decode cX5_freeShare 52 = .ok (.goto 8, 3) := by decide +kernel
theorem dX5_freeShare_55 : decode cX5_freeShare 55 = .ok (.iload_n 2, 1) := by decide +kernel
theorem dX5_freeShare_56 : decode cX5_freeShare 56 = .ok (.i2d, 1) := by decide +kernel
theorem dX5_freeShare_57 : decode cX5_freeShare 57 = .ok (.iload_n 1, 1) := by decide +kernel
theorem dX5_freeShare_58 : decode cX5_freeShare 58 = .ok (.i2d, 1) := by decide +kernel
theorem dX5_freeShare_59 : decode cX5_freeShare 59 = .ok (.ddiv, 1) := by decide +kernel
theorem dX5_freeShare_60 : decode cX5_freeShare 60 = .ok (.dreturn, 1) := by decide +kernel
theorem dX5_digest_0 : decode cX5_digest 0 = .ok (.aload_n 0, 1) := by decide +kernel
theorem dX5_digest_1 : decode cX5_digest 1 = .ok (.iconst 0, 1) := by decide +kernel
theorem dX5_digest_2 : decode cX5_digest 2 = .ok (.putfield 53, 3) := by decide +kernel
theorem dX5_digest_5 : decode cX5_digest 5 = .ok (.aload_n 0, 1) := by decide +kernel
theorem dX5_digest_6 : decode cX5_digest 6 = .ok (.invokevirtual 120, 3) := by decide +kernel
theorem dX5_digest_9 : decode cX5_digest 9 = .ok (.ldc2_w 140, 3) := by decide +kernel
theorem dX5_digest_12 : decode cX5_digest 12 = .ok (.aload_n 0, 1) := by decide +kernel
theorem dX5_digest_13 : decode cX5_digest 13 = .ok (.getfield 56, 3) := by decide +kernel
theorem dX5_digest_16 : decode cX5_digest 16 = .ok (.i2l, 1) := by decide +kernel
theorem dX5_digest_17 : decode cX5_digest 17 = .ok (.ladd, 1) := by decide +kernel
theorem dX5_digest_18 : decode cX5_digest 18 = .ok (.ldc2_w 142, 3) := by decide +kernel
theorem dX5_digest_21 : decode cX5_digest 21 = .ok (.lmul, 1) := by decide +kernel
theorem dX5_digest_22 : decode cX5_digest 22 = .ok (.aload_n 0, 1) := by decide +kernel
theorem dX5_digest_23 : decode cX5_digest 23 = .ok (.getfield 63, 3) := by decide +kernel
theorem dX5_digest_26 : decode cX5_digest 26 = .ok (.i2l, 1) := by decide +kernel
theorem dX5_digest_27 : decode cX5_digest 27 = .ok (.ladd, 1) := by decide +kernel
theorem dX5_digest_28 : decode cX5_digest 28 = .ok (.ldc2_w 142, 3) := by decide +kernel
theorem dX5_digest_31 : decode cX5_digest 31 = .ok (.lmul, 1) := by decide +kernel
theorem dX5_digest_32 : decode cX5_digest 32 = .ok (.aload_n 0, 1) := by decide +kernel
theorem dX5_digest_33 : decode cX5_digest 33 = .ok (.getfield 66, 3) := by decide +kernel
theorem dX5_digest_36 : decode cX5_digest 36 = .ok (.i2l, 1) := by decide +kernel
theorem dX5_digest_37 : decode cX5_digest 37 = .ok (.ladd, 1) := by decide +kernel
theorem dX5_digest_38 : decode cX5_digest 38 = .ok (.ldc2_w 142, 3) := by decide +kernel
theorem dX5_digest_41 : decode cX5_digest 41 = .ok (.lmul, 1) := by decide +kernel
theorem dX5_digest_42 : decode cX5_digest 42 = .ok (.aload_n 0, 1) := by decide +kernel
theorem dX5_digest_43 : decode cX5_digest 43 = .ok (.getfield 69, 3) := by decide +kernel
theorem dX5_digest_46 : decode cX5_digest 46 = .ok (.i2l, 1) := by decide +kernel
theorem dX5_digest_47 : decode cX5_digest 47 = .ok (.ladd, 1) := by decide +kernel
theorem dX5_digest_48 : decode cX5_digest 48 = .ok (.lstore_n 1, 1) := by decide +kernel
theorem dX5_digest_49 : decode cX5_digest 49 = .ok (.lload_n 1, 1) := by decide +kernel
theorem dX5_digest_50 : decode cX5_digest 50 = .ok (.ldc2_w 142, 3) := by decide +kernel
theorem dX5_digest_53 : decode cX5_digest 53 = .ok (.lmul, 1) := by decide +kernel
theorem dX5_digest_54 : decode cX5_digest 54 = .ok (.aload_n 0, 1) := by decide +kernel
theorem dX5_digest_55 : decode cX5_digest 55 = .ok (.getfield 25, 3) := by decide +kernel
theorem dX5_digest_58 : decode cX5_digest 58 = .ok (.i2l, 1) := by decide +kernel
theorem dX5_digest_59 : decode cX5_digest 59 = .ok (.ladd, 1) := by decide +kernel
theorem dX5_digest_60 : decode cX5_digest 60 = .ok (.ldc2_w 142, 3) := by decide +kernel
theorem dX5_digest_63 : decode cX5_digest 63 = .ok (.lmul, 1) := by decide +kernel
theorem dX5_digest_64 : decode cX5_digest 64 = .ok (.aload_n 0, 1) := by decide +kernel
theorem dX5_digest_65 : decode cX5_digest 65 = .ok (.getfield 29, 3) := by decide +kernel
theorem dX5_digest_68 : decode cX5_digest 68 = .ok (.i2l, 1) := by decide +kernel
theorem dX5_digest_69 : decode cX5_digest 69 = .ok (.ladd, 1) := by decide +kernel
theorem dX5_digest_70 : decode cX5_digest 70 = .ok (.lstore_n 1, 1) := by decide +kernel
theorem dX5_digest_71 : decode cX5_digest 71 = .ok (.iconst 0, 1) := by decide +kernel
theorem dX5_digest_72 : decode cX5_digest 72 = .ok (.istore_n 3, 1) := by decide +kernel
theorem dX5_digest_73 : decode cX5_digest 73 = .ok (.iload_n 3, 1) := by decide +kernel
theorem dX5_digest_74 : decode cX5_digest 74 = .ok (.aload_n 0, 1) := by decide +kernel
theorem dX5_digest_75 : decode cX5_digest 75 = .ok (.getfield 66, 3) := by decide +kernel
theorem dX5_digest_78 : decode cX5_digest 78 = .ok (.if_icmp .ge 34, 3) := by decide +kernel
theorem dX5_digest_81 : decode cX5_digest 81 = .ok (.lload_n 1, 1) := by decide +kernel
theorem dX5_digest_82 : decode cX5_digest 82 = .ok (.ldc2_w 142, 3) := by decide +kernel
theorem dX5_digest_85 : decode cX5_digest 85 = .ok (.lmul, 1) := by decide +kernel
theorem dX5_digest_86 : decode cX5_digest 86 = .ok (.aload_n 0, 1) := by decide +kernel
theorem dX5_digest_87 : decode cX5_digest 87 = .ok (.getfield 19, 3) := by decide +kernel
theorem dX5_digest_90 : decode cX5_digest 90 = .ok (.iload_n 3, 1) := by decide +kernel
theorem dX5_digest_91 : decode cX5_digest 91 = .ok (.iaload, 1) := by decide +kernel
theorem dX5_digest_92 : decode cX5_digest 92 = .ok (.i2l, 1) := by decide +kernel
theorem dX5_digest_93 : decode cX5_digest 93 = .ok (.ladd, 1) := by decide +kernel
theorem dX5_digest_94 : decode cX5_digest 94 = .ok (.ldc2_w 142, 3) := by decide +kernel
theorem dX5_digest_97 : decode cX5_digest 97 = .ok (.lmul, 1) := by decide +kernel
theorem dX5_digest_98 : decode cX5_digest 98 = .ok (.aload_n 0, 1) := by decide +kernel
theorem dX5_digest_99 : decode cX5_digest 99 = .ok (.iload_n 3, 1) := by decide +kernel
theorem dX5_digest_100 : decode cX5_digest 100 = .ok (.invokevirtual 126, 3) := by decide +kernel
theorem dX5_digest_103 : decode cX5_digest 103 = .ok (.i2l, 1) := by decide +kernel
theorem dX5_digest_104 : decode cX5_digest 104 = .ok (.ladd, 1) := by decide +kernel
theorem dX5_digest_105 : decode cX5_digest 105 = .ok (.lstore_n 1, 1) := by decide +kernel
theorem dX5_digest_106 : decode cX5_digest 106 = .ok (.iinc 3 1, 3) := by decide +kernel
theorem dX5_digest_109 : decode cX5_digest 109 = .ok (.goto (-36), 3) := by decide +kernel
theorem dX5_digest_112 : decode cX5_digest 112 = .ok (.iconst 0, 1) := by decide +kernel
theorem dX5_digest_113 : decode cX5_digest 113 = .ok (.istore_n 3, 1) := by decide +kernel
theorem dX5_digest_114 : decode cX5_digest 114 = .ok (.iload_n 3, 1) := by decide +kernel
theorem dX5_digest_115 : decode cX5_digest 115 = .ok (.aload_n 0, 1) := by decide +kernel
theorem dX5_digest_116 : decode cX5_digest 116 = .ok (.getfield 63, 3) := by decide +kernel
theorem dX5_digest_119 : decode cX5_digest 119 = .ok (.if_icmp .ge 59, 3) := by decide +kernel
theorem dX5_digest_122 : decode cX5_digest 122 = .ok (.lload_n 1, 1) := by decide +kernel
theorem dX5_digest_123 : decode cX5_digest 123 = .ok (.ldc2_w 142, 3) := by decide +kernel
theorem dX5_digest_126 : decode cX5_digest 126 = .ok (.lmul, 1) := by decide +kernel
theorem dX5_digest_127 : decode cX5_digest 127 = .ok (.aload_n 0, 1) := by decide +kernel
theorem dX5_digest_128 : decode cX5_digest 128 = .ok (.getfield 13, 3) := by decide +kernel
theorem dX5_digest_131 : decode cX5_digest 131 = .ok (.iconst 3, 1) := by decide +kernel
theorem dX5_digest_132 : decode cX5_digest 132 = .ok (.iload_n 3, 1) := by decide +kernel
theorem dX5_digest_133 : decode cX5_digest 133 = .ok (.imul, 1) := by decide +kernel
theorem dX5_digest_134 : decode cX5_digest 134 = .ok (.iaload, 1) := by decide +kernel
theorem dX5_digest_135 : decode cX5_digest 135 = .ok (.i2l, 1) := by decide +kernel
theorem dX5_digest_136 : decode cX5_digest 136 = .ok (.ladd, 1) := by decide +kernel
theorem dX5_digest_137 : decode cX5_digest 137 = .ok (.ldc2_w 142, 3) := by decide +kernel
theorem dX5_digest_140 : decode cX5_digest 140 = .ok (.lmul, 1) := by decide +kernel
theorem dX5_digest_141 : decode cX5_digest 141 = .ok (.aload_n 0, 1) := by decide +kernel
theorem dX5_digest_142 : decode cX5_digest 142 = .ok (.iload_n 3, 1) := by decide +kernel
theorem dX5_digest_143 : decode cX5_digest 143 = .ok (.invokevirtual 129, 3) := by decide +kernel
theorem dX5_digest_146 : decode cX5_digest 146 = .ok (.i2l, 1) := by decide +kernel
theorem dX5_digest_147 : decode cX5_digest 147 = .ok (.ladd, 1) := by decide +kernel
theorem dX5_digest_148 : decode cX5_digest 148 = .ok (.ldc2_w 142, 3) := by decide +kernel
theorem dX5_digest_151 : decode cX5_digest 151 = .ok (.lmul, 1) := by decide +kernel
theorem dX5_digest_152 : decode cX5_digest 152 = .ok (.aload_n 0, 1) := by decide +kernel
theorem dX5_digest_153 : decode cX5_digest 153 = .ok (.iload_n 3, 1) := by decide +kernel
theorem dX5_digest_154 : decode cX5_digest 154 = .ok (.invokevirtual 134, 3) := by decide +kernel
theorem dX5_digest_157 : decode cX5_digest 157 = .ok (.i2l, 1) := by decide +kernel
theorem dX5_digest_158 : decode cX5_digest 158 = .ok (.ladd, 1) := by decide +kernel
theorem dX5_digest_159 : decode cX5_digest 159 = .ok (.ldc2_w 142, 3) := by decide +kernel
theorem dX5_digest_162 : decode cX5_digest 162 = .ok (.lmul, 1) := by decide +kernel
theorem dX5_digest_163 : decode cX5_digest 163 = .ok (.aload_n 0, 1) := by decide +kernel
theorem dX5_digest_164 : decode cX5_digest 164 = .ok (.getfield 47, 3) := by decide +kernel
theorem dX5_digest_167 : decode cX5_digest 167 = .ok (.iload_n 3, 1) := by decide +kernel
theorem dX5_digest_168 : decode cX5_digest 168 = .ok (.iaload, 1) := by decide +kernel
theorem dX5_digest_169 : decode cX5_digest 169 = .ok (.i2l, 1) := by decide +kernel
theorem dX5_digest_170 : decode cX5_digest 170 = .ok (.ladd, 1) := by decide +kernel
theorem dX5_digest_171 : decode cX5_digest 171 = .ok (.lstore_n 1, 1) := by decide +kernel
theorem dX5_digest_172 : decode cX5_digest 172 = .ok (.iinc 3 1, 3) := by decide +kernel
theorem dX5_digest_175 : decode cX5_digest 175 = .ok (.goto (-61), 3) := by decide +kernel
theorem dX5_digest_178 : decode cX5_digest 178 = .ok (.iconst 0, 1) := by decide +kernel
theorem dX5_digest_179 : decode cX5_digest 179 = .ok (.istore_n 3, 1) := by decide +kernel
theorem dX5_digest_180 : decode cX5_digest 180 = .ok (.iload_n 3, 1) := by decide +kernel
theorem dX5_digest_181 : decode cX5_digest 181 = .ok (.aload_n 0, 1) := by decide +kernel
theorem dX5_digest_182 : decode cX5_digest 182 = .ok (.getfield 69, 3) := by decide +kernel
theorem dX5_digest_185 : decode cX5_digest 185 = .ok (.if_icmp .ge 58, 3) := by decide +kernel
theorem dX5_digest_188 : decode cX5_digest 188 = .ok (.lload_n 1, 1) := by decide +kernel
theorem dX5_digest_189 : decode cX5_digest 189 = .ok (.ldc2_w 142, 3) := by decide +kernel
theorem dX5_digest_192 : decode cX5_digest 192 = .ok (.lmul, 1) := by decide +kernel
theorem dX5_digest_193 : decode cX5_digest 193 = .ok (.aload_n 0, 1) := by decide +kernel
theorem dX5_digest_194 : decode cX5_digest 194 = .ok (.getfield 32, 3) := by decide +kernel
theorem dX5_digest_197 : decode cX5_digest 197 = .ok (.iload_n 3, 1) := by decide +kernel
theorem dX5_digest_198 : decode cX5_digest 198 = .ok (.iaload, 1) := by decide +kernel
theorem dX5_digest_199 : decode cX5_digest 199 = .ok (.i2l, 1) := by decide +kernel
theorem dX5_digest_200 : decode cX5_digest 200 = .ok (.ladd, 1) := by decide +kernel
theorem dX5_digest_201 : decode cX5_digest 201 = .ok (.lstore_n 1, 1) := by decide +kernel
theorem dX5_digest_202 : decode cX5_digest 202 = .ok (.iconst 0, 1) := by decide +kernel
theorem dX5_digest_203 : decode cX5_digest 203 = .ok (.istore 4, 2) := by decide +kernel
theorem dX5_digest_205 : decode cX5_digest 205 = .ok (.iload 4, 2) := by decide +kernel
theorem dX5_digest_207 : decode cX5_digest 207 = .ok (.iconst 5, 1) := by decide +kernel
theorem dX5_digest_208 : decode cX5_digest 208 = .ok (.if_icmp .ge 29, 3) := by decide +kernel
theorem dX5_digest_211 : decode cX5_digest 211 = .ok (.lload_n 1, 1) := by decide +kernel
theorem dX5_digest_212 : decode cX5_digest 212 = .ok (.ldc2_w 142, 3) := by decide +kernel
theorem dX5_digest_215 : decode cX5_digest 215 = .ok (.lmul, 1) := by decide +kernel
theorem dX5_digest_216 : decode cX5_digest 216 = .ok (.aload_n 0, 1) := by decide +kernel
theorem dX5_digest_217 : decode cX5_digest 217 = .ok (.aload_n 0, 1) := by decide +kernel
theorem dX5_digest_218 : decode cX5_digest 218 = .ok (.getfield 32, 3) := by decide +kernel
theorem dX5_digest_221 : decode cX5_digest 221 = .ok (.iload_n 3, 1) := by decide +kernel
theorem dX5_digest_222 : decode cX5_digest 222 = .ok (.iaload, 1) := by decide +kernel
theorem dX5_digest_223 : decode cX5_digest 223 = .ok (.iload 4, 2) := by decide +kernel
theorem dX5_digest_225 : decode cX5_digest 225 = .ok (.invokevirtual 123, 3) := by decide +kernel
theorem dX5_digest_228 : decode cX5_digest 228 = .ok (.i2l, 1) := by decide +kernel
theorem dX5_digest_229 : decode cX5_digest 229 = .ok (.ladd, 1) := by decide +kernel
theorem dX5_digest_230 : decode cX5_digest 230 = .ok (.lstore_n 1, 1) := by decide +kernel
theorem dX5_digest_231 : decode cX5_digest 231 = .ok (.iinc 4 1, 3) := by decide +kernel
theorem dX5_digest_234 : decode cX5_digest 234 = .ok (.goto (-29), 3) := by decide +kernel
theorem dX5_digest_237 : decode cX5_digest 237 = .ok (.iinc 3 1, 3) := by decide +kernel
theorem dX5_digest_240 : decode cX5_digest 240 = .ok (.goto (-60), 3) := by decide +kernel
theorem dX5_digest_243 : decode cX5_digest 243 = .ok (.lload_n 1, 1) := by decide +kernel
theorem dX5_digest_244 : decode cX5_digest 244 = .ok (.lreturn, 1) := by decide +kernel
