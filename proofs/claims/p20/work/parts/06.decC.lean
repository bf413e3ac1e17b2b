theorem dX5_init_0 : decode cX5_init 0 = .ok (.aload_n 0, 1) := by decide +kernel
theorem dX5_init_1 : decode cX5_init 1 = .ok (.invokespecial 1, 3) := by decide +kernel
theorem dX5_init_4 : decode cX5_init 4 = .ok (.aload_n 0, 1) := by decide +kernel
theorem dX5_init_5 : decode cX5_init 5 = .ok (.bipush 50, 2) := by decide +kernel
theorem dX5_init_7 : decode cX5_init 7 = .ok (.putfield 7, 3) := by decide +kernel
theorem dX5_init_10 : decode cX5_init 10 = .ok (.aload_n 0, 1) := by decide +kernel
theorem dX5_init_11 : decode cX5_init 11 = .ok (.bipush 6, 2) := by decide +kernel
theorem dX5_init_13 : decode cX5_init 13 = .ok (.newarray .int, 2) := by decide +kernel
theorem dX5_init_15 : decode cX5_init 15 = .ok (.putfield 13, 3) := by decide +kernel
theorem dX5_init_18 : decode cX5_init 18 = .ok (.aload_n 0, 1) := by decide +kernel
theorem dX5_init_19 : decode cX5_init 19 = .ok (.iconst 0, 1) := by decide +kernel
theorem dX5_init_20 : decode cX5_init 20 = .ok (.anewarray 17, 3) := by decide +kernel
theorem dX5_init_23 : decode cX5_init 23 = .ok (.putfield 18, 3) := by decide +kernel
theorem dX5_init_26 : decode cX5_init 26 = .ok (.aload_n 0, 1) := by decide +kernel
theorem dX5_init_27 : decode cX5_init 27 = .ok (.iconst 0, 1) := by decide +kernel
theorem dX5_init_28 : decode cX5_init 28 = .ok (.anewarray 17, 3) := by decide +kernel
theorem dX5_init_31 : decode cX5_init 31 = .ok (.putfield 22, 3) := by decide +kernel
theorem dX5_init_34 : decode cX5_init 34 = .ok (.aload_n 0, 1) := by decide +kernel
theorem dX5_init_35 : decode cX5_init 35 = .ok (.iconst 0, 1) := by decide +kernel
theorem dX5_init_36 : decode cX5_init 36 = .ok (.anewarray 17, 3) := by decide +kernel
theorem dX5_init_39 : decode cX5_init 39 = .ok (.putfield 25, 3) := by decide +kernel
theorem dX5_init_42 : decode cX5_init 42 = .ok (.return_, 1) := by decide +kernel
theorem dX5_more_0 : decode cX5_more 0 = .ok (.aload_n 0, 1) := by decide +kernel
theorem dX5_more_1 : decode cX5_more 1 = .ok (.arraylength, 1) := by decide +kernel
theorem dX5_more_2 : decode cX5_more 2 = .ok (.iconst 1, 1) := by decide +kernel
theorem dX5_more_3 : decode cX5_more 3 = .ok (.iadd, 1) := by decide +kernel
theorem dX5_more_4 : decode cX5_more 4 = .ok (.anewarray 17, 3) := by decide +kernel
theorem dX5_more_7 : decode cX5_more 7 = .ok (.astore_n 2, 1) := by decide +kernel
theorem dX5_more_8 : decode cX5_more 8 = .ok (.iconst 0, 1) := by decide +kernel
theorem dX5_more_9 : decode cX5_more 9 = .ok (.istore_n 3, 1) := by decide +kernel
theorem dX5_more_10 : decode cX5_more 10 = .ok (.iload_n 3, 1) := by decide +kernel
theorem dX5_more_11 : decode cX5_more 11 = .ok (.aload_n 0, 1) := by decide +kernel
theorem dX5_more_12 : decode cX5_more 12 = .ok (.arraylength, 1) := by decide +kernel
theorem dX5_more_13 : decode cX5_more 13 = .ok (.if_icmp .ge 15, 3) := by decide +kernel
theorem dX5_more_16 : decode cX5_more 16 = .ok (.aload_n 2, 1) := by decide +kernel
theorem dX5_more_17 : decode cX5_more 17 = .ok (.iload_n 3, 1) := by decide +kernel
theorem dX5_more_18 : decode cX5_more 18 = .ok (.aload_n 0, 1) := by decide +kernel
theorem dX5_more_19 : decode cX5_more 19 = .ok (.iload_n 3, 1) := by decide +kernel
theorem dX5_more_20 : decode cX5_more 20 = .ok (.aaload, 1) := by decide +kernel
theorem dX5_more_21 : decode cX5_more 21 = .ok (.aastore, 1) := by decide +kernel
theorem dX5_more_22 : decode cX5_more 22 = .ok (.iinc 3 1, 3) := by decide +kernel
theorem dX5_more_25 : decode cX5_more 25 = .ok (.goto (-15), 3) := by decide +kernel
theorem dX5_more_28 : decode cX5_more 28 = .ok (.aload_n 2, 1) := by decide +kernel
theorem dX5_more_29 : decode cX5_more 29 = .ok (.aload_n 0, 1) := by decide +kernel
theorem dX5_more_30 : decode cX5_more 30 = .ok (.arraylength, 1) := by decide +kernel
theorem dX5_more_31 : decode cX5_more 31 = .ok (.aload_n 1, 1) := by decide +kernel
theorem dX5_more_32 : decode cX5_more 32 = .ok (.aastore, 1) := by decide +kernel
theorem dX5_more_33 : decode cX5_more 33 = .ok (.aload_n 2, 1) := by decide +kernel
theorem dX5_more_34 : decode cX5_more 34 = .ok (.areturn, 1) := by decide +kernel
theorem dX5_aims_0 : decode cX5_aims 0 = .ok (.iconst 0, 1) := by decide +kernel
theorem dX5_aims_1 : decode cX5_aims 1 = .ok (.istore_n 2, 1) := by decide +kernel
theorem dX5_aims_2 : decode cX5_aims 2 = .ok (.iload_n 2, 1) := by decide +kernel
theorem dX5_aims_3 : decode cX5_aims 3 = .ok (.aload_n 1, 1) := by decide +kernel
theorem dX5_aims_4 : decode cX5_aims 4 = .ok (.iconst 1, 1) := by decide +kernel
theorem dX5_aims_5 : decode cX5_aims 5 = .ok (.iaload, 1) := by decide +kernel
theorem dX5_aims_6 : decode cX5_aims 6 = .ok (.if_icmp .gt 80, 3) := by decide +kernel
theorem dX5_aims_9 : decode cX5_aims 9 = .ok (.aload_n 1, 1) := by decide +kernel
theorem dX5_aims_10 : decode cX5_aims 10 = .ok (.iconst 2, 1) := by decide +kernel
theorem dX5_aims_11 : decode cX5_aims 11 = .ok (.iaload, 1) := by decide +kernel
theorem dX5_aims_12 : decode cX5_aims 12 = .ok (.ifCond .le 74, 3) := by decide +kernel
theorem dX5_aims_15 : decode cX5_aims 15 = .ok (.iconst 0, 1) := by decide +kernel
theorem dX5_aims_16 : decode cX5_aims 16 = .ok (.istore_n 3, 1) := by decide +kernel
theorem dX5_aims_17 : decode cX5_aims 17 = .ok (.iload_n 3, 1) := by decide +kernel
theorem dX5_aims_18 : decode cX5_aims 18 = .ok (.aload_n 0, 1) := by decide +kernel
theorem dX5_aims_19 : decode cX5_aims 19 = .ok (.getfield 25, 3) := by decide +kernel
theorem dX5_aims_22 : decode cX5_aims 22 = .ok (.arraylength, 1) := by decide +kernel
theorem dX5_aims_23 : decode cX5_aims 23 = .ok (.if_icmp .ge 57, 3) := by decide +kernel
theorem dX5_aims_26 : decode cX5_aims 26 = .ok (.aload_n 0, 1) := by decide +kernel
theorem dX5_aims_27 : decode cX5_aims 27 = .ok (.getfield 25, 3) := by decide +kernel
theorem dX5_aims_30 : decode cX5_aims 30 = .ok (.iload_n 3, 1) := by decide +kernel
theorem dX5_aims_31 : decode cX5_aims 31 = .ok (.aaload, 1) := by decide +kernel
theorem dX5_aims_32 : decode cX5_aims 32 = .ok (.astore 4, 2) := by decide +kernel
theorem dX5_aims_34 : decode cX5_aims 34 = .ok (.aload 4, 2) := by decide +kernel
theorem dX5_aims_36 : decode cX5_aims 36 = .ok (.iconst 3, 1) := by decide +kernel
theorem dX5_aims_37 : decode cX5_aims 37 = .ok (.iaload, 1) := by decide +kernel
theorem dX5_aims_38 : decode cX5_aims 38 = .ok (.ifCond .ne 36, 3) := by decide +kernel
theorem dX5_aims_41 : decode cX5_aims 41 = .ok (.aload 4, 2) := by decide +kernel
theorem dX5_aims_43 : decode cX5_aims 43 = .ok (.iconst 2, 1) := by decide +kernel
theorem dX5_aims_44 : decode cX5_aims 44 = .ok (.iaload, 1) := by decide +kernel
theorem dX5_aims_45 : decode cX5_aims 45 = .ok (.ifCond .le 29, 3) := by decide +kernel
theorem dX5_aims_48 : decode cX5_aims 48 = .ok (.aload 4, 2) := by decide +kernel
theorem dX5_aims_50 : decode cX5_aims 50 = .ok (.iconst 0, 1) := by decide +kernel
theorem dX5_aims_51 : decode cX5_aims 51 = .ok (.iaload, 1) := by decide +kernel
theorem dX5_aims_52 : decode cX5_aims 52 = .ok (.aload_n 1, 1) := by decide +kernel
theorem dX5_aims_53 : decode cX5_aims 53 = .ok (.iconst 0, 1) := by decide +kernel
theorem dX5_aims_54 : decode cX5_aims 54 = .ok (.iaload, 1) := by decide +kernel
theorem dX5_aims_55 : decode cX5_aims 55 = .ok (.iload_n 2, 1) := by decide +kernel
theorem dX5_aims_56 : decode cX5_aims 56 = .ok (.isub, 1) := by decide +kernel
theorem dX5_aims_57 : decode cX5_aims 57 = .ok (.if_icmp .eq 15, 3) := by decide +kernel
theorem dX5_aims_60 : decode cX5_aims 60 = .ok (.aload 4, 2) := by decide +kernel
theorem dX5_aims_62 : decode cX5_aims 62 = .ok (.iconst 0, 1) := by decide +kernel
theorem dX5_aims_63 : decode cX5_aims 63 = .ok (.iaload, 1) := by decide +kernel
theorem dX5_aims_64 : decode cX5_aims 64 = .ok (.aload_n 1, 1) := by decide +kernel
theorem dX5_aims_65 : decode cX5_aims 65 = .ok (.iconst 0, 1) := by decide +kernel
theorem dX5_aims_66 : decode cX5_aims 66 = .ok (.iaload, 1) := by decide +kernel
theorem dX5_aims_67 : decode cX5_aims 67 = .ok (.iload_n 2, 1) := by decide +kernel
theorem dX5_aims_68 : decode cX5_aims 68 = .ok (.iadd, 1) := by decide +kernel
theorem dX5_aims_69 : decode cX5_aims 69 = .ok (.if_icmp .ne 5, 3) := by decide +kernel
theorem dX5_aims_72 : decode cX5_aims 72 = .ok (.iload_n 3, 1) := by decide +kernel
theorem dX5_aims_73 : decode cX5_aims 73 = .ok (.ireturn, 1) := by decide +kernel
theorem dX5_aims_74 : decode cX5_aims 74 = .ok (.iinc 3 1, 3) := by decide +kernel
theorem dX5_aims_77 : decode cX5_aims 77 = .ok (.goto (-60), 3) := by decide +kernel
theorem dX5_aims_80 : decode cX5_aims 80 = .ok (.iinc 2 1, 3) := by decide +kernel
theorem dX5_aims_83 : decode cX5_aims 83 = .ok (.goto (-81), 3) := by decide +kernel
theorem dX5_aims_86 : decode cX5_aims 86 = .ok (.iconst (-1), 1) := by decide +kernel
theorem dX5_aims_87 : decode cX5_aims 87 = .ok (.ireturn, 1) := by decide +kernel
theorem dX5_pass_0 : decode cX5_pass 0 = .ok (.aload_n 0, 1) := by decide +kernel
theorem dX5_pass_1 : decode cX5_pass 1 = .ok (.getfield 13, 3) := by decide +kernel
theorem dX5_pass_4 : decode cX5_pass 4 = .ok (.aload_n 0, 1) := by decide +kernel
theorem dX5_pass_5 : decode cX5_pass 5 = .ok (.getfield 32, 3) := by decide +kernel
theorem dX5_pass_8 : decode cX5_pass 8 = .ok (.bipush 6, 2) := by decide +kernel
theorem dX5_pass_10 : decode cX5_pass 10 = .ok (.irem, 1) := by decide +kernel
theorem dX5_pass_11 : decode cX5_pass 11 = .ok (.iaload, 1) := by decide +kernel
theorem dX5_pass_12 : decode cX5_pass 12 = .ok (.istore_n 1, 1) := by decide +kernel
theorem dX5_pass_13 : decode cX5_pass 13 = .ok (.aload_n 0, 1) := by decide +kernel
theorem dX5_pass_14 : decode cX5_pass 14 = .ok (.getfield 25, 3) := by decide +kernel
theorem dX5_pass_17 : decode cX5_pass 17 = .ok (.astore_n 2, 1) := by decide +kernel
theorem dX5_pass_18 : decode cX5_pass 18 = .ok (.aload_n 2, 1) := by decide +kernel
theorem dX5_pass_19 : decode cX5_pass 19 = .ok (.arraylength, 1) := by decide +kernel
theorem dX5_pass_20 : decode cX5_pass 20 = .ok (.istore_n 3, 1) := by decide +kernel
theorem dX5_pass_21 : decode cX5_pass 21 = .ok (.iconst 0, 1) := by decide +kernel
theorem dX5_pass_22 : decode cX5_pass 22 = .ok (.istore 4, 2) := by decide +kernel
theorem dX5_pass_24 : decode cX5_pass 24 = .ok (.iload 4, 2) := by decide +kernel
theorem dX5_pass_26 : decode cX5_pass 26 = .ok (.iload_n 3, 1) := by decide +kernel
theorem dX5_pass_27 : decode cX5_pass 27 = .ok (.if_icmp .ge 64, 3) := by decide +kernel
theorem dX5_pass_30 : decode cX5_pass 30 = .ok (.aload_n 2, 1) := by decide +kernel
theorem dX5_pass_31 : decode cX5_pass 31 = .ok (.iload 4, 2) := by decide +kernel
theorem dX5_pass_33 : decode cX5_pass 33 = .ok (.aaload, 1) := by decide +kernel
theorem dX5_pass_34 : decode cX5_pass 34 = .ok (.astore 5, 2) := by decide +kernel
theorem dX5_pass_36 : decode cX5_pass 36 = .ok (.aload 5, 2) := by decide +kernel
theorem dX5_pass_38 : decode cX5_pass 38 = .ok (.iconst 3, 1) := by decide +kernel
theorem dX5_pass_39 : decode cX5_pass 39 = .ok (.iaload, 1) := by decide +kernel
theorem dX5_pass_40 : decode cX5_pass 40 = .ok (.iconst 1, 1) := by decide +kernel
theorem dX5_pass_41 : decode cX5_pass 41 = .ok (.if_icmp .ne 6, 3) := by decide +kernel
theorem dX5_pass_44 : decode cX5_pass 44 = .ok (.goto 41, 3) := by decide +kernel
theorem dX5_pass_47 : decode cX5_pass 47 = .ok (.aload 5, 2) := by decide +kernel
theorem dX5_pass_49 : decode cX5_pass 49 = .ok (.iconst 0, 1) := by decide +kernel
theorem dX5_pass_50 : decode cX5_pass 50 = .ok (.dup2, 1) := by decide +kernel
theorem dX5_pass_51 : decode cX5_pass 51 = .ok (.iaload, 1) := by decide +kernel
theorem dX5_pass_52 : decode cX5_pass 52 = .ok (.iload_n 1, 1) := by decide +kernel
theorem dX5_pass_53 : decode cX5_pass 53 = .ok (.aload 5, 2) := by decide +kernel
theorem dX5_pass_55 : decode cX5_pass 55 = .ok (.iconst 1, 1) := by decide +kernel
theorem dX5_pass_56 : decode cX5_pass 56 = .ok (.iaload, 1) := by decide +kernel
theorem dX5_pass_57 : decode cX5_pass 57 = .ok (.iadd, 1) := by decide +kernel
theorem dX5_pass_58 : decode cX5_pass 58 = .ok (.iadd, 1) := by decide +kernel
theorem dX5_pass_59 : decode cX5_pass 59 = .ok (.iastore, 1) := by decide +kernel
theorem dX5_pass_60 : decode cX5_pass 60 = .ok (.aload 5, 2) := by decide +kernel
theorem dX5_pass_62 : decode cX5_pass 62 = .ok (.iconst 3, 1) := by decide +kernel
theorem dX5_pass_63 : decode cX5_pass 63 = .ok (.aload 5, 2) := by decide +kernel
theorem dX5_pass_65 : decode cX5_pass 65 = .ok (.iconst 0, 1) := by decide +kernel
theorem dX5_pass_66 : decode cX5_pass 66 = .ok (.iaload, 1) := by decide +kernel
theorem dX5_pass_67 : decode cX5_pass 67 = .ok (.ifCond .lt 12, 3) := by decide +kernel
theorem dX5_pass_70 : decode cX5_pass 70 = .ok (.aload 5, 2) := by decide +kernel
theorem dX5_pass_72 : decode cX5_pass 72 = .ok (.iconst 0, 1) := by decide +kernel
theorem dX5_pass_73 : decode cX5_pass 73 = .ok (.iaload, 1) := by decide +kernel
theorem dX5_pass_74 : decode cX5_pass 74 = .ok (.bipush 29, 2) := by decide +kernel
theorem dX5_pass_76 : decode cX5_pass 76 = .ok (.if_icmp .le 7, 3) := by decide +kernel
theorem dX5_pass_79 : decode cX5_pass 79 = .ok (.iconst 1, 1) := by decide +kernel
theorem dX5_pass_80 : decode cX5_pass 80 = .ok (.goto 4, 3) := by decide +kernel
theorem dX5_pass_83 : decode cX5_pass 83 = .ok (.iconst 0, 1) := by decide +kernel
theorem dX5_pass_84 : decode cX5_pass 84 = .ok (.iastore, 1) := by decide +kernel
theorem dX5_pass_85 : decode cX5_pass 85 = .ok (.iinc 4 1, 3) := by decide +kernel
theorem dX5_pass_88 : decode cX5_pass 88 = .ok (.goto (-64), 3) := by decide +kernel
theorem dX5_pass_91 : decode cX5_pass 91 = .ok (.aload_n 0, 1) := by decide +kernel
theorem dX5_pass_92 : decode cX5_pass 92 = .ok (.getfield 22, 3) := by decide +kernel
theorem dX5_pass_95 : decode cX5_pass 95 = .ok (.astore_n 2, 1) := by decide +kernel
theorem dX5_pass_96 : decode cX5_pass 96 = .ok (.aload_n 2, 1) := by decide +kernel
theorem dX5_pass_97 : decode cX5_pass 97 = .ok (.arraylength, 1) := by decide +kernel
theorem dX5_pass_98 : decode cX5_pass 98 = .ok (.istore_n 3, 1) := by decide +kernel
theorem dX5_pass_99 : decode cX5_pass 99 = .ok (.iconst 0, 1) := by decide +kernel
theorem dX5_pass_100 : decode cX5_pass 100 = .ok (.istore 4, 2) := by decide +kernel
theorem dX5_pass_102 : decode cX5_pass 102 = .ok (.iload 4, 2) := by decide +kernel
theorem dX5_pass_104 : decode cX5_pass 104 = .ok (.iload_n 3, 1) := by decide +kernel
theorem dX5_pass_105 : decode cX5_pass 105 = .ok (.if_icmp .ge 200, 3) := by decide +kernel
theorem dX5_pass_108 : decode cX5_pass 108 = .ok (.aload_n 2, 1) := by decide +kernel
theorem dX5_pass_109 : decode cX5_pass 109 = .ok (.iload 4, 2) := by decide +kernel
theorem dX5_pass_111 : decode cX5_pass 111 = .ok (.aaload, 1) := by decide +kernel
theorem dX5_pass_112 : decode cX5_pass 112 = .ok (.astore 5, 2) := by decide +kernel
theorem dX5_pass_114 : decode cX5_pass 114 = .ok (.aload_n 0, 1) := by decide +kernel
theorem dX5_pass_115 : decode cX5_pass 115 = .ok (.aload 5, 2) := by decide +kernel
theorem dX5_pass_117 : decode cX5_pass 117 = .ok (.invokevirtual 35, 3) := by decide +kernel
theorem dX5_pass_120 : decode cX5_pass 120 = .ok (.istore 6, 2) := by decide +kernel
theorem dX5_pass_122 : decode cX5_pass 122 = .ok (.iload 6, 2) := by decide +kernel
theorem dX5_pass_124 : decode cX5_pass 124 = .ok (.ifCond .ge 6, 3) := by decide +kernel
theorem dX5_pass_127 : decode cX5_pass 127 = .ok (.goto 172, 3) := by decide +kernel
theorem dX5_pass_130 : decode cX5_pass 130 = .ok (.aload_n 0, 1) := by decide +kernel
theorem dX5_pass_131 : decode cX5_pass 131 = .ok (.getfield 25, 3) := by decide +kernel
theorem dX5_pass_134 : decode cX5_pass 134 = .ok (.iload 6, 2) := by decide +kernel
theorem dX5_pass_136 : decode cX5_pass 136 = .ok (.aaload, 1) := by decide +kernel
theorem dX5_pass_137 : decode cX5_pass 137 = .ok (.astore 7, 2) := by decide +kernel
theorem dX5_pass_139 : decode cX5_pass 139 = .ok (.aload 5, 2) := by decide +kernel
theorem dX5_pass_141 : decode cX5_pass 141 = .ok (.iconst 0, 1) := by decide +kernel
theorem dX5_pass_142 : decode cX5_pass 142 = .ok (.iaload, 1) := by decide +kernel
theorem dX5_pass_143 : decode cX5_pass 143 = .ok (.aload 7, 2) := by decide +kernel
theorem dX5_pass_145 : decode cX5_pass 145 = .ok (.iconst 0, 1) := by decide +kernel
theorem dX5_pass_146 : decode cX5_pass 146 = .ok (.iaload, 1) := by decide +kernel
theorem dX5_pass_147 : decode cX5_pass 147 = .ok (.if_icmp .le 15, 3) := by decide +kernel
theorem dX5_pass_150 : decode cX5_pass 150 = .ok (.aload 5, 2) := by decide +kernel
theorem dX5_pass_152 : decode cX5_pass 152 = .ok (.iconst 0, 1) := by decide +kernel
theorem dX5_pass_153 : decode cX5_pass 153 = .ok (.iaload, 1) := by decide +kernel
theorem dX5_pass_154 : decode cX5_pass 154 = .ok (.aload 7, 2) := by decide +kernel
theorem dX5_pass_156 : decode cX5_pass 156 = .ok (.iconst 0, 1) := by decide +kernel
theorem dX5_pass_157 : decode cX5_pass 157 = .ok (.iaload, 1) := by decide +kernel
theorem dX5_pass_158 : decode cX5_pass 158 = .ok (.isub, 1) := by decide +kernel
theorem dX5_pass_159 : decode cX5_pass 159 = .ok (.goto 12, 3) := by decide +kernel
theorem dX5_pass_162 : decode cX5_pass 162 = .ok (.aload 7, 2) := by decide +kernel
theorem dX5_pass_164 : decode cX5_pass 164 = .ok (.iconst 0, 1) := by decide +kernel
theorem dX5_pass_165 : decode cX5_pass 165 = .ok (.iaload, 1) := by decide +kernel
theorem dX5_pass_166 : decode cX5_pass 166 = .ok (.aload 5, 2) := by decide +kernel
theorem dX5_pass_168 : decode cX5_pass 168 = .ok (.iconst 0, 1) := by decide +kernel
theorem dX5_pass_169 : decode cX5_pass 169 = .ok (.iaload, 1) := by decide +kernel
theorem dX5_pass_170 : decode cX5_pass 170 = .ok (.isub, 1) := by decide +kernel
theorem dX5_pass_171 : decode cX5_pass 171 = .ok (.istore 8, 2) := by decide +kernel
theorem dX5_pass_173 : decode cX5_pass 173 = .ok (.aload 5, 2) := by decide +kernel
theorem dX5_pass_175 : decode cX5_pass 175 = .ok (.iconst 1, 1) := by decide +kernel
theorem dX5_pass_176 : decode cX5_pass 176 = .ok (.iaload, 1) := by decide +kernel
theorem dX5_pass_177 : decode cX5_pass 177 = .ok (.iload 8, 2) := by decide +kernel
theorem dX5_pass_179 : decode cX5_pass 179 = .ok (.isub, 1) := by decide +kernel
theorem dX5_pass_180 : decode cX5_pass 180 = .ok (.iconst 1, 1) := by decide +kernel
theorem dX5_pass_181 : decode cX5_pass 181 = .ok (.iadd, 1) := by decide +kernel
theorem dX5_pass_182 : decode cX5_pass 182 = .ok (.istore 9, 2) := by decide +kernel
theorem dX5_pass_184 : decode cX5_pass 184 = .ok (.aload 7, 2) := by decide +kernel
theorem dX5_pass_186 : decode cX5_pass 186 = .ok (.iconst 2, 1) := by decide +kernel
theorem dX5_pass_187 : decode cX5_pass 187 = .ok (.aload 7, 2) := by decide +kernel
theorem dX5_pass_189 : decode cX5_pass 189 = .ok (.iconst 2, 1) := by decide +kernel
theorem dX5_pass_190 : decode cX5_pass 190 = .ok (.iaload, 1) := by decide +kernel
theorem dX5_pass_191 : decode cX5_pass 191 = .ok (.iload 9, 2) := by decide +kernel
theorem dX5_pass_193 : decode cX5_pass 193 = .ok (.if_icmp .le 13, 3) := by decide +kernel
theorem dX5_pass_196 : decode cX5_pass 196 = .ok (.aload 7, 2) := by decide +kernel
theorem dX5_pass_198 : decode cX5_pass 198 = .ok (.iconst 2, 1) := by decide +kernel
theorem dX5_pass_199 : decode cX5_pass 199 = .ok (.iaload, 1) := by decide +kernel
theorem dX5_pass_200 : decode cX5_pass 200 = .ok (.iload 9, 2) := by decide +kernel
theorem dX5_pass_202 : decode cX5_pass 202 = .ok (.isub, 1) := by decide +kernel
theorem dX5_pass_203 : decode cX5_pass 203 = .ok (.goto 4, 3) := by decide +kernel
theorem dX5_pass_206 : decode cX5_pass 206 = .ok (.iconst 0, 1) := by decide +kernel
theorem dX5_pass_207 : decode cX5_pass 207 = .ok (.iastore, 1) := by decide +kernel
theorem dX5_pass_208 : decode cX5_pass 208 = .ok (.aload 5, 2) := by decide +kernel
theorem dX5_pass_210 : decode cX5_pass 210 = .ok (.iconst 2, 1) := by decide +kernel
theorem dX5_pass_211 : decode cX5_pass 211 = .ok (.dup2, 1) := by decide +kernel
theorem dX5_pass_212 : decode cX5_pass 212 = .ok (.iaload, 1) := by decide +kernel
theorem dX5_pass_213 : decode cX5_pass 213 = .ok (.iconst 1, 1) := by decide +kernel
theorem dX5_pass_214 : decode cX5_pass 214 = .ok (.isub, 1) := by decide +kernel
theorem dX5_pass_215 : decode cX5_pass 215 = .ok (.iastore, 1) := by decide +kernel
theorem dX5_pass_216 : decode cX5_pass 216 = .ok (.aload 5, 2) := by decide +kernel
theorem dX5_pass_218 : decode cX5_pass 218 = .ok (.iconst 3, 1) := by decide +kernel
theorem dX5_pass_219 : decode cX5_pass 219 = .ok (.dup2, 1) := by decide +kernel
theorem dX5_pass_220 : decode cX5_pass 220 = .ok (.iaload, 1) := by decide +kernel
theorem dX5_pass_221 : decode cX5_pass 221 = .ok (.iconst 1, 1) := by decide +kernel
theorem dX5_pass_222 : decode cX5_pass 222 = .ok (.iadd, 1) := by decide +kernel
theorem dX5_pass_223 : decode cX5_pass 223 = .ok (.iastore, 1) := by decide +kernel
theorem dX5_pass_224 : decode cX5_pass 224 = .ok (.aload_n 0, 1) := by decide +kernel
theorem dX5_pass_225 : decode cX5_pass 225 = .ok (.getfield 18, 3) := by decide +kernel
theorem dX5_pass_228 : decode cX5_pass 228 = .ok (.astore 10, 2) := by decide +kernel
theorem dX5_pass_230 : decode cX5_pass 230 = .ok (.aload 10, 2) := by decide +kernel
theorem dX5_pass_232 : decode cX5_pass 232 = .ok (.arraylength, 1) := by decide +kernel
theorem dX5_pass_233 : decode cX5_pass 233 = .ok (.istore 11, 2) := by decide +kernel
theorem dX5_pass_235 : decode cX5_pass 235 = .ok (.iconst 0, 1) := by decide +kernel
theorem dX5_pass_236 : decode cX5_pass 236 = .ok (.istore 12, 2) := by decide +kernel
theorem dX5_pass_238 : decode cX5_pass 238 = .ok (.iload 12, 2) := by decide +kernel
theorem dX5_pass_240 : decode cX5_pass 240 = .ok (.iload 11, 2) := by decide +kernel
theorem dX5_pass_242 : decode cX5_pass 242 = .ok (.if_icmp .ge 57, 3) := by decide +kernel
theorem dX5_pass_245 : decode cX5_pass 245 = .ok (.aload 10, 2) := by decide +kernel
theorem dX5_pass_247 : decode cX5_pass 247 = .ok (.iload 12, 2) := by decide +kernel
theorem dX5_pass_249 : decode cX5_pass 249 = .ok (.aaload, 1) := by decide +kernel
theorem dX5_pass_250 : decode cX5_pass 250 = .ok (.astore 13, 2) := by decide +kernel
theorem dX5_pass_252 : decode cX5_pass 252 = .ok (.aload 13, 2) := by decide +kernel
theorem dX5_pass_254 : decode cX5_pass 254 = .ok (.iconst 2, 1) := by decide +kernel
theorem dX5_pass_255 : decode cX5_pass 255 = .ok (.iaload, 1) := by decide +kernel
theorem dX5_pass_256 : decode cX5_pass 256 = .ok (.ifCond .ne 37, 3) := by decide +kernel
theorem dX5_pass_259 : decode cX5_pass 259 = .ok (.aload 13, 2) := by decide +kernel
theorem dX5_pass_261 : decode cX5_pass 261 = .ok (.iconst 0, 1) := by decide +kernel
theorem dX5_pass_262 : decode cX5_pass 262 = .ok (.iaload, 1) := by decide +kernel
theorem dX5_pass_263 : decode cX5_pass 263 = .ok (.aload 5, 2) := by decide +kernel
theorem dX5_pass_265 : decode cX5_pass 265 = .ok (.iconst 0, 1) := by decide +kernel
theorem dX5_pass_266 : decode cX5_pass 266 = .ok (.iaload, 1) := by decide +kernel
theorem dX5_pass_267 : decode cX5_pass 267 = .ok (.iconst 2, 1) := by decide +kernel
theorem dX5_pass_268 : decode cX5_pass 268 = .ok (.isub, 1) := by decide +kernel
theorem dX5_pass_269 : decode cX5_pass 269 = .ok (.if_icmp .lt 24, 3) := by decide +kernel
theorem dX5_pass_272 : decode cX5_pass 272 = .ok (.aload 13, 2) := by decide +kernel
theorem dX5_pass_274 : decode cX5_pass 274 = .ok (.iconst 0, 1) := by decide +kernel
theorem dX5_pass_275 : decode cX5_pass 275 = .ok (.iaload, 1) := by decide +kernel
theorem dX5_pass_276 : decode cX5_pass 276 = .ok (.aload 5, 2) := by decide +kernel
theorem dX5_pass_278 : decode cX5_pass 278 = .ok (.iconst 0, 1) := by decide +kernel
theorem dX5_pass_279 : decode cX5_pass 279 = .ok (.iaload, 1) := by decide +kernel
theorem dX5_pass_280 : decode cX5_pass 280 = .ok (.iconst 2, 1) := by decide +kernel
theorem dX5_pass_281 : decode cX5_pass 281 = .ok (.iadd, 1) := by decide +kernel
theorem dX5_pass_282 : decode cX5_pass 282 = .ok (.if_icmp .gt 11, 3) := by decide +kernel
theorem dX5_pass_285 : decode cX5_pass 285 = .ok (.aload 13, 2) := by decide +kernel
theorem dX5_pass_287 : decode cX5_pass 287 = .ok (.iconst 5, 1) := by decide +kernel
theorem dX5_pass_288 : decode cX5_pass 288 = .ok (.dup2, 1) := by decide +kernel
theorem dX5_pass_289 : decode cX5_pass 289 = .ok (.iaload, 1) := by decide +kernel
theorem dX5_pass_290 : decode cX5_pass 290 = .ok (.iconst 1, 1) := by decide +kernel
theorem dX5_pass_291 : decode cX5_pass 291 = .ok (.iadd, 1) := by decide +kernel
theorem dX5_pass_292 : decode cX5_pass 292 = .ok (.iastore, 1) := by decide +kernel
theorem dX5_pass_293 : decode cX5_pass 293 = .ok (.iinc 12 1, 3) := by decide +kernel
theorem dX5_pass_296 : decode cX5_pass 296 = .ok (.goto (-58), 3) := by decide +kernel
theorem dX5_pass_299 : decode cX5_pass 299 = .ok (.iinc 4 1, 3) := by decide +kernel
theorem dX5_pass_302 : decode cX5_pass 302 = .ok (.goto (-200), 3) := by decide +kernel
theorem dX5_pass_305 : decode cX5_pass 305 = .ok (.iconst 0, 1) := by decide +kernel
theorem dX5_pass_306 : decode cX5_pass 306 = .ok (.istore_n 2, 1) := by decide +kernel
theorem dX5_pass_307 : decode cX5_pass 307 = .ok (.aload_n 0, 1) := by decide +kernel
theorem dX5_pass_308 : decode cX5_pass 308 = .ok (.getfield 25, 3) := by decide +kernel
theorem dX5_pass_311 : decode cX5_pass 311 = .ok (.astore_n 3, 1) := by decide +kernel
theorem dX5_pass_312 : decode cX5_pass 312 = .ok (.aload_n 3, 1) := by decide +kernel
theorem dX5_pass_313 : decode cX5_pass 313 = .ok (.arraylength, 1) := by decide +kernel
theorem dX5_pass_314 : decode cX5_pass 314 = .ok (.istore 4, 2) := by decide +kernel
theorem dX5_pass_316 : decode cX5_pass 316 = .ok (.iconst 0, 1) := by decide +kernel
theorem dX5_pass_317 : decode cX5_pass 317 = .ok (.istore 5, 2) := by decide +kernel
theorem dX5_pass_319 : decode cX5_pass 319 = .ok (.iload 5, 2) := by decide +kernel
theorem dX5_pass_321 : decode cX5_pass 321 = .ok (.iload 4, 2) := by decide +kernel
theorem dX5_pass_323 : decode cX5_pass 323 = .ok (.if_icmp .ge 155, 3) := by decide +kernel
theorem dX5_pass_326 : decode cX5_pass 326 = .ok (.aload_n 3, 1) := by decide +kernel
theorem dX5_pass_327 : decode cX5_pass 327 = .ok (.iload 5, 2) := by decide +kernel
theorem dX5_pass_329 : decode cX5_pass 329 = .ok (.aaload, 1) := by decide +kernel
theorem dX5_pass_330 : decode cX5_pass 330 = .ok (.astore 6, 2) := by decide +kernel
theorem dX5_pass_332 : decode cX5_pass 332 = .ok (.aload 6, 2) := by decide +kernel
theorem dX5_pass_334 : decode cX5_pass 334 = .ok (.iconst 3, 1) := by decide +kernel
theorem dX5_pass_335 : decode cX5_pass 335 = .ok (.iaload, 1) := by decide +kernel
theorem dX5_pass_336 : decode cX5_pass 336 = .ok (.iconst 1, 1) := by decide +kernel
theorem dX5_pass_337 : decode cX5_pass 337 = .ok (.if_icmp .ne 6, 3) := by decide +kernel
theorem dX5_pass_340 : decode cX5_pass 340 = .ok (.goto 132, 3) := by decide +kernel
theorem dX5_pass_343 : decode cX5_pass 343 = .ok (.iconst 0, 1) := by decide +kernel
theorem dX5_pass_344 : decode cX5_pass 344 = .ok (.istore 7, 2) := by decide +kernel
theorem dX5_pass_346 : decode cX5_pass 346 = .ok (.iload 7, 2) := by decide +kernel
theorem dX5_pass_348 : decode cX5_pass 348 = .ok (.iconst 4, 1) := by decide +kernel
theorem dX5_pass_349 : decode cX5_pass 349 = .ok (.if_icmp .ge 123, 3) := by decide +kernel
theorem dX5_pass_352 : decode cX5_pass 352 = .ok (.aload 6, 2) := by decide +kernel
theorem dX5_pass_354 : decode cX5_pass 354 = .ok (.iconst 2, 1) := by decide +kernel
theorem dX5_pass_355 : decode cX5_pass 355 = .ok (.iaload, 1) := by decide +kernel
theorem dX5_pass_356 : decode cX5_pass 356 = .ok (.ifCond .le 116, 3) := by decide +kernel
theorem dX5_pass_359 : decode cX5_pass 359 = .ok (.aload 6, 2) := by decide +kernel
theorem dX5_pass_361 : decode cX5_pass 361 = .ok (.iconst 2, 1) := by decide +kernel
theorem dX5_pass_362 : decode cX5_pass 362 = .ok (.dup2, 1) := by decide +kernel
theorem dX5_pass_363 : decode cX5_pass 363 = .ok (.iaload, 1) := by decide +kernel
theorem dX5_pass_364 : decode cX5_pass 364 = .ok (.iconst 1, 1) := by decide +kernel
theorem dX5_pass_365 : decode cX5_pass 365 = .ok (.isub, 1) := by decide +kernel
theorem dX5_pass_366 : decode cX5_pass 366 = .ok (.iastore, 1) := by decide +kernel
theorem dX5_pass_367 : decode cX5_pass 367 = .ok (.aload_n 0, 1) := by decide +kernel
theorem dX5_pass_368 : decode cX5_pass 368 = .ok (.getfield 18, 3) := by decide +kernel
theorem dX5_pass_371 : decode cX5_pass 371 = .ok (.astore 8, 2) := by decide +kernel
theorem dX5_pass_373 : decode cX5_pass 373 = .ok (.aload 8, 2) := by decide +kernel
theorem dX5_pass_375 : decode cX5_pass 375 = .ok (.arraylength, 1) := by decide +kernel
theorem dX5_pass_376 : decode cX5_pass 376 = .ok (.istore 9, 2) := by decide +kernel
theorem dX5_pass_378 : decode cX5_pass 378 = .ok (.iconst 0, 1) := by decide +kernel
theorem dX5_pass_379 : decode cX5_pass 379 = .ok (.istore 10, 2) := by decide +kernel
theorem dX5_pass_381 : decode cX5_pass 381 = .ok (.iload 10, 2) := by decide +kernel
theorem dX5_pass_383 : decode cX5_pass 383 = .ok (.iload 9, 2) := by decide +kernel
theorem dX5_pass_385 : decode cX5_pass 385 = .ok (.if_icmp .ge 81, 3) := by decide +kernel
theorem dX5_pass_388 : decode cX5_pass 388 = .ok (.aload 8, 2) := by decide +kernel
theorem dX5_pass_390 : decode cX5_pass 390 = .ok (.iload 10, 2) := by decide +kernel
theorem dX5_pass_392 : decode cX5_pass 392 = .ok (.aaload, 1) := by decide +kernel
theorem dX5_pass_393 : decode cX5_pass 393 = .ok (.astore 11, 2) := by decide +kernel
theorem dX5_pass_395 : decode cX5_pass 395 = .ok (.aload 11, 2) := by decide +kernel
theorem dX5_pass_397 : decode cX5_pass 397 = .ok (.iconst 0, 1) := by decide +kernel
theorem dX5_pass_398 : decode cX5_pass 398 = .ok (.iaload, 1) := by decide +kernel
theorem dX5_pass_399 : decode cX5_pass 399 = .ok (.aload 6, 2) := by decide +kernel
theorem dX5_pass_401 : decode cX5_pass 401 = .ok (.iconst 0, 1) := by decide +kernel
theorem dX5_pass_402 : decode cX5_pass 402 = .ok (.iaload, 1) := by decide +kernel
theorem dX5_pass_403 : decode cX5_pass 403 = .ok (.if_icmp .eq 6, 3) := by decide +kernel
theorem dX5_pass_406 : decode cX5_pass 406 = .ok (.goto 54, 3) := by decide +kernel
theorem dX5_pass_409 : decode cX5_pass 409 = .ok (.aload 11, 2) := by decide +kernel
theorem dX5_pass_411 : decode cX5_pass 411 = .ok (.iconst 1, 1) := by decide +kernel
theorem dX5_pass_412 : decode cX5_pass 412 = .ok (.iaload, 1) := by decide +kernel
theorem dX5_pass_413 : decode cX5_pass 413 = .ok (.iconst 1, 1) := by decide +kernel
theorem dX5_pass_414 : decode cX5_pass 414 = .ok (.if_icmp .le 7, 3) := by decide +kernel
theorem dX5_pass_417 : decode cX5_pass 417 = .ok (.iconst 2, 1) := by decide +kernel
theorem dX5_pass_418 : decode cX5_pass 418 = .ok (.goto 7, 3) := by decide +kernel
theorem dX5_pass_421 : decode cX5_pass 421 = .ok (.aload 11, 2) := by decide +kernel
theorem dX5_pass_423 : decode cX5_pass 423 = .ok (.iconst 1, 1) := by decide +kernel
theorem dX5_pass_424 : decode cX5_pass 424 = .ok (.iaload, 1) := by decide +kernel
theorem dX5_pass_425 : decode cX5_pass 425 = .ok (.istore 12, 2) := by decide +kernel
theorem dX5_pass_427 : decode cX5_pass 427 = .ok (.aload 11, 2) := by decide +kernel
theorem dX5_pass_429 : decode cX5_pass 429 = .ok (.iconst 1, 1) := by decide +kernel
theorem dX5_pass_430 : decode cX5_pass 430 = .ok (.dup2, 1) := by decide +kernel
theorem dX5_pass_431 : decode cX5_pass 431 = .ok (.iaload, 1) := by decide +kernel
theorem dX5_pass_432 : decode cX5_pass 432 = .ok (.iload 12, 2) := by decide +kernel
theorem dX5_pass_434 : decode cX5_pass 434 = .ok (.isub, 1) := by decide +kernel
theorem dX5_pass_435 : decode cX5_pass 435 = .ok (.iastore, 1) := by decide +kernel
theorem dX5_pass_436 : decode cX5_pass 436 = .ok (.aload 11, 2) := by decide +kernel
theorem dX5_pass_438 : decode cX5_pass 438 = .ok (.iconst 4, 1) := by decide +kernel
theorem dX5_pass_439 : decode cX5_pass 439 = .ok (.dup2, 1) := by decide +kernel
theorem dX5_pass_440 : decode cX5_pass 440 = .ok (.iaload, 1) := by decide +kernel
theorem dX5_pass_441 : decode cX5_pass 441 = .ok (.iload 12, 2) := by decide +kernel
theorem dX5_pass_443 : decode cX5_pass 443 = .ok (.iadd, 1) := by decide +kernel
theorem dX5_pass_444 : decode cX5_pass 444 = .ok (.iastore, 1) := by decide +kernel
theorem dX5_pass_445 : decode cX5_pass 445 = .ok (.aload 11, 2) := by decide +kernel
theorem dX5_pass_447 : decode cX5_pass 447 = .ok (.bipush 6, 2) := by decide +kernel
theorem dX5_pass_449 : decode cX5_pass 449 = .ok (.dup2, 1) := by decide +kernel
theorem dX5_pass_450 : decode cX5_pass 450 = .ok (.iaload, 1) := by decide +kernel
theorem dX5_pass_451 : decode cX5_pass 451 = .ok (.iload 12, 2) := by decide +kernel
theorem dX5_pass_453 : decode cX5_pass 453 = .ok (.iadd, 1) := by decide +kernel
theorem dX5_pass_454 : decode cX5_pass 454 = .ok (.iastore, 1) := by decide +kernel
theorem dX5_pass_455 : decode cX5_pass 455 = .ok (.iload_n 2, 1) := by decide +kernel
theorem dX5_pass_456 : decode cX5_pass 456 = .ok (.iload 12, 2) := by decide +kernel
theorem dX5_pass_458 : decode cX5_pass 458 = .ok (.iadd, 1) := by decide +kernel
theorem dX5_pass_459 : decode cX5_pass 459 = .ok (.istore_n 2, 1) := by decide +kernel
theorem dX5_pass_460 : decode cX5_pass 460 = .ok (.iinc 10 1, 3) := by decide +kernel
theorem dX5_pass_463 : decode cX5_pass 463 = .ok (.goto (-82), 3) := by decide +kernel
theorem dX5_pass_466 : decode cX5_pass 466 = .ok (.iinc 7 1, 3) := by decide +kernel
theorem dX5_pass_469 : decode cX5_pass 469 = .ok (.goto (-123), 3) := by decide +kernel
theorem dX5_pass_472 : decode cX5_pass 472 = .ok (.iinc 5 1, 3) := by decide +kernel
theorem dX5_pass_475 : decode cX5_pass 475 = .ok (.goto (-156), 3) := by decide +kernel
theorem dX5_pass_478 : decode cX5_pass 478 = .ok (.aload_n 0, 1) := by decide +kernel
theorem dX5_pass_479 : decode cX5_pass 479 = .ok (.getfield 32, 3) := by decide +kernel
theorem dX5_pass_482 : decode cX5_pass 482 = .ok (.bipush 24, 2) := by decide +kernel
theorem dX5_pass_484 : decode cX5_pass 484 = .ok (.irem, 1) := by decide +kernel
theorem dX5_pass_485 : decode cX5_pass 485 = .ok (.bipush 23, 2) := by decide +kernel
theorem dX5_pass_487 : decode cX5_pass 487 = .ok (.if_icmp .ne 106, 3) := by decide +kernel
theorem dX5_pass_490 : decode cX5_pass 490 = .ok (.aload_n 0, 1) := by decide +kernel
theorem dX5_pass_491 : decode cX5_pass 491 = .ok (.getfield 18, 3) := by decide +kernel
theorem dX5_pass_494 : decode cX5_pass 494 = .ok (.astore_n 3, 1) := by decide +kernel
theorem dX5_pass_495 : decode cX5_pass 495 = .ok (.aload_n 3, 1) := by decide +kernel
theorem dX5_pass_496 : decode cX5_pass 496 = .ok (.arraylength, 1) := by decide +kernel
theorem dX5_pass_497 : decode cX5_pass 497 = .ok (.istore 4, 2) := by decide +kernel
theorem dX5_pass_499 : decode cX5_pass 499 = .ok (.iconst 0, 1) := by decide +kernel
theorem dX5_pass_500 : decode cX5_pass 500 = .ok (.istore 5, 2) := by decide +kernel
theorem dX5_pass_502 : decode cX5_pass 502 = .ok (.iload 5, 2) := by decide +kernel
theorem dX5_pass_504 : decode cX5_pass 504 = .ok (.iload 4, 2) := by decide +kernel
theorem dX5_pass_506 : decode cX5_pass 506 = .ok (.if_icmp .ge 87, 3) := by decide +kernel
theorem dX5_pass_509 : decode cX5_pass 509 = .ok (.aload_n 3, 1) := by decide +kernel
theorem dX5_pass_510 : decode cX5_pass 510 = .ok (.iload 5, 2) := by decide +kernel
theorem dX5_pass_512 : decode cX5_pass 512 = .ok (.aaload, 1) := by decide +kernel
theorem dX5_pass_513 : decode cX5_pass 513 = .ok (.astore 6, 2) := by decide +kernel
theorem dX5_pass_515 : decode cX5_pass 515 = .ok (.aload_n 0, 1) := by decide +kernel
theorem dX5_pass_516 : decode cX5_pass 516 = .ok (.dup, 1) := by decide +kernel
theorem dX5_pass_517 : decode cX5_pass 517 = .ok (.getfield 7, 3) := by decide +kernel
theorem dX5_pass_520 : decode cX5_pass 520 = .ok (.aload 6, 2) := by decide +kernel
theorem dX5_pass_522 : decode cX5_pass 522 = .ok (.iconst 5, 1) := by decide +kernel
theorem dX5_pass_523 : decode cX5_pass 523 = .ok (.iaload, 1) := by decide +kernel
theorem dX5_pass_524 : decode cX5_pass 524 = .ok (.isub, 1) := by decide +kernel
theorem dX5_pass_525 : decode cX5_pass 525 = .ok (.putfield 7, 3) := by decide +kernel
theorem dX5_pass_528 : decode cX5_pass 528 = .ok (.aload 6, 2) := by decide +kernel
theorem dX5_pass_530 : decode cX5_pass 530 = .ok (.iconst 3, 1) := by decide +kernel
theorem dX5_pass_531 : decode cX5_pass 531 = .ok (.iaload, 1) := by decide +kernel
theorem dX5_pass_532 : decode cX5_pass 532 = .ok (.iconst 1, 1) := by decide +kernel
theorem dX5_pass_533 : decode cX5_pass 533 = .ok (.if_icmp .ne 20, 3) := by decide +kernel
theorem dX5_pass_536 : decode cX5_pass 536 = .ok (.aload_n 0, 1) := by decide +kernel
theorem dX5_pass_537 : decode cX5_pass 537 = .ok (.aload_n 0, 1) := by decide +kernel
theorem dX5_pass_538 : decode cX5_pass 538 = .ok (.getfield 7, 3) := by decide +kernel
theorem dX5_pass_541 : decode cX5_pass 541 = .ok (.iconst 1, 1) := by decide +kernel
theorem dX5_pass_542 : decode cX5_pass 542 = .ok (.iadd, 1) := by decide +kernel
theorem dX5_pass_543 : decode cX5_pass 543 = .ok (.aload 6, 2) := by decide +kernel
theorem dX5_pass_545 : decode cX5_pass 545 = .ok (.iconst 4, 1) := by decide +kernel
theorem dX5_pass_546 : decode cX5_pass 546 = .ok (.iaload, 1) := by decide +kernel
theorem dX5_pass_547 : decode cX5_pass 547 = .ok (.iconst 2, 1) := by decide +kernel
theorem dX5_pass_548 : decode cX5_pass 548 = .ok (.idiv, 1) := by decide +kernel
theorem dX5_pass_549 : decode cX5_pass 549 = .ok (.isub, 1) := by decide +kernel
theorem dX5_pass_550 : decode cX5_pass 550 = .ok (.putfield 7, 3) := by decide +kernel
theorem dX5_pass_553 : decode cX5_pass 553 = .ok (.aload 6, 2) := by decide +kernel
theorem dX5_pass_555 : decode cX5_pass 555 = .ok (.iconst 4, 1) := by decide +kernel
theorem dX5_pass_556 : decode cX5_pass 556 = .ok (.iconst 0, 1) := by decide +kernel
theorem dX5_pass_557 : decode cX5_pass 557 = .ok (.iastore, 1) := by decide +kernel
theorem dX5_pass_558 : decode cX5_pass 558 = .ok (.aload 6, 2) := by decide +kernel
theorem dX5_pass_560 : decode cX5_pass 560 = .ok (.iconst 5, 1) := by decide +kernel
theorem dX5_pass_561 : decode cX5_pass 561 = .ok (.iconst 0, 1) := by decide +kernel
theorem dX5_pass_562 : decode cX5_pass 562 = .ok (.iastore, 1) := by decide +kernel
theorem dX5_pass_563 : decode cX5_pass 563 = .ok (.aload 6, 2) := by decide +kernel
theorem dX5_pass_565 : decode cX5_pass 565 = .ok (.iconst 1, 1) := by decide +kernel
theorem dX5_pass_566 : decode cX5_pass 566 = .ok (.iaload, 1) := by decide +kernel
theorem dX5_pass_567 : decode cX5_pass 567 = .ok (.ifCond .le 20, 3) := by decide +kernel
theorem dX5_pass_570 : decode cX5_pass 570 = .ok (.aload 6, 2) := by decide +kernel
theorem dX5_pass_572 : decode cX5_pass 572 = .ok (.iconst 1, 1) := by decide +kernel
theorem dX5_pass_573 : decode cX5_pass 573 = .ok (.iaload, 1) := by decide +kernel
theorem dX5_pass_574 : decode cX5_pass 574 = .ok (.bipush 99, 2) := by decide +kernel
theorem dX5_pass_576 : decode cX5_pass 576 = .ok (.if_icmp .ge 11, 3) := by decide +kernel
theorem dX5_pass_579 : decode cX5_pass 579 = .ok (.aload 6, 2) := by decide +kernel
theorem dX5_pass_581 : decode cX5_pass 581 = .ok (.iconst 1, 1) := by decide +kernel
theorem dX5_pass_582 : decode cX5_pass 582 = .ok (.dup2, 1) := by decide +kernel
theorem dX5_pass_583 : decode cX5_pass 583 = .ok (.iaload, 1) := by decide +kernel
theorem dX5_pass_584 : decode cX5_pass 584 = .ok (.iconst 1, 1) := by decide +kernel
theorem dX5_pass_585 : decode cX5_pass 585 = .ok (.iadd, 1) := by decide +kernel
theorem dX5_pass_586 : decode cX5_pass 586 = .ok (.iastore, 1) := by decide +kernel
theorem dX5_pass_587 : decode cX5_pass 587 = .ok (.iinc 5 1, 3) := by decide +kernel
theorem dX5_pass_590 : decode cX5_pass 590 = .ok (.goto (-88), 3) := by decide +kernel
theorem dX5_pass_593 : decode cX5_pass 593 = .ok (.aload_n 0, 1) := by decide +kernel
theorem dX5_pass_594 : decode cX5_pass 594 = .ok (.dup, 1) := by decide +kernel
theorem dX5_pass_595 : decode cX5_pass 595 = .ok (.getfield 32, 3) := by decide +kernel
theorem dX5_pass_598 : decode cX5_pass 598 = .ok (.iconst 1, 1) := by decide +kernel
theorem dX5_pass_599 : decode cX5_pass 599 = .ok (.iadd, 1) := by decide +kernel
theorem dX5_pass_600 : decode cX5_pass 600 = .ok (.putfield 32, 3) := by decide +kernel
theorem dX5_pass_603 : decode cX5_pass 603 = .ok (.iload_n 2, 1) := by decide +kernel
theorem dX5_pass_604 : decode cX5_pass 604 = .ok (.ireturn, 1) := by decide +kernel
theorem dX5_sum_0 : decode cX5_sum 0 = .ok (.iconst 0, 1) := by decide +kernel
theorem dX5_sum_1 : decode cX5_sum 1 = .ok (.istore_n 3, 1) := by decide +kernel
theorem dX5_sum_2 : decode cX5_sum 2 = .ok (.aload_n 1, 1) := by decide +kernel
theorem dX5_sum_3 : decode cX5_sum 3 = .ok (.astore 4, 2) := by decide +kernel
theorem dX5_sum_5 : decode cX5_sum 5 = .ok (.aload 4, 2) := by decide +kernel
theorem dX5_sum_7 : decode cX5_sum 7 = .ok (.arraylength, 1) := by decide +kernel
theorem dX5_sum_8 : decode cX5_sum 8 = .ok (.istore 5, 2) := by decide +kernel
theorem dX5_sum_10 : decode cX5_sum 10 = .ok (.iconst 0, 1) := by decide +kernel
theorem dX5_sum_11 : decode cX5_sum 11 = .ok (.istore 6, 2) := by decide +kernel
theorem dX5_sum_13 : decode cX5_sum 13 = .ok (.iload 6, 2) := by decide +kernel
theorem dX5_sum_15 : decode cX5_sum 15 = .ok (.iload 5, 2) := by decide +kernel
theorem dX5_sum_17 : decode cX5_sum 17 = .ok (.if_icmp .ge 23, 3) := by decide +kernel
theorem dX5_sum_20 : decode cX5_sum 20 = .ok (.aload 4, 2) := by decide +kernel
theorem dX5_sum_22 : decode cX5_sum 22 = .ok (.iload 6, 2) := by decide +kernel
theorem dX5_sum_24 : decode cX5_sum 24 = .ok (.aaload, 1) := by decide +kernel
theorem dX5_sum_25 : decode cX5_sum 25 = .ok (.astore 7, 2) := by decide +kernel
theorem dX5_sum_27 : decode cX5_sum 27 = .ok (.iload_n 3, 1) := by decide +kernel
theorem dX5_sum_28 : decode cX5_sum 28 = .ok (.aload 7, 2) := by decide +kernel
theorem dX5_sum_30 : decode cX5_sum 30 = .ok (.iload_n 2, 1) := by decide +kernel
theorem dX5_sum_31 : decode cX5_sum 31 = .ok (.iaload, 1) := by decide +kernel
theorem dX5_sum_32 : decode cX5_sum 32 = .ok (.iadd, 1) := by decide +kernel
theorem dX5_sum_33 : decode cX5_sum 33 = .ok (.istore_n 3, 1) := by decide +kernel
theorem dX5_sum_34 : decode cX5_sum 34 = .ok (.iinc 6 1, 3) := by decide +kernel
theorem dX5_sum_37 : decode cX5_sum 37 = .ok (.goto (-24), 3) := by decide +kernel
theorem dX5_sum_40 : decode cX5_sum 40 = .ok (.iload_n 3, 1) := by decide +kernel
theorem dX5_sum_41 : decode cX5_sum 41 = .ok (.ireturn, 1) := by decide +kernel
theorem dX5_counts_0 : decode cX5_counts 0 = .ok (.bipush 10, 2) := by decide +kernel
theorem dX5_counts_2 : decode cX5_counts 2 = .ok (.newarray .int, 2) := by decide +kernel
theorem dX5_counts_4 : decode cX5_counts 4 = .ok (.dup, 1) := by decide +kernel
theorem dX5_counts_5 : decode cX5_counts 5 = .ok (.iconst 0, 1) := by decide +kernel
theorem dX5_counts_6 : decode cX5_counts 6 = .ok (.aload_n 0, 1) := by decide +kernel
theorem dX5_counts_7 : decode cX5_counts 7 = .ok (.getfield 32, 3) := by decide +kernel
theorem dX5_counts_10 : decode cX5_counts 10 = .ok (.iastore, 1) := by decide +kernel
theorem dX5_counts_11 : decode cX5_counts 11 = .ok (.dup, 1) := by decide +kernel
theorem dX5_counts_12 : decode cX5_counts 12 = .ok (.iconst 1, 1) := by decide +kernel
theorem dX5_counts_13 : decode cX5_counts 13 = .ok (.aload_n 0, 1) := by decide +kernel
theorem dX5_counts_14 : decode cX5_counts 14 = .ok (.getfield 32, 3) := by decide +kernel
theorem dX5_counts_17 : decode cX5_counts 17 = .ok (.bipush 24, 2) := by decide +kernel
theorem dX5_counts_19 : decode cX5_counts 19 = .ok (.irem, 1) := by decide +kernel
theorem dX5_counts_20 : decode cX5_counts 20 = .ok (.iastore, 1) := by decide +kernel
theorem dX5_counts_21 : decode cX5_counts 21 = .ok (.dup, 1) := by decide +kernel
theorem dX5_counts_22 : decode cX5_counts 22 = .ok (.iconst 2, 1) := by decide +kernel
theorem dX5_counts_23 : decode cX5_counts 23 = .ok (.aload_n 0, 1) := by decide +kernel
theorem dX5_counts_24 : decode cX5_counts 24 = .ok (.getfield 7, 3) := by decide +kernel
theorem dX5_counts_27 : decode cX5_counts 27 = .ok (.iastore, 1) := by decide +kernel
theorem dX5_counts_28 : decode cX5_counts 28 = .ok (.dup, 1) := by decide +kernel
theorem dX5_counts_29 : decode cX5_counts 29 = .ok (.iconst 3, 1) := by decide +kernel
theorem dX5_counts_30 : decode cX5_counts 30 = .ok (.aload_n 0, 1) := by decide +kernel
theorem dX5_counts_31 : decode cX5_counts 31 = .ok (.aload_n 0, 1) := by decide +kernel
theorem dX5_counts_32 : decode cX5_counts 32 = .ok (.getfield 18, 3) := by decide +kernel
theorem dX5_counts_35 : decode cX5_counts 35 = .ok (.iconst 1, 1) := by decide +kernel
theorem dX5_counts_36 : decode cX5_counts 36 = .ok (.invokevirtual 39, 3) := by decide +kernel
theorem dX5_counts_39 : decode cX5_counts 39 = .ok (.iastore, 1) := by decide +kernel
theorem dX5_counts_40 : decode cX5_counts 40 = .ok (.dup, 1) := by decide +kernel
theorem dX5_counts_41 : decode cX5_counts 41 = .ok (.iconst 4, 1) := by decide +kernel
theorem dX5_counts_42 : decode cX5_counts 42 = .ok (.aload_n 0, 1) := by decide +kernel
theorem dX5_counts_43 : decode cX5_counts 43 = .ok (.aload_n 0, 1) := by decide +kernel
theorem dX5_counts_44 : decode cX5_counts 44 = .ok (.getfield 18, 3) := by decide +kernel
theorem dX5_counts_47 : decode cX5_counts 47 = .ok (.bipush 6, 2) := by decide +kernel
theorem dX5_counts_49 : decode cX5_counts 49 = .ok (.invokevirtual 39, 3) := by decide +kernel
theorem dX5_counts_52 : decode cX5_counts 52 = .ok (.iastore, 1) := by decide +kernel
theorem dX5_counts_53 : decode cX5_counts 53 = .ok (.dup, 1) := by decide +kernel
theorem dX5_counts_54 : decode cX5_counts 54 = .ok (.iconst 5, 1) := by decide +kernel
theorem dX5_counts_55 : decode cX5_counts 55 = .ok (.aload_n 0, 1) := by decide +kernel
theorem dX5_counts_56 : decode cX5_counts 56 = .ok (.aload_n 0, 1) := by decide +kernel
theorem dX5_counts_57 : decode cX5_counts 57 = .ok (.getfield 18, 3) := by decide +kernel
theorem dX5_counts_60 : decode cX5_counts 60 = .ok (.iconst 5, 1) := by decide +kernel
theorem dX5_counts_61 : decode cX5_counts 61 = .ok (.invokevirtual 39, 3) := by decide +kernel
theorem dX5_counts_64 : decode cX5_counts 64 = .ok (.iastore, 1) := by decide +kernel
theorem dX5_counts_65 : decode cX5_counts 65 = .ok (.dup, 1) := by decide +kernel
theorem dX5_counts_66 : decode cX5_counts 66 = .ok (.bipush 6, 2) := by decide +kernel
theorem dX5_counts_68 : decode cX5_counts 68 = .ok (.aload_n 0, 1) := by decide +kernel
theorem dX5_counts_69 : decode cX5_counts 69 = .ok (.aload_n 0, 1) := by decide +kernel
theorem dX5_counts_70 : decode cX5_counts 70 = .ok (.getfield 18, 3) := by decide +kernel
theorem dX5_counts_73 : decode cX5_counts 73 = .ok (.iconst 2, 1) := by decide +kernel
theorem dX5_counts_74 : decode cX5_counts 74 = .ok (.invokevirtual 39, 3) := by decide +kernel
theorem dX5_counts_77 : decode cX5_counts 77 = .ok (.iastore, 1) := by decide +kernel
theorem dX5_counts_78 : decode cX5_counts 78 = .ok (.dup, 1) := by decide +kernel
theorem dX5_counts_79 : decode cX5_counts 79 = .ok (.bipush 7, 2) := by decide +kernel
theorem dX5_counts_81 : decode cX5_counts 81 = .ok (.aload_n 0, 1) := by decide +kernel
theorem dX5_counts_82 : decode cX5_counts 82 = .ok (.aload_n 0, 1) := by decide +kernel
theorem dX5_counts_83 : decode cX5_counts 83 = .ok (.getfield 18, 3) := by decide +kernel
theorem dX5_counts_86 : decode cX5_counts 86 = .ok (.iconst 3, 1) := by decide +kernel
theorem dX5_counts_87 : decode cX5_counts 87 = .ok (.invokevirtual 39, 3) := by decide +kernel
theorem dX5_counts_90 : decode cX5_counts 90 = .ok (.iastore, 1) := by decide +kernel
theorem dX5_counts_91 : decode cX5_counts 91 = .ok (.dup, 1) := by decide +kernel
theorem dX5_counts_92 : decode cX5_counts 92 = .ok (.bipush 8, 2) := by decide +kernel
theorem dX5_counts_94 : decode cX5_counts 94 = .ok (.aload_n 0, 1) := by decide +kernel
theorem dX5_counts_95 : decode cX5_counts 95 = .ok (.getfield 25, 3) := by decide +kernel
theorem dX5_counts_98 : decode cX5_counts 98 = .ok (.arraylength, 1) := by decide +kernel
theorem dX5_counts_99 : decode cX5_counts 99 = .ok (.aload_n 0, 1) := by decide +kernel
theorem dX5_counts_100 : decode cX5_counts 100 = .ok (.aload_n 0, 1) := by decide +kernel
theorem dX5_counts_101 : decode cX5_counts 101 = .ok (.getfield 25, 3) := by decide +kernel
theorem dX5_counts_104 : decode cX5_counts 104 = .ok (.iconst 3, 1) := by decide +kernel
theorem dX5_counts_105 : decode cX5_counts 105 = .ok (.invokevirtual 39, 3) := by decide +kernel
theorem dX5_counts_108 : decode cX5_counts 108 = .ok (.isub, 1) := by decide +kernel
theorem dX5_counts_109 : decode cX5_counts 109 = .ok (.iastore, 1) := by decide +kernel
theorem dX5_counts_110 : decode cX5_counts 110 = .ok (.dup, 1) := by decide +kernel
theorem dX5_counts_111 : decode cX5_counts 111 = .ok (.bipush 9, 2) := by decide +kernel
theorem dX5_counts_113 : decode cX5_counts 113 = .ok (.aload_n 0, 1) := by decide +kernel
theorem dX5_counts_114 : decode cX5_counts 114 = .ok (.aload_n 0, 1) := by decide +kernel
theorem dX5_counts_115 : decode cX5_counts 115 = .ok (.getfield 22, 3) := by decide +kernel
theorem dX5_counts_118 : decode cX5_counts 118 = .ok (.iconst 3, 1) := by decide +kernel
theorem dX5_counts_119 : decode cX5_counts 119 = .ok (.invokevirtual 39, 3) := by decide +kernel
theorem dX5_counts_122 : decode cX5_counts 122 = .ok (.iastore, 1) := by decide +kernel
theorem dX5_counts_123 : decode cX5_counts 123 = .ok (.astore_n 1, 1) := by decide +kernel
theorem dX5_counts_124 : decode cX5_counts 124 = .ok (.aload_n 1, 1) := by decide +kernel
theorem dX5_counts_125 : decode cX5_counts 125 = .ok (.areturn, 1) := by decide +kernel
theorem dX5_isSame_0 : decode cX5_isSame 0 = .ok (.iconst 0, 1) := by decide +kernel
theorem dX5_isSame_1 : decode cX5_isSame 1 = .ok (.istore_n 2, 1) := by decide +kernel
theorem dX5_isSame_2 : decode cX5_isSame 2 = .ok (.iload_n 2, 1) := by decide +kernel
theorem dX5_isSame_3 : decode cX5_isSame 3 = .ok (.aload_n 0, 1) := by decide +kernel
theorem dX5_isSame_4 : decode cX5_isSame 4 = .ok (.getfield 18, 3) := by decide +kernel
theorem dX5_isSame_7 : decode cX5_isSame 7 = .ok (.arraylength, 1) := by decide +kernel
theorem dX5_isSame_8 : decode cX5_isSame 8 = .ok (.if_icmp .ge 42, 3) := by decide +kernel
theorem dX5_isSame_11 : decode cX5_isSame 11 = .ok (.iconst 0, 1) := by decide +kernel
theorem dX5_isSame_12 : decode cX5_isSame 12 = .ok (.istore_n 3, 1) := by decide +kernel
theorem dX5_isSame_13 : decode cX5_isSame 13 = .ok (.iload_n 3, 1) := by decide +kernel
theorem dX5_isSame_14 : decode cX5_isSame 14 = .ok (.bipush 7, 2) := by decide +kernel
theorem dX5_isSame_16 : decode cX5_isSame 16 = .ok (.if_icmp .ge 28, 3) := by decide +kernel
theorem dX5_isSame_19 : decode cX5_isSame 19 = .ok (.aload_n 1, 1) := by decide +kernel
theorem dX5_isSame_20 : decode cX5_isSame 20 = .ok (.iload_n 2, 1) := by decide +kernel
theorem dX5_isSame_21 : decode cX5_isSame 21 = .ok (.iload_n 3, 1) := by decide +kernel
theorem dX5_isSame_22 : decode cX5_isSame 22 = .ok (.invokevirtual 48, 3) := by decide +kernel
theorem dX5_isSame_25 : decode cX5_isSame 25 = .ok (.aload_n 0, 1) := by decide +kernel
theorem dX5_isSame_26 : decode cX5_isSame 26 = .ok (.getfield 18, 3) := by decide +kernel
theorem dX5_isSame_29 : decode cX5_isSame 29 = .ok (.iload_n 2, 1) := by decide +kernel
theorem dX5_isSame_30 : decode cX5_isSame 30 = .ok (.aaload, 1) := by decide +kernel
theorem dX5_isSame_31 : decode cX5_isSame 31 = .ok (.iload_n 3, 1) := by decide +kernel
theorem dX5_isSame_32 : decode cX5_isSame 32 = .ok (.iaload, 1) := by decide +kernel
theorem dX5_isSame_33 : decode cX5_isSame 33 = .ok (.if_icmp .eq 5, 3) := by decide +kernel
theorem dX5_isSame_36 : decode cX5_isSame 36 = .ok (.iconst 0, 1) := by decide +kernel
theorem dX5_isSame_37 : decode cX5_isSame 37 = .ok (.ireturn, 1) := by decide +kernel
theorem dX5_isSame_38 : decode cX5_isSame 38 = .ok (.iinc 3 1, 3) := by decide +kernel
theorem dX5_isSame_41 : decode cX5_isSame 41 = .ok (.goto (-28), 3) := by decide +kernel
theorem dX5_isSame_44 : decode cX5_isSame 44 = .ok (.iinc 2 1, 3) := by decide +kernel
theorem dX5_isSame_47 : decode cX5_isSame 47 = .ok (.goto (-45), 3) := by decide +kernel
theorem dX5_isSame_50 : decode cX5_isSame 50 = .ok (.iconst 0, 1) := by decide +kernel
theorem dX5_isSame_51 : decode cX5_isSame 51 = .ok (.istore_n 2, 1) := by decide +kernel
theorem dX5_isSame_52 : decode cX5_isSame 52 = .ok (.iload_n 2, 1) := by decide +kernel
theorem dX5_isSame_53 : decode cX5_isSame 53 = .ok (.aload_n 0, 1) := by decide +kernel
theorem dX5_isSame_54 : decode cX5_isSame 54 = .ok (.getfield 22, 3) := by decide +kernel
theorem dX5_isSame_57 : decode cX5_isSame 57 = .ok (.arraylength, 1) := by decide +kernel
theorem dX5_isSame_58 : decode cX5_isSame 58 = .ok (.if_icmp .ge 62, 3) := by decide +kernel
theorem dX5_isSame_61 : decode cX5_isSame 61 = .ok (.iconst 0, 1) := by decide +kernel
theorem dX5_isSame_62 : decode cX5_isSame 62 = .ok (.istore_n 3, 1) := by decide +kernel
theorem dX5_isSame_63 : decode cX5_isSame 63 = .ok (.iload_n 3, 1) := by decide +kernel
theorem dX5_isSame_64 : decode cX5_isSame 64 = .ok (.iconst 4, 1) := by decide +kernel
theorem dX5_isSame_65 : decode cX5_isSame 65 = .ok (.if_icmp .ge 28, 3) := by decide +kernel
theorem dX5_isSame_68 : decode cX5_isSame 68 = .ok (.aload_n 1, 1) := by decide +kernel
theorem dX5_isSame_69 : decode cX5_isSame 69 = .ok (.iload_n 2, 1) := by decide +kernel
theorem dX5_isSame_70 : decode cX5_isSame 70 = .ok (.iload_n 3, 1) := by decide +kernel
theorem dX5_isSame_71 : decode cX5_isSame 71 = .ok (.invokevirtual 54, 3) := by decide +kernel
theorem dX5_isSame_74 : decode cX5_isSame 74 = .ok (.aload_n 0, 1) := by decide +kernel
theorem dX5_isSame_75 : decode cX5_isSame 75 = .ok (.getfield 22, 3) := by decide +kernel
theorem dX5_isSame_78 : decode cX5_isSame 78 = .ok (.iload_n 2, 1) := by decide +kernel
theorem dX5_isSame_79 : decode cX5_isSame 79 = .ok (.aaload, 1) := by decide +kernel
theorem dX5_isSame_80 : decode cX5_isSame 80 = .ok (.iload_n 3, 1) := by decide +kernel
theorem dX5_isSame_81 : decode cX5_isSame 81 = .ok (.iaload, 1) := by decide +kernel
theorem dX5_isSame_82 : decode cX5_isSame 82 = .ok (.if_icmp .eq 5, 3) := by decide +kernel
theorem dX5_isSame_85 : decode cX5_isSame 85 = .ok (.iconst 0, 1) := by decide +kernel
theorem dX5_isSame_86 : decode cX5_isSame 86 = .ok (.ireturn, 1) := by decide +kernel
theorem dX5_isSame_87 : decode cX5_isSame 87 = .ok (.iinc 3 1, 3) := by decide +kernel
theorem dX5_isSame_90 : decode cX5_isSame 90 = .ok (.goto (-27), 3) := by decide +kernel
theorem dX5_isSame_93 : decode cX5_isSame 93 = .ok (.aload_n 1, 1) := by decide +kernel
theorem dX5_isSame_94 : decode cX5_isSame 94 = .ok (.iload_n 2, 1) := by decide +kernel
theorem dX5_isSame_95 : decode cX5_isSame 95 = .ok (.iconst 4, 1) := by decide +kernel
theorem dX5_isSame_96 : decode cX5_isSame 96 = .ok (.invokevirtual 54, 3) := by decide +kernel
theorem dX5_isSame_99 : decode cX5_isSame 99 = .ok (.aload_n 0, 1) := by decide +kernel
theorem dX5_isSame_100 : decode cX5_isSame 100 = .ok (.aload_n 0, 1) := by decide +kernel
theorem dX5_isSame_101 : decode cX5_isSame 101 = .ok (.getfield 22, 3) := by decide +kernel
theorem dX5_isSame_104 : decode cX5_isSame 104 = .ok (.iload_n 2, 1) := by decide +kernel
theorem dX5_isSame_105 : decode cX5_isSame 105 = .ok (.aaload, 1) := by decide +kernel
theorem dX5_isSame_106 : decode cX5_isSame 106 = .ok (.invokevirtual 35, 3) := by decide +kernel
theorem dX5_isSame_109 : decode cX5_isSame 109 = .ok (.if_icmp .eq 5, 3) := by decide +kernel
theorem dX5_isSame_112 : decode cX5_isSame 112 = .ok (.iconst 0, 1) := by decide +kernel
theorem dX5_isSame_113 : decode cX5_isSame 113 = .ok (.ireturn, 1) := by decide +kernel
theorem dX5_isSame_114 : decode cX5_isSame 114 = .ok (.iinc 2 1, 3) := by decide +kernel
theorem dX5_isSame_117 : decode cX5_isSame 117 = .ok (.goto (-65), 3) := by decide +kernel
theorem dX5_isSame_120 : decode cX5_isSame 120 = .ok (.iconst 0, 1) := by decide +kernel
theorem dX5_isSame_121 : decode cX5_isSame 121 = .ok (.istore_n 2, 1) := by decide +kernel
theorem dX5_isSame_122 : decode cX5_isSame 122 = .ok (.iload_n 2, 1) := by decide +kernel
theorem dX5_isSame_123 : decode cX5_isSame 123 = .ok (.aload_n 0, 1) := by decide +kernel
theorem dX5_isSame_124 : decode cX5_isSame 124 = .ok (.getfield 25, 3) := by decide +kernel
theorem dX5_isSame_127 : decode cX5_isSame 127 = .ok (.arraylength, 1) := by decide +kernel
theorem dX5_isSame_128 : decode cX5_isSame 128 = .ok (.if_icmp .ge 41, 3) := by decide +kernel
theorem dX5_isSame_131 : decode cX5_isSame 131 = .ok (.iconst 0, 1) := by decide +kernel
theorem dX5_isSame_132 : decode cX5_isSame 132 = .ok (.istore_n 3, 1) := by decide +kernel
theorem dX5_isSame_133 : decode cX5_isSame 133 = .ok (.iload_n 3, 1) := by decide +kernel
theorem dX5_isSame_134 : decode cX5_isSame 134 = .ok (.iconst 4, 1) := by decide +kernel
theorem dX5_isSame_135 : decode cX5_isSame 135 = .ok (.if_icmp .ge 28, 3) := by decide +kernel
theorem dX5_isSame_138 : decode cX5_isSame 138 = .ok (.aload_n 1, 1) := by decide +kernel
theorem dX5_isSame_139 : decode cX5_isSame 139 = .ok (.iload_n 2, 1) := by decide +kernel
theorem dX5_isSame_140 : decode cX5_isSame 140 = .ok (.iload_n 3, 1) := by decide +kernel
theorem dX5_isSame_141 : decode cX5_isSame 141 = .ok (.invokevirtual 57, 3) := by decide +kernel
theorem dX5_isSame_144 : decode cX5_isSame 144 = .ok (.aload_n 0, 1) := by decide +kernel
theorem dX5_isSame_145 : decode cX5_isSame 145 = .ok (.getfield 25, 3) := by decide +kernel
theorem dX5_isSame_148 : decode cX5_isSame 148 = .ok (.iload_n 2, 1) := by decide +kernel
theorem dX5_isSame_149 : decode cX5_isSame 149 = .ok (.aaload, 1) := by decide +kernel
theorem dX5_isSame_150 : decode cX5_isSame 150 = .ok (.iload_n 3, 1) := by decide +kernel
theorem dX5_isSame_151 : decode cX5_isSame 151 = .ok (.iaload, 1) := by decide +kernel
theorem dX5_isSame_152 : decode cX5_isSame 152 = .ok (.if_icmp .eq 5, 3) := by decide +kernel
theorem dX5_isSame_155 : decode cX5_isSame 155 = .ok (.iconst 0, 1) := by decide +kernel
theorem dX5_isSame_156 : decode cX5_isSame 156 = .ok (.ireturn, 1) := by decide +kernel
theorem dX5_isSame_157 : decode cX5_isSame 157 = .ok (.iinc 3 1, 3) := by decide +kernel
theorem dX5_isSame_160 : decode cX5_isSame 160 = .ok (.goto (-27), 3) := by decide +kernel
theorem dX5_isSame_163 : decode cX5_isSame 163 = .ok (.iinc 2 1, 3) := by decide +kernel
theorem dX5_isSame_166 : decode cX5_isSame 166 = .ok (.goto (-44), 3) := by decide +kernel
theorem dX5_isSame_169 : decode cX5_isSame 169 = .ok (.aload_n 0, 1) := by decide +kernel
theorem dX5_isSame_170 : decode cX5_isSame 170 = .ok (.invokevirtual 60, 3) := by decide +kernel
theorem dX5_isSame_173 : decode cX5_isSame 173 = .ok (.astore_n 2, 1) := by decide +kernel
theorem dX5_isSame_174 : decode cX5_isSame 174 = .ok (.iconst 0, 1) := by decide +kernel
theorem dX5_isSame_175 : decode cX5_isSame 175 = .ok (.istore_n 3, 1) := by decide +kernel
theorem dX5_isSame_176 : decode cX5_isSame 176 = .ok (.iload_n 3, 1) := by decide +kernel
theorem dX5_isSame_177 : decode cX5_isSame 177 = .ok (.bipush 10, 2) := by decide +kernel
theorem dX5_isSame_179 : decode cX5_isSame 179 = .ok (.if_icmp .ge 22, 3) := by decide +kernel
theorem dX5_isSame_182 : decode cX5_isSame 182 = .ok (.aload_n 1, 1) := by decide +kernel
theorem dX5_isSame_183 : decode cX5_isSame 183 = .ok (.iload_n 3, 1) := by decide +kernel
theorem dX5_isSame_184 : decode cX5_isSame 184 = .ok (.invokevirtual 64, 3) := by decide +kernel
theorem dX5_isSame_187 : decode cX5_isSame 187 = .ok (.aload_n 2, 1) := by decide +kernel
theorem dX5_isSame_188 : decode cX5_isSame 188 = .ok (.iload_n 3, 1) := by decide +kernel
theorem dX5_isSame_189 : decode cX5_isSame 189 = .ok (.iaload, 1) := by decide +kernel
theorem dX5_isSame_190 : decode cX5_isSame 190 = .ok (.if_icmp .eq 5, 3) := by decide +kernel
theorem dX5_isSame_193 : decode cX5_isSame 193 = .ok (.iconst 0, 1) := by decide +kernel
theorem dX5_isSame_194 : decode cX5_isSame 194 = .ok (.ireturn, 1) := by decide +kernel
theorem dX5_isSame_195 : decode cX5_isSame 195 = .ok (.iinc 3 1, 3) := by decide +kernel
theorem dX5_isSame_198 : decode cX5_isSame 198 = .ok (.goto (-22), 3) := by decide +kernel
theorem dX5_isSame_201 : decode cX5_isSame 201 = .ok (.aload_n 1, 1) := by decide +kernel
theorem dX5_isSame_202 : decode cX5_isSame 202 = .ok (.invokevirtual 68, 3) := by decide +kernel
theorem dX5_isSame_205 : decode cX5_isSame 205 = .ok (.aload_n 0, 1) := by decide +kernel
theorem dX5_isSame_206 : decode cX5_isSame 206 = .ok (.getfield 18, 3) := by decide +kernel
theorem dX5_isSame_209 : decode cX5_isSame 209 = .ok (.arraylength, 1) := by decide +kernel
theorem dX5_isSame_210 : decode cX5_isSame 210 = .ok (.ifCond .ne 7, 3) := by decide +kernel
theorem dX5_isSame_213 : decode cX5_isSame 213 = .ok (.dconst 0, 1) := by decide +kernel
theorem dX5_isSame_214 : decode cX5_isSame 214 = .ok (.goto 20, 3) := by decide +kernel
theorem dX5_isSame_217 : decode cX5_isSame 217 = .ok (.aload_n 0, 1) := by decide +kernel
theorem dX5_isSame_218 : decode cX5_isSame 218 = .ok (.aload_n 0, 1) := by decide +kernel
theorem dX5_isSame_219 : decode cX5_isSame 219 = .ok (.getfield 18, 3) := by decide +kernel
theorem dX5_isSame_222 : decode cX5_isSame 222 = .ok (.iconst 1, 1) := by decide +kernel
theorem dX5_isSame_223 : decode cX5_isSame 223 = .ok (.invokevirtual 39, 3) := by decide +kernel
theorem dX5_isSame_226 : decode cX5_isSame 226 = .ok (.i2d, 1) := by decide +kernel
theorem dX5_isSame_227 : decode cX5_isSame 227 = .ok (.aload_n 0, 1) := by decide +kernel
theorem dX5_isSame_228 : decode cX5_isSame 228 = .ok (.getfield 18, 3) := by decide +kernel
theorem dX5_isSame_231 : decode cX5_isSame 231 = .ok (.arraylength, 1) := by decide +kernel
theorem dX5_isSame_232 : decode cX5_isSame 232 = .ok (.i2d, 1) := by decide +kernel
theorem dX5_isSame_233 : decode cX5_isSame 233 = .ok (.ddiv, 1) := by decide +kernel
theorem dX5_isSame_234 : decode cX5_isSame 234 = .ok (.dcmp .l, 1) := by decide +kernel
theorem dX5_isSame_235 : decode cX5_isSame 235 = .ok (.ifCond .ne 7, 3) := by decide +kernel
theorem dX5_isSame_238 : decode cX5_isSame 238 = .ok (.iconst 1, 1) := by decide +kernel
theorem dX5_isSame_239 : decode cX5_isSame 239 = .ok (.goto 4, 3) := by decide +kernel
theorem dX5_isSame_242 : decode cX5_isSame 242 = .ok (.iconst 0, 1) := by decide +kernel
theorem dX5_isSame_243 : decode cX5_isSame 243 = .ok (.ireturn, 1) := by decide +kernel
theorem dJ9_floorMod_7cf53_0 : decode cJ9_floorMod_7cf53 0 = .ok (.iload_n 0, 1) := by decide +kernel
theorem dJ9_floorMod_7cf53_1 : decode cJ9_floorMod_7cf53 1 = .ok (.iload_n 1, 1) := by decide +kernel
theorem dJ9_floorMod_7cf53_2 : decode cJ9_floorMod_7cf53 2 = .ok (.irem, 1) := by decide +kernel
theorem dJ9_floorMod_7cf53_3 : decode cJ9_floorMod_7cf53 3 = .ok (.istore_n 2, 1) := by decide +kernel
theorem dJ9_floorMod_7cf53_4 : decode cJ9_floorMod_7cf53 4 = .ok (.iload_n 0, 1) := by decide +kernel
theorem dJ9_floorMod_7cf53_5 : decode cJ9_floorMod_7cf53 5 = .ok (.iload_n 1, 1) := by decide +kernel
theorem dJ9_floorMod_7cf53_6 : decode cJ9_floorMod_7cf53 6 = .ok (.ixor, 1) := by decide +kernel
theorem dJ9_floorMod_7cf53_7 : decode cJ9_floorMod_7cf53 7 = .ok (.ifCond .ge 11, 3) := by decide +kernel
theorem dJ9_floorMod_7cf53_10 : decode cJ9_floorMod_7cf53 10 = .ok (.iload_n 2, 1) := by decide +kernel
theorem dJ9_floorMod_7cf53_11 : decode cJ9_floorMod_7cf53 11 = .ok (.ifCond .eq 7, 3) := by decide +kernel
theorem dJ9_floorMod_7cf53_14 : decode cJ9_floorMod_7cf53 14 = .ok (.iload_n 2, 1) := by decide +kernel
theorem dJ9_floorMod_7cf53_15 : decode cJ9_floorMod_7cf53 15 = .ok (.iload_n 1, 1) := by decide +kernel
theorem dJ9_floorMod_7cf53_16 : decode cJ9_floorMod_7cf53 16 = .ok (.iadd, 1) := by decide +kernel
theorem dJ9_floorMod_7cf53_17 : decode cJ9_floorMod_7cf53 17 = .ok (.ireturn, 1) := by decide +kernel
theorem dJ9_floorMod_7cf53_18 : decode cJ9_floorMod_7cf53 18 = .ok (.iload_n 2, 1) := by decide +kernel
theorem dJ9_floorMod_7cf53_19 : decode cJ9_floorMod_7cf53 19 = .ok (.ireturn, 1) := by decide +kernel
theorem dJ9_abs_0f7a4_0 : decode cJ9_abs_0f7a4 0 = .ok (.iload_n 0, 1) := by decide +kernel
theorem dJ9_abs_0f7a4_1 : decode cJ9_abs_0f7a4 1 = .ok (.ifCond .ge 8, 3) := by decide +kernel
theorem dJ9_abs_0f7a4_4 : decode cJ9_abs_0f7a4 4 = .ok (.iload_n 0, 1) := by decide +kernel
theorem dJ9_abs_0f7a4_5 : decode cJ9_abs_0f7a4 5 = .ok (.ineg, 1) := by decide +kernel
theorem dJ9_abs_0f7a4_6 : decode cJ9_abs_0f7a4 6 = .ok (.goto 4, 3) := by decide +kernel
theorem dJ9_abs_0f7a4_9 : decode cJ9_abs_0f7a4 9 = .ok (.iload_n 0, 1) := by decide +kernel
theorem dJ9_abs_0f7a4_10 : decode cJ9_abs_0f7a4 10 = .ok (.ireturn, 1) := by decide +kernel
theorem dJ9_max_7cf53_0 : decode cJ9_max_7cf53 0 = .ok (.iload_n 0, 1) := by decide +kernel
theorem dJ9_max_7cf53_1 : decode cJ9_max_7cf53 1 = .ok (.iload_n 1, 1) := by decide +kernel
theorem dJ9_max_7cf53_2 : decode cJ9_max_7cf53 2 = .ok (.if_icmp .lt 7, 3) := by decide +kernel
theorem dJ9_max_7cf53_5 : decode cJ9_max_7cf53 5 = .ok (.iload_n 0, 1) := by decide +kernel
theorem dJ9_max_7cf53_6 : decode cJ9_max_7cf53 6 = .ok (.goto 4, 3) := by decide +kernel
theorem dJ9_max_7cf53_9 : decode cJ9_max_7cf53 9 = .ok (.iload_n 1, 1) := by decide +kernel
theorem dJ9_max_7cf53_10 : decode cJ9_max_7cf53 10 = .ok (.ireturn, 1) := by decide +kernel
theorem dJ9_min_7cf53_0 : decode cJ9_min_7cf53 0 = .ok (.iload_n 0, 1) := by decide +kernel
theorem dJ9_min_7cf53_1 : decode cJ9_min_7cf53 1 = .ok (.iload_n 1, 1) := by decide +kernel
theorem dJ9_min_7cf53_2 : decode cJ9_min_7cf53 2 = .ok (.if_icmp .gt 7, 3) := by decide +kernel
theorem dJ9_min_7cf53_5 : decode cJ9_min_7cf53 5 = .ok (.iload_n 0, 1) := by decide +kernel
theorem dJ9_min_7cf53_6 : decode cJ9_min_7cf53 6 = .ok (.goto 4, 3) := by decide +kernel
theorem dJ9_min_7cf53_9 : decode cJ9_min_7cf53 9 = .ok (.iload_n 1, 1) := by decide +kernel
theorem dJ9_min_7cf53_10 : decode cJ9_min_7cf53 10 = .ok (.ireturn, 1) := by decide +kernel
