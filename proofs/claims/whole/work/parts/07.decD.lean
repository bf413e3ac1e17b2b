theorem dX6_init_0 : decode cX6_init 0 = .ok (.aload_n 0, 1) := by decide +kernel
theorem dX6_init_1 : decode cX6_init 1 = .ok (.invokespecial 1, 3) := by decide +kernel
theorem dX6_init_4 : decode cX6_init 4 = .ok (.aload_n 0, 1) := by decide +kernel
theorem dX6_init_5 : decode cX6_init 5 = .ok (.bipush 10, 2) := by decide +kernel
theorem dX6_init_7 : decode cX6_init 7 = .ok (.newarray .int, 2) := by decide +kernel
theorem dX6_init_9 : decode cX6_init 9 = .ok (.putfield 9, 3) := by decide +kernel
theorem dX6_init_12 : decode cX6_init 12 = .ok (.aload_n 0, 1) := by decide +kernel
theorem dX6_init_13 : decode cX6_init 13 = .ok (.bipush 10, 2) := by decide +kernel
theorem dX6_init_15 : decode cX6_init 15 = .ok (.newarray .int, 2) := by decide +kernel
theorem dX6_init_17 : decode cX6_init 17 = .ok (.putfield 13, 3) := by decide +kernel
theorem dX6_init_20 : decode cX6_init 20 = .ok (.aload_n 0, 1) := by decide +kernel
theorem dX6_init_21 : decode cX6_init 21 = .ok (.bipush 10, 2) := by decide +kernel
theorem dX6_init_23 : decode cX6_init 23 = .ok (.newarray .int, 2) := by decide +kernel
theorem dX6_init_25 : decode cX6_init 25 = .ok (.putfield 16, 3) := by decide +kernel
theorem dX6_init_28 : decode cX6_init 28 = .ok (.aload_n 0, 1) := by decide +kernel
theorem dX6_init_29 : decode cX6_init 29 = .ok (.bipush 6, 2) := by decide +kernel
theorem dX6_init_31 : decode cX6_init 31 = .ok (.newarray .int, 2) := by decide +kernel
theorem dX6_init_33 : decode cX6_init 33 = .ok (.putfield 19, 3) := by decide +kernel
theorem dX6_init_36 : decode cX6_init 36 = .ok (.aload_n 0, 1) := by decide +kernel
theorem dX6_init_37 : decode cX6_init 37 = .ok (.bipush 20, 2) := by decide +kernel
theorem dX6_init_39 : decode cX6_init 39 = .ok (.newarray .int, 2) := by decide +kernel
theorem dX6_init_41 : decode cX6_init 41 = .ok (.putfield 22, 3) := by decide +kernel
theorem dX6_init_44 : decode cX6_init 44 = .ok (.aload_n 0, 1) := by decide +kernel
theorem dX6_init_45 : decode cX6_init 45 = .ok (.bipush 6, 2) := by decide +kernel
theorem dX6_init_47 : decode cX6_init 47 = .ok (.newarray .int, 2) := by decide +kernel
theorem dX6_init_49 : decode cX6_init 49 = .ok (.putfield 25, 3) := by decide +kernel
theorem dX6_init_52 : decode cX6_init 52 = .ok (.aload_n 0, 1) := by decide +kernel
theorem dX6_init_53 : decode cX6_init 53 = .ok (.new 28, 3) := by decide +kernel
theorem dX6_init_56 : decode cX6_init 56 = .ok (.dup, 1) := by decide +kernel
theorem dX6_init_57 : decode cX6_init 57 = .ok (.aload_n 0, 1) := by decide +kernel
theorem dX6_init_58 : decode cX6_init 58 = .ok (.invokespecial 30, 3) := by decide +kernel
theorem dX6_init_61 : decode cX6_init 61 = .ok (.putfield 33, 3) := by decide +kernel
theorem dX6_init_64 : decode cX6_init 64 = .ok (.aload_n 0, 1) := by decide +kernel
theorem dX6_init_65 : decode cX6_init 65 = .ok (.new 28, 3) := by decide +kernel
theorem dX6_init_68 : decode cX6_init 68 = .ok (.dup, 1) := by decide +kernel
theorem dX6_init_69 : decode cX6_init 69 = .ok (.aload_n 0, 1) := by decide +kernel
theorem dX6_init_70 : decode cX6_init 70 = .ok (.invokespecial 30, 3) := by decide +kernel
theorem dX6_init_73 : decode cX6_init 73 = .ok (.putfield 37, 3) := by decide +kernel
theorem dX6_init_76 : decode cX6_init 76 = .ok (.return_, 1) := by decide +kernel
theorem dX6_thrown_0 : decode cX6_thrown 0 = .ok (.aload_n 0, 1) := by decide +kernel
theorem dX6_thrown_1 : decode cX6_thrown 1 = .ok (.getfield 40, 3) := by decide +kernel
theorem dX6_thrown_4 : decode cX6_thrown 4 = .ok (.ireturn, 1) := by decide +kernel
theorem dX6_no_0 : decode cX6_no 0 = .ok (.aload_n 0, 1) := by decide +kernel
theorem dX6_no_1 : decode cX6_no 1 = .ok (.iload_n 1, 1) := by decide +kernel
theorem dX6_no_2 : decode cX6_no 2 = .ok (.putfield 40, 3) := by decide +kernel
theorem dX6_no_5 : decode cX6_no 5 = .ok (.iconst 0, 1) := by decide +kernel
theorem dX6_no_6 : decode cX6_no 6 = .ok (.ireturn, 1) := by decide +kernel
theorem dX6_isIn_0 : decode cX6_isIn 0 = .ok (.iload_n 0, 1) := by decide +kernel
theorem dX6_isIn_1 : decode cX6_isIn 1 = .ok (.iload_n 1, 1) := by decide +kernel
theorem dX6_isIn_2 : decode cX6_isIn 2 = .ok (.if_icmp .lt 12, 3) := by decide +kernel
theorem dX6_isIn_5 : decode cX6_isIn 5 = .ok (.iload_n 0, 1) := by decide +kernel
theorem dX6_isIn_6 : decode cX6_isIn 6 = .ok (.iload_n 2, 1) := by decide +kernel
theorem dX6_isIn_7 : decode cX6_isIn 7 = .ok (.if_icmp .gt 7, 3) := by decide +kernel
theorem dX6_isIn_10 : decode cX6_isIn 10 = .ok (.iconst 1, 1) := by decide +kernel
theorem dX6_isIn_11 : decode cX6_isIn 11 = .ok (.goto 4, 3) := by decide +kernel
theorem dX6_isIn_14 : decode cX6_isIn 14 = .ok (.iconst 0, 1) := by decide +kernel
theorem dX6_isIn_15 : decode cX6_isIn 15 = .ok (.ireturn, 1) := by decide +kernel
theorem dX6_isPlace_0 : decode cX6_isPlace 0 = .ok (.iload_n 0, 1) := by decide +kernel
theorem dX6_isPlace_1 : decode cX6_isPlace 1 = .ok (.iconst 0, 1) := by decide +kernel
theorem dX6_isPlace_2 : decode cX6_isPlace 2 = .ok (.bipush 29, 2) := by decide +kernel
theorem dX6_isPlace_4 : decode cX6_isPlace 4 = .ok (.invokestatic 44, 3) := by decide +kernel
theorem dX6_isPlace_7 : decode cX6_isPlace 7 = .ok (.ireturn, 1) := by decide +kernel
theorem dX6_isYard_0 : decode cX6_isYard 0 = .ok (.iload_n 1, 1) := by decide +kernel
theorem dX6_isYard_1 : decode cX6_isYard 1 = .ok (.iconst 0, 1) := by decide +kernel
theorem dX6_isYard_2 : decode cX6_isYard 2 = .ok (.aload_n 0, 1) := by decide +kernel
theorem dX6_isYard_3 : decode cX6_isYard 3 = .ok (.getfield 48, 3) := by decide +kernel
theorem dX6_isYard_6 : decode cX6_isYard 6 = .ok (.iconst 1, 1) := by decide +kernel
theorem dX6_isYard_7 : decode cX6_isYard 7 = .ok (.isub, 1) := by decide +kernel
theorem dX6_isYard_8 : decode cX6_isYard 8 = .ok (.invokestatic 44, 3) := by decide +kernel
theorem dX6_isYard_11 : decode cX6_isYard 11 = .ok (.ireturn, 1) := by decide +kernel
theorem dX6_isCannon_0 : decode cX6_isCannon 0 = .ok (.iload_n 1, 1) := by decide +kernel
theorem dX6_isCannon_1 : decode cX6_isCannon 1 = .ok (.iconst 0, 1) := by decide +kernel
theorem dX6_isCannon_2 : decode cX6_isCannon 2 = .ok (.aload_n 0, 1) := by decide +kernel
theorem dX6_isCannon_3 : decode cX6_isCannon 3 = .ok (.getfield 51, 3) := by decide +kernel
theorem dX6_isCannon_6 : decode cX6_isCannon 6 = .ok (.iconst 1, 1) := by decide +kernel
theorem dX6_isCannon_7 : decode cX6_isCannon 7 = .ok (.isub, 1) := by decide +kernel
theorem dX6_isCannon_8 : decode cX6_isCannon 8 = .ok (.invokestatic 44, 3) := by decide +kernel
theorem dX6_isCannon_11 : decode cX6_isCannon 11 = .ok (.ireturn, 1) := by decide +kernel
theorem dX6_plant_0 : decode cX6_plant 0 = .ok (.aload_n 0, 1) := by decide +kernel
theorem dX6_plant_1 : decode cX6_plant 1 = .ok (.iconst 0, 1) := by decide +kernel
theorem dX6_plant_2 : decode cX6_plant 2 = .ok (.putfield 40, 3) := by decide +kernel
theorem dX6_plant_5 : decode cX6_plant 5 = .ok (.iload_n 1, 1) := by decide +kernel
theorem dX6_plant_6 : decode cX6_plant 6 = .ok (.invokestatic 54, 3) := by decide +kernel
theorem dX6_plant_9 : decode cX6_plant 9 = .ok (.ifCond .eq 13, 3) := by decide +kernel
theorem dX6_plant_12 : decode cX6_plant 12 = .ok (.iload_n 2, 1) := by decide +kernel
theorem dX6_plant_13 : decode cX6_plant 13 = .ok (.iconst 0, 1) := by decide +kernel
theorem dX6_plant_14 : decode cX6_plant 14 = .ok (.bipush 99, 2) := by decide +kernel
theorem dX6_plant_16 : decode cX6_plant 16 = .ok (.invokestatic 44, 3) := by decide +kernel
theorem dX6_plant_19 : decode cX6_plant 19 = .ok (.ifCond .ne 9, 3) := by decide +kernel
theorem dX6_plant_22 : decode cX6_plant 22 = .ok (.aload_n 0, 1) := by decide +kernel
theorem dX6_plant_23 : decode cX6_plant 23 = .ok (.iconst 1, 1) := by decide +kernel
theorem dX6_plant_24 : decode cX6_plant 24 = .ok (.invokevirtual 58, 3) := by decide +kernel
theorem dX6_plant_27 : decode cX6_plant 27 = .ok (.ireturn, 1) := by decide +kernel
theorem dX6_plant_28 : decode cX6_plant 28 = .ok (.aload_n 0, 1) := by decide +kernel
theorem dX6_plant_29 : decode cX6_plant 29 = .ok (.getfield 48, 3) := by decide +kernel
theorem dX6_plant_32 : decode cX6_plant 32 = .ok (.bipush 10, 2) := by decide +kernel
theorem dX6_plant_34 : decode cX6_plant 34 = .ok (.if_icmp .ne 9, 3) := by decide +kernel
theorem dX6_plant_37 : decode cX6_plant 37 = .ok (.aload_n 0, 1) := by decide +kernel
theorem dX6_plant_38 : decode cX6_plant 38 = .ok (.iconst 2, 1) := by decide +kernel
theorem dX6_plant_39 : decode cX6_plant 39 = .ok (.invokevirtual 58, 3) := by decide +kernel
theorem dX6_plant_42 : decode cX6_plant 42 = .ok (.ireturn, 1) := by decide +kernel
theorem dX6_plant_43 : decode cX6_plant 43 = .ok (.aload_n 0, 1) := by decide +kernel
theorem dX6_plant_44 : decode cX6_plant 44 = .ok (.getfield 9, 3) := by decide +kernel
theorem dX6_plant_47 : decode cX6_plant 47 = .ok (.aload_n 0, 1) := by decide +kernel
theorem dX6_plant_48 : decode cX6_plant 48 = .ok (.getfield 48, 3) := by decide +kernel
theorem dX6_plant_51 : decode cX6_plant 51 = .ok (.iload_n 1, 1) := by decide +kernel
theorem dX6_plant_52 : decode cX6_plant 52 = .ok (.iastore, 1) := by decide +kernel
theorem dX6_plant_53 : decode cX6_plant 53 = .ok (.aload_n 0, 1) := by decide +kernel
theorem dX6_plant_54 : decode cX6_plant 54 = .ok (.getfield 33, 3) := by decide +kernel
theorem dX6_plant_57 : decode cX6_plant 57 = .ok (.getfield 62, 3) := by decide +kernel
theorem dX6_plant_60 : decode cX6_plant 60 = .ok (.aload_n 0, 1) := by decide +kernel
theorem dX6_plant_61 : decode cX6_plant 61 = .ok (.getfield 48, 3) := by decide +kernel
theorem dX6_plant_64 : decode cX6_plant 64 = .ok (.iload_n 2, 1) := by decide +kernel
theorem dX6_plant_65 : decode cX6_plant 65 = .ok (.iastore, 1) := by decide +kernel
theorem dX6_plant_66 : decode cX6_plant 66 = .ok (.aload_n 0, 1) := by decide +kernel
theorem dX6_plant_67 : decode cX6_plant 67 = .ok (.getfield 13, 3) := by decide +kernel
theorem dX6_plant_70 : decode cX6_plant 70 = .ok (.aload_n 0, 1) := by decide +kernel
theorem dX6_plant_71 : decode cX6_plant 71 = .ok (.getfield 48, 3) := by decide +kernel
theorem dX6_plant_74 : decode cX6_plant 74 = .ok (.iload_n 3, 1) := by decide +kernel
theorem dX6_plant_75 : decode cX6_plant 75 = .ok (.ifCond .eq 7, 3) := by decide +kernel
theorem dX6_plant_78 : decode cX6_plant 78 = .ok (.iconst 1, 1) := by decide +kernel
theorem dX6_plant_79 : decode cX6_plant 79 = .ok (.goto 4, 3) := by decide +kernel
theorem dX6_plant_82 : decode cX6_plant 82 = .ok (.iconst 0, 1) := by decide +kernel
theorem dX6_plant_83 : decode cX6_plant 83 = .ok (.iastore, 1) := by decide +kernel
theorem dX6_plant_84 : decode cX6_plant 84 = .ok (.aload_n 0, 1) := by decide +kernel
theorem dX6_plant_85 : decode cX6_plant 85 = .ok (.getfield 16, 3) := by decide +kernel
theorem dX6_plant_88 : decode cX6_plant 88 = .ok (.aload_n 0, 1) := by decide +kernel
theorem dX6_plant_89 : decode cX6_plant 89 = .ok (.getfield 48, 3) := by decide +kernel
theorem dX6_plant_92 : decode cX6_plant 92 = .ok (.iload 4, 2) := by decide +kernel
theorem dX6_plant_94 : decode cX6_plant 94 = .ok (.ifCond .eq 7, 3) := by decide +kernel
theorem dX6_plant_97 : decode cX6_plant 97 = .ok (.iconst 1, 1) := by decide +kernel
theorem dX6_plant_98 : decode cX6_plant 98 = .ok (.goto 4, 3) := by decide +kernel
theorem dX6_plant_101 : decode cX6_plant 101 = .ok (.iconst 0, 1) := by decide +kernel
theorem dX6_plant_102 : decode cX6_plant 102 = .ok (.iastore, 1) := by decide +kernel
theorem dX6_plant_103 : decode cX6_plant 103 = .ok (.aload_n 0, 1) := by decide +kernel
theorem dX6_plant_104 : decode cX6_plant 104 = .ok (.dup, 1) := by decide +kernel
theorem dX6_plant_105 : decode cX6_plant 105 = .ok (.getfield 48, 3) := by decide +kernel
theorem dX6_plant_108 : decode cX6_plant 108 = .ok (.iconst 1, 1) := by decide +kernel
theorem dX6_plant_109 : decode cX6_plant 109 = .ok (.iadd, 1) := by decide +kernel
theorem dX6_plant_110 : decode cX6_plant 110 = .ok (.putfield 48, 3) := by decide +kernel
theorem dX6_plant_113 : decode cX6_plant 113 = .ok (.aload_n 0, 1) := by decide +kernel
theorem dX6_plant_114 : decode cX6_plant 114 = .ok (.getfield 48, 3) := by decide +kernel
theorem dX6_plant_117 : decode cX6_plant 117 = .ok (.iconst 1, 1) := by decide +kernel
theorem dX6_plant_118 : decode cX6_plant 118 = .ok (.isub, 1) := by decide +kernel
theorem dX6_plant_119 : decode cX6_plant 119 = .ok (.ireturn, 1) := by decide +kernel
theorem dX6_sign_0 : decode cX6_sign 0 = .ok (.aload_n 0, 1) := by decide +kernel
theorem dX6_sign_1 : decode cX6_sign 1 = .ok (.iconst 0, 1) := by decide +kernel
theorem dX6_sign_2 : decode cX6_sign 2 = .ok (.putfield 40, 3) := by decide +kernel
theorem dX6_sign_5 : decode cX6_sign 5 = .ok (.aload_n 0, 1) := by decide +kernel
theorem dX6_sign_6 : decode cX6_sign 6 = .ok (.iload_n 1, 1) := by decide +kernel
theorem dX6_sign_7 : decode cX6_sign 7 = .ok (.invokevirtual 65, 3) := by decide +kernel
theorem dX6_sign_10 : decode cX6_sign 10 = .ok (.ifCond .ne 9, 3) := by decide +kernel
theorem dX6_sign_13 : decode cX6_sign 13 = .ok (.aload_n 0, 1) := by decide +kernel
theorem dX6_sign_14 : decode cX6_sign 14 = .ok (.iconst 1, 1) := by decide +kernel
theorem dX6_sign_15 : decode cX6_sign 15 = .ok (.invokevirtual 58, 3) := by decide +kernel
theorem dX6_sign_18 : decode cX6_sign 18 = .ok (.ireturn, 1) := by decide +kernel
theorem dX6_sign_19 : decode cX6_sign 19 = .ok (.aload_n 0, 1) := by decide +kernel
theorem dX6_sign_20 : decode cX6_sign 20 = .ok (.getfield 13, 3) := by decide +kernel
theorem dX6_sign_23 : decode cX6_sign 23 = .ok (.iload_n 1, 1) := by decide +kernel
theorem dX6_sign_24 : decode cX6_sign 24 = .ok (.iaload, 1) := by decide +kernel
theorem dX6_sign_25 : decode cX6_sign 25 = .ok (.iconst 2, 1) := by decide +kernel
theorem dX6_sign_26 : decode cX6_sign 26 = .ok (.aload_n 0, 1) := by decide +kernel
theorem dX6_sign_27 : decode cX6_sign 27 = .ok (.getfield 16, 3) := by decide +kernel
theorem dX6_sign_30 : decode cX6_sign 30 = .ok (.iload_n 1, 1) := by decide +kernel
theorem dX6_sign_31 : decode cX6_sign 31 = .ok (.iaload, 1) := by decide +kernel
theorem dX6_sign_32 : decode cX6_sign 32 = .ok (.imul, 1) := by decide +kernel
theorem dX6_sign_33 : decode cX6_sign 33 = .ok (.iadd, 1) := by decide +kernel
theorem dX6_sign_34 : decode cX6_sign 34 = .ok (.istore 4, 2) := by decide +kernel
theorem dX6_sign_36 : decode cX6_sign 36 = .ok (.aload_n 0, 1) := by decide +kernel
theorem dX6_sign_37 : decode cX6_sign 37 = .ok (.getfield 13, 3) := by decide +kernel
theorem dX6_sign_40 : decode cX6_sign 40 = .ok (.iload_n 1, 1) := by decide +kernel
theorem dX6_sign_41 : decode cX6_sign 41 = .ok (.iload_n 2, 1) := by decide +kernel
theorem dX6_sign_42 : decode cX6_sign 42 = .ok (.ifCond .eq 7, 3) := by decide +kernel
theorem dX6_sign_45 : decode cX6_sign 45 = .ok (.iconst 1, 1) := by decide +kernel
theorem dX6_sign_46 : decode cX6_sign 46 = .ok (.goto 4, 3) := by decide +kernel
theorem dX6_sign_49 : decode cX6_sign 49 = .ok (.iconst 0, 1) := by decide +kernel
theorem dX6_sign_50 : decode cX6_sign 50 = .ok (.iastore, 1) := by decide +kernel
theorem dX6_sign_51 : decode cX6_sign 51 = .ok (.aload_n 0, 1) := by decide +kernel
theorem dX6_sign_52 : decode cX6_sign 52 = .ok (.getfield 16, 3) := by decide +kernel
theorem dX6_sign_55 : decode cX6_sign 55 = .ok (.iload_n 1, 1) := by decide +kernel
theorem dX6_sign_56 : decode cX6_sign 56 = .ok (.iload_n 3, 1) := by decide +kernel
theorem dX6_sign_57 : decode cX6_sign 57 = .ok (.ifCond .eq 7, 3) := by decide +kernel
theorem dX6_sign_60 : decode cX6_sign 60 = .ok (.iconst 1, 1) := by decide +kernel
theorem dX6_sign_61 : decode cX6_sign 61 = .ok (.goto 4, 3) := by decide +kernel
theorem dX6_sign_64 : decode cX6_sign 64 = .ok (.iconst 0, 1) := by decide +kernel
theorem dX6_sign_65 : decode cX6_sign 65 = .ok (.iastore, 1) := by decide +kernel
theorem dX6_sign_66 : decode cX6_sign 66 = .ok (.iload 4, 2) := by decide +kernel
theorem dX6_sign_68 : decode cX6_sign 68 = .ok (.ireturn, 1) := by decide +kernel
theorem dX6_cannon_0 : decode cX6_cannon 0 = .ok (.aload_n 0, 1) := by decide +kernel
theorem dX6_cannon_1 : decode cX6_cannon 1 = .ok (.iconst 0, 1) := by decide +kernel
theorem dX6_cannon_2 : decode cX6_cannon 2 = .ok (.putfield 40, 3) := by decide +kernel
theorem dX6_cannon_5 : decode cX6_cannon 5 = .ok (.iload_n 1, 1) := by decide +kernel
theorem dX6_cannon_6 : decode cX6_cannon 6 = .ok (.invokestatic 54, 3) := by decide +kernel
theorem dX6_cannon_9 : decode cX6_cannon 9 = .ok (.ifCond .eq 23, 3) := by decide +kernel
theorem dX6_cannon_12 : decode cX6_cannon 12 = .ok (.iload_n 2, 1) := by decide +kernel
theorem dX6_cannon_13 : decode cX6_cannon 13 = .ok (.iconst 1, 1) := by decide +kernel
theorem dX6_cannon_14 : decode cX6_cannon 14 = .ok (.bipush 9, 2) := by decide +kernel
theorem dX6_cannon_16 : decode cX6_cannon 16 = .ok (.invokestatic 44, 3) := by decide +kernel
theorem dX6_cannon_19 : decode cX6_cannon 19 = .ok (.ifCond .eq 13, 3) := by decide +kernel
theorem dX6_cannon_22 : decode cX6_cannon 22 = .ok (.iload_n 3, 1) := by decide +kernel
theorem dX6_cannon_23 : decode cX6_cannon 23 = .ok (.iconst 0, 1) := by decide +kernel
theorem dX6_cannon_24 : decode cX6_cannon 24 = .ok (.bipush 60, 2) := by decide +kernel
theorem dX6_cannon_26 : decode cX6_cannon 26 = .ok (.invokestatic 44, 3) := by decide +kernel
theorem dX6_cannon_29 : decode cX6_cannon 29 = .ok (.ifCond .ne 9, 3) := by decide +kernel
theorem dX6_cannon_32 : decode cX6_cannon 32 = .ok (.aload_n 0, 1) := by decide +kernel
theorem dX6_cannon_33 : decode cX6_cannon 33 = .ok (.iconst 1, 1) := by decide +kernel
theorem dX6_cannon_34 : decode cX6_cannon 34 = .ok (.invokevirtual 58, 3) := by decide +kernel
theorem dX6_cannon_37 : decode cX6_cannon 37 = .ok (.ireturn, 1) := by decide +kernel
theorem dX6_cannon_38 : decode cX6_cannon 38 = .ok (.aload_n 0, 1) := by decide +kernel
theorem dX6_cannon_39 : decode cX6_cannon 39 = .ok (.getfield 51, 3) := by decide +kernel
theorem dX6_cannon_42 : decode cX6_cannon 42 = .ok (.bipush 6, 2) := by decide +kernel
theorem dX6_cannon_44 : decode cX6_cannon 44 = .ok (.if_icmp .ne 9, 3) := by decide +kernel
theorem dX6_cannon_47 : decode cX6_cannon 47 = .ok (.aload_n 0, 1) := by decide +kernel
theorem dX6_cannon_48 : decode cX6_cannon 48 = .ok (.iconst 2, 1) := by decide +kernel
theorem dX6_cannon_49 : decode cX6_cannon 49 = .ok (.invokevirtual 58, 3) := by decide +kernel
theorem dX6_cannon_52 : decode cX6_cannon 52 = .ok (.ireturn, 1) := by decide +kernel
theorem dX6_cannon_53 : decode cX6_cannon 53 = .ok (.aload_n 0, 1) := by decide +kernel
theorem dX6_cannon_54 : decode cX6_cannon 54 = .ok (.getfield 33, 3) := by decide +kernel
theorem dX6_cannon_57 : decode cX6_cannon 57 = .ok (.getfield 68, 3) := by decide +kernel
theorem dX6_cannon_60 : decode cX6_cannon 60 = .ok (.aload_n 0, 1) := by decide +kernel
theorem dX6_cannon_61 : decode cX6_cannon 61 = .ok (.getfield 51, 3) := by decide +kernel
theorem dX6_cannon_64 : decode cX6_cannon 64 = .ok (.iload_n 1, 1) := by decide +kernel
theorem dX6_cannon_65 : decode cX6_cannon 65 = .ok (.iastore, 1) := by decide +kernel
theorem dX6_cannon_66 : decode cX6_cannon 66 = .ok (.aload_n 0, 1) := by decide +kernel
theorem dX6_cannon_67 : decode cX6_cannon 67 = .ok (.getfield 19, 3) := by decide +kernel
theorem dX6_cannon_70 : decode cX6_cannon 70 = .ok (.aload_n 0, 1) := by decide +kernel
theorem dX6_cannon_71 : decode cX6_cannon 71 = .ok (.getfield 51, 3) := by decide +kernel
theorem dX6_cannon_74 : decode cX6_cannon 74 = .ok (.iload_n 2, 1) := by decide +kernel
theorem dX6_cannon_75 : decode cX6_cannon 75 = .ok (.iastore, 1) := by decide +kernel
theorem dX6_cannon_76 : decode cX6_cannon 76 = .ok (.aload_n 0, 1) := by decide +kernel
theorem dX6_cannon_77 : decode cX6_cannon 77 = .ok (.getfield 33, 3) := by decide +kernel
theorem dX6_cannon_80 : decode cX6_cannon 80 = .ok (.getfield 71, 3) := by decide +kernel
theorem dX6_cannon_83 : decode cX6_cannon 83 = .ok (.aload_n 0, 1) := by decide +kernel
theorem dX6_cannon_84 : decode cX6_cannon 84 = .ok (.getfield 51, 3) := by decide +kernel
theorem dX6_cannon_87 : decode cX6_cannon 87 = .ok (.iload_n 3, 1) := by decide +kernel
theorem dX6_cannon_88 : decode cX6_cannon 88 = .ok (.iastore, 1) := by decide +kernel
theorem dX6_cannon_89 : decode cX6_cannon 89 = .ok (.aload_n 0, 1) := by decide +kernel
theorem dX6_cannon_90 : decode cX6_cannon 90 = .ok (.dup, 1) := by decide +kernel
theorem dX6_cannon_91 : decode cX6_cannon 91 = .ok (.getfield 51, 3) := by decide +kernel
theorem dX6_cannon_94 : decode cX6_cannon 94 = .ok (.iconst 1, 1) := by decide +kernel
theorem dX6_cannon_95 : decode cX6_cannon 95 = .ok (.iadd, 1) := by decide +kernel
theorem dX6_cannon_96 : decode cX6_cannon 96 = .ok (.putfield 51, 3) := by decide +kernel
theorem dX6_cannon_99 : decode cX6_cannon 99 = .ok (.aload_n 0, 1) := by decide +kernel
theorem dX6_cannon_100 : decode cX6_cannon 100 = .ok (.getfield 51, 3) := by decide +kernel
theorem dX6_cannon_103 : decode cX6_cannon 103 = .ok (.iconst 1, 1) := by decide +kernel
theorem dX6_cannon_104 : decode cX6_cannon 104 = .ok (.isub, 1) := by decide +kernel
theorem dX6_cannon_105 : decode cX6_cannon 105 = .ok (.ireturn, 1) := by decide +kernel
theorem dX6_load_0 : decode cX6_load 0 = .ok (.aload_n 0, 1) := by decide +kernel
theorem dX6_load_1 : decode cX6_load 1 = .ok (.iconst 0, 1) := by decide +kernel
theorem dX6_load_2 : decode cX6_load 2 = .ok (.putfield 40, 3) := by decide +kernel
theorem dX6_load_5 : decode cX6_load 5 = .ok (.aload_n 0, 1) := by decide +kernel
theorem dX6_load_6 : decode cX6_load 6 = .ok (.iload_n 1, 1) := by decide +kernel
theorem dX6_load_7 : decode cX6_load 7 = .ok (.invokevirtual 74, 3) := by decide +kernel
theorem dX6_load_10 : decode cX6_load 10 = .ok (.ifCond .ne 9, 3) := by decide +kernel
theorem dX6_load_13 : decode cX6_load 13 = .ok (.aload_n 0, 1) := by decide +kernel
theorem dX6_load_14 : decode cX6_load 14 = .ok (.iconst 1, 1) := by decide +kernel
theorem dX6_load_15 : decode cX6_load 15 = .ok (.invokevirtual 58, 3) := by decide +kernel
theorem dX6_load_18 : decode cX6_load 18 = .ok (.ireturn, 1) := by decide +kernel
theorem dX6_load_19 : decode cX6_load 19 = .ok (.iload_n 2, 1) := by decide +kernel
theorem dX6_load_20 : decode cX6_load 20 = .ok (.iconst 1, 1) := by decide +kernel
theorem dX6_load_21 : decode cX6_load 21 = .ok (.bipush 60, 2) := by decide +kernel
theorem dX6_load_23 : decode cX6_load 23 = .ok (.invokestatic 44, 3) := by decide +kernel
theorem dX6_load_26 : decode cX6_load 26 = .ok (.ifCond .ne 9, 3) := by decide +kernel
theorem dX6_load_29 : decode cX6_load 29 = .ok (.aload_n 0, 1) := by decide +kernel
theorem dX6_load_30 : decode cX6_load 30 = .ok (.iconst 2, 1) := by decide +kernel
theorem dX6_load_31 : decode cX6_load 31 = .ok (.invokevirtual 58, 3) := by decide +kernel
theorem dX6_load_34 : decode cX6_load 34 = .ok (.ireturn, 1) := by decide +kernel
theorem dX6_load_35 : decode cX6_load 35 = .ok (.aload_n 0, 1) := by decide +kernel
theorem dX6_load_36 : decode cX6_load 36 = .ok (.getfield 33, 3) := by decide +kernel
theorem dX6_load_39 : decode cX6_load 39 = .ok (.dup, 1) := by decide +kernel
theorem dX6_load_40 : decode cX6_load 40 = .ok (.getfield 77, 3) := by decide +kernel
theorem dX6_load_43 : decode cX6_load 43 = .ok (.iload_n 2, 1) := by decide +kernel
theorem dX6_load_44 : decode cX6_load 44 = .ok (.iconst 5, 1) := by decide +kernel
theorem dX6_load_45 : decode cX6_load 45 = .ok (.idiv, 1) := by decide +kernel
theorem dX6_load_46 : decode cX6_load 46 = .ok (.isub, 1) := by decide +kernel
theorem dX6_load_47 : decode cX6_load 47 = .ok (.putfield 77, 3) := by decide +kernel
theorem dX6_load_50 : decode cX6_load 50 = .ok (.aload_n 0, 1) := by decide +kernel
theorem dX6_load_51 : decode cX6_load 51 = .ok (.getfield 33, 3) := by decide +kernel
theorem dX6_load_54 : decode cX6_load 54 = .ok (.getfield 71, 3) := by decide +kernel
theorem dX6_load_57 : decode cX6_load 57 = .ok (.iload_n 1, 1) := by decide +kernel
theorem dX6_load_58 : decode cX6_load 58 = .ok (.bipush 60, 2) := by decide +kernel
theorem dX6_load_60 : decode cX6_load 60 = .ok (.aload_n 0, 1) := by decide +kernel
theorem dX6_load_61 : decode cX6_load 61 = .ok (.getfield 33, 3) := by decide +kernel
theorem dX6_load_64 : decode cX6_load 64 = .ok (.getfield 71, 3) := by decide +kernel
theorem dX6_load_67 : decode cX6_load 67 = .ok (.iload_n 1, 1) := by decide +kernel
theorem dX6_load_68 : decode cX6_load 68 = .ok (.iaload, 1) := by decide +kernel
theorem dX6_load_69 : decode cX6_load 69 = .ok (.iload_n 2, 1) := by decide +kernel
theorem dX6_load_70 : decode cX6_load 70 = .ok (.iadd, 1) := by decide +kernel
theorem dX6_load_71 : decode cX6_load 71 = .ok (.invokestatic 80, 3) := by decide +kernel
theorem dX6_load_74 : decode cX6_load 74 = .ok (.iastore, 1) := by decide +kernel
theorem dX6_load_75 : decode cX6_load 75 = .ok (.aload_n 0, 1) := by decide +kernel
theorem dX6_load_76 : decode cX6_load 76 = .ok (.getfield 33, 3) := by decide +kernel
theorem dX6_load_79 : decode cX6_load 79 = .ok (.getfield 71, 3) := by decide +kernel
theorem dX6_load_82 : decode cX6_load 82 = .ok (.iload_n 1, 1) := by decide +kernel
theorem dX6_load_83 : decode cX6_load 83 = .ok (.iaload, 1) := by decide +kernel
theorem dX6_load_84 : decode cX6_load 84 = .ok (.ireturn, 1) := by decide +kernel
theorem dX6_gather_0 : decode cX6_gather 0 = .ok (.aload_n 0, 1) := by decide +kernel
theorem dX6_gather_1 : decode cX6_gather 1 = .ok (.iconst 0, 1) := by decide +kernel
theorem dX6_gather_2 : decode cX6_gather 2 = .ok (.putfield 40, 3) := by decide +kernel
theorem dX6_gather_5 : decode cX6_gather 5 = .ok (.iload_n 1, 1) := by decide +kernel
theorem dX6_gather_6 : decode cX6_gather 6 = .ok (.invokestatic 54, 3) := by decide +kernel
theorem dX6_gather_9 : decode cX6_gather 9 = .ok (.ifCond .eq 23, 3) := by decide +kernel
theorem dX6_gather_12 : decode cX6_gather 12 = .ok (.iload_n 2, 1) := by decide +kernel
theorem dX6_gather_13 : decode cX6_gather 13 = .ok (.bipush (-3), 2) := by decide +kernel
theorem dX6_gather_15 : decode cX6_gather 15 = .ok (.iconst 3, 1) := by decide +kernel
theorem dX6_gather_16 : decode cX6_gather 16 = .ok (.invokestatic 44, 3) := by decide +kernel
theorem dX6_gather_19 : decode cX6_gather 19 = .ok (.ifCond .eq 13, 3) := by decide +kernel
theorem dX6_gather_22 : decode cX6_gather 22 = .ok (.iload_n 3, 1) := by decide +kernel
theorem dX6_gather_23 : decode cX6_gather 23 = .ok (.iconst 0, 1) := by decide +kernel
theorem dX6_gather_24 : decode cX6_gather 24 = .ok (.bipush 60, 2) := by decide +kernel
theorem dX6_gather_26 : decode cX6_gather 26 = .ok (.invokestatic 44, 3) := by decide +kernel
theorem dX6_gather_29 : decode cX6_gather 29 = .ok (.ifCond .ne 9, 3) := by decide +kernel
theorem dX6_gather_32 : decode cX6_gather 32 = .ok (.aload_n 0, 1) := by decide +kernel
theorem dX6_gather_33 : decode cX6_gather 33 = .ok (.iconst 1, 1) := by decide +kernel
theorem dX6_gather_34 : decode cX6_gather 34 = .ok (.invokevirtual 58, 3) := by decide +kernel
theorem dX6_gather_37 : decode cX6_gather 37 = .ok (.ireturn, 1) := by decide +kernel
theorem dX6_gather_38 : decode cX6_gather 38 = .ok (.aload_n 0, 1) := by decide +kernel
theorem dX6_gather_39 : decode cX6_gather 39 = .ok (.getfield 86, 3) := by decide +kernel
theorem dX6_gather_42 : decode cX6_gather 42 = .ok (.bipush 20, 2) := by decide +kernel
theorem dX6_gather_44 : decode cX6_gather 44 = .ok (.if_icmp .ne 9, 3) := by decide +kernel
theorem dX6_gather_47 : decode cX6_gather 47 = .ok (.aload_n 0, 1) := by decide +kernel
theorem dX6_gather_48 : decode cX6_gather 48 = .ok (.iconst 2, 1) := by decide +kernel
theorem dX6_gather_49 : decode cX6_gather 49 = .ok (.invokevirtual 58, 3) := by decide +kernel
theorem dX6_gather_52 : decode cX6_gather 52 = .ok (.ireturn, 1) := by decide +kernel
theorem dX6_gather_53 : decode cX6_gather 53 = .ok (.aload_n 0, 1) := by decide +kernel
theorem dX6_gather_54 : decode cX6_gather 54 = .ok (.getfield 33, 3) := by decide +kernel
theorem dX6_gather_57 : decode cX6_gather 57 = .ok (.getfield 89, 3) := by decide +kernel
theorem dX6_gather_60 : decode cX6_gather 60 = .ok (.aload_n 0, 1) := by decide +kernel
theorem dX6_gather_61 : decode cX6_gather 61 = .ok (.getfield 86, 3) := by decide +kernel
theorem dX6_gather_64 : decode cX6_gather 64 = .ok (.iload_n 1, 1) := by decide +kernel
theorem dX6_gather_65 : decode cX6_gather 65 = .ok (.iastore, 1) := by decide +kernel
theorem dX6_gather_66 : decode cX6_gather 66 = .ok (.aload_n 0, 1) := by decide +kernel
theorem dX6_gather_67 : decode cX6_gather 67 = .ok (.getfield 22, 3) := by decide +kernel
theorem dX6_gather_70 : decode cX6_gather 70 = .ok (.aload_n 0, 1) := by decide +kernel
theorem dX6_gather_71 : decode cX6_gather 71 = .ok (.getfield 86, 3) := by decide +kernel
theorem dX6_gather_74 : decode cX6_gather 74 = .ok (.iload_n 2, 1) := by decide +kernel
theorem dX6_gather_75 : decode cX6_gather 75 = .ok (.iastore, 1) := by decide +kernel
theorem dX6_gather_76 : decode cX6_gather 76 = .ok (.aload_n 0, 1) := by decide +kernel
theorem dX6_gather_77 : decode cX6_gather 77 = .ok (.getfield 33, 3) := by decide +kernel
theorem dX6_gather_80 : decode cX6_gather 80 = .ok (.getfield 92, 3) := by decide +kernel
theorem dX6_gather_83 : decode cX6_gather 83 = .ok (.aload_n 0, 1) := by decide +kernel
theorem dX6_gather_84 : decode cX6_gather 84 = .ok (.getfield 86, 3) := by decide +kernel
theorem dX6_gather_87 : decode cX6_gather 87 = .ok (.iload_n 3, 1) := by decide +kernel
theorem dX6_gather_88 : decode cX6_gather 88 = .ok (.iastore, 1) := by decide +kernel
theorem dX6_gather_89 : decode cX6_gather 89 = .ok (.aload_n 0, 1) := by decide +kernel
theorem dX6_gather_90 : decode cX6_gather 90 = .ok (.dup, 1) := by decide +kernel
theorem dX6_gather_91 : decode cX6_gather 91 = .ok (.getfield 86, 3) := by decide +kernel
theorem dX6_gather_94 : decode cX6_gather 94 = .ok (.iconst 1, 1) := by decide +kernel
theorem dX6_gather_95 : decode cX6_gather 95 = .ok (.iadd, 1) := by decide +kernel
theorem dX6_gather_96 : decode cX6_gather 96 = .ok (.putfield 86, 3) := by decide +kernel
theorem dX6_gather_99 : decode cX6_gather 99 = .ok (.aload_n 0, 1) := by decide +kernel
theorem dX6_gather_100 : decode cX6_gather 100 = .ok (.getfield 86, 3) := by decide +kernel
theorem dX6_gather_103 : decode cX6_gather 103 = .ok (.iconst 1, 1) := by decide +kernel
theorem dX6_gather_104 : decode cX6_gather 104 = .ok (.isub, 1) := by decide +kernel
theorem dX6_gather_105 : decode cX6_gather 105 = .ok (.ireturn, 1) := by decide +kernel
theorem dX6_setWind_0 : decode cX6_setWind 0 = .ok (.aload_n 0, 1) := by decide +kernel
theorem dX6_setWind_1 : decode cX6_setWind 1 = .ok (.iconst 0, 1) := by decide +kernel
theorem dX6_setWind_2 : decode cX6_setWind 2 = .ok (.putfield 40, 3) := by decide +kernel
theorem dX6_setWind_5 : decode cX6_setWind 5 = .ok (.iload_n 1, 1) := by decide +kernel
theorem dX6_setWind_6 : decode cX6_setWind 6 = .ok (.iconst 0, 1) := by decide +kernel
theorem dX6_setWind_7 : decode cX6_setWind 7 = .ok (.iconst 5, 1) := by decide +kernel
theorem dX6_setWind_8 : decode cX6_setWind 8 = .ok (.invokestatic 44, 3) := by decide +kernel
theorem dX6_setWind_11 : decode cX6_setWind 11 = .ok (.ifCond .ne 9, 3) := by decide +kernel
theorem dX6_setWind_14 : decode cX6_setWind 14 = .ok (.aload_n 0, 1) := by decide +kernel
theorem dX6_setWind_15 : decode cX6_setWind 15 = .ok (.iconst 1, 1) := by decide +kernel
theorem dX6_setWind_16 : decode cX6_setWind 16 = .ok (.invokevirtual 58, 3) := by decide +kernel
theorem dX6_setWind_19 : decode cX6_setWind 19 = .ok (.ireturn, 1) := by decide +kernel
theorem dX6_setWind_20 : decode cX6_setWind 20 = .ok (.iload_n 2, 1) := by decide +kernel
theorem dX6_setWind_21 : decode cX6_setWind 21 = .ok (.bipush (-2), 2) := by decide +kernel
theorem dX6_setWind_23 : decode cX6_setWind 23 = .ok (.iconst 2, 1) := by decide +kernel
theorem dX6_setWind_24 : decode cX6_setWind 24 = .ok (.invokestatic 44, 3) := by decide +kernel
theorem dX6_setWind_27 : decode cX6_setWind 27 = .ok (.ifCond .ne 9, 3) := by decide +kernel
theorem dX6_setWind_30 : decode cX6_setWind 30 = .ok (.aload_n 0, 1) := by decide +kernel
theorem dX6_setWind_31 : decode cX6_setWind 31 = .ok (.iconst 2, 1) := by decide +kernel
theorem dX6_setWind_32 : decode cX6_setWind 32 = .ok (.invokevirtual 58, 3) := by decide +kernel
theorem dX6_setWind_35 : decode cX6_setWind 35 = .ok (.ireturn, 1) := by decide +kernel
theorem dX6_setWind_36 : decode cX6_setWind 36 = .ok (.aload_n 0, 1) := by decide +kernel
theorem dX6_setWind_37 : decode cX6_setWind 37 = .ok (.getfield 25, 3) := by decide +kernel
theorem dX6_setWind_40 : decode cX6_setWind 40 = .ok (.iload_n 1, 1) := by decide +kernel
theorem dX6_setWind_41 : decode cX6_setWind 41 = .ok (.iaload, 1) := by decide +kernel
theorem dX6_setWind_42 : decode cX6_setWind 42 = .ok (.istore_n 3, 1) := by decide +kernel
theorem dX6_setWind_43 : decode cX6_setWind 43 = .ok (.aload_n 0, 1) := by decide +kernel
theorem dX6_setWind_44 : decode cX6_setWind 44 = .ok (.getfield 25, 3) := by decide +kernel
theorem dX6_setWind_47 : decode cX6_setWind 47 = .ok (.iload_n 1, 1) := by decide +kernel
theorem dX6_setWind_48 : decode cX6_setWind 48 = .ok (.iload_n 2, 1) := by decide +kernel
theorem dX6_setWind_49 : decode cX6_setWind 49 = .ok (.iastore, 1) := by decide +kernel
theorem dX6_setWind_50 : decode cX6_setWind 50 = .ok (.iload_n 3, 1) := by decide +kernel
theorem dX6_setWind_51 : decode cX6_setWind 51 = .ok (.ireturn, 1) := by decide +kernel
theorem dX6_yardTold_0 : decode cX6_yardTold 0 = .ok (.bipush 7, 2) := by decide +kernel
theorem dX6_yardTold_2 : decode cX6_yardTold 2 = .ok (.newarray .int, 2) := by decide +kernel
theorem dX6_yardTold_4 : decode cX6_yardTold 4 = .ok (.dup, 1) := by decide +kernel
theorem dX6_yardTold_5 : decode cX6_yardTold 5 = .ok (.iconst 0, 1) := by decide +kernel
theorem dX6_yardTold_6 : decode cX6_yardTold 6 = .ok (.aload_n 0, 1) := by decide +kernel
theorem dX6_yardTold_7 : decode cX6_yardTold 7 = .ok (.getfield 9, 3) := by decide +kernel
theorem dX6_yardTold_10 : decode cX6_yardTold 10 = .ok (.iload_n 1, 1) := by decide +kernel
theorem dX6_yardTold_11 : decode cX6_yardTold 11 = .ok (.iaload, 1) := by decide +kernel
theorem dX6_yardTold_12 : decode cX6_yardTold 12 = .ok (.iastore, 1) := by decide +kernel
theorem dX6_yardTold_13 : decode cX6_yardTold 13 = .ok (.dup, 1) := by decide +kernel
theorem dX6_yardTold_14 : decode cX6_yardTold 14 = .ok (.iconst 1, 1) := by decide +kernel
theorem dX6_yardTold_15 : decode cX6_yardTold 15 = .ok (.aload_n 0, 1) := by decide +kernel
theorem dX6_yardTold_16 : decode cX6_yardTold 16 = .ok (.getfield 33, 3) := by decide +kernel
theorem dX6_yardTold_19 : decode cX6_yardTold 19 = .ok (.getfield 62, 3) := by decide +kernel
theorem dX6_yardTold_22 : decode cX6_yardTold 22 = .ok (.iload_n 1, 1) := by decide +kernel
theorem dX6_yardTold_23 : decode cX6_yardTold 23 = .ok (.iaload, 1) := by decide +kernel
theorem dX6_yardTold_24 : decode cX6_yardTold 24 = .ok (.iastore, 1) := by decide +kernel
theorem dX6_yardTold_25 : decode cX6_yardTold 25 = .ok (.dup, 1) := by decide +kernel
theorem dX6_yardTold_26 : decode cX6_yardTold 26 = .ok (.iconst 2, 1) := by decide +kernel
theorem dX6_yardTold_27 : decode cX6_yardTold 27 = .ok (.aload_n 0, 1) := by decide +kernel
theorem dX6_yardTold_28 : decode cX6_yardTold 28 = .ok (.getfield 13, 3) := by decide +kernel
theorem dX6_yardTold_31 : decode cX6_yardTold 31 = .ok (.iload_n 1, 1) := by decide +kernel
theorem dX6_yardTold_32 : decode cX6_yardTold 32 = .ok (.iaload, 1) := by decide +kernel
theorem dX6_yardTold_33 : decode cX6_yardTold 33 = .ok (.iastore, 1) := by decide +kernel
theorem dX6_yardTold_34 : decode cX6_yardTold 34 = .ok (.dup, 1) := by decide +kernel
theorem dX6_yardTold_35 : decode cX6_yardTold 35 = .ok (.iconst 3, 1) := by decide +kernel
theorem dX6_yardTold_36 : decode cX6_yardTold 36 = .ok (.aload_n 0, 1) := by decide +kernel
theorem dX6_yardTold_37 : decode cX6_yardTold 37 = .ok (.getfield 16, 3) := by decide +kernel
theorem dX6_yardTold_40 : decode cX6_yardTold 40 = .ok (.iload_n 1, 1) := by decide +kernel
theorem dX6_yardTold_41 : decode cX6_yardTold 41 = .ok (.iaload, 1) := by decide +kernel
theorem dX6_yardTold_42 : decode cX6_yardTold 42 = .ok (.iastore, 1) := by decide +kernel
theorem dX6_yardTold_43 : decode cX6_yardTold 43 = .ok (.dup, 1) := by decide +kernel
theorem dX6_yardTold_44 : decode cX6_yardTold 44 = .ok (.iconst 4, 1) := by decide +kernel
theorem dX6_yardTold_45 : decode cX6_yardTold 45 = .ok (.aload_n 0, 1) := by decide +kernel
theorem dX6_yardTold_46 : decode cX6_yardTold 46 = .ok (.getfield 33, 3) := by decide +kernel
theorem dX6_yardTold_49 : decode cX6_yardTold 49 = .ok (.getfield 95, 3) := by decide +kernel
theorem dX6_yardTold_52 : decode cX6_yardTold 52 = .ok (.iload_n 1, 1) := by decide +kernel
theorem dX6_yardTold_53 : decode cX6_yardTold 53 = .ok (.iaload, 1) := by decide +kernel
theorem dX6_yardTold_54 : decode cX6_yardTold 54 = .ok (.iastore, 1) := by decide +kernel
theorem dX6_yardTold_55 : decode cX6_yardTold 55 = .ok (.dup, 1) := by decide +kernel
theorem dX6_yardTold_56 : decode cX6_yardTold 56 = .ok (.iconst 5, 1) := by decide +kernel
theorem dX6_yardTold_57 : decode cX6_yardTold 57 = .ok (.aload_n 0, 1) := by decide +kernel
theorem dX6_yardTold_58 : decode cX6_yardTold 58 = .ok (.getfield 33, 3) := by decide +kernel
theorem dX6_yardTold_61 : decode cX6_yardTold 61 = .ok (.getfield 98, 3) := by decide +kernel
theorem dX6_yardTold_64 : decode cX6_yardTold 64 = .ok (.iload_n 1, 1) := by decide +kernel
theorem dX6_yardTold_65 : decode cX6_yardTold 65 = .ok (.iaload, 1) := by decide +kernel
theorem dX6_yardTold_66 : decode cX6_yardTold 66 = .ok (.iastore, 1) := by decide +kernel
theorem dX6_yardTold_67 : decode cX6_yardTold 67 = .ok (.dup, 1) := by decide +kernel
theorem dX6_yardTold_68 : decode cX6_yardTold 68 = .ok (.bipush 6, 2) := by decide +kernel
theorem dX6_yardTold_70 : decode cX6_yardTold 70 = .ok (.aload_n 0, 1) := by decide +kernel
theorem dX6_yardTold_71 : decode cX6_yardTold 71 = .ok (.getfield 33, 3) := by decide +kernel
theorem dX6_yardTold_74 : decode cX6_yardTold 74 = .ok (.getfield 101, 3) := by decide +kernel
theorem dX6_yardTold_77 : decode cX6_yardTold 77 = .ok (.iload_n 1, 1) := by decide +kernel
theorem dX6_yardTold_78 : decode cX6_yardTold 78 = .ok (.iaload, 1) := by decide +kernel
theorem dX6_yardTold_79 : decode cX6_yardTold 79 = .ok (.iastore, 1) := by decide +kernel
theorem dX6_yardTold_80 : decode cX6_yardTold 80 = .ok (.astore_n 3, 1) := by decide +kernel
theorem dX6_yardTold_81 : decode cX6_yardTold 81 = .ok (.aload_n 3, 1) := by decide +kernel
theorem dX6_yardTold_82 : decode cX6_yardTold 82 = .ok (.iload_n 2, 1) := by decide +kernel
theorem dX6_yardTold_83 : decode cX6_yardTold 83 = .ok (.iaload, 1) := by decide +kernel
theorem dX6_yardTold_84 : decode cX6_yardTold 84 = .ok (.ireturn, 1) := by decide +kernel
theorem dX6_vineyard_0 : decode cX6_vineyard 0 = .ok (.aload_n 0, 1) := by decide +kernel
theorem dX6_vineyard_1 : decode cX6_vineyard 1 = .ok (.iconst 0, 1) := by decide +kernel
theorem dX6_vineyard_2 : decode cX6_vineyard 2 = .ok (.putfield 40, 3) := by decide +kernel
theorem dX6_vineyard_5 : decode cX6_vineyard 5 = .ok (.aload_n 0, 1) := by decide +kernel
theorem dX6_vineyard_6 : decode cX6_vineyard 6 = .ok (.iload_n 1, 1) := by decide +kernel
theorem dX6_vineyard_7 : decode cX6_vineyard 7 = .ok (.invokevirtual 65, 3) := by decide +kernel
theorem dX6_vineyard_10 : decode cX6_vineyard 10 = .ok (.ifCond .eq 22, 3) := by decide +kernel
theorem dX6_vineyard_13 : decode cX6_vineyard 13 = .ok (.iload_n 2, 1) := by decide +kernel
theorem dX6_vineyard_14 : decode cX6_vineyard 14 = .ok (.iconst 0, 1) := by decide +kernel
theorem dX6_vineyard_15 : decode cX6_vineyard 15 = .ok (.bipush 6, 2) := by decide +kernel
theorem dX6_vineyard_17 : decode cX6_vineyard 17 = .ok (.invokestatic 44, 3) := by decide +kernel
theorem dX6_vineyard_20 : decode cX6_vineyard 20 = .ok (.ifCond .eq 12, 3) := by decide +kernel
theorem dX6_vineyard_23 : decode cX6_vineyard 23 = .ok (.aload_n 0, 1) := by decide +kernel
theorem dX6_vineyard_24 : decode cX6_vineyard 24 = .ok (.iload_n 1, 1) := by decide +kernel
theorem dX6_vineyard_25 : decode cX6_vineyard 25 = .ok (.iload_n 2, 1) := by decide +kernel
theorem dX6_vineyard_26 : decode cX6_vineyard 26 = .ok (.invokevirtual 104, 3) := by decide +kernel
theorem dX6_vineyard_29 : decode cX6_vineyard 29 = .ok (.goto 8, 3) := by decide +kernel
theorem dX6_vineyard_32 : decode cX6_vineyard 32 = .ok (.aload_n 0, 1) := by decide +kernel
theorem dX6_vineyard_33 : decode cX6_vineyard 33 = .ok (.iconst 1, 1) := by decide +kernel
theorem dX6_vineyard_34 : decode cX6_vineyard 34 = .ok (.invokevirtual 58, 3) := by decide +kernel
theorem dX6_vineyard_37 : decode cX6_vineyard 37 = .ok (.ireturn, 1) := by decide +kernel
theorem dX6_cannonTold_0 : decode cX6_cannonTold 0 = .ok (.iconst 5, 1) := by decide +kernel
theorem dX6_cannonTold_1 : decode cX6_cannonTold 1 = .ok (.newarray .int, 2) := by decide +kernel
theorem dX6_cannonTold_3 : decode cX6_cannonTold 3 = .ok (.dup, 1) := by decide +kernel
theorem dX6_cannonTold_4 : decode cX6_cannonTold 4 = .ok (.iconst 0, 1) := by decide +kernel
theorem dX6_cannonTold_5 : decode cX6_cannonTold 5 = .ok (.aload_n 0, 1) := by decide +kernel
theorem dX6_cannonTold_6 : decode cX6_cannonTold 6 = .ok (.getfield 33, 3) := by decide +kernel
theorem dX6_cannonTold_9 : decode cX6_cannonTold 9 = .ok (.getfield 68, 3) := by decide +kernel
theorem dX6_cannonTold_12 : decode cX6_cannonTold 12 = .ok (.iload_n 1, 1) := by decide +kernel
theorem dX6_cannonTold_13 : decode cX6_cannonTold 13 = .ok (.iaload, 1) := by decide +kernel
theorem dX6_cannonTold_14 : decode cX6_cannonTold 14 = .ok (.iastore, 1) := by decide +kernel
theorem dX6_cannonTold_15 : decode cX6_cannonTold 15 = .ok (.dup, 1) := by decide +kernel
theorem dX6_cannonTold_16 : decode cX6_cannonTold 16 = .ok (.iconst 1, 1) := by decide +kernel
theorem dX6_cannonTold_17 : decode cX6_cannonTold 17 = .ok (.aload_n 0, 1) := by decide +kernel
theorem dX6_cannonTold_18 : decode cX6_cannonTold 18 = .ok (.getfield 19, 3) := by decide +kernel
theorem dX6_cannonTold_21 : decode cX6_cannonTold 21 = .ok (.iload_n 1, 1) := by decide +kernel
theorem dX6_cannonTold_22 : decode cX6_cannonTold 22 = .ok (.iaload, 1) := by decide +kernel
theorem dX6_cannonTold_23 : decode cX6_cannonTold 23 = .ok (.iastore, 1) := by decide +kernel
theorem dX6_cannonTold_24 : decode cX6_cannonTold 24 = .ok (.dup, 1) := by decide +kernel
theorem dX6_cannonTold_25 : decode cX6_cannonTold 25 = .ok (.iconst 2, 1) := by decide +kernel
theorem dX6_cannonTold_26 : decode cX6_cannonTold 26 = .ok (.aload_n 0, 1) := by decide +kernel
theorem dX6_cannonTold_27 : decode cX6_cannonTold 27 = .ok (.getfield 33, 3) := by decide +kernel
theorem dX6_cannonTold_30 : decode cX6_cannonTold 30 = .ok (.getfield 71, 3) := by decide +kernel
theorem dX6_cannonTold_33 : decode cX6_cannonTold 33 = .ok (.iload_n 1, 1) := by decide +kernel
theorem dX6_cannonTold_34 : decode cX6_cannonTold 34 = .ok (.iaload, 1) := by decide +kernel
theorem dX6_cannonTold_35 : decode cX6_cannonTold 35 = .ok (.iastore, 1) := by decide +kernel
theorem dX6_cannonTold_36 : decode cX6_cannonTold 36 = .ok (.dup, 1) := by decide +kernel
theorem dX6_cannonTold_37 : decode cX6_cannonTold 37 = .ok (.iconst 3, 1) := by decide +kernel
theorem dX6_cannonTold_38 : decode cX6_cannonTold 38 = .ok (.aload_n 0, 1) := by decide +kernel
theorem dX6_cannonTold_39 : decode cX6_cannonTold 39 = .ok (.getfield 33, 3) := by decide +kernel
theorem dX6_cannonTold_42 : decode cX6_cannonTold 42 = .ok (.getfield 107, 3) := by decide +kernel
theorem dX6_cannonTold_45 : decode cX6_cannonTold 45 = .ok (.iload_n 1, 1) := by decide +kernel
theorem dX6_cannonTold_46 : decode cX6_cannonTold 46 = .ok (.iaload, 1) := by decide +kernel
theorem dX6_cannonTold_47 : decode cX6_cannonTold 47 = .ok (.iastore, 1) := by decide +kernel
theorem dX6_cannonTold_48 : decode cX6_cannonTold 48 = .ok (.dup, 1) := by decide +kernel
theorem dX6_cannonTold_49 : decode cX6_cannonTold 49 = .ok (.iconst 4, 1) := by decide +kernel
theorem dX6_cannonTold_50 : decode cX6_cannonTold 50 = .ok (.aload_n 0, 1) := by decide +kernel
theorem dX6_cannonTold_51 : decode cX6_cannonTold 51 = .ok (.getfield 33, 3) := by decide +kernel
theorem dX6_cannonTold_54 : decode cX6_cannonTold 54 = .ok (.iload_n 1, 1) := by decide +kernel
theorem dX6_cannonTold_55 : decode cX6_cannonTold 55 = .ok (.invokevirtual 110, 3) := by decide +kernel
theorem dX6_cannonTold_58 : decode cX6_cannonTold 58 = .ok (.iastore, 1) := by decide +kernel
theorem dX6_cannonTold_59 : decode cX6_cannonTold 59 = .ok (.astore_n 3, 1) := by decide +kernel
theorem dX6_cannonTold_60 : decode cX6_cannonTold 60 = .ok (.aload_n 3, 1) := by decide +kernel
theorem dX6_cannonTold_61 : decode cX6_cannonTold 61 = .ok (.iload_n 2, 1) := by decide +kernel
theorem dX6_cannonTold_62 : decode cX6_cannonTold 62 = .ok (.iaload, 1) := by decide +kernel
theorem dX6_cannonTold_63 : decode cX6_cannonTold 63 = .ok (.ireturn, 1) := by decide +kernel
theorem dX6_about_0 : decode cX6_about 0 = .ok (.aload_n 0, 1) := by decide +kernel
theorem dX6_about_1 : decode cX6_about 1 = .ok (.iconst 0, 1) := by decide +kernel
theorem dX6_about_2 : decode cX6_about 2 = .ok (.putfield 40, 3) := by decide +kernel
theorem dX6_about_5 : decode cX6_about 5 = .ok (.aload_n 0, 1) := by decide +kernel
theorem dX6_about_6 : decode cX6_about 6 = .ok (.iload_n 1, 1) := by decide +kernel
theorem dX6_about_7 : decode cX6_about 7 = .ok (.invokevirtual 74, 3) := by decide +kernel
theorem dX6_about_10 : decode cX6_about 10 = .ok (.ifCond .eq 21, 3) := by decide +kernel
theorem dX6_about_13 : decode cX6_about 13 = .ok (.iload_n 2, 1) := by decide +kernel
theorem dX6_about_14 : decode cX6_about 14 = .ok (.iconst 0, 1) := by decide +kernel
theorem dX6_about_15 : decode cX6_about 15 = .ok (.iconst 4, 1) := by decide +kernel
theorem dX6_about_16 : decode cX6_about 16 = .ok (.invokestatic 44, 3) := by decide +kernel
theorem dX6_about_19 : decode cX6_about 19 = .ok (.ifCond .eq 12, 3) := by decide +kernel
theorem dX6_about_22 : decode cX6_about 22 = .ok (.aload_n 0, 1) := by decide +kernel
theorem dX6_about_23 : decode cX6_about 23 = .ok (.iload_n 1, 1) := by decide +kernel
theorem dX6_about_24 : decode cX6_about 24 = .ok (.iload_n 2, 1) := by decide +kernel
theorem dX6_about_25 : decode cX6_about 25 = .ok (.invokevirtual 113, 3) := by decide +kernel
theorem dX6_about_28 : decode cX6_about 28 = .ok (.goto 8, 3) := by decide +kernel
theorem dX6_about_31 : decode cX6_about 31 = .ok (.aload_n 0, 1) := by decide +kernel
theorem dX6_about_32 : decode cX6_about 32 = .ok (.iconst 1, 1) := by decide +kernel
theorem dX6_about_33 : decode cX6_about 33 = .ok (.invokevirtual 58, 3) := by decide +kernel
theorem dX6_about_36 : decode cX6_about 36 = .ok (.ireturn, 1) := by decide +kernel
theorem dX6_cloudTold_0 : decode cX6_cloudTold 0 = .ok (.iload_n 2, 1) := by decide +kernel
theorem dX6_cloudTold_1 : decode cX6_cloudTold 1 = .ok (.ifCond .ne 15, 3) := by decide +kernel
theorem dX6_cloudTold_4 : decode cX6_cloudTold 4 = .ok (.aload_n 0, 1) := by decide +kernel
theorem dX6_cloudTold_5 : decode cX6_cloudTold 5 = .ok (.getfield 33, 3) := by decide +kernel
theorem dX6_cloudTold_8 : decode cX6_cloudTold 8 = .ok (.getfield 89, 3) := by decide +kernel
theorem dX6_cloudTold_11 : decode cX6_cloudTold 11 = .ok (.iload_n 1, 1) := by decide +kernel
theorem dX6_cloudTold_12 : decode cX6_cloudTold 12 = .ok (.iaload, 1) := by decide +kernel
theorem dX6_cloudTold_13 : decode cX6_cloudTold 13 = .ok (.goto 50, 3) := by decide +kernel
theorem dX6_cloudTold_16 : decode cX6_cloudTold 16 = .ok (.iload_n 2, 1) := by decide +kernel
theorem dX6_cloudTold_17 : decode cX6_cloudTold 17 = .ok (.iconst 1, 1) := by decide +kernel
theorem dX6_cloudTold_18 : decode cX6_cloudTold 18 = .ok (.if_icmp .ne 12, 3) := by decide +kernel
theorem dX6_cloudTold_21 : decode cX6_cloudTold 21 = .ok (.aload_n 0, 1) := by decide +kernel
theorem dX6_cloudTold_22 : decode cX6_cloudTold 22 = .ok (.getfield 22, 3) := by decide +kernel
theorem dX6_cloudTold_25 : decode cX6_cloudTold 25 = .ok (.iload_n 1, 1) := by decide +kernel
theorem dX6_cloudTold_26 : decode cX6_cloudTold 26 = .ok (.iaload, 1) := by decide +kernel
theorem dX6_cloudTold_27 : decode cX6_cloudTold 27 = .ok (.goto 36, 3) := by decide +kernel
theorem dX6_cloudTold_30 : decode cX6_cloudTold 30 = .ok (.iload_n 2, 1) := by decide +kernel
theorem dX6_cloudTold_31 : decode cX6_cloudTold 31 = .ok (.iconst 2, 1) := by decide +kernel
theorem dX6_cloudTold_32 : decode cX6_cloudTold 32 = .ok (.if_icmp .ne 15, 3) := by decide +kernel
theorem dX6_cloudTold_35 : decode cX6_cloudTold 35 = .ok (.aload_n 0, 1) := by decide +kernel
theorem dX6_cloudTold_36 : decode cX6_cloudTold 36 = .ok (.getfield 33, 3) := by decide +kernel
theorem dX6_cloudTold_39 : decode cX6_cloudTold 39 = .ok (.getfield 92, 3) := by decide +kernel
theorem dX6_cloudTold_42 : decode cX6_cloudTold 42 = .ok (.iload_n 1, 1) := by decide +kernel
theorem dX6_cloudTold_43 : decode cX6_cloudTold 43 = .ok (.iaload, 1) := by decide +kernel
theorem dX6_cloudTold_44 : decode cX6_cloudTold 44 = .ok (.goto 19, 3) := by decide +kernel
theorem dX6_cloudTold_47 : decode cX6_cloudTold 47 = .ok (.aload_n 0, 1) := by decide +kernel
theorem dX6_cloudTold_48 : decode cX6_cloudTold 48 = .ok (.getfield 33, 3) := by decide +kernel
theorem dX6_cloudTold_51 : decode cX6_cloudTold 51 = .ok (.iload_n 1, 1) := by decide +kernel
theorem dX6_cloudTold_52 : decode cX6_cloudTold 52 = .ok (.invokevirtual 116, 3) := by decide +kernel
theorem dX6_cloudTold_55 : decode cX6_cloudTold 55 = .ok (.ifCond .eq 7, 3) := by decide +kernel
theorem dX6_cloudTold_58 : decode cX6_cloudTold 58 = .ok (.iconst 1, 1) := by decide +kernel
theorem dX6_cloudTold_59 : decode cX6_cloudTold 59 = .ok (.goto 4, 3) := by decide +kernel
theorem dX6_cloudTold_62 : decode cX6_cloudTold 62 = .ok (.iconst 0, 1) := by decide +kernel
theorem dX6_cloudTold_63 : decode cX6_cloudTold 63 = .ok (.ireturn, 1) := by decide +kernel
theorem dX6_cloud_0 : decode cX6_cloud 0 = .ok (.aload_n 0, 1) := by decide +kernel
theorem dX6_cloud_1 : decode cX6_cloud 1 = .ok (.iconst 0, 1) := by decide +kernel
theorem dX6_cloud_2 : decode cX6_cloud 2 = .ok (.putfield 40, 3) := by decide +kernel
theorem dX6_cloud_5 : decode cX6_cloud 5 = .ok (.iload_n 1, 1) := by decide +kernel
theorem dX6_cloud_6 : decode cX6_cloud 6 = .ok (.iconst 0, 1) := by decide +kernel
theorem dX6_cloud_7 : decode cX6_cloud 7 = .ok (.aload_n 0, 1) := by decide +kernel
theorem dX6_cloud_8 : decode cX6_cloud 8 = .ok (.getfield 86, 3) := by decide +kernel
theorem dX6_cloud_11 : decode cX6_cloud 11 = .ok (.iconst 1, 1) := by decide +kernel
theorem dX6_cloud_12 : decode cX6_cloud 12 = .ok (.isub, 1) := by decide +kernel
theorem dX6_cloud_13 : decode cX6_cloud 13 = .ok (.invokestatic 44, 3) := by decide +kernel
theorem dX6_cloud_16 : decode cX6_cloud 16 = .ok (.ifCond .eq 21, 3) := by decide +kernel
theorem dX6_cloud_19 : decode cX6_cloud 19 = .ok (.iload_n 2, 1) := by decide +kernel
theorem dX6_cloud_20 : decode cX6_cloud 20 = .ok (.iconst 0, 1) := by decide +kernel
theorem dX6_cloud_21 : decode cX6_cloud 21 = .ok (.iconst 3, 1) := by decide +kernel
theorem dX6_cloud_22 : decode cX6_cloud 22 = .ok (.invokestatic 44, 3) := by decide +kernel
theorem dX6_cloud_25 : decode cX6_cloud 25 = .ok (.ifCond .eq 12, 3) := by decide +kernel
theorem dX6_cloud_28 : decode cX6_cloud 28 = .ok (.aload_n 0, 1) := by decide +kernel
theorem dX6_cloud_29 : decode cX6_cloud 29 = .ok (.iload_n 1, 1) := by decide +kernel
theorem dX6_cloud_30 : decode cX6_cloud 30 = .ok (.iload_n 2, 1) := by decide +kernel
theorem dX6_cloud_31 : decode cX6_cloud 31 = .ok (.invokevirtual 119, 3) := by decide +kernel
theorem dX6_cloud_34 : decode cX6_cloud 34 = .ok (.goto 8, 3) := by decide +kernel
theorem dX6_cloud_37 : decode cX6_cloud 37 = .ok (.aload_n 0, 1) := by decide +kernel
theorem dX6_cloud_38 : decode cX6_cloud 38 = .ok (.iconst 1, 1) := by decide +kernel
theorem dX6_cloud_39 : decode cX6_cloud 39 = .ok (.invokevirtual 58, 3) := by decide +kernel
theorem dX6_cloud_42 : decode cX6_cloud 42 = .ok (.ireturn, 1) := by decide +kernel
theorem dX6_count_0 : decode cX6_count 0 = .ok (.aload_n 0, 1) := by decide +kernel
theorem dX6_count_1 : decode cX6_count 1 = .ok (.iconst 0, 1) := by decide +kernel
theorem dX6_count_2 : decode cX6_count 2 = .ok (.putfield 40, 3) := by decide +kernel
theorem dX6_count_5 : decode cX6_count 5 = .ok (.iload_n 1, 1) := by decide +kernel
theorem dX6_count_6 : decode cX6_count 6 = .ok (.iconst 0, 1) := by decide +kernel
theorem dX6_count_7 : decode cX6_count 7 = .ok (.bipush 9, 2) := by decide +kernel
theorem dX6_count_9 : decode cX6_count 9 = .ok (.invokestatic 44, 3) := by decide +kernel
theorem dX6_count_12 : decode cX6_count 12 = .ok (.ifCond .eq 14, 3) := by decide +kernel
theorem dX6_count_15 : decode cX6_count 15 = .ok (.aload_n 0, 1) := by decide +kernel
theorem dX6_count_16 : decode cX6_count 16 = .ok (.getfield 33, 3) := by decide +kernel
theorem dX6_count_19 : decode cX6_count 19 = .ok (.iload_n 1, 1) := by decide +kernel
theorem dX6_count_20 : decode cX6_count 20 = .ok (.invokevirtual 122, 3) := by decide +kernel
theorem dX6_count_23 : decode cX6_count 23 = .ok (.goto 8, 3) := by decide +kernel
theorem dX6_count_26 : decode cX6_count 26 = .ok (.aload_n 0, 1) := by decide +kernel
theorem dX6_count_27 : decode cX6_count 27 = .ok (.iconst 1, 1) := by decide +kernel
theorem dX6_count_28 : decode cX6_count 28 = .ok (.invokevirtual 58, 3) := by decide +kernel
theorem dX6_count_31 : decode cX6_count 31 = .ok (.ireturn, 1) := by decide +kernel
theorem dX6_pass_0 : decode cX6_pass 0 = .ok (.aload_n 0, 1) := by decide +kernel
theorem dX6_pass_1 : decode cX6_pass 1 = .ok (.iconst 0, 1) := by decide +kernel
theorem dX6_pass_2 : decode cX6_pass 2 = .ok (.putfield 40, 3) := by decide +kernel
theorem dX6_pass_5 : decode cX6_pass 5 = .ok (.iload_n 1, 1) := by decide +kernel
theorem dX6_pass_6 : decode cX6_pass 6 = .ok (.iconst 1, 1) := by decide +kernel
theorem dX6_pass_7 : decode cX6_pass 7 = .ok (.bipush 96, 2) := by decide +kernel
theorem dX6_pass_9 : decode cX6_pass 9 = .ok (.invokestatic 44, 3) := by decide +kernel
theorem dX6_pass_12 : decode cX6_pass 12 = .ok (.ifCond .ne 9, 3) := by decide +kernel
theorem dX6_pass_15 : decode cX6_pass 15 = .ok (.aload_n 0, 1) := by decide +kernel
theorem dX6_pass_16 : decode cX6_pass 16 = .ok (.iconst 1, 1) := by decide +kernel
theorem dX6_pass_17 : decode cX6_pass 17 = .ok (.invokevirtual 58, 3) := by decide +kernel
theorem dX6_pass_20 : decode cX6_pass 20 = .ok (.ireturn, 1) := by decide +kernel
theorem dX6_pass_21 : decode cX6_pass 21 = .ok (.aload_n 0, 1) := by decide +kernel
theorem dX6_pass_22 : decode cX6_pass 22 = .ok (.getfield 33, 3) := by decide +kernel
theorem dX6_pass_25 : decode cX6_pass 25 = .ok (.invokevirtual 125, 3) := by decide +kernel
theorem dX6_pass_28 : decode cX6_pass 28 = .ok (.istore_n 2, 1) := by decide +kernel
theorem dX6_pass_29 : decode cX6_pass 29 = .ok (.aload_n 0, 1) := by decide +kernel
theorem dX6_pass_30 : decode cX6_pass 30 = .ok (.getfield 33, 3) := by decide +kernel
theorem dX6_pass_33 : decode cX6_pass 33 = .ok (.iload_n 1, 1) := by decide +kernel
theorem dX6_pass_34 : decode cX6_pass 34 = .ok (.invokevirtual 129, 3) := by decide +kernel
theorem dX6_pass_37 : decode cX6_pass 37 = .ok (.aload_n 0, 1) := by decide +kernel
theorem dX6_pass_38 : decode cX6_pass 38 = .ok (.getfield 33, 3) := by decide +kernel
theorem dX6_pass_41 : decode cX6_pass 41 = .ok (.invokevirtual 125, 3) := by decide +kernel
theorem dX6_pass_44 : decode cX6_pass 44 = .ok (.iload_n 2, 1) := by decide +kernel
theorem dX6_pass_45 : decode cX6_pass 45 = .ok (.isub, 1) := by decide +kernel
theorem dX6_pass_46 : decode cX6_pass 46 = .ok (.ireturn, 1) := by decide +kernel
theorem dX6_hit_0 : decode cX6_hit 0 = .ok (.aload_n 0, 1) := by decide +kernel
theorem dX6_hit_1 : decode cX6_hit 1 = .ok (.iconst 0, 1) := by decide +kernel
theorem dX6_hit_2 : decode cX6_hit 2 = .ok (.putfield 40, 3) := by decide +kernel
theorem dX6_hit_5 : decode cX6_hit 5 = .ok (.aload_n 0, 1) := by decide +kernel
theorem dX6_hit_6 : decode cX6_hit 6 = .ok (.iload_n 1, 1) := by decide +kernel
theorem dX6_hit_7 : decode cX6_hit 7 = .ok (.invokevirtual 65, 3) := by decide +kernel
theorem dX6_hit_10 : decode cX6_hit 10 = .ok (.ifCond .ne 9, 3) := by decide +kernel
theorem dX6_hit_13 : decode cX6_hit 13 = .ok (.aload_n 0, 1) := by decide +kernel
theorem dX6_hit_14 : decode cX6_hit 14 = .ok (.iconst 1, 1) := by decide +kernel
theorem dX6_hit_15 : decode cX6_hit 15 = .ok (.invokevirtual 58, 3) := by decide +kernel
theorem dX6_hit_18 : decode cX6_hit 18 = .ok (.ireturn, 1) := by decide +kernel
theorem dX6_hit_19 : decode cX6_hit 19 = .ok (.aload_n 0, 1) := by decide +kernel
theorem dX6_hit_20 : decode cX6_hit 20 = .ok (.getfield 37, 3) := by decide +kernel
theorem dX6_hit_23 : decode cX6_hit 23 = .ok (.aload_n 0, 1) := by decide +kernel
theorem dX6_hit_24 : decode cX6_hit 24 = .ok (.getfield 33, 3) := by decide +kernel
theorem dX6_hit_27 : decode cX6_hit 27 = .ok (.invokevirtual 133, 3) := by decide +kernel
theorem dX6_hit_30 : decode cX6_hit 30 = .ok (.iconst 1, 1) := by decide +kernel
theorem dX6_hit_31 : decode cX6_hit 31 = .ok (.istore_n 2, 1) := by decide +kernel
theorem dX6_hit_32 : decode cX6_hit 32 = .ok (.iload_n 2, 1) := by decide +kernel
theorem dX6_hit_33 : decode cX6_hit 33 = .ok (.bipush 60, 2) := by decide +kernel
theorem dX6_hit_35 : decode cX6_hit 35 = .ok (.if_icmp .gt 39, 3) := by decide +kernel
theorem dX6_hit_38 : decode cX6_hit 38 = .ok (.aload_n 0, 1) := by decide +kernel
theorem dX6_hit_39 : decode cX6_hit 39 = .ok (.getfield 37, 3) := by decide +kernel
theorem dX6_hit_42 : decode cX6_hit 42 = .ok (.invokevirtual 137, 3) := by decide +kernel
theorem dX6_hit_45 : decode cX6_hit 45 = .ok (.aload_n 0, 1) := by decide +kernel
theorem dX6_hit_46 : decode cX6_hit 46 = .ok (.getfield 37, 3) := by decide +kernel
theorem dX6_hit_49 : decode cX6_hit 49 = .ok (.getfield 101, 3) := by decide +kernel
theorem dX6_hit_52 : decode cX6_hit 52 = .ok (.iload_n 1, 1) := by decide +kernel
theorem dX6_hit_53 : decode cX6_hit 53 = .ok (.iaload, 1) := by decide +kernel
theorem dX6_hit_54 : decode cX6_hit 54 = .ok (.aload_n 0, 1) := by decide +kernel
theorem dX6_hit_55 : decode cX6_hit 55 = .ok (.getfield 33, 3) := by decide +kernel
theorem dX6_hit_58 : decode cX6_hit 58 = .ok (.getfield 101, 3) := by decide +kernel
theorem dX6_hit_61 : decode cX6_hit 61 = .ok (.iload_n 1, 1) := by decide +kernel
theorem dX6_hit_62 : decode cX6_hit 62 = .ok (.iaload, 1) := by decide +kernel
theorem dX6_hit_63 : decode cX6_hit 63 = .ok (.if_icmp .le 5, 3) := by decide +kernel
theorem dX6_hit_66 : decode cX6_hit 66 = .ok (.iload_n 2, 1) := by decide +kernel
theorem dX6_hit_67 : decode cX6_hit 67 = .ok (.ireturn, 1) := by decide +kernel
theorem dX6_hit_68 : decode cX6_hit 68 = .ok (.iinc 2 1, 3) := by decide +kernel
theorem dX6_hit_71 : decode cX6_hit 71 = .ok (.goto (-39), 3) := by decide +kernel
theorem dX6_hit_74 : decode cX6_hit 74 = .ok (.iconst (-1), 1) := by decide +kernel
theorem dX6_hit_75 : decode cX6_hit 75 = .ok (.ireturn, 1) := by decide +kernel
theorem dX6_foresee_0 : decode cX6_foresee 0 = .ok (.aload_n 0, 1) := by decide +kernel
theorem dX6_foresee_1 : decode cX6_foresee 1 = .ok (.iconst 0, 1) := by decide +kernel
theorem dX6_foresee_2 : decode cX6_foresee 2 = .ok (.putfield 40, 3) := by decide +kernel
theorem dX6_foresee_5 : decode cX6_foresee 5 = .ok (.iload_n 1, 1) := by decide +kernel
theorem dX6_foresee_6 : decode cX6_foresee 6 = .ok (.iconst 1, 1) := by decide +kernel
theorem dX6_foresee_7 : decode cX6_foresee 7 = .ok (.bipush 96, 2) := by decide +kernel
theorem dX6_foresee_9 : decode cX6_foresee 9 = .ok (.invokestatic 44, 3) := by decide +kernel
theorem dX6_foresee_12 : decode cX6_foresee 12 = .ok (.ifCond .ne 9, 3) := by decide +kernel
theorem dX6_foresee_15 : decode cX6_foresee 15 = .ok (.aload_n 0, 1) := by decide +kernel
theorem dX6_foresee_16 : decode cX6_foresee 16 = .ok (.iconst 1, 1) := by decide +kernel
theorem dX6_foresee_17 : decode cX6_foresee 17 = .ok (.invokevirtual 58, 3) := by decide +kernel
theorem dX6_foresee_20 : decode cX6_foresee 20 = .ok (.ireturn, 1) := by decide +kernel
theorem dX6_foresee_21 : decode cX6_foresee 21 = .ok (.iload_n 2, 1) := by decide +kernel
theorem dX6_foresee_22 : decode cX6_foresee 22 = .ok (.iconst 2, 1) := by decide +kernel
theorem dX6_foresee_23 : decode cX6_foresee 23 = .ok (.iconst 5, 1) := by decide +kernel
theorem dX6_foresee_24 : decode cX6_foresee 24 = .ok (.invokestatic 44, 3) := by decide +kernel
theorem dX6_foresee_27 : decode cX6_foresee 27 = .ok (.ifCond .ne 15, 3) := by decide +kernel
theorem dX6_foresee_30 : decode cX6_foresee 30 = .ok (.iload_n 2, 1) := by decide +kernel
theorem dX6_foresee_31 : decode cX6_foresee 31 = .ok (.bipush 8, 2) := by decide +kernel
theorem dX6_foresee_33 : decode cX6_foresee 33 = .ok (.if_icmp .eq 9, 3) := by decide +kernel
theorem dX6_foresee_36 : decode cX6_foresee 36 = .ok (.aload_n 0, 1) := by decide +kernel
theorem dX6_foresee_37 : decode cX6_foresee 37 = .ok (.iconst 2, 1) := by decide +kernel
theorem dX6_foresee_38 : decode cX6_foresee 38 = .ok (.invokevirtual 58, 3) := by decide +kernel
theorem dX6_foresee_41 : decode cX6_foresee 41 = .ok (.ireturn, 1) := by decide +kernel
theorem dX6_foresee_42 : decode cX6_foresee 42 = .ok (.aload_n 0, 1) := by decide +kernel
theorem dX6_foresee_43 : decode cX6_foresee 43 = .ok (.getfield 37, 3) := by decide +kernel
theorem dX6_foresee_46 : decode cX6_foresee 46 = .ok (.aload_n 0, 1) := by decide +kernel
theorem dX6_foresee_47 : decode cX6_foresee 47 = .ok (.getfield 33, 3) := by decide +kernel
theorem dX6_foresee_50 : decode cX6_foresee 50 = .ok (.invokevirtual 133, 3) := by decide +kernel
theorem dX6_foresee_53 : decode cX6_foresee 53 = .ok (.aload_n 0, 1) := by decide +kernel
theorem dX6_foresee_54 : decode cX6_foresee 54 = .ok (.getfield 37, 3) := by decide +kernel
theorem dX6_foresee_57 : decode cX6_foresee 57 = .ok (.iload_n 1, 1) := by decide +kernel
theorem dX6_foresee_58 : decode cX6_foresee 58 = .ok (.invokevirtual 129, 3) := by decide +kernel
theorem dX6_foresee_61 : decode cX6_foresee 61 = .ok (.aload_n 0, 1) := by decide +kernel
theorem dX6_foresee_62 : decode cX6_foresee 62 = .ok (.getfield 37, 3) := by decide +kernel
theorem dX6_foresee_65 : decode cX6_foresee 65 = .ok (.iload_n 2, 1) := by decide +kernel
theorem dX6_foresee_66 : decode cX6_foresee 66 = .ok (.invokevirtual 122, 3) := by decide +kernel
theorem dX6_foresee_69 : decode cX6_foresee 69 = .ok (.ireturn, 1) := by decide +kernel
theorem dX6_lostWith_0 : decode cX6_lostWith 0 = .ok (.aload_n 0, 1) := by decide +kernel
theorem dX6_lostWith_1 : decode cX6_lostWith 1 = .ok (.getfield 37, 3) := by decide +kernel
theorem dX6_lostWith_4 : decode cX6_lostWith 4 = .ok (.aload_n 0, 1) := by decide +kernel
theorem dX6_lostWith_5 : decode cX6_lostWith 5 = .ok (.getfield 33, 3) := by decide +kernel
theorem dX6_lostWith_8 : decode cX6_lostWith 8 = .ok (.invokevirtual 133, 3) := by decide +kernel
theorem dX6_lostWith_11 : decode cX6_lostWith 11 = .ok (.aload_n 0, 1) := by decide +kernel
theorem dX6_lostWith_12 : decode cX6_lostWith 12 = .ok (.getfield 37, 3) := by decide +kernel
theorem dX6_lostWith_15 : decode cX6_lostWith 15 = .ok (.getfield 68, 3) := by decide +kernel
theorem dX6_lostWith_18 : decode cX6_lostWith 18 = .ok (.iload_n 1, 1) := by decide +kernel
theorem dX6_lostWith_19 : decode cX6_lostWith 19 = .ok (.iload_n 2, 1) := by decide +kernel
theorem dX6_lostWith_20 : decode cX6_lostWith 20 = .ok (.iastore, 1) := by decide +kernel
theorem dX6_lostWith_21 : decode cX6_lostWith 21 = .ok (.aload_n 0, 1) := by decide +kernel
theorem dX6_lostWith_22 : decode cX6_lostWith 22 = .ok (.getfield 37, 3) := by decide +kernel
theorem dX6_lostWith_25 : decode cX6_lostWith 25 = .ok (.iload_n 3, 1) := by decide +kernel
theorem dX6_lostWith_26 : decode cX6_lostWith 26 = .ok (.invokevirtual 129, 3) := by decide +kernel
theorem dX6_lostWith_29 : decode cX6_lostWith 29 = .ok (.aload_n 0, 1) := by decide +kernel
theorem dX6_lostWith_30 : decode cX6_lostWith 30 = .ok (.getfield 37, 3) := by decide +kernel
theorem dX6_lostWith_33 : decode cX6_lostWith 33 = .ok (.invokevirtual 125, 3) := by decide +kernel
theorem dX6_lostWith_36 : decode cX6_lostWith 36 = .ok (.ireturn, 1) := by decide +kernel
theorem dX6_advise_0 : decode cX6_advise 0 = .ok (.aload_n 0, 1) := by decide +kernel
theorem dX6_advise_1 : decode cX6_advise 1 = .ok (.iconst 0, 1) := by decide +kernel
theorem dX6_advise_2 : decode cX6_advise 2 = .ok (.putfield 40, 3) := by decide +kernel
theorem dX6_advise_5 : decode cX6_advise 5 = .ok (.aload_n 0, 1) := by decide +kernel
theorem dX6_advise_6 : decode cX6_advise 6 = .ok (.iload_n 1, 1) := by decide +kernel
theorem dX6_advise_7 : decode cX6_advise 7 = .ok (.invokevirtual 74, 3) := by decide +kernel
theorem dX6_advise_10 : decode cX6_advise 10 = .ok (.ifCond .ne 9, 3) := by decide +kernel
theorem dX6_advise_13 : decode cX6_advise 13 = .ok (.aload_n 0, 1) := by decide +kernel
theorem dX6_advise_14 : decode cX6_advise 14 = .ok (.iconst 1, 1) := by decide +kernel
theorem dX6_advise_15 : decode cX6_advise 15 = .ok (.invokevirtual 58, 3) := by decide +kernel
theorem dX6_advise_18 : decode cX6_advise 18 = .ok (.ireturn, 1) := by decide +kernel
theorem dX6_advise_19 : decode cX6_advise 19 = .ok (.iload_n 2, 1) := by decide +kernel
theorem dX6_advise_20 : decode cX6_advise 20 = .ok (.iconst 1, 1) := by decide +kernel
theorem dX6_advise_21 : decode cX6_advise 21 = .ok (.bipush 36, 2) := by decide +kernel
theorem dX6_advise_23 : decode cX6_advise 23 = .ok (.invokestatic 44, 3) := by decide +kernel
theorem dX6_advise_26 : decode cX6_advise 26 = .ok (.ifCond .ne 9, 3) := by decide +kernel
theorem dX6_advise_29 : decode cX6_advise 29 = .ok (.aload_n 0, 1) := by decide +kernel
theorem dX6_advise_30 : decode cX6_advise 30 = .ok (.iconst 2, 1) := by decide +kernel
theorem dX6_advise_31 : decode cX6_advise 31 = .ok (.invokevirtual 58, 3) := by decide +kernel
theorem dX6_advise_34 : decode cX6_advise 34 = .ok (.ireturn, 1) := by decide +kernel
theorem dX6_advise_35 : decode cX6_advise 35 = .ok (.aload_n 0, 1) := by decide +kernel
theorem dX6_advise_36 : decode cX6_advise 36 = .ok (.iload_n 1, 1) := by decide +kernel
theorem dX6_advise_37 : decode cX6_advise 37 = .ok (.aload_n 0, 1) := by decide +kernel
theorem dX6_advise_38 : decode cX6_advise 38 = .ok (.getfield 33, 3) := by decide +kernel
theorem dX6_advise_41 : decode cX6_advise 41 = .ok (.getfield 68, 3) := by decide +kernel
theorem dX6_advise_44 : decode cX6_advise 44 = .ok (.iload_n 1, 1) := by decide +kernel
theorem dX6_advise_45 : decode cX6_advise 45 = .ok (.iaload, 1) := by decide +kernel
theorem dX6_advise_46 : decode cX6_advise 46 = .ok (.iload_n 2, 1) := by decide +kernel
theorem dX6_advise_47 : decode cX6_advise 47 = .ok (.invokevirtual 139, 3) := by decide +kernel
theorem dX6_advise_50 : decode cX6_advise 50 = .ok (.istore_n 3, 1) := by decide +kernel
theorem dX6_advise_51 : decode cX6_advise 51 = .ok (.iconst (-1), 1) := by decide +kernel
theorem dX6_advise_52 : decode cX6_advise 52 = .ok (.istore 4, 2) := by decide +kernel
theorem dX6_advise_54 : decode cX6_advise 54 = .ok (.iconst 0, 1) := by decide +kernel
theorem dX6_advise_55 : decode cX6_advise 55 = .ok (.istore 5, 2) := by decide +kernel
theorem dX6_advise_57 : decode cX6_advise 57 = .ok (.iload 5, 2) := by decide +kernel
theorem dX6_advise_59 : decode cX6_advise 59 = .ok (.bipush 30, 2) := by decide +kernel
theorem dX6_advise_61 : decode cX6_advise 61 = .ok (.if_icmp .ge 35, 3) := by decide +kernel
theorem dX6_advise_64 : decode cX6_advise 64 = .ok (.aload_n 0, 1) := by decide +kernel
theorem dX6_advise_65 : decode cX6_advise 65 = .ok (.iload_n 1, 1) := by decide +kernel
theorem dX6_advise_66 : decode cX6_advise 66 = .ok (.iload 5, 2) := by decide +kernel
theorem dX6_advise_68 : decode cX6_advise 68 = .ok (.iload_n 2, 1) := by decide +kernel
theorem dX6_advise_69 : decode cX6_advise 69 = .ok (.invokevirtual 139, 3) := by decide +kernel
theorem dX6_advise_72 : decode cX6_advise 72 = .ok (.istore 6, 2) := by decide +kernel
theorem dX6_advise_74 : decode cX6_advise 74 = .ok (.iload 6, 2) := by decide +kernel
theorem dX6_advise_76 : decode cX6_advise 76 = .ok (.iload_n 3, 1) := by decide +kernel
theorem dX6_advise_77 : decode cX6_advise 77 = .ok (.if_icmp .lt 6, 3) := by decide +kernel
theorem dX6_advise_80 : decode cX6_advise 80 = .ok (.goto 10, 3) := by decide +kernel
theorem dX6_advise_83 : decode cX6_advise 83 = .ok (.iload 6, 2) := by decide +kernel
theorem dX6_advise_85 : decode cX6_advise 85 = .ok (.istore_n 3, 1) := by decide +kernel
theorem dX6_advise_86 : decode cX6_advise 86 = .ok (.iload 5, 2) := by decide +kernel
theorem dX6_advise_88 : decode cX6_advise 88 = .ok (.istore 4, 2) := by decide +kernel
theorem dX6_advise_90 : decode cX6_advise 90 = .ok (.iinc 5 1, 3) := by decide +kernel
theorem dX6_advise_93 : decode cX6_advise 93 = .ok (.goto (-36), 3) := by decide +kernel
theorem dX6_advise_96 : decode cX6_advise 96 = .ok (.iload 4, 2) := by decide +kernel
theorem dX6_advise_98 : decode cX6_advise 98 = .ok (.ireturn, 1) := by decide +kernel
theorem dX6_move_0 : decode cX6_move 0 = .ok (.aload_n 0, 1) := by decide +kernel
theorem dX6_move_1 : decode cX6_move 1 = .ok (.iconst 0, 1) := by decide +kernel
theorem dX6_move_2 : decode cX6_move 2 = .ok (.putfield 40, 3) := by decide +kernel
theorem dX6_move_5 : decode cX6_move 5 = .ok (.aload_n 0, 1) := by decide +kernel
theorem dX6_move_6 : decode cX6_move 6 = .ok (.iload_n 1, 1) := by decide +kernel
theorem dX6_move_7 : decode cX6_move 7 = .ok (.invokevirtual 74, 3) := by decide +kernel
theorem dX6_move_10 : decode cX6_move 10 = .ok (.ifCond .ne 9, 3) := by decide +kernel
theorem dX6_move_13 : decode cX6_move 13 = .ok (.aload_n 0, 1) := by decide +kernel
theorem dX6_move_14 : decode cX6_move 14 = .ok (.iconst 1, 1) := by decide +kernel
theorem dX6_move_15 : decode cX6_move 15 = .ok (.invokevirtual 58, 3) := by decide +kernel
theorem dX6_move_18 : decode cX6_move 18 = .ok (.ireturn, 1) := by decide +kernel
theorem dX6_move_19 : decode cX6_move 19 = .ok (.iload_n 2, 1) := by decide +kernel
theorem dX6_move_20 : decode cX6_move 20 = .ok (.invokestatic 54, 3) := by decide +kernel
theorem dX6_move_23 : decode cX6_move 23 = .ok (.ifCond .ne 9, 3) := by decide +kernel
theorem dX6_move_26 : decode cX6_move 26 = .ok (.aload_n 0, 1) := by decide +kernel
theorem dX6_move_27 : decode cX6_move 27 = .ok (.iconst 2, 1) := by decide +kernel
theorem dX6_move_28 : decode cX6_move 28 = .ok (.invokevirtual 58, 3) := by decide +kernel
theorem dX6_move_31 : decode cX6_move 31 = .ok (.ireturn, 1) := by decide +kernel
theorem dX6_move_32 : decode cX6_move 32 = .ok (.aload_n 0, 1) := by decide +kernel
theorem dX6_move_33 : decode cX6_move 33 = .ok (.getfield 33, 3) := by decide +kernel
theorem dX6_move_36 : decode cX6_move 36 = .ok (.getfield 68, 3) := by decide +kernel
theorem dX6_move_39 : decode cX6_move 39 = .ok (.iload_n 1, 1) := by decide +kernel
theorem dX6_move_40 : decode cX6_move 40 = .ok (.iaload, 1) := by decide +kernel
theorem dX6_move_41 : decode cX6_move 41 = .ok (.istore_n 3, 1) := by decide +kernel
theorem dX6_move_42 : decode cX6_move 42 = .ok (.aload_n 0, 1) := by decide +kernel
theorem dX6_move_43 : decode cX6_move 43 = .ok (.getfield 33, 3) := by decide +kernel
theorem dX6_move_46 : decode cX6_move 46 = .ok (.getfield 68, 3) := by decide +kernel
theorem dX6_move_49 : decode cX6_move 49 = .ok (.iload_n 1, 1) := by decide +kernel
theorem dX6_move_50 : decode cX6_move 50 = .ok (.iload_n 2, 1) := by decide +kernel
theorem dX6_move_51 : decode cX6_move 51 = .ok (.iastore, 1) := by decide +kernel
theorem dX6_move_52 : decode cX6_move 52 = .ok (.aload_n 0, 1) := by decide +kernel
theorem dX6_move_53 : decode cX6_move 53 = .ok (.getfield 33, 3) := by decide +kernel
theorem dX6_move_56 : decode cX6_move 56 = .ok (.dup, 1) := by decide +kernel
theorem dX6_move_57 : decode cX6_move 57 = .ok (.getfield 77, 3) := by decide +kernel
theorem dX6_move_60 : decode cX6_move 60 = .ok (.iconst 2, 1) := by decide +kernel
theorem dX6_move_61 : decode cX6_move 61 = .ok (.isub, 1) := by decide +kernel
theorem dX6_move_62 : decode cX6_move 62 = .ok (.putfield 77, 3) := by decide +kernel
theorem dX6_move_65 : decode cX6_move 65 = .ok (.iload_n 3, 1) := by decide +kernel
theorem dX6_move_66 : decode cX6_move 66 = .ok (.ireturn, 1) := by decide +kernel
theorem dX6_mean_0 : decode cX6_mean 0 = .ok (.aload_n 0, 1) := by decide +kernel
theorem dX6_mean_1 : decode cX6_mean 1 = .ok (.iconst 0, 1) := by decide +kernel
theorem dX6_mean_2 : decode cX6_mean 2 = .ok (.putfield 40, 3) := by decide +kernel
theorem dX6_mean_5 : decode cX6_mean 5 = .ok (.aload_n 0, 1) := by decide +kernel
theorem dX6_mean_6 : decode cX6_mean 6 = .ok (.getfield 48, 3) := by decide +kernel
theorem dX6_mean_9 : decode cX6_mean 9 = .ok (.ifCond .ne 7, 3) := by decide +kernel
theorem dX6_mean_12 : decode cX6_mean 12 = .ok (.dconst 0, 1) := by decide +kernel
theorem dX6_mean_13 : decode cX6_mean 13 = .ok (.goto 28, 3) := by decide +kernel
theorem dX6_mean_16 : decode cX6_mean 16 = .ok (.aload_n 0, 1) := by decide +kernel
theorem dX6_mean_17 : decode cX6_mean 17 = .ok (.getfield 33, 3) := by decide +kernel
theorem dX6_mean_20 : decode cX6_mean 20 = .ok (.aload_n 0, 1) := by decide +kernel
theorem dX6_mean_21 : decode cX6_mean 21 = .ok (.getfield 33, 3) := by decide +kernel
theorem dX6_mean_24 : decode cX6_mean 24 = .ok (.getfield 62, 3) := by decide +kernel
theorem dX6_mean_27 : decode cX6_mean 27 = .ok (.aload_n 0, 1) := by decide +kernel
theorem dX6_mean_28 : decode cX6_mean 28 = .ok (.getfield 48, 3) := by decide +kernel
theorem dX6_mean_31 : decode cX6_mean 31 = .ok (.invokevirtual 143, 3) := by decide +kernel
theorem dX6_mean_34 : decode cX6_mean 34 = .ok (.i2d, 1) := by decide +kernel
theorem dX6_mean_35 : decode cX6_mean 35 = .ok (.aload_n 0, 1) := by decide +kernel
theorem dX6_mean_36 : decode cX6_mean 36 = .ok (.getfield 48, 3) := by decide +kernel
theorem dX6_mean_39 : decode cX6_mean 39 = .ok (.i2d, 1) := by decide +kernel
theorem dX6_mean_40 : decode cX6_mean 40 = .ok (.ddiv, 1) := by decide +kernel
theorem dX6_mean_41 : decode cX6_mean 41 = .ok (.dreturn, 1) := by decide +kernel
theorem dX6_digest_0 : decode cX6_digest 0 = .ok (.aload_n 0, 1) := by decide +kernel
theorem dX6_digest_1 : decode cX6_digest 1 = .ok (.iconst 0, 1) := by decide +kernel
theorem dX6_digest_2 : decode cX6_digest 2 = .ok (.putfield 40, 3) := by decide +kernel
theorem dX6_digest_5 : decode cX6_digest 5 = .ok (.ldc2_w 147, 3) := by decide +kernel
theorem dX6_digest_8 : decode cX6_digest 8 = .ok (.lstore_n 1, 1) := by decide +kernel
theorem dX6_digest_9 : decode cX6_digest 9 = .ok (.iconst 0, 1) := by decide +kernel
theorem dX6_digest_10 : decode cX6_digest 10 = .ok (.istore_n 3, 1) := by decide +kernel
theorem dX6_digest_11 : decode cX6_digest 11 = .ok (.iload_n 3, 1) := by decide +kernel
theorem dX6_digest_12 : decode cX6_digest 12 = .ok (.bipush 10, 2) := by decide +kernel
theorem dX6_digest_14 : decode cX6_digest 14 = .ok (.if_icmp .ge 25, 3) := by decide +kernel
theorem dX6_digest_17 : decode cX6_digest 17 = .ok (.lload_n 1, 1) := by decide +kernel
theorem dX6_digest_18 : decode cX6_digest 18 = .ok (.ldc2_w 149, 3) := by decide +kernel
theorem dX6_digest_21 : decode cX6_digest 21 = .ok (.lmul, 1) := by decide +kernel
theorem dX6_digest_22 : decode cX6_digest 22 = .ok (.aload_n 0, 1) := by decide +kernel
theorem dX6_digest_23 : decode cX6_digest 23 = .ok (.getfield 33, 3) := by decide +kernel
theorem dX6_digest_26 : decode cX6_digest 26 = .ok (.iload_n 3, 1) := by decide +kernel
theorem dX6_digest_27 : decode cX6_digest 27 = .ok (.invokevirtual 122, 3) := by decide +kernel
theorem dX6_digest_30 : decode cX6_digest 30 = .ok (.i2l, 1) := by decide +kernel
theorem dX6_digest_31 : decode cX6_digest 31 = .ok (.ladd, 1) := by decide +kernel
theorem dX6_digest_32 : decode cX6_digest 32 = .ok (.lstore_n 1, 1) := by decide +kernel
theorem dX6_digest_33 : decode cX6_digest 33 = .ok (.iinc 3 1, 3) := by decide +kernel
theorem dX6_digest_36 : decode cX6_digest 36 = .ok (.goto (-25), 3) := by decide +kernel
theorem dX6_digest_39 : decode cX6_digest 39 = .ok (.aload_n 0, 1) := by decide +kernel
theorem dX6_digest_40 : decode cX6_digest 40 = .ok (.getfield 25, 3) := by decide +kernel
theorem dX6_digest_43 : decode cX6_digest 43 = .ok (.astore_n 3, 1) := by decide +kernel
theorem dX6_digest_44 : decode cX6_digest 44 = .ok (.aload_n 3, 1) := by decide +kernel
theorem dX6_digest_45 : decode cX6_digest 45 = .ok (.arraylength, 1) := by decide +kernel
theorem dX6_digest_46 : decode cX6_digest 46 = .ok (.istore 4, 2) := by decide +kernel
theorem dX6_digest_48 : decode cX6_digest 48 = .ok (.iconst 0, 1) := by decide +kernel
theorem dX6_digest_49 : decode cX6_digest 49 = .ok (.istore 5, 2) := by decide +kernel
theorem dX6_digest_51 : decode cX6_digest 51 = .ok (.iload 5, 2) := by decide +kernel
theorem dX6_digest_53 : decode cX6_digest 53 = .ok (.iload 4, 2) := by decide +kernel
theorem dX6_digest_55 : decode cX6_digest 55 = .ok (.if_icmp .ge 25, 3) := by decide +kernel
theorem dX6_digest_58 : decode cX6_digest 58 = .ok (.aload_n 3, 1) := by decide +kernel
theorem dX6_digest_59 : decode cX6_digest 59 = .ok (.iload 5, 2) := by decide +kernel
theorem dX6_digest_61 : decode cX6_digest 61 = .ok (.iaload, 1) := by decide +kernel
theorem dX6_digest_62 : decode cX6_digest 62 = .ok (.istore 6, 2) := by decide +kernel
theorem dX6_digest_64 : decode cX6_digest 64 = .ok (.lload_n 1, 1) := by decide +kernel
theorem dX6_digest_65 : decode cX6_digest 65 = .ok (.ldc2_w 149, 3) := by decide +kernel
theorem dX6_digest_68 : decode cX6_digest 68 = .ok (.lmul, 1) := by decide +kernel
theorem dX6_digest_69 : decode cX6_digest 69 = .ok (.iload 6, 2) := by decide +kernel
theorem dX6_digest_71 : decode cX6_digest 71 = .ok (.i2l, 1) := by decide +kernel
theorem dX6_digest_72 : decode cX6_digest 72 = .ok (.ladd, 1) := by decide +kernel
theorem dX6_digest_73 : decode cX6_digest 73 = .ok (.lstore_n 1, 1) := by decide +kernel
theorem dX6_digest_74 : decode cX6_digest 74 = .ok (.iinc 5 1, 3) := by decide +kernel
theorem dX6_digest_77 : decode cX6_digest 77 = .ok (.goto (-26), 3) := by decide +kernel
theorem dX6_digest_80 : decode cX6_digest 80 = .ok (.iconst 0, 1) := by decide +kernel
theorem dX6_digest_81 : decode cX6_digest 81 = .ok (.istore_n 3, 1) := by decide +kernel
theorem dX6_digest_82 : decode cX6_digest 82 = .ok (.iload_n 3, 1) := by decide +kernel
theorem dX6_digest_83 : decode cX6_digest 83 = .ok (.aload_n 0, 1) := by decide +kernel
theorem dX6_digest_84 : decode cX6_digest 84 = .ok (.getfield 48, 3) := by decide +kernel
theorem dX6_digest_87 : decode cX6_digest 87 = .ok (.if_icmp .ge 40, 3) := by decide +kernel
theorem dX6_digest_90 : decode cX6_digest 90 = .ok (.iconst 0, 1) := by decide +kernel
theorem dX6_digest_91 : decode cX6_digest 91 = .ok (.istore 4, 2) := by decide +kernel
theorem dX6_digest_93 : decode cX6_digest 93 = .ok (.iload 4, 2) := by decide +kernel
theorem dX6_digest_95 : decode cX6_digest 95 = .ok (.bipush 7, 2) := by decide +kernel
theorem dX6_digest_97 : decode cX6_digest 97 = .ok (.if_icmp .ge 24, 3) := by decide +kernel
theorem dX6_digest_100 : decode cX6_digest 100 = .ok (.lload_n 1, 1) := by decide +kernel
theorem dX6_digest_101 : decode cX6_digest 101 = .ok (.ldc2_w 149, 3) := by decide +kernel
theorem dX6_digest_104 : decode cX6_digest 104 = .ok (.lmul, 1) := by decide +kernel
theorem dX6_digest_105 : decode cX6_digest 105 = .ok (.aload_n 0, 1) := by decide +kernel
theorem dX6_digest_106 : decode cX6_digest 106 = .ok (.iload_n 3, 1) := by decide +kernel
theorem dX6_digest_107 : decode cX6_digest 107 = .ok (.iload 4, 2) := by decide +kernel
theorem dX6_digest_109 : decode cX6_digest 109 = .ok (.invokevirtual 104, 3) := by decide +kernel
theorem dX6_digest_112 : decode cX6_digest 112 = .ok (.i2l, 1) := by decide +kernel
theorem dX6_digest_113 : decode cX6_digest 113 = .ok (.ladd, 1) := by decide +kernel
theorem dX6_digest_114 : decode cX6_digest 114 = .ok (.lstore_n 1, 1) := by decide +kernel
theorem dX6_digest_115 : decode cX6_digest 115 = .ok (.iinc 4 1, 3) := by decide +kernel
theorem dX6_digest_118 : decode cX6_digest 118 = .ok (.goto (-25), 3) := by decide +kernel
theorem dX6_digest_121 : decode cX6_digest 121 = .ok (.iinc 3 1, 3) := by decide +kernel
theorem dX6_digest_124 : decode cX6_digest 124 = .ok (.goto (-42), 3) := by decide +kernel
theorem dX6_digest_127 : decode cX6_digest 127 = .ok (.iconst 0, 1) := by decide +kernel
theorem dX6_digest_128 : decode cX6_digest 128 = .ok (.istore_n 3, 1) := by decide +kernel
theorem dX6_digest_129 : decode cX6_digest 129 = .ok (.iload_n 3, 1) := by decide +kernel
theorem dX6_digest_130 : decode cX6_digest 130 = .ok (.aload_n 0, 1) := by decide +kernel
theorem dX6_digest_131 : decode cX6_digest 131 = .ok (.getfield 51, 3) := by decide +kernel
theorem dX6_digest_134 : decode cX6_digest 134 = .ok (.if_icmp .ge 39, 3) := by decide +kernel
theorem dX6_digest_137 : decode cX6_digest 137 = .ok (.iconst 0, 1) := by decide +kernel
theorem dX6_digest_138 : decode cX6_digest 138 = .ok (.istore 4, 2) := by decide +kernel
theorem dX6_digest_140 : decode cX6_digest 140 = .ok (.iload 4, 2) := by decide +kernel
theorem dX6_digest_142 : decode cX6_digest 142 = .ok (.iconst 5, 1) := by decide +kernel
theorem dX6_digest_143 : decode cX6_digest 143 = .ok (.if_icmp .ge 24, 3) := by decide +kernel
theorem dX6_digest_146 : decode cX6_digest 146 = .ok (.lload_n 1, 1) := by decide +kernel
theorem dX6_digest_147 : decode cX6_digest 147 = .ok (.ldc2_w 149, 3) := by decide +kernel
theorem dX6_digest_150 : decode cX6_digest 150 = .ok (.lmul, 1) := by decide +kernel
theorem dX6_digest_151 : decode cX6_digest 151 = .ok (.aload_n 0, 1) := by decide +kernel
theorem dX6_digest_152 : decode cX6_digest 152 = .ok (.iload_n 3, 1) := by decide +kernel
theorem dX6_digest_153 : decode cX6_digest 153 = .ok (.iload 4, 2) := by decide +kernel
theorem dX6_digest_155 : decode cX6_digest 155 = .ok (.invokevirtual 113, 3) := by decide +kernel
theorem dX6_digest_158 : decode cX6_digest 158 = .ok (.i2l, 1) := by decide +kernel
theorem dX6_digest_159 : decode cX6_digest 159 = .ok (.ladd, 1) := by decide +kernel
theorem dX6_digest_160 : decode cX6_digest 160 = .ok (.lstore_n 1, 1) := by decide +kernel
theorem dX6_digest_161 : decode cX6_digest 161 = .ok (.iinc 4 1, 3) := by decide +kernel
theorem dX6_digest_164 : decode cX6_digest 164 = .ok (.goto (-24), 3) := by decide +kernel
theorem dX6_digest_167 : decode cX6_digest 167 = .ok (.iinc 3 1, 3) := by decide +kernel
theorem dX6_digest_170 : decode cX6_digest 170 = .ok (.goto (-41), 3) := by decide +kernel
theorem dX6_digest_173 : decode cX6_digest 173 = .ok (.iconst 0, 1) := by decide +kernel
theorem dX6_digest_174 : decode cX6_digest 174 = .ok (.istore_n 3, 1) := by decide +kernel
theorem dX6_digest_175 : decode cX6_digest 175 = .ok (.iload_n 3, 1) := by decide +kernel
theorem dX6_digest_176 : decode cX6_digest 176 = .ok (.aload_n 0, 1) := by decide +kernel
theorem dX6_digest_177 : decode cX6_digest 177 = .ok (.getfield 86, 3) := by decide +kernel
theorem dX6_digest_180 : decode cX6_digest 180 = .ok (.if_icmp .ge 39, 3) := by decide +kernel
theorem dX6_digest_183 : decode cX6_digest 183 = .ok (.iconst 0, 1) := by decide +kernel
theorem dX6_digest_184 : decode cX6_digest 184 = .ok (.istore 4, 2) := by decide +kernel
theorem dX6_digest_186 : decode cX6_digest 186 = .ok (.iload 4, 2) := by decide +kernel
theorem dX6_digest_188 : decode cX6_digest 188 = .ok (.iconst 4, 1) := by decide +kernel
theorem dX6_digest_189 : decode cX6_digest 189 = .ok (.if_icmp .ge 24, 3) := by decide +kernel
theorem dX6_digest_192 : decode cX6_digest 192 = .ok (.lload_n 1, 1) := by decide +kernel
theorem dX6_digest_193 : decode cX6_digest 193 = .ok (.ldc2_w 149, 3) := by decide +kernel
theorem dX6_digest_196 : decode cX6_digest 196 = .ok (.lmul, 1) := by decide +kernel
theorem dX6_digest_197 : decode cX6_digest 197 = .ok (.aload_n 0, 1) := by decide +kernel
theorem dX6_digest_198 : decode cX6_digest 198 = .ok (.iload_n 3, 1) := by decide +kernel
theorem dX6_digest_199 : decode cX6_digest 199 = .ok (.iload 4, 2) := by decide +kernel
theorem dX6_digest_201 : decode cX6_digest 201 = .ok (.invokevirtual 119, 3) := by decide +kernel
theorem dX6_digest_204 : decode cX6_digest 204 = .ok (.i2l, 1) := by decide +kernel
theorem dX6_digest_205 : decode cX6_digest 205 = .ok (.ladd, 1) := by decide +kernel
theorem dX6_digest_206 : decode cX6_digest 206 = .ok (.lstore_n 1, 1) := by decide +kernel
theorem dX6_digest_207 : decode cX6_digest 207 = .ok (.iinc 4 1, 3) := by decide +kernel
theorem dX6_digest_210 : decode cX6_digest 210 = .ok (.goto (-24), 3) := by decide +kernel
theorem dX6_digest_213 : decode cX6_digest 213 = .ok (.iinc 3 1, 3) := by decide +kernel
theorem dX6_digest_216 : decode cX6_digest 216 = .ok (.goto (-41), 3) := by decide +kernel
theorem dX6_digest_219 : decode cX6_digest 219 = .ok (.lload_n 1, 1) := by decide +kernel
theorem dX6_digest_220 : decode cX6_digest 220 = .ok (.lreturn, 1) := by decide +kernel
