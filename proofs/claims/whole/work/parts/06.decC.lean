theorem dX5_init_0 : decode cX5_init 0 = .ok (.aload_n 0, 1) := by decide +kernel
theorem dX5_init_1 : decode cX5_init 1 = .ok (.aload_n 1, 1) := by decide +kernel
theorem dX5_init_2 : decode cX5_init 2 = .ok (.putfield 3, 3) := by decide +kernel
theorem dX5_init_5 : decode cX5_init 5 = .ok (.aload_n 0, 1) := by decide +kernel
theorem dX5_init_6 : decode cX5_init 6 = .ok (.invokespecial 9, 3) := by decide +kernel
theorem dX5_init_9 : decode cX5_init 9 = .ok (.aload_n 0, 1) := by decide +kernel
theorem dX5_init_10 : decode cX5_init 10 = .ok (.bipush 50, 2) := by decide +kernel
theorem dX5_init_12 : decode cX5_init 12 = .ok (.putfield 15, 3) := by decide +kernel
theorem dX5_init_15 : decode cX5_init 15 = .ok (.aload_n 0, 1) := by decide +kernel
theorem dX5_init_16 : decode cX5_init 16 = .ok (.bipush 10, 2) := by decide +kernel
theorem dX5_init_18 : decode cX5_init 18 = .ok (.newarray .int, 2) := by decide +kernel
theorem dX5_init_20 : decode cX5_init 20 = .ok (.putfield 19, 3) := by decide +kernel
theorem dX5_init_23 : decode cX5_init 23 = .ok (.aload_n 0, 1) := by decide +kernel
theorem dX5_init_24 : decode cX5_init 24 = .ok (.bipush 10, 2) := by decide +kernel
theorem dX5_init_26 : decode cX5_init 26 = .ok (.newarray .int, 2) := by decide +kernel
theorem dX5_init_28 : decode cX5_init 28 = .ok (.putfield 23, 3) := by decide +kernel
theorem dX5_init_31 : decode cX5_init 31 = .ok (.aload_n 0, 1) := by decide +kernel
theorem dX5_init_32 : decode cX5_init 32 = .ok (.bipush 10, 2) := by decide +kernel
theorem dX5_init_34 : decode cX5_init 34 = .ok (.newarray .int, 2) := by decide +kernel
theorem dX5_init_36 : decode cX5_init 36 = .ok (.putfield 26, 3) := by decide +kernel
theorem dX5_init_39 : decode cX5_init 39 = .ok (.aload_n 0, 1) := by decide +kernel
theorem dX5_init_40 : decode cX5_init 40 = .ok (.bipush 10, 2) := by decide +kernel
theorem dX5_init_42 : decode cX5_init 42 = .ok (.newarray .int, 2) := by decide +kernel
theorem dX5_init_44 : decode cX5_init 44 = .ok (.putfield 29, 3) := by decide +kernel
theorem dX5_init_47 : decode cX5_init 47 = .ok (.aload_n 0, 1) := by decide +kernel
theorem dX5_init_48 : decode cX5_init 48 = .ok (.bipush 6, 2) := by decide +kernel
theorem dX5_init_50 : decode cX5_init 50 = .ok (.newarray .int, 2) := by decide +kernel
theorem dX5_init_52 : decode cX5_init 52 = .ok (.putfield 32, 3) := by decide +kernel
theorem dX5_init_55 : decode cX5_init 55 = .ok (.aload_n 0, 1) := by decide +kernel
theorem dX5_init_56 : decode cX5_init 56 = .ok (.bipush 6, 2) := by decide +kernel
theorem dX5_init_58 : decode cX5_init 58 = .ok (.newarray .int, 2) := by decide +kernel
theorem dX5_init_60 : decode cX5_init 60 = .ok (.putfield 35, 3) := by decide +kernel
theorem dX5_init_63 : decode cX5_init 63 = .ok (.aload_n 0, 1) := by decide +kernel
theorem dX5_init_64 : decode cX5_init 64 = .ok (.bipush 6, 2) := by decide +kernel
theorem dX5_init_66 : decode cX5_init 66 = .ok (.newarray .int, 2) := by decide +kernel
theorem dX5_init_68 : decode cX5_init 68 = .ok (.putfield 38, 3) := by decide +kernel
theorem dX5_init_71 : decode cX5_init 71 = .ok (.aload_n 0, 1) := by decide +kernel
theorem dX5_init_72 : decode cX5_init 72 = .ok (.bipush 20, 2) := by decide +kernel
theorem dX5_init_74 : decode cX5_init 74 = .ok (.newarray .int, 2) := by decide +kernel
theorem dX5_init_76 : decode cX5_init 76 = .ok (.putfield 41, 3) := by decide +kernel
theorem dX5_init_79 : decode cX5_init 79 = .ok (.aload_n 0, 1) := by decide +kernel
theorem dX5_init_80 : decode cX5_init 80 = .ok (.bipush 20, 2) := by decide +kernel
theorem dX5_init_82 : decode cX5_init 82 = .ok (.newarray .int, 2) := by decide +kernel
theorem dX5_init_84 : decode cX5_init 84 = .ok (.putfield 44, 3) := by decide +kernel
theorem dX5_init_87 : decode cX5_init 87 = .ok (.return_, 1) := by decide +kernel
theorem dX5_copy_0 : decode cX5_copy 0 = .ok (.aload_n 1, 1) := by decide +kernel
theorem dX5_copy_1 : decode cX5_copy 1 = .ok (.iconst 0, 1) := by decide +kernel
theorem dX5_copy_2 : decode cX5_copy 2 = .ok (.aload_n 2, 1) := by decide +kernel
theorem dX5_copy_3 : decode cX5_copy 3 = .ok (.iconst 0, 1) := by decide +kernel
theorem dX5_copy_4 : decode cX5_copy 4 = .ok (.aload_n 1, 1) := by decide +kernel
theorem dX5_copy_5 : decode cX5_copy 5 = .ok (.arraylength, 1) := by decide +kernel
theorem dX5_copy_6 : decode cX5_copy 6 = .ok (.invokestatic 47, 3) := by decide +kernel
theorem dX5_copy_9 : decode cX5_copy 9 = .ok (.return_, 1) := by decide +kernel
theorem dX5_become_0 : decode cX5_become 0 = .ok (.aload_n 0, 1) := by decide +kernel
theorem dX5_become_1 : decode cX5_become 1 = .ok (.aload_n 1, 1) := by decide +kernel
theorem dX5_become_2 : decode cX5_become 2 = .ok (.getfield 53, 3) := by decide +kernel
theorem dX5_become_5 : decode cX5_become 5 = .ok (.putfield 53, 3) := by decide +kernel
theorem dX5_become_8 : decode cX5_become 8 = .ok (.aload_n 0, 1) := by decide +kernel
theorem dX5_become_9 : decode cX5_become 9 = .ok (.aload_n 1, 1) := by decide +kernel
theorem dX5_become_10 : decode cX5_become 10 = .ok (.getfield 15, 3) := by decide +kernel
theorem dX5_become_13 : decode cX5_become 13 = .ok (.putfield 15, 3) := by decide +kernel
theorem dX5_become_16 : decode cX5_become 16 = .ok (.aload_n 0, 1) := by decide +kernel
theorem dX5_become_17 : decode cX5_become 17 = .ok (.aload_n 1, 1) := by decide +kernel
theorem dX5_become_18 : decode cX5_become 18 = .ok (.getfield 19, 3) := by decide +kernel
theorem dX5_become_21 : decode cX5_become 21 = .ok (.aload_n 0, 1) := by decide +kernel
theorem dX5_become_22 : decode cX5_become 22 = .ok (.getfield 19, 3) := by decide +kernel
theorem dX5_become_25 : decode cX5_become 25 = .ok (.invokevirtual 56, 3) := by decide +kernel
theorem dX5_become_28 : decode cX5_become 28 = .ok (.aload_n 0, 1) := by decide +kernel
theorem dX5_become_29 : decode cX5_become 29 = .ok (.aload_n 1, 1) := by decide +kernel
theorem dX5_become_30 : decode cX5_become 30 = .ok (.getfield 23, 3) := by decide +kernel
theorem dX5_become_33 : decode cX5_become 33 = .ok (.aload_n 0, 1) := by decide +kernel
theorem dX5_become_34 : decode cX5_become 34 = .ok (.getfield 23, 3) := by decide +kernel
theorem dX5_become_37 : decode cX5_become 37 = .ok (.invokevirtual 56, 3) := by decide +kernel
theorem dX5_become_40 : decode cX5_become 40 = .ok (.aload_n 0, 1) := by decide +kernel
theorem dX5_become_41 : decode cX5_become 41 = .ok (.aload_n 1, 1) := by decide +kernel
theorem dX5_become_42 : decode cX5_become 42 = .ok (.getfield 26, 3) := by decide +kernel
theorem dX5_become_45 : decode cX5_become 45 = .ok (.aload_n 0, 1) := by decide +kernel
theorem dX5_become_46 : decode cX5_become 46 = .ok (.getfield 26, 3) := by decide +kernel
theorem dX5_become_49 : decode cX5_become 49 = .ok (.invokevirtual 56, 3) := by decide +kernel
theorem dX5_become_52 : decode cX5_become 52 = .ok (.aload_n 0, 1) := by decide +kernel
theorem dX5_become_53 : decode cX5_become 53 = .ok (.aload_n 1, 1) := by decide +kernel
theorem dX5_become_54 : decode cX5_become 54 = .ok (.getfield 29, 3) := by decide +kernel
theorem dX5_become_57 : decode cX5_become 57 = .ok (.aload_n 0, 1) := by decide +kernel
theorem dX5_become_58 : decode cX5_become 58 = .ok (.getfield 29, 3) := by decide +kernel
theorem dX5_become_61 : decode cX5_become 61 = .ok (.invokevirtual 56, 3) := by decide +kernel
theorem dX5_become_64 : decode cX5_become 64 = .ok (.aload_n 0, 1) := by decide +kernel
theorem dX5_become_65 : decode cX5_become 65 = .ok (.aload_n 1, 1) := by decide +kernel
theorem dX5_become_66 : decode cX5_become 66 = .ok (.getfield 32, 3) := by decide +kernel
theorem dX5_become_69 : decode cX5_become 69 = .ok (.aload_n 0, 1) := by decide +kernel
theorem dX5_become_70 : decode cX5_become 70 = .ok (.getfield 32, 3) := by decide +kernel
theorem dX5_become_73 : decode cX5_become 73 = .ok (.invokevirtual 56, 3) := by decide +kernel
theorem dX5_become_76 : decode cX5_become 76 = .ok (.aload_n 0, 1) := by decide +kernel
theorem dX5_become_77 : decode cX5_become 77 = .ok (.aload_n 1, 1) := by decide +kernel
theorem dX5_become_78 : decode cX5_become 78 = .ok (.getfield 35, 3) := by decide +kernel
theorem dX5_become_81 : decode cX5_become 81 = .ok (.aload_n 0, 1) := by decide +kernel
theorem dX5_become_82 : decode cX5_become 82 = .ok (.getfield 35, 3) := by decide +kernel
theorem dX5_become_85 : decode cX5_become 85 = .ok (.invokevirtual 56, 3) := by decide +kernel
theorem dX5_become_88 : decode cX5_become 88 = .ok (.aload_n 0, 1) := by decide +kernel
theorem dX5_become_89 : decode cX5_become 89 = .ok (.aload_n 1, 1) := by decide +kernel
theorem dX5_become_90 : decode cX5_become 90 = .ok (.getfield 38, 3) := by decide +kernel
theorem dX5_become_93 : decode cX5_become 93 = .ok (.aload_n 0, 1) := by decide +kernel
theorem dX5_become_94 : decode cX5_become 94 = .ok (.getfield 38, 3) := by decide +kernel
theorem dX5_become_97 : decode cX5_become 97 = .ok (.invokevirtual 56, 3) := by decide +kernel
theorem dX5_become_100 : decode cX5_become 100 = .ok (.aload_n 0, 1) := by decide +kernel
theorem dX5_become_101 : decode cX5_become 101 = .ok (.aload_n 1, 1) := by decide +kernel
theorem dX5_become_102 : decode cX5_become 102 = .ok (.getfield 41, 3) := by decide +kernel
theorem dX5_become_105 : decode cX5_become 105 = .ok (.aload_n 0, 1) := by decide +kernel
theorem dX5_become_106 : decode cX5_become 106 = .ok (.getfield 41, 3) := by decide +kernel
theorem dX5_become_109 : decode cX5_become 109 = .ok (.invokevirtual 56, 3) := by decide +kernel
theorem dX5_become_112 : decode cX5_become 112 = .ok (.aload_n 0, 1) := by decide +kernel
theorem dX5_become_113 : decode cX5_become 113 = .ok (.aload_n 1, 1) := by decide +kernel
theorem dX5_become_114 : decode cX5_become 114 = .ok (.getfield 44, 3) := by decide +kernel
theorem dX5_become_117 : decode cX5_become 117 = .ok (.aload_n 0, 1) := by decide +kernel
theorem dX5_become_118 : decode cX5_become 118 = .ok (.getfield 44, 3) := by decide +kernel
theorem dX5_become_121 : decode cX5_become 121 = .ok (.invokevirtual 56, 3) := by decide +kernel
theorem dX5_become_124 : decode cX5_become 124 = .ok (.return_, 1) := by decide +kernel
theorem dX5_isGone_0 : decode cX5_isGone 0 = .ok (.aload_n 0, 1) := by decide +kernel
theorem dX5_isGone_1 : decode cX5_isGone 1 = .ok (.getfield 41, 3) := by decide +kernel
theorem dX5_isGone_4 : decode cX5_isGone 4 = .ok (.iload_n 1, 1) := by decide +kernel
theorem dX5_isGone_5 : decode cX5_isGone 5 = .ok (.iaload, 1) := by decide +kernel
theorem dX5_isGone_6 : decode cX5_isGone 6 = .ok (.invokestatic 60, 3) := by decide +kernel
theorem dX5_isGone_9 : decode cX5_isGone 9 = .ok (.ifCond .ne 7, 3) := by decide +kernel
theorem dX5_isGone_12 : decode cX5_isGone 12 = .ok (.iconst 1, 1) := by decide +kernel
theorem dX5_isGone_13 : decode cX5_isGone 13 = .ok (.goto 4, 3) := by decide +kernel
theorem dX5_isGone_16 : decode cX5_isGone 16 = .ok (.iconst 0, 1) := by decide +kernel
theorem dX5_isGone_17 : decode cX5_isGone 17 = .ok (.ireturn, 1) := by decide +kernel
theorem dX5_far_0 : decode cX5_far 0 = .ok (.aload_n 0, 1) := by decide +kernel
theorem dX5_far_1 : decode cX5_far 1 = .ok (.getfield 32, 3) := by decide +kernel
theorem dX5_far_4 : decode cX5_far 4 = .ok (.iload_n 1, 1) := by decide +kernel
theorem dX5_far_5 : decode cX5_far 5 = .ok (.iaload, 1) := by decide +kernel
theorem dX5_far_6 : decode cX5_far 6 = .ok (.aload_n 0, 1) := by decide +kernel
theorem dX5_far_7 : decode cX5_far 7 = .ok (.getfield 41, 3) := by decide +kernel
theorem dX5_far_10 : decode cX5_far 10 = .ok (.iload_n 2, 1) := by decide +kernel
theorem dX5_far_11 : decode cX5_far 11 = .ok (.iaload, 1) := by decide +kernel
theorem dX5_far_12 : decode cX5_far 12 = .ok (.isub, 1) := by decide +kernel
theorem dX5_far_13 : decode cX5_far 13 = .ok (.invokestatic 64, 3) := by decide +kernel
theorem dX5_far_16 : decode cX5_far 16 = .ok (.ireturn, 1) := by decide +kernel
theorem dX5_aims_0 : decode cX5_aims 0 = .ok (.iconst (-1), 1) := by decide +kernel
theorem dX5_aims_1 : decode cX5_aims 1 = .ok (.istore_n 2, 1) := by decide +kernel
theorem dX5_aims_2 : decode cX5_aims 2 = .ok (.iconst 0, 1) := by decide +kernel
theorem dX5_aims_3 : decode cX5_aims 3 = .ok (.istore_n 3, 1) := by decide +kernel
theorem dX5_aims_4 : decode cX5_aims 4 = .ok (.iload_n 3, 1) := by decide +kernel
theorem dX5_aims_5 : decode cX5_aims 5 = .ok (.aload_n 0, 1) := by decide +kernel
theorem dX5_aims_6 : decode cX5_aims 6 = .ok (.getfield 3, 3) := by decide +kernel
theorem dX5_aims_9 : decode cX5_aims 9 = .ok (.getfield 70, 3) := by decide +kernel
theorem dX5_aims_12 : decode cX5_aims 12 = .ok (.if_icmp .ge 78, 3) := by decide +kernel
theorem dX5_aims_15 : decode cX5_aims 15 = .ok (.aload_n 0, 1) := by decide +kernel
theorem dX5_aims_16 : decode cX5_aims 16 = .ok (.getfield 35, 3) := by decide +kernel
theorem dX5_aims_19 : decode cX5_aims 19 = .ok (.iload_n 1, 1) := by decide +kernel
theorem dX5_aims_20 : decode cX5_aims 20 = .ok (.iaload, 1) := by decide +kernel
theorem dX5_aims_21 : decode cX5_aims 21 = .ok (.ifCond .le 69, 3) := by decide +kernel
theorem dX5_aims_24 : decode cX5_aims 24 = .ok (.aload_n 0, 1) := by decide +kernel
theorem dX5_aims_25 : decode cX5_aims 25 = .ok (.iload_n 3, 1) := by decide +kernel
theorem dX5_aims_26 : decode cX5_aims 26 = .ok (.invokevirtual 73, 3) := by decide +kernel
theorem dX5_aims_29 : decode cX5_aims 29 = .ok (.ifCond .ne 55, 3) := by decide +kernel
theorem dX5_aims_32 : decode cX5_aims 32 = .ok (.aload_n 0, 1) := by decide +kernel
theorem dX5_aims_33 : decode cX5_aims 33 = .ok (.getfield 44, 3) := by decide +kernel
theorem dX5_aims_36 : decode cX5_aims 36 = .ok (.iload_n 3, 1) := by decide +kernel
theorem dX5_aims_37 : decode cX5_aims 37 = .ok (.iaload, 1) := by decide +kernel
theorem dX5_aims_38 : decode cX5_aims 38 = .ok (.ifCond .eq 46, 3) := by decide +kernel
theorem dX5_aims_41 : decode cX5_aims 41 = .ok (.aload_n 0, 1) := by decide +kernel
theorem dX5_aims_42 : decode cX5_aims 42 = .ok (.iload_n 1, 1) := by decide +kernel
theorem dX5_aims_43 : decode cX5_aims 43 = .ok (.iload_n 3, 1) := by decide +kernel
theorem dX5_aims_44 : decode cX5_aims 44 = .ok (.invokevirtual 76, 3) := by decide +kernel
theorem dX5_aims_47 : decode cX5_aims 47 = .ok (.aload_n 0, 1) := by decide +kernel
theorem dX5_aims_48 : decode cX5_aims 48 = .ok (.getfield 3, 3) := by decide +kernel
theorem dX5_aims_51 : decode cX5_aims 51 = .ok (.getfield 80, 3) := by decide +kernel
theorem dX5_aims_54 : decode cX5_aims 54 = .ok (.iload_n 1, 1) := by decide +kernel
theorem dX5_aims_55 : decode cX5_aims 55 = .ok (.iaload, 1) := by decide +kernel
theorem dX5_aims_56 : decode cX5_aims 56 = .ok (.if_icmp .gt 28, 3) := by decide +kernel
theorem dX5_aims_59 : decode cX5_aims 59 = .ok (.iload_n 2, 1) := by decide +kernel
theorem dX5_aims_60 : decode cX5_aims 60 = .ok (.iconst (-1), 1) := by decide +kernel
theorem dX5_aims_61 : decode cX5_aims 61 = .ok (.if_icmp .eq 21, 3) := by decide +kernel
theorem dX5_aims_64 : decode cX5_aims 64 = .ok (.aload_n 0, 1) := by decide +kernel
theorem dX5_aims_65 : decode cX5_aims 65 = .ok (.iload_n 1, 1) := by decide +kernel
theorem dX5_aims_66 : decode cX5_aims 66 = .ok (.iload_n 3, 1) := by decide +kernel
theorem dX5_aims_67 : decode cX5_aims 67 = .ok (.invokevirtual 76, 3) := by decide +kernel
theorem dX5_aims_70 : decode cX5_aims 70 = .ok (.aload_n 0, 1) := by decide +kernel
theorem dX5_aims_71 : decode cX5_aims 71 = .ok (.iload_n 1, 1) := by decide +kernel
theorem dX5_aims_72 : decode cX5_aims 72 = .ok (.iload_n 2, 1) := by decide +kernel
theorem dX5_aims_73 : decode cX5_aims 73 = .ok (.invokevirtual 76, 3) := by decide +kernel
theorem dX5_aims_76 : decode cX5_aims 76 = .ok (.if_icmp .lt 6, 3) := by decide +kernel
theorem dX5_aims_79 : decode cX5_aims 79 = .ok (.goto 5, 3) := by decide +kernel
theorem dX5_aims_82 : decode cX5_aims 82 = .ok (.iload_n 3, 1) := by decide +kernel
theorem dX5_aims_83 : decode cX5_aims 83 = .ok (.istore_n 2, 1) := by decide +kernel
theorem dX5_aims_84 : decode cX5_aims 84 = .ok (.iinc 3 1, 3) := by decide +kernel
theorem dX5_aims_87 : decode cX5_aims 87 = .ok (.goto (-83), 3) := by decide +kernel
theorem dX5_aims_90 : decode cX5_aims 90 = .ok (.iload_n 2, 1) := by decide +kernel
theorem dX5_aims_91 : decode cX5_aims 91 = .ok (.ireturn, 1) := by decide +kernel
theorem dX5_shoot_0 : decode cX5_shoot 0 = .ok (.aload_n 0, 1) := by decide +kernel
theorem dX5_shoot_1 : decode cX5_shoot 1 = .ok (.iload_n 1, 1) := by decide +kernel
theorem dX5_shoot_2 : decode cX5_shoot 2 = .ok (.invokevirtual 83, 3) := by decide +kernel
theorem dX5_shoot_5 : decode cX5_shoot 5 = .ok (.istore_n 2, 1) := by decide +kernel
theorem dX5_shoot_6 : decode cX5_shoot 6 = .ok (.iload_n 2, 1) := by decide +kernel
theorem dX5_shoot_7 : decode cX5_shoot 7 = .ok (.iconst (-1), 1) := by decide +kernel
theorem dX5_shoot_8 : decode cX5_shoot 8 = .ok (.if_icmp .ne 4, 3) := by decide +kernel
theorem dX5_shoot_11 : decode cX5_shoot 11 = .ok (.return_, 1) := by decide +kernel
theorem dX5_shoot_12 : decode cX5_shoot 12 = .ok (.aload_n 0, 1) := by decide +kernel
theorem dX5_shoot_13 : decode cX5_shoot 13 = .ok (.getfield 35, 3) := by decide +kernel
theorem dX5_shoot_16 : decode cX5_shoot 16 = .ok (.iload_n 1, 1) := by decide +kernel
theorem dX5_shoot_17 : decode cX5_shoot 17 = .ok (.dup2, 1) := by decide +kernel
theorem dX5_shoot_18 : decode cX5_shoot 18 = .ok (.iaload, 1) := by decide +kernel
theorem dX5_shoot_19 : decode cX5_shoot 19 = .ok (.iconst 1, 1) := by decide +kernel
theorem dX5_shoot_20 : decode cX5_shoot 20 = .ok (.isub, 1) := by decide +kernel
theorem dX5_shoot_21 : decode cX5_shoot 21 = .ok (.iastore, 1) := by decide +kernel
theorem dX5_shoot_22 : decode cX5_shoot 22 = .ok (.aload_n 0, 1) := by decide +kernel
theorem dX5_shoot_23 : decode cX5_shoot 23 = .ok (.getfield 38, 3) := by decide +kernel
theorem dX5_shoot_26 : decode cX5_shoot 26 = .ok (.iload_n 1, 1) := by decide +kernel
theorem dX5_shoot_27 : decode cX5_shoot 27 = .ok (.dup2, 1) := by decide +kernel
theorem dX5_shoot_28 : decode cX5_shoot 28 = .ok (.iaload, 1) := by decide +kernel
theorem dX5_shoot_29 : decode cX5_shoot 29 = .ok (.iconst 1, 1) := by decide +kernel
theorem dX5_shoot_30 : decode cX5_shoot 30 = .ok (.iadd, 1) := by decide +kernel
theorem dX5_shoot_31 : decode cX5_shoot 31 = .ok (.iastore, 1) := by decide +kernel
theorem dX5_shoot_32 : decode cX5_shoot 32 = .ok (.aload_n 0, 1) := by decide +kernel
theorem dX5_shoot_33 : decode cX5_shoot 33 = .ok (.getfield 44, 3) := by decide +kernel
theorem dX5_shoot_36 : decode cX5_shoot 36 = .ok (.iload_n 2, 1) := by decide +kernel
theorem dX5_shoot_37 : decode cX5_shoot 37 = .ok (.iconst 0, 1) := by decide +kernel
theorem dX5_shoot_38 : decode cX5_shoot 38 = .ok (.aload_n 0, 1) := by decide +kernel
theorem dX5_shoot_39 : decode cX5_shoot 39 = .ok (.getfield 44, 3) := by decide +kernel
theorem dX5_shoot_42 : decode cX5_shoot 42 = .ok (.iload_n 2, 1) := by decide +kernel
theorem dX5_shoot_43 : decode cX5_shoot 43 = .ok (.iaload, 1) := by decide +kernel
theorem dX5_shoot_44 : decode cX5_shoot 44 = .ok (.aload_n 0, 1) := by decide +kernel
theorem dX5_shoot_45 : decode cX5_shoot 45 = .ok (.getfield 3, 3) := by decide +kernel
theorem dX5_shoot_48 : decode cX5_shoot 48 = .ok (.getfield 80, 3) := by decide +kernel
theorem dX5_shoot_51 : decode cX5_shoot 51 = .ok (.iload_n 1, 1) := by decide +kernel
theorem dX5_shoot_52 : decode cX5_shoot 52 = .ok (.iaload, 1) := by decide +kernel
theorem dX5_shoot_53 : decode cX5_shoot 53 = .ok (.iconst 1, 1) := by decide +kernel
theorem dX5_shoot_54 : decode cX5_shoot 54 = .ok (.iadd, 1) := by decide +kernel
theorem dX5_shoot_55 : decode cX5_shoot 55 = .ok (.aload_n 0, 1) := by decide +kernel
theorem dX5_shoot_56 : decode cX5_shoot 56 = .ok (.iload_n 1, 1) := by decide +kernel
theorem dX5_shoot_57 : decode cX5_shoot 57 = .ok (.iload_n 2, 1) := by decide +kernel
theorem dX5_shoot_58 : decode cX5_shoot 58 = .ok (.invokevirtual 76, 3) := by decide +kernel
theorem dX5_shoot_61 : decode cX5_shoot 61 = .ok (.isub, 1) := by decide +kernel
theorem dX5_shoot_62 : decode cX5_shoot 62 = .ok (.isub, 1) := by decide +kernel
theorem dX5_shoot_63 : decode cX5_shoot 63 = .ok (.invokestatic 86, 3) := by decide +kernel
theorem dX5_shoot_66 : decode cX5_shoot 66 = .ok (.iastore, 1) := by decide +kernel
theorem dX5_shoot_67 : decode cX5_shoot 67 = .ok (.iconst 0, 1) := by decide +kernel
theorem dX5_shoot_68 : decode cX5_shoot 68 = .ok (.istore_n 3, 1) := by decide +kernel
theorem dX5_shoot_69 : decode cX5_shoot 69 = .ok (.iload_n 3, 1) := by decide +kernel
theorem dX5_shoot_70 : decode cX5_shoot 70 = .ok (.aload_n 0, 1) := by decide +kernel
theorem dX5_shoot_71 : decode cX5_shoot 71 = .ok (.getfield 3, 3) := by decide +kernel
theorem dX5_shoot_74 : decode cX5_shoot 74 = .ok (.getfield 89, 3) := by decide +kernel
theorem dX5_shoot_77 : decode cX5_shoot 77 = .ok (.if_icmp .ge 54, 3) := by decide +kernel
theorem dX5_shoot_80 : decode cX5_shoot 80 = .ok (.aload_n 0, 1) := by decide +kernel
theorem dX5_shoot_81 : decode cX5_shoot 81 = .ok (.getfield 3, 3) := by decide +kernel
theorem dX5_shoot_84 : decode cX5_shoot 84 = .ok (.getfield 92, 3) := by decide +kernel
theorem dX5_shoot_87 : decode cX5_shoot 87 = .ok (.iload_n 3, 1) := by decide +kernel
theorem dX5_shoot_88 : decode cX5_shoot 88 = .ok (.iaload, 1) := by decide +kernel
theorem dX5_shoot_89 : decode cX5_shoot 89 = .ok (.ifCond .ne 36, 3) := by decide +kernel
theorem dX5_shoot_92 : decode cX5_shoot 92 = .ok (.aload_n 0, 1) := by decide +kernel
theorem dX5_shoot_93 : decode cX5_shoot 93 = .ok (.getfield 3, 3) := by decide +kernel
theorem dX5_shoot_96 : decode cX5_shoot 96 = .ok (.getfield 95, 3) := by decide +kernel
theorem dX5_shoot_99 : decode cX5_shoot 99 = .ok (.iload_n 3, 1) := by decide +kernel
theorem dX5_shoot_100 : decode cX5_shoot 100 = .ok (.iaload, 1) := by decide +kernel
theorem dX5_shoot_101 : decode cX5_shoot 101 = .ok (.aload_n 0, 1) := by decide +kernel
theorem dX5_shoot_102 : decode cX5_shoot 102 = .ok (.getfield 32, 3) := by decide +kernel
theorem dX5_shoot_105 : decode cX5_shoot 105 = .ok (.iload_n 1, 1) := by decide +kernel
theorem dX5_shoot_106 : decode cX5_shoot 106 = .ok (.iaload, 1) := by decide +kernel
theorem dX5_shoot_107 : decode cX5_shoot 107 = .ok (.isub, 1) := by decide +kernel
theorem dX5_shoot_108 : decode cX5_shoot 108 = .ok (.invokestatic 64, 3) := by decide +kernel
theorem dX5_shoot_111 : decode cX5_shoot 111 = .ok (.iconst 2, 1) := by decide +kernel
theorem dX5_shoot_112 : decode cX5_shoot 112 = .ok (.if_icmp .gt 13, 3) := by decide +kernel
theorem dX5_shoot_115 : decode cX5_shoot 115 = .ok (.aload_n 0, 1) := by decide +kernel
theorem dX5_shoot_116 : decode cX5_shoot 116 = .ok (.getfield 29, 3) := by decide +kernel
theorem dX5_shoot_119 : decode cX5_shoot 119 = .ok (.iload_n 3, 1) := by decide +kernel
theorem dX5_shoot_120 : decode cX5_shoot 120 = .ok (.dup2, 1) := by decide +kernel
theorem dX5_shoot_121 : decode cX5_shoot 121 = .ok (.iaload, 1) := by decide +kernel
theorem dX5_shoot_122 : decode cX5_shoot 122 = .ok (.iconst 1, 1) := by decide +kernel
theorem dX5_shoot_123 : decode cX5_shoot 123 = .ok (.iadd, 1) := by decide +kernel
theorem dX5_shoot_124 : decode cX5_shoot 124 = .ok (.iastore, 1) := by decide +kernel
theorem dX5_shoot_125 : decode cX5_shoot 125 = .ok (.iinc 3 1, 3) := by decide +kernel
theorem dX5_shoot_128 : decode cX5_shoot 128 = .ok (.goto (-59), 3) := by decide +kernel
theorem dX5_shoot_131 : decode cX5_shoot 131 = .ok (.return_, 1) := by decide +kernel
theorem dX5_drop_0 : decode cX5_drop 0 = .ok (.aload_n 0, 1) := by decide +kernel
theorem dX5_drop_1 : decode cX5_drop 1 = .ok (.iload_n 1, 1) := by decide +kernel
theorem dX5_drop_2 : decode cX5_drop 2 = .ok (.invokevirtual 73, 3) := by decide +kernel
theorem dX5_drop_5 : decode cX5_drop 5 = .ok (.ifCond .eq 4, 3) := by decide +kernel
theorem dX5_drop_8 : decode cX5_drop 8 = .ok (.return_, 1) := by decide +kernel
theorem dX5_drop_9 : decode cX5_drop 9 = .ok (.iconst 4, 1) := by decide +kernel
theorem dX5_drop_10 : decode cX5_drop 10 = .ok (.aload_n 0, 1) := by decide +kernel
theorem dX5_drop_11 : decode cX5_drop 11 = .ok (.getfield 44, 3) := by decide +kernel
theorem dX5_drop_14 : decode cX5_drop 14 = .ok (.iload_n 1, 1) := by decide +kernel
theorem dX5_drop_15 : decode cX5_drop 15 = .ok (.iaload, 1) := by decide +kernel
theorem dX5_drop_16 : decode cX5_drop 16 = .ok (.invokestatic 98, 3) := by decide +kernel
theorem dX5_drop_19 : decode cX5_drop 19 = .ok (.istore_n 2, 1) := by decide +kernel
theorem dX5_drop_20 : decode cX5_drop 20 = .ok (.aload_n 0, 1) := by decide +kernel
theorem dX5_drop_21 : decode cX5_drop 21 = .ok (.getfield 44, 3) := by decide +kernel
theorem dX5_drop_24 : decode cX5_drop 24 = .ok (.iload_n 1, 1) := by decide +kernel
theorem dX5_drop_25 : decode cX5_drop 25 = .ok (.dup2, 1) := by decide +kernel
theorem dX5_drop_26 : decode cX5_drop 26 = .ok (.iaload, 1) := by decide +kernel
theorem dX5_drop_27 : decode cX5_drop 27 = .ok (.iload_n 2, 1) := by decide +kernel
theorem dX5_drop_28 : decode cX5_drop 28 = .ok (.isub, 1) := by decide +kernel
theorem dX5_drop_29 : decode cX5_drop 29 = .ok (.iastore, 1) := by decide +kernel
theorem dX5_drop_30 : decode cX5_drop 30 = .ok (.iconst 0, 1) := by decide +kernel
theorem dX5_drop_31 : decode cX5_drop 31 = .ok (.istore_n 3, 1) := by decide +kernel
theorem dX5_drop_32 : decode cX5_drop 32 = .ok (.iload_n 3, 1) := by decide +kernel
theorem dX5_drop_33 : decode cX5_drop 33 = .ok (.aload_n 0, 1) := by decide +kernel
theorem dX5_drop_34 : decode cX5_drop 34 = .ok (.getfield 3, 3) := by decide +kernel
theorem dX5_drop_37 : decode cX5_drop 37 = .ok (.getfield 89, 3) := by decide +kernel
theorem dX5_drop_40 : decode cX5_drop 40 = .ok (.if_icmp .ge 77, 3) := by decide +kernel
theorem dX5_drop_43 : decode cX5_drop 43 = .ok (.aload_n 0, 1) := by decide +kernel
theorem dX5_drop_44 : decode cX5_drop 44 = .ok (.getfield 3, 3) := by decide +kernel
theorem dX5_drop_47 : decode cX5_drop 47 = .ok (.getfield 95, 3) := by decide +kernel
theorem dX5_drop_50 : decode cX5_drop 50 = .ok (.iload_n 3, 1) := by decide +kernel
theorem dX5_drop_51 : decode cX5_drop 51 = .ok (.iaload, 1) := by decide +kernel
theorem dX5_drop_52 : decode cX5_drop 52 = .ok (.aload_n 0, 1) := by decide +kernel
theorem dX5_drop_53 : decode cX5_drop 53 = .ok (.getfield 41, 3) := by decide +kernel
theorem dX5_drop_56 : decode cX5_drop 56 = .ok (.iload_n 1, 1) := by decide +kernel
theorem dX5_drop_57 : decode cX5_drop 57 = .ok (.iaload, 1) := by decide +kernel
theorem dX5_drop_58 : decode cX5_drop 58 = .ok (.if_icmp .eq 6, 3) := by decide +kernel
theorem dX5_drop_61 : decode cX5_drop 61 = .ok (.goto 50, 3) := by decide +kernel
theorem dX5_drop_64 : decode cX5_drop 64 = .ok (.aload_n 0, 1) := by decide +kernel
theorem dX5_drop_65 : decode cX5_drop 65 = .ok (.getfield 19, 3) := by decide +kernel
theorem dX5_drop_68 : decode cX5_drop 68 = .ok (.iload_n 3, 1) := by decide +kernel
theorem dX5_drop_69 : decode cX5_drop 69 = .ok (.iaload, 1) := by decide +kernel
theorem dX5_drop_70 : decode cX5_drop 70 = .ok (.iconst 2, 1) := by decide +kernel
theorem dX5_drop_71 : decode cX5_drop 71 = .ok (.iload_n 2, 1) := by decide +kernel
theorem dX5_drop_72 : decode cX5_drop 72 = .ok (.imul, 1) := by decide +kernel
theorem dX5_drop_73 : decode cX5_drop 73 = .ok (.invokestatic 98, 3) := by decide +kernel
theorem dX5_drop_76 : decode cX5_drop 76 = .ok (.istore 4, 2) := by decide +kernel
theorem dX5_drop_78 : decode cX5_drop 78 = .ok (.aload_n 0, 1) := by decide +kernel
theorem dX5_drop_79 : decode cX5_drop 79 = .ok (.getfield 19, 3) := by decide +kernel
theorem dX5_drop_82 : decode cX5_drop 82 = .ok (.iload_n 3, 1) := by decide +kernel
theorem dX5_drop_83 : decode cX5_drop 83 = .ok (.dup2, 1) := by decide +kernel
theorem dX5_drop_84 : decode cX5_drop 84 = .ok (.iaload, 1) := by decide +kernel
theorem dX5_drop_85 : decode cX5_drop 85 = .ok (.iload 4, 2) := by decide +kernel
theorem dX5_drop_87 : decode cX5_drop 87 = .ok (.isub, 1) := by decide +kernel
theorem dX5_drop_88 : decode cX5_drop 88 = .ok (.iastore, 1) := by decide +kernel
theorem dX5_drop_89 : decode cX5_drop 89 = .ok (.aload_n 0, 1) := by decide +kernel
theorem dX5_drop_90 : decode cX5_drop 90 = .ok (.getfield 23, 3) := by decide +kernel
theorem dX5_drop_93 : decode cX5_drop 93 = .ok (.iload_n 3, 1) := by decide +kernel
theorem dX5_drop_94 : decode cX5_drop 94 = .ok (.dup2, 1) := by decide +kernel
theorem dX5_drop_95 : decode cX5_drop 95 = .ok (.iaload, 1) := by decide +kernel
theorem dX5_drop_96 : decode cX5_drop 96 = .ok (.iload 4, 2) := by decide +kernel
theorem dX5_drop_98 : decode cX5_drop 98 = .ok (.iadd, 1) := by decide +kernel
theorem dX5_drop_99 : decode cX5_drop 99 = .ok (.iastore, 1) := by decide +kernel
theorem dX5_drop_100 : decode cX5_drop 100 = .ok (.aload_n 0, 1) := by decide +kernel
theorem dX5_drop_101 : decode cX5_drop 101 = .ok (.getfield 26, 3) := by decide +kernel
theorem dX5_drop_104 : decode cX5_drop 104 = .ok (.iload_n 3, 1) := by decide +kernel
theorem dX5_drop_105 : decode cX5_drop 105 = .ok (.dup2, 1) := by decide +kernel
theorem dX5_drop_106 : decode cX5_drop 106 = .ok (.iaload, 1) := by decide +kernel
theorem dX5_drop_107 : decode cX5_drop 107 = .ok (.iload 4, 2) := by decide +kernel
theorem dX5_drop_109 : decode cX5_drop 109 = .ok (.iadd, 1) := by decide +kernel
theorem dX5_drop_110 : decode cX5_drop 110 = .ok (.iastore, 1) := by decide +kernel
theorem dX5_drop_111 : decode cX5_drop 111 = .ok (.iinc 3 1, 3) := by decide +kernel
theorem dX5_drop_114 : decode cX5_drop 114 = .ok (.goto (-82), 3) := by decide +kernel
theorem dX5_drop_117 : decode cX5_drop 117 = .ok (.return_, 1) := by decide +kernel
theorem dX5_settle_0 : decode cX5_settle 0 = .ok (.aload_n 0, 1) := by decide +kernel
theorem dX5_settle_1 : decode cX5_settle 1 = .ok (.getfield 3, 3) := by decide +kernel
theorem dX5_settle_4 : decode cX5_settle 4 = .ok (.getfield 101, 3) := by decide +kernel
theorem dX5_settle_7 : decode cX5_settle 7 = .ok (.iload_n 1, 1) := by decide +kernel
theorem dX5_settle_8 : decode cX5_settle 8 = .ok (.iaload, 1) := by decide +kernel
theorem dX5_settle_9 : decode cX5_settle 9 = .ok (.iconst 1, 1) := by decide +kernel
theorem dX5_settle_10 : decode cX5_settle 10 = .ok (.if_icmp .ne 22, 3) := by decide +kernel
theorem dX5_settle_13 : decode cX5_settle 13 = .ok (.aload_n 0, 1) := by decide +kernel
theorem dX5_settle_14 : decode cX5_settle 14 = .ok (.dup, 1) := by decide +kernel
theorem dX5_settle_15 : decode cX5_settle 15 = .ok (.getfield 15, 3) := by decide +kernel
theorem dX5_settle_18 : decode cX5_settle 18 = .ok (.iconst 1, 1) := by decide +kernel
theorem dX5_settle_19 : decode cX5_settle 19 = .ok (.aload_n 0, 1) := by decide +kernel
theorem dX5_settle_20 : decode cX5_settle 20 = .ok (.getfield 23, 3) := by decide +kernel
theorem dX5_settle_23 : decode cX5_settle 23 = .ok (.iload_n 1, 1) := by decide +kernel
theorem dX5_settle_24 : decode cX5_settle 24 = .ok (.iaload, 1) := by decide +kernel
theorem dX5_settle_25 : decode cX5_settle 25 = .ok (.iconst 2, 1) := by decide +kernel
theorem dX5_settle_26 : decode cX5_settle 26 = .ok (.idiv, 1) := by decide +kernel
theorem dX5_settle_27 : decode cX5_settle 27 = .ok (.isub, 1) := by decide +kernel
theorem dX5_settle_28 : decode cX5_settle 28 = .ok (.iadd, 1) := by decide +kernel
theorem dX5_settle_29 : decode cX5_settle 29 = .ok (.putfield 15, 3) := by decide +kernel
theorem dX5_settle_32 : decode cX5_settle 32 = .ok (.aload_n 0, 1) := by decide +kernel
theorem dX5_settle_33 : decode cX5_settle 33 = .ok (.dup, 1) := by decide +kernel
theorem dX5_settle_34 : decode cX5_settle 34 = .ok (.getfield 15, 3) := by decide +kernel
theorem dX5_settle_37 : decode cX5_settle 37 = .ok (.aload_n 0, 1) := by decide +kernel
theorem dX5_settle_38 : decode cX5_settle 38 = .ok (.getfield 29, 3) := by decide +kernel
theorem dX5_settle_41 : decode cX5_settle 41 = .ok (.iload_n 1, 1) := by decide +kernel
theorem dX5_settle_42 : decode cX5_settle 42 = .ok (.iaload, 1) := by decide +kernel
theorem dX5_settle_43 : decode cX5_settle 43 = .ok (.isub, 1) := by decide +kernel
theorem dX5_settle_44 : decode cX5_settle 44 = .ok (.putfield 15, 3) := by decide +kernel
theorem dX5_settle_47 : decode cX5_settle 47 = .ok (.aload_n 0, 1) := by decide +kernel
theorem dX5_settle_48 : decode cX5_settle 48 = .ok (.getfield 23, 3) := by decide +kernel
theorem dX5_settle_51 : decode cX5_settle 51 = .ok (.iload_n 1, 1) := by decide +kernel
theorem dX5_settle_52 : decode cX5_settle 52 = .ok (.iconst 0, 1) := by decide +kernel
theorem dX5_settle_53 : decode cX5_settle 53 = .ok (.iastore, 1) := by decide +kernel
theorem dX5_settle_54 : decode cX5_settle 54 = .ok (.aload_n 0, 1) := by decide +kernel
theorem dX5_settle_55 : decode cX5_settle 55 = .ok (.getfield 29, 3) := by decide +kernel
theorem dX5_settle_58 : decode cX5_settle 58 = .ok (.iload_n 1, 1) := by decide +kernel
theorem dX5_settle_59 : decode cX5_settle 59 = .ok (.iconst 0, 1) := by decide +kernel
theorem dX5_settle_60 : decode cX5_settle 60 = .ok (.iastore, 1) := by decide +kernel
theorem dX5_settle_61 : decode cX5_settle 61 = .ok (.aload_n 0, 1) := by decide +kernel
theorem dX5_settle_62 : decode cX5_settle 62 = .ok (.getfield 19, 3) := by decide +kernel
theorem dX5_settle_65 : decode cX5_settle 65 = .ok (.iload_n 1, 1) := by decide +kernel
theorem dX5_settle_66 : decode cX5_settle 66 = .ok (.iaload, 1) := by decide +kernel
theorem dX5_settle_67 : decode cX5_settle 67 = .ok (.iconst 1, 1) := by decide +kernel
theorem dX5_settle_68 : decode cX5_settle 68 = .ok (.bipush 98, 2) := by decide +kernel
theorem dX5_settle_70 : decode cX5_settle 70 = .ok (.invokestatic 104, 3) := by decide +kernel
theorem dX5_settle_73 : decode cX5_settle 73 = .ok (.ifCond .eq 13, 3) := by decide +kernel
theorem dX5_settle_76 : decode cX5_settle 76 = .ok (.aload_n 0, 1) := by decide +kernel
theorem dX5_settle_77 : decode cX5_settle 77 = .ok (.getfield 19, 3) := by decide +kernel
theorem dX5_settle_80 : decode cX5_settle 80 = .ok (.iload_n 1, 1) := by decide +kernel
theorem dX5_settle_81 : decode cX5_settle 81 = .ok (.dup2, 1) := by decide +kernel
theorem dX5_settle_82 : decode cX5_settle 82 = .ok (.iaload, 1) := by decide +kernel
theorem dX5_settle_83 : decode cX5_settle 83 = .ok (.iconst 1, 1) := by decide +kernel
theorem dX5_settle_84 : decode cX5_settle 84 = .ok (.iadd, 1) := by decide +kernel
theorem dX5_settle_85 : decode cX5_settle 85 = .ok (.iastore, 1) := by decide +kernel
theorem dX5_settle_86 : decode cX5_settle 86 = .ok (.return_, 1) := by decide +kernel
theorem dX5_pass_0 : decode cX5_pass 0 = .ok (.iconst 0, 1) := by decide +kernel
theorem dX5_pass_1 : decode cX5_pass 1 = .ok (.istore_n 1, 1) := by decide +kernel
theorem dX5_pass_2 : decode cX5_pass 2 = .ok (.iload_n 1, 1) := by decide +kernel
theorem dX5_pass_3 : decode cX5_pass 3 = .ok (.aload_n 0, 1) := by decide +kernel
theorem dX5_pass_4 : decode cX5_pass 4 = .ok (.getfield 3, 3) := by decide +kernel
theorem dX5_pass_7 : decode cX5_pass 7 = .ok (.getfield 70, 3) := by decide +kernel
theorem dX5_pass_10 : decode cX5_pass 10 = .ok (.if_icmp .ge 51, 3) := by decide +kernel
theorem dX5_pass_13 : decode cX5_pass 13 = .ok (.aload_n 0, 1) := by decide +kernel
theorem dX5_pass_14 : decode cX5_pass 14 = .ok (.iload_n 1, 1) := by decide +kernel
theorem dX5_pass_15 : decode cX5_pass 15 = .ok (.invokevirtual 73, 3) := by decide +kernel
theorem dX5_pass_18 : decode cX5_pass 18 = .ok (.ifCond .ne 37, 3) := by decide +kernel
theorem dX5_pass_21 : decode cX5_pass 21 = .ok (.aload_n 0, 1) := by decide +kernel
theorem dX5_pass_22 : decode cX5_pass 22 = .ok (.getfield 41, 3) := by decide +kernel
theorem dX5_pass_25 : decode cX5_pass 25 = .ok (.iload_n 1, 1) := by decide +kernel
theorem dX5_pass_26 : decode cX5_pass 26 = .ok (.dup2, 1) := by decide +kernel
theorem dX5_pass_27 : decode cX5_pass 27 = .ok (.iaload, 1) := by decide +kernel
theorem dX5_pass_28 : decode cX5_pass 28 = .ok (.aload_n 0, 1) := by decide +kernel
theorem dX5_pass_29 : decode cX5_pass 29 = .ok (.getfield 3, 3) := by decide +kernel
theorem dX5_pass_32 : decode cX5_pass 32 = .ok (.getfield 108, 3) := by decide +kernel
theorem dX5_pass_35 : decode cX5_pass 35 = .ok (.iload_n 1, 1) := by decide +kernel
theorem dX5_pass_36 : decode cX5_pass 36 = .ok (.iaload, 1) := by decide +kernel
theorem dX5_pass_37 : decode cX5_pass 37 = .ok (.aload_n 0, 1) := by decide +kernel
theorem dX5_pass_38 : decode cX5_pass 38 = .ok (.getfield 3, 3) := by decide +kernel
theorem dX5_pass_41 : decode cX5_pass 41 = .ok (.getfield 111, 3) := by decide +kernel
theorem dX5_pass_44 : decode cX5_pass 44 = .ok (.aload_n 0, 1) := by decide +kernel
theorem dX5_pass_45 : decode cX5_pass 45 = .ok (.getfield 53, 3) := by decide +kernel
theorem dX5_pass_48 : decode cX5_pass 48 = .ok (.bipush 6, 2) := by decide +kernel
theorem dX5_pass_50 : decode cX5_pass 50 = .ok (.irem, 1) := by decide +kernel
theorem dX5_pass_51 : decode cX5_pass 51 = .ok (.iaload, 1) := by decide +kernel
theorem dX5_pass_52 : decode cX5_pass 52 = .ok (.iadd, 1) := by decide +kernel
theorem dX5_pass_53 : decode cX5_pass 53 = .ok (.iadd, 1) := by decide +kernel
theorem dX5_pass_54 : decode cX5_pass 54 = .ok (.iastore, 1) := by decide +kernel
theorem dX5_pass_55 : decode cX5_pass 55 = .ok (.iinc 1 1, 3) := by decide +kernel
theorem dX5_pass_58 : decode cX5_pass 58 = .ok (.goto (-56), 3) := by decide +kernel
theorem dX5_pass_61 : decode cX5_pass 61 = .ok (.iconst 0, 1) := by decide +kernel
theorem dX5_pass_62 : decode cX5_pass 62 = .ok (.istore_n 1, 1) := by decide +kernel
theorem dX5_pass_63 : decode cX5_pass 63 = .ok (.iload_n 1, 1) := by decide +kernel
theorem dX5_pass_64 : decode cX5_pass 64 = .ok (.aload_n 0, 1) := by decide +kernel
theorem dX5_pass_65 : decode cX5_pass 65 = .ok (.getfield 3, 3) := by decide +kernel
theorem dX5_pass_68 : decode cX5_pass 68 = .ok (.getfield 114, 3) := by decide +kernel
theorem dX5_pass_71 : decode cX5_pass 71 = .ok (.if_icmp .ge 14, 3) := by decide +kernel
theorem dX5_pass_74 : decode cX5_pass 74 = .ok (.aload_n 0, 1) := by decide +kernel
theorem dX5_pass_75 : decode cX5_pass 75 = .ok (.iload_n 1, 1) := by decide +kernel
theorem dX5_pass_76 : decode cX5_pass 76 = .ok (.invokevirtual 117, 3) := by decide +kernel
theorem dX5_pass_79 : decode cX5_pass 79 = .ok (.iinc 1 1, 3) := by decide +kernel
theorem dX5_pass_82 : decode cX5_pass 82 = .ok (.goto (-19), 3) := by decide +kernel
theorem dX5_pass_85 : decode cX5_pass 85 = .ok (.iconst 0, 1) := by decide +kernel
theorem dX5_pass_86 : decode cX5_pass 86 = .ok (.istore_n 1, 1) := by decide +kernel
theorem dX5_pass_87 : decode cX5_pass 87 = .ok (.iload_n 1, 1) := by decide +kernel
theorem dX5_pass_88 : decode cX5_pass 88 = .ok (.aload_n 0, 1) := by decide +kernel
theorem dX5_pass_89 : decode cX5_pass 89 = .ok (.getfield 3, 3) := by decide +kernel
theorem dX5_pass_92 : decode cX5_pass 92 = .ok (.getfield 70, 3) := by decide +kernel
theorem dX5_pass_95 : decode cX5_pass 95 = .ok (.if_icmp .ge 14, 3) := by decide +kernel
theorem dX5_pass_98 : decode cX5_pass 98 = .ok (.aload_n 0, 1) := by decide +kernel
theorem dX5_pass_99 : decode cX5_pass 99 = .ok (.iload_n 1, 1) := by decide +kernel
theorem dX5_pass_100 : decode cX5_pass 100 = .ok (.invokevirtual 121, 3) := by decide +kernel
theorem dX5_pass_103 : decode cX5_pass 103 = .ok (.iinc 1 1, 3) := by decide +kernel
theorem dX5_pass_106 : decode cX5_pass 106 = .ok (.goto (-19), 3) := by decide +kernel
theorem dX5_pass_109 : decode cX5_pass 109 = .ok (.aload_n 0, 1) := by decide +kernel
theorem dX5_pass_110 : decode cX5_pass 110 = .ok (.getfield 53, 3) := by decide +kernel
theorem dX5_pass_113 : decode cX5_pass 113 = .ok (.bipush 24, 2) := by decide +kernel
theorem dX5_pass_115 : decode cX5_pass 115 = .ok (.irem, 1) := by decide +kernel
theorem dX5_pass_116 : decode cX5_pass 116 = .ok (.bipush 23, 2) := by decide +kernel
theorem dX5_pass_118 : decode cX5_pass 118 = .ok (.if_icmp .ne 27, 3) := by decide +kernel
theorem dX5_pass_121 : decode cX5_pass 121 = .ok (.iconst 0, 1) := by decide +kernel
theorem dX5_pass_122 : decode cX5_pass 122 = .ok (.istore_n 1, 1) := by decide +kernel
theorem dX5_pass_123 : decode cX5_pass 123 = .ok (.iload_n 1, 1) := by decide +kernel
theorem dX5_pass_124 : decode cX5_pass 124 = .ok (.aload_n 0, 1) := by decide +kernel
theorem dX5_pass_125 : decode cX5_pass 125 = .ok (.getfield 3, 3) := by decide +kernel
theorem dX5_pass_128 : decode cX5_pass 128 = .ok (.getfield 89, 3) := by decide +kernel
theorem dX5_pass_131 : decode cX5_pass 131 = .ok (.if_icmp .ge 14, 3) := by decide +kernel
theorem dX5_pass_134 : decode cX5_pass 134 = .ok (.aload_n 0, 1) := by decide +kernel
theorem dX5_pass_135 : decode cX5_pass 135 = .ok (.iload_n 1, 1) := by decide +kernel
theorem dX5_pass_136 : decode cX5_pass 136 = .ok (.invokevirtual 124, 3) := by decide +kernel
theorem dX5_pass_139 : decode cX5_pass 139 = .ok (.iinc 1 1, 3) := by decide +kernel
theorem dX5_pass_142 : decode cX5_pass 142 = .ok (.goto (-19), 3) := by decide +kernel
theorem dX5_pass_145 : decode cX5_pass 145 = .ok (.aload_n 0, 1) := by decide +kernel
theorem dX5_pass_146 : decode cX5_pass 146 = .ok (.dup, 1) := by decide +kernel
theorem dX5_pass_147 : decode cX5_pass 147 = .ok (.getfield 53, 3) := by decide +kernel
theorem dX5_pass_150 : decode cX5_pass 150 = .ok (.iconst 1, 1) := by decide +kernel
theorem dX5_pass_151 : decode cX5_pass 151 = .ok (.iadd, 1) := by decide +kernel
theorem dX5_pass_152 : decode cX5_pass 152 = .ok (.putfield 53, 3) := by decide +kernel
theorem dX5_pass_155 : decode cX5_pass 155 = .ok (.return_, 1) := by decide +kernel
theorem dX5_pass__0 : decode cX5_pass_ 0 = .ok (.iconst 0, 1) := by decide +kernel
theorem dX5_pass__1 : decode cX5_pass_ 1 = .ok (.istore_n 2, 1) := by decide +kernel
theorem dX5_pass__2 : decode cX5_pass_ 2 = .ok (.iload_n 2, 1) := by decide +kernel
theorem dX5_pass__3 : decode cX5_pass_ 3 = .ok (.iload_n 1, 1) := by decide +kernel
theorem dX5_pass__4 : decode cX5_pass_ 4 = .ok (.if_icmp .ge 13, 3) := by decide +kernel
theorem dX5_pass__7 : decode cX5_pass_ 7 = .ok (.aload_n 0, 1) := by decide +kernel
theorem dX5_pass__8 : decode cX5_pass_ 8 = .ok (.invokevirtual 127, 3) := by decide +kernel
theorem dX5_pass__11 : decode cX5_pass_ 11 = .ok (.iinc 2 1, 3) := by decide +kernel
theorem dX5_pass__14 : decode cX5_pass_ 14 = .ok (.goto (-12), 3) := by decide +kernel
theorem dX5_pass__17 : decode cX5_pass_ 17 = .ok (.return_, 1) := by decide +kernel
theorem dX5_sum_0 : decode cX5_sum 0 = .ok (.iconst 0, 1) := by decide +kernel
theorem dX5_sum_1 : decode cX5_sum 1 = .ok (.istore_n 3, 1) := by decide +kernel
theorem dX5_sum_2 : decode cX5_sum 2 = .ok (.iconst 0, 1) := by decide +kernel
theorem dX5_sum_3 : decode cX5_sum 3 = .ok (.istore 4, 2) := by decide +kernel
theorem dX5_sum_5 : decode cX5_sum 5 = .ok (.iload 4, 2) := by decide +kernel
theorem dX5_sum_7 : decode cX5_sum 7 = .ok (.iload_n 2, 1) := by decide +kernel
theorem dX5_sum_8 : decode cX5_sum 8 = .ok (.if_icmp .ge 16, 3) := by decide +kernel
theorem dX5_sum_11 : decode cX5_sum 11 = .ok (.iload_n 3, 1) := by decide +kernel
theorem dX5_sum_12 : decode cX5_sum 12 = .ok (.aload_n 1, 1) := by decide +kernel
theorem dX5_sum_13 : decode cX5_sum 13 = .ok (.iload 4, 2) := by decide +kernel
theorem dX5_sum_15 : decode cX5_sum 15 = .ok (.iaload, 1) := by decide +kernel
theorem dX5_sum_16 : decode cX5_sum 16 = .ok (.iadd, 1) := by decide +kernel
theorem dX5_sum_17 : decode cX5_sum 17 = .ok (.istore_n 3, 1) := by decide +kernel
theorem dX5_sum_18 : decode cX5_sum 18 = .ok (.iinc 4 1, 3) := by decide +kernel
theorem dX5_sum_21 : decode cX5_sum 21 = .ok (.goto (-16), 3) := by decide +kernel
theorem dX5_sum_24 : decode cX5_sum 24 = .ok (.iload_n 3, 1) := by decide +kernel
theorem dX5_sum_25 : decode cX5_sum 25 = .ok (.ireturn, 1) := by decide +kernel
theorem dX5_losses_0 : decode cX5_losses 0 = .ok (.aload_n 0, 1) := by decide +kernel
theorem dX5_losses_1 : decode cX5_losses 1 = .ok (.aload_n 0, 1) := by decide +kernel
theorem dX5_losses_2 : decode cX5_losses 2 = .ok (.getfield 26, 3) := by decide +kernel
theorem dX5_losses_5 : decode cX5_losses 5 = .ok (.aload_n 0, 1) := by decide +kernel
theorem dX5_losses_6 : decode cX5_losses 6 = .ok (.getfield 3, 3) := by decide +kernel
theorem dX5_losses_9 : decode cX5_losses 9 = .ok (.getfield 89, 3) := by decide +kernel
theorem dX5_losses_12 : decode cX5_losses 12 = .ok (.invokevirtual 130, 3) := by decide +kernel
theorem dX5_losses_15 : decode cX5_losses 15 = .ok (.ireturn, 1) := by decide +kernel
theorem dX5_counted_0 : decode cX5_counted 0 = .ok (.iconst 0, 1) := by decide +kernel
theorem dX5_counted_1 : decode cX5_counted 1 = .ok (.istore_n 2, 1) := by decide +kernel
theorem dX5_counted_2 : decode cX5_counted 2 = .ok (.iconst 0, 1) := by decide +kernel
theorem dX5_counted_3 : decode cX5_counted 3 = .ok (.istore_n 3, 1) := by decide +kernel
theorem dX5_counted_4 : decode cX5_counted 4 = .ok (.iload_n 3, 1) := by decide +kernel
theorem dX5_counted_5 : decode cX5_counted 5 = .ok (.aload_n 0, 1) := by decide +kernel
theorem dX5_counted_6 : decode cX5_counted 6 = .ok (.getfield 3, 3) := by decide +kernel
theorem dX5_counted_9 : decode cX5_counted 9 = .ok (.getfield 70, 3) := by decide +kernel
theorem dX5_counted_12 : decode cX5_counted 12 = .ok (.if_icmp .ge 25, 3) := by decide +kernel
theorem dX5_counted_15 : decode cX5_counted 15 = .ok (.iload_n 2, 1) := by decide +kernel
theorem dX5_counted_16 : decode cX5_counted 16 = .ok (.aload_n 0, 1) := by decide +kernel
theorem dX5_counted_17 : decode cX5_counted 17 = .ok (.iload_n 3, 1) := by decide +kernel
theorem dX5_counted_18 : decode cX5_counted 18 = .ok (.invokevirtual 73, 3) := by decide +kernel
theorem dX5_counted_21 : decode cX5_counted 21 = .ok (.ifCond .eq 7, 3) := by decide +kernel
theorem dX5_counted_24 : decode cX5_counted 24 = .ok (.iconst 0, 1) := by decide +kernel
theorem dX5_counted_25 : decode cX5_counted 25 = .ok (.goto 4, 3) := by decide +kernel
theorem dX5_counted_28 : decode cX5_counted 28 = .ok (.iconst 1, 1) := by decide +kernel
theorem dX5_counted_29 : decode cX5_counted 29 = .ok (.iadd, 1) := by decide +kernel
theorem dX5_counted_30 : decode cX5_counted 30 = .ok (.istore_n 2, 1) := by decide +kernel
theorem dX5_counted_31 : decode cX5_counted 31 = .ok (.iinc 3 1, 3) := by decide +kernel
theorem dX5_counted_34 : decode cX5_counted 34 = .ok (.goto (-30), 3) := by decide +kernel
theorem dX5_counted_37 : decode cX5_counted 37 = .ok (.bipush 10, 2) := by decide +kernel
theorem dX5_counted_39 : decode cX5_counted 39 = .ok (.newarray .int, 2) := by decide +kernel
theorem dX5_counted_41 : decode cX5_counted 41 = .ok (.dup, 1) := by decide +kernel
theorem dX5_counted_42 : decode cX5_counted 42 = .ok (.iconst 0, 1) := by decide +kernel
theorem dX5_counted_43 : decode cX5_counted 43 = .ok (.aload_n 0, 1) := by decide +kernel
theorem dX5_counted_44 : decode cX5_counted 44 = .ok (.getfield 53, 3) := by decide +kernel
theorem dX5_counted_47 : decode cX5_counted 47 = .ok (.iastore, 1) := by decide +kernel
theorem dX5_counted_48 : decode cX5_counted 48 = .ok (.dup, 1) := by decide +kernel
theorem dX5_counted_49 : decode cX5_counted 49 = .ok (.iconst 1, 1) := by decide +kernel
theorem dX5_counted_50 : decode cX5_counted 50 = .ok (.aload_n 0, 1) := by decide +kernel
theorem dX5_counted_51 : decode cX5_counted 51 = .ok (.getfield 53, 3) := by decide +kernel
theorem dX5_counted_54 : decode cX5_counted 54 = .ok (.bipush 24, 2) := by decide +kernel
theorem dX5_counted_56 : decode cX5_counted 56 = .ok (.irem, 1) := by decide +kernel
theorem dX5_counted_57 : decode cX5_counted 57 = .ok (.iastore, 1) := by decide +kernel
theorem dX5_counted_58 : decode cX5_counted 58 = .ok (.dup, 1) := by decide +kernel
theorem dX5_counted_59 : decode cX5_counted 59 = .ok (.iconst 2, 1) := by decide +kernel
theorem dX5_counted_60 : decode cX5_counted 60 = .ok (.aload_n 0, 1) := by decide +kernel
theorem dX5_counted_61 : decode cX5_counted 61 = .ok (.getfield 15, 3) := by decide +kernel
theorem dX5_counted_64 : decode cX5_counted 64 = .ok (.iastore, 1) := by decide +kernel
theorem dX5_counted_65 : decode cX5_counted 65 = .ok (.dup, 1) := by decide +kernel
theorem dX5_counted_66 : decode cX5_counted 66 = .ok (.iconst 3, 1) := by decide +kernel
theorem dX5_counted_67 : decode cX5_counted 67 = .ok (.aload_n 0, 1) := by decide +kernel
theorem dX5_counted_68 : decode cX5_counted 68 = .ok (.aload_n 0, 1) := by decide +kernel
theorem dX5_counted_69 : decode cX5_counted 69 = .ok (.getfield 19, 3) := by decide +kernel
theorem dX5_counted_72 : decode cX5_counted 72 = .ok (.aload_n 0, 1) := by decide +kernel
theorem dX5_counted_73 : decode cX5_counted 73 = .ok (.getfield 3, 3) := by decide +kernel
theorem dX5_counted_76 : decode cX5_counted 76 = .ok (.getfield 89, 3) := by decide +kernel
theorem dX5_counted_79 : decode cX5_counted 79 = .ok (.invokevirtual 130, 3) := by decide +kernel
theorem dX5_counted_82 : decode cX5_counted 82 = .ok (.iastore, 1) := by decide +kernel
theorem dX5_counted_83 : decode cX5_counted 83 = .ok (.dup, 1) := by decide +kernel
theorem dX5_counted_84 : decode cX5_counted 84 = .ok (.iconst 4, 1) := by decide +kernel
theorem dX5_counted_85 : decode cX5_counted 85 = .ok (.aload_n 0, 1) := by decide +kernel
theorem dX5_counted_86 : decode cX5_counted 86 = .ok (.invokevirtual 134, 3) := by decide +kernel
theorem dX5_counted_89 : decode cX5_counted 89 = .ok (.iastore, 1) := by decide +kernel
theorem dX5_counted_90 : decode cX5_counted 90 = .ok (.dup, 1) := by decide +kernel
theorem dX5_counted_91 : decode cX5_counted 91 = .ok (.iconst 5, 1) := by decide +kernel
theorem dX5_counted_92 : decode cX5_counted 92 = .ok (.aload_n 0, 1) := by decide +kernel
theorem dX5_counted_93 : decode cX5_counted 93 = .ok (.aload_n 0, 1) := by decide +kernel
theorem dX5_counted_94 : decode cX5_counted 94 = .ok (.getfield 29, 3) := by decide +kernel
theorem dX5_counted_97 : decode cX5_counted 97 = .ok (.aload_n 0, 1) := by decide +kernel
theorem dX5_counted_98 : decode cX5_counted 98 = .ok (.getfield 3, 3) := by decide +kernel
theorem dX5_counted_101 : decode cX5_counted 101 = .ok (.getfield 89, 3) := by decide +kernel
theorem dX5_counted_104 : decode cX5_counted 104 = .ok (.invokevirtual 130, 3) := by decide +kernel
theorem dX5_counted_107 : decode cX5_counted 107 = .ok (.iastore, 1) := by decide +kernel
theorem dX5_counted_108 : decode cX5_counted 108 = .ok (.dup, 1) := by decide +kernel
theorem dX5_counted_109 : decode cX5_counted 109 = .ok (.bipush 6, 2) := by decide +kernel
theorem dX5_counted_111 : decode cX5_counted 111 = .ok (.aload_n 0, 1) := by decide +kernel
theorem dX5_counted_112 : decode cX5_counted 112 = .ok (.aload_n 0, 1) := by decide +kernel
theorem dX5_counted_113 : decode cX5_counted 113 = .ok (.getfield 3, 3) := by decide +kernel
theorem dX5_counted_116 : decode cX5_counted 116 = .ok (.getfield 92, 3) := by decide +kernel
theorem dX5_counted_119 : decode cX5_counted 119 = .ok (.aload_n 0, 1) := by decide +kernel
theorem dX5_counted_120 : decode cX5_counted 120 = .ok (.getfield 3, 3) := by decide +kernel
theorem dX5_counted_123 : decode cX5_counted 123 = .ok (.getfield 89, 3) := by decide +kernel
theorem dX5_counted_126 : decode cX5_counted 126 = .ok (.invokevirtual 130, 3) := by decide +kernel
theorem dX5_counted_129 : decode cX5_counted 129 = .ok (.iastore, 1) := by decide +kernel
theorem dX5_counted_130 : decode cX5_counted 130 = .ok (.dup, 1) := by decide +kernel
theorem dX5_counted_131 : decode cX5_counted 131 = .ok (.bipush 7, 2) := by decide +kernel
theorem dX5_counted_133 : decode cX5_counted 133 = .ok (.aload_n 0, 1) := by decide +kernel
theorem dX5_counted_134 : decode cX5_counted 134 = .ok (.aload_n 0, 1) := by decide +kernel
theorem dX5_counted_135 : decode cX5_counted 135 = .ok (.getfield 3, 3) := by decide +kernel
theorem dX5_counted_138 : decode cX5_counted 138 = .ok (.getfield 101, 3) := by decide +kernel
theorem dX5_counted_141 : decode cX5_counted 141 = .ok (.aload_n 0, 1) := by decide +kernel
theorem dX5_counted_142 : decode cX5_counted 142 = .ok (.getfield 3, 3) := by decide +kernel
theorem dX5_counted_145 : decode cX5_counted 145 = .ok (.getfield 89, 3) := by decide +kernel
theorem dX5_counted_148 : decode cX5_counted 148 = .ok (.invokevirtual 130, 3) := by decide +kernel
theorem dX5_counted_151 : decode cX5_counted 151 = .ok (.iastore, 1) := by decide +kernel
theorem dX5_counted_152 : decode cX5_counted 152 = .ok (.dup, 1) := by decide +kernel
theorem dX5_counted_153 : decode cX5_counted 153 = .ok (.bipush 8, 2) := by decide +kernel
theorem dX5_counted_155 : decode cX5_counted 155 = .ok (.iload_n 2, 1) := by decide +kernel
theorem dX5_counted_156 : decode cX5_counted 156 = .ok (.iastore, 1) := by decide +kernel
theorem dX5_counted_157 : decode cX5_counted 157 = .ok (.dup, 1) := by decide +kernel
theorem dX5_counted_158 : decode cX5_counted 158 = .ok (.bipush 9, 2) := by decide +kernel
theorem dX5_counted_160 : decode cX5_counted 160 = .ok (.aload_n 0, 1) := by decide +kernel
theorem dX5_counted_161 : decode cX5_counted 161 = .ok (.aload_n 0, 1) := by decide +kernel
theorem dX5_counted_162 : decode cX5_counted 162 = .ok (.getfield 38, 3) := by decide +kernel
theorem dX5_counted_165 : decode cX5_counted 165 = .ok (.aload_n 0, 1) := by decide +kernel
theorem dX5_counted_166 : decode cX5_counted 166 = .ok (.getfield 3, 3) := by decide +kernel
theorem dX5_counted_169 : decode cX5_counted 169 = .ok (.getfield 114, 3) := by decide +kernel
theorem dX5_counted_172 : decode cX5_counted 172 = .ok (.invokevirtual 130, 3) := by decide +kernel
theorem dX5_counted_175 : decode cX5_counted 175 = .ok (.iastore, 1) := by decide +kernel
theorem dX5_counted_176 : decode cX5_counted 176 = .ok (.astore_n 3, 1) := by decide +kernel
theorem dX5_counted_177 : decode cX5_counted 177 = .ok (.aload_n 3, 1) := by decide +kernel
theorem dX5_counted_178 : decode cX5_counted 178 = .ok (.iload_n 1, 1) := by decide +kernel
theorem dX5_counted_179 : decode cX5_counted 179 = .ok (.iaload, 1) := by decide +kernel
theorem dX5_counted_180 : decode cX5_counted 180 = .ok (.ireturn, 1) := by decide +kernel
theorem dJ9_floorMod_7cf53_0 : decode cJ9_floorMod_7cf53 0 = .ok (.iload_n 0, 1) := by decide +kernel
theorem dJ9_floorMod_7cf53_1 : decode cJ9_floorMod_7cf53 1 = .ok (.iload_n 1, 1) := by decide +kernel
theorem dJ9_floorMod_7cf53_2 : decode cJ9_floorMod_7cf53 2 = .ok (.irem, 1) := by decide +kernel
theorem dJ9_floorMod_7cf53_3 : decode cJ9_floorMod_7cf53 3 = .ok (.istore_n 2, 1) := by decide +kernel
theorem dJ9_floorMod_7cf53_4 : decode cJ9_floorMod_7cf53 4 = .ok (.iload_n 0, 1) := by decide +kernel
theorem dJ9_floorMod_7cf53_5 : decode cJ9_floorMod_7cf53 5 = .ok (.iload_n 1, 1) := by decide +kernel
theorem dJ9_floorMod_7cf53_6 : decode cJ9_floorMod_7cf53 6 = .ok (.ixor, 1) := by decide +kernel
theorem dJ9_floorMod_7cf53_7 : decode cJ9_floorMod_7cf53 7 = .ok (.ifCond .ge 11, 3) := by decide +kernel
theorem dJ9_floorMod_7cf53_10 : decode cJ9_floorMod_7cf53 10 = .ok (.iload_n 2, 1) := by decide +kernel
theorem dJ9_floorMod_7cf53_11 : decode cJ9_floorMod_7cf53 11 = .ok (.ifCond .eq 7, 3) := by decide +kernel
theorem dJ9_floorMod_7cf53_14 : decode cJ9_floorMod_7cf53 14 = .ok (.iload_n 2, 1) := by decide +kernel
theorem dJ9_floorMod_7cf53_15 : decode cJ9_floorMod_7cf53 15 = .ok (.iload_n 1, 1) := by decide +kernel
theorem dJ9_floorMod_7cf53_16 : decode cJ9_floorMod_7cf53 16 = .ok (.iadd, 1) := by decide +kernel
theorem dJ9_floorMod_7cf53_17 : decode cJ9_floorMod_7cf53 17 = .ok (.ireturn, 1) := by decide +kernel
theorem dJ9_floorMod_7cf53_18 : decode cJ9_floorMod_7cf53 18 = .ok (.iload_n 2, 1) := by decide +kernel
theorem dJ9_floorMod_7cf53_19 : decode cJ9_floorMod_7cf53 19 = .ok (.ireturn, 1) := by decide +kernel
theorem dJ9_abs_0f7a4_0 : decode cJ9_abs_0f7a4 0 = .ok (.iload_n 0, 1) := by decide +kernel
theorem dJ9_abs_0f7a4_1 : decode cJ9_abs_0f7a4 1 = .ok (.ifCond .ge 8, 3) := by decide +kernel
theorem dJ9_abs_0f7a4_4 : decode cJ9_abs_0f7a4 4 = .ok (.iload_n 0, 1) := by decide +kernel
theorem dJ9_abs_0f7a4_5 : decode cJ9_abs_0f7a4 5 = .ok (.ineg, 1) := by decide +kernel
theorem dJ9_abs_0f7a4_6 : decode cJ9_abs_0f7a4 6 = .ok (.goto 4, 3) := by decide +kernel
theorem dJ9_abs_0f7a4_9 : decode cJ9_abs_0f7a4 9 = .ok (.iload_n 0, 1) := by decide +kernel
theorem dJ9_abs_0f7a4_10 : decode cJ9_abs_0f7a4 10 = .ok (.ireturn, 1) := by decide +kernel
theorem dJ9_max_7cf53_0 : decode cJ9_max_7cf53 0 = .ok (.iload_n 0, 1) := by decide +kernel
theorem dJ9_max_7cf53_1 : decode cJ9_max_7cf53 1 = .ok (.iload_n 1, 1) := by decide +kernel
theorem dJ9_max_7cf53_2 : decode cJ9_max_7cf53 2 = .ok (.if_icmp .lt 7, 3) := by decide +kernel
theorem dJ9_max_7cf53_5 : decode cJ9_max_7cf53 5 = .ok (.iload_n 0, 1) := by decide +kernel
theorem dJ9_max_7cf53_6 : decode cJ9_max_7cf53 6 = .ok (.goto 4, 3) := by decide +kernel
theorem dJ9_max_7cf53_9 : decode cJ9_max_7cf53 9 = .ok (.iload_n 1, 1) := by decide +kernel
theorem dJ9_max_7cf53_10 : decode cJ9_max_7cf53 10 = .ok (.ireturn, 1) := by decide +kernel
theorem dJ9_min_7cf53_0 : decode cJ9_min_7cf53 0 = .ok (.iload_n 0, 1) := by decide +kernel
theorem dJ9_min_7cf53_1 : decode cJ9_min_7cf53 1 = .ok (.iload_n 1, 1) := by decide +kernel
theorem dJ9_min_7cf53_2 : decode cJ9_min_7cf53 2 = .ok (.if_icmp .gt 7, 3) := by decide +kernel
theorem dJ9_min_7cf53_5 : decode cJ9_min_7cf53 5 = .ok (.iload_n 0, 1) := by decide +kernel
theorem dJ9_min_7cf53_6 : decode cJ9_min_7cf53 6 = .ok (.goto 4, 3) := by decide +kernel
theorem dJ9_min_7cf53_9 : decode cJ9_min_7cf53 9 = .ok (.iload_n 1, 1) := by decide +kernel
theorem dJ9_min_7cf53_10 : decode cJ9_min_7cf53 10 = .ok (.ireturn, 1) := by decide +kernel
