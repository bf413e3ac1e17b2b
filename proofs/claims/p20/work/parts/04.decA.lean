theorem dX0_init_0 : decode cX0_init 0 = .ok (.aload_n 0, 1) := by decide +kernel
theorem dX0_init_1 : decode cX0_init 1 = .ok (.invokespecial 3, 3) := by decide +kernel
theorem dX0_init_4 : decode cX0_init 4 = .ok (.aload_n 0, 1) := by decide +kernel
theorem dX0_init_5 : decode cX0_init 5 = .ok (.bipush 6, 2) := by decide +kernel
theorem dX0_init_7 : decode cX0_init 7 = .ok (.newarray .int, 2) := by decide +kernel
theorem dX0_init_9 : decode cX0_init 9 = .ok (.putfield 9, 3) := by decide +kernel
theorem dX0_init_12 : decode cX0_init 12 = .ok (.aload_n 0, 1) := by decide +kernel
theorem dX0_init_13 : decode cX0_init 13 = .ok (.bipush 6, 2) := by decide +kernel
theorem dX0_init_15 : decode cX0_init 15 = .ok (.newarray .int, 2) := by decide +kernel
theorem dX0_init_17 : decode cX0_init 17 = .ok (.putfield 15, 3) := by decide +kernel
theorem dX0_init_20 : decode cX0_init 20 = .ok (.aload_n 0, 1) := by decide +kernel
theorem dX0_init_21 : decode cX0_init 21 = .ok (.bipush 6, 2) := by decide +kernel
theorem dX0_init_23 : decode cX0_init 23 = .ok (.newarray .int, 2) := by decide +kernel
theorem dX0_init_25 : decode cX0_init 25 = .ok (.putfield 18, 3) := by decide +kernel
theorem dX0_init_28 : decode cX0_init 28 = .ok (.aload_n 0, 1) := by decide +kernel
theorem dX0_init_29 : decode cX0_init 29 = .ok (.bipush 6, 2) := by decide +kernel
theorem dX0_init_31 : decode cX0_init 31 = .ok (.newarray .int, 2) := by decide +kernel
theorem dX0_init_33 : decode cX0_init 33 = .ok (.putfield 21, 3) := by decide +kernel
theorem dX0_init_36 : decode cX0_init 36 = .ok (.aload_n 0, 1) := by decide +kernel
theorem dX0_init_37 : decode cX0_init 37 = .ok (.iconst 0, 1) := by decide +kernel
theorem dX0_init_38 : decode cX0_init 38 = .ok (.putfield 24, 3) := by decide +kernel
theorem dX0_init_41 : decode cX0_init 41 = .ok (.return_, 1) := by decide +kernel
theorem dX0_add_0 : decode cX0_add 0 = .ok (.aload_n 0, 1) := by decide +kernel
theorem dX0_add_1 : decode cX0_add 1 = .ok (.getfield 24, 3) := by decide +kernel
theorem dX0_add_4 : decode cX0_add 4 = .ok (.istore 4, 2) := by decide +kernel
theorem dX0_add_6 : decode cX0_add 6 = .ok (.aload_n 0, 1) := by decide +kernel
theorem dX0_add_7 : decode cX0_add 7 = .ok (.getfield 9, 3) := by decide +kernel
theorem dX0_add_10 : decode cX0_add 10 = .ok (.iload 4, 2) := by decide +kernel
theorem dX0_add_12 : decode cX0_add 12 = .ok (.iload_n 1, 1) := by decide +kernel
theorem dX0_add_13 : decode cX0_add 13 = .ok (.iastore, 1) := by decide +kernel
theorem dX0_add_14 : decode cX0_add 14 = .ok (.aload_n 0, 1) := by decide +kernel
theorem dX0_add_15 : decode cX0_add 15 = .ok (.getfield 15, 3) := by decide +kernel
theorem dX0_add_18 : decode cX0_add 18 = .ok (.iload 4, 2) := by decide +kernel
theorem dX0_add_20 : decode cX0_add 20 = .ok (.iload_n 2, 1) := by decide +kernel
theorem dX0_add_21 : decode cX0_add 21 = .ok (.iastore, 1) := by decide +kernel
theorem dX0_add_22 : decode cX0_add 22 = .ok (.aload_n 0, 1) := by decide +kernel
theorem dX0_add_23 : decode cX0_add 23 = .ok (.getfield 18, 3) := by decide +kernel
theorem dX0_add_26 : decode cX0_add 26 = .ok (.iload 4, 2) := by decide +kernel
theorem dX0_add_28 : decode cX0_add 28 = .ok (.iload_n 3, 1) := by decide +kernel
theorem dX0_add_29 : decode cX0_add 29 = .ok (.iastore, 1) := by decide +kernel
theorem dX0_add_30 : decode cX0_add 30 = .ok (.aload_n 0, 1) := by decide +kernel
theorem dX0_add_31 : decode cX0_add 31 = .ok (.dup, 1) := by decide +kernel
theorem dX0_add_32 : decode cX0_add 32 = .ok (.getfield 24, 3) := by decide +kernel
theorem dX0_add_35 : decode cX0_add 35 = .ok (.iconst 1, 1) := by decide +kernel
theorem dX0_add_36 : decode cX0_add 36 = .ok (.iadd, 1) := by decide +kernel
theorem dX0_add_37 : decode cX0_add 37 = .ok (.putfield 24, 3) := by decide +kernel
theorem dX0_add_40 : decode cX0_add 40 = .ok (.iload 4, 2) := by decide +kernel
theorem dX0_add_42 : decode cX0_add 42 = .ok (.ireturn, 1) := by decide +kernel
theorem dX0_addPowder_0 : decode cX0_addPowder 0 = .ok (.aload_n 0, 1) := by decide +kernel
theorem dX0_addPowder_1 : decode cX0_addPowder 1 = .ok (.getfield 18, 3) := by decide +kernel
theorem dX0_addPowder_4 : decode cX0_addPowder 4 = .ok (.iload_n 1, 1) := by decide +kernel
theorem dX0_addPowder_5 : decode cX0_addPowder 5 = .ok (.aload_n 0, 1) := by decide +kernel
theorem dX0_addPowder_6 : decode cX0_addPowder 6 = .ok (.getfield 18, 3) := by decide +kernel
theorem dX0_addPowder_9 : decode cX0_addPowder 9 = .ok (.iload_n 1, 1) := by decide +kernel
theorem dX0_addPowder_10 : decode cX0_addPowder 10 = .ok (.iaload, 1) := by decide +kernel
theorem dX0_addPowder_11 : decode cX0_addPowder 11 = .ok (.iload_n 2, 1) := by decide +kernel
theorem dX0_addPowder_12 : decode cX0_addPowder 12 = .ok (.iadd, 1) := by decide +kernel
theorem dX0_addPowder_13 : decode cX0_addPowder 13 = .ok (.bipush 60, 2) := by decide +kernel
theorem dX0_addPowder_15 : decode cX0_addPowder 15 = .ok (.invokestatic 28, 3) := by decide +kernel
theorem dX0_addPowder_18 : decode cX0_addPowder 18 = .ok (.iastore, 1) := by decide +kernel
theorem dX0_addPowder_19 : decode cX0_addPowder 19 = .ok (.aload_n 0, 1) := by decide +kernel
theorem dX0_addPowder_20 : decode cX0_addPowder 20 = .ok (.getfield 18, 3) := by decide +kernel
theorem dX0_addPowder_23 : decode cX0_addPowder 23 = .ok (.iload_n 1, 1) := by decide +kernel
theorem dX0_addPowder_24 : decode cX0_addPowder 24 = .ok (.iaload, 1) := by decide +kernel
theorem dX0_addPowder_25 : decode cX0_addPowder 25 = .ok (.ireturn, 1) := by decide +kernel
theorem dX0_fact_0 : decode cX0_fact 0 = .ok (.iload_n 2, 1) := by decide +kernel
theorem dX0_fact_1 : decode cX0_fact 1 = .ok (.tableswitch 59 0 3 #[31, 38, 45, 52], 31) := by decide +kernel
theorem dX0_fact_32 : decode cX0_fact 32 = .ok (.aload_n 0, 1) := by decide +kernel
theorem dX0_fact_33 : decode cX0_fact 33 = .ok (.getfield 9, 3) := by decide +kernel
theorem dX0_fact_36 : decode cX0_fact 36 = .ok (.iload_n 1, 1) := by decide +kernel
theorem dX0_fact_37 : decode cX0_fact 37 = .ok (.iaload, 1) := by decide +kernel
theorem dX0_fact_38 : decode cX0_fact 38 = .ok (.ireturn, 1) := by decide +kernel
theorem dX0_fact_39 : decode cX0_fact 39 = .ok (.aload_n 0, 1) := by decide +kernel
theorem dX0_fact_40 : decode cX0_fact 40 = .ok (.getfield 15, 3) := by decide +kernel
theorem dX0_fact_43 : decode cX0_fact 43 = .ok (.iload_n 1, 1) := by decide +kernel
theorem dX0_fact_44 : decode cX0_fact 44 = .ok (.iaload, 1) := by decide +kernel
theorem dX0_fact_45 : decode cX0_fact 45 = .ok (.ireturn, 1) := by decide +kernel
theorem dX0_fact_46 : decode cX0_fact 46 = .ok (.aload_n 0, 1) := by decide +kernel
theorem dX0_fact_47 : decode cX0_fact 47 = .ok (.getfield 18, 3) := by decide +kernel
theorem dX0_fact_50 : decode cX0_fact 50 = .ok (.iload_n 1, 1) := by decide +kernel
theorem dX0_fact_51 : decode cX0_fact 51 = .ok (.iaload, 1) := by decide +kernel
theorem dX0_fact_52 : decode cX0_fact 52 = .ok (.ireturn, 1) := by decide +kernel
theorem dX0_fact_53 : decode cX0_fact 53 = .ok (.aload_n 0, 1) := by decide +kernel
theorem dX0_fact_54 : decode cX0_fact 54 = .ok (.getfield 21, 3) := by decide +kernel
theorem dX0_fact_57 : decode cX0_fact 57 = .ok (.iload_n 1, 1) := by decide +kernel
theorem dX0_fact_58 : decode cX0_fact 58 = .ok (.iaload, 1) := by decide +kernel
theorem dX0_fact_59 : decode cX0_fact 59 = .ok (.ireturn, 1) := by decide +kernel
theorem dX0_fact_60 : decode cX0_fact 60 = .ok (.aload_n 0, 1) := by decide +kernel
theorem dX0_fact_61 : decode cX0_fact 61 = .ok (.iload_n 1, 1) := by decide +kernel
theorem dX0_fact_62 : decode cX0_fact 62 = .ok (.aload_n 3, 1) := by decide +kernel
theorem dX0_fact_63 : decode cX0_fact 63 = .ok (.invokevirtual 34, 3) := by decide +kernel
theorem dX0_fact_66 : decode cX0_fact 66 = .ok (.ireturn, 1) := by decide +kernel
theorem dX0_target_0 : decode cX0_target 0 = .ok (.aload_n 0, 1) := by decide +kernel
theorem dX0_target_1 : decode cX0_target 1 = .ok (.getfield 18, 3) := by decide +kernel
theorem dX0_target_4 : decode cX0_target 4 = .ok (.iload_n 1, 1) := by decide +kernel
theorem dX0_target_5 : decode cX0_target 5 = .ok (.iaload, 1) := by decide +kernel
theorem dX0_target_6 : decode cX0_target 6 = .ok (.ifCond .le 22, 3) := by decide +kernel
theorem dX0_target_9 : decode cX0_target 9 = .ok (.aload_n 2, 1) := by decide +kernel
theorem dX0_target_10 : decode cX0_target 10 = .ok (.aload_n 0, 1) := by decide +kernel
theorem dX0_target_11 : decode cX0_target 11 = .ok (.getfield 9, 3) := by decide +kernel
theorem dX0_target_14 : decode cX0_target 14 = .ok (.iload_n 1, 1) := by decide +kernel
theorem dX0_target_15 : decode cX0_target 15 = .ok (.iaload, 1) := by decide +kernel
theorem dX0_target_16 : decode cX0_target 16 = .ok (.aload_n 0, 1) := by decide +kernel
theorem dX0_target_17 : decode cX0_target 17 = .ok (.getfield 15, 3) := by decide +kernel
theorem dX0_target_20 : decode cX0_target 20 = .ok (.iload_n 1, 1) := by decide +kernel
theorem dX0_target_21 : decode cX0_target 21 = .ok (.iaload, 1) := by decide +kernel
theorem dX0_target_22 : decode cX0_target 22 = .ok (.invokevirtual 38, 3) := by decide +kernel
theorem dX0_target_25 : decode cX0_target 25 = .ok (.goto 4, 3) := by decide +kernel
theorem dX0_target_28 : decode cX0_target 28 = .ok (.iconst (-1), 1) := by decide +kernel
theorem dX0_target_29 : decode cX0_target 29 = .ok (.ireturn, 1) := by decide +kernel
theorem dX0_shoot_0 : decode cX0_shoot 0 = .ok (.iconst 0, 1) := by decide +kernel
theorem dX0_shoot_1 : decode cX0_shoot 1 = .ok (.istore_n 3, 1) := by decide +kernel
theorem dX0_shoot_2 : decode cX0_shoot 2 = .ok (.iload_n 3, 1) := by decide +kernel
theorem dX0_shoot_3 : decode cX0_shoot 3 = .ok (.aload_n 0, 1) := by decide +kernel
theorem dX0_shoot_4 : decode cX0_shoot 4 = .ok (.getfield 24, 3) := by decide +kernel
theorem dX0_shoot_7 : decode cX0_shoot 7 = .ok (.if_icmp .ge 70, 3) := by decide +kernel
theorem dX0_shoot_10 : decode cX0_shoot 10 = .ok (.aload_n 0, 1) := by decide +kernel
theorem dX0_shoot_11 : decode cX0_shoot 11 = .ok (.iload_n 3, 1) := by decide +kernel
theorem dX0_shoot_12 : decode cX0_shoot 12 = .ok (.aload_n 1, 1) := by decide +kernel
theorem dX0_shoot_13 : decode cX0_shoot 13 = .ok (.invokevirtual 34, 3) := by decide +kernel
theorem dX0_shoot_16 : decode cX0_shoot 16 = .ok (.istore 4, 2) := by decide +kernel
theorem dX0_shoot_18 : decode cX0_shoot 18 = .ok (.iload 4, 2) := by decide +kernel
theorem dX0_shoot_20 : decode cX0_shoot 20 = .ok (.ifCond .lt 51, 3) := by decide +kernel
theorem dX0_shoot_23 : decode cX0_shoot 23 = .ok (.aload_n 0, 1) := by decide +kernel
theorem dX0_shoot_24 : decode cX0_shoot 24 = .ok (.getfield 18, 3) := by decide +kernel
theorem dX0_shoot_27 : decode cX0_shoot 27 = .ok (.iload_n 3, 1) := by decide +kernel
theorem dX0_shoot_28 : decode cX0_shoot 28 = .ok (.dup2, 1) := by decide +kernel
theorem dX0_shoot_29 : decode cX0_shoot 29 = .ok (.iaload, 1) := by decide +kernel
theorem dX0_shoot_30 : decode cX0_shoot 30 = .ok (.iconst 1, 1) := by decide +kernel
theorem dX0_shoot_31 : decode cX0_shoot 31 = .ok (.isub, 1) := by decide +kernel
theorem dX0_shoot_32 : decode cX0_shoot 32 = .ok (.iastore, 1) := by decide +kernel
theorem dX0_shoot_33 : decode cX0_shoot 33 = .ok (.aload_n 0, 1) := by decide +kernel
theorem dX0_shoot_34 : decode cX0_shoot 34 = .ok (.getfield 21, 3) := by decide +kernel
theorem dX0_shoot_37 : decode cX0_shoot 37 = .ok (.iload_n 3, 1) := by decide +kernel
theorem dX0_shoot_38 : decode cX0_shoot 38 = .ok (.dup2, 1) := by decide +kernel
theorem dX0_shoot_39 : decode cX0_shoot 39 = .ok (.iaload, 1) := by decide +kernel
theorem dX0_shoot_40 : decode cX0_shoot 40 = .ok (.iconst 1, 1) := by decide +kernel
theorem dX0_shoot_41 : decode cX0_shoot 41 = .ok (.iadd, 1) := by decide +kernel
theorem dX0_shoot_42 : decode cX0_shoot 42 = .ok (.iastore, 1) := by decide +kernel
theorem dX0_shoot_43 : decode cX0_shoot 43 = .ok (.aload_n 1, 1) := by decide +kernel
theorem dX0_shoot_44 : decode cX0_shoot 44 = .ok (.iload 4, 2) := by decide +kernel
theorem dX0_shoot_46 : decode cX0_shoot 46 = .ok (.aload_n 0, 1) := by decide +kernel
theorem dX0_shoot_47 : decode cX0_shoot 47 = .ok (.getfield 9, 3) := by decide +kernel
theorem dX0_shoot_50 : decode cX0_shoot 50 = .ok (.iload_n 3, 1) := by decide +kernel
theorem dX0_shoot_51 : decode cX0_shoot 51 = .ok (.iaload, 1) := by decide +kernel
theorem dX0_shoot_52 : decode cX0_shoot 52 = .ok (.aload_n 0, 1) := by decide +kernel
theorem dX0_shoot_53 : decode cX0_shoot 53 = .ok (.getfield 15, 3) := by decide +kernel
theorem dX0_shoot_56 : decode cX0_shoot 56 = .ok (.iload_n 3, 1) := by decide +kernel
theorem dX0_shoot_57 : decode cX0_shoot 57 = .ok (.iaload, 1) := by decide +kernel
theorem dX0_shoot_58 : decode cX0_shoot 58 = .ok (.invokevirtual 43, 3) := by decide +kernel
theorem dX0_shoot_61 : decode cX0_shoot 61 = .ok (.aload_n 2, 1) := by decide +kernel
theorem dX0_shoot_62 : decode cX0_shoot 62 = .ok (.aload_n 0, 1) := by decide +kernel
theorem dX0_shoot_63 : decode cX0_shoot 63 = .ok (.getfield 9, 3) := by decide +kernel
theorem dX0_shoot_66 : decode cX0_shoot 66 = .ok (.iload_n 3, 1) := by decide +kernel
theorem dX0_shoot_67 : decode cX0_shoot 67 = .ok (.iaload, 1) := by decide +kernel
theorem dX0_shoot_68 : decode cX0_shoot 68 = .ok (.invokevirtual 47, 3) := by decide +kernel
theorem dX0_shoot_71 : decode cX0_shoot 71 = .ok (.iinc 3 1, 3) := by decide +kernel
theorem dX0_shoot_74 : decode cX0_shoot 74 = .ok (.goto (-72), 3) := by decide +kernel
theorem dX0_shoot_77 : decode cX0_shoot 77 = .ok (.return_, 1) := by decide +kernel
theorem dX0_sumOfShots_0 : decode cX0_sumOfShots 0 = .ok (.iconst 0, 1) := by decide +kernel
theorem dX0_sumOfShots_1 : decode cX0_sumOfShots 1 = .ok (.istore_n 1, 1) := by decide +kernel
theorem dX0_sumOfShots_2 : decode cX0_sumOfShots 2 = .ok (.iconst 0, 1) := by decide +kernel
theorem dX0_sumOfShots_3 : decode cX0_sumOfShots 3 = .ok (.istore_n 2, 1) := by decide +kernel
theorem dX0_sumOfShots_4 : decode cX0_sumOfShots 4 = .ok (.iload_n 2, 1) := by decide +kernel
theorem dX0_sumOfShots_5 : decode cX0_sumOfShots 5 = .ok (.aload_n 0, 1) := by decide +kernel
theorem dX0_sumOfShots_6 : decode cX0_sumOfShots 6 = .ok (.getfield 24, 3) := by decide +kernel
theorem dX0_sumOfShots_9 : decode cX0_sumOfShots 9 = .ok (.if_icmp .ge 18, 3) := by decide +kernel
theorem dX0_sumOfShots_12 : decode cX0_sumOfShots 12 = .ok (.iload_n 1, 1) := by decide +kernel
theorem dX0_sumOfShots_13 : decode cX0_sumOfShots 13 = .ok (.aload_n 0, 1) := by decide +kernel
theorem dX0_sumOfShots_14 : decode cX0_sumOfShots 14 = .ok (.getfield 21, 3) := by decide +kernel
theorem dX0_sumOfShots_17 : decode cX0_sumOfShots 17 = .ok (.iload_n 2, 1) := by decide +kernel
theorem dX0_sumOfShots_18 : decode cX0_sumOfShots 18 = .ok (.iaload, 1) := by decide +kernel
theorem dX0_sumOfShots_19 : decode cX0_sumOfShots 19 = .ok (.iadd, 1) := by decide +kernel
theorem dX0_sumOfShots_20 : decode cX0_sumOfShots 20 = .ok (.istore_n 1, 1) := by decide +kernel
theorem dX0_sumOfShots_21 : decode cX0_sumOfShots 21 = .ok (.iinc 2 1, 3) := by decide +kernel
theorem dX0_sumOfShots_24 : decode cX0_sumOfShots 24 = .ok (.goto (-20), 3) := by decide +kernel
theorem dX0_sumOfShots_27 : decode cX0_sumOfShots 27 = .ok (.iload_n 1, 1) := by decide +kernel
theorem dX0_sumOfShots_28 : decode cX0_sumOfShots 28 = .ok (.ireturn, 1) := by decide +kernel
theorem dX0_copyFrom_0 : decode cX0_copyFrom 0 = .ok (.aload_n 1, 1) := by decide +kernel
theorem dX0_copyFrom_1 : decode cX0_copyFrom 1 = .ok (.getfield 9, 3) := by decide +kernel
theorem dX0_copyFrom_4 : decode cX0_copyFrom 4 = .ok (.iconst 0, 1) := by decide +kernel
theorem dX0_copyFrom_5 : decode cX0_copyFrom 5 = .ok (.aload_n 0, 1) := by decide +kernel
theorem dX0_copyFrom_6 : decode cX0_copyFrom 6 = .ok (.getfield 9, 3) := by decide +kernel
theorem dX0_copyFrom_9 : decode cX0_copyFrom 9 = .ok (.iconst 0, 1) := by decide +kernel
theorem dX0_copyFrom_10 : decode cX0_copyFrom 10 = .ok (.bipush 6, 2) := by decide +kernel
theorem dX0_copyFrom_12 : decode cX0_copyFrom 12 = .ok (.invokestatic 53, 3) := by decide +kernel
theorem dX0_copyFrom_15 : decode cX0_copyFrom 15 = .ok (.aload_n 1, 1) := by decide +kernel
theorem dX0_copyFrom_16 : decode cX0_copyFrom 16 = .ok (.getfield 15, 3) := by decide +kernel
theorem dX0_copyFrom_19 : decode cX0_copyFrom 19 = .ok (.iconst 0, 1) := by decide +kernel
theorem dX0_copyFrom_20 : decode cX0_copyFrom 20 = .ok (.aload_n 0, 1) := by decide +kernel
theorem dX0_copyFrom_21 : decode cX0_copyFrom 21 = .ok (.getfield 15, 3) := by decide +kernel
theorem dX0_copyFrom_24 : decode cX0_copyFrom 24 = .ok (.iconst 0, 1) := by decide +kernel
theorem dX0_copyFrom_25 : decode cX0_copyFrom 25 = .ok (.bipush 6, 2) := by decide +kernel
theorem dX0_copyFrom_27 : decode cX0_copyFrom 27 = .ok (.invokestatic 53, 3) := by decide +kernel
theorem dX0_copyFrom_30 : decode cX0_copyFrom 30 = .ok (.aload_n 1, 1) := by decide +kernel
theorem dX0_copyFrom_31 : decode cX0_copyFrom 31 = .ok (.getfield 18, 3) := by decide +kernel
theorem dX0_copyFrom_34 : decode cX0_copyFrom 34 = .ok (.iconst 0, 1) := by decide +kernel
theorem dX0_copyFrom_35 : decode cX0_copyFrom 35 = .ok (.aload_n 0, 1) := by decide +kernel
theorem dX0_copyFrom_36 : decode cX0_copyFrom 36 = .ok (.getfield 18, 3) := by decide +kernel
theorem dX0_copyFrom_39 : decode cX0_copyFrom 39 = .ok (.iconst 0, 1) := by decide +kernel
theorem dX0_copyFrom_40 : decode cX0_copyFrom 40 = .ok (.bipush 6, 2) := by decide +kernel
theorem dX0_copyFrom_42 : decode cX0_copyFrom 42 = .ok (.invokestatic 53, 3) := by decide +kernel
theorem dX0_copyFrom_45 : decode cX0_copyFrom 45 = .ok (.aload_n 1, 1) := by decide +kernel
theorem dX0_copyFrom_46 : decode cX0_copyFrom 46 = .ok (.getfield 21, 3) := by decide +kernel
theorem dX0_copyFrom_49 : decode cX0_copyFrom 49 = .ok (.iconst 0, 1) := by decide +kernel
theorem dX0_copyFrom_50 : decode cX0_copyFrom 50 = .ok (.aload_n 0, 1) := by decide +kernel
theorem dX0_copyFrom_51 : decode cX0_copyFrom 51 = .ok (.getfield 21, 3) := by decide +kernel
theorem dX0_copyFrom_54 : decode cX0_copyFrom 54 = .ok (.iconst 0, 1) := by decide +kernel
theorem dX0_copyFrom_55 : decode cX0_copyFrom 55 = .ok (.bipush 6, 2) := by decide +kernel
theorem dX0_copyFrom_57 : decode cX0_copyFrom 57 = .ok (.invokestatic 53, 3) := by decide +kernel
theorem dX0_copyFrom_60 : decode cX0_copyFrom 60 = .ok (.aload_n 0, 1) := by decide +kernel
theorem dX0_copyFrom_61 : decode cX0_copyFrom 61 = .ok (.aload_n 1, 1) := by decide +kernel
theorem dX0_copyFrom_62 : decode cX0_copyFrom 62 = .ok (.getfield 24, 3) := by decide +kernel
theorem dX0_copyFrom_65 : decode cX0_copyFrom 65 = .ok (.putfield 24, 3) := by decide +kernel
theorem dX0_copyFrom_68 : decode cX0_copyFrom 68 = .ok (.return_, 1) := by decide +kernel
theorem dX1_init_0 : decode cX1_init 0 = .ok (.aload_n 0, 1) := by decide +kernel
theorem dX1_init_1 : decode cX1_init 1 = .ok (.invokespecial 3, 3) := by decide +kernel
theorem dX1_init_4 : decode cX1_init 4 = .ok (.aload_n 0, 1) := by decide +kernel
theorem dX1_init_5 : decode cX1_init 5 = .ok (.bipush 20, 2) := by decide +kernel
theorem dX1_init_7 : decode cX1_init 7 = .ok (.newarray .int, 2) := by decide +kernel
theorem dX1_init_9 : decode cX1_init 9 = .ok (.putfield 9, 3) := by decide +kernel
theorem dX1_init_12 : decode cX1_init 12 = .ok (.aload_n 0, 1) := by decide +kernel
theorem dX1_init_13 : decode cX1_init 13 = .ok (.bipush 20, 2) := by decide +kernel
theorem dX1_init_15 : decode cX1_init 15 = .ok (.newarray .int, 2) := by decide +kernel
theorem dX1_init_17 : decode cX1_init 17 = .ok (.putfield 15, 3) := by decide +kernel
theorem dX1_init_20 : decode cX1_init 20 = .ok (.aload_n 0, 1) := by decide +kernel
theorem dX1_init_21 : decode cX1_init 21 = .ok (.bipush 20, 2) := by decide +kernel
theorem dX1_init_23 : decode cX1_init 23 = .ok (.newarray .int, 2) := by decide +kernel
theorem dX1_init_25 : decode cX1_init 25 = .ok (.putfield 18, 3) := by decide +kernel
theorem dX1_init_28 : decode cX1_init 28 = .ok (.aload_n 0, 1) := by decide +kernel
theorem dX1_init_29 : decode cX1_init 29 = .ok (.bipush 20, 2) := by decide +kernel
theorem dX1_init_31 : decode cX1_init 31 = .ok (.newarray .boolean, 2) := by decide +kernel
theorem dX1_init_33 : decode cX1_init 33 = .ok (.putfield 21, 3) := by decide +kernel
theorem dX1_init_36 : decode cX1_init 36 = .ok (.aload_n 0, 1) := by decide +kernel
theorem dX1_init_37 : decode cX1_init 37 = .ok (.iconst 0, 1) := by decide +kernel
theorem dX1_init_38 : decode cX1_init 38 = .ok (.putfield 25, 3) := by decide +kernel
theorem dX1_init_41 : decode cX1_init 41 = .ok (.return_, 1) := by decide +kernel
theorem dX1_add_0 : decode cX1_add 0 = .ok (.aload_n 0, 1) := by decide +kernel
theorem dX1_add_1 : decode cX1_add 1 = .ok (.getfield 25, 3) := by decide +kernel
theorem dX1_add_4 : decode cX1_add 4 = .ok (.istore 4, 2) := by decide +kernel
theorem dX1_add_6 : decode cX1_add 6 = .ok (.aload_n 0, 1) := by decide +kernel
theorem dX1_add_7 : decode cX1_add 7 = .ok (.getfield 9, 3) := by decide +kernel
theorem dX1_add_10 : decode cX1_add 10 = .ok (.iload 4, 2) := by decide +kernel
theorem dX1_add_12 : decode cX1_add 12 = .ok (.iload_n 1, 1) := by decide +kernel
theorem dX1_add_13 : decode cX1_add 13 = .ok (.iastore, 1) := by decide +kernel
theorem dX1_add_14 : decode cX1_add 14 = .ok (.aload_n 0, 1) := by decide +kernel
theorem dX1_add_15 : decode cX1_add 15 = .ok (.getfield 15, 3) := by decide +kernel
theorem dX1_add_18 : decode cX1_add 18 = .ok (.iload 4, 2) := by decide +kernel
theorem dX1_add_20 : decode cX1_add 20 = .ok (.iload_n 2, 1) := by decide +kernel
theorem dX1_add_21 : decode cX1_add 21 = .ok (.iastore, 1) := by decide +kernel
theorem dX1_add_22 : decode cX1_add 22 = .ok (.aload_n 0, 1) := by decide +kernel
theorem dX1_add_23 : decode cX1_add 23 = .ok (.getfield 18, 3) := by decide +kernel
theorem dX1_add_26 : decode cX1_add 26 = .ok (.iload 4, 2) := by decide +kernel
theorem dX1_add_28 : decode cX1_add 28 = .ok (.iload_n 3, 1) := by decide +kernel
theorem dX1_add_29 : decode cX1_add 29 = .ok (.iastore, 1) := by decide +kernel
theorem dX1_add_30 : decode cX1_add 30 = .ok (.aload_n 0, 1) := by decide +kernel
theorem dX1_add_31 : decode cX1_add 31 = .ok (.dup, 1) := by decide +kernel
theorem dX1_add_32 : decode cX1_add 32 = .ok (.getfield 25, 3) := by decide +kernel
theorem dX1_add_35 : decode cX1_add 35 = .ok (.iconst 1, 1) := by decide +kernel
theorem dX1_add_36 : decode cX1_add 36 = .ok (.iadd, 1) := by decide +kernel
theorem dX1_add_37 : decode cX1_add 37 = .ok (.putfield 25, 3) := by decide +kernel
theorem dX1_add_40 : decode cX1_add 40 = .ok (.iload 4, 2) := by decide +kernel
theorem dX1_add_42 : decode cX1_add 42 = .ok (.ireturn, 1) := by decide +kernel
theorem dX1_fact_0 : decode cX1_fact 0 = .ok (.iload_n 2, 1) := by decide +kernel
theorem dX1_fact_1 : decode cX1_fact 1 = .ok (.tableswitch 48 0 2 #[27, 34, 41], 27) := by decide +kernel
theorem dX1_fact_28 : decode cX1_fact 28 = .ok (.aload_n 0, 1) := by decide +kernel
theorem dX1_fact_29 : decode cX1_fact 29 = .ok (.getfield 9, 3) := by decide +kernel
theorem dX1_fact_32 : decode cX1_fact 32 = .ok (.iload_n 1, 1) := by decide +kernel
theorem dX1_fact_33 : decode cX1_fact 33 = .ok (.iaload, 1) := by decide +kernel
theorem dX1_fact_34 : decode cX1_fact 34 = .ok (.ireturn, 1) := by decide +kernel
theorem dX1_fact_35 : decode cX1_fact 35 = .ok (.aload_n 0, 1) := by decide +kernel
theorem dX1_fact_36 : decode cX1_fact 36 = .ok (.getfield 15, 3) := by decide +kernel
theorem dX1_fact_39 : decode cX1_fact 39 = .ok (.iload_n 1, 1) := by decide +kernel
theorem dX1_fact_40 : decode cX1_fact 40 = .ok (.iaload, 1) := by decide +kernel
theorem dX1_fact_41 : decode cX1_fact 41 = .ok (.ireturn, 1) := by decide +kernel
theorem dX1_fact_42 : decode cX1_fact 42 = .ok (.aload_n 0, 1) := by decide +kernel
theorem dX1_fact_43 : decode cX1_fact 43 = .ok (.getfield 18, 3) := by decide +kernel
theorem dX1_fact_46 : decode cX1_fact 46 = .ok (.iload_n 1, 1) := by decide +kernel
theorem dX1_fact_47 : decode cX1_fact 47 = .ok (.iaload, 1) := by decide +kernel
theorem dX1_fact_48 : decode cX1_fact 48 = .ok (.ireturn, 1) := by decide +kernel
theorem dX1_fact_49 : decode cX1_fact 49 = .ok (.aload_n 0, 1) := by decide +kernel
theorem dX1_fact_50 : decode cX1_fact 50 = .ok (.getfield 21, 3) := by decide +kernel
theorem dX1_fact_53 : decode cX1_fact 53 = .ok (.iload_n 1, 1) := by decide +kernel
theorem dX1_fact_54 : decode cX1_fact 54 = .ok (.baload, 1) := by decide +kernel
theorem dX1_fact_55 : decode cX1_fact 55 = .ok (.ifCond .eq 7, 3) := by decide +kernel
theorem dX1_fact_58 : decode cX1_fact 58 = .ok (.iconst 1, 1) := by decide +kernel
theorem dX1_fact_59 : decode cX1_fact 59 = .ok (.goto 4, 3) := by decide +kernel
theorem dX1_fact_62 : decode cX1_fact 62 = .ok (.iconst 0, 1) := by decide +kernel
theorem dX1_fact_63 : decode cX1_fact 63 = .ok (.ireturn, 1) := by decide +kernel
theorem dX1_drive_0 : decode cX1_drive 0 = .ok (.iconst 0, 1) := by decide +kernel
theorem dX1_drive_1 : decode cX1_drive 1 = .ok (.istore_n 2, 1) := by decide +kernel
theorem dX1_drive_2 : decode cX1_drive 2 = .ok (.iload_n 2, 1) := by decide +kernel
theorem dX1_drive_3 : decode cX1_drive 3 = .ok (.aload_n 0, 1) := by decide +kernel
theorem dX1_drive_4 : decode cX1_drive 4 = .ok (.getfield 25, 3) := by decide +kernel
theorem dX1_drive_7 : decode cX1_drive 7 = .ok (.if_icmp .ge 58, 3) := by decide +kernel
theorem dX1_drive_10 : decode cX1_drive 10 = .ok (.aload_n 0, 1) := by decide +kernel
theorem dX1_drive_11 : decode cX1_drive 11 = .ok (.getfield 21, 3) := by decide +kernel
theorem dX1_drive_14 : decode cX1_drive 14 = .ok (.iload_n 2, 1) := by decide +kernel
theorem dX1_drive_15 : decode cX1_drive 15 = .ok (.baload, 1) := by decide +kernel
theorem dX1_drive_16 : decode cX1_drive 16 = .ok (.ifCond .ne 43, 3) := by decide +kernel
theorem dX1_drive_19 : decode cX1_drive 19 = .ok (.aload_n 0, 1) := by decide +kernel
theorem dX1_drive_20 : decode cX1_drive 20 = .ok (.getfield 9, 3) := by decide +kernel
theorem dX1_drive_23 : decode cX1_drive 23 = .ok (.iload_n 2, 1) := by decide +kernel
theorem dX1_drive_24 : decode cX1_drive 24 = .ok (.dup2, 1) := by decide +kernel
theorem dX1_drive_25 : decode cX1_drive 25 = .ok (.iaload, 1) := by decide +kernel
theorem dX1_drive_26 : decode cX1_drive 26 = .ok (.aload_n 0, 1) := by decide +kernel
theorem dX1_drive_27 : decode cX1_drive 27 = .ok (.getfield 15, 3) := by decide +kernel
theorem dX1_drive_30 : decode cX1_drive 30 = .ok (.iload_n 2, 1) := by decide +kernel
theorem dX1_drive_31 : decode cX1_drive 31 = .ok (.iaload, 1) := by decide +kernel
theorem dX1_drive_32 : decode cX1_drive 32 = .ok (.iload_n 1, 1) := by decide +kernel
theorem dX1_drive_33 : decode cX1_drive 33 = .ok (.iadd, 1) := by decide +kernel
theorem dX1_drive_34 : decode cX1_drive 34 = .ok (.iadd, 1) := by decide +kernel
theorem dX1_drive_35 : decode cX1_drive 35 = .ok (.iastore, 1) := by decide +kernel
theorem dX1_drive_36 : decode cX1_drive 36 = .ok (.aload_n 0, 1) := by decide +kernel
theorem dX1_drive_37 : decode cX1_drive 37 = .ok (.getfield 21, 3) := by decide +kernel
theorem dX1_drive_40 : decode cX1_drive 40 = .ok (.iload_n 2, 1) := by decide +kernel
theorem dX1_drive_41 : decode cX1_drive 41 = .ok (.aload_n 0, 1) := by decide +kernel
theorem dX1_drive_42 : decode cX1_drive 42 = .ok (.getfield 9, 3) := by decide +kernel
theorem dX1_drive_45 : decode cX1_drive 45 = .ok (.iload_n 2, 1) := by decide +kernel
theorem dX1_drive_46 : decode cX1_drive 46 = .ok (.iaload, 1) := by decide +kernel
theorem dX1_drive_47 : decode cX1_drive 47 = .ok (.invokestatic 29, 3) := by decide +kernel
theorem dX1_drive_50 : decode cX1_drive 50 = .ok (.ifCond .ne 7, 3) := by decide +kernel
theorem dX1_drive_53 : decode cX1_drive 53 = .ok (.iconst 1, 1) := by decide +kernel
theorem dX1_drive_54 : decode cX1_drive 54 = .ok (.goto 4, 3) := by decide +kernel
theorem dX1_drive_57 : decode cX1_drive 57 = .ok (.iconst 0, 1) := by decide +kernel
theorem dX1_drive_58 : decode cX1_drive 58 = .ok (.bastore, 1) := by decide +kernel
theorem dX1_drive_59 : decode cX1_drive 59 = .ok (.iinc 2 1, 3) := by decide +kernel
theorem dX1_drive_62 : decode cX1_drive 62 = .ok (.goto (-60), 3) := by decide +kernel
theorem dX1_drive_65 : decode cX1_drive 65 = .ok (.return_, 1) := by decide +kernel
theorem dX1_nearest_0 : decode cX1_nearest 0 = .ok (.iconst (-1), 1) := by decide +kernel
theorem dX1_nearest_1 : decode cX1_nearest 1 = .ok (.istore_n 3, 1) := by decide +kernel
theorem dX1_nearest_2 : decode cX1_nearest 2 = .ok (.iload_n 2, 1) := by decide +kernel
theorem dX1_nearest_3 : decode cX1_nearest 3 = .ok (.iconst 1, 1) := by decide +kernel
theorem dX1_nearest_4 : decode cX1_nearest 4 = .ok (.iadd, 1) := by decide +kernel
theorem dX1_nearest_5 : decode cX1_nearest 5 = .ok (.istore 4, 2) := by decide +kernel
theorem dX1_nearest_7 : decode cX1_nearest 7 = .ok (.iconst 0, 1) := by decide +kernel
theorem dX1_nearest_8 : decode cX1_nearest 8 = .ok (.istore 5, 2) := by decide +kernel
theorem dX1_nearest_10 : decode cX1_nearest 10 = .ok (.iload 5, 2) := by decide +kernel
theorem dX1_nearest_12 : decode cX1_nearest 12 = .ok (.aload_n 0, 1) := by decide +kernel
theorem dX1_nearest_13 : decode cX1_nearest 13 = .ok (.getfield 25, 3) := by decide +kernel
theorem dX1_nearest_16 : decode cX1_nearest 16 = .ok (.if_icmp .ge 57, 3) := by decide +kernel
theorem dX1_nearest_19 : decode cX1_nearest 19 = .ok (.aload_n 0, 1) := by decide +kernel
theorem dX1_nearest_20 : decode cX1_nearest 20 = .ok (.getfield 9, 3) := by decide +kernel
theorem dX1_nearest_23 : decode cX1_nearest 23 = .ok (.iload 5, 2) := by decide +kernel
theorem dX1_nearest_25 : decode cX1_nearest 25 = .ok (.iaload, 1) := by decide +kernel
theorem dX1_nearest_26 : decode cX1_nearest 26 = .ok (.iload_n 1, 1) := by decide +kernel
theorem dX1_nearest_27 : decode cX1_nearest 27 = .ok (.isub, 1) := by decide +kernel
theorem dX1_nearest_28 : decode cX1_nearest 28 = .ok (.invokestatic 33, 3) := by decide +kernel
theorem dX1_nearest_31 : decode cX1_nearest 31 = .ok (.istore 6, 2) := by decide +kernel
theorem dX1_nearest_33 : decode cX1_nearest 33 = .ok (.aload_n 0, 1) := by decide +kernel
theorem dX1_nearest_34 : decode cX1_nearest 34 = .ok (.getfield 21, 3) := by decide +kernel
theorem dX1_nearest_37 : decode cX1_nearest 37 = .ok (.iload 5, 2) := by decide +kernel
theorem dX1_nearest_39 : decode cX1_nearest 39 = .ok (.baload, 1) := by decide +kernel
theorem dX1_nearest_40 : decode cX1_nearest 40 = .ok (.ifCond .ne 27, 3) := by decide +kernel
theorem dX1_nearest_43 : decode cX1_nearest 43 = .ok (.aload_n 0, 1) := by decide +kernel
theorem dX1_nearest_44 : decode cX1_nearest 44 = .ok (.getfield 18, 3) := by decide +kernel
theorem dX1_nearest_47 : decode cX1_nearest 47 = .ok (.iload 5, 2) := by decide +kernel
theorem dX1_nearest_49 : decode cX1_nearest 49 = .ok (.iaload, 1) := by decide +kernel
theorem dX1_nearest_50 : decode cX1_nearest 50 = .ok (.ifCond .le 17, 3) := by decide +kernel
theorem dX1_nearest_53 : decode cX1_nearest 53 = .ok (.iload 6, 2) := by decide +kernel
theorem dX1_nearest_55 : decode cX1_nearest 55 = .ok (.iload 4, 2) := by decide +kernel
theorem dX1_nearest_57 : decode cX1_nearest 57 = .ok (.if_icmp .ge 10, 3) := by decide +kernel
theorem dX1_nearest_60 : decode cX1_nearest 60 = .ok (.iload 5, 2) := by decide +kernel
theorem dX1_nearest_62 : decode cX1_nearest 62 = .ok (.istore_n 3, 1) := by decide +kernel
theorem dX1_nearest_63 : decode cX1_nearest 63 = .ok (.iload 6, 2) := by decide +kernel
theorem dX1_nearest_65 : decode cX1_nearest 65 = .ok (.istore 4, 2) := by decide +kernel
theorem dX1_nearest_67 : decode cX1_nearest 67 = .ok (.iinc 5 1, 3) := by decide +kernel
theorem dX1_nearest_70 : decode cX1_nearest 70 = .ok (.goto (-60), 3) := by decide +kernel
theorem dX1_nearest_73 : decode cX1_nearest 73 = .ok (.iload_n 3, 1) := by decide +kernel
theorem dX1_nearest_74 : decode cX1_nearest 74 = .ok (.ireturn, 1) := by decide +kernel
theorem dX1_takeShot_0 : decode cX1_takeShot 0 = .ok (.aload_n 0, 1) := by decide +kernel
theorem dX1_takeShot_1 : decode cX1_takeShot 1 = .ok (.getfield 9, 3) := by decide +kernel
theorem dX1_takeShot_4 : decode cX1_takeShot 4 = .ok (.iload_n 1, 1) := by decide +kernel
theorem dX1_takeShot_5 : decode cX1_takeShot 5 = .ok (.iaload, 1) := by decide +kernel
theorem dX1_takeShot_6 : decode cX1_takeShot 6 = .ok (.iload_n 2, 1) := by decide +kernel
theorem dX1_takeShot_7 : decode cX1_takeShot 7 = .ok (.isub, 1) := by decide +kernel
theorem dX1_takeShot_8 : decode cX1_takeShot 8 = .ok (.invokestatic 33, 3) := by decide +kernel
theorem dX1_takeShot_11 : decode cX1_takeShot 11 = .ok (.istore 4, 2) := by decide +kernel
theorem dX1_takeShot_13 : decode cX1_takeShot 13 = .ok (.aload_n 0, 1) := by decide +kernel
theorem dX1_takeShot_14 : decode cX1_takeShot 14 = .ok (.getfield 18, 3) := by decide +kernel
theorem dX1_takeShot_17 : decode cX1_takeShot 17 = .ok (.iload_n 1, 1) := by decide +kernel
theorem dX1_takeShot_18 : decode cX1_takeShot 18 = .ok (.aload_n 0, 1) := by decide +kernel
theorem dX1_takeShot_19 : decode cX1_takeShot 19 = .ok (.getfield 18, 3) := by decide +kernel
theorem dX1_takeShot_22 : decode cX1_takeShot 22 = .ok (.iload_n 1, 1) := by decide +kernel
theorem dX1_takeShot_23 : decode cX1_takeShot 23 = .ok (.iaload, 1) := by decide +kernel
theorem dX1_takeShot_24 : decode cX1_takeShot 24 = .ok (.iload_n 3, 1) := by decide +kernel
theorem dX1_takeShot_25 : decode cX1_takeShot 25 = .ok (.iconst 1, 1) := by decide +kernel
theorem dX1_takeShot_26 : decode cX1_takeShot 26 = .ok (.iadd, 1) := by decide +kernel
theorem dX1_takeShot_27 : decode cX1_takeShot 27 = .ok (.iload 4, 2) := by decide +kernel
theorem dX1_takeShot_29 : decode cX1_takeShot 29 = .ok (.isub, 1) := by decide +kernel
theorem dX1_takeShot_30 : decode cX1_takeShot 30 = .ok (.isub, 1) := by decide +kernel
theorem dX1_takeShot_31 : decode cX1_takeShot 31 = .ok (.iconst 0, 1) := by decide +kernel
theorem dX1_takeShot_32 : decode cX1_takeShot 32 = .ok (.invokestatic 39, 3) := by decide +kernel
theorem dX1_takeShot_35 : decode cX1_takeShot 35 = .ok (.iastore, 1) := by decide +kernel
theorem dX1_takeShot_36 : decode cX1_takeShot 36 = .ok (.return_, 1) := by decide +kernel
theorem dX1_dropUpon_0 : decode cX1_dropUpon 0 = .ok (.iconst 0, 1) := by decide +kernel
theorem dX1_dropUpon_1 : decode cX1_dropUpon 1 = .ok (.istore_n 2, 1) := by decide +kernel
theorem dX1_dropUpon_2 : decode cX1_dropUpon 2 = .ok (.iload_n 2, 1) := by decide +kernel
theorem dX1_dropUpon_3 : decode cX1_dropUpon 3 = .ok (.aload_n 0, 1) := by decide +kernel
theorem dX1_dropUpon_4 : decode cX1_dropUpon 4 = .ok (.getfield 25, 3) := by decide +kernel
theorem dX1_dropUpon_7 : decode cX1_dropUpon 7 = .ok (.if_icmp .ge 59, 3) := by decide +kernel
theorem dX1_dropUpon_10 : decode cX1_dropUpon 10 = .ok (.aload_n 0, 1) := by decide +kernel
theorem dX1_dropUpon_11 : decode cX1_dropUpon 11 = .ok (.getfield 21, 3) := by decide +kernel
theorem dX1_dropUpon_14 : decode cX1_dropUpon 14 = .ok (.iload_n 2, 1) := by decide +kernel
theorem dX1_dropUpon_15 : decode cX1_dropUpon 15 = .ok (.baload, 1) := by decide +kernel
theorem dX1_dropUpon_16 : decode cX1_dropUpon 16 = .ok (.ifCond .ne 44, 3) := by decide +kernel
theorem dX1_dropUpon_19 : decode cX1_dropUpon 19 = .ok (.aload_n 0, 1) := by decide +kernel
theorem dX1_dropUpon_20 : decode cX1_dropUpon 20 = .ok (.getfield 18, 3) := by decide +kernel
theorem dX1_dropUpon_23 : decode cX1_dropUpon 23 = .ok (.iload_n 2, 1) := by decide +kernel
theorem dX1_dropUpon_24 : decode cX1_dropUpon 24 = .ok (.iaload, 1) := by decide +kernel
theorem dX1_dropUpon_25 : decode cX1_dropUpon 25 = .ok (.ifCond .le 35, 3) := by decide +kernel
theorem dX1_dropUpon_28 : decode cX1_dropUpon 28 = .ok (.aload_n 0, 1) := by decide +kernel
theorem dX1_dropUpon_29 : decode cX1_dropUpon 29 = .ok (.getfield 18, 3) := by decide +kernel
theorem dX1_dropUpon_32 : decode cX1_dropUpon 32 = .ok (.iload_n 2, 1) := by decide +kernel
theorem dX1_dropUpon_33 : decode cX1_dropUpon 33 = .ok (.iaload, 1) := by decide +kernel
theorem dX1_dropUpon_34 : decode cX1_dropUpon 34 = .ok (.iconst 4, 1) := by decide +kernel
theorem dX1_dropUpon_35 : decode cX1_dropUpon 35 = .ok (.invokestatic 43, 3) := by decide +kernel
theorem dX1_dropUpon_38 : decode cX1_dropUpon 38 = .ok (.istore_n 3, 1) := by decide +kernel
theorem dX1_dropUpon_39 : decode cX1_dropUpon 39 = .ok (.aload_n 0, 1) := by decide +kernel
theorem dX1_dropUpon_40 : decode cX1_dropUpon 40 = .ok (.getfield 18, 3) := by decide +kernel
theorem dX1_dropUpon_43 : decode cX1_dropUpon 43 = .ok (.iload_n 2, 1) := by decide +kernel
theorem dX1_dropUpon_44 : decode cX1_dropUpon 44 = .ok (.dup2, 1) := by decide +kernel
theorem dX1_dropUpon_45 : decode cX1_dropUpon 45 = .ok (.iaload, 1) := by decide +kernel
theorem dX1_dropUpon_46 : decode cX1_dropUpon 46 = .ok (.iload_n 3, 1) := by decide +kernel
theorem dX1_dropUpon_47 : decode cX1_dropUpon 47 = .ok (.isub, 1) := by decide +kernel
theorem dX1_dropUpon_48 : decode cX1_dropUpon 48 = .ok (.iastore, 1) := by decide +kernel
theorem dX1_dropUpon_49 : decode cX1_dropUpon 49 = .ok (.aload_n 1, 1) := by decide +kernel
theorem dX1_dropUpon_50 : decode cX1_dropUpon 50 = .ok (.aload_n 0, 1) := by decide +kernel
theorem dX1_dropUpon_51 : decode cX1_dropUpon 51 = .ok (.getfield 9, 3) := by decide +kernel
theorem dX1_dropUpon_54 : decode cX1_dropUpon 54 = .ok (.iload_n 2, 1) := by decide +kernel
theorem dX1_dropUpon_55 : decode cX1_dropUpon 55 = .ok (.iaload, 1) := by decide +kernel
theorem dX1_dropUpon_56 : decode cX1_dropUpon 56 = .ok (.iload_n 3, 1) := by decide +kernel
theorem dX1_dropUpon_57 : decode cX1_dropUpon 57 = .ok (.invokevirtual 46, 3) := by decide +kernel
theorem dX1_dropUpon_60 : decode cX1_dropUpon 60 = .ok (.iinc 2 1, 3) := by decide +kernel
theorem dX1_dropUpon_63 : decode cX1_dropUpon 63 = .ok (.goto (-61), 3) := by decide +kernel
theorem dX1_dropUpon_66 : decode cX1_dropUpon 66 = .ok (.return_, 1) := by decide +kernel
theorem dX1_haveHail_0 : decode cX1_haveHail 0 = .ok (.iconst 0, 1) := by decide +kernel
theorem dX1_haveHail_1 : decode cX1_haveHail 1 = .ok (.istore_n 1, 1) := by decide +kernel
theorem dX1_haveHail_2 : decode cX1_haveHail 2 = .ok (.iload_n 1, 1) := by decide +kernel
theorem dX1_haveHail_3 : decode cX1_haveHail 3 = .ok (.aload_n 0, 1) := by decide +kernel
theorem dX1_haveHail_4 : decode cX1_haveHail 4 = .ok (.getfield 25, 3) := by decide +kernel
theorem dX1_haveHail_7 : decode cX1_haveHail 7 = .ok (.if_icmp .ge 29, 3) := by decide +kernel
theorem dX1_haveHail_10 : decode cX1_haveHail 10 = .ok (.aload_n 0, 1) := by decide +kernel
theorem dX1_haveHail_11 : decode cX1_haveHail 11 = .ok (.getfield 21, 3) := by decide +kernel
theorem dX1_haveHail_14 : decode cX1_haveHail 14 = .ok (.iload_n 1, 1) := by decide +kernel
theorem dX1_haveHail_15 : decode cX1_haveHail 15 = .ok (.baload, 1) := by decide +kernel
theorem dX1_haveHail_16 : decode cX1_haveHail 16 = .ok (.ifCond .ne 14, 3) := by decide +kernel
theorem dX1_haveHail_19 : decode cX1_haveHail 19 = .ok (.aload_n 0, 1) := by decide +kernel
theorem dX1_haveHail_20 : decode cX1_haveHail 20 = .ok (.getfield 18, 3) := by decide +kernel
theorem dX1_haveHail_23 : decode cX1_haveHail 23 = .ok (.iload_n 1, 1) := by decide +kernel
theorem dX1_haveHail_24 : decode cX1_haveHail 24 = .ok (.iaload, 1) := by decide +kernel
theorem dX1_haveHail_25 : decode cX1_haveHail 25 = .ok (.ifCond .le 5, 3) := by decide +kernel
theorem dX1_haveHail_28 : decode cX1_haveHail 28 = .ok (.iconst 1, 1) := by decide +kernel
theorem dX1_haveHail_29 : decode cX1_haveHail 29 = .ok (.ireturn, 1) := by decide +kernel
theorem dX1_haveHail_30 : decode cX1_haveHail 30 = .ok (.iinc 1 1, 3) := by decide +kernel
theorem dX1_haveHail_33 : decode cX1_haveHail 33 = .ok (.goto (-31), 3) := by decide +kernel
theorem dX1_haveHail_36 : decode cX1_haveHail 36 = .ok (.iconst 0, 1) := by decide +kernel
theorem dX1_haveHail_37 : decode cX1_haveHail 37 = .ok (.ireturn, 1) := by decide +kernel
theorem dX1_there_0 : decode cX1_there 0 = .ok (.iconst 0, 1) := by decide +kernel
theorem dX1_there_1 : decode cX1_there 1 = .ok (.istore_n 1, 1) := by decide +kernel
theorem dX1_there_2 : decode cX1_there 2 = .ok (.iconst 0, 1) := by decide +kernel
theorem dX1_there_3 : decode cX1_there 3 = .ok (.istore_n 2, 1) := by decide +kernel
theorem dX1_there_4 : decode cX1_there 4 = .ok (.iload_n 2, 1) := by decide +kernel
theorem dX1_there_5 : decode cX1_there 5 = .ok (.aload_n 0, 1) := by decide +kernel
theorem dX1_there_6 : decode cX1_there 6 = .ok (.getfield 25, 3) := by decide +kernel
theorem dX1_there_9 : decode cX1_there 9 = .ok (.if_icmp .ge 21, 3) := by decide +kernel
theorem dX1_there_12 : decode cX1_there 12 = .ok (.aload_n 0, 1) := by decide +kernel
theorem dX1_there_13 : decode cX1_there 13 = .ok (.getfield 21, 3) := by decide +kernel
theorem dX1_there_16 : decode cX1_there 16 = .ok (.iload_n 2, 1) := by decide +kernel
theorem dX1_there_17 : decode cX1_there 17 = .ok (.baload, 1) := by decide +kernel
theorem dX1_there_18 : decode cX1_there 18 = .ok (.ifCond .ne 6, 3) := by decide +kernel
theorem dX1_there_21 : decode cX1_there 21 = .ok (.iinc 1 1, 3) := by decide +kernel
theorem dX1_there_24 : decode cX1_there 24 = .ok (.iinc 2 1, 3) := by decide +kernel
theorem dX1_there_27 : decode cX1_there 27 = .ok (.goto (-23), 3) := by decide +kernel
theorem dX1_there_30 : decode cX1_there 30 = .ok (.iload_n 1, 1) := by decide +kernel
theorem dX1_there_31 : decode cX1_there 31 = .ok (.ireturn, 1) := by decide +kernel
theorem dX1_copyFrom_0 : decode cX1_copyFrom 0 = .ok (.aload_n 1, 1) := by decide +kernel
theorem dX1_copyFrom_1 : decode cX1_copyFrom 1 = .ok (.getfield 9, 3) := by decide +kernel
theorem dX1_copyFrom_4 : decode cX1_copyFrom 4 = .ok (.iconst 0, 1) := by decide +kernel
theorem dX1_copyFrom_5 : decode cX1_copyFrom 5 = .ok (.aload_n 0, 1) := by decide +kernel
theorem dX1_copyFrom_6 : decode cX1_copyFrom 6 = .ok (.getfield 9, 3) := by decide +kernel
theorem dX1_copyFrom_9 : decode cX1_copyFrom 9 = .ok (.iconst 0, 1) := by decide +kernel
theorem dX1_copyFrom_10 : decode cX1_copyFrom 10 = .ok (.bipush 20, 2) := by decide +kernel
theorem dX1_copyFrom_12 : decode cX1_copyFrom 12 = .ok (.invokestatic 52, 3) := by decide +kernel
theorem dX1_copyFrom_15 : decode cX1_copyFrom 15 = .ok (.aload_n 1, 1) := by decide +kernel
theorem dX1_copyFrom_16 : decode cX1_copyFrom 16 = .ok (.getfield 15, 3) := by decide +kernel
theorem dX1_copyFrom_19 : decode cX1_copyFrom 19 = .ok (.iconst 0, 1) := by decide +kernel
theorem dX1_copyFrom_20 : decode cX1_copyFrom 20 = .ok (.aload_n 0, 1) := by decide +kernel
theorem dX1_copyFrom_21 : decode cX1_copyFrom 21 = .ok (.getfield 15, 3) := by decide +kernel
theorem dX1_copyFrom_24 : decode cX1_copyFrom 24 = .ok (.iconst 0, 1) := by decide +kernel
theorem dX1_copyFrom_25 : decode cX1_copyFrom 25 = .ok (.bipush 20, 2) := by decide +kernel
theorem dX1_copyFrom_27 : decode cX1_copyFrom 27 = .ok (.invokestatic 52, 3) := by decide +kernel
theorem dX1_copyFrom_30 : decode cX1_copyFrom 30 = .ok (.aload_n 1, 1) := by decide +kernel
theorem dX1_copyFrom_31 : decode cX1_copyFrom 31 = .ok (.getfield 18, 3) := by decide +kernel
theorem dX1_copyFrom_34 : decode cX1_copyFrom 34 = .ok (.iconst 0, 1) := by decide +kernel
theorem dX1_copyFrom_35 : decode cX1_copyFrom 35 = .ok (.aload_n 0, 1) := by decide +kernel
theorem dX1_copyFrom_36 : decode cX1_copyFrom 36 = .ok (.getfield 18, 3) := by decide +kernel
theorem dX1_copyFrom_39 : decode cX1_copyFrom 39 = .ok (.iconst 0, 1) := by decide +kernel
theorem dX1_copyFrom_40 : decode cX1_copyFrom 40 = .ok (.bipush 20, 2) := by decide +kernel
theorem dX1_copyFrom_42 : decode cX1_copyFrom 42 = .ok (.invokestatic 52, 3) := by decide +kernel
theorem dX1_copyFrom_45 : decode cX1_copyFrom 45 = .ok (.iconst 0, 1) := by decide +kernel
theorem dX1_copyFrom_46 : decode cX1_copyFrom 46 = .ok (.istore_n 2, 1) := by decide +kernel
theorem dX1_copyFrom_47 : decode cX1_copyFrom 47 = .ok (.iload_n 2, 1) := by decide +kernel
theorem dX1_copyFrom_48 : decode cX1_copyFrom 48 = .ok (.bipush 20, 2) := by decide +kernel
theorem dX1_copyFrom_50 : decode cX1_copyFrom 50 = .ok (.if_icmp .ge 21, 3) := by decide +kernel
theorem dX1_copyFrom_53 : decode cX1_copyFrom 53 = .ok (.aload_n 0, 1) := by decide +kernel
theorem dX1_copyFrom_54 : decode cX1_copyFrom 54 = .ok (.getfield 21, 3) := by decide +kernel
theorem dX1_copyFrom_57 : decode cX1_copyFrom 57 = .ok (.iload_n 2, 1) := by decide +kernel
theorem dX1_copyFrom_58 : decode cX1_copyFrom 58 = .ok (.aload_n 1, 1) := by decide +kernel
theorem dX1_copyFrom_59 : decode cX1_copyFrom 59 = .ok (.getfield 21, 3) := by decide +kernel
theorem dX1_copyFrom_62 : decode cX1_copyFrom 62 = .ok (.iload_n 2, 1) := by decide +kernel
theorem dX1_copyFrom_63 : decode cX1_copyFrom 63 = .ok (.baload, 1) := by decide +kernel
theorem dX1_copyFrom_64 : decode cX1_copyFrom 64 = .ok (.bastore, 1) := by decide +kernel
theorem dX1_copyFrom_65 : decode cX1_copyFrom 65 = .ok (.iinc 2 1, 3) := by decide +kernel
theorem dX1_copyFrom_68 : decode cX1_copyFrom 68 = .ok (.goto (-21), 3) := by decide +kernel
theorem dX1_copyFrom_71 : decode cX1_copyFrom 71 = .ok (.aload_n 0, 1) := by decide +kernel
theorem dX1_copyFrom_72 : decode cX1_copyFrom 72 = .ok (.aload_n 1, 1) := by decide +kernel
theorem dX1_copyFrom_73 : decode cX1_copyFrom 73 = .ok (.getfield 25, 3) := by decide +kernel
theorem dX1_copyFrom_76 : decode cX1_copyFrom 76 = .ok (.putfield 25, 3) := by decide +kernel
theorem dX1_copyFrom_79 : decode cX1_copyFrom 79 = .ok (.return_, 1) := by decide +kernel
theorem dX2_init_0 : decode cX2_init 0 = .ok (.aload_n 0, 1) := by decide +kernel
theorem dX2_init_1 : decode cX2_init 1 = .ok (.invokespecial 3, 3) := by decide +kernel
theorem dX2_init_4 : decode cX2_init 4 = .ok (.aload_n 0, 1) := by decide +kernel
theorem dX2_init_5 : decode cX2_init 5 = .ok (.new 9, 3) := by decide +kernel
theorem dX2_init_8 : decode cX2_init 8 = .ok (.dup, 1) := by decide +kernel
theorem dX2_init_9 : decode cX2_init 9 = .ok (.invokespecial 11, 3) := by decide +kernel
theorem dX2_init_12 : decode cX2_init 12 = .ok (.putfield 12, 3) := by decide +kernel
theorem dX2_init_15 : decode cX2_init 15 = .ok (.aload_n 0, 1) := by decide +kernel
theorem dX2_init_16 : decode cX2_init 16 = .ok (.new 18, 3) := by decide +kernel
theorem dX2_init_19 : decode cX2_init 19 = .ok (.dup, 1) := by decide +kernel
theorem dX2_init_20 : decode cX2_init 20 = .ok (.invokespecial 20, 3) := by decide +kernel
theorem dX2_init_23 : decode cX2_init 23 = .ok (.putfield 21, 3) := by decide +kernel
theorem dX2_init_26 : decode cX2_init 26 = .ok (.aload_n 0, 1) := by decide +kernel
theorem dX2_init_27 : decode cX2_init 27 = .ok (.new 25, 3) := by decide +kernel
theorem dX2_init_30 : decode cX2_init 30 = .ok (.dup, 1) := by decide +kernel
theorem dX2_init_31 : decode cX2_init 31 = .ok (.invokespecial 27, 3) := by decide +kernel
theorem dX2_init_34 : decode cX2_init 34 = .ok (.putfield 28, 3) := by decide +kernel
theorem dX2_init_37 : decode cX2_init 37 = .ok (.aload_n 0, 1) := by decide +kernel
theorem dX2_init_38 : decode cX2_init 38 = .ok (.bipush 6, 2) := by decide +kernel
theorem dX2_init_40 : decode cX2_init 40 = .ok (.newarray .int, 2) := by decide +kernel
theorem dX2_init_42 : decode cX2_init 42 = .ok (.putfield 32, 3) := by decide +kernel
theorem dX2_init_45 : decode cX2_init 45 = .ok (.aload_n 0, 1) := by decide +kernel
theorem dX2_init_46 : decode cX2_init 46 = .ok (.iconst 0, 1) := by decide +kernel
theorem dX2_init_47 : decode cX2_init 47 = .ok (.putfield 36, 3) := by decide +kernel
theorem dX2_init_50 : decode cX2_init 50 = .ok (.aload_n 0, 1) := by decide +kernel
theorem dX2_init_51 : decode cX2_init 51 = .ok (.bipush 50, 2) := by decide +kernel
theorem dX2_init_53 : decode cX2_init 53 = .ok (.putfield 40, 3) := by decide +kernel
theorem dX2_init_56 : decode cX2_init 56 = .ok (.return_, 1) := by decide +kernel
theorem dX2_copyFrom_0 : decode cX2_copyFrom 0 = .ok (.aload_n 0, 1) := by decide +kernel
theorem dX2_copyFrom_1 : decode cX2_copyFrom 1 = .ok (.getfield 12, 3) := by decide +kernel
theorem dX2_copyFrom_4 : decode cX2_copyFrom 4 = .ok (.aload_n 1, 1) := by decide +kernel
theorem dX2_copyFrom_5 : decode cX2_copyFrom 5 = .ok (.getfield 12, 3) := by decide +kernel
theorem dX2_copyFrom_8 : decode cX2_copyFrom 8 = .ok (.invokevirtual 43, 3) := by decide +kernel
theorem dX2_copyFrom_11 : decode cX2_copyFrom 11 = .ok (.aload_n 0, 1) := by decide +kernel
theorem dX2_copyFrom_12 : decode cX2_copyFrom 12 = .ok (.getfield 21, 3) := by decide +kernel
theorem dX2_copyFrom_15 : decode cX2_copyFrom 15 = .ok (.aload_n 1, 1) := by decide +kernel
theorem dX2_copyFrom_16 : decode cX2_copyFrom 16 = .ok (.getfield 21, 3) := by decide +kernel
theorem dX2_copyFrom_19 : decode cX2_copyFrom 19 = .ok (.invokevirtual 47, 3) := by decide +kernel
theorem dX2_copyFrom_22 : decode cX2_copyFrom 22 = .ok (.aload_n 0, 1) := by decide +kernel
theorem dX2_copyFrom_23 : decode cX2_copyFrom 23 = .ok (.getfield 28, 3) := by decide +kernel
theorem dX2_copyFrom_26 : decode cX2_copyFrom 26 = .ok (.aload_n 1, 1) := by decide +kernel
theorem dX2_copyFrom_27 : decode cX2_copyFrom 27 = .ok (.getfield 28, 3) := by decide +kernel
theorem dX2_copyFrom_30 : decode cX2_copyFrom 30 = .ok (.invokevirtual 50, 3) := by decide +kernel
theorem dX2_copyFrom_33 : decode cX2_copyFrom 33 = .ok (.aload_n 1, 1) := by decide +kernel
theorem dX2_copyFrom_34 : decode cX2_copyFrom 34 = .ok (.getfield 32, 3) := by decide +kernel
theorem dX2_copyFrom_37 : decode cX2_copyFrom 37 = .ok (.iconst 0, 1) := by decide +kernel
theorem dX2_copyFrom_38 : decode cX2_copyFrom 38 = .ok (.aload_n 0, 1) := by decide +kernel
theorem dX2_copyFrom_39 : decode cX2_copyFrom 39 = .ok (.getfield 32, 3) := by decide +kernel
theorem dX2_copyFrom_42 : decode cX2_copyFrom 42 = .ok (.iconst 0, 1) := by decide +kernel
theorem dX2_copyFrom_43 : decode cX2_copyFrom 43 = .ok (.bipush 6, 2) := by decide +kernel
theorem dX2_copyFrom_45 : decode cX2_copyFrom 45 = .ok (.invokestatic 53, 3) := by decide +kernel
theorem dX2_copyFrom_48 : decode cX2_copyFrom 48 = .ok (.aload_n 0, 1) := by decide +kernel
theorem dX2_copyFrom_49 : decode cX2_copyFrom 49 = .ok (.aload_n 1, 1) := by decide +kernel
theorem dX2_copyFrom_50 : decode cX2_copyFrom 50 = .ok (.getfield 36, 3) := by decide +kernel
theorem dX2_copyFrom_53 : decode cX2_copyFrom 53 = .ok (.putfield 36, 3) := by decide +kernel
theorem dX2_copyFrom_56 : decode cX2_copyFrom 56 = .ok (.aload_n 0, 1) := by decide +kernel
theorem dX2_copyFrom_57 : decode cX2_copyFrom 57 = .ok (.aload_n 1, 1) := by decide +kernel
theorem dX2_copyFrom_58 : decode cX2_copyFrom 58 = .ok (.getfield 40, 3) := by decide +kernel
theorem dX2_copyFrom_61 : decode cX2_copyFrom 61 = .ok (.putfield 40, 3) := by decide +kernel
theorem dX2_copyFrom_64 : decode cX2_copyFrom 64 = .ok (.return_, 1) := by decide +kernel
theorem dX2_goBy_0 : decode cX2_goBy 0 = .ok (.iconst 0, 1) := by decide +kernel
theorem dX2_goBy_1 : decode cX2_goBy 1 = .ok (.istore_n 2, 1) := by decide +kernel
theorem dX2_goBy_2 : decode cX2_goBy 2 = .ok (.iload_n 2, 1) := by decide +kernel
theorem dX2_goBy_3 : decode cX2_goBy 3 = .ok (.iload_n 1, 1) := by decide +kernel
theorem dX2_goBy_4 : decode cX2_goBy 4 = .ok (.if_icmp .ge 13, 3) := by decide +kernel
theorem dX2_goBy_7 : decode cX2_goBy 7 = .ok (.aload_n 0, 1) := by decide +kernel
theorem dX2_goBy_8 : decode cX2_goBy 8 = .ok (.invokevirtual 59, 3) := by decide +kernel
theorem dX2_goBy_11 : decode cX2_goBy 11 = .ok (.iinc 2 1, 3) := by decide +kernel
theorem dX2_goBy_14 : decode cX2_goBy 14 = .ok (.goto (-12), 3) := by decide +kernel
theorem dX2_goBy_17 : decode cX2_goBy 17 = .ok (.return_, 1) := by decide +kernel
theorem dX2_goByOneHour_0 : decode cX2_goByOneHour 0 = .ok (.aload_n 0, 1) := by decide +kernel
theorem dX2_goByOneHour_1 : decode cX2_goByOneHour 1 = .ok (.getfield 28, 3) := by decide +kernel
theorem dX2_goByOneHour_4 : decode cX2_goByOneHour 4 = .ok (.aload_n 0, 1) := by decide +kernel
theorem dX2_goByOneHour_5 : decode cX2_goByOneHour 5 = .ok (.getfield 32, 3) := by decide +kernel
theorem dX2_goByOneHour_8 : decode cX2_goByOneHour 8 = .ok (.aload_n 0, 1) := by decide +kernel
theorem dX2_goByOneHour_9 : decode cX2_goByOneHour 9 = .ok (.getfield 36, 3) := by decide +kernel
theorem dX2_goByOneHour_12 : decode cX2_goByOneHour 12 = .ok (.bipush 6, 2) := by decide +kernel
theorem dX2_goByOneHour_14 : decode cX2_goByOneHour 14 = .ok (.invokestatic 62, 3) := by decide +kernel
theorem dX2_goByOneHour_17 : decode cX2_goByOneHour 17 = .ok (.iaload, 1) := by decide +kernel
theorem dX2_goByOneHour_18 : decode cX2_goByOneHour 18 = .ok (.invokevirtual 68, 3) := by decide +kernel
theorem dX2_goByOneHour_21 : decode cX2_goByOneHour 21 = .ok (.aload_n 0, 1) := by decide +kernel
theorem dX2_goByOneHour_22 : decode cX2_goByOneHour 22 = .ok (.getfield 21, 3) := by decide +kernel
theorem dX2_goByOneHour_25 : decode cX2_goByOneHour 25 = .ok (.aload_n 0, 1) := by decide +kernel
theorem dX2_goByOneHour_26 : decode cX2_goByOneHour 26 = .ok (.getfield 28, 3) := by decide +kernel
theorem dX2_goByOneHour_29 : decode cX2_goByOneHour 29 = .ok (.aload_n 0, 1) := by decide +kernel
theorem dX2_goByOneHour_30 : decode cX2_goByOneHour 30 = .ok (.getfield 12, 3) := by decide +kernel
theorem dX2_goByOneHour_33 : decode cX2_goByOneHour 33 = .ok (.invokevirtual 72, 3) := by decide +kernel
theorem dX2_goByOneHour_36 : decode cX2_goByOneHour 36 = .ok (.aload_n 0, 1) := by decide +kernel
theorem dX2_goByOneHour_37 : decode cX2_goByOneHour 37 = .ok (.getfield 28, 3) := by decide +kernel
theorem dX2_goByOneHour_40 : decode cX2_goByOneHour 40 = .ok (.aload_n 0, 1) := by decide +kernel
theorem dX2_goByOneHour_41 : decode cX2_goByOneHour 41 = .ok (.getfield 12, 3) := by decide +kernel
theorem dX2_goByOneHour_44 : decode cX2_goByOneHour 44 = .ok (.invokevirtual 76, 3) := by decide +kernel
theorem dX2_goByOneHour_47 : decode cX2_goByOneHour 47 = .ok (.aload_n 0, 1) := by decide +kernel
theorem dX2_goByOneHour_48 : decode cX2_goByOneHour 48 = .ok (.getfield 36, 3) := by decide +kernel
theorem dX2_goByOneHour_51 : decode cX2_goByOneHour 51 = .ok (.bipush 24, 2) := by decide +kernel
theorem dX2_goByOneHour_53 : decode cX2_goByOneHour 53 = .ok (.irem, 1) := by decide +kernel
theorem dX2_goByOneHour_54 : decode cX2_goByOneHour 54 = .ok (.bipush 23, 2) := by decide +kernel
theorem dX2_goByOneHour_56 : decode cX2_goByOneHour 56 = .ok (.if_icmp .ne 19, 3) := by decide +kernel
theorem dX2_goByOneHour_59 : decode cX2_goByOneHour 59 = .ok (.aload_n 0, 1) := by decide +kernel
theorem dX2_goByOneHour_60 : decode cX2_goByOneHour 60 = .ok (.dup, 1) := by decide +kernel
theorem dX2_goByOneHour_61 : decode cX2_goByOneHour 61 = .ok (.getfield 40, 3) := by decide +kernel
theorem dX2_goByOneHour_64 : decode cX2_goByOneHour 64 = .ok (.aload_n 0, 1) := by decide +kernel
theorem dX2_goByOneHour_65 : decode cX2_goByOneHour 65 = .ok (.getfield 12, 3) := by decide +kernel
theorem dX2_goByOneHour_68 : decode cX2_goByOneHour 68 = .ok (.invokevirtual 79, 3) := by decide +kernel
theorem dX2_goByOneHour_71 : decode cX2_goByOneHour 71 = .ok (.iadd, 1) := by decide +kernel
theorem dX2_goByOneHour_72 : decode cX2_goByOneHour 72 = .ok (.putfield 40, 3) := by decide +kernel
theorem dX2_goByOneHour_75 : decode cX2_goByOneHour 75 = .ok (.aload_n 0, 1) := by decide +kernel
theorem dX2_goByOneHour_76 : decode cX2_goByOneHour 76 = .ok (.dup, 1) := by decide +kernel
theorem dX2_goByOneHour_77 : decode cX2_goByOneHour 77 = .ok (.getfield 36, 3) := by decide +kernel
theorem dX2_goByOneHour_80 : decode cX2_goByOneHour 80 = .ok (.iconst 1, 1) := by decide +kernel
theorem dX2_goByOneHour_81 : decode cX2_goByOneHour 81 = .ok (.iadd, 1) := by decide +kernel
theorem dX2_goByOneHour_82 : decode cX2_goByOneHour 82 = .ok (.putfield 36, 3) := by decide +kernel
theorem dX2_goByOneHour_85 : decode cX2_goByOneHour 85 = .ok (.return_, 1) := by decide +kernel
theorem dX2_total_0 : decode cX2_total 0 = .ok (.iload_n 1, 1) := by decide +kernel
theorem dX2_total_1 : decode cX2_total 1 = .ok (.tableswitch 117 0 8 #[51, 56, 64, 69, 77, 85, 93, 101, 109], 51) := by decide +kernel
theorem dX2_total_52 : decode cX2_total 52 = .ok (.aload_n 0, 1) := by decide +kernel
theorem dX2_total_53 : decode cX2_total 53 = .ok (.getfield 36, 3) := by decide +kernel
theorem dX2_total_56 : decode cX2_total 56 = .ok (.ireturn, 1) := by decide +kernel
theorem dX2_total_57 : decode cX2_total 57 = .ok (.aload_n 0, 1) := by decide +kernel
theorem dX2_total_58 : decode cX2_total 58 = .ok (.getfield 36, 3) := by decide +kernel
theorem dX2_total_61 : decode cX2_total 61 = .ok (.bipush 24, 2) := by decide +kernel
theorem dX2_total_63 : decode cX2_total 63 = .ok (.irem, 1) := by decide +kernel
theorem dX2_total_64 : decode cX2_total 64 = .ok (.ireturn, 1) := by decide +kernel
theorem dX2_total_65 : decode cX2_total 65 = .ok (.aload_n 0, 1) := by decide +kernel
theorem dX2_total_66 : decode cX2_total 66 = .ok (.getfield 40, 3) := by decide +kernel
theorem dX2_total_69 : decode cX2_total 69 = .ok (.ireturn, 1) := by decide +kernel
theorem dX2_total_70 : decode cX2_total 70 = .ok (.aload_n 0, 1) := by decide +kernel
theorem dX2_total_71 : decode cX2_total 71 = .ok (.getfield 12, 3) := by decide +kernel
theorem dX2_total_74 : decode cX2_total 74 = .ok (.invokevirtual 83, 3) := by decide +kernel
theorem dX2_total_77 : decode cX2_total 77 = .ok (.ireturn, 1) := by decide +kernel
theorem dX2_total_78 : decode cX2_total 78 = .ok (.aload_n 0, 1) := by decide +kernel
theorem dX2_total_79 : decode cX2_total 79 = .ok (.getfield 12, 3) := by decide +kernel
theorem dX2_total_82 : decode cX2_total 82 = .ok (.invokevirtual 86, 3) := by decide +kernel
theorem dX2_total_85 : decode cX2_total 85 = .ok (.ireturn, 1) := by decide +kernel
theorem dX2_total_86 : decode cX2_total 86 = .ok (.aload_n 0, 1) := by decide +kernel
theorem dX2_total_87 : decode cX2_total 87 = .ok (.getfield 12, 3) := by decide +kernel
theorem dX2_total_90 : decode cX2_total 90 = .ok (.invokevirtual 89, 3) := by decide +kernel
theorem dX2_total_93 : decode cX2_total 93 = .ok (.ireturn, 1) := by decide +kernel
theorem dX2_total_94 : decode cX2_total 94 = .ok (.aload_n 0, 1) := by decide +kernel
theorem dX2_total_95 : decode cX2_total 95 = .ok (.getfield 12, 3) := by decide +kernel
theorem dX2_total_98 : decode cX2_total 98 = .ok (.invokevirtual 92, 3) := by decide +kernel
theorem dX2_total_101 : decode cX2_total 101 = .ok (.ireturn, 1) := by decide +kernel
theorem dX2_total_102 : decode cX2_total 102 = .ok (.aload_n 0, 1) := by decide +kernel
theorem dX2_total_103 : decode cX2_total 103 = .ok (.getfield 12, 3) := by decide +kernel
theorem dX2_total_106 : decode cX2_total 106 = .ok (.invokevirtual 95, 3) := by decide +kernel
theorem dX2_total_109 : decode cX2_total 109 = .ok (.ireturn, 1) := by decide +kernel
theorem dX2_total_110 : decode cX2_total 110 = .ok (.aload_n 0, 1) := by decide +kernel
theorem dX2_total_111 : decode cX2_total 111 = .ok (.getfield 28, 3) := by decide +kernel
theorem dX2_total_114 : decode cX2_total 114 = .ok (.invokevirtual 98, 3) := by decide +kernel
theorem dX2_total_117 : decode cX2_total 117 = .ok (.ireturn, 1) := by decide +kernel
theorem dX2_total_118 : decode cX2_total 118 = .ok (.aload_n 0, 1) := by decide +kernel
theorem dX2_total_119 : decode cX2_total 119 = .ok (.getfield 21, 3) := by decide +kernel
theorem dX2_total_122 : decode cX2_total 122 = .ok (.invokevirtual 101, 3) := by decide +kernel
theorem dX2_total_125 : decode cX2_total 125 = .ok (.ireturn, 1) := by decide +kernel
theorem dX3_init_0 : decode cX3_init 0 = .ok (.aload_n 0, 1) := by decide +kernel
theorem dX3_init_1 : decode cX3_init 1 = .ok (.invokespecial 3, 3) := by decide +kernel
theorem dX3_init_4 : decode cX3_init 4 = .ok (.aload_n 0, 1) := by decide +kernel
theorem dX3_init_5 : decode cX3_init 5 = .ok (.bipush 10, 2) := by decide +kernel
theorem dX3_init_7 : decode cX3_init 7 = .ok (.newarray .int, 2) := by decide +kernel
theorem dX3_init_9 : decode cX3_init 9 = .ok (.putfield 9, 3) := by decide +kernel
theorem dX3_init_12 : decode cX3_init 12 = .ok (.aload_n 0, 1) := by decide +kernel
theorem dX3_init_13 : decode cX3_init 13 = .ok (.bipush 10, 2) := by decide +kernel
theorem dX3_init_15 : decode cX3_init 15 = .ok (.newarray .int, 2) := by decide +kernel
theorem dX3_init_17 : decode cX3_init 17 = .ok (.putfield 15, 3) := by decide +kernel
theorem dX3_init_20 : decode cX3_init 20 = .ok (.aload_n 0, 1) := by decide +kernel
theorem dX3_init_21 : decode cX3_init 21 = .ok (.bipush 10, 2) := by decide +kernel
theorem dX3_init_23 : decode cX3_init 23 = .ok (.newarray .boolean, 2) := by decide +kernel
theorem dX3_init_25 : decode cX3_init 25 = .ok (.putfield 18, 3) := by decide +kernel
theorem dX3_init_28 : decode cX3_init 28 = .ok (.aload_n 0, 1) := by decide +kernel
theorem dX3_init_29 : decode cX3_init 29 = .ok (.bipush 10, 2) := by decide +kernel
theorem dX3_init_31 : decode cX3_init 31 = .ok (.newarray .boolean, 2) := by decide +kernel
theorem dX3_init_33 : decode cX3_init 33 = .ok (.putfield 22, 3) := by decide +kernel
theorem dX3_init_36 : decode cX3_init 36 = .ok (.aload_n 0, 1) := by decide +kernel
theorem dX3_init_37 : decode cX3_init 37 = .ok (.bipush 10, 2) := by decide +kernel
theorem dX3_init_39 : decode cX3_init 39 = .ok (.newarray .int, 2) := by decide +kernel
theorem dX3_init_41 : decode cX3_init 41 = .ok (.putfield 25, 3) := by decide +kernel
theorem dX3_init_44 : decode cX3_init 44 = .ok (.aload_n 0, 1) := by decide +kernel
theorem dX3_init_45 : decode cX3_init 45 = .ok (.bipush 10, 2) := by decide +kernel
theorem dX3_init_47 : decode cX3_init 47 = .ok (.newarray .int, 2) := by decide +kernel
theorem dX3_init_49 : decode cX3_init 49 = .ok (.putfield 28, 3) := by decide +kernel
theorem dX3_init_52 : decode cX3_init 52 = .ok (.aload_n 0, 1) := by decide +kernel
theorem dX3_init_53 : decode cX3_init 53 = .ok (.bipush 10, 2) := by decide +kernel
theorem dX3_init_55 : decode cX3_init 55 = .ok (.newarray .int, 2) := by decide +kernel
theorem dX3_init_57 : decode cX3_init 57 = .ok (.putfield 31, 3) := by decide +kernel
theorem dX3_init_60 : decode cX3_init 60 = .ok (.aload_n 0, 1) := by decide +kernel
theorem dX3_init_61 : decode cX3_init 61 = .ok (.iconst 0, 1) := by decide +kernel
theorem dX3_init_62 : decode cX3_init 62 = .ok (.putfield 34, 3) := by decide +kernel
theorem dX3_init_65 : decode cX3_init 65 = .ok (.return_, 1) := by decide +kernel
theorem dX3_add_0 : decode cX3_add 0 = .ok (.aload_n 0, 1) := by decide +kernel
theorem dX3_add_1 : decode cX3_add 1 = .ok (.getfield 34, 3) := by decide +kernel
theorem dX3_add_4 : decode cX3_add 4 = .ok (.istore 5, 2) := by decide +kernel
theorem dX3_add_6 : decode cX3_add 6 = .ok (.aload_n 0, 1) := by decide +kernel
theorem dX3_add_7 : decode cX3_add 7 = .ok (.getfield 9, 3) := by decide +kernel
theorem dX3_add_10 : decode cX3_add 10 = .ok (.iload 5, 2) := by decide +kernel
theorem dX3_add_12 : decode cX3_add 12 = .ok (.iload_n 1, 1) := by decide +kernel
theorem dX3_add_13 : decode cX3_add 13 = .ok (.iastore, 1) := by decide +kernel
theorem dX3_add_14 : decode cX3_add 14 = .ok (.aload_n 0, 1) := by decide +kernel
theorem dX3_add_15 : decode cX3_add 15 = .ok (.getfield 15, 3) := by decide +kernel
theorem dX3_add_18 : decode cX3_add 18 = .ok (.iload 5, 2) := by decide +kernel
theorem dX3_add_20 : decode cX3_add 20 = .ok (.iload_n 2, 1) := by decide +kernel
theorem dX3_add_21 : decode cX3_add 21 = .ok (.iastore, 1) := by decide +kernel
theorem dX3_add_22 : decode cX3_add 22 = .ok (.aload_n 0, 1) := by decide +kernel
theorem dX3_add_23 : decode cX3_add 23 = .ok (.getfield 18, 3) := by decide +kernel
theorem dX3_add_26 : decode cX3_add 26 = .ok (.iload 5, 2) := by decide +kernel
theorem dX3_add_28 : decode cX3_add 28 = .ok (.iload_n 3, 1) := by decide +kernel
theorem dX3_add_29 : decode cX3_add 29 = .ok (.bastore, 1) := by decide +kernel
theorem dX3_add_30 : decode cX3_add 30 = .ok (.aload_n 0, 1) := by decide +kernel
theorem dX3_add_31 : decode cX3_add 31 = .ok (.getfield 22, 3) := by decide +kernel
theorem dX3_add_34 : decode cX3_add 34 = .ok (.iload 5, 2) := by decide +kernel
theorem dX3_add_36 : decode cX3_add 36 = .ok (.iload 4, 2) := by decide +kernel
theorem dX3_add_38 : decode cX3_add 38 = .ok (.bastore, 1) := by decide +kernel
theorem dX3_add_39 : decode cX3_add 39 = .ok (.aload_n 0, 1) := by decide +kernel
theorem dX3_add_40 : decode cX3_add 40 = .ok (.dup, 1) := by decide +kernel
theorem dX3_add_41 : decode cX3_add 41 = .ok (.getfield 34, 3) := by decide +kernel
theorem dX3_add_44 : decode cX3_add 44 = .ok (.iconst 1, 1) := by decide +kernel
theorem dX3_add_45 : decode cX3_add 45 = .ok (.iadd, 1) := by decide +kernel
theorem dX3_add_46 : decode cX3_add 46 = .ok (.putfield 34, 3) := by decide +kernel
theorem dX3_add_49 : decode cX3_add 49 = .ok (.iload 5, 2) := by decide +kernel
theorem dX3_add_51 : decode cX3_add 51 = .ok (.ireturn, 1) := by decide +kernel
theorem dX3_enrol_0 : decode cX3_enrol 0 = .ok (.aload_n 0, 1) := by decide +kernel
theorem dX3_enrol_1 : decode cX3_enrol 1 = .ok (.getfield 18, 3) := by decide +kernel
theorem dX3_enrol_4 : decode cX3_enrol 4 = .ok (.iload_n 1, 1) := by decide +kernel
theorem dX3_enrol_5 : decode cX3_enrol 5 = .ok (.baload, 1) := by decide +kernel
theorem dX3_enrol_6 : decode cX3_enrol 6 = .ok (.ifCond .eq 7, 3) := by decide +kernel
theorem dX3_enrol_9 : decode cX3_enrol 9 = .ok (.iconst 1, 1) := by decide +kernel
theorem dX3_enrol_10 : decode cX3_enrol 10 = .ok (.goto 4, 3) := by decide +kernel
theorem dX3_enrol_13 : decode cX3_enrol 13 = .ok (.iconst 0, 1) := by decide +kernel
theorem dX3_enrol_14 : decode cX3_enrol 14 = .ok (.aload_n 0, 1) := by decide +kernel
theorem dX3_enrol_15 : decode cX3_enrol 15 = .ok (.getfield 22, 3) := by decide +kernel
theorem dX3_enrol_18 : decode cX3_enrol 18 = .ok (.iload_n 1, 1) := by decide +kernel
theorem dX3_enrol_19 : decode cX3_enrol 19 = .ok (.baload, 1) := by decide +kernel
theorem dX3_enrol_20 : decode cX3_enrol 20 = .ok (.ifCond .eq 7, 3) := by decide +kernel
theorem dX3_enrol_23 : decode cX3_enrol 23 = .ok (.iconst 2, 1) := by decide +kernel
theorem dX3_enrol_24 : decode cX3_enrol 24 = .ok (.goto 4, 3) := by decide +kernel
theorem dX3_enrol_27 : decode cX3_enrol 27 = .ok (.iconst 0, 1) := by decide +kernel
theorem dX3_enrol_28 : decode cX3_enrol 28 = .ok (.iadd, 1) := by decide +kernel
theorem dX3_enrol_29 : decode cX3_enrol 29 = .ok (.istore 4, 2) := by decide +kernel
theorem dX3_enrol_31 : decode cX3_enrol 31 = .ok (.aload_n 0, 1) := by decide +kernel
theorem dX3_enrol_32 : decode cX3_enrol 32 = .ok (.getfield 18, 3) := by decide +kernel
theorem dX3_enrol_35 : decode cX3_enrol 35 = .ok (.iload_n 1, 1) := by decide +kernel
theorem dX3_enrol_36 : decode cX3_enrol 36 = .ok (.iload_n 2, 1) := by decide +kernel
theorem dX3_enrol_37 : decode cX3_enrol 37 = .ok (.bastore, 1) := by decide +kernel
theorem dX3_enrol_38 : decode cX3_enrol 38 = .ok (.aload_n 0, 1) := by decide +kernel
theorem dX3_enrol_39 : decode cX3_enrol 39 = .ok (.getfield 22, 3) := by decide +kernel
theorem dX3_enrol_42 : decode cX3_enrol 42 = .ok (.iload_n 1, 1) := by decide +kernel
theorem dX3_enrol_43 : decode cX3_enrol 43 = .ok (.iload_n 3, 1) := by decide +kernel
theorem dX3_enrol_44 : decode cX3_enrol 44 = .ok (.bastore, 1) := by decide +kernel
theorem dX3_enrol_45 : decode cX3_enrol 45 = .ok (.iload 4, 2) := by decide +kernel
theorem dX3_enrol_47 : decode cX3_enrol 47 = .ok (.ireturn, 1) := by decide +kernel
theorem dX3_fact_0 : decode cX3_fact 0 = .ok (.iload_n 2, 1) := by decide +kernel
theorem dX3_fact_1 : decode cX3_fact 1 = .ok (.tableswitch 97 0 5 #[39, 46, 53, 68, 83, 90], 39) := by decide +kernel
theorem dX3_fact_40 : decode cX3_fact 40 = .ok (.aload_n 0, 1) := by decide +kernel
theorem dX3_fact_41 : decode cX3_fact 41 = .ok (.getfield 9, 3) := by decide +kernel
theorem dX3_fact_44 : decode cX3_fact 44 = .ok (.iload_n 1, 1) := by decide +kernel
theorem dX3_fact_45 : decode cX3_fact 45 = .ok (.iaload, 1) := by decide +kernel
theorem dX3_fact_46 : decode cX3_fact 46 = .ok (.ireturn, 1) := by decide +kernel
theorem dX3_fact_47 : decode cX3_fact 47 = .ok (.aload_n 0, 1) := by decide +kernel
theorem dX3_fact_48 : decode cX3_fact 48 = .ok (.getfield 15, 3) := by decide +kernel
theorem dX3_fact_51 : decode cX3_fact 51 = .ok (.iload_n 1, 1) := by decide +kernel
theorem dX3_fact_52 : decode cX3_fact 52 = .ok (.iaload, 1) := by decide +kernel
theorem dX3_fact_53 : decode cX3_fact 53 = .ok (.ireturn, 1) := by decide +kernel
theorem dX3_fact_54 : decode cX3_fact 54 = .ok (.aload_n 0, 1) := by decide +kernel
theorem dX3_fact_55 : decode cX3_fact 55 = .ok (.getfield 18, 3) := by decide +kernel
theorem dX3_fact_58 : decode cX3_fact 58 = .ok (.iload_n 1, 1) := by decide +kernel
theorem dX3_fact_59 : decode cX3_fact 59 = .ok (.baload, 1) := by decide +kernel
theorem dX3_fact_60 : decode cX3_fact 60 = .ok (.ifCond .eq 7, 3) := by decide +kernel
theorem dX3_fact_63 : decode cX3_fact 63 = .ok (.iconst 1, 1) := by decide +kernel
theorem dX3_fact_64 : decode cX3_fact 64 = .ok (.goto 4, 3) := by decide +kernel
theorem dX3_fact_67 : decode cX3_fact 67 = .ok (.iconst 0, 1) := by decide +kernel
theorem dX3_fact_68 : decode cX3_fact 68 = .ok (.ireturn, 1) := by decide +kernel
theorem dX3_fact_69 : decode cX3_fact 69 = .ok (.aload_n 0, 1) := by decide +kernel
theorem dX3_fact_70 : decode cX3_fact 70 = .ok (.getfield 22, 3) := by decide +kernel
theorem dX3_fact_73 : decode cX3_fact 73 = .ok (.iload_n 1, 1) := by decide +kernel
theorem dX3_fact_74 : decode cX3_fact 74 = .ok (.baload, 1) := by decide +kernel
theorem dX3_fact_75 : decode cX3_fact 75 = .ok (.ifCond .eq 7, 3) := by decide +kernel
theorem dX3_fact_78 : decode cX3_fact 78 = .ok (.iconst 1, 1) := by decide +kernel
theorem dX3_fact_79 : decode cX3_fact 79 = .ok (.goto 4, 3) := by decide +kernel
theorem dX3_fact_82 : decode cX3_fact 82 = .ok (.iconst 0, 1) := by decide +kernel
theorem dX3_fact_83 : decode cX3_fact 83 = .ok (.ireturn, 1) := by decide +kernel
theorem dX3_fact_84 : decode cX3_fact 84 = .ok (.aload_n 0, 1) := by decide +kernel
theorem dX3_fact_85 : decode cX3_fact 85 = .ok (.getfield 25, 3) := by decide +kernel
theorem dX3_fact_88 : decode cX3_fact 88 = .ok (.iload_n 1, 1) := by decide +kernel
theorem dX3_fact_89 : decode cX3_fact 89 = .ok (.iaload, 1) := by decide +kernel
theorem dX3_fact_90 : decode cX3_fact 90 = .ok (.ireturn, 1) := by decide +kernel
theorem dX3_fact_91 : decode cX3_fact 91 = .ok (.aload_n 0, 1) := by decide +kernel
theorem dX3_fact_92 : decode cX3_fact 92 = .ok (.getfield 28, 3) := by decide +kernel
theorem dX3_fact_95 : decode cX3_fact 95 = .ok (.iload_n 1, 1) := by decide +kernel
theorem dX3_fact_96 : decode cX3_fact 96 = .ok (.iaload, 1) := by decide +kernel
theorem dX3_fact_97 : decode cX3_fact 97 = .ok (.ireturn, 1) := by decide +kernel
theorem dX3_fact_98 : decode cX3_fact 98 = .ok (.aload_n 0, 1) := by decide +kernel
theorem dX3_fact_99 : decode cX3_fact 99 = .ok (.getfield 31, 3) := by decide +kernel
theorem dX3_fact_102 : decode cX3_fact 102 = .ok (.iload_n 1, 1) := by decide +kernel
theorem dX3_fact_103 : decode cX3_fact 103 = .ok (.iaload, 1) := by decide +kernel
theorem dX3_fact_104 : decode cX3_fact 104 = .ok (.ireturn, 1) := by decide +kernel
theorem dX3_hearShot_0 : decode cX3_hearShot 0 = .ok (.iconst 0, 1) := by decide +kernel
theorem dX3_hearShot_1 : decode cX3_hearShot 1 = .ok (.istore_n 2, 1) := by decide +kernel
theorem dX3_hearShot_2 : decode cX3_hearShot 2 = .ok (.iload_n 2, 1) := by decide +kernel
theorem dX3_hearShot_3 : decode cX3_hearShot 3 = .ok (.aload_n 0, 1) := by decide +kernel
theorem dX3_hearShot_4 : decode cX3_hearShot 4 = .ok (.getfield 34, 3) := by decide +kernel
theorem dX3_hearShot_7 : decode cX3_hearShot 7 = .ok (.if_icmp .ge 43, 3) := by decide +kernel
theorem dX3_hearShot_10 : decode cX3_hearShot 10 = .ok (.aload_n 0, 1) := by decide +kernel
theorem dX3_hearShot_11 : decode cX3_hearShot 11 = .ok (.getfield 18, 3) := by decide +kernel
theorem dX3_hearShot_14 : decode cX3_hearShot 14 = .ok (.iload_n 2, 1) := by decide +kernel
theorem dX3_hearShot_15 : decode cX3_hearShot 15 = .ok (.baload, 1) := by decide +kernel
theorem dX3_hearShot_16 : decode cX3_hearShot 16 = .ok (.ifCond .ne 28, 3) := by decide +kernel
theorem dX3_hearShot_19 : decode cX3_hearShot 19 = .ok (.aload_n 0, 1) := by decide +kernel
theorem dX3_hearShot_20 : decode cX3_hearShot 20 = .ok (.getfield 9, 3) := by decide +kernel
theorem dX3_hearShot_23 : decode cX3_hearShot 23 = .ok (.iload_n 2, 1) := by decide +kernel
theorem dX3_hearShot_24 : decode cX3_hearShot 24 = .ok (.iaload, 1) := by decide +kernel
theorem dX3_hearShot_25 : decode cX3_hearShot 25 = .ok (.iload_n 1, 1) := by decide +kernel
theorem dX3_hearShot_26 : decode cX3_hearShot 26 = .ok (.isub, 1) := by decide +kernel
theorem dX3_hearShot_27 : decode cX3_hearShot 27 = .ok (.invokestatic 38, 3) := by decide +kernel
theorem dX3_hearShot_30 : decode cX3_hearShot 30 = .ok (.iconst 2, 1) := by decide +kernel
theorem dX3_hearShot_31 : decode cX3_hearShot 31 = .ok (.if_icmp .gt 13, 3) := by decide +kernel
theorem dX3_hearShot_34 : decode cX3_hearShot 34 = .ok (.aload_n 0, 1) := by decide +kernel
theorem dX3_hearShot_35 : decode cX3_hearShot 35 = .ok (.getfield 28, 3) := by decide +kernel
theorem dX3_hearShot_38 : decode cX3_hearShot 38 = .ok (.iload_n 2, 1) := by decide +kernel
theorem dX3_hearShot_39 : decode cX3_hearShot 39 = .ok (.dup2, 1) := by decide +kernel
theorem dX3_hearShot_40 : decode cX3_hearShot 40 = .ok (.iaload, 1) := by decide +kernel
theorem dX3_hearShot_41 : decode cX3_hearShot 41 = .ok (.iconst 1, 1) := by decide +kernel
theorem dX3_hearShot_42 : decode cX3_hearShot 42 = .ok (.iadd, 1) := by decide +kernel
theorem dX3_hearShot_43 : decode cX3_hearShot 43 = .ok (.iastore, 1) := by decide +kernel
theorem dX3_hearShot_44 : decode cX3_hearShot 44 = .ok (.iinc 2 1, 3) := by decide +kernel
theorem dX3_hearShot_47 : decode cX3_hearShot 47 = .ok (.goto (-45), 3) := by decide +kernel
theorem dX3_hearShot_50 : decode cX3_hearShot 50 = .ok (.return_, 1) := by decide +kernel
theorem dX3_takeHail_0 : decode cX3_takeHail 0 = .ok (.iconst 0, 1) := by decide +kernel
theorem dX3_takeHail_1 : decode cX3_takeHail 1 = .ok (.istore_n 3, 1) := by decide +kernel
theorem dX3_takeHail_2 : decode cX3_takeHail 2 = .ok (.iload_n 3, 1) := by decide +kernel
theorem dX3_takeHail_3 : decode cX3_takeHail 3 = .ok (.aload_n 0, 1) := by decide +kernel
theorem dX3_takeHail_4 : decode cX3_takeHail 4 = .ok (.getfield 34, 3) := by decide +kernel
theorem dX3_takeHail_7 : decode cX3_takeHail 7 = .ok (.if_icmp .ge 66, 3) := by decide +kernel
theorem dX3_takeHail_10 : decode cX3_takeHail 10 = .ok (.aload_n 0, 1) := by decide +kernel
theorem dX3_takeHail_11 : decode cX3_takeHail 11 = .ok (.getfield 9, 3) := by decide +kernel
theorem dX3_takeHail_14 : decode cX3_takeHail 14 = .ok (.iload_n 3, 1) := by decide +kernel
theorem dX3_takeHail_15 : decode cX3_takeHail 15 = .ok (.iaload, 1) := by decide +kernel
theorem dX3_takeHail_16 : decode cX3_takeHail 16 = .ok (.iload_n 1, 1) := by decide +kernel
theorem dX3_takeHail_17 : decode cX3_takeHail 17 = .ok (.if_icmp .ne 50, 3) := by decide +kernel
theorem dX3_takeHail_20 : decode cX3_takeHail 20 = .ok (.iconst 2, 1) := by decide +kernel
theorem dX3_takeHail_21 : decode cX3_takeHail 21 = .ok (.iload_n 2, 1) := by decide +kernel
theorem dX3_takeHail_22 : decode cX3_takeHail 22 = .ok (.imul, 1) := by decide +kernel
theorem dX3_takeHail_23 : decode cX3_takeHail 23 = .ok (.aload_n 0, 1) := by decide +kernel
theorem dX3_takeHail_24 : decode cX3_takeHail 24 = .ok (.getfield 15, 3) := by decide +kernel
theorem dX3_takeHail_27 : decode cX3_takeHail 27 = .ok (.iload_n 3, 1) := by decide +kernel
theorem dX3_takeHail_28 : decode cX3_takeHail 28 = .ok (.iaload, 1) := by decide +kernel
theorem dX3_takeHail_29 : decode cX3_takeHail 29 = .ok (.invokestatic 44, 3) := by decide +kernel
theorem dX3_takeHail_32 : decode cX3_takeHail 32 = .ok (.istore 4, 2) := by decide +kernel
theorem dX3_takeHail_34 : decode cX3_takeHail 34 = .ok (.aload_n 0, 1) := by decide +kernel
theorem dX3_takeHail_35 : decode cX3_takeHail 35 = .ok (.getfield 15, 3) := by decide +kernel
theorem dX3_takeHail_38 : decode cX3_takeHail 38 = .ok (.iload_n 3, 1) := by decide +kernel
theorem dX3_takeHail_39 : decode cX3_takeHail 39 = .ok (.dup2, 1) := by decide +kernel
theorem dX3_takeHail_40 : decode cX3_takeHail 40 = .ok (.iaload, 1) := by decide +kernel
theorem dX3_takeHail_41 : decode cX3_takeHail 41 = .ok (.iload 4, 2) := by decide +kernel
theorem dX3_takeHail_43 : decode cX3_takeHail 43 = .ok (.isub, 1) := by decide +kernel
theorem dX3_takeHail_44 : decode cX3_takeHail 44 = .ok (.iastore, 1) := by decide +kernel
theorem dX3_takeHail_45 : decode cX3_takeHail 45 = .ok (.aload_n 0, 1) := by decide +kernel
theorem dX3_takeHail_46 : decode cX3_takeHail 46 = .ok (.getfield 25, 3) := by decide +kernel
theorem dX3_takeHail_49 : decode cX3_takeHail 49 = .ok (.iload_n 3, 1) := by decide +kernel
theorem dX3_takeHail_50 : decode cX3_takeHail 50 = .ok (.dup2, 1) := by decide +kernel
theorem dX3_takeHail_51 : decode cX3_takeHail 51 = .ok (.iaload, 1) := by decide +kernel
theorem dX3_takeHail_52 : decode cX3_takeHail 52 = .ok (.iload 4, 2) := by decide +kernel
theorem dX3_takeHail_54 : decode cX3_takeHail 54 = .ok (.iadd, 1) := by decide +kernel
theorem dX3_takeHail_55 : decode cX3_takeHail 55 = .ok (.iastore, 1) := by decide +kernel
theorem dX3_takeHail_56 : decode cX3_takeHail 56 = .ok (.aload_n 0, 1) := by decide +kernel
theorem dX3_takeHail_57 : decode cX3_takeHail 57 = .ok (.getfield 31, 3) := by decide +kernel
theorem dX3_takeHail_60 : decode cX3_takeHail 60 = .ok (.iload_n 3, 1) := by decide +kernel
theorem dX3_takeHail_61 : decode cX3_takeHail 61 = .ok (.dup2, 1) := by decide +kernel
theorem dX3_takeHail_62 : decode cX3_takeHail 62 = .ok (.iaload, 1) := by decide +kernel
theorem dX3_takeHail_63 : decode cX3_takeHail 63 = .ok (.iload 4, 2) := by decide +kernel
theorem dX3_takeHail_65 : decode cX3_takeHail 65 = .ok (.iadd, 1) := by decide +kernel
theorem dX3_takeHail_66 : decode cX3_takeHail 66 = .ok (.iastore, 1) := by decide +kernel
theorem dX3_takeHail_67 : decode cX3_takeHail 67 = .ok (.iinc 3 1, 3) := by decide +kernel
theorem dX3_takeHail_70 : decode cX3_takeHail 70 = .ok (.goto (-68), 3) := by decide +kernel
theorem dX3_takeHail_73 : decode cX3_takeHail 73 = .ok (.return_, 1) := by decide +kernel
theorem dX3_closeDay_0 : decode cX3_closeDay 0 = .ok (.iconst 0, 1) := by decide +kernel
theorem dX3_closeDay_1 : decode cX3_closeDay 1 = .ok (.istore_n 1, 1) := by decide +kernel
theorem dX3_closeDay_2 : decode cX3_closeDay 2 = .ok (.iconst 0, 1) := by decide +kernel
theorem dX3_closeDay_3 : decode cX3_closeDay 3 = .ok (.istore_n 2, 1) := by decide +kernel
theorem dX3_closeDay_4 : decode cX3_closeDay 4 = .ok (.iload_n 2, 1) := by decide +kernel
theorem dX3_closeDay_5 : decode cX3_closeDay 5 = .ok (.aload_n 0, 1) := by decide +kernel
theorem dX3_closeDay_6 : decode cX3_closeDay 6 = .ok (.getfield 34, 3) := by decide +kernel
theorem dX3_closeDay_9 : decode cX3_closeDay 9 = .ok (.if_icmp .ge 85, 3) := by decide +kernel
theorem dX3_closeDay_12 : decode cX3_closeDay 12 = .ok (.aload_n 0, 1) := by decide +kernel
theorem dX3_closeDay_13 : decode cX3_closeDay 13 = .ok (.getfield 22, 3) := by decide +kernel
theorem dX3_closeDay_16 : decode cX3_closeDay 16 = .ok (.iload_n 2, 1) := by decide +kernel
theorem dX3_closeDay_17 : decode cX3_closeDay 17 = .ok (.baload, 1) := by decide +kernel
theorem dX3_closeDay_18 : decode cX3_closeDay 18 = .ok (.ifCond .eq 16, 3) := by decide +kernel
theorem dX3_closeDay_21 : decode cX3_closeDay 21 = .ok (.iload_n 1, 1) := by decide +kernel
theorem dX3_closeDay_22 : decode cX3_closeDay 22 = .ok (.iconst 1, 1) := by decide +kernel
theorem dX3_closeDay_23 : decode cX3_closeDay 23 = .ok (.aload_n 0, 1) := by decide +kernel
theorem dX3_closeDay_24 : decode cX3_closeDay 24 = .ok (.getfield 25, 3) := by decide +kernel
theorem dX3_closeDay_27 : decode cX3_closeDay 27 = .ok (.iload_n 2, 1) := by decide +kernel
theorem dX3_closeDay_28 : decode cX3_closeDay 28 = .ok (.iaload, 1) := by decide +kernel
theorem dX3_closeDay_29 : decode cX3_closeDay 29 = .ok (.iconst 2, 1) := by decide +kernel
theorem dX3_closeDay_30 : decode cX3_closeDay 30 = .ok (.idiv, 1) := by decide +kernel
theorem dX3_closeDay_31 : decode cX3_closeDay 31 = .ok (.isub, 1) := by decide +kernel
theorem dX3_closeDay_32 : decode cX3_closeDay 32 = .ok (.iadd, 1) := by decide +kernel
theorem dX3_closeDay_33 : decode cX3_closeDay 33 = .ok (.istore_n 1, 1) := by decide +kernel
theorem dX3_closeDay_34 : decode cX3_closeDay 34 = .ok (.iload_n 1, 1) := by decide +kernel
theorem dX3_closeDay_35 : decode cX3_closeDay 35 = .ok (.aload_n 0, 1) := by decide +kernel
theorem dX3_closeDay_36 : decode cX3_closeDay 36 = .ok (.getfield 28, 3) := by decide +kernel
theorem dX3_closeDay_39 : decode cX3_closeDay 39 = .ok (.iload_n 2, 1) := by decide +kernel
theorem dX3_closeDay_40 : decode cX3_closeDay 40 = .ok (.iaload, 1) := by decide +kernel
theorem dX3_closeDay_41 : decode cX3_closeDay 41 = .ok (.isub, 1) := by decide +kernel
theorem dX3_closeDay_42 : decode cX3_closeDay 42 = .ok (.istore_n 1, 1) := by decide +kernel
theorem dX3_closeDay_43 : decode cX3_closeDay 43 = .ok (.aload_n 0, 1) := by decide +kernel
theorem dX3_closeDay_44 : decode cX3_closeDay 44 = .ok (.getfield 25, 3) := by decide +kernel
theorem dX3_closeDay_47 : decode cX3_closeDay 47 = .ok (.iload_n 2, 1) := by decide +kernel
theorem dX3_closeDay_48 : decode cX3_closeDay 48 = .ok (.iconst 0, 1) := by decide +kernel
theorem dX3_closeDay_49 : decode cX3_closeDay 49 = .ok (.iastore, 1) := by decide +kernel
theorem dX3_closeDay_50 : decode cX3_closeDay 50 = .ok (.aload_n 0, 1) := by decide +kernel
theorem dX3_closeDay_51 : decode cX3_closeDay 51 = .ok (.getfield 28, 3) := by decide +kernel
theorem dX3_closeDay_54 : decode cX3_closeDay 54 = .ok (.iload_n 2, 1) := by decide +kernel
theorem dX3_closeDay_55 : decode cX3_closeDay 55 = .ok (.iconst 0, 1) := by decide +kernel
theorem dX3_closeDay_56 : decode cX3_closeDay 56 = .ok (.iastore, 1) := by decide +kernel
theorem dX3_closeDay_57 : decode cX3_closeDay 57 = .ok (.aload_n 0, 1) := by decide +kernel
theorem dX3_closeDay_58 : decode cX3_closeDay 58 = .ok (.getfield 15, 3) := by decide +kernel
theorem dX3_closeDay_61 : decode cX3_closeDay 61 = .ok (.iload_n 2, 1) := by decide +kernel
theorem dX3_closeDay_62 : decode cX3_closeDay 62 = .ok (.iaload, 1) := by decide +kernel
theorem dX3_closeDay_63 : decode cX3_closeDay 63 = .ok (.iconst 1, 1) := by decide +kernel
theorem dX3_closeDay_64 : decode cX3_closeDay 64 = .ok (.if_icmp .lt 24, 3) := by decide +kernel
theorem dX3_closeDay_67 : decode cX3_closeDay 67 = .ok (.aload_n 0, 1) := by decide +kernel
theorem dX3_closeDay_68 : decode cX3_closeDay 68 = .ok (.getfield 15, 3) := by decide +kernel
theorem dX3_closeDay_71 : decode cX3_closeDay 71 = .ok (.iload_n 2, 1) := by decide +kernel
theorem dX3_closeDay_72 : decode cX3_closeDay 72 = .ok (.iaload, 1) := by decide +kernel
theorem dX3_closeDay_73 : decode cX3_closeDay 73 = .ok (.bipush 99, 2) := by decide +kernel
theorem dX3_closeDay_75 : decode cX3_closeDay 75 = .ok (.if_icmp .ge 13, 3) := by decide +kernel
theorem dX3_closeDay_78 : decode cX3_closeDay 78 = .ok (.aload_n 0, 1) := by decide +kernel
theorem dX3_closeDay_79 : decode cX3_closeDay 79 = .ok (.getfield 15, 3) := by decide +kernel
theorem dX3_closeDay_82 : decode cX3_closeDay 82 = .ok (.iload_n 2, 1) := by decide +kernel
theorem dX3_closeDay_83 : decode cX3_closeDay 83 = .ok (.dup2, 1) := by decide +kernel
theorem dX3_closeDay_84 : decode cX3_closeDay 84 = .ok (.iaload, 1) := by decide +kernel
theorem dX3_closeDay_85 : decode cX3_closeDay 85 = .ok (.iconst 1, 1) := by decide +kernel
theorem dX3_closeDay_86 : decode cX3_closeDay 86 = .ok (.iadd, 1) := by decide +kernel
theorem dX3_closeDay_87 : decode cX3_closeDay 87 = .ok (.iastore, 1) := by decide +kernel
theorem dX3_closeDay_88 : decode cX3_closeDay 88 = .ok (.iinc 2 1, 3) := by decide +kernel
theorem dX3_closeDay_91 : decode cX3_closeDay 91 = .ok (.goto (-87), 3) := by decide +kernel
theorem dX3_closeDay_94 : decode cX3_closeDay 94 = .ok (.iload_n 1, 1) := by decide +kernel
theorem dX3_closeDay_95 : decode cX3_closeDay 95 = .ok (.ireturn, 1) := by decide +kernel
theorem dX3_sumOfVines_0 : decode cX3_sumOfVines 0 = .ok (.aload_n 0, 1) := by decide +kernel
theorem dX3_sumOfVines_1 : decode cX3_sumOfVines 1 = .ok (.aload_n 0, 1) := by decide +kernel
theorem dX3_sumOfVines_2 : decode cX3_sumOfVines 2 = .ok (.getfield 15, 3) := by decide +kernel
theorem dX3_sumOfVines_5 : decode cX3_sumOfVines 5 = .ok (.invokevirtual 48, 3) := by decide +kernel
theorem dX3_sumOfVines_8 : decode cX3_sumOfVines 8 = .ok (.ireturn, 1) := by decide +kernel
theorem dX3_sumOfLostInAll_0 : decode cX3_sumOfLostInAll 0 = .ok (.aload_n 0, 1) := by decide +kernel
theorem dX3_sumOfLostInAll_1 : decode cX3_sumOfLostInAll 1 = .ok (.aload_n 0, 1) := by decide +kernel
theorem dX3_sumOfLostInAll_2 : decode cX3_sumOfLostInAll 2 = .ok (.getfield 31, 3) := by decide +kernel
theorem dX3_sumOfLostInAll_5 : decode cX3_sumOfLostInAll 5 = .ok (.invokevirtual 48, 3) := by decide +kernel
theorem dX3_sumOfLostInAll_8 : decode cX3_sumOfLostInAll 8 = .ok (.ireturn, 1) := by decide +kernel
theorem dX3_sumOfSuits_0 : decode cX3_sumOfSuits 0 = .ok (.aload_n 0, 1) := by decide +kernel
theorem dX3_sumOfSuits_1 : decode cX3_sumOfSuits 1 = .ok (.aload_n 0, 1) := by decide +kernel
theorem dX3_sumOfSuits_2 : decode cX3_sumOfSuits 2 = .ok (.getfield 28, 3) := by decide +kernel
theorem dX3_sumOfSuits_5 : decode cX3_sumOfSuits 5 = .ok (.invokevirtual 48, 3) := by decide +kernel
theorem dX3_sumOfSuits_8 : decode cX3_sumOfSuits 8 = .ok (.ireturn, 1) := by decide +kernel
theorem dX3_members_0 : decode cX3_members 0 = .ok (.aload_n 0, 1) := by decide +kernel
theorem dX3_members_1 : decode cX3_members 1 = .ok (.aload_n 0, 1) := by decide +kernel
theorem dX3_members_2 : decode cX3_members 2 = .ok (.getfield 18, 3) := by decide +kernel
theorem dX3_members_5 : decode cX3_members 5 = .ok (.invokevirtual 52, 3) := by decide +kernel
theorem dX3_members_8 : decode cX3_members 8 = .ok (.ireturn, 1) := by decide +kernel
theorem dX3_insuredOnes_0 : decode cX3_insuredOnes 0 = .ok (.aload_n 0, 1) := by decide +kernel
theorem dX3_insuredOnes_1 : decode cX3_insuredOnes 1 = .ok (.aload_n 0, 1) := by decide +kernel
theorem dX3_insuredOnes_2 : decode cX3_insuredOnes 2 = .ok (.getfield 22, 3) := by decide +kernel
theorem dX3_insuredOnes_5 : decode cX3_insuredOnes 5 = .ok (.invokevirtual 52, 3) := by decide +kernel
theorem dX3_insuredOnes_8 : decode cX3_insuredOnes 8 = .ok (.ireturn, 1) := by decide +kernel
theorem dX3_sum_0 : decode cX3_sum 0 = .ok (.iconst 0, 1) := by decide +kernel
theorem dX3_sum_1 : decode cX3_sum 1 = .ok (.istore_n 2, 1) := by decide +kernel
theorem dX3_sum_2 : decode cX3_sum 2 = .ok (.iconst 0, 1) := by decide +kernel
theorem dX3_sum_3 : decode cX3_sum 3 = .ok (.istore_n 3, 1) := by decide +kernel
theorem dX3_sum_4 : decode cX3_sum 4 = .ok (.iload_n 3, 1) := by decide +kernel
theorem dX3_sum_5 : decode cX3_sum 5 = .ok (.aload_n 0, 1) := by decide +kernel
theorem dX3_sum_6 : decode cX3_sum 6 = .ok (.getfield 34, 3) := by decide +kernel
theorem dX3_sum_9 : decode cX3_sum 9 = .ok (.if_icmp .ge 15, 3) := by decide +kernel
theorem dX3_sum_12 : decode cX3_sum 12 = .ok (.iload_n 2, 1) := by decide +kernel
theorem dX3_sum_13 : decode cX3_sum 13 = .ok (.aload_n 1, 1) := by decide +kernel
theorem dX3_sum_14 : decode cX3_sum 14 = .ok (.iload_n 3, 1) := by decide +kernel
theorem dX3_sum_15 : decode cX3_sum 15 = .ok (.iaload, 1) := by decide +kernel
theorem dX3_sum_16 : decode cX3_sum 16 = .ok (.iadd, 1) := by decide +kernel
theorem dX3_sum_17 : decode cX3_sum 17 = .ok (.istore_n 2, 1) := by decide +kernel
theorem dX3_sum_18 : decode cX3_sum 18 = .ok (.iinc 3 1, 3) := by decide +kernel
theorem dX3_sum_21 : decode cX3_sum 21 = .ok (.goto (-17), 3) := by decide +kernel
theorem dX3_sum_24 : decode cX3_sum 24 = .ok (.iload_n 2, 1) := by decide +kernel
theorem dX3_sum_25 : decode cX3_sum 25 = .ok (.ireturn, 1) := by decide +kernel
theorem dX3_howManyAre_0 : decode cX3_howManyAre 0 = .ok (.iconst 0, 1) := by decide +kernel
theorem dX3_howManyAre_1 : decode cX3_howManyAre 1 = .ok (.istore_n 2, 1) := by decide +kernel
theorem dX3_howManyAre_2 : decode cX3_howManyAre 2 = .ok (.iconst 0, 1) := by decide +kernel
theorem dX3_howManyAre_3 : decode cX3_howManyAre 3 = .ok (.istore_n 3, 1) := by decide +kernel
theorem dX3_howManyAre_4 : decode cX3_howManyAre 4 = .ok (.iload_n 3, 1) := by decide +kernel
theorem dX3_howManyAre_5 : decode cX3_howManyAre 5 = .ok (.aload_n 0, 1) := by decide +kernel
theorem dX3_howManyAre_6 : decode cX3_howManyAre 6 = .ok (.getfield 34, 3) := by decide +kernel
theorem dX3_howManyAre_9 : decode cX3_howManyAre 9 = .ok (.if_icmp .ge 18, 3) := by decide +kernel
theorem dX3_howManyAre_12 : decode cX3_howManyAre 12 = .ok (.aload_n 1, 1) := by decide +kernel
theorem dX3_howManyAre_13 : decode cX3_howManyAre 13 = .ok (.iload_n 3, 1) := by decide +kernel
theorem dX3_howManyAre_14 : decode cX3_howManyAre 14 = .ok (.baload, 1) := by decide +kernel
theorem dX3_howManyAre_15 : decode cX3_howManyAre 15 = .ok (.ifCond .eq 6, 3) := by decide +kernel
theorem dX3_howManyAre_18 : decode cX3_howManyAre 18 = .ok (.iinc 2 1, 3) := by decide +kernel
theorem dX3_howManyAre_21 : decode cX3_howManyAre 21 = .ok (.iinc 3 1, 3) := by decide +kernel
theorem dX3_howManyAre_24 : decode cX3_howManyAre 24 = .ok (.goto (-20), 3) := by decide +kernel
theorem dX3_howManyAre_27 : decode cX3_howManyAre 27 = .ok (.iload_n 2, 1) := by decide +kernel
theorem dX3_howManyAre_28 : decode cX3_howManyAre 28 = .ok (.ireturn, 1) := by decide +kernel
theorem dX3_copyFrom_0 : decode cX3_copyFrom 0 = .ok (.aload_n 1, 1) := by decide +kernel
theorem dX3_copyFrom_1 : decode cX3_copyFrom 1 = .ok (.getfield 9, 3) := by decide +kernel
theorem dX3_copyFrom_4 : decode cX3_copyFrom 4 = .ok (.iconst 0, 1) := by decide +kernel
theorem dX3_copyFrom_5 : decode cX3_copyFrom 5 = .ok (.aload_n 0, 1) := by decide +kernel
theorem dX3_copyFrom_6 : decode cX3_copyFrom 6 = .ok (.getfield 9, 3) := by decide +kernel
theorem dX3_copyFrom_9 : decode cX3_copyFrom 9 = .ok (.iconst 0, 1) := by decide +kernel
theorem dX3_copyFrom_10 : decode cX3_copyFrom 10 = .ok (.bipush 10, 2) := by decide +kernel
theorem dX3_copyFrom_12 : decode cX3_copyFrom 12 = .ok (.invokestatic 56, 3) := by decide +kernel
theorem dX3_copyFrom_15 : decode cX3_copyFrom 15 = .ok (.aload_n 1, 1) := by decide +kernel
theorem dX3_copyFrom_16 : decode cX3_copyFrom 16 = .ok (.getfield 15, 3) := by decide +kernel
theorem dX3_copyFrom_19 : decode cX3_copyFrom 19 = .ok (.iconst 0, 1) := by decide +kernel
theorem dX3_copyFrom_20 : decode cX3_copyFrom 20 = .ok (.aload_n 0, 1) := by decide +kernel
theorem dX3_copyFrom_21 : decode cX3_copyFrom 21 = .ok (.getfield 15, 3) := by decide +kernel
theorem dX3_copyFrom_24 : decode cX3_copyFrom 24 = .ok (.iconst 0, 1) := by decide +kernel
theorem dX3_copyFrom_25 : decode cX3_copyFrom 25 = .ok (.bipush 10, 2) := by decide +kernel
theorem dX3_copyFrom_27 : decode cX3_copyFrom 27 = .ok (.invokestatic 56, 3) := by decide +kernel
theorem dX3_copyFrom_30 : decode cX3_copyFrom 30 = .ok (.aload_n 1, 1) := by decide +kernel
theorem dX3_copyFrom_31 : decode cX3_copyFrom 31 = .ok (.getfield 25, 3) := by decide +kernel
theorem dX3_copyFrom_34 : decode cX3_copyFrom 34 = .ok (.iconst 0, 1) := by decide +kernel
theorem dX3_copyFrom_35 : decode cX3_copyFrom 35 = .ok (.aload_n 0, 1) := by decide +kernel
theorem dX3_copyFrom_36 : decode cX3_copyFrom 36 = .ok (.getfield 25, 3) := by decide +kernel
theorem dX3_copyFrom_39 : decode cX3_copyFrom 39 = .ok (.iconst 0, 1) := by decide +kernel
theorem dX3_copyFrom_40 : decode cX3_copyFrom 40 = .ok (.bipush 10, 2) := by decide +kernel
theorem dX3_copyFrom_42 : decode cX3_copyFrom 42 = .ok (.invokestatic 56, 3) := by decide +kernel
theorem dX3_copyFrom_45 : decode cX3_copyFrom 45 = .ok (.aload_n 1, 1) := by decide +kernel
theorem dX3_copyFrom_46 : decode cX3_copyFrom 46 = .ok (.getfield 28, 3) := by decide +kernel
theorem dX3_copyFrom_49 : decode cX3_copyFrom 49 = .ok (.iconst 0, 1) := by decide +kernel
theorem dX3_copyFrom_50 : decode cX3_copyFrom 50 = .ok (.aload_n 0, 1) := by decide +kernel
theorem dX3_copyFrom_51 : decode cX3_copyFrom 51 = .ok (.getfield 28, 3) := by decide +kernel
theorem dX3_copyFrom_54 : decode cX3_copyFrom 54 = .ok (.iconst 0, 1) := by decide +kernel
theorem dX3_copyFrom_55 : decode cX3_copyFrom 55 = .ok (.bipush 10, 2) := by decide +kernel
theorem dX3_copyFrom_57 : decode cX3_copyFrom 57 = .ok (.invokestatic 56, 3) := by decide +kernel
theorem dX3_copyFrom_60 : decode cX3_copyFrom 60 = .ok (.aload_n 1, 1) := by decide +kernel
theorem dX3_copyFrom_61 : decode cX3_copyFrom 61 = .ok (.getfield 31, 3) := by decide +kernel
theorem dX3_copyFrom_64 : decode cX3_copyFrom 64 = .ok (.iconst 0, 1) := by decide +kernel
theorem dX3_copyFrom_65 : decode cX3_copyFrom 65 = .ok (.aload_n 0, 1) := by decide +kernel
theorem dX3_copyFrom_66 : decode cX3_copyFrom 66 = .ok (.getfield 31, 3) := by decide +kernel
theorem dX3_copyFrom_69 : decode cX3_copyFrom 69 = .ok (.iconst 0, 1) := by decide +kernel
theorem dX3_copyFrom_70 : decode cX3_copyFrom 70 = .ok (.bipush 10, 2) := by decide +kernel
theorem dX3_copyFrom_72 : decode cX3_copyFrom 72 = .ok (.invokestatic 56, 3) := by decide +kernel
theorem dX3_copyFrom_75 : decode cX3_copyFrom 75 = .ok (.iconst 0, 1) := by decide +kernel
theorem dX3_copyFrom_76 : decode cX3_copyFrom 76 = .ok (.istore_n 2, 1) := by decide +kernel
theorem dX3_copyFrom_77 : decode cX3_copyFrom 77 = .ok (.iload_n 2, 1) := by decide +kernel
theorem dX3_copyFrom_78 : decode cX3_copyFrom 78 = .ok (.bipush 10, 2) := by decide +kernel
theorem dX3_copyFrom_80 : decode cX3_copyFrom 80 = .ok (.if_icmp .ge 33, 3) := by decide +kernel
theorem dX3_copyFrom_83 : decode cX3_copyFrom 83 = .ok (.aload_n 0, 1) := by decide +kernel
theorem dX3_copyFrom_84 : decode cX3_copyFrom 84 = .ok (.getfield 18, 3) := by decide +kernel
theorem dX3_copyFrom_87 : decode cX3_copyFrom 87 = .ok (.iload_n 2, 1) := by decide +kernel
theorem dX3_copyFrom_88 : decode cX3_copyFrom 88 = .ok (.aload_n 1, 1) := by decide +kernel
theorem dX3_copyFrom_89 : decode cX3_copyFrom 89 = .ok (.getfield 18, 3) := by decide +kernel
theorem dX3_copyFrom_92 : decode cX3_copyFrom 92 = .ok (.iload_n 2, 1) := by decide +kernel
theorem dX3_copyFrom_93 : decode cX3_copyFrom 93 = .ok (.baload, 1) := by decide +kernel
theorem dX3_copyFrom_94 : decode cX3_copyFrom 94 = .ok (.bastore, 1) := by decide +kernel
theorem dX3_copyFrom_95 : decode cX3_copyFrom 95 = .ok (.aload_n 0, 1) := by decide +kernel
theorem dX3_copyFrom_96 : decode cX3_copyFrom 96 = .ok (.getfield 22, 3) := by decide +kernel
theorem dX3_copyFrom_99 : decode cX3_copyFrom 99 = .ok (.iload_n 2, 1) := by decide +kernel
theorem dX3_copyFrom_100 : decode cX3_copyFrom 100 = .ok (.aload_n 1, 1) := by decide +kernel
theorem dX3_copyFrom_101 : decode cX3_copyFrom 101 = .ok (.getfield 22, 3) := by decide +kernel
theorem dX3_copyFrom_104 : decode cX3_copyFrom 104 = .ok (.iload_n 2, 1) := by decide +kernel
theorem dX3_copyFrom_105 : decode cX3_copyFrom 105 = .ok (.baload, 1) := by decide +kernel
theorem dX3_copyFrom_106 : decode cX3_copyFrom 106 = .ok (.bastore, 1) := by decide +kernel
theorem dX3_copyFrom_107 : decode cX3_copyFrom 107 = .ok (.iinc 2 1, 3) := by decide +kernel
theorem dX3_copyFrom_110 : decode cX3_copyFrom 110 = .ok (.goto (-33), 3) := by decide +kernel
theorem dX3_copyFrom_113 : decode cX3_copyFrom 113 = .ok (.aload_n 0, 1) := by decide +kernel
theorem dX3_copyFrom_114 : decode cX3_copyFrom 114 = .ok (.aload_n 1, 1) := by decide +kernel
theorem dX3_copyFrom_115 : decode cX3_copyFrom 115 = .ok (.getfield 34, 3) := by decide +kernel
theorem dX3_copyFrom_118 : decode cX3_copyFrom 118 = .ok (.putfield 34, 3) := by decide +kernel
theorem dX3_copyFrom_121 : decode cX3_copyFrom 121 = .ok (.return_, 1) := by decide +kernel
