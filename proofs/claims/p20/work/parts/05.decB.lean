theorem dX4_init_0 : decode cX4_init 0 = .ok (.aload_n 0, 1) := by decide +kernel
theorem dX4_init_1 : decode cX4_init 1 = .ok (.invokespecial 1, 3) := by decide +kernel
theorem dX4_init_4 : decode cX4_init 4 = .ok (.aload_n 0, 1) := by decide +kernel
theorem dX4_init_5 : decode cX4_init 5 = .ok (.new 7, 3) := by decide +kernel
theorem dX4_init_8 : decode cX4_init 8 = .ok (.dup, 1) := by decide +kernel
theorem dX4_init_9 : decode cX4_init 9 = .ok (.invokespecial 9, 3) := by decide +kernel
theorem dX4_init_12 : decode cX4_init 12 = .ok (.putfield 10, 3) := by decide +kernel
theorem dX4_init_15 : decode cX4_init 15 = .ok (.aload_n 0, 1) := by decide +kernel
theorem dX4_init_16 : decode cX4_init 16 = .ok (.new 7, 3) := by decide +kernel
theorem dX4_init_19 : decode cX4_init 19 = .ok (.dup, 1) := by decide +kernel
theorem dX4_init_20 : decode cX4_init 20 = .ok (.invokespecial 9, 3) := by decide +kernel
theorem dX4_init_23 : decode cX4_init 23 = .ok (.putfield 16, 3) := by decide +kernel
theorem dX4_init_26 : decode cX4_init 26 = .ok (.return_, 1) := by decide +kernel
theorem dX4_plant_0 : decode cX4_plant 0 = .ok (.iload_n 1, 1) := by decide +kernel
theorem dX4_plant_1 : decode cX4_plant 1 = .ok (.invokestatic 19, 3) := by decide +kernel
theorem dX4_plant_4 : decode cX4_plant 4 = .ok (.ifCond .eq 17, 3) := by decide +kernel
theorem dX4_plant_7 : decode cX4_plant 7 = .ok (.iload_n 2, 1) := by decide +kernel
theorem dX4_plant_8 : decode cX4_plant 8 = .ok (.ifCond .lt 13, 3) := by decide +kernel
theorem dX4_plant_11 : decode cX4_plant 11 = .ok (.iload_n 2, 1) := by decide +kernel
theorem dX4_plant_12 : decode cX4_plant 12 = .ok (.bipush 99, 2) := by decide +kernel
theorem dX4_plant_14 : decode cX4_plant 14 = .ok (.if_icmp .gt 7, 3) := by decide +kernel
theorem dX4_plant_17 : decode cX4_plant 17 = .ok (.iconst 1, 1) := by decide +kernel
theorem dX4_plant_18 : decode cX4_plant 18 = .ok (.goto 4, 3) := by decide +kernel
theorem dX4_plant_21 : decode cX4_plant 21 = .ok (.iconst 0, 1) := by decide +kernel
theorem dX4_plant_22 : decode cX4_plant 22 = .ok (.invokestatic 23, 3) := by decide +kernel
theorem dX4_plant_25 : decode cX4_plant 25 = .ok (.aload_n 0, 1) := by decide +kernel
theorem dX4_plant_26 : decode cX4_plant 26 = .ok (.getfield 10, 3) := by decide +kernel
theorem dX4_plant_29 : decode cX4_plant 29 = .ok (.getfield 27, 3) := by decide +kernel
theorem dX4_plant_32 : decode cX4_plant 32 = .ok (.getfield 31, 3) := by decide +kernel
theorem dX4_plant_35 : decode cX4_plant 35 = .ok (.bipush 10, 2) := by decide +kernel
theorem dX4_plant_37 : decode cX4_plant 37 = .ok (.if_icmp .ge 7, 3) := by decide +kernel
theorem dX4_plant_40 : decode cX4_plant 40 = .ok (.iconst 1, 1) := by decide +kernel
theorem dX4_plant_41 : decode cX4_plant 41 = .ok (.goto 4, 3) := by decide +kernel
theorem dX4_plant_44 : decode cX4_plant 44 = .ok (.iconst 0, 1) := by decide +kernel
theorem dX4_plant_45 : decode cX4_plant 45 = .ok (.invokestatic 37, 3) := by decide +kernel
theorem dX4_plant_48 : decode cX4_plant 48 = .ok (.aload_n 0, 1) := by decide +kernel
theorem dX4_plant_49 : decode cX4_plant 49 = .ok (.getfield 10, 3) := by decide +kernel
theorem dX4_plant_52 : decode cX4_plant 52 = .ok (.getfield 27, 3) := by decide +kernel
theorem dX4_plant_55 : decode cX4_plant 55 = .ok (.iload_n 1, 1) := by decide +kernel
theorem dX4_plant_56 : decode cX4_plant 56 = .ok (.iload_n 2, 1) := by decide +kernel
theorem dX4_plant_57 : decode cX4_plant 57 = .ok (.iload_n 3, 1) := by decide +kernel
theorem dX4_plant_58 : decode cX4_plant 58 = .ok (.iload 4, 2) := by decide +kernel
theorem dX4_plant_60 : decode cX4_plant 60 = .ok (.invokevirtual 40, 3) := by decide +kernel
theorem dX4_plant_63 : decode cX4_plant 63 = .ok (.ireturn, 1) := by decide +kernel
theorem dX4_sign_0 : decode cX4_sign 0 = .ok (.iload_n 1, 1) := by decide +kernel
theorem dX4_sign_1 : decode cX4_sign 1 = .ok (.aload_n 0, 1) := by decide +kernel
theorem dX4_sign_2 : decode cX4_sign 2 = .ok (.getfield 10, 3) := by decide +kernel
theorem dX4_sign_5 : decode cX4_sign 5 = .ok (.getfield 27, 3) := by decide +kernel
theorem dX4_sign_8 : decode cX4_sign 8 = .ok (.getfield 31, 3) := by decide +kernel
theorem dX4_sign_11 : decode cX4_sign 11 = .ok (.invokestatic 44, 3) := by decide +kernel
theorem dX4_sign_14 : decode cX4_sign 14 = .ok (.aload_n 0, 1) := by decide +kernel
theorem dX4_sign_15 : decode cX4_sign 15 = .ok (.getfield 10, 3) := by decide +kernel
theorem dX4_sign_18 : decode cX4_sign 18 = .ok (.getfield 27, 3) := by decide +kernel
theorem dX4_sign_21 : decode cX4_sign 21 = .ok (.iload_n 1, 1) := by decide +kernel
theorem dX4_sign_22 : decode cX4_sign 22 = .ok (.iload_n 2, 1) := by decide +kernel
theorem dX4_sign_23 : decode cX4_sign 23 = .ok (.iload_n 3, 1) := by decide +kernel
theorem dX4_sign_24 : decode cX4_sign 24 = .ok (.invokevirtual 48, 3) := by decide +kernel
theorem dX4_sign_27 : decode cX4_sign 27 = .ok (.ireturn, 1) := by decide +kernel
theorem dX4_cannon_0 : decode cX4_cannon 0 = .ok (.iload_n 1, 1) := by decide +kernel
theorem dX4_cannon_1 : decode cX4_cannon 1 = .ok (.invokestatic 19, 3) := by decide +kernel
theorem dX4_cannon_4 : decode cX4_cannon 4 = .ok (.ifCond .eq 28, 3) := by decide +kernel
theorem dX4_cannon_7 : decode cX4_cannon 7 = .ok (.iload_n 2, 1) := by decide +kernel
theorem dX4_cannon_8 : decode cX4_cannon 8 = .ok (.iconst 1, 1) := by decide +kernel
theorem dX4_cannon_9 : decode cX4_cannon 9 = .ok (.if_icmp .lt 23, 3) := by decide +kernel
theorem dX4_cannon_12 : decode cX4_cannon 12 = .ok (.iload_n 2, 1) := by decide +kernel
theorem dX4_cannon_13 : decode cX4_cannon 13 = .ok (.bipush 9, 2) := by decide +kernel
theorem dX4_cannon_15 : decode cX4_cannon 15 = .ok (.if_icmp .gt 17, 3) := by decide +kernel
theorem dX4_cannon_18 : decode cX4_cannon 18 = .ok (.iload_n 3, 1) := by decide +kernel
theorem dX4_cannon_19 : decode cX4_cannon 19 = .ok (.ifCond .lt 13, 3) := by decide +kernel
theorem dX4_cannon_22 : decode cX4_cannon 22 = .ok (.iload_n 3, 1) := by decide +kernel
theorem dX4_cannon_23 : decode cX4_cannon 23 = .ok (.bipush 60, 2) := by decide +kernel
theorem dX4_cannon_25 : decode cX4_cannon 25 = .ok (.if_icmp .gt 7, 3) := by decide +kernel
theorem dX4_cannon_28 : decode cX4_cannon 28 = .ok (.iconst 1, 1) := by decide +kernel
theorem dX4_cannon_29 : decode cX4_cannon 29 = .ok (.goto 4, 3) := by decide +kernel
theorem dX4_cannon_32 : decode cX4_cannon 32 = .ok (.iconst 0, 1) := by decide +kernel
theorem dX4_cannon_33 : decode cX4_cannon 33 = .ok (.invokestatic 23, 3) := by decide +kernel
theorem dX4_cannon_36 : decode cX4_cannon 36 = .ok (.aload_n 0, 1) := by decide +kernel
theorem dX4_cannon_37 : decode cX4_cannon 37 = .ok (.getfield 10, 3) := by decide +kernel
theorem dX4_cannon_40 : decode cX4_cannon 40 = .ok (.getfield 52, 3) := by decide +kernel
theorem dX4_cannon_43 : decode cX4_cannon 43 = .ok (.getfield 56, 3) := by decide +kernel
theorem dX4_cannon_46 : decode cX4_cannon 46 = .ok (.bipush 6, 2) := by decide +kernel
theorem dX4_cannon_48 : decode cX4_cannon 48 = .ok (.if_icmp .ge 7, 3) := by decide +kernel
theorem dX4_cannon_51 : decode cX4_cannon 51 = .ok (.iconst 1, 1) := by decide +kernel
theorem dX4_cannon_52 : decode cX4_cannon 52 = .ok (.goto 4, 3) := by decide +kernel
theorem dX4_cannon_55 : decode cX4_cannon 55 = .ok (.iconst 0, 1) := by decide +kernel
theorem dX4_cannon_56 : decode cX4_cannon 56 = .ok (.invokestatic 37, 3) := by decide +kernel
theorem dX4_cannon_59 : decode cX4_cannon 59 = .ok (.aload_n 0, 1) := by decide +kernel
theorem dX4_cannon_60 : decode cX4_cannon 60 = .ok (.getfield 10, 3) := by decide +kernel
theorem dX4_cannon_63 : decode cX4_cannon 63 = .ok (.getfield 52, 3) := by decide +kernel
theorem dX4_cannon_66 : decode cX4_cannon 66 = .ok (.iload_n 1, 1) := by decide +kernel
theorem dX4_cannon_67 : decode cX4_cannon 67 = .ok (.iload_n 2, 1) := by decide +kernel
theorem dX4_cannon_68 : decode cX4_cannon 68 = .ok (.iload_n 3, 1) := by decide +kernel
theorem dX4_cannon_69 : decode cX4_cannon 69 = .ok (.invokevirtual 59, 3) := by decide +kernel
theorem dX4_cannon_72 : decode cX4_cannon 72 = .ok (.ireturn, 1) := by decide +kernel
theorem dX4_load_0 : decode cX4_load 0 = .ok (.iload_n 1, 1) := by decide +kernel
theorem dX4_load_1 : decode cX4_load 1 = .ok (.aload_n 0, 1) := by decide +kernel
theorem dX4_load_2 : decode cX4_load 2 = .ok (.getfield 10, 3) := by decide +kernel
theorem dX4_load_5 : decode cX4_load 5 = .ok (.getfield 52, 3) := by decide +kernel
theorem dX4_load_8 : decode cX4_load 8 = .ok (.getfield 56, 3) := by decide +kernel
theorem dX4_load_11 : decode cX4_load 11 = .ok (.invokestatic 44, 3) := by decide +kernel
theorem dX4_load_14 : decode cX4_load 14 = .ok (.iload_n 2, 1) := by decide +kernel
theorem dX4_load_15 : decode cX4_load 15 = .ok (.iconst 1, 1) := by decide +kernel
theorem dX4_load_16 : decode cX4_load 16 = .ok (.if_icmp .lt 13, 3) := by decide +kernel
theorem dX4_load_19 : decode cX4_load 19 = .ok (.iload_n 2, 1) := by decide +kernel
theorem dX4_load_20 : decode cX4_load 20 = .ok (.bipush 60, 2) := by decide +kernel
theorem dX4_load_22 : decode cX4_load 22 = .ok (.if_icmp .gt 7, 3) := by decide +kernel
theorem dX4_load_25 : decode cX4_load 25 = .ok (.iconst 1, 1) := by decide +kernel
theorem dX4_load_26 : decode cX4_load 26 = .ok (.goto 4, 3) := by decide +kernel
theorem dX4_load_29 : decode cX4_load 29 = .ok (.iconst 0, 1) := by decide +kernel
theorem dX4_load_30 : decode cX4_load 30 = .ok (.invokestatic 23, 3) := by decide +kernel
theorem dX4_load_33 : decode cX4_load 33 = .ok (.aload_n 0, 1) := by decide +kernel
theorem dX4_load_34 : decode cX4_load 34 = .ok (.getfield 10, 3) := by decide +kernel
theorem dX4_load_37 : decode cX4_load 37 = .ok (.dup, 1) := by decide +kernel
theorem dX4_load_38 : decode cX4_load 38 = .ok (.getfield 62, 3) := by decide +kernel
theorem dX4_load_41 : decode cX4_load 41 = .ok (.iload_n 2, 1) := by decide +kernel
theorem dX4_load_42 : decode cX4_load 42 = .ok (.iconst 5, 1) := by decide +kernel
theorem dX4_load_43 : decode cX4_load 43 = .ok (.idiv, 1) := by decide +kernel
theorem dX4_load_44 : decode cX4_load 44 = .ok (.isub, 1) := by decide +kernel
theorem dX4_load_45 : decode cX4_load 45 = .ok (.putfield 62, 3) := by decide +kernel
theorem dX4_load_48 : decode cX4_load 48 = .ok (.aload_n 0, 1) := by decide +kernel
theorem dX4_load_49 : decode cX4_load 49 = .ok (.getfield 10, 3) := by decide +kernel
theorem dX4_load_52 : decode cX4_load 52 = .ok (.getfield 52, 3) := by decide +kernel
theorem dX4_load_55 : decode cX4_load 55 = .ok (.iload_n 1, 1) := by decide +kernel
theorem dX4_load_56 : decode cX4_load 56 = .ok (.iload_n 2, 1) := by decide +kernel
theorem dX4_load_57 : decode cX4_load 57 = .ok (.invokevirtual 65, 3) := by decide +kernel
theorem dX4_load_60 : decode cX4_load 60 = .ok (.ireturn, 1) := by decide +kernel
theorem dX4_gather_0 : decode cX4_gather 0 = .ok (.iload_n 1, 1) := by decide +kernel
theorem dX4_gather_1 : decode cX4_gather 1 = .ok (.invokestatic 19, 3) := by decide +kernel
theorem dX4_gather_4 : decode cX4_gather 4 = .ok (.ifCond .eq 28, 3) := by decide +kernel
theorem dX4_gather_7 : decode cX4_gather 7 = .ok (.iload_n 2, 1) := by decide +kernel
theorem dX4_gather_8 : decode cX4_gather 8 = .ok (.bipush (-3), 2) := by decide +kernel
theorem dX4_gather_10 : decode cX4_gather 10 = .ok (.if_icmp .lt 22, 3) := by decide +kernel
theorem dX4_gather_13 : decode cX4_gather 13 = .ok (.iload_n 2, 1) := by decide +kernel
theorem dX4_gather_14 : decode cX4_gather 14 = .ok (.iconst 3, 1) := by decide +kernel
theorem dX4_gather_15 : decode cX4_gather 15 = .ok (.if_icmp .gt 17, 3) := by decide +kernel
theorem dX4_gather_18 : decode cX4_gather 18 = .ok (.iload_n 3, 1) := by decide +kernel
theorem dX4_gather_19 : decode cX4_gather 19 = .ok (.ifCond .lt 13, 3) := by decide +kernel
theorem dX4_gather_22 : decode cX4_gather 22 = .ok (.iload_n 3, 1) := by decide +kernel
theorem dX4_gather_23 : decode cX4_gather 23 = .ok (.bipush 60, 2) := by decide +kernel
theorem dX4_gather_25 : decode cX4_gather 25 = .ok (.if_icmp .gt 7, 3) := by decide +kernel
theorem dX4_gather_28 : decode cX4_gather 28 = .ok (.iconst 1, 1) := by decide +kernel
theorem dX4_gather_29 : decode cX4_gather 29 = .ok (.goto 4, 3) := by decide +kernel
theorem dX4_gather_32 : decode cX4_gather 32 = .ok (.iconst 0, 1) := by decide +kernel
theorem dX4_gather_33 : decode cX4_gather 33 = .ok (.invokestatic 23, 3) := by decide +kernel
theorem dX4_gather_36 : decode cX4_gather 36 = .ok (.aload_n 0, 1) := by decide +kernel
theorem dX4_gather_37 : decode cX4_gather 37 = .ok (.getfield 10, 3) := by decide +kernel
theorem dX4_gather_40 : decode cX4_gather 40 = .ok (.getfield 69, 3) := by decide +kernel
theorem dX4_gather_43 : decode cX4_gather 43 = .ok (.getfield 73, 3) := by decide +kernel
theorem dX4_gather_46 : decode cX4_gather 46 = .ok (.bipush 20, 2) := by decide +kernel
theorem dX4_gather_48 : decode cX4_gather 48 = .ok (.if_icmp .ge 7, 3) := by decide +kernel
theorem dX4_gather_51 : decode cX4_gather 51 = .ok (.iconst 1, 1) := by decide +kernel
theorem dX4_gather_52 : decode cX4_gather 52 = .ok (.goto 4, 3) := by decide +kernel
theorem dX4_gather_55 : decode cX4_gather 55 = .ok (.iconst 0, 1) := by decide +kernel
theorem dX4_gather_56 : decode cX4_gather 56 = .ok (.invokestatic 37, 3) := by decide +kernel
theorem dX4_gather_59 : decode cX4_gather 59 = .ok (.aload_n 0, 1) := by decide +kernel
theorem dX4_gather_60 : decode cX4_gather 60 = .ok (.getfield 10, 3) := by decide +kernel
theorem dX4_gather_63 : decode cX4_gather 63 = .ok (.getfield 69, 3) := by decide +kernel
theorem dX4_gather_66 : decode cX4_gather 66 = .ok (.iload_n 1, 1) := by decide +kernel
theorem dX4_gather_67 : decode cX4_gather 67 = .ok (.iload_n 2, 1) := by decide +kernel
theorem dX4_gather_68 : decode cX4_gather 68 = .ok (.iload_n 3, 1) := by decide +kernel
theorem dX4_gather_69 : decode cX4_gather 69 = .ok (.invokevirtual 76, 3) := by decide +kernel
theorem dX4_gather_72 : decode cX4_gather 72 = .ok (.ireturn, 1) := by decide +kernel
theorem dX4_setWind_0 : decode cX4_setWind 0 = .ok (.iload_n 1, 1) := by decide +kernel
theorem dX4_setWind_1 : decode cX4_setWind 1 = .ok (.bipush 6, 2) := by decide +kernel
theorem dX4_setWind_3 : decode cX4_setWind 3 = .ok (.invokestatic 44, 3) := by decide +kernel
theorem dX4_setWind_6 : decode cX4_setWind 6 = .ok (.iload_n 2, 1) := by decide +kernel
theorem dX4_setWind_7 : decode cX4_setWind 7 = .ok (.bipush (-2), 2) := by decide +kernel
theorem dX4_setWind_9 : decode cX4_setWind 9 = .ok (.if_icmp .lt 12, 3) := by decide +kernel
theorem dX4_setWind_12 : decode cX4_setWind 12 = .ok (.iload_n 2, 1) := by decide +kernel
theorem dX4_setWind_13 : decode cX4_setWind 13 = .ok (.iconst 2, 1) := by decide +kernel
theorem dX4_setWind_14 : decode cX4_setWind 14 = .ok (.if_icmp .gt 7, 3) := by decide +kernel
theorem dX4_setWind_17 : decode cX4_setWind 17 = .ok (.iconst 1, 1) := by decide +kernel
theorem dX4_setWind_18 : decode cX4_setWind 18 = .ok (.goto 4, 3) := by decide +kernel
theorem dX4_setWind_21 : decode cX4_setWind 21 = .ok (.iconst 0, 1) := by decide +kernel
theorem dX4_setWind_22 : decode cX4_setWind 22 = .ok (.invokestatic 23, 3) := by decide +kernel
theorem dX4_setWind_25 : decode cX4_setWind 25 = .ok (.aload_n 0, 1) := by decide +kernel
theorem dX4_setWind_26 : decode cX4_setWind 26 = .ok (.getfield 10, 3) := by decide +kernel
theorem dX4_setWind_29 : decode cX4_setWind 29 = .ok (.getfield 77, 3) := by decide +kernel
theorem dX4_setWind_32 : decode cX4_setWind 32 = .ok (.iload_n 1, 1) := by decide +kernel
theorem dX4_setWind_33 : decode cX4_setWind 33 = .ok (.iaload, 1) := by decide +kernel
theorem dX4_setWind_34 : decode cX4_setWind 34 = .ok (.istore_n 3, 1) := by decide +kernel
theorem dX4_setWind_35 : decode cX4_setWind 35 = .ok (.aload_n 0, 1) := by decide +kernel
theorem dX4_setWind_36 : decode cX4_setWind 36 = .ok (.getfield 10, 3) := by decide +kernel
theorem dX4_setWind_39 : decode cX4_setWind 39 = .ok (.getfield 77, 3) := by decide +kernel
theorem dX4_setWind_42 : decode cX4_setWind 42 = .ok (.iload_n 1, 1) := by decide +kernel
theorem dX4_setWind_43 : decode cX4_setWind 43 = .ok (.iload_n 2, 1) := by decide +kernel
theorem dX4_setWind_44 : decode cX4_setWind 44 = .ok (.iastore, 1) := by decide +kernel
theorem dX4_setWind_45 : decode cX4_setWind 45 = .ok (.iload_n 3, 1) := by decide +kernel
theorem dX4_setWind_46 : decode cX4_setWind 46 = .ok (.ireturn, 1) := by decide +kernel
theorem dX4_vineyard_0 : decode cX4_vineyard 0 = .ok (.iload_n 1, 1) := by decide +kernel
theorem dX4_vineyard_1 : decode cX4_vineyard 1 = .ok (.aload_n 0, 1) := by decide +kernel
theorem dX4_vineyard_2 : decode cX4_vineyard 2 = .ok (.getfield 10, 3) := by decide +kernel
theorem dX4_vineyard_5 : decode cX4_vineyard 5 = .ok (.getfield 27, 3) := by decide +kernel
theorem dX4_vineyard_8 : decode cX4_vineyard 8 = .ok (.getfield 31, 3) := by decide +kernel
theorem dX4_vineyard_11 : decode cX4_vineyard 11 = .ok (.invokestatic 44, 3) := by decide +kernel
theorem dX4_vineyard_14 : decode cX4_vineyard 14 = .ok (.iload_n 2, 1) := by decide +kernel
theorem dX4_vineyard_15 : decode cX4_vineyard 15 = .ok (.bipush 7, 2) := by decide +kernel
theorem dX4_vineyard_17 : decode cX4_vineyard 17 = .ok (.invokestatic 44, 3) := by decide +kernel
theorem dX4_vineyard_20 : decode cX4_vineyard 20 = .ok (.aload_n 0, 1) := by decide +kernel
theorem dX4_vineyard_21 : decode cX4_vineyard 21 = .ok (.getfield 10, 3) := by decide +kernel
theorem dX4_vineyard_24 : decode cX4_vineyard 24 = .ok (.getfield 27, 3) := by decide +kernel
theorem dX4_vineyard_27 : decode cX4_vineyard 27 = .ok (.iload_n 1, 1) := by decide +kernel
theorem dX4_vineyard_28 : decode cX4_vineyard 28 = .ok (.iload_n 2, 1) := by decide +kernel
theorem dX4_vineyard_29 : decode cX4_vineyard 29 = .ok (.invokevirtual 81, 3) := by decide +kernel
theorem dX4_vineyard_32 : decode cX4_vineyard 32 = .ok (.ireturn, 1) := by decide +kernel
theorem dX4_about_0 : decode cX4_about 0 = .ok (.iload_n 1, 1) := by decide +kernel
theorem dX4_about_1 : decode cX4_about 1 = .ok (.aload_n 0, 1) := by decide +kernel
theorem dX4_about_2 : decode cX4_about 2 = .ok (.getfield 10, 3) := by decide +kernel
theorem dX4_about_5 : decode cX4_about 5 = .ok (.getfield 52, 3) := by decide +kernel
theorem dX4_about_8 : decode cX4_about 8 = .ok (.getfield 56, 3) := by decide +kernel
theorem dX4_about_11 : decode cX4_about 11 = .ok (.invokestatic 44, 3) := by decide +kernel
theorem dX4_about_14 : decode cX4_about 14 = .ok (.iload_n 2, 1) := by decide +kernel
theorem dX4_about_15 : decode cX4_about 15 = .ok (.iconst 5, 1) := by decide +kernel
theorem dX4_about_16 : decode cX4_about 16 = .ok (.invokestatic 44, 3) := by decide +kernel
theorem dX4_about_19 : decode cX4_about 19 = .ok (.aload_n 0, 1) := by decide +kernel
theorem dX4_about_20 : decode cX4_about 20 = .ok (.getfield 10, 3) := by decide +kernel
theorem dX4_about_23 : decode cX4_about 23 = .ok (.getfield 52, 3) := by decide +kernel
theorem dX4_about_26 : decode cX4_about 26 = .ok (.iload_n 1, 1) := by decide +kernel
theorem dX4_about_27 : decode cX4_about 27 = .ok (.iload_n 2, 1) := by decide +kernel
theorem dX4_about_28 : decode cX4_about 28 = .ok (.aload_n 0, 1) := by decide +kernel
theorem dX4_about_29 : decode cX4_about 29 = .ok (.getfield 10, 3) := by decide +kernel
theorem dX4_about_32 : decode cX4_about 32 = .ok (.getfield 69, 3) := by decide +kernel
theorem dX4_about_35 : decode cX4_about 35 = .ok (.invokevirtual 84, 3) := by decide +kernel
theorem dX4_about_38 : decode cX4_about 38 = .ok (.ireturn, 1) := by decide +kernel
theorem dX4_cloud_0 : decode cX4_cloud 0 = .ok (.iload_n 1, 1) := by decide +kernel
theorem dX4_cloud_1 : decode cX4_cloud 1 = .ok (.aload_n 0, 1) := by decide +kernel
theorem dX4_cloud_2 : decode cX4_cloud 2 = .ok (.getfield 10, 3) := by decide +kernel
theorem dX4_cloud_5 : decode cX4_cloud 5 = .ok (.getfield 69, 3) := by decide +kernel
theorem dX4_cloud_8 : decode cX4_cloud 8 = .ok (.getfield 73, 3) := by decide +kernel
theorem dX4_cloud_11 : decode cX4_cloud 11 = .ok (.invokestatic 44, 3) := by decide +kernel
theorem dX4_cloud_14 : decode cX4_cloud 14 = .ok (.iload_n 2, 1) := by decide +kernel
theorem dX4_cloud_15 : decode cX4_cloud 15 = .ok (.iconst 4, 1) := by decide +kernel
theorem dX4_cloud_16 : decode cX4_cloud 16 = .ok (.invokestatic 44, 3) := by decide +kernel
theorem dX4_cloud_19 : decode cX4_cloud 19 = .ok (.aload_n 0, 1) := by decide +kernel
theorem dX4_cloud_20 : decode cX4_cloud 20 = .ok (.getfield 10, 3) := by decide +kernel
theorem dX4_cloud_23 : decode cX4_cloud 23 = .ok (.getfield 69, 3) := by decide +kernel
theorem dX4_cloud_26 : decode cX4_cloud 26 = .ok (.iload_n 1, 1) := by decide +kernel
theorem dX4_cloud_27 : decode cX4_cloud 27 = .ok (.iload_n 2, 1) := by decide +kernel
theorem dX4_cloud_28 : decode cX4_cloud 28 = .ok (.invokevirtual 87, 3) := by decide +kernel
theorem dX4_cloud_31 : decode cX4_cloud 31 = .ok (.ireturn, 1) := by decide +kernel
theorem dX4_count_0 : decode cX4_count 0 = .ok (.iload_n 1, 1) := by decide +kernel
theorem dX4_count_1 : decode cX4_count 1 = .ok (.bipush 10, 2) := by decide +kernel
theorem dX4_count_3 : decode cX4_count 3 = .ok (.invokestatic 44, 3) := by decide +kernel
theorem dX4_count_6 : decode cX4_count 6 = .ok (.aload_n 0, 1) := by decide +kernel
theorem dX4_count_7 : decode cX4_count 7 = .ok (.getfield 10, 3) := by decide +kernel
theorem dX4_count_10 : decode cX4_count 10 = .ok (.iload_n 1, 1) := by decide +kernel
theorem dX4_count_11 : decode cX4_count 11 = .ok (.invokevirtual 88, 3) := by decide +kernel
theorem dX4_count_14 : decode cX4_count 14 = .ok (.ireturn, 1) := by decide +kernel
theorem dX4_pass_0 : decode cX4_pass 0 = .ok (.iload_n 1, 1) := by decide +kernel
theorem dX4_pass_1 : decode cX4_pass 1 = .ok (.iconst 1, 1) := by decide +kernel
theorem dX4_pass_2 : decode cX4_pass 2 = .ok (.if_icmp .lt 13, 3) := by decide +kernel
theorem dX4_pass_5 : decode cX4_pass 5 = .ok (.iload_n 1, 1) := by decide +kernel
theorem dX4_pass_6 : decode cX4_pass 6 = .ok (.bipush 96, 2) := by decide +kernel
theorem dX4_pass_8 : decode cX4_pass 8 = .ok (.if_icmp .gt 7, 3) := by decide +kernel
theorem dX4_pass_11 : decode cX4_pass 11 = .ok (.iconst 1, 1) := by decide +kernel
theorem dX4_pass_12 : decode cX4_pass 12 = .ok (.goto 4, 3) := by decide +kernel
theorem dX4_pass_15 : decode cX4_pass 15 = .ok (.iconst 0, 1) := by decide +kernel
theorem dX4_pass_16 : decode cX4_pass 16 = .ok (.invokestatic 23, 3) := by decide +kernel
theorem dX4_pass_19 : decode cX4_pass 19 = .ok (.aload_n 0, 1) := by decide +kernel
theorem dX4_pass_20 : decode cX4_pass 20 = .ok (.getfield 10, 3) := by decide +kernel
theorem dX4_pass_23 : decode cX4_pass 23 = .ok (.getfield 27, 3) := by decide +kernel
theorem dX4_pass_26 : decode cX4_pass 26 = .ok (.invokevirtual 92, 3) := by decide +kernel
theorem dX4_pass_29 : decode cX4_pass 29 = .ok (.istore_n 2, 1) := by decide +kernel
theorem dX4_pass_30 : decode cX4_pass 30 = .ok (.aload_n 0, 1) := by decide +kernel
theorem dX4_pass_31 : decode cX4_pass 31 = .ok (.getfield 10, 3) := by decide +kernel
theorem dX4_pass_34 : decode cX4_pass 34 = .ok (.iload_n 1, 1) := by decide +kernel
theorem dX4_pass_35 : decode cX4_pass 35 = .ok (.invokevirtual 96, 3) := by decide +kernel
theorem dX4_pass_38 : decode cX4_pass 38 = .ok (.aload_n 0, 1) := by decide +kernel
theorem dX4_pass_39 : decode cX4_pass 39 = .ok (.getfield 10, 3) := by decide +kernel
theorem dX4_pass_42 : decode cX4_pass 42 = .ok (.getfield 27, 3) := by decide +kernel
theorem dX4_pass_45 : decode cX4_pass 45 = .ok (.invokevirtual 92, 3) := by decide +kernel
theorem dX4_pass_48 : decode cX4_pass 48 = .ok (.iload_n 2, 1) := by decide +kernel
theorem dX4_pass_49 : decode cX4_pass 49 = .ok (.isub, 1) := by decide +kernel
theorem dX4_pass_50 : decode cX4_pass 50 = .ok (.ireturn, 1) := by decide +kernel
theorem dX4_hit_0 : decode cX4_hit 0 = .ok (.iload_n 1, 1) := by decide +kernel
theorem dX4_hit_1 : decode cX4_hit 1 = .ok (.aload_n 0, 1) := by decide +kernel
theorem dX4_hit_2 : decode cX4_hit 2 = .ok (.getfield 10, 3) := by decide +kernel
theorem dX4_hit_5 : decode cX4_hit 5 = .ok (.getfield 27, 3) := by decide +kernel
theorem dX4_hit_8 : decode cX4_hit 8 = .ok (.getfield 31, 3) := by decide +kernel
theorem dX4_hit_11 : decode cX4_hit 11 = .ok (.invokestatic 44, 3) := by decide +kernel
theorem dX4_hit_14 : decode cX4_hit 14 = .ok (.aload_n 0, 1) := by decide +kernel
theorem dX4_hit_15 : decode cX4_hit 15 = .ok (.getfield 16, 3) := by decide +kernel
theorem dX4_hit_18 : decode cX4_hit 18 = .ok (.aload_n 0, 1) := by decide +kernel
theorem dX4_hit_19 : decode cX4_hit 19 = .ok (.getfield 10, 3) := by decide +kernel
theorem dX4_hit_22 : decode cX4_hit 22 = .ok (.invokevirtual 100, 3) := by decide +kernel
theorem dX4_hit_25 : decode cX4_hit 25 = .ok (.aload_n 0, 1) := by decide +kernel
theorem dX4_hit_26 : decode cX4_hit 26 = .ok (.getfield 16, 3) := by decide +kernel
theorem dX4_hit_29 : decode cX4_hit 29 = .ok (.getfield 27, 3) := by decide +kernel
theorem dX4_hit_32 : decode cX4_hit 32 = .ok (.getfield 104, 3) := by decide +kernel
theorem dX4_hit_35 : decode cX4_hit 35 = .ok (.iload_n 1, 1) := by decide +kernel
theorem dX4_hit_36 : decode cX4_hit 36 = .ok (.iaload, 1) := by decide +kernel
theorem dX4_hit_37 : decode cX4_hit 37 = .ok (.istore_n 2, 1) := by decide +kernel
theorem dX4_hit_38 : decode cX4_hit 38 = .ok (.iconst 1, 1) := by decide +kernel
theorem dX4_hit_39 : decode cX4_hit 39 = .ok (.istore_n 3, 1) := by decide +kernel
theorem dX4_hit_40 : decode cX4_hit 40 = .ok (.iload_n 3, 1) := by decide +kernel
theorem dX4_hit_41 : decode cX4_hit 41 = .ok (.bipush 60, 2) := by decide +kernel
theorem dX4_hit_43 : decode cX4_hit 43 = .ok (.if_icmp .gt 47, 3) := by decide +kernel
theorem dX4_hit_46 : decode cX4_hit 46 = .ok (.aload_n 0, 1) := by decide +kernel
theorem dX4_hit_47 : decode cX4_hit 47 = .ok (.getfield 16, 3) := by decide +kernel
theorem dX4_hit_50 : decode cX4_hit 50 = .ok (.getfield 69, 3) := by decide +kernel
theorem dX4_hit_53 : decode cX4_hit 53 = .ok (.invokevirtual 107, 3) := by decide +kernel
theorem dX4_hit_56 : decode cX4_hit 56 = .ok (.ifCond .eq 34, 3) := by decide +kernel
theorem dX4_hit_59 : decode cX4_hit 59 = .ok (.aload_n 0, 1) := by decide +kernel
theorem dX4_hit_60 : decode cX4_hit 60 = .ok (.getfield 16, 3) := by decide +kernel
theorem dX4_hit_63 : decode cX4_hit 63 = .ok (.invokevirtual 111, 3) := by decide +kernel
theorem dX4_hit_66 : decode cX4_hit 66 = .ok (.aload_n 0, 1) := by decide +kernel
theorem dX4_hit_67 : decode cX4_hit 67 = .ok (.getfield 16, 3) := by decide +kernel
theorem dX4_hit_70 : decode cX4_hit 70 = .ok (.getfield 27, 3) := by decide +kernel
theorem dX4_hit_73 : decode cX4_hit 73 = .ok (.getfield 104, 3) := by decide +kernel
theorem dX4_hit_76 : decode cX4_hit 76 = .ok (.iload_n 1, 1) := by decide +kernel
theorem dX4_hit_77 : decode cX4_hit 77 = .ok (.iaload, 1) := by decide +kernel
theorem dX4_hit_78 : decode cX4_hit 78 = .ok (.iload_n 2, 1) := by decide +kernel
theorem dX4_hit_79 : decode cX4_hit 79 = .ok (.if_icmp .le 5, 3) := by decide +kernel
theorem dX4_hit_82 : decode cX4_hit 82 = .ok (.iload_n 3, 1) := by decide +kernel
theorem dX4_hit_83 : decode cX4_hit 83 = .ok (.ireturn, 1) := by decide +kernel
theorem dX4_hit_84 : decode cX4_hit 84 = .ok (.iinc 3 1, 3) := by decide +kernel
theorem dX4_hit_87 : decode cX4_hit 87 = .ok (.goto (-47), 3) := by decide +kernel
theorem dX4_hit_90 : decode cX4_hit 90 = .ok (.iconst (-1), 1) := by decide +kernel
theorem dX4_hit_91 : decode cX4_hit 91 = .ok (.ireturn, 1) := by decide +kernel
theorem dX4_foresee_0 : decode cX4_foresee 0 = .ok (.iload_n 1, 1) := by decide +kernel
theorem dX4_foresee_1 : decode cX4_foresee 1 = .ok (.iconst 1, 1) := by decide +kernel
theorem dX4_foresee_2 : decode cX4_foresee 2 = .ok (.if_icmp .lt 13, 3) := by decide +kernel
theorem dX4_foresee_5 : decode cX4_foresee 5 = .ok (.iload_n 1, 1) := by decide +kernel
theorem dX4_foresee_6 : decode cX4_foresee 6 = .ok (.bipush 96, 2) := by decide +kernel
theorem dX4_foresee_8 : decode cX4_foresee 8 = .ok (.if_icmp .gt 7, 3) := by decide +kernel
theorem dX4_foresee_11 : decode cX4_foresee 11 = .ok (.iconst 1, 1) := by decide +kernel
theorem dX4_foresee_12 : decode cX4_foresee 12 = .ok (.goto 4, 3) := by decide +kernel
theorem dX4_foresee_15 : decode cX4_foresee 15 = .ok (.iconst 0, 1) := by decide +kernel
theorem dX4_foresee_16 : decode cX4_foresee 16 = .ok (.invokestatic 23, 3) := by decide +kernel
theorem dX4_foresee_19 : decode cX4_foresee 19 = .ok (.iload_n 2, 1) := by decide +kernel
theorem dX4_foresee_20 : decode cX4_foresee 20 = .ok (.invokestatic 114, 3) := by decide +kernel
theorem dX4_foresee_23 : decode cX4_foresee 23 = .ok (.aload_n 0, 1) := by decide +kernel
theorem dX4_foresee_24 : decode cX4_foresee 24 = .ok (.getfield 16, 3) := by decide +kernel
theorem dX4_foresee_27 : decode cX4_foresee 27 = .ok (.aload_n 0, 1) := by decide +kernel
theorem dX4_foresee_28 : decode cX4_foresee 28 = .ok (.getfield 10, 3) := by decide +kernel
theorem dX4_foresee_31 : decode cX4_foresee 31 = .ok (.invokevirtual 100, 3) := by decide +kernel
theorem dX4_foresee_34 : decode cX4_foresee 34 = .ok (.aload_n 0, 1) := by decide +kernel
theorem dX4_foresee_35 : decode cX4_foresee 35 = .ok (.getfield 16, 3) := by decide +kernel
theorem dX4_foresee_38 : decode cX4_foresee 38 = .ok (.iload_n 1, 1) := by decide +kernel
theorem dX4_foresee_39 : decode cX4_foresee 39 = .ok (.invokevirtual 96, 3) := by decide +kernel
theorem dX4_foresee_42 : decode cX4_foresee 42 = .ok (.aload_n 0, 1) := by decide +kernel
theorem dX4_foresee_43 : decode cX4_foresee 43 = .ok (.getfield 16, 3) := by decide +kernel
theorem dX4_foresee_46 : decode cX4_foresee 46 = .ok (.iload_n 2, 1) := by decide +kernel
theorem dX4_foresee_47 : decode cX4_foresee 47 = .ok (.invokevirtual 88, 3) := by decide +kernel
theorem dX4_foresee_50 : decode cX4_foresee 50 = .ok (.ireturn, 1) := by decide +kernel
theorem dX4_advise_0 : decode cX4_advise 0 = .ok (.iload_n 1, 1) := by decide +kernel
theorem dX4_advise_1 : decode cX4_advise 1 = .ok (.aload_n 0, 1) := by decide +kernel
theorem dX4_advise_2 : decode cX4_advise 2 = .ok (.getfield 10, 3) := by decide +kernel
theorem dX4_advise_5 : decode cX4_advise 5 = .ok (.getfield 52, 3) := by decide +kernel
theorem dX4_advise_8 : decode cX4_advise 8 = .ok (.getfield 56, 3) := by decide +kernel
theorem dX4_advise_11 : decode cX4_advise 11 = .ok (.invokestatic 44, 3) := by decide +kernel
theorem dX4_advise_14 : decode cX4_advise 14 = .ok (.iload_n 2, 1) := by decide +kernel
theorem dX4_advise_15 : decode cX4_advise 15 = .ok (.iconst 1, 1) := by decide +kernel
theorem dX4_advise_16 : decode cX4_advise 16 = .ok (.if_icmp .lt 13, 3) := by decide +kernel
theorem dX4_advise_19 : decode cX4_advise 19 = .ok (.iload_n 2, 1) := by decide +kernel
theorem dX4_advise_20 : decode cX4_advise 20 = .ok (.bipush 36, 2) := by decide +kernel
theorem dX4_advise_22 : decode cX4_advise 22 = .ok (.if_icmp .gt 7, 3) := by decide +kernel
theorem dX4_advise_25 : decode cX4_advise 25 = .ok (.iconst 1, 1) := by decide +kernel
theorem dX4_advise_26 : decode cX4_advise 26 = .ok (.goto 4, 3) := by decide +kernel
theorem dX4_advise_29 : decode cX4_advise 29 = .ok (.iconst 0, 1) := by decide +kernel
theorem dX4_advise_30 : decode cX4_advise 30 = .ok (.invokestatic 23, 3) := by decide +kernel
theorem dX4_advise_33 : decode cX4_advise 33 = .ok (.aload_n 0, 1) := by decide +kernel
theorem dX4_advise_34 : decode cX4_advise 34 = .ok (.iload_n 1, 1) := by decide +kernel
theorem dX4_advise_35 : decode cX4_advise 35 = .ok (.aload_n 0, 1) := by decide +kernel
theorem dX4_advise_36 : decode cX4_advise 36 = .ok (.getfield 10, 3) := by decide +kernel
theorem dX4_advise_39 : decode cX4_advise 39 = .ok (.getfield 52, 3) := by decide +kernel
theorem dX4_advise_42 : decode cX4_advise 42 = .ok (.getfield 117, 3) := by decide +kernel
theorem dX4_advise_45 : decode cX4_advise 45 = .ok (.iload_n 1, 1) := by decide +kernel
theorem dX4_advise_46 : decode cX4_advise 46 = .ok (.iaload, 1) := by decide +kernel
theorem dX4_advise_47 : decode cX4_advise 47 = .ok (.iload_n 2, 1) := by decide +kernel
theorem dX4_advise_48 : decode cX4_advise 48 = .ok (.invokevirtual 120, 3) := by decide +kernel
theorem dX4_advise_51 : decode cX4_advise 51 = .ok (.istore_n 3, 1) := by decide +kernel
theorem dX4_advise_52 : decode cX4_advise 52 = .ok (.iconst (-1), 1) := by decide +kernel
theorem dX4_advise_53 : decode cX4_advise 53 = .ok (.istore 4, 2) := by decide +kernel
theorem dX4_advise_55 : decode cX4_advise 55 = .ok (.iconst 0, 1) := by decide +kernel
theorem dX4_advise_56 : decode cX4_advise 56 = .ok (.istore 5, 2) := by decide +kernel
theorem dX4_advise_58 : decode cX4_advise 58 = .ok (.iload 5, 2) := by decide +kernel
theorem dX4_advise_60 : decode cX4_advise 60 = .ok (.bipush 30, 2) := by decide +kernel
theorem dX4_advise_62 : decode cX4_advise 62 = .ok (.if_icmp .ge 32, 3) := by decide +kernel
theorem dX4_advise_65 : decode cX4_advise 65 = .ok (.aload_n 0, 1) := by decide +kernel
theorem dX4_advise_66 : decode cX4_advise 66 = .ok (.iload_n 1, 1) := by decide +kernel
theorem dX4_advise_67 : decode cX4_advise 67 = .ok (.iload 5, 2) := by decide +kernel
theorem dX4_advise_69 : decode cX4_advise 69 = .ok (.iload_n 2, 1) := by decide +kernel
theorem dX4_advise_70 : decode cX4_advise 70 = .ok (.invokevirtual 120, 3) := by decide +kernel
theorem dX4_advise_73 : decode cX4_advise 73 = .ok (.istore 6, 2) := by decide +kernel
theorem dX4_advise_75 : decode cX4_advise 75 = .ok (.iload 6, 2) := by decide +kernel
theorem dX4_advise_77 : decode cX4_advise 77 = .ok (.iload_n 3, 1) := by decide +kernel
theorem dX4_advise_78 : decode cX4_advise 78 = .ok (.if_icmp .ge 10, 3) := by decide +kernel
theorem dX4_advise_81 : decode cX4_advise 81 = .ok (.iload 6, 2) := by decide +kernel
theorem dX4_advise_83 : decode cX4_advise 83 = .ok (.istore_n 3, 1) := by decide +kernel
theorem dX4_advise_84 : decode cX4_advise 84 = .ok (.iload 5, 2) := by decide +kernel
theorem dX4_advise_86 : decode cX4_advise 86 = .ok (.istore 4, 2) := by decide +kernel
theorem dX4_advise_88 : decode cX4_advise 88 = .ok (.iinc 5 1, 3) := by decide +kernel
theorem dX4_advise_91 : decode cX4_advise 91 = .ok (.goto (-33), 3) := by decide +kernel
theorem dX4_advise_94 : decode cX4_advise 94 = .ok (.iload 4, 2) := by decide +kernel
theorem dX4_advise_96 : decode cX4_advise 96 = .ok (.ireturn, 1) := by decide +kernel
theorem dX4_move_0 : decode cX4_move 0 = .ok (.iload_n 1, 1) := by decide +kernel
theorem dX4_move_1 : decode cX4_move 1 = .ok (.aload_n 0, 1) := by decide +kernel
theorem dX4_move_2 : decode cX4_move 2 = .ok (.getfield 10, 3) := by decide +kernel
theorem dX4_move_5 : decode cX4_move 5 = .ok (.getfield 52, 3) := by decide +kernel
theorem dX4_move_8 : decode cX4_move 8 = .ok (.getfield 56, 3) := by decide +kernel
theorem dX4_move_11 : decode cX4_move 11 = .ok (.invokestatic 44, 3) := by decide +kernel
theorem dX4_move_14 : decode cX4_move 14 = .ok (.iload_n 2, 1) := by decide +kernel
theorem dX4_move_15 : decode cX4_move 15 = .ok (.invokestatic 19, 3) := by decide +kernel
theorem dX4_move_18 : decode cX4_move 18 = .ok (.invokestatic 23, 3) := by decide +kernel
theorem dX4_move_21 : decode cX4_move 21 = .ok (.aload_n 0, 1) := by decide +kernel
theorem dX4_move_22 : decode cX4_move 22 = .ok (.getfield 10, 3) := by decide +kernel
theorem dX4_move_25 : decode cX4_move 25 = .ok (.getfield 52, 3) := by decide +kernel
theorem dX4_move_28 : decode cX4_move 28 = .ok (.getfield 117, 3) := by decide +kernel
theorem dX4_move_31 : decode cX4_move 31 = .ok (.iload_n 1, 1) := by decide +kernel
theorem dX4_move_32 : decode cX4_move 32 = .ok (.iaload, 1) := by decide +kernel
theorem dX4_move_33 : decode cX4_move 33 = .ok (.istore_n 3, 1) := by decide +kernel
theorem dX4_move_34 : decode cX4_move 34 = .ok (.aload_n 0, 1) := by decide +kernel
theorem dX4_move_35 : decode cX4_move 35 = .ok (.getfield 10, 3) := by decide +kernel
theorem dX4_move_38 : decode cX4_move 38 = .ok (.getfield 52, 3) := by decide +kernel
theorem dX4_move_41 : decode cX4_move 41 = .ok (.getfield 117, 3) := by decide +kernel
theorem dX4_move_44 : decode cX4_move 44 = .ok (.iload_n 1, 1) := by decide +kernel
theorem dX4_move_45 : decode cX4_move 45 = .ok (.iload_n 2, 1) := by decide +kernel
theorem dX4_move_46 : decode cX4_move 46 = .ok (.iastore, 1) := by decide +kernel
theorem dX4_move_47 : decode cX4_move 47 = .ok (.aload_n 0, 1) := by decide +kernel
theorem dX4_move_48 : decode cX4_move 48 = .ok (.getfield 10, 3) := by decide +kernel
theorem dX4_move_51 : decode cX4_move 51 = .ok (.dup, 1) := by decide +kernel
theorem dX4_move_52 : decode cX4_move 52 = .ok (.getfield 62, 3) := by decide +kernel
theorem dX4_move_55 : decode cX4_move 55 = .ok (.iconst 2, 1) := by decide +kernel
theorem dX4_move_56 : decode cX4_move 56 = .ok (.isub, 1) := by decide +kernel
theorem dX4_move_57 : decode cX4_move 57 = .ok (.putfield 62, 3) := by decide +kernel
theorem dX4_move_60 : decode cX4_move 60 = .ok (.iload_n 3, 1) := by decide +kernel
theorem dX4_move_61 : decode cX4_move 61 = .ok (.ireturn, 1) := by decide +kernel
theorem dX4_mean_0 : decode cX4_mean 0 = .ok (.aload_n 0, 1) := by decide +kernel
theorem dX4_mean_1 : decode cX4_mean 1 = .ok (.getfield 10, 3) := by decide +kernel
theorem dX4_mean_4 : decode cX4_mean 4 = .ok (.getfield 27, 3) := by decide +kernel
theorem dX4_mean_7 : decode cX4_mean 7 = .ok (.getfield 31, 3) := by decide +kernel
theorem dX4_mean_10 : decode cX4_mean 10 = .ok (.ifCond .ne 5, 3) := by decide +kernel
theorem dX4_mean_13 : decode cX4_mean 13 = .ok (.dconst 0, 1) := by decide +kernel
theorem dX4_mean_14 : decode cX4_mean 14 = .ok (.dreturn, 1) := by decide +kernel
theorem dX4_mean_15 : decode cX4_mean 15 = .ok (.aload_n 0, 1) := by decide +kernel
theorem dX4_mean_16 : decode cX4_mean 16 = .ok (.getfield 10, 3) := by decide +kernel
theorem dX4_mean_19 : decode cX4_mean 19 = .ok (.getfield 27, 3) := by decide +kernel
theorem dX4_mean_22 : decode cX4_mean 22 = .ok (.invokevirtual 123, 3) := by decide +kernel
theorem dX4_mean_25 : decode cX4_mean 25 = .ok (.i2d, 1) := by decide +kernel
theorem dX4_mean_26 : decode cX4_mean 26 = .ok (.aload_n 0, 1) := by decide +kernel
theorem dX4_mean_27 : decode cX4_mean 27 = .ok (.getfield 10, 3) := by decide +kernel
theorem dX4_mean_30 : decode cX4_mean 30 = .ok (.getfield 27, 3) := by decide +kernel
theorem dX4_mean_33 : decode cX4_mean 33 = .ok (.getfield 31, 3) := by decide +kernel
theorem dX4_mean_36 : decode cX4_mean 36 = .ok (.i2d, 1) := by decide +kernel
theorem dX4_mean_37 : decode cX4_mean 37 = .ok (.ddiv, 1) := by decide +kernel
theorem dX4_mean_38 : decode cX4_mean 38 = .ok (.dreturn, 1) := by decide +kernel
theorem dX4_digest_0 : decode cX4_digest 0 = .ok (.ldc2_w 126, 3) := by decide +kernel
theorem dX4_digest_3 : decode cX4_digest 3 = .ok (.lstore_n 1, 1) := by decide +kernel
theorem dX4_digest_4 : decode cX4_digest 4 = .ok (.iconst 0, 1) := by decide +kernel
theorem dX4_digest_5 : decode cX4_digest 5 = .ok (.istore_n 3, 1) := by decide +kernel
theorem dX4_digest_6 : decode cX4_digest 6 = .ok (.iload_n 3, 1) := by decide +kernel
theorem dX4_digest_7 : decode cX4_digest 7 = .ok (.bipush 10, 2) := by decide +kernel
theorem dX4_digest_9 : decode cX4_digest 9 = .ok (.if_icmp .ge 25, 3) := by decide +kernel
theorem dX4_digest_12 : decode cX4_digest 12 = .ok (.lload_n 1, 1) := by decide +kernel
theorem dX4_digest_13 : decode cX4_digest 13 = .ok (.ldc2_w 128, 3) := by decide +kernel
theorem dX4_digest_16 : decode cX4_digest 16 = .ok (.lmul, 1) := by decide +kernel
theorem dX4_digest_17 : decode cX4_digest 17 = .ok (.aload_n 0, 1) := by decide +kernel
theorem dX4_digest_18 : decode cX4_digest 18 = .ok (.getfield 10, 3) := by decide +kernel
theorem dX4_digest_21 : decode cX4_digest 21 = .ok (.iload_n 3, 1) := by decide +kernel
theorem dX4_digest_22 : decode cX4_digest 22 = .ok (.invokevirtual 88, 3) := by decide +kernel
theorem dX4_digest_25 : decode cX4_digest 25 = .ok (.i2l, 1) := by decide +kernel
theorem dX4_digest_26 : decode cX4_digest 26 = .ok (.ladd, 1) := by decide +kernel
theorem dX4_digest_27 : decode cX4_digest 27 = .ok (.lstore_n 1, 1) := by decide +kernel
theorem dX4_digest_28 : decode cX4_digest 28 = .ok (.iinc 3 1, 3) := by decide +kernel
theorem dX4_digest_31 : decode cX4_digest 31 = .ok (.goto (-25), 3) := by decide +kernel
theorem dX4_digest_34 : decode cX4_digest 34 = .ok (.iconst 0, 1) := by decide +kernel
theorem dX4_digest_35 : decode cX4_digest 35 = .ok (.istore_n 3, 1) := by decide +kernel
theorem dX4_digest_36 : decode cX4_digest 36 = .ok (.iload_n 3, 1) := by decide +kernel
theorem dX4_digest_37 : decode cX4_digest 37 = .ok (.bipush 6, 2) := by decide +kernel
theorem dX4_digest_39 : decode cX4_digest 39 = .ok (.if_icmp .ge 26, 3) := by decide +kernel
theorem dX4_digest_42 : decode cX4_digest 42 = .ok (.lload_n 1, 1) := by decide +kernel
theorem dX4_digest_43 : decode cX4_digest 43 = .ok (.ldc2_w 128, 3) := by decide +kernel
theorem dX4_digest_46 : decode cX4_digest 46 = .ok (.lmul, 1) := by decide +kernel
theorem dX4_digest_47 : decode cX4_digest 47 = .ok (.aload_n 0, 1) := by decide +kernel
theorem dX4_digest_48 : decode cX4_digest 48 = .ok (.getfield 10, 3) := by decide +kernel
theorem dX4_digest_51 : decode cX4_digest 51 = .ok (.getfield 77, 3) := by decide +kernel
theorem dX4_digest_54 : decode cX4_digest 54 = .ok (.iload_n 3, 1) := by decide +kernel
theorem dX4_digest_55 : decode cX4_digest 55 = .ok (.iaload, 1) := by decide +kernel
theorem dX4_digest_56 : decode cX4_digest 56 = .ok (.i2l, 1) := by decide +kernel
theorem dX4_digest_57 : decode cX4_digest 57 = .ok (.ladd, 1) := by decide +kernel
theorem dX4_digest_58 : decode cX4_digest 58 = .ok (.lstore_n 1, 1) := by decide +kernel
theorem dX4_digest_59 : decode cX4_digest 59 = .ok (.iinc 3 1, 3) := by decide +kernel
theorem dX4_digest_62 : decode cX4_digest 62 = .ok (.goto (-26), 3) := by decide +kernel
theorem dX4_digest_65 : decode cX4_digest 65 = .ok (.aload_n 0, 1) := by decide +kernel
theorem dX4_digest_66 : decode cX4_digest 66 = .ok (.lload_n 1, 1) := by decide +kernel
theorem dX4_digest_67 : decode cX4_digest 67 = .ok (.invokevirtual 130, 3) := by decide +kernel
theorem dX4_digest_70 : decode cX4_digest 70 = .ok (.lstore_n 1, 1) := by decide +kernel
theorem dX4_digest_71 : decode cX4_digest 71 = .ok (.aload_n 0, 1) := by decide +kernel
theorem dX4_digest_72 : decode cX4_digest 72 = .ok (.lload_n 1, 1) := by decide +kernel
theorem dX4_digest_73 : decode cX4_digest 73 = .ok (.invokevirtual 134, 3) := by decide +kernel
theorem dX4_digest_76 : decode cX4_digest 76 = .ok (.lstore_n 1, 1) := by decide +kernel
theorem dX4_digest_77 : decode cX4_digest 77 = .ok (.aload_n 0, 1) := by decide +kernel
theorem dX4_digest_78 : decode cX4_digest 78 = .ok (.lload_n 1, 1) := by decide +kernel
theorem dX4_digest_79 : decode cX4_digest 79 = .ok (.invokevirtual 137, 3) := by decide +kernel
theorem dX4_digest_82 : decode cX4_digest 82 = .ok (.lreturn, 1) := by decide +kernel
theorem dX4_digestOfVineyards_0 : decode cX4_digestOfVineyards 0 = .ok (.lload_n 1, 1) := by decide +kernel
theorem dX4_digestOfVineyards_1 : decode cX4_digestOfVineyards 1 = .ok (.lstore_n 3, 1) := by decide +kernel
theorem dX4_digestOfVineyards_2 : decode cX4_digestOfVineyards 2 = .ok (.iconst 0, 1) := by decide +kernel
theorem dX4_digestOfVineyards_3 : decode cX4_digestOfVineyards 3 = .ok (.istore 5, 2) := by decide +kernel
theorem dX4_digestOfVineyards_5 : decode cX4_digestOfVineyards 5 = .ok (.iload 5, 2) := by decide +kernel
theorem dX4_digestOfVineyards_7 : decode cX4_digestOfVineyards 7 = .ok (.aload_n 0, 1) := by decide +kernel
theorem dX4_digestOfVineyards_8 : decode cX4_digestOfVineyards 8 = .ok (.getfield 10, 3) := by decide +kernel
theorem dX4_digestOfVineyards_11 : decode cX4_digestOfVineyards 11 = .ok (.getfield 27, 3) := by decide +kernel
theorem dX4_digestOfVineyards_14 : decode cX4_digestOfVineyards 14 = .ok (.getfield 31, 3) := by decide +kernel
theorem dX4_digestOfVineyards_17 : decode cX4_digestOfVineyards 17 = .ok (.if_icmp .ge 47, 3) := by decide +kernel
theorem dX4_digestOfVineyards_20 : decode cX4_digestOfVineyards 20 = .ok (.iconst 0, 1) := by decide +kernel
theorem dX4_digestOfVineyards_21 : decode cX4_digestOfVineyards 21 = .ok (.istore 6, 2) := by decide +kernel
theorem dX4_digestOfVineyards_23 : decode cX4_digestOfVineyards 23 = .ok (.iload 6, 2) := by decide +kernel
theorem dX4_digestOfVineyards_25 : decode cX4_digestOfVineyards 25 = .ok (.bipush 7, 2) := by decide +kernel
theorem dX4_digestOfVineyards_27 : decode cX4_digestOfVineyards 27 = .ok (.if_icmp .ge 31, 3) := by decide +kernel
theorem dX4_digestOfVineyards_30 : decode cX4_digestOfVineyards 30 = .ok (.lload_n 3, 1) := by decide +kernel
theorem dX4_digestOfVineyards_31 : decode cX4_digestOfVineyards 31 = .ok (.ldc2_w 128, 3) := by decide +kernel
theorem dX4_digestOfVineyards_34 : decode cX4_digestOfVineyards 34 = .ok (.lmul, 1) := by decide +kernel
theorem dX4_digestOfVineyards_35 : decode cX4_digestOfVineyards 35 = .ok (.aload_n 0, 1) := by decide +kernel
theorem dX4_digestOfVineyards_36 : decode cX4_digestOfVineyards 36 = .ok (.getfield 10, 3) := by decide +kernel
theorem dX4_digestOfVineyards_39 : decode cX4_digestOfVineyards 39 = .ok (.getfield 27, 3) := by decide +kernel
theorem dX4_digestOfVineyards_42 : decode cX4_digestOfVineyards 42 = .ok (.iload 5, 2) := by decide +kernel
theorem dX4_digestOfVineyards_44 : decode cX4_digestOfVineyards 44 = .ok (.iload 6, 2) := by decide +kernel
theorem dX4_digestOfVineyards_46 : decode cX4_digestOfVineyards 46 = .ok (.invokevirtual 81, 3) := by decide +kernel
theorem dX4_digestOfVineyards_49 : decode cX4_digestOfVineyards 49 = .ok (.i2l, 1) := by decide +kernel
theorem dX4_digestOfVineyards_50 : decode cX4_digestOfVineyards 50 = .ok (.ladd, 1) := by decide +kernel
theorem dX4_digestOfVineyards_51 : decode cX4_digestOfVineyards 51 = .ok (.lstore_n 3, 1) := by decide +kernel
theorem dX4_digestOfVineyards_52 : decode cX4_digestOfVineyards 52 = .ok (.iinc 6 1, 3) := by decide +kernel
theorem dX4_digestOfVineyards_55 : decode cX4_digestOfVineyards 55 = .ok (.goto (-32), 3) := by decide +kernel
theorem dX4_digestOfVineyards_58 : decode cX4_digestOfVineyards 58 = .ok (.iinc 5 1, 3) := by decide +kernel
theorem dX4_digestOfVineyards_61 : decode cX4_digestOfVineyards 61 = .ok (.goto (-56), 3) := by decide +kernel
theorem dX4_digestOfVineyards_64 : decode cX4_digestOfVineyards 64 = .ok (.lload_n 3, 1) := by decide +kernel
theorem dX4_digestOfVineyards_65 : decode cX4_digestOfVineyards 65 = .ok (.lreturn, 1) := by decide +kernel
theorem dX4_digestOfCannons_0 : decode cX4_digestOfCannons 0 = .ok (.lload_n 1, 1) := by decide +kernel
theorem dX4_digestOfCannons_1 : decode cX4_digestOfCannons 1 = .ok (.lstore_n 3, 1) := by decide +kernel
theorem dX4_digestOfCannons_2 : decode cX4_digestOfCannons 2 = .ok (.iconst 0, 1) := by decide +kernel
theorem dX4_digestOfCannons_3 : decode cX4_digestOfCannons 3 = .ok (.istore 5, 2) := by decide +kernel
theorem dX4_digestOfCannons_5 : decode cX4_digestOfCannons 5 = .ok (.iload 5, 2) := by decide +kernel
theorem dX4_digestOfCannons_7 : decode cX4_digestOfCannons 7 = .ok (.aload_n 0, 1) := by decide +kernel
theorem dX4_digestOfCannons_8 : decode cX4_digestOfCannons 8 = .ok (.getfield 10, 3) := by decide +kernel
theorem dX4_digestOfCannons_11 : decode cX4_digestOfCannons 11 = .ok (.getfield 52, 3) := by decide +kernel
theorem dX4_digestOfCannons_14 : decode cX4_digestOfCannons 14 = .ok (.getfield 56, 3) := by decide +kernel
theorem dX4_digestOfCannons_17 : decode cX4_digestOfCannons 17 = .ok (.if_icmp .ge 53, 3) := by decide +kernel
theorem dX4_digestOfCannons_20 : decode cX4_digestOfCannons 20 = .ok (.iconst 0, 1) := by decide +kernel
theorem dX4_digestOfCannons_21 : decode cX4_digestOfCannons 21 = .ok (.istore 6, 2) := by decide +kernel
theorem dX4_digestOfCannons_23 : decode cX4_digestOfCannons 23 = .ok (.iload 6, 2) := by decide +kernel
theorem dX4_digestOfCannons_25 : decode cX4_digestOfCannons 25 = .ok (.iconst 5, 1) := by decide +kernel
theorem dX4_digestOfCannons_26 : decode cX4_digestOfCannons 26 = .ok (.if_icmp .ge 38, 3) := by decide +kernel
theorem dX4_digestOfCannons_29 : decode cX4_digestOfCannons 29 = .ok (.lload_n 3, 1) := by decide +kernel
theorem dX4_digestOfCannons_30 : decode cX4_digestOfCannons 30 = .ok (.ldc2_w 128, 3) := by decide +kernel
theorem dX4_digestOfCannons_33 : decode cX4_digestOfCannons 33 = .ok (.lmul, 1) := by decide +kernel
theorem dX4_digestOfCannons_34 : decode cX4_digestOfCannons 34 = .ok (.aload_n 0, 1) := by decide +kernel
theorem dX4_digestOfCannons_35 : decode cX4_digestOfCannons 35 = .ok (.getfield 10, 3) := by decide +kernel
theorem dX4_digestOfCannons_38 : decode cX4_digestOfCannons 38 = .ok (.getfield 52, 3) := by decide +kernel
theorem dX4_digestOfCannons_41 : decode cX4_digestOfCannons 41 = .ok (.iload 5, 2) := by decide +kernel
theorem dX4_digestOfCannons_43 : decode cX4_digestOfCannons 43 = .ok (.iload 6, 2) := by decide +kernel
theorem dX4_digestOfCannons_45 : decode cX4_digestOfCannons 45 = .ok (.aload_n 0, 1) := by decide +kernel
theorem dX4_digestOfCannons_46 : decode cX4_digestOfCannons 46 = .ok (.getfield 10, 3) := by decide +kernel
theorem dX4_digestOfCannons_49 : decode cX4_digestOfCannons 49 = .ok (.getfield 69, 3) := by decide +kernel
theorem dX4_digestOfCannons_52 : decode cX4_digestOfCannons 52 = .ok (.invokevirtual 84, 3) := by decide +kernel
theorem dX4_digestOfCannons_55 : decode cX4_digestOfCannons 55 = .ok (.i2l, 1) := by decide +kernel
theorem dX4_digestOfCannons_56 : decode cX4_digestOfCannons 56 = .ok (.ladd, 1) := by decide +kernel
theorem dX4_digestOfCannons_57 : decode cX4_digestOfCannons 57 = .ok (.lstore_n 3, 1) := by decide +kernel
theorem dX4_digestOfCannons_58 : decode cX4_digestOfCannons 58 = .ok (.iinc 6 1, 3) := by decide +kernel
theorem dX4_digestOfCannons_61 : decode cX4_digestOfCannons 61 = .ok (.goto (-38), 3) := by decide +kernel
theorem dX4_digestOfCannons_64 : decode cX4_digestOfCannons 64 = .ok (.iinc 5 1, 3) := by decide +kernel
theorem dX4_digestOfCannons_67 : decode cX4_digestOfCannons 67 = .ok (.goto (-62), 3) := by decide +kernel
theorem dX4_digestOfCannons_70 : decode cX4_digestOfCannons 70 = .ok (.lload_n 3, 1) := by decide +kernel
theorem dX4_digestOfCannons_71 : decode cX4_digestOfCannons 71 = .ok (.lreturn, 1) := by decide +kernel
theorem dX4_digestOfClouds_0 : decode cX4_digestOfClouds 0 = .ok (.lload_n 1, 1) := by decide +kernel
theorem dX4_digestOfClouds_1 : decode cX4_digestOfClouds 1 = .ok (.lstore_n 3, 1) := by decide +kernel
theorem dX4_digestOfClouds_2 : decode cX4_digestOfClouds 2 = .ok (.iconst 0, 1) := by decide +kernel
theorem dX4_digestOfClouds_3 : decode cX4_digestOfClouds 3 = .ok (.istore 5, 2) := by decide +kernel
theorem dX4_digestOfClouds_5 : decode cX4_digestOfClouds 5 = .ok (.iload 5, 2) := by decide +kernel
theorem dX4_digestOfClouds_7 : decode cX4_digestOfClouds 7 = .ok (.aload_n 0, 1) := by decide +kernel
theorem dX4_digestOfClouds_8 : decode cX4_digestOfClouds 8 = .ok (.getfield 10, 3) := by decide +kernel
theorem dX4_digestOfClouds_11 : decode cX4_digestOfClouds 11 = .ok (.getfield 69, 3) := by decide +kernel
theorem dX4_digestOfClouds_14 : decode cX4_digestOfClouds 14 = .ok (.getfield 73, 3) := by decide +kernel
theorem dX4_digestOfClouds_17 : decode cX4_digestOfClouds 17 = .ok (.if_icmp .ge 46, 3) := by decide +kernel
theorem dX4_digestOfClouds_20 : decode cX4_digestOfClouds 20 = .ok (.iconst 0, 1) := by decide +kernel
theorem dX4_digestOfClouds_21 : decode cX4_digestOfClouds 21 = .ok (.istore 6, 2) := by decide +kernel
theorem dX4_digestOfClouds_23 : decode cX4_digestOfClouds 23 = .ok (.iload 6, 2) := by decide +kernel
theorem dX4_digestOfClouds_25 : decode cX4_digestOfClouds 25 = .ok (.iconst 4, 1) := by decide +kernel
theorem dX4_digestOfClouds_26 : decode cX4_digestOfClouds 26 = .ok (.if_icmp .ge 31, 3) := by decide +kernel
theorem dX4_digestOfClouds_29 : decode cX4_digestOfClouds 29 = .ok (.lload_n 3, 1) := by decide +kernel
theorem dX4_digestOfClouds_30 : decode cX4_digestOfClouds 30 = .ok (.ldc2_w 128, 3) := by decide +kernel
theorem dX4_digestOfClouds_33 : decode cX4_digestOfClouds 33 = .ok (.lmul, 1) := by decide +kernel
theorem dX4_digestOfClouds_34 : decode cX4_digestOfClouds 34 = .ok (.aload_n 0, 1) := by decide +kernel
theorem dX4_digestOfClouds_35 : decode cX4_digestOfClouds 35 = .ok (.getfield 10, 3) := by decide +kernel
theorem dX4_digestOfClouds_38 : decode cX4_digestOfClouds 38 = .ok (.getfield 69, 3) := by decide +kernel
theorem dX4_digestOfClouds_41 : decode cX4_digestOfClouds 41 = .ok (.iload 5, 2) := by decide +kernel
theorem dX4_digestOfClouds_43 : decode cX4_digestOfClouds 43 = .ok (.iload 6, 2) := by decide +kernel
theorem dX4_digestOfClouds_45 : decode cX4_digestOfClouds 45 = .ok (.invokevirtual 87, 3) := by decide +kernel
theorem dX4_digestOfClouds_48 : decode cX4_digestOfClouds 48 = .ok (.i2l, 1) := by decide +kernel
theorem dX4_digestOfClouds_49 : decode cX4_digestOfClouds 49 = .ok (.ladd, 1) := by decide +kernel
theorem dX4_digestOfClouds_50 : decode cX4_digestOfClouds 50 = .ok (.lstore_n 3, 1) := by decide +kernel
theorem dX4_digestOfClouds_51 : decode cX4_digestOfClouds 51 = .ok (.iinc 6 1, 3) := by decide +kernel
theorem dX4_digestOfClouds_54 : decode cX4_digestOfClouds 54 = .ok (.goto (-31), 3) := by decide +kernel
theorem dX4_digestOfClouds_57 : decode cX4_digestOfClouds 57 = .ok (.iinc 5 1, 3) := by decide +kernel
theorem dX4_digestOfClouds_60 : decode cX4_digestOfClouds 60 = .ok (.goto (-55), 3) := by decide +kernel
theorem dX4_digestOfClouds_63 : decode cX4_digestOfClouds 63 = .ok (.lload_n 3, 1) := by decide +kernel
theorem dX4_digestOfClouds_64 : decode cX4_digestOfClouds 64 = .ok (.lreturn, 1) := by decide +kernel
theorem dX4_lostWith_0 : decode cX4_lostWith 0 = .ok (.aload_n 0, 1) := by decide +kernel
theorem dX4_lostWith_1 : decode cX4_lostWith 1 = .ok (.getfield 16, 3) := by decide +kernel
theorem dX4_lostWith_4 : decode cX4_lostWith 4 = .ok (.aload_n 0, 1) := by decide +kernel
theorem dX4_lostWith_5 : decode cX4_lostWith 5 = .ok (.getfield 10, 3) := by decide +kernel
theorem dX4_lostWith_8 : decode cX4_lostWith 8 = .ok (.invokevirtual 100, 3) := by decide +kernel
theorem dX4_lostWith_11 : decode cX4_lostWith 11 = .ok (.aload_n 0, 1) := by decide +kernel
theorem dX4_lostWith_12 : decode cX4_lostWith 12 = .ok (.getfield 16, 3) := by decide +kernel
theorem dX4_lostWith_15 : decode cX4_lostWith 15 = .ok (.getfield 52, 3) := by decide +kernel
theorem dX4_lostWith_18 : decode cX4_lostWith 18 = .ok (.getfield 117, 3) := by decide +kernel
theorem dX4_lostWith_21 : decode cX4_lostWith 21 = .ok (.iload_n 1, 1) := by decide +kernel
theorem dX4_lostWith_22 : decode cX4_lostWith 22 = .ok (.iload_n 2, 1) := by decide +kernel
theorem dX4_lostWith_23 : decode cX4_lostWith 23 = .ok (.iastore, 1) := by decide +kernel
theorem dX4_lostWith_24 : decode cX4_lostWith 24 = .ok (.iconst 0, 1) := by decide +kernel
theorem dX4_lostWith_25 : decode cX4_lostWith 25 = .ok (.istore 4, 2) := by decide +kernel
theorem dX4_lostWith_27 : decode cX4_lostWith 27 = .ok (.iload 4, 2) := by decide +kernel
theorem dX4_lostWith_29 : decode cX4_lostWith 29 = .ok (.iload_n 3, 1) := by decide +kernel
theorem dX4_lostWith_30 : decode cX4_lostWith 30 = .ok (.if_icmp .ge 29, 3) := by decide +kernel
theorem dX4_lostWith_33 : decode cX4_lostWith 33 = .ok (.aload_n 0, 1) := by decide +kernel
theorem dX4_lostWith_34 : decode cX4_lostWith 34 = .ok (.getfield 16, 3) := by decide +kernel
theorem dX4_lostWith_37 : decode cX4_lostWith 37 = .ok (.getfield 69, 3) := by decide +kernel
theorem dX4_lostWith_40 : decode cX4_lostWith 40 = .ok (.invokevirtual 107, 3) := by decide +kernel
theorem dX4_lostWith_43 : decode cX4_lostWith 43 = .ok (.ifCond .eq 16, 3) := by decide +kernel
theorem dX4_lostWith_46 : decode cX4_lostWith 46 = .ok (.aload_n 0, 1) := by decide +kernel
theorem dX4_lostWith_47 : decode cX4_lostWith 47 = .ok (.getfield 16, 3) := by decide +kernel
theorem dX4_lostWith_50 : decode cX4_lostWith 50 = .ok (.invokevirtual 111, 3) := by decide +kernel
theorem dX4_lostWith_53 : decode cX4_lostWith 53 = .ok (.iinc 4 1, 3) := by decide +kernel
theorem dX4_lostWith_56 : decode cX4_lostWith 56 = .ok (.goto (-29), 3) := by decide +kernel
theorem dX4_lostWith_59 : decode cX4_lostWith 59 = .ok (.aload_n 0, 1) := by decide +kernel
theorem dX4_lostWith_60 : decode cX4_lostWith 60 = .ok (.getfield 16, 3) := by decide +kernel
theorem dX4_lostWith_63 : decode cX4_lostWith 63 = .ok (.getfield 27, 3) := by decide +kernel
theorem dX4_lostWith_66 : decode cX4_lostWith 66 = .ok (.invokevirtual 92, 3) := by decide +kernel
theorem dX4_lostWith_69 : decode cX4_lostWith 69 = .ok (.ireturn, 1) := by decide +kernel
theorem dX4_isPlace_0 : decode cX4_isPlace 0 = .ok (.iload_n 0, 1) := by decide +kernel
theorem dX4_isPlace_1 : decode cX4_isPlace 1 = .ok (.ifCond .lt 13, 3) := by decide +kernel
theorem dX4_isPlace_4 : decode cX4_isPlace 4 = .ok (.iload_n 0, 1) := by decide +kernel
theorem dX4_isPlace_5 : decode cX4_isPlace 5 = .ok (.bipush 30, 2) := by decide +kernel
theorem dX4_isPlace_7 : decode cX4_isPlace 7 = .ok (.if_icmp .ge 7, 3) := by decide +kernel
theorem dX4_isPlace_10 : decode cX4_isPlace 10 = .ok (.iconst 1, 1) := by decide +kernel
theorem dX4_isPlace_11 : decode cX4_isPlace 11 = .ok (.goto 4, 3) := by decide +kernel
theorem dX4_isPlace_14 : decode cX4_isPlace 14 = .ok (.iconst 0, 1) := by decide +kernel
theorem dX4_isPlace_15 : decode cX4_isPlace 15 = .ok (.ireturn, 1) := by decide +kernel
theorem dX4_requireArgument_0 : decode cX4_requireArgument 0 = .ok (.iload_n 0, 1) := by decide +kernel
theorem dX4_requireArgument_1 : decode cX4_requireArgument 1 = .ok (.ifCond .ne 11, 3) := by decide +kernel
theorem dX4_requireArgument_4 : decode cX4_requireArgument 4 = .ok (.new 140, 3) := by decide +kernel
theorem dX4_requireArgument_7 : decode cX4_requireArgument 7 = .ok (.dup, 1) := by decide +kernel
theorem dX4_requireArgument_8 : decode cX4_requireArgument 8 = .ok (.invokespecial 142, 3) := by decide +kernel
theorem dX4_requireArgument_11 : decode cX4_requireArgument 11 = .ok (.athrow, 1) := by decide +kernel
theorem dX4_requireArgument_12 : decode cX4_requireArgument 12 = .ok (.return_, 1) := by decide +kernel
theorem dX4_requireState_0 : decode cX4_requireState 0 = .ok (.iload_n 0, 1) := by decide +kernel
theorem dX4_requireState_1 : decode cX4_requireState 1 = .ok (.ifCond .ne 11, 3) := by decide +kernel
theorem dX4_requireState_4 : decode cX4_requireState 4 = .ok (.new 143, 3) := by decide +kernel
theorem dX4_requireState_7 : decode cX4_requireState 7 = .ok (.dup, 1) := by decide +kernel
theorem dX4_requireState_8 : decode cX4_requireState 8 = .ok (.invokespecial 145, 3) := by decide +kernel
theorem dX4_requireState_11 : decode cX4_requireState 11 = .ok (.athrow, 1) := by decide +kernel
theorem dX4_requireState_12 : decode cX4_requireState 12 = .ok (.return_, 1) := by decide +kernel
theorem dX4_requireIndex_0 : decode cX4_requireIndex 0 = .ok (.iload_n 0, 1) := by decide +kernel
theorem dX4_requireIndex_1 : decode cX4_requireIndex 1 = .ok (.ifCond .lt 8, 3) := by decide +kernel
theorem dX4_requireIndex_4 : decode cX4_requireIndex 4 = .ok (.iload_n 0, 1) := by decide +kernel
theorem dX4_requireIndex_5 : decode cX4_requireIndex 5 = .ok (.iload_n 1, 1) := by decide +kernel
theorem dX4_requireIndex_6 : decode cX4_requireIndex 6 = .ok (.if_icmp .lt 11, 3) := by decide +kernel
theorem dX4_requireIndex_9 : decode cX4_requireIndex 9 = .ok (.new 146, 3) := by decide +kernel
theorem dX4_requireIndex_12 : decode cX4_requireIndex 12 = .ok (.dup, 1) := by decide +kernel
theorem dX4_requireIndex_13 : decode cX4_requireIndex 13 = .ok (.invokespecial 148, 3) := by decide +kernel
theorem dX4_requireIndex_16 : decode cX4_requireIndex 16 = .ok (.athrow, 1) := by decide +kernel
theorem dX4_requireIndex_17 : decode cX4_requireIndex 17 = .ok (.return_, 1) := by decide +kernel
theorem dX4_requireForeseen_0 : decode cX4_requireForeseen 0 = .ok (.iload_n 0, 1) := by decide +kernel
theorem dX4_requireForeseen_1 : decode cX4_requireForeseen 1 = .ok (.iconst 2, 1) := by decide +kernel
theorem dX4_requireForeseen_2 : decode cX4_requireForeseen 2 = .ok (.if_icmp .eq 32, 3) := by decide +kernel
theorem dX4_requireForeseen_5 : decode cX4_requireForeseen 5 = .ok (.iload_n 0, 1) := by decide +kernel
theorem dX4_requireForeseen_6 : decode cX4_requireForeseen 6 = .ok (.iconst 3, 1) := by decide +kernel
theorem dX4_requireForeseen_7 : decode cX4_requireForeseen 7 = .ok (.if_icmp .eq 27, 3) := by decide +kernel
theorem dX4_requireForeseen_10 : decode cX4_requireForeseen 10 = .ok (.iload_n 0, 1) := by decide +kernel
theorem dX4_requireForeseen_11 : decode cX4_requireForeseen 11 = .ok (.iconst 4, 1) := by decide +kernel
theorem dX4_requireForeseen_12 : decode cX4_requireForeseen 12 = .ok (.if_icmp .eq 22, 3) := by decide +kernel
theorem dX4_requireForeseen_15 : decode cX4_requireForeseen 15 = .ok (.iload_n 0, 1) := by decide +kernel
theorem dX4_requireForeseen_16 : decode cX4_requireForeseen 16 = .ok (.iconst 5, 1) := by decide +kernel
theorem dX4_requireForeseen_17 : decode cX4_requireForeseen 17 = .ok (.if_icmp .eq 17, 3) := by decide +kernel
theorem dX4_requireForeseen_20 : decode cX4_requireForeseen 20 = .ok (.iload_n 0, 1) := by decide +kernel
theorem dX4_requireForeseen_21 : decode cX4_requireForeseen 21 = .ok (.bipush 8, 2) := by decide +kernel
theorem dX4_requireForeseen_23 : decode cX4_requireForeseen 23 = .ok (.if_icmp .eq 11, 3) := by decide +kernel
theorem dX4_requireForeseen_26 : decode cX4_requireForeseen 26 = .ok (.new 146, 3) := by decide +kernel
theorem dX4_requireForeseen_29 : decode cX4_requireForeseen 29 = .ok (.dup, 1) := by decide +kernel
theorem dX4_requireForeseen_30 : decode cX4_requireForeseen 30 = .ok (.invokespecial 148, 3) := by decide +kernel
theorem dX4_requireForeseen_33 : decode cX4_requireForeseen 33 = .ok (.athrow, 1) := by decide +kernel
theorem dX4_requireForeseen_34 : decode cX4_requireForeseen 34 = .ok (.return_, 1) := by decide +kernel
