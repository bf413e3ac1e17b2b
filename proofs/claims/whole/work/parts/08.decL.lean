theorem dL_plant_0 : decode cL_plant 0 = .ok (.aload 5, 2) := by decide +kernel
theorem dL_plant_2 : decode cL_plant 2 = .ok (.iconst 0, 1) := by decide +kernel
theorem dL_plant_3 : decode cL_plant 3 = .ok (.aload_n 0, 1) := by decide +kernel
theorem dL_plant_4 : decode cL_plant 4 = .ok (.iload_n 1, 1) := by decide +kernel
theorem dL_plant_5 : decode cL_plant 5 = .ok (.iload_n 2, 1) := by decide +kernel
theorem dL_plant_6 : decode cL_plant 6 = .ok (.iload_n 3, 1) := by decide +kernel
theorem dL_plant_7 : decode cL_plant 7 = .ok (.iload 4, 2) := by decide +kernel
theorem dL_plant_9 : decode cL_plant 9 = .ok (.invokevirtual 7, 3) := by decide +kernel
theorem dL_plant_12 : decode cL_plant 12 = .ok (.i2l, 1) := by decide +kernel
theorem dL_plant_13 : decode cL_plant 13 = .ok (.lastore, 1) := by decide +kernel
theorem dL_plant_14 : decode cL_plant 14 = .ok (.goto 11, 3) := by decide +kernel
theorem dL_plant_17 : decode cL_plant 17 = .ok (.astore 6, 2) := by decide +kernel
theorem dL_plant_19 : decode cL_plant 19 = .ok (.iconst 1, 1) := by decide +kernel
theorem dL_plant_20 : decode cL_plant 20 = .ok (.ireturn, 1) := by decide +kernel
theorem dL_plant_21 : decode cL_plant 21 = .ok (.astore 6, 2) := by decide +kernel
theorem dL_plant_23 : decode cL_plant 23 = .ok (.iconst 2, 1) := by decide +kernel
theorem dL_plant_24 : decode cL_plant 24 = .ok (.ireturn, 1) := by decide +kernel
theorem dL_plant_25 : decode cL_plant 25 = .ok (.iconst 0, 1) := by decide +kernel
theorem dL_plant_26 : decode cL_plant 26 = .ok (.ireturn, 1) := by decide +kernel
theorem dL_sign_0 : decode cL_sign 0 = .ok (.aload 4, 2) := by decide +kernel
theorem dL_sign_2 : decode cL_sign 2 = .ok (.iconst 0, 1) := by decide +kernel
theorem dL_sign_3 : decode cL_sign 3 = .ok (.aload_n 0, 1) := by decide +kernel
theorem dL_sign_4 : decode cL_sign 4 = .ok (.iload_n 1, 1) := by decide +kernel
theorem dL_sign_5 : decode cL_sign 5 = .ok (.iload_n 2, 1) := by decide +kernel
theorem dL_sign_6 : decode cL_sign 6 = .ok (.iload_n 3, 1) := by decide +kernel
theorem dL_sign_7 : decode cL_sign 7 = .ok (.invokevirtual 17, 3) := by decide +kernel
theorem dL_sign_10 : decode cL_sign 10 = .ok (.i2l, 1) := by decide +kernel
theorem dL_sign_11 : decode cL_sign 11 = .ok (.lastore, 1) := by decide +kernel
theorem dL_sign_12 : decode cL_sign 12 = .ok (.goto 7, 3) := by decide +kernel
theorem dL_sign_15 : decode cL_sign 15 = .ok (.astore 5, 2) := by decide +kernel
theorem dL_sign_17 : decode cL_sign 17 = .ok (.iconst 1, 1) := by decide +kernel
theorem dL_sign_18 : decode cL_sign 18 = .ok (.ireturn, 1) := by decide +kernel
theorem dL_sign_19 : decode cL_sign 19 = .ok (.iconst 0, 1) := by decide +kernel
theorem dL_sign_20 : decode cL_sign 20 = .ok (.ireturn, 1) := by decide +kernel
theorem dL_cannon_0 : decode cL_cannon 0 = .ok (.aload 4, 2) := by decide +kernel
theorem dL_cannon_2 : decode cL_cannon 2 = .ok (.iconst 0, 1) := by decide +kernel
theorem dL_cannon_3 : decode cL_cannon 3 = .ok (.aload_n 0, 1) := by decide +kernel
theorem dL_cannon_4 : decode cL_cannon 4 = .ok (.iload_n 1, 1) := by decide +kernel
theorem dL_cannon_5 : decode cL_cannon 5 = .ok (.iload_n 2, 1) := by decide +kernel
theorem dL_cannon_6 : decode cL_cannon 6 = .ok (.iload_n 3, 1) := by decide +kernel
theorem dL_cannon_7 : decode cL_cannon 7 = .ok (.invokevirtual 23, 3) := by decide +kernel
theorem dL_cannon_10 : decode cL_cannon 10 = .ok (.i2l, 1) := by decide +kernel
theorem dL_cannon_11 : decode cL_cannon 11 = .ok (.lastore, 1) := by decide +kernel
theorem dL_cannon_12 : decode cL_cannon 12 = .ok (.goto 11, 3) := by decide +kernel
theorem dL_cannon_15 : decode cL_cannon 15 = .ok (.astore 5, 2) := by decide +kernel
theorem dL_cannon_17 : decode cL_cannon 17 = .ok (.iconst 1, 1) := by decide +kernel
theorem dL_cannon_18 : decode cL_cannon 18 = .ok (.ireturn, 1) := by decide +kernel
theorem dL_cannon_19 : decode cL_cannon 19 = .ok (.astore 5, 2) := by decide +kernel
theorem dL_cannon_21 : decode cL_cannon 21 = .ok (.iconst 2, 1) := by decide +kernel
theorem dL_cannon_22 : decode cL_cannon 22 = .ok (.ireturn, 1) := by decide +kernel
theorem dL_cannon_23 : decode cL_cannon 23 = .ok (.iconst 0, 1) := by decide +kernel
theorem dL_cannon_24 : decode cL_cannon 24 = .ok (.ireturn, 1) := by decide +kernel
theorem dL_load_0 : decode cL_load 0 = .ok (.aload_n 3, 1) := by decide +kernel
theorem dL_load_1 : decode cL_load 1 = .ok (.iconst 0, 1) := by decide +kernel
theorem dL_load_2 : decode cL_load 2 = .ok (.aload_n 0, 1) := by decide +kernel
theorem dL_load_3 : decode cL_load 3 = .ok (.iload_n 1, 1) := by decide +kernel
theorem dL_load_4 : decode cL_load 4 = .ok (.iload_n 2, 1) := by decide +kernel
theorem dL_load_5 : decode cL_load 5 = .ok (.invokevirtual 27, 3) := by decide +kernel
theorem dL_load_8 : decode cL_load 8 = .ok (.i2l, 1) := by decide +kernel
theorem dL_load_9 : decode cL_load 9 = .ok (.lastore, 1) := by decide +kernel
theorem dL_load_10 : decode cL_load 10 = .ok (.goto 11, 3) := by decide +kernel
theorem dL_load_13 : decode cL_load 13 = .ok (.astore 4, 2) := by decide +kernel
theorem dL_load_15 : decode cL_load 15 = .ok (.iconst 1, 1) := by decide +kernel
theorem dL_load_16 : decode cL_load 16 = .ok (.ireturn, 1) := by decide +kernel
theorem dL_load_17 : decode cL_load 17 = .ok (.astore 4, 2) := by decide +kernel
theorem dL_load_19 : decode cL_load 19 = .ok (.iconst 2, 1) := by decide +kernel
theorem dL_load_20 : decode cL_load 20 = .ok (.ireturn, 1) := by decide +kernel
theorem dL_load_21 : decode cL_load 21 = .ok (.iconst 0, 1) := by decide +kernel
theorem dL_load_22 : decode cL_load 22 = .ok (.ireturn, 1) := by decide +kernel
theorem dL_gather_0 : decode cL_gather 0 = .ok (.aload 4, 2) := by decide +kernel
theorem dL_gather_2 : decode cL_gather 2 = .ok (.iconst 0, 1) := by decide +kernel
theorem dL_gather_3 : decode cL_gather 3 = .ok (.aload_n 0, 1) := by decide +kernel
theorem dL_gather_4 : decode cL_gather 4 = .ok (.iload_n 1, 1) := by decide +kernel
theorem dL_gather_5 : decode cL_gather 5 = .ok (.iload_n 2, 1) := by decide +kernel
theorem dL_gather_6 : decode cL_gather 6 = .ok (.iload_n 3, 1) := by decide +kernel
theorem dL_gather_7 : decode cL_gather 7 = .ok (.invokevirtual 31, 3) := by decide +kernel
theorem dL_gather_10 : decode cL_gather 10 = .ok (.i2l, 1) := by decide +kernel
theorem dL_gather_11 : decode cL_gather 11 = .ok (.lastore, 1) := by decide +kernel
theorem dL_gather_12 : decode cL_gather 12 = .ok (.goto 11, 3) := by decide +kernel
theorem dL_gather_15 : decode cL_gather 15 = .ok (.astore 5, 2) := by decide +kernel
theorem dL_gather_17 : decode cL_gather 17 = .ok (.iconst 1, 1) := by decide +kernel
theorem dL_gather_18 : decode cL_gather 18 = .ok (.ireturn, 1) := by decide +kernel
theorem dL_gather_19 : decode cL_gather 19 = .ok (.astore 5, 2) := by decide +kernel
theorem dL_gather_21 : decode cL_gather 21 = .ok (.iconst 2, 1) := by decide +kernel
theorem dL_gather_22 : decode cL_gather 22 = .ok (.ireturn, 1) := by decide +kernel
theorem dL_gather_23 : decode cL_gather 23 = .ok (.iconst 0, 1) := by decide +kernel
theorem dL_gather_24 : decode cL_gather 24 = .ok (.ireturn, 1) := by decide +kernel
theorem dL_setWind_0 : decode cL_setWind 0 = .ok (.aload_n 3, 1) := by decide +kernel
theorem dL_setWind_1 : decode cL_setWind 1 = .ok (.iconst 0, 1) := by decide +kernel
theorem dL_setWind_2 : decode cL_setWind 2 = .ok (.aload_n 0, 1) := by decide +kernel
theorem dL_setWind_3 : decode cL_setWind 3 = .ok (.iload_n 1, 1) := by decide +kernel
theorem dL_setWind_4 : decode cL_setWind 4 = .ok (.iload_n 2, 1) := by decide +kernel
theorem dL_setWind_5 : decode cL_setWind 5 = .ok (.invokevirtual 34, 3) := by decide +kernel
theorem dL_setWind_8 : decode cL_setWind 8 = .ok (.i2l, 1) := by decide +kernel
theorem dL_setWind_9 : decode cL_setWind 9 = .ok (.lastore, 1) := by decide +kernel
theorem dL_setWind_10 : decode cL_setWind 10 = .ok (.goto 11, 3) := by decide +kernel
theorem dL_setWind_13 : decode cL_setWind 13 = .ok (.astore 4, 2) := by decide +kernel
theorem dL_setWind_15 : decode cL_setWind 15 = .ok (.iconst 1, 1) := by decide +kernel
theorem dL_setWind_16 : decode cL_setWind 16 = .ok (.ireturn, 1) := by decide +kernel
theorem dL_setWind_17 : decode cL_setWind 17 = .ok (.astore 4, 2) := by decide +kernel
theorem dL_setWind_19 : decode cL_setWind 19 = .ok (.iconst 2, 1) := by decide +kernel
theorem dL_setWind_20 : decode cL_setWind 20 = .ok (.ireturn, 1) := by decide +kernel
theorem dL_setWind_21 : decode cL_setWind 21 = .ok (.iconst 0, 1) := by decide +kernel
theorem dL_setWind_22 : decode cL_setWind 22 = .ok (.ireturn, 1) := by decide +kernel
theorem dL_vineyard_0 : decode cL_vineyard 0 = .ok (.aload_n 3, 1) := by decide +kernel
theorem dL_vineyard_1 : decode cL_vineyard 1 = .ok (.iconst 0, 1) := by decide +kernel
theorem dL_vineyard_2 : decode cL_vineyard 2 = .ok (.aload_n 0, 1) := by decide +kernel
theorem dL_vineyard_3 : decode cL_vineyard 3 = .ok (.iload_n 1, 1) := by decide +kernel
theorem dL_vineyard_4 : decode cL_vineyard 4 = .ok (.iload_n 2, 1) := by decide +kernel
theorem dL_vineyard_5 : decode cL_vineyard 5 = .ok (.invokevirtual 37, 3) := by decide +kernel
theorem dL_vineyard_8 : decode cL_vineyard 8 = .ok (.i2l, 1) := by decide +kernel
theorem dL_vineyard_9 : decode cL_vineyard 9 = .ok (.lastore, 1) := by decide +kernel
theorem dL_vineyard_10 : decode cL_vineyard 10 = .ok (.goto 7, 3) := by decide +kernel
theorem dL_vineyard_13 : decode cL_vineyard 13 = .ok (.astore 4, 2) := by decide +kernel
theorem dL_vineyard_15 : decode cL_vineyard 15 = .ok (.iconst 1, 1) := by decide +kernel
theorem dL_vineyard_16 : decode cL_vineyard 16 = .ok (.ireturn, 1) := by decide +kernel
theorem dL_vineyard_17 : decode cL_vineyard 17 = .ok (.iconst 0, 1) := by decide +kernel
theorem dL_vineyard_18 : decode cL_vineyard 18 = .ok (.ireturn, 1) := by decide +kernel
theorem dL_about_0 : decode cL_about 0 = .ok (.aload_n 3, 1) := by decide +kernel
theorem dL_about_1 : decode cL_about 1 = .ok (.iconst 0, 1) := by decide +kernel
theorem dL_about_2 : decode cL_about 2 = .ok (.aload_n 0, 1) := by decide +kernel
theorem dL_about_3 : decode cL_about 3 = .ok (.iload_n 1, 1) := by decide +kernel
theorem dL_about_4 : decode cL_about 4 = .ok (.iload_n 2, 1) := by decide +kernel
theorem dL_about_5 : decode cL_about 5 = .ok (.invokevirtual 40, 3) := by decide +kernel
theorem dL_about_8 : decode cL_about 8 = .ok (.i2l, 1) := by decide +kernel
theorem dL_about_9 : decode cL_about 9 = .ok (.lastore, 1) := by decide +kernel
theorem dL_about_10 : decode cL_about 10 = .ok (.goto 7, 3) := by decide +kernel
theorem dL_about_13 : decode cL_about 13 = .ok (.astore 4, 2) := by decide +kernel
theorem dL_about_15 : decode cL_about 15 = .ok (.iconst 1, 1) := by decide +kernel
theorem dL_about_16 : decode cL_about 16 = .ok (.ireturn, 1) := by decide +kernel
theorem dL_about_17 : decode cL_about 17 = .ok (.iconst 0, 1) := by decide +kernel
theorem dL_about_18 : decode cL_about 18 = .ok (.ireturn, 1) := by decide +kernel
theorem dL_cloud_0 : decode cL_cloud 0 = .ok (.aload_n 3, 1) := by decide +kernel
theorem dL_cloud_1 : decode cL_cloud 1 = .ok (.iconst 0, 1) := by decide +kernel
theorem dL_cloud_2 : decode cL_cloud 2 = .ok (.aload_n 0, 1) := by decide +kernel
theorem dL_cloud_3 : decode cL_cloud 3 = .ok (.iload_n 1, 1) := by decide +kernel
theorem dL_cloud_4 : decode cL_cloud 4 = .ok (.iload_n 2, 1) := by decide +kernel
theorem dL_cloud_5 : decode cL_cloud 5 = .ok (.invokevirtual 43, 3) := by decide +kernel
theorem dL_cloud_8 : decode cL_cloud 8 = .ok (.i2l, 1) := by decide +kernel
theorem dL_cloud_9 : decode cL_cloud 9 = .ok (.lastore, 1) := by decide +kernel
theorem dL_cloud_10 : decode cL_cloud 10 = .ok (.goto 7, 3) := by decide +kernel
theorem dL_cloud_13 : decode cL_cloud 13 = .ok (.astore 4, 2) := by decide +kernel
theorem dL_cloud_15 : decode cL_cloud 15 = .ok (.iconst 1, 1) := by decide +kernel
theorem dL_cloud_16 : decode cL_cloud 16 = .ok (.ireturn, 1) := by decide +kernel
theorem dL_cloud_17 : decode cL_cloud 17 = .ok (.iconst 0, 1) := by decide +kernel
theorem dL_cloud_18 : decode cL_cloud 18 = .ok (.ireturn, 1) := by decide +kernel
theorem dL_count_0 : decode cL_count 0 = .ok (.aload_n 2, 1) := by decide +kernel
theorem dL_count_1 : decode cL_count 1 = .ok (.iconst 0, 1) := by decide +kernel
theorem dL_count_2 : decode cL_count 2 = .ok (.aload_n 0, 1) := by decide +kernel
theorem dL_count_3 : decode cL_count 3 = .ok (.iload_n 1, 1) := by decide +kernel
theorem dL_count_4 : decode cL_count 4 = .ok (.invokevirtual 46, 3) := by decide +kernel
theorem dL_count_7 : decode cL_count 7 = .ok (.i2l, 1) := by decide +kernel
theorem dL_count_8 : decode cL_count 8 = .ok (.lastore, 1) := by decide +kernel
theorem dL_count_9 : decode cL_count 9 = .ok (.goto 6, 3) := by decide +kernel
theorem dL_count_12 : decode cL_count 12 = .ok (.astore_n 3, 1) := by decide +kernel
theorem dL_count_13 : decode cL_count 13 = .ok (.iconst 1, 1) := by decide +kernel
theorem dL_count_14 : decode cL_count 14 = .ok (.ireturn, 1) := by decide +kernel
theorem dL_count_15 : decode cL_count 15 = .ok (.iconst 0, 1) := by decide +kernel
theorem dL_count_16 : decode cL_count 16 = .ok (.ireturn, 1) := by decide +kernel
theorem dL_pass_0 : decode cL_pass 0 = .ok (.aload_n 2, 1) := by decide +kernel
theorem dL_pass_1 : decode cL_pass 1 = .ok (.iconst 0, 1) := by decide +kernel
theorem dL_pass_2 : decode cL_pass 2 = .ok (.aload_n 0, 1) := by decide +kernel
theorem dL_pass_3 : decode cL_pass 3 = .ok (.iload_n 1, 1) := by decide +kernel
theorem dL_pass_4 : decode cL_pass 4 = .ok (.invokevirtual 50, 3) := by decide +kernel
theorem dL_pass_7 : decode cL_pass 7 = .ok (.i2l, 1) := by decide +kernel
theorem dL_pass_8 : decode cL_pass 8 = .ok (.lastore, 1) := by decide +kernel
theorem dL_pass_9 : decode cL_pass 9 = .ok (.goto 6, 3) := by decide +kernel
theorem dL_pass_12 : decode cL_pass 12 = .ok (.astore_n 3, 1) := by decide +kernel
theorem dL_pass_13 : decode cL_pass 13 = .ok (.iconst 1, 1) := by decide +kernel
theorem dL_pass_14 : decode cL_pass 14 = .ok (.ireturn, 1) := by decide +kernel
theorem dL_pass_15 : decode cL_pass 15 = .ok (.iconst 0, 1) := by decide +kernel
theorem dL_pass_16 : decode cL_pass 16 = .ok (.ireturn, 1) := by decide +kernel
theorem dL_hit_0 : decode cL_hit 0 = .ok (.aload_n 2, 1) := by decide +kernel
theorem dL_hit_1 : decode cL_hit 1 = .ok (.iconst 0, 1) := by decide +kernel
theorem dL_hit_2 : decode cL_hit 2 = .ok (.aload_n 0, 1) := by decide +kernel
theorem dL_hit_3 : decode cL_hit 3 = .ok (.iload_n 1, 1) := by decide +kernel
theorem dL_hit_4 : decode cL_hit 4 = .ok (.invokevirtual 53, 3) := by decide +kernel
theorem dL_hit_7 : decode cL_hit 7 = .ok (.i2l, 1) := by decide +kernel
theorem dL_hit_8 : decode cL_hit 8 = .ok (.lastore, 1) := by decide +kernel
theorem dL_hit_9 : decode cL_hit 9 = .ok (.goto 6, 3) := by decide +kernel
theorem dL_hit_12 : decode cL_hit 12 = .ok (.astore_n 3, 1) := by decide +kernel
theorem dL_hit_13 : decode cL_hit 13 = .ok (.iconst 1, 1) := by decide +kernel
theorem dL_hit_14 : decode cL_hit 14 = .ok (.ireturn, 1) := by decide +kernel
theorem dL_hit_15 : decode cL_hit 15 = .ok (.iconst 0, 1) := by decide +kernel
theorem dL_hit_16 : decode cL_hit 16 = .ok (.ireturn, 1) := by decide +kernel
theorem dL_foresee_0 : decode cL_foresee 0 = .ok (.aload_n 3, 1) := by decide +kernel
theorem dL_foresee_1 : decode cL_foresee 1 = .ok (.iconst 0, 1) := by decide +kernel
theorem dL_foresee_2 : decode cL_foresee 2 = .ok (.aload_n 0, 1) := by decide +kernel
theorem dL_foresee_3 : decode cL_foresee 3 = .ok (.iload_n 1, 1) := by decide +kernel
theorem dL_foresee_4 : decode cL_foresee 4 = .ok (.iload_n 2, 1) := by decide +kernel
theorem dL_foresee_5 : decode cL_foresee 5 = .ok (.invokevirtual 56, 3) := by decide +kernel
theorem dL_foresee_8 : decode cL_foresee 8 = .ok (.i2l, 1) := by decide +kernel
theorem dL_foresee_9 : decode cL_foresee 9 = .ok (.lastore, 1) := by decide +kernel
theorem dL_foresee_10 : decode cL_foresee 10 = .ok (.goto 11, 3) := by decide +kernel
theorem dL_foresee_13 : decode cL_foresee 13 = .ok (.astore 4, 2) := by decide +kernel
theorem dL_foresee_15 : decode cL_foresee 15 = .ok (.iconst 1, 1) := by decide +kernel
theorem dL_foresee_16 : decode cL_foresee 16 = .ok (.ireturn, 1) := by decide +kernel
theorem dL_foresee_17 : decode cL_foresee 17 = .ok (.astore 4, 2) := by decide +kernel
theorem dL_foresee_19 : decode cL_foresee 19 = .ok (.iconst 2, 1) := by decide +kernel
theorem dL_foresee_20 : decode cL_foresee 20 = .ok (.ireturn, 1) := by decide +kernel
theorem dL_foresee_21 : decode cL_foresee 21 = .ok (.iconst 0, 1) := by decide +kernel
theorem dL_foresee_22 : decode cL_foresee 22 = .ok (.ireturn, 1) := by decide +kernel
theorem dL_advise_0 : decode cL_advise 0 = .ok (.aload_n 3, 1) := by decide +kernel
theorem dL_advise_1 : decode cL_advise 1 = .ok (.iconst 0, 1) := by decide +kernel
theorem dL_advise_2 : decode cL_advise 2 = .ok (.aload_n 0, 1) := by decide +kernel
theorem dL_advise_3 : decode cL_advise 3 = .ok (.iload_n 1, 1) := by decide +kernel
theorem dL_advise_4 : decode cL_advise 4 = .ok (.iload_n 2, 1) := by decide +kernel
theorem dL_advise_5 : decode cL_advise 5 = .ok (.invokevirtual 59, 3) := by decide +kernel
theorem dL_advise_8 : decode cL_advise 8 = .ok (.i2l, 1) := by decide +kernel
theorem dL_advise_9 : decode cL_advise 9 = .ok (.lastore, 1) := by decide +kernel
theorem dL_advise_10 : decode cL_advise 10 = .ok (.goto 11, 3) := by decide +kernel
theorem dL_advise_13 : decode cL_advise 13 = .ok (.astore 4, 2) := by decide +kernel
theorem dL_advise_15 : decode cL_advise 15 = .ok (.iconst 1, 1) := by decide +kernel
theorem dL_advise_16 : decode cL_advise 16 = .ok (.ireturn, 1) := by decide +kernel
theorem dL_advise_17 : decode cL_advise 17 = .ok (.astore 4, 2) := by decide +kernel
theorem dL_advise_19 : decode cL_advise 19 = .ok (.iconst 2, 1) := by decide +kernel
theorem dL_advise_20 : decode cL_advise 20 = .ok (.ireturn, 1) := by decide +kernel
theorem dL_advise_21 : decode cL_advise 21 = .ok (.iconst 0, 1) := by decide +kernel
theorem dL_advise_22 : decode cL_advise 22 = .ok (.ireturn, 1) := by decide +kernel
theorem dL_move_0 : decode cL_move 0 = .ok (.aload_n 3, 1) := by decide +kernel
theorem dL_move_1 : decode cL_move 1 = .ok (.iconst 0, 1) := by decide +kernel
theorem dL_move_2 : decode cL_move 2 = .ok (.aload_n 0, 1) := by decide +kernel
theorem dL_move_3 : decode cL_move 3 = .ok (.iload_n 1, 1) := by decide +kernel
theorem dL_move_4 : decode cL_move 4 = .ok (.iload_n 2, 1) := by decide +kernel
theorem dL_move_5 : decode cL_move 5 = .ok (.invokevirtual 62, 3) := by decide +kernel
theorem dL_move_8 : decode cL_move 8 = .ok (.i2l, 1) := by decide +kernel
theorem dL_move_9 : decode cL_move 9 = .ok (.lastore, 1) := by decide +kernel
theorem dL_move_10 : decode cL_move 10 = .ok (.goto 11, 3) := by decide +kernel
theorem dL_move_13 : decode cL_move 13 = .ok (.astore 4, 2) := by decide +kernel
theorem dL_move_15 : decode cL_move 15 = .ok (.iconst 1, 1) := by decide +kernel
theorem dL_move_16 : decode cL_move 16 = .ok (.ireturn, 1) := by decide +kernel
theorem dL_move_17 : decode cL_move 17 = .ok (.astore 4, 2) := by decide +kernel
theorem dL_move_19 : decode cL_move 19 = .ok (.iconst 2, 1) := by decide +kernel
theorem dL_move_20 : decode cL_move 20 = .ok (.ireturn, 1) := by decide +kernel
theorem dL_move_21 : decode cL_move 21 = .ok (.iconst 0, 1) := by decide +kernel
theorem dL_move_22 : decode cL_move 22 = .ok (.ireturn, 1) := by decide +kernel
