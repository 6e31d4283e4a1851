theorem dX0_init_0 : decode cX0_init 0 = .ok (.aload_n 0, 1) := by decide +kernel
theorem dX0_init_1 : decode cX0_init 1 = .ok (.invokespecial 3, 3) := by decide +kernel
theorem dX0_init_4 : decode cX0_init 4 = .ok (.aload_n 0, 1) := by decide +kernel
theorem dX0_init_5 : decode cX0_init 5 = .ok (.iconst 0, 1) := by decide +kernel
theorem dX0_init_6 : decode cX0_init 6 = .ok (.putfield 9, 3) := by decide +kernel
theorem dX0_init_9 : decode cX0_init 9 = .ok (.aload_n 0, 1) := by decide +kernel
theorem dX0_init_10 : decode cX0_init 10 = .ok (.iconst (-1), 1) := by decide +kernel
theorem dX0_init_11 : decode cX0_init 11 = .ok (.putfield 15, 3) := by decide +kernel
theorem dX0_init_14 : decode cX0_init 14 = .ok (.aload_n 0, 1) := by decide +kernel
theorem dX0_init_15 : decode cX0_init 15 = .ok (.iconst (-1), 1) := by decide +kernel
theorem dX0_init_16 : decode cX0_init 16 = .ok (.putfield 19, 3) := by decide +kernel
theorem dX0_init_19 : decode cX0_init 19 = .ok (.aload_n 0, 1) := by decide +kernel
theorem dX0_init_20 : decode cX0_init 20 = .ok (.iconst (-1), 1) := by decide +kernel
theorem dX0_init_21 : decode cX0_init 21 = .ok (.putfield 22, 3) := by decide +kernel
theorem dX0_init_24 : decode cX0_init 24 = .ok (.return_, 1) := by decide +kernel
theorem dX0_open_0 : decode cX0_open 0 = .ok (.aload_n 0, 1) := by decide +kernel
theorem dX0_open_1 : decode cX0_open 1 = .ok (.iconst 1, 1) := by decide +kernel
theorem dX0_open_2 : decode cX0_open 2 = .ok (.putfield 9, 3) := by decide +kernel
theorem dX0_open_5 : decode cX0_open 5 = .ok (.aload_n 0, 1) := by decide +kernel
theorem dX0_open_6 : decode cX0_open 6 = .ok (.iload_n 1, 1) := by decide +kernel
theorem dX0_open_7 : decode cX0_open 7 = .ok (.putfield 15, 3) := by decide +kernel
theorem dX0_open_10 : decode cX0_open 10 = .ok (.aload_n 0, 1) := by decide +kernel
theorem dX0_open_11 : decode cX0_open 11 = .ok (.iload_n 2, 1) := by decide +kernel
theorem dX0_open_12 : decode cX0_open 12 = .ok (.putfield 19, 3) := by decide +kernel
theorem dX0_open_15 : decode cX0_open 15 = .ok (.return_, 1) := by decide +kernel
theorem dX0_close_0 : decode cX0_close 0 = .ok (.aload_n 0, 1) := by decide +kernel
theorem dX0_close_1 : decode cX0_close 1 = .ok (.iconst 0, 1) := by decide +kernel
theorem dX0_close_2 : decode cX0_close 2 = .ok (.putfield 9, 3) := by decide +kernel
theorem dX0_close_5 : decode cX0_close 5 = .ok (.aload_n 0, 1) := by decide +kernel
theorem dX0_close_6 : decode cX0_close 6 = .ok (.iconst (-1), 1) := by decide +kernel
theorem dX0_close_7 : decode cX0_close 7 = .ok (.putfield 15, 3) := by decide +kernel
theorem dX0_close_10 : decode cX0_close 10 = .ok (.aload_n 0, 1) := by decide +kernel
theorem dX0_close_11 : decode cX0_close 11 = .ok (.iconst (-1), 1) := by decide +kernel
theorem dX0_close_12 : decode cX0_close 12 = .ok (.putfield 19, 3) := by decide +kernel
theorem dX0_close_15 : decode cX0_close 15 = .ok (.aload_n 0, 1) := by decide +kernel
theorem dX0_close_16 : decode cX0_close 16 = .ok (.iconst (-1), 1) := by decide +kernel
theorem dX0_close_17 : decode cX0_close 17 = .ok (.putfield 22, 3) := by decide +kernel
theorem dX0_close_20 : decode cX0_close 20 = .ok (.return_, 1) := by decide +kernel
theorem dX0_probe_0 : decode cX0_probe 0 = .ok (.aload_n 0, 1) := by decide +kernel
theorem dX0_probe_1 : decode cX0_probe 1 = .ok (.getfield 19, 3) := by decide +kernel
theorem dX0_probe_4 : decode cX0_probe 4 = .ok (.aload_n 0, 1) := by decide +kernel
theorem dX0_probe_5 : decode cX0_probe 5 = .ok (.getfield 15, 3) := by decide +kernel
theorem dX0_probe_8 : decode cX0_probe 8 = .ok (.iconst 1, 1) := by decide +kernel
theorem dX0_probe_9 : decode cX0_probe 9 = .ok (.iadd, 1) := by decide +kernel
theorem dX0_probe_10 : decode cX0_probe 10 = .ok (.if_icmp .ne 10, 3) := by decide +kernel
theorem dX0_probe_13 : decode cX0_probe 13 = .ok (.aload_n 0, 1) := by decide +kernel
theorem dX0_probe_14 : decode cX0_probe 14 = .ok (.getfield 19, 3) := by decide +kernel
theorem dX0_probe_17 : decode cX0_probe 17 = .ok (.goto 14, 3) := by decide +kernel
theorem dX0_probe_20 : decode cX0_probe 20 = .ok (.aload_n 0, 1) := by decide +kernel
theorem dX0_probe_21 : decode cX0_probe 21 = .ok (.getfield 15, 3) := by decide +kernel
theorem dX0_probe_24 : decode cX0_probe 24 = .ok (.aload_n 0, 1) := by decide +kernel
theorem dX0_probe_25 : decode cX0_probe 25 = .ok (.getfield 19, 3) := by decide +kernel
theorem dX0_probe_28 : decode cX0_probe 28 = .ok (.iadd, 1) := by decide +kernel
theorem dX0_probe_29 : decode cX0_probe 29 = .ok (.iconst 2, 1) := by decide +kernel
theorem dX0_probe_30 : decode cX0_probe 30 = .ok (.idiv, 1) := by decide +kernel
theorem dX0_probe_31 : decode cX0_probe 31 = .ok (.ireturn, 1) := by decide +kernel
theorem dX0_narrow_0 : decode cX0_narrow 0 = .ok (.iload_n 2, 1) := by decide +kernel
theorem dX0_narrow_1 : decode cX0_narrow 1 = .ok (.ifCond .eq 11, 3) := by decide +kernel
theorem dX0_narrow_4 : decode cX0_narrow 4 = .ok (.aload_n 0, 1) := by decide +kernel
theorem dX0_narrow_5 : decode cX0_narrow 5 = .ok (.iload_n 1, 1) := by decide +kernel
theorem dX0_narrow_6 : decode cX0_narrow 6 = .ok (.putfield 19, 3) := by decide +kernel
theorem dX0_narrow_9 : decode cX0_narrow 9 = .ok (.goto 8, 3) := by decide +kernel
theorem dX0_narrow_12 : decode cX0_narrow 12 = .ok (.aload_n 0, 1) := by decide +kernel
theorem dX0_narrow_13 : decode cX0_narrow 13 = .ok (.iload_n 1, 1) := by decide +kernel
theorem dX0_narrow_14 : decode cX0_narrow 14 = .ok (.putfield 15, 3) := by decide +kernel
theorem dX0_narrow_17 : decode cX0_narrow 17 = .ok (.return_, 1) := by decide +kernel
theorem dX1_init_0 : decode cX1_init 0 = .ok (.aload_n 0, 1) := by decide +kernel
theorem dX1_init_1 : decode cX1_init 1 = .ok (.invokespecial 3, 3) := by decide +kernel
theorem dX1_init_4 : decode cX1_init 4 = .ok (.aload_n 0, 1) := by decide +kernel
theorem dX1_init_5 : decode cX1_init 5 = .ok (.new 9, 3) := by decide +kernel
theorem dX1_init_8 : decode cX1_init 8 = .ok (.dup, 1) := by decide +kernel
theorem dX1_init_9 : decode cX1_init 9 = .ok (.invokespecial 11, 3) := by decide +kernel
theorem dX1_init_12 : decode cX1_init 12 = .ok (.putfield 12, 3) := by decide +kernel
theorem dX1_init_15 : decode cX1_init 15 = .ok (.aload_n 0, 1) := by decide +kernel
theorem dX1_init_16 : decode cX1_init 16 = .ok (.iconst 0, 1) := by decide +kernel
theorem dX1_init_17 : decode cX1_init 17 = .ok (.putfield 18, 3) := by decide +kernel
theorem dX1_init_20 : decode cX1_init 20 = .ok (.aload_n 0, 1) := by decide +kernel
theorem dX1_init_21 : decode cX1_init 21 = .ok (.iconst 0, 1) := by decide +kernel
theorem dX1_init_22 : decode cX1_init 22 = .ok (.putfield 22, 3) := by decide +kernel
theorem dX1_init_25 : decode cX1_init 25 = .ok (.return_, 1) := by decide +kernel
theorem dX1_sampleSize_0 : decode cX1_sampleSize 0 = .ok (.iconst 0, 1) := by decide +kernel
theorem dX1_sampleSize_1 : decode cX1_sampleSize 1 = .ok (.istore_n 1, 1) := by decide +kernel
theorem dX1_sampleSize_2 : decode cX1_sampleSize 2 = .ok (.iconst 0, 1) := by decide +kernel
theorem dX1_sampleSize_3 : decode cX1_sampleSize 3 = .ok (.istore_n 2, 1) := by decide +kernel
theorem dX1_sampleSize_4 : decode cX1_sampleSize 4 = .ok (.iload_n 2, 1) := by decide +kernel
theorem dX1_sampleSize_5 : decode cX1_sampleSize 5 = .ok (.aload_n 0, 1) := by decide +kernel
theorem dX1_sampleSize_6 : decode cX1_sampleSize 6 = .ok (.getfield 12, 3) := by decide +kernel
theorem dX1_sampleSize_9 : decode cX1_sampleSize 9 = .ok (.invokevirtual 25, 3) := by decide +kernel
theorem dX1_sampleSize_12 : decode cX1_sampleSize 12 = .ok (.if_icmp .ge 29, 3) := by decide +kernel
theorem dX1_sampleSize_15 : decode cX1_sampleSize 15 = .ok (.iload_n 1, 1) := by decide +kernel
theorem dX1_sampleSize_16 : decode cX1_sampleSize 16 = .ok (.aload_n 0, 1) := by decide +kernel
theorem dX1_sampleSize_17 : decode cX1_sampleSize 17 = .ok (.getfield 12, 3) := by decide +kernel
theorem dX1_sampleSize_20 : decode cX1_sampleSize 20 = .ok (.iload_n 2, 1) := by decide +kernel
theorem dX1_sampleSize_21 : decode cX1_sampleSize 21 = .ok (.invokevirtual 29, 3) := by decide +kernel
theorem dX1_sampleSize_24 : decode cX1_sampleSize 24 = .ok (.checkcast 33, 3) := by decide +kernel
theorem dX1_sampleSize_27 : decode cX1_sampleSize 27 = .ok (.invokevirtual 35, 3) := by decide +kernel
theorem dX1_sampleSize_30 : decode cX1_sampleSize 30 = .ok (.invokestatic 39, 3) := by decide +kernel
theorem dX1_sampleSize_33 : decode cX1_sampleSize 33 = .ok (.iadd, 1) := by decide +kernel
theorem dX1_sampleSize_34 : decode cX1_sampleSize 34 = .ok (.istore_n 1, 1) := by decide +kernel
theorem dX1_sampleSize_35 : decode cX1_sampleSize 35 = .ok (.iinc 2 1, 3) := by decide +kernel
theorem dX1_sampleSize_38 : decode cX1_sampleSize 38 = .ok (.goto (-34), 3) := by decide +kernel
theorem dX1_sampleSize_41 : decode cX1_sampleSize 41 = .ok (.bipush 6, 2) := by decide +kernel
theorem dX1_sampleSize_43 : decode cX1_sampleSize 43 = .ok (.iload_n 1, 1) := by decide +kernel
theorem dX1_sampleSize_44 : decode cX1_sampleSize 44 = .ok (.invokestatic 43, 3) := by decide +kernel
theorem dX1_sampleSize_47 : decode cX1_sampleSize 47 = .ok (.ireturn, 1) := by decide +kernel
theorem dX1_sampleSizeWithout_0 : decode cX1_sampleSizeWithout 0 = .ok (.iconst 0, 1) := by decide +kernel
theorem dX1_sampleSizeWithout_1 : decode cX1_sampleSizeWithout 1 = .ok (.istore_n 2, 1) := by decide +kernel
theorem dX1_sampleSizeWithout_2 : decode cX1_sampleSizeWithout 2 = .ok (.iconst 0, 1) := by decide +kernel
theorem dX1_sampleSizeWithout_3 : decode cX1_sampleSizeWithout 3 = .ok (.istore_n 3, 1) := by decide +kernel
theorem dX1_sampleSizeWithout_4 : decode cX1_sampleSizeWithout 4 = .ok (.iload_n 3, 1) := by decide +kernel
theorem dX1_sampleSizeWithout_5 : decode cX1_sampleSizeWithout 5 = .ok (.aload_n 0, 1) := by decide +kernel
theorem dX1_sampleSizeWithout_6 : decode cX1_sampleSizeWithout 6 = .ok (.getfield 12, 3) := by decide +kernel
theorem dX1_sampleSizeWithout_9 : decode cX1_sampleSizeWithout 9 = .ok (.invokevirtual 25, 3) := by decide +kernel
theorem dX1_sampleSizeWithout_12 : decode cX1_sampleSizeWithout 12 = .ok (.if_icmp .ge 50, 3) := by decide +kernel
theorem dX1_sampleSizeWithout_15 : decode cX1_sampleSizeWithout 15 = .ok (.aload_n 0, 1) := by decide +kernel
theorem dX1_sampleSizeWithout_16 : decode cX1_sampleSizeWithout 16 = .ok (.getfield 12, 3) := by decide +kernel
theorem dX1_sampleSizeWithout_19 : decode cX1_sampleSizeWithout 19 = .ok (.iload_n 3, 1) := by decide +kernel
theorem dX1_sampleSizeWithout_20 : decode cX1_sampleSizeWithout 20 = .ok (.invokevirtual 29, 3) := by decide +kernel
theorem dX1_sampleSizeWithout_23 : decode cX1_sampleSizeWithout 23 = .ok (.checkcast 33, 3) := by decide +kernel
theorem dX1_sampleSizeWithout_26 : decode cX1_sampleSizeWithout 26 = .ok (.astore 4, 2) := by decide +kernel
theorem dX1_sampleSizeWithout_28 : decode cX1_sampleSizeWithout 28 = .ok (.iload_n 2, 1) := by decide +kernel
theorem dX1_sampleSizeWithout_29 : decode cX1_sampleSizeWithout 29 = .ok (.aload 4, 2) := by decide +kernel
theorem dX1_sampleSizeWithout_31 : decode cX1_sampleSizeWithout 31 = .ok (.invokevirtual 35, 3) := by decide +kernel
theorem dX1_sampleSizeWithout_34 : decode cX1_sampleSizeWithout 34 = .ok (.ifCond .eq 16, 3) := by decide +kernel
theorem dX1_sampleSizeWithout_37 : decode cX1_sampleSizeWithout 37 = .ok (.aload 4, 2) := by decide +kernel
theorem dX1_sampleSizeWithout_39 : decode cX1_sampleSizeWithout 39 = .ok (.getfield 49, 3) := by decide +kernel
theorem dX1_sampleSizeWithout_42 : decode cX1_sampleSizeWithout 42 = .ok (.aload_n 1, 1) := by decide +kernel
theorem dX1_sampleSizeWithout_43 : decode cX1_sampleSizeWithout 43 = .ok (.if_acmp .eq 7, 3) := by decide +kernel
theorem dX1_sampleSizeWithout_46 : decode cX1_sampleSizeWithout 46 = .ok (.iconst 1, 1) := by decide +kernel
theorem dX1_sampleSizeWithout_47 : decode cX1_sampleSizeWithout 47 = .ok (.goto 4, 3) := by decide +kernel
theorem dX1_sampleSizeWithout_50 : decode cX1_sampleSizeWithout 50 = .ok (.iconst 0, 1) := by decide +kernel
theorem dX1_sampleSizeWithout_51 : decode cX1_sampleSizeWithout 51 = .ok (.invokestatic 39, 3) := by decide +kernel
theorem dX1_sampleSizeWithout_54 : decode cX1_sampleSizeWithout 54 = .ok (.iadd, 1) := by decide +kernel
theorem dX1_sampleSizeWithout_55 : decode cX1_sampleSizeWithout 55 = .ok (.istore_n 2, 1) := by decide +kernel
theorem dX1_sampleSizeWithout_56 : decode cX1_sampleSizeWithout 56 = .ok (.iinc 3 1, 3) := by decide +kernel
theorem dX1_sampleSizeWithout_59 : decode cX1_sampleSizeWithout 59 = .ok (.goto (-55), 3) := by decide +kernel
theorem dX1_sampleSizeWithout_62 : decode cX1_sampleSizeWithout 62 = .ok (.bipush 6, 2) := by decide +kernel
theorem dX1_sampleSizeWithout_64 : decode cX1_sampleSizeWithout 64 = .ok (.iload_n 2, 1) := by decide +kernel
theorem dX1_sampleSizeWithout_65 : decode cX1_sampleSizeWithout 65 = .ok (.invokestatic 43, 3) := by decide +kernel
theorem dX1_sampleSizeWithout_68 : decode cX1_sampleSizeWithout 68 = .ok (.ireturn, 1) := by decide +kernel
theorem dX1_isInSample_0 : decode cX1_isInSample 0 = .ok (.iconst 0, 1) := by decide +kernel
theorem dX1_isInSample_1 : decode cX1_isInSample 1 = .ok (.istore_n 2, 1) := by decide +kernel
theorem dX1_isInSample_2 : decode cX1_isInSample 2 = .ok (.aload_n 0, 1) := by decide +kernel
theorem dX1_isInSample_3 : decode cX1_isInSample 3 = .ok (.getfield 12, 3) := by decide +kernel
theorem dX1_isInSample_6 : decode cX1_isInSample 6 = .ok (.invokevirtual 25, 3) := by decide +kernel
theorem dX1_isInSample_9 : decode cX1_isInSample 9 = .ok (.iconst 1, 1) := by decide +kernel
theorem dX1_isInSample_10 : decode cX1_isInSample 10 = .ok (.isub, 1) := by decide +kernel
theorem dX1_isInSample_11 : decode cX1_isInSample 11 = .ok (.istore_n 3, 1) := by decide +kernel
theorem dX1_isInSample_12 : decode cX1_isInSample 12 = .ok (.iload_n 3, 1) := by decide +kernel
theorem dX1_isInSample_13 : decode cX1_isInSample 13 = .ok (.ifCond .lt 51, 3) := by decide +kernel
theorem dX1_isInSample_16 : decode cX1_isInSample 16 = .ok (.iload_n 2, 1) := by decide +kernel
theorem dX1_isInSample_17 : decode cX1_isInSample 17 = .ok (.bipush 6, 2) := by decide +kernel
theorem dX1_isInSample_19 : decode cX1_isInSample 19 = .ok (.if_icmp .ge 45, 3) := by decide +kernel
theorem dX1_isInSample_22 : decode cX1_isInSample 22 = .ok (.aload_n 0, 1) := by decide +kernel
theorem dX1_isInSample_23 : decode cX1_isInSample 23 = .ok (.getfield 12, 3) := by decide +kernel
theorem dX1_isInSample_26 : decode cX1_isInSample 26 = .ok (.iload_n 3, 1) := by decide +kernel
theorem dX1_isInSample_27 : decode cX1_isInSample 27 = .ok (.invokevirtual 29, 3) := by decide +kernel
theorem dX1_isInSample_30 : decode cX1_isInSample 30 = .ok (.checkcast 33, 3) := by decide +kernel
theorem dX1_isInSample_33 : decode cX1_isInSample 33 = .ok (.astore 4, 2) := by decide +kernel
theorem dX1_isInSample_35 : decode cX1_isInSample 35 = .ok (.aload 4, 2) := by decide +kernel
theorem dX1_isInSample_37 : decode cX1_isInSample 37 = .ok (.aload_n 1, 1) := by decide +kernel
theorem dX1_isInSample_38 : decode cX1_isInSample 38 = .ok (.if_acmp .ne 9, 3) := by decide +kernel
theorem dX1_isInSample_41 : decode cX1_isInSample 41 = .ok (.aload 4, 2) := by decide +kernel
theorem dX1_isInSample_43 : decode cX1_isInSample 43 = .ok (.invokevirtual 35, 3) := by decide +kernel
theorem dX1_isInSample_46 : decode cX1_isInSample 46 = .ok (.ireturn, 1) := by decide +kernel
theorem dX1_isInSample_47 : decode cX1_isInSample 47 = .ok (.iload_n 2, 1) := by decide +kernel
theorem dX1_isInSample_48 : decode cX1_isInSample 48 = .ok (.aload 4, 2) := by decide +kernel
theorem dX1_isInSample_50 : decode cX1_isInSample 50 = .ok (.invokevirtual 35, 3) := by decide +kernel
theorem dX1_isInSample_53 : decode cX1_isInSample 53 = .ok (.invokestatic 39, 3) := by decide +kernel
theorem dX1_isInSample_56 : decode cX1_isInSample 56 = .ok (.iadd, 1) := by decide +kernel
theorem dX1_isInSample_57 : decode cX1_isInSample 57 = .ok (.istore_n 2, 1) := by decide +kernel
theorem dX1_isInSample_58 : decode cX1_isInSample 58 = .ok (.iinc 3 (-1), 3) := by decide +kernel
theorem dX1_isInSample_61 : decode cX1_isInSample 61 = .ok (.goto (-49), 3) := by decide +kernel
theorem dX1_isInSample_64 : decode cX1_isInSample 64 = .ok (.iconst 0, 1) := by decide +kernel
theorem dX1_isInSample_65 : decode cX1_isInSample 65 = .ok (.ireturn, 1) := by decide +kernel
theorem dX2_init_0 : decode cX2_init 0 = .ok (.aload_n 0, 1) := by decide +kernel
theorem dX2_init_1 : decode cX2_init 1 = .ok (.invokespecial 5, 3) := by decide +kernel
theorem dX2_init_4 : decode cX2_init 4 = .ok (.aload_n 0, 1) := by decide +kernel
theorem dX2_init_5 : decode cX2_init 5 = .ok (.new 11, 3) := by decide +kernel
theorem dX2_init_8 : decode cX2_init 8 = .ok (.dup, 1) := by decide +kernel
theorem dX2_init_9 : decode cX2_init 9 = .ok (.invokespecial 13, 3) := by decide +kernel
theorem dX2_init_12 : decode cX2_init 12 = .ok (.putfield 14, 3) := by decide +kernel
theorem dX2_init_15 : decode cX2_init 15 = .ok (.aload_n 0, 1) := by decide +kernel
theorem dX2_init_16 : decode cX2_init 16 = .ok (.new 11, 3) := by decide +kernel
theorem dX2_init_19 : decode cX2_init 19 = .ok (.dup, 1) := by decide +kernel
theorem dX2_init_20 : decode cX2_init 20 = .ok (.invokespecial 13, 3) := by decide +kernel
theorem dX2_init_23 : decode cX2_init 23 = .ok (.putfield 18, 3) := by decide +kernel
theorem dX2_init_26 : decode cX2_init 26 = .ok (.aload_n 0, 1) := by decide +kernel
theorem dX2_init_27 : decode cX2_init 27 = .ok (.bipush 12, 2) := by decide +kernel
theorem dX2_init_29 : decode cX2_init 29 = .ok (.newarray .int, 2) := by decide +kernel
theorem dX2_init_31 : decode cX2_init 31 = .ok (.putfield 21, 3) := by decide +kernel
theorem dX2_init_34 : decode cX2_init 34 = .ok (.aload_n 0, 1) := by decide +kernel
theorem dX2_init_35 : decode cX2_init 35 = .ok (.bipush 7, 2) := by decide +kernel
theorem dX2_init_37 : decode cX2_init 37 = .ok (.sipush 133, 3) := by decide +kernel
theorem dX2_init_40 : decode cX2_init 40 = .ok (.multianewarray 25 2, 4) := by decide +kernel
theorem dX2_init_44 : decode cX2_init 44 = .ok (.putfield 27, 3) := by decide +kernel
theorem dX2_init_47 : decode cX2_init 47 = .ok (.aload_n 0, 1) := by decide +kernel
theorem dX2_init_48 : decode cX2_init 48 = .ok (.iconst 0, 1) := by decide +kernel
theorem dX2_init_49 : decode cX2_init 49 = .ok (.putfield 30, 3) := by decide +kernel
theorem dX2_init_52 : decode cX2_init 52 = .ok (.aload_n 0, 1) := by decide +kernel
theorem dX2_init_53 : decode cX2_init 53 = .ok (.iconst 0, 1) := by decide +kernel
theorem dX2_init_54 : decode cX2_init 54 = .ok (.putfield 34, 3) := by decide +kernel
theorem dX2_init_57 : decode cX2_init 57 = .ok (.aload_n 0, 1) := by decide +kernel
theorem dX2_init_58 : decode cX2_init 58 = .ok (.iconst 0, 1) := by decide +kernel
theorem dX2_init_59 : decode cX2_init 59 = .ok (.putfield 37, 3) := by decide +kernel
theorem dX2_init_62 : decode cX2_init 62 = .ok (.aload_n 0, 1) := by decide +kernel
theorem dX2_init_63 : decode cX2_init 63 = .ok (.iconst 1, 1) := by decide +kernel
theorem dX2_init_64 : decode cX2_init 64 = .ok (.putfield 40, 3) := by decide +kernel
theorem dX2_init_67 : decode cX2_init 67 = .ok (.aload_n 0, 1) := by decide +kernel
theorem dX2_init_68 : decode cX2_init 68 = .ok (.iconst 1, 1) := by decide +kernel
theorem dX2_init_69 : decode cX2_init 69 = .ok (.putfield 43, 3) := by decide +kernel
theorem dX2_init_72 : decode cX2_init 72 = .ok (.aload_n 0, 1) := by decide +kernel
theorem dX2_init_73 : decode cX2_init 73 = .ok (.iconst 1, 1) := by decide +kernel
theorem dX2_init_74 : decode cX2_init 74 = .ok (.putfield 46, 3) := by decide +kernel
theorem dX2_init_77 : decode cX2_init 77 = .ok (.return_, 1) := by decide +kernel
theorem dX2_weigh_0 : decode cX2_weigh 0 = .ok (.aload_n 0, 1) := by decide +kernel
theorem dX2_weigh_1 : decode cX2_weigh 1 = .ok (.iconst 0, 1) := by decide +kernel
theorem dX2_weigh_2 : decode cX2_weigh 2 = .ok (.putfield 30, 3) := by decide +kernel
theorem dX2_weigh_5 : decode cX2_weigh 5 = .ok (.aload_n 0, 1) := by decide +kernel
theorem dX2_weigh_6 : decode cX2_weigh 6 = .ok (.aload_n 0, 1) := by decide +kernel
theorem dX2_weigh_7 : decode cX2_weigh 7 = .ok (.getfield 14, 3) := by decide +kernel
theorem dX2_weigh_10 : decode cX2_weigh 10 = .ok (.invokevirtual 49, 3) := by decide +kernel
theorem dX2_weigh_13 : decode cX2_weigh 13 = .ok (.aload_n 0, 1) := by decide +kernel
theorem dX2_weigh_14 : decode cX2_weigh 14 = .ok (.aload_n 0, 1) := by decide +kernel
theorem dX2_weigh_15 : decode cX2_weigh 15 = .ok (.getfield 18, 3) := by decide +kernel
theorem dX2_weigh_18 : decode cX2_weigh 18 = .ok (.invokevirtual 49, 3) := by decide +kernel
theorem dX2_weigh_21 : decode cX2_weigh 21 = .ok (.aload_n 0, 1) := by decide +kernel
theorem dX2_weigh_22 : decode cX2_weigh 22 = .ok (.sipush 132, 3) := by decide +kernel
theorem dX2_weigh_25 : decode cX2_weigh 25 = .ok (.aload_n 0, 1) := by decide +kernel
theorem dX2_weigh_26 : decode cX2_weigh 26 = .ok (.getfield 30, 3) := by decide +kernel
theorem dX2_weigh_29 : decode cX2_weigh 29 = .ok (.aload_n 0, 1) := by decide +kernel
theorem dX2_weigh_30 : decode cX2_weigh 30 = .ok (.getfield 30, 3) := by decide +kernel
theorem dX2_weigh_33 : decode cX2_weigh 33 = .ok (.iconst 1, 1) := by decide +kernel
theorem dX2_weigh_34 : decode cX2_weigh 34 = .ok (.isub, 1) := by decide +kernel
theorem dX2_weigh_35 : decode cX2_weigh 35 = .ok (.imul, 1) := by decide +kernel
theorem dX2_weigh_36 : decode cX2_weigh 36 = .ok (.invokestatic 53, 3) := by decide +kernel
theorem dX2_weigh_39 : decode cX2_weigh 39 = .ok (.putfield 34, 3) := by decide +kernel
theorem dX2_weigh_42 : decode cX2_weigh 42 = .ok (.iconst 0, 1) := by decide +kernel
theorem dX2_weigh_43 : decode cX2_weigh 43 = .ok (.istore_n 1, 1) := by decide +kernel
theorem dX2_weigh_44 : decode cX2_weigh 44 = .ok (.iconst 0, 1) := by decide +kernel
theorem dX2_weigh_45 : decode cX2_weigh 45 = .ok (.istore_n 2, 1) := by decide +kernel
theorem dX2_weigh_46 : decode cX2_weigh 46 = .ok (.iload_n 2, 1) := by decide +kernel
theorem dX2_weigh_47 : decode cX2_weigh 47 = .ok (.aload_n 0, 1) := by decide +kernel
theorem dX2_weigh_48 : decode cX2_weigh 48 = .ok (.getfield 14, 3) := by decide +kernel
theorem dX2_weigh_51 : decode cX2_weigh 51 = .ok (.getfield 59, 3) := by decide +kernel
theorem dX2_weigh_54 : decode cX2_weigh 54 = .ok (.if_icmp .ge 17, 3) := by decide +kernel
theorem dX2_weigh_57 : decode cX2_weigh 57 = .ok (.iload_n 1, 1) := by decide +kernel
theorem dX2_weigh_58 : decode cX2_weigh 58 = .ok (.aload_n 0, 1) := by decide +kernel
theorem dX2_weigh_59 : decode cX2_weigh 59 = .ok (.iload_n 2, 1) := by decide +kernel
theorem dX2_weigh_60 : decode cX2_weigh 60 = .ok (.invokevirtual 62, 3) := by decide +kernel
theorem dX2_weigh_63 : decode cX2_weigh 63 = .ok (.iadd, 1) := by decide +kernel
theorem dX2_weigh_64 : decode cX2_weigh 64 = .ok (.istore_n 1, 1) := by decide +kernel
theorem dX2_weigh_65 : decode cX2_weigh 65 = .ok (.iinc 2 1, 3) := by decide +kernel
theorem dX2_weigh_68 : decode cX2_weigh 68 = .ok (.goto (-22), 3) := by decide +kernel
theorem dX2_weigh_71 : decode cX2_weigh 71 = .ok (.aload_n 0, 1) := by decide +kernel
theorem dX2_weigh_72 : decode cX2_weigh 72 = .ok (.iload_n 1, 1) := by decide +kernel
theorem dX2_weigh_73 : decode cX2_weigh 73 = .ok (.aload_n 0, 1) := by decide +kernel
theorem dX2_weigh_74 : decode cX2_weigh 74 = .ok (.getfield 14, 3) := by decide +kernel
theorem dX2_weigh_77 : decode cX2_weigh 77 = .ok (.getfield 59, 3) := by decide +kernel
theorem dX2_weigh_80 : decode cX2_weigh 80 = .ok (.aload_n 0, 1) := by decide +kernel
theorem dX2_weigh_81 : decode cX2_weigh 81 = .ok (.getfield 14, 3) := by decide +kernel
theorem dX2_weigh_84 : decode cX2_weigh 84 = .ok (.getfield 59, 3) := by decide +kernel
theorem dX2_weigh_87 : decode cX2_weigh 87 = .ok (.iconst 1, 1) := by decide +kernel
theorem dX2_weigh_88 : decode cX2_weigh 88 = .ok (.isub, 1) := by decide +kernel
theorem dX2_weigh_89 : decode cX2_weigh 89 = .ok (.imul, 1) := by decide +kernel
theorem dX2_weigh_90 : decode cX2_weigh 90 = .ok (.isub, 1) := by decide +kernel
theorem dX2_weigh_91 : decode cX2_weigh 91 = .ok (.putfield 37, 3) := by decide +kernel
theorem dX2_weigh_94 : decode cX2_weigh 94 = .ok (.aload_n 0, 1) := by decide +kernel
theorem dX2_weigh_95 : decode cX2_weigh 95 = .ok (.invokevirtual 66, 3) := by decide +kernel
theorem dX2_weigh_98 : decode cX2_weigh 98 = .ok (.aload_n 0, 1) := by decide +kernel
theorem dX2_weigh_99 : decode cX2_weigh 99 = .ok (.iload_n 1, 1) := by decide +kernel
theorem dX2_weigh_100 : decode cX2_weigh 100 = .ok (.invokevirtual 69, 3) := by decide +kernel
theorem dX2_weigh_103 : decode cX2_weigh 103 = .ok (.return_, 1) := by decide +kernel
theorem dX2_lay_0 : decode cX2_lay 0 = .ok (.iconst 0, 1) := by decide +kernel
theorem dX2_lay_1 : decode cX2_lay 1 = .ok (.istore_n 2, 1) := by decide +kernel
theorem dX2_lay_2 : decode cX2_lay 2 = .ok (.iload_n 2, 1) := by decide +kernel
theorem dX2_lay_3 : decode cX2_lay 3 = .ok (.aload_n 1, 1) := by decide +kernel
theorem dX2_lay_4 : decode cX2_lay 4 = .ok (.getfield 59, 3) := by decide +kernel
theorem dX2_lay_7 : decode cX2_lay 7 = .ok (.if_icmp .ge 45, 3) := by decide +kernel
theorem dX2_lay_10 : decode cX2_lay 10 = .ok (.aload_n 0, 1) := by decide +kernel
theorem dX2_lay_11 : decode cX2_lay 11 = .ok (.getfield 30, 3) := by decide +kernel
theorem dX2_lay_14 : decode cX2_lay 14 = .ok (.aload_n 0, 1) := by decide +kernel
theorem dX2_lay_15 : decode cX2_lay 15 = .ok (.getfield 21, 3) := by decide +kernel
theorem dX2_lay_18 : decode cX2_lay 18 = .ok (.arraylength, 1) := by decide +kernel
theorem dX2_lay_19 : decode cX2_lay 19 = .ok (.if_icmp .ge 33, 3) := by decide +kernel
theorem dX2_lay_22 : decode cX2_lay 22 = .ok (.aload_n 0, 1) := by decide +kernel
theorem dX2_lay_23 : decode cX2_lay 23 = .ok (.getfield 21, 3) := by decide +kernel
theorem dX2_lay_26 : decode cX2_lay 26 = .ok (.aload_n 0, 1) := by decide +kernel
theorem dX2_lay_27 : decode cX2_lay 27 = .ok (.getfield 30, 3) := by decide +kernel
theorem dX2_lay_30 : decode cX2_lay 30 = .ok (.aload_n 1, 1) := by decide +kernel
theorem dX2_lay_31 : decode cX2_lay 31 = .ok (.iload_n 2, 1) := by decide +kernel
theorem dX2_lay_32 : decode cX2_lay 32 = .ok (.invokevirtual 73, 3) := by decide +kernel
theorem dX2_lay_35 : decode cX2_lay 35 = .ok (.iastore, 1) := by decide +kernel
theorem dX2_lay_36 : decode cX2_lay 36 = .ok (.aload_n 0, 1) := by decide +kernel
theorem dX2_lay_37 : decode cX2_lay 37 = .ok (.dup, 1) := by decide +kernel
theorem dX2_lay_38 : decode cX2_lay 38 = .ok (.getfield 30, 3) := by decide +kernel
theorem dX2_lay_41 : decode cX2_lay 41 = .ok (.iconst 1, 1) := by decide +kernel
theorem dX2_lay_42 : decode cX2_lay 42 = .ok (.iadd, 1) := by decide +kernel
theorem dX2_lay_43 : decode cX2_lay 43 = .ok (.putfield 30, 3) := by decide +kernel
theorem dX2_lay_46 : decode cX2_lay 46 = .ok (.iinc 2 1, 3) := by decide +kernel
theorem dX2_lay_49 : decode cX2_lay 49 = .ok (.goto (-47), 3) := by decide +kernel
theorem dX2_lay_52 : decode cX2_lay 52 = .ok (.return_, 1) := by decide +kernel
theorem dX2_leadOf_0 : decode cX2_leadOf 0 = .ok (.iconst 0, 1) := by decide +kernel
theorem dX2_leadOf_1 : decode cX2_leadOf 1 = .ok (.istore_n 2, 1) := by decide +kernel
theorem dX2_leadOf_2 : decode cX2_leadOf 2 = .ok (.iload_n 1, 1) := by decide +kernel
theorem dX2_leadOf_3 : decode cX2_leadOf 3 = .ok (.ifCond .lt 12, 3) := by decide +kernel
theorem dX2_leadOf_6 : decode cX2_leadOf 6 = .ok (.iload_n 1, 1) := by decide +kernel
theorem dX2_leadOf_7 : decode cX2_leadOf 7 = .ok (.aload_n 0, 1) := by decide +kernel
theorem dX2_leadOf_8 : decode cX2_leadOf 8 = .ok (.getfield 21, 3) := by decide +kernel
theorem dX2_leadOf_11 : decode cX2_leadOf 11 = .ok (.arraylength, 1) := by decide +kernel
theorem dX2_leadOf_12 : decode cX2_leadOf 12 = .ok (.if_icmp .lt 5, 3) := by decide +kernel
theorem dX2_leadOf_15 : decode cX2_leadOf 15 = .ok (.iload_n 2, 1) := by decide +kernel
theorem dX2_leadOf_16 : decode cX2_leadOf 16 = .ok (.ireturn, 1) := by decide +kernel
theorem dX2_leadOf_17 : decode cX2_leadOf 17 = .ok (.iconst 0, 1) := by decide +kernel
theorem dX2_leadOf_18 : decode cX2_leadOf 18 = .ok (.istore_n 3, 1) := by decide +kernel
theorem dX2_leadOf_19 : decode cX2_leadOf 19 = .ok (.iload_n 3, 1) := by decide +kernel
theorem dX2_leadOf_20 : decode cX2_leadOf 20 = .ok (.aload_n 0, 1) := by decide +kernel
theorem dX2_leadOf_21 : decode cX2_leadOf 21 = .ok (.getfield 30, 3) := by decide +kernel
theorem dX2_leadOf_24 : decode cX2_leadOf 24 = .ok (.if_icmp .ge 61, 3) := by decide +kernel
theorem dX2_leadOf_27 : decode cX2_leadOf 27 = .ok (.iload_n 3, 1) := by decide +kernel
theorem dX2_leadOf_28 : decode cX2_leadOf 28 = .ok (.aload_n 0, 1) := by decide +kernel
theorem dX2_leadOf_29 : decode cX2_leadOf 29 = .ok (.getfield 21, 3) := by decide +kernel
theorem dX2_leadOf_32 : decode cX2_leadOf 32 = .ok (.arraylength, 1) := by decide +kernel
theorem dX2_leadOf_33 : decode cX2_leadOf 33 = .ok (.if_icmp .ge 52, 3) := by decide +kernel
theorem dX2_leadOf_36 : decode cX2_leadOf 36 = .ok (.iload_n 3, 1) := by decide +kernel
theorem dX2_leadOf_37 : decode cX2_leadOf 37 = .ok (.iload_n 1, 1) := by decide +kernel
theorem dX2_leadOf_38 : decode cX2_leadOf 38 = .ok (.if_icmp .eq 41, 3) := by decide +kernel
theorem dX2_leadOf_41 : decode cX2_leadOf 41 = .ok (.aload_n 0, 1) := by decide +kernel
theorem dX2_leadOf_42 : decode cX2_leadOf 42 = .ok (.getfield 21, 3) := by decide +kernel
theorem dX2_leadOf_45 : decode cX2_leadOf 45 = .ok (.iload_n 1, 1) := by decide +kernel
theorem dX2_leadOf_46 : decode cX2_leadOf 46 = .ok (.iaload, 1) := by decide +kernel
theorem dX2_leadOf_47 : decode cX2_leadOf 47 = .ok (.aload_n 0, 1) := by decide +kernel
theorem dX2_leadOf_48 : decode cX2_leadOf 48 = .ok (.getfield 21, 3) := by decide +kernel
theorem dX2_leadOf_51 : decode cX2_leadOf 51 = .ok (.iload_n 3, 1) := by decide +kernel
theorem dX2_leadOf_52 : decode cX2_leadOf 52 = .ok (.iaload, 1) := by decide +kernel
theorem dX2_leadOf_53 : decode cX2_leadOf 53 = .ok (.if_icmp .gt 26, 3) := by decide +kernel
theorem dX2_leadOf_56 : decode cX2_leadOf 56 = .ok (.iload_n 2, 1) := by decide +kernel
theorem dX2_leadOf_57 : decode cX2_leadOf 57 = .ok (.aload_n 0, 1) := by decide +kernel
theorem dX2_leadOf_58 : decode cX2_leadOf 58 = .ok (.getfield 21, 3) := by decide +kernel
theorem dX2_leadOf_61 : decode cX2_leadOf 61 = .ok (.iload_n 1, 1) := by decide +kernel
theorem dX2_leadOf_62 : decode cX2_leadOf 62 = .ok (.iaload, 1) := by decide +kernel
theorem dX2_leadOf_63 : decode cX2_leadOf 63 = .ok (.aload_n 0, 1) := by decide +kernel
theorem dX2_leadOf_64 : decode cX2_leadOf 64 = .ok (.getfield 21, 3) := by decide +kernel
theorem dX2_leadOf_67 : decode cX2_leadOf 67 = .ok (.iload_n 3, 1) := by decide +kernel
theorem dX2_leadOf_68 : decode cX2_leadOf 68 = .ok (.iaload, 1) := by decide +kernel
theorem dX2_leadOf_69 : decode cX2_leadOf 69 = .ok (.if_icmp .ge 7, 3) := by decide +kernel
theorem dX2_leadOf_72 : decode cX2_leadOf 72 = .ok (.iconst 2, 1) := by decide +kernel
theorem dX2_leadOf_73 : decode cX2_leadOf 73 = .ok (.goto 4, 3) := by decide +kernel
theorem dX2_leadOf_76 : decode cX2_leadOf 76 = .ok (.iconst 1, 1) := by decide +kernel
theorem dX2_leadOf_77 : decode cX2_leadOf 77 = .ok (.iadd, 1) := by decide +kernel
theorem dX2_leadOf_78 : decode cX2_leadOf 78 = .ok (.istore_n 2, 1) := by decide +kernel
theorem dX2_leadOf_79 : decode cX2_leadOf 79 = .ok (.iinc 3 1, 3) := by decide +kernel
theorem dX2_leadOf_82 : decode cX2_leadOf 82 = .ok (.goto (-63), 3) := by decide +kernel
theorem dX2_leadOf_85 : decode cX2_leadOf 85 = .ok (.iload_n 2, 1) := by decide +kernel
theorem dX2_leadOf_86 : decode cX2_leadOf 86 = .ok (.ireturn, 1) := by decide +kernel
theorem dX2_countWays_0 : decode cX2_countWays 0 = .ok (.aload_n 0, 1) := by decide +kernel
theorem dX2_countWays_1 : decode cX2_countWays 1 = .ok (.getfield 27, 3) := by decide +kernel
theorem dX2_countWays_4 : decode cX2_countWays 4 = .ok (.astore_n 1, 1) := by decide +kernel
theorem dX2_countWays_5 : decode cX2_countWays 5 = .ok (.aload_n 1, 1) := by decide +kernel
theorem dX2_countWays_6 : decode cX2_countWays 6 = .ok (.arraylength, 1) := by decide +kernel
theorem dX2_countWays_7 : decode cX2_countWays 7 = .ok (.istore_n 2, 1) := by decide +kernel
theorem dX2_countWays_8 : decode cX2_countWays 8 = .ok (.iconst 0, 1) := by decide +kernel
theorem dX2_countWays_9 : decode cX2_countWays 9 = .ok (.istore_n 3, 1) := by decide +kernel
theorem dX2_countWays_10 : decode cX2_countWays 10 = .ok (.iload_n 3, 1) := by decide +kernel
theorem dX2_countWays_11 : decode cX2_countWays 11 = .ok (.iload_n 2, 1) := by decide +kernel
theorem dX2_countWays_12 : decode cX2_countWays 12 = .ok (.if_icmp .ge 20, 3) := by decide +kernel
theorem dX2_countWays_15 : decode cX2_countWays 15 = .ok (.aload_n 1, 1) := by decide +kernel
theorem dX2_countWays_16 : decode cX2_countWays 16 = .ok (.iload_n 3, 1) := by decide +kernel
theorem dX2_countWays_17 : decode cX2_countWays 17 = .ok (.aaload, 1) := by decide +kernel
theorem dX2_countWays_18 : decode cX2_countWays 18 = .ok (.astore 4, 2) := by decide +kernel
theorem dX2_countWays_20 : decode cX2_countWays 20 = .ok (.aload_n 0, 1) := by decide +kernel
theorem dX2_countWays_21 : decode cX2_countWays 21 = .ok (.aload 4, 2) := by decide +kernel
theorem dX2_countWays_23 : decode cX2_countWays 23 = .ok (.invokevirtual 76, 3) := by decide +kernel
theorem dX2_countWays_26 : decode cX2_countWays 26 = .ok (.iinc 3 1, 3) := by decide +kernel
theorem dX2_countWays_29 : decode cX2_countWays 29 = .ok (.goto (-19), 3) := by decide +kernel
theorem dX2_countWays_32 : decode cX2_countWays 32 = .ok (.aload_n 0, 1) := by decide +kernel
theorem dX2_countWays_33 : decode cX2_countWays 33 = .ok (.getfield 27, 3) := by decide +kernel
theorem dX2_countWays_36 : decode cX2_countWays 36 = .ok (.iconst 0, 1) := by decide +kernel
theorem dX2_countWays_37 : decode cX2_countWays 37 = .ok (.aaload, 1) := by decide +kernel
theorem dX2_countWays_38 : decode cX2_countWays 38 = .ok (.iconst 0, 1) := by decide +kernel
theorem dX2_countWays_39 : decode cX2_countWays 39 = .ok (.iconst 1, 1) := by decide +kernel
theorem dX2_countWays_40 : decode cX2_countWays 40 = .ok (.iastore, 1) := by decide +kernel
theorem dX2_countWays_41 : decode cX2_countWays 41 = .ok (.iconst 0, 1) := by decide +kernel
theorem dX2_countWays_42 : decode cX2_countWays 42 = .ok (.istore_n 1, 1) := by decide +kernel
theorem dX2_countWays_43 : decode cX2_countWays 43 = .ok (.iload_n 1, 1) := by decide +kernel
theorem dX2_countWays_44 : decode cX2_countWays 44 = .ok (.aload_n 0, 1) := by decide +kernel
theorem dX2_countWays_45 : decode cX2_countWays 45 = .ok (.getfield 30, 3) := by decide +kernel
theorem dX2_countWays_48 : decode cX2_countWays 48 = .ok (.if_icmp .ge 69, 3) := by decide +kernel
theorem dX2_countWays_51 : decode cX2_countWays 51 = .ok (.aload_n 0, 1) := by decide +kernel
theorem dX2_countWays_52 : decode cX2_countWays 52 = .ok (.iload_n 1, 1) := by decide +kernel
theorem dX2_countWays_53 : decode cX2_countWays 53 = .ok (.invokevirtual 62, 3) := by decide +kernel
theorem dX2_countWays_56 : decode cX2_countWays 56 = .ok (.istore_n 2, 1) := by decide +kernel
theorem dX2_countWays_57 : decode cX2_countWays 57 = .ok (.iload_n 1, 1) := by decide +kernel
theorem dX2_countWays_58 : decode cX2_countWays 58 = .ok (.aload_n 0, 1) := by decide +kernel
theorem dX2_countWays_59 : decode cX2_countWays 59 = .ok (.getfield 14, 3) := by decide +kernel
theorem dX2_countWays_62 : decode cX2_countWays 62 = .ok (.getfield 59, 3) := by decide +kernel
theorem dX2_countWays_65 : decode cX2_countWays 65 = .ok (.iconst 1, 1) := by decide +kernel
theorem dX2_countWays_66 : decode cX2_countWays 66 = .ok (.isub, 1) := by decide +kernel
theorem dX2_countWays_67 : decode cX2_countWays 67 = .ok (.invokestatic 53, 3) := by decide +kernel
theorem dX2_countWays_70 : decode cX2_countWays 70 = .ok (.istore_n 3, 1) := by decide +kernel
theorem dX2_countWays_71 : decode cX2_countWays 71 = .ok (.iload_n 3, 1) := by decide +kernel
theorem dX2_countWays_72 : decode cX2_countWays 72 = .ok (.ifCond .lt 39, 3) := by decide +kernel
theorem dX2_countWays_75 : decode cX2_countWays 75 = .ok (.iload_n 3, 1) := by decide +kernel
theorem dX2_countWays_76 : decode cX2_countWays 76 = .ok (.iconst 1, 1) := by decide +kernel
theorem dX2_countWays_77 : decode cX2_countWays 77 = .ok (.iadd, 1) := by decide +kernel
theorem dX2_countWays_78 : decode cX2_countWays 78 = .ok (.aload_n 0, 1) := by decide +kernel
theorem dX2_countWays_79 : decode cX2_countWays 79 = .ok (.getfield 27, 3) := by decide +kernel
theorem dX2_countWays_82 : decode cX2_countWays 82 = .ok (.arraylength, 1) := by decide +kernel
theorem dX2_countWays_83 : decode cX2_countWays 83 = .ok (.if_icmp .ge 22, 3) := by decide +kernel
theorem dX2_countWays_86 : decode cX2_countWays 86 = .ok (.aload_n 0, 1) := by decide +kernel
theorem dX2_countWays_87 : decode cX2_countWays 87 = .ok (.aload_n 0, 1) := by decide +kernel
theorem dX2_countWays_88 : decode cX2_countWays 88 = .ok (.getfield 27, 3) := by decide +kernel
theorem dX2_countWays_91 : decode cX2_countWays 91 = .ok (.iload_n 3, 1) := by decide +kernel
theorem dX2_countWays_92 : decode cX2_countWays 92 = .ok (.aaload, 1) := by decide +kernel
theorem dX2_countWays_93 : decode cX2_countWays 93 = .ok (.aload_n 0, 1) := by decide +kernel
theorem dX2_countWays_94 : decode cX2_countWays 94 = .ok (.getfield 27, 3) := by decide +kernel
theorem dX2_countWays_97 : decode cX2_countWays 97 = .ok (.iload_n 3, 1) := by decide +kernel
theorem dX2_countWays_98 : decode cX2_countWays 98 = .ok (.iconst 1, 1) := by decide +kernel
theorem dX2_countWays_99 : decode cX2_countWays 99 = .ok (.iadd, 1) := by decide +kernel
theorem dX2_countWays_100 : decode cX2_countWays 100 = .ok (.aaload, 1) := by decide +kernel
theorem dX2_countWays_101 : decode cX2_countWays 101 = .ok (.iload_n 2, 1) := by decide +kernel
theorem dX2_countWays_102 : decode cX2_countWays 102 = .ok (.invokevirtual 80, 3) := by decide +kernel
theorem dX2_countWays_105 : decode cX2_countWays 105 = .ok (.iinc 3 (-1), 3) := by decide +kernel
theorem dX2_countWays_108 : decode cX2_countWays 108 = .ok (.goto (-37), 3) := by decide +kernel
theorem dX2_countWays_111 : decode cX2_countWays 111 = .ok (.iinc 1 1, 3) := by decide +kernel
theorem dX2_countWays_114 : decode cX2_countWays 114 = .ok (.goto (-71), 3) := by decide +kernel
theorem dX2_countWays_117 : decode cX2_countWays 117 = .ok (.return_, 1) := by decide +kernel
theorem dX2_clearLeads_0 : decode cX2_clearLeads 0 = .ok (.iconst 0, 1) := by decide +kernel
theorem dX2_clearLeads_1 : decode cX2_clearLeads 1 = .ok (.istore_n 2, 1) := by decide +kernel
theorem dX2_clearLeads_2 : decode cX2_clearLeads 2 = .ok (.iload_n 2, 1) := by decide +kernel
theorem dX2_clearLeads_3 : decode cX2_clearLeads 3 = .ok (.aload_n 0, 1) := by decide +kernel
theorem dX2_clearLeads_4 : decode cX2_clearLeads 4 = .ok (.getfield 34, 3) := by decide +kernel
theorem dX2_clearLeads_7 : decode cX2_clearLeads 7 = .ok (.if_icmp .gt 19, 3) := by decide +kernel
theorem dX2_clearLeads_10 : decode cX2_clearLeads 10 = .ok (.iload_n 2, 1) := by decide +kernel
theorem dX2_clearLeads_11 : decode cX2_clearLeads 11 = .ok (.aload_n 1, 1) := by decide +kernel
theorem dX2_clearLeads_12 : decode cX2_clearLeads 12 = .ok (.arraylength, 1) := by decide +kernel
theorem dX2_clearLeads_13 : decode cX2_clearLeads 13 = .ok (.if_icmp .ge 13, 3) := by decide +kernel
theorem dX2_clearLeads_16 : decode cX2_clearLeads 16 = .ok (.aload_n 1, 1) := by decide +kernel
theorem dX2_clearLeads_17 : decode cX2_clearLeads 17 = .ok (.iload_n 2, 1) := by decide +kernel
theorem dX2_clearLeads_18 : decode cX2_clearLeads 18 = .ok (.iconst 0, 1) := by decide +kernel
theorem dX2_clearLeads_19 : decode cX2_clearLeads 19 = .ok (.iastore, 1) := by decide +kernel
theorem dX2_clearLeads_20 : decode cX2_clearLeads 20 = .ok (.iinc 2 1, 3) := by decide +kernel
theorem dX2_clearLeads_23 : decode cX2_clearLeads 23 = .ok (.goto (-21), 3) := by decide +kernel
theorem dX2_clearLeads_26 : decode cX2_clearLeads 26 = .ok (.return_, 1) := by decide +kernel
theorem dX2_addShifted_0 : decode cX2_addShifted 0 = .ok (.aload_n 0, 1) := by decide +kernel
theorem dX2_addShifted_1 : decode cX2_addShifted 1 = .ok (.getfield 34, 3) := by decide +kernel
theorem dX2_addShifted_4 : decode cX2_addShifted 4 = .ok (.iconst 1, 1) := by decide +kernel
theorem dX2_addShifted_5 : decode cX2_addShifted 5 = .ok (.iadd, 1) := by decide +kernel
theorem dX2_addShifted_6 : decode cX2_addShifted 6 = .ok (.aload_n 2, 1) := by decide +kernel
theorem dX2_addShifted_7 : decode cX2_addShifted 7 = .ok (.arraylength, 1) := by decide +kernel
theorem dX2_addShifted_8 : decode cX2_addShifted 8 = .ok (.invokestatic 53, 3) := by decide +kernel
theorem dX2_addShifted_11 : decode cX2_addShifted 11 = .ok (.istore 4, 2) := by decide +kernel
theorem dX2_addShifted_13 : decode cX2_addShifted 13 = .ok (.iconst 0, 1) := by decide +kernel
theorem dX2_addShifted_14 : decode cX2_addShifted 14 = .ok (.istore 5, 2) := by decide +kernel
theorem dX2_addShifted_16 : decode cX2_addShifted 16 = .ok (.iload 5, 2) := by decide +kernel
theorem dX2_addShifted_18 : decode cX2_addShifted 18 = .ok (.aload_n 1, 1) := by decide +kernel
theorem dX2_addShifted_19 : decode cX2_addShifted 19 = .ok (.arraylength, 1) := by decide +kernel
theorem dX2_addShifted_20 : decode cX2_addShifted 20 = .ok (.if_icmp .ge 35, 3) := by decide +kernel
theorem dX2_addShifted_23 : decode cX2_addShifted 23 = .ok (.iload_n 3, 1) := by decide +kernel
theorem dX2_addShifted_24 : decode cX2_addShifted 24 = .ok (.ifCond .lt 31, 3) := by decide +kernel
theorem dX2_addShifted_27 : decode cX2_addShifted 27 = .ok (.iload 5, 2) := by decide +kernel
theorem dX2_addShifted_29 : decode cX2_addShifted 29 = .ok (.iload_n 3, 1) := by decide +kernel
theorem dX2_addShifted_30 : decode cX2_addShifted 30 = .ok (.iadd, 1) := by decide +kernel
theorem dX2_addShifted_31 : decode cX2_addShifted 31 = .ok (.iload 4, 2) := by decide +kernel
theorem dX2_addShifted_33 : decode cX2_addShifted 33 = .ok (.if_icmp .ge 22, 3) := by decide +kernel
theorem dX2_addShifted_36 : decode cX2_addShifted 36 = .ok (.aload_n 2, 1) := by decide +kernel
theorem dX2_addShifted_37 : decode cX2_addShifted 37 = .ok (.iload 5, 2) := by decide +kernel
theorem dX2_addShifted_39 : decode cX2_addShifted 39 = .ok (.iload_n 3, 1) := by decide +kernel
theorem dX2_addShifted_40 : decode cX2_addShifted 40 = .ok (.iadd, 1) := by decide +kernel
theorem dX2_addShifted_41 : decode cX2_addShifted 41 = .ok (.dup2, 1) := by decide +kernel
theorem dX2_addShifted_42 : decode cX2_addShifted 42 = .ok (.iaload, 1) := by decide +kernel
theorem dX2_addShifted_43 : decode cX2_addShifted 43 = .ok (.aload_n 1, 1) := by decide +kernel
theorem dX2_addShifted_44 : decode cX2_addShifted 44 = .ok (.iload 5, 2) := by decide +kernel
theorem dX2_addShifted_46 : decode cX2_addShifted 46 = .ok (.iaload, 1) := by decide +kernel
theorem dX2_addShifted_47 : decode cX2_addShifted 47 = .ok (.iadd, 1) := by decide +kernel
theorem dX2_addShifted_48 : decode cX2_addShifted 48 = .ok (.iastore, 1) := by decide +kernel
theorem dX2_addShifted_49 : decode cX2_addShifted 49 = .ok (.iinc 5 1, 3) := by decide +kernel
theorem dX2_addShifted_52 : decode cX2_addShifted 52 = .ok (.goto (-36), 3) := by decide +kernel
theorem dX2_addShifted_55 : decode cX2_addShifted 55 = .ok (.return_, 1) := by decide +kernel
theorem dX2_tally_0 : decode cX2_tally 0 = .ok (.aload_n 0, 1) := by decide +kernel
theorem dX2_tally_1 : decode cX2_tally 1 = .ok (.iconst 0, 1) := by decide +kernel
theorem dX2_tally_2 : decode cX2_tally 2 = .ok (.putfield 40, 3) := by decide +kernel
theorem dX2_tally_5 : decode cX2_tally 5 = .ok (.aload_n 0, 1) := by decide +kernel
theorem dX2_tally_6 : decode cX2_tally 6 = .ok (.iconst 0, 1) := by decide +kernel
theorem dX2_tally_7 : decode cX2_tally 7 = .ok (.putfield 43, 3) := by decide +kernel
theorem dX2_tally_10 : decode cX2_tally 10 = .ok (.aload_n 0, 1) := by decide +kernel
theorem dX2_tally_11 : decode cX2_tally 11 = .ok (.iconst 0, 1) := by decide +kernel
theorem dX2_tally_12 : decode cX2_tally 12 = .ok (.putfield 46, 3) := by decide +kernel
theorem dX2_tally_15 : decode cX2_tally 15 = .ok (.aload_n 0, 1) := by decide +kernel
theorem dX2_tally_16 : decode cX2_tally 16 = .ok (.getfield 14, 3) := by decide +kernel
theorem dX2_tally_19 : decode cX2_tally 19 = .ok (.getfield 59, 3) := by decide +kernel
theorem dX2_tally_22 : decode cX2_tally 22 = .ok (.ifCond .lt 18, 3) := by decide +kernel
theorem dX2_tally_25 : decode cX2_tally 25 = .ok (.aload_n 0, 1) := by decide +kernel
theorem dX2_tally_26 : decode cX2_tally 26 = .ok (.getfield 14, 3) := by decide +kernel
theorem dX2_tally_29 : decode cX2_tally 29 = .ok (.getfield 59, 3) := by decide +kernel
theorem dX2_tally_32 : decode cX2_tally 32 = .ok (.aload_n 0, 1) := by decide +kernel
theorem dX2_tally_33 : decode cX2_tally 33 = .ok (.getfield 27, 3) := by decide +kernel
theorem dX2_tally_36 : decode cX2_tally 36 = .ok (.arraylength, 1) := by decide +kernel
theorem dX2_tally_37 : decode cX2_tally 37 = .ok (.if_icmp .lt 4, 3) := by decide +kernel
theorem dX2_tally_40 : decode cX2_tally 40 = .ok (.return_, 1) := by decide +kernel
theorem dX2_tally_41 : decode cX2_tally 41 = .ok (.aload_n 0, 1) := by decide +kernel
theorem dX2_tally_42 : decode cX2_tally 42 = .ok (.getfield 27, 3) := by decide +kernel
theorem dX2_tally_45 : decode cX2_tally 45 = .ok (.aload_n 0, 1) := by decide +kernel
theorem dX2_tally_46 : decode cX2_tally 46 = .ok (.getfield 14, 3) := by decide +kernel
theorem dX2_tally_49 : decode cX2_tally 49 = .ok (.getfield 59, 3) := by decide +kernel
theorem dX2_tally_52 : decode cX2_tally 52 = .ok (.aaload, 1) := by decide +kernel
theorem dX2_tally_53 : decode cX2_tally 53 = .ok (.astore_n 2, 1) := by decide +kernel
theorem dX2_tally_54 : decode cX2_tally 54 = .ok (.iconst 0, 1) := by decide +kernel
theorem dX2_tally_55 : decode cX2_tally 55 = .ok (.istore_n 3, 1) := by decide +kernel
theorem dX2_tally_56 : decode cX2_tally 56 = .ok (.iload_n 3, 1) := by decide +kernel
theorem dX2_tally_57 : decode cX2_tally 57 = .ok (.aload_n 0, 1) := by decide +kernel
theorem dX2_tally_58 : decode cX2_tally 58 = .ok (.getfield 34, 3) := by decide +kernel
theorem dX2_tally_61 : decode cX2_tally 61 = .ok (.if_icmp .gt 69, 3) := by decide +kernel
theorem dX2_tally_64 : decode cX2_tally 64 = .ok (.iload_n 3, 1) := by decide +kernel
theorem dX2_tally_65 : decode cX2_tally 65 = .ok (.aload_n 2, 1) := by decide +kernel
theorem dX2_tally_66 : decode cX2_tally 66 = .ok (.arraylength, 1) := by decide +kernel
theorem dX2_tally_67 : decode cX2_tally 67 = .ok (.if_icmp .ge 63, 3) := by decide +kernel
theorem dX2_tally_70 : decode cX2_tally 70 = .ok (.aload_n 0, 1) := by decide +kernel
theorem dX2_tally_71 : decode cX2_tally 71 = .ok (.dup, 1) := by decide +kernel
theorem dX2_tally_72 : decode cX2_tally 72 = .ok (.getfield 46, 3) := by decide +kernel
theorem dX2_tally_75 : decode cX2_tally 75 = .ok (.aload_n 2, 1) := by decide +kernel
theorem dX2_tally_76 : decode cX2_tally 76 = .ok (.iload_n 3, 1) := by decide +kernel
theorem dX2_tally_77 : decode cX2_tally 77 = .ok (.iaload, 1) := by decide +kernel
theorem dX2_tally_78 : decode cX2_tally 78 = .ok (.iadd, 1) := by decide +kernel
theorem dX2_tally_79 : decode cX2_tally 79 = .ok (.putfield 46, 3) := by decide +kernel
theorem dX2_tally_82 : decode cX2_tally 82 = .ok (.aload_n 0, 1) := by decide +kernel
theorem dX2_tally_83 : decode cX2_tally 83 = .ok (.dup, 1) := by decide +kernel
theorem dX2_tally_84 : decode cX2_tally 84 = .ok (.getfield 40, 3) := by decide +kernel
theorem dX2_tally_87 : decode cX2_tally 87 = .ok (.iload_n 3, 1) := by decide +kernel
theorem dX2_tally_88 : decode cX2_tally 88 = .ok (.iload_n 1, 1) := by decide +kernel
theorem dX2_tally_89 : decode cX2_tally 89 = .ok (.if_icmp .lt 9, 3) := by decide +kernel
theorem dX2_tally_92 : decode cX2_tally 92 = .ok (.aload_n 2, 1) := by decide +kernel
theorem dX2_tally_93 : decode cX2_tally 93 = .ok (.iload_n 3, 1) := by decide +kernel
theorem dX2_tally_94 : decode cX2_tally 94 = .ok (.iaload, 1) := by decide +kernel
theorem dX2_tally_95 : decode cX2_tally 95 = .ok (.goto 4, 3) := by decide +kernel
theorem dX2_tally_98 : decode cX2_tally 98 = .ok (.iconst 0, 1) := by decide +kernel
theorem dX2_tally_99 : decode cX2_tally 99 = .ok (.iadd, 1) := by decide +kernel
theorem dX2_tally_100 : decode cX2_tally 100 = .ok (.putfield 40, 3) := by decide +kernel
theorem dX2_tally_103 : decode cX2_tally 103 = .ok (.aload_n 0, 1) := by decide +kernel
theorem dX2_tally_104 : decode cX2_tally 104 = .ok (.dup, 1) := by decide +kernel
theorem dX2_tally_105 : decode cX2_tally 105 = .ok (.getfield 43, 3) := by decide +kernel
theorem dX2_tally_108 : decode cX2_tally 108 = .ok (.iload_n 3, 1) := by decide +kernel
theorem dX2_tally_109 : decode cX2_tally 109 = .ok (.iload_n 1, 1) := by decide +kernel
theorem dX2_tally_110 : decode cX2_tally 110 = .ok (.if_icmp .gt 9, 3) := by decide +kernel
theorem dX2_tally_113 : decode cX2_tally 113 = .ok (.aload_n 2, 1) := by decide +kernel
theorem dX2_tally_114 : decode cX2_tally 114 = .ok (.iload_n 3, 1) := by decide +kernel
theorem dX2_tally_115 : decode cX2_tally 115 = .ok (.iaload, 1) := by decide +kernel
theorem dX2_tally_116 : decode cX2_tally 116 = .ok (.goto 4, 3) := by decide +kernel
theorem dX2_tally_119 : decode cX2_tally 119 = .ok (.iconst 0, 1) := by decide +kernel
theorem dX2_tally_120 : decode cX2_tally 120 = .ok (.iadd, 1) := by decide +kernel
theorem dX2_tally_121 : decode cX2_tally 121 = .ok (.putfield 43, 3) := by decide +kernel
theorem dX2_tally_124 : decode cX2_tally 124 = .ok (.iinc 3 1, 3) := by decide +kernel
theorem dX2_tally_127 : decode cX2_tally 127 = .ok (.goto (-71), 3) := by decide +kernel
theorem dX2_tally_130 : decode cX2_tally 130 = .ok (.return_, 1) := by decide +kernel
theorem dX2_outcome_0 : decode cX2_outcome 0 = .ok (.aload_n 0, 1) := by decide +kernel
theorem dX2_outcome_1 : decode cX2_outcome 1 = .ok (.getfield 14, 3) := by decide +kernel
theorem dX2_outcome_4 : decode cX2_outcome 4 = .ok (.getfield 59, 3) := by decide +kernel
theorem dX2_outcome_7 : decode cX2_outcome 7 = .ok (.iload_n 1, 1) := by decide +kernel
theorem dX2_outcome_8 : decode cX2_outcome 8 = .ok (.if_icmp .lt 14, 3) := by decide +kernel
theorem dX2_outcome_11 : decode cX2_outcome 11 = .ok (.aload_n 0, 1) := by decide +kernel
theorem dX2_outcome_12 : decode cX2_outcome 12 = .ok (.getfield 18, 3) := by decide +kernel
theorem dX2_outcome_15 : decode cX2_outcome 15 = .ok (.getfield 59, 3) := by decide +kernel
theorem dX2_outcome_18 : decode cX2_outcome 18 = .ok (.iload_n 1, 1) := by decide +kernel
theorem dX2_outcome_19 : decode cX2_outcome 19 = .ok (.if_icmp .ge 5, 3) := by decide +kernel
theorem dX2_outcome_22 : decode cX2_outcome 22 = .ok (.iconst 0, 1) := by decide +kernel
theorem dX2_outcome_23 : decode cX2_outcome 23 = .ok (.ireturn, 1) := by decide +kernel
theorem dX2_outcome_24 : decode cX2_outcome 24 = .ok (.aload_n 0, 1) := by decide +kernel
theorem dX2_outcome_25 : decode cX2_outcome 25 = .ok (.getfield 40, 3) := by decide +kernel
theorem dX2_outcome_28 : decode cX2_outcome 28 = .ok (.sipush 1000, 3) := by decide +kernel
theorem dX2_outcome_31 : decode cX2_outcome 31 = .ok (.imul, 1) := by decide +kernel
theorem dX2_outcome_32 : decode cX2_outcome 32 = .ok (.iload_n 2, 1) := by decide +kernel
theorem dX2_outcome_33 : decode cX2_outcome 33 = .ok (.aload_n 0, 1) := by decide +kernel
theorem dX2_outcome_34 : decode cX2_outcome 34 = .ok (.getfield 46, 3) := by decide +kernel
theorem dX2_outcome_37 : decode cX2_outcome 37 = .ok (.imul, 1) := by decide +kernel
theorem dX2_outcome_38 : decode cX2_outcome 38 = .ok (.if_icmp .gt 5, 3) := by decide +kernel
theorem dX2_outcome_41 : decode cX2_outcome 41 = .ok (.iconst 1, 1) := by decide +kernel
theorem dX2_outcome_42 : decode cX2_outcome 42 = .ok (.ireturn, 1) := by decide +kernel
theorem dX2_outcome_43 : decode cX2_outcome 43 = .ok (.aload_n 0, 1) := by decide +kernel
theorem dX2_outcome_44 : decode cX2_outcome 44 = .ok (.getfield 43, 3) := by decide +kernel
theorem dX2_outcome_47 : decode cX2_outcome 47 = .ok (.sipush 1000, 3) := by decide +kernel
theorem dX2_outcome_50 : decode cX2_outcome 50 = .ok (.imul, 1) := by decide +kernel
theorem dX2_outcome_51 : decode cX2_outcome 51 = .ok (.iload_n 2, 1) := by decide +kernel
theorem dX2_outcome_52 : decode cX2_outcome 52 = .ok (.aload_n 0, 1) := by decide +kernel
theorem dX2_outcome_53 : decode cX2_outcome 53 = .ok (.getfield 46, 3) := by decide +kernel
theorem dX2_outcome_56 : decode cX2_outcome 56 = .ok (.imul, 1) := by decide +kernel
theorem dX2_outcome_57 : decode cX2_outcome 57 = .ok (.if_icmp .gt 5, 3) := by decide +kernel
theorem dX2_outcome_60 : decode cX2_outcome 60 = .ok (.iconst 2, 1) := by decide +kernel
theorem dX2_outcome_61 : decode cX2_outcome 61 = .ok (.ireturn, 1) := by decide +kernel
theorem dX2_outcome_62 : decode cX2_outcome 62 = .ok (.aload_n 0, 1) := by decide +kernel
theorem dX2_outcome_63 : decode cX2_outcome 63 = .ok (.getfield 14, 3) := by decide +kernel
theorem dX2_outcome_66 : decode cX2_outcome 66 = .ok (.getfield 59, 3) := by decide +kernel
theorem dX2_outcome_69 : decode cX2_outcome 69 = .ok (.bipush 6, 2) := by decide +kernel
theorem dX2_outcome_71 : decode cX2_outcome 71 = .ok (.if_icmp .ne 19, 3) := by decide +kernel
theorem dX2_outcome_74 : decode cX2_outcome 74 = .ok (.aload_n 0, 1) := by decide +kernel
theorem dX2_outcome_75 : decode cX2_outcome 75 = .ok (.getfield 18, 3) := by decide +kernel
theorem dX2_outcome_78 : decode cX2_outcome 78 = .ok (.getfield 59, 3) := by decide +kernel
theorem dX2_outcome_81 : decode cX2_outcome 81 = .ok (.bipush 6, 2) := by decide +kernel
theorem dX2_outcome_83 : decode cX2_outcome 83 = .ok (.if_icmp .ne 7, 3) := by decide +kernel
theorem dX2_outcome_86 : decode cX2_outcome 86 = .ok (.iconst 3, 1) := by decide +kernel
theorem dX2_outcome_87 : decode cX2_outcome 87 = .ok (.goto 4, 3) := by decide +kernel
theorem dX2_outcome_90 : decode cX2_outcome 90 = .ok (.iconst 4, 1) := by decide +kernel
theorem dX2_outcome_91 : decode cX2_outcome 91 = .ok (.ireturn, 1) := by decide +kernel
theorem dX2_shareOfHigh_0 : decode cX2_shareOfHigh 0 = .ok (.aload_n 0, 1) := by decide +kernel
theorem dX2_shareOfHigh_1 : decode cX2_shareOfHigh 1 = .ok (.getfield 46, 3) := by decide +kernel
theorem dX2_shareOfHigh_4 : decode cX2_shareOfHigh 4 = .ok (.ifCond .le 17, 3) := by decide +kernel
theorem dX2_shareOfHigh_7 : decode cX2_shareOfHigh 7 = .ok (.aload_n 0, 1) := by decide +kernel
theorem dX2_shareOfHigh_8 : decode cX2_shareOfHigh 8 = .ok (.getfield 40, 3) := by decide +kernel
theorem dX2_shareOfHigh_11 : decode cX2_shareOfHigh 11 = .ok (.i2d, 1) := by decide +kernel
theorem dX2_shareOfHigh_12 : decode cX2_shareOfHigh 12 = .ok (.aload_n 0, 1) := by decide +kernel
theorem dX2_shareOfHigh_13 : decode cX2_shareOfHigh 13 = .ok (.getfield 46, 3) := by decide +kernel
theorem dX2_shareOfHigh_16 : decode cX2_shareOfHigh 16 = .ok (.i2d, 1) := by decide +kernel
theorem dX2_shareOfHigh_17 : decode cX2_shareOfHigh 17 = .ok (.ddiv, 1) := by decide +kernel
theorem dX2_shareOfHigh_18 : decode cX2_shareOfHigh 18 = .ok (.goto 4, 3) := by decide +kernel
theorem dX2_shareOfHigh_21 : decode cX2_shareOfHigh 21 = .ok (.dconst 1, 1) := by decide +kernel
theorem dX2_shareOfHigh_22 : decode cX2_shareOfHigh 22 = .ok (.dreturn, 1) := by decide +kernel
theorem dX3_init_0 : decode cX3_init 0 = .ok (.aload_n 0, 1) := by decide +kernel
theorem dX3_init_1 : decode cX3_init 1 = .ok (.invokespecial 1, 3) := by decide +kernel
theorem dX3_init_4 : decode cX3_init 4 = .ok (.aload_n 0, 1) := by decide +kernel
theorem dX3_init_5 : decode cX3_init 5 = .ok (.iconst 1, 1) := by decide +kernel
theorem dX3_init_6 : decode cX3_init 6 = .ok (.putfield 7, 3) := by decide +kernel
theorem dX3_init_9 : decode cX3_init 9 = .ok (.aload_n 0, 1) := by decide +kernel
theorem dX3_init_10 : decode cX3_init 10 = .ok (.iconst 0, 1) := by decide +kernel
theorem dX3_init_11 : decode cX3_init 11 = .ok (.putfield 13, 3) := by decide +kernel
theorem dX3_init_14 : decode cX3_init 14 = .ok (.aload_n 0, 1) := by decide +kernel
theorem dX3_init_15 : decode cX3_init 15 = .ok (.iconst 0, 1) := by decide +kernel
theorem dX3_init_16 : decode cX3_init 16 = .ok (.putfield 16, 3) := by decide +kernel
theorem dX3_init_19 : decode cX3_init 19 = .ok (.aload_n 0, 1) := by decide +kernel
theorem dX3_init_20 : decode cX3_init 20 = .ok (.iload_n 1, 1) := by decide +kernel
theorem dX3_init_21 : decode cX3_init 21 = .ok (.putfield 20, 3) := by decide +kernel
theorem dX3_init_24 : decode cX3_init 24 = .ok (.aload_n 0, 1) := by decide +kernel
theorem dX3_init_25 : decode cX3_init 25 = .ok (.iload_n 2, 1) := by decide +kernel
theorem dX3_init_26 : decode cX3_init 26 = .ok (.putfield 23, 3) := by decide +kernel
theorem dX3_init_29 : decode cX3_init 29 = .ok (.aload_n 0, 1) := by decide +kernel
theorem dX3_init_30 : decode cX3_init 30 = .ok (.iload_n 3, 1) := by decide +kernel
theorem dX3_init_31 : decode cX3_init 31 = .ok (.putfield 26, 3) := by decide +kernel
theorem dX3_init_34 : decode cX3_init 34 = .ok (.aload_n 0, 1) := by decide +kernel
theorem dX3_init_35 : decode cX3_init 35 = .ok (.iload_n 3, 1) := by decide +kernel
theorem dX3_init_36 : decode cX3_init 36 = .ok (.putfield 29, 3) := by decide +kernel
theorem dX3_init_39 : decode cX3_init 39 = .ok (.aload_n 0, 1) := by decide +kernel
theorem dX3_init_40 : decode cX3_init 40 = .ok (.iload_n 3, 1) := by decide +kernel
theorem dX3_init_41 : decode cX3_init 41 = .ok (.putfield 32, 3) := by decide +kernel
theorem dX3_init_44 : decode cX3_init 44 = .ok (.return_, 1) := by decide +kernel
theorem dX3_take_0 : decode cX3_take 0 = .ok (.aload_n 0, 1) := by decide +kernel
theorem dX3_take_1 : decode cX3_take 1 = .ok (.aload_n 0, 1) := by decide +kernel
theorem dX3_take_2 : decode cX3_take 2 = .ok (.getfield 29, 3) := by decide +kernel
theorem dX3_take_5 : decode cX3_take 5 = .ok (.putfield 32, 3) := by decide +kernel
theorem dX3_take_8 : decode cX3_take 8 = .ok (.aload_n 0, 1) := by decide +kernel
theorem dX3_take_9 : decode cX3_take 9 = .ok (.aload_n 0, 1) := by decide +kernel
theorem dX3_take_10 : decode cX3_take 10 = .ok (.getfield 26, 3) := by decide +kernel
theorem dX3_take_13 : decode cX3_take 13 = .ok (.putfield 29, 3) := by decide +kernel
theorem dX3_take_16 : decode cX3_take 16 = .ok (.aload_n 0, 1) := by decide +kernel
theorem dX3_take_17 : decode cX3_take 17 = .ok (.iload_n 1, 1) := by decide +kernel
theorem dX3_take_18 : decode cX3_take 18 = .ok (.putfield 26, 3) := by decide +kernel
theorem dX3_take_21 : decode cX3_take 21 = .ok (.aload_n 0, 1) := by decide +kernel
theorem dX3_take_22 : decode cX3_take 22 = .ok (.dup, 1) := by decide +kernel
theorem dX3_take_23 : decode cX3_take 23 = .ok (.getfield 7, 3) := by decide +kernel
theorem dX3_take_26 : decode cX3_take 26 = .ok (.iconst 1, 1) := by decide +kernel
theorem dX3_take_27 : decode cX3_take 27 = .ok (.iadd, 1) := by decide +kernel
theorem dX3_take_28 : decode cX3_take 28 = .ok (.putfield 7, 3) := by decide +kernel
theorem dX3_take_31 : decode cX3_take 31 = .ok (.aload_n 0, 1) := by decide +kernel
theorem dX3_take_32 : decode cX3_take 32 = .ok (.aload_n 0, 1) := by decide +kernel
theorem dX3_take_33 : decode cX3_take 33 = .ok (.invokevirtual 35, 3) := by decide +kernel
theorem dX3_take_36 : decode cX3_take 36 = .ok (.putfield 16, 3) := by decide +kernel
theorem dX3_take_39 : decode cX3_take 39 = .ok (.return_, 1) := by decide +kernel
theorem dX3_drifts_0 : decode cX3_drifts 0 = .ok (.aload_n 0, 1) := by decide +kernel
theorem dX3_drifts_1 : decode cX3_drifts 1 = .ok (.getfield 26, 3) := by decide +kernel
theorem dX3_drifts_4 : decode cX3_drifts 4 = .ok (.aload_n 0, 1) := by decide +kernel
theorem dX3_drifts_5 : decode cX3_drifts 5 = .ok (.getfield 29, 3) := by decide +kernel
theorem dX3_drifts_8 : decode cX3_drifts 8 = .ok (.aload_n 0, 1) := by decide +kernel
theorem dX3_drifts_9 : decode cX3_drifts 9 = .ok (.getfield 32, 3) := by decide +kernel
theorem dX3_drifts_12 : decode cX3_drifts 12 = .ok (.invokestatic 39, 3) := by decide +kernel
theorem dX3_drifts_15 : decode cX3_drifts 15 = .ok (.invokestatic 39, 3) := by decide +kernel
theorem dX3_drifts_18 : decode cX3_drifts 18 = .ok (.istore_n 1, 1) := by decide +kernel
theorem dX3_drifts_19 : decode cX3_drifts 19 = .ok (.aload_n 0, 1) := by decide +kernel
theorem dX3_drifts_20 : decode cX3_drifts 20 = .ok (.getfield 26, 3) := by decide +kernel
theorem dX3_drifts_23 : decode cX3_drifts 23 = .ok (.aload_n 0, 1) := by decide +kernel
theorem dX3_drifts_24 : decode cX3_drifts 24 = .ok (.getfield 29, 3) := by decide +kernel
theorem dX3_drifts_27 : decode cX3_drifts 27 = .ok (.aload_n 0, 1) := by decide +kernel
theorem dX3_drifts_28 : decode cX3_drifts 28 = .ok (.getfield 32, 3) := by decide +kernel
theorem dX3_drifts_31 : decode cX3_drifts 31 = .ok (.invokestatic 45, 3) := by decide +kernel
theorem dX3_drifts_34 : decode cX3_drifts 34 = .ok (.invokestatic 45, 3) := by decide +kernel
theorem dX3_drifts_37 : decode cX3_drifts 37 = .ok (.istore_n 2, 1) := by decide +kernel
theorem dX3_drifts_38 : decode cX3_drifts 38 = .ok (.iload_n 1, 1) := by decide +kernel
theorem dX3_drifts_39 : decode cX3_drifts 39 = .ok (.bipush 100, 2) := by decide +kernel
theorem dX3_drifts_41 : decode cX3_drifts 41 = .ok (.imul, 1) := by decide +kernel
theorem dX3_drifts_42 : decode cX3_drifts 42 = .ok (.iload_n 2, 1) := by decide +kernel
theorem dX3_drifts_43 : decode cX3_drifts 43 = .ok (.bipush 110, 2) := by decide +kernel
theorem dX3_drifts_45 : decode cX3_drifts 45 = .ok (.imul, 1) := by decide +kernel
theorem dX3_drifts_46 : decode cX3_drifts 46 = .ok (.if_icmp .le 7, 3) := by decide +kernel
theorem dX3_drifts_49 : decode cX3_drifts 49 = .ok (.iconst 1, 1) := by decide +kernel
theorem dX3_drifts_50 : decode cX3_drifts 50 = .ok (.goto 4, 3) := by decide +kernel
theorem dX3_drifts_53 : decode cX3_drifts 53 = .ok (.iconst 0, 1) := by decide +kernel
theorem dX3_drifts_54 : decode cX3_drifts 54 = .ok (.ireturn, 1) := by decide +kernel
theorem dX3_worthOf_0 : decode cX3_worthOf 0 = .ok (.aload_n 0, 1) := by decide +kernel
theorem dX3_worthOf_1 : decode cX3_worthOf 1 = .ok (.getfield 26, 3) := by decide +kernel
theorem dX3_worthOf_4 : decode cX3_worthOf 4 = .ok (.ifCond .le 15, 3) := by decide +kernel
theorem dX3_worthOf_7 : decode cX3_worthOf 7 = .ok (.iload_n 1, 1) := by decide +kernel
theorem dX3_worthOf_8 : decode cX3_worthOf 8 = .ok (.bipush 100, 2) := by decide +kernel
theorem dX3_worthOf_10 : decode cX3_worthOf 10 = .ok (.imul, 1) := by decide +kernel
theorem dX3_worthOf_11 : decode cX3_worthOf 11 = .ok (.aload_n 0, 1) := by decide +kernel
theorem dX3_worthOf_12 : decode cX3_worthOf 12 = .ok (.getfield 26, 3) := by decide +kernel
theorem dX3_worthOf_15 : decode cX3_worthOf 15 = .ok (.idiv, 1) := by decide +kernel
theorem dX3_worthOf_16 : decode cX3_worthOf 16 = .ok (.goto 4, 3) := by decide +kernel
theorem dX3_worthOf_19 : decode cX3_worthOf 19 = .ok (.iconst 0, 1) := by decide +kernel
theorem dX3_worthOf_20 : decode cX3_worthOf 20 = .ok (.ireturn, 1) := by decide +kernel
theorem dX4_init_0 : decode cX4_init 0 = .ok (.aload_n 0, 1) := by decide +kernel
theorem dX4_init_1 : decode cX4_init 1 = .ok (.invokespecial 1, 3) := by decide +kernel
theorem dX4_init_4 : decode cX4_init 4 = .ok (.aload_n 0, 1) := by decide +kernel
theorem dX4_init_5 : decode cX4_init 5 = .ok (.iconst 0, 1) := by decide +kernel
theorem dX4_init_6 : decode cX4_init 6 = .ok (.putfield 7, 3) := by decide +kernel
theorem dX4_init_9 : decode cX4_init 9 = .ok (.aload_n 0, 1) := by decide +kernel
theorem dX4_init_10 : decode cX4_init 10 = .ok (.iload_n 1, 1) := by decide +kernel
theorem dX4_init_11 : decode cX4_init 11 = .ok (.putfield 13, 3) := by decide +kernel
theorem dX4_init_14 : decode cX4_init 14 = .ok (.aload_n 0, 1) := by decide +kernel
theorem dX4_init_15 : decode cX4_init 15 = .ok (.aload_n 2, 1) := by decide +kernel
theorem dX4_init_16 : decode cX4_init 16 = .ok (.putfield 17, 3) := by decide +kernel
theorem dX4_init_19 : decode cX4_init 19 = .ok (.aload_n 0, 1) := by decide +kernel
theorem dX4_init_20 : decode cX4_init 20 = .ok (.iload_n 3, 1) := by decide +kernel
theorem dX4_init_21 : decode cX4_init 21 = .ok (.putfield 21, 3) := by decide +kernel
theorem dX4_init_24 : decode cX4_init 24 = .ok (.aload_n 0, 1) := by decide +kernel
theorem dX4_init_25 : decode cX4_init 25 = .ok (.aload_n 2, 1) := by decide +kernel
theorem dX4_init_26 : decode cX4_init 26 = .ok (.iload_n 3, 1) := by decide +kernel
theorem dX4_init_27 : decode cX4_init 27 = .ok (.invokevirtual 24, 3) := by decide +kernel
theorem dX4_init_30 : decode cX4_init 30 = .ok (.putfield 30, 3) := by decide +kernel
theorem dX4_init_33 : decode cX4_init 33 = .ok (.return_, 1) := by decide +kernel
theorem dX4_isCounting_0 : decode cX4_isCounting 0 = .ok (.aload_n 0, 1) := by decide +kernel
theorem dX4_isCounting_1 : decode cX4_isCounting 1 = .ok (.getfield 7, 3) := by decide +kernel
theorem dX4_isCounting_4 : decode cX4_isCounting 4 = .ok (.ifCond .ne 17, 3) := by decide +kernel
theorem dX4_isCounting_7 : decode cX4_isCounting 7 = .ok (.aload_n 0, 1) := by decide +kernel
theorem dX4_isCounting_8 : decode cX4_isCounting 8 = .ok (.getfield 17, 3) := by decide +kernel
theorem dX4_isCounting_11 : decode cX4_isCounting 11 = .ok (.getfield 33, 3) := by decide +kernel
theorem dX4_isCounting_14 : decode cX4_isCounting 14 = .ok (.ifCond .ne 7, 3) := by decide +kernel
theorem dX4_isCounting_17 : decode cX4_isCounting 17 = .ok (.iconst 1, 1) := by decide +kernel
theorem dX4_isCounting_18 : decode cX4_isCounting 18 = .ok (.goto 4, 3) := by decide +kernel
theorem dX4_isCounting_21 : decode cX4_isCounting 21 = .ok (.iconst 0, 1) := by decide +kernel
theorem dX4_isCounting_22 : decode cX4_isCounting 22 = .ok (.ireturn, 1) := by decide +kernel
theorem dX5_init_0 : decode cX5_init 0 = .ok (.aload_n 0, 1) := by decide +kernel
theorem dX5_init_1 : decode cX5_init 1 = .ok (.invokespecial 3, 3) := by decide +kernel
theorem dX5_init_4 : decode cX5_init 4 = .ok (.aload_n 0, 1) := by decide +kernel
theorem dX5_init_5 : decode cX5_init 5 = .ok (.bipush 6, 2) := by decide +kernel
theorem dX5_init_7 : decode cX5_init 7 = .ok (.newarray .int, 2) := by decide +kernel
theorem dX5_init_9 : decode cX5_init 9 = .ok (.putfield 9, 3) := by decide +kernel
theorem dX5_init_12 : decode cX5_init 12 = .ok (.aload_n 0, 1) := by decide +kernel
theorem dX5_init_13 : decode cX5_init 13 = .ok (.iconst 0, 1) := by decide +kernel
theorem dX5_init_14 : decode cX5_init 14 = .ok (.putfield 15, 3) := by decide +kernel
theorem dX5_init_17 : decode cX5_init 17 = .ok (.return_, 1) := by decide +kernel
theorem dX5_clear_0 : decode cX5_clear 0 = .ok (.aload_n 0, 1) := by decide +kernel
theorem dX5_clear_1 : decode cX5_clear 1 = .ok (.iconst 0, 1) := by decide +kernel
theorem dX5_clear_2 : decode cX5_clear 2 = .ok (.putfield 15, 3) := by decide +kernel
theorem dX5_clear_5 : decode cX5_clear 5 = .ok (.return_, 1) := by decide +kernel
theorem dX5_add_0 : decode cX5_add 0 = .ok (.aload_n 0, 1) := by decide +kernel
theorem dX5_add_1 : decode cX5_add 1 = .ok (.getfield 15, 3) := by decide +kernel
theorem dX5_add_4 : decode cX5_add 4 = .ok (.ifCond .lt 15, 3) := by decide +kernel
theorem dX5_add_7 : decode cX5_add 7 = .ok (.aload_n 0, 1) := by decide +kernel
theorem dX5_add_8 : decode cX5_add 8 = .ok (.getfield 15, 3) := by decide +kernel
theorem dX5_add_11 : decode cX5_add 11 = .ok (.aload_n 0, 1) := by decide +kernel
theorem dX5_add_12 : decode cX5_add 12 = .ok (.getfield 9, 3) := by decide +kernel
theorem dX5_add_15 : decode cX5_add 15 = .ok (.arraylength, 1) := by decide +kernel
theorem dX5_add_16 : decode cX5_add 16 = .ok (.if_icmp .lt 4, 3) := by decide +kernel
theorem dX5_add_19 : decode cX5_add 19 = .ok (.return_, 1) := by decide +kernel
theorem dX5_add_20 : decode cX5_add 20 = .ok (.aload_n 0, 1) := by decide +kernel
theorem dX5_add_21 : decode cX5_add 21 = .ok (.getfield 15, 3) := by decide +kernel
theorem dX5_add_24 : decode cX5_add 24 = .ok (.istore_n 2, 1) := by decide +kernel
theorem dX5_add_25 : decode cX5_add 25 = .ok (.iload_n 2, 1) := by decide +kernel
theorem dX5_add_26 : decode cX5_add 26 = .ok (.ifCond .le 35, 3) := by decide +kernel
theorem dX5_add_29 : decode cX5_add 29 = .ok (.aload_n 0, 1) := by decide +kernel
theorem dX5_add_30 : decode cX5_add 30 = .ok (.getfield 9, 3) := by decide +kernel
theorem dX5_add_33 : decode cX5_add 33 = .ok (.iload_n 2, 1) := by decide +kernel
theorem dX5_add_34 : decode cX5_add 34 = .ok (.iconst 1, 1) := by decide +kernel
theorem dX5_add_35 : decode cX5_add 35 = .ok (.isub, 1) := by decide +kernel
theorem dX5_add_36 : decode cX5_add 36 = .ok (.iaload, 1) := by decide +kernel
theorem dX5_add_37 : decode cX5_add 37 = .ok (.iload_n 1, 1) := by decide +kernel
theorem dX5_add_38 : decode cX5_add 38 = .ok (.if_icmp .le 23, 3) := by decide +kernel
theorem dX5_add_41 : decode cX5_add 41 = .ok (.aload_n 0, 1) := by decide +kernel
theorem dX5_add_42 : decode cX5_add 42 = .ok (.getfield 9, 3) := by decide +kernel
theorem dX5_add_45 : decode cX5_add 45 = .ok (.iload_n 2, 1) := by decide +kernel
theorem dX5_add_46 : decode cX5_add 46 = .ok (.aload_n 0, 1) := by decide +kernel
theorem dX5_add_47 : decode cX5_add 47 = .ok (.getfield 9, 3) := by decide +kernel
theorem dX5_add_50 : decode cX5_add 50 = .ok (.iload_n 2, 1) := by decide +kernel
theorem dX5_add_51 : decode cX5_add 51 = .ok (.iconst 1, 1) := by decide +kernel
theorem dX5_add_52 : decode cX5_add 52 = .ok (.isub, 1) := by decide +kernel
theorem dX5_add_53 : decode cX5_add 53 = .ok (.iaload, 1) := by decide +kernel
theorem dX5_add_54 : decode cX5_add 54 = .ok (.iastore, 1) := by decide +kernel
theorem dX5_add_55 : decode cX5_add 55 = .ok (.iinc 2 (-1), 3) := by decide +kernel
theorem dX5_add_58 : decode cX5_add 58 = .ok (.goto (-33), 3) := by decide +kernel
theorem dX5_add_61 : decode cX5_add 61 = .ok (.aload_n 0, 1) := by decide +kernel
theorem dX5_add_62 : decode cX5_add 62 = .ok (.getfield 9, 3) := by decide +kernel
theorem dX5_add_65 : decode cX5_add 65 = .ok (.iload_n 2, 1) := by decide +kernel
theorem dX5_add_66 : decode cX5_add 66 = .ok (.iload_n 1, 1) := by decide +kernel
theorem dX5_add_67 : decode cX5_add 67 = .ok (.iastore, 1) := by decide +kernel
theorem dX5_add_68 : decode cX5_add 68 = .ok (.aload_n 0, 1) := by decide +kernel
theorem dX5_add_69 : decode cX5_add 69 = .ok (.dup, 1) := by decide +kernel
theorem dX5_add_70 : decode cX5_add 70 = .ok (.getfield 15, 3) := by decide +kernel
theorem dX5_add_73 : decode cX5_add 73 = .ok (.iconst 1, 1) := by decide +kernel
theorem dX5_add_74 : decode cX5_add 74 = .ok (.iadd, 1) := by decide +kernel
theorem dX5_add_75 : decode cX5_add 75 = .ok (.putfield 15, 3) := by decide +kernel
theorem dX5_add_78 : decode cX5_add 78 = .ok (.return_, 1) := by decide +kernel
theorem dX5_addLastOf_0 : decode cX5_addLastOf 0 = .ok (.aload_n 1, 1) := by decide +kernel
theorem dX5_addLastOf_1 : decode cX5_addLastOf 1 = .ok (.getfield 19, 3) := by decide +kernel
theorem dX5_addLastOf_4 : decode cX5_addLastOf 4 = .ok (.invokevirtual 25, 3) := by decide +kernel
theorem dX5_addLastOf_7 : decode cX5_addLastOf 7 = .ok (.iconst 1, 1) := by decide +kernel
theorem dX5_addLastOf_8 : decode cX5_addLastOf 8 = .ok (.isub, 1) := by decide +kernel
theorem dX5_addLastOf_9 : decode cX5_addLastOf 9 = .ok (.istore_n 2, 1) := by decide +kernel
theorem dX5_addLastOf_10 : decode cX5_addLastOf 10 = .ok (.iload_n 2, 1) := by decide +kernel
theorem dX5_addLastOf_11 : decode cX5_addLastOf 11 = .ok (.ifCond .lt 48, 3) := by decide +kernel
theorem dX5_addLastOf_14 : decode cX5_addLastOf 14 = .ok (.aload_n 0, 1) := by decide +kernel
theorem dX5_addLastOf_15 : decode cX5_addLastOf 15 = .ok (.getfield 15, 3) := by decide +kernel
theorem dX5_addLastOf_18 : decode cX5_addLastOf 18 = .ok (.aload_n 0, 1) := by decide +kernel
theorem dX5_addLastOf_19 : decode cX5_addLastOf 19 = .ok (.getfield 9, 3) := by decide +kernel
theorem dX5_addLastOf_22 : decode cX5_addLastOf 22 = .ok (.arraylength, 1) := by decide +kernel
theorem dX5_addLastOf_23 : decode cX5_addLastOf 23 = .ok (.if_icmp .ge 36, 3) := by decide +kernel
theorem dX5_addLastOf_26 : decode cX5_addLastOf 26 = .ok (.aload_n 1, 1) := by decide +kernel
theorem dX5_addLastOf_27 : decode cX5_addLastOf 27 = .ok (.getfield 19, 3) := by decide +kernel
theorem dX5_addLastOf_30 : decode cX5_addLastOf 30 = .ok (.iload_n 2, 1) := by decide +kernel
theorem dX5_addLastOf_31 : decode cX5_addLastOf 31 = .ok (.invokevirtual 30, 3) := by decide +kernel
theorem dX5_addLastOf_34 : decode cX5_addLastOf 34 = .ok (.checkcast 34, 3) := by decide +kernel
theorem dX5_addLastOf_37 : decode cX5_addLastOf 37 = .ok (.astore_n 3, 1) := by decide +kernel
theorem dX5_addLastOf_38 : decode cX5_addLastOf 38 = .ok (.aload_n 3, 1) := by decide +kernel
theorem dX5_addLastOf_39 : decode cX5_addLastOf 39 = .ok (.invokevirtual 36, 3) := by decide +kernel
theorem dX5_addLastOf_42 : decode cX5_addLastOf 42 = .ok (.ifCond .eq 11, 3) := by decide +kernel
theorem dX5_addLastOf_45 : decode cX5_addLastOf 45 = .ok (.aload_n 0, 1) := by decide +kernel
theorem dX5_addLastOf_46 : decode cX5_addLastOf 46 = .ok (.aload_n 3, 1) := by decide +kernel
theorem dX5_addLastOf_47 : decode cX5_addLastOf 47 = .ok (.getfield 40, 3) := by decide +kernel
theorem dX5_addLastOf_50 : decode cX5_addLastOf 50 = .ok (.invokevirtual 43, 3) := by decide +kernel
theorem dX5_addLastOf_53 : decode cX5_addLastOf 53 = .ok (.iinc 2 (-1), 3) := by decide +kernel
theorem dX5_addLastOf_56 : decode cX5_addLastOf 56 = .ok (.goto (-46), 3) := by decide +kernel
theorem dX5_addLastOf_59 : decode cX5_addLastOf 59 = .ok (.return_, 1) := by decide +kernel
theorem dX5_worthAt_0 : decode cX5_worthAt 0 = .ok (.iload_n 1, 1) := by decide +kernel
theorem dX5_worthAt_1 : decode cX5_worthAt 1 = .ok (.ifCond .lt 29, 3) := by decide +kernel
theorem dX5_worthAt_4 : decode cX5_worthAt 4 = .ok (.iload_n 1, 1) := by decide +kernel
theorem dX5_worthAt_5 : decode cX5_worthAt 5 = .ok (.aload_n 0, 1) := by decide +kernel
theorem dX5_worthAt_6 : decode cX5_worthAt 6 = .ok (.getfield 15, 3) := by decide +kernel
theorem dX5_worthAt_9 : decode cX5_worthAt 9 = .ok (.if_icmp .ge 21, 3) := by decide +kernel
theorem dX5_worthAt_12 : decode cX5_worthAt 12 = .ok (.iload_n 1, 1) := by decide +kernel
theorem dX5_worthAt_13 : decode cX5_worthAt 13 = .ok (.aload_n 0, 1) := by decide +kernel
theorem dX5_worthAt_14 : decode cX5_worthAt 14 = .ok (.getfield 9, 3) := by decide +kernel
theorem dX5_worthAt_17 : decode cX5_worthAt 17 = .ok (.arraylength, 1) := by decide +kernel
theorem dX5_worthAt_18 : decode cX5_worthAt 18 = .ok (.if_icmp .ge 12, 3) := by decide +kernel
theorem dX5_worthAt_21 : decode cX5_worthAt 21 = .ok (.aload_n 0, 1) := by decide +kernel
theorem dX5_worthAt_22 : decode cX5_worthAt 22 = .ok (.getfield 9, 3) := by decide +kernel
theorem dX5_worthAt_25 : decode cX5_worthAt 25 = .ok (.iload_n 1, 1) := by decide +kernel
theorem dX5_worthAt_26 : decode cX5_worthAt 26 = .ok (.iaload, 1) := by decide +kernel
theorem dX5_worthAt_27 : decode cX5_worthAt 27 = .ok (.goto 4, 3) := by decide +kernel
theorem dX5_worthAt_30 : decode cX5_worthAt 30 = .ok (.iconst (-1), 1) := by decide +kernel
theorem dX5_worthAt_31 : decode cX5_worthAt 31 = .ok (.ireturn, 1) := by decide +kernel
theorem dX6_init_0 : decode cX6_init 0 = .ok (.aload_n 0, 1) := by decide +kernel
theorem dX6_init_1 : decode cX6_init 1 = .ok (.invokespecial 1, 3) := by decide +kernel
theorem dX6_init_4 : decode cX6_init 4 = .ok (.aload_n 0, 1) := by decide +kernel
theorem dX6_init_5 : decode cX6_init 5 = .ok (.new 7, 3) := by decide +kernel
theorem dX6_init_8 : decode cX6_init 8 = .ok (.dup, 1) := by decide +kernel
theorem dX6_init_9 : decode cX6_init 9 = .ok (.invokespecial 9, 3) := by decide +kernel
theorem dX6_init_12 : decode cX6_init 12 = .ok (.putfield 10, 3) := by decide +kernel
theorem dX6_init_15 : decode cX6_init 15 = .ok (.aload_n 0, 1) := by decide +kernel
theorem dX6_init_16 : decode cX6_init 16 = .ok (.new 7, 3) := by decide +kernel
theorem dX6_init_19 : decode cX6_init 19 = .ok (.dup, 1) := by decide +kernel
theorem dX6_init_20 : decode cX6_init 20 = .ok (.invokespecial 9, 3) := by decide +kernel
theorem dX6_init_23 : decode cX6_init 23 = .ok (.putfield 16, 3) := by decide +kernel
theorem dX6_init_26 : decode cX6_init 26 = .ok (.aload_n 0, 1) := by decide +kernel
theorem dX6_init_27 : decode cX6_init 27 = .ok (.new 7, 3) := by decide +kernel
theorem dX6_init_30 : decode cX6_init 30 = .ok (.dup, 1) := by decide +kernel
theorem dX6_init_31 : decode cX6_init 31 = .ok (.invokespecial 9, 3) := by decide +kernel
theorem dX6_init_34 : decode cX6_init 34 = .ok (.putfield 19, 3) := by decide +kernel
theorem dX6_init_37 : decode cX6_init 37 = .ok (.aload_n 0, 1) := by decide +kernel
theorem dX6_init_38 : decode cX6_init 38 = .ok (.new 22, 3) := by decide +kernel
theorem dX6_init_41 : decode cX6_init 41 = .ok (.dup, 1) := by decide +kernel
theorem dX6_init_42 : decode cX6_init 42 = .ok (.invokespecial 24, 3) := by decide +kernel
theorem dX6_init_45 : decode cX6_init 45 = .ok (.putfield 25, 3) := by decide +kernel
theorem dX6_init_48 : decode cX6_init 48 = .ok (.aload_n 0, 1) := by decide +kernel
theorem dX6_init_49 : decode cX6_init 49 = .ok (.new 29, 3) := by decide +kernel
theorem dX6_init_52 : decode cX6_init 52 = .ok (.dup, 1) := by decide +kernel
theorem dX6_init_53 : decode cX6_init 53 = .ok (.invokespecial 31, 3) := by decide +kernel
theorem dX6_init_56 : decode cX6_init 56 = .ok (.putfield 32, 3) := by decide +kernel
theorem dX6_init_59 : decode cX6_init 59 = .ok (.aload_n 0, 1) := by decide +kernel
theorem dX6_init_60 : decode cX6_init 60 = .ok (.new 36, 3) := by decide +kernel
theorem dX6_init_63 : decode cX6_init 63 = .ok (.dup, 1) := by decide +kernel
theorem dX6_init_64 : decode cX6_init 64 = .ok (.invokespecial 38, 3) := by decide +kernel
theorem dX6_init_67 : decode cX6_init 67 = .ok (.putfield 39, 3) := by decide +kernel
theorem dX6_init_70 : decode cX6_init 70 = .ok (.aload_n 0, 1) := by decide +kernel
theorem dX6_init_71 : decode cX6_init 71 = .ok (.new 43, 3) := by decide +kernel
theorem dX6_init_74 : decode cX6_init 74 = .ok (.dup, 1) := by decide +kernel
theorem dX6_init_75 : decode cX6_init 75 = .ok (.invokespecial 45, 3) := by decide +kernel
theorem dX6_init_78 : decode cX6_init 78 = .ok (.putfield 46, 3) := by decide +kernel
theorem dX6_init_81 : decode cX6_init 81 = .ok (.aload_n 0, 1) := by decide +kernel
theorem dX6_init_82 : decode cX6_init 82 = .ok (.iconst 3, 1) := by decide +kernel
theorem dX6_init_83 : decode cX6_init 83 = .ok (.putfield 50, 3) := by decide +kernel
theorem dX6_init_86 : decode cX6_init 86 = .ok (.aload_n 0, 1) := by decide +kernel
theorem dX6_init_87 : decode cX6_init 87 = .ok (.bipush 50, 2) := by decide +kernel
theorem dX6_init_89 : decode cX6_init 89 = .ok (.putfield 54, 3) := by decide +kernel
theorem dX6_init_92 : decode cX6_init 92 = .ok (.aload_n 0, 1) := by decide +kernel
theorem dX6_init_93 : decode cX6_init 93 = .ok (.sipush 1000, 3) := by decide +kernel
theorem dX6_init_96 : decode cX6_init 96 = .ok (.putfield 57, 3) := by decide +kernel
theorem dX6_init_99 : decode cX6_init 99 = .ok (.aload_n 0, 1) := by decide +kernel
theorem dX6_init_100 : decode cX6_init 100 = .ok (.bipush 100, 2) := by decide +kernel
theorem dX6_init_102 : decode cX6_init 102 = .ok (.putfield 60, 3) := by decide +kernel
theorem dX6_init_105 : decode cX6_init 105 = .ok (.aload_n 0, 1) := by decide +kernel
theorem dX6_init_106 : decode cX6_init 106 = .ok (.iconst 0, 1) := by decide +kernel
theorem dX6_init_107 : decode cX6_init 107 = .ok (.putfield 63, 3) := by decide +kernel
theorem dX6_init_110 : decode cX6_init 110 = .ok (.aload_n 0, 1) := by decide +kernel
theorem dX6_init_111 : decode cX6_init 111 = .ok (.iconst (-1), 1) := by decide +kernel
theorem dX6_init_112 : decode cX6_init 112 = .ok (.putfield 66, 3) := by decide +kernel
theorem dX6_init_115 : decode cX6_init 115 = .ok (.aload_n 0, 1) := by decide +kernel
theorem dX6_init_116 : decode cX6_init 116 = .ok (.getfield 16, 3) := by decide +kernel
theorem dX6_init_119 : decode cX6_init 119 = .ok (.aload_n 0, 1) := by decide +kernel
theorem dX6_init_120 : decode cX6_init 120 = .ok (.getfield 25, 3) := by decide +kernel
theorem dX6_init_123 : decode cX6_init 123 = .ok (.invokevirtual 69, 3) := by decide +kernel
theorem dX6_init_126 : decode cX6_init 126 = .ok (.pop, 1) := by decide +kernel
theorem dX6_init_127 : decode cX6_init 127 = .ok (.return_, 1) := by decide +kernel
theorem dX6_machine_0 : decode cX6_machine 0 = .ok (.iload_n 1, 1) := by decide +kernel
theorem dX6_machine_1 : decode cX6_machine 1 = .ok (.iconst 1, 1) := by decide +kernel
theorem dX6_machine_2 : decode cX6_machine 2 = .ok (.bipush 60, 2) := by decide +kernel
theorem dX6_machine_4 : decode cX6_machine 4 = .ok (.invokestatic 73, 3) := by decide +kernel
theorem dX6_machine_7 : decode cX6_machine 7 = .ok (.ifCond .ne 10, 3) := by decide +kernel
theorem dX6_machine_10 : decode cX6_machine 10 = .ok (.iload_n 2, 1) := by decide +kernel
theorem dX6_machine_11 : decode cX6_machine 11 = .ok (.invokestatic 77, 3) := by decide +kernel
theorem dX6_machine_14 : decode cX6_machine 14 = .ok (.ifCond .eq 13, 3) := by decide +kernel
theorem dX6_machine_17 : decode cX6_machine 17 = .ok (.new 81, 3) := by decide +kernel
theorem dX6_machine_20 : decode cX6_machine 20 = .ok (.dup, 1) := by decide +kernel
theorem dX6_machine_21 : decode cX6_machine 21 = .ok (.ldc 83, 2) := by decide +kernel
theorem dX6_machine_23 : decode cX6_machine 23 = .ok (.invokespecial 85, 3) := by decide +kernel
theorem dX6_machine_26 : decode cX6_machine 26 = .ok (.athrow, 1) := by decide +kernel
theorem dX6_machine_27 : decode cX6_machine 27 = .ok (.aload_n 0, 1) := by decide +kernel
theorem dX6_machine_28 : decode cX6_machine 28 = .ok (.getfield 10, 3) := by decide +kernel
theorem dX6_machine_31 : decode cX6_machine 31 = .ok (.invokevirtual 88, 3) := by decide +kernel
theorem dX6_machine_34 : decode cX6_machine 34 = .ok (.iconst 4, 1) := by decide +kernel
theorem dX6_machine_35 : decode cX6_machine 35 = .ok (.if_icmp .lt 13, 3) := by decide +kernel
theorem dX6_machine_38 : decode cX6_machine 38 = .ok (.new 92, 3) := by decide +kernel
theorem dX6_machine_41 : decode cX6_machine 41 = .ok (.dup, 1) := by decide +kernel
theorem dX6_machine_42 : decode cX6_machine 42 = .ok (.ldc 94, 2) := by decide +kernel
theorem dX6_machine_44 : decode cX6_machine 44 = .ok (.invokespecial 96, 3) := by decide +kernel
theorem dX6_machine_47 : decode cX6_machine 47 = .ok (.athrow, 1) := by decide +kernel
theorem dX6_machine_48 : decode cX6_machine 48 = .ok (.aload_n 0, 1) := by decide +kernel
theorem dX6_machine_49 : decode cX6_machine 49 = .ok (.getfield 10, 3) := by decide +kernel
theorem dX6_machine_52 : decode cX6_machine 52 = .ok (.new 97, 3) := by decide +kernel
theorem dX6_machine_55 : decode cX6_machine 55 = .ok (.dup, 1) := by decide +kernel
theorem dX6_machine_56 : decode cX6_machine 56 = .ok (.aload_n 0, 1) := by decide +kernel
theorem dX6_machine_57 : decode cX6_machine 57 = .ok (.getfield 10, 3) := by decide +kernel
theorem dX6_machine_60 : decode cX6_machine 60 = .ok (.invokevirtual 88, 3) := by decide +kernel
theorem dX6_machine_63 : decode cX6_machine 63 = .ok (.iload_n 1, 1) := by decide +kernel
theorem dX6_machine_64 : decode cX6_machine 64 = .ok (.iload_n 2, 1) := by decide +kernel
theorem dX6_machine_65 : decode cX6_machine 65 = .ok (.invokespecial 99, 3) := by decide +kernel
theorem dX6_machine_68 : decode cX6_machine 68 = .ok (.invokevirtual 69, 3) := by decide +kernel
theorem dX6_machine_71 : decode cX6_machine 71 = .ok (.pop, 1) := by decide +kernel
theorem dX6_machine_72 : decode cX6_machine 72 = .ok (.aload_n 0, 1) := by decide +kernel
theorem dX6_machine_73 : decode cX6_machine 73 = .ok (.getfield 10, 3) := by decide +kernel
theorem dX6_machine_76 : decode cX6_machine 76 = .ok (.invokevirtual 88, 3) := by decide +kernel
theorem dX6_machine_79 : decode cX6_machine 79 = .ok (.iconst 1, 1) := by decide +kernel
theorem dX6_machine_80 : decode cX6_machine 80 = .ok (.isub, 1) := by decide +kernel
theorem dX6_machine_81 : decode cX6_machine 81 = .ok (.ireturn, 1) := by decide +kernel
theorem dX6_measure_0 : decode cX6_measure 0 = .ok (.iload_n 1, 1) := by decide +kernel
theorem dX6_measure_1 : decode cX6_measure 1 = .ok (.ifCond .lt 14, 3) := by decide +kernel
theorem dX6_measure_4 : decode cX6_measure 4 = .ok (.iload_n 1, 1) := by decide +kernel
theorem dX6_measure_5 : decode cX6_measure 5 = .ok (.aload_n 0, 1) := by decide +kernel
theorem dX6_measure_6 : decode cX6_measure 6 = .ok (.getfield 10, 3) := by decide +kernel
theorem dX6_measure_9 : decode cX6_measure 9 = .ok (.invokevirtual 88, 3) := by decide +kernel
theorem dX6_measure_12 : decode cX6_measure 12 = .ok (.if_icmp .lt 13, 3) := by decide +kernel
theorem dX6_measure_15 : decode cX6_measure 15 = .ok (.new 102, 3) := by decide +kernel
theorem dX6_measure_18 : decode cX6_measure 18 = .ok (.dup, 1) := by decide +kernel
theorem dX6_measure_19 : decode cX6_measure 19 = .ok (.ldc 104, 2) := by decide +kernel
theorem dX6_measure_21 : decode cX6_measure 21 = .ok (.invokespecial 106, 3) := by decide +kernel
theorem dX6_measure_24 : decode cX6_measure 24 = .ok (.athrow, 1) := by decide +kernel
theorem dX6_measure_25 : decode cX6_measure 25 = .ok (.iload_n 2, 1) := by decide +kernel
theorem dX6_measure_26 : decode cX6_measure 26 = .ok (.invokestatic 77, 3) := by decide +kernel
theorem dX6_measure_29 : decode cX6_measure 29 = .ok (.ifCond .eq 13, 3) := by decide +kernel
theorem dX6_measure_32 : decode cX6_measure 32 = .ok (.new 81, 3) := by decide +kernel
theorem dX6_measure_35 : decode cX6_measure 35 = .ok (.dup, 1) := by decide +kernel
theorem dX6_measure_36 : decode cX6_measure 36 = .ok (.ldc 107, 2) := by decide +kernel
theorem dX6_measure_38 : decode cX6_measure 38 = .ok (.invokespecial 85, 3) := by decide +kernel
theorem dX6_measure_41 : decode cX6_measure 41 = .ok (.athrow, 1) := by decide +kernel
theorem dX6_measure_42 : decode cX6_measure 42 = .ok (.aload_n 0, 1) := by decide +kernel
theorem dX6_measure_43 : decode cX6_measure 43 = .ok (.getfield 10, 3) := by decide +kernel
theorem dX6_measure_46 : decode cX6_measure 46 = .ok (.iload_n 1, 1) := by decide +kernel
theorem dX6_measure_47 : decode cX6_measure 47 = .ok (.invokevirtual 109, 3) := by decide +kernel
theorem dX6_measure_50 : decode cX6_measure 50 = .ok (.checkcast 97, 3) := by decide +kernel
theorem dX6_measure_53 : decode cX6_measure 53 = .ok (.astore_n 3, 1) := by decide +kernel
theorem dX6_measure_54 : decode cX6_measure 54 = .ok (.aload_n 3, 1) := by decide +kernel
theorem dX6_measure_55 : decode cX6_measure 55 = .ok (.iload_n 2, 1) := by decide +kernel
theorem dX6_measure_56 : decode cX6_measure 56 = .ok (.invokevirtual 113, 3) := by decide +kernel
theorem dX6_measure_59 : decode cX6_measure 59 = .ok (.aload_n 0, 1) := by decide +kernel
theorem dX6_measure_60 : decode cX6_measure 60 = .ok (.invokevirtual 117, 3) := by decide +kernel
theorem dX6_measure_63 : decode cX6_measure 63 = .ok (.aload_n 3, 1) := by decide +kernel
theorem dX6_measure_64 : decode cX6_measure 64 = .ok (.getfield 120, 3) := by decide +kernel
theorem dX6_measure_67 : decode cX6_measure 67 = .ok (.ireturn, 1) := by decide +kernel
theorem dX6_ofMachine_0 : decode cX6_ofMachine 0 = .ok (.iload_n 1, 1) := by decide +kernel
theorem dX6_ofMachine_1 : decode cX6_ofMachine 1 = .ok (.ifCond .lt 14, 3) := by decide +kernel
theorem dX6_ofMachine_4 : decode cX6_ofMachine 4 = .ok (.iload_n 1, 1) := by decide +kernel
theorem dX6_ofMachine_5 : decode cX6_ofMachine 5 = .ok (.aload_n 0, 1) := by decide +kernel
theorem dX6_ofMachine_6 : decode cX6_ofMachine 6 = .ok (.getfield 10, 3) := by decide +kernel
theorem dX6_ofMachine_9 : decode cX6_ofMachine 9 = .ok (.invokevirtual 88, 3) := by decide +kernel
theorem dX6_ofMachine_12 : decode cX6_ofMachine 12 = .ok (.if_icmp .lt 13, 3) := by decide +kernel
theorem dX6_ofMachine_15 : decode cX6_ofMachine 15 = .ok (.new 102, 3) := by decide +kernel
theorem dX6_ofMachine_18 : decode cX6_ofMachine 18 = .ok (.dup, 1) := by decide +kernel
theorem dX6_ofMachine_19 : decode cX6_ofMachine 19 = .ok (.ldc 104, 2) := by decide +kernel
theorem dX6_ofMachine_21 : decode cX6_ofMachine 21 = .ok (.invokespecial 106, 3) := by decide +kernel
theorem dX6_ofMachine_24 : decode cX6_ofMachine 24 = .ok (.athrow, 1) := by decide +kernel
theorem dX6_ofMachine_25 : decode cX6_ofMachine 25 = .ok (.iload_n 2, 1) := by decide +kernel
theorem dX6_ofMachine_26 : decode cX6_ofMachine 26 = .ok (.iconst 0, 1) := by decide +kernel
theorem dX6_ofMachine_27 : decode cX6_ofMachine 27 = .ok (.iconst 4, 1) := by decide +kernel
theorem dX6_ofMachine_28 : decode cX6_ofMachine 28 = .ok (.invokestatic 73, 3) := by decide +kernel
theorem dX6_ofMachine_31 : decode cX6_ofMachine 31 = .ok (.ifCond .eq 13, 3) := by decide +kernel
theorem dX6_ofMachine_34 : decode cX6_ofMachine 34 = .ok (.new 81, 3) := by decide +kernel
theorem dX6_ofMachine_37 : decode cX6_ofMachine 37 = .ok (.dup, 1) := by decide +kernel
theorem dX6_ofMachine_38 : decode cX6_ofMachine 38 = .ok (.ldc 124, 2) := by decide +kernel
theorem dX6_ofMachine_40 : decode cX6_ofMachine 40 = .ok (.invokespecial 85, 3) := by decide +kernel
theorem dX6_ofMachine_43 : decode cX6_ofMachine 43 = .ok (.athrow, 1) := by decide +kernel
theorem dX6_ofMachine_44 : decode cX6_ofMachine 44 = .ok (.aload_n 0, 1) := by decide +kernel
theorem dX6_ofMachine_45 : decode cX6_ofMachine 45 = .ok (.aload_n 0, 1) := by decide +kernel
theorem dX6_ofMachine_46 : decode cX6_ofMachine 46 = .ok (.getfield 10, 3) := by decide +kernel
theorem dX6_ofMachine_49 : decode cX6_ofMachine 49 = .ok (.iload_n 1, 1) := by decide +kernel
theorem dX6_ofMachine_50 : decode cX6_ofMachine 50 = .ok (.invokevirtual 109, 3) := by decide +kernel
theorem dX6_ofMachine_53 : decode cX6_ofMachine 53 = .ok (.checkcast 97, 3) := by decide +kernel
theorem dX6_ofMachine_56 : decode cX6_ofMachine 56 = .ok (.iload_n 2, 1) := by decide +kernel
theorem dX6_ofMachine_57 : decode cX6_ofMachine 57 = .ok (.invokevirtual 126, 3) := by decide +kernel
theorem dX6_ofMachine_60 : decode cX6_ofMachine 60 = .ok (.ireturn, 1) := by decide +kernel
theorem dX6_changes_0 : decode cX6_changes 0 = .ok (.iload_n 1, 1) := by decide +kernel
theorem dX6_changes_1 : decode cX6_changes 1 = .ok (.iconst 1, 1) := by decide +kernel
theorem dX6_changes_2 : decode cX6_changes 2 = .ok (.bipush 39, 2) := by decide +kernel
theorem dX6_changes_4 : decode cX6_changes 4 = .ok (.invokestatic 73, 3) := by decide +kernel
theorem dX6_changes_7 : decode cX6_changes 7 = .ok (.ifCond .eq 13, 3) := by decide +kernel
theorem dX6_changes_10 : decode cX6_changes 10 = .ok (.new 81, 3) := by decide +kernel
theorem dX6_changes_13 : decode cX6_changes 13 = .ok (.dup, 1) := by decide +kernel
theorem dX6_changes_14 : decode cX6_changes 14 = .ok (.ldc 130, 2) := by decide +kernel
theorem dX6_changes_16 : decode cX6_changes 16 = .ok (.invokespecial 85, 3) := by decide +kernel
theorem dX6_changes_19 : decode cX6_changes 19 = .ok (.athrow, 1) := by decide +kernel
theorem dX6_changes_20 : decode cX6_changes 20 = .ok (.aload_n 0, 1) := by decide +kernel
theorem dX6_changes_21 : decode cX6_changes 21 = .ok (.getfield 16, 3) := by decide +kernel
theorem dX6_changes_24 : decode cX6_changes 24 = .ok (.invokevirtual 88, 3) := by decide +kernel
theorem dX6_changes_27 : decode cX6_changes 27 = .ok (.iload_n 1, 1) := by decide +kernel
theorem dX6_changes_28 : decode cX6_changes 28 = .ok (.iadd, 1) := by decide +kernel
theorem dX6_changes_29 : decode cX6_changes 29 = .ok (.bipush 40, 2) := by decide +kernel
theorem dX6_changes_31 : decode cX6_changes 31 = .ok (.if_icmp .le 13, 3) := by decide +kernel
theorem dX6_changes_34 : decode cX6_changes 34 = .ok (.new 92, 3) := by decide +kernel
theorem dX6_changes_37 : decode cX6_changes 37 = .ok (.dup, 1) := by decide +kernel
theorem dX6_changes_38 : decode cX6_changes 38 = .ok (.ldc 132, 2) := by decide +kernel
theorem dX6_changes_40 : decode cX6_changes 40 = .ok (.invokespecial 96, 3) := by decide +kernel
theorem dX6_changes_43 : decode cX6_changes 43 = .ok (.athrow, 1) := by decide +kernel
theorem dX6_changes_44 : decode cX6_changes 44 = .ok (.iconst 0, 1) := by decide +kernel
theorem dX6_changes_45 : decode cX6_changes 45 = .ok (.istore_n 2, 1) := by decide +kernel
theorem dX6_changes_46 : decode cX6_changes 46 = .ok (.iload_n 2, 1) := by decide +kernel
theorem dX6_changes_47 : decode cX6_changes 47 = .ok (.iload_n 1, 1) := by decide +kernel
theorem dX6_changes_48 : decode cX6_changes 48 = .ok (.if_icmp .ge 24, 3) := by decide +kernel
theorem dX6_changes_51 : decode cX6_changes 51 = .ok (.aload_n 0, 1) := by decide +kernel
theorem dX6_changes_52 : decode cX6_changes 52 = .ok (.getfield 16, 3) := by decide +kernel
theorem dX6_changes_55 : decode cX6_changes 55 = .ok (.new 22, 3) := by decide +kernel
theorem dX6_changes_58 : decode cX6_changes 58 = .ok (.dup, 1) := by decide +kernel
theorem dX6_changes_59 : decode cX6_changes 59 = .ok (.invokespecial 24, 3) := by decide +kernel
theorem dX6_changes_62 : decode cX6_changes 62 = .ok (.invokevirtual 69, 3) := by decide +kernel
theorem dX6_changes_65 : decode cX6_changes 65 = .ok (.pop, 1) := by decide +kernel
theorem dX6_changes_66 : decode cX6_changes 66 = .ok (.iinc 2 1, 3) := by decide +kernel
theorem dX6_changes_69 : decode cX6_changes 69 = .ok (.goto (-23), 3) := by decide +kernel
theorem dX6_changes_72 : decode cX6_changes 72 = .ok (.aload_n 0, 1) := by decide +kernel
theorem dX6_changes_73 : decode cX6_changes 73 = .ok (.getfield 16, 3) := by decide +kernel
theorem dX6_changes_76 : decode cX6_changes 76 = .ok (.invokevirtual 88, 3) := by decide +kernel
theorem dX6_changes_79 : decode cX6_changes 79 = .ok (.ireturn, 1) := by decide +kernel
theorem dX6_run_0 : decode cX6_run 0 = .ok (.aload_n 0, 1) := by decide +kernel
theorem dX6_run_1 : decode cX6_run 1 = .ok (.iload_n 1, 1) := by decide +kernel
theorem dX6_run_2 : decode cX6_run 2 = .ok (.invokevirtual 134, 3) := by decide +kernel
theorem dX6_run_5 : decode cX6_run 5 = .ok (.ifCond .ne 18, 3) := by decide +kernel
theorem dX6_run_8 : decode cX6_run 8 = .ok (.iload_n 2, 1) := by decide +kernel
theorem dX6_run_9 : decode cX6_run 9 = .ok (.ifCond .lt 14, 3) := by decide +kernel
theorem dX6_run_12 : decode cX6_run 12 = .ok (.iload_n 2, 1) := by decide +kernel
theorem dX6_run_13 : decode cX6_run 13 = .ok (.aload_n 0, 1) := by decide +kernel
theorem dX6_run_14 : decode cX6_run 14 = .ok (.getfield 10, 3) := by decide +kernel
theorem dX6_run_17 : decode cX6_run 17 = .ok (.invokevirtual 88, 3) := by decide +kernel
theorem dX6_run_20 : decode cX6_run 20 = .ok (.if_icmp .lt 13, 3) := by decide +kernel
theorem dX6_run_23 : decode cX6_run 23 = .ok (.new 102, 3) := by decide +kernel
theorem dX6_run_26 : decode cX6_run 26 = .ok (.dup, 1) := by decide +kernel
theorem dX6_run_27 : decode cX6_run 27 = .ok (.ldc 137, 2) := by decide +kernel
theorem dX6_run_29 : decode cX6_run 29 = .ok (.invokespecial 106, 3) := by decide +kernel
theorem dX6_run_32 : decode cX6_run 32 = .ok (.athrow, 1) := by decide +kernel
theorem dX6_run_33 : decode cX6_run 33 = .ok (.iload_n 3, 1) := by decide +kernel
theorem dX6_run_34 : decode cX6_run 34 = .ok (.iconst 1, 1) := by decide +kernel
theorem dX6_run_35 : decode cX6_run 35 = .ok (.sipush 9999, 3) := by decide +kernel
theorem dX6_run_38 : decode cX6_run 38 = .ok (.invokestatic 73, 3) := by decide +kernel
theorem dX6_run_41 : decode cX6_run 41 = .ok (.ifCond .eq 13, 3) := by decide +kernel
theorem dX6_run_44 : decode cX6_run 44 = .ok (.new 81, 3) := by decide +kernel
theorem dX6_run_47 : decode cX6_run 47 = .ok (.dup, 1) := by decide +kernel
theorem dX6_run_48 : decode cX6_run 48 = .ok (.ldc 139, 2) := by decide +kernel
theorem dX6_run_50 : decode cX6_run 50 = .ok (.invokespecial 85, 3) := by decide +kernel
theorem dX6_run_53 : decode cX6_run 53 = .ok (.athrow, 1) := by decide +kernel
theorem dX6_run_54 : decode cX6_run 54 = .ok (.aload_n 0, 1) := by decide +kernel
theorem dX6_run_55 : decode cX6_run 55 = .ok (.getfield 10, 3) := by decide +kernel
theorem dX6_run_58 : decode cX6_run 58 = .ok (.iload_n 2, 1) := by decide +kernel
theorem dX6_run_59 : decode cX6_run 59 = .ok (.invokevirtual 109, 3) := by decide +kernel
theorem dX6_run_62 : decode cX6_run 62 = .ok (.checkcast 97, 3) := by decide +kernel
theorem dX6_run_65 : decode cX6_run 65 = .ok (.astore 4, 2) := by decide +kernel
theorem dX6_run_67 : decode cX6_run 67 = .ok (.aload 4, 2) := by decide +kernel
theorem dX6_run_69 : decode cX6_run 69 = .ok (.getfield 120, 3) := by decide +kernel
theorem dX6_run_72 : decode cX6_run 72 = .ok (.ifCond .ne 27, 3) := by decide +kernel
theorem dX6_run_75 : decode cX6_run 75 = .ok (.aload_n 0, 1) := by decide +kernel
theorem dX6_run_76 : decode cX6_run 76 = .ok (.getfield 19, 3) := by decide +kernel
theorem dX6_run_79 : decode cX6_run 79 = .ok (.invokevirtual 88, 3) := by decide +kernel
theorem dX6_run_82 : decode cX6_run 82 = .ok (.bipush 80, 2) := by decide +kernel
theorem dX6_run_84 : decode cX6_run 84 = .ok (.if_icmp .ge 15, 3) := by decide +kernel
theorem dX6_run_87 : decode cX6_run 87 = .ok (.aload_n 0, 1) := by decide +kernel
theorem dX6_run_88 : decode cX6_run 88 = .ok (.getfield 57, 3) := by decide +kernel
theorem dX6_run_91 : decode cX6_run 91 = .ok (.aload 4, 2) := by decide +kernel
theorem dX6_run_93 : decode cX6_run 93 = .ok (.getfield 141, 3) := by decide +kernel
theorem dX6_run_96 : decode cX6_run 96 = .ok (.if_icmp .ge 13, 3) := by decide +kernel
theorem dX6_run_99 : decode cX6_run 99 = .ok (.new 92, 3) := by decide +kernel
theorem dX6_run_102 : decode cX6_run 102 = .ok (.dup, 1) := by decide +kernel
theorem dX6_run_103 : decode cX6_run 103 = .ok (.ldc 144, 2) := by decide +kernel
theorem dX6_run_105 : decode cX6_run 105 = .ok (.invokespecial 96, 3) := by decide +kernel
theorem dX6_run_108 : decode cX6_run 108 = .ok (.athrow, 1) := by decide +kernel
theorem dX6_run_109 : decode cX6_run 109 = .ok (.new 146, 3) := by decide +kernel
theorem dX6_run_112 : decode cX6_run 112 = .ok (.dup, 1) := by decide +kernel
theorem dX6_run_113 : decode cX6_run 113 = .ok (.iload_n 1, 1) := by decide +kernel
theorem dX6_run_114 : decode cX6_run 114 = .ok (.aload 4, 2) := by decide +kernel
theorem dX6_run_116 : decode cX6_run 116 = .ok (.iload_n 3, 1) := by decide +kernel
theorem dX6_run_117 : decode cX6_run 117 = .ok (.invokespecial 148, 3) := by decide +kernel
theorem dX6_run_120 : decode cX6_run 120 = .ok (.astore 5, 2) := by decide +kernel
theorem dX6_run_122 : decode cX6_run 122 = .ok (.aload_n 0, 1) := by decide +kernel
theorem dX6_run_123 : decode cX6_run 123 = .ok (.getfield 19, 3) := by decide +kernel
theorem dX6_run_126 : decode cX6_run 126 = .ok (.aload 5, 2) := by decide +kernel
theorem dX6_run_128 : decode cX6_run 128 = .ok (.invokevirtual 69, 3) := by decide +kernel
theorem dX6_run_131 : decode cX6_run 131 = .ok (.pop, 1) := by decide +kernel
theorem dX6_run_132 : decode cX6_run 132 = .ok (.aload_n 0, 1) := by decide +kernel
theorem dX6_run_133 : decode cX6_run 133 = .ok (.iload_n 1, 1) := by decide +kernel
theorem dX6_run_134 : decode cX6_run 134 = .ok (.invokevirtual 151, 3) := by decide +kernel
theorem dX6_run_137 : decode cX6_run 137 = .ok (.getfield 155, 3) := by decide +kernel
theorem dX6_run_140 : decode cX6_run 140 = .ok (.aload 5, 2) := by decide +kernel
theorem dX6_run_142 : decode cX6_run 142 = .ok (.invokevirtual 69, 3) := by decide +kernel
theorem dX6_run_145 : decode cX6_run 145 = .ok (.pop, 1) := by decide +kernel
theorem dX6_run_146 : decode cX6_run 146 = .ok (.aload 4, 2) := by decide +kernel
theorem dX6_run_148 : decode cX6_run 148 = .ok (.dup, 1) := by decide +kernel
theorem dX6_run_149 : decode cX6_run 149 = .ok (.getfield 156, 3) := by decide +kernel
theorem dX6_run_152 : decode cX6_run 152 = .ok (.iconst 1, 1) := by decide +kernel
theorem dX6_run_153 : decode cX6_run 153 = .ok (.iadd, 1) := by decide +kernel
theorem dX6_run_154 : decode cX6_run 154 = .ok (.putfield 156, 3) := by decide +kernel
theorem dX6_run_157 : decode cX6_run 157 = .ok (.aload_n 0, 1) := by decide +kernel
theorem dX6_run_158 : decode cX6_run 158 = .ok (.dup, 1) := by decide +kernel
theorem dX6_run_159 : decode cX6_run 159 = .ok (.getfield 57, 3) := by decide +kernel
theorem dX6_run_162 : decode cX6_run 162 = .ok (.aload 4, 2) := by decide +kernel
theorem dX6_run_164 : decode cX6_run 164 = .ok (.getfield 141, 3) := by decide +kernel
theorem dX6_run_167 : decode cX6_run 167 = .ok (.isub, 1) := by decide +kernel
theorem dX6_run_168 : decode cX6_run 168 = .ok (.putfield 57, 3) := by decide +kernel
theorem dX6_run_171 : decode cX6_run 171 = .ok (.aload_n 0, 1) := by decide +kernel
theorem dX6_run_172 : decode cX6_run 172 = .ok (.invokevirtual 117, 3) := by decide +kernel
theorem dX6_run_175 : decode cX6_run 175 = .ok (.aload 5, 2) := by decide +kernel
theorem dX6_run_177 : decode cX6_run 177 = .ok (.getfield 158, 3) := by decide +kernel
theorem dX6_run_180 : decode cX6_run 180 = .ok (.ireturn, 1) := by decide +kernel
theorem dX6_strike_0 : decode cX6_strike 0 = .ok (.iload_n 1, 1) := by decide +kernel
theorem dX6_strike_1 : decode cX6_strike 1 = .ok (.ifCond .lt 14, 3) := by decide +kernel
theorem dX6_strike_4 : decode cX6_strike 4 = .ok (.iload_n 1, 1) := by decide +kernel
theorem dX6_strike_5 : decode cX6_strike 5 = .ok (.aload_n 0, 1) := by decide +kernel
theorem dX6_strike_6 : decode cX6_strike 6 = .ok (.getfield 19, 3) := by decide +kernel
theorem dX6_strike_9 : decode cX6_strike 9 = .ok (.invokevirtual 88, 3) := by decide +kernel
theorem dX6_strike_12 : decode cX6_strike 12 = .ok (.if_icmp .lt 13, 3) := by decide +kernel
theorem dX6_strike_15 : decode cX6_strike 15 = .ok (.new 102, 3) := by decide +kernel
theorem dX6_strike_18 : decode cX6_strike 18 = .ok (.dup, 1) := by decide +kernel
theorem dX6_strike_19 : decode cX6_strike 19 = .ok (.ldc 161, 2) := by decide +kernel
theorem dX6_strike_21 : decode cX6_strike 21 = .ok (.invokespecial 106, 3) := by decide +kernel
theorem dX6_strike_24 : decode cX6_strike 24 = .ok (.athrow, 1) := by decide +kernel
theorem dX6_strike_25 : decode cX6_strike 25 = .ok (.aload_n 0, 1) := by decide +kernel
theorem dX6_strike_26 : decode cX6_strike 26 = .ok (.getfield 19, 3) := by decide +kernel
theorem dX6_strike_29 : decode cX6_strike 29 = .ok (.iload_n 1, 1) := by decide +kernel
theorem dX6_strike_30 : decode cX6_strike 30 = .ok (.invokevirtual 109, 3) := by decide +kernel
theorem dX6_strike_33 : decode cX6_strike 33 = .ok (.checkcast 146, 3) := by decide +kernel
theorem dX6_strike_36 : decode cX6_strike 36 = .ok (.astore_n 2, 1) := by decide +kernel
theorem dX6_strike_37 : decode cX6_strike 37 = .ok (.aload_n 2, 1) := by decide +kernel
theorem dX6_strike_38 : decode cX6_strike 38 = .ok (.getfield 163, 3) := by decide +kernel
theorem dX6_strike_41 : decode cX6_strike 41 = .ok (.ifCond .eq 13, 3) := by decide +kernel
theorem dX6_strike_44 : decode cX6_strike 44 = .ok (.new 92, 3) := by decide +kernel
theorem dX6_strike_47 : decode cX6_strike 47 = .ok (.dup, 1) := by decide +kernel
theorem dX6_strike_48 : decode cX6_strike 48 = .ok (.ldc 166, 2) := by decide +kernel
theorem dX6_strike_50 : decode cX6_strike 50 = .ok (.invokespecial 96, 3) := by decide +kernel
theorem dX6_strike_53 : decode cX6_strike 53 = .ok (.athrow, 1) := by decide +kernel
theorem dX6_strike_54 : decode cX6_strike 54 = .ok (.aload_n 2, 1) := by decide +kernel
theorem dX6_strike_55 : decode cX6_strike 55 = .ok (.iconst 1, 1) := by decide +kernel
theorem dX6_strike_56 : decode cX6_strike 56 = .ok (.putfield 163, 3) := by decide +kernel
theorem dX6_strike_59 : decode cX6_strike 59 = .ok (.aload_n 0, 1) := by decide +kernel
theorem dX6_strike_60 : decode cX6_strike 60 = .ok (.invokevirtual 117, 3) := by decide +kernel
theorem dX6_strike_63 : decode cX6_strike 63 = .ok (.aload_n 2, 1) := by decide +kernel
theorem dX6_strike_64 : decode cX6_strike 64 = .ok (.getfield 158, 3) := by decide +kernel
theorem dX6_strike_67 : decode cX6_strike 67 = .ok (.ireturn, 1) := by decide +kernel
theorem dX6_ofRun_0 : decode cX6_ofRun 0 = .ok (.iload_n 1, 1) := by decide +kernel
theorem dX6_ofRun_1 : decode cX6_ofRun 1 = .ok (.ifCond .lt 14, 3) := by decide +kernel
theorem dX6_ofRun_4 : decode cX6_ofRun 4 = .ok (.iload_n 1, 1) := by decide +kernel
theorem dX6_ofRun_5 : decode cX6_ofRun 5 = .ok (.aload_n 0, 1) := by decide +kernel
theorem dX6_ofRun_6 : decode cX6_ofRun 6 = .ok (.getfield 19, 3) := by decide +kernel
theorem dX6_ofRun_9 : decode cX6_ofRun 9 = .ok (.invokevirtual 88, 3) := by decide +kernel
theorem dX6_ofRun_12 : decode cX6_ofRun 12 = .ok (.if_icmp .lt 13, 3) := by decide +kernel
theorem dX6_ofRun_15 : decode cX6_ofRun 15 = .ok (.new 102, 3) := by decide +kernel
theorem dX6_ofRun_18 : decode cX6_ofRun 18 = .ok (.dup, 1) := by decide +kernel
theorem dX6_ofRun_19 : decode cX6_ofRun 19 = .ok (.ldc 161, 2) := by decide +kernel
theorem dX6_ofRun_21 : decode cX6_ofRun 21 = .ok (.invokespecial 106, 3) := by decide +kernel
theorem dX6_ofRun_24 : decode cX6_ofRun 24 = .ok (.athrow, 1) := by decide +kernel
theorem dX6_ofRun_25 : decode cX6_ofRun 25 = .ok (.iload_n 2, 1) := by decide +kernel
theorem dX6_ofRun_26 : decode cX6_ofRun 26 = .ok (.iconst 0, 1) := by decide +kernel
theorem dX6_ofRun_27 : decode cX6_ofRun 27 = .ok (.iconst 5, 1) := by decide +kernel
theorem dX6_ofRun_28 : decode cX6_ofRun 28 = .ok (.invokestatic 73, 3) := by decide +kernel
theorem dX6_ofRun_31 : decode cX6_ofRun 31 = .ok (.ifCond .eq 13, 3) := by decide +kernel
theorem dX6_ofRun_34 : decode cX6_ofRun 34 = .ok (.new 81, 3) := by decide +kernel
theorem dX6_ofRun_37 : decode cX6_ofRun 37 = .ok (.dup, 1) := by decide +kernel
theorem dX6_ofRun_38 : decode cX6_ofRun 38 = .ok (.ldc 124, 2) := by decide +kernel
theorem dX6_ofRun_40 : decode cX6_ofRun 40 = .ok (.invokespecial 85, 3) := by decide +kernel
theorem dX6_ofRun_43 : decode cX6_ofRun 43 = .ok (.athrow, 1) := by decide +kernel
theorem dX6_ofRun_44 : decode cX6_ofRun 44 = .ok (.aload_n 0, 1) := by decide +kernel
theorem dX6_ofRun_45 : decode cX6_ofRun 45 = .ok (.aload_n 0, 1) := by decide +kernel
theorem dX6_ofRun_46 : decode cX6_ofRun 46 = .ok (.getfield 19, 3) := by decide +kernel
theorem dX6_ofRun_49 : decode cX6_ofRun 49 = .ok (.iload_n 1, 1) := by decide +kernel
theorem dX6_ofRun_50 : decode cX6_ofRun 50 = .ok (.invokevirtual 109, 3) := by decide +kernel
theorem dX6_ofRun_53 : decode cX6_ofRun 53 = .ok (.checkcast 146, 3) := by decide +kernel
theorem dX6_ofRun_56 : decode cX6_ofRun 56 = .ok (.iload_n 2, 1) := by decide +kernel
theorem dX6_ofRun_57 : decode cX6_ofRun 57 = .ok (.invokevirtual 168, 3) := by decide +kernel
theorem dX6_ofRun_60 : decode cX6_ofRun 60 = .ok (.ireturn, 1) := by decide +kernel
theorem dX6_ofChange_0 : decode cX6_ofChange 0 = .ok (.aload_n 0, 1) := by decide +kernel
theorem dX6_ofChange_1 : decode cX6_ofChange 1 = .ok (.iload_n 1, 1) := by decide +kernel
theorem dX6_ofChange_2 : decode cX6_ofChange 2 = .ok (.invokevirtual 134, 3) := by decide +kernel
theorem dX6_ofChange_5 : decode cX6_ofChange 5 = .ok (.ifCond .eq 13, 3) := by decide +kernel
theorem dX6_ofChange_8 : decode cX6_ofChange 8 = .ok (.new 102, 3) := by decide +kernel
theorem dX6_ofChange_11 : decode cX6_ofChange 11 = .ok (.dup, 1) := by decide +kernel
theorem dX6_ofChange_12 : decode cX6_ofChange 12 = .ok (.ldc 172, 2) := by decide +kernel
theorem dX6_ofChange_14 : decode cX6_ofChange 14 = .ok (.invokespecial 106, 3) := by decide +kernel
theorem dX6_ofChange_17 : decode cX6_ofChange 17 = .ok (.athrow, 1) := by decide +kernel
theorem dX6_ofChange_18 : decode cX6_ofChange 18 = .ok (.iload_n 2, 1) := by decide +kernel
theorem dX6_ofChange_19 : decode cX6_ofChange 19 = .ok (.iconst 0, 1) := by decide +kernel
theorem dX6_ofChange_20 : decode cX6_ofChange 20 = .ok (.iconst 5, 1) := by decide +kernel
theorem dX6_ofChange_21 : decode cX6_ofChange 21 = .ok (.invokestatic 73, 3) := by decide +kernel
theorem dX6_ofChange_24 : decode cX6_ofChange 24 = .ok (.ifCond .eq 13, 3) := by decide +kernel
theorem dX6_ofChange_27 : decode cX6_ofChange 27 = .ok (.new 81, 3) := by decide +kernel
theorem dX6_ofChange_30 : decode cX6_ofChange 30 = .ok (.dup, 1) := by decide +kernel
theorem dX6_ofChange_31 : decode cX6_ofChange 31 = .ok (.ldc 124, 2) := by decide +kernel
theorem dX6_ofChange_33 : decode cX6_ofChange 33 = .ok (.invokespecial 85, 3) := by decide +kernel
theorem dX6_ofChange_36 : decode cX6_ofChange 36 = .ok (.athrow, 1) := by decide +kernel
theorem dX6_ofChange_37 : decode cX6_ofChange 37 = .ok (.aload_n 0, 1) := by decide +kernel
theorem dX6_ofChange_38 : decode cX6_ofChange 38 = .ok (.aload_n 0, 1) := by decide +kernel
theorem dX6_ofChange_39 : decode cX6_ofChange 39 = .ok (.iload_n 1, 1) := by decide +kernel
theorem dX6_ofChange_40 : decode cX6_ofChange 40 = .ok (.invokevirtual 151, 3) := by decide +kernel
theorem dX6_ofChange_43 : decode cX6_ofChange 43 = .ok (.iload_n 2, 1) := by decide +kernel
theorem dX6_ofChange_44 : decode cX6_ofChange 44 = .ok (.invokevirtual 174, 3) := by decide +kernel
theorem dX6_ofChange_47 : decode cX6_ofChange 47 = .ok (.ireturn, 1) := by decide +kernel
theorem dX6_verdict_0 : decode cX6_verdict 0 = .ok (.aload_n 0, 1) := by decide +kernel
theorem dX6_verdict_1 : decode cX6_verdict 1 = .ok (.iload_n 1, 1) := by decide +kernel
theorem dX6_verdict_2 : decode cX6_verdict 2 = .ok (.invokevirtual 134, 3) := by decide +kernel
theorem dX6_verdict_5 : decode cX6_verdict 5 = .ok (.ifCond .ne 11, 3) := by decide +kernel
theorem dX6_verdict_8 : decode cX6_verdict 8 = .ok (.aload_n 0, 1) := by decide +kernel
theorem dX6_verdict_9 : decode cX6_verdict 9 = .ok (.iload_n 2, 1) := by decide +kernel
theorem dX6_verdict_10 : decode cX6_verdict 10 = .ok (.invokevirtual 134, 3) := by decide +kernel
theorem dX6_verdict_13 : decode cX6_verdict 13 = .ok (.ifCond .eq 13, 3) := by decide +kernel
theorem dX6_verdict_16 : decode cX6_verdict 16 = .ok (.new 102, 3) := by decide +kernel
theorem dX6_verdict_19 : decode cX6_verdict 19 = .ok (.dup, 1) := by decide +kernel
theorem dX6_verdict_20 : decode cX6_verdict 20 = .ok (.ldc 172, 2) := by decide +kernel
theorem dX6_verdict_22 : decode cX6_verdict 22 = .ok (.invokespecial 106, 3) := by decide +kernel
theorem dX6_verdict_25 : decode cX6_verdict 25 = .ok (.athrow, 1) := by decide +kernel
theorem dX6_verdict_26 : decode cX6_verdict 26 = .ok (.iload_n 3, 1) := by decide +kernel
theorem dX6_verdict_27 : decode cX6_verdict 27 = .ok (.iconst 0, 1) := by decide +kernel
theorem dX6_verdict_28 : decode cX6_verdict 28 = .ok (.iconst 4, 1) := by decide +kernel
theorem dX6_verdict_29 : decode cX6_verdict 29 = .ok (.invokestatic 73, 3) := by decide +kernel
theorem dX6_verdict_32 : decode cX6_verdict 32 = .ok (.ifCond .eq 13, 3) := by decide +kernel
theorem dX6_verdict_35 : decode cX6_verdict 35 = .ok (.new 81, 3) := by decide +kernel
theorem dX6_verdict_38 : decode cX6_verdict 38 = .ok (.dup, 1) := by decide +kernel
theorem dX6_verdict_39 : decode cX6_verdict 39 = .ok (.ldc 124, 2) := by decide +kernel
theorem dX6_verdict_41 : decode cX6_verdict 41 = .ok (.invokespecial 85, 3) := by decide +kernel
theorem dX6_verdict_44 : decode cX6_verdict 44 = .ok (.athrow, 1) := by decide +kernel
theorem dX6_verdict_45 : decode cX6_verdict 45 = .ok (.aload_n 0, 1) := by decide +kernel
theorem dX6_verdict_46 : decode cX6_verdict 46 = .ok (.iload_n 1, 1) := by decide +kernel
theorem dX6_verdict_47 : decode cX6_verdict 47 = .ok (.iload_n 2, 1) := by decide +kernel
theorem dX6_verdict_48 : decode cX6_verdict 48 = .ok (.invokevirtual 178, 3) := by decide +kernel
theorem dX6_verdict_51 : decode cX6_verdict 51 = .ok (.aload_n 0, 1) := by decide +kernel
theorem dX6_verdict_52 : decode cX6_verdict 52 = .ok (.iload_n 3, 1) := by decide +kernel
theorem dX6_verdict_53 : decode cX6_verdict 53 = .ok (.invokevirtual 182, 3) := by decide +kernel
theorem dX6_verdict_56 : decode cX6_verdict 56 = .ok (.ireturn, 1) := by decide +kernel
theorem dX6_doubt_0 : decode cX6_doubt 0 = .ok (.aload_n 0, 1) := by decide +kernel
theorem dX6_doubt_1 : decode cX6_doubt 1 = .ok (.iload_n 1, 1) := by decide +kernel
theorem dX6_doubt_2 : decode cX6_doubt 2 = .ok (.invokevirtual 134, 3) := by decide +kernel
theorem dX6_doubt_5 : decode cX6_doubt 5 = .ok (.ifCond .ne 11, 3) := by decide +kernel
theorem dX6_doubt_8 : decode cX6_doubt 8 = .ok (.aload_n 0, 1) := by decide +kernel
theorem dX6_doubt_9 : decode cX6_doubt 9 = .ok (.iload_n 2, 1) := by decide +kernel
theorem dX6_doubt_10 : decode cX6_doubt 10 = .ok (.invokevirtual 134, 3) := by decide +kernel
theorem dX6_doubt_13 : decode cX6_doubt 13 = .ok (.ifCond .eq 13, 3) := by decide +kernel
theorem dX6_doubt_16 : decode cX6_doubt 16 = .ok (.new 102, 3) := by decide +kernel
theorem dX6_doubt_19 : decode cX6_doubt 19 = .ok (.dup, 1) := by decide +kernel
theorem dX6_doubt_20 : decode cX6_doubt 20 = .ok (.ldc 172, 2) := by decide +kernel
theorem dX6_doubt_22 : decode cX6_doubt 22 = .ok (.invokespecial 106, 3) := by decide +kernel
theorem dX6_doubt_25 : decode cX6_doubt 25 = .ok (.athrow, 1) := by decide +kernel
theorem dX6_doubt_26 : decode cX6_doubt 26 = .ok (.aload_n 0, 1) := by decide +kernel
theorem dX6_doubt_27 : decode cX6_doubt 27 = .ok (.iload_n 1, 1) := by decide +kernel
theorem dX6_doubt_28 : decode cX6_doubt 28 = .ok (.iload_n 2, 1) := by decide +kernel
theorem dX6_doubt_29 : decode cX6_doubt 29 = .ok (.invokevirtual 178, 3) := by decide +kernel
theorem dX6_doubt_32 : decode cX6_doubt 32 = .ok (.aload_n 0, 1) := by decide +kernel
theorem dX6_doubt_33 : decode cX6_doubt 33 = .ok (.getfield 39, 3) := by decide +kernel
theorem dX6_doubt_36 : decode cX6_doubt 36 = .ok (.invokevirtual 186, 3) := by decide +kernel
theorem dX6_doubt_39 : decode cX6_doubt 39 = .ok (.dreturn, 1) := by decide +kernel
theorem dX6_rule_0 : decode cX6_rule 0 = .ok (.iload_n 1, 1) := by decide +kernel
theorem dX6_rule_1 : decode cX6_rule 1 = .ok (.iconst 2, 1) := by decide +kernel
theorem dX6_rule_2 : decode cX6_rule 2 = .ok (.bipush 6, 2) := by decide +kernel
theorem dX6_rule_4 : decode cX6_rule 4 = .ok (.invokestatic 73, 3) := by decide +kernel
theorem dX6_rule_7 : decode cX6_rule 7 = .ok (.ifCond .ne 14, 3) := by decide +kernel
theorem dX6_rule_10 : decode cX6_rule 10 = .ok (.iload_n 2, 1) := by decide +kernel
theorem dX6_rule_11 : decode cX6_rule 11 = .ok (.iconst 1, 1) := by decide +kernel
theorem dX6_rule_12 : decode cX6_rule 12 = .ok (.sipush 200, 3) := by decide +kernel
theorem dX6_rule_15 : decode cX6_rule 15 = .ok (.invokestatic 73, 3) := by decide +kernel
theorem dX6_rule_18 : decode cX6_rule 18 = .ok (.ifCond .eq 13, 3) := by decide +kernel
theorem dX6_rule_21 : decode cX6_rule 21 = .ok (.new 81, 3) := by decide +kernel
theorem dX6_rule_24 : decode cX6_rule 24 = .ok (.dup, 1) := by decide +kernel
theorem dX6_rule_25 : decode cX6_rule 25 = .ok (.ldc 190, 2) := by decide +kernel
theorem dX6_rule_27 : decode cX6_rule 27 = .ok (.invokespecial 85, 3) := by decide +kernel
theorem dX6_rule_30 : decode cX6_rule 30 = .ok (.athrow, 1) := by decide +kernel
theorem dX6_rule_31 : decode cX6_rule 31 = .ok (.aload_n 0, 1) := by decide +kernel
theorem dX6_rule_32 : decode cX6_rule 32 = .ok (.getfield 54, 3) := by decide +kernel
theorem dX6_rule_35 : decode cX6_rule 35 = .ok (.istore_n 3, 1) := by decide +kernel
theorem dX6_rule_36 : decode cX6_rule 36 = .ok (.aload_n 0, 1) := by decide +kernel
theorem dX6_rule_37 : decode cX6_rule 37 = .ok (.iload_n 1, 1) := by decide +kernel
theorem dX6_rule_38 : decode cX6_rule 38 = .ok (.putfield 50, 3) := by decide +kernel
theorem dX6_rule_41 : decode cX6_rule 41 = .ok (.aload_n 0, 1) := by decide +kernel
theorem dX6_rule_42 : decode cX6_rule 42 = .ok (.iload_n 2, 1) := by decide +kernel
theorem dX6_rule_43 : decode cX6_rule 43 = .ok (.putfield 54, 3) := by decide +kernel
theorem dX6_rule_46 : decode cX6_rule 46 = .ok (.aload_n 0, 1) := by decide +kernel
theorem dX6_rule_47 : decode cX6_rule 47 = .ok (.invokevirtual 117, 3) := by decide +kernel
theorem dX6_rule_50 : decode cX6_rule 50 = .ok (.iload_n 3, 1) := by decide +kernel
theorem dX6_rule_51 : decode cX6_rule 51 = .ok (.ireturn, 1) := by decide +kernel
theorem dX6_begin_0 : decode cX6_begin 0 = .ok (.aload_n 0, 1) := by decide +kernel
theorem dX6_begin_1 : decode cX6_begin 1 = .ok (.iload_n 1, 1) := by decide +kernel
theorem dX6_begin_2 : decode cX6_begin 2 = .ok (.invokevirtual 134, 3) := by decide +kernel
theorem dX6_begin_5 : decode cX6_begin 5 = .ok (.ifCond .ne 11, 3) := by decide +kernel
theorem dX6_begin_8 : decode cX6_begin 8 = .ok (.aload_n 0, 1) := by decide +kernel
theorem dX6_begin_9 : decode cX6_begin 9 = .ok (.iload_n 2, 1) := by decide +kernel
theorem dX6_begin_10 : decode cX6_begin 10 = .ok (.invokevirtual 134, 3) := by decide +kernel
theorem dX6_begin_13 : decode cX6_begin 13 = .ok (.ifCond .eq 13, 3) := by decide +kernel
theorem dX6_begin_16 : decode cX6_begin 16 = .ok (.new 102, 3) := by decide +kernel
theorem dX6_begin_19 : decode cX6_begin 19 = .ok (.dup, 1) := by decide +kernel
theorem dX6_begin_20 : decode cX6_begin 20 = .ok (.ldc 172, 2) := by decide +kernel
theorem dX6_begin_22 : decode cX6_begin 22 = .ok (.invokespecial 106, 3) := by decide +kernel
theorem dX6_begin_25 : decode cX6_begin 25 = .ok (.athrow, 1) := by decide +kernel
theorem dX6_begin_26 : decode cX6_begin 26 = .ok (.iload_n 2, 1) := by decide +kernel
theorem dX6_begin_27 : decode cX6_begin 27 = .ok (.iload_n 1, 1) := by decide +kernel
theorem dX6_begin_28 : decode cX6_begin 28 = .ok (.if_icmp .gt 13, 3) := by decide +kernel
theorem dX6_begin_31 : decode cX6_begin 31 = .ok (.new 81, 3) := by decide +kernel
theorem dX6_begin_34 : decode cX6_begin 34 = .ok (.dup, 1) := by decide +kernel
theorem dX6_begin_35 : decode cX6_begin 35 = .ok (.ldc 192, 2) := by decide +kernel
theorem dX6_begin_37 : decode cX6_begin 37 = .ok (.invokespecial 85, 3) := by decide +kernel
theorem dX6_begin_40 : decode cX6_begin 40 = .ok (.athrow, 1) := by decide +kernel
theorem dX6_begin_41 : decode cX6_begin 41 = .ok (.aload_n 0, 1) := by decide +kernel
theorem dX6_begin_42 : decode cX6_begin 42 = .ok (.getfield 46, 3) := by decide +kernel
theorem dX6_begin_45 : decode cX6_begin 45 = .ok (.getfield 194, 3) := by decide +kernel
theorem dX6_begin_48 : decode cX6_begin 48 = .ok (.ifCond .eq 13, 3) := by decide +kernel
theorem dX6_begin_51 : decode cX6_begin 51 = .ok (.new 92, 3) := by decide +kernel
theorem dX6_begin_54 : decode cX6_begin 54 = .ok (.dup, 1) := by decide +kernel
theorem dX6_begin_55 : decode cX6_begin 55 = .ok (.ldc 197, 2) := by decide +kernel
theorem dX6_begin_57 : decode cX6_begin 57 = .ok (.invokespecial 96, 3) := by decide +kernel
theorem dX6_begin_60 : decode cX6_begin 60 = .ok (.athrow, 1) := by decide +kernel
theorem dX6_begin_61 : decode cX6_begin 61 = .ok (.aload_n 0, 1) := by decide +kernel
theorem dX6_begin_62 : decode cX6_begin 62 = .ok (.getfield 46, 3) := by decide +kernel
theorem dX6_begin_65 : decode cX6_begin 65 = .ok (.iload_n 1, 1) := by decide +kernel
theorem dX6_begin_66 : decode cX6_begin 66 = .ok (.iload_n 2, 1) := by decide +kernel
theorem dX6_begin_67 : decode cX6_begin 67 = .ok (.invokevirtual 199, 3) := by decide +kernel
theorem dX6_begin_70 : decode cX6_begin 70 = .ok (.aload_n 0, 1) := by decide +kernel
theorem dX6_begin_71 : decode cX6_begin 71 = .ok (.invokevirtual 117, 3) := by decide +kernel
theorem dX6_begin_74 : decode cX6_begin 74 = .ok (.aload_n 0, 1) := by decide +kernel
theorem dX6_begin_75 : decode cX6_begin 75 = .ok (.getfield 46, 3) := by decide +kernel
theorem dX6_begin_78 : decode cX6_begin 78 = .ok (.getfield 202, 3) := by decide +kernel
theorem dX6_begin_81 : decode cX6_begin 81 = .ok (.ireturn, 1) := by decide +kernel
theorem dX6_drop_0 : decode cX6_drop 0 = .ok (.aload_n 0, 1) := by decide +kernel
theorem dX6_drop_1 : decode cX6_drop 1 = .ok (.getfield 46, 3) := by decide +kernel
theorem dX6_drop_4 : decode cX6_drop 4 = .ok (.getfield 194, 3) := by decide +kernel
theorem dX6_drop_7 : decode cX6_drop 7 = .ok (.ifCond .ne 13, 3) := by decide +kernel
theorem dX6_drop_10 : decode cX6_drop 10 = .ok (.new 92, 3) := by decide +kernel
theorem dX6_drop_13 : decode cX6_drop 13 = .ok (.dup, 1) := by decide +kernel
theorem dX6_drop_14 : decode cX6_drop 14 = .ok (.ldc 205, 2) := by decide +kernel
theorem dX6_drop_16 : decode cX6_drop 16 = .ok (.invokespecial 96, 3) := by decide +kernel
theorem dX6_drop_19 : decode cX6_drop 19 = .ok (.athrow, 1) := by decide +kernel
theorem dX6_drop_20 : decode cX6_drop 20 = .ok (.aload_n 0, 1) := by decide +kernel
theorem dX6_drop_21 : decode cX6_drop 21 = .ok (.getfield 46, 3) := by decide +kernel
theorem dX6_drop_24 : decode cX6_drop 24 = .ok (.getfield 207, 3) := by decide +kernel
theorem dX6_drop_27 : decode cX6_drop 27 = .ok (.aload_n 0, 1) := by decide +kernel
theorem dX6_drop_28 : decode cX6_drop 28 = .ok (.getfield 46, 3) := by decide +kernel
theorem dX6_drop_31 : decode cX6_drop 31 = .ok (.getfield 210, 3) := by decide +kernel
theorem dX6_drop_34 : decode cX6_drop 34 = .ok (.isub, 1) := by decide +kernel
theorem dX6_drop_35 : decode cX6_drop 35 = .ok (.iconst 1, 1) := by decide +kernel
theorem dX6_drop_36 : decode cX6_drop 36 = .ok (.isub, 1) := by decide +kernel
theorem dX6_drop_37 : decode cX6_drop 37 = .ok (.istore_n 1, 1) := by decide +kernel
theorem dX6_drop_38 : decode cX6_drop 38 = .ok (.aload_n 0, 1) := by decide +kernel
theorem dX6_drop_39 : decode cX6_drop 39 = .ok (.getfield 46, 3) := by decide +kernel
theorem dX6_drop_42 : decode cX6_drop 42 = .ok (.invokevirtual 213, 3) := by decide +kernel
theorem dX6_drop_45 : decode cX6_drop 45 = .ok (.iload_n 1, 1) := by decide +kernel
theorem dX6_drop_46 : decode cX6_drop 46 = .ok (.ireturn, 1) := by decide +kernel
theorem dX6_ofCase_0 : decode cX6_ofCase 0 = .ok (.iload_n 1, 1) := by decide +kernel
theorem dX6_ofCase_1 : decode cX6_ofCase 1 = .ok (.iconst 0, 1) := by decide +kernel
theorem dX6_ofCase_2 : decode cX6_ofCase 2 = .ok (.iconst 3, 1) := by decide +kernel
theorem dX6_ofCase_3 : decode cX6_ofCase 3 = .ok (.invokestatic 73, 3) := by decide +kernel
theorem dX6_ofCase_6 : decode cX6_ofCase 6 = .ok (.ifCond .eq 13, 3) := by decide +kernel
theorem dX6_ofCase_9 : decode cX6_ofCase 9 = .ok (.new 81, 3) := by decide +kernel
theorem dX6_ofCase_12 : decode cX6_ofCase 12 = .ok (.dup, 1) := by decide +kernel
theorem dX6_ofCase_13 : decode cX6_ofCase 13 = .ok (.ldc 124, 2) := by decide +kernel
theorem dX6_ofCase_15 : decode cX6_ofCase 15 = .ok (.invokespecial 85, 3) := by decide +kernel
theorem dX6_ofCase_18 : decode cX6_ofCase 18 = .ok (.athrow, 1) := by decide +kernel
theorem dX6_ofCase_19 : decode cX6_ofCase 19 = .ok (.aload_n 0, 1) := by decide +kernel
theorem dX6_ofCase_20 : decode cX6_ofCase 20 = .ok (.iload_n 1, 1) := by decide +kernel
theorem dX6_ofCase_21 : decode cX6_ofCase 21 = .ok (.invokevirtual 216, 3) := by decide +kernel
theorem dX6_ofCase_24 : decode cX6_ofCase 24 = .ok (.ireturn, 1) := by decide +kernel
theorem dX6_move_0 : decode cX6_move 0 = .ok (.aload_n 0, 1) := by decide +kernel
theorem dX6_move_1 : decode cX6_move 1 = .ok (.getfield 63, 3) := by decide +kernel
theorem dX6_move_4 : decode cX6_move 4 = .ok (.iconst 1, 1) := by decide +kernel
theorem dX6_move_5 : decode cX6_move 5 = .ok (.iadd, 1) := by decide +kernel
theorem dX6_move_6 : decode cX6_move 6 = .ok (.istore_n 1, 1) := by decide +kernel
theorem dX6_move_7 : decode cX6_move 7 = .ok (.iload_n 1, 1) := by decide +kernel
theorem dX6_move_8 : decode cX6_move 8 = .ok (.aload_n 0, 1) := by decide +kernel
theorem dX6_move_9 : decode cX6_move 9 = .ok (.getfield 16, 3) := by decide +kernel
theorem dX6_move_12 : decode cX6_move 12 = .ok (.invokevirtual 88, 3) := by decide +kernel
theorem dX6_move_15 : decode cX6_move 15 = .ok (.if_icmp .ge 38, 3) := by decide +kernel
theorem dX6_move_18 : decode cX6_move 18 = .ok (.aload_n 0, 1) := by decide +kernel
theorem dX6_move_19 : decode cX6_move 19 = .ok (.iload_n 1, 1) := by decide +kernel
theorem dX6_move_20 : decode cX6_move 20 = .ok (.invokevirtual 219, 3) := by decide +kernel
theorem dX6_move_23 : decode cX6_move 23 = .ok (.istore_n 2, 1) := by decide +kernel
theorem dX6_move_24 : decode cX6_move 24 = .ok (.iload_n 2, 1) := by decide +kernel
theorem dX6_move_25 : decode cX6_move 25 = .ok (.iconst (-1), 1) := by decide +kernel
theorem dX6_move_26 : decode cX6_move 26 = .ok (.if_icmp .ne 6, 3) := by decide +kernel
theorem dX6_move_29 : decode cX6_move 29 = .ok (.goto 24, 3) := by decide +kernel
theorem dX6_move_32 : decode cX6_move 32 = .ok (.aload_n 0, 1) := by decide +kernel
theorem dX6_move_33 : decode cX6_move 33 = .ok (.iload_n 1, 1) := by decide +kernel
theorem dX6_move_34 : decode cX6_move 34 = .ok (.putfield 63, 3) := by decide +kernel
theorem dX6_move_37 : decode cX6_move 37 = .ok (.aload_n 0, 1) := by decide +kernel
theorem dX6_move_38 : decode cX6_move 38 = .ok (.dup, 1) := by decide +kernel
theorem dX6_move_39 : decode cX6_move 39 = .ok (.getfield 60, 3) := by decide +kernel
theorem dX6_move_42 : decode cX6_move 42 = .ok (.iload_n 2, 1) := by decide +kernel
theorem dX6_move_43 : decode cX6_move 43 = .ok (.iadd, 1) := by decide +kernel
theorem dX6_move_44 : decode cX6_move 44 = .ok (.putfield 60, 3) := by decide +kernel
theorem dX6_move_47 : decode cX6_move 47 = .ok (.iinc 1 1, 3) := by decide +kernel
theorem dX6_move_50 : decode cX6_move 50 = .ok (.goto (-43), 3) := by decide +kernel
theorem dX6_move_53 : decode cX6_move 53 = .ok (.aload_n 0, 1) := by decide +kernel
theorem dX6_move_54 : decode cX6_move 54 = .ok (.getfield 63, 3) := by decide +kernel
theorem dX6_move_57 : decode cX6_move 57 = .ok (.ireturn, 1) := by decide +kernel
theorem dX6_excuse_0 : decode cX6_excuse 0 = .ok (.aload_n 0, 1) := by decide +kernel
theorem dX6_excuse_1 : decode cX6_excuse 1 = .ok (.iload_n 1, 1) := by decide +kernel
theorem dX6_excuse_2 : decode cX6_excuse 2 = .ok (.invokevirtual 134, 3) := by decide +kernel
theorem dX6_excuse_5 : decode cX6_excuse 5 = .ok (.ifCond .eq 13, 3) := by decide +kernel
theorem dX6_excuse_8 : decode cX6_excuse 8 = .ok (.new 102, 3) := by decide +kernel
theorem dX6_excuse_11 : decode cX6_excuse 11 = .ok (.dup, 1) := by decide +kernel
theorem dX6_excuse_12 : decode cX6_excuse 12 = .ok (.ldc 172, 2) := by decide +kernel
theorem dX6_excuse_14 : decode cX6_excuse 14 = .ok (.invokespecial 106, 3) := by decide +kernel
theorem dX6_excuse_17 : decode cX6_excuse 17 = .ok (.athrow, 1) := by decide +kernel
theorem dX6_excuse_18 : decode cX6_excuse 18 = .ok (.iload_n 2, 1) := by decide +kernel
theorem dX6_excuse_19 : decode cX6_excuse 19 = .ok (.iconst 1, 1) := by decide +kernel
theorem dX6_excuse_20 : decode cX6_excuse 20 = .ok (.bipush 100, 2) := by decide +kernel
theorem dX6_excuse_22 : decode cX6_excuse 22 = .ok (.invokestatic 73, 3) := by decide +kernel
theorem dX6_excuse_25 : decode cX6_excuse 25 = .ok (.ifCond .eq 13, 3) := by decide +kernel
theorem dX6_excuse_28 : decode cX6_excuse 28 = .ok (.new 81, 3) := by decide +kernel
theorem dX6_excuse_31 : decode cX6_excuse 31 = .ok (.dup, 1) := by decide +kernel
theorem dX6_excuse_32 : decode cX6_excuse 32 = .ok (.ldc 222, 2) := by decide +kernel
theorem dX6_excuse_34 : decode cX6_excuse 34 = .ok (.invokespecial 85, 3) := by decide +kernel
theorem dX6_excuse_37 : decode cX6_excuse 37 = .ok (.athrow, 1) := by decide +kernel
theorem dX6_excuse_38 : decode cX6_excuse 38 = .ok (.aload_n 0, 1) := by decide +kernel
theorem dX6_excuse_39 : decode cX6_excuse 39 = .ok (.iload_n 1, 1) := by decide +kernel
theorem dX6_excuse_40 : decode cX6_excuse 40 = .ok (.invokevirtual 151, 3) := by decide +kernel
theorem dX6_excuse_43 : decode cX6_excuse 43 = .ok (.astore_n 3, 1) := by decide +kernel
theorem dX6_excuse_44 : decode cX6_excuse 44 = .ok (.aload_n 3, 1) := by decide +kernel
theorem dX6_excuse_45 : decode cX6_excuse 45 = .ok (.getfield 223, 3) := by decide +kernel
theorem dX6_excuse_48 : decode cX6_excuse 48 = .ok (.ifCond .eq 18, 3) := by decide +kernel
theorem dX6_excuse_51 : decode cX6_excuse 51 = .ok (.aload_n 3, 1) := by decide +kernel
theorem dX6_excuse_52 : decode cX6_excuse 52 = .ok (.getfield 226, 3) := by decide +kernel
theorem dX6_excuse_55 : decode cX6_excuse 55 = .ok (.ifCond .ne 11, 3) := by decide +kernel
theorem dX6_excuse_58 : decode cX6_excuse 58 = .ok (.iload_n 2, 1) := by decide +kernel
theorem dX6_excuse_59 : decode cX6_excuse 59 = .ok (.aload_n 0, 1) := by decide +kernel
theorem dX6_excuse_60 : decode cX6_excuse 60 = .ok (.getfield 60, 3) := by decide +kernel
theorem dX6_excuse_63 : decode cX6_excuse 63 = .ok (.if_icmp .le 13, 3) := by decide +kernel
theorem dX6_excuse_66 : decode cX6_excuse 66 = .ok (.new 92, 3) := by decide +kernel
theorem dX6_excuse_69 : decode cX6_excuse 69 = .ok (.dup, 1) := by decide +kernel
theorem dX6_excuse_70 : decode cX6_excuse 70 = .ok (.ldc 229, 2) := by decide +kernel
theorem dX6_excuse_72 : decode cX6_excuse 72 = .ok (.invokespecial 96, 3) := by decide +kernel
theorem dX6_excuse_75 : decode cX6_excuse 75 = .ok (.athrow, 1) := by decide +kernel
theorem dX6_excuse_76 : decode cX6_excuse 76 = .ok (.aload_n 3, 1) := by decide +kernel
theorem dX6_excuse_77 : decode cX6_excuse 77 = .ok (.iconst 1, 1) := by decide +kernel
theorem dX6_excuse_78 : decode cX6_excuse 78 = .ok (.putfield 226, 3) := by decide +kernel
theorem dX6_excuse_81 : decode cX6_excuse 81 = .ok (.aload_n 0, 1) := by decide +kernel
theorem dX6_excuse_82 : decode cX6_excuse 82 = .ok (.dup, 1) := by decide +kernel
theorem dX6_excuse_83 : decode cX6_excuse 83 = .ok (.getfield 60, 3) := by decide +kernel
theorem dX6_excuse_86 : decode cX6_excuse 86 = .ok (.iload_n 2, 1) := by decide +kernel
theorem dX6_excuse_87 : decode cX6_excuse 87 = .ok (.isub, 1) := by decide +kernel
theorem dX6_excuse_88 : decode cX6_excuse 88 = .ok (.putfield 60, 3) := by decide +kernel
theorem dX6_excuse_91 : decode cX6_excuse 91 = .ok (.aload_n 0, 1) := by decide +kernel
theorem dX6_excuse_92 : decode cX6_excuse 92 = .ok (.getfield 60, 3) := by decide +kernel
theorem dX6_excuse_95 : decode cX6_excuse 95 = .ok (.ireturn, 1) := by decide +kernel
theorem dX6_budget_0 : decode cX6_budget 0 = .ok (.iload_n 1, 1) := by decide +kernel
theorem dX6_budget_1 : decode cX6_budget 1 = .ok (.iconst 1, 1) := by decide +kernel
theorem dX6_budget_2 : decode cX6_budget 2 = .ok (.sipush 5000, 3) := by decide +kernel
theorem dX6_budget_5 : decode cX6_budget 5 = .ok (.invokestatic 73, 3) := by decide +kernel
theorem dX6_budget_8 : decode cX6_budget 8 = .ok (.ifCond .eq 13, 3) := by decide +kernel
theorem dX6_budget_11 : decode cX6_budget 11 = .ok (.new 81, 3) := by decide +kernel
theorem dX6_budget_14 : decode cX6_budget 14 = .ok (.dup, 1) := by decide +kernel
theorem dX6_budget_15 : decode cX6_budget 15 = .ok (.ldc 231, 2) := by decide +kernel
theorem dX6_budget_17 : decode cX6_budget 17 = .ok (.invokespecial 85, 3) := by decide +kernel
theorem dX6_budget_20 : decode cX6_budget 20 = .ok (.athrow, 1) := by decide +kernel
theorem dX6_budget_21 : decode cX6_budget 21 = .ok (.aload_n 0, 1) := by decide +kernel
theorem dX6_budget_22 : decode cX6_budget 22 = .ok (.sipush 5000, 3) := by decide +kernel
theorem dX6_budget_25 : decode cX6_budget 25 = .ok (.aload_n 0, 1) := by decide +kernel
theorem dX6_budget_26 : decode cX6_budget 26 = .ok (.getfield 57, 3) := by decide +kernel
theorem dX6_budget_29 : decode cX6_budget 29 = .ok (.iload_n 1, 1) := by decide +kernel
theorem dX6_budget_30 : decode cX6_budget 30 = .ok (.iadd, 1) := by decide +kernel
theorem dX6_budget_31 : decode cX6_budget 31 = .ok (.invokestatic 233, 3) := by decide +kernel
theorem dX6_budget_34 : decode cX6_budget 34 = .ok (.putfield 57, 3) := by decide +kernel
theorem dX6_budget_37 : decode cX6_budget 37 = .ok (.aload_n 0, 1) := by decide +kernel
theorem dX6_budget_38 : decode cX6_budget 38 = .ok (.getfield 57, 3) := by decide +kernel
theorem dX6_budget_41 : decode cX6_budget 41 = .ok (.ireturn, 1) := by decide +kernel
theorem dX6_many_0 : decode cX6_many 0 = .ok (.iload_n 1, 1) := by decide +kernel
theorem dX6_many_1 : decode cX6_many 1 = .ok (.iconst 0, 1) := by decide +kernel
theorem dX6_many_2 : decode cX6_many 2 = .ok (.bipush 8, 2) := by decide +kernel
theorem dX6_many_4 : decode cX6_many 4 = .ok (.invokestatic 73, 3) := by decide +kernel
theorem dX6_many_7 : decode cX6_many 7 = .ok (.ifCond .eq 13, 3) := by decide +kernel
theorem dX6_many_10 : decode cX6_many 10 = .ok (.new 81, 3) := by decide +kernel
theorem dX6_many_13 : decode cX6_many 13 = .ok (.dup, 1) := by decide +kernel
theorem dX6_many_14 : decode cX6_many 14 = .ok (.ldc 124, 2) := by decide +kernel
theorem dX6_many_16 : decode cX6_many 16 = .ok (.invokespecial 85, 3) := by decide +kernel
theorem dX6_many_19 : decode cX6_many 19 = .ok (.athrow, 1) := by decide +kernel
theorem dX6_many_20 : decode cX6_many 20 = .ok (.aload_n 0, 1) := by decide +kernel
theorem dX6_many_21 : decode cX6_many 21 = .ok (.iload_n 1, 1) := by decide +kernel
theorem dX6_many_22 : decode cX6_many 22 = .ok (.invokevirtual 239, 3) := by decide +kernel
theorem dX6_many_25 : decode cX6_many 25 = .ok (.ireturn, 1) := by decide +kernel
theorem dX6_minutesFor_0 : decode cX6_minutesFor 0 = .ok (.aload_n 0, 1) := by decide +kernel
theorem dX6_minutesFor_1 : decode cX6_minutesFor 1 = .ok (.iload_n 1, 1) := by decide +kernel
theorem dX6_minutesFor_2 : decode cX6_minutesFor 2 = .ok (.invokevirtual 134, 3) := by decide +kernel
theorem dX6_minutesFor_5 : decode cX6_minutesFor 5 = .ok (.ifCond .eq 13, 3) := by decide +kernel
theorem dX6_minutesFor_8 : decode cX6_minutesFor 8 = .ok (.new 102, 3) := by decide +kernel
theorem dX6_minutesFor_11 : decode cX6_minutesFor 11 = .ok (.dup, 1) := by decide +kernel
theorem dX6_minutesFor_12 : decode cX6_minutesFor 12 = .ok (.ldc 172, 2) := by decide +kernel
theorem dX6_minutesFor_14 : decode cX6_minutesFor 14 = .ok (.invokespecial 106, 3) := by decide +kernel
theorem dX6_minutesFor_17 : decode cX6_minutesFor 17 = .ok (.athrow, 1) := by decide +kernel
theorem dX6_minutesFor_18 : decode cX6_minutesFor 18 = .ok (.aload_n 0, 1) := by decide +kernel
theorem dX6_minutesFor_19 : decode cX6_minutesFor 19 = .ok (.aload_n 0, 1) := by decide +kernel
theorem dX6_minutesFor_20 : decode cX6_minutesFor 20 = .ok (.iload_n 1, 1) := by decide +kernel
theorem dX6_minutesFor_21 : decode cX6_minutesFor 21 = .ok (.invokevirtual 151, 3) := by decide +kernel
theorem dX6_minutesFor_24 : decode cX6_minutesFor 24 = .ok (.invokevirtual 242, 3) := by decide +kernel
theorem dX6_minutesFor_27 : decode cX6_minutesFor 27 = .ok (.ireturn, 1) := by decide +kernel
theorem dX6_wouldMove_0 : decode cX6_wouldMove 0 = .ok (.aload_n 0, 1) := by decide +kernel
theorem dX6_wouldMove_1 : decode cX6_wouldMove 1 = .ok (.getfield 63, 3) := by decide +kernel
theorem dX6_wouldMove_4 : decode cX6_wouldMove 4 = .ok (.istore_n 1, 1) := by decide +kernel
theorem dX6_wouldMove_5 : decode cX6_wouldMove 5 = .ok (.aload_n 0, 1) := by decide +kernel
theorem dX6_wouldMove_6 : decode cX6_wouldMove 6 = .ok (.getfield 63, 3) := by decide +kernel
theorem dX6_wouldMove_9 : decode cX6_wouldMove 9 = .ok (.iconst 1, 1) := by decide +kernel
theorem dX6_wouldMove_10 : decode cX6_wouldMove 10 = .ok (.iadd, 1) := by decide +kernel
theorem dX6_wouldMove_11 : decode cX6_wouldMove 11 = .ok (.istore_n 2, 1) := by decide +kernel
theorem dX6_wouldMove_12 : decode cX6_wouldMove 12 = .ok (.iload_n 2, 1) := by decide +kernel
theorem dX6_wouldMove_13 : decode cX6_wouldMove 13 = .ok (.aload_n 0, 1) := by decide +kernel
theorem dX6_wouldMove_14 : decode cX6_wouldMove 14 = .ok (.getfield 16, 3) := by decide +kernel
theorem dX6_wouldMove_17 : decode cX6_wouldMove 17 = .ok (.invokevirtual 88, 3) := by decide +kernel
theorem dX6_wouldMove_20 : decode cX6_wouldMove 20 = .ok (.if_icmp .ge 20, 3) := by decide +kernel
theorem dX6_wouldMove_23 : decode cX6_wouldMove 23 = .ok (.aload_n 0, 1) := by decide +kernel
theorem dX6_wouldMove_24 : decode cX6_wouldMove 24 = .ok (.iload_n 2, 1) := by decide +kernel
theorem dX6_wouldMove_25 : decode cX6_wouldMove 25 = .ok (.invokevirtual 219, 3) := by decide +kernel
theorem dX6_wouldMove_28 : decode cX6_wouldMove 28 = .ok (.iconst (-1), 1) := by decide +kernel
theorem dX6_wouldMove_29 : decode cX6_wouldMove 29 = .ok (.if_icmp .eq 11, 3) := by decide +kernel
theorem dX6_wouldMove_32 : decode cX6_wouldMove 32 = .ok (.iload_n 2, 1) := by decide +kernel
theorem dX6_wouldMove_33 : decode cX6_wouldMove 33 = .ok (.istore_n 1, 1) := by decide +kernel
theorem dX6_wouldMove_34 : decode cX6_wouldMove 34 = .ok (.iinc 2 1, 3) := by decide +kernel
theorem dX6_wouldMove_37 : decode cX6_wouldMove 37 = .ok (.goto (-25), 3) := by decide +kernel
theorem dX6_wouldMove_40 : decode cX6_wouldMove 40 = .ok (.iload_n 1, 1) := by decide +kernel
theorem dX6_wouldMove_41 : decode cX6_wouldMove 41 = .ok (.ireturn, 1) := by decide +kernel
theorem dX6_digest_0 : decode cX6_digest 0 = .ok (.ldc2_w 272, 3) := by decide +kernel
theorem dX6_digest_3 : decode cX6_digest 3 = .ok (.lstore_n 1, 1) := by decide +kernel
theorem dX6_digest_4 : decode cX6_digest 4 = .ok (.iconst 0, 1) := by decide +kernel
theorem dX6_digest_5 : decode cX6_digest 5 = .ok (.istore_n 3, 1) := by decide +kernel
theorem dX6_digest_6 : decode cX6_digest 6 = .ok (.iload_n 3, 1) := by decide +kernel
theorem dX6_digest_7 : decode cX6_digest 7 = .ok (.bipush 8, 2) := by decide +kernel
theorem dX6_digest_9 : decode cX6_digest 9 = .ok (.if_icmp .gt 22, 3) := by decide +kernel
theorem dX6_digest_12 : decode cX6_digest 12 = .ok (.lload_n 1, 1) := by decide +kernel
theorem dX6_digest_13 : decode cX6_digest 13 = .ok (.ldc2_w 274, 3) := by decide +kernel
theorem dX6_digest_16 : decode cX6_digest 16 = .ok (.lmul, 1) := by decide +kernel
theorem dX6_digest_17 : decode cX6_digest 17 = .ok (.aload_n 0, 1) := by decide +kernel
theorem dX6_digest_18 : decode cX6_digest 18 = .ok (.iload_n 3, 1) := by decide +kernel
theorem dX6_digest_19 : decode cX6_digest 19 = .ok (.invokevirtual 239, 3) := by decide +kernel
theorem dX6_digest_22 : decode cX6_digest 22 = .ok (.i2l, 1) := by decide +kernel
theorem dX6_digest_23 : decode cX6_digest 23 = .ok (.ladd, 1) := by decide +kernel
theorem dX6_digest_24 : decode cX6_digest 24 = .ok (.lstore_n 1, 1) := by decide +kernel
theorem dX6_digest_25 : decode cX6_digest 25 = .ok (.iinc 3 1, 3) := by decide +kernel
theorem dX6_digest_28 : decode cX6_digest 28 = .ok (.goto (-22), 3) := by decide +kernel
theorem dX6_digest_31 : decode cX6_digest 31 = .ok (.aload_n 0, 1) := by decide +kernel
theorem dX6_digest_32 : decode cX6_digest 32 = .ok (.lload_n 1, 1) := by decide +kernel
theorem dX6_digest_33 : decode cX6_digest 33 = .ok (.invokevirtual 276, 3) := by decide +kernel
theorem dX6_digest_36 : decode cX6_digest 36 = .ok (.lstore_n 1, 1) := by decide +kernel
theorem dX6_digest_37 : decode cX6_digest 37 = .ok (.aload_n 0, 1) := by decide +kernel
theorem dX6_digest_38 : decode cX6_digest 38 = .ok (.lload_n 1, 1) := by decide +kernel
theorem dX6_digest_39 : decode cX6_digest 39 = .ok (.invokevirtual 280, 3) := by decide +kernel
theorem dX6_digest_42 : decode cX6_digest 42 = .ok (.lstore_n 1, 1) := by decide +kernel
theorem dX6_digest_43 : decode cX6_digest 43 = .ok (.aload_n 0, 1) := by decide +kernel
theorem dX6_digest_44 : decode cX6_digest 44 = .ok (.lload_n 1, 1) := by decide +kernel
theorem dX6_digest_45 : decode cX6_digest 45 = .ok (.invokevirtual 283, 3) := by decide +kernel
theorem dX6_digest_48 : decode cX6_digest 48 = .ok (.lstore_n 1, 1) := by decide +kernel
theorem dX6_digest_49 : decode cX6_digest 49 = .ok (.aload_n 0, 1) := by decide +kernel
theorem dX6_digest_50 : decode cX6_digest 50 = .ok (.lload_n 1, 1) := by decide +kernel
theorem dX6_digest_51 : decode cX6_digest 51 = .ok (.invokevirtual 286, 3) := by decide +kernel
theorem dX6_digest_54 : decode cX6_digest 54 = .ok (.lstore_n 1, 1) := by decide +kernel
theorem dX6_digest_55 : decode cX6_digest 55 = .ok (.iconst 0, 1) := by decide +kernel
theorem dX6_digest_56 : decode cX6_digest 56 = .ok (.istore_n 3, 1) := by decide +kernel
theorem dX6_digest_57 : decode cX6_digest 57 = .ok (.iload_n 3, 1) := by decide +kernel
theorem dX6_digest_58 : decode cX6_digest 58 = .ok (.iconst 3, 1) := by decide +kernel
theorem dX6_digest_59 : decode cX6_digest 59 = .ok (.if_icmp .gt 22, 3) := by decide +kernel
theorem dX6_digest_62 : decode cX6_digest 62 = .ok (.lload_n 1, 1) := by decide +kernel
theorem dX6_digest_63 : decode cX6_digest 63 = .ok (.ldc2_w 274, 3) := by decide +kernel
theorem dX6_digest_66 : decode cX6_digest 66 = .ok (.lmul, 1) := by decide +kernel
theorem dX6_digest_67 : decode cX6_digest 67 = .ok (.aload_n 0, 1) := by decide +kernel
theorem dX6_digest_68 : decode cX6_digest 68 = .ok (.iload_n 3, 1) := by decide +kernel
theorem dX6_digest_69 : decode cX6_digest 69 = .ok (.invokevirtual 216, 3) := by decide +kernel
theorem dX6_digest_72 : decode cX6_digest 72 = .ok (.i2l, 1) := by decide +kernel
theorem dX6_digest_73 : decode cX6_digest 73 = .ok (.ladd, 1) := by decide +kernel
theorem dX6_digest_74 : decode cX6_digest 74 = .ok (.lstore_n 1, 1) := by decide +kernel
theorem dX6_digest_75 : decode cX6_digest 75 = .ok (.iinc 3 1, 3) := by decide +kernel
theorem dX6_digest_78 : decode cX6_digest 78 = .ok (.goto (-21), 3) := by decide +kernel
theorem dX6_digest_81 : decode cX6_digest 81 = .ok (.lload_n 1, 1) := by decide +kernel
theorem dX6_digest_82 : decode cX6_digest 82 = .ok (.ldc2_w 274, 3) := by decide +kernel
theorem dX6_digest_85 : decode cX6_digest 85 = .ok (.lmul, 1) := by decide +kernel
theorem dX6_digest_86 : decode cX6_digest 86 = .ok (.aload_n 0, 1) := by decide +kernel
theorem dX6_digest_87 : decode cX6_digest 87 = .ok (.invokevirtual 289, 3) := by decide +kernel
theorem dX6_digest_90 : decode cX6_digest 90 = .ok (.i2l, 1) := by decide +kernel
theorem dX6_digest_91 : decode cX6_digest 91 = .ok (.ladd, 1) := by decide +kernel
theorem dX6_digest_92 : decode cX6_digest 92 = .ok (.lreturn, 1) := by decide +kernel
theorem dX6_isOutside_0 : decode cX6_isOutside 0 = .ok (.iload_n 0, 1) := by decide +kernel
theorem dX6_isOutside_1 : decode cX6_isOutside 1 = .ok (.iload_n 1, 1) := by decide +kernel
theorem dX6_isOutside_2 : decode cX6_isOutside 2 = .ok (.if_icmp .lt 8, 3) := by decide +kernel
theorem dX6_isOutside_5 : decode cX6_isOutside 5 = .ok (.iload_n 0, 1) := by decide +kernel
theorem dX6_isOutside_6 : decode cX6_isOutside 6 = .ok (.iload_n 2, 1) := by decide +kernel
theorem dX6_isOutside_7 : decode cX6_isOutside 7 = .ok (.if_icmp .le 7, 3) := by decide +kernel
theorem dX6_isOutside_10 : decode cX6_isOutside 10 = .ok (.iconst 1, 1) := by decide +kernel
theorem dX6_isOutside_11 : decode cX6_isOutside 11 = .ok (.goto 4, 3) := by decide +kernel
theorem dX6_isOutside_14 : decode cX6_isOutside 14 = .ok (.iconst 0, 1) := by decide +kernel
theorem dX6_isOutside_15 : decode cX6_isOutside 15 = .ok (.ireturn, 1) := by decide +kernel
theorem dX6_isNoMeasure_0 : decode cX6_isNoMeasure 0 = .ok (.iload_n 0, 1) := by decide +kernel
theorem dX6_isNoMeasure_1 : decode cX6_isNoMeasure 1 = .ok (.bipush 50, 2) := by decide +kernel
theorem dX6_isNoMeasure_3 : decode cX6_isNoMeasure 3 = .ok (.sipush 200, 3) := by decide +kernel
theorem dX6_isNoMeasure_6 : decode cX6_isNoMeasure 6 = .ok (.invokestatic 73, 3) := by decide +kernel
theorem dX6_isNoMeasure_9 : decode cX6_isNoMeasure 9 = .ok (.ireturn, 1) := by decide +kernel
theorem dX6_isNoChange_0 : decode cX6_isNoChange 0 = .ok (.iload_n 1, 1) := by decide +kernel
theorem dX6_isNoChange_1 : decode cX6_isNoChange 1 = .ok (.ifCond .lt 14, 3) := by decide +kernel
theorem dX6_isNoChange_4 : decode cX6_isNoChange 4 = .ok (.iload_n 1, 1) := by decide +kernel
theorem dX6_isNoChange_5 : decode cX6_isNoChange 5 = .ok (.aload_n 0, 1) := by decide +kernel
theorem dX6_isNoChange_6 : decode cX6_isNoChange 6 = .ok (.getfield 16, 3) := by decide +kernel
theorem dX6_isNoChange_9 : decode cX6_isNoChange 9 = .ok (.invokevirtual 88, 3) := by decide +kernel
theorem dX6_isNoChange_12 : decode cX6_isNoChange 12 = .ok (.if_icmp .lt 7, 3) := by decide +kernel
theorem dX6_isNoChange_15 : decode cX6_isNoChange 15 = .ok (.iconst 1, 1) := by decide +kernel
theorem dX6_isNoChange_16 : decode cX6_isNoChange 16 = .ok (.goto 4, 3) := by decide +kernel
theorem dX6_isNoChange_19 : decode cX6_isNoChange 19 = .ok (.iconst 0, 1) := by decide +kernel
theorem dX6_isNoChange_20 : decode cX6_isNoChange 20 = .ok (.ireturn, 1) := by decide +kernel
theorem dX6_changeAt_0 : decode cX6_changeAt 0 = .ok (.iload_n 1, 1) := by decide +kernel
theorem dX6_changeAt_1 : decode cX6_changeAt 1 = .ok (.ifCond .le 28, 3) := by decide +kernel
theorem dX6_changeAt_4 : decode cX6_changeAt 4 = .ok (.iload_n 1, 1) := by decide +kernel
theorem dX6_changeAt_5 : decode cX6_changeAt 5 = .ok (.aload_n 0, 1) := by decide +kernel
theorem dX6_changeAt_6 : decode cX6_changeAt 6 = .ok (.getfield 16, 3) := by decide +kernel
theorem dX6_changeAt_9 : decode cX6_changeAt 9 = .ok (.invokevirtual 88, 3) := by decide +kernel
theorem dX6_changeAt_12 : decode cX6_changeAt 12 = .ok (.if_icmp .ge 17, 3) := by decide +kernel
theorem dX6_changeAt_15 : decode cX6_changeAt 15 = .ok (.aload_n 0, 1) := by decide +kernel
theorem dX6_changeAt_16 : decode cX6_changeAt 16 = .ok (.getfield 16, 3) := by decide +kernel
theorem dX6_changeAt_19 : decode cX6_changeAt 19 = .ok (.iload_n 1, 1) := by decide +kernel
theorem dX6_changeAt_20 : decode cX6_changeAt 20 = .ok (.invokevirtual 109, 3) := by decide +kernel
theorem dX6_changeAt_23 : decode cX6_changeAt 23 = .ok (.checkcast 22, 3) := by decide +kernel
theorem dX6_changeAt_26 : decode cX6_changeAt 26 = .ok (.goto 7, 3) := by decide +kernel
theorem dX6_changeAt_29 : decode cX6_changeAt 29 = .ok (.aload_n 0, 1) := by decide +kernel
theorem dX6_changeAt_30 : decode cX6_changeAt 30 = .ok (.getfield 25, 3) := by decide +kernel
theorem dX6_changeAt_33 : decode cX6_changeAt 33 = .ok (.areturn, 1) := by decide +kernel
theorem dX6_oneIf_0 : decode cX6_oneIf 0 = .ok (.iload_n 0, 1) := by decide +kernel
theorem dX6_oneIf_1 : decode cX6_oneIf 1 = .ok (.ifCond .eq 7, 3) := by decide +kernel
theorem dX6_oneIf_4 : decode cX6_oneIf 4 = .ok (.iconst 1, 1) := by decide +kernel
theorem dX6_oneIf_5 : decode cX6_oneIf 5 = .ok (.goto 4, 3) := by decide +kernel
theorem dX6_oneIf_8 : decode cX6_oneIf 8 = .ok (.iconst 0, 1) := by decide +kernel
theorem dX6_oneIf_9 : decode cX6_oneIf 9 = .ok (.ireturn, 1) := by decide +kernel
theorem dX6_machineFact_0 : decode cX6_machineFact 0 = .ok (.iload_n 2, 1) := by decide +kernel
theorem dX6_machineFact_1 : decode cX6_machineFact 1 = .ok (.tableswitch 54 0 3 #[31, 36, 41, 49], 31) := by decide +kernel
theorem dX6_machineFact_32 : decode cX6_machineFact 32 = .ok (.aload_n 1, 1) := by decide +kernel
theorem dX6_machineFact_33 : decode cX6_machineFact 33 = .ok (.getfield 141, 3) := by decide +kernel
theorem dX6_machineFact_36 : decode cX6_machineFact 36 = .ok (.ireturn, 1) := by decide +kernel
theorem dX6_machineFact_37 : decode cX6_machineFact 37 = .ok (.aload_n 1, 1) := by decide +kernel
theorem dX6_machineFact_38 : decode cX6_machineFact 38 = .ok (.getfield 292, 3) := by decide +kernel
theorem dX6_machineFact_41 : decode cX6_machineFact 41 = .ok (.ireturn, 1) := by decide +kernel
theorem dX6_machineFact_42 : decode cX6_machineFact 42 = .ok (.aload_n 1, 1) := by decide +kernel
theorem dX6_machineFact_43 : decode cX6_machineFact 43 = .ok (.getfield 120, 3) := by decide +kernel
theorem dX6_machineFact_46 : decode cX6_machineFact 46 = .ok (.invokestatic 295, 3) := by decide +kernel
theorem dX6_machineFact_49 : decode cX6_machineFact 49 = .ok (.ireturn, 1) := by decide +kernel
theorem dX6_machineFact_50 : decode cX6_machineFact 50 = .ok (.aload_n 1, 1) := by decide +kernel
theorem dX6_machineFact_51 : decode cX6_machineFact 51 = .ok (.getfield 156, 3) := by decide +kernel
theorem dX6_machineFact_54 : decode cX6_machineFact 54 = .ok (.ireturn, 1) := by decide +kernel
theorem dX6_machineFact_55 : decode cX6_machineFact 55 = .ok (.aload_n 1, 1) := by decide +kernel
theorem dX6_machineFact_56 : decode cX6_machineFact 56 = .ok (.getfield 299, 3) := by decide +kernel
theorem dX6_machineFact_59 : decode cX6_machineFact 59 = .ok (.ireturn, 1) := by decide +kernel
theorem dX6_runFact_0 : decode cX6_runFact 0 = .ok (.iload_n 2, 1) := by decide +kernel
theorem dX6_runFact_1 : decode cX6_runFact 1 = .ok (.tableswitch 66 0 4 #[35, 40, 48, 53, 58], 35) := by decide +kernel
theorem dX6_runFact_36 : decode cX6_runFact 36 = .ok (.aload_n 1, 1) := by decide +kernel
theorem dX6_runFact_37 : decode cX6_runFact 37 = .ok (.getfield 302, 3) := by decide +kernel
theorem dX6_runFact_40 : decode cX6_runFact 40 = .ok (.ireturn, 1) := by decide +kernel
theorem dX6_runFact_41 : decode cX6_runFact 41 = .ok (.aload_n 1, 1) := by decide +kernel
theorem dX6_runFact_42 : decode cX6_runFact 42 = .ok (.getfield 304, 3) := by decide +kernel
theorem dX6_runFact_45 : decode cX6_runFact 45 = .ok (.getfield 307, 3) := by decide +kernel
theorem dX6_runFact_48 : decode cX6_runFact 48 = .ok (.ireturn, 1) := by decide +kernel
theorem dX6_runFact_49 : decode cX6_runFact 49 = .ok (.aload_n 1, 1) := by decide +kernel
theorem dX6_runFact_50 : decode cX6_runFact 50 = .ok (.getfield 310, 3) := by decide +kernel
theorem dX6_runFact_53 : decode cX6_runFact 53 = .ok (.ireturn, 1) := by decide +kernel
theorem dX6_runFact_54 : decode cX6_runFact 54 = .ok (.aload_n 1, 1) := by decide +kernel
theorem dX6_runFact_55 : decode cX6_runFact 55 = .ok (.getfield 158, 3) := by decide +kernel
theorem dX6_runFact_58 : decode cX6_runFact 58 = .ok (.ireturn, 1) := by decide +kernel
theorem dX6_runFact_59 : decode cX6_runFact 59 = .ok (.aload_n 1, 1) := by decide +kernel
theorem dX6_runFact_60 : decode cX6_runFact 60 = .ok (.invokevirtual 312, 3) := by decide +kernel
theorem dX6_runFact_63 : decode cX6_runFact 63 = .ok (.invokestatic 295, 3) := by decide +kernel
theorem dX6_runFact_66 : decode cX6_runFact 66 = .ok (.ireturn, 1) := by decide +kernel
theorem dX6_runFact_67 : decode cX6_runFact 67 = .ok (.aload_n 0, 1) := by decide +kernel
theorem dX6_runFact_68 : decode cX6_runFact 68 = .ok (.aload_n 1, 1) := by decide +kernel
theorem dX6_runFact_69 : decode cX6_runFact 69 = .ok (.getfield 302, 3) := by decide +kernel
theorem dX6_runFact_72 : decode cX6_runFact 72 = .ok (.invokevirtual 151, 3) := by decide +kernel
theorem dX6_runFact_75 : decode cX6_runFact 75 = .ok (.aload_n 1, 1) := by decide +kernel
theorem dX6_runFact_76 : decode cX6_runFact 76 = .ok (.invokevirtual 316, 3) := by decide +kernel
theorem dX6_runFact_79 : decode cX6_runFact 79 = .ok (.invokestatic 295, 3) := by decide +kernel
theorem dX6_runFact_82 : decode cX6_runFact 82 = .ok (.ireturn, 1) := by decide +kernel
theorem dX6_changeFact_0 : decode cX6_changeFact 0 = .ok (.aload_n 0, 1) := by decide +kernel
theorem dX6_changeFact_1 : decode cX6_changeFact 1 = .ok (.getfield 32, 3) := by decide +kernel
theorem dX6_changeFact_4 : decode cX6_changeFact 4 = .ok (.invokevirtual 250, 3) := by decide +kernel
theorem dX6_changeFact_7 : decode cX6_changeFact 7 = .ok (.aload_n 0, 1) := by decide +kernel
theorem dX6_changeFact_8 : decode cX6_changeFact 8 = .ok (.getfield 32, 3) := by decide +kernel
theorem dX6_changeFact_11 : decode cX6_changeFact 11 = .ok (.aload_n 1, 1) := by decide +kernel
theorem dX6_changeFact_12 : decode cX6_changeFact 12 = .ok (.invokevirtual 253, 3) := by decide +kernel
theorem dX6_changeFact_15 : decode cX6_changeFact 15 = .ok (.iload_n 2, 1) := by decide +kernel
theorem dX6_changeFact_16 : decode cX6_changeFact 16 = .ok (.tableswitch 97 0 4 #[36, 44, 52, 71, 80], 36) := by decide +kernel
theorem dX6_changeFact_52 : decode cX6_changeFact 52 = .ok (.aload_n 1, 1) := by decide +kernel
theorem dX6_changeFact_53 : decode cX6_changeFact 53 = .ok (.getfield 155, 3) := by decide +kernel
theorem dX6_changeFact_56 : decode cX6_changeFact 56 = .ok (.invokevirtual 88, 3) := by decide +kernel
theorem dX6_changeFact_59 : decode cX6_changeFact 59 = .ok (.ireturn, 1) := by decide +kernel
theorem dX6_changeFact_60 : decode cX6_changeFact 60 = .ok (.aload_n 0, 1) := by decide +kernel
theorem dX6_changeFact_61 : decode cX6_changeFact 61 = .ok (.getfield 32, 3) := by decide +kernel
theorem dX6_changeFact_64 : decode cX6_changeFact 64 = .ok (.getfield 320, 3) := by decide +kernel
theorem dX6_changeFact_67 : decode cX6_changeFact 67 = .ok (.ireturn, 1) := by decide +kernel
theorem dX6_changeFact_68 : decode cX6_changeFact 68 = .ok (.aload_n 0, 1) := by decide +kernel
theorem dX6_changeFact_69 : decode cX6_changeFact 69 = .ok (.getfield 32, 3) := by decide +kernel
theorem dX6_changeFact_72 : decode cX6_changeFact 72 = .ok (.aload_n 0, 1) := by decide +kernel
theorem dX6_changeFact_73 : decode cX6_changeFact 73 = .ok (.getfield 32, 3) := by decide +kernel
theorem dX6_changeFact_76 : decode cX6_changeFact 76 = .ok (.getfield 320, 3) := by decide +kernel
theorem dX6_changeFact_79 : decode cX6_changeFact 79 = .ok (.iconst 1, 1) := by decide +kernel
theorem dX6_changeFact_80 : decode cX6_changeFact 80 = .ok (.isub, 1) := by decide +kernel
theorem dX6_changeFact_81 : decode cX6_changeFact 81 = .ok (.iconst 2, 1) := by decide +kernel
theorem dX6_changeFact_82 : decode cX6_changeFact 82 = .ok (.idiv, 1) := by decide +kernel
theorem dX6_changeFact_83 : decode cX6_changeFact 83 = .ok (.invokevirtual 322, 3) := by decide +kernel
theorem dX6_changeFact_86 : decode cX6_changeFact 86 = .ok (.ireturn, 1) := by decide +kernel
theorem dX6_changeFact_87 : decode cX6_changeFact 87 = .ok (.aload_n 0, 1) := by decide +kernel
theorem dX6_changeFact_88 : decode cX6_changeFact 88 = .ok (.getfield 32, 3) := by decide +kernel
theorem dX6_changeFact_91 : decode cX6_changeFact 91 = .ok (.iconst 0, 1) := by decide +kernel
theorem dX6_changeFact_92 : decode cX6_changeFact 92 = .ok (.invokevirtual 322, 3) := by decide +kernel
theorem dX6_changeFact_95 : decode cX6_changeFact 95 = .ok (.ireturn, 1) := by decide +kernel
theorem dX6_changeFact_96 : decode cX6_changeFact 96 = .ok (.aload_n 0, 1) := by decide +kernel
theorem dX6_changeFact_97 : decode cX6_changeFact 97 = .ok (.getfield 32, 3) := by decide +kernel
theorem dX6_changeFact_100 : decode cX6_changeFact 100 = .ok (.aload_n 0, 1) := by decide +kernel
theorem dX6_changeFact_101 : decode cX6_changeFact 101 = .ok (.getfield 32, 3) := by decide +kernel
theorem dX6_changeFact_104 : decode cX6_changeFact 104 = .ok (.getfield 320, 3) := by decide +kernel
theorem dX6_changeFact_107 : decode cX6_changeFact 107 = .ok (.iconst 1, 1) := by decide +kernel
theorem dX6_changeFact_108 : decode cX6_changeFact 108 = .ok (.isub, 1) := by decide +kernel
theorem dX6_changeFact_109 : decode cX6_changeFact 109 = .ok (.invokevirtual 322, 3) := by decide +kernel
theorem dX6_changeFact_112 : decode cX6_changeFact 112 = .ok (.ireturn, 1) := by decide +kernel
theorem dX6_changeFact_113 : decode cX6_changeFact 113 = .ok (.aload_n 1, 1) := by decide +kernel
theorem dX6_changeFact_114 : decode cX6_changeFact 114 = .ok (.getfield 226, 3) := by decide +kernel
theorem dX6_changeFact_117 : decode cX6_changeFact 117 = .ok (.ifCond .eq 7, 3) := by decide +kernel
theorem dX6_changeFact_120 : decode cX6_changeFact 120 = .ok (.iconst 1, 1) := by decide +kernel
theorem dX6_changeFact_121 : decode cX6_changeFact 121 = .ok (.goto 15, 3) := by decide +kernel
theorem dX6_changeFact_124 : decode cX6_changeFact 124 = .ok (.aload_n 1, 1) := by decide +kernel
theorem dX6_changeFact_125 : decode cX6_changeFact 125 = .ok (.getfield 223, 3) := by decide +kernel
theorem dX6_changeFact_128 : decode cX6_changeFact 128 = .ok (.ifCond .eq 7, 3) := by decide +kernel
theorem dX6_changeFact_131 : decode cX6_changeFact 131 = .ok (.iconst 2, 1) := by decide +kernel
theorem dX6_changeFact_132 : decode cX6_changeFact 132 = .ok (.goto 4, 3) := by decide +kernel
theorem dX6_changeFact_135 : decode cX6_changeFact 135 = .ok (.iconst 0, 1) := by decide +kernel
theorem dX6_changeFact_136 : decode cX6_changeFact 136 = .ok (.ireturn, 1) := by decide +kernel
theorem dX6_duelFact_0 : decode cX6_duelFact 0 = .ok (.iload_n 1, 1) := by decide +kernel
theorem dX6_duelFact_1 : decode cX6_duelFact 1 = .ok (.tableswitch 71 0 3 #[31, 47, 55, 63], 31) := by decide +kernel
theorem dX6_duelFact_32 : decode cX6_duelFact 32 = .ok (.aload_n 0, 1) := by decide +kernel
theorem dX6_duelFact_33 : decode cX6_duelFact 33 = .ok (.getfield 39, 3) := by decide +kernel
theorem dX6_duelFact_36 : decode cX6_duelFact 36 = .ok (.aload_n 0, 1) := by decide +kernel
theorem dX6_duelFact_37 : decode cX6_duelFact 37 = .ok (.getfield 50, 3) := by decide +kernel
theorem dX6_duelFact_40 : decode cX6_duelFact 40 = .ok (.aload_n 0, 1) := by decide +kernel
theorem dX6_duelFact_41 : decode cX6_duelFact 41 = .ok (.getfield 54, 3) := by decide +kernel
theorem dX6_duelFact_44 : decode cX6_duelFact 44 = .ok (.invokevirtual 265, 3) := by decide +kernel
theorem dX6_duelFact_47 : decode cX6_duelFact 47 = .ok (.ireturn, 1) := by decide +kernel
theorem dX6_duelFact_48 : decode cX6_duelFact 48 = .ok (.aload_n 0, 1) := by decide +kernel
theorem dX6_duelFact_49 : decode cX6_duelFact 49 = .ok (.getfield 39, 3) := by decide +kernel
theorem dX6_duelFact_52 : decode cX6_duelFact 52 = .ok (.getfield 325, 3) := by decide +kernel
theorem dX6_duelFact_55 : decode cX6_duelFact 55 = .ok (.ireturn, 1) := by decide +kernel
theorem dX6_duelFact_56 : decode cX6_duelFact 56 = .ok (.aload_n 0, 1) := by decide +kernel
theorem dX6_duelFact_57 : decode cX6_duelFact 57 = .ok (.getfield 39, 3) := by decide +kernel
theorem dX6_duelFact_60 : decode cX6_duelFact 60 = .ok (.getfield 328, 3) := by decide +kernel
theorem dX6_duelFact_63 : decode cX6_duelFact 63 = .ok (.ireturn, 1) := by decide +kernel
theorem dX6_duelFact_64 : decode cX6_duelFact 64 = .ok (.aload_n 0, 1) := by decide +kernel
theorem dX6_duelFact_65 : decode cX6_duelFact 65 = .ok (.getfield 39, 3) := by decide +kernel
theorem dX6_duelFact_68 : decode cX6_duelFact 68 = .ok (.getfield 331, 3) := by decide +kernel
theorem dX6_duelFact_71 : decode cX6_duelFact 71 = .ok (.ireturn, 1) := by decide +kernel
theorem dX6_duelFact_72 : decode cX6_duelFact 72 = .ok (.aload_n 0, 1) := by decide +kernel
theorem dX6_duelFact_73 : decode cX6_duelFact 73 = .ok (.getfield 39, 3) := by decide +kernel
theorem dX6_duelFact_76 : decode cX6_duelFact 76 = .ok (.getfield 334, 3) := by decide +kernel
theorem dX6_duelFact_79 : decode cX6_duelFact 79 = .ok (.ireturn, 1) := by decide +kernel
theorem dX6_caseFact_0 : decode cX6_caseFact 0 = .ok (.iload_n 1, 1) := by decide +kernel
theorem dX6_caseFact_1 : decode cX6_caseFact 1 = .ok (.tableswitch 51 0 2 #[27, 35, 43], 27) := by decide +kernel
theorem dX6_caseFact_28 : decode cX6_caseFact 28 = .ok (.aload_n 0, 1) := by decide +kernel
theorem dX6_caseFact_29 : decode cX6_caseFact 29 = .ok (.getfield 46, 3) := by decide +kernel
theorem dX6_caseFact_32 : decode cX6_caseFact 32 = .ok (.getfield 210, 3) := by decide +kernel
theorem dX6_caseFact_35 : decode cX6_caseFact 35 = .ok (.ireturn, 1) := by decide +kernel
theorem dX6_caseFact_36 : decode cX6_caseFact 36 = .ok (.aload_n 0, 1) := by decide +kernel
theorem dX6_caseFact_37 : decode cX6_caseFact 37 = .ok (.getfield 46, 3) := by decide +kernel
theorem dX6_caseFact_40 : decode cX6_caseFact 40 = .ok (.getfield 207, 3) := by decide +kernel
theorem dX6_caseFact_43 : decode cX6_caseFact 43 = .ok (.ireturn, 1) := by decide +kernel
theorem dX6_caseFact_44 : decode cX6_caseFact 44 = .ok (.aload_n 0, 1) := by decide +kernel
theorem dX6_caseFact_45 : decode cX6_caseFact 45 = .ok (.getfield 46, 3) := by decide +kernel
theorem dX6_caseFact_48 : decode cX6_caseFact 48 = .ok (.getfield 202, 3) := by decide +kernel
theorem dX6_caseFact_51 : decode cX6_caseFact 51 = .ok (.ireturn, 1) := by decide +kernel
theorem dX6_caseFact_52 : decode cX6_caseFact 52 = .ok (.aload_n 0, 1) := by decide +kernel
theorem dX6_caseFact_53 : decode cX6_caseFact 53 = .ok (.getfield 66, 3) := by decide +kernel
theorem dX6_caseFact_56 : decode cX6_caseFact 56 = .ok (.ireturn, 1) := by decide +kernel
theorem dX6_courtFact_0 : decode cX6_courtFact 0 = .ok (.iload_n 1, 1) := by decide +kernel
theorem dX6_courtFact_1 : decode cX6_courtFact 1 = .ok (.tableswitch 96 0 7 #[47, 55, 63, 71, 76, 81, 86, 91], 47) := by decide +kernel
theorem dX6_courtFact_48 : decode cX6_courtFact 48 = .ok (.aload_n 0, 1) := by decide +kernel
theorem dX6_courtFact_49 : decode cX6_courtFact 49 = .ok (.getfield 10, 3) := by decide +kernel
theorem dX6_courtFact_52 : decode cX6_courtFact 52 = .ok (.invokevirtual 88, 3) := by decide +kernel
theorem dX6_courtFact_55 : decode cX6_courtFact 55 = .ok (.ireturn, 1) := by decide +kernel
theorem dX6_courtFact_56 : decode cX6_courtFact 56 = .ok (.aload_n 0, 1) := by decide +kernel
theorem dX6_courtFact_57 : decode cX6_courtFact 57 = .ok (.getfield 16, 3) := by decide +kernel
theorem dX6_courtFact_60 : decode cX6_courtFact 60 = .ok (.invokevirtual 88, 3) := by decide +kernel
theorem dX6_courtFact_63 : decode cX6_courtFact 63 = .ok (.ireturn, 1) := by decide +kernel
theorem dX6_courtFact_64 : decode cX6_courtFact 64 = .ok (.aload_n 0, 1) := by decide +kernel
theorem dX6_courtFact_65 : decode cX6_courtFact 65 = .ok (.getfield 19, 3) := by decide +kernel
theorem dX6_courtFact_68 : decode cX6_courtFact 68 = .ok (.invokevirtual 88, 3) := by decide +kernel
theorem dX6_courtFact_71 : decode cX6_courtFact 71 = .ok (.ireturn, 1) := by decide +kernel
theorem dX6_courtFact_72 : decode cX6_courtFact 72 = .ok (.aload_n 0, 1) := by decide +kernel
theorem dX6_courtFact_73 : decode cX6_courtFact 73 = .ok (.invokevirtual 337, 3) := by decide +kernel
theorem dX6_courtFact_76 : decode cX6_courtFact 76 = .ok (.ireturn, 1) := by decide +kernel
theorem dX6_courtFact_77 : decode cX6_courtFact 77 = .ok (.aload_n 0, 1) := by decide +kernel
theorem dX6_courtFact_78 : decode cX6_courtFact 78 = .ok (.getfield 57, 3) := by decide +kernel
theorem dX6_courtFact_81 : decode cX6_courtFact 81 = .ok (.ireturn, 1) := by decide +kernel
theorem dX6_courtFact_82 : decode cX6_courtFact 82 = .ok (.aload_n 0, 1) := by decide +kernel
theorem dX6_courtFact_83 : decode cX6_courtFact 83 = .ok (.getfield 60, 3) := by decide +kernel
theorem dX6_courtFact_86 : decode cX6_courtFact 86 = .ok (.ireturn, 1) := by decide +kernel
theorem dX6_courtFact_87 : decode cX6_courtFact 87 = .ok (.aload_n 0, 1) := by decide +kernel
theorem dX6_courtFact_88 : decode cX6_courtFact 88 = .ok (.getfield 63, 3) := by decide +kernel
theorem dX6_courtFact_91 : decode cX6_courtFact 91 = .ok (.ireturn, 1) := by decide +kernel
theorem dX6_courtFact_92 : decode cX6_courtFact 92 = .ok (.aload_n 0, 1) := by decide +kernel
theorem dX6_courtFact_93 : decode cX6_courtFact 93 = .ok (.invokevirtual 340, 3) := by decide +kernel
theorem dX6_courtFact_96 : decode cX6_courtFact 96 = .ok (.ireturn, 1) := by decide +kernel
theorem dX6_courtFact_97 : decode cX6_courtFact 97 = .ok (.aload_n 0, 1) := by decide +kernel
theorem dX6_courtFact_98 : decode cX6_courtFact 98 = .ok (.invokevirtual 343, 3) := by decide +kernel
theorem dX6_courtFact_101 : decode cX6_courtFact 101 = .ok (.ireturn, 1) := by decide +kernel
theorem dX6_runsThatCount_0 : decode cX6_runsThatCount 0 = .ok (.iconst 0, 1) := by decide +kernel
theorem dX6_runsThatCount_1 : decode cX6_runsThatCount 1 = .ok (.istore_n 1, 1) := by decide +kernel
theorem dX6_runsThatCount_2 : decode cX6_runsThatCount 2 = .ok (.iconst 0, 1) := by decide +kernel
theorem dX6_runsThatCount_3 : decode cX6_runsThatCount 3 = .ok (.istore_n 2, 1) := by decide +kernel
theorem dX6_runsThatCount_4 : decode cX6_runsThatCount 4 = .ok (.iload_n 2, 1) := by decide +kernel
theorem dX6_runsThatCount_5 : decode cX6_runsThatCount 5 = .ok (.aload_n 0, 1) := by decide +kernel
theorem dX6_runsThatCount_6 : decode cX6_runsThatCount 6 = .ok (.getfield 19, 3) := by decide +kernel
theorem dX6_runsThatCount_9 : decode cX6_runsThatCount 9 = .ok (.invokevirtual 88, 3) := by decide +kernel
theorem dX6_runsThatCount_12 : decode cX6_runsThatCount 12 = .ok (.if_icmp .ge 29, 3) := by decide +kernel
theorem dX6_runsThatCount_15 : decode cX6_runsThatCount 15 = .ok (.iload_n 1, 1) := by decide +kernel
theorem dX6_runsThatCount_16 : decode cX6_runsThatCount 16 = .ok (.aload_n 0, 1) := by decide +kernel
theorem dX6_runsThatCount_17 : decode cX6_runsThatCount 17 = .ok (.getfield 19, 3) := by decide +kernel
theorem dX6_runsThatCount_20 : decode cX6_runsThatCount 20 = .ok (.iload_n 2, 1) := by decide +kernel
theorem dX6_runsThatCount_21 : decode cX6_runsThatCount 21 = .ok (.invokevirtual 109, 3) := by decide +kernel
theorem dX6_runsThatCount_24 : decode cX6_runsThatCount 24 = .ok (.checkcast 146, 3) := by decide +kernel
theorem dX6_runsThatCount_27 : decode cX6_runsThatCount 27 = .ok (.invokevirtual 312, 3) := by decide +kernel
theorem dX6_runsThatCount_30 : decode cX6_runsThatCount 30 = .ok (.invokestatic 295, 3) := by decide +kernel
theorem dX6_runsThatCount_33 : decode cX6_runsThatCount 33 = .ok (.iadd, 1) := by decide +kernel
theorem dX6_runsThatCount_34 : decode cX6_runsThatCount 34 = .ok (.istore_n 1, 1) := by decide +kernel
theorem dX6_runsThatCount_35 : decode cX6_runsThatCount 35 = .ok (.iinc 2 1, 3) := by decide +kernel
theorem dX6_runsThatCount_38 : decode cX6_runsThatCount 38 = .ok (.goto (-34), 3) := by decide +kernel
theorem dX6_runsThatCount_41 : decode cX6_runsThatCount 41 = .ok (.iload_n 1, 1) := by decide +kernel
theorem dX6_runsThatCount_42 : decode cX6_runsThatCount 42 = .ok (.ireturn, 1) := by decide +kernel
theorem dX6_changesNamed_0 : decode cX6_changesNamed 0 = .ok (.iconst 0, 1) := by decide +kernel
theorem dX6_changesNamed_1 : decode cX6_changesNamed 1 = .ok (.istore_n 1, 1) := by decide +kernel
theorem dX6_changesNamed_2 : decode cX6_changesNamed 2 = .ok (.iconst 0, 1) := by decide +kernel
theorem dX6_changesNamed_3 : decode cX6_changesNamed 3 = .ok (.istore_n 2, 1) := by decide +kernel
theorem dX6_changesNamed_4 : decode cX6_changesNamed 4 = .ok (.iload_n 2, 1) := by decide +kernel
theorem dX6_changesNamed_5 : decode cX6_changesNamed 5 = .ok (.aload_n 0, 1) := by decide +kernel
theorem dX6_changesNamed_6 : decode cX6_changesNamed 6 = .ok (.getfield 16, 3) := by decide +kernel
theorem dX6_changesNamed_9 : decode cX6_changesNamed 9 = .ok (.invokevirtual 88, 3) := by decide +kernel
theorem dX6_changesNamed_12 : decode cX6_changesNamed 12 = .ok (.if_icmp .ge 29, 3) := by decide +kernel
theorem dX6_changesNamed_15 : decode cX6_changesNamed 15 = .ok (.iload_n 1, 1) := by decide +kernel
theorem dX6_changesNamed_16 : decode cX6_changesNamed 16 = .ok (.aload_n 0, 1) := by decide +kernel
theorem dX6_changesNamed_17 : decode cX6_changesNamed 17 = .ok (.getfield 16, 3) := by decide +kernel
theorem dX6_changesNamed_20 : decode cX6_changesNamed 20 = .ok (.iload_n 2, 1) := by decide +kernel
theorem dX6_changesNamed_21 : decode cX6_changesNamed 21 = .ok (.invokevirtual 109, 3) := by decide +kernel
theorem dX6_changesNamed_24 : decode cX6_changesNamed 24 = .ok (.checkcast 22, 3) := by decide +kernel
theorem dX6_changesNamed_27 : decode cX6_changesNamed 27 = .ok (.getfield 223, 3) := by decide +kernel
theorem dX6_changesNamed_30 : decode cX6_changesNamed 30 = .ok (.invokestatic 295, 3) := by decide +kernel
theorem dX6_changesNamed_33 : decode cX6_changesNamed 33 = .ok (.iadd, 1) := by decide +kernel
theorem dX6_changesNamed_34 : decode cX6_changesNamed 34 = .ok (.istore_n 1, 1) := by decide +kernel
theorem dX6_changesNamed_35 : decode cX6_changesNamed 35 = .ok (.iinc 2 1, 3) := by decide +kernel
theorem dX6_changesNamed_38 : decode cX6_changesNamed 38 = .ok (.goto (-34), 3) := by decide +kernel
theorem dX6_changesNamed_41 : decode cX6_changesNamed 41 = .ok (.iload_n 1, 1) := by decide +kernel
theorem dX6_changesNamed_42 : decode cX6_changesNamed 42 = .ok (.ireturn, 1) := by decide +kernel
theorem dX6_machinesAside_0 : decode cX6_machinesAside 0 = .ok (.iconst 0, 1) := by decide +kernel
theorem dX6_machinesAside_1 : decode cX6_machinesAside 1 = .ok (.istore_n 1, 1) := by decide +kernel
theorem dX6_machinesAside_2 : decode cX6_machinesAside 2 = .ok (.iconst 0, 1) := by decide +kernel
theorem dX6_machinesAside_3 : decode cX6_machinesAside 3 = .ok (.istore_n 2, 1) := by decide +kernel
theorem dX6_machinesAside_4 : decode cX6_machinesAside 4 = .ok (.iload_n 2, 1) := by decide +kernel
theorem dX6_machinesAside_5 : decode cX6_machinesAside 5 = .ok (.aload_n 0, 1) := by decide +kernel
theorem dX6_machinesAside_6 : decode cX6_machinesAside 6 = .ok (.getfield 10, 3) := by decide +kernel
theorem dX6_machinesAside_9 : decode cX6_machinesAside 9 = .ok (.invokevirtual 88, 3) := by decide +kernel
theorem dX6_machinesAside_12 : decode cX6_machinesAside 12 = .ok (.if_icmp .ge 29, 3) := by decide +kernel
theorem dX6_machinesAside_15 : decode cX6_machinesAside 15 = .ok (.iload_n 1, 1) := by decide +kernel
theorem dX6_machinesAside_16 : decode cX6_machinesAside 16 = .ok (.aload_n 0, 1) := by decide +kernel
theorem dX6_machinesAside_17 : decode cX6_machinesAside 17 = .ok (.getfield 10, 3) := by decide +kernel
theorem dX6_machinesAside_20 : decode cX6_machinesAside 20 = .ok (.iload_n 2, 1) := by decide +kernel
theorem dX6_machinesAside_21 : decode cX6_machinesAside 21 = .ok (.invokevirtual 109, 3) := by decide +kernel
theorem dX6_machinesAside_24 : decode cX6_machinesAside 24 = .ok (.checkcast 97, 3) := by decide +kernel
theorem dX6_machinesAside_27 : decode cX6_machinesAside 27 = .ok (.getfield 120, 3) := by decide +kernel
theorem dX6_machinesAside_30 : decode cX6_machinesAside 30 = .ok (.invokestatic 295, 3) := by decide +kernel
theorem dX6_machinesAside_33 : decode cX6_machinesAside 33 = .ok (.iadd, 1) := by decide +kernel
theorem dX6_machinesAside_34 : decode cX6_machinesAside 34 = .ok (.istore_n 1, 1) := by decide +kernel
theorem dX6_machinesAside_35 : decode cX6_machinesAside 35 = .ok (.iinc 2 1, 3) := by decide +kernel
theorem dX6_machinesAside_38 : decode cX6_machinesAside 38 = .ok (.goto (-34), 3) := by decide +kernel
theorem dX6_machinesAside_41 : decode cX6_machinesAside 41 = .ok (.iload_n 1, 1) := by decide +kernel
theorem dX6_machinesAside_42 : decode cX6_machinesAside 42 = .ok (.ireturn, 1) := by decide +kernel
theorem dX6_meet_0 : decode cX6_meet 0 = .ok (.aload_n 0, 1) := by decide +kernel
theorem dX6_meet_1 : decode cX6_meet 1 = .ok (.getfield 39, 3) := by decide +kernel
theorem dX6_meet_4 : decode cX6_meet 4 = .ok (.getfield 247, 3) := by decide +kernel
theorem dX6_meet_7 : decode cX6_meet 7 = .ok (.invokevirtual 250, 3) := by decide +kernel
theorem dX6_meet_10 : decode cX6_meet 10 = .ok (.aload_n 0, 1) := by decide +kernel
theorem dX6_meet_11 : decode cX6_meet 11 = .ok (.getfield 39, 3) := by decide +kernel
theorem dX6_meet_14 : decode cX6_meet 14 = .ok (.getfield 247, 3) := by decide +kernel
theorem dX6_meet_17 : decode cX6_meet 17 = .ok (.aload_n 0, 1) := by decide +kernel
theorem dX6_meet_18 : decode cX6_meet 18 = .ok (.iload_n 1, 1) := by decide +kernel
theorem dX6_meet_19 : decode cX6_meet 19 = .ok (.invokevirtual 151, 3) := by decide +kernel
theorem dX6_meet_22 : decode cX6_meet 22 = .ok (.invokevirtual 253, 3) := by decide +kernel
theorem dX6_meet_25 : decode cX6_meet 25 = .ok (.aload_n 0, 1) := by decide +kernel
theorem dX6_meet_26 : decode cX6_meet 26 = .ok (.getfield 39, 3) := by decide +kernel
theorem dX6_meet_29 : decode cX6_meet 29 = .ok (.getfield 257, 3) := by decide +kernel
theorem dX6_meet_32 : decode cX6_meet 32 = .ok (.invokevirtual 250, 3) := by decide +kernel
theorem dX6_meet_35 : decode cX6_meet 35 = .ok (.aload_n 0, 1) := by decide +kernel
theorem dX6_meet_36 : decode cX6_meet 36 = .ok (.getfield 39, 3) := by decide +kernel
theorem dX6_meet_39 : decode cX6_meet 39 = .ok (.getfield 257, 3) := by decide +kernel
theorem dX6_meet_42 : decode cX6_meet 42 = .ok (.aload_n 0, 1) := by decide +kernel
theorem dX6_meet_43 : decode cX6_meet 43 = .ok (.iload_n 2, 1) := by decide +kernel
theorem dX6_meet_44 : decode cX6_meet 44 = .ok (.invokevirtual 151, 3) := by decide +kernel
theorem dX6_meet_47 : decode cX6_meet 47 = .ok (.invokevirtual 253, 3) := by decide +kernel
theorem dX6_meet_50 : decode cX6_meet 50 = .ok (.aload_n 0, 1) := by decide +kernel
theorem dX6_meet_51 : decode cX6_meet 51 = .ok (.getfield 39, 3) := by decide +kernel
theorem dX6_meet_54 : decode cX6_meet 54 = .ok (.invokevirtual 262, 3) := by decide +kernel
theorem dX6_meet_57 : decode cX6_meet 57 = .ok (.return_, 1) := by decide +kernel
theorem dX6_goOn_0 : decode cX6_goOn 0 = .ok (.aload_n 0, 1) := by decide +kernel
theorem dX6_goOn_1 : decode cX6_goOn 1 = .ok (.getfield 46, 3) := by decide +kernel
theorem dX6_goOn_4 : decode cX6_goOn 4 = .ok (.getfield 194, 3) := by decide +kernel
theorem dX6_goOn_7 : decode cX6_goOn 7 = .ok (.istore_n 1, 1) := by decide +kernel
theorem dX6_goOn_8 : decode cX6_goOn 8 = .ok (.iconst 0, 1) := by decide +kernel
theorem dX6_goOn_9 : decode cX6_goOn 9 = .ok (.istore_n 2, 1) := by decide +kernel
theorem dX6_goOn_10 : decode cX6_goOn 10 = .ok (.iload_n 1, 1) := by decide +kernel
theorem dX6_goOn_11 : decode cX6_goOn 11 = .ok (.ifCond .eq 20, 3) := by decide +kernel
theorem dX6_goOn_14 : decode cX6_goOn 14 = .ok (.iload_n 2, 1) := by decide +kernel
theorem dX6_goOn_15 : decode cX6_goOn 15 = .ok (.bipush 40, 2) := by decide +kernel
theorem dX6_goOn_17 : decode cX6_goOn 17 = .ok (.if_icmp .ge 14, 3) := by decide +kernel
theorem dX6_goOn_20 : decode cX6_goOn 20 = .ok (.aload_n 0, 1) := by decide +kernel
theorem dX6_goOn_21 : decode cX6_goOn 21 = .ok (.invokevirtual 346, 3) := by decide +kernel
theorem dX6_goOn_24 : decode cX6_goOn 24 = .ok (.istore_n 1, 1) := by decide +kernel
theorem dX6_goOn_25 : decode cX6_goOn 25 = .ok (.iinc 2 1, 3) := by decide +kernel
theorem dX6_goOn_28 : decode cX6_goOn 28 = .ok (.goto (-18), 3) := by decide +kernel
theorem dX6_goOn_31 : decode cX6_goOn 31 = .ok (.return_, 1) := by decide +kernel
theorem dX6_bisectOnce_0 : decode cX6_bisectOnce 0 = .ok (.aload_n 0, 1) := by decide +kernel
theorem dX6_bisectOnce_1 : decode cX6_bisectOnce 1 = .ok (.getfield 46, 3) := by decide +kernel
theorem dX6_bisectOnce_4 : decode cX6_bisectOnce 4 = .ok (.invokevirtual 349, 3) := by decide +kernel
theorem dX6_bisectOnce_7 : decode cX6_bisectOnce 7 = .ok (.istore_n 1, 1) := by decide +kernel
theorem dX6_bisectOnce_8 : decode cX6_bisectOnce 8 = .ok (.aload_n 0, 1) := by decide +kernel
theorem dX6_bisectOnce_9 : decode cX6_bisectOnce 9 = .ok (.aload_n 0, 1) := by decide +kernel
theorem dX6_bisectOnce_10 : decode cX6_bisectOnce 10 = .ok (.getfield 46, 3) := by decide +kernel
theorem dX6_bisectOnce_13 : decode cX6_bisectOnce 13 = .ok (.getfield 210, 3) := by decide +kernel
theorem dX6_bisectOnce_16 : decode cX6_bisectOnce 16 = .ok (.iload_n 1, 1) := by decide +kernel
theorem dX6_bisectOnce_17 : decode cX6_bisectOnce 17 = .ok (.invokevirtual 178, 3) := by decide +kernel
theorem dX6_bisectOnce_20 : decode cX6_bisectOnce 20 = .ok (.aload_n 0, 1) := by decide +kernel
theorem dX6_bisectOnce_21 : decode cX6_bisectOnce 21 = .ok (.getfield 39, 3) := by decide +kernel
theorem dX6_bisectOnce_24 : decode cX6_bisectOnce 24 = .ok (.aload_n 0, 1) := by decide +kernel
theorem dX6_bisectOnce_25 : decode cX6_bisectOnce 25 = .ok (.getfield 50, 3) := by decide +kernel
theorem dX6_bisectOnce_28 : decode cX6_bisectOnce 28 = .ok (.aload_n 0, 1) := by decide +kernel
theorem dX6_bisectOnce_29 : decode cX6_bisectOnce 29 = .ok (.getfield 54, 3) := by decide +kernel
theorem dX6_bisectOnce_32 : decode cX6_bisectOnce 32 = .ok (.invokevirtual 265, 3) := by decide +kernel
theorem dX6_bisectOnce_35 : decode cX6_bisectOnce 35 = .ok (.istore_n 2, 1) := by decide +kernel
theorem dX6_bisectOnce_36 : decode cX6_bisectOnce 36 = .ok (.iload_n 2, 1) := by decide +kernel
theorem dX6_bisectOnce_37 : decode cX6_bisectOnce 37 = .ok (.ifCond .eq 8, 3) := by decide +kernel
theorem dX6_bisectOnce_40 : decode cX6_bisectOnce 40 = .ok (.iload_n 2, 1) := by decide +kernel
theorem dX6_bisectOnce_41 : decode cX6_bisectOnce 41 = .ok (.iconst 4, 1) := by decide +kernel
theorem dX6_bisectOnce_42 : decode cX6_bisectOnce 42 = .ok (.if_icmp .ne 46, 3) := by decide +kernel
theorem dX6_bisectOnce_45 : decode cX6_bisectOnce 45 = .ok (.aload_n 0, 1) := by decide +kernel
theorem dX6_bisectOnce_46 : decode cX6_bisectOnce 46 = .ok (.getfield 46, 3) := by decide +kernel
theorem dX6_bisectOnce_49 : decode cX6_bisectOnce 49 = .ok (.aload_n 0, 1) := by decide +kernel
theorem dX6_bisectOnce_50 : decode cX6_bisectOnce 50 = .ok (.getfield 39, 3) := by decide +kernel
theorem dX6_bisectOnce_53 : decode cX6_bisectOnce 53 = .ok (.getfield 247, 3) := by decide +kernel
theorem dX6_bisectOnce_56 : decode cX6_bisectOnce 56 = .ok (.getfield 320, 3) := by decide +kernel
theorem dX6_bisectOnce_59 : decode cX6_bisectOnce 59 = .ok (.aload_n 0, 1) := by decide +kernel
theorem dX6_bisectOnce_60 : decode cX6_bisectOnce 60 = .ok (.getfield 39, 3) := by decide +kernel
theorem dX6_bisectOnce_63 : decode cX6_bisectOnce 63 = .ok (.getfield 257, 3) := by decide +kernel
theorem dX6_bisectOnce_66 : decode cX6_bisectOnce 66 = .ok (.getfield 320, 3) := by decide +kernel
theorem dX6_bisectOnce_69 : decode cX6_bisectOnce 69 = .ok (.if_icmp .ge 13, 3) := by decide +kernel
theorem dX6_bisectOnce_72 : decode cX6_bisectOnce 72 = .ok (.aload_n 0, 1) := by decide +kernel
theorem dX6_bisectOnce_73 : decode cX6_bisectOnce 73 = .ok (.getfield 46, 3) := by decide +kernel
theorem dX6_bisectOnce_76 : decode cX6_bisectOnce 76 = .ok (.getfield 210, 3) := by decide +kernel
theorem dX6_bisectOnce_79 : decode cX6_bisectOnce 79 = .ok (.goto 4, 3) := by decide +kernel
theorem dX6_bisectOnce_82 : decode cX6_bisectOnce 82 = .ok (.iload_n 1, 1) := by decide +kernel
theorem dX6_bisectOnce_83 : decode cX6_bisectOnce 83 = .ok (.putfield 202, 3) := by decide +kernel
theorem dX6_bisectOnce_86 : decode cX6_bisectOnce 86 = .ok (.iconst 0, 1) := by decide +kernel
theorem dX6_bisectOnce_87 : decode cX6_bisectOnce 87 = .ok (.ireturn, 1) := by decide +kernel
theorem dX6_bisectOnce_88 : decode cX6_bisectOnce 88 = .ok (.iload_n 1, 1) := by decide +kernel
theorem dX6_bisectOnce_89 : decode cX6_bisectOnce 89 = .ok (.aload_n 0, 1) := by decide +kernel
theorem dX6_bisectOnce_90 : decode cX6_bisectOnce 90 = .ok (.getfield 46, 3) := by decide +kernel
theorem dX6_bisectOnce_93 : decode cX6_bisectOnce 93 = .ok (.getfield 207, 3) := by decide +kernel
theorem dX6_bisectOnce_96 : decode cX6_bisectOnce 96 = .ok (.if_icmp .ne 31, 3) := by decide +kernel
theorem dX6_bisectOnce_99 : decode cX6_bisectOnce 99 = .ok (.iload_n 2, 1) := by decide +kernel
theorem dX6_bisectOnce_100 : decode cX6_bisectOnce 100 = .ok (.iconst 1, 1) := by decide +kernel
theorem dX6_bisectOnce_101 : decode cX6_bisectOnce 101 = .ok (.if_icmp .ne 17, 3) := by decide +kernel
theorem dX6_bisectOnce_104 : decode cX6_bisectOnce 104 = .ok (.aload_n 0, 1) := by decide +kernel
theorem dX6_bisectOnce_105 : decode cX6_bisectOnce 105 = .ok (.iload_n 1, 1) := by decide +kernel
theorem dX6_bisectOnce_106 : decode cX6_bisectOnce 106 = .ok (.invokevirtual 151, 3) := by decide +kernel
theorem dX6_bisectOnce_109 : decode cX6_bisectOnce 109 = .ok (.iconst 1, 1) := by decide +kernel
theorem dX6_bisectOnce_110 : decode cX6_bisectOnce 110 = .ok (.putfield 223, 3) := by decide +kernel
theorem dX6_bisectOnce_113 : decode cX6_bisectOnce 113 = .ok (.aload_n 0, 1) := by decide +kernel
theorem dX6_bisectOnce_114 : decode cX6_bisectOnce 114 = .ok (.iload_n 1, 1) := by decide +kernel
theorem dX6_bisectOnce_115 : decode cX6_bisectOnce 115 = .ok (.putfield 66, 3) := by decide +kernel
theorem dX6_bisectOnce_118 : decode cX6_bisectOnce 118 = .ok (.aload_n 0, 1) := by decide +kernel
theorem dX6_bisectOnce_119 : decode cX6_bisectOnce 119 = .ok (.getfield 46, 3) := by decide +kernel
theorem dX6_bisectOnce_122 : decode cX6_bisectOnce 122 = .ok (.invokevirtual 213, 3) := by decide +kernel
theorem dX6_bisectOnce_125 : decode cX6_bisectOnce 125 = .ok (.iconst 0, 1) := by decide +kernel
theorem dX6_bisectOnce_126 : decode cX6_bisectOnce 126 = .ok (.ireturn, 1) := by decide +kernel
theorem dX6_bisectOnce_127 : decode cX6_bisectOnce 127 = .ok (.aload_n 0, 1) := by decide +kernel
theorem dX6_bisectOnce_128 : decode cX6_bisectOnce 128 = .ok (.getfield 46, 3) := by decide +kernel
theorem dX6_bisectOnce_131 : decode cX6_bisectOnce 131 = .ok (.iload_n 1, 1) := by decide +kernel
theorem dX6_bisectOnce_132 : decode cX6_bisectOnce 132 = .ok (.iload_n 2, 1) := by decide +kernel
theorem dX6_bisectOnce_133 : decode cX6_bisectOnce 133 = .ok (.iconst 1, 1) := by decide +kernel
theorem dX6_bisectOnce_134 : decode cX6_bisectOnce 134 = .ok (.if_icmp .ne 7, 3) := by decide +kernel
theorem dX6_bisectOnce_137 : decode cX6_bisectOnce 137 = .ok (.iconst 1, 1) := by decide +kernel
theorem dX6_bisectOnce_138 : decode cX6_bisectOnce 138 = .ok (.goto 4, 3) := by decide +kernel
theorem dX6_bisectOnce_141 : decode cX6_bisectOnce 141 = .ok (.iconst 0, 1) := by decide +kernel
theorem dX6_bisectOnce_142 : decode cX6_bisectOnce 142 = .ok (.invokevirtual 352, 3) := by decide +kernel
theorem dX6_bisectOnce_145 : decode cX6_bisectOnce 145 = .ok (.iconst 1, 1) := by decide +kernel
theorem dX6_bisectOnce_146 : decode cX6_bisectOnce 146 = .ok (.ireturn, 1) := by decide +kernel
theorem dX6_creditOfStepTo_0 : decode cX6_creditOfStepTo 0 = .ok (.aload_n 0, 1) := by decide +kernel
theorem dX6_creditOfStepTo_1 : decode cX6_creditOfStepTo 1 = .ok (.iload_n 1, 1) := by decide +kernel
theorem dX6_creditOfStepTo_2 : decode cX6_creditOfStepTo 2 = .ok (.invokevirtual 151, 3) := by decide +kernel
theorem dX6_creditOfStepTo_5 : decode cX6_creditOfStepTo 5 = .ok (.getfield 226, 3) := by decide +kernel
theorem dX6_creditOfStepTo_8 : decode cX6_creditOfStepTo 8 = .ok (.ifCond .eq 5, 3) := by decide +kernel
theorem dX6_creditOfStepTo_11 : decode cX6_creditOfStepTo 11 = .ok (.iconst 0, 1) := by decide +kernel
theorem dX6_creditOfStepTo_12 : decode cX6_creditOfStepTo 12 = .ok (.ireturn, 1) := by decide +kernel
theorem dX6_creditOfStepTo_13 : decode cX6_creditOfStepTo 13 = .ok (.aload_n 0, 1) := by decide +kernel
theorem dX6_creditOfStepTo_14 : decode cX6_creditOfStepTo 14 = .ok (.iload_n 1, 1) := by decide +kernel
theorem dX6_creditOfStepTo_15 : decode cX6_creditOfStepTo 15 = .ok (.iconst 1, 1) := by decide +kernel
theorem dX6_creditOfStepTo_16 : decode cX6_creditOfStepTo 16 = .ok (.isub, 1) := by decide +kernel
theorem dX6_creditOfStepTo_17 : decode cX6_creditOfStepTo 17 = .ok (.iload_n 1, 1) := by decide +kernel
theorem dX6_creditOfStepTo_18 : decode cX6_creditOfStepTo 18 = .ok (.invokevirtual 178, 3) := by decide +kernel
theorem dX6_creditOfStepTo_21 : decode cX6_creditOfStepTo 21 = .ok (.aload_n 0, 1) := by decide +kernel
theorem dX6_creditOfStepTo_22 : decode cX6_creditOfStepTo 22 = .ok (.getfield 39, 3) := by decide +kernel
theorem dX6_creditOfStepTo_25 : decode cX6_creditOfStepTo 25 = .ok (.aload_n 0, 1) := by decide +kernel
theorem dX6_creditOfStepTo_26 : decode cX6_creditOfStepTo 26 = .ok (.getfield 50, 3) := by decide +kernel
theorem dX6_creditOfStepTo_29 : decode cX6_creditOfStepTo 29 = .ok (.aload_n 0, 1) := by decide +kernel
theorem dX6_creditOfStepTo_30 : decode cX6_creditOfStepTo 30 = .ok (.getfield 54, 3) := by decide +kernel
theorem dX6_creditOfStepTo_33 : decode cX6_creditOfStepTo 33 = .ok (.invokevirtual 265, 3) := by decide +kernel
theorem dX6_creditOfStepTo_36 : decode cX6_creditOfStepTo 36 = .ok (.lookupswitch 33 #[(2, 28), (3, 31)], 28) := by decide +kernel
theorem dX6_creditOfStepTo_64 : decode cX6_creditOfStepTo 64 = .ok (.bipush 10, 2) := by decide +kernel
theorem dX6_creditOfStepTo_66 : decode cX6_creditOfStepTo 66 = .ok (.ireturn, 1) := by decide +kernel
theorem dX6_creditOfStepTo_67 : decode cX6_creditOfStepTo 67 = .ok (.iconst 0, 1) := by decide +kernel
theorem dX6_creditOfStepTo_68 : decode cX6_creditOfStepTo 68 = .ok (.ireturn, 1) := by decide +kernel
theorem dX6_creditOfStepTo_69 : decode cX6_creditOfStepTo 69 = .ok (.iconst (-1), 1) := by decide +kernel
theorem dX6_creditOfStepTo_70 : decode cX6_creditOfStepTo 70 = .ok (.ireturn, 1) := by decide +kernel
theorem dX6_minutesToFill_0 : decode cX6_minutesToFill 0 = .ok (.bipush 6, 2) := by decide +kernel
theorem dX6_minutesToFill_2 : decode cX6_minutesToFill 2 = .ok (.aload_n 1, 1) := by decide +kernel
theorem dX6_minutesToFill_3 : decode cX6_minutesToFill 3 = .ok (.invokevirtual 356, 3) := by decide +kernel
theorem dX6_minutesToFill_6 : decode cX6_minutesToFill 6 = .ok (.isub, 1) := by decide +kernel
theorem dX6_minutesToFill_7 : decode cX6_minutesToFill 7 = .ok (.istore_n 2, 1) := by decide +kernel
theorem dX6_minutesToFill_8 : decode cX6_minutesToFill 8 = .ok (.iload_n 2, 1) := by decide +kernel
theorem dX6_minutesToFill_9 : decode cX6_minutesToFill 9 = .ok (.ifCond .ne 5, 3) := by decide +kernel
theorem dX6_minutesToFill_12 : decode cX6_minutesToFill 12 = .ok (.iconst 0, 1) := by decide +kernel
theorem dX6_minutesToFill_13 : decode cX6_minutesToFill 13 = .ok (.ireturn, 1) := by decide +kernel
theorem dX6_minutesToFill_14 : decode cX6_minutesToFill 14 = .ok (.aload_n 0, 1) := by decide +kernel
theorem dX6_minutesToFill_15 : decode cX6_minutesToFill 15 = .ok (.invokevirtual 359, 3) := by decide +kernel
theorem dX6_minutesToFill_18 : decode cX6_minutesToFill 18 = .ok (.istore_n 3, 1) := by decide +kernel
theorem dX6_minutesToFill_19 : decode cX6_minutesToFill 19 = .ok (.iload_n 3, 1) := by decide +kernel
theorem dX6_minutesToFill_20 : decode cX6_minutesToFill 20 = .ok (.iconst (-1), 1) := by decide +kernel
theorem dX6_minutesToFill_21 : decode cX6_minutesToFill 21 = .ok (.if_icmp .ne 7, 3) := by decide +kernel
theorem dX6_minutesToFill_24 : decode cX6_minutesToFill 24 = .ok (.iconst (-1), 1) := by decide +kernel
theorem dX6_minutesToFill_25 : decode cX6_minutesToFill 25 = .ok (.goto 6, 3) := by decide +kernel
theorem dX6_minutesToFill_28 : decode cX6_minutesToFill 28 = .ok (.iload_n 2, 1) := by decide +kernel
theorem dX6_minutesToFill_29 : decode cX6_minutesToFill 29 = .ok (.iload_n 3, 1) := by decide +kernel
theorem dX6_minutesToFill_30 : decode cX6_minutesToFill 30 = .ok (.imul, 1) := by decide +kernel
theorem dX6_minutesToFill_31 : decode cX6_minutesToFill 31 = .ok (.ireturn, 1) := by decide +kernel
theorem dX6_leastPrice_0 : decode cX6_leastPrice 0 = .ok (.iconst (-1), 1) := by decide +kernel
theorem dX6_leastPrice_1 : decode cX6_leastPrice 1 = .ok (.istore_n 1, 1) := by decide +kernel
theorem dX6_leastPrice_2 : decode cX6_leastPrice 2 = .ok (.iconst 0, 1) := by decide +kernel
theorem dX6_leastPrice_3 : decode cX6_leastPrice 3 = .ok (.istore_n 2, 1) := by decide +kernel
theorem dX6_leastPrice_4 : decode cX6_leastPrice 4 = .ok (.iload_n 2, 1) := by decide +kernel
theorem dX6_leastPrice_5 : decode cX6_leastPrice 5 = .ok (.aload_n 0, 1) := by decide +kernel
theorem dX6_leastPrice_6 : decode cX6_leastPrice 6 = .ok (.getfield 10, 3) := by decide +kernel
theorem dX6_leastPrice_9 : decode cX6_leastPrice 9 = .ok (.invokevirtual 88, 3) := by decide +kernel
theorem dX6_leastPrice_12 : decode cX6_leastPrice 12 = .ok (.if_icmp .ge 46, 3) := by decide +kernel
theorem dX6_leastPrice_15 : decode cX6_leastPrice 15 = .ok (.aload_n 0, 1) := by decide +kernel
theorem dX6_leastPrice_16 : decode cX6_leastPrice 16 = .ok (.getfield 10, 3) := by decide +kernel
theorem dX6_leastPrice_19 : decode cX6_leastPrice 19 = .ok (.iload_n 2, 1) := by decide +kernel
theorem dX6_leastPrice_20 : decode cX6_leastPrice 20 = .ok (.invokevirtual 109, 3) := by decide +kernel
theorem dX6_leastPrice_23 : decode cX6_leastPrice 23 = .ok (.checkcast 97, 3) := by decide +kernel
theorem dX6_leastPrice_26 : decode cX6_leastPrice 26 = .ok (.astore_n 3, 1) := by decide +kernel
theorem dX6_leastPrice_27 : decode cX6_leastPrice 27 = .ok (.aload_n 3, 1) := by decide +kernel
theorem dX6_leastPrice_28 : decode cX6_leastPrice 28 = .ok (.getfield 120, 3) := by decide +kernel
theorem dX6_leastPrice_31 : decode cX6_leastPrice 31 = .ok (.ifCond .ne 21, 3) := by decide +kernel
theorem dX6_leastPrice_34 : decode cX6_leastPrice 34 = .ok (.iload_n 1, 1) := by decide +kernel
theorem dX6_leastPrice_35 : decode cX6_leastPrice 35 = .ok (.iconst (-1), 1) := by decide +kernel
theorem dX6_leastPrice_36 : decode cX6_leastPrice 36 = .ok (.if_icmp .eq 11, 3) := by decide +kernel
theorem dX6_leastPrice_39 : decode cX6_leastPrice 39 = .ok (.aload_n 3, 1) := by decide +kernel
theorem dX6_leastPrice_40 : decode cX6_leastPrice 40 = .ok (.getfield 141, 3) := by decide +kernel
theorem dX6_leastPrice_43 : decode cX6_leastPrice 43 = .ok (.iload_n 1, 1) := by decide +kernel
theorem dX6_leastPrice_44 : decode cX6_leastPrice 44 = .ok (.if_icmp .ge 8, 3) := by decide +kernel
theorem dX6_leastPrice_47 : decode cX6_leastPrice 47 = .ok (.aload_n 3, 1) := by decide +kernel
theorem dX6_leastPrice_48 : decode cX6_leastPrice 48 = .ok (.getfield 141, 3) := by decide +kernel
theorem dX6_leastPrice_51 : decode cX6_leastPrice 51 = .ok (.istore_n 1, 1) := by decide +kernel
theorem dX6_leastPrice_52 : decode cX6_leastPrice 52 = .ok (.iinc 2 1, 3) := by decide +kernel
theorem dX6_leastPrice_55 : decode cX6_leastPrice 55 = .ok (.goto (-51), 3) := by decide +kernel
theorem dX6_leastPrice_58 : decode cX6_leastPrice 58 = .ok (.iload_n 1, 1) := by decide +kernel
theorem dX6_leastPrice_59 : decode cX6_leastPrice 59 = .ok (.ireturn, 1) := by decide +kernel
theorem dX6_changesHurtWithout_0 : decode cX6_changesHurtWithout 0 = .ok (.iconst 0, 1) := by decide +kernel
theorem dX6_changesHurtWithout_1 : decode cX6_changesHurtWithout 1 = .ok (.istore_n 2, 1) := by decide +kernel
theorem dX6_changesHurtWithout_2 : decode cX6_changesHurtWithout 2 = .ok (.iconst 0, 1) := by decide +kernel
theorem dX6_changesHurtWithout_3 : decode cX6_changesHurtWithout 3 = .ok (.istore_n 3, 1) := by decide +kernel
theorem dX6_changesHurtWithout_4 : decode cX6_changesHurtWithout 4 = .ok (.iload_n 3, 1) := by decide +kernel
theorem dX6_changesHurtWithout_5 : decode cX6_changesHurtWithout 5 = .ok (.aload_n 0, 1) := by decide +kernel
theorem dX6_changesHurtWithout_6 : decode cX6_changesHurtWithout 6 = .ok (.getfield 16, 3) := by decide +kernel
theorem dX6_changesHurtWithout_9 : decode cX6_changesHurtWithout 9 = .ok (.invokevirtual 88, 3) := by decide +kernel
theorem dX6_changesHurtWithout_12 : decode cX6_changesHurtWithout 12 = .ok (.if_icmp .ge 47, 3) := by decide +kernel
theorem dX6_changesHurtWithout_15 : decode cX6_changesHurtWithout 15 = .ok (.aload_n 0, 1) := by decide +kernel
theorem dX6_changesHurtWithout_16 : decode cX6_changesHurtWithout 16 = .ok (.getfield 16, 3) := by decide +kernel
theorem dX6_changesHurtWithout_19 : decode cX6_changesHurtWithout 19 = .ok (.iload_n 3, 1) := by decide +kernel
theorem dX6_changesHurtWithout_20 : decode cX6_changesHurtWithout 20 = .ok (.invokevirtual 109, 3) := by decide +kernel
theorem dX6_changesHurtWithout_23 : decode cX6_changesHurtWithout 23 = .ok (.checkcast 22, 3) := by decide +kernel
theorem dX6_changesHurtWithout_26 : decode cX6_changesHurtWithout 26 = .ok (.astore 4, 2) := by decide +kernel
theorem dX6_changesHurtWithout_28 : decode cX6_changesHurtWithout 28 = .ok (.iload_n 2, 1) := by decide +kernel
theorem dX6_changesHurtWithout_29 : decode cX6_changesHurtWithout 29 = .ok (.aload 4, 2) := by decide +kernel
theorem dX6_changesHurtWithout_31 : decode cX6_changesHurtWithout 31 = .ok (.aload_n 1, 1) := by decide +kernel
theorem dX6_changesHurtWithout_32 : decode cX6_changesHurtWithout 32 = .ok (.invokevirtual 362, 3) := by decide +kernel
theorem dX6_changesHurtWithout_35 : decode cX6_changesHurtWithout 35 = .ok (.aload 4, 2) := by decide +kernel
theorem dX6_changesHurtWithout_37 : decode cX6_changesHurtWithout 37 = .ok (.invokevirtual 356, 3) := by decide +kernel
theorem dX6_changesHurtWithout_40 : decode cX6_changesHurtWithout 40 = .ok (.if_icmp .ge 7, 3) := by decide +kernel
theorem dX6_changesHurtWithout_43 : decode cX6_changesHurtWithout 43 = .ok (.iconst 1, 1) := by decide +kernel
theorem dX6_changesHurtWithout_44 : decode cX6_changesHurtWithout 44 = .ok (.goto 4, 3) := by decide +kernel
theorem dX6_changesHurtWithout_47 : decode cX6_changesHurtWithout 47 = .ok (.iconst 0, 1) := by decide +kernel
theorem dX6_changesHurtWithout_48 : decode cX6_changesHurtWithout 48 = .ok (.invokestatic 295, 3) := by decide +kernel
theorem dX6_changesHurtWithout_51 : decode cX6_changesHurtWithout 51 = .ok (.iadd, 1) := by decide +kernel
theorem dX6_changesHurtWithout_52 : decode cX6_changesHurtWithout 52 = .ok (.istore_n 2, 1) := by decide +kernel
theorem dX6_changesHurtWithout_53 : decode cX6_changesHurtWithout 53 = .ok (.iinc 3 1, 3) := by decide +kernel
theorem dX6_changesHurtWithout_56 : decode cX6_changesHurtWithout 56 = .ok (.goto (-52), 3) := by decide +kernel
theorem dX6_changesHurtWithout_59 : decode cX6_changesHurtWithout 59 = .ok (.iload_n 2, 1) := by decide +kernel
theorem dX6_changesHurtWithout_60 : decode cX6_changesHurtWithout 60 = .ok (.ireturn, 1) := by decide +kernel
theorem dX6_digestOfMachines_0 : decode cX6_digestOfMachines 0 = .ok (.iconst 0, 1) := by decide +kernel
theorem dX6_digestOfMachines_1 : decode cX6_digestOfMachines 1 = .ok (.istore_n 3, 1) := by decide +kernel
theorem dX6_digestOfMachines_2 : decode cX6_digestOfMachines 2 = .ok (.iload_n 3, 1) := by decide +kernel
theorem dX6_digestOfMachines_3 : decode cX6_digestOfMachines 3 = .ok (.aload_n 0, 1) := by decide +kernel
theorem dX6_digestOfMachines_4 : decode cX6_digestOfMachines 4 = .ok (.getfield 10, 3) := by decide +kernel
theorem dX6_digestOfMachines_7 : decode cX6_digestOfMachines 7 = .ok (.invokevirtual 88, 3) := by decide +kernel
theorem dX6_digestOfMachines_10 : decode cX6_digestOfMachines 10 = .ok (.if_icmp .ge 67, 3) := by decide +kernel
theorem dX6_digestOfMachines_13 : decode cX6_digestOfMachines 13 = .ok (.aload_n 0, 1) := by decide +kernel
theorem dX6_digestOfMachines_14 : decode cX6_digestOfMachines 14 = .ok (.getfield 10, 3) := by decide +kernel
theorem dX6_digestOfMachines_17 : decode cX6_digestOfMachines 17 = .ok (.iload_n 3, 1) := by decide +kernel
theorem dX6_digestOfMachines_18 : decode cX6_digestOfMachines 18 = .ok (.invokevirtual 109, 3) := by decide +kernel
theorem dX6_digestOfMachines_21 : decode cX6_digestOfMachines 21 = .ok (.checkcast 97, 3) := by decide +kernel
theorem dX6_digestOfMachines_24 : decode cX6_digestOfMachines 24 = .ok (.astore 4, 2) := by decide +kernel
theorem dX6_digestOfMachines_26 : decode cX6_digestOfMachines 26 = .ok (.iconst 0, 1) := by decide +kernel
theorem dX6_digestOfMachines_27 : decode cX6_digestOfMachines 27 = .ok (.istore 5, 2) := by decide +kernel
theorem dX6_digestOfMachines_29 : decode cX6_digestOfMachines 29 = .ok (.iload 5, 2) := by decide +kernel
theorem dX6_digestOfMachines_31 : decode cX6_digestOfMachines 31 = .ok (.iconst 4, 1) := by decide +kernel
theorem dX6_digestOfMachines_32 : decode cX6_digestOfMachines 32 = .ok (.if_icmp .gt 25, 3) := by decide +kernel
theorem dX6_digestOfMachines_35 : decode cX6_digestOfMachines 35 = .ok (.lload_n 1, 1) := by decide +kernel
theorem dX6_digestOfMachines_36 : decode cX6_digestOfMachines 36 = .ok (.ldc2_w 274, 3) := by decide +kernel
theorem dX6_digestOfMachines_39 : decode cX6_digestOfMachines 39 = .ok (.lmul, 1) := by decide +kernel
theorem dX6_digestOfMachines_40 : decode cX6_digestOfMachines 40 = .ok (.aload_n 0, 1) := by decide +kernel
theorem dX6_digestOfMachines_41 : decode cX6_digestOfMachines 41 = .ok (.aload 4, 2) := by decide +kernel
theorem dX6_digestOfMachines_43 : decode cX6_digestOfMachines 43 = .ok (.iload 5, 2) := by decide +kernel
theorem dX6_digestOfMachines_45 : decode cX6_digestOfMachines 45 = .ok (.invokevirtual 126, 3) := by decide +kernel
theorem dX6_digestOfMachines_48 : decode cX6_digestOfMachines 48 = .ok (.i2l, 1) := by decide +kernel
theorem dX6_digestOfMachines_49 : decode cX6_digestOfMachines 49 = .ok (.ladd, 1) := by decide +kernel
theorem dX6_digestOfMachines_50 : decode cX6_digestOfMachines 50 = .ok (.lstore_n 1, 1) := by decide +kernel
theorem dX6_digestOfMachines_51 : decode cX6_digestOfMachines 51 = .ok (.iinc 5 1, 3) := by decide +kernel
theorem dX6_digestOfMachines_54 : decode cX6_digestOfMachines 54 = .ok (.goto (-25), 3) := by decide +kernel
theorem dX6_digestOfMachines_57 : decode cX6_digestOfMachines 57 = .ok (.lload_n 1, 1) := by decide +kernel
theorem dX6_digestOfMachines_58 : decode cX6_digestOfMachines 58 = .ok (.ldc2_w 274, 3) := by decide +kernel
theorem dX6_digestOfMachines_61 : decode cX6_digestOfMachines 61 = .ok (.lmul, 1) := by decide +kernel
theorem dX6_digestOfMachines_62 : decode cX6_digestOfMachines 62 = .ok (.aload_n 0, 1) := by decide +kernel
theorem dX6_digestOfMachines_63 : decode cX6_digestOfMachines 63 = .ok (.aload 4, 2) := by decide +kernel
theorem dX6_digestOfMachines_65 : decode cX6_digestOfMachines 65 = .ok (.invokevirtual 268, 3) := by decide +kernel
theorem dX6_digestOfMachines_68 : decode cX6_digestOfMachines 68 = .ok (.i2l, 1) := by decide +kernel
theorem dX6_digestOfMachines_69 : decode cX6_digestOfMachines 69 = .ok (.ladd, 1) := by decide +kernel
theorem dX6_digestOfMachines_70 : decode cX6_digestOfMachines 70 = .ok (.lstore_n 1, 1) := by decide +kernel
theorem dX6_digestOfMachines_71 : decode cX6_digestOfMachines 71 = .ok (.iinc 3 1, 3) := by decide +kernel
theorem dX6_digestOfMachines_74 : decode cX6_digestOfMachines 74 = .ok (.goto (-72), 3) := by decide +kernel
theorem dX6_digestOfMachines_77 : decode cX6_digestOfMachines 77 = .ok (.lload_n 1, 1) := by decide +kernel
theorem dX6_digestOfMachines_78 : decode cX6_digestOfMachines 78 = .ok (.lreturn, 1) := by decide +kernel
theorem dX6_digestOfChanges_0 : decode cX6_digestOfChanges 0 = .ok (.iconst 0, 1) := by decide +kernel
theorem dX6_digestOfChanges_1 : decode cX6_digestOfChanges 1 = .ok (.istore_n 3, 1) := by decide +kernel
theorem dX6_digestOfChanges_2 : decode cX6_digestOfChanges 2 = .ok (.iload_n 3, 1) := by decide +kernel
theorem dX6_digestOfChanges_3 : decode cX6_digestOfChanges 3 = .ok (.aload_n 0, 1) := by decide +kernel
theorem dX6_digestOfChanges_4 : decode cX6_digestOfChanges 4 = .ok (.getfield 16, 3) := by decide +kernel
theorem dX6_digestOfChanges_7 : decode cX6_digestOfChanges 7 = .ok (.invokevirtual 88, 3) := by decide +kernel
theorem dX6_digestOfChanges_10 : decode cX6_digestOfChanges 10 = .ok (.if_icmp .ge 67, 3) := by decide +kernel
theorem dX6_digestOfChanges_13 : decode cX6_digestOfChanges 13 = .ok (.aload_n 0, 1) := by decide +kernel
theorem dX6_digestOfChanges_14 : decode cX6_digestOfChanges 14 = .ok (.getfield 16, 3) := by decide +kernel
theorem dX6_digestOfChanges_17 : decode cX6_digestOfChanges 17 = .ok (.iload_n 3, 1) := by decide +kernel
theorem dX6_digestOfChanges_18 : decode cX6_digestOfChanges 18 = .ok (.invokevirtual 109, 3) := by decide +kernel
theorem dX6_digestOfChanges_21 : decode cX6_digestOfChanges 21 = .ok (.checkcast 22, 3) := by decide +kernel
theorem dX6_digestOfChanges_24 : decode cX6_digestOfChanges 24 = .ok (.astore 4, 2) := by decide +kernel
theorem dX6_digestOfChanges_26 : decode cX6_digestOfChanges 26 = .ok (.iconst 0, 1) := by decide +kernel
theorem dX6_digestOfChanges_27 : decode cX6_digestOfChanges 27 = .ok (.istore 5, 2) := by decide +kernel
theorem dX6_digestOfChanges_29 : decode cX6_digestOfChanges 29 = .ok (.iload 5, 2) := by decide +kernel
theorem dX6_digestOfChanges_31 : decode cX6_digestOfChanges 31 = .ok (.iconst 5, 1) := by decide +kernel
theorem dX6_digestOfChanges_32 : decode cX6_digestOfChanges 32 = .ok (.if_icmp .gt 25, 3) := by decide +kernel
theorem dX6_digestOfChanges_35 : decode cX6_digestOfChanges 35 = .ok (.lload_n 1, 1) := by decide +kernel
theorem dX6_digestOfChanges_36 : decode cX6_digestOfChanges 36 = .ok (.ldc2_w 274, 3) := by decide +kernel
theorem dX6_digestOfChanges_39 : decode cX6_digestOfChanges 39 = .ok (.lmul, 1) := by decide +kernel
theorem dX6_digestOfChanges_40 : decode cX6_digestOfChanges 40 = .ok (.aload_n 0, 1) := by decide +kernel
theorem dX6_digestOfChanges_41 : decode cX6_digestOfChanges 41 = .ok (.aload 4, 2) := by decide +kernel
theorem dX6_digestOfChanges_43 : decode cX6_digestOfChanges 43 = .ok (.iload 5, 2) := by decide +kernel
theorem dX6_digestOfChanges_45 : decode cX6_digestOfChanges 45 = .ok (.invokevirtual 174, 3) := by decide +kernel
theorem dX6_digestOfChanges_48 : decode cX6_digestOfChanges 48 = .ok (.i2l, 1) := by decide +kernel
theorem dX6_digestOfChanges_49 : decode cX6_digestOfChanges 49 = .ok (.ladd, 1) := by decide +kernel
theorem dX6_digestOfChanges_50 : decode cX6_digestOfChanges 50 = .ok (.lstore_n 1, 1) := by decide +kernel
theorem dX6_digestOfChanges_51 : decode cX6_digestOfChanges 51 = .ok (.iinc 5 1, 3) := by decide +kernel
theorem dX6_digestOfChanges_54 : decode cX6_digestOfChanges 54 = .ok (.goto (-25), 3) := by decide +kernel
theorem dX6_digestOfChanges_57 : decode cX6_digestOfChanges 57 = .ok (.lload_n 1, 1) := by decide +kernel
theorem dX6_digestOfChanges_58 : decode cX6_digestOfChanges 58 = .ok (.ldc2_w 274, 3) := by decide +kernel
theorem dX6_digestOfChanges_61 : decode cX6_digestOfChanges 61 = .ok (.lmul, 1) := by decide +kernel
theorem dX6_digestOfChanges_62 : decode cX6_digestOfChanges 62 = .ok (.aload_n 0, 1) := by decide +kernel
theorem dX6_digestOfChanges_63 : decode cX6_digestOfChanges 63 = .ok (.aload 4, 2) := by decide +kernel
theorem dX6_digestOfChanges_65 : decode cX6_digestOfChanges 65 = .ok (.invokevirtual 242, 3) := by decide +kernel
theorem dX6_digestOfChanges_68 : decode cX6_digestOfChanges 68 = .ok (.i2l, 1) := by decide +kernel
theorem dX6_digestOfChanges_69 : decode cX6_digestOfChanges 69 = .ok (.ladd, 1) := by decide +kernel
theorem dX6_digestOfChanges_70 : decode cX6_digestOfChanges 70 = .ok (.lstore_n 1, 1) := by decide +kernel
theorem dX6_digestOfChanges_71 : decode cX6_digestOfChanges 71 = .ok (.iinc 3 1, 3) := by decide +kernel
theorem dX6_digestOfChanges_74 : decode cX6_digestOfChanges 74 = .ok (.goto (-72), 3) := by decide +kernel
theorem dX6_digestOfChanges_77 : decode cX6_digestOfChanges 77 = .ok (.lload_n 1, 1) := by decide +kernel
theorem dX6_digestOfChanges_78 : decode cX6_digestOfChanges 78 = .ok (.lreturn, 1) := by decide +kernel
theorem dX6_digestOfRuns_0 : decode cX6_digestOfRuns 0 = .ok (.iconst 0, 1) := by decide +kernel
theorem dX6_digestOfRuns_1 : decode cX6_digestOfRuns 1 = .ok (.istore_n 3, 1) := by decide +kernel
theorem dX6_digestOfRuns_2 : decode cX6_digestOfRuns 2 = .ok (.iload_n 3, 1) := by decide +kernel
theorem dX6_digestOfRuns_3 : decode cX6_digestOfRuns 3 = .ok (.aload_n 0, 1) := by decide +kernel
theorem dX6_digestOfRuns_4 : decode cX6_digestOfRuns 4 = .ok (.getfield 19, 3) := by decide +kernel
theorem dX6_digestOfRuns_7 : decode cX6_digestOfRuns 7 = .ok (.invokevirtual 88, 3) := by decide +kernel
theorem dX6_digestOfRuns_10 : decode cX6_digestOfRuns 10 = .ok (.if_icmp .ge 53, 3) := by decide +kernel
theorem dX6_digestOfRuns_13 : decode cX6_digestOfRuns 13 = .ok (.aload_n 0, 1) := by decide +kernel
theorem dX6_digestOfRuns_14 : decode cX6_digestOfRuns 14 = .ok (.getfield 19, 3) := by decide +kernel
theorem dX6_digestOfRuns_17 : decode cX6_digestOfRuns 17 = .ok (.iload_n 3, 1) := by decide +kernel
theorem dX6_digestOfRuns_18 : decode cX6_digestOfRuns 18 = .ok (.invokevirtual 109, 3) := by decide +kernel
theorem dX6_digestOfRuns_21 : decode cX6_digestOfRuns 21 = .ok (.checkcast 146, 3) := by decide +kernel
theorem dX6_digestOfRuns_24 : decode cX6_digestOfRuns 24 = .ok (.astore 4, 2) := by decide +kernel
theorem dX6_digestOfRuns_26 : decode cX6_digestOfRuns 26 = .ok (.iconst 0, 1) := by decide +kernel
theorem dX6_digestOfRuns_27 : decode cX6_digestOfRuns 27 = .ok (.istore 5, 2) := by decide +kernel
theorem dX6_digestOfRuns_29 : decode cX6_digestOfRuns 29 = .ok (.iload 5, 2) := by decide +kernel
theorem dX6_digestOfRuns_31 : decode cX6_digestOfRuns 31 = .ok (.iconst 5, 1) := by decide +kernel
theorem dX6_digestOfRuns_32 : decode cX6_digestOfRuns 32 = .ok (.if_icmp .gt 25, 3) := by decide +kernel
theorem dX6_digestOfRuns_35 : decode cX6_digestOfRuns 35 = .ok (.lload_n 1, 1) := by decide +kernel
theorem dX6_digestOfRuns_36 : decode cX6_digestOfRuns 36 = .ok (.ldc2_w 274, 3) := by decide +kernel
theorem dX6_digestOfRuns_39 : decode cX6_digestOfRuns 39 = .ok (.lmul, 1) := by decide +kernel
theorem dX6_digestOfRuns_40 : decode cX6_digestOfRuns 40 = .ok (.aload_n 0, 1) := by decide +kernel
theorem dX6_digestOfRuns_41 : decode cX6_digestOfRuns 41 = .ok (.aload 4, 2) := by decide +kernel
theorem dX6_digestOfRuns_43 : decode cX6_digestOfRuns 43 = .ok (.iload 5, 2) := by decide +kernel
theorem dX6_digestOfRuns_45 : decode cX6_digestOfRuns 45 = .ok (.invokevirtual 168, 3) := by decide +kernel
theorem dX6_digestOfRuns_48 : decode cX6_digestOfRuns 48 = .ok (.i2l, 1) := by decide +kernel
theorem dX6_digestOfRuns_49 : decode cX6_digestOfRuns 49 = .ok (.ladd, 1) := by decide +kernel
theorem dX6_digestOfRuns_50 : decode cX6_digestOfRuns 50 = .ok (.lstore_n 1, 1) := by decide +kernel
theorem dX6_digestOfRuns_51 : decode cX6_digestOfRuns 51 = .ok (.iinc 5 1, 3) := by decide +kernel
theorem dX6_digestOfRuns_54 : decode cX6_digestOfRuns 54 = .ok (.goto (-25), 3) := by decide +kernel
theorem dX6_digestOfRuns_57 : decode cX6_digestOfRuns 57 = .ok (.iinc 3 1, 3) := by decide +kernel
theorem dX6_digestOfRuns_60 : decode cX6_digestOfRuns 60 = .ok (.goto (-58), 3) := by decide +kernel
theorem dX6_digestOfRuns_63 : decode cX6_digestOfRuns 63 = .ok (.lload_n 1, 1) := by decide +kernel
theorem dX6_digestOfRuns_64 : decode cX6_digestOfRuns 64 = .ok (.lreturn, 1) := by decide +kernel
theorem dX6_digestOfVerdicts_0 : decode cX6_digestOfVerdicts 0 = .ok (.iconst 1, 1) := by decide +kernel
theorem dX6_digestOfVerdicts_1 : decode cX6_digestOfVerdicts 1 = .ok (.istore_n 3, 1) := by decide +kernel
theorem dX6_digestOfVerdicts_2 : decode cX6_digestOfVerdicts 2 = .ok (.iload_n 3, 1) := by decide +kernel
theorem dX6_digestOfVerdicts_3 : decode cX6_digestOfVerdicts 3 = .ok (.aload_n 0, 1) := by decide +kernel
theorem dX6_digestOfVerdicts_4 : decode cX6_digestOfVerdicts 4 = .ok (.getfield 16, 3) := by decide +kernel
theorem dX6_digestOfVerdicts_7 : decode cX6_digestOfVerdicts 7 = .ok (.invokevirtual 88, 3) := by decide +kernel
theorem dX6_digestOfVerdicts_10 : decode cX6_digestOfVerdicts 10 = .ok (.if_icmp .ge 46, 3) := by decide +kernel
theorem dX6_digestOfVerdicts_13 : decode cX6_digestOfVerdicts 13 = .ok (.aload_n 0, 1) := by decide +kernel
theorem dX6_digestOfVerdicts_14 : decode cX6_digestOfVerdicts 14 = .ok (.iload_n 3, 1) := by decide +kernel
theorem dX6_digestOfVerdicts_15 : decode cX6_digestOfVerdicts 15 = .ok (.iconst 1, 1) := by decide +kernel
theorem dX6_digestOfVerdicts_16 : decode cX6_digestOfVerdicts 16 = .ok (.isub, 1) := by decide +kernel
theorem dX6_digestOfVerdicts_17 : decode cX6_digestOfVerdicts 17 = .ok (.iload_n 3, 1) := by decide +kernel
theorem dX6_digestOfVerdicts_18 : decode cX6_digestOfVerdicts 18 = .ok (.invokevirtual 178, 3) := by decide +kernel
theorem dX6_digestOfVerdicts_21 : decode cX6_digestOfVerdicts 21 = .ok (.iconst 0, 1) := by decide +kernel
theorem dX6_digestOfVerdicts_22 : decode cX6_digestOfVerdicts 22 = .ok (.istore 4, 2) := by decide +kernel
theorem dX6_digestOfVerdicts_24 : decode cX6_digestOfVerdicts 24 = .ok (.iload 4, 2) := by decide +kernel
theorem dX6_digestOfVerdicts_26 : decode cX6_digestOfVerdicts 26 = .ok (.iconst 4, 1) := by decide +kernel
theorem dX6_digestOfVerdicts_27 : decode cX6_digestOfVerdicts 27 = .ok (.if_icmp .gt 23, 3) := by decide +kernel
theorem dX6_digestOfVerdicts_30 : decode cX6_digestOfVerdicts 30 = .ok (.lload_n 1, 1) := by decide +kernel
theorem dX6_digestOfVerdicts_31 : decode cX6_digestOfVerdicts 31 = .ok (.ldc2_w 274, 3) := by decide +kernel
theorem dX6_digestOfVerdicts_34 : decode cX6_digestOfVerdicts 34 = .ok (.lmul, 1) := by decide +kernel
theorem dX6_digestOfVerdicts_35 : decode cX6_digestOfVerdicts 35 = .ok (.aload_n 0, 1) := by decide +kernel
theorem dX6_digestOfVerdicts_36 : decode cX6_digestOfVerdicts 36 = .ok (.iload 4, 2) := by decide +kernel
theorem dX6_digestOfVerdicts_38 : decode cX6_digestOfVerdicts 38 = .ok (.invokevirtual 182, 3) := by decide +kernel
theorem dX6_digestOfVerdicts_41 : decode cX6_digestOfVerdicts 41 = .ok (.i2l, 1) := by decide +kernel
theorem dX6_digestOfVerdicts_42 : decode cX6_digestOfVerdicts 42 = .ok (.ladd, 1) := by decide +kernel
theorem dX6_digestOfVerdicts_43 : decode cX6_digestOfVerdicts 43 = .ok (.lstore_n 1, 1) := by decide +kernel
theorem dX6_digestOfVerdicts_44 : decode cX6_digestOfVerdicts 44 = .ok (.iinc 4 1, 3) := by decide +kernel
theorem dX6_digestOfVerdicts_47 : decode cX6_digestOfVerdicts 47 = .ok (.goto (-23), 3) := by decide +kernel
theorem dX6_digestOfVerdicts_50 : decode cX6_digestOfVerdicts 50 = .ok (.iinc 3 1, 3) := by decide +kernel
theorem dX6_digestOfVerdicts_53 : decode cX6_digestOfVerdicts 53 = .ok (.goto (-51), 3) := by decide +kernel
theorem dX6_digestOfVerdicts_56 : decode cX6_digestOfVerdicts 56 = .ok (.lload_n 1, 1) := by decide +kernel
theorem dX6_digestOfVerdicts_57 : decode cX6_digestOfVerdicts 57 = .ok (.lreturn, 1) := by decide +kernel
theorem dJ9_abs_294c1_0 : decode cJ9_abs_294c1 0 = .ok (.dload_n 0, 1) := by decide +kernel
theorem dJ9_abs_294c1_1 : decode cJ9_abs_294c1 1 = .ok (.invokestatic 79, 3) := by decide +kernel
theorem dJ9_abs_294c1_4 : decode cJ9_abs_294c1 4 = .ok (.ldc2_w 135, 3) := by decide +kernel
theorem dJ9_abs_294c1_7 : decode cJ9_abs_294c1 7 = .ok (.land, 1) := by decide +kernel
theorem dJ9_abs_294c1_8 : decode cJ9_abs_294c1 8 = .ok (.invokestatic 166, 3) := by decide +kernel
theorem dJ9_abs_294c1_11 : decode cJ9_abs_294c1 11 = .ok (.dreturn, 1) := by decide +kernel
theorem dJ9_max_7cf53_0 : decode cJ9_max_7cf53 0 = .ok (.iload_n 0, 1) := by decide +kernel
theorem dJ9_max_7cf53_1 : decode cJ9_max_7cf53 1 = .ok (.iload_n 1, 1) := by decide +kernel
theorem dJ9_max_7cf53_2 : decode cJ9_max_7cf53 2 = .ok (.if_icmp .lt 7, 3) := by decide +kernel
theorem dJ9_max_7cf53_5 : decode cJ9_max_7cf53 5 = .ok (.iload_n 0, 1) := by decide +kernel
theorem dJ9_max_7cf53_6 : decode cJ9_max_7cf53 6 = .ok (.goto 4, 3) := by decide +kernel
theorem dJ9_max_7cf53_9 : decode cJ9_max_7cf53 9 = .ok (.iload_n 1, 1) := by decide +kernel
theorem dJ9_max_7cf53_10 : decode cJ9_max_7cf53 10 = .ok (.ireturn, 1) := by decide +kernel
theorem dJ9_min_7cf53_0 : decode cJ9_min_7cf53 0 = .ok (.iload_n 0, 1) := by decide +kernel
theorem dJ9_min_7cf53_1 : decode cJ9_min_7cf53 1 = .ok (.iload_n 1, 1) := by decide +kernel
theorem dJ9_min_7cf53_2 : decode cJ9_min_7cf53 2 = .ok (.if_icmp .gt 7, 3) := by decide +kernel
theorem dJ9_min_7cf53_5 : decode cJ9_min_7cf53 5 = .ok (.iload_n 0, 1) := by decide +kernel
theorem dJ9_min_7cf53_6 : decode cJ9_min_7cf53 6 = .ok (.goto 4, 3) := by decide +kernel
theorem dJ9_min_7cf53_9 : decode cJ9_min_7cf53 9 = .ok (.iload_n 1, 1) := by decide +kernel
theorem dJ9_min_7cf53_10 : decode cJ9_min_7cf53 10 = .ok (.ireturn, 1) := by decide +kernel
theorem dJxa1e45_init_da8c8_0 : decode cJxa1e45_init_da8c8 0 = .ok (.aload_n 0, 1) := by decide +kernel
theorem dJxa1e45_init_da8c8_1 : decode cJxa1e45_init_da8c8 1 = .ok (.invokespecial 1, 3) := by decide +kernel
theorem dJxa1e45_init_da8c8_4 : decode cJxa1e45_init_da8c8 4 = .ok (.return_, 1) := by decide +kernel
theorem dJxc12de_init_da8c8_0 : decode cJxc12de_init_da8c8 0 = .ok (.aload_n 0, 1) := by decide +kernel
theorem dJxc12de_init_da8c8_1 : decode cJxc12de_init_da8c8 1 = .ok (.invokespecial 1, 3) := by decide +kernel
theorem dJxc12de_init_da8c8_4 : decode cJxc12de_init_da8c8 4 = .ok (.aload_n 0, 1) := by decide +kernel
theorem dJxc12de_init_da8c8_5 : decode cJxc12de_init_da8c8 5 = .ok (.iconst 0, 1) := by decide +kernel
theorem dJxc12de_init_da8c8_6 : decode cJxc12de_init_da8c8 6 = .ok (.putfield 7, 3) := by decide +kernel
theorem dJxc12de_init_da8c8_9 : decode cJxc12de_init_da8c8 9 = .ok (.return_, 1) := by decide +kernel
theorem dJx4a65c_init_da8c8_0 : decode cJx4a65c_init_da8c8 0 = .ok (.aload_n 0, 1) := by decide +kernel
theorem dJx4a65c_init_da8c8_1 : decode cJx4a65c_init_da8c8 1 = .ok (.invokespecial 1, 3) := by decide +kernel
theorem dJx4a65c_init_da8c8_4 : decode cJx4a65c_init_da8c8 4 = .ok (.aload_n 0, 1) := by decide +kernel
theorem dJx4a65c_init_da8c8_5 : decode cJx4a65c_init_da8c8 5 = .ok (.getstatic 39, 3) := by decide +kernel
theorem dJx4a65c_init_da8c8_8 : decode cJx4a65c_init_da8c8 8 = .ok (.putfield 9, 3) := by decide +kernel
theorem dJx4a65c_init_da8c8_11 : decode cJx4a65c_init_da8c8 11 = .ok (.return_, 1) := by decide +kernel
theorem dJx4a65c_grow_92f84_0 : decode cJx4a65c_grow_92f84 0 = .ok (.aload_n 0, 1) := by decide +kernel
theorem dJx4a65c_grow_92f84_1 : decode cJx4a65c_grow_92f84 1 = .ok (.getfield 9, 3) := by decide +kernel
theorem dJx4a65c_grow_92f84_4 : decode cJx4a65c_grow_92f84 4 = .ok (.arraylength, 1) := by decide +kernel
theorem dJx4a65c_grow_92f84_5 : decode cJx4a65c_grow_92f84 5 = .ok (.istore_n 2, 1) := by decide +kernel
theorem dJx4a65c_grow_92f84_6 : decode cJx4a65c_grow_92f84 6 = .ok (.iload_n 2, 1) := by decide +kernel
theorem dJx4a65c_grow_92f84_7 : decode cJx4a65c_grow_92f84 7 = .ok (.ifCond .gt 13, 3) := by decide +kernel
theorem dJx4a65c_grow_92f84_10 : decode cJx4a65c_grow_92f84 10 = .ok (.aload_n 0, 1) := by decide +kernel
theorem dJx4a65c_grow_92f84_11 : decode cJx4a65c_grow_92f84 11 = .ok (.getfield 9, 3) := by decide +kernel
theorem dJx4a65c_grow_92f84_14 : decode cJx4a65c_grow_92f84 14 = .ok (.getstatic 39, 3) := by decide +kernel
theorem dJx4a65c_grow_92f84_17 : decode cJx4a65c_grow_92f84 17 = .ok (.if_acmp .eq 28, 3) := by decide +kernel
theorem dJx4a65c_grow_92f84_20 : decode cJx4a65c_grow_92f84 20 = .ok (.iload_n 2, 1) := by decide +kernel
theorem dJx4a65c_grow_92f84_21 : decode cJx4a65c_grow_92f84 21 = .ok (.iload_n 1, 1) := by decide +kernel
theorem dJx4a65c_grow_92f84_22 : decode cJx4a65c_grow_92f84 22 = .ok (.iload_n 2, 1) := by decide +kernel
theorem dJx4a65c_grow_92f84_23 : decode cJx4a65c_grow_92f84 23 = .ok (.isub, 1) := by decide +kernel
theorem dJx4a65c_grow_92f84_24 : decode cJx4a65c_grow_92f84 24 = .ok (.iload_n 2, 1) := by decide +kernel
theorem dJx4a65c_grow_92f84_25 : decode cJx4a65c_grow_92f84 25 = .ok (.iconst 1, 1) := by decide +kernel
theorem dJx4a65c_grow_92f84_26 : decode cJx4a65c_grow_92f84 26 = .ok (.ishr, 1) := by decide +kernel
theorem dJx4a65c_grow_92f84_27 : decode cJx4a65c_grow_92f84 27 = .ok (.invokestatic 73, 3) := by decide +kernel
theorem dJx4a65c_grow_92f84_30 : decode cJx4a65c_grow_92f84 30 = .ok (.istore_n 3, 1) := by decide +kernel
theorem dJx4a65c_grow_92f84_31 : decode cJx4a65c_grow_92f84 31 = .ok (.aload_n 0, 1) := by decide +kernel
theorem dJx4a65c_grow_92f84_32 : decode cJx4a65c_grow_92f84 32 = .ok (.aload_n 0, 1) := by decide +kernel
theorem dJx4a65c_grow_92f84_33 : decode cJx4a65c_grow_92f84 33 = .ok (.getfield 9, 3) := by decide +kernel
theorem dJx4a65c_grow_92f84_36 : decode cJx4a65c_grow_92f84 36 = .ok (.iload_n 3, 1) := by decide +kernel
theorem dJx4a65c_grow_92f84_37 : decode cJx4a65c_grow_92f84 37 = .ok (.invokestatic 66, 3) := by decide +kernel
theorem dJx4a65c_grow_92f84_40 : decode cJx4a65c_grow_92f84 40 = .ok (.dup_x1, 1) := by decide +kernel
theorem dJx4a65c_grow_92f84_41 : decode cJx4a65c_grow_92f84 41 = .ok (.putfield 9, 3) := by decide +kernel
theorem dJx4a65c_grow_92f84_44 : decode cJx4a65c_grow_92f84 44 = .ok (.areturn, 1) := by decide +kernel
theorem dJx4a65c_grow_92f84_45 : decode cJx4a65c_grow_92f84 45 = .ok (.aload_n 0, 1) := by decide +kernel
theorem dJx4a65c_grow_92f84_46 : decode cJx4a65c_grow_92f84 46 = .ok (.bipush 10, 2) := by decide +kernel
theorem dJx4a65c_grow_92f84_48 : decode cJx4a65c_grow_92f84 48 = .ok (.iload_n 1, 1) := by decide +kernel
theorem dJx4a65c_grow_92f84_49 : decode cJx4a65c_grow_92f84 49 = .ok (.invokestatic 79, 3) := by decide +kernel
theorem dJx4a65c_grow_92f84_52 : decode cJx4a65c_grow_92f84 52 = .ok (.anewarray 7, 3) := by decide +kernel
theorem dJx4a65c_grow_92f84_55 : decode cJx4a65c_grow_92f84 55 = .ok (.dup_x1, 1) := by decide +kernel
theorem dJx4a65c_grow_92f84_56 : decode cJx4a65c_grow_92f84 56 = .ok (.putfield 9, 3) := by decide +kernel
theorem dJx4a65c_grow_92f84_59 : decode cJx4a65c_grow_92f84 59 = .ok (.areturn, 1) := by decide +kernel
theorem dJx4a65c_grow_d5877_0 : decode cJx4a65c_grow_d5877 0 = .ok (.aload_n 0, 1) := by decide +kernel
theorem dJx4a65c_grow_d5877_1 : decode cJx4a65c_grow_d5877 1 = .ok (.aload_n 0, 1) := by decide +kernel
theorem dJx4a65c_grow_d5877_2 : decode cJx4a65c_grow_d5877 2 = .ok (.getfield 48, 3) := by decide +kernel
theorem dJx4a65c_grow_d5877_5 : decode cJx4a65c_grow_d5877 5 = .ok (.iconst 1, 1) := by decide +kernel
theorem dJx4a65c_grow_d5877_6 : decode cJx4a65c_grow_d5877 6 = .ok (.iadd, 1) := by decide +kernel
theorem dJx4a65c_grow_d5877_7 : decode cJx4a65c_grow_d5877 7 = .ok (.invokevirtual 69, 3) := by decide +kernel
theorem dJx4a65c_grow_d5877_10 : decode cJx4a65c_grow_d5877 10 = .ok (.areturn, 1) := by decide +kernel
theorem dJx4a65c_size_8abf5_0 : decode cJx4a65c_size_8abf5 0 = .ok (.aload_n 0, 1) := by decide +kernel
theorem dJx4a65c_size_8abf5_1 : decode cJx4a65c_size_8abf5 1 = .ok (.getfield 48, 3) := by decide +kernel
theorem dJx4a65c_size_8abf5_4 : decode cJx4a65c_size_8abf5 4 = .ok (.ireturn, 1) := by decide +kernel
theorem dJx4a65c_elementData_915e3_0 : decode cJx4a65c_elementData_915e3 0 = .ok (.aload_n 0, 1) := by decide +kernel
theorem dJx4a65c_elementData_915e3_1 : decode cJx4a65c_elementData_915e3 1 = .ok (.getfield 9, 3) := by decide +kernel
theorem dJx4a65c_elementData_915e3_4 : decode cJx4a65c_elementData_915e3 4 = .ok (.iload_n 1, 1) := by decide +kernel
theorem dJx4a65c_elementData_915e3_5 : decode cJx4a65c_elementData_915e3 5 = .ok (.aaload, 1) := by decide +kernel
theorem dJx4a65c_elementData_915e3_6 : decode cJx4a65c_elementData_915e3 6 = .ok (.areturn, 1) := by decide +kernel
theorem dJx4a65c_get_915e3_0 : decode cJx4a65c_get_915e3 0 = .ok (.iload_n 1, 1) := by decide +kernel
theorem dJx4a65c_get_915e3_1 : decode cJx4a65c_get_915e3 1 = .ok (.aload_n 0, 1) := by decide +kernel
theorem dJx4a65c_get_915e3_2 : decode cJx4a65c_get_915e3 2 = .ok (.getfield 48, 3) := by decide +kernel
theorem dJx4a65c_get_915e3_5 : decode cJx4a65c_get_915e3 5 = .ok (.invokestatic 118, 3) := by decide +kernel
theorem dJx4a65c_get_915e3_8 : decode cJx4a65c_get_915e3 8 = .ok (.pop, 1) := by decide +kernel
theorem dJx4a65c_get_915e3_9 : decode cJx4a65c_get_915e3 9 = .ok (.aload_n 0, 1) := by decide +kernel
theorem dJx4a65c_get_915e3_10 : decode cJx4a65c_get_915e3 10 = .ok (.iload_n 1, 1) := by decide +kernel
theorem dJx4a65c_get_915e3_11 : decode cJx4a65c_get_915e3 11 = .ok (.invokevirtual 123, 3) := by decide +kernel
theorem dJx4a65c_get_915e3_14 : decode cJx4a65c_get_915e3 14 = .ok (.areturn, 1) := by decide +kernel
theorem dJx4a65c_add_72be8_0 : decode cJx4a65c_add_72be8 0 = .ok (.iload_n 3, 1) := by decide +kernel
theorem dJx4a65c_add_72be8_1 : decode cJx4a65c_add_72be8 1 = .ok (.aload_n 2, 1) := by decide +kernel
theorem dJx4a65c_add_72be8_2 : decode cJx4a65c_add_72be8 2 = .ok (.arraylength, 1) := by decide +kernel
theorem dJx4a65c_add_72be8_3 : decode cJx4a65c_add_72be8 3 = .ok (.if_icmp .ne 8, 3) := by decide +kernel
theorem dJx4a65c_add_72be8_6 : decode cJx4a65c_add_72be8 6 = .ok (.aload_n 0, 1) := by decide +kernel
theorem dJx4a65c_add_72be8_7 : decode cJx4a65c_add_72be8 7 = .ok (.invokevirtual 129, 3) := by decide +kernel
theorem dJx4a65c_add_72be8_10 : decode cJx4a65c_add_72be8 10 = .ok (.astore_n 2, 1) := by decide +kernel
theorem dJx4a65c_add_72be8_11 : decode cJx4a65c_add_72be8 11 = .ok (.aload_n 2, 1) := by decide +kernel
theorem dJx4a65c_add_72be8_12 : decode cJx4a65c_add_72be8 12 = .ok (.iload_n 3, 1) := by decide +kernel
theorem dJx4a65c_add_72be8_13 : decode cJx4a65c_add_72be8 13 = .ok (.aload_n 1, 1) := by decide +kernel
theorem dJx4a65c_add_72be8_14 : decode cJx4a65c_add_72be8 14 = .ok (.aastore, 1) := by decide +kernel
theorem dJx4a65c_add_72be8_15 : decode cJx4a65c_add_72be8 15 = .ok (.aload_n 0, 1) := by decide +kernel
theorem dJx4a65c_add_72be8_16 : decode cJx4a65c_add_72be8 16 = .ok (.iload_n 3, 1) := by decide +kernel
theorem dJx4a65c_add_72be8_17 : decode cJx4a65c_add_72be8 17 = .ok (.iconst 1, 1) := by decide +kernel
theorem dJx4a65c_add_72be8_18 : decode cJx4a65c_add_72be8 18 = .ok (.iadd, 1) := by decide +kernel
theorem dJx4a65c_add_72be8_19 : decode cJx4a65c_add_72be8 19 = .ok (.putfield 48, 3) := by decide +kernel
theorem dJx4a65c_add_72be8_22 : decode cJx4a65c_add_72be8 22 = .ok (.return_, 1) := by decide +kernel
theorem dJx4a65c_add_9ea2d_0 : decode cJx4a65c_add_9ea2d 0 = .ok (.aload_n 0, 1) := by decide +kernel
theorem dJx4a65c_add_9ea2d_1 : decode cJx4a65c_add_9ea2d 1 = .ok (.dup, 1) := by decide +kernel
theorem dJx4a65c_add_9ea2d_2 : decode cJx4a65c_add_9ea2d 2 = .ok (.getfield 63, 3) := by decide +kernel
theorem dJx4a65c_add_9ea2d_5 : decode cJx4a65c_add_9ea2d 5 = .ok (.iconst 1, 1) := by decide +kernel
theorem dJx4a65c_add_9ea2d_6 : decode cJx4a65c_add_9ea2d 6 = .ok (.iadd, 1) := by decide +kernel
theorem dJx4a65c_add_9ea2d_7 : decode cJx4a65c_add_9ea2d 7 = .ok (.putfield 63, 3) := by decide +kernel
theorem dJx4a65c_add_9ea2d_10 : decode cJx4a65c_add_9ea2d 10 = .ok (.aload_n 0, 1) := by decide +kernel
theorem dJx4a65c_add_9ea2d_11 : decode cJx4a65c_add_9ea2d 11 = .ok (.aload_n 1, 1) := by decide +kernel
theorem dJx4a65c_add_9ea2d_12 : decode cJx4a65c_add_9ea2d 12 = .ok (.aload_n 0, 1) := by decide +kernel
theorem dJx4a65c_add_9ea2d_13 : decode cJx4a65c_add_9ea2d 13 = .ok (.getfield 9, 3) := by decide +kernel
theorem dJx4a65c_add_9ea2d_16 : decode cJx4a65c_add_9ea2d 16 = .ok (.aload_n 0, 1) := by decide +kernel
theorem dJx4a65c_add_9ea2d_17 : decode cJx4a65c_add_9ea2d 17 = .ok (.getfield 48, 3) := by decide +kernel
theorem dJx4a65c_add_9ea2d_20 : decode cJx4a65c_add_9ea2d 20 = .ok (.invokevirtual 131, 3) := by decide +kernel
theorem dJx4a65c_add_9ea2d_23 : decode cJx4a65c_add_9ea2d 23 = .ok (.iconst 1, 1) := by decide +kernel
theorem dJx4a65c_add_9ea2d_24 : decode cJx4a65c_add_9ea2d 24 = .ok (.ireturn, 1) := by decide +kernel
theorem dJ7_copyOf_1904c_0 : decode cJ7_copyOf_1904c 0 = .ok (.aload_n 0, 1) := by decide +kernel
theorem dJ7_copyOf_1904c_1 : decode cJ7_copyOf_1904c 1 = .ok (.iload_n 1, 1) := by decide +kernel
theorem dJ7_copyOf_1904c_2 : decode cJ7_copyOf_1904c 2 = .ok (.aload_n 0, 1) := by decide +kernel
theorem dJ7_copyOf_1904c_3 : decode cJ7_copyOf_1904c 3 = .ok (.invokevirtual 86, 3) := by decide +kernel
theorem dJ7_copyOf_1904c_6 : decode cJ7_copyOf_1904c 6 = .ok (.invokestatic 300, 3) := by decide +kernel
theorem dJ7_copyOf_1904c_9 : decode cJ7_copyOf_1904c 9 = .ok (.areturn, 1) := by decide +kernel
theorem dJ7_copyOf_6403c_0 : decode cJ7_copyOf_6403c 0 = .ok (.aload_n 2, 1) := by decide +kernel
theorem dJ7_copyOf_6403c_1 : decode cJ7_copyOf_6403c 1 = .ok (.ldc 110, 2) := by decide +kernel
theorem dJ7_copyOf_6403c_3 : decode cJ7_copyOf_6403c 3 = .ok (.if_acmp .ne 10, 3) := by decide +kernel
theorem dJ7_copyOf_6403c_6 : decode cJ7_copyOf_6403c 6 = .ok (.iload_n 1, 1) := by decide +kernel
theorem dJ7_copyOf_6403c_7 : decode cJ7_copyOf_6403c 7 = .ok (.anewarray 2, 3) := by decide +kernel
theorem dJ7_copyOf_6403c_10 : decode cJ7_copyOf_6403c 10 = .ok (.goto 14, 3) := by decide +kernel
theorem dJ7_copyOf_6403c_13 : decode cJ7_copyOf_6403c 13 = .ok (.aload_n 2, 1) := by decide +kernel
theorem dJ7_copyOf_6403c_14 : decode cJ7_copyOf_6403c 14 = .ok (.invokevirtual 90, 3) := by decide +kernel
theorem dJ7_copyOf_6403c_17 : decode cJ7_copyOf_6403c 17 = .ok (.iload_n 1, 1) := by decide +kernel
theorem dJ7_copyOf_6403c_18 : decode cJ7_copyOf_6403c 18 = .ok (.invokestatic 95, 3) := by decide +kernel
theorem dJ7_copyOf_6403c_21 : decode cJ7_copyOf_6403c 21 = .ok (.checkcast 110, 3) := by decide +kernel
theorem dJ7_copyOf_6403c_24 : decode cJ7_copyOf_6403c 24 = .ok (.astore_n 3, 1) := by decide +kernel
theorem dJ7_copyOf_6403c_25 : decode cJ7_copyOf_6403c 25 = .ok (.aload_n 0, 1) := by decide +kernel
theorem dJ7_copyOf_6403c_26 : decode cJ7_copyOf_6403c 26 = .ok (.iconst 0, 1) := by decide +kernel
theorem dJ7_copyOf_6403c_27 : decode cJ7_copyOf_6403c 27 = .ok (.aload_n 3, 1) := by decide +kernel
theorem dJ7_copyOf_6403c_28 : decode cJ7_copyOf_6403c 28 = .ok (.iconst 0, 1) := by decide +kernel
theorem dJ7_copyOf_6403c_29 : decode cJ7_copyOf_6403c 29 = .ok (.aload_n 0, 1) := by decide +kernel
theorem dJ7_copyOf_6403c_30 : decode cJ7_copyOf_6403c 30 = .ok (.arraylength, 1) := by decide +kernel
theorem dJ7_copyOf_6403c_31 : decode cJ7_copyOf_6403c 31 = .ok (.iload_n 1, 1) := by decide +kernel
theorem dJ7_copyOf_6403c_32 : decode cJ7_copyOf_6403c 32 = .ok (.invokestatic 304, 3) := by decide +kernel
theorem dJ7_copyOf_6403c_35 : decode cJ7_copyOf_6403c 35 = .ok (.invokestatic 150, 3) := by decide +kernel
theorem dJ7_copyOf_6403c_38 : decode cJ7_copyOf_6403c 38 = .ok (.aload_n 3, 1) := by decide +kernel
theorem dJ7_copyOf_6403c_39 : decode cJ7_copyOf_6403c 39 = .ok (.areturn, 1) := by decide +kernel
theorem dJ15_checkIndex_7cf53_0 : decode cJ15_checkIndex_7cf53 0 = .ok (.iload_n 0, 1) := by decide +kernel
theorem dJ15_checkIndex_7cf53_1 : decode cJ15_checkIndex_7cf53 1 = .ok (.iload_n 1, 1) := by decide +kernel
theorem dJ15_checkIndex_7cf53_2 : decode cJ15_checkIndex_7cf53 2 = .ok (.aconst_null, 1) := by decide +kernel
theorem dJ15_checkIndex_7cf53_3 : decode cJ15_checkIndex_7cf53 3 = .ok (.invokestatic 105, 3) := by decide +kernel
theorem dJ15_checkIndex_7cf53_6 : decode cJ15_checkIndex_7cf53 6 = .ok (.ireturn, 1) := by decide +kernel
theorem dJ8_newLength_cabcc_0 : decode cJ8_newLength_cabcc 0 = .ok (.iload_n 0, 1) := by decide +kernel
theorem dJ8_newLength_cabcc_1 : decode cJ8_newLength_cabcc 1 = .ok (.iload_n 1, 1) := by decide +kernel
theorem dJ8_newLength_cabcc_2 : decode cJ8_newLength_cabcc 2 = .ok (.iload_n 2, 1) := by decide +kernel
theorem dJ8_newLength_cabcc_3 : decode cJ8_newLength_cabcc 3 = .ok (.invokestatic 194, 3) := by decide +kernel
theorem dJ8_newLength_cabcc_6 : decode cJ8_newLength_cabcc 6 = .ok (.iadd, 1) := by decide +kernel
theorem dJ8_newLength_cabcc_7 : decode cJ8_newLength_cabcc 7 = .ok (.istore_n 3, 1) := by decide +kernel
theorem dJ8_newLength_cabcc_8 : decode cJ8_newLength_cabcc 8 = .ok (.iconst 0, 1) := by decide +kernel
theorem dJ8_newLength_cabcc_9 : decode cJ8_newLength_cabcc 9 = .ok (.iload_n 3, 1) := by decide +kernel
theorem dJ8_newLength_cabcc_10 : decode cJ8_newLength_cabcc 10 = .ok (.if_icmp .ge 11, 3) := by decide +kernel
theorem dJ8_newLength_cabcc_13 : decode cJ8_newLength_cabcc 13 = .ok (.iload_n 3, 1) := by decide +kernel
theorem dJ8_newLength_cabcc_14 : decode cJ8_newLength_cabcc 14 = .ok (.ldc 200, 2) := by decide +kernel
theorem dJ8_newLength_cabcc_16 : decode cJ8_newLength_cabcc 16 = .ok (.if_icmp .gt 5, 3) := by decide +kernel
theorem dJ8_newLength_cabcc_19 : decode cJ8_newLength_cabcc 19 = .ok (.iload_n 3, 1) := by decide +kernel
theorem dJ8_newLength_cabcc_20 : decode cJ8_newLength_cabcc 20 = .ok (.ireturn, 1) := by decide +kernel
theorem dJ8_newLength_cabcc_21 : decode cJ8_newLength_cabcc 21 = .ok (.iload_n 0, 1) := by decide +kernel
theorem dJ8_newLength_cabcc_22 : decode cJ8_newLength_cabcc 22 = .ok (.iload_n 1, 1) := by decide +kernel
theorem dJ8_newLength_cabcc_23 : decode cJ8_newLength_cabcc 23 = .ok (.invokestatic 201, 3) := by decide +kernel
theorem dJ8_newLength_cabcc_26 : decode cJ8_newLength_cabcc 26 = .ok (.ireturn, 1) := by decide +kernel
theorem dJ8_hugeLength_7cf53_0 : decode cJ8_hugeLength_7cf53 0 = .ok (.iload_n 0, 1) := by decide +kernel
theorem dJ8_hugeLength_7cf53_1 : decode cJ8_hugeLength_7cf53 1 = .ok (.iload_n 1, 1) := by decide +kernel
theorem dJ8_hugeLength_7cf53_2 : decode cJ8_hugeLength_7cf53 2 = .ok (.iadd, 1) := by decide +kernel
theorem dJ8_hugeLength_7cf53_3 : decode cJ8_hugeLength_7cf53 3 = .ok (.istore_n 2, 1) := by decide +kernel
theorem dJ8_hugeLength_7cf53_4 : decode cJ8_hugeLength_7cf53 4 = .ok (.iload_n 2, 1) := by decide +kernel
theorem dJ8_hugeLength_7cf53_5 : decode cJ8_hugeLength_7cf53 5 = .ok (.ifCond .ge 44, 3) := by decide +kernel
theorem dJ8_hugeLength_7cf53_8 : decode cJ8_hugeLength_7cf53 8 = .ok (.new 204, 3) := by decide +kernel
theorem dJ8_hugeLength_7cf53_11 : decode cJ8_hugeLength_7cf53 11 = .ok (.dup, 1) := by decide +kernel
theorem dJ8_hugeLength_7cf53_12 : decode cJ8_hugeLength_7cf53 12 = .ok (.new 89, 3) := by decide +kernel
theorem dJ8_hugeLength_7cf53_15 : decode cJ8_hugeLength_7cf53 15 = .ok (.dup, 1) := by decide +kernel
theorem dJ8_hugeLength_7cf53_16 : decode cJ8_hugeLength_7cf53 16 = .ok (.invokespecial 91, 3) := by decide +kernel
theorem dJ8_hugeLength_7cf53_19 : decode cJ8_hugeLength_7cf53 19 = .ok (.ldc 206, 2) := by decide +kernel
theorem dJ8_hugeLength_7cf53_21 : decode cJ8_hugeLength_7cf53 21 = .ok (.invokevirtual 94, 3) := by decide +kernel
theorem dJ8_hugeLength_7cf53_24 : decode cJ8_hugeLength_7cf53 24 = .ok (.iload_n 0, 1) := by decide +kernel
theorem dJ8_hugeLength_7cf53_25 : decode cJ8_hugeLength_7cf53 25 = .ok (.invokevirtual 98, 3) := by decide +kernel
theorem dJ8_hugeLength_7cf53_28 : decode cJ8_hugeLength_7cf53 28 = .ok (.ldc 208, 2) := by decide +kernel
theorem dJ8_hugeLength_7cf53_30 : decode cJ8_hugeLength_7cf53 30 = .ok (.invokevirtual 94, 3) := by decide +kernel
theorem dJ8_hugeLength_7cf53_33 : decode cJ8_hugeLength_7cf53 33 = .ok (.iload_n 1, 1) := by decide +kernel
theorem dJ8_hugeLength_7cf53_34 : decode cJ8_hugeLength_7cf53 34 = .ok (.invokevirtual 98, 3) := by decide +kernel
theorem dJ8_hugeLength_7cf53_37 : decode cJ8_hugeLength_7cf53 37 = .ok (.ldc 210, 2) := by decide +kernel
theorem dJ8_hugeLength_7cf53_39 : decode cJ8_hugeLength_7cf53 39 = .ok (.invokevirtual 94, 3) := by decide +kernel
theorem dJ8_hugeLength_7cf53_42 : decode cJ8_hugeLength_7cf53 42 = .ok (.invokevirtual 101, 3) := by decide +kernel
theorem dJ8_hugeLength_7cf53_45 : decode cJ8_hugeLength_7cf53 45 = .ok (.invokespecial 212, 3) := by decide +kernel
theorem dJ8_hugeLength_7cf53_48 : decode cJ8_hugeLength_7cf53 48 = .ok (.athrow, 1) := by decide +kernel
theorem dJ8_hugeLength_7cf53_49 : decode cJ8_hugeLength_7cf53 49 = .ok (.iload_n 2, 1) := by decide +kernel
theorem dJ8_hugeLength_7cf53_50 : decode cJ8_hugeLength_7cf53 50 = .ok (.ldc 200, 2) := by decide +kernel
theorem dJ8_hugeLength_7cf53_52 : decode cJ8_hugeLength_7cf53 52 = .ok (.if_icmp .gt 6, 3) := by decide +kernel
theorem dJ8_hugeLength_7cf53_55 : decode cJ8_hugeLength_7cf53 55 = .ok (.ldc 200, 2) := by decide +kernel
theorem dJ8_hugeLength_7cf53_57 : decode cJ8_hugeLength_7cf53 57 = .ok (.ireturn, 1) := by decide +kernel
theorem dJ8_hugeLength_7cf53_58 : decode cJ8_hugeLength_7cf53 58 = .ok (.iload_n 2, 1) := by decide +kernel
theorem dJ8_hugeLength_7cf53_59 : decode cJ8_hugeLength_7cf53 59 = .ok (.ireturn, 1) := by decide +kernel
theorem dJ3_checkIndex_8e157_0 : decode cJ3_checkIndex_8e157 0 = .ok (.iload_n 0, 1) := by decide +kernel
theorem dJ3_checkIndex_8e157_1 : decode cJ3_checkIndex_8e157 1 = .ok (.ifCond .lt 8, 3) := by decide +kernel
theorem dJ3_checkIndex_8e157_4 : decode cJ3_checkIndex_8e157 4 = .ok (.iload_n 0, 1) := by decide +kernel
theorem dJ3_checkIndex_8e157_5 : decode cJ3_checkIndex_8e157 5 = .ok (.iload_n 1, 1) := by decide +kernel
theorem dJ3_checkIndex_8e157_6 : decode cJ3_checkIndex_8e157 6 = .ok (.if_icmp .lt 10, 3) := by decide +kernel
theorem dJ3_checkIndex_8e157_9 : decode cJ3_checkIndex_8e157 9 = .ok (.aload_n 2, 1) := by decide +kernel
theorem dJ3_checkIndex_8e157_10 : decode cJ3_checkIndex_8e157 10 = .ok (.iload_n 0, 1) := by decide +kernel
theorem dJ3_checkIndex_8e157_11 : decode cJ3_checkIndex_8e157 11 = .ok (.iload_n 1, 1) := by decide +kernel
theorem dJ3_checkIndex_8e157_12 : decode cJ3_checkIndex_8e157 12 = .ok (.invokestatic 95, 3) := by decide +kernel
theorem dJ3_checkIndex_8e157_15 : decode cJ3_checkIndex_8e157 15 = .ok (.athrow, 1) := by decide +kernel
theorem dJ3_checkIndex_8e157_16 : decode cJ3_checkIndex_8e157 16 = .ok (.iload_n 0, 1) := by decide +kernel
theorem dJ3_checkIndex_8e157_17 : decode cJ3_checkIndex_8e157 17 = .ok (.ireturn, 1) := by decide +kernel
theorem dL_below_0 : decode cL_below 0 = .ok (.iload_n 0, 1) := by decide +kernel
theorem dL_below_1 : decode cL_below 1 = .ok (.ldc 7, 2) := by decide +kernel
theorem dL_below_3 : decode cL_below 3 = .ok (.iand, 1) := by decide +kernel
theorem dL_below_4 : decode cL_below 4 = .ok (.iload_n 1, 1) := by decide +kernel
theorem dL_below_5 : decode cL_below 5 = .ok (.irem, 1) := by decide +kernel
theorem dL_below_6 : decode cL_below 6 = .ok (.ireturn, 1) := by decide +kernel
theorem dL_cell_0 : decode cL_cell 0 = .ok (.iload_n 1, 1) := by decide +kernel
theorem dL_cell_1 : decode cL_cell 1 = .ok (.aload_n 0, 1) := by decide +kernel
theorem dL_cell_2 : decode cL_cell 2 = .ok (.arraylength, 1) := by decide +kernel
theorem dL_cell_3 : decode cL_cell 3 = .ok (.if_icmp .ge 9, 3) := by decide +kernel
theorem dL_cell_6 : decode cL_cell 6 = .ok (.aload_n 0, 1) := by decide +kernel
theorem dL_cell_7 : decode cL_cell 7 = .ok (.iload_n 1, 1) := by decide +kernel
theorem dL_cell_8 : decode cL_cell 8 = .ok (.iaload, 1) := by decide +kernel
theorem dL_cell_9 : decode cL_cell 9 = .ok (.goto 9, 3) := by decide +kernel
theorem dL_cell_12 : decode cL_cell 12 = .ok (.ldc 8, 2) := by decide +kernel
theorem dL_cell_14 : decode cL_cell 14 = .ok (.iload_n 1, 1) := by decide +kernel
theorem dL_cell_15 : decode cL_cell 15 = .ok (.iconst 3, 1) := by decide +kernel
theorem dL_cell_16 : decode cL_cell 16 = .ok (.iadd, 1) := by decide +kernel
theorem dL_cell_17 : decode cL_cell 17 = .ok (.imul, 1) := by decide +kernel
theorem dL_cell_18 : decode cL_cell 18 = .ok (.ireturn, 1) := by decide +kernel
theorem dL_law_0 : decode cL_law 0 = .ok (.new 9, 3) := by decide +kernel
theorem dL_law_3 : decode cL_law 3 = .ok (.dup, 1) := by decide +kernel
theorem dL_law_4 : decode cL_law 4 = .ok (.invokespecial 11, 3) := by decide +kernel
theorem dL_law_7 : decode cL_law 7 = .ok (.astore_n 1, 1) := by decide +kernel
theorem dL_law_8 : decode cL_law 8 = .ok (.aload_n 1, 1) := by decide +kernel
theorem dL_law_9 : decode cL_law 9 = .ok (.iconst 1, 1) := by decide +kernel
theorem dL_law_10 : decode cL_law 10 = .ok (.aload_n 0, 1) := by decide +kernel
theorem dL_law_11 : decode cL_law 11 = .ok (.iconst 0, 1) := by decide +kernel
theorem dL_law_12 : decode cL_law 12 = .ok (.invokestatic 12, 3) := by decide +kernel
theorem dL_law_15 : decode cL_law 15 = .ok (.bipush 30, 2) := by decide +kernel
theorem dL_law_17 : decode cL_law 17 = .ok (.invokestatic 18, 3) := by decide +kernel
theorem dL_law_20 : decode cL_law 20 = .ok (.iadd, 1) := by decide +kernel
theorem dL_law_21 : decode cL_law 21 = .ok (.bipush 100, 2) := by decide +kernel
theorem dL_law_23 : decode cL_law 23 = .ok (.invokevirtual 22, 3) := by decide +kernel
theorem dL_law_26 : decode cL_law 26 = .ok (.pop, 1) := by decide +kernel
theorem dL_law_27 : decode cL_law 27 = .ok (.aload_n 1, 1) := by decide +kernel
theorem dL_law_28 : decode cL_law 28 = .ok (.iconst 1, 1) := by decide +kernel
theorem dL_law_29 : decode cL_law 29 = .ok (.aload_n 0, 1) := by decide +kernel
theorem dL_law_30 : decode cL_law 30 = .ok (.iconst 0, 1) := by decide +kernel
theorem dL_law_31 : decode cL_law 31 = .ok (.invokestatic 12, 3) := by decide +kernel
theorem dL_law_34 : decode cL_law 34 = .ok (.iconst 5, 1) := by decide +kernel
theorem dL_law_35 : decode cL_law 35 = .ok (.ishr, 1) := by decide +kernel
theorem dL_law_36 : decode cL_law 36 = .ok (.bipush 30, 2) := by decide +kernel
theorem dL_law_38 : decode cL_law 38 = .ok (.invokestatic 18, 3) := by decide +kernel
theorem dL_law_41 : decode cL_law 41 = .ok (.iadd, 1) := by decide +kernel
theorem dL_law_42 : decode cL_law 42 = .ok (.bipush 90, 2) := by decide +kernel
theorem dL_law_44 : decode cL_law 44 = .ok (.invokevirtual 22, 3) := by decide +kernel
theorem dL_law_47 : decode cL_law 47 = .ok (.pop, 1) := by decide +kernel
theorem dL_law_48 : decode cL_law 48 = .ok (.aload_n 1, 1) := by decide +kernel
theorem dL_law_49 : decode cL_law 49 = .ok (.iconst 5, 1) := by decide +kernel
theorem dL_law_50 : decode cL_law 50 = .ok (.invokevirtual 25, 3) := by decide +kernel
theorem dL_law_53 : decode cL_law 53 = .ok (.pop, 1) := by decide +kernel
theorem dL_law_54 : decode cL_law 54 = .ok (.iconst 2, 1) := by decide +kernel
theorem dL_law_55 : decode cL_law 55 = .ok (.aload_n 0, 1) := by decide +kernel
theorem dL_law_56 : decode cL_law 56 = .ok (.iconst 1, 1) := by decide +kernel
theorem dL_law_57 : decode cL_law 57 = .ok (.invokestatic 12, 3) := by decide +kernel
theorem dL_law_60 : decode cL_law 60 = .ok (.iconst 3, 1) := by decide +kernel
theorem dL_law_61 : decode cL_law 61 = .ok (.invokestatic 18, 3) := by decide +kernel
theorem dL_law_64 : decode cL_law 64 = .ok (.iadd, 1) := by decide +kernel
theorem dL_law_65 : decode cL_law 65 = .ok (.istore_n 2, 1) := by decide +kernel
theorem dL_law_66 : decode cL_law 66 = .ok (.bipush 20, 2) := by decide +kernel
theorem dL_law_68 : decode cL_law 68 = .ok (.aload_n 0, 1) := by decide +kernel
theorem dL_law_69 : decode cL_law 69 = .ok (.iconst 2, 1) := by decide +kernel
theorem dL_law_70 : decode cL_law 70 = .ok (.invokestatic 12, 3) := by decide +kernel
theorem dL_law_73 : decode cL_law 73 = .ok (.sipush 180, 3) := by decide +kernel
theorem dL_law_76 : decode cL_law 76 = .ok (.invokestatic 18, 3) := by decide +kernel
theorem dL_law_79 : decode cL_law 79 = .ok (.iadd, 1) := by decide +kernel
theorem dL_law_80 : decode cL_law 80 = .ok (.istore_n 3, 1) := by decide +kernel
theorem dL_law_81 : decode cL_law 81 = .ok (.aload_n 1, 1) := by decide +kernel
theorem dL_law_82 : decode cL_law 82 = .ok (.iload_n 2, 1) := by decide +kernel
theorem dL_law_83 : decode cL_law 83 = .ok (.iload_n 3, 1) := by decide +kernel
theorem dL_law_84 : decode cL_law 84 = .ok (.invokevirtual 29, 3) := by decide +kernel
theorem dL_law_87 : decode cL_law 87 = .ok (.pop, 1) := by decide +kernel
theorem dL_law_88 : decode cL_law 88 = .ok (.iconst 0, 1) := by decide +kernel
theorem dL_law_89 : decode cL_law 89 = .ok (.istore 4, 2) := by decide +kernel
theorem dL_law_91 : decode cL_law 91 = .ok (.iload 4, 2) := by decide +kernel
theorem dL_law_93 : decode cL_law 93 = .ok (.bipush 60, 2) := by decide +kernel
theorem dL_law_95 : decode cL_law 95 = .ok (.if_icmp .ge 198, 3) := by decide +kernel
theorem dL_law_98 : decode cL_law 98 = .ok (.aload_n 0, 1) := by decide +kernel
theorem dL_law_99 : decode cL_law 99 = .ok (.iconst 3, 1) := by decide +kernel
theorem dL_law_100 : decode cL_law 100 = .ok (.iload 4, 2) := by decide +kernel
theorem dL_law_102 : decode cL_law 102 = .ok (.bipush 26, 2) := by decide +kernel
theorem dL_law_104 : decode cL_law 104 = .ok (.irem, 1) := by decide +kernel
theorem dL_law_105 : decode cL_law 105 = .ok (.iadd, 1) := by decide +kernel
theorem dL_law_106 : decode cL_law 106 = .ok (.invokestatic 12, 3) := by decide +kernel
theorem dL_law_109 : decode cL_law 109 = .ok (.iload 4, 2) := by decide +kernel
theorem dL_law_111 : decode cL_law 111 = .ok (.bipush 26, 2) := by decide +kernel
theorem dL_law_113 : decode cL_law 113 = .ok (.idiv, 1) := by decide +kernel
theorem dL_law_114 : decode cL_law 114 = .ok (.bipush 6, 2) := by decide +kernel
theorem dL_law_116 : decode cL_law 116 = .ok (.imul, 1) := by decide +kernel
theorem dL_law_117 : decode cL_law 117 = .ok (.ishr, 1) := by decide +kernel
theorem dL_law_118 : decode cL_law 118 = .ok (.istore 5, 2) := by decide +kernel
theorem dL_law_120 : decode cL_law 120 = .ok (.aload_n 1, 1) := by decide +kernel
theorem dL_law_121 : decode cL_law 121 = .ok (.iconst 4, 1) := by decide +kernel
theorem dL_law_122 : decode cL_law 122 = .ok (.invokevirtual 32, 3) := by decide +kernel
theorem dL_law_125 : decode cL_law 125 = .ok (.istore 6, 2) := by decide +kernel
theorem dL_law_127 : decode cL_law 127 = .ok (.aload_n 1, 1) := by decide +kernel
theorem dL_law_128 : decode cL_law 128 = .ok (.bipush 7, 2) := by decide +kernel
theorem dL_law_130 : decode cL_law 130 = .ok (.invokevirtual 32, 3) := by decide +kernel
theorem dL_law_133 : decode cL_law 133 = .ok (.istore 7, 2) := by decide +kernel
theorem dL_law_135 : decode cL_law 135 = .ok (.aload_n 1, 1) := by decide +kernel
